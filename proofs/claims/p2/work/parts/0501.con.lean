set_option maxHeartbeats 4000000 in
set_option maxRecDepth 100000 in
theorem kt13_X1_isTold (l : Launch) (G : KG) (tag : Nat → Nat) (L : List Nat) (F : Nat → va_E) (ho : okT G ttC tag L F) (p0 : Nat) (p1 : Int32) (p2 : Int32) (m0 : p0 ∈ L) (g0 : tag p0 = 18) (h1 : 0 ≤ p1.toInt ∧ p1.toInt ≤ 5) (h2 : 0 ≤ p2.toInt ∧ p2.toInt ≤ 5) : TMi l yX1_isTold cX1_isTold 3 (some .boolean) { frames := 0, cells := 0, slots := 0, locals := 0 } G ttC tag L F [.ref p0, .int p1, .int p2] (fun r F1 => F1 = F ∧ (0 ≤ r.toInt ∧ r.toInt ≤ 1)) := by
  refine t_bodyi (y := yX1_isTold) (cd := cX1_isTold) (mL := 3) (rt := (some .boolean)) (rm := { frames := 0, cells := 0, slots := 0, locals := 0 }) (av := [.ref p0, .int p1, .int p2]) (by decide) (Nat.le_of_ble_eq_true rfl) ho ?_
  intro p e s m args below meth c ls A Q hQ X hT hl
  have hx := X.1.1
  have hb := X.1.2.1
  have hl : lv_has ls 3 [(0, .ref p0), (1, .int p1), (2, .int p2)] := hl
  have K28 : ∀  (H : Heap) (locs : List Loc) (ls : Array Slot), TH G ttC A s tag L F H locs → lv_has ls 3 [(0, .ref p0), (1, .int p1), (2, .int p2)] → W p l e { frames := 0, cells := 0, slots := 0, locals := 0 } s m args below meth c H locs 0 0 Q (F0 m 28 ls []) := by
    intro H locs ls hT hl
    refine lv_iconst (v := 1) hx hb dX1_isTold_28 (by decide) ?_
    refine lv_goto (tgt := 33) hx hb dX1_isTold_29 (by decide) ?_
    exact t_zret hQ X hT (by decide) (⟨rfl, (by decide)⟩) (Nat.le_of_ble_eq_true rfl) (Nat.le_of_ble_eq_true rfl) dX1_isTold_33
  refine lv_aload_n hx hb dX1_isTold_0 rfl (lv_at hl 0 rfl) ?_
  refine t_get (C := RX1) (T := TX1) (N := 20) X hT m0 g0 rfl rfl 17 (by decide) qw_56 inlX1 rfl dX1_isTold_1 (fun v1533 hv1533 ov1533 => ?_)
  obtain ⟨b1534, rfl, mb1534, gb1534⟩ := okV_r ov1533
  have gb1534 : tag b1534 = 7 := by simpa using gb1534
  refine lv_iload_n hx hb dX1_isTold_4 rfl (lv_at hl 2 rfl) ?_
  refine t_ild X hT mb1534 gb1534 rfl (by omega) dX1_isTold_5 (fun z1535 vz1535 rz1535 => ?_)
  have rz1535 : (-2147483648) ≤ z1535.toInt ∧ z1535.toInt ≤ 2147483647 := rz1535
  refine lv_iload_n hx hb dX1_isTold_6 rfl (lv_at hl 1 rfl) ?_
  refine lv_ishr hx hb dX1_isTold_7 ?_
  refine lv_topi (fun z1536 ez1536 => ?_)
  have rz1536 := rg_all z1536
  refine lv_iconst (v := 1) hx hb dX1_isTold_8 (by decide) ?_
  refine lv_iand hx hb dX1_isTold_9 ?_
  refine lv_topi (fun z1537 ez1537 => ?_)
  have rz1537 : 0 ≤ z1537.toInt ∧ z1537.toInt ≤ 1 := ar_and ez1537 1 (by decide) (by decide)
  refine lv_iconst (v := 1) hx hb dX1_isTold_10 (by decide) ?_
  refine lv_icmp_eq (tgt := 28) hx hb dX1_isTold_11 (by decide) (fun c1538 => ?_) (fun c1538 => ?_)
  · have w1539 := cv_eq (rfl : z1537.toInt = z1537.toInt) (by decide : (1 : Int32).toInt = 1) c1538
    exact K28  _ _ _  hT  (lv_sub hl [0, 1, 2] rfl)
  · have w1540 := cv_ne (rfl : z1537.toInt = z1537.toInt) (by decide : (1 : Int32).toInt = 1) c1538
    refine lv_aload_n hx hb dX1_isTold_14 rfl (lv_at hl 0 rfl) ?_
    refine t_get (C := RX1) (T := TX1) (N := 20) X hT m0 g0 rfl rfl 17 (by decide) qw_56 inlX1 rfl dX1_isTold_15 (fun v1541 hv1541 ov1541 => ?_)
    obtain rfl : v1541 = .ref b1534 := hv1541.symm.trans hv1533
    refine lv_iload_n hx hb dX1_isTold_18 rfl (lv_at hl 1 rfl) ?_
    refine t_ild X hT mb1534 gb1534 rfl (by omega) dX1_isTold_19 (fun z1542 vz1542 rz1542 => ?_)
    have rz1542 : (-2147483648) ≤ z1542.toInt ∧ z1542.toInt ≤ 2147483647 := rz1542
    refine lv_iload_n hx hb dX1_isTold_20 rfl (lv_at hl 2 rfl) ?_
    refine lv_ishr hx hb dX1_isTold_21 ?_
    refine lv_topi (fun z1543 ez1543 => ?_)
    have rz1543 := rg_all z1543
    refine lv_iconst (v := 1) hx hb dX1_isTold_22 (by decide) ?_
    refine lv_iand hx hb dX1_isTold_23 ?_
    refine lv_topi (fun z1544 ez1544 => ?_)
    have rz1544 : 0 ≤ z1544.toInt ∧ z1544.toInt ≤ 1 := ar_and ez1544 1 (by decide) (by decide)
    refine lv_iconst (v := 1) hx hb dX1_isTold_24 (by decide) ?_
    refine lv_icmp_ne (tgt := 32) hx hb dX1_isTold_25 (by decide) (fun c1545 => ?_) (fun c1545 => ?_)
    · have w1546 := cv_ne (rfl : z1544.toInt = z1544.toInt) (by decide : (1 : Int32).toInt = 1) c1545
      refine lv_iconst (v := 0) hx hb dX1_isTold_32 (by decide) ?_
      exact t_zret hQ X hT (by decide) (⟨rfl, (by decide)⟩) (Nat.le_of_ble_eq_true rfl) (Nat.le_of_ble_eq_true rfl) dX1_isTold_33
    · have w1547 := cv_eq (rfl : z1544.toInt = z1544.toInt) (by decide : (1 : Int32).toInt = 1) c1545
      exact K28  _ _ _  hT  (lv_sub hl [0, 1, 2] rfl)
set_option maxHeartbeats 4000000 in
set_option maxRecDepth 100000 in
theorem kt14_X7_clear (l : Launch) (G : KG) (tag : Nat → Nat) (L : List Nat) (F : Nat → va_E) (ho : okT G ttC tag L F) (p0 : Nat) (m0 : p0 ∈ L) (g0 : tag p0 = 19) : TMv l yX7_clear cX7_clear 2 { frames := 0, cells := 0, slots := 0, locals := 0 } G ttC tag L F [.ref p0] (fun _ => True) := by
  refine t_bodyv (y := yX7_clear) (cd := cX7_clear) (mL := 2) (rm := { frames := 0, cells := 0, slots := 0, locals := 0 }) (av := [.ref p0]) (by decide) (Nat.le_of_ble_eq_true rfl) ho ?_
  intro p e s m args below meth c ls A Q hQ X hT hl
  have hx := X.1.1
  have hb := X.1.2.1
  have hl : lv_has ls 2 [(0, .ref p0)] := hl
  have K12 : ∀ (n : Nat) (z1620 : Int32) (z1621 : Int32) (z1622 : Int32) (F : Nat → va_E) (H : Heap) (locs : List Loc) (ls : Array Slot), (4 - z1620.toInt < (n : Int)) → (0 ≤ z1620.toInt ∧ z1620.toInt ≤ 4) → (0 ≤ z1621.toInt ∧ z1621.toInt ≤ 0) → (0 ≤ z1622.toInt ∧ z1622.toInt ≤ 0) → TH G ttC A s tag L F H locs → fld F p0 0 = .int z1621 → fld F p0 1 = .int z1622 → lv_has ls 2 [(0, .ref p0), (1, .int z1620)] → W p l e { frames := 0, cells := 0, slots := 0, locals := 0 } s m args below meth c H locs 0 0 Q (F0 m 12 ls []) := by
    intro n
    induction n with
    | zero =>
      intro z1620 z1621 z1622 F H locs ls hn rz1620 rz1621 rz1622 hT qz1621 qz1622 hl
      exfalso
      omega
    | succ n ih12 =>
      intro z1620 z1621 z1622 F H locs ls hn rz1620 rz1621 rz1622 hT qz1621 qz1622 hl
      refine lv_iload_n hx hb dX7_clear_12 rfl (lv_at hl 1 rfl) ?_
      refine lv_iconst (v := 4) hx hb dX7_clear_13 (by decide) ?_
      refine lv_icmp_ge (tgt := 30) hx hb dX7_clear_14 (by decide) (fun c1623 => ?_) (fun c1623 => ?_)
      · have w1624 := cv_le (by decide : (4 : Int32).toInt = 4) (rfl : z1620.toInt = z1620.toInt) c1623
        exact t_vret hQ X hT trivial (Nat.le_of_ble_eq_true rfl) (Nat.le_of_ble_eq_true rfl) dX7_clear_30
      · have w1625 := cv_nle (by decide : (4 : Int32).toInt = 4) (rfl : z1620.toInt = z1620.toInt) c1623
        refine lv_aload_n hx hb dX7_clear_17 rfl (lv_at hl 0 rfl) ?_
        refine t_get (C := RX7) (T := TX7) (N := 7) X hT m0 g0 rfl rfl 2 (by decide) qw_62 inlX7 rfl dX7_clear_18 (fun v1626 hv1626 ov1626 => ?_)
        obtain ⟨b1627, rfl, mb1627, gb1627⟩ := okV_r ov1626
        have gb1627 : tag b1627 = 8 := by simpa using gb1627
        refine lv_iload_n hx hb dX7_clear_21 rfl (lv_at hl 1 rfl) ?_
        refine lv_iconst (v := 0) hx hb dX7_clear_22 (by decide) ?_
        refine t_ist X hT mb1627 gb1627 rfl (by omega) (show 0 ≤ (0).toInt ∧ (0).toInt ≤ 6 from (by decide)) dX7_clear_23 (fun F H locs hT v1628 h1v1628 h2v1628 => ?_)
        have qz1621 := (h2v1628 _ _).trans qz1621
        have qz1622 := (h2v1628 _ _).trans qz1622
        have hv1626 := (h2v1628 _ _).trans hv1626
        obtain ⟨z1629, ez1629⟩ : ∃ y : Int32, y = z1620 + 1 := ⟨_, rfl⟩
        have hz1629 : z1629.toInt = z1620.toInt + 1 := ar_add ez1629 rfl (by decide : (1 : Int32).toInt = 1) (by omega) (by omega)
        refine lv_iinc (v := z1629) (lv' := [(1, .int z1629), (0, .ref p0)]) hx hb dX7_clear_24 hl (k := 1) rfl (by rw [ez1629]; rfl) (by decide) rfl (fun ls hl => ?_)
        refine lv_goto (tgt := 12) hx hb dX7_clear_27 (by decide) ?_
        exact ih12 z1629 z1621 z1622 _ _ _ _ (by omega) (by omega) (by omega) (by omega) hT qz1621 qz1622 (lv_sub hl [1, 0] rfl)
  refine lv_aload_n hx hb dX7_clear_0 rfl (lv_at hl 0 rfl) ?_
  refine lv_iconst (v := 0) hx hb dX7_clear_1 (by decide) ?_
  refine t_put (C := RX7) (T := TX7) (N := 7) (v := .int 0) X hT m0 g0 rfl tyX7 tyX7_ok nmX7 rfl 0 (by decide) qw_187 inlX7 rfl (by first | rfl | decide) (by first | rfl | decide) rfl (⟨_, rfl, (by decide), (by decide)⟩) dX7_clear_2 (fun F H locs hT v1630 h1v1630 h2v1630 => ?_)
  refine lv_aload_n hx hb dX7_clear_5 rfl (lv_at hl 0 rfl) ?_
  refine lv_iconst (v := 0) hx hb dX7_clear_6 (by decide) ?_
  refine t_put (C := RX7) (T := TX7) (N := 7) (v := .int 0) X hT m0 g0 rfl tyX7 tyX7_ok nmX7 rfl 1 (by decide) qw_188 inlX7 rfl (by first | rfl | decide) (by first | rfl | decide) rfl (⟨_, rfl, (by decide), (by decide)⟩) dX7_clear_7 (fun F H locs hT v1631 h1v1631 h2v1631 => ?_)
  have v1630 := (h1v1631 _ _ (Or.inr (by decide))).trans v1630
  refine lv_iconst (v := 0) hx hb dX7_clear_10 (by decide) ?_
  refine lv_istore_n (lv' := [(1, .int 0), (0, .ref p0)]) hx hb dX7_clear_11 rfl hl (by decide) rfl (fun ls hl => ?_)
  have kk1632 : (0 : Int32).toInt = 0 := by decide
  exact K12 5 0 0 0 _ _ _ _ (by omega) (by decide) (by decide) (by decide) hT v1630 v1631 (lv_sub hl [1, 0] rfl)
set_option maxHeartbeats 4000000 in
set_option maxRecDepth 100000 in
theorem kt15_X7_partOf (l : Launch) (G : KG) (tag : Nat → Nat) (L : List Nat) (F : Nat → va_E) (ho : okT G ttC tag L F) (p0 : Nat) (p1 : Int32) (p2 : Int32) (p3 : Int32) (m0 : p0 ∈ L) (g0 : tag p0 = 19) : TMi l yX7_partOf cX7_partOf 5 (some .int) { frames := 0, cells := 0, slots := 0, locals := 0 } G ttC tag L F [.ref p0, .int p1, .int p2, .int p3] (fun r F1 => F1 = F ∧ ((-2147483648) ≤ r.toInt ∧ r.toInt ≤ 2147483647)) := by
  refine t_bodyi (y := yX7_partOf) (cd := cX7_partOf) (mL := 5) (rt := (some .int)) (rm := { frames := 0, cells := 0, slots := 0, locals := 0 }) (av := [.ref p0, .int p1, .int p2, .int p3]) (by decide) (Nat.le_of_ble_eq_true rfl) ho ?_
  intro p e s m args below meth c ls A Q hQ X hT hl
  have hx := X.1.1
  have hb := X.1.2.1
  have hl : lv_has ls 5 [(0, .ref p0), (1, .int p1), (2, .int p2), (3, .int p3)] := hl
  refine lv_iload_n hx hb dX7_partOf_0 rfl (lv_at hl 1 rfl) ?_
  refine lv_bipush (v := 6) hx hb dX7_partOf_1 (by decide) ?_
  refine lv_imul hx hb dX7_partOf_3 ?_
  refine lv_topi (fun z1697 ez1697 => ?_)
  have rz1697 := rg_all z1697
  refine lv_iload_n hx hb dX7_partOf_4 rfl (lv_at hl 2 rfl) ?_
  refine lv_iadd hx hb dX7_partOf_5 ?_
  refine lv_topi (fun z1698 ez1698 => ?_)
  have rz1698 := rg_all z1698
  refine lv_iconst (v := 1) hx hb dX7_partOf_6 (by decide) ?_
  refine lv_isub hx hb dX7_partOf_7 ?_
  refine lv_topi (fun z1699 ez1699 => ?_)
  have rz1699 := rg_all z1699
  refine lv_bipush (v := 8) hx hb dX7_partOf_8 (by decide) ?_
  refine lv_imul hx hb dX7_partOf_10 ?_
  refine lv_topi (fun z1700 ez1700 => ?_)
  have rz1700 := rg_all z1700
  refine lv_iload_n hx hb dX7_partOf_11 rfl (lv_at hl 3 rfl) ?_
  refine lv_iadd hx hb dX7_partOf_12 ?_
  refine lv_topi (fun z1701 ez1701 => ?_)
  have rz1701 := rg_all z1701
  refine lv_istore (lv' := [(4, .int z1701), (0, .ref p0), (1, .int p1), (2, .int p2), (3, .int p3)]) hx hb dX7_partOf_13 hl (by decide) rfl (fun ls hl => ?_)
  refine lv_iload hx hb dX7_partOf_15 (lv_at hl 0 rfl) ?_
  refine lv_if_lt (tgt := 40) hx hb dX7_partOf_17 (by decide) (fun c1702 => ?_) (fun c1702 => ?_)
  · have w1703 := cv_lt (rfl : z1701.toInt = z1701.toInt) (by decide : (0 : Int32).toInt = 0) c1702
    refine lv_iconst (v := 0) hx hb dX7_partOf_40 (by decide) ?_
    exact t_iret hQ X hT (⟨rfl, rg_all _⟩) (Nat.le_of_ble_eq_true rfl) (Nat.le_of_ble_eq_true rfl) dX7_partOf_41
  · have w1704 := cv_nlt (rfl : z1701.toInt = z1701.toInt) (by decide : (0 : Int32).toInt = 0) c1702
    refine lv_iload hx hb dX7_partOf_20 (lv_at hl 0 rfl) ?_
    refine lv_aload_n hx hb dX7_partOf_22 rfl (lv_at hl 1 rfl) ?_
    refine t_get (C := RX7) (T := TX7) (N := 7) X hT m0 g0 rfl rfl 6 (by decide) qw_66 inlX7 rfl dX7_partOf_23 (fun v1705 hv1705 ov1705 => ?_)
    obtain ⟨b1706, rfl, mb1706, gb1706⟩ := okV_r ov1705
    have gb1706 : tag b1706 = 9 := by simpa using gb1706
    refine t_alen X hT mb1706 gb1706 rfl (by decide) dX7_partOf_26 ?_
    refine lv_topi (fun z1707 ez1707 => ?_)
    obtain rfl : z1707 = 192 := ez1707.trans (by rfl)
    refine lv_icmp_ge (tgt := 40) hx hb dX7_partOf_27 (by decide) (fun c1708 => ?_) (fun c1708 => ?_)
    · have w1709 := cv_le (by decide : (192 : Int32).toInt = 192) (rfl : z1701.toInt = z1701.toInt) c1708
      refine lv_iconst (v := 0) hx hb dX7_partOf_40 (by decide) ?_
      exact t_iret hQ X hT (⟨rfl, rg_all _⟩) (Nat.le_of_ble_eq_true rfl) (Nat.le_of_ble_eq_true rfl) dX7_partOf_41
    · have w1710 := cv_nle (by decide : (192 : Int32).toInt = 192) (rfl : z1701.toInt = z1701.toInt) c1708
      refine lv_aload_n hx hb dX7_partOf_30 rfl (lv_at hl 1 rfl) ?_
      refine t_get (C := RX7) (T := TX7) (N := 7) X hT m0 g0 rfl rfl 6 (by decide) qw_66 inlX7 rfl dX7_partOf_31 (fun v1711 hv1711 ov1711 => ?_)
      obtain rfl : v1711 = .ref b1706 := hv1711.symm.trans hv1705
      refine lv_iload hx hb dX7_partOf_34 (lv_at hl 0 rfl) ?_
      refine t_ild X hT mb1706 gb1706 rfl (by omega) dX7_partOf_36 (fun z1712 vz1712 rz1712 => ?_)
      have rz1712 : (-2147483648) ≤ z1712.toInt ∧ z1712.toInt ≤ 2147483647 := rz1712
      refine lv_goto (tgt := 41) hx hb dX7_partOf_37 (by decide) ?_
      exact t_iret hQ X hT (⟨rfl, rg_all _⟩) (Nat.le_of_ble_eq_true rfl) (Nat.le_of_ble_eq_true rfl) dX7_partOf_41
set_option maxHeartbeats 4000000 in
set_option maxRecDepth 100000 in
theorem kt16_X7_setPart (l : Launch) (G : KG) (tag : Nat → Nat) (L : List Nat) (F : Nat → va_E) (ho : okT G ttC tag L F) (p0 : Nat) (p1 : Int32) (p2 : Int32) (p3 : Int32) (p4 : Int32) (m0 : p0 ∈ L) (g0 : tag p0 = 19) : TMv l yX7_setPart cX7_setPart 6 { frames := 0, cells := 0, slots := 0, locals := 0 } G ttC tag L F [.ref p0, .int p1, .int p2, .int p3, .int p4] (fun _ => True) := by
  refine t_bodyv (y := yX7_setPart) (cd := cX7_setPart) (mL := 6) (rm := { frames := 0, cells := 0, slots := 0, locals := 0 }) (av := [.ref p0, .int p1, .int p2, .int p3, .int p4]) (by decide) (Nat.le_of_ble_eq_true rfl) ho ?_
  intro p e s m args below meth c ls A Q hQ X hT hl
  have hx := X.1.1
  have hb := X.1.2.1
  have hl : lv_has ls 6 [(0, .ref p0), (1, .int p1), (2, .int p2), (3, .int p3), (4, .int p4)] := hl
  refine lv_iload_n hx hb dX7_setPart_0 rfl (lv_at hl 1 rfl) ?_
  refine lv_bipush (v := 6) hx hb dX7_setPart_1 (by decide) ?_
  refine lv_imul hx hb dX7_setPart_3 ?_
  refine lv_topi (fun z1777 ez1777 => ?_)
  have rz1777 := rg_all z1777
  refine lv_iload_n hx hb dX7_setPart_4 rfl (lv_at hl 2 rfl) ?_
  refine lv_iadd hx hb dX7_setPart_5 ?_
  refine lv_topi (fun z1778 ez1778 => ?_)
  have rz1778 := rg_all z1778
  refine lv_iconst (v := 1) hx hb dX7_setPart_6 (by decide) ?_
  refine lv_isub hx hb dX7_setPart_7 ?_
  refine lv_topi (fun z1779 ez1779 => ?_)
  have rz1779 := rg_all z1779
  refine lv_bipush (v := 8) hx hb dX7_setPart_8 (by decide) ?_
  refine lv_imul hx hb dX7_setPart_10 ?_
  refine lv_topi (fun z1780 ez1780 => ?_)
  have rz1780 := rg_all z1780
  refine lv_iload_n hx hb dX7_setPart_11 rfl (lv_at hl 3 rfl) ?_
  refine lv_iadd hx hb dX7_setPart_12 ?_
  refine lv_topi (fun z1781 ez1781 => ?_)
  have rz1781 := rg_all z1781
  refine lv_istore (lv' := [(5, .int z1781), (0, .ref p0), (1, .int p1), (2, .int p2), (3, .int p3), (4, .int p4)]) hx hb dX7_setPart_13 hl (by decide) rfl (fun ls hl => ?_)
  refine lv_iload hx hb dX7_setPart_15 (lv_at hl 0 rfl) ?_
  refine lv_if_lt (tgt := 39) hx hb dX7_setPart_17 (by decide) (fun c1782 => ?_) (fun c1782 => ?_)
  · have w1783 := cv_lt (rfl : z1781.toInt = z1781.toInt) (by decide : (0 : Int32).toInt = 0) c1782
    exact t_vret hQ X hT trivial (Nat.le_of_ble_eq_true rfl) (Nat.le_of_ble_eq_true rfl) dX7_setPart_39
  · have w1784 := cv_nlt (rfl : z1781.toInt = z1781.toInt) (by decide : (0 : Int32).toInt = 0) c1782
    refine lv_iload hx hb dX7_setPart_20 (lv_at hl 0 rfl) ?_
    refine lv_aload_n hx hb dX7_setPart_22 rfl (lv_at hl 1 rfl) ?_
    refine t_get (C := RX7) (T := TX7) (N := 7) X hT m0 g0 rfl rfl 6 (by decide) qw_66 inlX7 rfl dX7_setPart_23 (fun v1785 hv1785 ov1785 => ?_)
    obtain ⟨b1786, rfl, mb1786, gb1786⟩ := okV_r ov1785
    have gb1786 : tag b1786 = 9 := by simpa using gb1786
    refine t_alen X hT mb1786 gb1786 rfl (by decide) dX7_setPart_26 ?_
    refine lv_topi (fun z1787 ez1787 => ?_)
    obtain rfl : z1787 = 192 := ez1787.trans (by rfl)
    refine lv_icmp_ge (tgt := 39) hx hb dX7_setPart_27 (by decide) (fun c1788 => ?_) (fun c1788 => ?_)
    · have w1789 := cv_le (by decide : (192 : Int32).toInt = 192) (rfl : z1781.toInt = z1781.toInt) c1788
      exact t_vret hQ X hT trivial (Nat.le_of_ble_eq_true rfl) (Nat.le_of_ble_eq_true rfl) dX7_setPart_39
    · have w1790 := cv_nle (by decide : (192 : Int32).toInt = 192) (rfl : z1781.toInt = z1781.toInt) c1788
      refine lv_aload_n hx hb dX7_setPart_30 rfl (lv_at hl 1 rfl) ?_
      refine t_get (C := RX7) (T := TX7) (N := 7) X hT m0 g0 rfl rfl 6 (by decide) qw_66 inlX7 rfl dX7_setPart_31 (fun v1791 hv1791 ov1791 => ?_)
      obtain rfl : v1791 = .ref b1786 := hv1791.symm.trans hv1785
      refine lv_iload hx hb dX7_setPart_34 (lv_at hl 0 rfl) ?_
      refine lv_iload hx hb dX7_setPart_36 (lv_at hl 5 rfl) ?_
      refine t_ist X hT mb1786 gb1786 rfl (by omega) (show (-2147483648) ≤ (p4).toInt ∧ (p4).toInt ≤ 2147483647 from (by omega)) dX7_setPart_38 (fun F H locs hT v1792 h1v1792 h2v1792 => ?_)
      have hv1785 := (h2v1792 _ _).trans hv1785
      exact t_vret hQ X hT trivial (Nat.le_of_ble_eq_true rfl) (Nat.le_of_ble_eq_true rfl) dX7_setPart_39
set_option maxHeartbeats 4000000 in
set_option maxRecDepth 100000 in
theorem kt17_X7_setPart (l : Launch) (G : KG) (tag : Nat → Nat) (L : List Nat) (F : Nat → va_E) (ho : okT G ttC tag L F) (p0 : Nat) (p1 : Int32) (p2 : Int32) (p3 : Int32) (p4 : Int32) (m0 : p0 ∈ L) (g0 : tag p0 = 19) : TMv l yX7_setPart cX7_setPart 6 { frames := 0, cells := 0, slots := 0, locals := 0 } G ttC tag L F [.ref p0, .int p1, .int p2, .int p3, .int p4] (fun _ => True) := by
  refine t_bodyv (y := yX7_setPart) (cd := cX7_setPart) (mL := 6) (rm := { frames := 0, cells := 0, slots := 0, locals := 0 }) (av := [.ref p0, .int p1, .int p2, .int p3, .int p4]) (by decide) (Nat.le_of_ble_eq_true rfl) ho ?_
  intro p e s m args below meth c ls A Q hQ X hT hl
  have hx := X.1.1
  have hb := X.1.2.1
  have hl : lv_has ls 6 [(0, .ref p0), (1, .int p1), (2, .int p2), (3, .int p3), (4, .int p4)] := hl
  refine lv_iload_n hx hb dX7_setPart_0 rfl (lv_at hl 1 rfl) ?_
  refine lv_bipush (v := 6) hx hb dX7_setPart_1 (by decide) ?_
  refine lv_imul hx hb dX7_setPart_3 ?_
  refine lv_topi (fun z1868 ez1868 => ?_)
  have rz1868 := rg_all z1868
  refine lv_iload_n hx hb dX7_setPart_4 rfl (lv_at hl 2 rfl) ?_
  refine lv_iadd hx hb dX7_setPart_5 ?_
  refine lv_topi (fun z1869 ez1869 => ?_)
  have rz1869 := rg_all z1869
  refine lv_iconst (v := 1) hx hb dX7_setPart_6 (by decide) ?_
  refine lv_isub hx hb dX7_setPart_7 ?_
  refine lv_topi (fun z1870 ez1870 => ?_)
  have rz1870 := rg_all z1870
  refine lv_bipush (v := 8) hx hb dX7_setPart_8 (by decide) ?_
  refine lv_imul hx hb dX7_setPart_10 ?_
  refine lv_topi (fun z1871 ez1871 => ?_)
  have rz1871 := rg_all z1871
  refine lv_iload_n hx hb dX7_setPart_11 rfl (lv_at hl 3 rfl) ?_
  refine lv_iadd hx hb dX7_setPart_12 ?_
  refine lv_topi (fun z1872 ez1872 => ?_)
  have rz1872 := rg_all z1872
  refine lv_istore (lv' := [(5, .int z1872), (0, .ref p0), (1, .int p1), (2, .int p2), (3, .int p3), (4, .int p4)]) hx hb dX7_setPart_13 hl (by decide) rfl (fun ls hl => ?_)
  refine lv_iload hx hb dX7_setPart_15 (lv_at hl 0 rfl) ?_
  refine lv_if_lt (tgt := 39) hx hb dX7_setPart_17 (by decide) (fun c1873 => ?_) (fun c1873 => ?_)
  · have w1874 := cv_lt (rfl : z1872.toInt = z1872.toInt) (by decide : (0 : Int32).toInt = 0) c1873
    exact t_vret hQ X hT trivial (Nat.le_of_ble_eq_true rfl) (Nat.le_of_ble_eq_true rfl) dX7_setPart_39
  · have w1875 := cv_nlt (rfl : z1872.toInt = z1872.toInt) (by decide : (0 : Int32).toInt = 0) c1873
    refine lv_iload hx hb dX7_setPart_20 (lv_at hl 0 rfl) ?_
    refine lv_aload_n hx hb dX7_setPart_22 rfl (lv_at hl 1 rfl) ?_
    refine t_get (C := RX7) (T := TX7) (N := 7) X hT m0 g0 rfl rfl 6 (by decide) qw_66 inlX7 rfl dX7_setPart_23 (fun v1876 hv1876 ov1876 => ?_)
    obtain ⟨b1877, rfl, mb1877, gb1877⟩ := okV_r ov1876
    have gb1877 : tag b1877 = 9 := by simpa using gb1877
    refine t_alen X hT mb1877 gb1877 rfl (by decide) dX7_setPart_26 ?_
    refine lv_topi (fun z1878 ez1878 => ?_)
    obtain rfl : z1878 = 192 := ez1878.trans (by rfl)
    refine lv_icmp_ge (tgt := 39) hx hb dX7_setPart_27 (by decide) (fun c1879 => ?_) (fun c1879 => ?_)
    · have w1880 := cv_le (by decide : (192 : Int32).toInt = 192) (rfl : z1872.toInt = z1872.toInt) c1879
      exact t_vret hQ X hT trivial (Nat.le_of_ble_eq_true rfl) (Nat.le_of_ble_eq_true rfl) dX7_setPart_39
    · have w1881 := cv_nle (by decide : (192 : Int32).toInt = 192) (rfl : z1872.toInt = z1872.toInt) c1879
      refine lv_aload_n hx hb dX7_setPart_30 rfl (lv_at hl 1 rfl) ?_
      refine t_get (C := RX7) (T := TX7) (N := 7) X hT m0 g0 rfl rfl 6 (by decide) qw_66 inlX7 rfl dX7_setPart_31 (fun v1882 hv1882 ov1882 => ?_)
      obtain rfl : v1882 = .ref b1877 := hv1882.symm.trans hv1876
      refine lv_iload hx hb dX7_setPart_34 (lv_at hl 0 rfl) ?_
      refine lv_iload hx hb dX7_setPart_36 (lv_at hl 5 rfl) ?_
      refine t_ist X hT mb1877 gb1877 rfl (by omega) (show (-2147483648) ≤ (p4).toInt ∧ (p4).toInt ≤ 2147483647 from (by omega)) dX7_setPart_38 (fun F H locs hT v1883 h1v1883 h2v1883 => ?_)
      have hv1876 := (h2v1883 _ _).trans hv1876
      exact t_vret hQ X hT trivial (Nat.le_of_ble_eq_true rfl) (Nat.le_of_ble_eq_true rfl) dX7_setPart_39
set_option maxHeartbeats 4000000 in
set_option maxRecDepth 100000 in
theorem kt18_X7_addSkin (l : Launch) (G : KG) (tag : Nat → Nat) (L : List Nat) (F : Nat → va_E) (ho : okT G ttC tag L F) (p0 : Nat) (p1 : Int32) (p2 : Int32) (p3 : Int32) (p4 : Int32) (p5 : Int32) (p6 : Int32) (m0 : p0 ∈ L) (g0 : tag p0 = 19) (h1 : 0 ≤ p1.toInt ∧ p1.toInt ≤ 3) : TMv l yX7_addSkin cX7_addSkin 8 { frames := 1, cells := 0, slots := 0, locals := 25 } G ttC tag L F [.ref p0, .int p1, .int p2, .int p3, .int p4, .int p5, .int p6] (fun _ => True) := by
  refine t_bodyv (y := yX7_addSkin) (cd := cX7_addSkin) (mL := 8) (rm := { frames := 1, cells := 0, slots := 0, locals := 25 }) (av := [.ref p0, .int p1, .int p2, .int p3, .int p4, .int p5, .int p6]) (by decide) (Nat.le_of_ble_eq_true rfl) ho ?_
  intro p e s m args below meth c ls A Q hQ X hT hl
  have hx := X.1.1
  have hb := X.1.2.1
  have hl : lv_has ls 8 [(0, .ref p0), (1, .int p1), (2, .int p2), (3, .int p3), (4, .int p4), (5, .int p5), (6, .int p6)] := hl
  refine lv_aload_n hx hb dX7_addSkin_0 rfl (lv_at hl 0 rfl) ?_
  refine t_get (C := RX7) (T := TX7) (N := 7) X hT m0 g0 rfl rfl 2 (by decide) qw_62 inlX7 rfl dX7_addSkin_1 (fun v1953 hv1953 ov1953 => ?_)
  obtain ⟨b1954, rfl, mb1954, gb1954⟩ := okV_r ov1953
  have gb1954 : tag b1954 = 8 := by simpa using gb1954
  refine lv_iload_n hx hb dX7_addSkin_4 rfl (lv_at hl 1 rfl) ?_
  refine t_ild X hT mb1954 gb1954 rfl (by omega) dX7_addSkin_5 (fun z1955 vz1955 rz1955 => ?_)
  have rz1955 : 0 ≤ z1955.toInt ∧ z1955.toInt ≤ 6 := rz1955
  refine lv_bipush (v := 6) hx hb dX7_addSkin_6 (by decide) ?_
  refine lv_icmp_lt (tgt := 12) hx hb dX7_addSkin_8 (by decide) (fun c1956 => ?_) (fun c1956 => ?_)
  · have w1957 := cv_lt (rfl : z1955.toInt = z1955.toInt) (by decide : (6 : Int32).toInt = 6) c1956
    refine lv_aload_n hx hb dX7_addSkin_12 rfl (lv_at hl 0 rfl) ?_
    refine t_get (C := RX7) (T := TX7) (N := 7) X hT m0 g0 rfl rfl 2 (by decide) qw_62 inlX7 rfl dX7_addSkin_13 (fun v1958 hv1958 ov1958 => ?_)
    obtain rfl : v1958 = .ref b1954 := hv1958.symm.trans hv1953
    refine lv_iload_n hx hb dX7_addSkin_16 rfl (lv_at hl 1 rfl) ?_
    refine lv_dup2_11 hx hb dX7_addSkin_17 rfl rfl ?_
    refine t_ild X hT mb1954 gb1954 rfl (by omega) dX7_addSkin_18 (fun z1959 vz1959 rz1959 => ?_)
    obtain rfl : z1959 = z1955 := vz1959.symm.trans vz1955
    refine lv_iconst (v := 1) hx hb dX7_addSkin_19 (by decide) ?_
    refine lv_iadd hx hb dX7_addSkin_20 ?_
    refine lv_topi (fun z1960 ez1960 => ?_)
    have hz1960 : z1960.toInt = z1955.toInt + 1 := ar_add ez1960 (rfl : z1955.toInt = z1955.toInt) (by decide : (1 : Int32).toInt = 1) (by omega) (by omega)
    have rz1960 : 1 ≤ z1960.toInt ∧ z1960.toInt ≤ 6 := by omega
    refine t_ist X hT mb1954 gb1954 rfl (by omega) (show 0 ≤ (z1960).toInt ∧ (z1960).toInt ≤ 6 from (by omega)) dX7_addSkin_21 (fun F H locs hT v1961 h1v1961 h2v1961 => ?_)
    have hv1953 := (h2v1961 _ _).trans hv1953
    refine lv_aload_n hx hb dX7_addSkin_22 rfl (lv_at hl 0 rfl) ?_
    refine t_get (C := RX7) (T := TX7) (N := 7) X hT m0 g0 rfl rfl 2 (by decide) qw_62 inlX7 rfl dX7_addSkin_23 (fun v1962 hv1962 ov1962 => ?_)
    obtain rfl : v1962 = .ref b1954 := hv1962.symm.trans hv1953
    refine lv_iload_n hx hb dX7_addSkin_26 rfl (lv_at hl 1 rfl) ?_
    refine t_ild X hT mb1954 gb1954 rfl (by omega) dX7_addSkin_27 (fun z1963 vz1963 rz1963 => ?_)
    obtain rfl : z1963 = z1960 := vz1963.symm.trans v1961
    refine lv_istore (lv' := [(7, .int z1960), (0, .ref p0), (1, .int p1), (2, .int p2), (3, .int p3), (4, .int p4), (5, .int p5), (6, .int p6)]) hx hb dX7_addSkin_28 hl (by decide) rfl (fun ls hl => ?_)
    refine lv_aload_n hx hb dX7_addSkin_30 rfl (lv_at hl 1 rfl) ?_
    refine lv_iload_n hx hb dX7_addSkin_31 rfl (lv_at hl 2 rfl) ?_
    refine lv_iload hx hb dX7_addSkin_32 (lv_at hl 0 rfl) ?_
    refine lv_iconst (v := 0) hx hb dX7_addSkin_34 (by decide) ?_
    refine lv_iload_n hx hb dX7_addSkin_35 rfl (lv_at hl 3 rfl) ?_
    refine t_cVv (n := 4) (C := RX7) (T := TX7) (N := 7) (As := [.int p1, .int z1960, .int 0, .int p2]) (rest := []) X hT (kt17_X7_setPart l G tag L F hT.2.2.2 p0 p1 z1960 0 p2 m0 g0) m0 g0 rfl rfl qw_422 qw_423 qw_424 qw_22 qw_425 ⟨rfl, by decide +kernel, by decide +kernel, by decide +kernel⟩ ⟨Nat.le_of_ble_eq_true rfl, Nat.le_of_ble_eq_true rfl⟩ hl rfl rfl (Nat.le_of_ble_eq_true rfl) dX7_addSkin_36 ⟨Nat.le_of_ble_eq_true rfl, Nat.le_of_ble_eq_true rfl⟩ (fun F H locs hT hz1964 => ?_)
    refine lv_aload_n hx hb dX7_addSkin_39 rfl (lv_at hl 1 rfl) ?_
    refine lv_iload_n hx hb dX7_addSkin_40 rfl (lv_at hl 2 rfl) ?_
    refine lv_iload hx hb dX7_addSkin_41 (lv_at hl 0 rfl) ?_
    refine lv_iconst (v := 1) hx hb dX7_addSkin_43 (by decide) ?_
    refine lv_iload_n hx hb dX7_addSkin_44 rfl (lv_at hl 4 rfl) ?_
    refine t_cVv (n := 4) (C := RX7) (T := TX7) (N := 7) (As := [.int p1, .int z1960, .int 1, .int p3]) (rest := []) X hT (kt17_X7_setPart l G tag L F hT.2.2.2 p0 p1 z1960 1 p3 m0 g0) m0 g0 rfl rfl qw_422 qw_423 qw_424 qw_22 qw_425 ⟨rfl, by decide +kernel, by decide +kernel, by decide +kernel⟩ ⟨Nat.le_of_ble_eq_true rfl, Nat.le_of_ble_eq_true rfl⟩ hl rfl rfl (Nat.le_of_ble_eq_true rfl) dX7_addSkin_45 ⟨Nat.le_of_ble_eq_true rfl, Nat.le_of_ble_eq_true rfl⟩ (fun F H locs hT hz1965 => ?_)
    refine lv_aload_n hx hb dX7_addSkin_48 rfl (lv_at hl 1 rfl) ?_
    refine lv_iload_n hx hb dX7_addSkin_49 rfl (lv_at hl 2 rfl) ?_
    refine lv_iload hx hb dX7_addSkin_50 (lv_at hl 0 rfl) ?_
    refine lv_iconst (v := 2) hx hb dX7_addSkin_52 (by decide) ?_
    refine lv_iload hx hb dX7_addSkin_53 (lv_at hl 5 rfl) ?_
    refine t_cVv (n := 4) (C := RX7) (T := TX7) (N := 7) (As := [.int p1, .int z1960, .int 2, .int p4]) (rest := []) X hT (kt17_X7_setPart l G tag L F hT.2.2.2 p0 p1 z1960 2 p4 m0 g0) m0 g0 rfl rfl qw_422 qw_423 qw_424 qw_22 qw_425 ⟨rfl, by decide +kernel, by decide +kernel, by decide +kernel⟩ ⟨Nat.le_of_ble_eq_true rfl, Nat.le_of_ble_eq_true rfl⟩ hl rfl rfl (Nat.le_of_ble_eq_true rfl) dX7_addSkin_55 ⟨Nat.le_of_ble_eq_true rfl, Nat.le_of_ble_eq_true rfl⟩ (fun F H locs hT hz1966 => ?_)
    refine lv_aload_n hx hb dX7_addSkin_58 rfl (lv_at hl 1 rfl) ?_
    refine lv_iload_n hx hb dX7_addSkin_59 rfl (lv_at hl 2 rfl) ?_
    refine lv_iload hx hb dX7_addSkin_60 (lv_at hl 0 rfl) ?_
    refine lv_iconst (v := 3) hx hb dX7_addSkin_62 (by decide) ?_
    refine lv_iload hx hb dX7_addSkin_63 (lv_at hl 6 rfl) ?_
    refine t_cVv (n := 4) (C := RX7) (T := TX7) (N := 7) (As := [.int p1, .int z1960, .int 3, .int p5]) (rest := []) X hT (kt17_X7_setPart l G tag L F hT.2.2.2 p0 p1 z1960 3 p5 m0 g0) m0 g0 rfl rfl qw_422 qw_423 qw_424 qw_22 qw_425 ⟨rfl, by decide +kernel, by decide +kernel, by decide +kernel⟩ ⟨Nat.le_of_ble_eq_true rfl, Nat.le_of_ble_eq_true rfl⟩ hl rfl rfl (Nat.le_of_ble_eq_true rfl) dX7_addSkin_65 ⟨Nat.le_of_ble_eq_true rfl, Nat.le_of_ble_eq_true rfl⟩ (fun F H locs hT hz1967 => ?_)
    refine lv_aload_n hx hb dX7_addSkin_68 rfl (lv_at hl 1 rfl) ?_
    refine lv_iload_n hx hb dX7_addSkin_69 rfl (lv_at hl 2 rfl) ?_
    refine lv_iload hx hb dX7_addSkin_70 (lv_at hl 0 rfl) ?_
    refine lv_iconst (v := 4) hx hb dX7_addSkin_72 (by decide) ?_
    refine lv_iconst (v := 0) hx hb dX7_addSkin_73 (by decide) ?_
    refine t_cVv (n := 4) (C := RX7) (T := TX7) (N := 7) (As := [.int p1, .int z1960, .int 4, .int 0]) (rest := []) X hT (kt17_X7_setPart l G tag L F hT.2.2.2 p0 p1 z1960 4 0 m0 g0) m0 g0 rfl rfl qw_422 qw_423 qw_424 qw_22 qw_425 ⟨rfl, by decide +kernel, by decide +kernel, by decide +kernel⟩ ⟨Nat.le_of_ble_eq_true rfl, Nat.le_of_ble_eq_true rfl⟩ hl rfl rfl (Nat.le_of_ble_eq_true rfl) dX7_addSkin_74 ⟨Nat.le_of_ble_eq_true rfl, Nat.le_of_ble_eq_true rfl⟩ (fun F H locs hT hz1968 => ?_)
    refine lv_aload_n hx hb dX7_addSkin_77 rfl (lv_at hl 1 rfl) ?_
    refine lv_iload_n hx hb dX7_addSkin_78 rfl (lv_at hl 2 rfl) ?_
    refine lv_iload hx hb dX7_addSkin_79 (lv_at hl 0 rfl) ?_
    refine lv_iconst (v := 5) hx hb dX7_addSkin_81 (by decide) ?_
    refine lv_iconst (v := 0) hx hb dX7_addSkin_82 (by decide) ?_
    refine t_cVv (n := 4) (C := RX7) (T := TX7) (N := 7) (As := [.int p1, .int z1960, .int 5, .int 0]) (rest := []) X hT (kt17_X7_setPart l G tag L F hT.2.2.2 p0 p1 z1960 5 0 m0 g0) m0 g0 rfl rfl qw_422 qw_423 qw_424 qw_22 qw_425 ⟨rfl, by decide +kernel, by decide +kernel, by decide +kernel⟩ ⟨Nat.le_of_ble_eq_true rfl, Nat.le_of_ble_eq_true rfl⟩ hl rfl rfl (Nat.le_of_ble_eq_true rfl) dX7_addSkin_83 ⟨Nat.le_of_ble_eq_true rfl, Nat.le_of_ble_eq_true rfl⟩ (fun F H locs hT hz1969 => ?_)
    refine lv_aload_n hx hb dX7_addSkin_86 rfl (lv_at hl 1 rfl) ?_
    refine lv_iload_n hx hb dX7_addSkin_87 rfl (lv_at hl 2 rfl) ?_
    refine lv_iload hx hb dX7_addSkin_88 (lv_at hl 0 rfl) ?_
    refine lv_bipush (v := 6) hx hb dX7_addSkin_90 (by decide) ?_
    refine lv_iconst (v := 0) hx hb dX7_addSkin_92 (by decide) ?_
    refine t_cVv (n := 4) (C := RX7) (T := TX7) (N := 7) (As := [.int p1, .int z1960, .int 6, .int 0]) (rest := []) X hT (kt17_X7_setPart l G tag L F hT.2.2.2 p0 p1 z1960 6 0 m0 g0) m0 g0 rfl rfl qw_422 qw_423 qw_424 qw_22 qw_425 ⟨rfl, by decide +kernel, by decide +kernel, by decide +kernel⟩ ⟨Nat.le_of_ble_eq_true rfl, Nat.le_of_ble_eq_true rfl⟩ hl rfl rfl (Nat.le_of_ble_eq_true rfl) dX7_addSkin_93 ⟨Nat.le_of_ble_eq_true rfl, Nat.le_of_ble_eq_true rfl⟩ (fun F H locs hT hz1970 => ?_)
    refine lv_aload_n hx hb dX7_addSkin_96 rfl (lv_at hl 1 rfl) ?_
    refine lv_iload_n hx hb dX7_addSkin_97 rfl (lv_at hl 2 rfl) ?_
    refine lv_iload hx hb dX7_addSkin_98 (lv_at hl 0 rfl) ?_
    refine lv_bipush (v := 7) hx hb dX7_addSkin_100 (by decide) ?_
    refine lv_iload hx hb dX7_addSkin_102 (lv_at hl 7 rfl) ?_
    refine t_cVv (n := 4) (C := RX7) (T := TX7) (N := 7) (As := [.int p1, .int z1960, .int 7, .int p6]) (rest := []) X hT (kt17_X7_setPart l G tag L F hT.2.2.2 p0 p1 z1960 7 p6 m0 g0) m0 g0 rfl rfl qw_422 qw_423 qw_424 qw_22 qw_425 ⟨rfl, by decide +kernel, by decide +kernel, by decide +kernel⟩ ⟨Nat.le_of_ble_eq_true rfl, Nat.le_of_ble_eq_true rfl⟩ hl rfl rfl (Nat.le_of_ble_eq_true rfl) dX7_addSkin_104 ⟨Nat.le_of_ble_eq_true rfl, Nat.le_of_ble_eq_true rfl⟩ (fun F H locs hT hz1971 => ?_)
    exact t_vret hQ X hT trivial (Nat.le_of_ble_eq_true rfl) (Nat.le_of_ble_eq_true rfl) dX7_addSkin_107
  · have w1972 := cv_nlt (rfl : z1955.toInt = z1955.toInt) (by decide : (6 : Int32).toInt = 6) c1956
    exact t_vret hQ X hT trivial (Nat.le_of_ble_eq_true rfl) (Nat.le_of_ble_eq_true rfl) dX7_addSkin_11
set_option maxHeartbeats 4000000 in
set_option maxRecDepth 100000 in
theorem kt19_X7_partOf (l : Launch) (G : KG) (tag : Nat → Nat) (L : List Nat) (F : Nat → va_E) (ho : okT G ttC tag L F) (p0 : Nat) (p1 : Int32) (p2 : Int32) (p3 : Int32) (m0 : p0 ∈ L) (g0 : tag p0 = 19) : TMi l yX7_partOf cX7_partOf 5 (some .int) { frames := 0, cells := 0, slots := 0, locals := 0 } G ttC tag L F [.ref p0, .int p1, .int p2, .int p3] (fun r F1 => F1 = F ∧ ((-2147483648) ≤ r.toInt ∧ r.toInt ≤ 2147483647)) := by
  refine t_bodyi (y := yX7_partOf) (cd := cX7_partOf) (mL := 5) (rt := (some .int)) (rm := { frames := 0, cells := 0, slots := 0, locals := 0 }) (av := [.ref p0, .int p1, .int p2, .int p3]) (by decide) (Nat.le_of_ble_eq_true rfl) ho ?_
  intro p e s m args below meth c ls A Q hQ X hT hl
  have hx := X.1.1
  have hb := X.1.2.1
  have hl : lv_has ls 5 [(0, .ref p0), (1, .int p1), (2, .int p2), (3, .int p3)] := hl
  refine lv_iload_n hx hb dX7_partOf_0 rfl (lv_at hl 1 rfl) ?_
  refine lv_bipush (v := 6) hx hb dX7_partOf_1 (by decide) ?_
  refine lv_imul hx hb dX7_partOf_3 ?_
  refine lv_topi (fun z2037 ez2037 => ?_)
  have rz2037 := rg_all z2037
  refine lv_iload_n hx hb dX7_partOf_4 rfl (lv_at hl 2 rfl) ?_
  refine lv_iadd hx hb dX7_partOf_5 ?_
  refine lv_topi (fun z2038 ez2038 => ?_)
  have rz2038 := rg_all z2038
  refine lv_iconst (v := 1) hx hb dX7_partOf_6 (by decide) ?_
  refine lv_isub hx hb dX7_partOf_7 ?_
  refine lv_topi (fun z2039 ez2039 => ?_)
  have rz2039 := rg_all z2039
  refine lv_bipush (v := 8) hx hb dX7_partOf_8 (by decide) ?_
  refine lv_imul hx hb dX7_partOf_10 ?_
  refine lv_topi (fun z2040 ez2040 => ?_)
  have rz2040 := rg_all z2040
  refine lv_iload_n hx hb dX7_partOf_11 rfl (lv_at hl 3 rfl) ?_
  refine lv_iadd hx hb dX7_partOf_12 ?_
  refine lv_topi (fun z2041 ez2041 => ?_)
  have rz2041 := rg_all z2041
  refine lv_istore (lv' := [(4, .int z2041), (0, .ref p0), (1, .int p1), (2, .int p2), (3, .int p3)]) hx hb dX7_partOf_13 hl (by decide) rfl (fun ls hl => ?_)
  refine lv_iload hx hb dX7_partOf_15 (lv_at hl 0 rfl) ?_
  refine lv_if_lt (tgt := 40) hx hb dX7_partOf_17 (by decide) (fun c2042 => ?_) (fun c2042 => ?_)
  · have w2043 := cv_lt (rfl : z2041.toInt = z2041.toInt) (by decide : (0 : Int32).toInt = 0) c2042
    refine lv_iconst (v := 0) hx hb dX7_partOf_40 (by decide) ?_
    exact t_iret hQ X hT (⟨rfl, rg_all _⟩) (Nat.le_of_ble_eq_true rfl) (Nat.le_of_ble_eq_true rfl) dX7_partOf_41
  · have w2044 := cv_nlt (rfl : z2041.toInt = z2041.toInt) (by decide : (0 : Int32).toInt = 0) c2042
    refine lv_iload hx hb dX7_partOf_20 (lv_at hl 0 rfl) ?_
    refine lv_aload_n hx hb dX7_partOf_22 rfl (lv_at hl 1 rfl) ?_
    refine t_get (C := RX7) (T := TX7) (N := 7) X hT m0 g0 rfl rfl 6 (by decide) qw_66 inlX7 rfl dX7_partOf_23 (fun v2045 hv2045 ov2045 => ?_)
    obtain ⟨b2046, rfl, mb2046, gb2046⟩ := okV_r ov2045
    have gb2046 : tag b2046 = 9 := by simpa using gb2046
    refine t_alen X hT mb2046 gb2046 rfl (by decide) dX7_partOf_26 ?_
    refine lv_topi (fun z2047 ez2047 => ?_)
    obtain rfl : z2047 = 192 := ez2047.trans (by rfl)
    refine lv_icmp_ge (tgt := 40) hx hb dX7_partOf_27 (by decide) (fun c2048 => ?_) (fun c2048 => ?_)
    · have w2049 := cv_le (by decide : (192 : Int32).toInt = 192) (rfl : z2041.toInt = z2041.toInt) c2048
      refine lv_iconst (v := 0) hx hb dX7_partOf_40 (by decide) ?_
      exact t_iret hQ X hT (⟨rfl, rg_all _⟩) (Nat.le_of_ble_eq_true rfl) (Nat.le_of_ble_eq_true rfl) dX7_partOf_41
    · have w2050 := cv_nle (by decide : (192 : Int32).toInt = 192) (rfl : z2041.toInt = z2041.toInt) c2048
      refine lv_aload_n hx hb dX7_partOf_30 rfl (lv_at hl 1 rfl) ?_
      refine t_get (C := RX7) (T := TX7) (N := 7) X hT m0 g0 rfl rfl 6 (by decide) qw_66 inlX7 rfl dX7_partOf_31 (fun v2051 hv2051 ov2051 => ?_)
      obtain rfl : v2051 = .ref b2046 := hv2051.symm.trans hv2045
      refine lv_iload hx hb dX7_partOf_34 (lv_at hl 0 rfl) ?_
      refine t_ild X hT mb2046 gb2046 rfl (by omega) dX7_partOf_36 (fun z2052 vz2052 rz2052 => ?_)
      have rz2052 : (-2147483648) ≤ z2052.toInt ∧ z2052.toInt ≤ 2147483647 := rz2052
      refine lv_goto (tgt := 41) hx hb dX7_partOf_37 (by decide) ?_
      exact t_iret hQ X hT (⟨rfl, rg_all _⟩) (Nat.le_of_ble_eq_true rfl) (Nat.le_of_ble_eq_true rfl) dX7_partOf_41
set_option maxHeartbeats 4000000 in
set_option maxRecDepth 100000 in
theorem kt20_X7_stands (l : Launch) (G : KG) (tag : Nat → Nat) (L : List Nat) (F : Nat → va_E) (ho : okT G ttC tag L F) (p0 : Nat) (p1 : Int32) (p2 : Int32) (m0 : p0 ∈ L) (g0 : tag p0 = 19) : TMi l yX7_stands cX7_stands 3 (some .boolean) { frames := 1, cells := 0, slots := 0, locals := 24 } G ttC tag L F [.ref p0, .int p1, .int p2] (fun r F1 => F1 = F ∧ (0 ≤ r.toInt ∧ r.toInt ≤ 1)) := by
  refine t_bodyi (y := yX7_stands) (cd := cX7_stands) (mL := 3) (rt := (some .boolean)) (rm := { frames := 1, cells := 0, slots := 0, locals := 24 }) (av := [.ref p0, .int p1, .int p2]) (by decide) (Nat.le_of_ble_eq_true rfl) ho ?_
  intro p e s m args below meth c ls A Q hQ X hT hl
  have hx := X.1.1
  have hb := X.1.2.1
  have hl : lv_has ls 3 [(0, .ref p0), (1, .int p1), (2, .int p2)] := hl
  refine lv_aload_n hx hb dX7_stands_0 rfl (lv_at hl 0 rfl) ?_
  refine lv_iload_n hx hb dX7_stands_1 rfl (lv_at hl 1 rfl) ?_
  refine lv_iload_n hx hb dX7_stands_2 rfl (lv_at hl 2 rfl) ?_
  refine lv_iconst (v := 5) hx hb dX7_stands_3 (by decide) ?_
  refine t_cVi (n := 3) (C := RX7) (T := TX7) (N := 7) (As := [.int p1, .int p2, .int 5]) (rest := []) X hT (kt19_X7_partOf l G tag L F hT.2.2.2 p0 p1 p2 5 m0 g0) m0 g0 rfl rfl qw_856 qw_778 qw_779 qw_22 qw_780 ⟨rfl, by decide +kernel, by decide +kernel, by decide +kernel⟩ ⟨Nat.le_of_ble_eq_true rfl, Nat.le_of_ble_eq_true rfl⟩ hl rfl rfl (Nat.le_of_ble_eq_true rfl) dX7_stands_4 ⟨Nat.le_of_ble_eq_true rfl, Nat.le_of_ble_eq_true rfl⟩ (fun z2069 F9 H locs hT hz2069 => ?_)
  obtain ⟨fz2069, hz2069⟩ := hz2069
  rw [fz2069] at hT
  refine lv_if_ne (tgt := 14) hx hb dX7_stands_7 (by decide) (fun c2070 => ?_) (fun c2070 => ?_)
  · have w2071 := cv_ne (rfl : z2069.toInt = z2069.toInt) (by decide : (0 : Int32).toInt = 0) c2070
    refine lv_iconst (v := 0) hx hb dX7_stands_14 (by decide) ?_
    exact t_zret hQ X hT (by decide) (⟨rfl, (by decide)⟩) (Nat.le_of_ble_eq_true rfl) (Nat.le_of_ble_eq_true rfl) dX7_stands_15
  · have w2072 := cv_eq (rfl : z2069.toInt = z2069.toInt) (by decide : (0 : Int32).toInt = 0) c2070
    refine lv_iconst (v := 1) hx hb dX7_stands_10 (by decide) ?_
    refine lv_goto (tgt := 15) hx hb dX7_stands_11 (by decide) ?_
    exact t_zret hQ X hT (by decide) (⟨rfl, (by decide)⟩) (Nat.le_of_ble_eq_true rfl) (Nat.le_of_ble_eq_true rfl) dX7_stands_15
set_option maxHeartbeats 4000000 in
set_option maxRecDepth 100000 in
theorem kt21_X7_stands (l : Launch) (G : KG) (tag : Nat → Nat) (L : List Nat) (F : Nat → va_E) (ho : okT G ttC tag L F) (p0 : Nat) (p1 : Int32) (p2 : Int32) (m0 : p0 ∈ L) (g0 : tag p0 = 19) : TMi l yX7_stands cX7_stands 3 (some .boolean) { frames := 1, cells := 0, slots := 0, locals := 24 } G ttC tag L F [.ref p0, .int p1, .int p2] (fun r F1 => F1 = F ∧ (0 ≤ r.toInt ∧ r.toInt ≤ 1)) := by
  refine t_bodyi (y := yX7_stands) (cd := cX7_stands) (mL := 3) (rt := (some .boolean)) (rm := { frames := 1, cells := 0, slots := 0, locals := 24 }) (av := [.ref p0, .int p1, .int p2]) (by decide) (Nat.le_of_ble_eq_true rfl) ho ?_
  intro p e s m args below meth c ls A Q hQ X hT hl
  have hx := X.1.1
  have hb := X.1.2.1
  have hl : lv_has ls 3 [(0, .ref p0), (1, .int p1), (2, .int p2)] := hl
  refine lv_aload_n hx hb dX7_stands_0 rfl (lv_at hl 0 rfl) ?_
  refine lv_iload_n hx hb dX7_stands_1 rfl (lv_at hl 1 rfl) ?_
  refine lv_iload_n hx hb dX7_stands_2 rfl (lv_at hl 2 rfl) ?_
  refine lv_iconst (v := 5) hx hb dX7_stands_3 (by decide) ?_
  refine t_cVi (n := 3) (C := RX7) (T := TX7) (N := 7) (As := [.int p1, .int p2, .int 5]) (rest := []) X hT (kt19_X7_partOf l G tag L F hT.2.2.2 p0 p1 p2 5 m0 g0) m0 g0 rfl rfl qw_856 qw_778 qw_779 qw_22 qw_780 ⟨rfl, by decide +kernel, by decide +kernel, by decide +kernel⟩ ⟨Nat.le_of_ble_eq_true rfl, Nat.le_of_ble_eq_true rfl⟩ hl rfl rfl (Nat.le_of_ble_eq_true rfl) dX7_stands_4 ⟨Nat.le_of_ble_eq_true rfl, Nat.le_of_ble_eq_true rfl⟩ (fun z2089 F9 H locs hT hz2089 => ?_)
  obtain ⟨fz2089, hz2089⟩ := hz2089
  rw [fz2089] at hT
  refine lv_if_ne (tgt := 14) hx hb dX7_stands_7 (by decide) (fun c2090 => ?_) (fun c2090 => ?_)
  · have w2091 := cv_ne (rfl : z2089.toInt = z2089.toInt) (by decide : (0 : Int32).toInt = 0) c2090
    refine lv_iconst (v := 0) hx hb dX7_stands_14 (by decide) ?_
    exact t_zret hQ X hT (by decide) (⟨rfl, (by decide)⟩) (Nat.le_of_ble_eq_true rfl) (Nat.le_of_ble_eq_true rfl) dX7_stands_15
  · have w2092 := cv_eq (rfl : z2089.toInt = z2089.toInt) (by decide : (0 : Int32).toInt = 0) c2090
    refine lv_iconst (v := 1) hx hb dX7_stands_10 (by decide) ?_
    refine lv_goto (tgt := 15) hx hb dX7_stands_11 (by decide) ?_
    exact t_zret hQ X hT (by decide) (⟨rfl, (by decide)⟩) (Nat.le_of_ble_eq_true rfl) (Nat.le_of_ble_eq_true rfl) dX7_stands_15
set_option maxHeartbeats 4000000 in
set_option maxRecDepth 100000 in
theorem kt22_X7_isOpen (l : Launch) (G : KG) (tag : Nat → Nat) (L : List Nat) (F : Nat → va_E) (ho : okT G ttC tag L F) (p0 : Nat) (p1 : Int32) (p2 : Int32) (m0 : p0 ∈ L) (g0 : tag p0 = 19) : TMi l yX7_isOpen cX7_isOpen 3 (some .boolean) { frames := 2, cells := 0, slots := 0, locals := 46 } G ttC tag L F [.ref p0, .int p1, .int p2] (fun r F1 => F1 = F ∧ (0 ≤ r.toInt ∧ r.toInt ≤ 1)) := by
  refine t_bodyi (y := yX7_isOpen) (cd := cX7_isOpen) (mL := 3) (rt := (some .boolean)) (rm := { frames := 2, cells := 0, slots := 0, locals := 46 }) (av := [.ref p0, .int p1, .int p2]) (by decide) (Nat.le_of_ble_eq_true rfl) ho ?_
  intro p e s m args below meth c ls A Q hQ X hT hl
  have hx := X.1.1
  have hb := X.1.2.1
  have hl : lv_has ls 3 [(0, .ref p0), (1, .int p1), (2, .int p2)] := hl
  refine lv_aload_n hx hb dX7_isOpen_0 rfl (lv_at hl 0 rfl) ?_
  refine lv_iload_n hx hb dX7_isOpen_1 rfl (lv_at hl 1 rfl) ?_
  refine lv_iload_n hx hb dX7_isOpen_2 rfl (lv_at hl 2 rfl) ?_
  refine t_cVi (n := 2) (C := RX7) (T := TX7) (N := 7) (As := [.int p1, .int p2]) (rest := []) X hT (kt21_X7_stands l G tag L F hT.2.2.2 p0 p1 p2 m0 g0) m0 g0 rfl rfl qw_987 qw_853 qw_854 qw_22 qw_855 ⟨rfl, by decide +kernel, by decide +kernel, by decide +kernel⟩ ⟨Nat.le_of_ble_eq_true rfl, Nat.le_of_ble_eq_true rfl⟩ hl rfl rfl (Nat.le_of_ble_eq_true rfl) dX7_isOpen_3 ⟨Nat.le_of_ble_eq_true rfl, Nat.le_of_ble_eq_true rfl⟩ (fun z2125 F9 H locs hT hz2125 => ?_)
  obtain ⟨fz2125, hz2125⟩ := hz2125
  rw [fz2125] at hT
  refine lv_if_eq (tgt := 24) hx hb dX7_isOpen_6 (by decide) (fun c2126 => ?_) (fun c2126 => ?_)
  · have w2127 := cv_eq (rfl : z2125.toInt = z2125.toInt) (by decide : (0 : Int32).toInt = 0) c2126
    refine lv_iconst (v := 0) hx hb dX7_isOpen_24 (by decide) ?_
    exact t_zret hQ X hT (by decide) (⟨rfl, (by decide)⟩) (Nat.le_of_ble_eq_true rfl) (Nat.le_of_ble_eq_true rfl) dX7_isOpen_25
  · have w2128 := cv_ne (rfl : z2125.toInt = z2125.toInt) (by decide : (0 : Int32).toInt = 0) c2126
    refine lv_aload_n hx hb dX7_isOpen_9 rfl (lv_at hl 0 rfl) ?_
    refine lv_iload_n hx hb dX7_isOpen_10 rfl (lv_at hl 1 rfl) ?_
    refine lv_iload_n hx hb dX7_isOpen_11 rfl (lv_at hl 2 rfl) ?_
    refine lv_bipush (v := 6) hx hb dX7_isOpen_12 (by decide) ?_
    refine t_cVi (n := 3) (C := RX7) (T := TX7) (N := 7) (As := [.int p1, .int p2, .int 6]) (rest := []) X hT (kt19_X7_partOf l G tag L F hT.2.2.2 p0 p1 p2 6 m0 g0) m0 g0 rfl rfl qw_856 qw_778 qw_779 qw_22 qw_780 ⟨rfl, by decide +kernel, by decide +kernel, by decide +kernel⟩ ⟨Nat.le_of_ble_eq_true rfl, Nat.le_of_ble_eq_true rfl⟩ hl rfl rfl (Nat.le_of_ble_eq_true rfl) dX7_isOpen_14 ⟨Nat.le_of_ble_eq_true rfl, Nat.le_of_ble_eq_true rfl⟩ (fun z2129 F9 H locs hT hz2129 => ?_)
    obtain ⟨fz2129, hz2129⟩ := hz2129
    rw [fz2129] at hT
    refine lv_if_ne (tgt := 24) hx hb dX7_isOpen_17 (by decide) (fun c2130 => ?_) (fun c2130 => ?_)
    · have w2131 := cv_ne (rfl : z2129.toInt = z2129.toInt) (by decide : (0 : Int32).toInt = 0) c2130
      refine lv_iconst (v := 0) hx hb dX7_isOpen_24 (by decide) ?_
      exact t_zret hQ X hT (by decide) (⟨rfl, (by decide)⟩) (Nat.le_of_ble_eq_true rfl) (Nat.le_of_ble_eq_true rfl) dX7_isOpen_25
    · have w2132 := cv_eq (rfl : z2129.toInt = z2129.toInt) (by decide : (0 : Int32).toInt = 0) c2130
      refine lv_iconst (v := 1) hx hb dX7_isOpen_20 (by decide) ?_
      refine lv_goto (tgt := 25) hx hb dX7_isOpen_21 (by decide) ?_
      exact t_zret hQ X hT (by decide) (⟨rfl, (by decide)⟩) (Nat.le_of_ble_eq_true rfl) (Nat.le_of_ble_eq_true rfl) dX7_isOpen_25
set_option maxHeartbeats 4000000 in
set_option maxRecDepth 100000 in
theorem kt23_X7_isCrowded (l : Launch) (G : KG) (tag : Nat → Nat) (L : List Nat) (F : Nat → va_E) (ho : okT G ttC tag L F) (p0 : Nat) (p1 : Int32) (m0 : p0 ∈ L) (g0 : tag p0 = 19) (h1 : 0 ≤ p1.toInt ∧ p1.toInt ≤ 3) : TMi l yX7_isCrowded cX7_isCrowded 3 (some .boolean) { frames := 0, cells := 0, slots := 0, locals := 0 } G ttC tag L F [.ref p0, .int p1] (fun r F1 => F1 = F ∧ (0 ≤ r.toInt ∧ r.toInt ≤ 1)) := by
  refine t_bodyi (y := yX7_isCrowded) (cd := cX7_isCrowded) (mL := 3) (rt := (some .boolean)) (rm := { frames := 0, cells := 0, slots := 0, locals := 0 }) (av := [.ref p0, .int p1]) (by decide) (Nat.le_of_ble_eq_true rfl) ho ?_
  intro p e s m args below meth c ls A Q hQ X hT hl
  have hx := X.1.1
  have hb := X.1.2.1
  have hl : lv_has ls 3 [(0, .ref p0), (1, .int p1)] := hl
  have K22 : ∀ (z2197 : Int32) (H : Heap) (locs : List Loc) (ls : Array Slot), (1 ≤ z2197.toInt ∧ z2197.toInt ≤ 48) → TH G ttC A s tag L F H locs → lv_has ls 3 [(0, .ref p0), (1, .int p1)] → W p l e { frames := 0, cells := 0, slots := 0, locals := 0 } s m args below meth c H locs 0 0 Q (F0 m 22 ls [.int z2197]) := by
    intro z2197 H locs ls rz2197 hT hl
    refine lv_istore_n (lv' := [(2, .int z2197), (0, .ref p0), (1, .int p1)]) hx hb dX7_isCrowded_22 rfl hl (by decide) rfl (fun ls hl => ?_)
    refine lv_aload_n hx hb dX7_isCrowded_23 rfl (lv_at hl 1 rfl) ?_
    refine t_get (C := RX7) (T := TX7) (N := 7) X hT m0 g0 rfl rfl 3 (by decide) qw_63 inlX7 rfl dX7_isCrowded_24 (fun v2198 hv2198 ov2198 => ?_)
    obtain ⟨b2199, rfl, mb2199, gb2199⟩ := okV_r ov2198
    have gb2199 : tag b2199 = 5 := by simpa using gb2199
    refine lv_iload_n hx hb dX7_isCrowded_27 rfl (lv_at hl 2 rfl) ?_
    refine t_ild X hT mb2199 gb2199 rfl (by omega) dX7_isCrowded_28 (fun z2200 vz2200 rz2200 => ?_)
    have rz2200 : (-2147483648) ≤ z2200.toInt ∧ z2200.toInt ≤ 2147483647 := rz2200
    refine lv_iload_n hx hb dX7_isCrowded_29 rfl (lv_at hl 0 rfl) ?_
    refine lv_icmp_le (tgt := 37) hx hb dX7_isCrowded_30 (by decide) (fun c2201 => ?_) (fun c2201 => ?_)
    · have w2202 := cv_le (rfl : z2200.toInt = z2200.toInt) (rfl : z2197.toInt = z2197.toInt) c2201
      refine lv_iconst (v := 0) hx hb dX7_isCrowded_37 (by decide) ?_
      exact t_zret hQ X hT (by decide) (⟨rfl, (by decide)⟩) (Nat.le_of_ble_eq_true rfl) (Nat.le_of_ble_eq_true rfl) dX7_isCrowded_38
    · have w2203 := cv_nle (rfl : z2200.toInt = z2200.toInt) (rfl : z2197.toInt = z2197.toInt) c2201
      refine lv_iconst (v := 1) hx hb dX7_isCrowded_33 (by decide) ?_
      refine lv_goto (tgt := 38) hx hb dX7_isCrowded_34 (by decide) ?_
      exact t_zret hQ X hT (by decide) (⟨rfl, (by decide)⟩) (Nat.le_of_ble_eq_true rfl) (Nat.le_of_ble_eq_true rfl) dX7_isCrowded_38
  refine lv_aload_n hx hb dX7_isCrowded_0 rfl (lv_at hl 0 rfl) ?_
  refine t_get (C := RX7) (T := TX7) (N := 7) X hT m0 g0 rfl rfl 2 (by decide) qw_62 inlX7 rfl dX7_isCrowded_1 (fun v2204 hv2204 ov2204 => ?_)
  obtain ⟨b2205, rfl, mb2205, gb2205⟩ := okV_r ov2204
  have gb2205 : tag b2205 = 8 := by simpa using gb2205
  refine lv_iload_n hx hb dX7_isCrowded_4 rfl (lv_at hl 1 rfl) ?_
  refine t_ild X hT mb2205 gb2205 rfl (by omega) dX7_isCrowded_5 (fun z2206 vz2206 rz2206 => ?_)
  have rz2206 : 0 ≤ z2206.toInt ∧ z2206.toInt ≤ 6 := rz2206
  refine lv_if_ne (tgt := 13) hx hb dX7_isCrowded_6 (by decide) (fun c2207 => ?_) (fun c2207 => ?_)
  · have w2208 := cv_ne (rfl : z2206.toInt = z2206.toInt) (by decide : (0 : Int32).toInt = 0) c2207
    refine lv_bipush (v := 8) hx hb dX7_isCrowded_13 (by decide) ?_
    refine lv_aload_n hx hb dX7_isCrowded_15 rfl (lv_at hl 0 rfl) ?_
    refine t_get (C := RX7) (T := TX7) (N := 7) X hT m0 g0 rfl rfl 2 (by decide) qw_62 inlX7 rfl dX7_isCrowded_16 (fun v2209 hv2209 ov2209 => ?_)
    obtain rfl : v2209 = .ref b2205 := hv2209.symm.trans hv2204
    refine lv_iload_n hx hb dX7_isCrowded_19 rfl (lv_at hl 1 rfl) ?_
    refine t_ild X hT mb2205 gb2205 rfl (by omega) dX7_isCrowded_20 (fun z2210 vz2210 rz2210 => ?_)
    obtain rfl : z2210 = z2206 := vz2210.symm.trans vz2206
    refine lv_imul hx hb dX7_isCrowded_21 ?_
    refine lv_topi (fun z2211 ez2211 => ?_)
    have hz2211 : z2211.toInt = 8 * z2206.toInt := ar_mul ez2211 (by decide : (8 : Int32).toInt = 8) (rfl : z2206.toInt = z2206.toInt) (by omega) (by omega)
    have rz2211 : 8 ≤ z2211.toInt ∧ z2211.toInt ≤ 48 := by omega
    exact K22 z2211 _ _ _ (by omega) hT  (lv_sub hl [0, 1] rfl)
  · have w2212 := cv_eq (rfl : z2206.toInt = z2206.toInt) (by decide : (0 : Int32).toInt = 0) c2207
    refine lv_iconst (v := 1) hx hb dX7_isCrowded_9 (by decide) ?_
    refine lv_goto (tgt := 22) hx hb dX7_isCrowded_10 (by decide) ?_
    exact K22 1 _ _ _ (by decide) hT  (lv_sub hl [0, 1] rfl)
set_option maxHeartbeats 4000000 in
set_option maxRecDepth 100000 in
theorem kt24_X7_inmost (l : Launch) (G : KG) (tag : Nat → Nat) (L : List Nat) (F : Nat → va_E) (ho : okT G ttC tag L F) (p0 : Nat) (p1 : Int32) (m0 : p0 ∈ L) (g0 : tag p0 = 19) (h1 : 0 ≤ p1.toInt ∧ p1.toInt ≤ 3) : TMi l yX7_inmost cX7_inmost 3 (some .int) { frames := 2, cells := 0, slots := 0, locals := 46 } G ttC tag L F [.ref p0, .int p1] (fun r F1 => F1 = F ∧ (0 ≤ r.toInt ∧ r.toInt ≤ 6)) := by
  refine t_bodyi (y := yX7_inmost) (cd := cX7_inmost) (mL := 3) (rt := (some .int)) (rm := { frames := 2, cells := 0, slots := 0, locals := 46 }) (av := [.ref p0, .int p1]) (by decide) (Nat.le_of_ble_eq_true rfl) ho ?_
  intro p e s m args below meth c ls A Q hQ X hT hl
  have hx := X.1.1
  have hb := X.1.2.1
  have hl : lv_has ls 3 [(0, .ref p0), (1, .int p1)] := hl
  have K2 : ∀ (n : Nat) (z2333 : Int32) (H : Heap) (locs : List Loc) (ls : Array Slot), (7 - z2333.toInt < (n : Int)) → (1 ≤ z2333.toInt ∧ z2333.toInt ≤ 7) → TH G ttC A s tag L F H locs → lv_has ls 3 [(0, .ref p0), (1, .int p1), (2, .int z2333)] → W p l e { frames := 2, cells := 0, slots := 0, locals := 46 } s m args below meth c H locs 0 0 Q (F0 m 2 ls []) := by
    intro n
    induction n with
    | zero =>
      intro z2333 H locs ls hn rz2333 hT hl
      exfalso
      omega
    | succ n ih2 =>
      intro z2333 H locs ls hn rz2333 hT hl
      refine lv_iload_n hx hb dX7_inmost_2 rfl (lv_at hl 2 rfl) ?_
      refine lv_aload_n hx hb dX7_inmost_3 rfl (lv_at hl 0 rfl) ?_
      refine t_get (C := RX7) (T := TX7) (N := 7) X hT m0 g0 rfl rfl 2 (by decide) qw_62 inlX7 rfl dX7_inmost_4 (fun v2334 hv2334 ov2334 => ?_)
      obtain ⟨b2335, rfl, mb2335, gb2335⟩ := okV_r ov2334
      have gb2335 : tag b2335 = 8 := by simpa using gb2335
      refine lv_iload_n hx hb dX7_inmost_7 rfl (lv_at hl 1 rfl) ?_
      refine t_ild X hT mb2335 gb2335 rfl (by omega) dX7_inmost_8 (fun z2336 vz2336 rz2336 => ?_)
      have rz2336 : 0 ≤ z2336.toInt ∧ z2336.toInt ≤ 6 := rz2336
      refine lv_icmp_gt (tgt := 29) hx hb dX7_inmost_9 (by decide) (fun c2337 => ?_) (fun c2337 => ?_)
      · have w2338 := cv_lt (rfl : z2336.toInt = z2336.toInt) (rfl : z2333.toInt = z2333.toInt) c2337
        refine lv_iconst (v := 0) hx hb dX7_inmost_29 (by decide) ?_
        exact t_iret hQ X hT (⟨rfl, (by decide)⟩) (Nat.le_of_ble_eq_true rfl) (Nat.le_of_ble_eq_true rfl) dX7_inmost_30
      · have w2339 := cv_nlt (rfl : z2336.toInt = z2336.toInt) (rfl : z2333.toInt = z2333.toInt) c2337
        refine lv_aload_n hx hb dX7_inmost_12 rfl (lv_at hl 0 rfl) ?_
        refine lv_iload_n hx hb dX7_inmost_13 rfl (lv_at hl 1 rfl) ?_
        refine lv_iload_n hx hb dX7_inmost_14 rfl (lv_at hl 2 rfl) ?_
        refine t_cVi (n := 2) (C := RX7) (T := TX7) (N := 7) (As := [.int p1, .int z2333]) (rest := []) X hT (kt21_X7_stands l G tag L F hT.2.2.2 p0 p1 z2333 m0 g0) m0 g0 rfl rfl qw_987 qw_853 qw_854 qw_22 qw_855 ⟨rfl, by decide +kernel, by decide +kernel, by decide +kernel⟩ ⟨Nat.le_of_ble_eq_true rfl, Nat.le_of_ble_eq_true rfl⟩ hl rfl rfl (Nat.le_of_ble_eq_true rfl) dX7_inmost_15 ⟨Nat.le_of_ble_eq_true rfl, Nat.le_of_ble_eq_true rfl⟩ (fun z2340 F9 H locs hT hz2340 => ?_)
        obtain ⟨fz2340, hz2340⟩ := hz2340
        rw [fz2340] at hT
        refine lv_if_eq (tgt := 23) hx hb dX7_inmost_18 (by decide) (fun c2341 => ?_) (fun c2341 => ?_)
        · have w2342 := cv_eq (rfl : z2340.toInt = z2340.toInt) (by decide : (0 : Int32).toInt = 0) c2341
          obtain ⟨z2343, ez2343⟩ : ∃ y : Int32, y = z2333 + 1 := ⟨_, rfl⟩
          have hz2343 : z2343.toInt = z2333.toInt + 1 := ar_add ez2343 rfl (by decide : (1 : Int32).toInt = 1) (by omega) (by omega)
          refine lv_iinc (v := z2343) (lv' := [(2, .int z2343), (0, .ref p0), (1, .int p1)]) hx hb dX7_inmost_23 hl (k := 2) rfl (by rw [ez2343]; rfl) (by decide) rfl (fun ls hl => ?_)
          refine lv_goto (tgt := 2) hx hb dX7_inmost_26 (by decide) ?_
          exact ih2 z2343 _ _ _ (by omega) (by omega) hT  (lv_sub hl [1, 2, 0] rfl)
        · have w2344 := cv_ne (rfl : z2340.toInt = z2340.toInt) (by decide : (0 : Int32).toInt = 0) c2341
          refine lv_iload_n hx hb dX7_inmost_21 rfl (lv_at hl 2 rfl) ?_
          exact t_iret hQ X hT (⟨rfl, (by omega)⟩) (Nat.le_of_ble_eq_true rfl) (Nat.le_of_ble_eq_true rfl) dX7_inmost_22
  refine lv_iconst (v := 1) hx hb dX7_inmost_0 (by decide) ?_
  refine lv_istore_n (lv' := [(2, .int 1), (0, .ref p0), (1, .int p1)]) hx hb dX7_inmost_1 rfl hl (by decide) rfl (fun ls hl => ?_)
  have kk2345 : (1 : Int32).toInt = 1 := by decide
  exact K2 7 1 _ _ _ (by omega) (by decide) hT  (lv_sub hl [1, 2, 0] rfl)
set_option maxHeartbeats 4000000 in
set_option maxRecDepth 100000 in
theorem kt25_X7_fallen (l : Launch) (G : KG) (tag : Nat → Nat) (L : List Nat) (F : Nat → va_E) (ho : okT G ttC tag L F) (p0 : Nat) (p1 : Int32) (m0 : p0 ∈ L) (g0 : tag p0 = 19) (h1 : 0 ≤ p1.toInt ∧ p1.toInt ≤ 3) : TMi l yX7_fallen cX7_fallen 4 (some .int) { frames := 2, cells := 0, slots := 0, locals := 46 } G ttC tag L F [.ref p0, .int p1] (fun r F1 => F1 = F ∧ ((-2147483648) ≤ r.toInt ∧ r.toInt ≤ 2147483647)) := by
  refine t_bodyi (y := yX7_fallen) (cd := cX7_fallen) (mL := 4) (rt := (some .int)) (rm := { frames := 2, cells := 0, slots := 0, locals := 46 }) (av := [.ref p0, .int p1]) (by decide) (Nat.le_of_ble_eq_true rfl) ho ?_
  intro p e s m args below meth c ls A Q hQ X hT hl
  have hx := X.1.1
  have hb := X.1.2.1
  have hl : lv_has ls 4 [(0, .ref p0), (1, .int p1)] := hl
  have K4 : ∀ (n : Nat) (z2806 : Int32) (z2807 : Int32) (H : Heap) (locs : List Loc) (ls : Array Slot), (7 - z2807.toInt < (n : Int)) → (1 ≤ z2807.toInt ∧ z2807.toInt ≤ 7) → TH G ttC A s tag L F H locs → lv_has ls 4 [(0, .ref p0), (1, .int p1), (2, .int z2806), (3, .int z2807)] → W p l e { frames := 2, cells := 0, slots := 0, locals := 46 } s m args below meth c H locs 0 0 Q (F0 m 4 ls []) := by
    intro n
    induction n with
    | zero =>
      intro z2806 z2807 H locs ls hn rz2807 hT hl
      exfalso
      omega
    | succ n ih4 =>
      intro z2806 z2807 H locs ls hn rz2807 hT hl
      have K26 : ∀ (z2808 : Int32) (H : Heap) (locs : List Loc) (ls : Array Slot), TH G ttC A s tag L F H locs → lv_has ls 4 [(0, .ref p0), (1, .int p1), (2, .int z2808), (3, .int z2807)] → W p l e { frames := 2, cells := 0, slots := 0, locals := 46 } s m args below meth c H locs 0 0 Q (F0 m 26 ls []) := by
        intro z2808 H locs ls hT hl
        obtain ⟨z2809, ez2809⟩ : ∃ y : Int32, y = z2807 + 1 := ⟨_, rfl⟩
        have hz2809 : z2809.toInt = z2807.toInt + 1 := ar_add ez2809 rfl (by decide : (1 : Int32).toInt = 1) (by omega) (by omega)
        refine lv_iinc (v := z2809) (lv' := [(3, .int z2809), (0, .ref p0), (1, .int p1), (2, .int z2808)]) hx hb dX7_fallen_26 hl (k := 3) rfl (by rw [ez2809]; rfl) (by decide) rfl (fun ls hl => ?_)
        refine lv_goto (tgt := 4) hx hb dX7_fallen_29 (by decide) ?_
        exact ih4 z2808 z2809 _ _ _ (by omega) (by omega) hT  (lv_sub hl [1, 2, 3, 0] rfl)
      refine lv_iload_n hx hb dX7_fallen_4 rfl (lv_at hl 3 rfl) ?_
      refine lv_aload_n hx hb dX7_fallen_5 rfl (lv_at hl 0 rfl) ?_
      refine t_get (C := RX7) (T := TX7) (N := 7) X hT m0 g0 rfl rfl 2 (by decide) qw_62 inlX7 rfl dX7_fallen_6 (fun v2810 hv2810 ov2810 => ?_)
      obtain ⟨b2811, rfl, mb2811, gb2811⟩ := okV_r ov2810
      have gb2811 : tag b2811 = 8 := by simpa using gb2811
      refine lv_iload_n hx hb dX7_fallen_9 rfl (lv_at hl 1 rfl) ?_
      refine t_ild X hT mb2811 gb2811 rfl (by omega) dX7_fallen_10 (fun z2812 vz2812 rz2812 => ?_)
      have rz2812 : 0 ≤ z2812.toInt ∧ z2812.toInt ≤ 6 := rz2812
      refine lv_icmp_gt (tgt := 32) hx hb dX7_fallen_11 (by decide) (fun c2813 => ?_) (fun c2813 => ?_)
      · have w2814 := cv_lt (rfl : z2812.toInt = z2812.toInt) (rfl : z2807.toInt = z2807.toInt) c2813
        refine lv_iload_n hx hb dX7_fallen_32 rfl (lv_at hl 2 rfl) ?_
        exact t_iret hQ X hT (⟨rfl, rg_all _⟩) (Nat.le_of_ble_eq_true rfl) (Nat.le_of_ble_eq_true rfl) dX7_fallen_33
      · have w2815 := cv_nlt (rfl : z2812.toInt = z2812.toInt) (rfl : z2807.toInt = z2807.toInt) c2813
        refine lv_aload_n hx hb dX7_fallen_14 rfl (lv_at hl 0 rfl) ?_
        refine lv_iload_n hx hb dX7_fallen_15 rfl (lv_at hl 1 rfl) ?_
        refine lv_iload_n hx hb dX7_fallen_16 rfl (lv_at hl 3 rfl) ?_
        refine t_cVi (n := 2) (C := RX7) (T := TX7) (N := 7) (As := [.int p1, .int z2807]) (rest := []) X hT (kt21_X7_stands l G tag L F hT.2.2.2 p0 p1 z2807 m0 g0) m0 g0 rfl rfl qw_987 qw_853 qw_854 qw_22 qw_855 ⟨rfl, by decide +kernel, by decide +kernel, by decide +kernel⟩ ⟨Nat.le_of_ble_eq_true rfl, Nat.le_of_ble_eq_true rfl⟩ hl rfl rfl (Nat.le_of_ble_eq_true rfl) dX7_fallen_17 ⟨Nat.le_of_ble_eq_true rfl, Nat.le_of_ble_eq_true rfl⟩ (fun z2816 F9 H locs hT hz2816 => ?_)
        obtain ⟨fz2816, hz2816⟩ := hz2816
        rw [fz2816] at hT
        refine lv_if_ne (tgt := 26) hx hb dX7_fallen_20 (by decide) (fun c2817 => ?_) (fun c2817 => ?_)
        · have w2818 := cv_ne (rfl : z2816.toInt = z2816.toInt) (by decide : (0 : Int32).toInt = 0) c2817
          exact K26 z2806 _ _ _  hT  (lv_sub hl [0, 1, 2, 3] rfl)
        · have w2819 := cv_eq (rfl : z2816.toInt = z2816.toInt) (by decide : (0 : Int32).toInt = 0) c2817
          obtain ⟨z2820, ez2820⟩ : ∃ y : Int32, y = z2806 + 1 := ⟨_, rfl⟩
          have rz2820 := rg_all z2820
          refine lv_iinc (v := z2820) (lv' := [(2, .int z2820), (0, .ref p0), (1, .int p1), (3, .int z2807)]) hx hb dX7_fallen_23 hl (k := 2) rfl (by rw [ez2820]; rfl) (by decide) rfl (fun ls hl => ?_)
          exact K26 z2820 _ _ _  hT  (lv_sub hl [1, 2, 0, 3] rfl)
  refine lv_iconst (v := 0) hx hb dX7_fallen_0 (by decide) ?_
  refine lv_istore_n (lv' := [(2, .int 0), (0, .ref p0), (1, .int p1)]) hx hb dX7_fallen_1 rfl hl (by decide) rfl (fun ls hl => ?_)
  refine lv_iconst (v := 1) hx hb dX7_fallen_2 (by decide) ?_
  refine lv_istore_n (lv' := [(3, .int 1), (2, .int 0), (0, .ref p0), (1, .int p1)]) hx hb dX7_fallen_3 rfl hl (by decide) rfl (fun ls hl => ?_)
  have kk2821 : (0 : Int32).toInt = 0 := by decide
  have kk2822 : (1 : Int32).toInt = 1 := by decide
  exact K4 7 0 1 _ _ _ (by omega) (by decide) hT  (lv_sub hl [2, 3, 1, 0] rfl)
set_option maxHeartbeats 4000000 in
set_option maxRecDepth 100000 in
theorem kt26_X7_skinsOfAll (l : Launch) (G : KG) (tag : Nat → Nat) (L : List Nat) (F : Nat → va_E) (ho : okT G ttC tag L F) (p0 : Nat) (m0 : p0 ∈ L) (g0 : tag p0 = 19) : TMi l yX7_skinsOfAll cX7_skinsOfAll 3 (some .int) { frames := 0, cells := 0, slots := 0, locals := 0 } G ttC tag L F [.ref p0] (fun r F1 => F1 = F ∧ ((-2147483648) ≤ r.toInt ∧ r.toInt ≤ 2147483647)) := by
  refine t_bodyi (y := yX7_skinsOfAll) (cd := cX7_skinsOfAll) (mL := 3) (rt := (some .int)) (rm := { frames := 0, cells := 0, slots := 0, locals := 0 }) (av := [.ref p0]) (by decide) (Nat.le_of_ble_eq_true rfl) ho ?_
  intro p e s m args below meth c ls A Q hQ X hT hl
  have hx := X.1.1
  have hb := X.1.2.1
  have hl : lv_has ls 3 [(0, .ref p0)] := hl
  have K4 : ∀ (n : Nat) (z2985 : Int32) (z2986 : Int32) (H : Heap) (locs : List Loc) (ls : Array Slot), (4 - z2986.toInt < (n : Int)) → (0 ≤ z2986.toInt ∧ z2986.toInt ≤ 4) → TH G ttC A s tag L F H locs → lv_has ls 3 [(0, .ref p0), (1, .int z2985), (2, .int z2986)] → W p l e { frames := 0, cells := 0, slots := 0, locals := 0 } s m args below meth c H locs 0 0 Q (F0 m 4 ls []) := by
    intro n
    induction n with
    | zero =>
      intro z2985 z2986 H locs ls hn rz2986 hT hl
      exfalso
      omega
    | succ n ih4 =>
      intro z2985 z2986 H locs ls hn rz2986 hT hl
      refine lv_iload_n hx hb dX7_skinsOfAll_4 rfl (lv_at hl 2 rfl) ?_
      refine lv_iconst (v := 4) hx hb dX7_skinsOfAll_5 (by decide) ?_
      refine lv_icmp_ge (tgt := 24) hx hb dX7_skinsOfAll_6 (by decide) (fun c2987 => ?_) (fun c2987 => ?_)
      · have w2988 := cv_le (by decide : (4 : Int32).toInt = 4) (rfl : z2986.toInt = z2986.toInt) c2987
        refine lv_iload_n hx hb dX7_skinsOfAll_24 rfl (lv_at hl 1 rfl) ?_
        exact t_iret hQ X hT (⟨rfl, rg_all _⟩) (Nat.le_of_ble_eq_true rfl) (Nat.le_of_ble_eq_true rfl) dX7_skinsOfAll_25
      · have w2989 := cv_nle (by decide : (4 : Int32).toInt = 4) (rfl : z2986.toInt = z2986.toInt) c2987
        refine lv_iload_n hx hb dX7_skinsOfAll_9 rfl (lv_at hl 1 rfl) ?_
        refine lv_aload_n hx hb dX7_skinsOfAll_10 rfl (lv_at hl 0 rfl) ?_
        refine t_get (C := RX7) (T := TX7) (N := 7) X hT m0 g0 rfl rfl 2 (by decide) qw_62 inlX7 rfl dX7_skinsOfAll_11 (fun v2990 hv2990 ov2990 => ?_)
        obtain ⟨b2991, rfl, mb2991, gb2991⟩ := okV_r ov2990
        have gb2991 : tag b2991 = 8 := by simpa using gb2991
        refine lv_iload_n hx hb dX7_skinsOfAll_14 rfl (lv_at hl 2 rfl) ?_
        refine t_ild X hT mb2991 gb2991 rfl (by omega) dX7_skinsOfAll_15 (fun z2992 vz2992 rz2992 => ?_)
        have rz2992 : 0 ≤ z2992.toInt ∧ z2992.toInt ≤ 6 := rz2992
        refine lv_iadd hx hb dX7_skinsOfAll_16 ?_
        refine lv_topi (fun z2993 ez2993 => ?_)
        have rz2993 := rg_all z2993
        refine lv_istore_n (lv' := [(1, .int z2993), (0, .ref p0), (2, .int z2986)]) hx hb dX7_skinsOfAll_17 rfl hl (by decide) rfl (fun ls hl => ?_)
        obtain ⟨z2994, ez2994⟩ : ∃ y : Int32, y = z2986 + 1 := ⟨_, rfl⟩
        have hz2994 : z2994.toInt = z2986.toInt + 1 := ar_add ez2994 rfl (by decide : (1 : Int32).toInt = 1) (by omega) (by omega)
        refine lv_iinc (v := z2994) (lv' := [(2, .int z2994), (1, .int z2993), (0, .ref p0)]) hx hb dX7_skinsOfAll_18 hl (k := 2) rfl (by rw [ez2994]; rfl) (by decide) rfl (fun ls hl => ?_)
        refine lv_goto (tgt := 4) hx hb dX7_skinsOfAll_21 (by decide) ?_
        exact ih4 z2993 z2994 _ _ _ (by omega) (by omega) hT  (lv_sub hl [2, 1, 0] rfl)
  refine lv_iconst (v := 0) hx hb dX7_skinsOfAll_0 (by decide) ?_
  refine lv_istore_n (lv' := [(1, .int 0), (0, .ref p0)]) hx hb dX7_skinsOfAll_1 rfl hl (by decide) rfl (fun ls hl => ?_)
  refine lv_iconst (v := 0) hx hb dX7_skinsOfAll_2 (by decide) ?_
  refine lv_istore_n (lv' := [(2, .int 0), (1, .int 0), (0, .ref p0)]) hx hb dX7_skinsOfAll_3 rfl hl (by decide) rfl (fun ls hl => ?_)
  have kk2995 : (0 : Int32).toInt = 0 := by decide
  have kk2996 : (0 : Int32).toInt = 0 := by decide
  exact K4 5 0 0 _ _ _ (by omega) (by decide) hT  (lv_sub hl [2, 1, 0] rfl)
