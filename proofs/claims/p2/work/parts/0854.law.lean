set_option maxHeartbeats 4000000 in
set_option maxRecDepth 100000 in
theorem law_c39 {p : Program} {e : Env} {s : State} {m : MethodId} {below : List Frame} {meth : Method} {c : Code} (l : Launch) (G : KG) (b : Nat) (xs : Nat → Int32) {L9 : Nat} (hL9 : L9 ≤ 3072) (X : CX p s m #[Value.ref b] meth c cL_law 7 RL ret G (fun q : Nat => s.heap.size ≤ q) lw_tbl) (hX : va_X b L9 xs s s.heap) (hbl : b < s.heap.size) {H : Heap} {locs : List Loc} {ls : Array Slot} {cells slots : Nat} (hc : cells ≤ 600000) (hs : slots ≤ 7290000) {tag : Nat → Nat} {L : List Nat} {F : Nat → va_E} (x0 m0 o0 : Nat) (i : Int32) (hi : 0 ≤ i.toInt ∧ i.toInt + 6 ≤ (L9 : Int)) (hT : TH G ttC (fun q : Nat => s.heap.size ≤ q) s tag L F H locs) (hI : LINV tag L F x0 m0 o0) (hl : lv_has ls 7 [(4, .int i), (3, .ref o0), (2, .ref m0), (1, .ref x0), (0, .ref b)]) (kk : ∀ (tag1 : Nat → Nat) (L1 : List Nat) (F1 : Nat → va_E) (H1 : Heap) (locs1 : List Loc) (ls1 : Array Slot) (c1 s1 : Nat), c1 ≤ cells + 17 → s1 ≤ slots + 541 → TH G ttC (fun q : Nat => s.heap.size ≤ q) s tag1 L1 F1 H1 locs1 → LINV tag1 L1 F1 x0 m0 o0 → lv_has ls1 7 [(4, .int i), (3, .ref o0), (2, .ref m0), (1, .ref x0), (0, .ref b)] → W p l e room_1 s m #[Value.ref b] below meth c H1 locs1 c1 s1 (lw_Z below #[Value.ref b] s) (F0 m 1828 ls1 [])) : W p l e room_1 s m #[Value.ref b] below meth c H locs cells slots (lw_Z below #[Value.ref b] s) (F0 m 1563 ls []) := by
  have hx := X.1.1
  have hb := X.1.2.1
  have hbA : ¬ (fun q : Nat => s.heap.size ≤ q) b := Nat.not_le.mpr hbl
  have hL9i : (L9 : Int) ≤ 3072 := by omega
  obtain ⟨mx, gx, mm, gm, mo, go, f1, f2, hf1, hf2, hff, hf0, hf9, rd, rs, rn, hrd, mrd, grd, hrs, hrn, mrs, mrn, grs, grn, hns⟩ := hI
  refine lv_aload_n hx hb dL_law_1563 rfl (lv_at hl 3 rfl) ?_
  refine lv_aload_n hx hb dL_law_1564 rfl (lv_at hl 4 rfl) ?_
  refine lv_iload hx hb dL_law_1565 (lv_at hl 0 rfl) ?_
  refine lv_iconst (v := 1) hx hb dL_law_1567 (by decide) ?_
  refine lv_iadd hx hb dL_law_1568 ?_
  refine lv_topi (fun z1 ez1 => ?_)
  have hz1 : z1.toInt = i.toInt + 1 := ar_add ez1 rfl (by decide : (1 : Int32).toInt = 1) (by omega) (by omega)
  refine va_sld hx hb hX hbl hbA hT.2.2.1 (vp_in_iff.mpr (by omega)) dL_law_1569 ?_
  refine lv_topi (fun v2 ev2 => ?_)
  refine lv_aload_n hx hb dL_law_1570 rfl (lv_at hl 4 rfl) ?_
  refine lv_iload hx hb dL_law_1571 (lv_at hl 0 rfl) ?_
  refine lv_iconst (v := 2) hx hb dL_law_1573 (by decide) ?_
  refine lv_iadd hx hb dL_law_1574 ?_
  refine lv_topi (fun z3 ez3 => ?_)
  have hz3 : z3.toInt = i.toInt + 2 := ar_add ez3 rfl (by decide : (2 : Int32).toInt = 2) (by omega) (by omega)
  refine va_sld hx hb hX hbl hbA hT.2.2.1 (vp_in_iff.mpr (by omega)) dL_law_1575 ?_
  refine lv_topi (fun v4 ev4 => ?_)
  refine t_cVi (n := 2) (C := RX11) (T := TX11) (N := 16) (As := [.int v2, .int v4]) (rest := []) X hT (kt400_X11_move l G tag L F hT.2.2.2 x0 v2 v4 mx gx) mx gx rfl rfl qw_1493 qw_1494 qw_1495 qw_2 qw_1496 ⟨rfl, by decide +kernel, by decide +kernel, by decide +kernel⟩ ⟨(Nat.le_of_ble_eq_true rfl), (Nat.le_of_ble_eq_true rfl)⟩ hl rfl rfl (Nat.le_of_ble_eq_true rfl) dL_law_1576 ⟨show cells + 0 ≤ 601024 from by omega, show slots + 0 ≤ 7293034 from by omega⟩ (fun r5 F H locs hT hr5 => ?_)
  refine W.widen (k := cells) (n := slots) (Nat.le_refl _) (Nat.le_refl _) ?_
  obtain ⟨hgr5, yr5⟩ := hr5
  have hf1 := (yr5.1 _ 1 (Or.inr (by decide)) (Or.inl (by rw [gx]; decide)) (Or.inr (by decide)) (Or.inr (by decide)) (Or.inr (by decide))).trans hf1
  have hf2 := (yr5.1 _ 6 (Or.inr (by decide)) (Or.inr (by decide)) (Or.inr (by decide)) (Or.inr (by decide)) (Or.inr (by decide))).trans hf2
  have hrd := (yr5.1 _ 8 (Or.inr (by decide)) (Or.inr (by decide)) (Or.inr (by decide)) (Or.inr (by decide)) (Or.inr (by decide))).trans hrd
  have hrs := (yr5.1 _ 10 (Or.inr (by decide)) (Or.inr (by decide)) (Or.inr (by decide)) (Or.inr (by decide)) (Or.inr (by decide))).trans hrs
  have hrn := (yr5.1 _ 11 (Or.inr (by decide)) (Or.inr (by decide)) (Or.inr (by decide)) (Or.inr (by decide)) (Or.inr (by decide))).trans hrn
  have hns := nsr_of (fun j => yr5.2 _ j (Or.inl grs)) (fun j => yr5.2 _ j (Or.inr grn)) hns
  refine lv_pop hx hb dL_law_1579 rfl ?_
  refine lv_aload_n hx hb dL_law_1580 rfl (lv_at hl 2 rfl) ?_
  refine lv_aload_n hx hb dL_law_1581 rfl (lv_at hl 4 rfl) ?_
  refine lv_iload hx hb dL_law_1582 (lv_at hl 0 rfl) ?_
  refine lv_iconst (v := 1) hx hb dL_law_1584 (by decide) ?_
  refine lv_iadd hx hb dL_law_1585 ?_
  refine lv_topi (fun z6 ez6 => ?_)
  have hz6 : z6.toInt = i.toInt + 1 := ar_add ez6 rfl (by decide : (1 : Int32).toInt = 1) (by omega) (by omega)
  refine va_sld hx hb hX hbl hbA hT.2.2.1 (vp_in_iff.mpr (by omega)) dL_law_1586 ?_
  refine lv_topi (fun v7 ev7 => ?_)
  refine lv_aload_n hx hb dL_law_1587 rfl (lv_at hl 4 rfl) ?_
  refine lv_iload hx hb dL_law_1588 (lv_at hl 0 rfl) ?_
  refine lv_iconst (v := 2) hx hb dL_law_1590 (by decide) ?_
  refine lv_iadd hx hb dL_law_1591 ?_
  refine lv_topi (fun z8 ez8 => ?_)
  have hz8 : z8.toInt = i.toInt + 2 := ar_add ez8 rfl (by decide : (2 : Int32).toInt = 2) (by omega) (by omega)
  refine va_sld hx hb hX hbl hbA hT.2.2.1 (vp_in_iff.mpr (by omega)) dL_law_1592 ?_
  refine lv_topi (fun v9 ev9 => ?_)
  refine t_cVi (n := 2) (C := RX13) (T := TX13) (N := 37) (As := [.int v7, .int v9]) (rest := []) X hT (kp_X13_move l G tag L F hT.2.2.2 m0 v7 v9 mm gm) mm gm rfl rfl qw_1497 qw_1498 qw_1499 qw_5 qw_1500 ⟨rfl, by decide +kernel, by decide +kernel, by decide +kernel⟩ ⟨(Nat.le_of_ble_eq_true rfl), (Nat.le_of_ble_eq_true rfl)⟩ hl rfl rfl (Nat.le_of_ble_eq_true rfl) dL_law_1593 ⟨show cells + 0 ≤ 601024 from by omega, show slots + 0 ≤ 7293034 from by omega⟩ (fun r10 F H locs hT hr10 => ?_)
  refine W.widen (k := cells) (n := slots) (Nat.le_refl _) (Nat.le_refl _) ?_
  obtain ⟨hgr10, yr10⟩ := hr10
  have hf1 := (yr10.1 _ 1 (Or.inr (by decide)) (Or.inl (by rw [gx]; decide)) (Or.inr (by decide)) (Or.inr (by decide))).trans hf1
  have hf2 := (yr10.1 _ 6 (Or.inr (by decide)) (Or.inr (by decide)) (Or.inr (by decide)) (Or.inr (by decide))).trans hf2
  have hrd := (yr10.1 _ 8 (Or.inr (by decide)) (Or.inr (by decide)) (Or.inr (by decide)) (Or.inr (by decide))).trans hrd
  have hrs := (yr10.1 _ 10 (Or.inr (by decide)) (Or.inr (by decide)) (Or.inr (by decide)) (Or.inr (by decide))).trans hrs
  have hrn := (yr10.1 _ 11 (Or.inr (by decide)) (Or.inr (by decide)) (Or.inr (by decide)) (Or.inr (by decide))).trans hrn
  have hns := nsr_of (fun j => yr10.2 _ j (by rw [grs]; decide) (by rw [grs]; decide)) (fun j => yr10.2 _ j (by rw [grn]; decide) (by rw [grn]; decide)) hns
  refine lv_pop hx hb dL_law_1596 rfl ?_
  refine lv_goto (tgt := 1828) hx hb dL_law_1597 (by decide) ?_
  exact kk tag L F H locs _ cells slots (by omega) (by omega) hT ⟨mx, gx, mm, gm, mo, go, f1, f2, hf1, hf2, hff, hf0, hf9, rd, rs, rn, hrd, mrd, grd, hrs, hrn, mrs, mrn, grs, grn, hns⟩ (lv_sub hl [0, 1, 2, 3, 4] rfl)
set_option maxHeartbeats 4000000 in
set_option maxRecDepth 100000 in
theorem law_c40 {p : Program} {e : Env} {s : State} {m : MethodId} {below : List Frame} {meth : Method} {c : Code} (l : Launch) (G : KG) (b : Nat) (xs : Nat → Int32) {L9 : Nat} (hL9 : L9 ≤ 3072) (X : CX p s m #[Value.ref b] meth c cL_law 7 RL ret G (fun q : Nat => s.heap.size ≤ q) lw_tbl) (hX : va_X b L9 xs s s.heap) (hbl : b < s.heap.size) {H : Heap} {locs : List Loc} {ls : Array Slot} {cells slots : Nat} (hc : cells ≤ 600000) (hs : slots ≤ 7290000) {tag : Nat → Nat} {L : List Nat} {F : Nat → va_E} (x0 m0 o0 : Nat) (i : Int32) (hi : 0 ≤ i.toInt ∧ i.toInt + 6 ≤ (L9 : Int)) (hT : TH G ttC (fun q : Nat => s.heap.size ≤ q) s tag L F H locs) (hI : LINV tag L F x0 m0 o0) (hl : lv_has ls 7 [(4, .int i), (3, .ref o0), (2, .ref m0), (1, .ref x0), (0, .ref b)]) (kk : ∀ (tag1 : Nat → Nat) (L1 : List Nat) (F1 : Nat → va_E) (H1 : Heap) (locs1 : List Loc) (ls1 : Array Slot) (c1 s1 : Nat), c1 ≤ cells + 17 → s1 ≤ slots + 541 → TH G ttC (fun q : Nat => s.heap.size ≤ q) s tag1 L1 F1 H1 locs1 → LINV tag1 L1 F1 x0 m0 o0 → lv_has ls1 7 [(4, .int i), (3, .ref o0), (2, .ref m0), (1, .ref x0), (0, .ref b)] → W p l e room_1 s m #[Value.ref b] below meth c H1 locs1 c1 s1 (lw_Z below #[Value.ref b] s) (F0 m 1828 ls1 [])) : W p l e room_1 s m #[Value.ref b] below meth c H locs cells slots (lw_Z below #[Value.ref b] s) (F0 m 1600 ls []) := by
  have hx := X.1.1
  have hb := X.1.2.1
  have hbA : ¬ (fun q : Nat => s.heap.size ≤ q) b := Nat.not_le.mpr hbl
  have hL9i : (L9 : Int) ≤ 3072 := by omega
  obtain ⟨mx, gx, mm, gm, mo, go, f1, f2, hf1, hf2, hff, hf0, hf9, rd, rs, rn, hrd, mrd, grd, hrs, hrn, mrs, mrn, grs, grn, hns⟩ := hI
  refine lv_aload_n hx hb dL_law_1600 rfl (lv_at hl 3 rfl) ?_
  refine lv_aload_n hx hb dL_law_1601 rfl (lv_at hl 4 rfl) ?_
  refine lv_iload hx hb dL_law_1602 (lv_at hl 0 rfl) ?_
  refine lv_iconst (v := 1) hx hb dL_law_1604 (by decide) ?_
  refine lv_iadd hx hb dL_law_1605 ?_
  refine lv_topi (fun z1 ez1 => ?_)
  have hz1 : z1.toInt = i.toInt + 1 := ar_add ez1 rfl (by decide : (1 : Int32).toInt = 1) (by omega) (by omega)
  refine va_sld hx hb hX hbl hbA hT.2.2.1 (vp_in_iff.mpr (by omega)) dL_law_1606 ?_
  refine lv_topi (fun v2 ev2 => ?_)
  refine lv_aload_n hx hb dL_law_1607 rfl (lv_at hl 4 rfl) ?_
  refine lv_iload hx hb dL_law_1608 (lv_at hl 0 rfl) ?_
  refine lv_iconst (v := 2) hx hb dL_law_1610 (by decide) ?_
  refine lv_iadd hx hb dL_law_1611 ?_
  refine lv_topi (fun z3 ez3 => ?_)
  have hz3 : z3.toInt = i.toInt + 2 := ar_add ez3 rfl (by decide : (2 : Int32).toInt = 2) (by omega) (by omega)
  refine va_sld hx hb hX hbl hbA hT.2.2.1 (vp_in_iff.mpr (by omega)) dL_law_1612 ?_
  refine lv_topi (fun v4 ev4 => ?_)
  refine lv_aload_n hx hb dL_law_1613 rfl (lv_at hl 4 rfl) ?_
  refine lv_iload hx hb dL_law_1614 (lv_at hl 0 rfl) ?_
  refine lv_iconst (v := 3) hx hb dL_law_1616 (by decide) ?_
  refine lv_iadd hx hb dL_law_1617 ?_
  refine lv_topi (fun z5 ez5 => ?_)
  have hz5 : z5.toInt = i.toInt + 3 := ar_add ez5 rfl (by decide : (3 : Int32).toInt = 3) (by omega) (by omega)
  refine va_sld hx hb hX hbl hbA hT.2.2.1 (vp_in_iff.mpr (by omega)) dL_law_1618 ?_
  refine lv_topi (fun v6 ev6 => ?_)
  refine t_cVi (n := 3) (C := RX11) (T := TX11) (N := 16) (As := [.int v2, .int v4, .int v6]) (rest := []) X hT (kt374_X11_give l G tag L F hT.2.2.2 x0 v2 v4 v6 mx gx) mx gx rfl rfl qw_1501 qw_1502 qw_1503 qw_2 qw_1504 ⟨rfl, by decide +kernel, by decide +kernel, by decide +kernel⟩ ⟨(Nat.le_of_ble_eq_true rfl), (Nat.le_of_ble_eq_true rfl)⟩ hl rfl rfl (Nat.le_of_ble_eq_true rfl) dL_law_1619 ⟨show cells + 0 ≤ 601024 from by omega, show slots + 0 ≤ 7293034 from by omega⟩ (fun r7 F H locs hT hr7 => ?_)
  refine W.widen (k := cells) (n := slots) (Nat.le_refl _) (Nat.le_refl _) ?_
  obtain ⟨hgr7, yr7⟩ := hr7
  have hf1 := (yr7.1 _ 1 (Or.inr (by decide)) (Or.inl (by rw [gx]; decide)) (Or.inr (by decide)) (Or.inr (by decide)) (Or.inr (by decide))).trans hf1
  have hf2 := (yr7.1 _ 6 (Or.inr (by decide)) (Or.inr (by decide)) (Or.inr (by decide)) (Or.inr (by decide)) (Or.inr (by decide))).trans hf2
  have hrd := (yr7.1 _ 8 (Or.inr (by decide)) (Or.inr (by decide)) (Or.inr (by decide)) (Or.inr (by decide)) (Or.inr (by decide))).trans hrd
  have hrs := (yr7.1 _ 10 (Or.inr (by decide)) (Or.inr (by decide)) (Or.inr (by decide)) (Or.inr (by decide)) (Or.inr (by decide))).trans hrs
  have hrn := (yr7.1 _ 11 (Or.inr (by decide)) (Or.inr (by decide)) (Or.inr (by decide)) (Or.inr (by decide)) (Or.inr (by decide))).trans hrn
  have hns := nsr_of (fun j => yr7.2 _ j (Or.inl grs)) (fun j => yr7.2 _ j (Or.inr grn)) hns
  refine lv_pop hx hb dL_law_1622 rfl ?_
  refine lv_aload_n hx hb dL_law_1623 rfl (lv_at hl 2 rfl) ?_
  refine lv_aload_n hx hb dL_law_1624 rfl (lv_at hl 4 rfl) ?_
  refine lv_iload hx hb dL_law_1625 (lv_at hl 0 rfl) ?_
  refine lv_iconst (v := 1) hx hb dL_law_1627 (by decide) ?_
  refine lv_iadd hx hb dL_law_1628 ?_
  refine lv_topi (fun z8 ez8 => ?_)
  have hz8 : z8.toInt = i.toInt + 1 := ar_add ez8 rfl (by decide : (1 : Int32).toInt = 1) (by omega) (by omega)
  refine va_sld hx hb hX hbl hbA hT.2.2.1 (vp_in_iff.mpr (by omega)) dL_law_1629 ?_
  refine lv_topi (fun v9 ev9 => ?_)
  refine lv_aload_n hx hb dL_law_1630 rfl (lv_at hl 4 rfl) ?_
  refine lv_iload hx hb dL_law_1631 (lv_at hl 0 rfl) ?_
  refine lv_iconst (v := 2) hx hb dL_law_1633 (by decide) ?_
  refine lv_iadd hx hb dL_law_1634 ?_
  refine lv_topi (fun z10 ez10 => ?_)
  have hz10 : z10.toInt = i.toInt + 2 := ar_add ez10 rfl (by decide : (2 : Int32).toInt = 2) (by omega) (by omega)
  refine va_sld hx hb hX hbl hbA hT.2.2.1 (vp_in_iff.mpr (by omega)) dL_law_1635 ?_
  refine lv_topi (fun v11 ev11 => ?_)
  refine lv_aload_n hx hb dL_law_1636 rfl (lv_at hl 4 rfl) ?_
  refine lv_iload hx hb dL_law_1637 (lv_at hl 0 rfl) ?_
  refine lv_iconst (v := 3) hx hb dL_law_1639 (by decide) ?_
  refine lv_iadd hx hb dL_law_1640 ?_
  refine lv_topi (fun z12 ez12 => ?_)
  have hz12 : z12.toInt = i.toInt + 3 := ar_add ez12 rfl (by decide : (3 : Int32).toInt = 3) (by omega) (by omega)
  refine va_sld hx hb hX hbl hbA hT.2.2.1 (vp_in_iff.mpr (by omega)) dL_law_1641 ?_
  refine lv_topi (fun v13 ev13 => ?_)
  refine t_cVi (n := 3) (C := RX13) (T := TX13) (N := 37) (As := [.int v9, .int v11, .int v13]) (rest := []) X hT (kp_X13_give l G tag L F hT.2.2.2 m0 v9 v11 v13 mm gm) mm gm rfl rfl qw_1505 qw_1506 qw_1507 qw_5 qw_1508 ⟨rfl, by decide +kernel, by decide +kernel, by decide +kernel⟩ ⟨(Nat.le_of_ble_eq_true rfl), (Nat.le_of_ble_eq_true rfl)⟩ hl rfl rfl (Nat.le_of_ble_eq_true rfl) dL_law_1642 ⟨show cells + 0 ≤ 601024 from by omega, show slots + 0 ≤ 7293034 from by omega⟩ (fun r14 F H locs hT hr14 => ?_)
  refine W.widen (k := cells) (n := slots) (Nat.le_refl _) (Nat.le_refl _) ?_
  obtain ⟨hgr14, yr14⟩ := hr14
  have hf1 := (yr14.1 _ 1 (Or.inr (by decide)) (Or.inl (by rw [gx]; decide)) (Or.inr (by decide)) (Or.inr (by decide))).trans hf1
  have hf2 := (yr14.1 _ 6 (Or.inr (by decide)) (Or.inr (by decide)) (Or.inr (by decide)) (Or.inr (by decide))).trans hf2
  have hrd := (yr14.1 _ 8 (Or.inr (by decide)) (Or.inr (by decide)) (Or.inr (by decide)) (Or.inr (by decide))).trans hrd
  have hrs := (yr14.1 _ 10 (Or.inr (by decide)) (Or.inr (by decide)) (Or.inr (by decide)) (Or.inr (by decide))).trans hrs
  have hrn := (yr14.1 _ 11 (Or.inr (by decide)) (Or.inr (by decide)) (Or.inr (by decide)) (Or.inr (by decide))).trans hrn
  have hns := nsr_of (fun j => yr14.2 _ j (by rw [grs]; decide) (by rw [grs]; decide)) (fun j => yr14.2 _ j (by rw [grn]; decide) (by rw [grn]; decide)) hns
  refine lv_pop hx hb dL_law_1645 rfl ?_
  refine lv_goto (tgt := 1828) hx hb dL_law_1646 (by decide) ?_
  exact kk tag L F H locs _ cells slots (by omega) (by omega) hT ⟨mx, gx, mm, gm, mo, go, f1, f2, hf1, hf2, hff, hf0, hf9, rd, rs, rn, hrd, mrd, grd, hrs, hrn, mrs, mrn, grs, grn, hns⟩ (lv_sub hl [0, 1, 2, 3, 4] rfl)
set_option maxHeartbeats 4000000 in
set_option maxRecDepth 100000 in
theorem law_c41 {p : Program} {e : Env} {s : State} {m : MethodId} {below : List Frame} {meth : Method} {c : Code} (l : Launch) (G : KG) (b : Nat) (xs : Nat → Int32) {L9 : Nat} (hL9 : L9 ≤ 3072) (X : CX p s m #[Value.ref b] meth c cL_law 7 RL ret G (fun q : Nat => s.heap.size ≤ q) lw_tbl) (hX : va_X b L9 xs s s.heap) (hbl : b < s.heap.size) {H : Heap} {locs : List Loc} {ls : Array Slot} {cells slots : Nat} (hc : cells ≤ 600000) (hs : slots ≤ 7290000) {tag : Nat → Nat} {L : List Nat} {F : Nat → va_E} (x0 m0 o0 : Nat) (i : Int32) (hi : 0 ≤ i.toInt ∧ i.toInt + 6 ≤ (L9 : Int)) (hT : TH G ttC (fun q : Nat => s.heap.size ≤ q) s tag L F H locs) (hI : LINV tag L F x0 m0 o0) (hl : lv_has ls 7 [(4, .int i), (3, .ref o0), (2, .ref m0), (1, .ref x0), (0, .ref b)]) (kk : ∀ (tag1 : Nat → Nat) (L1 : List Nat) (F1 : Nat → va_E) (H1 : Heap) (locs1 : List Loc) (ls1 : Array Slot) (c1 s1 : Nat), c1 ≤ cells + 17 → s1 ≤ slots + 541 → TH G ttC (fun q : Nat => s.heap.size ≤ q) s tag1 L1 F1 H1 locs1 → LINV tag1 L1 F1 x0 m0 o0 → lv_has ls1 7 [(4, .int i), (3, .ref o0), (2, .ref m0), (1, .ref x0), (0, .ref b)] → W p l e room_1 s m #[Value.ref b] below meth c H1 locs1 c1 s1 (lw_Z below #[Value.ref b] s) (F0 m 1828 ls1 [])) : W p l e room_1 s m #[Value.ref b] below meth c H locs cells slots (lw_Z below #[Value.ref b] s) (F0 m 1649 ls []) := by
  have hx := X.1.1
  have hb := X.1.2.1
  have hbA : ¬ (fun q : Nat => s.heap.size ≤ q) b := Nat.not_le.mpr hbl
  have hL9i : (L9 : Int) ≤ 3072 := by omega
  obtain ⟨mx, gx, mm, gm, mo, go, f1, f2, hf1, hf2, hff, hf0, hf9, rd, rs, rn, hrd, mrd, grd, hrs, hrn, mrs, mrn, grs, grn, hns⟩ := hI
  refine lv_aload_n hx hb dL_law_1649 rfl (lv_at hl 3 rfl) ?_
  refine lv_aload_n hx hb dL_law_1650 rfl (lv_at hl 4 rfl) ?_
  refine lv_iload hx hb dL_law_1651 (lv_at hl 0 rfl) ?_
  refine lv_iconst (v := 1) hx hb dL_law_1653 (by decide) ?_
  refine lv_iadd hx hb dL_law_1654 ?_
  refine lv_topi (fun z1 ez1 => ?_)
  have hz1 : z1.toInt = i.toInt + 1 := ar_add ez1 rfl (by decide : (1 : Int32).toInt = 1) (by omega) (by omega)
  refine va_sld hx hb hX hbl hbA hT.2.2.1 (vp_in_iff.mpr (by omega)) dL_law_1655 ?_
  refine lv_topi (fun v2 ev2 => ?_)
  refine t_cVi (n := 1) (C := RX11) (T := TX11) (N := 16) (As := [.int v2]) (rest := []) X hT (kt406_X11_seed l G tag L F hT.2.2.2 x0 v2 mx gx) mx gx rfl rfl qw_1509 qw_1510 qw_1511 qw_2 qw_1512 ⟨rfl, by decide +kernel, by decide +kernel, by decide +kernel⟩ ⟨(Nat.le_of_ble_eq_true rfl), (Nat.le_of_ble_eq_true rfl)⟩ hl rfl rfl (Nat.le_of_ble_eq_true rfl) dL_law_1656 ⟨show cells + 0 ≤ 601024 from by omega, show slots + 0 ≤ 7293034 from by omega⟩ (fun r3 F H locs hT hr3 => ?_)
  refine W.widen (k := cells) (n := slots) (Nat.le_refl _) (Nat.le_refl _) ?_
  obtain ⟨hgr3, yr3⟩ := hr3
  have hf1 := (yr3.1 _ 1 (Or.inl (by rw [gx]; decide)) (Or.inr (by decide))).trans hf1
  have hf2 := (yr3.1 _ 6 (Or.inr (by decide)) (Or.inr (by decide))).trans hf2
  have hrd := (yr3.1 _ 8 (Or.inr (by decide)) (Or.inr (by decide))).trans hrd
  have hrs := (yr3.1 _ 10 (Or.inr (by decide)) (Or.inr (by decide))).trans hrs
  have hrn := (yr3.1 _ 11 (Or.inr (by decide)) (Or.inr (by decide))).trans hrn
  have hns := nsr_of (fun j => yr3.2 _ j (Or.inl grs)) (fun j => yr3.2 _ j (Or.inr grn)) hns
  refine lv_pop hx hb dL_law_1659 rfl ?_
  refine lv_aload_n hx hb dL_law_1660 rfl (lv_at hl 2 rfl) ?_
  refine lv_aload_n hx hb dL_law_1661 rfl (lv_at hl 4 rfl) ?_
  refine lv_iload hx hb dL_law_1662 (lv_at hl 0 rfl) ?_
  refine lv_iconst (v := 1) hx hb dL_law_1664 (by decide) ?_
  refine lv_iadd hx hb dL_law_1665 ?_
  refine lv_topi (fun z4 ez4 => ?_)
  have hz4 : z4.toInt = i.toInt + 1 := ar_add ez4 rfl (by decide : (1 : Int32).toInt = 1) (by omega) (by omega)
  refine va_sld hx hb hX hbl hbA hT.2.2.1 (vp_in_iff.mpr (by omega)) dL_law_1666 ?_
  refine lv_topi (fun v5 ev5 => ?_)
  refine t_cVi (n := 1) (C := RX13) (T := TX13) (N := 37) (As := [.int v5]) (rest := []) X hT (kp_X13_seed l G tag L F hT.2.2.2 m0 v5 mm gm) mm gm rfl rfl qw_1513 qw_1514 qw_1515 qw_5 qw_1516 ⟨rfl, by decide +kernel, by decide +kernel, by decide +kernel⟩ ⟨(Nat.le_of_ble_eq_true rfl), (Nat.le_of_ble_eq_true rfl)⟩ hl rfl rfl (Nat.le_of_ble_eq_true rfl) dL_law_1667 ⟨show cells + 0 ≤ 601024 from by omega, show slots + 0 ≤ 7293034 from by omega⟩ (fun r6 F H locs hT hr6 => ?_)
  refine W.widen (k := cells) (n := slots) (Nat.le_refl _) (Nat.le_refl _) ?_
  obtain ⟨hgr6, yr6⟩ := hr6
  have hf1 := (yr6.1 _ 1 (Or.inr (by decide)) (Or.inl (by rw [gx]; decide)) (Or.inr (by decide))).trans hf1
  have hf2 := (yr6.1 _ 6 (Or.inr (by decide)) (Or.inr (by decide)) (Or.inr (by decide))).trans hf2
  have hrd := (yr6.1 _ 8 (Or.inr (by decide)) (Or.inr (by decide)) (Or.inr (by decide))).trans hrd
  have hrs := (yr6.1 _ 10 (Or.inr (by decide)) (Or.inr (by decide)) (Or.inr (by decide))).trans hrs
  have hrn := (yr6.1 _ 11 (Or.inr (by decide)) (Or.inr (by decide)) (Or.inr (by decide))).trans hrn
  have hns := nsr_of (fun j => yr6.2 _ j (by rw [grs]; decide)) (fun j => yr6.2 _ j (by rw [grn]; decide)) hns
  refine lv_pop hx hb dL_law_1670 rfl ?_
  refine lv_goto (tgt := 1828) hx hb dL_law_1671 (by decide) ?_
  exact kk tag L F H locs _ cells slots (by omega) (by omega) hT ⟨mx, gx, mm, gm, mo, go, f1, f2, hf1, hf2, hff, hf0, hf9, rd, rs, rn, hrd, mrd, grd, hrs, hrn, mrs, mrn, grs, grn, hns⟩ (lv_sub hl [0, 1, 2, 3, 4] rfl)
set_option maxHeartbeats 4000000 in
set_option maxRecDepth 100000 in
theorem law_c42 {p : Program} {e : Env} {s : State} {m : MethodId} {below : List Frame} {meth : Method} {c : Code} (l : Launch) (G : KG) (b : Nat) (xs : Nat → Int32) {L9 : Nat} (hL9 : L9 ≤ 3072) (X : CX p s m #[Value.ref b] meth c cL_law 7 RL ret G (fun q : Nat => s.heap.size ≤ q) lw_tbl) (hX : va_X b L9 xs s s.heap) (hbl : b < s.heap.size) {H : Heap} {locs : List Loc} {ls : Array Slot} {cells slots : Nat} (hc : cells ≤ 600000) (hs : slots ≤ 7290000) {tag : Nat → Nat} {L : List Nat} {F : Nat → va_E} (x0 m0 o0 : Nat) (i : Int32) (hi : 0 ≤ i.toInt ∧ i.toInt + 6 ≤ (L9 : Int)) (hT : TH G ttC (fun q : Nat => s.heap.size ≤ q) s tag L F H locs) (hI : LINV tag L F x0 m0 o0) (hl : lv_has ls 7 [(4, .int i), (3, .ref o0), (2, .ref m0), (1, .ref x0), (0, .ref b)]) (kk : ∀ (tag1 : Nat → Nat) (L1 : List Nat) (F1 : Nat → va_E) (H1 : Heap) (locs1 : List Loc) (ls1 : Array Slot) (c1 s1 : Nat), c1 ≤ cells + 17 → s1 ≤ slots + 541 → TH G ttC (fun q : Nat => s.heap.size ≤ q) s tag1 L1 F1 H1 locs1 → LINV tag1 L1 F1 x0 m0 o0 → lv_has ls1 7 [(4, .int i), (3, .ref o0), (2, .ref m0), (1, .ref x0), (0, .ref b)] → W p l e room_1 s m #[Value.ref b] below meth c H1 locs1 c1 s1 (lw_Z below #[Value.ref b] s) (F0 m 1828 ls1 [])) : W p l e room_1 s m #[Value.ref b] below meth c H locs cells slots (lw_Z below #[Value.ref b] s) (F0 m 1674 ls []) := by
  have hx := X.1.1
  have hb := X.1.2.1
  have hbA : ¬ (fun q : Nat => s.heap.size ≤ q) b := Nat.not_le.mpr hbl
  have hL9i : (L9 : Int) ≤ 3072 := by omega
  obtain ⟨mx, gx, mm, gm, mo, go, f1, f2, hf1, hf2, hff, hf0, hf9, rd, rs, rn, hrd, mrd, grd, hrs, hrn, mrs, mrn, grs, grn, hns⟩ := hI
  refine lv_aload_n hx hb dL_law_1674 rfl (lv_at hl 3 rfl) ?_
  refine t_cVi (n := 0) (C := RX11) (T := TX11) (N := 16) (As := []) (rest := []) X hT (kt422_X11_undo l G tag L F hT.2.2.2 x0 mx gx) mx gx rfl rfl qw_1517 qw_1518 qw_1519 qw_2 qw_1520 ⟨rfl, by decide +kernel, by decide +kernel, by decide +kernel⟩ ⟨(Nat.le_of_ble_eq_true rfl), (Nat.le_of_ble_eq_true rfl)⟩ hl rfl rfl (Nat.le_of_ble_eq_true rfl) dL_law_1675 ⟨show cells + 0 ≤ 601024 from by omega, show slots + 0 ≤ 7293034 from by omega⟩ (fun r1 F H locs hT hr1 => ?_)
  refine W.widen (k := cells) (n := slots) (Nat.le_refl _) (Nat.le_refl _) ?_
  obtain ⟨hgr1, yr1⟩ := hr1
  have hf1 := (yr1.1 _ 1 (Or.inr (by decide)) (Or.inl (by rw [gx]; decide)) (Or.inr (by decide)) (Or.inr (by decide))).trans hf1
  have hf2 := (yr1.1 _ 6 (Or.inr (by decide)) (Or.inr (by decide)) (Or.inr (by decide)) (Or.inr (by decide))).trans hf2
  have hrd := (yr1.1 _ 8 (Or.inr (by decide)) (Or.inr (by decide)) (Or.inr (by decide)) (Or.inr (by decide))).trans hrd
  have hrs := (yr1.1 _ 10 (Or.inr (by decide)) (Or.inr (by decide)) (Or.inr (by decide)) (Or.inr (by decide))).trans hrs
  have hrn := (yr1.1 _ 11 (Or.inr (by decide)) (Or.inr (by decide)) (Or.inr (by decide)) (Or.inr (by decide))).trans hrn
  have hns := nsr_of (fun j => yr1.2 _ j (Or.inl grs)) (fun j => yr1.2 _ j (Or.inr grn)) hns
  refine lv_pop hx hb dL_law_1678 rfl ?_
  refine lv_aload_n hx hb dL_law_1679 rfl (lv_at hl 2 rfl) ?_
  refine t_cVi (n := 0) (C := RX13) (T := TX13) (N := 37) (As := []) (rest := []) X hT (kp_X13_undo l G tag L F hT.2.2.2 m0 mm gm) mm gm rfl rfl qw_1525 qw_1526 qw_1527 qw_5 qw_1528 ⟨rfl, by decide +kernel, by decide +kernel, by decide +kernel⟩ ⟨(Nat.le_of_ble_eq_true rfl), (Nat.le_of_ble_eq_true rfl)⟩ hl rfl rfl (Nat.le_of_ble_eq_true rfl) dL_law_1680 ⟨show cells + 0 ≤ 601024 from by omega, show slots + 0 ≤ 7293034 from by omega⟩ (fun r2 F H locs hT hr2 => ?_)
  refine W.widen (k := cells) (n := slots) (Nat.le_refl _) (Nat.le_refl _) ?_
  obtain ⟨hgr2, yr2⟩ := hr2
  have hf1 := (yr2.1 _ 1 (Or.inr (by decide)) (Or.inl (by rw [gx]; decide)) (Or.inr (by decide)) (Or.inr (by decide))).trans hf1
  have hf2 := (yr2.1 _ 6 (Or.inr (by decide)) (Or.inr (by decide)) (Or.inr (by decide)) (Or.inr (by decide))).trans hf2
  have hrd := (yr2.1 _ 8 (Or.inr (by decide)) (Or.inr (by decide)) (Or.inr (by decide)) (Or.inr (by decide))).trans hrd
  have hrs := (yr2.1 _ 10 (Or.inr (by decide)) (Or.inr (by decide)) (Or.inr (by decide)) (Or.inr (by decide))).trans hrs
  have hrn := (yr2.1 _ 11 (Or.inr (by decide)) (Or.inr (by decide)) (Or.inr (by decide)) (Or.inr (by decide))).trans hrn
  have hns := nsr_of (fun j => yr2.2 _ j (by rw [grs]; decide)) (fun j => yr2.2 _ j (by rw [grn]; decide)) hns
  refine lv_pop hx hb dL_law_1683 rfl ?_
  refine lv_goto (tgt := 1828) hx hb dL_law_1684 (by decide) ?_
  exact kk tag L F H locs _ cells slots (by omega) (by omega) hT ⟨mx, gx, mm, gm, mo, go, f1, f2, hf1, hf2, hff, hf0, hf9, rd, rs, rn, hrd, mrd, grd, hrs, hrn, mrs, mrn, grs, grn, hns⟩ (lv_sub hl [0, 1, 2, 3, 4] rfl)
set_option maxHeartbeats 4000000 in
set_option maxRecDepth 100000 in
theorem law_c43 {p : Program} {e : Env} {s : State} {m : MethodId} {below : List Frame} {meth : Method} {c : Code} (l : Launch) (G : KG) (b : Nat) (xs : Nat → Int32) {L9 : Nat} (hL9 : L9 ≤ 3072) (X : CX p s m #[Value.ref b] meth c cL_law 7 RL ret G (fun q : Nat => s.heap.size ≤ q) lw_tbl) (hX : va_X b L9 xs s s.heap) (hbl : b < s.heap.size) {H : Heap} {locs : List Loc} {ls : Array Slot} {cells slots : Nat} (hc : cells ≤ 600000) (hs : slots ≤ 7290000) {tag : Nat → Nat} {L : List Nat} {F : Nat → va_E} (x0 m0 o0 : Nat) (i : Int32) (hi : 0 ≤ i.toInt ∧ i.toInt + 6 ≤ (L9 : Int)) (hT : TH G ttC (fun q : Nat => s.heap.size ≤ q) s tag L F H locs) (hI : LINV tag L F x0 m0 o0) (hl : lv_has ls 7 [(4, .int i), (3, .ref o0), (2, .ref m0), (1, .ref x0), (0, .ref b)]) (kk : ∀ (tag1 : Nat → Nat) (L1 : List Nat) (F1 : Nat → va_E) (H1 : Heap) (locs1 : List Loc) (ls1 : Array Slot) (c1 s1 : Nat), c1 ≤ cells + 17 → s1 ≤ slots + 541 → TH G ttC (fun q : Nat => s.heap.size ≤ q) s tag1 L1 F1 H1 locs1 → LINV tag1 L1 F1 x0 m0 o0 → lv_has ls1 7 [(4, .int i), (3, .ref o0), (2, .ref m0), (1, .ref x0), (0, .ref b)] → W p l e room_1 s m #[Value.ref b] below meth c H1 locs1 c1 s1 (lw_Z below #[Value.ref b] s) (F0 m 1828 ls1 [])) : W p l e room_1 s m #[Value.ref b] below meth c H locs cells slots (lw_Z below #[Value.ref b] s) (F0 m 1687 ls []) := by
  have hx := X.1.1
  have hb := X.1.2.1
  have hbA : ¬ (fun q : Nat => s.heap.size ≤ q) b := Nat.not_le.mpr hbl
  have hL9i : (L9 : Int) ≤ 3072 := by omega
  obtain ⟨mx, gx, mm, gm, mo, go, f1, f2, hf1, hf2, hff, hf0, hf9, rd, rs, rn, hrd, mrd, grd, hrs, hrn, mrs, mrn, grs, grn, hns⟩ := hI
  refine lv_aload_n hx hb dL_law_1687 rfl (lv_at hl 3 rfl) ?_
  refine t_cVi (n := 0) (C := RX11) (T := TX11) (N := 16) (As := []) (rest := []) X hT (kt398_X11_mark l G tag L F hT.2.2.2 x0 mx gx) mx gx rfl rfl qw_1529 qw_1530 qw_1531 qw_2 qw_1532 ⟨rfl, by decide +kernel, by decide +kernel, by decide +kernel⟩ ⟨(Nat.le_of_ble_eq_true rfl), (Nat.le_of_ble_eq_true rfl)⟩ hl rfl rfl (Nat.le_of_ble_eq_true rfl) dL_law_1688 ⟨show cells + 0 ≤ 601024 from by omega, show slots + 0 ≤ 7293034 from by omega⟩ (fun r1 F H locs hT hr1 => ?_)
  refine W.widen (k := cells) (n := slots) (Nat.le_refl _) (Nat.le_refl _) ?_
  obtain ⟨hgr1, yr1⟩ := hr1
  have hf1 := (yr1.1 _ 1 (Or.inr (by decide)) (Or.inl (by rw [gx]; decide)) (Or.inr (by decide)) (Or.inr (by decide))).trans hf1
  have hf2 := (yr1.1 _ 6 (Or.inr (by decide)) (Or.inr (by decide)) (Or.inr (by decide)) (Or.inr (by decide))).trans hf2
  have hrd := (yr1.1 _ 8 (Or.inr (by decide)) (Or.inr (by decide)) (Or.inr (by decide)) (Or.inr (by decide))).trans hrd
  have hrs := (yr1.1 _ 10 (Or.inr (by decide)) (Or.inr (by decide)) (Or.inr (by decide)) (Or.inr (by decide))).trans hrs
  have hrn := (yr1.1 _ 11 (Or.inr (by decide)) (Or.inr (by decide)) (Or.inr (by decide)) (Or.inr (by decide))).trans hrn
  have hns := nsr_of (fun j => yr1.2 _ j (Or.inl grs)) (fun j => yr1.2 _ j (Or.inr grn)) hns
  refine lv_pop hx hb dL_law_1691 rfl ?_
  refine lv_aload_n hx hb dL_law_1692 rfl (lv_at hl 2 rfl) ?_
  refine t_cVi (n := 0) (C := RX13) (T := TX13) (N := 37) (As := []) (rest := []) X hT (kp_X13_mark l G tag L F hT.2.2.2 m0 mm gm) mm gm rfl rfl qw_1537 qw_1538 qw_1539 qw_5 qw_1540 ⟨rfl, by decide +kernel, by decide +kernel, by decide +kernel⟩ ⟨(Nat.le_of_ble_eq_true rfl), (Nat.le_of_ble_eq_true rfl)⟩ hl rfl rfl (Nat.le_of_ble_eq_true rfl) dL_law_1693 ⟨show cells + 0 ≤ 601024 from by omega, show slots + 0 ≤ 7293034 from by omega⟩ (fun r2 F H locs hT hr2 => ?_)
  refine W.widen (k := cells) (n := slots) (Nat.le_refl _) (Nat.le_refl _) ?_
  obtain ⟨hgr2, yr2⟩ := hr2
  have hf1 := (yr2.1 _ 1 (Or.inr (by decide)) (Or.inl (by rw [gx]; decide)) (Or.inr (by decide)) (Or.inr (by decide))).trans hf1
  have hf2 := (yr2.1 _ 6 (Or.inr (by decide)) (Or.inr (by decide)) (Or.inr (by decide)) (Or.inr (by decide))).trans hf2
  have hrd := (yr2.1 _ 8 (Or.inr (by decide)) (Or.inr (by decide)) (Or.inr (by decide)) (Or.inr (by decide))).trans hrd
  have hrs := (yr2.1 _ 10 (Or.inr (by decide)) (Or.inr (by decide)) (Or.inr (by decide)) (Or.inr (by decide))).trans hrs
  have hrn := (yr2.1 _ 11 (Or.inr (by decide)) (Or.inr (by decide)) (Or.inr (by decide)) (Or.inr (by decide))).trans hrn
  have hns := nsr_of (fun j => yr2.2 _ j (by rw [grs]; decide)) (fun j => yr2.2 _ j (by rw [grn]; decide)) hns
  refine lv_pop hx hb dL_law_1696 rfl ?_
  refine lv_goto (tgt := 1828) hx hb dL_law_1697 (by decide) ?_
  exact kk tag L F H locs _ cells slots (by omega) (by omega) hT ⟨mx, gx, mm, gm, mo, go, f1, f2, hf1, hf2, hff, hf0, hf9, rd, rs, rn, hrd, mrd, grd, hrs, hrn, mrs, mrn, grs, grn, hns⟩ (lv_sub hl [0, 1, 2, 3, 4] rfl)
set_option maxHeartbeats 4000000 in
set_option maxRecDepth 100000 in
theorem law_c44 {p : Program} {e : Env} {s : State} {m : MethodId} {below : List Frame} {meth : Method} {c : Code} (l : Launch) (G : KG) (b : Nat) (xs : Nat → Int32) {L9 : Nat} (hL9 : L9 ≤ 3072) (X : CX p s m #[Value.ref b] meth c cL_law 7 RL ret G (fun q : Nat => s.heap.size ≤ q) lw_tbl) (hX : va_X b L9 xs s s.heap) (hbl : b < s.heap.size) {H : Heap} {locs : List Loc} {ls : Array Slot} {cells slots : Nat} (hc : cells ≤ 600000) (hs : slots ≤ 7290000) {tag : Nat → Nat} {L : List Nat} {F : Nat → va_E} (x0 m0 o0 : Nat) (i : Int32) (hi : 0 ≤ i.toInt ∧ i.toInt + 6 ≤ (L9 : Int)) (hT : TH G ttC (fun q : Nat => s.heap.size ≤ q) s tag L F H locs) (hI : LINV tag L F x0 m0 o0) (hl : lv_has ls 7 [(4, .int i), (3, .ref o0), (2, .ref m0), (1, .ref x0), (0, .ref b)]) (kk : ∀ (tag1 : Nat → Nat) (L1 : List Nat) (F1 : Nat → va_E) (H1 : Heap) (locs1 : List Loc) (ls1 : Array Slot) (c1 s1 : Nat), c1 ≤ cells + 17 → s1 ≤ slots + 541 → TH G ttC (fun q : Nat => s.heap.size ≤ q) s tag1 L1 F1 H1 locs1 → LINV tag1 L1 F1 x0 m0 o0 → lv_has ls1 7 [(4, .int i), (3, .ref o0), (2, .ref m0), (1, .ref x0), (0, .ref b)] → W p l e room_1 s m #[Value.ref b] below meth c H1 locs1 c1 s1 (lw_Z below #[Value.ref b] s) (F0 m 1828 ls1 [])) : W p l e room_1 s m #[Value.ref b] below meth c H locs cells slots (lw_Z below #[Value.ref b] s) (F0 m 1700 ls []) := by
  have hx := X.1.1
  have hb := X.1.2.1
  have hbA : ¬ (fun q : Nat => s.heap.size ≤ q) b := Nat.not_le.mpr hbl
  have hL9i : (L9 : Int) ≤ 3072 := by omega
  obtain ⟨mx, gx, mm, gm, mo, go, f1, f2, hf1, hf2, hff, hf0, hf9, rd, rs, rn, hrd, mrd, grd, hrs, hrn, mrs, mrn, grs, grn, hns⟩ := hI
  refine lv_aload_n hx hb dL_law_1700 rfl (lv_at hl 3 rfl) ?_
  refine lv_aload_n hx hb dL_law_1701 rfl (lv_at hl 4 rfl) ?_
  refine lv_iload hx hb dL_law_1702 (lv_at hl 0 rfl) ?_
  refine lv_iconst (v := 1) hx hb dL_law_1704 (by decide) ?_
  refine lv_iadd hx hb dL_law_1705 ?_
  refine lv_topi (fun z1 ez1 => ?_)
  have hz1 : z1.toInt = i.toInt + 1 := ar_add ez1 rfl (by decide : (1 : Int32).toInt = 1) (by omega) (by omega)
  refine va_sld hx hb hX hbl hbA hT.2.2.1 (vp_in_iff.mpr (by omega)) dL_law_1706 ?_
  refine lv_topi (fun v2 ev2 => ?_)
  refine t_cVi (n := 1) (C := RX11) (T := TX11) (N := 16) (As := [.int v2]) (rest := []) X hT (kt354_X11_back l G tag L F hT.2.2.2 x0 v2 mx gx) mx gx rfl rfl qw_1541 qw_1542 qw_1543 qw_2 qw_1544 ⟨rfl, by decide +kernel, by decide +kernel, by decide +kernel⟩ ⟨(Nat.le_of_ble_eq_true rfl), (Nat.le_of_ble_eq_true rfl)⟩ hl rfl rfl (Nat.le_of_ble_eq_true rfl) dL_law_1707 ⟨show cells + 0 ≤ 601024 from by omega, show slots + 0 ≤ 7293034 from by omega⟩ (fun r3 F H locs hT hr3 => ?_)
  refine W.widen (k := cells) (n := slots) (Nat.le_refl _) (Nat.le_refl _) ?_
  obtain ⟨hgr3, yr3⟩ := hr3
  have hf1 := (yr3.1 _ 1 (Or.inr (by decide)) (Or.inl (by rw [gx]; decide)) (Or.inr (by decide)) (Or.inr (by decide))).trans hf1
  have hf2 := (yr3.1 _ 6 (Or.inr (by decide)) (Or.inr (by decide)) (Or.inr (by decide)) (Or.inr (by decide))).trans hf2
  have hrd := (yr3.1 _ 8 (Or.inr (by decide)) (Or.inr (by decide)) (Or.inr (by decide)) (Or.inr (by decide))).trans hrd
  have hrs := (yr3.1 _ 10 (Or.inr (by decide)) (Or.inr (by decide)) (Or.inr (by decide)) (Or.inr (by decide))).trans hrs
  have hrn := (yr3.1 _ 11 (Or.inr (by decide)) (Or.inr (by decide)) (Or.inr (by decide)) (Or.inr (by decide))).trans hrn
  have hns := nsr_of (fun j => yr3.2 _ j (Or.inl grs)) (fun j => yr3.2 _ j (Or.inr grn)) hns
  refine lv_pop hx hb dL_law_1710 rfl ?_
  refine lv_aload_n hx hb dL_law_1711 rfl (lv_at hl 2 rfl) ?_
  refine lv_aload_n hx hb dL_law_1712 rfl (lv_at hl 4 rfl) ?_
  refine lv_iload hx hb dL_law_1713 (lv_at hl 0 rfl) ?_
  refine lv_iconst (v := 1) hx hb dL_law_1715 (by decide) ?_
  refine lv_iadd hx hb dL_law_1716 ?_
  refine lv_topi (fun z4 ez4 => ?_)
  have hz4 : z4.toInt = i.toInt + 1 := ar_add ez4 rfl (by decide : (1 : Int32).toInt = 1) (by omega) (by omega)
  refine va_sld hx hb hX hbl hbA hT.2.2.1 (vp_in_iff.mpr (by omega)) dL_law_1717 ?_
  refine lv_topi (fun v5 ev5 => ?_)
  refine t_cVi (n := 1) (C := RX13) (T := TX13) (N := 37) (As := [.int v5]) (rest := []) X hT (kp_X13_back l G tag L F hT.2.2.2 m0 v5 mm gm) mm gm rfl rfl qw_1549 qw_1550 qw_1551 qw_5 qw_1552 ⟨rfl, by decide +kernel, by decide +kernel, by decide +kernel⟩ ⟨(Nat.le_of_ble_eq_true rfl), (Nat.le_of_ble_eq_true rfl)⟩ hl rfl rfl (Nat.le_of_ble_eq_true rfl) dL_law_1718 ⟨show cells + 0 ≤ 601024 from by omega, show slots + 0 ≤ 7293034 from by omega⟩ (fun r6 F H locs hT hr6 => ?_)
  refine W.widen (k := cells) (n := slots) (Nat.le_refl _) (Nat.le_refl _) ?_
  obtain ⟨hgr6, yr6⟩ := hr6
  have hf1 := (yr6.1 _ 1 (Or.inr (by decide)) (Or.inl (by rw [gx]; decide)) (Or.inr (by decide)) (Or.inr (by decide))).trans hf1
  have hf2 := (yr6.1 _ 6 (Or.inr (by decide)) (Or.inr (by decide)) (Or.inr (by decide)) (Or.inr (by decide))).trans hf2
  have hrd := (yr6.1 _ 8 (Or.inr (by decide)) (Or.inr (by decide)) (Or.inr (by decide)) (Or.inr (by decide))).trans hrd
  have hrs := (yr6.1 _ 10 (Or.inr (by decide)) (Or.inr (by decide)) (Or.inr (by decide)) (Or.inr (by decide))).trans hrs
  have hrn := (yr6.1 _ 11 (Or.inr (by decide)) (Or.inr (by decide)) (Or.inr (by decide)) (Or.inr (by decide))).trans hrn
  have hns := nsr_of (fun j => yr6.2 _ j (by rw [grs]; decide)) (fun j => yr6.2 _ j (by rw [grn]; decide)) hns
  refine lv_pop hx hb dL_law_1721 rfl ?_
  refine lv_goto (tgt := 1828) hx hb dL_law_1722 (by decide) ?_
  exact kk tag L F H locs _ cells slots (by omega) (by omega) hT ⟨mx, gx, mm, gm, mo, go, f1, f2, hf1, hf2, hff, hf0, hf9, rd, rs, rn, hrd, mrd, grd, hrs, hrn, mrs, mrn, grs, grn, hns⟩ (lv_sub hl [0, 1, 2, 3, 4] rfl)
set_option maxHeartbeats 4000000 in
set_option maxRecDepth 100000 in
theorem law_c45 {p : Program} {e : Env} {s : State} {m : MethodId} {below : List Frame} {meth : Method} {c : Code} (l : Launch) (G : KG) (b : Nat) (xs : Nat → Int32) {L9 : Nat} (hL9 : L9 ≤ 3072) (X : CX p s m #[Value.ref b] meth c cL_law 7 RL ret G (fun q : Nat => s.heap.size ≤ q) lw_tbl) (hX : va_X b L9 xs s s.heap) (hbl : b < s.heap.size) {H : Heap} {locs : List Loc} {ls : Array Slot} {cells slots : Nat} (hc : cells ≤ 600000) (hs : slots ≤ 7290000) {tag : Nat → Nat} {L : List Nat} {F : Nat → va_E} (x0 m0 o0 : Nat) (i : Int32) (hi : 0 ≤ i.toInt ∧ i.toInt + 6 ≤ (L9 : Int)) (hT : TH G ttC (fun q : Nat => s.heap.size ≤ q) s tag L F H locs) (hI : LINV tag L F x0 m0 o0) (hl : lv_has ls 7 [(4, .int i), (3, .ref o0), (2, .ref m0), (1, .ref x0), (0, .ref b)]) (kk : ∀ (tag1 : Nat → Nat) (L1 : List Nat) (F1 : Nat → va_E) (H1 : Heap) (locs1 : List Loc) (ls1 : Array Slot) (c1 s1 : Nat), c1 ≤ cells + 17 → s1 ≤ slots + 541 → TH G ttC (fun q : Nat => s.heap.size ≤ q) s tag1 L1 F1 H1 locs1 → LINV tag1 L1 F1 x0 m0 o0 → lv_has ls1 7 [(4, .int i), (3, .ref o0), (2, .ref m0), (1, .ref x0), (0, .ref b)] → W p l e room_1 s m #[Value.ref b] below meth c H1 locs1 c1 s1 (lw_Z below #[Value.ref b] s) (F0 m 1828 ls1 [])) : W p l e room_1 s m #[Value.ref b] below meth c H locs cells slots (lw_Z below #[Value.ref b] s) (F0 m 1725 ls []) := by
  have hx := X.1.1
  have hb := X.1.2.1
  have hbA : ¬ (fun q : Nat => s.heap.size ≤ q) b := Nat.not_le.mpr hbl
  have hL9i : (L9 : Int) ≤ 3072 := by omega
  obtain ⟨mx, gx, mm, gm, mo, go, f1, f2, hf1, hf2, hff, hf0, hf9, rd, rs, rn, hrd, mrd, grd, hrs, hrn, mrs, mrn, grs, grn, hns⟩ := hI
  refine lv_aload_n hx hb dL_law_1725 rfl (lv_at hl 3 rfl) ?_
  refine lv_aload_n hx hb dL_law_1726 rfl (lv_at hl 4 rfl) ?_
  refine lv_iload hx hb dL_law_1727 (lv_at hl 0 rfl) ?_
  refine lv_iconst (v := 1) hx hb dL_law_1729 (by decide) ?_
  refine lv_iadd hx hb dL_law_1730 ?_
  refine lv_topi (fun z1 ez1 => ?_)
  have hz1 : z1.toInt = i.toInt + 1 := ar_add ez1 rfl (by decide : (1 : Int32).toInt = 1) (by omega) (by omega)
  refine va_sld hx hb hX hbl hbA hT.2.2.1 (vp_in_iff.mpr (by omega)) dL_law_1731 ?_
  refine lv_topi (fun v2 ev2 => ?_)
  refine lv_aload_n hx hb dL_law_1732 rfl (lv_at hl 4 rfl) ?_
  refine lv_iload hx hb dL_law_1733 (lv_at hl 0 rfl) ?_
  refine lv_iconst (v := 2) hx hb dL_law_1735 (by decide) ?_
  refine lv_iadd hx hb dL_law_1736 ?_
  refine lv_topi (fun z3 ez3 => ?_)
  have hz3 : z3.toInt = i.toInt + 2 := ar_add ez3 rfl (by decide : (2 : Int32).toInt = 2) (by omega) (by omega)
  refine va_sld hx hb hX hbl hbA hT.2.2.1 (vp_in_iff.mpr (by omega)) dL_law_1737 ?_
  refine lv_topi (fun v4 ev4 => ?_)
  refine t_cVi (n := 2) (C := RX11) (T := TX11) (N := 16) (As := [.int v2, .int v4]) (rest := []) X hT (kt415_X11_stone l G tag L F hT.2.2.2 x0 v2 v4 mx gx) mx gx rfl rfl qw_1553 qw_1554 qw_1555 qw_2 qw_1556 ⟨rfl, by decide +kernel, by decide +kernel, by decide +kernel⟩ ⟨(Nat.le_of_ble_eq_true rfl), (Nat.le_of_ble_eq_true rfl)⟩ hl rfl rfl (Nat.le_of_ble_eq_true rfl) dL_law_1738 ⟨show cells + 0 ≤ 601024 from by omega, show slots + 0 ≤ 7293034 from by omega⟩ (fun r5 F H locs hT hr5 => ?_)
  refine W.widen (k := cells) (n := slots) (Nat.le_refl _) (Nat.le_refl _) ?_
  obtain ⟨hgr5, yr5⟩ := hr5
  have hf1 := (yr5.1 _ 1 (Or.inr (by decide))).trans hf1
  have hf2 := (yr5.1 _ 6 (Or.inr (by decide))).trans hf2
  have hrd := (yr5.1 _ 8 (Or.inr (by decide))).trans hrd
  have hrs := (yr5.1 _ 10 (Or.inr (by decide))).trans hrs
  have hrn := (yr5.1 _ 11 (Or.inr (by decide))).trans hrn
  have hns := nsr_of (fun j => yr5.2 _ j (Or.inl grs)) (fun j => yr5.2 _ j (Or.inr grn)) hns
  refine lv_pop hx hb dL_law_1741 rfl ?_
  refine lv_aload_n hx hb dL_law_1742 rfl (lv_at hl 2 rfl) ?_
  refine lv_aload_n hx hb dL_law_1743 rfl (lv_at hl 4 rfl) ?_
  refine lv_iload hx hb dL_law_1744 (lv_at hl 0 rfl) ?_
  refine lv_iconst (v := 1) hx hb dL_law_1746 (by decide) ?_
  refine lv_iadd hx hb dL_law_1747 ?_
  refine lv_topi (fun z6 ez6 => ?_)
  have hz6 : z6.toInt = i.toInt + 1 := ar_add ez6 rfl (by decide : (1 : Int32).toInt = 1) (by omega) (by omega)
  refine va_sld hx hb hX hbl hbA hT.2.2.1 (vp_in_iff.mpr (by omega)) dL_law_1748 ?_
  refine lv_topi (fun v7 ev7 => ?_)
  refine lv_aload_n hx hb dL_law_1749 rfl (lv_at hl 4 rfl) ?_
  refine lv_iload hx hb dL_law_1750 (lv_at hl 0 rfl) ?_
  refine lv_iconst (v := 2) hx hb dL_law_1752 (by decide) ?_
  refine lv_iadd hx hb dL_law_1753 ?_
  refine lv_topi (fun z8 ez8 => ?_)
  have hz8 : z8.toInt = i.toInt + 2 := ar_add ez8 rfl (by decide : (2 : Int32).toInt = 2) (by omega) (by omega)
  refine va_sld hx hb hX hbl hbA hT.2.2.1 (vp_in_iff.mpr (by omega)) dL_law_1754 ?_
  refine lv_topi (fun v9 ev9 => ?_)
  refine t_cVi (n := 2) (C := RX13) (T := TX13) (N := 37) (As := [.int v7, .int v9]) (rest := []) X hT (kp_X13_stone l G tag L F hT.2.2.2 m0 v7 v9 mm gm) mm gm rfl rfl qw_1557 qw_1558 qw_1559 qw_5 qw_1560 ⟨rfl, by decide +kernel, by decide +kernel, by decide +kernel⟩ ⟨(Nat.le_of_ble_eq_true rfl), (Nat.le_of_ble_eq_true rfl)⟩ hl rfl rfl (Nat.le_of_ble_eq_true rfl) dL_law_1755 ⟨show cells + 0 ≤ 601024 from by omega, show slots + 0 ≤ 7293034 from by omega⟩ (fun r10 F H locs hT hr10 => ?_)
  refine W.widen (k := cells) (n := slots) (Nat.le_refl _) (Nat.le_refl _) ?_
  obtain ⟨hgr10, yr10⟩ := hr10
  have hf1 := (yr10.1 _ 1 (Or.inr (by decide)) (Or.inl (by rw [gx]; decide)) (Or.inr (by decide))).trans hf1
  have hf2 := (yr10.1 _ 6 (Or.inr (by decide)) (Or.inr (by decide)) (Or.inr (by decide))).trans hf2
  have hrd := (yr10.1 _ 8 (Or.inr (by decide)) (Or.inr (by decide)) (Or.inr (by decide))).trans hrd
  have hrs := (yr10.1 _ 10 (Or.inr (by decide)) (Or.inr (by decide)) (Or.inr (by decide))).trans hrs
  have hrn := (yr10.1 _ 11 (Or.inr (by decide)) (Or.inr (by decide)) (Or.inr (by decide))).trans hrn
  have hns := nsr_of (fun j => yr10.2 _ j ) (fun j => yr10.2 _ j ) hns
  refine lv_pop hx hb dL_law_1758 rfl ?_
  refine lv_goto (tgt := 1828) hx hb dL_law_1759 (by decide) ?_
  exact kk tag L F H locs _ cells slots (by omega) (by omega) hT ⟨mx, gx, mm, gm, mo, go, f1, f2, hf1, hf2, hff, hf0, hf9, rd, rs, rn, hrd, mrd, grd, hrs, hrn, mrs, mrn, grs, grn, hns⟩ (lv_sub hl [0, 1, 2, 3, 4] rfl)
set_option maxHeartbeats 4000000 in
set_option maxRecDepth 100000 in
theorem law_c46 {p : Program} {e : Env} {s : State} {m : MethodId} {below : List Frame} {meth : Method} {c : Code} (l : Launch) (G : KG) (b : Nat) (xs : Nat → Int32) {L9 : Nat} (hL9 : L9 ≤ 3072) (hlt : l.stackTraces = false) (hEX : EX s) (hU : vx_Zq Bundle.tN "UNASSIGNED_STACK" Bundle.steD (fun q : Nat => s.heap.size ≤ q) s s.heap) (hN : vx_Zq Bundle.tN "SUPPRESSED_SENTINEL" Bundle.listD (fun q : Nat => s.heap.size ≤ q) s s.heap) (X : CX p s m #[Value.ref b] meth c cL_law 7 RL ret G (fun q : Nat => s.heap.size ≤ q) lw_tbl) (hX : va_X b L9 xs s s.heap) (hbl : b < s.heap.size) {H : Heap} {locs : List Loc} {ls : Array Slot} {cells slots : Nat} (hc : cells ≤ 600000) (hs : slots ≤ 7290000) {tag : Nat → Nat} {L : List Nat} {F : Nat → va_E} (x0 m0 o0 : Nat) (i : Int32) (hi : 0 ≤ i.toInt ∧ i.toInt + 6 ≤ (L9 : Int)) (hT : TH G ttC (fun q : Nat => s.heap.size ≤ q) s tag L F H locs) (hI : LINV tag L F x0 m0 o0) (hl : lv_has ls 7 [(4, .int i), (3, .ref o0), (2, .ref m0), (1, .ref x0), (0, .ref b)]) (kk : ∀ (tag1 : Nat → Nat) (L1 : List Nat) (F1 : Nat → va_E) (H1 : Heap) (locs1 : List Loc) (ls1 : Array Slot) (c1 s1 : Nat), c1 ≤ cells + 17 → s1 ≤ slots + 541 → TH G ttC (fun q : Nat => s.heap.size ≤ q) s tag1 L1 F1 H1 locs1 → LINV tag1 L1 F1 x0 m0 o0 → lv_has ls1 7 [(4, .int i), (3, .ref o0), (2, .ref m0), (1, .ref x0), (0, .ref b)] → W p l e room_1 s m #[Value.ref b] below meth c H1 locs1 c1 s1 (lw_Z below #[Value.ref b] s) (F0 m 1828 ls1 [])) : W p l e room_1 s m #[Value.ref b] below meth c H locs cells slots (lw_Z below #[Value.ref b] s) (F0 m 1762 ls []) := by
  have hx := X.1.1
  have hb := X.1.2.1
  have hbA : ¬ (fun q : Nat => s.heap.size ≤ q) b := Nat.not_le.mpr hbl
  have hL9i : (L9 : Int) ≤ 3072 := by omega
  obtain ⟨mx, gx, mm, gm, mo, go, f1, f2, hf1, hf2, hff, hf0, hf9, rd, rs, rn, hrd, mrd, grd, hrs, hrn, mrs, mrn, grs, grn, hns⟩ := hI
  refine lv_aload_n hx hb dL_law_1762 rfl (lv_at hl 3 rfl) ?_
  refine lv_aload_n hx hb dL_law_1763 rfl (lv_at hl 4 rfl) ?_
  refine lv_iload hx hb dL_law_1764 (lv_at hl 0 rfl) ?_
  refine lv_iconst (v := 1) hx hb dL_law_1766 (by decide) ?_
  refine lv_iadd hx hb dL_law_1767 ?_
  refine lv_topi (fun z1 ez1 => ?_)
  have hz1 : z1.toInt = i.toInt + 1 := ar_add ez1 rfl (by decide : (1 : Int32).toInt = 1) (by omega) (by omega)
  refine va_sld hx hb hX hbl hbA hT.2.2.1 (vp_in_iff.mpr (by omega)) dL_law_1768 ?_
  refine lv_topi (fun v2 ev2 => ?_)
  refine lv_aload_n hx hb dL_law_1769 rfl (lv_at hl 1 rfl) ?_
  have hFc := th_all hT X.2.2.2.2.1
  have hG : GoodIn lw_tbl (va_wsS RL 211 yL_led (.codeWith yL_led cL_led 4 (some .int) [(0, 9, 12, 13)] :: (wsL_law ++ VXG))) := gTX (fun w h => (List.mem_append.mp h).elim (wsL_law_in w) (VXG_in w)) (fun w hw => by
    simp only [va_wsS, List.cons_append, List.nil_append, List.mem_cons] at hw
    rcases hw with rfl | rfl | rfl | rfl | hw
    · exact List.mem_append_left _ qw_1561
    · exact List.mem_append_left _ qw_1562
    · exact List.mem_append_left _ qw_1563
    · exact List.mem_append_left _ qw_1564
    · exact hw)
  refine va_calli (vx_runSW (As := [.ref x0, .int v2, .ref o0]) (rest := []) X.1 (kl_led l hlt G tag L F hT.2.2.2 x0 v2 o0 mx gx mo go H.size) (vx_cwSW 3 X.1.2.2.2.2 hG rfl rfl rfl ⟨by decide +kernel, by decide +kernel, by decide +kernel⟩ ⟨(Nat.le_of_ble_eq_true rfl), (Nat.le_of_ble_eq_true rfl)⟩) ⟨PwX_blind, fun U hU9 hW => ⟨rfl, (m_pre (U0 := s) (av := [.ref x0, .int v2, .ref o0]) X.2.2.1 X.2.2.2.1 hT.1 hT.2.1 hT.2.2.1 hFc U hU9 hW).2, EX.warm hW hEX, zq_pre hU hT.2.2.1 hFc hU9 hW, zq_pre hN hT.2.2.1 hFc hU9 hW⟩⟩ rfl rfl hl.1 rfl (lv_room (Nat.le_of_ble_eq_true rfl)) dL_law_1770 ⟨show cells + 1 ≤ 601024 from by omega, show slots + 6 ≤ 7293034 from by omega⟩) hT.2.2.1 (fun q _ h => hFc q h) hFc (fun r3 F t H locs ht hvm hw hB hz1 hk1 hS1 => ?_)
  obtain ⟨hP1, hD1⟩ := hB
  rw [ht] at hP1
  have hT := th_back hT X.2.2.2.2.1 hP1 hD1 hS1 hw.1
  have y9 := hw.2
  refine W.widen (k := cells + 1) (n := slots + 6) (Nat.le_refl _) (Nat.le_refl _) ?_
  have hf1 := (y9.1 _ 1).trans hf1
  have hf2 := (y9.1 _ 6).trans hf2
  have hrd := (y9.1 _ 8).trans hrd
  have hrs := (y9.1 _ 10).trans hrs
  have hrn := (y9.1 _ 11).trans hrn
  have hns := nsr_of (fun j => y9.2 _ j) (fun j => y9.2 _ j) hns
  refine lv_istore (lv' := [(5, .int r3), (4, .int i), (3, .ref o0), (2, .ref m0), (1, .ref x0), (0, .ref b)]) hx hb dL_law_1773 hl (by decide) rfl (fun ls hl => ?_)
  refine lv_aload_n hx hb dL_law_1775 rfl (lv_at hl 3 rfl) ?_
  refine lv_aload_n hx hb dL_law_1776 rfl (lv_at hl 5 rfl) ?_
  refine lv_iload hx hb dL_law_1777 (lv_at hl 1 rfl) ?_
  refine lv_iconst (v := 1) hx hb dL_law_1779 (by decide) ?_
  refine lv_iadd hx hb dL_law_1780 ?_
  refine lv_topi (fun z4 ez4 => ?_)
  have hz4 : z4.toInt = i.toInt + 1 := ar_add ez4 rfl (by decide : (1 : Int32).toInt = 1) (by omega) (by omega)
  refine va_sld hx hb hX hbl hbA hT.2.2.1 (vp_in_iff.mpr (by omega)) dL_law_1781 ?_
  refine lv_topi (fun v5 ev5 => ?_)
  refine t_cVi (n := 1) (C := RX13) (T := TX13) (N := 37) (As := [.int v5]) (rest := []) X hT (kp_X13_led l G tag L F hT.2.2.2 m0 v5 mm gm) mm gm rfl rfl qw_1572 qw_1573 qw_1574 qw_5 qw_1575 ⟨rfl, by decide +kernel, by decide +kernel, by decide +kernel⟩ ⟨(Nat.le_of_ble_eq_true rfl), (Nat.le_of_ble_eq_true rfl)⟩ hl rfl rfl (Nat.le_of_ble_eq_true rfl) dL_law_1782 ⟨show (cells + 1) + 0 ≤ 601024 from by omega, show (slots + 6) + 0 ≤ 7293034 from by omega⟩ (fun r6 F H locs hT hr6 => ?_)
  refine W.widen (k := cells + 1) (n := slots + 6) (Nat.le_refl _) (Nat.le_refl _) ?_
  obtain ⟨hgr6, yr6⟩ := hr6
  have hf1 := (yr6.1 _ 1 (Or.inr (by decide))).trans hf1
  have hf2 := (yr6.1 _ 6 (Or.inr (by decide))).trans hf2
  have hrd := (yr6.1 _ 8 (Or.inr (by decide))).trans hrd
  have hrs := (yr6.1 _ 10 (Or.inr (by decide))).trans hrs
  have hrn := (yr6.1 _ 11 (Or.inr (by decide))).trans hrn
  have hns := nsr_of (fun j => yr6.2 _ j ) (fun j => yr6.2 _ j ) hns
  refine lv_istore (lv' := [(6, .int r6), (5, .int r3), (4, .int i), (3, .ref o0), (2, .ref m0), (1, .ref x0), (0, .ref b)]) hx hb dL_law_1785 hl (by decide) rfl (fun ls hl => ?_)
  refine lv_goto (tgt := 1828) hx hb dL_law_1787 (by decide) ?_
  exact kk tag L F H locs _ (cells + 1) (slots + 6) (by omega) (by omega) hT ⟨mx, gx, mm, gm, mo, go, f1, f2, hf1, hf2, hff, hf0, hf9, rd, rs, rn, hrd, mrd, grd, hrs, hrn, mrs, mrn, grs, grn, hns⟩ (lv_sub hl [2, 3, 4, 5, 6] rfl)
set_option maxHeartbeats 4000000 in
set_option maxRecDepth 100000 in
theorem law_c47 {p : Program} {e : Env} {s : State} {m : MethodId} {below : List Frame} {meth : Method} {c : Code} (l : Launch) (G : KG) (b : Nat) (xs : Nat → Int32) {L9 : Nat} (hL9 : L9 ≤ 3072) (X : CX p s m #[Value.ref b] meth c cL_law 7 RL ret G (fun q : Nat => s.heap.size ≤ q) lw_tbl) (hX : va_X b L9 xs s s.heap) (hbl : b < s.heap.size) {H : Heap} {locs : List Loc} {ls : Array Slot} {cells slots : Nat} (hc : cells ≤ 600000) (hs : slots ≤ 7290000) {tag : Nat → Nat} {L : List Nat} {F : Nat → va_E} (x0 m0 o0 : Nat) (i : Int32) (hi : 0 ≤ i.toInt ∧ i.toInt + 6 ≤ (L9 : Int)) (hT : TH G ttC (fun q : Nat => s.heap.size ≤ q) s tag L F H locs) (hI : LINV tag L F x0 m0 o0) (hl : lv_has ls 7 [(4, .int i), (3, .ref o0), (2, .ref m0), (1, .ref x0), (0, .ref b)]) (kk : ∀ (tag1 : Nat → Nat) (L1 : List Nat) (F1 : Nat → va_E) (H1 : Heap) (locs1 : List Loc) (ls1 : Array Slot) (c1 s1 : Nat), c1 ≤ cells + 17 → s1 ≤ slots + 541 → TH G ttC (fun q : Nat => s.heap.size ≤ q) s tag1 L1 F1 H1 locs1 → LINV tag1 L1 F1 x0 m0 o0 → lv_has ls1 7 [(4, .int i), (3, .ref o0), (2, .ref m0), (1, .ref x0), (0, .ref b)] → W p l e room_1 s m #[Value.ref b] below meth c H1 locs1 c1 s1 (lw_Z below #[Value.ref b] s) (F0 m 1828 ls1 [])) : W p l e room_1 s m #[Value.ref b] below meth c H locs cells slots (lw_Z below #[Value.ref b] s) (F0 m 1790 ls []) := by
  have hx := X.1.1
  have hb := X.1.2.1
  have hbA : ¬ (fun q : Nat => s.heap.size ≤ q) b := Nat.not_le.mpr hbl
  have hL9i : (L9 : Int) ≤ 3072 := by omega
  obtain ⟨mx, gx, mm, gm, mo, go, f1, f2, hf1, hf2, hff, hf0, hf9, rd, rs, rn, hrd, mrd, grd, hrs, hrn, mrs, mrn, grs, grn, hns⟩ := hI
  refine lv_aload_n hx hb dL_law_1790 rfl (lv_at hl 3 rfl) ?_
  refine lv_aload_n hx hb dL_law_1791 rfl (lv_at hl 4 rfl) ?_
  refine lv_iload hx hb dL_law_1792 (lv_at hl 0 rfl) ?_
  refine lv_iconst (v := 1) hx hb dL_law_1794 (by decide) ?_
  refine lv_iadd hx hb dL_law_1795 ?_
  refine lv_topi (fun z1 ez1 => ?_)
  have hz1 : z1.toInt = i.toInt + 1 := ar_add ez1 rfl (by decide : (1 : Int32).toInt = 1) (by omega) (by omega)
  refine va_sld hx hb hX hbl hbA hT.2.2.1 (vp_in_iff.mpr (by omega)) dL_law_1796 ?_
  refine lv_topi (fun v2 ev2 => ?_)
  refine t_cVi (n := 1) (C := RX11) (T := TX11) (N := 16) (As := [.int v2]) (rest := []) X hT (kt411_X11_size l G tag L F hT.2.2.2 x0 v2 mx gx) mx gx rfl rfl qw_1576 qw_1577 qw_1578 qw_2 qw_1579 ⟨rfl, by decide +kernel, by decide +kernel, by decide +kernel⟩ ⟨(Nat.le_of_ble_eq_true rfl), (Nat.le_of_ble_eq_true rfl)⟩ hl rfl rfl (Nat.le_of_ble_eq_true rfl) dL_law_1797 ⟨show cells + 0 ≤ 601024 from by omega, show slots + 0 ≤ 7293034 from by omega⟩ (fun r3 F9 H locs hT hr3 => ?_)
  refine W.widen (k := cells) (n := slots) (Nat.le_refl _) (Nat.le_refl _) ?_
  rw [hr3.1] at hT
  refine lv_pop hx hb dL_law_1800 rfl ?_
  refine lv_aload_n hx hb dL_law_1801 rfl (lv_at hl 2 rfl) ?_
  refine lv_aload_n hx hb dL_law_1802 rfl (lv_at hl 4 rfl) ?_
  refine lv_iload hx hb dL_law_1803 (lv_at hl 0 rfl) ?_
  refine lv_iconst (v := 1) hx hb dL_law_1805 (by decide) ?_
  refine lv_iadd hx hb dL_law_1806 ?_
  refine lv_topi (fun z4 ez4 => ?_)
  have hz4 : z4.toInt = i.toInt + 1 := ar_add ez4 rfl (by decide : (1 : Int32).toInt = 1) (by omega) (by omega)
  refine va_sld hx hb hX hbl hbA hT.2.2.1 (vp_in_iff.mpr (by omega)) dL_law_1807 ?_
  refine lv_topi (fun v5 ev5 => ?_)
  refine t_cVi (n := 1) (C := RX13) (T := TX13) (N := 37) (As := [.int v5]) (rest := []) X hT (kp_X13_size l G tag L F hT.2.2.2 m0 v5 mm gm) mm gm rfl rfl qw_1592 qw_1593 qw_1594 qw_5 qw_1595 ⟨rfl, by decide +kernel, by decide +kernel, by decide +kernel⟩ ⟨(Nat.le_of_ble_eq_true rfl), (Nat.le_of_ble_eq_true rfl)⟩ hl rfl rfl (Nat.le_of_ble_eq_true rfl) dL_law_1808 ⟨show cells + 0 ≤ 601024 from by omega, show slots + 0 ≤ 7293034 from by omega⟩ (fun r6 F H locs hT hr6 => ?_)
  refine W.widen (k := cells) (n := slots) (Nat.le_refl _) (Nat.le_refl _) ?_
  obtain ⟨hgr6, yr6⟩ := hr6
  have hf1 := (yr6.1 _ 1 (Or.inr (by decide))).trans hf1
  have hf2 := (yr6.1 _ 6 (Or.inr (by decide))).trans hf2
  have hrd := (yr6.1 _ 8 (Or.inr (by decide))).trans hrd
  have hrs := (yr6.1 _ 10 (Or.inr (by decide))).trans hrs
  have hrn := (yr6.1 _ 11 (Or.inr (by decide))).trans hrn
  have hns := nsr_of (fun j => yr6.2 _ j ) (fun j => yr6.2 _ j ) hns
  refine lv_pop hx hb dL_law_1811 rfl ?_
  refine lv_goto (tgt := 1828) hx hb dL_law_1812 (by decide) ?_
  exact kk tag L F H locs _ cells slots (by omega) (by omega) hT ⟨mx, gx, mm, gm, mo, go, f1, f2, hf1, hf2, hff, hf0, hf9, rd, rs, rn, hrd, mrd, grd, hrs, hrn, mrs, mrn, grs, grn, hns⟩ (lv_sub hl [0, 1, 2, 3, 4] rfl)
set_option maxHeartbeats 4000000 in
set_option maxRecDepth 100000 in
theorem law_c48 {p : Program} {e : Env} {s : State} {m : MethodId} {below : List Frame} {meth : Method} {c : Code} (l : Launch) (G : KG) (b : Nat) (xs : Nat → Int32) {L9 : Nat} (hL9 : L9 ≤ 3072) (X : CX p s m #[Value.ref b] meth c cL_law 7 RL ret G (fun q : Nat => s.heap.size ≤ q) lw_tbl) (hX : va_X b L9 xs s s.heap) (hbl : b < s.heap.size) {H : Heap} {locs : List Loc} {ls : Array Slot} {cells slots : Nat} (hc : cells ≤ 600000) (hs : slots ≤ 7290000) {tag : Nat → Nat} {L : List Nat} {F : Nat → va_E} (x0 m0 o0 : Nat) (i : Int32) (hi : 0 ≤ i.toInt ∧ i.toInt + 6 ≤ (L9 : Int)) (hT : TH G ttC (fun q : Nat => s.heap.size ≤ q) s tag L F H locs) (hI : LINV tag L F x0 m0 o0) (hl : lv_has ls 7 [(4, .int i), (3, .ref o0), (2, .ref m0), (1, .ref x0), (0, .ref b)]) (kk : ∀ (tag1 : Nat → Nat) (L1 : List Nat) (F1 : Nat → va_E) (H1 : Heap) (locs1 : List Loc) (ls1 : Array Slot) (c1 s1 : Nat), c1 ≤ cells + 17 → s1 ≤ slots + 541 → TH G ttC (fun q : Nat => s.heap.size ≤ q) s tag1 L1 F1 H1 locs1 → LINV tag1 L1 F1 x0 m0 o0 → lv_has ls1 7 [(4, .int i), (3, .ref o0), (2, .ref m0), (1, .ref x0), (0, .ref b)] → W p l e room_1 s m #[Value.ref b] below meth c H1 locs1 c1 s1 (lw_Z below #[Value.ref b] s) (F0 m 1828 ls1 [])) : W p l e room_1 s m #[Value.ref b] below meth c H locs cells slots (lw_Z below #[Value.ref b] s) (F0 m 1815 ls []) := by
  have hx := X.1.1
  have hb := X.1.2.1
  have hbA : ¬ (fun q : Nat => s.heap.size ≤ q) b := Nat.not_le.mpr hbl
  have hL9i : (L9 : Int) ≤ 3072 := by omega
  obtain ⟨mx, gx, mm, gm, mo, go, f1, f2, hf1, hf2, hff, hf0, hf9, rd, rs, rn, hrd, mrd, grd, hrs, hrn, mrs, mrn, grs, grn, hns⟩ := hI
  refine lv_aload_n hx hb dL_law_1815 rfl (lv_at hl 3 rfl) ?_
  refine t_cVi (n := 0) (C := RX11) (T := TX11) (N := 16) (As := []) (rest := []) X hT (kt420_X11_trouble l G tag L F hT.2.2.2 x0 mx gx) mx gx rfl rfl qw_1596 qw_1597 qw_1598 qw_2 qw_1599 ⟨rfl, by decide +kernel, by decide +kernel, by decide +kernel⟩ ⟨(Nat.le_of_ble_eq_true rfl), (Nat.le_of_ble_eq_true rfl)⟩ hl rfl rfl (Nat.le_of_ble_eq_true rfl) dL_law_1816 ⟨show cells + 0 ≤ 601024 from by omega, show slots + 0 ≤ 7293034 from by omega⟩ (fun r1 F9 H locs hT hr1 => ?_)
  refine W.widen (k := cells) (n := slots) (Nat.le_refl _) (Nat.le_refl _) ?_
  rw [hr1.1] at hT
  refine lv_pop hx hb dL_law_1819 rfl ?_
  refine lv_aload_n hx hb dL_law_1820 rfl (lv_at hl 2 rfl) ?_
  refine t_cVi (n := 0) (C := RX13) (T := TX13) (N := 37) (As := []) (rest := []) X hT (km86_X13_trouble l G tag L F hT.2.2.2 m0 mm gm) mm gm rfl rfl qw_1600 qw_1601 qw_1602 qw_5 qw_1603 ⟨rfl, by decide +kernel, by decide +kernel, by decide +kernel⟩ ⟨(Nat.le_of_ble_eq_true rfl), (Nat.le_of_ble_eq_true rfl)⟩ hl rfl rfl (Nat.le_of_ble_eq_true rfl) dL_law_1821 ⟨show cells + 0 ≤ 601024 from by omega, show slots + 0 ≤ 7293034 from by omega⟩ (fun r2 F H locs hT hr2 => ?_)
  refine W.widen (k := cells) (n := slots) (Nat.le_refl _) (Nat.le_refl _) ?_
  obtain ⟨hgr2, yr2⟩ := hr2
  have hf1 := (yr2.1 _ 1 (Or.inr (by decide))).trans hf1
  have hf2 := (yr2.1 _ 6 (Or.inr (by decide))).trans hf2
  have hrd := (yr2.1 _ 8 (Or.inr (by decide))).trans hrd
  have hrs := (yr2.1 _ 10 (Or.inr (by decide))).trans hrs
  have hrn := (yr2.1 _ 11 (Or.inr (by decide))).trans hrn
  have hns := nsr_of (fun j => yr2.2 _ j ) (fun j => yr2.2 _ j ) hns
  refine lv_pop hx hb dL_law_1824 rfl ?_
  refine lv_goto (tgt := 1828) hx hb dL_law_1825 (by decide) ?_
  exact kk tag L F H locs _ cells slots (by omega) (by omega) hT ⟨mx, gx, mm, gm, mo, go, f1, f2, hf1, hf2, hff, hf0, hf9, rd, rs, rn, hrd, mrd, grd, hrs, hrn, mrs, mrn, grs, grn, hns⟩ (lv_sub hl [0, 1, 2, 3, 4] rfl)
