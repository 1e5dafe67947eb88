set_option maxHeartbeats 4000000 in
set_option maxRecDepth 100000 in
theorem law_c10 {p : Program} {e : Env} {s : State} {m : MethodId} {below : List Frame} {meth : Method} {c : Code} (l : Launch) (G : KG) (b : Nat) (xs : Nat → Int32) {L9 : Nat} (hL9 : L9 ≤ 3072) (X : CX p s m #[Value.ref b] meth c cL_law 7 RL ret G (fun q : Nat => s.heap.size ≤ q) lw_tbl) (hX : va_X b L9 xs s s.heap) (hbl : b < s.heap.size) {H : Heap} {locs : List Loc} {ls : Array Slot} {cells slots : Nat} (hc : cells ≤ 600000) (hs : slots ≤ 7290000) {tag : Nat → Nat} {L : List Nat} {F : Nat → va_E} (x0 m0 o0 : Nat) (i : Int32) (hi : 0 ≤ i.toInt ∧ i.toInt + 6 ≤ (L9 : Int)) (hT : TH G ttC (fun q : Nat => s.heap.size ≤ q) s tag L F H locs) (hI : LINV tag L F x0 m0 o0) (hl : lv_has ls 7 [(4, .int i), (3, .ref o0), (2, .ref m0), (1, .ref x0), (0, .ref b)]) (kk : ∀ (tag1 : Nat → Nat) (L1 : List Nat) (F1 : Nat → va_E) (H1 : Heap) (locs1 : List Loc) (ls1 : Array Slot) (c1 s1 : Nat), c1 ≤ cells + 17 → s1 ≤ slots + 541 → TH G ttC (fun q : Nat => s.heap.size ≤ q) s tag1 L1 F1 H1 locs1 → LINV tag1 L1 F1 x0 m0 o0 → lv_has ls1 7 [(4, .int i), (3, .ref o0), (2, .ref m0), (1, .ref x0), (0, .ref b)] → W p l e room_1 s m #[Value.ref b] below meth c H1 locs1 c1 s1 (lw_Z below #[Value.ref b] s) (F0 m 1828 ls1 [])) : W p l e room_1 s m #[Value.ref b] below meth c H locs cells slots (lw_Z below #[Value.ref b] s) (F0 m 562 ls []) := by
  have hx := X.1.1
  have hb := X.1.2.1
  have hbA : ¬ (fun q : Nat => s.heap.size ≤ q) b := Nat.not_le.mpr hbl
  have hL9i : (L9 : Int) ≤ 3072 := by omega
  obtain ⟨mx, gx, mm, gm, mo, go, f1, f2, hf1, hf2, hff, hf0, hf9, rd, rs, rn, hrd, mrd, grd, hrs, hrn, mrs, mrn, grs, grn, hns⟩ := hI
  refine lv_aload_n hx hb dL_law_562 rfl (lv_at hl 3 rfl) ?_
  refine lv_aload_n hx hb dL_law_563 rfl (lv_at hl 4 rfl) ?_
  refine lv_iload hx hb dL_law_564 (lv_at hl 0 rfl) ?_
  refine lv_iconst (v := 1) hx hb dL_law_566 (by decide) ?_
  refine lv_iadd hx hb dL_law_567 ?_
  refine lv_topi (fun z1 ez1 => ?_)
  have hz1 : z1.toInt = i.toInt + 1 := ar_add ez1 rfl (by decide : (1 : Int32).toInt = 1) (by omega) (by omega)
  refine va_sld hx hb hX hbl hbA hT.2.2.1 (vp_in_iff.mpr (by omega)) dL_law_568 ?_
  refine lv_topi (fun v2 ev2 => ?_)
  refine lv_aload_n hx hb dL_law_569 rfl (lv_at hl 4 rfl) ?_
  refine lv_iload hx hb dL_law_570 (lv_at hl 0 rfl) ?_
  refine lv_iconst (v := 2) hx hb dL_law_572 (by decide) ?_
  refine lv_iadd hx hb dL_law_573 ?_
  refine lv_topi (fun z3 ez3 => ?_)
  have hz3 : z3.toInt = i.toInt + 2 := ar_add ez3 rfl (by decide : (2 : Int32).toInt = 2) (by omega) (by omega)
  refine va_sld hx hb hX hbl hbA hT.2.2.1 (vp_in_iff.mpr (by omega)) dL_law_574 ?_
  refine lv_topi (fun v4 ev4 => ?_)
  refine t_cVi (n := 2) (C := RX11) (T := TX11) (N := 16) (As := [.int v2, .int v4]) (rest := []) X hT (kt395_X11_light l G tag L F hT.2.2.2 x0 v2 v4 mx gx) mx gx rfl rfl qw_873 qw_874 qw_875 qw_2 qw_876 ⟨rfl, by decide +kernel, by decide +kernel, by decide +kernel⟩ ⟨(Nat.le_of_ble_eq_true rfl), (Nat.le_of_ble_eq_true rfl)⟩ hl rfl rfl (Nat.le_of_ble_eq_true rfl) dL_law_575 ⟨show cells + 0 ≤ 601024 from by omega, show slots + 0 ≤ 7293034 from by omega⟩ (fun r5 F H locs hT hr5 => ?_)
  refine W.widen (k := cells) (n := slots) (Nat.le_refl _) (Nat.le_refl _) ?_
  obtain ⟨hgr5, yr5⟩ := hr5
  have hf1 := (yr5.1 _ 1 (Or.inr (by decide))).trans hf1
  have hf2 := (yr5.1 _ 6 (Or.inr (by decide))).trans hf2
  have hrd := (yr5.1 _ 8 (Or.inr (by decide))).trans hrd
  have hrs := (yr5.1 _ 10 (Or.inr (by decide))).trans hrs
  have hrn := (yr5.1 _ 11 (Or.inr (by decide))).trans hrn
  have hns := nsr_of (fun j => yr5.2 _ j (Or.inl grs)) (fun j => yr5.2 _ j (Or.inr grn)) hns
  refine lv_pop hx hb dL_law_578 rfl ?_
  refine lv_aload_n hx hb dL_law_579 rfl (lv_at hl 2 rfl) ?_
  refine lv_aload_n hx hb dL_law_580 rfl (lv_at hl 4 rfl) ?_
  refine lv_iload hx hb dL_law_581 (lv_at hl 0 rfl) ?_
  refine lv_iconst (v := 1) hx hb dL_law_583 (by decide) ?_
  refine lv_iadd hx hb dL_law_584 ?_
  refine lv_topi (fun z6 ez6 => ?_)
  have hz6 : z6.toInt = i.toInt + 1 := ar_add ez6 rfl (by decide : (1 : Int32).toInt = 1) (by omega) (by omega)
  refine va_sld hx hb hX hbl hbA hT.2.2.1 (vp_in_iff.mpr (by omega)) dL_law_585 ?_
  refine lv_topi (fun v7 ev7 => ?_)
  refine lv_aload_n hx hb dL_law_586 rfl (lv_at hl 4 rfl) ?_
  refine lv_iload hx hb dL_law_587 (lv_at hl 0 rfl) ?_
  refine lv_iconst (v := 2) hx hb dL_law_589 (by decide) ?_
  refine lv_iadd hx hb dL_law_590 ?_
  refine lv_topi (fun z8 ez8 => ?_)
  have hz8 : z8.toInt = i.toInt + 2 := ar_add ez8 rfl (by decide : (2 : Int32).toInt = 2) (by omega) (by omega)
  refine va_sld hx hb hX hbl hbA hT.2.2.1 (vp_in_iff.mpr (by omega)) dL_law_591 ?_
  refine lv_topi (fun v9 ev9 => ?_)
  refine t_cVi (n := 2) (C := RX13) (T := TX13) (N := 37) (As := [.int v7, .int v9]) (rest := []) X hT (kp_X13_light l G tag L F hT.2.2.2 m0 v7 v9 mm gm) mm gm rfl rfl qw_877 qw_878 qw_879 qw_5 qw_880 ⟨rfl, by decide +kernel, by decide +kernel, by decide +kernel⟩ ⟨(Nat.le_of_ble_eq_true rfl), (Nat.le_of_ble_eq_true rfl)⟩ hl rfl rfl (Nat.le_of_ble_eq_true rfl) dL_law_592 ⟨show cells + 0 ≤ 601024 from by omega, show slots + 0 ≤ 7293034 from by omega⟩ (fun r10 F H locs hT hr10 => ?_)
  refine W.widen (k := cells) (n := slots) (Nat.le_refl _) (Nat.le_refl _) ?_
  obtain ⟨hgr10, yr10⟩ := hr10
  have hf1 := (yr10.1 _ 1 (Or.inr (by decide)) (Or.inl (by rw [gx]; decide)) (Or.inr (by decide))).trans hf1
  have hf2 := (yr10.1 _ 6 (Or.inr (by decide)) (Or.inr (by decide)) (Or.inr (by decide))).trans hf2
  have hrd := (yr10.1 _ 8 (Or.inr (by decide)) (Or.inr (by decide)) (Or.inr (by decide))).trans hrd
  have hrs := (yr10.1 _ 10 (Or.inr (by decide)) (Or.inr (by decide)) (Or.inr (by decide))).trans hrs
  have hrn := (yr10.1 _ 11 (Or.inr (by decide)) (Or.inr (by decide)) (Or.inr (by decide))).trans hrn
  have hns := nsr_of (fun j => yr10.2 _ j ) (fun j => yr10.2 _ j ) hns
  refine lv_pop hx hb dL_law_595 rfl ?_
  refine lv_goto (tgt := 1828) hx hb dL_law_596 (by decide) ?_
  exact kk tag L F H locs _ cells slots (by omega) (by omega) hT ⟨mx, gx, mm, gm, mo, go, f1, f2, hf1, hf2, hff, hf0, hf9, rd, rs, rn, hrd, mrd, grd, hrs, hrn, mrs, mrn, grs, grn, hns⟩ (lv_sub hl [0, 1, 2, 3, 4] rfl)
set_option maxHeartbeats 4000000 in
set_option maxRecDepth 100000 in
theorem law_c11 {p : Program} {e : Env} {s : State} {m : MethodId} {below : List Frame} {meth : Method} {c : Code} (l : Launch) (G : KG) (b : Nat) (xs : Nat → Int32) {L9 : Nat} (hL9 : L9 ≤ 3072) (X : CX p s m #[Value.ref b] meth c cL_law 7 RL ret G (fun q : Nat => s.heap.size ≤ q) lw_tbl) (hX : va_X b L9 xs s s.heap) (hbl : b < s.heap.size) {H : Heap} {locs : List Loc} {ls : Array Slot} {cells slots : Nat} (hc : cells ≤ 600000) (hs : slots ≤ 7290000) {tag : Nat → Nat} {L : List Nat} {F : Nat → va_E} (x0 m0 o0 : Nat) (i : Int32) (hi : 0 ≤ i.toInt ∧ i.toInt + 6 ≤ (L9 : Int)) (hT : TH G ttC (fun q : Nat => s.heap.size ≤ q) s tag L F H locs) (hI : LINV tag L F x0 m0 o0) (hl : lv_has ls 7 [(4, .int i), (3, .ref o0), (2, .ref m0), (1, .ref x0), (0, .ref b)]) (kk : ∀ (tag1 : Nat → Nat) (L1 : List Nat) (F1 : Nat → va_E) (H1 : Heap) (locs1 : List Loc) (ls1 : Array Slot) (c1 s1 : Nat), c1 ≤ cells + 17 → s1 ≤ slots + 541 → TH G ttC (fun q : Nat => s.heap.size ≤ q) s tag1 L1 F1 H1 locs1 → LINV tag1 L1 F1 x0 m0 o0 → lv_has ls1 7 [(4, .int i), (3, .ref o0), (2, .ref m0), (1, .ref x0), (0, .ref b)] → W p l e room_1 s m #[Value.ref b] below meth c H1 locs1 c1 s1 (lw_Z below #[Value.ref b] s) (F0 m 1828 ls1 [])) : W p l e room_1 s m #[Value.ref b] below meth c H locs cells slots (lw_Z below #[Value.ref b] s) (F0 m 599 ls []) := by
  have hx := X.1.1
  have hb := X.1.2.1
  have hbA : ¬ (fun q : Nat => s.heap.size ≤ q) b := Nat.not_le.mpr hbl
  have hL9i : (L9 : Int) ≤ 3072 := by omega
  obtain ⟨mx, gx, mm, gm, mo, go, f1, f2, hf1, hf2, hff, hf0, hf9, rd, rs, rn, hrd, mrd, grd, hrs, hrn, mrs, mrn, grs, grn, hns⟩ := hI
  refine lv_aload_n hx hb dL_law_599 rfl (lv_at hl 3 rfl) ?_
  refine lv_aload_n hx hb dL_law_600 rfl (lv_at hl 4 rfl) ?_
  refine lv_iload hx hb dL_law_601 (lv_at hl 0 rfl) ?_
  refine lv_iconst (v := 1) hx hb dL_law_603 (by decide) ?_
  refine lv_iadd hx hb dL_law_604 ?_
  refine lv_topi (fun z1 ez1 => ?_)
  have hz1 : z1.toInt = i.toInt + 1 := ar_add ez1 rfl (by decide : (1 : Int32).toInt = 1) (by omega) (by omega)
  refine va_sld hx hb hX hbl hbA hT.2.2.1 (vp_in_iff.mpr (by omega)) dL_law_605 ?_
  refine lv_topi (fun v2 ev2 => ?_)
  refine lv_aload_n hx hb dL_law_606 rfl (lv_at hl 4 rfl) ?_
  refine lv_iload hx hb dL_law_607 (lv_at hl 0 rfl) ?_
  refine lv_iconst (v := 2) hx hb dL_law_609 (by decide) ?_
  refine lv_iadd hx hb dL_law_610 ?_
  refine lv_topi (fun z3 ez3 => ?_)
  have hz3 : z3.toInt = i.toInt + 2 := ar_add ez3 rfl (by decide : (2 : Int32).toInt = 2) (by omega) (by omega)
  refine va_sld hx hb hX hbl hbA hT.2.2.1 (vp_in_iff.mpr (by omega)) dL_law_611 ?_
  refine lv_topi (fun v4 ev4 => ?_)
  refine t_cVi (n := 2) (C := RX11) (T := TX11) (N := 16) (As := [.int v2, .int v4]) (rest := []) X hT (kt380_X11_heir l G tag L F hT.2.2.2 x0 v2 v4 mx gx) mx gx rfl rfl qw_881 qw_882 qw_883 qw_2 qw_884 ⟨rfl, by decide +kernel, by decide +kernel, by decide +kernel⟩ ⟨(Nat.le_of_ble_eq_true rfl), (Nat.le_of_ble_eq_true rfl)⟩ hl rfl rfl (Nat.le_of_ble_eq_true rfl) dL_law_612 ⟨show cells + 0 ≤ 601024 from by omega, show slots + 0 ≤ 7293034 from by omega⟩ (fun r5 F H locs hT hr5 => ?_)
  refine W.widen (k := cells) (n := slots) (Nat.le_refl _) (Nat.le_refl _) ?_
  obtain ⟨hgr5, yr5⟩ := hr5
  have hf1 := (yr5.1 _ 1 (Or.inr (by decide))).trans hf1
  have hf2 := (yr5.1 _ 6 (Or.inr (by decide))).trans hf2
  have hrd := (yr5.1 _ 8 (Or.inr (by decide))).trans hrd
  have hrs := (yr5.1 _ 10 (Or.inr (by decide))).trans hrs
  have hrn := (yr5.1 _ 11 (Or.inr (by decide))).trans hrn
  have hns := nsr_of (fun j => yr5.2 _ j (Or.inl grs)) (fun j => yr5.2 _ j (Or.inr grn)) hns
  refine lv_pop hx hb dL_law_615 rfl ?_
  refine lv_aload_n hx hb dL_law_616 rfl (lv_at hl 2 rfl) ?_
  refine lv_aload_n hx hb dL_law_617 rfl (lv_at hl 4 rfl) ?_
  refine lv_iload hx hb dL_law_618 (lv_at hl 0 rfl) ?_
  refine lv_iconst (v := 1) hx hb dL_law_620 (by decide) ?_
  refine lv_iadd hx hb dL_law_621 ?_
  refine lv_topi (fun z6 ez6 => ?_)
  have hz6 : z6.toInt = i.toInt + 1 := ar_add ez6 rfl (by decide : (1 : Int32).toInt = 1) (by omega) (by omega)
  refine va_sld hx hb hX hbl hbA hT.2.2.1 (vp_in_iff.mpr (by omega)) dL_law_622 ?_
  refine lv_topi (fun v7 ev7 => ?_)
  refine lv_aload_n hx hb dL_law_623 rfl (lv_at hl 4 rfl) ?_
  refine lv_iload hx hb dL_law_624 (lv_at hl 0 rfl) ?_
  refine lv_iconst (v := 2) hx hb dL_law_626 (by decide) ?_
  refine lv_iadd hx hb dL_law_627 ?_
  refine lv_topi (fun z8 ez8 => ?_)
  have hz8 : z8.toInt = i.toInt + 2 := ar_add ez8 rfl (by decide : (2 : Int32).toInt = 2) (by omega) (by omega)
  refine va_sld hx hb hX hbl hbA hT.2.2.1 (vp_in_iff.mpr (by omega)) dL_law_628 ?_
  refine lv_topi (fun v9 ev9 => ?_)
  refine t_cVi (n := 2) (C := RX13) (T := TX13) (N := 37) (As := [.int v7, .int v9]) (rest := []) X hT (kp_X13_heir l G tag L F hT.2.2.2 m0 v7 v9 mm gm) mm gm rfl rfl qw_892 qw_893 qw_894 qw_5 qw_895 ⟨rfl, by decide +kernel, by decide +kernel, by decide +kernel⟩ ⟨(Nat.le_of_ble_eq_true rfl), (Nat.le_of_ble_eq_true rfl)⟩ hl rfl rfl (Nat.le_of_ble_eq_true rfl) dL_law_629 ⟨show cells + 0 ≤ 601024 from by omega, show slots + 0 ≤ 7293034 from by omega⟩ (fun r10 F H locs hT hr10 => ?_)
  refine W.widen (k := cells) (n := slots) (Nat.le_refl _) (Nat.le_refl _) ?_
  obtain ⟨hgr10, yr10⟩ := hr10
  have hf1 := (yr10.1 _ 1 (Or.inr (by decide)) (Or.inl (by rw [gx]; decide)) (Or.inr (by decide))).trans hf1
  have hf2 := (yr10.1 _ 6 (Or.inr (by decide)) (Or.inr (by decide)) (Or.inr (by decide))).trans hf2
  have hrd := (yr10.1 _ 8 (Or.inr (by decide)) (Or.inr (by decide)) (Or.inr (by decide))).trans hrd
  have hrs := (yr10.1 _ 10 (Or.inr (by decide)) (Or.inr (by decide)) (Or.inr (by decide))).trans hrs
  have hrn := (yr10.1 _ 11 (Or.inr (by decide)) (Or.inr (by decide)) (Or.inr (by decide))).trans hrn
  have hns := nsr_of (fun j => yr10.2 _ j ) (fun j => yr10.2 _ j ) hns
  refine lv_pop hx hb dL_law_632 rfl ?_
  refine lv_goto (tgt := 1828) hx hb dL_law_633 (by decide) ?_
  exact kk tag L F H locs _ cells slots (by omega) (by omega) hT ⟨mx, gx, mm, gm, mo, go, f1, f2, hf1, hf2, hff, hf0, hf9, rd, rs, rn, hrd, mrd, grd, hrs, hrn, mrs, mrn, grs, grn, hns⟩ (lv_sub hl [0, 1, 2, 3, 4] rfl)
set_option maxHeartbeats 4000000 in
set_option maxRecDepth 100000 in
theorem law_c12 {p : Program} {e : Env} {s : State} {m : MethodId} {below : List Frame} {meth : Method} {c : Code} (l : Launch) (G : KG) (b : Nat) (xs : Nat → Int32) {L9 : Nat} (hL9 : L9 ≤ 3072) (X : CX p s m #[Value.ref b] meth c cL_law 7 RL ret G (fun q : Nat => s.heap.size ≤ q) lw_tbl) (hX : va_X b L9 xs s s.heap) (hbl : b < s.heap.size) {H : Heap} {locs : List Loc} {ls : Array Slot} {cells slots : Nat} (hc : cells ≤ 600000) (hs : slots ≤ 7290000) {tag : Nat → Nat} {L : List Nat} {F : Nat → va_E} (x0 m0 o0 : Nat) (i : Int32) (hi : 0 ≤ i.toInt ∧ i.toInt + 6 ≤ (L9 : Int)) (hT : TH G ttC (fun q : Nat => s.heap.size ≤ q) s tag L F H locs) (hI : LINV tag L F x0 m0 o0) (hl : lv_has ls 7 [(4, .int i), (3, .ref o0), (2, .ref m0), (1, .ref x0), (0, .ref b)]) (kk : ∀ (tag1 : Nat → Nat) (L1 : List Nat) (F1 : Nat → va_E) (H1 : Heap) (locs1 : List Loc) (ls1 : Array Slot) (c1 s1 : Nat), c1 ≤ cells + 17 → s1 ≤ slots + 541 → TH G ttC (fun q : Nat => s.heap.size ≤ q) s tag1 L1 F1 H1 locs1 → LINV tag1 L1 F1 x0 m0 o0 → lv_has ls1 7 [(4, .int i), (3, .ref o0), (2, .ref m0), (1, .ref x0), (0, .ref b)] → W p l e room_1 s m #[Value.ref b] below meth c H1 locs1 c1 s1 (lw_Z below #[Value.ref b] s) (F0 m 1828 ls1 [])) : W p l e room_1 s m #[Value.ref b] below meth c H locs cells slots (lw_Z below #[Value.ref b] s) (F0 m 636 ls []) := by
  have hx := X.1.1
  have hb := X.1.2.1
  have hbA : ¬ (fun q : Nat => s.heap.size ≤ q) b := Nat.not_le.mpr hbl
  have hL9i : (L9 : Int) ≤ 3072 := by omega
  obtain ⟨mx, gx, mm, gm, mo, go, f1, f2, hf1, hf2, hff, hf0, hf9, rd, rs, rn, hrd, mrd, grd, hrs, hrn, mrs, mrn, grs, grn, hns⟩ := hI
  refine lv_aload_n hx hb dL_law_636 rfl (lv_at hl 3 rfl) ?_
  refine lv_aload_n hx hb dL_law_637 rfl (lv_at hl 4 rfl) ?_
  refine lv_iload hx hb dL_law_638 (lv_at hl 0 rfl) ?_
  refine lv_iconst (v := 1) hx hb dL_law_640 (by decide) ?_
  refine lv_iadd hx hb dL_law_641 ?_
  refine lv_topi (fun z1 ez1 => ?_)
  have hz1 : z1.toInt = i.toInt + 1 := ar_add ez1 rfl (by decide : (1 : Int32).toInt = 1) (by omega) (by omega)
  refine va_sld hx hb hX hbl hbA hT.2.2.1 (vp_in_iff.mpr (by omega)) dL_law_642 ?_
  refine lv_topi (fun v2 ev2 => ?_)
  refine t_cVi (n := 1) (C := RX11) (T := TX11) (N := 16) (As := [.int v2]) (rest := []) X hT (kt372_X11_fits l G tag L F hT.2.2.2 x0 v2 mx gx) mx gx rfl rfl qw_900 qw_901 qw_902 qw_2 qw_903 ⟨rfl, by decide +kernel, by decide +kernel, by decide +kernel⟩ ⟨(Nat.le_of_ble_eq_true rfl), (Nat.le_of_ble_eq_true rfl)⟩ hl rfl rfl (Nat.le_of_ble_eq_true rfl) dL_law_643 ⟨show cells + 0 ≤ 601024 from by omega, show slots + 0 ≤ 7293034 from by omega⟩ (fun r3 F H locs hT hr3 => ?_)
  refine W.widen (k := cells) (n := slots) (Nat.le_refl _) (Nat.le_refl _) ?_
  obtain ⟨hgr3, yr3⟩ := hr3
  have hf1 := (yr3.1 _ 1 (Or.inr (by decide))).trans hf1
  have hf2 := (yr3.1 _ 6 (Or.inr (by decide))).trans hf2
  have hrd := (yr3.1 _ 8 (Or.inr (by decide))).trans hrd
  have hrs := (yr3.1 _ 10 (Or.inr (by decide))).trans hrs
  have hrn := (yr3.1 _ 11 (Or.inr (by decide))).trans hrn
  have hns := nsr_of (fun j => yr3.2 _ j (Or.inl grs)) (fun j => yr3.2 _ j (Or.inr grn)) hns
  refine lv_pop hx hb dL_law_646 rfl ?_
  refine lv_aload_n hx hb dL_law_647 rfl (lv_at hl 2 rfl) ?_
  refine lv_aload_n hx hb dL_law_648 rfl (lv_at hl 4 rfl) ?_
  refine lv_iload hx hb dL_law_649 (lv_at hl 0 rfl) ?_
  refine lv_iconst (v := 1) hx hb dL_law_651 (by decide) ?_
  refine lv_iadd hx hb dL_law_652 ?_
  refine lv_topi (fun z4 ez4 => ?_)
  have hz4 : z4.toInt = i.toInt + 1 := ar_add ez4 rfl (by decide : (1 : Int32).toInt = 1) (by omega) (by omega)
  refine va_sld hx hb hX hbl hbA hT.2.2.1 (vp_in_iff.mpr (by omega)) dL_law_653 ?_
  refine lv_topi (fun v5 ev5 => ?_)
  refine t_cVi (n := 1) (C := RX13) (T := TX13) (N := 37) (As := [.int v5]) (rest := []) X hT (kp_X13_fits l G tag L F hT.2.2.2 m0 v5 mm gm) mm gm rfl rfl qw_905 qw_906 qw_907 qw_5 qw_908 ⟨rfl, by decide +kernel, by decide +kernel, by decide +kernel⟩ ⟨(Nat.le_of_ble_eq_true rfl), (Nat.le_of_ble_eq_true rfl)⟩ hl rfl rfl (Nat.le_of_ble_eq_true rfl) dL_law_654 ⟨show cells + 0 ≤ 601024 from by omega, show slots + 0 ≤ 7293034 from by omega⟩ (fun r6 F H locs hT hr6 => ?_)
  refine W.widen (k := cells) (n := slots) (Nat.le_refl _) (Nat.le_refl _) ?_
  obtain ⟨hgr6, yr6⟩ := hr6
  have hf1 := (yr6.1 _ 1 (Or.inr (by decide)) (Or.inl (by rw [gx]; decide)) (Or.inr (by decide))).trans hf1
  have hf2 := (yr6.1 _ 6 (Or.inr (by decide)) (Or.inr (by decide)) (Or.inr (by decide))).trans hf2
  have hrd := (yr6.1 _ 8 (Or.inr (by decide)) (Or.inr (by decide)) (Or.inr (by decide))).trans hrd
  have hrs := (yr6.1 _ 10 (Or.inr (by decide)) (Or.inr (by decide)) (Or.inr (by decide))).trans hrs
  have hrn := (yr6.1 _ 11 (Or.inr (by decide)) (Or.inr (by decide)) (Or.inr (by decide))).trans hrn
  have hns := nsr_of (fun j => yr6.2 _ j ) (fun j => yr6.2 _ j ) hns
  refine lv_pop hx hb dL_law_657 rfl ?_
  refine lv_goto (tgt := 1828) hx hb dL_law_658 (by decide) ?_
  exact kk tag L F H locs _ cells slots (by omega) (by omega) hT ⟨mx, gx, mm, gm, mo, go, f1, f2, hf1, hf2, hff, hf0, hf9, rd, rs, rn, hrd, mrd, grd, hrs, hrn, mrs, mrn, grs, grn, hns⟩ (lv_sub hl [0, 1, 2, 3, 4] rfl)
set_option maxHeartbeats 4000000 in
set_option maxRecDepth 100000 in
theorem law_c13 {p : Program} {e : Env} {s : State} {m : MethodId} {below : List Frame} {meth : Method} {c : Code} (l : Launch) (G : KG) (b : Nat) (xs : Nat → Int32) {L9 : Nat} (hL9 : L9 ≤ 3072) (X : CX p s m #[Value.ref b] meth c cL_law 7 RL ret G (fun q : Nat => s.heap.size ≤ q) lw_tbl) (hX : va_X b L9 xs s s.heap) (hbl : b < s.heap.size) {H : Heap} {locs : List Loc} {ls : Array Slot} {cells slots : Nat} (hc : cells ≤ 600000) (hs : slots ≤ 7290000) {tag : Nat → Nat} {L : List Nat} {F : Nat → va_E} (x0 m0 o0 : Nat) (i : Int32) (hi : 0 ≤ i.toInt ∧ i.toInt + 6 ≤ (L9 : Int)) (hT : TH G ttC (fun q : Nat => s.heap.size ≤ q) s tag L F H locs) (hI : LINV tag L F x0 m0 o0) (hl : lv_has ls 7 [(4, .int i), (3, .ref o0), (2, .ref m0), (1, .ref x0), (0, .ref b)]) (kk : ∀ (tag1 : Nat → Nat) (L1 : List Nat) (F1 : Nat → va_E) (H1 : Heap) (locs1 : List Loc) (ls1 : Array Slot) (c1 s1 : Nat), c1 ≤ cells + 17 → s1 ≤ slots + 541 → TH G ttC (fun q : Nat => s.heap.size ≤ q) s tag1 L1 F1 H1 locs1 → LINV tag1 L1 F1 x0 m0 o0 → lv_has ls1 7 [(4, .int i), (3, .ref o0), (2, .ref m0), (1, .ref x0), (0, .ref b)] → W p l e room_1 s m #[Value.ref b] below meth c H1 locs1 c1 s1 (lw_Z below #[Value.ref b] s) (F0 m 1828 ls1 [])) : W p l e room_1 s m #[Value.ref b] below meth c H locs cells slots (lw_Z below #[Value.ref b] s) (F0 m 661 ls []) := by
  have hx := X.1.1
  have hb := X.1.2.1
  have hbA : ¬ (fun q : Nat => s.heap.size ≤ q) b := Nat.not_le.mpr hbl
  have hL9i : (L9 : Int) ≤ 3072 := by omega
  obtain ⟨mx, gx, mm, gm, mo, go, f1, f2, hf1, hf2, hff, hf0, hf9, rd, rs, rn, hrd, mrd, grd, hrs, hrn, mrs, mrn, grs, grn, hns⟩ := hI
  refine lv_aload_n hx hb dL_law_661 rfl (lv_at hl 3 rfl) ?_
  refine lv_aload_n hx hb dL_law_662 rfl (lv_at hl 4 rfl) ?_
  refine lv_iload hx hb dL_law_663 (lv_at hl 0 rfl) ?_
  refine lv_iconst (v := 1) hx hb dL_law_665 (by decide) ?_
  refine lv_iadd hx hb dL_law_666 ?_
  refine lv_topi (fun z1 ez1 => ?_)
  have hz1 : z1.toInt = i.toInt + 1 := ar_add ez1 rfl (by decide : (1 : Int32).toInt = 1) (by omega) (by omega)
  refine va_sld hx hb hX hbl hbA hT.2.2.1 (vp_in_iff.mpr (by omega)) dL_law_667 ?_
  refine lv_topi (fun v2 ev2 => ?_)
  refine t_cVi (n := 1) (C := RX11) (T := TX11) (N := 16) (As := [.int v2]) (rest := []) X hT (kt363_X11_door l G tag L F hT.2.2.2 x0 v2 mx gx) mx gx rfl rfl qw_909 qw_910 qw_911 qw_2 qw_912 ⟨rfl, by decide +kernel, by decide +kernel, by decide +kernel⟩ ⟨(Nat.le_of_ble_eq_true rfl), (Nat.le_of_ble_eq_true rfl)⟩ hl rfl rfl (Nat.le_of_ble_eq_true rfl) dL_law_668 ⟨show cells + 0 ≤ 601024 from by omega, show slots + 0 ≤ 7293034 from by omega⟩ (fun r3 F H locs hT hr3 => ?_)
  refine W.widen (k := cells) (n := slots) (Nat.le_refl _) (Nat.le_refl _) ?_
  obtain ⟨hgr3, yr3⟩ := hr3
  have hf1 := (yr3.1 _ 1 (Or.inr (by decide))).trans hf1
  have hf2 := (yr3.1 _ 6 (Or.inr (by decide))).trans hf2
  have hrd := (yr3.1 _ 8 (Or.inr (by decide))).trans hrd
  have hrs := (yr3.1 _ 10 (Or.inr (by decide))).trans hrs
  have hrn := (yr3.1 _ 11 (Or.inr (by decide))).trans hrn
  have hns := nsr_of (fun j => yr3.2 _ j (Or.inl grs)) (fun j => yr3.2 _ j (Or.inr grn)) hns
  refine lv_pop hx hb dL_law_671 rfl ?_
  refine lv_aload_n hx hb dL_law_672 rfl (lv_at hl 2 rfl) ?_
  refine lv_aload_n hx hb dL_law_673 rfl (lv_at hl 4 rfl) ?_
  refine lv_iload hx hb dL_law_674 (lv_at hl 0 rfl) ?_
  refine lv_iconst (v := 1) hx hb dL_law_676 (by decide) ?_
  refine lv_iadd hx hb dL_law_677 ?_
  refine lv_topi (fun z4 ez4 => ?_)
  have hz4 : z4.toInt = i.toInt + 1 := ar_add ez4 rfl (by decide : (1 : Int32).toInt = 1) (by omega) (by omega)
  refine va_sld hx hb hX hbl hbA hT.2.2.1 (vp_in_iff.mpr (by omega)) dL_law_678 ?_
  refine lv_topi (fun v5 ev5 => ?_)
  refine t_cVi (n := 1) (C := RX13) (T := TX13) (N := 37) (As := [.int v5]) (rest := []) X hT (kp_X13_door l G tag L F hT.2.2.2 m0 v5 mm gm) mm gm rfl rfl qw_928 qw_929 qw_930 qw_5 qw_931 ⟨rfl, by decide +kernel, by decide +kernel, by decide +kernel⟩ ⟨(Nat.le_of_ble_eq_true rfl), (Nat.le_of_ble_eq_true rfl)⟩ hl rfl rfl (Nat.le_of_ble_eq_true rfl) dL_law_679 ⟨show cells + 0 ≤ 601024 from by omega, show slots + 0 ≤ 7293034 from by omega⟩ (fun r6 F H locs hT hr6 => ?_)
  refine W.widen (k := cells) (n := slots) (Nat.le_refl _) (Nat.le_refl _) ?_
  obtain ⟨hgr6, yr6⟩ := hr6
  have hf1 := (yr6.1 _ 1 (Or.inr (by decide)) (Or.inl (by rw [gx]; decide)) (Or.inr (by decide)) (Or.inr (by decide)) (Or.inr (by decide))).trans hf1
  have hf2 := (yr6.1 _ 6 (Or.inr (by decide)) (Or.inr (by decide)) (Or.inr (by decide)) (Or.inr (by decide)) (Or.inr (by decide))).trans hf2
  have hrd := (yr6.1 _ 8 (Or.inr (by decide)) (Or.inr (by decide)) (Or.inr (by decide)) (Or.inr (by decide)) (Or.inr (by decide))).trans hrd
  have hrs := (yr6.1 _ 10 (Or.inr (by decide)) (Or.inr (by decide)) (Or.inr (by decide)) (Or.inr (by decide)) (Or.inr (by decide))).trans hrs
  have hrn := (yr6.1 _ 11 (Or.inr (by decide)) (Or.inr (by decide)) (Or.inr (by decide)) (Or.inr (by decide)) (Or.inr (by decide))).trans hrn
  have hns := nsr_of (fun j => yr6.2 _ j ) (fun j => yr6.2 _ j ) hns
  refine lv_pop hx hb dL_law_682 rfl ?_
  refine lv_goto (tgt := 1828) hx hb dL_law_683 (by decide) ?_
  exact kk tag L F H locs _ cells slots (by omega) (by omega) hT ⟨mx, gx, mm, gm, mo, go, f1, f2, hf1, hf2, hff, hf0, hf9, rd, rs, rn, hrd, mrd, grd, hrs, hrn, mrs, mrn, grs, grn, hns⟩ (lv_sub hl [0, 1, 2, 3, 4] rfl)
set_option maxHeartbeats 4000000 in
set_option maxRecDepth 100000 in
theorem law_c14 {p : Program} {e : Env} {s : State} {m : MethodId} {below : List Frame} {meth : Method} {c : Code} (l : Launch) (G : KG) (b : Nat) (xs : Nat → Int32) {L9 : Nat} (hL9 : L9 ≤ 3072) (X : CX p s m #[Value.ref b] meth c cL_law 7 RL ret G (fun q : Nat => s.heap.size ≤ q) lw_tbl) (hX : va_X b L9 xs s s.heap) (hbl : b < s.heap.size) {H : Heap} {locs : List Loc} {ls : Array Slot} {cells slots : Nat} (hc : cells ≤ 600000) (hs : slots ≤ 7290000) {tag : Nat → Nat} {L : List Nat} {F : Nat → va_E} (x0 m0 o0 : Nat) (i : Int32) (hi : 0 ≤ i.toInt ∧ i.toInt + 6 ≤ (L9 : Int)) (hT : TH G ttC (fun q : Nat => s.heap.size ≤ q) s tag L F H locs) (hI : LINV tag L F x0 m0 o0) (hl : lv_has ls 7 [(4, .int i), (3, .ref o0), (2, .ref m0), (1, .ref x0), (0, .ref b)]) (kk : ∀ (tag1 : Nat → Nat) (L1 : List Nat) (F1 : Nat → va_E) (H1 : Heap) (locs1 : List Loc) (ls1 : Array Slot) (c1 s1 : Nat), c1 ≤ cells + 17 → s1 ≤ slots + 541 → TH G ttC (fun q : Nat => s.heap.size ≤ q) s tag1 L1 F1 H1 locs1 → LINV tag1 L1 F1 x0 m0 o0 → lv_has ls1 7 [(4, .int i), (3, .ref o0), (2, .ref m0), (1, .ref x0), (0, .ref b)] → W p l e room_1 s m #[Value.ref b] below meth c H1 locs1 c1 s1 (lw_Z below #[Value.ref b] s) (F0 m 1828 ls1 [])) : W p l e room_1 s m #[Value.ref b] below meth c H locs cells slots (lw_Z below #[Value.ref b] s) (F0 m 686 ls []) := by
  have hx := X.1.1
  have hb := X.1.2.1
  have hbA : ¬ (fun q : Nat => s.heap.size ≤ q) b := Nat.not_le.mpr hbl
  have hL9i : (L9 : Int) ≤ 3072 := by omega
  obtain ⟨mx, gx, mm, gm, mo, go, f1, f2, hf1, hf2, hff, hf0, hf9, rd, rs, rn, hrd, mrd, grd, hrs, hrn, mrs, mrn, grs, grn, hns⟩ := hI
  refine lv_aload_n hx hb dL_law_686 rfl (lv_at hl 3 rfl) ?_
  refine lv_aload_n hx hb dL_law_687 rfl (lv_at hl 4 rfl) ?_
  refine lv_iload hx hb dL_law_688 (lv_at hl 0 rfl) ?_
  refine lv_iconst (v := 1) hx hb dL_law_690 (by decide) ?_
  refine lv_iadd hx hb dL_law_691 ?_
  refine lv_topi (fun z1 ez1 => ?_)
  have hz1 : z1.toInt = i.toInt + 1 := ar_add ez1 rfl (by decide : (1 : Int32).toInt = 1) (by omega) (by omega)
  refine va_sld hx hb hX hbl hbA hT.2.2.1 (vp_in_iff.mpr (by omega)) dL_law_692 ?_
  refine lv_topi (fun v2 ev2 => ?_)
  refine lv_aload_n hx hb dL_law_693 rfl (lv_at hl 4 rfl) ?_
  refine lv_iload hx hb dL_law_694 (lv_at hl 0 rfl) ?_
  refine lv_iconst (v := 2) hx hb dL_law_696 (by decide) ?_
  refine lv_iadd hx hb dL_law_697 ?_
  refine lv_topi (fun z3 ez3 => ?_)
  have hz3 : z3.toInt = i.toInt + 2 := ar_add ez3 rfl (by decide : (2 : Int32).toInt = 2) (by omega) (by omega)
  refine va_sld hx hb hX hbl hbA hT.2.2.1 (vp_in_iff.mpr (by omega)) dL_law_698 ?_
  refine lv_topi (fun v4 ev4 => ?_)
  refine t_cVi (n := 2) (C := RX11) (T := TX11) (N := 16) (As := [.int v2, .int v4]) (rest := []) X hT (kt362_X11_costs l G tag L F hT.2.2.2 x0 v2 v4 mx gx) mx gx rfl rfl qw_950 qw_951 qw_952 qw_2 qw_953 ⟨rfl, by decide +kernel, by decide +kernel, by decide +kernel⟩ ⟨(Nat.le_of_ble_eq_true rfl), (Nat.le_of_ble_eq_true rfl)⟩ hl rfl rfl (Nat.le_of_ble_eq_true rfl) dL_law_699 ⟨show cells + 0 ≤ 601024 from by omega, show slots + 0 ≤ 7293034 from by omega⟩ (fun r5 F H locs hT hr5 => ?_)
  refine W.widen (k := cells) (n := slots) (Nat.le_refl _) (Nat.le_refl _) ?_
  obtain ⟨hgr5, yr5⟩ := hr5
  have hf1 := (yr5.1 _ 1 (Or.inr (by decide))).trans hf1
  have hf2 := (yr5.1 _ 6 (Or.inr (by decide))).trans hf2
  have hrd := (yr5.1 _ 8 (Or.inr (by decide))).trans hrd
  have hrs := (yr5.1 _ 10 (Or.inr (by decide))).trans hrs
  have hrn := (yr5.1 _ 11 (Or.inr (by decide))).trans hrn
  have hns := nsr_of (fun j => yr5.2 _ j (Or.inl grs)) (fun j => yr5.2 _ j (Or.inr grn)) hns
  refine lv_pop hx hb dL_law_702 rfl ?_
  refine lv_aload_n hx hb dL_law_703 rfl (lv_at hl 2 rfl) ?_
  refine lv_aload_n hx hb dL_law_704 rfl (lv_at hl 4 rfl) ?_
  refine lv_iload hx hb dL_law_705 (lv_at hl 0 rfl) ?_
  refine lv_iconst (v := 1) hx hb dL_law_707 (by decide) ?_
  refine lv_iadd hx hb dL_law_708 ?_
  refine lv_topi (fun z6 ez6 => ?_)
  have hz6 : z6.toInt = i.toInt + 1 := ar_add ez6 rfl (by decide : (1 : Int32).toInt = 1) (by omega) (by omega)
  refine va_sld hx hb hX hbl hbA hT.2.2.1 (vp_in_iff.mpr (by omega)) dL_law_709 ?_
  refine lv_topi (fun v7 ev7 => ?_)
  refine lv_aload_n hx hb dL_law_710 rfl (lv_at hl 4 rfl) ?_
  refine lv_iload hx hb dL_law_711 (lv_at hl 0 rfl) ?_
  refine lv_iconst (v := 2) hx hb dL_law_713 (by decide) ?_
  refine lv_iadd hx hb dL_law_714 ?_
  refine lv_topi (fun z8 ez8 => ?_)
  have hz8 : z8.toInt = i.toInt + 2 := ar_add ez8 rfl (by decide : (2 : Int32).toInt = 2) (by omega) (by omega)
  refine va_sld hx hb hX hbl hbA hT.2.2.1 (vp_in_iff.mpr (by omega)) dL_law_715 ?_
  refine lv_topi (fun v9 ev9 => ?_)
  refine t_cVi (n := 2) (C := RX13) (T := TX13) (N := 37) (As := [.int v7, .int v9]) (rest := []) X hT (kp_X13_costs l G tag L F hT.2.2.2 m0 v7 v9 mm gm) mm gm rfl rfl qw_963 qw_964 qw_965 qw_5 qw_966 ⟨rfl, by decide +kernel, by decide +kernel, by decide +kernel⟩ ⟨(Nat.le_of_ble_eq_true rfl), (Nat.le_of_ble_eq_true rfl)⟩ hl rfl rfl (Nat.le_of_ble_eq_true rfl) dL_law_716 ⟨show cells + 0 ≤ 601024 from by omega, show slots + 0 ≤ 7293034 from by omega⟩ (fun r10 F H locs hT hr10 => ?_)
  refine W.widen (k := cells) (n := slots) (Nat.le_refl _) (Nat.le_refl _) ?_
  obtain ⟨hgr10, yr10⟩ := hr10
  have hf1 := (yr10.1 _ 1 (Or.inr (by decide)) (Or.inl (by rw [gx]; decide)) (Or.inr (by decide))).trans hf1
  have hf2 := (yr10.1 _ 6 (Or.inr (by decide)) (Or.inr (by decide)) (Or.inr (by decide))).trans hf2
  have hrd := (yr10.1 _ 8 (Or.inr (by decide)) (Or.inr (by decide)) (Or.inr (by decide))).trans hrd
  have hrs := (yr10.1 _ 10 (Or.inr (by decide)) (Or.inr (by decide)) (Or.inr (by decide))).trans hrs
  have hrn := (yr10.1 _ 11 (Or.inr (by decide)) (Or.inr (by decide)) (Or.inr (by decide))).trans hrn
  have hns := nsr_of (fun j => yr10.2 _ j ) (fun j => yr10.2 _ j ) hns
  refine lv_pop hx hb dL_law_719 rfl ?_
  refine lv_goto (tgt := 1828) hx hb dL_law_720 (by decide) ?_
  exact kk tag L F H locs _ cells slots (by omega) (by omega) hT ⟨mx, gx, mm, gm, mo, go, f1, f2, hf1, hf2, hff, hf0, hf9, rd, rs, rn, hrd, mrd, grd, hrs, hrn, mrs, mrn, grs, grn, hns⟩ (lv_sub hl [0, 1, 2, 3, 4] rfl)
set_option maxHeartbeats 4000000 in
set_option maxRecDepth 100000 in
theorem law_c15 {p : Program} {e : Env} {s : State} {m : MethodId} {below : List Frame} {meth : Method} {c : Code} (l : Launch) (G : KG) (b : Nat) (xs : Nat → Int32) {L9 : Nat} (hL9 : L9 ≤ 3072) (X : CX p s m #[Value.ref b] meth c cL_law 7 RL ret G (fun q : Nat => s.heap.size ≤ q) lw_tbl) (hX : va_X b L9 xs s s.heap) (hbl : b < s.heap.size) {H : Heap} {locs : List Loc} {ls : Array Slot} {cells slots : Nat} (hc : cells ≤ 600000) (hs : slots ≤ 7290000) {tag : Nat → Nat} {L : List Nat} {F : Nat → va_E} (x0 m0 o0 : Nat) (i : Int32) (hi : 0 ≤ i.toInt ∧ i.toInt + 6 ≤ (L9 : Int)) (hT : TH G ttC (fun q : Nat => s.heap.size ≤ q) s tag L F H locs) (hI : LINV tag L F x0 m0 o0) (hl : lv_has ls 7 [(4, .int i), (3, .ref o0), (2, .ref m0), (1, .ref x0), (0, .ref b)]) (kk : ∀ (tag1 : Nat → Nat) (L1 : List Nat) (F1 : Nat → va_E) (H1 : Heap) (locs1 : List Loc) (ls1 : Array Slot) (c1 s1 : Nat), c1 ≤ cells + 17 → s1 ≤ slots + 541 → TH G ttC (fun q : Nat => s.heap.size ≤ q) s tag1 L1 F1 H1 locs1 → LINV tag1 L1 F1 x0 m0 o0 → lv_has ls1 7 [(4, .int i), (3, .ref o0), (2, .ref m0), (1, .ref x0), (0, .ref b)] → W p l e room_1 s m #[Value.ref b] below meth c H1 locs1 c1 s1 (lw_Z below #[Value.ref b] s) (F0 m 1828 ls1 [])) : W p l e room_1 s m #[Value.ref b] below meth c H locs cells slots (lw_Z below #[Value.ref b] s) (F0 m 723 ls []) := by
  have hx := X.1.1
  have hb := X.1.2.1
  have hbA : ¬ (fun q : Nat => s.heap.size ≤ q) b := Nat.not_le.mpr hbl
  have hL9i : (L9 : Int) ≤ 3072 := by omega
  obtain ⟨mx, gx, mm, gm, mo, go, f1, f2, hf1, hf2, hff, hf0, hf9, rd, rs, rn, hrd, mrd, grd, hrs, hrn, mrs, mrn, grs, grn, hns⟩ := hI
  refine lv_aload_n hx hb dL_law_723 rfl (lv_at hl 3 rfl) ?_
  refine lv_aload_n hx hb dL_law_724 rfl (lv_at hl 4 rfl) ?_
  refine lv_iload hx hb dL_law_725 (lv_at hl 0 rfl) ?_
  refine lv_iconst (v := 1) hx hb dL_law_727 (by decide) ?_
  refine lv_iadd hx hb dL_law_728 ?_
  refine lv_topi (fun z1 ez1 => ?_)
  have hz1 : z1.toInt = i.toInt + 1 := ar_add ez1 rfl (by decide : (1 : Int32).toInt = 1) (by omega) (by omega)
  refine va_sld hx hb hX hbl hbA hT.2.2.1 (vp_in_iff.mpr (by omega)) dL_law_729 ?_
  refine lv_topi (fun v2 ev2 => ?_)
  refine lv_aload_n hx hb dL_law_730 rfl (lv_at hl 4 rfl) ?_
  refine lv_iload hx hb dL_law_731 (lv_at hl 0 rfl) ?_
  refine lv_iconst (v := 2) hx hb dL_law_733 (by decide) ?_
  refine lv_iadd hx hb dL_law_734 ?_
  refine lv_topi (fun z3 ez3 => ?_)
  have hz3 : z3.toInt = i.toInt + 2 := ar_add ez3 rfl (by decide : (2 : Int32).toInt = 2) (by omega) (by omega)
  refine va_sld hx hb hX hbl hbA hT.2.2.1 (vp_in_iff.mpr (by omega)) dL_law_735 ?_
  refine lv_topi (fun v4 ev4 => ?_)
  refine t_cVi (n := 2) (C := RX11) (T := TX11) (N := 16) (As := [.int v2, .int v4]) (rest := []) X hT (kt424_X11_way l G tag L F hT.2.2.2 x0 v2 v4 mx gx) mx gx rfl rfl qw_975 qw_976 qw_977 qw_2 qw_978 ⟨rfl, by decide +kernel, by decide +kernel, by decide +kernel⟩ ⟨(Nat.le_of_ble_eq_true rfl), (Nat.le_of_ble_eq_true rfl)⟩ hl rfl rfl (Nat.le_of_ble_eq_true rfl) dL_law_736 ⟨show cells + 0 ≤ 601024 from by omega, show slots + 0 ≤ 7293034 from by omega⟩ (fun r5 F H locs hT hr5 => ?_)
  refine W.widen (k := cells) (n := slots) (Nat.le_refl _) (Nat.le_refl _) ?_
  obtain ⟨hgr5, yr5⟩ := hr5
  have hf1 := (yr5.1 _ 1 (Or.inr (by decide))).trans hf1
  have hf2 := (yr5.1 _ 6 (Or.inr (by decide))).trans hf2
  have hrd := (yr5.1 _ 8 (Or.inr (by decide))).trans hrd
  have hrs := (yr5.1 _ 10 (Or.inr (by decide))).trans hrs
  have hrn := (yr5.1 _ 11 (Or.inr (by decide))).trans hrn
  have hns := nsr_of (fun j => yr5.2 _ j (Or.inl grs)) (fun j => yr5.2 _ j (Or.inr grn)) hns
  refine lv_pop hx hb dL_law_739 rfl ?_
  refine lv_aload_n hx hb dL_law_740 rfl (lv_at hl 2 rfl) ?_
  refine lv_aload_n hx hb dL_law_741 rfl (lv_at hl 4 rfl) ?_
  refine lv_iload hx hb dL_law_742 (lv_at hl 0 rfl) ?_
  refine lv_iconst (v := 1) hx hb dL_law_744 (by decide) ?_
  refine lv_iadd hx hb dL_law_745 ?_
  refine lv_topi (fun z6 ez6 => ?_)
  have hz6 : z6.toInt = i.toInt + 1 := ar_add ez6 rfl (by decide : (1 : Int32).toInt = 1) (by omega) (by omega)
  refine va_sld hx hb hX hbl hbA hT.2.2.1 (vp_in_iff.mpr (by omega)) dL_law_746 ?_
  refine lv_topi (fun v7 ev7 => ?_)
  refine lv_aload_n hx hb dL_law_747 rfl (lv_at hl 4 rfl) ?_
  refine lv_iload hx hb dL_law_748 (lv_at hl 0 rfl) ?_
  refine lv_iconst (v := 2) hx hb dL_law_750 (by decide) ?_
  refine lv_iadd hx hb dL_law_751 ?_
  refine lv_topi (fun z8 ez8 => ?_)
  have hz8 : z8.toInt = i.toInt + 2 := ar_add ez8 rfl (by decide : (2 : Int32).toInt = 2) (by omega) (by omega)
  refine va_sld hx hb hX hbl hbA hT.2.2.1 (vp_in_iff.mpr (by omega)) dL_law_752 ?_
  refine lv_topi (fun v9 ev9 => ?_)
  refine t_cVi (n := 2) (C := RX13) (T := TX13) (N := 37) (As := [.int v7, .int v9]) (rest := []) X hT (kp_X13_way l G tag L F hT.2.2.2 m0 v7 v9 mm gm) mm gm rfl rfl qw_995 qw_996 qw_997 qw_5 qw_998 ⟨rfl, by decide +kernel, by decide +kernel, by decide +kernel⟩ ⟨(Nat.le_of_ble_eq_true rfl), (Nat.le_of_ble_eq_true rfl)⟩ hl rfl rfl (Nat.le_of_ble_eq_true rfl) dL_law_753 ⟨show cells + 0 ≤ 601024 from by omega, show slots + 0 ≤ 7293034 from by omega⟩ (fun r10 F H locs hT hr10 => ?_)
  refine W.widen (k := cells) (n := slots) (Nat.le_refl _) (Nat.le_refl _) ?_
  obtain ⟨hgr10, yr10⟩ := hr10
  have hf1 := (yr10.1 _ 1 (Or.inr (by decide)) (Or.inl (by rw [gx]; decide)) (Or.inr (by decide))).trans hf1
  have hf2 := (yr10.1 _ 6 (Or.inr (by decide)) (Or.inr (by decide)) (Or.inr (by decide))).trans hf2
  have hrd := (yr10.1 _ 8 (Or.inr (by decide)) (Or.inr (by decide)) (Or.inr (by decide))).trans hrd
  have hrs := (yr10.1 _ 10 (Or.inr (by decide)) (Or.inr (by decide)) (Or.inr (by decide))).trans hrs
  have hrn := (yr10.1 _ 11 (Or.inr (by decide)) (Or.inr (by decide)) (Or.inr (by decide))).trans hrn
  have hns := nsr_of (fun j => yr10.2 _ j ) (fun j => yr10.2 _ j ) hns
  refine lv_pop hx hb dL_law_756 rfl ?_
  refine lv_goto (tgt := 1828) hx hb dL_law_757 (by decide) ?_
  exact kk tag L F H locs _ cells slots (by omega) (by omega) hT ⟨mx, gx, mm, gm, mo, go, f1, f2, hf1, hf2, hff, hf0, hf9, rd, rs, rn, hrd, mrd, grd, hrs, hrn, mrs, mrn, grs, grn, hns⟩ (lv_sub hl [0, 1, 2, 3, 4] rfl)
set_option maxHeartbeats 4000000 in
set_option maxRecDepth 100000 in
theorem law_c16 {p : Program} {e : Env} {s : State} {m : MethodId} {below : List Frame} {meth : Method} {c : Code} (l : Launch) (G : KG) (b : Nat) (xs : Nat → Int32) {L9 : Nat} (hL9 : L9 ≤ 3072) (X : CX p s m #[Value.ref b] meth c cL_law 7 RL ret G (fun q : Nat => s.heap.size ≤ q) lw_tbl) (hX : va_X b L9 xs s s.heap) (hbl : b < s.heap.size) {H : Heap} {locs : List Loc} {ls : Array Slot} {cells slots : Nat} (hc : cells ≤ 600000) (hs : slots ≤ 7290000) {tag : Nat → Nat} {L : List Nat} {F : Nat → va_E} (x0 m0 o0 : Nat) (i : Int32) (hi : 0 ≤ i.toInt ∧ i.toInt + 6 ≤ (L9 : Int)) (hT : TH G ttC (fun q : Nat => s.heap.size ≤ q) s tag L F H locs) (hI : LINV tag L F x0 m0 o0) (hl : lv_has ls 7 [(4, .int i), (3, .ref o0), (2, .ref m0), (1, .ref x0), (0, .ref b)]) (kk : ∀ (tag1 : Nat → Nat) (L1 : List Nat) (F1 : Nat → va_E) (H1 : Heap) (locs1 : List Loc) (ls1 : Array Slot) (c1 s1 : Nat), c1 ≤ cells + 17 → s1 ≤ slots + 541 → TH G ttC (fun q : Nat => s.heap.size ≤ q) s tag1 L1 F1 H1 locs1 → LINV tag1 L1 F1 x0 m0 o0 → lv_has ls1 7 [(4, .int i), (3, .ref o0), (2, .ref m0), (1, .ref x0), (0, .ref b)] → W p l e room_1 s m #[Value.ref b] below meth c H1 locs1 c1 s1 (lw_Z below #[Value.ref b] s) (F0 m 1828 ls1 [])) : W p l e room_1 s m #[Value.ref b] below meth c H locs cells slots (lw_Z below #[Value.ref b] s) (F0 m 760 ls []) := by
  have hx := X.1.1
  have hb := X.1.2.1
  have hbA : ¬ (fun q : Nat => s.heap.size ≤ q) b := Nat.not_le.mpr hbl
  have hL9i : (L9 : Int) ≤ 3072 := by omega
  obtain ⟨mx, gx, mm, gm, mo, go, f1, f2, hf1, hf2, hff, hf0, hf9, rd, rs, rn, hrd, mrd, grd, hrs, hrn, mrs, mrn, grs, grn, hns⟩ := hI
  refine lv_aload_n hx hb dL_law_760 rfl (lv_at hl 3 rfl) ?_
  refine lv_aload_n hx hb dL_law_761 rfl (lv_at hl 4 rfl) ?_
  refine lv_iload hx hb dL_law_762 (lv_at hl 0 rfl) ?_
  refine lv_iconst (v := 1) hx hb dL_law_764 (by decide) ?_
  refine lv_iadd hx hb dL_law_765 ?_
  refine lv_topi (fun z1 ez1 => ?_)
  have hz1 : z1.toInt = i.toInt + 1 := ar_add ez1 rfl (by decide : (1 : Int32).toInt = 1) (by omega) (by omega)
  refine va_sld hx hb hX hbl hbA hT.2.2.1 (vp_in_iff.mpr (by omega)) dL_law_766 ?_
  refine lv_topi (fun v2 ev2 => ?_)
  refine lv_aload_n hx hb dL_law_767 rfl (lv_at hl 4 rfl) ?_
  refine lv_iload hx hb dL_law_768 (lv_at hl 0 rfl) ?_
  refine lv_iconst (v := 2) hx hb dL_law_770 (by decide) ?_
  refine lv_iadd hx hb dL_law_771 ?_
  refine lv_topi (fun z3 ez3 => ?_)
  have hz3 : z3.toInt = i.toInt + 2 := ar_add ez3 rfl (by decide : (2 : Int32).toInt = 2) (by omega) (by omega)
  refine va_sld hx hb hX hbl hbA hT.2.2.1 (vp_in_iff.mpr (by omega)) dL_law_772 ?_
  refine lv_topi (fun v4 ev4 => ?_)
  refine t_cVi (n := 2) (C := RX11) (T := TX11) (N := 16) (As := [.int v2, .int v4]) (rest := []) X hT (kt419_X11_through l G tag L F hT.2.2.2 x0 v2 v4 mx gx) mx gx rfl rfl qw_1008 qw_1009 qw_1010 qw_2 qw_1011 ⟨rfl, by decide +kernel, by decide +kernel, by decide +kernel⟩ ⟨(Nat.le_of_ble_eq_true rfl), (Nat.le_of_ble_eq_true rfl)⟩ hl rfl rfl (Nat.le_of_ble_eq_true rfl) dL_law_773 ⟨show cells + 0 ≤ 601024 from by omega, show slots + 0 ≤ 7293034 from by omega⟩ (fun r5 F H locs hT hr5 => ?_)
  refine W.widen (k := cells) (n := slots) (Nat.le_refl _) (Nat.le_refl _) ?_
  obtain ⟨hgr5, yr5⟩ := hr5
  have hf1 := (yr5.1 _ 1 (Or.inr (by decide)) (Or.inl (by rw [gx]; decide)) (Or.inr (by decide))).trans hf1
  have hf2 := (yr5.1 _ 6 (Or.inr (by decide)) (Or.inr (by decide)) (Or.inr (by decide))).trans hf2
  have hrd := (yr5.1 _ 8 (Or.inr (by decide)) (Or.inr (by decide)) (Or.inr (by decide))).trans hrd
  have hrs := (yr5.1 _ 10 (Or.inr (by decide)) (Or.inr (by decide)) (Or.inr (by decide))).trans hrs
  have hrn := (yr5.1 _ 11 (Or.inr (by decide)) (Or.inr (by decide)) (Or.inr (by decide))).trans hrn
  have hns := nsr_of (fun j => yr5.2 _ j (Or.inl grs)) (fun j => yr5.2 _ j (Or.inr grn)) hns
  refine lv_pop hx hb dL_law_776 rfl ?_
  refine lv_aload_n hx hb dL_law_777 rfl (lv_at hl 2 rfl) ?_
  refine lv_aload_n hx hb dL_law_778 rfl (lv_at hl 4 rfl) ?_
  refine lv_iload hx hb dL_law_779 (lv_at hl 0 rfl) ?_
  refine lv_iconst (v := 1) hx hb dL_law_781 (by decide) ?_
  refine lv_iadd hx hb dL_law_782 ?_
  refine lv_topi (fun z6 ez6 => ?_)
  have hz6 : z6.toInt = i.toInt + 1 := ar_add ez6 rfl (by decide : (1 : Int32).toInt = 1) (by omega) (by omega)
  refine va_sld hx hb hX hbl hbA hT.2.2.1 (vp_in_iff.mpr (by omega)) dL_law_783 ?_
  refine lv_topi (fun v7 ev7 => ?_)
  refine lv_aload_n hx hb dL_law_784 rfl (lv_at hl 4 rfl) ?_
  refine lv_iload hx hb dL_law_785 (lv_at hl 0 rfl) ?_
  refine lv_iconst (v := 2) hx hb dL_law_787 (by decide) ?_
  refine lv_iadd hx hb dL_law_788 ?_
  refine lv_topi (fun z8 ez8 => ?_)
  have hz8 : z8.toInt = i.toInt + 2 := ar_add ez8 rfl (by decide : (2 : Int32).toInt = 2) (by omega) (by omega)
  refine va_sld hx hb hX hbl hbA hT.2.2.1 (vp_in_iff.mpr (by omega)) dL_law_789 ?_
  refine lv_topi (fun v9 ev9 => ?_)
  refine t_cVi (n := 2) (C := RX13) (T := TX13) (N := 37) (As := [.int v7, .int v9]) (rest := []) X hT (kp_X13_through l G tag L F hT.2.2.2 m0 v7 v9 mm gm) mm gm rfl rfl qw_1052 qw_1053 qw_1054 qw_5 qw_1055 ⟨rfl, by decide +kernel, by decide +kernel, by decide +kernel⟩ ⟨(Nat.le_of_ble_eq_true rfl), (Nat.le_of_ble_eq_true rfl)⟩ hl rfl rfl (Nat.le_of_ble_eq_true rfl) dL_law_790 ⟨show cells + 0 ≤ 601024 from by omega, show slots + 0 ≤ 7293034 from by omega⟩ (fun r10 F H locs hT hr10 => ?_)
  refine W.widen (k := cells) (n := slots) (Nat.le_refl _) (Nat.le_refl _) ?_
  obtain ⟨hgr10, yr10⟩ := hr10
  have hf1 := (yr10.1 _ 1 (Or.inr (by decide)) (Or.inl (by rw [gx]; decide)) (Or.inr (by decide))).trans hf1
  have hf2 := (yr10.1 _ 6 (Or.inr (by decide)) (Or.inr (by decide)) (Or.inr (by decide))).trans hf2
  have hrd := (yr10.1 _ 8 (Or.inr (by decide)) (Or.inr (by decide)) (Or.inr (by decide))).trans hrd
  have hrs := (yr10.1 _ 10 (Or.inr (by decide)) (Or.inr (by decide)) (Or.inr (by decide))).trans hrs
  have hrn := (yr10.1 _ 11 (Or.inr (by decide)) (Or.inr (by decide)) (Or.inr (by decide))).trans hrn
  have hns := nsr_of (fun j => yr10.2 _ j (by rw [grs]; decide)) (fun j => yr10.2 _ j (by rw [grn]; decide)) hns
  refine lv_pop hx hb dL_law_793 rfl ?_
  refine lv_goto (tgt := 1828) hx hb dL_law_794 (by decide) ?_
  exact kk tag L F H locs _ cells slots (by omega) (by omega) hT ⟨mx, gx, mm, gm, mo, go, f1, f2, hf1, hf2, hff, hf0, hf9, rd, rs, rn, hrd, mrd, grd, hrs, hrn, mrs, mrn, grs, grn, hns⟩ (lv_sub hl [0, 1, 2, 3, 4] rfl)
set_option maxHeartbeats 4000000 in
set_option maxRecDepth 100000 in
theorem law_c17 {p : Program} {e : Env} {s : State} {m : MethodId} {below : List Frame} {meth : Method} {c : Code} (l : Launch) (G : KG) (b : Nat) (xs : Nat → Int32) {L9 : Nat} (hL9 : L9 ≤ 3072) (X : CX p s m #[Value.ref b] meth c cL_law 7 RL ret G (fun q : Nat => s.heap.size ≤ q) lw_tbl) (hX : va_X b L9 xs s s.heap) (hbl : b < s.heap.size) {H : Heap} {locs : List Loc} {ls : Array Slot} {cells slots : Nat} (hc : cells ≤ 600000) (hs : slots ≤ 7290000) {tag : Nat → Nat} {L : List Nat} {F : Nat → va_E} (x0 m0 o0 : Nat) (i : Int32) (hi : 0 ≤ i.toInt ∧ i.toInt + 6 ≤ (L9 : Int)) (hT : TH G ttC (fun q : Nat => s.heap.size ≤ q) s tag L F H locs) (hI : LINV tag L F x0 m0 o0) (hl : lv_has ls 7 [(4, .int i), (3, .ref o0), (2, .ref m0), (1, .ref x0), (0, .ref b)]) (kk : ∀ (tag1 : Nat → Nat) (L1 : List Nat) (F1 : Nat → va_E) (H1 : Heap) (locs1 : List Loc) (ls1 : Array Slot) (c1 s1 : Nat), c1 ≤ cells + 17 → s1 ≤ slots + 541 → TH G ttC (fun q : Nat => s.heap.size ≤ q) s tag1 L1 F1 H1 locs1 → LINV tag1 L1 F1 x0 m0 o0 → lv_has ls1 7 [(4, .int i), (3, .ref o0), (2, .ref m0), (1, .ref x0), (0, .ref b)] → W p l e room_1 s m #[Value.ref b] below meth c H1 locs1 c1 s1 (lw_Z below #[Value.ref b] s) (F0 m 1828 ls1 [])) : W p l e room_1 s m #[Value.ref b] below meth c H locs cells slots (lw_Z below #[Value.ref b] s) (F0 m 797 ls []) := by
  have hx := X.1.1
  have hb := X.1.2.1
  have hbA : ¬ (fun q : Nat => s.heap.size ≤ q) b := Nat.not_le.mpr hbl
  have hL9i : (L9 : Int) ≤ 3072 := by omega
  obtain ⟨mx, gx, mm, gm, mo, go, f1, f2, hf1, hf2, hff, hf0, hf9, rd, rs, rn, hrd, mrd, grd, hrs, hrn, mrs, mrn, grs, grn, hns⟩ := hI
  refine lv_aload_n hx hb dL_law_797 rfl (lv_at hl 3 rfl) ?_
  refine lv_aload_n hx hb dL_law_798 rfl (lv_at hl 4 rfl) ?_
  refine lv_iload hx hb dL_law_799 (lv_at hl 0 rfl) ?_
  refine lv_iconst (v := 1) hx hb dL_law_801 (by decide) ?_
  refine lv_iadd hx hb dL_law_802 ?_
  refine lv_topi (fun z1 ez1 => ?_)
  have hz1 : z1.toInt = i.toInt + 1 := ar_add ez1 rfl (by decide : (1 : Int32).toInt = 1) (by omega) (by omega)
  refine va_sld hx hb hX hbl hbA hT.2.2.1 (vp_in_iff.mpr (by omega)) dL_law_803 ?_
  refine lv_topi (fun v2 ev2 => ?_)
  refine lv_aload_n hx hb dL_law_804 rfl (lv_at hl 4 rfl) ?_
  refine lv_iload hx hb dL_law_805 (lv_at hl 0 rfl) ?_
  refine lv_iconst (v := 2) hx hb dL_law_807 (by decide) ?_
  refine lv_iadd hx hb dL_law_808 ?_
  refine lv_topi (fun z3 ez3 => ?_)
  have hz3 : z3.toInt = i.toInt + 2 := ar_add ez3 rfl (by decide : (2 : Int32).toInt = 2) (by omega) (by omega)
  refine va_sld hx hb hX hbl hbA hT.2.2.1 (vp_in_iff.mpr (by omega)) dL_law_809 ?_
  refine lv_topi (fun v4 ev4 => ?_)
  refine t_cVi (n := 2) (C := RX11) (T := TX11) (N := 16) (As := [.int v2, .int v4]) (rest := []) X hT (kt358_X11_breaks l G tag L F hT.2.2.2 x0 v2 v4 mx gx) mx gx rfl rfl qw_1071 qw_1072 qw_1073 qw_2 qw_1074 ⟨rfl, by decide +kernel, by decide +kernel, by decide +kernel⟩ ⟨(Nat.le_of_ble_eq_true rfl), (Nat.le_of_ble_eq_true rfl)⟩ hl rfl rfl (Nat.le_of_ble_eq_true rfl) dL_law_810 ⟨show cells + 0 ≤ 601024 from by omega, show slots + 0 ≤ 7293034 from by omega⟩ (fun r5 F H locs hT hr5 => ?_)
  refine W.widen (k := cells) (n := slots) (Nat.le_refl _) (Nat.le_refl _) ?_
  obtain ⟨hgr5, yr5⟩ := hr5
  have hf1 := (yr5.1 _ 1 (Or.inr (by decide)) (Or.inl (by rw [gx]; decide)) (Or.inr (by decide))).trans hf1
  have hf2 := (yr5.1 _ 6 (Or.inr (by decide)) (Or.inr (by decide)) (Or.inr (by decide))).trans hf2
  have hrd := (yr5.1 _ 8 (Or.inr (by decide)) (Or.inr (by decide)) (Or.inr (by decide))).trans hrd
  have hrs := (yr5.1 _ 10 (Or.inr (by decide)) (Or.inr (by decide)) (Or.inr (by decide))).trans hrs
  have hrn := (yr5.1 _ 11 (Or.inr (by decide)) (Or.inr (by decide)) (Or.inr (by decide))).trans hrn
  have hns := nsr_of (fun j => yr5.2 _ j (Or.inl grs)) (fun j => yr5.2 _ j (Or.inr grn)) hns
  refine lv_pop hx hb dL_law_813 rfl ?_
  refine lv_aload_n hx hb dL_law_814 rfl (lv_at hl 2 rfl) ?_
  refine lv_aload_n hx hb dL_law_815 rfl (lv_at hl 4 rfl) ?_
  refine lv_iload hx hb dL_law_816 (lv_at hl 0 rfl) ?_
  refine lv_iconst (v := 1) hx hb dL_law_818 (by decide) ?_
  refine lv_iadd hx hb dL_law_819 ?_
  refine lv_topi (fun z6 ez6 => ?_)
  have hz6 : z6.toInt = i.toInt + 1 := ar_add ez6 rfl (by decide : (1 : Int32).toInt = 1) (by omega) (by omega)
  refine va_sld hx hb hX hbl hbA hT.2.2.1 (vp_in_iff.mpr (by omega)) dL_law_820 ?_
  refine lv_topi (fun v7 ev7 => ?_)
  refine lv_aload_n hx hb dL_law_821 rfl (lv_at hl 4 rfl) ?_
  refine lv_iload hx hb dL_law_822 (lv_at hl 0 rfl) ?_
  refine lv_iconst (v := 2) hx hb dL_law_824 (by decide) ?_
  refine lv_iadd hx hb dL_law_825 ?_
  refine lv_topi (fun z8 ez8 => ?_)
  have hz8 : z8.toInt = i.toInt + 2 := ar_add ez8 rfl (by decide : (2 : Int32).toInt = 2) (by omega) (by omega)
  refine va_sld hx hb hX hbl hbA hT.2.2.1 (vp_in_iff.mpr (by omega)) dL_law_826 ?_
  refine lv_topi (fun v9 ev9 => ?_)
  refine t_cVi (n := 2) (C := RX13) (T := TX13) (N := 37) (As := [.int v7, .int v9]) (rest := []) X hT (kp_X13_breaks l G tag L F hT.2.2.2 m0 v7 v9 mm gm) mm gm rfl rfl qw_1075 qw_1076 qw_1077 qw_5 qw_1078 ⟨rfl, by decide +kernel, by decide +kernel, by decide +kernel⟩ ⟨(Nat.le_of_ble_eq_true rfl), (Nat.le_of_ble_eq_true rfl)⟩ hl rfl rfl (Nat.le_of_ble_eq_true rfl) dL_law_827 ⟨show cells + 0 ≤ 601024 from by omega, show slots + 0 ≤ 7293034 from by omega⟩ (fun r10 F H locs hT hr10 => ?_)
  refine W.widen (k := cells) (n := slots) (Nat.le_refl _) (Nat.le_refl _) ?_
  obtain ⟨hgr10, yr10⟩ := hr10
  have hf1 := (yr10.1 _ 1 (Or.inr (by decide)) (Or.inl (by rw [gx]; decide)) (Or.inr (by decide))).trans hf1
  have hf2 := (yr10.1 _ 6 (Or.inr (by decide)) (Or.inr (by decide)) (Or.inr (by decide))).trans hf2
  have hrd := (yr10.1 _ 8 (Or.inr (by decide)) (Or.inr (by decide)) (Or.inr (by decide))).trans hrd
  have hrs := (yr10.1 _ 10 (Or.inr (by decide)) (Or.inr (by decide)) (Or.inr (by decide))).trans hrs
  have hrn := (yr10.1 _ 11 (Or.inr (by decide)) (Or.inr (by decide)) (Or.inr (by decide))).trans hrn
  have hns := nsr_of (fun j => yr10.2 _ j (by rw [grs]; decide)) (fun j => yr10.2 _ j (by rw [grn]; decide)) hns
  refine lv_pop hx hb dL_law_830 rfl ?_
  refine lv_goto (tgt := 1828) hx hb dL_law_831 (by decide) ?_
  exact kk tag L F H locs _ cells slots (by omega) (by omega) hT ⟨mx, gx, mm, gm, mo, go, f1, f2, hf1, hf2, hff, hf0, hf9, rd, rs, rn, hrd, mrd, grd, hrs, hrn, mrs, mrn, grs, grn, hns⟩ (lv_sub hl [0, 1, 2, 3, 4] rfl)
set_option maxHeartbeats 4000000 in
set_option maxRecDepth 100000 in
theorem law_c18 {p : Program} {e : Env} {s : State} {m : MethodId} {below : List Frame} {meth : Method} {c : Code} (l : Launch) (G : KG) (b : Nat) (xs : Nat → Int32) {L9 : Nat} (hL9 : L9 ≤ 3072) (X : CX p s m #[Value.ref b] meth c cL_law 7 RL ret G (fun q : Nat => s.heap.size ≤ q) lw_tbl) (hX : va_X b L9 xs s s.heap) (hbl : b < s.heap.size) {H : Heap} {locs : List Loc} {ls : Array Slot} {cells slots : Nat} (hc : cells ≤ 600000) (hs : slots ≤ 7290000) {tag : Nat → Nat} {L : List Nat} {F : Nat → va_E} (x0 m0 o0 : Nat) (i : Int32) (hi : 0 ≤ i.toInt ∧ i.toInt + 6 ≤ (L9 : Int)) (hT : TH G ttC (fun q : Nat => s.heap.size ≤ q) s tag L F H locs) (hI : LINV tag L F x0 m0 o0) (hl : lv_has ls 7 [(4, .int i), (3, .ref o0), (2, .ref m0), (1, .ref x0), (0, .ref b)]) (kk : ∀ (tag1 : Nat → Nat) (L1 : List Nat) (F1 : Nat → va_E) (H1 : Heap) (locs1 : List Loc) (ls1 : Array Slot) (c1 s1 : Nat), c1 ≤ cells + 17 → s1 ≤ slots + 541 → TH G ttC (fun q : Nat => s.heap.size ≤ q) s tag1 L1 F1 H1 locs1 → LINV tag1 L1 F1 x0 m0 o0 → lv_has ls1 7 [(4, .int i), (3, .ref o0), (2, .ref m0), (1, .ref x0), (0, .ref b)] → W p l e room_1 s m #[Value.ref b] below meth c H1 locs1 c1 s1 (lw_Z below #[Value.ref b] s) (F0 m 1828 ls1 [])) : W p l e room_1 s m #[Value.ref b] below meth c H locs cells slots (lw_Z below #[Value.ref b] s) (F0 m 834 ls []) := by
  have hx := X.1.1
  have hb := X.1.2.1
  have hbA : ¬ (fun q : Nat => s.heap.size ≤ q) b := Nat.not_le.mpr hbl
  have hL9i : (L9 : Int) ≤ 3072 := by omega
  obtain ⟨mx, gx, mm, gm, mo, go, f1, f2, hf1, hf2, hff, hf0, hf9, rd, rs, rn, hrd, mrd, grd, hrs, hrn, mrs, mrn, grs, grn, hns⟩ := hI
  refine lv_aload_n hx hb dL_law_834 rfl (lv_at hl 3 rfl) ?_
  refine lv_aload_n hx hb dL_law_835 rfl (lv_at hl 4 rfl) ?_
  refine lv_iload hx hb dL_law_836 (lv_at hl 0 rfl) ?_
  refine lv_iconst (v := 1) hx hb dL_law_838 (by decide) ?_
  refine lv_iadd hx hb dL_law_839 ?_
  refine lv_topi (fun z1 ez1 => ?_)
  have hz1 : z1.toInt = i.toInt + 1 := ar_add ez1 rfl (by decide : (1 : Int32).toInt = 1) (by omega) (by omega)
  refine va_sld hx hb hX hbl hbA hT.2.2.1 (vp_in_iff.mpr (by omega)) dL_law_840 ?_
  refine lv_topi (fun v2 ev2 => ?_)
  refine lv_aload_n hx hb dL_law_841 rfl (lv_at hl 4 rfl) ?_
  refine lv_iload hx hb dL_law_842 (lv_at hl 0 rfl) ?_
  refine lv_iconst (v := 2) hx hb dL_law_844 (by decide) ?_
  refine lv_iadd hx hb dL_law_845 ?_
  refine lv_topi (fun z3 ez3 => ?_)
  have hz3 : z3.toInt = i.toInt + 2 := ar_add ez3 rfl (by decide : (2 : Int32).toInt = 2) (by omega) (by omega)
  refine va_sld hx hb hX hbl hbA hT.2.2.1 (vp_in_iff.mpr (by omega)) dL_law_846 ?_
  refine lv_topi (fun v4 ev4 => ?_)
  refine t_cVi (n := 2) (C := RX11) (T := TX11) (N := 16) (As := [.int v2, .int v4]) (rest := []) X hT (kt405_X11_round l G tag L F hT.2.2.2 x0 v2 v4 mx gx) mx gx rfl rfl qw_1079 qw_1080 qw_1081 qw_2 qw_1082 ⟨rfl, by decide +kernel, by decide +kernel, by decide +kernel⟩ ⟨(Nat.le_of_ble_eq_true rfl), (Nat.le_of_ble_eq_true rfl)⟩ hl rfl rfl (Nat.le_of_ble_eq_true rfl) dL_law_847 ⟨show cells + 0 ≤ 601024 from by omega, show slots + 0 ≤ 7293034 from by omega⟩ (fun r5 F H locs hT hr5 => ?_)
  refine W.widen (k := cells) (n := slots) (Nat.le_refl _) (Nat.le_refl _) ?_
  obtain ⟨hgr5, yr5⟩ := hr5
  have hf1 := (yr5.1 _ 1 (Or.inr (by decide))).trans hf1
  have hf2 := (yr5.1 _ 6 (Or.inr (by decide))).trans hf2
  have hrd := (yr5.1 _ 8 (Or.inr (by decide))).trans hrd
  have hrs := (yr5.1 _ 10 (Or.inr (by decide))).trans hrs
  have hrn := (yr5.1 _ 11 (Or.inr (by decide))).trans hrn
  have hns := nsr_of (fun j => yr5.2 _ j (Or.inl grs)) (fun j => yr5.2 _ j (Or.inr grn)) hns
  refine lv_pop hx hb dL_law_850 rfl ?_
  refine lv_aload_n hx hb dL_law_851 rfl (lv_at hl 2 rfl) ?_
  refine lv_aload_n hx hb dL_law_852 rfl (lv_at hl 4 rfl) ?_
  refine lv_iload hx hb dL_law_853 (lv_at hl 0 rfl) ?_
  refine lv_iconst (v := 1) hx hb dL_law_855 (by decide) ?_
  refine lv_iadd hx hb dL_law_856 ?_
  refine lv_topi (fun z6 ez6 => ?_)
  have hz6 : z6.toInt = i.toInt + 1 := ar_add ez6 rfl (by decide : (1 : Int32).toInt = 1) (by omega) (by omega)
  refine va_sld hx hb hX hbl hbA hT.2.2.1 (vp_in_iff.mpr (by omega)) dL_law_857 ?_
  refine lv_topi (fun v7 ev7 => ?_)
  refine lv_aload_n hx hb dL_law_858 rfl (lv_at hl 4 rfl) ?_
  refine lv_iload hx hb dL_law_859 (lv_at hl 0 rfl) ?_
  refine lv_iconst (v := 2) hx hb dL_law_861 (by decide) ?_
  refine lv_iadd hx hb dL_law_862 ?_
  refine lv_topi (fun z8 ez8 => ?_)
  have hz8 : z8.toInt = i.toInt + 2 := ar_add ez8 rfl (by decide : (2 : Int32).toInt = 2) (by omega) (by omega)
  refine va_sld hx hb hX hbl hbA hT.2.2.1 (vp_in_iff.mpr (by omega)) dL_law_863 ?_
  refine lv_topi (fun v9 ev9 => ?_)
  refine t_cVi (n := 2) (C := RX13) (T := TX13) (N := 37) (As := [.int v7, .int v9]) (rest := []) X hT (kp_X13_round l G tag L F hT.2.2.2 m0 v7 v9 mm gm) mm gm rfl rfl qw_1084 qw_1085 qw_1086 qw_5 qw_1087 ⟨rfl, by decide +kernel, by decide +kernel, by decide +kernel⟩ ⟨(Nat.le_of_ble_eq_true rfl), (Nat.le_of_ble_eq_true rfl)⟩ hl rfl rfl (Nat.le_of_ble_eq_true rfl) dL_law_864 ⟨show cells + 0 ≤ 601024 from by omega, show slots + 0 ≤ 7293034 from by omega⟩ (fun r10 F H locs hT hr10 => ?_)
  refine W.widen (k := cells) (n := slots) (Nat.le_refl _) (Nat.le_refl _) ?_
  obtain ⟨hgr10, yr10⟩ := hr10
  have hf1 := (yr10.1 _ 1 (Or.inr (by decide)) (Or.inl (by rw [gx]; decide)) (Or.inr (by decide))).trans hf1
  have hf2 := (yr10.1 _ 6 (Or.inr (by decide)) (Or.inr (by decide)) (Or.inr (by decide))).trans hf2
  have hrd := (yr10.1 _ 8 (Or.inr (by decide)) (Or.inr (by decide)) (Or.inr (by decide))).trans hrd
  have hrs := (yr10.1 _ 10 (Or.inr (by decide)) (Or.inr (by decide)) (Or.inr (by decide))).trans hrs
  have hrn := (yr10.1 _ 11 (Or.inr (by decide)) (Or.inr (by decide)) (Or.inr (by decide))).trans hrn
  have hns := nsr_of (fun j => yr10.2 _ j ) (fun j => yr10.2 _ j ) hns
  refine lv_pop hx hb dL_law_867 rfl ?_
  refine lv_goto (tgt := 1828) hx hb dL_law_868 (by decide) ?_
  exact kk tag L F H locs _ cells slots (by omega) (by omega) hT ⟨mx, gx, mm, gm, mo, go, f1, f2, hf1, hf2, hff, hf0, hf9, rd, rs, rn, hrd, mrd, grd, hrs, hrn, mrs, mrn, grs, grn, hns⟩ (lv_sub hl [0, 1, 2, 3, 4] rfl)
set_option maxHeartbeats 4000000 in
set_option maxRecDepth 100000 in
theorem law_c19 {p : Program} {e : Env} {s : State} {m : MethodId} {below : List Frame} {meth : Method} {c : Code} (l : Launch) (G : KG) (b : Nat) (xs : Nat → Int32) {L9 : Nat} (hL9 : L9 ≤ 3072) (X : CX p s m #[Value.ref b] meth c cL_law 7 RL ret G (fun q : Nat => s.heap.size ≤ q) lw_tbl) (hX : va_X b L9 xs s s.heap) (hbl : b < s.heap.size) {H : Heap} {locs : List Loc} {ls : Array Slot} {cells slots : Nat} (hc : cells ≤ 600000) (hs : slots ≤ 7290000) {tag : Nat → Nat} {L : List Nat} {F : Nat → va_E} (x0 m0 o0 : Nat) (i : Int32) (hi : 0 ≤ i.toInt ∧ i.toInt + 6 ≤ (L9 : Int)) (hT : TH G ttC (fun q : Nat => s.heap.size ≤ q) s tag L F H locs) (hI : LINV tag L F x0 m0 o0) (hl : lv_has ls 7 [(4, .int i), (3, .ref o0), (2, .ref m0), (1, .ref x0), (0, .ref b)]) (kk : ∀ (tag1 : Nat → Nat) (L1 : List Nat) (F1 : Nat → va_E) (H1 : Heap) (locs1 : List Loc) (ls1 : Array Slot) (c1 s1 : Nat), c1 ≤ cells + 17 → s1 ≤ slots + 541 → TH G ttC (fun q : Nat => s.heap.size ≤ q) s tag1 L1 F1 H1 locs1 → LINV tag1 L1 F1 x0 m0 o0 → lv_has ls1 7 [(4, .int i), (3, .ref o0), (2, .ref m0), (1, .ref x0), (0, .ref b)] → W p l e room_1 s m #[Value.ref b] below meth c H1 locs1 c1 s1 (lw_Z below #[Value.ref b] s) (F0 m 1828 ls1 [])) : W p l e room_1 s m #[Value.ref b] below meth c H locs cells slots (lw_Z below #[Value.ref b] s) (F0 m 871 ls []) := by
  have hx := X.1.1
  have hb := X.1.2.1
  have hbA : ¬ (fun q : Nat => s.heap.size ≤ q) b := Nat.not_le.mpr hbl
  have hL9i : (L9 : Int) ≤ 3072 := by omega
  obtain ⟨mx, gx, mm, gm, mo, go, f1, f2, hf1, hf2, hff, hf0, hf9, rd, rs, rn, hrd, mrd, grd, hrs, hrn, mrs, mrn, grs, grn, hns⟩ := hI
  refine lv_aload_n hx hb dL_law_871 rfl (lv_at hl 3 rfl) ?_
  refine lv_aload_n hx hb dL_law_872 rfl (lv_at hl 4 rfl) ?_
  refine lv_iload hx hb dL_law_873 (lv_at hl 0 rfl) ?_
  refine lv_iconst (v := 1) hx hb dL_law_875 (by decide) ?_
  refine lv_iadd hx hb dL_law_876 ?_
  refine lv_topi (fun z1 ez1 => ?_)
  have hz1 : z1.toInt = i.toInt + 1 := ar_add ez1 rfl (by decide : (1 : Int32).toInt = 1) (by omega) (by omega)
  refine va_sld hx hb hX hbl hbA hT.2.2.1 (vp_in_iff.mpr (by omega)) dL_law_877 ?_
  refine lv_topi (fun v2 ev2 => ?_)
  refine lv_aload_n hx hb dL_law_878 rfl (lv_at hl 4 rfl) ?_
  refine lv_iload hx hb dL_law_879 (lv_at hl 0 rfl) ?_
  refine lv_iconst (v := 2) hx hb dL_law_881 (by decide) ?_
  refine lv_iadd hx hb dL_law_882 ?_
  refine lv_topi (fun z3 ez3 => ?_)
  have hz3 : z3.toInt = i.toInt + 2 := ar_add ez3 rfl (by decide : (2 : Int32).toInt = 2) (by omega) (by omega)
  refine va_sld hx hb hX hbl hbA hT.2.2.1 (vp_in_iff.mpr (by omega)) dL_law_883 ?_
  refine lv_topi (fun v4 ev4 => ?_)
  refine lv_aload_n hx hb dL_law_884 rfl (lv_at hl 4 rfl) ?_
  refine lv_iload hx hb dL_law_885 (lv_at hl 0 rfl) ?_
  refine lv_iconst (v := 3) hx hb dL_law_887 (by decide) ?_
  refine lv_iadd hx hb dL_law_888 ?_
  refine lv_topi (fun z5 ez5 => ?_)
  have hz5 : z5.toInt = i.toInt + 3 := ar_add ez5 rfl (by decide : (3 : Int32).toInt = 3) (by omega) (by omega)
  refine va_sld hx hb hX hbl hbA hT.2.2.1 (vp_in_iff.mpr (by omega)) dL_law_889 ?_
  refine lv_topi (fun v6 ev6 => ?_)
  refine t_cVi (n := 3) (C := RX11) (T := TX11) (N := 16) (As := [.int v2, .int v4, .int v6]) (rest := []) X hT (kt383_X11_in l G tag L F hT.2.2.2 x0 v2 v4 v6 mx gx) mx gx rfl rfl qw_1088 qw_1089 qw_1090 qw_2 qw_1091 ⟨rfl, by decide +kernel, by decide +kernel, by decide +kernel⟩ ⟨(Nat.le_of_ble_eq_true rfl), (Nat.le_of_ble_eq_true rfl)⟩ hl rfl rfl (Nat.le_of_ble_eq_true rfl) dL_law_890 ⟨show cells + 0 ≤ 601024 from by omega, show slots + 0 ≤ 7293034 from by omega⟩ (fun r7 F H locs hT hr7 => ?_)
  refine W.widen (k := cells) (n := slots) (Nat.le_refl _) (Nat.le_refl _) ?_
  obtain ⟨hgr7, yr7⟩ := hr7
  have hf1 := (yr7.1 _ 1 (Or.inr (by decide)) (Or.inl (by rw [gx]; decide)) (Or.inr (by decide))).trans hf1
  have hf2 := (yr7.1 _ 6 (Or.inr (by decide)) (Or.inr (by decide)) (Or.inr (by decide))).trans hf2
  have hrd := (yr7.1 _ 8 (Or.inr (by decide)) (Or.inr (by decide)) (Or.inr (by decide))).trans hrd
  have hrs := (yr7.1 _ 10 (Or.inr (by decide)) (Or.inr (by decide)) (Or.inr (by decide))).trans hrs
  have hrn := (yr7.1 _ 11 (Or.inr (by decide)) (Or.inr (by decide)) (Or.inr (by decide))).trans hrn
  have hns := nsr_of (fun j => yr7.2 _ j (Or.inl grs)) (fun j => yr7.2 _ j (Or.inr grn)) hns
  refine lv_pop hx hb dL_law_893 rfl ?_
  refine lv_aload_n hx hb dL_law_894 rfl (lv_at hl 2 rfl) ?_
  refine lv_aload_n hx hb dL_law_895 rfl (lv_at hl 4 rfl) ?_
  refine lv_iload hx hb dL_law_896 (lv_at hl 0 rfl) ?_
  refine lv_iconst (v := 1) hx hb dL_law_898 (by decide) ?_
  refine lv_iadd hx hb dL_law_899 ?_
  refine lv_topi (fun z8 ez8 => ?_)
  have hz8 : z8.toInt = i.toInt + 1 := ar_add ez8 rfl (by decide : (1 : Int32).toInt = 1) (by omega) (by omega)
  refine va_sld hx hb hX hbl hbA hT.2.2.1 (vp_in_iff.mpr (by omega)) dL_law_900 ?_
  refine lv_topi (fun v9 ev9 => ?_)
  refine lv_aload_n hx hb dL_law_901 rfl (lv_at hl 4 rfl) ?_
  refine lv_iload hx hb dL_law_902 (lv_at hl 0 rfl) ?_
  refine lv_iconst (v := 2) hx hb dL_law_904 (by decide) ?_
  refine lv_iadd hx hb dL_law_905 ?_
  refine lv_topi (fun z10 ez10 => ?_)
  have hz10 : z10.toInt = i.toInt + 2 := ar_add ez10 rfl (by decide : (2 : Int32).toInt = 2) (by omega) (by omega)
  refine va_sld hx hb hX hbl hbA hT.2.2.1 (vp_in_iff.mpr (by omega)) dL_law_906 ?_
  refine lv_topi (fun v11 ev11 => ?_)
  refine lv_aload_n hx hb dL_law_907 rfl (lv_at hl 4 rfl) ?_
  refine lv_iload hx hb dL_law_908 (lv_at hl 0 rfl) ?_
  refine lv_iconst (v := 3) hx hb dL_law_910 (by decide) ?_
  refine lv_iadd hx hb dL_law_911 ?_
  refine lv_topi (fun z12 ez12 => ?_)
  have hz12 : z12.toInt = i.toInt + 3 := ar_add ez12 rfl (by decide : (3 : Int32).toInt = 3) (by omega) (by omega)
  refine va_sld hx hb hX hbl hbA hT.2.2.1 (vp_in_iff.mpr (by omega)) dL_law_912 ?_
  refine lv_topi (fun v13 ev13 => ?_)
  refine t_cVi (n := 3) (C := RX13) (T := TX13) (N := 37) (As := [.int v9, .int v11, .int v13]) (rest := []) X hT (kp_X13_in l G tag L F hT.2.2.2 m0 v9 v11 v13 mm gm) mm gm rfl rfl qw_1140 qw_1141 qw_1142 qw_5 qw_1143 ⟨rfl, by decide +kernel, by decide +kernel, by decide +kernel⟩ ⟨(Nat.le_of_ble_eq_true rfl), (Nat.le_of_ble_eq_true rfl)⟩ hl rfl rfl (Nat.le_of_ble_eq_true rfl) dL_law_913 ⟨show cells + 0 ≤ 601024 from by omega, show slots + 0 ≤ 7293034 from by omega⟩ (fun r14 F H locs hT hr14 => ?_)
  refine W.widen (k := cells) (n := slots) (Nat.le_refl _) (Nat.le_refl _) ?_
  obtain ⟨hgr14, yr14⟩ := hr14
  have hf1 := (yr14.1 _ 1 (Or.inr (by decide)) (Or.inl (by rw [gx]; decide)) (Or.inr (by decide)) (Or.inr (by decide)) (Or.inr (by decide))).trans hf1
  have hf2 := (yr14.1 _ 6 (Or.inr (by decide)) (Or.inr (by decide)) (Or.inr (by decide)) (Or.inr (by decide)) (Or.inr (by decide))).trans hf2
  have hrd := (yr14.1 _ 8 (Or.inr (by decide)) (Or.inr (by decide)) (Or.inr (by decide)) (Or.inr (by decide)) (Or.inr (by decide))).trans hrd
  have hrs := (yr14.1 _ 10 (Or.inr (by decide)) (Or.inr (by decide)) (Or.inr (by decide)) (Or.inr (by decide)) (Or.inr (by decide))).trans hrs
  have hrn := (yr14.1 _ 11 (Or.inr (by decide)) (Or.inr (by decide)) (Or.inr (by decide)) (Or.inr (by decide)) (Or.inr (by decide))).trans hrn
  have hns := nsr_of (fun j => yr14.2 _ j (by rw [grs]; decide) (by rw [grs]; decide)) (fun j => yr14.2 _ j (by rw [grn]; decide) (by rw [grn]; decide)) hns
  refine lv_pop hx hb dL_law_916 rfl ?_
  refine lv_goto (tgt := 1828) hx hb dL_law_917 (by decide) ?_
  exact kk tag L F H locs _ cells slots (by omega) (by omega) hT ⟨mx, gx, mm, gm, mo, go, f1, f2, hf1, hf2, hff, hf0, hf9, rd, rs, rn, hrd, mrd, grd, hrs, hrn, mrs, mrn, grs, grn, hns⟩ (lv_sub hl [0, 1, 2, 3, 4] rfl)
