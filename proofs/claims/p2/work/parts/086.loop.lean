theorem law_exit {p : Program} {e : Env} {s : State} {m : MethodId} {below : List Frame} {meth : Method} {c : Code} (l : Launch) (G : KG) (b : Nat) (X : CX p s m #[Value.ref b] meth c cL_law 7 RL ret G (fun q : Nat => s.heap.size ≤ q) lw_tbl) {H : Heap} {locs : List Loc} {ls : Array Slot} {cells slots : Nat} (hS : va_S (fun q : Nat => s.heap.size ≤ q) s.heap H locs) (h1 : cells ≤ 601024) (h2 : slots ≤ 7293034) : W p l e room_1 s m #[Value.ref b] below meth c H locs cells slots (lw_Z below #[Value.ref b] s) (F0 m 1834 ls []) := by
  refine lv_iconst (v := 1) X.1.1 X.1.2.1 dL_law_1834 (by decide) ?_
  refine va_forget (fun q hq => hS.2.2 q hq) ?_
  refine W.widen h1 h2 ?_
  exact lw_ret X.1.1 X.1.2.1 X.2.2.2.2.2.1 X.2.2.2.2.2.2 dL_law_1835
theorem law_head {p : Program} {e : Env} {s : State} {m : MethodId} {below : List Frame} {meth : Method} {c : Code} (l : Launch) (G : KG) (b : Nat) (xs : Nat → Int32) {L9 : Nat} (hL9 : L9 ≤ 3072) (X : CX p s m #[Value.ref b] meth c cL_law 7 RL ret G (fun q : Nat => s.heap.size ≤ q) lw_tbl) (hX : va_X b L9 xs s s.heap) (hbl : b < s.heap.size) {H : Heap} {locs : List Loc} {ls : Array Slot} {cells slots : Nat} (hc : cells ≤ 600000) (hs : slots ≤ 7290000) (x0 m0 o0 : Nat) (i : Int32) (hi0 : 0 ≤ i.toInt) (hS : va_S (fun q : Nat => s.heap.size ≤ q) s.heap H locs) (hl : lv_has ls 7 [(4, .int i), (3, .ref o0), (2, .ref m0), (1, .ref x0), (0, .ref b)]) (kk : i.toInt + 6 ≤ (L9 : Int) → W p l e room_1 s m #[Value.ref b] below meth c H locs cells slots (lw_Z below #[Value.ref b] s) (F0 m 33 ls [])) : W p l e room_1 s m #[Value.ref b] below meth c H locs cells slots (lw_Z below #[Value.ref b] s) (F0 m 23 ls []) := by
  have hx := X.1.1
  have hb := X.1.2.1
  have hbA : ¬ (fun q : Nat => s.heap.size ≤ q) b := Nat.not_le.mpr hbl
  have hn9 : (Int32.ofNat L9).toInt = (L9 : Int) := Int32.toInt_ofNat_of_lt (by omega)
  refine lv_iload hx hb dL_law_23 (lv_at hl 0 rfl) ?_
  refine lv_aload_n hx hb dL_law_25 rfl (lv_at hl 4 rfl) ?_
  refine va_slen hx hb hX hbl hbA hS dL_law_26 ?_
  refine lv_bipush (v := 6) hx hb dL_law_27 (by decide) ?_
  refine lv_isub hx hb dL_law_29 ?_
  refine lv_topi (fun z ez => ?_)
  have hz : z.toInt = (L9 : Int) - 6 := ar_sub ez hn9 (by decide : (6 : Int32).toInt = 6) (by omega) (by omega)
  refine lv_icmp_gt (tgt := 1834) hx hb dL_law_30 (by decide) (fun _ => ?_) (fun c9 => ?_)
  · exact law_exit l G b X hS (by omega) (by omega)
  · have w9 := cv_nlt (rfl : z.toInt = z.toInt) (rfl : i.toInt = i.toInt) c9
    exact kk (by omega)
set_option maxHeartbeats 4000000 in
set_option maxRecDepth 100000 in
theorem law_loop {p : Program} {e : Env} {s : State} {m : MethodId} {below : List Frame} {meth : Method} {c : Code} (l : Launch) (G : KG) (b : Nat) (xs : Nat → Int32) {L9 : Nat} (hL9 : L9 ≤ 3072) (hlt : l.stackTraces = false) (hEX : EX s) (hU : vx_Zq Bundle.tN "UNASSIGNED_STACK" Bundle.steD (fun q : Nat => s.heap.size ≤ q) s s.heap) (hN : vx_Zq Bundle.tN "SUPPRESSED_SENTINEL" Bundle.listD (fun q : Nat => s.heap.size ≤ q) s s.heap) (X : CX p s m #[Value.ref b] meth c cL_law 7 RL ret G (fun q : Nat => s.heap.size ≤ q) lw_tbl) (hX : va_X b L9 xs s s.heap) (hbl : b < s.heap.size) : ∀ (n : Nat) (i : Int32) (tag : Nat → Nat) (L : List Nat) (F : Nat → va_E) (H : Heap) (locs : List Loc) (ls : Array Slot) (cells slots x0 m0 o0 : Nat), 0 ≤ i.toInt → (3072 - i.toInt < 6 * (n : Int)) → cells + 17 * n ≤ 600000 → slots + 541 * n ≤ 7290000 → TH G ttC (fun q : Nat => s.heap.size ≤ q) s tag L F H locs → LINV tag L F x0 m0 o0 → lv_has ls 7 [(4, .int i), (3, .ref o0), (2, .ref m0), (1, .ref x0), (0, .ref b)] → W p l e room_1 s m #[Value.ref b] below meth c H locs cells slots (lw_Z below #[Value.ref b] s) (F0 m 23 ls []) := by
  intro n
  induction n with
  | zero =>
    intro i tag L F H locs ls cells slots x0 m0 o0 hi0 hn hcs hss hT hI hl
    exact law_head l G b xs hL9 X hX hbl (by omega) (by omega) x0 m0 o0 i hi0 hT.2.2.1 hl (fun hi => absurd hi (by omega))
  | succ n ih =>
    intro i tag L F H locs ls cells slots x0 m0 o0 hi0 hn hcs hss hT hI hl
    refine law_head l G b xs hL9 X hX hbl (by omega) (by omega) x0 m0 o0 i hi0 hT.2.2.1 hl (fun hi => ?_)
    have hx := X.1.1
    have hb := X.1.2.1
    have hbA : ¬ (fun q : Nat => s.heap.size ≤ q) b := Nat.not_le.mpr hbl
    have hL9i : (L9 : Int) ≤ 3072 := by omega
    have hc : cells ≤ 600000 := by omega
    have hs : slots ≤ 7290000 := by omega
    have kk : ∀ (tag1 : Nat → Nat) (L1 : List Nat) (F1 : Nat → va_E) (H1 : Heap) (locs1 : List Loc) (ls1 : Array Slot) (c1 s1 : Nat), c1 ≤ cells + 17 → s1 ≤ slots + 541 → TH G ttC (fun q : Nat => s.heap.size ≤ q) s tag1 L1 F1 H1 locs1 → LINV tag1 L1 F1 x0 m0 o0 → lv_has ls1 7 [(4, .int i), (3, .ref o0), (2, .ref m0), (1, .ref x0), (0, .ref b)] → W p l e room_1 s m #[Value.ref b] below meth c H1 locs1 c1 s1 (lw_Z below #[Value.ref b] s) (F0 m 1828 ls1 []) := by
      intro tag1 L1 F1 H1 locs1 ls1 c1 s1 hc1 hs1 hT1 hI1 hl1
      obtain ⟨z, ez⟩ : ∃ y : Int32, y = i + 6 := ⟨_, rfl⟩
      have hz : z.toInt = i.toInt + 6 := ar_add ez rfl (by decide : (6 : Int32).toInt = 6) (by omega) (by omega)
      refine lv_iinc (v := z) (lv' := [(4, .int z), (3, .ref o0), (2, .ref m0), (1, .ref x0), (0, .ref b)]) hx hb dL_law_1828 hl1 (k := 0) rfl (by rw [ez]; rfl) (by decide) rfl (fun ls hl => ?_)
      refine lv_goto (tgt := 23) hx hb dL_law_1831 (by decide) ?_
      exact ih z tag1 L1 F1 H1 locs1 ls c1 s1 x0 m0 o0 (by omega) (by omega) (by omega) (by omega) hT1 hI1 hl
    have hi2 : 0 ≤ i.toInt ∧ i.toInt + 6 ≤ (L9 : Int) := ⟨hi0, hi⟩
    refine lv_aload_n hx hb dL_law_33 rfl (lv_at hl 4 rfl) ?_
    refine lv_iload hx hb dL_law_34 (lv_at hl 0 rfl) ?_
    refine va_sld hx hb hX hbl hbA hT.2.2.1 (vp_in_iff.mpr (by omega)) dL_law_36 ?_
    refine lv_bipush (v := 63) hx hb dL_law_37 (by decide) ?_
    refine lv_iand hx hb dL_law_39 ?_
    refine lv_topi (fun z ez => ?_)
    obtain ⟨j, hj, ej⟩ := pk_andE (xs i.toNatClampNeg) (m := 63) 6 (by decide)
    obtain rfl : z = nI j := ez.trans ej
    clear ez ej
    match j, hj with
    | 0, _ => exact lv_tableIn (off := 212) (tgt := 252) hx hb dL_law_40 (by decide) (by decide) (by decide) (by decide) (law_c0 l G b xs hL9 X hX hbl hc hs x0 m0 o0 i hi2 hT hI hl kk)
    | 1, _ => exact lv_tableIn (off := 285) (tgt := 325) hx hb dL_law_40 (by decide) (by decide) (by decide) (by decide) (law_c1 l G b xs hL9 X hX hbl hc hs x0 m0 o0 i hi2 hT hI hl kk)
    | 2, _ => exact lv_tableIn (off := 310) (tgt := 350) hx hb dL_law_40 (by decide) (by decide) (by decide) (by decide) (law_c2 l G b xs hL9 X hX hbl hc hs x0 m0 o0 i hi2 hT hI hl kk)
    | 3, _ => exact lv_tableIn (off := 323) (tgt := 363) hx hb dL_law_40 (by decide) (by decide) (by decide) (by decide) (law_c3 l G b xs hL9 X hX hbl hc hs x0 m0 o0 i hi2 hT hI hl kk)
    | 4, _ => exact lv_tableIn (off := 336) (tgt := 376) hx hb dL_law_40 (by decide) (by decide) (by decide) (by decide) (law_c4 l G b xs hL9 X hX hbl hc hs x0 m0 o0 i hi2 hT hI hl kk)
    | 5, _ => exact lv_tableIn (off := 373) (tgt := 413) hx hb dL_law_40 (by decide) (by decide) (by decide) (by decide) (law_c5 l G b xs hL9 X hX hbl hc hs x0 m0 o0 i hi2 hT hI hl kk)
    | 6, _ => exact lv_tableIn (off := 386) (tgt := 426) hx hb dL_law_40 (by decide) (by decide) (by decide) (by decide) (law_c6 l G b xs hL9 X hX hbl hc hs x0 m0 o0 i hi2 hT hI hl kk)
    | 7, _ => exact lv_tableIn (off := 399) (tgt := 439) hx hb dL_law_40 (by decide) (by decide) (by decide) (by decide) (law_c7 l G b xs hL9 X hX hbl hc hs x0 m0 o0 i hi2 hT hI hl kk)
    | 8, _ => exact lv_tableIn (off := 436) (tgt := 476) hx hb dL_law_40 (by decide) (by decide) (by decide) (by decide) (law_c8 l G b xs hL9 X hX hbl hc hs x0 m0 o0 i hi2 hT hI hl kk)
    | 9, _ => exact lv_tableIn (off := 485) (tgt := 525) hx hb dL_law_40 (by decide) (by decide) (by decide) (by decide) (law_c9 l G b xs hL9 X hX hbl hc hs x0 m0 o0 i hi2 hT hI hl kk)
    | 10, _ => exact lv_tableIn (off := 522) (tgt := 562) hx hb dL_law_40 (by decide) (by decide) (by decide) (by decide) (law_c10 l G b xs hL9 X hX hbl hc hs x0 m0 o0 i hi2 hT hI hl kk)
    | 11, _ => exact lv_tableIn (off := 559) (tgt := 599) hx hb dL_law_40 (by decide) (by decide) (by decide) (by decide) (law_c11 l G b xs hL9 X hX hbl hc hs x0 m0 o0 i hi2 hT hI hl kk)
    | 12, _ => exact lv_tableIn (off := 596) (tgt := 636) hx hb dL_law_40 (by decide) (by decide) (by decide) (by decide) (law_c12 l G b xs hL9 X hX hbl hc hs x0 m0 o0 i hi2 hT hI hl kk)
    | 13, _ => exact lv_tableIn (off := 621) (tgt := 661) hx hb dL_law_40 (by decide) (by decide) (by decide) (by decide) (law_c13 l G b xs hL9 X hX hbl hc hs x0 m0 o0 i hi2 hT hI hl kk)
    | 14, _ => exact lv_tableIn (off := 646) (tgt := 686) hx hb dL_law_40 (by decide) (by decide) (by decide) (by decide) (law_c14 l G b xs hL9 X hX hbl hc hs x0 m0 o0 i hi2 hT hI hl kk)
    | 15, _ => exact lv_tableIn (off := 683) (tgt := 723) hx hb dL_law_40 (by decide) (by decide) (by decide) (by decide) (law_c15 l G b xs hL9 X hX hbl hc hs x0 m0 o0 i hi2 hT hI hl kk)
    | 16, _ => exact lv_tableIn (off := 720) (tgt := 760) hx hb dL_law_40 (by decide) (by decide) (by decide) (by decide) (law_c16 l G b xs hL9 X hX hbl hc hs x0 m0 o0 i hi2 hT hI hl kk)
    | 17, _ => exact lv_tableIn (off := 757) (tgt := 797) hx hb dL_law_40 (by decide) (by decide) (by decide) (by decide) (law_c17 l G b xs hL9 X hX hbl hc hs x0 m0 o0 i hi2 hT hI hl kk)
    | 18, _ => exact lv_tableIn (off := 794) (tgt := 834) hx hb dL_law_40 (by decide) (by decide) (by decide) (by decide) (law_c18 l G b xs hL9 X hX hbl hc hs x0 m0 o0 i hi2 hT hI hl kk)
    | 19, _ => exact lv_tableIn (off := 831) (tgt := 871) hx hb dL_law_40 (by decide) (by decide) (by decide) (by decide) (law_c19 l G b xs hL9 X hX hbl hc hs x0 m0 o0 i hi2 hT hI hl kk)
    | 20, _ => exact lv_tableIn (off := 880) (tgt := 920) hx hb dL_law_40 (by decide) (by decide) (by decide) (by decide) (law_c20 l G b xs hL9 X hX hbl hc hs x0 m0 o0 i hi2 hT hI hl kk)
    | 21, _ => exact lv_tableIn (off := 905) (tgt := 945) hx hb dL_law_40 (by decide) (by decide) (by decide) (by decide) (law_c21 l G b xs hL9 X hX hbl hc hs x0 m0 o0 i hi2 hT hI hl kk)
    | 22, _ => exact lv_tableIn (off := 954) (tgt := 994) hx hb dL_law_40 (by decide) (by decide) (by decide) (by decide) (law_c22 l G b xs hL9 X hX hbl hc hs x0 m0 o0 i hi2 hT hI hl kk)
    | 23, _ => exact lv_tableIn (off := 1003) (tgt := 1043) hx hb dL_law_40 (by decide) (by decide) (by decide) (by decide) (law_c23 l G b xs hL9 X hX hbl hc hs x0 m0 o0 i hi2 hT hI hl kk)
    | 24, _ => exact lv_tableIn (off := 1028) (tgt := 1068) hx hb dL_law_40 (by decide) (by decide) (by decide) (by decide) (law_c24 l G b xs hL9 X hX hbl hc hs x0 m0 o0 i hi2 hT hI hl kk)
    | 25, _ => exact lv_tableIn (off := 1053) (tgt := 1093) hx hb dL_law_40 (by decide) (by decide) (by decide) (by decide) (law_c25 l G b xs hL9 X hX hbl hc hs x0 m0 o0 i hi2 hT hI hl kk)
    | 26, _ => exact lv_tableIn (off := 1090) (tgt := 1130) hx hb dL_law_40 (by decide) (by decide) (by decide) (by decide) (law_c26 l G b xs hL9 X hX hbl hc hs x0 m0 o0 i hi2 hT hI hl kk)
    | 27, _ => exact lv_tableIn (off := 1127) (tgt := 1167) hx hb dL_law_40 (by decide) (by decide) (by decide) (by decide) (law_c27 l G b xs hL9 X hX hbl hc hs x0 m0 o0 i hi2 hT hI hl kk)
    | 28, _ => exact lv_tableIn (off := 1152) (tgt := 1192) hx hb dL_law_40 (by decide) (by decide) (by decide) (by decide) (law_c28 l G b xs hL9 X hX hbl hc hs x0 m0 o0 i hi2 hT hI hl kk)
    | 29, _ => exact lv_tableIn (off := 1177) (tgt := 1217) hx hb dL_law_40 (by decide) (by decide) (by decide) (by decide) (law_c29 l G b xs hL9 X hX hbl hc hs x0 m0 o0 i hi2 hT hI hl kk)
    | 30, _ => exact lv_tableIn (off := 1190) (tgt := 1230) hx hb dL_law_40 (by decide) (by decide) (by decide) (by decide) (law_c30 l G b xs hL9 X hX hbl hc hs x0 m0 o0 i hi2 hT hI hl kk)
    | 31, _ => exact lv_tableIn (off := 1227) (tgt := 1267) hx hb dL_law_40 (by decide) (by decide) (by decide) (by decide) (law_c31 l G b xs hL9 X hX hbl hc hs x0 m0 o0 i hi2 hT hI hl kk)
    | 32, _ => exact lv_tableIn (off := 1252) (tgt := 1292) hx hb dL_law_40 (by decide) (by decide) (by decide) (by decide) (law_c32 l G b xs hL9 X hX hbl hc hs x0 m0 o0 i hi2 hT hI hl kk)
    | 33, _ => exact lv_tableIn (off := 1277) (tgt := 1317) hx hb dL_law_40 (by decide) (by decide) (by decide) (by decide) (law_c33 l G b xs hL9 X hX hbl hc hs x0 m0 o0 i hi2 hT hI hl kk)
    | 34, _ => exact lv_tableIn (off := 1314) (tgt := 1354) hx hb dL_law_40 (by decide) (by decide) (by decide) (by decide) (law_c34 l G b xs hL9 X hX hbl hc hs x0 m0 o0 i hi2 hT hI hl kk)
    | 35, _ => exact lv_tableIn (off := 1339) (tgt := 1379) hx hb dL_law_40 (by decide) (by decide) (by decide) (by decide) (law_c35 l G b xs hL9 X hX hbl hc hs x0 m0 o0 i hi2 hT hI hl kk)
    | 36, _ => exact lv_tableIn (off := 1412) (tgt := 1452) hx hb dL_law_40 (by decide) (by decide) (by decide) (by decide) (law_c36 l G b xs hL9 X hX hbl hc hs x0 m0 o0 i hi2 hT hI hl kk)
    | 37, _ => exact lv_tableIn (off := 1449) (tgt := 1489) hx hb dL_law_40 (by decide) (by decide) (by decide) (by decide) (law_c37 l G b xs hL9 X hX hbl hc hs x0 m0 o0 i hi2 hT hI hl kk)
    | 38, _ => exact lv_tableIn (off := 1474) (tgt := 1514) hx hb dL_law_40 (by decide) (by decide) (by decide) (by decide) (law_c38 l G b xs hL9 X hX hbl hc hs x0 m0 o0 i hi2 hT hI hl kk)
    | 39, _ => exact lv_tableIn (off := 1523) (tgt := 1563) hx hb dL_law_40 (by decide) (by decide) (by decide) (by decide) (law_c39 l G b xs hL9 X hX hbl hc hs x0 m0 o0 i hi2 hT hI hl kk)
    | 40, _ => exact lv_tableIn (off := 1560) (tgt := 1600) hx hb dL_law_40 (by decide) (by decide) (by decide) (by decide) (law_c40 l G b xs hL9 X hX hbl hc hs x0 m0 o0 i hi2 hT hI hl kk)
    | 41, _ => exact lv_tableIn (off := 1609) (tgt := 1649) hx hb dL_law_40 (by decide) (by decide) (by decide) (by decide) (law_c41 l G b xs hL9 X hX hbl hc hs x0 m0 o0 i hi2 hT hI hl kk)
    | 42, _ => exact lv_tableIn (off := 1634) (tgt := 1674) hx hb dL_law_40 (by decide) (by decide) (by decide) (by decide) (law_c42 l G b xs hL9 X hX hbl hc hs x0 m0 o0 i hi2 hT hI hl kk)
    | 43, _ => exact lv_tableIn (off := 1647) (tgt := 1687) hx hb dL_law_40 (by decide) (by decide) (by decide) (by decide) (law_c43 l G b xs hL9 X hX hbl hc hs x0 m0 o0 i hi2 hT hI hl kk)
    | 44, _ => exact lv_tableIn (off := 1660) (tgt := 1700) hx hb dL_law_40 (by decide) (by decide) (by decide) (by decide) (law_c44 l G b xs hL9 X hX hbl hc hs x0 m0 o0 i hi2 hT hI hl kk)
    | 45, _ => exact lv_tableIn (off := 1685) (tgt := 1725) hx hb dL_law_40 (by decide) (by decide) (by decide) (by decide) (law_c45 l G b xs hL9 X hX hbl hc hs x0 m0 o0 i hi2 hT hI hl kk)
    | 46, _ => exact lv_tableIn (off := 1722) (tgt := 1762) hx hb dL_law_40 (by decide) (by decide) (by decide) (by decide) (law_c46 l G b xs hL9 hlt hEX hU hN X hX hbl hc hs x0 m0 o0 i hi2 hT hI hl kk)
    | 47, _ => exact lv_tableIn (off := 1750) (tgt := 1790) hx hb dL_law_40 (by decide) (by decide) (by decide) (by decide) (law_c47 l G b xs hL9 X hX hbl hc hs x0 m0 o0 i hi2 hT hI hl kk)
    | 48, _ => exact lv_tableIn (off := 1775) (tgt := 1815) hx hb dL_law_40 (by decide) (by decide) (by decide) (by decide) (law_c48 l G b xs hL9 X hX hbl hc hs x0 m0 o0 i hi2 hT hI hl kk)
    | n + 49, hj => exact lv_tableOut (tgt := 1828) hx hb dL_law_40 (Or.inr (by rw [nI_toInt (by omega)]; omega)) (by decide) (kk tag L F H locs ls cells slots (by omega) (by omega) hT hI hl)
