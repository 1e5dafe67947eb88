set_option maxHeartbeats 4000000 in
set_option maxRecDepth 100000 in
theorem kt171_X11_seed (l : Launch) (G : KG) (tag : Nat → Nat) (L : List Nat) (Fo : Nat → va_E) (ho : okT G ttC tag L Fo) (p0 : Nat) (p1 : Int32) (m0 : p0 ∈ L) (g0 : tag p0 = 26) : TMi l yX11_seed cX11_seed 2 (some .boolean) { frames := 1, cells := 0, slots := 0, locals := 21 } G ttC tag L Fo [.ref p0, .int p1] (fun r F1 => (0 ≤ r.toInt ∧ r.toInt ≤ 1) ∧ (∀ b j : Nat, (tag b ≠ 19 ∨ j ≠ 1) → (tag b ≠ 26 ∨ j ≠ 13) → fld F1 b j = fld Fo b j)) := by
  refine t_bodyi (y := yX11_seed) (cd := cX11_seed) (mL := 2) (rt := (some .boolean)) (rm := { frames := 1, cells := 0, slots := 0, locals := 21 }) (av := [.ref p0, .int p1]) (by decide) (Nat.le_of_ble_eq_true rfl) ho ?_
  intro p e s m args below meth c ls A Q hQ X hT hl
  have hx := X.1.1
  have hb := X.1.2.1
  have hl : lv_has ls 2 [(0, .ref p0), (1, .int p1)] := hl
  have rp1 := rg_all p1
  obtain ⟨F, hFo⟩ : ∃ F : Nat → va_E, F = Fo := ⟨_, rfl⟩
  rw [← hFo] at hT
  have hfr : ∀ b j : Nat, (tag b ≠ 19 ∨ j ≠ 1) → (tag b ≠ 26 ∨ j ≠ 13) → fld F b j = fld Fo b j := by
    rw [hFo]
    intros
    rfl
  have K24 : ∀ (z62464 : Int32) (F : Nat → va_E) (H : Heap) (locs : List Loc) (ls : Array Slot), (1 ≤ z62464.toInt ∧ z62464.toInt ≤ 1) → TH G ttC A s tag L F H locs → (∀ b j : Nat, (tag b ≠ 19 ∨ j ≠ 1) → (tag b ≠ 26 ∨ j ≠ 13) → fld F b j = fld Fo b j) → fld F p0 2 = .int z62464 → lv_has ls 2 [(0, .ref p0), (1, .int p1)] → W p l e { frames := 1, cells := 0, slots := 0, locals := 21 } s m args below meth c H locs 0 0 Q (F0 m 24 ls []) := by
    intro z62464 F H locs ls rz62464 hT hfr qz62464 hl
    refine lv_aload_n hx hb dX11_seed_24 rfl (lv_at hl 0 rfl) ?_
    refine lv_iconst (v := 2) hx hb dX11_seed_25 (by decide) ?_
    refine t_cVi (n := 1) (C := RX11) (T := TX11) (N := 16) (As := [.int 2]) (rest := []) X hT (kt90_X11_no l G tag L F hT.2.2.2 p0 2 m0 g0) m0 g0 rfl rfl qw_1454 qw_1455 qw_1456 qw_2 qw_1457 ⟨rfl, by decide +kernel, by decide +kernel, by decide +kernel⟩ ⟨Nat.le_of_ble_eq_true rfl, Nat.le_of_ble_eq_true rfl⟩ hl rfl rfl (Nat.le_of_ble_eq_true rfl) dX11_seed_26 ⟨Nat.le_of_ble_eq_true rfl, Nat.le_of_ble_eq_true rfl⟩ (fun z62465 F H locs hT hz62465 => ?_)
    obtain ⟨hz62465, yz62465⟩ := hz62465
    have qz62464 := (yz62465 _ 2 (Or.inr (by decide))).trans qz62464
    have hfr : ∀ b j : Nat, (tag b ≠ 19 ∨ j ≠ 1) → (tag b ≠ 26 ∨ j ≠ 13) → fld F b j = fld Fo b j := fun b j n19_1 n26_13 => (yz62465 b j n26_13).trans (hfr b j n19_1 n26_13)
    exact t_zret hQ X hT (nar_z (by omega)) (⟨(by omega), hfr⟩) (Nat.le_of_ble_eq_true rfl) (Nat.le_of_ble_eq_true rfl) dX11_seed_29
  refine lv_aload_n hx hb dX11_seed_0 rfl (lv_at hl 0 rfl) ?_
  refine t_get (C := RX11) (T := TX11) (N := 16) X hT m0 g0 rfl rfl 2 (by decide) qw_150 inlX11 rfl dX11_seed_1 (fun v62466 hv62466 ov62466 => ?_)
  obtain ⟨z62467, rfl, rz62467⟩ := okV_i ov62466
  refine lv_if_ne (tgt := 13) hx hb dX11_seed_4 (by decide) (fun c62468 => ?_) (fun c62468 => ?_)
  · have w62469 := cv_ne (rfl : z62467.toInt = z62467.toInt) (by decide : (0 : Int32).toInt = 0) c62468
    refine lv_iload_n hx hb dX11_seed_13 rfl (lv_at hl 1 rfl) ?_
    refine lv_if_lt (tgt := 24) hx hb dX11_seed_14 (by decide) (fun c62470 => ?_) (fun c62470 => ?_)
    · have w62471 := cv_lt (rfl : p1.toInt = p1.toInt) (by decide : (0 : Int32).toInt = 0) c62470
      exact K24 z62467 _ _ _ _ (by omega) hT hfr hv62466 (lv_sub hl [0, 1] rfl)
    · have w62472 := cv_nlt (rfl : p1.toInt = p1.toInt) (by decide : (0 : Int32).toInt = 0) c62470
      refine lv_iload_n hx hb dX11_seed_17 rfl (lv_at hl 1 rfl) ?_
      refine m_ldcw X qw_1281 dX11_seed_18 ?_
      refine lv_icmp_lt (tgt := 30) hx hb dX11_seed_21 (by decide) (fun c62473 => ?_) (fun c62473 => ?_)
      · have w62474 := cv_lt (rfl : p1.toInt = p1.toInt) (by decide : (65537 : Int32).toInt = 65537) c62473
        refine lv_aload_n hx hb dX11_seed_30 rfl (lv_at hl 0 rfl) ?_
        refine t_get (C := RX11) (T := TX11) (N := 16) X hT m0 g0 rfl rfl 5 (by decide) qw_23 inlX11 rfl dX11_seed_31 (fun v62475 hv62475 ov62475 => ?_)
        obtain ⟨b62476, rfl, mb62476, gb62476⟩ := okV_r ov62475
        have gb62476 : tag b62476 = 19 := tg_of gb62476
        refine lv_iload_n hx hb dX11_seed_34 rfl (lv_at hl 1 rfl) ?_
        refine t_put (C := RX7) (T := TX7) (N := 7) (v := .int p1) X hT mb62476 gb62476 rfl tyX7 tyX7_ok nmX7 rfl 1 (by decide) qw_1282 inlX7 rfl (by first | rfl | decide) (by first | rfl | decide) rfl (⟨_, rfl, (by omega), (by omega)⟩) dX11_seed_35 (fun F H locs hT v62477 h1v62477 h2v62477 => ?_)
        have hv62466 := (h1v62477 _ _ (Or.inr (by decide))).trans hv62466
        have hv62475 := (h1v62477 _ _ (Or.inr (by decide))).trans hv62475
        have hfr : ∀ b j : Nat, (tag b ≠ 19 ∨ j ≠ 1) → (tag b ≠ 26 ∨ j ≠ 13) → fld F b j = fld Fo b j := fun b j n19_1 n26_13 => (h1v62477 b j (fr_ne gb62476 n19_1)).trans (hfr b j n19_1 n26_13)
        refine lv_aload_n hx hb dX11_seed_38 rfl (lv_at hl 0 rfl) ?_
        refine t_cVi (n := 0) (C := RX11) (T := TX11) (N := 16) (As := []) (rest := []) X hT (kt91_X11_yes l G tag L F hT.2.2.2 p0 m0 g0) m0 g0 rfl rfl qw_1460 qw_1461 qw_1462 qw_2 qw_1463 ⟨rfl, by decide +kernel, by decide +kernel, by decide +kernel⟩ ⟨Nat.le_of_ble_eq_true rfl, Nat.le_of_ble_eq_true rfl⟩ hl rfl rfl (Nat.le_of_ble_eq_true rfl) dX11_seed_39 ⟨Nat.le_of_ble_eq_true rfl, Nat.le_of_ble_eq_true rfl⟩ (fun z62478 F H locs hT hz62478 => ?_)
        obtain ⟨hz62478, yz62478⟩ := hz62478
        have hv62466 := (yz62478 _ 2 (Or.inr (by decide))).trans hv62466
        have hv62475 := (yz62478 _ 5 (Or.inr (by decide))).trans hv62475
        have v62477 := (yz62478 _ 1 (Or.inr (by decide))).trans v62477
        have hfr : ∀ b j : Nat, (tag b ≠ 19 ∨ j ≠ 1) → (tag b ≠ 26 ∨ j ≠ 13) → fld F b j = fld Fo b j := fun b j n19_1 n26_13 => (yz62478 b j n26_13).trans (hfr b j n19_1 n26_13)
        exact t_zret hQ X hT (nar_z (by omega)) (⟨(by omega), hfr⟩) (Nat.le_of_ble_eq_true rfl) (Nat.le_of_ble_eq_true rfl) dX11_seed_42
      · have w62479 := cv_nlt (rfl : p1.toInt = p1.toInt) (by decide : (65537 : Int32).toInt = 65537) c62473
        exact K24 z62467 _ _ _ _ (by omega) hT hfr hv62466 (lv_sub hl [0, 1] rfl)
  · have w62480 := cv_eq (rfl : z62467.toInt = z62467.toInt) (by decide : (0 : Int32).toInt = 0) c62468
    refine lv_aload_n hx hb dX11_seed_7 rfl (lv_at hl 0 rfl) ?_
    refine lv_iconst (v := 1) hx hb dX11_seed_8 (by decide) ?_
    refine t_cVi (n := 1) (C := RX11) (T := TX11) (N := 16) (As := [.int 1]) (rest := []) X hT (kt90_X11_no l G tag L F hT.2.2.2 p0 1 m0 g0) m0 g0 rfl rfl qw_1454 qw_1455 qw_1456 qw_2 qw_1457 ⟨rfl, by decide +kernel, by decide +kernel, by decide +kernel⟩ ⟨Nat.le_of_ble_eq_true rfl, Nat.le_of_ble_eq_true rfl⟩ hl rfl rfl (Nat.le_of_ble_eq_true rfl) dX11_seed_9 ⟨Nat.le_of_ble_eq_true rfl, Nat.le_of_ble_eq_true rfl⟩ (fun z62481 F H locs hT hz62481 => ?_)
    obtain ⟨hz62481, yz62481⟩ := hz62481
    have hv62466 := (yz62481 _ 2 (Or.inr (by decide))).trans hv62466
    have hfr : ∀ b j : Nat, (tag b ≠ 19 ∨ j ≠ 1) → (tag b ≠ 26 ∨ j ≠ 13) → fld F b j = fld Fo b j := fun b j n19_1 n26_13 => (yz62481 b j n26_13).trans (hfr b j n19_1 n26_13)
    exact t_zret hQ X hT (nar_z (by omega)) (⟨(by omega), hfr⟩) (Nat.le_of_ble_eq_true rfl) (Nat.le_of_ble_eq_true rfl) dX11_seed_12
set_option maxHeartbeats 4000000 in
set_option maxRecDepth 100000 in
theorem kt172_X6_ownersOf (l : Launch) (G : KG) (tag : Nat → Nat) (L : List Nat) (F : Nat → va_E) (ho : okT G ttC tag L F) (p0 : Nat) (p1 : Nat) (p2 : Int32) (p3 : Int32) (m0 : p0 ∈ L) (g0 : tag p0 = 18) (m1 : p1 ∈ L) (g1 : tag p1 = 19) : TMi l yX6_ownersOf cX6_ownersOf 6 (some .int) { frames := 1, cells := 0, slots := 0, locals := 25 } G ttC tag L F [.ref p0, .ref p1, .int p2, .int p3] (fun r F1 => F1 = F ∧ ((-2147483648) ≤ r.toInt ∧ r.toInt ≤ 2147483647)) := by
  refine t_bodyi (y := yX6_ownersOf) (cd := cX6_ownersOf) (mL := 6) (rt := (some .int)) (rm := { frames := 1, cells := 0, slots := 0, locals := 25 }) (av := [.ref p0, .ref p1, .int p2, .int p3]) (by decide) (Nat.le_of_ble_eq_true rfl) ho ?_
  intro p e s m args below meth c ls A Q hQ X hT hl
  have hx := X.1.1
  have hb := X.1.2.1
  have hl : lv_has ls 6 [(0, .ref p0), (1, .ref p1), (2, .int p2), (3, .int p3)] := hl
  have rp2 := rg_all p2
  have rp3 := rg_all p3
  have K6 : ∀ (n : Nat) (z62819 : Int32) (z62820 : Int32) (H : Heap) (locs : List Loc) (ls : Array Slot), (4 - z62820.toInt < (n : Int)) → (0 ≤ z62820.toInt ∧ z62820.toInt ≤ 4) → TH G ttC A s tag L F H locs → lv_has ls 6 [(0, .ref p0), (1, .ref p1), (2, .int p2), (3, .int p3), (4, .int z62819), (5, .int z62820)] → W p l e { frames := 1, cells := 0, slots := 0, locals := 25 } s m args below meth c H locs 0 0 Q (F0 m 6 ls []) := by
    intro n
    induction n with
    | zero =>
      intro z62819 z62820 H locs ls hn rz62820 hT hl
      have rz62819 := rg_all z62819
      exfalso
      omega
    | succ n ih6 =>
      intro z62819 z62820 H locs ls hn rz62820 hT hl
      have rz62819 := rg_all z62819
      have K42 : ∀ (z62821 : Int32) (z62823 : Int32) (H : Heap) (locs : List Loc) (ls : Array Slot), (1 ≤ z62823.toInt ∧ z62823.toInt ≤ 4) → (0 ≤ z62820.toInt ∧ z62820.toInt ≤ 3) → TH G ttC A s tag L F H locs → fld F p0 10 = .int z62823 → lv_has ls 6 [(0, .ref p0), (1, .ref p1), (2, .int p2), (3, .int p3), (4, .int z62821), (5, .int z62820)] → W p l e { frames := 1, cells := 0, slots := 0, locals := 25 } s m args below meth c H locs 0 0 Q (F0 m 42 ls []) := by
        intro z62821 z62823 H locs ls rz62823 r9s62822 hT qz62823 hl
        have rz62821 := rg_all z62821
        obtain ⟨z62824, ez62824⟩ : ∃ y : Int32, y = z62820 + 1 := ⟨_, rfl⟩
        have hz62824 : z62824.toInt = z62820.toInt + 1 := ar_add ez62824 rfl (by decide : (1 : Int32).toInt = 1) (by omega) (by omega)
        refine lv_iinc (v := z62824) (lv' := [(5, .int z62824), (0, .ref p0), (1, .ref p1), (2, .int p2), (3, .int p3), (4, .int z62821)]) hx hb dX6_ownersOf_42 hl (k := 5) rfl (by rw [ez62824]; rfl) (by decide) rfl (fun ls hl => ?_)
        refine lv_goto (tgt := 6) hx hb dX6_ownersOf_45 (by decide) ?_
        exact ih6 z62821 z62824 _ _ _ (by omega) (by omega) hT  (lv_sub hl [1, 2, 3, 4, 5, 0] rfl)
      refine lv_iload hx hb dX6_ownersOf_6 (lv_at hl 5 rfl) ?_
      refine lv_aload_n hx hb dX6_ownersOf_8 rfl (lv_at hl 0 rfl) ?_
      refine t_get (C := RX1) (T := TX1) (N := 20) X hT m0 g0 rfl rfl 10 (by decide) qw_382 inlX1 rfl dX6_ownersOf_9 (fun v62825 hv62825 ov62825 => ?_)
      obtain ⟨z62826, rfl, rz62826⟩ := okV_i ov62825
      refine lv_icmp_ge (tgt := 48) hx hb dX6_ownersOf_12 (by decide) (fun c62827 => ?_) (fun c62827 => ?_)
      · have w62828 := cv_le (rfl : z62826.toInt = z62826.toInt) (rfl : z62820.toInt = z62820.toInt) c62827
        refine lv_iload hx hb dX6_ownersOf_48 (lv_at hl 4 rfl) ?_
        exact t_iret hQ X hT (⟨rfl, rg_all _⟩) (Nat.le_of_ble_eq_true rfl) (Nat.le_of_ble_eq_true rfl) dX6_ownersOf_50
      · have w62829 := cv_nle (rfl : z62826.toInt = z62826.toInt) (rfl : z62820.toInt = z62820.toInt) c62827
        refine lv_aload_n hx hb dX6_ownersOf_15 rfl (lv_at hl 0 rfl) ?_
        refine lv_iload hx hb dX6_ownersOf_16 (lv_at hl 5 rfl) ?_
        refine lv_iload_n hx hb dX6_ownersOf_18 rfl (lv_at hl 2 rfl) ?_
        refine lv_iload_n hx hb dX6_ownersOf_19 rfl (lv_at hl 3 rfl) ?_
        refine t_cVi (n := 3) (C := RX1) (T := TX1) (N := 20) (As := [.int z62820, .int p2, .int p3]) (rest := []) X hT (kt37_X1_apart l G tag L F hT.2.2.2 p0 z62820 p2 p3 m0 g0 (by omega)) m0 g0 rfl rfl qw_389 qw_390 qw_391 qw_17 qw_392 ⟨rfl, by decide +kernel, by decide +kernel, by decide +kernel⟩ ⟨Nat.le_of_ble_eq_true rfl, Nat.le_of_ble_eq_true rfl⟩ hl rfl rfl (Nat.le_of_ble_eq_true rfl) dX6_ownersOf_20 ⟨Nat.le_of_ble_eq_true rfl, Nat.le_of_ble_eq_true rfl⟩ (fun z62830 F9 H locs hT hz62830 => ?_)
        obtain ⟨fz62830, hz62830⟩ := hz62830
        rw [fz62830] at hT
        refine lv_aload_n hx hb dX6_ownersOf_23 rfl (lv_at hl 1 rfl) ?_
        refine t_get (C := RX7) (T := TX7) (N := 7) X hT m1 g1 rfl rfl 2 (by decide) qw_383 inlX7 rfl dX6_ownersOf_24 (fun v62831 hv62831 ov62831 => ?_)
        obtain ⟨b62832, rfl, mb62832, gb62832⟩ := okV_r ov62831
        have gb62832 : tag b62832 = 8 := tg_of gb62832
        refine lv_iload hx hb dX6_ownersOf_27 (lv_at hl 5 rfl) ?_
        refine t_ild X hT mb62832 gb62832 rfl (by omega) dX6_ownersOf_29 (fun z62833 vz62833 rz62833 => ?_)
        have rz62833 : 0 ≤ z62833.toInt ∧ z62833.toInt ≤ 6 := rz62833
        refine lv_icmp_gt (tgt := 42) hx hb dX6_ownersOf_30 (by decide) (fun c62834 => ?_) (fun c62834 => ?_)
        · have w62835 := cv_lt (rfl : z62833.toInt = z62833.toInt) (rfl : z62830.toInt = z62830.toInt) c62834
          exact K42 z62819 z62826 _ _ _ (by omega) (by omega) hT hv62825 (lv_sub hl [0, 1, 2, 3, 4, 5] rfl)
        · have w62836 := cv_nlt (rfl : z62833.toInt = z62833.toInt) (rfl : z62830.toInt = z62830.toInt) c62834
          refine lv_iload hx hb dX6_ownersOf_33 (lv_at hl 4 rfl) ?_
          refine lv_iconst (v := 1) hx hb dX6_ownersOf_35 (by decide) ?_
          refine lv_iload hx hb dX6_ownersOf_36 (lv_at hl 5 rfl) ?_
          refine lv_ishl hx hb dX6_ownersOf_38 ?_
          refine lv_topi (fun z62837 ez62837 => ?_)
          have rz62837 := rg_all z62837
          refine lv_ior hx hb dX6_ownersOf_39 ?_
          refine lv_topi (fun z62838 ez62838 => ?_)
          have rz62838 := rg_all z62838
          refine lv_istore (lv' := [(4, .int z62838), (0, .ref p0), (1, .ref p1), (2, .int p2), (3, .int p3), (5, .int z62820)]) hx hb dX6_ownersOf_40 hl (by decide) rfl (fun ls hl => ?_)
          exact K42 z62838 z62826 _ _ _ (by omega) (by omega) hT hv62825 (lv_sub hl [1, 2, 3, 4, 0, 5] rfl)
  refine lv_iconst (v := 0) hx hb dX6_ownersOf_0 (by decide) ?_
  refine lv_istore (lv' := [(4, .int 0), (0, .ref p0), (1, .ref p1), (2, .int p2), (3, .int p3)]) hx hb dX6_ownersOf_1 hl (by decide) rfl (fun ls hl => ?_)
  refine lv_iconst (v := 0) hx hb dX6_ownersOf_3 (by decide) ?_
  refine lv_istore (lv' := [(5, .int 0), (4, .int 0), (0, .ref p0), (1, .ref p1), (2, .int p2), (3, .int p3)]) hx hb dX6_ownersOf_4 hl (by decide) rfl (fun ls hl => ?_)
  have kk62839 : (0 : Int32).toInt = 0 := by decide
  have kk62840 : (0 : Int32).toInt = 0 := by decide
  exact K6 5 0 0 _ _ _ (by omega) (by decide) hT  (lv_sub hl [2, 3, 4, 5, 1, 0] rfl)
set_option maxHeartbeats 4000000 in
set_option maxRecDepth 100000 in
theorem kt173_X11_sizeNow (l : Launch) (G : KG) (tag : Nat → Nat) (L : List Nat) (F : Nat → va_E) (ho : okT G ttC tag L F) (p0 : Nat) (p1 : Int32) (m0 : p0 ∈ L) (g0 : tag p0 = 26) : TMi l yX11_sizeNow cX11_sizeNow 2 (some .int) { frames := 0, cells := 0, slots := 0, locals := 0 } G ttC tag L F [.ref p0, .int p1] (fun r F1 => F1 = F ∧ ((-2147483648) ≤ r.toInt ∧ r.toInt ≤ 2147483647)) := by
  refine t_bodyi (y := yX11_sizeNow) (cd := cX11_sizeNow) (mL := 2) (rt := (some .int)) (rm := { frames := 0, cells := 0, slots := 0, locals := 0 }) (av := [.ref p0, .int p1]) (by decide) (Nat.le_of_ble_eq_true rfl) ho ?_
  intro p e s m args below meth c ls A Q hQ X hT hl
  have hx := X.1.1
  have hb := X.1.2.1
  have hl : lv_has ls 2 [(0, .ref p0), (1, .int p1)] := hl
  have rp1 := rg_all p1
  refine lv_iload_n hx hb dX11_sizeNow_0 rfl (lv_at hl 1 rfl) ?_
  by_cases c63130 : p1 = 8
  · have w63131 := cv_eq (rfl : p1.toInt = p1.toInt) (by decide : (8 : Int32).toInt = 8) c63130
    refine lv_tableIn (off := 27) (tgt := 28) hx hb dX11_sizeNow_1 (by rw [c63130]; decide) (by rw [c63130]; decide) (by rw [c63130]; decide) (by decide) ?_
    refine lv_aload_n hx hb dX11_sizeNow_28 rfl (lv_at hl 0 rfl) ?_
    refine t_get (C := RX11) (T := TX11) (N := 16) X hT m0 g0 rfl rfl 5 (by decide) qw_23 inlX11 rfl dX11_sizeNow_29 (fun v63132 hv63132 ov63132 => ?_)
    obtain ⟨b63133, rfl, mb63133, gb63133⟩ := okV_r ov63132
    have gb63133 : tag b63133 = 19 := tg_of gb63133
    refine t_get (C := RX7) (T := TX7) (N := 7) X hT mb63133 gb63133 rfl rfl 0 (by decide) qw_1225 inlX7 rfl dX11_sizeNow_32 (fun v63134 hv63134 ov63134 => ?_)
    obtain ⟨z63135, rfl, rz63135⟩ := okV_i ov63134
    exact t_iret hQ X hT (⟨rfl, rg_all _⟩) (Nat.le_of_ble_eq_true rfl) (Nat.le_of_ble_eq_true rfl) dX11_sizeNow_35
  have w63136 := cv_ne (rfl : p1.toInt = p1.toInt) (by decide : (8 : Int32).toInt = 8) c63130
  by_cases c63137 : p1 = 9
  · have w63138 := cv_eq (rfl : p1.toInt = p1.toInt) (by decide : (9 : Int32).toInt = 9) c63137
    refine lv_tableIn (off := 35) (tgt := 36) hx hb dX11_sizeNow_1 (by rw [c63137]; decide) (by rw [c63137]; decide) (by rw [c63137]; decide) (by decide) ?_
    refine lv_aload_n hx hb dX11_sizeNow_36 rfl (lv_at hl 0 rfl) ?_
    refine t_get (C := RX11) (T := TX11) (N := 16) X hT m0 g0 rfl rfl 5 (by decide) qw_23 inlX11 rfl dX11_sizeNow_37 (fun v63139 hv63139 ov63139 => ?_)
    obtain ⟨b63140, rfl, mb63140, gb63140⟩ := okV_r ov63139
    have gb63140 : tag b63140 = 19 := tg_of gb63140
    refine t_get (C := RX7) (T := TX7) (N := 7) X hT mb63140 gb63140 rfl rfl 1 (by decide) qw_1282 inlX7 rfl dX11_sizeNow_40 (fun v63141 hv63141 ov63141 => ?_)
    obtain ⟨z63142, rfl, rz63142⟩ := okV_i ov63141
    exact t_iret hQ X hT (⟨rfl, rg_all _⟩) (Nat.le_of_ble_eq_true rfl) (Nat.le_of_ble_eq_true rfl) dX11_sizeNow_43
  have w63143 := cv_ne (rfl : p1.toInt = p1.toInt) (by decide : (9 : Int32).toInt = 9) c63137
  by_cases c63144 : p1 = 10
  · have w63145 := cv_eq (rfl : p1.toInt = p1.toInt) (by decide : (10 : Int32).toInt = 10) c63144
    refine lv_tableIn (off := 43) (tgt := 44) hx hb dX11_sizeNow_1 (by rw [c63144]; decide) (by rw [c63144]; decide) (by rw [c63144]; decide) (by decide) ?_
    refine lv_aload_n hx hb dX11_sizeNow_44 rfl (lv_at hl 0 rfl) ?_
    refine t_get (C := RX11) (T := TX11) (N := 16) X hT m0 g0 rfl rfl 12 (by decide) qw_45 inlX11 rfl dX11_sizeNow_45 (fun v63146 hv63146 ov63146 => ?_)
    obtain ⟨b63147, rfl, mb63147, gb63147⟩ := okV_r ov63146
    have gb63147 : tag b63147 = 23 := tg_of gb63147
    refine t_get (C := RX2) (T := TX2) (N := 5) X hT mb63147 gb63147 rfl rfl 3 (by decide) qw_1590 inlX2 rfl dX11_sizeNow_48 (fun v63148 hv63148 ov63148 => ?_)
    obtain ⟨z63149, rfl, rz63149⟩ := okV_i ov63148
    exact t_iret hQ X hT (⟨rfl, rg_all _⟩) (Nat.le_of_ble_eq_true rfl) (Nat.le_of_ble_eq_true rfl) dX11_sizeNow_51
  have w63150 := cv_ne (rfl : p1.toInt = p1.toInt) (by decide : (10 : Int32).toInt = 10) c63144
  refine lv_tableOut (tgt := 52) hx hb dX11_sizeNow_1 (by omega) (by decide) ?_
  refine lv_aload_n hx hb dX11_sizeNow_52 rfl (lv_at hl 0 rfl) ?_
  refine t_get (C := RX11) (T := TX11) (N := 16) X hT m0 g0 rfl rfl 12 (by decide) qw_45 inlX11 rfl dX11_sizeNow_53 (fun v63151 hv63151 ov63151 => ?_)
  obtain ⟨b63152, rfl, mb63152, gb63152⟩ := okV_r ov63151
  have gb63152 : tag b63152 = 23 := tg_of gb63152
  refine t_get (C := RX2) (T := TX2) (N := 5) X hT mb63152 gb63152 rfl rfl 4 (by decide) qw_1591 inlX2 rfl dX11_sizeNow_56 (fun v63153 hv63153 ov63153 => ?_)
  obtain ⟨z63154, rfl, rz63154⟩ := okV_i ov63153
  exact t_iret hQ X hT (⟨rfl, rg_all _⟩) (Nat.le_of_ble_eq_true rfl) (Nat.le_of_ble_eq_true rfl) dX11_sizeNow_59
set_option maxHeartbeats 4000000 in
set_option maxRecDepth 100000 in
theorem kt174_X11_sizeTold (l : Launch) (G : KG) (tag : Nat → Nat) (L : List Nat) (F : Nat → va_E) (ho : okT G ttC tag L F) (p0 : Nat) (p1 : Int32) (m0 : p0 ∈ L) (g0 : tag p0 = 26) : TMi l yX11_sizeTold cX11_sizeTold 2 (some .int) { frames := 0, cells := 0, slots := 0, locals := 0 } G ttC tag L F [.ref p0, .int p1] (fun r F1 => F1 = F ∧ ((-2147483648) ≤ r.toInt ∧ r.toInt ≤ 2147483647)) := by
  refine t_bodyi (y := yX11_sizeTold) (cd := cX11_sizeTold) (mL := 2) (rt := (some .int)) (rm := { frames := 0, cells := 0, slots := 0, locals := 0 }) (av := [.ref p0, .int p1]) (by decide) (Nat.le_of_ble_eq_true rfl) ho ?_
  intro p e s m args below meth c ls A Q hQ X hT hl
  have hx := X.1.1
  have hb := X.1.2.1
  have hl : lv_has ls 2 [(0, .ref p0), (1, .int p1)] := hl
  have rp1 := rg_all p1
  refine lv_iload_n hx hb dX11_sizeTold_0 rfl (lv_at hl 1 rfl) ?_
  by_cases c63806 : p1 = 0
  · have w63807 := cv_eq (rfl : p1.toInt = p1.toInt) (by decide : (0 : Int32).toInt = 0) c63806
    refine lv_tableIn (off := 43) (tgt := 44) hx hb dX11_sizeTold_1 (by rw [c63806]; decide) (by rw [c63806]; decide) (by rw [c63806]; decide) (by decide) ?_
    refine lv_aload_n hx hb dX11_sizeTold_44 rfl (lv_at hl 0 rfl) ?_
    refine t_get (C := RX11) (T := TX11) (N := 16) X hT m0 g0 rfl rfl 3 (by decide) qw_18 inlX11 rfl dX11_sizeTold_45 (fun v63808 hv63808 ov63808 => ?_)
    obtain ⟨b63809, rfl, mb63809, gb63809⟩ := okV_r ov63808
    have gb63809 : tag b63809 = 18 := tg_of gb63809
    refine t_get (C := RX1) (T := TX1) (N := 20) X hT mb63809 gb63809 rfl rfl 0 (by decide) qw_728 inlX1 rfl dX11_sizeTold_48 (fun v63810 hv63810 ov63810 => ?_)
    obtain ⟨z63811, rfl, rz63811⟩ := okV_i ov63810
    exact t_iret hQ X hT (⟨rfl, rg_all _⟩) (Nat.le_of_ble_eq_true rfl) (Nat.le_of_ble_eq_true rfl) dX11_sizeTold_51
  have w63812 := cv_ne (rfl : p1.toInt = p1.toInt) (by decide : (0 : Int32).toInt = 0) c63806
  by_cases c63813 : p1 = 1
  · have w63814 := cv_eq (rfl : p1.toInt = p1.toInt) (by decide : (1 : Int32).toInt = 1) c63813
    refine lv_tableIn (off := 51) (tgt := 52) hx hb dX11_sizeTold_1 (by rw [c63813]; decide) (by rw [c63813]; decide) (by rw [c63813]; decide) (by decide) ?_
    refine lv_aload_n hx hb dX11_sizeTold_52 rfl (lv_at hl 0 rfl) ?_
    refine t_get (C := RX11) (T := TX11) (N := 16) X hT m0 g0 rfl rfl 3 (by decide) qw_18 inlX11 rfl dX11_sizeTold_53 (fun v63815 hv63815 ov63815 => ?_)
    obtain ⟨b63816, rfl, mb63816, gb63816⟩ := okV_r ov63815
    have gb63816 : tag b63816 = 18 := tg_of gb63816
    refine t_get (C := RX1) (T := TX1) (N := 20) X hT mb63816 gb63816 rfl rfl 1 (by decide) qw_727 inlX1 rfl dX11_sizeTold_56 (fun v63817 hv63817 ov63817 => ?_)
    obtain ⟨z63818, rfl, rz63818⟩ := okV_i ov63817
    exact t_iret hQ X hT (⟨rfl, rg_all _⟩) (Nat.le_of_ble_eq_true rfl) (Nat.le_of_ble_eq_true rfl) dX11_sizeTold_59
  have w63819 := cv_ne (rfl : p1.toInt = p1.toInt) (by decide : (1 : Int32).toInt = 1) c63813
  by_cases c63820 : p1 = 2
  · have w63821 := cv_eq (rfl : p1.toInt = p1.toInt) (by decide : (2 : Int32).toInt = 2) c63820
    refine lv_tableIn (off := 59) (tgt := 60) hx hb dX11_sizeTold_1 (by rw [c63820]; decide) (by rw [c63820]; decide) (by rw [c63820]; decide) (by decide) ?_
    refine lv_aload_n hx hb dX11_sizeTold_60 rfl (lv_at hl 0 rfl) ?_
    refine t_get (C := RX11) (T := TX11) (N := 16) X hT m0 g0 rfl rfl 3 (by decide) qw_18 inlX11 rfl dX11_sizeTold_61 (fun v63822 hv63822 ov63822 => ?_)
    obtain ⟨b63823, rfl, mb63823, gb63823⟩ := okV_r ov63822
    have gb63823 : tag b63823 = 18 := tg_of gb63823
    refine t_get (C := RX1) (T := TX1) (N := 20) X hT mb63823 gb63823 rfl rfl 2 (by decide) qw_1584 inlX1 rfl dX11_sizeTold_64 (fun v63824 hv63824 ov63824 => ?_)
    obtain ⟨z63825, rfl, rz63825⟩ := okV_i ov63824
    refine lv_if_eq (tgt := 74) hx hb dX11_sizeTold_67 (by decide) (fun c63826 => ?_) (fun c63826 => ?_)
    · have w63827 := cv_eq (rfl : z63825.toInt = z63825.toInt) (by decide : (0 : Int32).toInt = 0) c63826
      refine lv_iconst (v := 0) hx hb dX11_sizeTold_74 (by decide) ?_
      exact t_iret hQ X hT (⟨rfl, rg_all _⟩) (Nat.le_of_ble_eq_true rfl) (Nat.le_of_ble_eq_true rfl) dX11_sizeTold_75
    · have w63828 := cv_ne (rfl : z63825.toInt = z63825.toInt) (by decide : (0 : Int32).toInt = 0) c63826
      refine lv_iconst (v := 1) hx hb dX11_sizeTold_70 (by decide) ?_
      refine lv_goto (tgt := 75) hx hb dX11_sizeTold_71 (by decide) ?_
      exact t_iret hQ X hT (⟨rfl, rg_all _⟩) (Nat.le_of_ble_eq_true rfl) (Nat.le_of_ble_eq_true rfl) dX11_sizeTold_75
  have w63829 := cv_ne (rfl : p1.toInt = p1.toInt) (by decide : (2 : Int32).toInt = 2) c63820
  by_cases c63830 : p1 = 3
  · have w63831 := cv_eq (rfl : p1.toInt = p1.toInt) (by decide : (3 : Int32).toInt = 3) c63830
    refine lv_tableIn (off := 75) (tgt := 76) hx hb dX11_sizeTold_1 (by rw [c63830]; decide) (by rw [c63830]; decide) (by rw [c63830]; decide) (by decide) ?_
    refine lv_aload_n hx hb dX11_sizeTold_76 rfl (lv_at hl 0 rfl) ?_
    refine t_get (C := RX11) (T := TX11) (N := 16) X hT m0 g0 rfl rfl 3 (by decide) qw_18 inlX11 rfl dX11_sizeTold_77 (fun v63832 hv63832 ov63832 => ?_)
    obtain ⟨b63833, rfl, mb63833, gb63833⟩ := okV_r ov63832
    have gb63833 : tag b63833 = 18 := tg_of gb63833
    refine t_get (C := RX1) (T := TX1) (N := 20) X hT mb63833 gb63833 rfl rfl 3 (by decide) qw_1585 inlX1 rfl dX11_sizeTold_80 (fun v63834 hv63834 ov63834 => ?_)
    obtain ⟨z63835, rfl, rz63835⟩ := okV_i ov63834
    refine lv_if_eq (tgt := 90) hx hb dX11_sizeTold_83 (by decide) (fun c63836 => ?_) (fun c63836 => ?_)
    · have w63837 := cv_eq (rfl : z63835.toInt = z63835.toInt) (by decide : (0 : Int32).toInt = 0) c63836
      refine lv_iconst (v := 0) hx hb dX11_sizeTold_90 (by decide) ?_
      exact t_iret hQ X hT (⟨rfl, rg_all _⟩) (Nat.le_of_ble_eq_true rfl) (Nat.le_of_ble_eq_true rfl) dX11_sizeTold_91
    · have w63838 := cv_ne (rfl : z63835.toInt = z63835.toInt) (by decide : (0 : Int32).toInt = 0) c63836
      refine lv_iconst (v := 1) hx hb dX11_sizeTold_86 (by decide) ?_
      refine lv_goto (tgt := 91) hx hb dX11_sizeTold_87 (by decide) ?_
      exact t_iret hQ X hT (⟨rfl, rg_all _⟩) (Nat.le_of_ble_eq_true rfl) (Nat.le_of_ble_eq_true rfl) dX11_sizeTold_91
  have w63839 := cv_ne (rfl : p1.toInt = p1.toInt) (by decide : (3 : Int32).toInt = 3) c63830
  by_cases c63840 : p1 = 4
  · have w63841 := cv_eq (rfl : p1.toInt = p1.toInt) (by decide : (4 : Int32).toInt = 4) c63840
    refine lv_tableIn (off := 91) (tgt := 92) hx hb dX11_sizeTold_1 (by rw [c63840]; decide) (by rw [c63840]; decide) (by rw [c63840]; decide) (by decide) ?_
    refine lv_aload_n hx hb dX11_sizeTold_92 rfl (lv_at hl 0 rfl) ?_
    refine t_get (C := RX11) (T := TX11) (N := 16) X hT m0 g0 rfl rfl 3 (by decide) qw_18 inlX11 rfl dX11_sizeTold_93 (fun v63842 hv63842 ov63842 => ?_)
    obtain ⟨b63843, rfl, mb63843, gb63843⟩ := okV_r ov63842
    have gb63843 : tag b63843 = 18 := tg_of gb63843
    refine t_get (C := RX1) (T := TX1) (N := 20) X hT mb63843 gb63843 rfl rfl 8 (by decide) qw_958 inlX1 rfl dX11_sizeTold_96 (fun v63844 hv63844 ov63844 => ?_)
    obtain ⟨z63845, rfl, rz63845⟩ := okV_i ov63844
    exact t_iret hQ X hT (⟨rfl, rg_all _⟩) (Nat.le_of_ble_eq_true rfl) (Nat.le_of_ble_eq_true rfl) dX11_sizeTold_99
  have w63846 := cv_ne (rfl : p1.toInt = p1.toInt) (by decide : (4 : Int32).toInt = 4) c63840
  by_cases c63847 : p1 = 5
  · have w63848 := cv_eq (rfl : p1.toInt = p1.toInt) (by decide : (5 : Int32).toInt = 5) c63847
    refine lv_tableIn (off := 99) (tgt := 100) hx hb dX11_sizeTold_1 (by rw [c63847]; decide) (by rw [c63847]; decide) (by rw [c63847]; decide) (by decide) ?_
    refine lv_aload_n hx hb dX11_sizeTold_100 rfl (lv_at hl 0 rfl) ?_
    refine t_get (C := RX11) (T := TX11) (N := 16) X hT m0 g0 rfl rfl 3 (by decide) qw_18 inlX11 rfl dX11_sizeTold_101 (fun v63849 hv63849 ov63849 => ?_)
    obtain ⟨b63850, rfl, mb63850, gb63850⟩ := okV_r ov63849
    have gb63850 : tag b63850 = 18 := tg_of gb63850
    refine t_get (C := RX1) (T := TX1) (N := 20) X hT mb63850 gb63850 rfl rfl 10 (by decide) qw_151 inlX1 rfl dX11_sizeTold_104 (fun v63851 hv63851 ov63851 => ?_)
    obtain ⟨z63852, rfl, rz63852⟩ := okV_i ov63851
    exact t_iret hQ X hT (⟨rfl, rg_all _⟩) (Nat.le_of_ble_eq_true rfl) (Nat.le_of_ble_eq_true rfl) dX11_sizeTold_107
  have w63853 := cv_ne (rfl : p1.toInt = p1.toInt) (by decide : (5 : Int32).toInt = 5) c63847
  by_cases c63854 : p1 = 6
  · have w63855 := cv_eq (rfl : p1.toInt = p1.toInt) (by decide : (6 : Int32).toInt = 6) c63854
    refine lv_tableIn (off := 107) (tgt := 108) hx hb dX11_sizeTold_1 (by rw [c63854]; decide) (by rw [c63854]; decide) (by rw [c63854]; decide) (by decide) ?_
    refine lv_aload_n hx hb dX11_sizeTold_108 rfl (lv_at hl 0 rfl) ?_
    refine t_get (C := RX11) (T := TX11) (N := 16) X hT m0 g0 rfl rfl 3 (by decide) qw_18 inlX11 rfl dX11_sizeTold_109 (fun v63856 hv63856 ov63856 => ?_)
    obtain ⟨b63857, rfl, mb63857, gb63857⟩ := okV_r ov63856
    have gb63857 : tag b63857 = 18 := tg_of gb63857
    refine t_get (C := RX1) (T := TX1) (N := 20) X hT mb63857 gb63857 rfl rfl 14 (by decide) qw_891 inlX1 rfl dX11_sizeTold_112 (fun v63858 hv63858 ov63858 => ?_)
    obtain ⟨z63859, rfl, rz63859⟩ := okV_i ov63858
    exact t_iret hQ X hT (⟨rfl, rg_all _⟩) (Nat.le_of_ble_eq_true rfl) (Nat.le_of_ble_eq_true rfl) dX11_sizeTold_115
  have w63860 := cv_ne (rfl : p1.toInt = p1.toInt) (by decide : (6 : Int32).toInt = 6) c63854
  refine lv_tableOut (tgt := 116) hx hb dX11_sizeTold_1 (by omega) (by decide) ?_
  refine lv_aload_n hx hb dX11_sizeTold_116 rfl (lv_at hl 0 rfl) ?_
  refine t_get (C := RX11) (T := TX11) (N := 16) X hT m0 g0 rfl rfl 3 (by decide) qw_18 inlX11 rfl dX11_sizeTold_117 (fun v63861 hv63861 ov63861 => ?_)
  obtain ⟨b63862, rfl, mb63862, gb63862⟩ := okV_r ov63861
  have gb63862 : tag b63862 = 18 := tg_of gb63862
  refine t_get (C := RX1) (T := TX1) (N := 20) X hT mb63862 gb63862 rfl rfl 16 (by decide) qw_1383 inlX1 rfl dX11_sizeTold_120 (fun v63863 hv63863 ov63863 => ?_)
  obtain ⟨z63864, rfl, rz63864⟩ := okV_i ov63863
  exact t_iret hQ X hT (⟨rfl, rg_all _⟩) (Nat.le_of_ble_eq_true rfl) (Nat.le_of_ble_eq_true rfl) dX11_sizeTold_123
set_option maxHeartbeats 4000000 in
set_option maxRecDepth 100000 in
theorem kt175_X11_size (l : Launch) (G : KG) (tag : Nat → Nat) (L : List Nat) (F : Nat → va_E) (ho : okT G ttC tag L F) (p0 : Nat) (p1 : Int32) (m0 : p0 ∈ L) (g0 : tag p0 = 26) : TMi l yX11_size cX11_size 2 (some .int) { frames := 1, cells := 0, slots := 0, locals := 21 } G ttC tag L F [.ref p0, .int p1] (fun r F1 => F1 = F ∧ ((-2147483648) ≤ r.toInt ∧ r.toInt ≤ 2147483647)) := by
  refine t_bodyi (y := yX11_size) (cd := cX11_size) (mL := 2) (rt := (some .int)) (rm := { frames := 1, cells := 0, slots := 0, locals := 21 }) (av := [.ref p0, .int p1]) (by decide) (Nat.le_of_ble_eq_true rfl) ho ?_
  intro p e s m args below meth c ls A Q hQ X hT hl
  have hx := X.1.1
  have hb := X.1.2.1
  have hl : lv_has ls 2 [(0, .ref p0), (1, .int p1)] := hl
  have rp1 := rg_all p1
  refine lv_iload_n hx hb dX11_size_0 rfl (lv_at hl 1 rfl) ?_
  refine lv_bipush (v := 12) hx hb dX11_size_1 (by decide) ?_
  refine lv_icmp_ne (tgt := 11) hx hb dX11_size_3 (by decide) (fun c64081 => ?_) (fun c64081 => ?_)
  · have w64082 := cv_ne (rfl : p1.toInt = p1.toInt) (by decide : (12 : Int32).toInt = 12) c64081
    refine lv_iload_n hx hb dX11_size_11 rfl (lv_at hl 1 rfl) ?_
    refine lv_if_lt (tgt := 21) hx hb dX11_size_12 (by decide) (fun c64083 => ?_) (fun c64083 => ?_)
    · have w64084 := cv_lt (rfl : p1.toInt = p1.toInt) (by decide : (0 : Int32).toInt = 0) c64083
      refine lv_iconst (v := (-1)) hx hb dX11_size_21 (by decide) ?_
      exact t_iret hQ X hT (⟨rfl, rg_all _⟩) (Nat.le_of_ble_eq_true rfl) (Nat.le_of_ble_eq_true rfl) dX11_size_22
    · have w64085 := cv_nlt (rfl : p1.toInt = p1.toInt) (by decide : (0 : Int32).toInt = 0) c64083
      refine lv_iload_n hx hb dX11_size_15 rfl (lv_at hl 1 rfl) ?_
      refine lv_bipush (v := 12) hx hb dX11_size_16 (by decide) ?_
      refine lv_icmp_le (tgt := 23) hx hb dX11_size_18 (by decide) (fun c64086 => ?_) (fun c64086 => ?_)
      · have w64087 := cv_le (rfl : p1.toInt = p1.toInt) (by decide : (12 : Int32).toInt = 12) c64086
        refine lv_aload_n hx hb dX11_size_23 rfl (lv_at hl 0 rfl) ?_
        refine t_get (C := RX11) (T := TX11) (N := 16) X hT m0 g0 rfl rfl 2 (by decide) qw_150 inlX11 rfl dX11_size_24 (fun v64088 hv64088 ov64088 => ?_)
        obtain ⟨z64089, rfl, rz64089⟩ := okV_i ov64088
        refine lv_if_ne (tgt := 32) hx hb dX11_size_27 (by decide) (fun c64090 => ?_) (fun c64090 => ?_)
        · have w64091 := cv_ne (rfl : z64089.toInt = z64089.toInt) (by decide : (0 : Int32).toInt = 0) c64090
          refine lv_iload_n hx hb dX11_size_32 rfl (lv_at hl 1 rfl) ?_
          refine lv_bipush (v := 8) hx hb dX11_size_33 (by decide) ?_
          refine lv_icmp_ge (tgt := 46) hx hb dX11_size_35 (by decide) (fun c64092 => ?_) (fun c64092 => ?_)
          · have w64093 := cv_le (by decide : (8 : Int32).toInt = 8) (rfl : p1.toInt = p1.toInt) c64092
            refine lv_aload_n hx hb dX11_size_46 rfl (lv_at hl 0 rfl) ?_
            refine lv_iload_n hx hb dX11_size_47 rfl (lv_at hl 1 rfl) ?_
            refine t_cVi (n := 1) (C := RX11) (T := TX11) (N := 16) (As := [.int p1]) (rest := []) X hT (kt173_X11_sizeNow l G tag L F hT.2.2.2 p0 p1 m0 g0) m0 g0 rfl rfl qw_1586 qw_1587 qw_1588 qw_2 qw_1589 ⟨rfl, by decide +kernel, by decide +kernel, by decide +kernel⟩ ⟨Nat.le_of_ble_eq_true rfl, Nat.le_of_ble_eq_true rfl⟩ hl rfl rfl (Nat.le_of_ble_eq_true rfl) dX11_size_48 ⟨Nat.le_of_ble_eq_true rfl, Nat.le_of_ble_eq_true rfl⟩ (fun z64094 F9 H locs hT hz64094 => ?_)
            obtain ⟨fz64094, hz64094⟩ := hz64094
            rw [fz64094] at hT
            exact t_iret hQ X hT (⟨rfl, rg_all _⟩) (Nat.le_of_ble_eq_true rfl) (Nat.le_of_ble_eq_true rfl) dX11_size_51
          · have w64095 := cv_nle (by decide : (8 : Int32).toInt = 8) (rfl : p1.toInt = p1.toInt) c64092
            refine lv_aload_n hx hb dX11_size_38 rfl (lv_at hl 0 rfl) ?_
            refine lv_iload_n hx hb dX11_size_39 rfl (lv_at hl 1 rfl) ?_
            refine t_cVi (n := 1) (C := RX11) (T := TX11) (N := 16) (As := [.int p1]) (rest := []) X hT (kt174_X11_sizeTold l G tag L F hT.2.2.2 p0 p1 m0 g0) m0 g0 rfl rfl qw_1580 qw_1581 qw_1582 qw_2 qw_1583 ⟨rfl, by decide +kernel, by decide +kernel, by decide +kernel⟩ ⟨Nat.le_of_ble_eq_true rfl, Nat.le_of_ble_eq_true rfl⟩ hl rfl rfl (Nat.le_of_ble_eq_true rfl) dX11_size_40 ⟨Nat.le_of_ble_eq_true rfl, Nat.le_of_ble_eq_true rfl⟩ (fun z64096 F9 H locs hT hz64096 => ?_)
            obtain ⟨fz64096, hz64096⟩ := hz64096
            rw [fz64096] at hT
            refine lv_goto (tgt := 51) hx hb dX11_size_43 (by decide) ?_
            exact t_iret hQ X hT (⟨rfl, rg_all _⟩) (Nat.le_of_ble_eq_true rfl) (Nat.le_of_ble_eq_true rfl) dX11_size_51
        · have w64097 := cv_eq (rfl : z64089.toInt = z64089.toInt) (by decide : (0 : Int32).toInt = 0) c64090
          refine lv_iconst (v := 0) hx hb dX11_size_30 (by decide) ?_
          exact t_iret hQ X hT (⟨rfl, rg_all _⟩) (Nat.le_of_ble_eq_true rfl) (Nat.le_of_ble_eq_true rfl) dX11_size_31
      · have w64098 := cv_nle (rfl : p1.toInt = p1.toInt) (by decide : (12 : Int32).toInt = 12) c64086
        refine lv_iconst (v := (-1)) hx hb dX11_size_21 (by decide) ?_
        exact t_iret hQ X hT (⟨rfl, rg_all _⟩) (Nat.le_of_ble_eq_true rfl) (Nat.le_of_ble_eq_true rfl) dX11_size_22
  · have w64099 := cv_eq (rfl : p1.toInt = p1.toInt) (by decide : (12 : Int32).toInt = 12) c64081
    refine lv_aload_n hx hb dX11_size_6 rfl (lv_at hl 0 rfl) ?_
    refine t_get (C := RX11) (T := TX11) (N := 16) X hT m0 g0 rfl rfl 1 (by decide) qw_131 inlX11 rfl dX11_size_7 (fun v64100 hv64100 ov64100 => ?_)
    obtain ⟨z64101, rfl, rz64101⟩ := okV_i ov64100
    exact t_iret hQ X hT (⟨rfl, rg_all _⟩) (Nat.le_of_ble_eq_true rfl) (Nat.le_of_ble_eq_true rfl) dX11_size_10
set_option maxHeartbeats 4000000 in
set_option maxRecDepth 100000 in
theorem kt176_X11_sizeNow (l : Launch) (G : KG) (tag : Nat → Nat) (L : List Nat) (F : Nat → va_E) (ho : okT G ttC tag L F) (p0 : Nat) (p1 : Int32) (m0 : p0 ∈ L) (g0 : tag p0 = 26) : TMi l yX11_sizeNow cX11_sizeNow 2 (some .int) { frames := 0, cells := 0, slots := 0, locals := 0 } G ttC tag L F [.ref p0, .int p1] (fun r F1 => F1 = F ∧ ((-2147483648) ≤ r.toInt ∧ r.toInt ≤ 2147483647)) := by
  refine t_bodyi (y := yX11_sizeNow) (cd := cX11_sizeNow) (mL := 2) (rt := (some .int)) (rm := { frames := 0, cells := 0, slots := 0, locals := 0 }) (av := [.ref p0, .int p1]) (by decide) (Nat.le_of_ble_eq_true rfl) ho ?_
  intro p e s m args below meth c ls A Q hQ X hT hl
  have hx := X.1.1
  have hb := X.1.2.1
  have hl : lv_has ls 2 [(0, .ref p0), (1, .int p1)] := hl
  have rp1 := rg_all p1
  refine lv_iload_n hx hb dX11_sizeNow_0 rfl (lv_at hl 1 rfl) ?_
  by_cases c64377 : p1 = 8
  · have w64378 := cv_eq (rfl : p1.toInt = p1.toInt) (by decide : (8 : Int32).toInt = 8) c64377
    refine lv_tableIn (off := 27) (tgt := 28) hx hb dX11_sizeNow_1 (by rw [c64377]; decide) (by rw [c64377]; decide) (by rw [c64377]; decide) (by decide) ?_
    refine lv_aload_n hx hb dX11_sizeNow_28 rfl (lv_at hl 0 rfl) ?_
    refine t_get (C := RX11) (T := TX11) (N := 16) X hT m0 g0 rfl rfl 5 (by decide) qw_23 inlX11 rfl dX11_sizeNow_29 (fun v64379 hv64379 ov64379 => ?_)
    obtain ⟨b64380, rfl, mb64380, gb64380⟩ := okV_r ov64379
    have gb64380 : tag b64380 = 19 := tg_of gb64380
    refine t_get (C := RX7) (T := TX7) (N := 7) X hT mb64380 gb64380 rfl rfl 0 (by decide) qw_1225 inlX7 rfl dX11_sizeNow_32 (fun v64381 hv64381 ov64381 => ?_)
    obtain ⟨z64382, rfl, rz64382⟩ := okV_i ov64381
    exact t_iret hQ X hT (⟨rfl, rg_all _⟩) (Nat.le_of_ble_eq_true rfl) (Nat.le_of_ble_eq_true rfl) dX11_sizeNow_35
  have w64383 := cv_ne (rfl : p1.toInt = p1.toInt) (by decide : (8 : Int32).toInt = 8) c64377
  by_cases c64384 : p1 = 9
  · have w64385 := cv_eq (rfl : p1.toInt = p1.toInt) (by decide : (9 : Int32).toInt = 9) c64384
    refine lv_tableIn (off := 35) (tgt := 36) hx hb dX11_sizeNow_1 (by rw [c64384]; decide) (by rw [c64384]; decide) (by rw [c64384]; decide) (by decide) ?_
    refine lv_aload_n hx hb dX11_sizeNow_36 rfl (lv_at hl 0 rfl) ?_
    refine t_get (C := RX11) (T := TX11) (N := 16) X hT m0 g0 rfl rfl 5 (by decide) qw_23 inlX11 rfl dX11_sizeNow_37 (fun v64386 hv64386 ov64386 => ?_)
    obtain ⟨b64387, rfl, mb64387, gb64387⟩ := okV_r ov64386
    have gb64387 : tag b64387 = 19 := tg_of gb64387
    refine t_get (C := RX7) (T := TX7) (N := 7) X hT mb64387 gb64387 rfl rfl 1 (by decide) qw_1282 inlX7 rfl dX11_sizeNow_40 (fun v64388 hv64388 ov64388 => ?_)
    obtain ⟨z64389, rfl, rz64389⟩ := okV_i ov64388
    exact t_iret hQ X hT (⟨rfl, rg_all _⟩) (Nat.le_of_ble_eq_true rfl) (Nat.le_of_ble_eq_true rfl) dX11_sizeNow_43
  have w64390 := cv_ne (rfl : p1.toInt = p1.toInt) (by decide : (9 : Int32).toInt = 9) c64384
  by_cases c64391 : p1 = 10
  · have w64392 := cv_eq (rfl : p1.toInt = p1.toInt) (by decide : (10 : Int32).toInt = 10) c64391
    refine lv_tableIn (off := 43) (tgt := 44) hx hb dX11_sizeNow_1 (by rw [c64391]; decide) (by rw [c64391]; decide) (by rw [c64391]; decide) (by decide) ?_
    refine lv_aload_n hx hb dX11_sizeNow_44 rfl (lv_at hl 0 rfl) ?_
    refine t_get (C := RX11) (T := TX11) (N := 16) X hT m0 g0 rfl rfl 12 (by decide) qw_45 inlX11 rfl dX11_sizeNow_45 (fun v64393 hv64393 ov64393 => ?_)
    obtain ⟨b64394, rfl, mb64394, gb64394⟩ := okV_r ov64393
    have gb64394 : tag b64394 = 23 := tg_of gb64394
    refine t_get (C := RX2) (T := TX2) (N := 5) X hT mb64394 gb64394 rfl rfl 3 (by decide) qw_1590 inlX2 rfl dX11_sizeNow_48 (fun v64395 hv64395 ov64395 => ?_)
    obtain ⟨z64396, rfl, rz64396⟩ := okV_i ov64395
    exact t_iret hQ X hT (⟨rfl, rg_all _⟩) (Nat.le_of_ble_eq_true rfl) (Nat.le_of_ble_eq_true rfl) dX11_sizeNow_51
  have w64397 := cv_ne (rfl : p1.toInt = p1.toInt) (by decide : (10 : Int32).toInt = 10) c64391
  refine lv_tableOut (tgt := 52) hx hb dX11_sizeNow_1 (by omega) (by decide) ?_
  refine lv_aload_n hx hb dX11_sizeNow_52 rfl (lv_at hl 0 rfl) ?_
  refine t_get (C := RX11) (T := TX11) (N := 16) X hT m0 g0 rfl rfl 12 (by decide) qw_45 inlX11 rfl dX11_sizeNow_53 (fun v64398 hv64398 ov64398 => ?_)
  obtain ⟨b64399, rfl, mb64399, gb64399⟩ := okV_r ov64398
  have gb64399 : tag b64399 = 23 := tg_of gb64399
  refine t_get (C := RX2) (T := TX2) (N := 5) X hT mb64399 gb64399 rfl rfl 4 (by decide) qw_1591 inlX2 rfl dX11_sizeNow_56 (fun v64400 hv64400 ov64400 => ?_)
  obtain ⟨z64401, rfl, rz64401⟩ := okV_i ov64400
  exact t_iret hQ X hT (⟨rfl, rg_all _⟩) (Nat.le_of_ble_eq_true rfl) (Nat.le_of_ble_eq_true rfl) dX11_sizeNow_59
set_option maxHeartbeats 4000000 in
set_option maxRecDepth 100000 in
theorem kt177_X11_sizeTold (l : Launch) (G : KG) (tag : Nat → Nat) (L : List Nat) (F : Nat → va_E) (ho : okT G ttC tag L F) (p0 : Nat) (p1 : Int32) (m0 : p0 ∈ L) (g0 : tag p0 = 26) : TMi l yX11_sizeTold cX11_sizeTold 2 (some .int) { frames := 0, cells := 0, slots := 0, locals := 0 } G ttC tag L F [.ref p0, .int p1] (fun r F1 => F1 = F ∧ ((-2147483648) ≤ r.toInt ∧ r.toInt ≤ 2147483647)) := by
  refine t_bodyi (y := yX11_sizeTold) (cd := cX11_sizeTold) (mL := 2) (rt := (some .int)) (rm := { frames := 0, cells := 0, slots := 0, locals := 0 }) (av := [.ref p0, .int p1]) (by decide) (Nat.le_of_ble_eq_true rfl) ho ?_
  intro p e s m args below meth c ls A Q hQ X hT hl
  have hx := X.1.1
  have hb := X.1.2.1
  have hl : lv_has ls 2 [(0, .ref p0), (1, .int p1)] := hl
  have rp1 := rg_all p1
  refine lv_iload_n hx hb dX11_sizeTold_0 rfl (lv_at hl 1 rfl) ?_
  by_cases c65051 : p1 = 0
  · have w65052 := cv_eq (rfl : p1.toInt = p1.toInt) (by decide : (0 : Int32).toInt = 0) c65051
    refine lv_tableIn (off := 43) (tgt := 44) hx hb dX11_sizeTold_1 (by rw [c65051]; decide) (by rw [c65051]; decide) (by rw [c65051]; decide) (by decide) ?_
    refine lv_aload_n hx hb dX11_sizeTold_44 rfl (lv_at hl 0 rfl) ?_
    refine t_get (C := RX11) (T := TX11) (N := 16) X hT m0 g0 rfl rfl 3 (by decide) qw_18 inlX11 rfl dX11_sizeTold_45 (fun v65053 hv65053 ov65053 => ?_)
    obtain ⟨b65054, rfl, mb65054, gb65054⟩ := okV_r ov65053
    have gb65054 : tag b65054 = 18 := tg_of gb65054
    refine t_get (C := RX1) (T := TX1) (N := 20) X hT mb65054 gb65054 rfl rfl 0 (by decide) qw_728 inlX1 rfl dX11_sizeTold_48 (fun v65055 hv65055 ov65055 => ?_)
    obtain ⟨z65056, rfl, rz65056⟩ := okV_i ov65055
    exact t_iret hQ X hT (⟨rfl, rg_all _⟩) (Nat.le_of_ble_eq_true rfl) (Nat.le_of_ble_eq_true rfl) dX11_sizeTold_51
  have w65057 := cv_ne (rfl : p1.toInt = p1.toInt) (by decide : (0 : Int32).toInt = 0) c65051
  by_cases c65058 : p1 = 1
  · have w65059 := cv_eq (rfl : p1.toInt = p1.toInt) (by decide : (1 : Int32).toInt = 1) c65058
    refine lv_tableIn (off := 51) (tgt := 52) hx hb dX11_sizeTold_1 (by rw [c65058]; decide) (by rw [c65058]; decide) (by rw [c65058]; decide) (by decide) ?_
    refine lv_aload_n hx hb dX11_sizeTold_52 rfl (lv_at hl 0 rfl) ?_
    refine t_get (C := RX11) (T := TX11) (N := 16) X hT m0 g0 rfl rfl 3 (by decide) qw_18 inlX11 rfl dX11_sizeTold_53 (fun v65060 hv65060 ov65060 => ?_)
    obtain ⟨b65061, rfl, mb65061, gb65061⟩ := okV_r ov65060
    have gb65061 : tag b65061 = 18 := tg_of gb65061
    refine t_get (C := RX1) (T := TX1) (N := 20) X hT mb65061 gb65061 rfl rfl 1 (by decide) qw_727 inlX1 rfl dX11_sizeTold_56 (fun v65062 hv65062 ov65062 => ?_)
    obtain ⟨z65063, rfl, rz65063⟩ := okV_i ov65062
    exact t_iret hQ X hT (⟨rfl, rg_all _⟩) (Nat.le_of_ble_eq_true rfl) (Nat.le_of_ble_eq_true rfl) dX11_sizeTold_59
  have w65064 := cv_ne (rfl : p1.toInt = p1.toInt) (by decide : (1 : Int32).toInt = 1) c65058
  by_cases c65065 : p1 = 2
  · have w65066 := cv_eq (rfl : p1.toInt = p1.toInt) (by decide : (2 : Int32).toInt = 2) c65065
    refine lv_tableIn (off := 59) (tgt := 60) hx hb dX11_sizeTold_1 (by rw [c65065]; decide) (by rw [c65065]; decide) (by rw [c65065]; decide) (by decide) ?_
    refine lv_aload_n hx hb dX11_sizeTold_60 rfl (lv_at hl 0 rfl) ?_
    refine t_get (C := RX11) (T := TX11) (N := 16) X hT m0 g0 rfl rfl 3 (by decide) qw_18 inlX11 rfl dX11_sizeTold_61 (fun v65067 hv65067 ov65067 => ?_)
    obtain ⟨b65068, rfl, mb65068, gb65068⟩ := okV_r ov65067
    have gb65068 : tag b65068 = 18 := tg_of gb65068
    refine t_get (C := RX1) (T := TX1) (N := 20) X hT mb65068 gb65068 rfl rfl 2 (by decide) qw_1584 inlX1 rfl dX11_sizeTold_64 (fun v65069 hv65069 ov65069 => ?_)
    obtain ⟨z65070, rfl, rz65070⟩ := okV_i ov65069
    refine lv_if_eq (tgt := 74) hx hb dX11_sizeTold_67 (by decide) (fun c65071 => ?_) (fun c65071 => ?_)
    · have w65072 := cv_eq (rfl : z65070.toInt = z65070.toInt) (by decide : (0 : Int32).toInt = 0) c65071
      refine lv_iconst (v := 0) hx hb dX11_sizeTold_74 (by decide) ?_
      exact t_iret hQ X hT (⟨rfl, rg_all _⟩) (Nat.le_of_ble_eq_true rfl) (Nat.le_of_ble_eq_true rfl) dX11_sizeTold_75
    · have w65073 := cv_ne (rfl : z65070.toInt = z65070.toInt) (by decide : (0 : Int32).toInt = 0) c65071
      refine lv_iconst (v := 1) hx hb dX11_sizeTold_70 (by decide) ?_
      refine lv_goto (tgt := 75) hx hb dX11_sizeTold_71 (by decide) ?_
      exact t_iret hQ X hT (⟨rfl, rg_all _⟩) (Nat.le_of_ble_eq_true rfl) (Nat.le_of_ble_eq_true rfl) dX11_sizeTold_75
  have w65074 := cv_ne (rfl : p1.toInt = p1.toInt) (by decide : (2 : Int32).toInt = 2) c65065
  by_cases c65075 : p1 = 3
  · have w65076 := cv_eq (rfl : p1.toInt = p1.toInt) (by decide : (3 : Int32).toInt = 3) c65075
    refine lv_tableIn (off := 75) (tgt := 76) hx hb dX11_sizeTold_1 (by rw [c65075]; decide) (by rw [c65075]; decide) (by rw [c65075]; decide) (by decide) ?_
    refine lv_aload_n hx hb dX11_sizeTold_76 rfl (lv_at hl 0 rfl) ?_
    refine t_get (C := RX11) (T := TX11) (N := 16) X hT m0 g0 rfl rfl 3 (by decide) qw_18 inlX11 rfl dX11_sizeTold_77 (fun v65077 hv65077 ov65077 => ?_)
    obtain ⟨b65078, rfl, mb65078, gb65078⟩ := okV_r ov65077
    have gb65078 : tag b65078 = 18 := tg_of gb65078
    refine t_get (C := RX1) (T := TX1) (N := 20) X hT mb65078 gb65078 rfl rfl 3 (by decide) qw_1585 inlX1 rfl dX11_sizeTold_80 (fun v65079 hv65079 ov65079 => ?_)
    obtain ⟨z65080, rfl, rz65080⟩ := okV_i ov65079
    refine lv_if_eq (tgt := 90) hx hb dX11_sizeTold_83 (by decide) (fun c65081 => ?_) (fun c65081 => ?_)
    · have w65082 := cv_eq (rfl : z65080.toInt = z65080.toInt) (by decide : (0 : Int32).toInt = 0) c65081
      refine lv_iconst (v := 0) hx hb dX11_sizeTold_90 (by decide) ?_
      exact t_iret hQ X hT (⟨rfl, rg_all _⟩) (Nat.le_of_ble_eq_true rfl) (Nat.le_of_ble_eq_true rfl) dX11_sizeTold_91
    · have w65083 := cv_ne (rfl : z65080.toInt = z65080.toInt) (by decide : (0 : Int32).toInt = 0) c65081
      refine lv_iconst (v := 1) hx hb dX11_sizeTold_86 (by decide) ?_
      refine lv_goto (tgt := 91) hx hb dX11_sizeTold_87 (by decide) ?_
      exact t_iret hQ X hT (⟨rfl, rg_all _⟩) (Nat.le_of_ble_eq_true rfl) (Nat.le_of_ble_eq_true rfl) dX11_sizeTold_91
  have w65084 := cv_ne (rfl : p1.toInt = p1.toInt) (by decide : (3 : Int32).toInt = 3) c65075
  by_cases c65085 : p1 = 4
  · have w65086 := cv_eq (rfl : p1.toInt = p1.toInt) (by decide : (4 : Int32).toInt = 4) c65085
    refine lv_tableIn (off := 91) (tgt := 92) hx hb dX11_sizeTold_1 (by rw [c65085]; decide) (by rw [c65085]; decide) (by rw [c65085]; decide) (by decide) ?_
    refine lv_aload_n hx hb dX11_sizeTold_92 rfl (lv_at hl 0 rfl) ?_
    refine t_get (C := RX11) (T := TX11) (N := 16) X hT m0 g0 rfl rfl 3 (by decide) qw_18 inlX11 rfl dX11_sizeTold_93 (fun v65087 hv65087 ov65087 => ?_)
    obtain ⟨b65088, rfl, mb65088, gb65088⟩ := okV_r ov65087
    have gb65088 : tag b65088 = 18 := tg_of gb65088
    refine t_get (C := RX1) (T := TX1) (N := 20) X hT mb65088 gb65088 rfl rfl 8 (by decide) qw_958 inlX1 rfl dX11_sizeTold_96 (fun v65089 hv65089 ov65089 => ?_)
    obtain ⟨z65090, rfl, rz65090⟩ := okV_i ov65089
    exact t_iret hQ X hT (⟨rfl, rg_all _⟩) (Nat.le_of_ble_eq_true rfl) (Nat.le_of_ble_eq_true rfl) dX11_sizeTold_99
  have w65091 := cv_ne (rfl : p1.toInt = p1.toInt) (by decide : (4 : Int32).toInt = 4) c65085
  by_cases c65092 : p1 = 5
  · have w65093 := cv_eq (rfl : p1.toInt = p1.toInt) (by decide : (5 : Int32).toInt = 5) c65092
    refine lv_tableIn (off := 99) (tgt := 100) hx hb dX11_sizeTold_1 (by rw [c65092]; decide) (by rw [c65092]; decide) (by rw [c65092]; decide) (by decide) ?_
    refine lv_aload_n hx hb dX11_sizeTold_100 rfl (lv_at hl 0 rfl) ?_
    refine t_get (C := RX11) (T := TX11) (N := 16) X hT m0 g0 rfl rfl 3 (by decide) qw_18 inlX11 rfl dX11_sizeTold_101 (fun v65094 hv65094 ov65094 => ?_)
    obtain ⟨b65095, rfl, mb65095, gb65095⟩ := okV_r ov65094
    have gb65095 : tag b65095 = 18 := tg_of gb65095
    refine t_get (C := RX1) (T := TX1) (N := 20) X hT mb65095 gb65095 rfl rfl 10 (by decide) qw_151 inlX1 rfl dX11_sizeTold_104 (fun v65096 hv65096 ov65096 => ?_)
    obtain ⟨z65097, rfl, rz65097⟩ := okV_i ov65096
    exact t_iret hQ X hT (⟨rfl, rg_all _⟩) (Nat.le_of_ble_eq_true rfl) (Nat.le_of_ble_eq_true rfl) dX11_sizeTold_107
  have w65098 := cv_ne (rfl : p1.toInt = p1.toInt) (by decide : (5 : Int32).toInt = 5) c65092
  by_cases c65099 : p1 = 6
  · have w65100 := cv_eq (rfl : p1.toInt = p1.toInt) (by decide : (6 : Int32).toInt = 6) c65099
    refine lv_tableIn (off := 107) (tgt := 108) hx hb dX11_sizeTold_1 (by rw [c65099]; decide) (by rw [c65099]; decide) (by rw [c65099]; decide) (by decide) ?_
    refine lv_aload_n hx hb dX11_sizeTold_108 rfl (lv_at hl 0 rfl) ?_
    refine t_get (C := RX11) (T := TX11) (N := 16) X hT m0 g0 rfl rfl 3 (by decide) qw_18 inlX11 rfl dX11_sizeTold_109 (fun v65101 hv65101 ov65101 => ?_)
    obtain ⟨b65102, rfl, mb65102, gb65102⟩ := okV_r ov65101
    have gb65102 : tag b65102 = 18 := tg_of gb65102
    refine t_get (C := RX1) (T := TX1) (N := 20) X hT mb65102 gb65102 rfl rfl 14 (by decide) qw_891 inlX1 rfl dX11_sizeTold_112 (fun v65103 hv65103 ov65103 => ?_)
    obtain ⟨z65104, rfl, rz65104⟩ := okV_i ov65103
    exact t_iret hQ X hT (⟨rfl, rg_all _⟩) (Nat.le_of_ble_eq_true rfl) (Nat.le_of_ble_eq_true rfl) dX11_sizeTold_115
  have w65105 := cv_ne (rfl : p1.toInt = p1.toInt) (by decide : (6 : Int32).toInt = 6) c65099
  refine lv_tableOut (tgt := 116) hx hb dX11_sizeTold_1 (by omega) (by decide) ?_
  refine lv_aload_n hx hb dX11_sizeTold_116 rfl (lv_at hl 0 rfl) ?_
  refine t_get (C := RX11) (T := TX11) (N := 16) X hT m0 g0 rfl rfl 3 (by decide) qw_18 inlX11 rfl dX11_sizeTold_117 (fun v65106 hv65106 ov65106 => ?_)
  obtain ⟨b65107, rfl, mb65107, gb65107⟩ := okV_r ov65106
  have gb65107 : tag b65107 = 18 := tg_of gb65107
  refine t_get (C := RX1) (T := TX1) (N := 20) X hT mb65107 gb65107 rfl rfl 16 (by decide) qw_1383 inlX1 rfl dX11_sizeTold_120 (fun v65108 hv65108 ov65108 => ?_)
  obtain ⟨z65109, rfl, rz65109⟩ := okV_i ov65108
  exact t_iret hQ X hT (⟨rfl, rg_all _⟩) (Nat.le_of_ble_eq_true rfl) (Nat.le_of_ble_eq_true rfl) dX11_sizeTold_123
set_option maxHeartbeats 4000000 in
set_option maxRecDepth 100000 in
theorem kt178_X11_skin (l : Launch) (G : KG) (tag : Nat → Nat) (L : List Nat) (Fo : Nat → va_E) (ho : okT G ttC tag L Fo) (p0 : Nat) (p1 : Int32) (p2 : Int32) (p3 : Int32) (m0 : p0 ∈ L) (g0 : tag p0 = 26) : TMi l yX11_skin cX11_skin 4 (some .int) { frames := 3, cells := 0, slots := 0, locals := 65 } G ttC tag L Fo [.ref p0, .int p1, .int p2, .int p3] (fun r F1 => ((-2147483648) ≤ r.toInt ∧ r.toInt ≤ 2147483647) ∧ (∀ b j : Nat, (tag b ≠ 26 ∨ j ≠ 13) → fld F1 b j = fld Fo b j)) := by
  refine t_bodyi (y := yX11_skin) (cd := cX11_skin) (mL := 4) (rt := (some .int)) (rm := { frames := 3, cells := 0, slots := 0, locals := 65 }) (av := [.ref p0, .int p1, .int p2, .int p3]) (by decide) (Nat.le_of_ble_eq_true rfl) ho ?_
  intro p e s m args below meth c ls A Q hQ X hT hl
  have hx := X.1.1
  have hb := X.1.2.1
  have hl : lv_has ls 4 [(0, .ref p0), (1, .int p1), (2, .int p2), (3, .int p3)] := hl
  have rp1 := rg_all p1
  have rp2 := rg_all p2
  have rp3 := rg_all p3
  obtain ⟨F, hFo⟩ : ∃ F : Nat → va_E, F = Fo := ⟨_, rfl⟩
  rw [← hFo] at hT
  have hfr : ∀ b j : Nat, (tag b ≠ 26 ∨ j ≠ 13) → fld F b j = fld Fo b j := by
    rw [hFo]
    intros
    rfl
  have K19 : ∀  (F : Nat → va_E) (H : Heap) (locs : List Loc) (ls : Array Slot), TH G ttC A s tag L F H locs → (∀ b j : Nat, (tag b ≠ 26 ∨ j ≠ 13) → fld F b j = fld Fo b j) → lv_has ls 4 [(0, .ref p0), (1, .int p1), (2, .int p2), (3, .int p3)] → W p l e { frames := 3, cells := 0, slots := 0, locals := 65 } s m args below meth c H locs 0 0 Q (F0 m 19 ls []) := by
    intro F H locs ls hT hfr hl
    refine lv_aload_n hx hb dX11_skin_19 rfl (lv_at hl 0 rfl) ?_
    refine lv_iconst (v := 1) hx hb dX11_skin_20 (by decide) ?_
    refine t_cVi (n := 1) (C := RX11) (T := TX11) (N := 16) (As := [.int 1]) (rest := []) X hT (kt97_X11_refuse l G tag L F hT.2.2.2 p0 1 m0 g0) m0 g0 rfl rfl qw_152 qw_153 qw_154 qw_2 qw_155 ⟨rfl, by decide +kernel, by decide +kernel, by decide +kernel⟩ ⟨Nat.le_of_ble_eq_true rfl, Nat.le_of_ble_eq_true rfl⟩ hl rfl rfl (Nat.le_of_ble_eq_true rfl) dX11_skin_21 ⟨Nat.le_of_ble_eq_true rfl, Nat.le_of_ble_eq_true rfl⟩ (fun z65308 F H locs hT hz65308 => ?_)
    obtain ⟨hz65308, yz65308⟩ := hz65308
    have hfr : ∀ b j : Nat, (tag b ≠ 26 ∨ j ≠ 13) → fld F b j = fld Fo b j := fun b j n26_13 => (yz65308 b j n26_13).trans (hfr b j n26_13)
    exact t_iret hQ X hT (⟨rg_all _, hfr⟩) (Nat.le_of_ble_eq_true rfl) (Nat.le_of_ble_eq_true rfl) dX11_skin_24
  refine lv_aload_n hx hb dX11_skin_0 rfl (lv_at hl 0 rfl) ?_
  refine lv_iload_n hx hb dX11_skin_1 rfl (lv_at hl 1 rfl) ?_
  refine lv_iload_n hx hb dX11_skin_2 rfl (lv_at hl 2 rfl) ?_
  refine t_cVi (n := 2) (C := RX11) (T := TX11) (N := 16) (As := [.int p1, .int p2]) (rest := []) X hT (kt104_X11_isSkin l G tag L F hT.2.2.2 p0 p1 p2 m0 g0) m0 g0 rfl rfl qw_823 qw_824 qw_825 qw_2 qw_826 ⟨rfl, by decide +kernel, by decide +kernel, by decide +kernel⟩ ⟨Nat.le_of_ble_eq_true rfl, Nat.le_of_ble_eq_true rfl⟩ hl rfl rfl (Nat.le_of_ble_eq_true rfl) dX11_skin_3 ⟨Nat.le_of_ble_eq_true rfl, Nat.le_of_ble_eq_true rfl⟩ (fun z65309 F9 H locs hT hz65309 => ?_)
  obtain ⟨fz65309, hz65309⟩ := hz65309
  rw [fz65309] at hT
  obtain ⟨hz65309, iz65309⟩ := hz65309
  refine lv_if_eq (tgt := 19) hx hb dX11_skin_6 (by decide) (fun c65310 => ?_) (fun c65310 => ?_)
  · have w65311 := cv_eq (rfl : z65309.toInt = z65309.toInt) (by decide : (0 : Int32).toInt = 0) c65310
    exact K19  _ _ _ _  hT hfr  (lv_sub hl [0, 1, 2, 3] rfl)
  · have w65312 := cv_ne (rfl : z65309.toInt = z65309.toInt) (by decide : (0 : Int32).toInt = 0) c65310
    have w65313 := (fun h => (iz65309 h).1) (by omega)
    have w65314 := (fun h => (iz65309 h).2) (by omega)
    refine lv_iload_n hx hb dX11_skin_9 rfl (lv_at hl 3 rfl) ?_
    refine lv_if_lt (tgt := 19) hx hb dX11_skin_10 (by decide) (fun c65315 => ?_) (fun c65315 => ?_)
    · have w65316 := cv_lt (rfl : p3.toInt = p3.toInt) (by decide : (0 : Int32).toInt = 0) c65315
      exact K19  _ _ _ _  hT hfr  (lv_sub hl [0, 1, 2, 3] rfl)
    · have w65317 := cv_nlt (rfl : p3.toInt = p3.toInt) (by decide : (0 : Int32).toInt = 0) c65315
      refine lv_iload_n hx hb dX11_skin_13 rfl (lv_at hl 3 rfl) ?_
      refine lv_bipush (v := 8) hx hb dX11_skin_14 (by decide) ?_
      refine lv_icmp_lt (tgt := 25) hx hb dX11_skin_16 (by decide) (fun c65318 => ?_) (fun c65318 => ?_)
      · have w65319 := cv_lt (rfl : p3.toInt = p3.toInt) (by decide : (8 : Int32).toInt = 8) c65318
        refine lv_aload_n hx hb dX11_skin_25 rfl (lv_at hl 0 rfl) ?_
        refine lv_aload_n hx hb dX11_skin_26 rfl (lv_at hl 0 rfl) ?_
        refine t_get (C := RX11) (T := TX11) (N := 16) X hT m0 g0 rfl rfl 5 (by decide) qw_23 inlX11 rfl dX11_skin_27 (fun v65320 hv65320 ov65320 => ?_)
        obtain ⟨b65321, rfl, mb65321, gb65321⟩ := okV_r ov65320
        have gb65321 : tag b65321 = 19 := tg_of gb65321
        refine lv_iload_n hx hb dX11_skin_30 rfl (lv_at hl 1 rfl) ?_
        refine lv_iload_n hx hb dX11_skin_31 rfl (lv_at hl 2 rfl) ?_
        refine lv_iload_n hx hb dX11_skin_32 rfl (lv_at hl 3 rfl) ?_
        refine t_cVi (n := 3) (C := RX7) (T := TX7) (N := 7) (As := [.int p1, .int p2, .int p3]) (rest := [.ref p0]) X hT (kt19_X7_partOf l G tag L F hT.2.2.2 b65321 p1 p2 p3 mb65321 gb65321) mb65321 gb65321 rfl rfl qw_831 qw_778 qw_779 qw_22 qw_780 ⟨rfl, by decide +kernel, by decide +kernel, by decide +kernel⟩ ⟨Nat.le_of_ble_eq_true rfl, Nat.le_of_ble_eq_true rfl⟩ hl rfl rfl (Nat.le_of_ble_eq_true rfl) dX11_skin_33 ⟨Nat.le_of_ble_eq_true rfl, Nat.le_of_ble_eq_true rfl⟩ (fun z65322 F9 H locs hT hz65322 => ?_)
        obtain ⟨fz65322, hz65322⟩ := hz65322
        rw [fz65322] at hT
        refine t_cVi (n := 1) (C := RX11) (T := TX11) (N := 16) (As := [.int z65322]) (rest := []) X hT (kt96_X11_answer l G tag L F hT.2.2.2 p0 z65322 m0 g0) m0 g0 rfl rfl qw_463 qw_464 qw_465 qw_2 qw_466 ⟨rfl, by decide +kernel, by decide +kernel, by decide +kernel⟩ ⟨Nat.le_of_ble_eq_true rfl, Nat.le_of_ble_eq_true rfl⟩ hl rfl rfl (Nat.le_of_ble_eq_true rfl) dX11_skin_36 ⟨Nat.le_of_ble_eq_true rfl, Nat.le_of_ble_eq_true rfl⟩ (fun z65323 F H locs hT hz65323 => ?_)
        obtain ⟨hz65323, yz65323⟩ := hz65323
        have hv65320 := (yz65323 _ 5 (Or.inr (by decide))).trans hv65320
        have hfr : ∀ b j : Nat, (tag b ≠ 26 ∨ j ≠ 13) → fld F b j = fld Fo b j := fun b j n26_13 => (yz65323 b j n26_13).trans (hfr b j n26_13)
        exact t_iret hQ X hT (⟨rg_all _, hfr⟩) (Nat.le_of_ble_eq_true rfl) (Nat.le_of_ble_eq_true rfl) dX11_skin_39
      · have w65324 := cv_nlt (rfl : p3.toInt = p3.toInt) (by decide : (8 : Int32).toInt = 8) c65318
        exact K19  _ _ _ _  hT hfr  (lv_sub hl [0, 1, 2, 3] rfl)
set_option maxHeartbeats 4000000 in
set_option maxRecDepth 100000 in
theorem kt179_X11_skinsIn (l : Launch) (G : KG) (tag : Nat → Nat) (L : List Nat) (Fo : Nat → va_E) (ho : okT G ttC tag L Fo) (p0 : Nat) (p1 : Int32) (m0 : p0 ∈ L) (g0 : tag p0 = 26) : TMi l yX11_skinsIn cX11_skinsIn 2 (some .int) { frames := 7, cells := 0, slots := 0, locals := 179 } G ttC tag L Fo [.ref p0, .int p1] (fun r F1 => ((-2147483648) ≤ r.toInt ∧ r.toInt ≤ 2147483647) ∧ (∀ b j : Nat, (tag b ≠ 19 ∨ j ≠ 0) → (tag b ≠ 19 ∨ j ≠ 1) → (tag b ≠ 26 ∨ j ≠ 13) → fld F1 b j = fld Fo b j)) := by
  refine t_bodyi (y := yX11_skinsIn) (cd := cX11_skinsIn) (mL := 2) (rt := (some .int)) (rm := { frames := 7, cells := 0, slots := 0, locals := 179 }) (av := [.ref p0, .int p1]) (by decide) (Nat.le_of_ble_eq_true rfl) ho ?_
  intro p e s m args below meth c ls A Q hQ X hT hl
  have hx := X.1.1
  have hb := X.1.2.1
  have hl : lv_has ls 2 [(0, .ref p0), (1, .int p1)] := hl
  have rp1 := rg_all p1
  obtain ⟨F, hFo⟩ : ∃ F : Nat → va_E, F = Fo := ⟨_, rfl⟩
  rw [← hFo] at hT
  have hfr : ∀ b j : Nat, (tag b ≠ 19 ∨ j ≠ 0) → (tag b ≠ 19 ∨ j ≠ 1) → (tag b ≠ 26 ∨ j ≠ 13) → fld F b j = fld Fo b j := by
    rw [hFo]
    intros
    rfl
  have K23 : ∀ (z65534 : Int32) (F : Nat → va_E) (H : Heap) (locs : List Loc) (ls : Array Slot), (1 ≤ z65534.toInt ∧ z65534.toInt ≤ 1) → TH G ttC A s tag L F H locs → (∀ b j : Nat, (tag b ≠ 19 ∨ j ≠ 0) → (tag b ≠ 19 ∨ j ≠ 1) → (tag b ≠ 26 ∨ j ≠ 13) → fld F b j = fld Fo b j) → fld F p0 2 = .int z65534 → lv_has ls 2 [(0, .ref p0), (1, .int p1)] → W p l e { frames := 7, cells := 0, slots := 0, locals := 179 } s m args below meth c H locs 0 0 Q (F0 m 23 ls []) := by
    intro z65534 F H locs ls rz65534 hT hfr qz65534 hl
    refine lv_aload_n hx hb dX11_skinsIn_23 rfl (lv_at hl 0 rfl) ?_
    refine lv_iconst (v := 2) hx hb dX11_skinsIn_24 (by decide) ?_
    refine t_cVi (n := 1) (C := RX11) (T := TX11) (N := 16) (As := [.int 2]) (rest := []) X hT (kt97_X11_refuse l G tag L F hT.2.2.2 p0 2 m0 g0) m0 g0 rfl rfl qw_152 qw_153 qw_154 qw_2 qw_155 ⟨rfl, by decide +kernel, by decide +kernel, by decide +kernel⟩ ⟨Nat.le_of_ble_eq_true rfl, Nat.le_of_ble_eq_true rfl⟩ hl rfl rfl (Nat.le_of_ble_eq_true rfl) dX11_skinsIn_25 ⟨Nat.le_of_ble_eq_true rfl, Nat.le_of_ble_eq_true rfl⟩ (fun z65535 F H locs hT hz65535 => ?_)
    obtain ⟨hz65535, yz65535⟩ := hz65535
    have qz65534 := (yz65535 _ 2 (Or.inr (by decide))).trans qz65534
    have hfr : ∀ b j : Nat, (tag b ≠ 19 ∨ j ≠ 0) → (tag b ≠ 19 ∨ j ≠ 1) → (tag b ≠ 26 ∨ j ≠ 13) → fld F b j = fld Fo b j := fun b j n19_0 n19_1 n26_13 => (yz65535 b j n26_13).trans (hfr b j n19_0 n19_1 n26_13)
    exact t_iret hQ X hT (⟨rg_all _, hfr⟩) (Nat.le_of_ble_eq_true rfl) (Nat.le_of_ble_eq_true rfl) dX11_skinsIn_28
  refine lv_aload_n hx hb dX11_skinsIn_0 rfl (lv_at hl 0 rfl) ?_
  refine t_get (C := RX11) (T := TX11) (N := 16) X hT m0 g0 rfl rfl 2 (by decide) qw_150 inlX11 rfl dX11_skinsIn_1 (fun v65536 hv65536 ov65536 => ?_)
  obtain ⟨z65537, rfl, rz65537⟩ := okV_i ov65536
  refine lv_if_ne (tgt := 13) hx hb dX11_skinsIn_4 (by decide) (fun c65538 => ?_) (fun c65538 => ?_)
  · have w65539 := cv_ne (rfl : z65537.toInt = z65537.toInt) (by decide : (0 : Int32).toInt = 0) c65538
    refine lv_iload_n hx hb dX11_skinsIn_13 rfl (lv_at hl 1 rfl) ?_
    refine lv_if_lt (tgt := 23) hx hb dX11_skinsIn_14 (by decide) (fun c65540 => ?_) (fun c65540 => ?_)
    · have w65541 := cv_lt (rfl : p1.toInt = p1.toInt) (by decide : (0 : Int32).toInt = 0) c65540
      exact K23 z65537 _ _ _ _ (by omega) hT hfr hv65536 (lv_sub hl [0, 1] rfl)
    · have w65542 := cv_nlt (rfl : p1.toInt = p1.toInt) (by decide : (0 : Int32).toInt = 0) c65540
      refine lv_iload_n hx hb dX11_skinsIn_17 rfl (lv_at hl 1 rfl) ?_
      refine lv_bipush (v := 60) hx hb dX11_skinsIn_18 (by decide) ?_
      refine lv_icmp_le (tgt := 29) hx hb dX11_skinsIn_20 (by decide) (fun c65543 => ?_) (fun c65543 => ?_)
      · have w65544 := cv_le (rfl : p1.toInt = p1.toInt) (by decide : (60 : Int32).toInt = 60) c65543
        refine lv_aload_n hx hb dX11_skinsIn_29 rfl (lv_at hl 0 rfl) ?_
        refine lv_iload_n hx hb dX11_skinsIn_30 rfl (lv_at hl 1 rfl) ?_
        refine t_cVv (n := 1) (C := RX11) (T := TX11) (N := 16) (As := [.int p1]) (rest := []) X hT (kt127_X11_goTo l G tag L F hT.2.2.2 p0 p1 m0 g0 (by omega)) m0 g0 rfl rfl qw_1092 qw_1093 qw_1094 qw_2 qw_1095 ⟨rfl, by decide +kernel, by decide +kernel, by decide +kernel⟩ ⟨Nat.le_of_ble_eq_true rfl, Nat.le_of_ble_eq_true rfl⟩ hl rfl rfl (Nat.le_of_ble_eq_true rfl) dX11_skinsIn_31 ⟨Nat.le_of_ble_eq_true rfl, Nat.le_of_ble_eq_true rfl⟩ (fun F H locs hT hz65545 => ?_)
        have yz65545 := hz65545
        have hv65536 := (yz65545 _ 2 (Or.inr (by decide)) (Or.inr (by decide))).trans hv65536
        have hfr : ∀ b j : Nat, (tag b ≠ 19 ∨ j ≠ 0) → (tag b ≠ 19 ∨ j ≠ 1) → (tag b ≠ 26 ∨ j ≠ 13) → fld F b j = fld Fo b j := fun b j n19_0 n19_1 n26_13 => (yz65545 b j n19_0 n19_1).trans (hfr b j n19_0 n19_1 n26_13)
        refine lv_aload_n hx hb dX11_skinsIn_34 rfl (lv_at hl 0 rfl) ?_
        refine lv_aload_n hx hb dX11_skinsIn_35 rfl (lv_at hl 0 rfl) ?_
        refine t_get (C := RX11) (T := TX11) (N := 16) X hT m0 g0 rfl rfl 7 (by decide) qw_25 inlX11 rfl dX11_skinsIn_36 (fun v65546 hv65546 ov65546 => ?_)
        obtain ⟨b65547, rfl, mb65547, gb65547⟩ := okV_r ov65546
        have gb65547 : tag b65547 = 19 := tg_of gb65547
        refine t_cVi (n := 0) (C := RX7) (T := TX7) (N := 7) (As := []) (rest := [.ref p0]) X hT (kt78_X7_skinsOfAll l G tag L F hT.2.2.2 b65547 mb65547 gb65547) mb65547 gb65547 rfl rfl qw_1182 qw_1183 qw_1184 qw_22 qw_1185 ⟨rfl, by decide +kernel, by decide +kernel, by decide +kernel⟩ ⟨Nat.le_of_ble_eq_true rfl, Nat.le_of_ble_eq_true rfl⟩ hl rfl rfl (Nat.le_of_ble_eq_true rfl) dX11_skinsIn_39 ⟨Nat.le_of_ble_eq_true rfl, Nat.le_of_ble_eq_true rfl⟩ (fun z65548 F9 H locs hT hz65548 => ?_)
        obtain ⟨fz65548, hz65548⟩ := hz65548
        rw [fz65548] at hT
        refine t_cVi (n := 1) (C := RX11) (T := TX11) (N := 16) (As := [.int z65548]) (rest := []) X hT (kt96_X11_answer l G tag L F hT.2.2.2 p0 z65548 m0 g0) m0 g0 rfl rfl qw_463 qw_464 qw_465 qw_2 qw_466 ⟨rfl, by decide +kernel, by decide +kernel, by decide +kernel⟩ ⟨Nat.le_of_ble_eq_true rfl, Nat.le_of_ble_eq_true rfl⟩ hl rfl rfl (Nat.le_of_ble_eq_true rfl) dX11_skinsIn_42 ⟨Nat.le_of_ble_eq_true rfl, Nat.le_of_ble_eq_true rfl⟩ (fun z65549 F H locs hT hz65549 => ?_)
        obtain ⟨hz65549, yz65549⟩ := hz65549
        have hv65536 := (yz65549 _ 2 (Or.inr (by decide))).trans hv65536
        have hv65546 := (yz65549 _ 7 (Or.inr (by decide))).trans hv65546
        have hfr : ∀ b j : Nat, (tag b ≠ 19 ∨ j ≠ 0) → (tag b ≠ 19 ∨ j ≠ 1) → (tag b ≠ 26 ∨ j ≠ 13) → fld F b j = fld Fo b j := fun b j n19_0 n19_1 n26_13 => (yz65549 b j n26_13).trans (hfr b j n19_0 n19_1 n26_13)
        exact t_iret hQ X hT (⟨rg_all _, hfr⟩) (Nat.le_of_ble_eq_true rfl) (Nat.le_of_ble_eq_true rfl) dX11_skinsIn_45
      · have w65550 := cv_nle (rfl : p1.toInt = p1.toInt) (by decide : (60 : Int32).toInt = 60) c65543
        exact K23 z65537 _ _ _ _ (by omega) hT hfr hv65536 (lv_sub hl [0, 1] rfl)
  · have w65551 := cv_eq (rfl : z65537.toInt = z65537.toInt) (by decide : (0 : Int32).toInt = 0) c65538
    refine lv_aload_n hx hb dX11_skinsIn_7 rfl (lv_at hl 0 rfl) ?_
    refine lv_iconst (v := 1) hx hb dX11_skinsIn_8 (by decide) ?_
    refine t_cVi (n := 1) (C := RX11) (T := TX11) (N := 16) (As := [.int 1]) (rest := []) X hT (kt97_X11_refuse l G tag L F hT.2.2.2 p0 1 m0 g0) m0 g0 rfl rfl qw_152 qw_153 qw_154 qw_2 qw_155 ⟨rfl, by decide +kernel, by decide +kernel, by decide +kernel⟩ ⟨Nat.le_of_ble_eq_true rfl, Nat.le_of_ble_eq_true rfl⟩ hl rfl rfl (Nat.le_of_ble_eq_true rfl) dX11_skinsIn_9 ⟨Nat.le_of_ble_eq_true rfl, Nat.le_of_ble_eq_true rfl⟩ (fun z65552 F H locs hT hz65552 => ?_)
    obtain ⟨hz65552, yz65552⟩ := hz65552
    have hv65536 := (yz65552 _ 2 (Or.inr (by decide))).trans hv65536
    have hfr : ∀ b j : Nat, (tag b ≠ 19 ∨ j ≠ 0) → (tag b ≠ 19 ∨ j ≠ 1) → (tag b ≠ 26 ∨ j ≠ 13) → fld F b j = fld Fo b j := fun b j n19_0 n19_1 n26_13 => (yz65552 b j n26_13).trans (hfr b j n19_0 n19_1 n26_13)
    exact t_iret hQ X hT (⟨rg_all _, hfr⟩) (Nat.le_of_ble_eq_true rfl) (Nat.le_of_ble_eq_true rfl) dX11_skinsIn_12
