set_option maxHeartbeats 4000000 in
set_option maxRecDepth 100000 in
theorem kt126_X9_wallAt (l : Launch) (G : KG) (tag : Nat → Nat) (L : List Nat) (Fo : Nat → va_E) (ho : okT G ttC tag L Fo) (p0 : Nat) (p1 : Nat) (p2 : Int32) (p3 : Int32) (p4 : Int32) (m0 : p0 ∈ L) (g0 : tag p0 = 22) (m1 : p1 ∈ L) (g1 : tag p1 = 18) (h4 : 0 ≤ p4.toInt ∧ p4.toInt ≤ 5) : TMi l yX9_wallAt cX9_wallAt 7 (some .int) { frames := 3, cells := 0, slots := 0, locals := 63 } G ttC tag L Fo [.ref p0, .ref p1, .int p2, .int p3, .int p4] (fun r F1 => ((-2) ≤ r.toInt ∧ r.toInt ≤ 5) ∧ ((∀ b j : Nat, fld F1 b j = fld Fo b j) ∧ EF tag F1 Fo)) := by
  refine t_bodyi (y := yX9_wallAt) (cd := cX9_wallAt) (mL := 7) (rt := (some .int)) (rm := { frames := 3, cells := 0, slots := 0, locals := 63 }) (av := [.ref p0, .ref p1, .int p2, .int p3, .int p4]) (by decide) (Nat.le_of_ble_eq_true rfl) ho ?_
  intro p e s m args below meth c ls A Q hQ X hT hl
  have hx := X.1.1
  have hb := X.1.2.1
  have hl : lv_has ls 7 [(0, .ref p0), (1, .ref p1), (2, .int p2), (3, .int p3), (4, .int p4)] := hl
  have rp2 := rg_all p2
  have rp3 := rg_all p3
  obtain ⟨F, hFo⟩ : ∃ F : Nat → va_E, F = Fo := ⟨_, rfl⟩
  rw [← hFo] at hT
  have hfr : (∀ b j : Nat, fld F b j = fld Fo b j) ∧ EF tag F Fo := by
    rw [hFo]
    exact ⟨by intros; rfl, fun _ _ _ => rfl⟩
  have K17 : ∀ (n : Nat) (z45624 : Int32) (z45625 : Int32) (z45626 : Int32) (F : Nat → va_E) (H : Heap) (locs : List Loc) (ls : Array Slot), (720 - z45625.toInt < (n : Int)) → (0 ≤ z45625.toInt ∧ z45625.toInt ≤ 720) → (0 ≤ z45626.toInt ∧ z45626.toInt ≤ 6) → TH G ttC A s tag L F H locs → ((∀ b j : Nat, fld F b j = fld Fo b j) ∧ EF tag F Fo) → fld F p1 16 = .int z45626 → lv_has ls 7 [(0, .ref p0), (1, .ref p1), (2, .int p2), (3, .int p3), (4, .int p4), (5, .int z45624), (6, .int z45625)] → W p l e { frames := 3, cells := 0, slots := 0, locals := 63 } s m args below meth c H locs 0 0 Q (F0 m 17 ls []) := by
    intro n
    induction n with
    | zero =>
      intro z45624 z45625 z45626 F H locs ls hn rz45625 rz45626 hT hfr qz45626 hl
      have rz45624 := rg_all z45624
      exfalso
      omega
    | succ n ih17 =>
      intro z45624 z45625 z45626 F H locs ls hn rz45625 rz45626 hT hfr qz45626 hl
      have rz45624 := rg_all z45624
      have K56 : ∀ (z45627 : Int32) (z45629 : Int32) (F : Nat → va_E) (H : Heap) (locs : List Loc) (ls : Array Slot), (0 ≤ z45629.toInt ∧ z45629.toInt ≤ 6) → (0 ≤ z45625.toInt ∧ z45625.toInt ≤ 719) → TH G ttC A s tag L F H locs → ((∀ b j : Nat, fld F b j = fld Fo b j) ∧ EF tag F Fo) → fld F p1 16 = .int z45629 → lv_has ls 7 [(0, .ref p0), (1, .ref p1), (2, .int p2), (3, .int p3), (4, .int p4), (5, .int z45627), (6, .int z45625)] → W p l e { frames := 3, cells := 0, slots := 0, locals := 63 } s m args below meth c H locs 0 0 Q (F0 m 56 ls []) := by
        intro z45627 z45629 F H locs ls rz45629 r9s45628 hT hfr qz45629 hl
        have rz45627 := rg_all z45627
        refine lv_aload_n hx hb dX9_wallAt_56 rfl (lv_at hl 0 rfl) ?_
        refine t_get (C := RX9) (T := TX9) (N := 6) X hT m0 g0 rfl rfl 0 (by decide) qw_93 inlX9 rfl dX9_wallAt_57 (fun v45630 hv45630 ov45630 => ?_)
        obtain ⟨b45631, rfl, mb45631, gb45631⟩ := okV_r ov45630
        have gb45631 : tag b45631 = 11 := tg_of gb45631
        refine lv_aload_n hx hb dX9_wallAt_60 rfl (lv_at hl 1 rfl) ?_
        refine t_get (C := RX1) (T := TX1) (N := 20) X hT m1 g1 rfl rfl 16 (by decide) qw_1338 inlX1 rfl dX9_wallAt_61 (fun v45632 hv45632 ov45632 => ?_)
        obtain rfl : v45632 = .int z45629 := hv45632.symm.trans qz45629
        refine t_cSv (n := 2) (As := [.ref b45631, .int z45629]) (rest := []) X hT (kt117_X5_advance l G tag L F hT.2.2.2 b45631 z45629 mb45631 gb45631 (by omega)) qw_1356 qw_1248 qw_1242 qw_1249 ⟨by decide +kernel, by decide +kernel, by decide +kernel⟩ ⟨Nat.le_of_ble_eq_true rfl, Nat.le_of_ble_eq_true rfl⟩ hl rfl rfl (Nat.le_of_ble_eq_true rfl) dX9_wallAt_64 ⟨Nat.le_of_ble_eq_true rfl, Nat.le_of_ble_eq_true rfl⟩ (fun F H locs hT hz45633 => ?_)
        have yz45633 := hz45633
        have qz45629 := (yz45633.1 _ 16 ).trans qz45629
        have hv45630 := (yz45633.1 _ 0 ).trans hv45630
        have hfr : (∀ b j : Nat, fld F b j = fld Fo b j) ∧ EF tag F Fo := ⟨fun b j  => (yz45633.1 b j ).trans (hfr.1 b j ), fun b j hb => (yz45633.2 b j hb).trans (hfr.2 b j hb)⟩
        obtain ⟨z45634, ez45634⟩ : ∃ y : Int32, y = z45625 + 1 := ⟨_, rfl⟩
        have hz45634 : z45634.toInt = z45625.toInt + 1 := ar_add ez45634 rfl (by decide : (1 : Int32).toInt = 1) (by omega) (by omega)
        refine lv_iinc (v := z45634) (lv' := [(6, .int z45634), (0, .ref p0), (1, .ref p1), (2, .int p2), (3, .int p3), (4, .int p4), (5, .int z45627)]) hx hb dX9_wallAt_67 hl (k := 6) rfl (by rw [ez45634]; rfl) (by decide) rfl (fun ls hl => ?_)
        refine lv_goto (tgt := 17) hx hb dX9_wallAt_70 (by decide) ?_
        exact ih17 z45627 z45634 z45629 _ _ _ _ (by omega) (by omega) (by omega) hT hfr qz45629 (lv_sub hl [1, 2, 3, 4, 5, 6, 0] rfl)
      refine lv_iload hx hb dX9_wallAt_17 (lv_at hl 6 rfl) ?_
      refine t_getsN X hT X.2.2.2.1.2.1.2.2.1 (List.mem_of_getElem? (i := 3) rfl) dX9_wallAt_19 ?_
      refine lv_aload_n hx hb dX9_wallAt_22 rfl (lv_at hl 1 rfl) ?_
      refine t_get (C := RX1) (T := TX1) (N := 20) X hT m1 g1 rfl rfl 16 (by decide) qw_1338 inlX1 rfl dX9_wallAt_23 (fun v45635 hv45635 ov45635 => ?_)
      obtain rfl : v45635 = .int z45626 := hv45635.symm.trans qz45626
      refine t_tild X hT X.2.2.2.1.2.1.2.2.1 (by omega) dX9_wallAt_26 (fun z45636 ez45636 => ?_)
      have rz45636 : 1 ≤ z45636.toInt ∧ z45636.toInt ≤ 720 := by rw [ez45636]; exact gRows_r _
      refine lv_icmp_ge (tgt := 73) hx hb dX9_wallAt_27 (by decide) (fun c45637 => ?_) (fun c45637 => ?_)
      · have w45638 := cv_le (rfl : z45636.toInt = z45636.toInt) (rfl : z45625.toInt = z45625.toInt) c45637
        refine lv_bipush (v := (-2)) hx hb dX9_wallAt_73 (by decide) ?_
        exact t_iret hQ X hT (⟨(by decide), hfr⟩) (Nat.le_of_ble_eq_true rfl) (Nat.le_of_ble_eq_true rfl) dX9_wallAt_75
      · have w45639 := cv_nle (rfl : z45636.toInt = z45636.toInt) (rfl : z45625.toInt = z45625.toInt) c45637
        refine lv_aload_n hx hb dX9_wallAt_30 rfl (lv_at hl 0 rfl) ?_
        refine lv_aload_n hx hb dX9_wallAt_31 rfl (lv_at hl 1 rfl) ?_
        refine lv_iload_n hx hb dX9_wallAt_32 rfl (lv_at hl 2 rfl) ?_
        refine t_cVi (n := 2) (C := RX9) (T := TX9) (N := 6) (As := [.ref p1, .int p2]) (rest := []) X hT (kt112_X9_canBe l G tag L F hT.2.2.2 p0 p1 p2 m0 g0 m1 g1) m0 g0 rfl rfl qw_1340 qw_1341 qw_1342 qw_40 qw_1343 ⟨rfl, by decide +kernel, by decide +kernel, by decide +kernel⟩ ⟨Nat.le_of_ble_eq_true rfl, Nat.le_of_ble_eq_true rfl⟩ hl rfl rfl (Nat.le_of_ble_eq_true rfl) dX9_wallAt_33 ⟨Nat.le_of_ble_eq_true rfl, Nat.le_of_ble_eq_true rfl⟩ (fun z45640 F H locs hT hz45640 => ?_)
        obtain ⟨hz45640, yz45640⟩ := hz45640
        have qz45626 := (yz45640.1 _ 16 ).trans qz45626
        have hfr : (∀ b j : Nat, fld F b j = fld Fo b j) ∧ EF tag F Fo := ⟨fun b j  => (yz45640.1 b j ).trans (hfr.1 b j ), fun b j hb => (yz45640.2 b j hb).trans (hfr.2 b j hb)⟩
        refine lv_if_eq (tgt := 56) hx hb dX9_wallAt_36 (by decide) (fun c45641 => ?_) (fun c45641 => ?_)
        · have w45642 := cv_eq (rfl : z45640.toInt = z45640.toInt) (by decide : (0 : Int32).toInt = 0) c45641
          exact K56 z45624 z45626 _ _ _ _ (by omega) (by omega) hT hfr qz45626 (lv_sub hl [0, 1, 2, 3, 4, 5, 6] rfl)
        · have w45643 := cv_ne (rfl : z45640.toInt = z45640.toInt) (by decide : (0 : Int32).toInt = 0) c45641
          refine lv_iload hx hb dX9_wallAt_39 (lv_at hl 5 rfl) ?_
          refine lv_iload_n hx hb dX9_wallAt_41 rfl (lv_at hl 3 rfl) ?_
          refine lv_icmp_ne (tgt := 53) hx hb dX9_wallAt_42 (by decide) (fun c45644 => ?_) (fun c45644 => ?_)
          · have w45645 := cv_ne (rfl : z45624.toInt = z45624.toInt) (rfl : p3.toInt = p3.toInt) c45644
            obtain ⟨z45646, ez45646⟩ : ∃ y : Int32, y = z45624 + 1 := ⟨_, rfl⟩
            have rz45646 := rg_all z45646
            refine lv_iinc (v := z45646) (lv' := [(5, .int z45646), (0, .ref p0), (1, .ref p1), (2, .int p2), (3, .int p3), (4, .int p4), (6, .int z45625)]) hx hb dX9_wallAt_53 hl (k := 5) rfl (by rw [ez45646]; rfl) (by decide) rfl (fun ls hl => ?_)
            exact K56 z45646 z45626 _ _ _ _ (by omega) (by omega) hT hfr qz45626 (lv_sub hl [1, 2, 3, 4, 5, 0, 6] rfl)
          · have w45647 := cv_eq (rfl : z45624.toInt = z45624.toInt) (rfl : p3.toInt = p3.toInt) c45644
            refine lv_aload_n hx hb dX9_wallAt_45 rfl (lv_at hl 0 rfl) ?_
            refine t_get (C := RX9) (T := TX9) (N := 6) X hT m0 g0 rfl rfl 0 (by decide) qw_93 inlX9 rfl dX9_wallAt_46 (fun v45648 hv45648 ov45648 => ?_)
            obtain ⟨b45649, rfl, mb45649, gb45649⟩ := okV_r ov45648
            have gb45649 : tag b45649 = 11 := tg_of gb45649
            refine lv_iload hx hb dX9_wallAt_49 (lv_at hl 4 rfl) ?_
            refine t_ild X hT mb45649 gb45649 rfl (by omega) dX9_wallAt_51 (fun z45650 vz45650 rz45650 => ?_)
            have rz45650 : 0 ≤ z45650.toInt ∧ z45650.toInt ≤ 5 := rz45650
            exact t_iret hQ X hT (⟨(by omega), hfr⟩) (Nat.le_of_ble_eq_true rfl) (Nat.le_of_ble_eq_true rfl) dX9_wallAt_52
  refine lv_iconst (v := 0) hx hb dX9_wallAt_0 (by decide) ?_
  refine lv_istore (lv' := [(5, .int 0), (0, .ref p0), (1, .ref p1), (2, .int p2), (3, .int p3), (4, .int p4)]) hx hb dX9_wallAt_1 hl (by decide) rfl (fun ls hl => ?_)
  refine lv_aload_n hx hb dX9_wallAt_3 rfl (lv_at hl 1 rfl) ?_
  refine t_get (C := RX9) (T := TX9) (N := 6) X hT m0 g0 rfl rfl 0 (by decide) qw_93 inlX9 rfl dX9_wallAt_4 (fun v45651 hv45651 ov45651 => ?_)
  obtain ⟨b45652, rfl, mb45652, gb45652⟩ := okV_r ov45651
  have gb45652 : tag b45652 = 11 := tg_of gb45652
  refine lv_aload_n hx hb dX9_wallAt_7 rfl (lv_at hl 2 rfl) ?_
  refine t_get (C := RX1) (T := TX1) (N := 20) X hT m1 g1 rfl rfl 16 (by decide) qw_1338 inlX1 rfl dX9_wallAt_8 (fun v45653 hv45653 ov45653 => ?_)
  obtain ⟨z45654, rfl, rz45654⟩ := okV_i ov45653
  refine t_cSv (n := 2) (As := [.ref b45652, .int z45654]) (rest := []) X hT (kt110_X5_begin l G tag L F hT.2.2.2 b45652 z45654 mb45652 gb45652 (by omega)) qw_1339 qw_1241 qw_1242 qw_1243 ⟨by decide +kernel, by decide +kernel, by decide +kernel⟩ ⟨Nat.le_of_ble_eq_true rfl, Nat.le_of_ble_eq_true rfl⟩ hl rfl rfl (Nat.le_of_ble_eq_true rfl) dX9_wallAt_11 ⟨Nat.le_of_ble_eq_true rfl, Nat.le_of_ble_eq_true rfl⟩ (fun F H locs hT hz45655 => ?_)
  have yz45655 := hz45655
  have hv45651 := (yz45655.1 _ 0 ).trans hv45651
  have hv45653 := (yz45655.1 _ 16 ).trans hv45653
  have hfr : (∀ b j : Nat, fld F b j = fld Fo b j) ∧ EF tag F Fo := ⟨fun b j  => (yz45655.1 b j ).trans (hfr.1 b j ), fun b j hb => (yz45655.2 b j hb).trans (hfr.2 b j hb)⟩
  refine lv_iconst (v := 0) hx hb dX9_wallAt_14 (by decide) ?_
  refine lv_istore (lv' := [(6, .int 0), (5, .int 0), (0, .ref p0), (1, .ref p1), (2, .int p2), (3, .int p3), (4, .int p4)]) hx hb dX9_wallAt_15 hl (by decide) rfl (fun ls hl => ?_)
  have kk45656 : (0 : Int32).toInt = 0 := by decide
  have kk45657 : (0 : Int32).toInt = 0 := by decide
  exact K17 721 0 0 z45654 _ _ _ _ (by omega) (by decide) (by omega) hT hfr hv45653 (lv_sub hl [2, 3, 4, 5, 6, 1, 0] rfl)
set_option maxHeartbeats 4000000 in
set_option maxRecDepth 100000 in
theorem kt127_X11_order (l : Launch) (G : KG) (tag : Nat → Nat) (L : List Nat) (Fo : Nat → va_E) (ho : okT G ttC tag L Fo) (p0 : Nat) (p1 : Int32) (p2 : Int32) (m0 : p0 ∈ L) (g0 : tag p0 = 26) : TMi l yX11_order cX11_order 4 (some .int) { frames := 4, cells := 0, slots := 0, locals := 89 } G ttC tag L Fo [.ref p0, .int p1, .int p2] (fun r F1 => ((-2147483648) ≤ r.toInt ∧ r.toInt ≤ 2147483647) ∧ ((∀ b j : Nat, (tag b ≠ 26 ∨ j ≠ 13) → fld F1 b j = fld Fo b j) ∧ EF tag F1 Fo)) := by
  refine t_bodyi (y := yX11_order) (cd := cX11_order) (mL := 4) (rt := (some .int)) (rm := { frames := 4, cells := 0, slots := 0, locals := 89 }) (av := [.ref p0, .int p1, .int p2]) (by decide) (Nat.le_of_ble_eq_true rfl) ho ?_
  intro p e s m args below meth c ls A Q hQ X hT hl
  have hx := X.1.1
  have hb := X.1.2.1
  have hl : lv_has ls 4 [(0, .ref p0), (1, .int p1), (2, .int p2)] := hl
  have rp1 := rg_all p1
  have rp2 := rg_all p2
  obtain ⟨F, hFo⟩ : ∃ F : Nat → va_E, F = Fo := ⟨_, rfl⟩
  rw [← hFo] at hT
  have hfr : (∀ b j : Nat, (tag b ≠ 26 ∨ j ≠ 13) → fld F b j = fld Fo b j) ∧ EF tag F Fo := by
    rw [hFo]
    exact ⟨by intros; rfl, fun _ _ _ => rfl⟩
  have K22 : ∀  (F : Nat → va_E) (H : Heap) (locs : List Loc) (ls : Array Slot), TH G ttC A s tag L F H locs → ((∀ b j : Nat, (tag b ≠ 26 ∨ j ≠ 13) → fld F b j = fld Fo b j) ∧ EF tag F Fo) → lv_has ls 4 [(0, .ref p0), (1, .int p1), (2, .int p2)] → W p l e { frames := 4, cells := 0, slots := 0, locals := 89 } s m args below meth c H locs 0 0 Q (F0 m 22 ls []) := by
    intro F H locs ls hT hfr hl
    refine lv_aload_n hx hb dX11_order_22 rfl (lv_at hl 0 rfl) ?_
    refine lv_iconst (v := 1) hx hb dX11_order_23 (by decide) ?_
    refine t_cVi (n := 1) (C := RX11) (T := TX11) (N := 16) (As := [.int 1]) (rest := []) X hT (kt63_X11_refuse l G tag L F hT.2.2.2 p0 1 m0 g0) m0 g0 rfl rfl qw_152 qw_153 qw_154 qw_2 qw_155 ⟨rfl, by decide +kernel, by decide +kernel, by decide +kernel⟩ ⟨Nat.le_of_ble_eq_true rfl, Nat.le_of_ble_eq_true rfl⟩ hl rfl rfl (Nat.le_of_ble_eq_true rfl) dX11_order_24 ⟨Nat.le_of_ble_eq_true rfl, Nat.le_of_ble_eq_true rfl⟩ (fun z45947 F H locs hT hz45947 => ?_)
    obtain ⟨hz45947, yz45947⟩ := hz45947
    have hfr : (∀ b j : Nat, (tag b ≠ 26 ∨ j ≠ 13) → fld F b j = fld Fo b j) ∧ EF tag F Fo := ⟨fun b j n26_13 => (yz45947.1 b j n26_13).trans (hfr.1 b j n26_13), fun b j hb => (yz45947.2 b j hb).trans (hfr.2 b j hb)⟩
    exact t_iret hQ X hT (⟨rg_all _, hfr⟩) (Nat.le_of_ble_eq_true rfl) (Nat.le_of_ble_eq_true rfl) dX11_order_27
  refine lv_aload_n hx hb dX11_order_0 rfl (lv_at hl 0 rfl) ?_
  refine lv_iload_n hx hb dX11_order_1 rfl (lv_at hl 2 rfl) ?_
  refine t_cVi (n := 1) (C := RX11) (T := TX11) (N := 16) (As := [.int p2]) (rest := []) X hT (kt92_X11_isWall l G tag L F hT.2.2.2 p0 p2 m0 g0) m0 g0 rfl rfl qw_1379 qw_1380 qw_1381 qw_2 qw_1382 ⟨rfl, by decide +kernel, by decide +kernel, by decide +kernel⟩ ⟨Nat.le_of_ble_eq_true rfl, Nat.le_of_ble_eq_true rfl⟩ hl rfl rfl (Nat.le_of_ble_eq_true rfl) dX11_order_2 ⟨Nat.le_of_ble_eq_true rfl, Nat.le_of_ble_eq_true rfl⟩ (fun z45948 F9 H locs hT hz45948 => ?_)
  obtain ⟨fz45948, hz45948⟩ := hz45948
  rw [fz45948] at hT
  obtain ⟨hz45948, iz45948⟩ := hz45948
  refine lv_if_eq (tgt := 22) hx hb dX11_order_5 (by decide) (fun c45949 => ?_) (fun c45949 => ?_)
  · have w45950 := cv_eq (rfl : z45948.toInt = z45948.toInt) (by decide : (0 : Int32).toInt = 0) c45949
    exact K22  _ _ _ _  hT hfr  (lv_sub hl [0, 1, 2] rfl)
  · have w45951 := cv_ne (rfl : z45948.toInt = z45948.toInt) (by decide : (0 : Int32).toInt = 0) c45949
    have w45952 := (fun h => (iz45948 h)) (by omega)
    refine lv_iload_n hx hb dX11_order_8 rfl (lv_at hl 1 rfl) ?_
    refine lv_if_lt (tgt := 22) hx hb dX11_order_9 (by decide) (fun c45953 => ?_) (fun c45953 => ?_)
    · have w45954 := cv_lt (rfl : p1.toInt = p1.toInt) (by decide : (0 : Int32).toInt = 0) c45953
      exact K22  _ _ _ _  hT hfr  (lv_sub hl [0, 1, 2] rfl)
    · have w45955 := cv_nlt (rfl : p1.toInt = p1.toInt) (by decide : (0 : Int32).toInt = 0) c45953
      refine lv_iload_n hx hb dX11_order_12 rfl (lv_at hl 1 rfl) ?_
      refine t_gets X hT X.2.2.2.1.2.1.2.2.1 qw_1378 dX11_order_13 ?_
      refine lv_bipush (v := 6) hx hb dX11_order_16 (by decide) ?_
      refine t_tild X hT X.2.2.2.1.2.1.2.2.1 (by decide) dX11_order_18 (fun z45956 ez45956 => ?_)
      have rz45956 : 1 ≤ z45956.toInt ∧ z45956.toInt ≤ 720 := by rw [ez45956]; exact gRows_r _
      refine lv_icmp_lt (tgt := 28) hx hb dX11_order_19 (by decide) (fun c45957 => ?_) (fun c45957 => ?_)
      · have w45958 := cv_lt (rfl : p1.toInt = p1.toInt) (rfl : z45956.toInt = z45956.toInt) c45957
        refine lv_aload_n hx hb dX11_order_28 rfl (lv_at hl 0 rfl) ?_
        refine t_get (C := RX11) (T := TX11) (N := 16) X hT m0 g0 rfl rfl 11 (by decide) qw_41 inlX11 rfl dX11_order_29 (fun v45959 hv45959 ov45959 => ?_)
        obtain ⟨b45960, rfl, mb45960, gb45960⟩ := okV_r ov45959
        have gb45960 : tag b45960 = 22 := tg_of gb45960
        refine lv_aload_n hx hb dX11_order_32 rfl (lv_at hl 0 rfl) ?_
        refine t_get (C := RX11) (T := TX11) (N := 16) X hT m0 g0 rfl rfl 3 (by decide) qw_18 inlX11 rfl dX11_order_33 (fun v45961 hv45961 ov45961 => ?_)
        obtain ⟨b45962, rfl, mb45962, gb45962⟩ := okV_r ov45961
        have gb45962 : tag b45962 = 18 := tg_of gb45962
        refine lv_aload_n hx hb dX11_order_36 rfl (lv_at hl 0 rfl) ?_
        refine t_get (C := RX11) (T := TX11) (N := 16) X hT m0 g0 rfl rfl 5 (by decide) qw_23 inlX11 rfl dX11_order_37 (fun v45963 hv45963 ov45963 => ?_)
        obtain ⟨b45964, rfl, mb45964, gb45964⟩ := okV_r ov45963
        have gb45964 : tag b45964 = 19 := tg_of gb45964
        refine t_get (C := RX7) (T := TX7) (N := 7) X hT mb45964 gb45964 rfl rfl 0 (by decide) qw_1225 inlX7 rfl dX11_order_40 (fun v45965 hv45965 ov45965 => ?_)
        obtain ⟨z45966, rfl, rz45966⟩ := okV_i ov45965
        refine lv_iload_n hx hb dX11_order_43 rfl (lv_at hl 1 rfl) ?_
        refine lv_iload_n hx hb dX11_order_44 rfl (lv_at hl 2 rfl) ?_
        refine t_cVi (n := 4) (C := RX9) (T := TX9) (N := 6) (As := [.ref b45962, .int z45966, .int p1, .int p2]) (rest := []) X hT (kt126_X9_wallAt l G tag L F hT.2.2.2 b45960 b45962 z45966 p1 p2 mb45960 gb45960 mb45962 gb45962 (by omega)) mb45960 gb45960 rfl rfl qw_1384 qw_1385 qw_1386 qw_40 qw_1387 ⟨rfl, by decide +kernel, by decide +kernel, by decide +kernel⟩ ⟨Nat.le_of_ble_eq_true rfl, Nat.le_of_ble_eq_true rfl⟩ hl rfl rfl (Nat.le_of_ble_eq_true rfl) dX11_order_45 ⟨Nat.le_of_ble_eq_true rfl, Nat.le_of_ble_eq_true rfl⟩ (fun z45967 F H locs hT hz45967 => ?_)
        obtain ⟨hz45967, yz45967⟩ := hz45967
        have hv45959 := (yz45967.1 _ 11 ).trans hv45959
        have hv45961 := (yz45967.1 _ 3 ).trans hv45961
        have hv45963 := (yz45967.1 _ 5 ).trans hv45963
        have hv45965 := (yz45967.1 _ 0 ).trans hv45965
        have hfr : (∀ b j : Nat, (tag b ≠ 26 ∨ j ≠ 13) → fld F b j = fld Fo b j) ∧ EF tag F Fo := ⟨fun b j n26_13 => (yz45967.1 b j ).trans (hfr.1 b j n26_13), fun b j hb => (yz45967.2 b j hb).trans (hfr.2 b j hb)⟩
        refine lv_istore_n (lv' := [(3, .int z45967), (0, .ref p0), (1, .int p1), (2, .int p2)]) hx hb dX11_order_48 rfl hl (by decide) rfl (fun ls hl => ?_)
        refine lv_iload_n hx hb dX11_order_49 rfl (lv_at hl 0 rfl) ?_
        refine lv_bipush (v := (-2)) hx hb dX11_order_50 (by decide) ?_
        refine lv_icmp_ne (tgt := 63) hx hb dX11_order_52 (by decide) (fun c45968 => ?_) (fun c45968 => ?_)
        · have w45969 := cv_ne (rfl : z45967.toInt = z45967.toInt) (by decide : ((-2) : Int32).toInt = (-2)) c45968
          refine lv_aload_n hx hb dX11_order_63 rfl (lv_at hl 1 rfl) ?_
          refine lv_iload_n hx hb dX11_order_64 rfl (lv_at hl 0 rfl) ?_
          refine t_cVi (n := 1) (C := RX11) (T := TX11) (N := 16) (As := [.int z45967]) (rest := []) X hT (kt56_X11_answer l G tag L F hT.2.2.2 p0 z45967 m0 g0) m0 g0 rfl rfl qw_463 qw_464 qw_465 qw_2 qw_466 ⟨rfl, by decide +kernel, by decide +kernel, by decide +kernel⟩ ⟨Nat.le_of_ble_eq_true rfl, Nat.le_of_ble_eq_true rfl⟩ hl rfl rfl (Nat.le_of_ble_eq_true rfl) dX11_order_65 ⟨Nat.le_of_ble_eq_true rfl, Nat.le_of_ble_eq_true rfl⟩ (fun z45970 F H locs hT hz45970 => ?_)
          obtain ⟨hz45970, yz45970⟩ := hz45970
          have hv45959 := (yz45970.1 _ 11 (Or.inr (by decide))).trans hv45959
          have hv45961 := (yz45970.1 _ 3 (Or.inr (by decide))).trans hv45961
          have hv45963 := (yz45970.1 _ 5 (Or.inr (by decide))).trans hv45963
          have hv45965 := (yz45970.1 _ 0 (Or.inr (by decide))).trans hv45965
          have hfr : (∀ b j : Nat, (tag b ≠ 26 ∨ j ≠ 13) → fld F b j = fld Fo b j) ∧ EF tag F Fo := ⟨fun b j n26_13 => (yz45970.1 b j n26_13).trans (hfr.1 b j n26_13), fun b j hb => (yz45970.2 b j hb).trans (hfr.2 b j hb)⟩
          exact t_iret hQ X hT (⟨rg_all _, hfr⟩) (Nat.le_of_ble_eq_true rfl) (Nat.le_of_ble_eq_true rfl) dX11_order_68
        · have w45971 := cv_eq (rfl : z45967.toInt = z45967.toInt) (by decide : ((-2) : Int32).toInt = (-2)) c45968
          refine lv_aload_n hx hb dX11_order_55 rfl (lv_at hl 1 rfl) ?_
          refine lv_iconst (v := 1) hx hb dX11_order_56 (by decide) ?_
          refine t_cVi (n := 1) (C := RX11) (T := TX11) (N := 16) (As := [.int 1]) (rest := []) X hT (kt63_X11_refuse l G tag L F hT.2.2.2 p0 1 m0 g0) m0 g0 rfl rfl qw_152 qw_153 qw_154 qw_2 qw_155 ⟨rfl, by decide +kernel, by decide +kernel, by decide +kernel⟩ ⟨Nat.le_of_ble_eq_true rfl, Nat.le_of_ble_eq_true rfl⟩ hl rfl rfl (Nat.le_of_ble_eq_true rfl) dX11_order_57 ⟨Nat.le_of_ble_eq_true rfl, Nat.le_of_ble_eq_true rfl⟩ (fun z45972 F H locs hT hz45972 => ?_)
          obtain ⟨hz45972, yz45972⟩ := hz45972
          have hv45959 := (yz45972.1 _ 11 (Or.inr (by decide))).trans hv45959
          have hv45961 := (yz45972.1 _ 3 (Or.inr (by decide))).trans hv45961
          have hv45963 := (yz45972.1 _ 5 (Or.inr (by decide))).trans hv45963
          have hv45965 := (yz45972.1 _ 0 (Or.inr (by decide))).trans hv45965
          have hfr : (∀ b j : Nat, (tag b ≠ 26 ∨ j ≠ 13) → fld F b j = fld Fo b j) ∧ EF tag F Fo := ⟨fun b j n26_13 => (yz45972.1 b j n26_13).trans (hfr.1 b j n26_13), fun b j hb => (yz45972.2 b j hb).trans (hfr.2 b j hb)⟩
          refine lv_goto (tgt := 68) hx hb dX11_order_60 (by decide) ?_
          exact t_iret hQ X hT (⟨rg_all _, hfr⟩) (Nat.le_of_ble_eq_true rfl) (Nat.le_of_ble_eq_true rfl) dX11_order_68
      · have w45973 := cv_nlt (rfl : p1.toInt = p1.toInt) (rfl : z45956.toInt = z45956.toInt) c45957
        exact K22  _ _ _ _  hT hfr  (lv_sub hl [0, 1, 2] rfl)
set_option maxHeartbeats 4000000 in
set_option maxRecDepth 100000 in
theorem kt128_X11_orders (l : Launch) (G : KG) (tag : Nat → Nat) (L : List Nat) (Fo : Nat → va_E) (ho : okT G ttC tag L Fo) (p0 : Nat) (m0 : p0 ∈ L) (g0 : tag p0 = 26) : TMi l yX11_orders cX11_orders 1 (some .int) { frames := 4, cells := 0, slots := 0, locals := 86 } G ttC tag L Fo [.ref p0] (fun r F1 => ((-2147483648) ≤ r.toInt ∧ r.toInt ≤ 2147483647) ∧ ((∀ b j : Nat, (tag b ≠ 22 ∨ j ≠ 2) → (tag b ≠ 26 ∨ j ≠ 13) → fld F1 b j = fld Fo b j) ∧ EF tag F1 Fo)) := by
  refine t_bodyi (y := yX11_orders) (cd := cX11_orders) (mL := 1) (rt := (some .int)) (rm := { frames := 4, cells := 0, slots := 0, locals := 86 }) (av := [.ref p0]) (by decide) (Nat.le_of_ble_eq_true rfl) ho ?_
  intro p e s m args below meth c ls A Q hQ X hT hl
  have hx := X.1.1
  have hb := X.1.2.1
  have hl : lv_has ls 1 [(0, .ref p0)] := hl
  obtain ⟨F, hFo⟩ : ∃ F : Nat → va_E, F = Fo := ⟨_, rfl⟩
  rw [← hFo] at hT
  have hfr : (∀ b j : Nat, (tag b ≠ 22 ∨ j ≠ 2) → (tag b ≠ 26 ∨ j ≠ 13) → fld F b j = fld Fo b j) ∧ EF tag F Fo := by
    rw [hFo]
    exact ⟨by intros; rfl, fun _ _ _ => rfl⟩
  refine lv_aload_n hx hb dX11_orders_0 rfl (lv_at hl 0 rfl) ?_
  refine t_get (C := RX11) (T := TX11) (N := 16) X hT m0 g0 rfl rfl 2 (by decide) qw_150 inlX11 rfl dX11_orders_1 (fun v46183 hv46183 ov46183 => ?_)
  obtain ⟨z46184, rfl, rz46184⟩ := okV_i ov46183
  refine lv_if_ne (tgt := 13) hx hb dX11_orders_4 (by decide) (fun c46185 => ?_) (fun c46185 => ?_)
  · have w46186 := cv_ne (rfl : z46184.toInt = z46184.toInt) (by decide : (0 : Int32).toInt = 0) c46185
    refine lv_aload_n hx hb dX11_orders_13 rfl (lv_at hl 0 rfl) ?_
    refine t_get (C := RX11) (T := TX11) (N := 16) X hT m0 g0 rfl rfl 11 (by decide) qw_41 inlX11 rfl dX11_orders_14 (fun v46187 hv46187 ov46187 => ?_)
    obtain ⟨b46188, rfl, mb46188, gb46188⟩ := okV_r ov46187
    have gb46188 : tag b46188 = 22 := tg_of gb46188
    refine lv_aload_n hx hb dX11_orders_17 rfl (lv_at hl 0 rfl) ?_
    refine t_get (C := RX11) (T := TX11) (N := 16) X hT m0 g0 rfl rfl 3 (by decide) qw_18 inlX11 rfl dX11_orders_18 (fun v46189 hv46189 ov46189 => ?_)
    obtain ⟨b46190, rfl, mb46190, gb46190⟩ := okV_r ov46189
    have gb46190 : tag b46190 = 18 := tg_of gb46190
    refine lv_aload_n hx hb dX11_orders_21 rfl (lv_at hl 0 rfl) ?_
    refine t_get (C := RX11) (T := TX11) (N := 16) X hT m0 g0 rfl rfl 5 (by decide) qw_23 inlX11 rfl dX11_orders_22 (fun v46191 hv46191 ov46191 => ?_)
    obtain ⟨b46192, rfl, mb46192, gb46192⟩ := okV_r ov46191
    have gb46192 : tag b46192 = 19 := tg_of gb46192
    refine t_get (C := RX7) (T := TX7) (N := 7) X hT mb46192 gb46192 rfl rfl 0 (by decide) qw_1225 inlX7 rfl dX11_orders_25 (fun v46193 hv46193 ov46193 => ?_)
    obtain ⟨z46194, rfl, rz46194⟩ := okV_i ov46193
    refine t_cVv (n := 2) (C := RX9) (T := TX9) (N := 6) (As := [.ref b46190, .int z46194]) (rest := []) X hT (kt118_X9_lookAtAll l G tag L F hT.2.2.2 b46188 b46190 z46194 mb46188 gb46188 mb46190 gb46190) mb46188 gb46188 rfl rfl qw_1333 qw_1334 qw_1335 qw_40 qw_1336 ⟨rfl, by decide +kernel, by decide +kernel, by decide +kernel⟩ ⟨Nat.le_of_ble_eq_true rfl, Nat.le_of_ble_eq_true rfl⟩ hl rfl rfl (Nat.le_of_ble_eq_true rfl) dX11_orders_28 ⟨Nat.le_of_ble_eq_true rfl, Nat.le_of_ble_eq_true rfl⟩ (fun F H locs hT hz46195 => ?_)
    have yz46195 := hz46195
    have hv46183 := (yz46195.1 _ 2 (Or.inl (by rw [g0]; decide))).trans hv46183
    have hv46187 := (yz46195.1 _ 11 (Or.inr (by decide))).trans hv46187
    have hv46189 := (yz46195.1 _ 3 (Or.inr (by decide))).trans hv46189
    have hv46191 := (yz46195.1 _ 5 (Or.inr (by decide))).trans hv46191
    have hv46193 := (yz46195.1 _ 0 (Or.inr (by decide))).trans hv46193
    have hfr : (∀ b j : Nat, (tag b ≠ 22 ∨ j ≠ 2) → (tag b ≠ 26 ∨ j ≠ 13) → fld F b j = fld Fo b j) ∧ EF tag F Fo := ⟨fun b j n22_2 n26_13 => (yz46195.1 b j n22_2).trans (hfr.1 b j n22_2 n26_13), fun b j hb => (yz46195.2 b j hb).trans (hfr.2 b j hb)⟩
    refine lv_aload_n hx hb dX11_orders_31 rfl (lv_at hl 0 rfl) ?_
    refine lv_aload_n hx hb dX11_orders_32 rfl (lv_at hl 0 rfl) ?_
    refine t_get (C := RX11) (T := TX11) (N := 16) X hT m0 g0 rfl rfl 11 (by decide) qw_41 inlX11 rfl dX11_orders_33 (fun v46196 hv46196 ov46196 => ?_)
    obtain rfl : v46196 = .ref b46188 := hv46196.symm.trans hv46187
    refine t_get (C := RX9) (T := TX9) (N := 6) X hT mb46188 gb46188 rfl rfl 2 (by decide) qw_1332 inlX9 rfl dX11_orders_36 (fun v46197 hv46197 ov46197 => ?_)
    obtain ⟨z46198, rfl, rz46198⟩ := okV_i ov46197
    refine t_cVi (n := 1) (C := RX11) (T := TX11) (N := 16) (As := [.int z46198]) (rest := []) X hT (kt56_X11_answer l G tag L F hT.2.2.2 p0 z46198 m0 g0) m0 g0 rfl rfl qw_463 qw_464 qw_465 qw_2 qw_466 ⟨rfl, by decide +kernel, by decide +kernel, by decide +kernel⟩ ⟨Nat.le_of_ble_eq_true rfl, Nat.le_of_ble_eq_true rfl⟩ hl rfl rfl (Nat.le_of_ble_eq_true rfl) dX11_orders_39 ⟨Nat.le_of_ble_eq_true rfl, Nat.le_of_ble_eq_true rfl⟩ (fun z46199 F H locs hT hz46199 => ?_)
    obtain ⟨hz46199, yz46199⟩ := hz46199
    have hv46183 := (yz46199.1 _ 2 (Or.inr (by decide))).trans hv46183
    have hv46187 := (yz46199.1 _ 11 (Or.inr (by decide))).trans hv46187
    have hv46189 := (yz46199.1 _ 3 (Or.inr (by decide))).trans hv46189
    have hv46191 := (yz46199.1 _ 5 (Or.inr (by decide))).trans hv46191
    have hv46193 := (yz46199.1 _ 0 (Or.inr (by decide))).trans hv46193
    have hv46197 := (yz46199.1 _ 2 (Or.inr (by decide))).trans hv46197
    have hfr : (∀ b j : Nat, (tag b ≠ 22 ∨ j ≠ 2) → (tag b ≠ 26 ∨ j ≠ 13) → fld F b j = fld Fo b j) ∧ EF tag F Fo := ⟨fun b j n22_2 n26_13 => (yz46199.1 b j n26_13).trans (hfr.1 b j n22_2 n26_13), fun b j hb => (yz46199.2 b j hb).trans (hfr.2 b j hb)⟩
    exact t_iret hQ X hT (⟨rg_all _, hfr⟩) (Nat.le_of_ble_eq_true rfl) (Nat.le_of_ble_eq_true rfl) dX11_orders_42
  · have w46200 := cv_eq (rfl : z46184.toInt = z46184.toInt) (by decide : (0 : Int32).toInt = 0) c46185
    refine lv_aload_n hx hb dX11_orders_7 rfl (lv_at hl 0 rfl) ?_
    refine lv_iconst (v := 1) hx hb dX11_orders_8 (by decide) ?_
    refine t_cVi (n := 1) (C := RX11) (T := TX11) (N := 16) (As := [.int 1]) (rest := []) X hT (kt63_X11_refuse l G tag L F hT.2.2.2 p0 1 m0 g0) m0 g0 rfl rfl qw_152 qw_153 qw_154 qw_2 qw_155 ⟨rfl, by decide +kernel, by decide +kernel, by decide +kernel⟩ ⟨Nat.le_of_ble_eq_true rfl, Nat.le_of_ble_eq_true rfl⟩ hl rfl rfl (Nat.le_of_ble_eq_true rfl) dX11_orders_9 ⟨Nat.le_of_ble_eq_true rfl, Nat.le_of_ble_eq_true rfl⟩ (fun z46201 F H locs hT hz46201 => ?_)
    obtain ⟨hz46201, yz46201⟩ := hz46201
    have hv46183 := (yz46201.1 _ 2 (Or.inr (by decide))).trans hv46183
    have hfr : (∀ b j : Nat, (tag b ≠ 22 ∨ j ≠ 2) → (tag b ≠ 26 ∨ j ≠ 13) → fld F b j = fld Fo b j) ∧ EF tag F Fo := ⟨fun b j n22_2 n26_13 => (yz46201.1 b j n26_13).trans (hfr.1 b j n22_2 n26_13), fun b j hb => (yz46201.2 b j hb).trans (hfr.2 b j hb)⟩
    exact t_iret hQ X hT (⟨rg_all _, hfr⟩) (Nat.le_of_ble_eq_true rfl) (Nat.le_of_ble_eq_true rfl) dX11_orders_12
set_option maxHeartbeats 4000000 in
set_option maxRecDepth 100000 in
theorem kt129_X11_room (l : Launch) (G : KG) (tag : Nat → Nat) (L : List Nat) (Fo : Nat → va_E) (ho : okT G ttC tag L Fo) (p0 : Nat) (p1 : Int32) (m0 : p0 ∈ L) (g0 : tag p0 = 26) : TMi l yX11_room cX11_room 5 (some .int) { frames := 4, cells := 0, slots := 0, locals := 108 } G ttC tag L Fo [.ref p0, .int p1] (fun r F1 => ((-2147483648) ≤ r.toInt ∧ r.toInt ≤ 2147483647) ∧ ((∀ b j : Nat, (tag b ≠ 19 ∨ j ≠ 0) → (tag b ≠ 19 ∨ j ≠ 1) → (tag b ≠ 26 ∨ j ≠ 13) → fld F1 b j = fld Fo b j) ∧ EF tag F1 Fo)) := by
  refine t_bodyi (y := yX11_room) (cd := cX11_room) (mL := 5) (rt := (some .int)) (rm := { frames := 4, cells := 0, slots := 0, locals := 108 }) (av := [.ref p0, .int p1]) (by decide) (Nat.le_of_ble_eq_true rfl) ho ?_
  intro p e s m args below meth c ls A Q hQ X hT hl
  have hx := X.1.1
  have hb := X.1.2.1
  have hl : lv_has ls 5 [(0, .ref p0), (1, .int p1)] := hl
  have rp1 := rg_all p1
  obtain ⟨F, hFo⟩ : ∃ F : Nat → va_E, F = Fo := ⟨_, rfl⟩
  rw [← hFo] at hT
  have hfr : (∀ b j : Nat, (tag b ≠ 19 ∨ j ≠ 0) → (tag b ≠ 19 ∨ j ≠ 1) → (tag b ≠ 26 ∨ j ≠ 13) → fld F b j = fld Fo b j) ∧ EF tag F Fo := by
    rw [hFo]
    exact ⟨by intros; rfl, fun _ _ _ => rfl⟩
  have K29 : ∀ (n : Nat) (z47573 : Int32) (z47574 : Int32) (F : Nat → va_E) (H : Heap) (locs : List Loc) (ls : Array Slot), (6 - z47574.toInt < (n : Int)) → (0 ≤ z47574.toInt ∧ z47574.toInt ≤ 6) → (0 ≤ p1.toInt ∧ p1.toInt ≤ 3) → TH G ttC A s tag L F H locs → ((∀ b j : Nat, (tag b ≠ 19 ∨ j ≠ 0) → (tag b ≠ 19 ∨ j ≠ 1) → (tag b ≠ 26 ∨ j ≠ 13) → fld F b j = fld Fo b j) ∧ EF tag F Fo) → lv_has ls 5 [(0, .ref p0), (1, .int p1), (2, .int z47573), (3, .int z47574)] → W p l e { frames := 4, cells := 0, slots := 0, locals := 108 } s m args below meth c H locs 0 0 Q (F0 m 29 ls []) := by
    intro n
    induction n with
    | zero =>
      intro z47573 z47574 F H locs ls hn rz47574 r9s47572 hT hfr hl
      have rz47573 := rg_all z47573
      exfalso
      omega
    | succ n ih29 =>
      intro z47573 z47574 F H locs ls hn rz47574 r9s47572 hT hfr hl
      have rz47573 := rg_all z47573
      have K67 : ∀ (z47576 : Int32) (F : Nat → va_E) (H : Heap) (locs : List Loc) (ls : Array Slot), ((-2) ≤ z47576.toInt ∧ z47576.toInt ≤ 900) → (0 ≤ z47574.toInt ∧ z47574.toInt ≤ 5) → TH G ttC A s tag L F H locs → ((∀ b j : Nat, (tag b ≠ 19 ∨ j ≠ 0) → (tag b ≠ 19 ∨ j ≠ 1) → (tag b ≠ 26 ∨ j ≠ 13) → fld F b j = fld Fo b j) ∧ EF tag F Fo) → lv_has ls 5 [(0, .ref p0), (1, .int p1), (2, .int z47573), (3, .int z47574)] → W p l e { frames := 4, cells := 0, slots := 0, locals := 108 } s m args below meth c H locs 0 0 Q (F0 m 67 ls [.int z47576]) := by
        intro z47576 F H locs ls rz47576 r9s47575 hT hfr hl
        refine lv_istore (lv' := [(4, .int z47576), (0, .ref p0), (1, .int p1), (2, .int z47573), (3, .int z47574)]) hx hb dX11_room_67 hl (by decide) rfl (fun ls hl => ?_)
        refine lv_iload hx hb dX11_room_69 (lv_at hl 0 rfl) ?_
        refine lv_bipush (v := (-2)) hx hb dX11_room_71 (by decide) ?_
        refine lv_icmp_ne (tgt := 82) hx hb dX11_room_73 (by decide) (fun c47577 => ?_) (fun c47577 => ?_)
        · have w47578 := cv_ne (rfl : z47576.toInt = z47576.toInt) (by decide : ((-2) : Int32).toInt = (-2)) c47577
          refine lv_aload_n hx hb dX11_room_82 rfl (lv_at hl 1 rfl) ?_
          refine t_get (C := RX11) (T := TX11) (N := 16) X hT m0 g0 rfl rfl 7 (by decide) qw_25 inlX11 rfl dX11_room_83 (fun v47579 hv47579 ov47579 => ?_)
          obtain ⟨b47580, rfl, mb47580, gb47580⟩ := okV_r ov47579
          have gb47580 : tag b47580 = 19 := tg_of gb47580
          refine lv_iload_n hx hb dX11_room_86 rfl (lv_at hl 2 rfl) ?_
          refine lv_iconst (v := 0) hx hb dX11_room_87 (by decide) ?_
          refine lv_iload hx hb dX11_room_88 (lv_at hl 0 rfl) ?_
          refine lv_bipush (v := 100) hx hb dX11_room_90 (by decide) ?_
          refine lv_idiv hx hb dX11_room_92 (by decide) ?_
          refine lv_topi (fun z47581 ez47581 => ?_)
          have rz47581 := rg_all z47581
          refine lv_iload hx hb dX11_room_93 (lv_at hl 0 rfl) ?_
          refine lv_bipush (v := 100) hx hb dX11_room_95 (by decide) ?_
          refine lv_irem hx hb dX11_room_97 (by decide) ?_
          refine lv_topi (fun z47582 ez47582 => ?_)
          have rz47582 := rg_all z47582
          refine lv_iconst (v := 0) hx hb dX11_room_98 (by decide) ?_
          refine lv_aload_n hx hb dX11_room_99 rfl (lv_at hl 1 rfl) ?_
          refine t_get (C := RX11) (T := TX11) (N := 16) X hT m0 g0 rfl rfl 7 (by decide) qw_25 inlX11 rfl dX11_room_100 (fun v47583 hv47583 ov47583 => ?_)
          obtain rfl : v47583 = .ref b47580 := hv47583.symm.trans hv47579
          refine t_get (C := RX7) (T := TX7) (N := 7) X hT mb47580 gb47580 rfl rfl 0 (by decide) qw_1225 inlX7 rfl dX11_room_103 (fun v47584 hv47584 ov47584 => ?_)
          obtain ⟨z47585, rfl, rz47585⟩ := okV_i ov47584
          refine t_cVv (n := 6) (C := RX7) (T := TX7) (N := 7) (As := [.int p1, .int 0, .int z47581, .int z47582, .int 0, .int z47585]) (rest := []) X hT (kt17_X7_addSkin l G tag L F hT.2.2.2 b47580 p1 0 z47581 z47582 0 z47585 mb47580 gb47580 (by omega)) mb47580 gb47580 rfl rfl qw_1226 qw_419 qw_420 qw_22 qw_421 ⟨rfl, by decide +kernel, by decide +kernel, by decide +kernel⟩ ⟨Nat.le_of_ble_eq_true rfl, Nat.le_of_ble_eq_true rfl⟩ hl rfl rfl (Nat.le_of_ble_eq_true rfl) dX11_room_106 ⟨Nat.le_of_ble_eq_true rfl, Nat.le_of_ble_eq_true rfl⟩ (fun F H locs hT hz47586 => ?_)
          have yz47586 := hz47586
          have hv47579 := (yz47586.1 _ 7 ).trans hv47579
          have hv47584 := (yz47586.1 _ 0 ).trans hv47584
          have hfr : (∀ b j : Nat, (tag b ≠ 19 ∨ j ≠ 0) → (tag b ≠ 19 ∨ j ≠ 1) → (tag b ≠ 26 ∨ j ≠ 13) → fld F b j = fld Fo b j) ∧ EF tag F Fo := ⟨fun b j n19_0 n19_1 n26_13 => (yz47586.1 b j ).trans (hfr.1 b j n19_0 n19_1 n26_13), fun b j hb => (yz47586.2 b j hb).trans (hfr.2 b j hb)⟩
          obtain ⟨z47587, ez47587⟩ : ∃ y : Int32, y = z47573 + 1 := ⟨_, rfl⟩
          have rz47587 := rg_all z47587
          refine lv_iinc (v := z47587) (lv' := [(2, .int z47587), (4, .int z47576), (0, .ref p0), (1, .int p1), (3, .int z47574)]) hx hb dX11_room_109 hl (k := 3) rfl (by rw [ez47587]; rfl) (by decide) rfl (fun ls hl => ?_)
          obtain ⟨z47588, ez47588⟩ : ∃ y : Int32, y = z47574 + 1 := ⟨_, rfl⟩
          have hz47588 : z47588.toInt = z47574.toInt + 1 := ar_add ez47588 rfl (by decide : (1 : Int32).toInt = 1) (by omega) (by omega)
          refine lv_iinc (v := z47588) (lv' := [(3, .int z47588), (2, .int z47587), (4, .int z47576), (0, .ref p0), (1, .int p1)]) hx hb dX11_room_112 hl (k := 4) rfl (by rw [ez47588]; rfl) (by decide) rfl (fun ls hl => ?_)
          refine lv_goto (tgt := 29) hx hb dX11_room_115 (by decide) ?_
          exact ih29 z47587 z47588 _ _ _ _ (by omega) (by omega) (by omega) hT hfr  (lv_sub hl [3, 4, 1, 0] rfl)
        · have w47589 := cv_eq (rfl : z47576.toInt = z47576.toInt) (by decide : ((-2) : Int32).toInt = (-2)) c47577
          refine lv_aload_n hx hb dX11_room_76 rfl (lv_at hl 1 rfl) ?_
          refine lv_iload_n hx hb dX11_room_77 rfl (lv_at hl 3 rfl) ?_
          refine t_cVi (n := 1) (C := RX11) (T := TX11) (N := 16) (As := [.int z47573]) (rest := []) X hT (kt56_X11_answer l G tag L F hT.2.2.2 p0 z47573 m0 g0) m0 g0 rfl rfl qw_463 qw_464 qw_465 qw_2 qw_466 ⟨rfl, by decide +kernel, by decide +kernel, by decide +kernel⟩ ⟨Nat.le_of_ble_eq_true rfl, Nat.le_of_ble_eq_true rfl⟩ hl rfl rfl (Nat.le_of_ble_eq_true rfl) dX11_room_78 ⟨Nat.le_of_ble_eq_true rfl, Nat.le_of_ble_eq_true rfl⟩ (fun z47590 F H locs hT hz47590 => ?_)
          obtain ⟨hz47590, yz47590⟩ := hz47590
          have hfr : (∀ b j : Nat, (tag b ≠ 19 ∨ j ≠ 0) → (tag b ≠ 19 ∨ j ≠ 1) → (tag b ≠ 26 ∨ j ≠ 13) → fld F b j = fld Fo b j) ∧ EF tag F Fo := ⟨fun b j n19_0 n19_1 n26_13 => (yz47590.1 b j n26_13).trans (hfr.1 b j n19_0 n19_1 n26_13), fun b j hb => (yz47590.2 b j hb).trans (hfr.2 b j hb)⟩
          exact t_iret hQ X hT (⟨rg_all _, hfr⟩) (Nat.le_of_ble_eq_true rfl) (Nat.le_of_ble_eq_true rfl) dX11_room_81
      refine lv_iload_n hx hb dX11_room_29 rfl (lv_at hl 3 rfl) ?_
      refine lv_bipush (v := 6) hx hb dX11_room_30 (by decide) ?_
      refine lv_icmp_ge (tgt := 118) hx hb dX11_room_32 (by decide) (fun c47591 => ?_) (fun c47591 => ?_)
      · have w47592 := cv_le (by decide : (6 : Int32).toInt = 6) (rfl : z47574.toInt = z47574.toInt) c47591
        refine lv_aload_n hx hb dX11_room_118 rfl (lv_at hl 0 rfl) ?_
        refine lv_iload_n hx hb dX11_room_119 rfl (lv_at hl 2 rfl) ?_
        refine t_cVi (n := 1) (C := RX11) (T := TX11) (N := 16) (As := [.int z47573]) (rest := []) X hT (kt56_X11_answer l G tag L F hT.2.2.2 p0 z47573 m0 g0) m0 g0 rfl rfl qw_463 qw_464 qw_465 qw_2 qw_466 ⟨rfl, by decide +kernel, by decide +kernel, by decide +kernel⟩ ⟨Nat.le_of_ble_eq_true rfl, Nat.le_of_ble_eq_true rfl⟩ hl rfl rfl (Nat.le_of_ble_eq_true rfl) dX11_room_120 ⟨Nat.le_of_ble_eq_true rfl, Nat.le_of_ble_eq_true rfl⟩ (fun z47593 F H locs hT hz47593 => ?_)
        obtain ⟨hz47593, yz47593⟩ := hz47593
        have hfr : (∀ b j : Nat, (tag b ≠ 19 ∨ j ≠ 0) → (tag b ≠ 19 ∨ j ≠ 1) → (tag b ≠ 26 ∨ j ≠ 13) → fld F b j = fld Fo b j) ∧ EF tag F Fo := ⟨fun b j n19_0 n19_1 n26_13 => (yz47593.1 b j n26_13).trans (hfr.1 b j n19_0 n19_1 n26_13), fun b j hb => (yz47593.2 b j hb).trans (hfr.2 b j hb)⟩
        exact t_iret hQ X hT (⟨rg_all _, hfr⟩) (Nat.le_of_ble_eq_true rfl) (Nat.le_of_ble_eq_true rfl) dX11_room_123
      · have w47594 := cv_nle (by decide : (6 : Int32).toInt = 6) (rfl : z47574.toInt = z47574.toInt) c47591
        refine lv_aload_n hx hb dX11_room_35 rfl (lv_at hl 0 rfl) ?_
        refine t_get (C := RX11) (T := TX11) (N := 16) X hT m0 g0 rfl rfl 3 (by decide) qw_18 inlX11 rfl dX11_room_36 (fun v47595 hv47595 ov47595 => ?_)
        obtain ⟨b47596, rfl, mb47596, gb47596⟩ := okV_r ov47595
        have gb47596 : tag b47596 = 18 := tg_of gb47596
        refine lv_aload_n hx hb dX11_room_39 rfl (lv_at hl 0 rfl) ?_
        refine t_get (C := RX11) (T := TX11) (N := 16) X hT m0 g0 rfl rfl 7 (by decide) qw_25 inlX11 rfl dX11_room_40 (fun v47597 hv47597 ov47597 => ?_)
        obtain ⟨b47598, rfl, mb47598, gb47598⟩ := okV_r ov47597
        have gb47598 : tag b47598 = 19 := tg_of gb47598
        refine lv_iload_n hx hb dX11_room_43 rfl (lv_at hl 1 rfl) ?_
        refine t_cSi (n := 3) (As := [.ref b47596, .ref b47598, .int p1]) (rest := []) X hT (kt31_X6_isFit l G tag L F hT.2.2.2 b47596 b47598 p1 mb47596 gb47596 mb47598 gb47598 (by omega)) qw_904 qw_403 qw_380 qw_404 ⟨by decide +kernel, by decide +kernel, by decide +kernel⟩ ⟨Nat.le_of_ble_eq_true rfl, Nat.le_of_ble_eq_true rfl⟩ hl rfl rfl (Nat.le_of_ble_eq_true rfl) dX11_room_44 ⟨Nat.le_of_ble_eq_true rfl, Nat.le_of_ble_eq_true rfl⟩ (fun z47599 F9 H locs hT hz47599 => ?_)
        obtain ⟨fz47599, hz47599⟩ := hz47599
        rw [fz47599] at hT
        refine lv_if_eq (tgt := 65) hx hb dX11_room_47 (by decide) (fun c47600 => ?_) (fun c47600 => ?_)
        · have w47601 := cv_eq (rfl : z47599.toInt = z47599.toInt) (by decide : (0 : Int32).toInt = 0) c47600
          refine lv_bipush (v := (-2)) hx hb dX11_room_65 (by decide) ?_
          exact K67 (-2) _ _ _ _ (by decide) (by omega) hT hfr  (lv_sub hl [0, 1, 2, 3] rfl)
        · have w47602 := cv_ne (rfl : z47599.toInt = z47599.toInt) (by decide : (0 : Int32).toInt = 0) c47600
          refine lv_aload_n hx hb dX11_room_50 rfl (lv_at hl 0 rfl) ?_
          refine t_get (C := RX11) (T := TX11) (N := 16) X hT m0 g0 rfl rfl 3 (by decide) qw_18 inlX11 rfl dX11_room_51 (fun v47603 hv47603 ov47603 => ?_)
          obtain rfl : v47603 = .ref b47596 := hv47603.symm.trans hv47595
          refine lv_aload_n hx hb dX11_room_54 rfl (lv_at hl 0 rfl) ?_
          refine t_get (C := RX11) (T := TX11) (N := 16) X hT m0 g0 rfl rfl 7 (by decide) qw_25 inlX11 rfl dX11_room_55 (fun v47604 hv47604 ov47604 => ?_)
          obtain rfl : v47604 = .ref b47598 := hv47604.symm.trans hv47597
          refine lv_iload_n hx hb dX11_room_58 rfl (lv_at hl 1 rfl) ?_
          refine t_cSi (n := 3) (As := [.ref b47596, .ref b47598, .int p1]) (rest := []) X hT (kt44_X6_lawDoor l G tag L F hT.2.2.2 b47596 b47598 p1 mb47596 gb47596 mb47598 gb47598 (by omega)) qw_913 qw_914 qw_380 qw_915 ⟨by decide +kernel, by decide +kernel, by decide +kernel⟩ ⟨Nat.le_of_ble_eq_true rfl, Nat.le_of_ble_eq_true rfl⟩ hl rfl rfl (Nat.le_of_ble_eq_true rfl) dX11_room_59 ⟨Nat.le_of_ble_eq_true rfl, Nat.le_of_ble_eq_true rfl⟩ (fun z47605 F9 H locs hT hz47605 => ?_)
          obtain ⟨fz47605, hz47605⟩ := hz47605
          rw [fz47605] at hT
          refine lv_goto (tgt := 67) hx hb dX11_room_62 (by decide) ?_
          exact K67 z47605 _ _ _ _ (by omega) (by omega) hT hfr  (lv_sub hl [0, 1, 2, 3] rfl)
  refine lv_aload_n hx hb dX11_room_0 rfl (lv_at hl 0 rfl) ?_
  refine lv_iload_n hx hb dX11_room_1 rfl (lv_at hl 1 rfl) ?_
  refine t_cVi (n := 1) (C := RX11) (T := TX11) (N := 16) (As := [.int p1]) (rest := []) X hT (kt61_X11_isHouse l G tag L F hT.2.2.2 p0 p1 m0 g0) m0 g0 rfl rfl qw_770 qw_771 qw_772 qw_2 qw_773 ⟨rfl, by decide +kernel, by decide +kernel, by decide +kernel⟩ ⟨Nat.le_of_ble_eq_true rfl, Nat.le_of_ble_eq_true rfl⟩ hl rfl rfl (Nat.le_of_ble_eq_true rfl) dX11_room_2 ⟨Nat.le_of_ble_eq_true rfl, Nat.le_of_ble_eq_true rfl⟩ (fun z47606 F9 H locs hT hz47606 => ?_)
  obtain ⟨fz47606, hz47606⟩ := hz47606
  rw [fz47606] at hT
  obtain ⟨hz47606, iz47606⟩ := hz47606
  refine lv_if_ne (tgt := 14) hx hb dX11_room_5 (by decide) (fun c47607 => ?_) (fun c47607 => ?_)
  · have w47608 := cv_ne (rfl : z47606.toInt = z47606.toInt) (by decide : (0 : Int32).toInt = 0) c47607
    have w47609 := (fun h => (iz47606 h)) (by omega)
    refine lv_aload_n hx hb dX11_room_14 rfl (lv_at hl 0 rfl) ?_
    refine t_get (C := RX11) (T := TX11) (N := 16) X hT m0 g0 rfl rfl 7 (by decide) qw_25 inlX11 rfl dX11_room_15 (fun v47610 hv47610 ov47610 => ?_)
    obtain ⟨b47611, rfl, mb47611, gb47611⟩ := okV_r ov47610
    have gb47611 : tag b47611 = 19 := tg_of gb47611
    refine lv_aload_n hx hb dX11_room_18 rfl (lv_at hl 0 rfl) ?_
    refine t_get (C := RX11) (T := TX11) (N := 16) X hT m0 g0 rfl rfl 5 (by decide) qw_23 inlX11 rfl dX11_room_19 (fun v47612 hv47612 ov47612 => ?_)
    obtain ⟨b47613, rfl, mb47613, gb47613⟩ := okV_r ov47612
    have gb47613 : tag b47613 = 19 := tg_of gb47613
    refine t_cVv (n := 1) (C := RX7) (T := TX7) (N := 7) (As := [.ref b47613]) (rest := []) X hT (kt49_X7_copyFrom l G tag L F hT.2.2.2 b47611 b47613 mb47611 gb47611 mb47613 gb47613) mb47611 gb47611 rfl rfl qw_449 qw_450 qw_451 qw_22 qw_452 ⟨rfl, by decide +kernel, by decide +kernel, by decide +kernel⟩ ⟨Nat.le_of_ble_eq_true rfl, Nat.le_of_ble_eq_true rfl⟩ hl rfl rfl (Nat.le_of_ble_eq_true rfl) dX11_room_22 ⟨Nat.le_of_ble_eq_true rfl, Nat.le_of_ble_eq_true rfl⟩ (fun F H locs hT hz47614 => ?_)
    have yz47614 := hz47614
    have hv47610 := (yz47614.1 _ 7 (Or.inr (by decide)) (Or.inr (by decide))).trans hv47610
    have hv47612 := (yz47614.1 _ 5 (Or.inr (by decide)) (Or.inr (by decide))).trans hv47612
    have hfr : (∀ b j : Nat, (tag b ≠ 19 ∨ j ≠ 0) → (tag b ≠ 19 ∨ j ≠ 1) → (tag b ≠ 26 ∨ j ≠ 13) → fld F b j = fld Fo b j) ∧ EF tag F Fo := ⟨fun b j n19_0 n19_1 n26_13 => (yz47614.1 b j n19_0 n19_1).trans (hfr.1 b j n19_0 n19_1 n26_13), fun b j hb => (yz47614.2 b j hb).trans (hfr.2 b j hb)⟩
    refine lv_iconst (v := 0) hx hb dX11_room_25 (by decide) ?_
    refine lv_istore_n (lv' := [(2, .int 0), (0, .ref p0), (1, .int p1)]) hx hb dX11_room_26 rfl hl (by decide) rfl (fun ls hl => ?_)
    refine lv_iconst (v := 0) hx hb dX11_room_27 (by decide) ?_
    refine lv_istore_n (lv' := [(3, .int 0), (2, .int 0), (0, .ref p0), (1, .int p1)]) hx hb dX11_room_28 rfl hl (by decide) rfl (fun ls hl => ?_)
    have kk47615 : (0 : Int32).toInt = 0 := by decide
    have kk47616 : (0 : Int32).toInt = 0 := by decide
    exact K29 7 0 0 _ _ _ _ (by omega) (by decide) (by omega) hT hfr  (lv_sub hl [2, 3, 1, 0] rfl)
  · have w47617 := cv_eq (rfl : z47606.toInt = z47606.toInt) (by decide : (0 : Int32).toInt = 0) c47607
    refine lv_aload_n hx hb dX11_room_8 rfl (lv_at hl 0 rfl) ?_
    refine lv_iconst (v := 1) hx hb dX11_room_9 (by decide) ?_
    refine t_cVi (n := 1) (C := RX11) (T := TX11) (N := 16) (As := [.int 1]) (rest := []) X hT (kt63_X11_refuse l G tag L F hT.2.2.2 p0 1 m0 g0) m0 g0 rfl rfl qw_152 qw_153 qw_154 qw_2 qw_155 ⟨rfl, by decide +kernel, by decide +kernel, by decide +kernel⟩ ⟨Nat.le_of_ble_eq_true rfl, Nat.le_of_ble_eq_true rfl⟩ hl rfl rfl (Nat.le_of_ble_eq_true rfl) dX11_room_10 ⟨Nat.le_of_ble_eq_true rfl, Nat.le_of_ble_eq_true rfl⟩ (fun z47618 F H locs hT hz47618 => ?_)
    obtain ⟨hz47618, yz47618⟩ := hz47618
    have hfr : (∀ b j : Nat, (tag b ≠ 19 ∨ j ≠ 0) → (tag b ≠ 19 ∨ j ≠ 1) → (tag b ≠ 26 ∨ j ≠ 13) → fld F b j = fld Fo b j) ∧ EF tag F Fo := ⟨fun b j n19_0 n19_1 n26_13 => (yz47618.1 b j n26_13).trans (hfr.1 b j n19_0 n19_1 n26_13), fun b j hb => (yz47618.2 b j hb).trans (hfr.2 b j hb)⟩
    exact t_iret hQ X hT (⟨rg_all _, hfr⟩) (Nat.le_of_ble_eq_true rfl) (Nat.le_of_ble_eq_true rfl) dX11_room_13
set_option maxHeartbeats 4000000 in
set_option maxRecDepth 100000 in
theorem kt130_X11_round (l : Launch) (G : KG) (tag : Nat → Nat) (L : List Nat) (Fo : Nat → va_E) (ho : okT G ttC tag L Fo) (p0 : Nat) (p1 : Int32) (p2 : Int32) (m0 : p0 ∈ L) (g0 : tag p0 = 26) : TMi l yX11_round cX11_round 3 (some .int) { frames := 3, cells := 0, slots := 0, locals := 68 } G ttC tag L Fo [.ref p0, .int p1, .int p2] (fun r F1 => ((-2147483648) ≤ r.toInt ∧ r.toInt ≤ 2147483647) ∧ ((∀ b j : Nat, (tag b ≠ 26 ∨ j ≠ 13) → fld F1 b j = fld Fo b j) ∧ EF tag F1 Fo)) := by
  refine t_bodyi (y := yX11_round) (cd := cX11_round) (mL := 3) (rt := (some .int)) (rm := { frames := 3, cells := 0, slots := 0, locals := 68 }) (av := [.ref p0, .int p1, .int p2]) (by decide) (Nat.le_of_ble_eq_true rfl) ho ?_
  intro p e s m args below meth c ls A Q hQ X hT hl
  have hx := X.1.1
  have hb := X.1.2.1
  have hl : lv_has ls 3 [(0, .ref p0), (1, .int p1), (2, .int p2)] := hl
  have rp1 := rg_all p1
  have rp2 := rg_all p2
  obtain ⟨F, hFo⟩ : ∃ F : Nat → va_E, F = Fo := ⟨_, rfl⟩
  rw [← hFo] at hT
  have hfr : (∀ b j : Nat, (tag b ≠ 26 ∨ j ≠ 13) → fld F b j = fld Fo b j) ∧ EF tag F Fo := by
    rw [hFo]
    exact ⟨by intros; rfl, fun _ _ _ => rfl⟩
  have K14 : ∀  (F : Nat → va_E) (H : Heap) (locs : List Loc) (ls : Array Slot), TH G ttC A s tag L F H locs → ((∀ b j : Nat, (tag b ≠ 26 ∨ j ≠ 13) → fld F b j = fld Fo b j) ∧ EF tag F Fo) → lv_has ls 3 [(0, .ref p0), (1, .int p1), (2, .int p2)] → W p l e { frames := 3, cells := 0, slots := 0, locals := 68 } s m args below meth c H locs 0 0 Q (F0 m 14 ls []) := by
    intro F H locs ls hT hfr hl
    refine lv_aload_n hx hb dX11_round_14 rfl (lv_at hl 0 rfl) ?_
    refine lv_iconst (v := 1) hx hb dX11_round_15 (by decide) ?_
    refine t_cVi (n := 1) (C := RX11) (T := TX11) (N := 16) (As := [.int 1]) (rest := []) X hT (kt63_X11_refuse l G tag L F hT.2.2.2 p0 1 m0 g0) m0 g0 rfl rfl qw_152 qw_153 qw_154 qw_2 qw_155 ⟨rfl, by decide +kernel, by decide +kernel, by decide +kernel⟩ ⟨Nat.le_of_ble_eq_true rfl, Nat.le_of_ble_eq_true rfl⟩ hl rfl rfl (Nat.le_of_ble_eq_true rfl) dX11_round_16 ⟨Nat.le_of_ble_eq_true rfl, Nat.le_of_ble_eq_true rfl⟩ (fun z47784 F H locs hT hz47784 => ?_)
    obtain ⟨hz47784, yz47784⟩ := hz47784
    have hfr : (∀ b j : Nat, (tag b ≠ 26 ∨ j ≠ 13) → fld F b j = fld Fo b j) ∧ EF tag F Fo := ⟨fun b j n26_13 => (yz47784.1 b j n26_13).trans (hfr.1 b j n26_13), fun b j hb => (yz47784.2 b j hb).trans (hfr.2 b j hb)⟩
    exact t_iret hQ X hT (⟨rg_all _, hfr⟩) (Nat.le_of_ble_eq_true rfl) (Nat.le_of_ble_eq_true rfl) dX11_round_19
  refine lv_aload_n hx hb dX11_round_0 rfl (lv_at hl 0 rfl) ?_
  refine lv_iload_n hx hb dX11_round_1 rfl (lv_at hl 1 rfl) ?_
  refine lv_iload_n hx hb dX11_round_2 rfl (lv_at hl 2 rfl) ?_
  refine t_cVi (n := 2) (C := RX11) (T := TX11) (N := 16) (As := [.int p1, .int p2]) (rest := []) X hT (kt70_X11_isSkin l G tag L F hT.2.2.2 p0 p1 p2 m0 g0) m0 g0 rfl rfl qw_823 qw_824 qw_825 qw_2 qw_826 ⟨rfl, by decide +kernel, by decide +kernel, by decide +kernel⟩ ⟨Nat.le_of_ble_eq_true rfl, Nat.le_of_ble_eq_true rfl⟩ hl rfl rfl (Nat.le_of_ble_eq_true rfl) dX11_round_3 ⟨Nat.le_of_ble_eq_true rfl, Nat.le_of_ble_eq_true rfl⟩ (fun z47785 F9 H locs hT hz47785 => ?_)
  obtain ⟨fz47785, hz47785⟩ := hz47785
  rw [fz47785] at hT
  obtain ⟨hz47785, iz47785⟩ := hz47785
  refine lv_if_eq (tgt := 14) hx hb dX11_round_6 (by decide) (fun c47786 => ?_) (fun c47786 => ?_)
  · have w47787 := cv_eq (rfl : z47785.toInt = z47785.toInt) (by decide : (0 : Int32).toInt = 0) c47786
    exact K14  _ _ _ _  hT hfr  (lv_sub hl [0, 1, 2] rfl)
  · have w47788 := cv_ne (rfl : z47785.toInt = z47785.toInt) (by decide : (0 : Int32).toInt = 0) c47786
    have w47789 := (fun h => (iz47785 h).1) (by omega)
    have w47790 := (fun h => (iz47785 h).2) (by omega)
    refine lv_iload_n hx hb dX11_round_9 rfl (lv_at hl 2 rfl) ?_
    refine lv_iconst (v := 2) hx hb dX11_round_10 (by decide) ?_
    refine lv_icmp_ge (tgt := 20) hx hb dX11_round_11 (by decide) (fun c47791 => ?_) (fun c47791 => ?_)
    · have w47792 := cv_le (by decide : (2 : Int32).toInt = 2) (rfl : p2.toInt = p2.toInt) c47791
      refine lv_aload_n hx hb dX11_round_20 rfl (lv_at hl 0 rfl) ?_
      refine lv_aload_n hx hb dX11_round_21 rfl (lv_at hl 0 rfl) ?_
      refine t_get (C := RX11) (T := TX11) (N := 16) X hT m0 g0 rfl rfl 5 (by decide) qw_23 inlX11 rfl dX11_round_22 (fun v47793 hv47793 ov47793 => ?_)
      obtain ⟨b47794, rfl, mb47794, gb47794⟩ := okV_r ov47793
      have gb47794 : tag b47794 = 19 := tg_of gb47794
      refine lv_iload_n hx hb dX11_round_25 rfl (lv_at hl 1 rfl) ?_
      refine lv_iload_n hx hb dX11_round_26 rfl (lv_at hl 2 rfl) ?_
      refine t_cVi (n := 2) (C := RX7) (T := TX7) (N := 7) (As := [.int p1, .int p2]) (rest := [.ref p0]) X hT (kt25_X7_roundIn l G tag L F hT.2.2.2 b47794 p1 p2 mb47794 gb47794) mb47794 gb47794 rfl rfl qw_1083 qw_989 qw_990 qw_22 qw_991 ⟨rfl, by decide +kernel, by decide +kernel, by decide +kernel⟩ ⟨Nat.le_of_ble_eq_true rfl, Nat.le_of_ble_eq_true rfl⟩ hl rfl rfl (Nat.le_of_ble_eq_true rfl) dX11_round_27 ⟨Nat.le_of_ble_eq_true rfl, Nat.le_of_ble_eq_true rfl⟩ (fun z47795 F9 H locs hT hz47795 => ?_)
      obtain ⟨fz47795, hz47795⟩ := hz47795
      rw [fz47795] at hT
      refine t_cVi (n := 1) (C := RX11) (T := TX11) (N := 16) (As := [.int z47795]) (rest := []) X hT (kt56_X11_answer l G tag L F hT.2.2.2 p0 z47795 m0 g0) m0 g0 rfl rfl qw_463 qw_464 qw_465 qw_2 qw_466 ⟨rfl, by decide +kernel, by decide +kernel, by decide +kernel⟩ ⟨Nat.le_of_ble_eq_true rfl, Nat.le_of_ble_eq_true rfl⟩ hl rfl rfl (Nat.le_of_ble_eq_true rfl) dX11_round_30 ⟨Nat.le_of_ble_eq_true rfl, Nat.le_of_ble_eq_true rfl⟩ (fun z47796 F H locs hT hz47796 => ?_)
      obtain ⟨hz47796, yz47796⟩ := hz47796
      have hv47793 := (yz47796.1 _ 5 (Or.inr (by decide))).trans hv47793
      have hfr : (∀ b j : Nat, (tag b ≠ 26 ∨ j ≠ 13) → fld F b j = fld Fo b j) ∧ EF tag F Fo := ⟨fun b j n26_13 => (yz47796.1 b j n26_13).trans (hfr.1 b j n26_13), fun b j hb => (yz47796.2 b j hb).trans (hfr.2 b j hb)⟩
      exact t_iret hQ X hT (⟨rg_all _, hfr⟩) (Nat.le_of_ble_eq_true rfl) (Nat.le_of_ble_eq_true rfl) dX11_round_33
    · have w47797 := cv_nle (by decide : (2 : Int32).toInt = 2) (rfl : p2.toInt = p2.toInt) c47791
      exact K14  _ _ _ _  hT hfr  (lv_sub hl [0, 1, 2] rfl)
set_option maxHeartbeats 4000000 in
set_option maxRecDepth 100000 in
theorem kt131_X11_seed (l : Launch) (G : KG) (tag : Nat → Nat) (L : List Nat) (Fo : Nat → va_E) (ho : okT G ttC tag L Fo) (p0 : Nat) (p1 : Int32) (m0 : p0 ∈ L) (g0 : tag p0 = 26) : TMi l yX11_seed cX11_seed 2 (some .boolean) { frames := 1, cells := 0, slots := 0, locals := 21 } G ttC tag L Fo [.ref p0, .int p1] (fun r F1 => (0 ≤ r.toInt ∧ r.toInt ≤ 1) ∧ ((∀ b j : Nat, (tag b ≠ 19 ∨ j ≠ 1) → (tag b ≠ 26 ∨ j ≠ 13) → fld F1 b j = fld Fo b j) ∧ EF tag F1 Fo)) := by
  refine t_bodyi (y := yX11_seed) (cd := cX11_seed) (mL := 2) (rt := (some .boolean)) (rm := { frames := 1, cells := 0, slots := 0, locals := 21 }) (av := [.ref p0, .int p1]) (by decide) (Nat.le_of_ble_eq_true rfl) ho ?_
  intro p e s m args below meth c ls A Q hQ X hT hl
  have hx := X.1.1
  have hb := X.1.2.1
  have hl : lv_has ls 2 [(0, .ref p0), (1, .int p1)] := hl
  have rp1 := rg_all p1
  obtain ⟨F, hFo⟩ : ∃ F : Nat → va_E, F = Fo := ⟨_, rfl⟩
  rw [← hFo] at hT
  have hfr : (∀ b j : Nat, (tag b ≠ 19 ∨ j ≠ 1) → (tag b ≠ 26 ∨ j ≠ 13) → fld F b j = fld Fo b j) ∧ EF tag F Fo := by
    rw [hFo]
    exact ⟨by intros; rfl, fun _ _ _ => rfl⟩
  have K24 : ∀ (z47996 : Int32) (F : Nat → va_E) (H : Heap) (locs : List Loc) (ls : Array Slot), (1 ≤ z47996.toInt ∧ z47996.toInt ≤ 1) → TH G ttC A s tag L F H locs → ((∀ b j : Nat, (tag b ≠ 19 ∨ j ≠ 1) → (tag b ≠ 26 ∨ j ≠ 13) → fld F b j = fld Fo b j) ∧ EF tag F Fo) → fld F p0 2 = .int z47996 → lv_has ls 2 [(0, .ref p0), (1, .int p1)] → W p l e { frames := 1, cells := 0, slots := 0, locals := 21 } s m args below meth c H locs 0 0 Q (F0 m 24 ls []) := by
    intro z47996 F H locs ls rz47996 hT hfr qz47996 hl
    refine lv_aload_n hx hb dX11_seed_24 rfl (lv_at hl 0 rfl) ?_
    refine lv_iconst (v := 2) hx hb dX11_seed_25 (by decide) ?_
    refine t_cVi (n := 1) (C := RX11) (T := TX11) (N := 16) (As := [.int 2]) (rest := []) X hT (kt58_X11_no l G tag L F hT.2.2.2 p0 2 m0 g0) m0 g0 rfl rfl qw_1454 qw_1455 qw_1456 qw_2 qw_1457 ⟨rfl, by decide +kernel, by decide +kernel, by decide +kernel⟩ ⟨Nat.le_of_ble_eq_true rfl, Nat.le_of_ble_eq_true rfl⟩ hl rfl rfl (Nat.le_of_ble_eq_true rfl) dX11_seed_26 ⟨Nat.le_of_ble_eq_true rfl, Nat.le_of_ble_eq_true rfl⟩ (fun z47997 F H locs hT hz47997 => ?_)
    obtain ⟨hz47997, yz47997⟩ := hz47997
    have qz47996 := (yz47997.1 _ 2 (Or.inr (by decide))).trans qz47996
    have hfr : (∀ b j : Nat, (tag b ≠ 19 ∨ j ≠ 1) → (tag b ≠ 26 ∨ j ≠ 13) → fld F b j = fld Fo b j) ∧ EF tag F Fo := ⟨fun b j n19_1 n26_13 => (yz47997.1 b j n26_13).trans (hfr.1 b j n19_1 n26_13), fun b j hb => (yz47997.2 b j hb).trans (hfr.2 b j hb)⟩
    exact t_zret hQ X hT (nar_z (by omega)) (⟨(by omega), hfr⟩) (Nat.le_of_ble_eq_true rfl) (Nat.le_of_ble_eq_true rfl) dX11_seed_29
  refine lv_aload_n hx hb dX11_seed_0 rfl (lv_at hl 0 rfl) ?_
  refine t_get (C := RX11) (T := TX11) (N := 16) X hT m0 g0 rfl rfl 2 (by decide) qw_150 inlX11 rfl dX11_seed_1 (fun v47998 hv47998 ov47998 => ?_)
  obtain ⟨z47999, rfl, rz47999⟩ := okV_i ov47998
  refine lv_if_ne (tgt := 13) hx hb dX11_seed_4 (by decide) (fun c48000 => ?_) (fun c48000 => ?_)
  · have w48001 := cv_ne (rfl : z47999.toInt = z47999.toInt) (by decide : (0 : Int32).toInt = 0) c48000
    refine lv_iload_n hx hb dX11_seed_13 rfl (lv_at hl 1 rfl) ?_
    refine lv_if_lt (tgt := 24) hx hb dX11_seed_14 (by decide) (fun c48002 => ?_) (fun c48002 => ?_)
    · have w48003 := cv_lt (rfl : p1.toInt = p1.toInt) (by decide : (0 : Int32).toInt = 0) c48002
      exact K24 z47999 _ _ _ _ (by omega) hT hfr hv47998 (lv_sub hl [0, 1] rfl)
    · have w48004 := cv_nlt (rfl : p1.toInt = p1.toInt) (by decide : (0 : Int32).toInt = 0) c48002
      refine lv_iload_n hx hb dX11_seed_17 rfl (lv_at hl 1 rfl) ?_
      refine m_ldcw X qw_1281 dX11_seed_18 ?_
      refine lv_icmp_lt (tgt := 30) hx hb dX11_seed_21 (by decide) (fun c48005 => ?_) (fun c48005 => ?_)
      · have w48006 := cv_lt (rfl : p1.toInt = p1.toInt) (by decide : (65537 : Int32).toInt = 65537) c48005
        refine lv_aload_n hx hb dX11_seed_30 rfl (lv_at hl 0 rfl) ?_
        refine t_get (C := RX11) (T := TX11) (N := 16) X hT m0 g0 rfl rfl 5 (by decide) qw_23 inlX11 rfl dX11_seed_31 (fun v48007 hv48007 ov48007 => ?_)
        obtain ⟨b48008, rfl, mb48008, gb48008⟩ := okV_r ov48007
        have gb48008 : tag b48008 = 19 := tg_of gb48008
        refine lv_iload_n hx hb dX11_seed_34 rfl (lv_at hl 1 rfl) ?_
        refine t_put (C := RX7) (T := TX7) (N := 7) (v := .int p1) X hT mb48008 gb48008 rfl tyX7 tyX7_ok nmX7 rfl 1 (by decide) qw_1282 inlX7 rfl (by first | rfl | decide) (by first | rfl | decide) rfl (⟨_, rfl, (show (-2147483648) ≤ (p1 : Int32).toInt from (by omega)), (show (p1 : Int32).toInt ≤ 2147483647 from (by omega))⟩) dX11_seed_35 (fun F H locs hT v48009 h1v48009 h2v48009 => ?_)
        have hv47998 := (h1v48009 _ _ (Or.inr (by decide))).trans hv47998
        have hv48007 := (h1v48009 _ _ (Or.inr (by decide))).trans hv48007
        have hfr : (∀ b j : Nat, (tag b ≠ 19 ∨ j ≠ 1) → (tag b ≠ 26 ∨ j ≠ 13) → fld F b j = fld Fo b j) ∧ EF tag F Fo := ⟨fun b j n19_1 n26_13 => (h1v48009 b j (fr_ne gb48008 n19_1)).trans (hfr.1 b j n19_1 n26_13), fun b j hb => (h2v48009 b j).trans (hfr.2 b j hb)⟩
        refine lv_aload_n hx hb dX11_seed_38 rfl (lv_at hl 0 rfl) ?_
        refine t_cVi (n := 0) (C := RX11) (T := TX11) (N := 16) (As := []) (rest := []) X hT (kt59_X11_yes l G tag L F hT.2.2.2 p0 m0 g0) m0 g0 rfl rfl qw_1460 qw_1461 qw_1462 qw_2 qw_1463 ⟨rfl, by decide +kernel, by decide +kernel, by decide +kernel⟩ ⟨Nat.le_of_ble_eq_true rfl, Nat.le_of_ble_eq_true rfl⟩ hl rfl rfl (Nat.le_of_ble_eq_true rfl) dX11_seed_39 ⟨Nat.le_of_ble_eq_true rfl, Nat.le_of_ble_eq_true rfl⟩ (fun z48010 F H locs hT hz48010 => ?_)
        obtain ⟨hz48010, yz48010⟩ := hz48010
        have hv47998 := (yz48010.1 _ 2 (Or.inr (by decide))).trans hv47998
        have hv48007 := (yz48010.1 _ 5 (Or.inr (by decide))).trans hv48007
        have v48009 := (yz48010.1 _ 1 (Or.inr (by decide))).trans v48009
        have hfr : (∀ b j : Nat, (tag b ≠ 19 ∨ j ≠ 1) → (tag b ≠ 26 ∨ j ≠ 13) → fld F b j = fld Fo b j) ∧ EF tag F Fo := ⟨fun b j n19_1 n26_13 => (yz48010.1 b j n26_13).trans (hfr.1 b j n19_1 n26_13), fun b j hb => (yz48010.2 b j hb).trans (hfr.2 b j hb)⟩
        exact t_zret hQ X hT (nar_z (by omega)) (⟨(by omega), hfr⟩) (Nat.le_of_ble_eq_true rfl) (Nat.le_of_ble_eq_true rfl) dX11_seed_42
      · have w48011 := cv_nlt (rfl : p1.toInt = p1.toInt) (by decide : (65537 : Int32).toInt = 65537) c48005
        exact K24 z47999 _ _ _ _ (by omega) hT hfr hv47998 (lv_sub hl [0, 1] rfl)
  · have w48012 := cv_eq (rfl : z47999.toInt = z47999.toInt) (by decide : (0 : Int32).toInt = 0) c48000
    refine lv_aload_n hx hb dX11_seed_7 rfl (lv_at hl 0 rfl) ?_
    refine lv_iconst (v := 1) hx hb dX11_seed_8 (by decide) ?_
    refine t_cVi (n := 1) (C := RX11) (T := TX11) (N := 16) (As := [.int 1]) (rest := []) X hT (kt58_X11_no l G tag L F hT.2.2.2 p0 1 m0 g0) m0 g0 rfl rfl qw_1454 qw_1455 qw_1456 qw_2 qw_1457 ⟨rfl, by decide +kernel, by decide +kernel, by decide +kernel⟩ ⟨Nat.le_of_ble_eq_true rfl, Nat.le_of_ble_eq_true rfl⟩ hl rfl rfl (Nat.le_of_ble_eq_true rfl) dX11_seed_9 ⟨Nat.le_of_ble_eq_true rfl, Nat.le_of_ble_eq_true rfl⟩ (fun z48013 F H locs hT hz48013 => ?_)
    obtain ⟨hz48013, yz48013⟩ := hz48013
    have hv47998 := (yz48013.1 _ 2 (Or.inr (by decide))).trans hv47998
    have hfr : (∀ b j : Nat, (tag b ≠ 19 ∨ j ≠ 1) → (tag b ≠ 26 ∨ j ≠ 13) → fld F b j = fld Fo b j) ∧ EF tag F Fo := ⟨fun b j n19_1 n26_13 => (yz48013.1 b j n26_13).trans (hfr.1 b j n19_1 n26_13), fun b j hb => (yz48013.2 b j hb).trans (hfr.2 b j hb)⟩
    exact t_zret hQ X hT (nar_z (by omega)) (⟨(by omega), hfr⟩) (Nat.le_of_ble_eq_true rfl) (Nat.le_of_ble_eq_true rfl) dX11_seed_12
