set_option maxHeartbeats 4000000 in
set_option maxRecDepth 100000 in
theorem kt163_X11_no (l : Launch) (G : KG) (tag : Nat → Nat) (L : List Nat) (Fo : Nat → va_E) (ho : okT G ttC tag L Fo) (p0 : Nat) (p1 : Int32) (m0 : p0 ∈ L) (g0 : tag p0 = 26) : TMi l yX11_no cX11_no 2 (some .boolean) { frames := 0, cells := 0, slots := 0, locals := 0 } G ttC tag L Fo [.ref p0, .int p1] (fun r F1 => (0 ≤ r.toInt ∧ r.toInt ≤ 0) ∧ (∀ b j : Nat, (tag b ≠ 26 ∨ j ≠ 13) → fld F1 b j = fld Fo b j)) := by
  refine t_bodyi (y := yX11_no) (cd := cX11_no) (mL := 2) (rt := (some .boolean)) (rm := { frames := 0, cells := 0, slots := 0, locals := 0 }) (av := [.ref p0, .int p1]) (by decide) (Nat.le_of_ble_eq_true rfl) ho ?_
  intro p e s m args below meth c ls A Q hQ X hT hl
  have hx := X.1.1
  have hb := X.1.2.1
  have hl : lv_has ls 2 [(0, .ref p0), (1, .int p1)] := hl
  have rp1 := rg_all p1
  obtain ⟨F, hFo⟩ : ∃ F : Nat → va_E, F = Fo := ⟨_, rfl⟩
  rw [← hFo] at hT
  have hfr : ∀ b j : Nat, (tag b ≠ 26 ∨ j ≠ 13) → fld F b j = fld Fo b j := by
    rw [hFo]
    intros
    rfl
  refine lv_aload_n hx hb dX11_no_0 rfl (lv_at hl 0 rfl) ?_
  refine lv_iload_n hx hb dX11_no_1 rfl (lv_at hl 1 rfl) ?_
  refine t_put (C := RX11) (T := TX11) (N := 16) (v := .int p1) X hT m0 g0 rfl tyX11 tyX11_ok nmX11 rfl 13 (by decide) qw_156 inlX11 rfl (by first | rfl | decide) (by first | rfl | decide) rfl (⟨_, rfl, (by omega), (by omega)⟩) dX11_no_2 (fun F H locs hT v58672 h1v58672 h2v58672 => ?_)
  have hfr : ∀ b j : Nat, (tag b ≠ 26 ∨ j ≠ 13) → fld F b j = fld Fo b j := fun b j n26_13 => (h1v58672 b j (fr_ne g0 n26_13)).trans (hfr b j n26_13)
  refine lv_iconst (v := 0) hx hb dX11_no_5 (by decide) ?_
  exact t_zret hQ X hT (by decide) (⟨(by decide), hfr⟩) (Nat.le_of_ble_eq_true rfl) (Nat.le_of_ble_eq_true rfl) dX11_no_6
set_option maxHeartbeats 4000000 in
set_option maxRecDepth 100000 in
theorem kt164_X9_wallAt (l : Launch) (G : KG) (tag : Nat → Nat) (L : List Nat) (Fo : Nat → va_E) (ho : okT G ttC tag L Fo) (p0 : Nat) (p1 : Nat) (p2 : Int32) (p3 : Int32) (p4 : Int32) (m0 : p0 ∈ L) (g0 : tag p0 = 22) (m1 : p1 ∈ L) (g1 : tag p1 = 18) (h4 : 0 ≤ p4.toInt ∧ p4.toInt ≤ 5) : TMi l yX9_wallAt cX9_wallAt 7 (some .int) { frames := 3, cells := 0, slots := 0, locals := 63 } G ttC tag L Fo [.ref p0, .ref p1, .int p2, .int p3, .int p4] (fun r F1 => ((-2) ≤ r.toInt ∧ r.toInt ≤ 5) ∧ (∀ b j : Nat, fld F1 b j = fld Fo b j)) := by
  refine t_bodyi (y := yX9_wallAt) (cd := cX9_wallAt) (mL := 7) (rt := (some .int)) (rm := { frames := 3, cells := 0, slots := 0, locals := 63 }) (av := [.ref p0, .ref p1, .int p2, .int p3, .int p4]) (by decide) (Nat.le_of_ble_eq_true rfl) ho ?_
  intro p e s m args below meth c ls A Q hQ X hT hl
  have hx := X.1.1
  have hb := X.1.2.1
  have hl : lv_has ls 7 [(0, .ref p0), (1, .ref p1), (2, .int p2), (3, .int p3), (4, .int p4)] := hl
  have rp2 := rg_all p2
  have rp3 := rg_all p3
  obtain ⟨F, hFo⟩ : ∃ F : Nat → va_E, F = Fo := ⟨_, rfl⟩
  rw [← hFo] at hT
  have hfr : ∀ b j : Nat, fld F b j = fld Fo b j := by
    rw [hFo]
    intros
    rfl
  have K17 : ∀ (n : Nat) (z59740 : Int32) (z59741 : Int32) (z59742 : Int32) (F : Nat → va_E) (H : Heap) (locs : List Loc) (ls : Array Slot), (720 - z59741.toInt < (n : Int)) → (0 ≤ z59741.toInt ∧ z59741.toInt ≤ 720) → (0 ≤ z59742.toInt ∧ z59742.toInt ≤ 6) → TH G ttC A s tag L F H locs → (∀ b j : Nat, fld F b j = fld Fo b j) → fld F p1 16 = .int z59742 → lv_has ls 7 [(0, .ref p0), (1, .ref p1), (2, .int p2), (3, .int p3), (4, .int p4), (5, .int z59740), (6, .int z59741)] → W p l e { frames := 3, cells := 0, slots := 0, locals := 63 } s m args below meth c H locs 0 0 Q (F0 m 17 ls []) := by
    intro n
    induction n with
    | zero =>
      intro z59740 z59741 z59742 F H locs ls hn rz59741 rz59742 hT hfr qz59742 hl
      have rz59740 := rg_all z59740
      exfalso
      omega
    | succ n ih17 =>
      intro z59740 z59741 z59742 F H locs ls hn rz59741 rz59742 hT hfr qz59742 hl
      have rz59740 := rg_all z59740
      have K56 : ∀ (z59743 : Int32) (z59745 : Int32) (F : Nat → va_E) (H : Heap) (locs : List Loc) (ls : Array Slot), (0 ≤ z59745.toInt ∧ z59745.toInt ≤ 6) → (0 ≤ z59741.toInt ∧ z59741.toInt ≤ 719) → TH G ttC A s tag L F H locs → (∀ b j : Nat, fld F b j = fld Fo b j) → fld F p1 16 = .int z59745 → lv_has ls 7 [(0, .ref p0), (1, .ref p1), (2, .int p2), (3, .int p3), (4, .int p4), (5, .int z59743), (6, .int z59741)] → W p l e { frames := 3, cells := 0, slots := 0, locals := 63 } s m args below meth c H locs 0 0 Q (F0 m 56 ls []) := by
        intro z59743 z59745 F H locs ls rz59745 r9s59744 hT hfr qz59745 hl
        have rz59743 := rg_all z59743
        refine lv_aload_n hx hb dX9_wallAt_56 rfl (lv_at hl 0 rfl) ?_
        refine t_get (C := RX9) (T := TX9) (N := 6) X hT m0 g0 rfl rfl 0 (by decide) qw_93 inlX9 rfl dX9_wallAt_57 (fun v59746 hv59746 ov59746 => ?_)
        obtain ⟨b59747, rfl, mb59747, gb59747⟩ := okV_r ov59746
        have gb59747 : tag b59747 = 11 := tg_of gb59747
        refine lv_aload_n hx hb dX9_wallAt_60 rfl (lv_at hl 1 rfl) ?_
        refine t_get (C := RX1) (T := TX1) (N := 20) X hT m1 g1 rfl rfl 16 (by decide) qw_1338 inlX1 rfl dX9_wallAt_61 (fun v59748 hv59748 ov59748 => ?_)
        obtain rfl : v59748 = .int z59745 := hv59748.symm.trans qz59745
        refine t_cSv (n := 2) (As := [.ref b59747, .int z59745]) (rest := []) X hT (kt153_X5_advance l G tag L F hT.2.2.2 b59747 z59745 mb59747 gb59747 (by omega)) qw_1356 qw_1248 qw_1242 qw_1249 ⟨by decide +kernel, by decide +kernel, by decide +kernel⟩ ⟨Nat.le_of_ble_eq_true rfl, Nat.le_of_ble_eq_true rfl⟩ hl rfl rfl (Nat.le_of_ble_eq_true rfl) dX9_wallAt_64 ⟨Nat.le_of_ble_eq_true rfl, Nat.le_of_ble_eq_true rfl⟩ (fun F H locs hT hz59749 => ?_)
        have yz59749 := hz59749
        have qz59745 := (yz59749 _ 16 ).trans qz59745
        have hv59746 := (yz59749 _ 0 ).trans hv59746
        have hfr : ∀ b j : Nat, fld F b j = fld Fo b j := fun b j  => (yz59749 b j ).trans (hfr b j )
        obtain ⟨z59750, ez59750⟩ : ∃ y : Int32, y = z59741 + 1 := ⟨_, rfl⟩
        have hz59750 : z59750.toInt = z59741.toInt + 1 := ar_add ez59750 rfl (by decide : (1 : Int32).toInt = 1) (by omega) (by omega)
        refine lv_iinc (v := z59750) (lv' := [(6, .int z59750), (0, .ref p0), (1, .ref p1), (2, .int p2), (3, .int p3), (4, .int p4), (5, .int z59743)]) hx hb dX9_wallAt_67 hl (k := 6) rfl (by rw [ez59750]; rfl) (by decide) rfl (fun ls hl => ?_)
        refine lv_goto (tgt := 17) hx hb dX9_wallAt_70 (by decide) ?_
        exact ih17 z59743 z59750 z59745 _ _ _ _ (by omega) (by omega) (by omega) hT hfr qz59745 (lv_sub hl [1, 2, 3, 4, 5, 6, 0] rfl)
      refine lv_iload hx hb dX9_wallAt_17 (lv_at hl 6 rfl) ?_
      refine t_getsN X hT X.2.2.2.1.2.2.2.1 (List.mem_of_getElem? (i := 3) rfl) dX9_wallAt_19 ?_
      refine lv_aload_n hx hb dX9_wallAt_22 rfl (lv_at hl 1 rfl) ?_
      refine t_get (C := RX1) (T := TX1) (N := 20) X hT m1 g1 rfl rfl 16 (by decide) qw_1338 inlX1 rfl dX9_wallAt_23 (fun v59751 hv59751 ov59751 => ?_)
      obtain rfl : v59751 = .int z59742 := hv59751.symm.trans qz59742
      refine t_tild X hT X.2.2.2.1.2.2.2.1 (by omega) dX9_wallAt_26 (fun z59752 ez59752 => ?_)
      have rz59752 : 1 ≤ z59752.toInt ∧ z59752.toInt ≤ 720 := by rw [ez59752]; exact gRows_r _
      refine lv_icmp_ge (tgt := 73) hx hb dX9_wallAt_27 (by decide) (fun c59753 => ?_) (fun c59753 => ?_)
      · have w59754 := cv_le (rfl : z59752.toInt = z59752.toInt) (rfl : z59741.toInt = z59741.toInt) c59753
        refine lv_bipush (v := (-2)) hx hb dX9_wallAt_73 (by decide) ?_
        exact t_iret hQ X hT (⟨(by decide), hfr⟩) (Nat.le_of_ble_eq_true rfl) (Nat.le_of_ble_eq_true rfl) dX9_wallAt_75
      · have w59755 := cv_nle (rfl : z59752.toInt = z59752.toInt) (rfl : z59741.toInt = z59741.toInt) c59753
        refine lv_aload_n hx hb dX9_wallAt_30 rfl (lv_at hl 0 rfl) ?_
        refine lv_aload_n hx hb dX9_wallAt_31 rfl (lv_at hl 1 rfl) ?_
        refine lv_iload_n hx hb dX9_wallAt_32 rfl (lv_at hl 2 rfl) ?_
        refine t_cVi (n := 2) (C := RX9) (T := TX9) (N := 6) (As := [.ref p1, .int p2]) (rest := []) X hT (kt148_X9_canBe l G tag L F hT.2.2.2 p0 p1 p2 m0 g0 m1 g1) m0 g0 rfl rfl qw_1340 qw_1341 qw_1342 qw_40 qw_1343 ⟨rfl, by decide +kernel, by decide +kernel, by decide +kernel⟩ ⟨Nat.le_of_ble_eq_true rfl, Nat.le_of_ble_eq_true rfl⟩ hl rfl rfl (Nat.le_of_ble_eq_true rfl) dX9_wallAt_33 ⟨Nat.le_of_ble_eq_true rfl, Nat.le_of_ble_eq_true rfl⟩ (fun z59756 F H locs hT hz59756 => ?_)
        obtain ⟨hz59756, yz59756⟩ := hz59756
        have qz59742 := (yz59756 _ 16 ).trans qz59742
        have hfr : ∀ b j : Nat, fld F b j = fld Fo b j := fun b j  => (yz59756 b j ).trans (hfr b j )
        refine lv_if_eq (tgt := 56) hx hb dX9_wallAt_36 (by decide) (fun c59757 => ?_) (fun c59757 => ?_)
        · have w59758 := cv_eq (rfl : z59756.toInt = z59756.toInt) (by decide : (0 : Int32).toInt = 0) c59757
          exact K56 z59740 z59742 _ _ _ _ (by omega) (by omega) hT hfr qz59742 (lv_sub hl [0, 1, 2, 3, 4, 5, 6] rfl)
        · have w59759 := cv_ne (rfl : z59756.toInt = z59756.toInt) (by decide : (0 : Int32).toInt = 0) c59757
          refine lv_iload hx hb dX9_wallAt_39 (lv_at hl 5 rfl) ?_
          refine lv_iload_n hx hb dX9_wallAt_41 rfl (lv_at hl 3 rfl) ?_
          refine lv_icmp_ne (tgt := 53) hx hb dX9_wallAt_42 (by decide) (fun c59760 => ?_) (fun c59760 => ?_)
          · have w59761 := cv_ne (rfl : z59740.toInt = z59740.toInt) (rfl : p3.toInt = p3.toInt) c59760
            obtain ⟨z59762, ez59762⟩ : ∃ y : Int32, y = z59740 + 1 := ⟨_, rfl⟩
            have rz59762 := rg_all z59762
            refine lv_iinc (v := z59762) (lv' := [(5, .int z59762), (0, .ref p0), (1, .ref p1), (2, .int p2), (3, .int p3), (4, .int p4), (6, .int z59741)]) hx hb dX9_wallAt_53 hl (k := 5) rfl (by rw [ez59762]; rfl) (by decide) rfl (fun ls hl => ?_)
            exact K56 z59762 z59742 _ _ _ _ (by omega) (by omega) hT hfr qz59742 (lv_sub hl [1, 2, 3, 4, 5, 0, 6] rfl)
          · have w59763 := cv_eq (rfl : z59740.toInt = z59740.toInt) (rfl : p3.toInt = p3.toInt) c59760
            refine lv_aload_n hx hb dX9_wallAt_45 rfl (lv_at hl 0 rfl) ?_
            refine t_get (C := RX9) (T := TX9) (N := 6) X hT m0 g0 rfl rfl 0 (by decide) qw_93 inlX9 rfl dX9_wallAt_46 (fun v59764 hv59764 ov59764 => ?_)
            obtain ⟨b59765, rfl, mb59765, gb59765⟩ := okV_r ov59764
            have gb59765 : tag b59765 = 11 := tg_of gb59765
            refine lv_iload hx hb dX9_wallAt_49 (lv_at hl 4 rfl) ?_
            refine t_ild X hT mb59765 gb59765 rfl (by omega) dX9_wallAt_51 (fun z59766 vz59766 rz59766 => ?_)
            have rz59766 : 0 ≤ z59766.toInt ∧ z59766.toInt ≤ 5 := rz59766
            exact t_iret hQ X hT (⟨(by omega), hfr⟩) (Nat.le_of_ble_eq_true rfl) (Nat.le_of_ble_eq_true rfl) dX9_wallAt_52
  refine lv_iconst (v := 0) hx hb dX9_wallAt_0 (by decide) ?_
  refine lv_istore (lv' := [(5, .int 0), (0, .ref p0), (1, .ref p1), (2, .int p2), (3, .int p3), (4, .int p4)]) hx hb dX9_wallAt_1 hl (by decide) rfl (fun ls hl => ?_)
  refine lv_aload_n hx hb dX9_wallAt_3 rfl (lv_at hl 1 rfl) ?_
  refine t_get (C := RX9) (T := TX9) (N := 6) X hT m0 g0 rfl rfl 0 (by decide) qw_93 inlX9 rfl dX9_wallAt_4 (fun v59767 hv59767 ov59767 => ?_)
  obtain ⟨b59768, rfl, mb59768, gb59768⟩ := okV_r ov59767
  have gb59768 : tag b59768 = 11 := tg_of gb59768
  refine lv_aload_n hx hb dX9_wallAt_7 rfl (lv_at hl 2 rfl) ?_
  refine t_get (C := RX1) (T := TX1) (N := 20) X hT m1 g1 rfl rfl 16 (by decide) qw_1338 inlX1 rfl dX9_wallAt_8 (fun v59769 hv59769 ov59769 => ?_)
  obtain ⟨z59770, rfl, rz59770⟩ := okV_i ov59769
  refine t_cSv (n := 2) (As := [.ref b59768, .int z59770]) (rest := []) X hT (kt146_X5_begin l G tag L F hT.2.2.2 b59768 z59770 mb59768 gb59768 (by omega)) qw_1339 qw_1241 qw_1242 qw_1243 ⟨by decide +kernel, by decide +kernel, by decide +kernel⟩ ⟨Nat.le_of_ble_eq_true rfl, Nat.le_of_ble_eq_true rfl⟩ hl rfl rfl (Nat.le_of_ble_eq_true rfl) dX9_wallAt_11 ⟨Nat.le_of_ble_eq_true rfl, Nat.le_of_ble_eq_true rfl⟩ (fun F H locs hT hz59771 => ?_)
  have yz59771 := hz59771
  have hv59767 := (yz59771 _ 0 ).trans hv59767
  have hv59769 := (yz59771 _ 16 ).trans hv59769
  have hfr : ∀ b j : Nat, fld F b j = fld Fo b j := fun b j  => (yz59771 b j ).trans (hfr b j )
  refine lv_iconst (v := 0) hx hb dX9_wallAt_14 (by decide) ?_
  refine lv_istore (lv' := [(6, .int 0), (5, .int 0), (0, .ref p0), (1, .ref p1), (2, .int p2), (3, .int p3), (4, .int p4)]) hx hb dX9_wallAt_15 hl (by decide) rfl (fun ls hl => ?_)
  have kk59772 : (0 : Int32).toInt = 0 := by decide
  have kk59773 : (0 : Int32).toInt = 0 := by decide
  exact K17 721 0 0 z59770 _ _ _ _ (by omega) (by decide) (by omega) hT hfr hv59769 (lv_sub hl [2, 3, 4, 5, 6, 1, 0] rfl)
set_option maxHeartbeats 4000000 in
set_option maxRecDepth 100000 in
theorem kt165_X11_order (l : Launch) (G : KG) (tag : Nat → Nat) (L : List Nat) (Fo : Nat → va_E) (ho : okT G ttC tag L Fo) (p0 : Nat) (p1 : Int32) (p2 : Int32) (m0 : p0 ∈ L) (g0 : tag p0 = 26) : TMi l yX11_order cX11_order 4 (some .int) { frames := 4, cells := 0, slots := 0, locals := 89 } G ttC tag L Fo [.ref p0, .int p1, .int p2] (fun r F1 => ((-2147483648) ≤ r.toInt ∧ r.toInt ≤ 2147483647) ∧ (∀ b j : Nat, (tag b ≠ 26 ∨ j ≠ 13) → fld F1 b j = fld Fo b j)) := by
  refine t_bodyi (y := yX11_order) (cd := cX11_order) (mL := 4) (rt := (some .int)) (rm := { frames := 4, cells := 0, slots := 0, locals := 89 }) (av := [.ref p0, .int p1, .int p2]) (by decide) (Nat.le_of_ble_eq_true rfl) ho ?_
  intro p e s m args below meth c ls A Q hQ X hT hl
  have hx := X.1.1
  have hb := X.1.2.1
  have hl : lv_has ls 4 [(0, .ref p0), (1, .int p1), (2, .int p2)] := hl
  have rp1 := rg_all p1
  have rp2 := rg_all p2
  obtain ⟨F, hFo⟩ : ∃ F : Nat → va_E, F = Fo := ⟨_, rfl⟩
  rw [← hFo] at hT
  have hfr : ∀ b j : Nat, (tag b ≠ 26 ∨ j ≠ 13) → fld F b j = fld Fo b j := by
    rw [hFo]
    intros
    rfl
  have K22 : ∀  (F : Nat → va_E) (H : Heap) (locs : List Loc) (ls : Array Slot), TH G ttC A s tag L F H locs → (∀ b j : Nat, (tag b ≠ 26 ∨ j ≠ 13) → fld F b j = fld Fo b j) → lv_has ls 4 [(0, .ref p0), (1, .int p1), (2, .int p2)] → W p l e { frames := 4, cells := 0, slots := 0, locals := 89 } s m args below meth c H locs 0 0 Q (F0 m 22 ls []) := by
    intro F H locs ls hT hfr hl
    refine lv_aload_n hx hb dX11_order_22 rfl (lv_at hl 0 rfl) ?_
    refine lv_iconst (v := 1) hx hb dX11_order_23 (by decide) ?_
    refine t_cVi (n := 1) (C := RX11) (T := TX11) (N := 16) (As := [.int 1]) (rest := []) X hT (kt97_X11_refuse l G tag L F hT.2.2.2 p0 1 m0 g0) m0 g0 rfl rfl qw_152 qw_153 qw_154 qw_2 qw_155 ⟨rfl, by decide +kernel, by decide +kernel, by decide +kernel⟩ ⟨Nat.le_of_ble_eq_true rfl, Nat.le_of_ble_eq_true rfl⟩ hl rfl rfl (Nat.le_of_ble_eq_true rfl) dX11_order_24 ⟨Nat.le_of_ble_eq_true rfl, Nat.le_of_ble_eq_true rfl⟩ (fun z60063 F H locs hT hz60063 => ?_)
    obtain ⟨hz60063, yz60063⟩ := hz60063
    have hfr : ∀ b j : Nat, (tag b ≠ 26 ∨ j ≠ 13) → fld F b j = fld Fo b j := fun b j n26_13 => (yz60063 b j n26_13).trans (hfr b j n26_13)
    exact t_iret hQ X hT (⟨rg_all _, hfr⟩) (Nat.le_of_ble_eq_true rfl) (Nat.le_of_ble_eq_true rfl) dX11_order_27
  refine lv_aload_n hx hb dX11_order_0 rfl (lv_at hl 0 rfl) ?_
  refine lv_iload_n hx hb dX11_order_1 rfl (lv_at hl 2 rfl) ?_
  refine t_cVi (n := 1) (C := RX11) (T := TX11) (N := 16) (As := [.int p2]) (rest := []) X hT (kt145_X11_isWall l G tag L F hT.2.2.2 p0 p2 m0 g0) m0 g0 rfl rfl qw_1379 qw_1380 qw_1381 qw_2 qw_1382 ⟨rfl, by decide +kernel, by decide +kernel, by decide +kernel⟩ ⟨Nat.le_of_ble_eq_true rfl, Nat.le_of_ble_eq_true rfl⟩ hl rfl rfl (Nat.le_of_ble_eq_true rfl) dX11_order_2 ⟨Nat.le_of_ble_eq_true rfl, Nat.le_of_ble_eq_true rfl⟩ (fun z60064 F9 H locs hT hz60064 => ?_)
  obtain ⟨fz60064, hz60064⟩ := hz60064
  rw [fz60064] at hT
  obtain ⟨hz60064, iz60064⟩ := hz60064
  refine lv_if_eq (tgt := 22) hx hb dX11_order_5 (by decide) (fun c60065 => ?_) (fun c60065 => ?_)
  · have w60066 := cv_eq (rfl : z60064.toInt = z60064.toInt) (by decide : (0 : Int32).toInt = 0) c60065
    exact K22  _ _ _ _  hT hfr  (lv_sub hl [0, 1, 2] rfl)
  · have w60067 := cv_ne (rfl : z60064.toInt = z60064.toInt) (by decide : (0 : Int32).toInt = 0) c60065
    have w60068 := (fun h => (iz60064 h)) (by omega)
    refine lv_iload_n hx hb dX11_order_8 rfl (lv_at hl 1 rfl) ?_
    refine lv_if_lt (tgt := 22) hx hb dX11_order_9 (by decide) (fun c60069 => ?_) (fun c60069 => ?_)
    · have w60070 := cv_lt (rfl : p1.toInt = p1.toInt) (by decide : (0 : Int32).toInt = 0) c60069
      exact K22  _ _ _ _  hT hfr  (lv_sub hl [0, 1, 2] rfl)
    · have w60071 := cv_nlt (rfl : p1.toInt = p1.toInt) (by decide : (0 : Int32).toInt = 0) c60069
      refine lv_iload_n hx hb dX11_order_12 rfl (lv_at hl 1 rfl) ?_
      refine t_gets X hT X.2.2.2.1.2.2.2.1 qw_1378 dX11_order_13 ?_
      refine lv_bipush (v := 6) hx hb dX11_order_16 (by decide) ?_
      refine t_tild X hT X.2.2.2.1.2.2.2.1 (by decide) dX11_order_18 (fun z60072 ez60072 => ?_)
      have rz60072 : 1 ≤ z60072.toInt ∧ z60072.toInt ≤ 720 := by rw [ez60072]; exact gRows_r _
      refine lv_icmp_lt (tgt := 28) hx hb dX11_order_19 (by decide) (fun c60073 => ?_) (fun c60073 => ?_)
      · have w60074 := cv_lt (rfl : p1.toInt = p1.toInt) (rfl : z60072.toInt = z60072.toInt) c60073
        refine lv_aload_n hx hb dX11_order_28 rfl (lv_at hl 0 rfl) ?_
        refine t_get (C := RX11) (T := TX11) (N := 16) X hT m0 g0 rfl rfl 11 (by decide) qw_41 inlX11 rfl dX11_order_29 (fun v60075 hv60075 ov60075 => ?_)
        obtain ⟨b60076, rfl, mb60076, gb60076⟩ := okV_r ov60075
        have gb60076 : tag b60076 = 22 := tg_of gb60076
        refine lv_aload_n hx hb dX11_order_32 rfl (lv_at hl 0 rfl) ?_
        refine t_get (C := RX11) (T := TX11) (N := 16) X hT m0 g0 rfl rfl 3 (by decide) qw_18 inlX11 rfl dX11_order_33 (fun v60077 hv60077 ov60077 => ?_)
        obtain ⟨b60078, rfl, mb60078, gb60078⟩ := okV_r ov60077
        have gb60078 : tag b60078 = 18 := tg_of gb60078
        refine lv_aload_n hx hb dX11_order_36 rfl (lv_at hl 0 rfl) ?_
        refine t_get (C := RX11) (T := TX11) (N := 16) X hT m0 g0 rfl rfl 5 (by decide) qw_23 inlX11 rfl dX11_order_37 (fun v60079 hv60079 ov60079 => ?_)
        obtain ⟨b60080, rfl, mb60080, gb60080⟩ := okV_r ov60079
        have gb60080 : tag b60080 = 19 := tg_of gb60080
        refine t_get (C := RX7) (T := TX7) (N := 7) X hT mb60080 gb60080 rfl rfl 0 (by decide) qw_1225 inlX7 rfl dX11_order_40 (fun v60081 hv60081 ov60081 => ?_)
        obtain ⟨z60082, rfl, rz60082⟩ := okV_i ov60081
        refine lv_iload_n hx hb dX11_order_43 rfl (lv_at hl 1 rfl) ?_
        refine lv_iload_n hx hb dX11_order_44 rfl (lv_at hl 2 rfl) ?_
        refine t_cVi (n := 4) (C := RX9) (T := TX9) (N := 6) (As := [.ref b60078, .int z60082, .int p1, .int p2]) (rest := []) X hT (kt164_X9_wallAt l G tag L F hT.2.2.2 b60076 b60078 z60082 p1 p2 mb60076 gb60076 mb60078 gb60078 (by omega)) mb60076 gb60076 rfl rfl qw_1384 qw_1385 qw_1386 qw_40 qw_1387 ⟨rfl, by decide +kernel, by decide +kernel, by decide +kernel⟩ ⟨Nat.le_of_ble_eq_true rfl, Nat.le_of_ble_eq_true rfl⟩ hl rfl rfl (Nat.le_of_ble_eq_true rfl) dX11_order_45 ⟨Nat.le_of_ble_eq_true rfl, Nat.le_of_ble_eq_true rfl⟩ (fun z60083 F H locs hT hz60083 => ?_)
        obtain ⟨hz60083, yz60083⟩ := hz60083
        have hv60075 := (yz60083 _ 11 ).trans hv60075
        have hv60077 := (yz60083 _ 3 ).trans hv60077
        have hv60079 := (yz60083 _ 5 ).trans hv60079
        have hv60081 := (yz60083 _ 0 ).trans hv60081
        have hfr : ∀ b j : Nat, (tag b ≠ 26 ∨ j ≠ 13) → fld F b j = fld Fo b j := fun b j n26_13 => (yz60083 b j ).trans (hfr b j n26_13)
        refine lv_istore_n (lv' := [(3, .int z60083), (0, .ref p0), (1, .int p1), (2, .int p2)]) hx hb dX11_order_48 rfl hl (by decide) rfl (fun ls hl => ?_)
        refine lv_iload_n hx hb dX11_order_49 rfl (lv_at hl 0 rfl) ?_
        refine lv_bipush (v := (-2)) hx hb dX11_order_50 (by decide) ?_
        refine lv_icmp_ne (tgt := 63) hx hb dX11_order_52 (by decide) (fun c60084 => ?_) (fun c60084 => ?_)
        · have w60085 := cv_ne (rfl : z60083.toInt = z60083.toInt) (by decide : ((-2) : Int32).toInt = (-2)) c60084
          refine lv_aload_n hx hb dX11_order_63 rfl (lv_at hl 1 rfl) ?_
          refine lv_iload_n hx hb dX11_order_64 rfl (lv_at hl 0 rfl) ?_
          refine t_cVi (n := 1) (C := RX11) (T := TX11) (N := 16) (As := [.int z60083]) (rest := []) X hT (kt96_X11_answer l G tag L F hT.2.2.2 p0 z60083 m0 g0) m0 g0 rfl rfl qw_463 qw_464 qw_465 qw_2 qw_466 ⟨rfl, by decide +kernel, by decide +kernel, by decide +kernel⟩ ⟨Nat.le_of_ble_eq_true rfl, Nat.le_of_ble_eq_true rfl⟩ hl rfl rfl (Nat.le_of_ble_eq_true rfl) dX11_order_65 ⟨Nat.le_of_ble_eq_true rfl, Nat.le_of_ble_eq_true rfl⟩ (fun z60086 F H locs hT hz60086 => ?_)
          obtain ⟨hz60086, yz60086⟩ := hz60086
          have hv60075 := (yz60086 _ 11 (Or.inr (by decide))).trans hv60075
          have hv60077 := (yz60086 _ 3 (Or.inr (by decide))).trans hv60077
          have hv60079 := (yz60086 _ 5 (Or.inr (by decide))).trans hv60079
          have hv60081 := (yz60086 _ 0 (Or.inr (by decide))).trans hv60081
          have hfr : ∀ b j : Nat, (tag b ≠ 26 ∨ j ≠ 13) → fld F b j = fld Fo b j := fun b j n26_13 => (yz60086 b j n26_13).trans (hfr b j n26_13)
          exact t_iret hQ X hT (⟨rg_all _, hfr⟩) (Nat.le_of_ble_eq_true rfl) (Nat.le_of_ble_eq_true rfl) dX11_order_68
        · have w60087 := cv_eq (rfl : z60083.toInt = z60083.toInt) (by decide : ((-2) : Int32).toInt = (-2)) c60084
          refine lv_aload_n hx hb dX11_order_55 rfl (lv_at hl 1 rfl) ?_
          refine lv_iconst (v := 1) hx hb dX11_order_56 (by decide) ?_
          refine t_cVi (n := 1) (C := RX11) (T := TX11) (N := 16) (As := [.int 1]) (rest := []) X hT (kt97_X11_refuse l G tag L F hT.2.2.2 p0 1 m0 g0) m0 g0 rfl rfl qw_152 qw_153 qw_154 qw_2 qw_155 ⟨rfl, by decide +kernel, by decide +kernel, by decide +kernel⟩ ⟨Nat.le_of_ble_eq_true rfl, Nat.le_of_ble_eq_true rfl⟩ hl rfl rfl (Nat.le_of_ble_eq_true rfl) dX11_order_57 ⟨Nat.le_of_ble_eq_true rfl, Nat.le_of_ble_eq_true rfl⟩ (fun z60088 F H locs hT hz60088 => ?_)
          obtain ⟨hz60088, yz60088⟩ := hz60088
          have hv60075 := (yz60088 _ 11 (Or.inr (by decide))).trans hv60075
          have hv60077 := (yz60088 _ 3 (Or.inr (by decide))).trans hv60077
          have hv60079 := (yz60088 _ 5 (Or.inr (by decide))).trans hv60079
          have hv60081 := (yz60088 _ 0 (Or.inr (by decide))).trans hv60081
          have hfr : ∀ b j : Nat, (tag b ≠ 26 ∨ j ≠ 13) → fld F b j = fld Fo b j := fun b j n26_13 => (yz60088 b j n26_13).trans (hfr b j n26_13)
          refine lv_goto (tgt := 68) hx hb dX11_order_60 (by decide) ?_
          exact t_iret hQ X hT (⟨rg_all _, hfr⟩) (Nat.le_of_ble_eq_true rfl) (Nat.le_of_ble_eq_true rfl) dX11_order_68
      · have w60089 := cv_nlt (rfl : p1.toInt = p1.toInt) (rfl : z60072.toInt = z60072.toInt) c60073
        exact K22  _ _ _ _  hT hfr  (lv_sub hl [0, 1, 2] rfl)
set_option maxHeartbeats 4000000 in
set_option maxRecDepth 100000 in
theorem kt166_X11_orders (l : Launch) (G : KG) (tag : Nat → Nat) (L : List Nat) (Fo : Nat → va_E) (ho : okT G ttC tag L Fo) (p0 : Nat) (m0 : p0 ∈ L) (g0 : tag p0 = 26) : TMi l yX11_orders cX11_orders 1 (some .int) { frames := 4, cells := 0, slots := 0, locals := 86 } G ttC tag L Fo [.ref p0] (fun r F1 => ((-2147483648) ≤ r.toInt ∧ r.toInt ≤ 2147483647) ∧ (∀ b j : Nat, (tag b ≠ 22 ∨ j ≠ 2) → (tag b ≠ 26 ∨ j ≠ 13) → fld F1 b j = fld Fo b j)) := by
  refine t_bodyi (y := yX11_orders) (cd := cX11_orders) (mL := 1) (rt := (some .int)) (rm := { frames := 4, cells := 0, slots := 0, locals := 86 }) (av := [.ref p0]) (by decide) (Nat.le_of_ble_eq_true rfl) ho ?_
  intro p e s m args below meth c ls A Q hQ X hT hl
  have hx := X.1.1
  have hb := X.1.2.1
  have hl : lv_has ls 1 [(0, .ref p0)] := hl
  obtain ⟨F, hFo⟩ : ∃ F : Nat → va_E, F = Fo := ⟨_, rfl⟩
  rw [← hFo] at hT
  have hfr : ∀ b j : Nat, (tag b ≠ 22 ∨ j ≠ 2) → (tag b ≠ 26 ∨ j ≠ 13) → fld F b j = fld Fo b j := by
    rw [hFo]
    intros
    rfl
  refine lv_aload_n hx hb dX11_orders_0 rfl (lv_at hl 0 rfl) ?_
  refine t_get (C := RX11) (T := TX11) (N := 16) X hT m0 g0 rfl rfl 2 (by decide) qw_150 inlX11 rfl dX11_orders_1 (fun v60299 hv60299 ov60299 => ?_)
  obtain ⟨z60300, rfl, rz60300⟩ := okV_i ov60299
  refine lv_if_ne (tgt := 13) hx hb dX11_orders_4 (by decide) (fun c60301 => ?_) (fun c60301 => ?_)
  · have w60302 := cv_ne (rfl : z60300.toInt = z60300.toInt) (by decide : (0 : Int32).toInt = 0) c60301
    refine lv_aload_n hx hb dX11_orders_13 rfl (lv_at hl 0 rfl) ?_
    refine t_get (C := RX11) (T := TX11) (N := 16) X hT m0 g0 rfl rfl 11 (by decide) qw_41 inlX11 rfl dX11_orders_14 (fun v60303 hv60303 ov60303 => ?_)
    obtain ⟨b60304, rfl, mb60304, gb60304⟩ := okV_r ov60303
    have gb60304 : tag b60304 = 22 := tg_of gb60304
    refine lv_aload_n hx hb dX11_orders_17 rfl (lv_at hl 0 rfl) ?_
    refine t_get (C := RX11) (T := TX11) (N := 16) X hT m0 g0 rfl rfl 3 (by decide) qw_18 inlX11 rfl dX11_orders_18 (fun v60305 hv60305 ov60305 => ?_)
    obtain ⟨b60306, rfl, mb60306, gb60306⟩ := okV_r ov60305
    have gb60306 : tag b60306 = 18 := tg_of gb60306
    refine lv_aload_n hx hb dX11_orders_21 rfl (lv_at hl 0 rfl) ?_
    refine t_get (C := RX11) (T := TX11) (N := 16) X hT m0 g0 rfl rfl 5 (by decide) qw_23 inlX11 rfl dX11_orders_22 (fun v60307 hv60307 ov60307 => ?_)
    obtain ⟨b60308, rfl, mb60308, gb60308⟩ := okV_r ov60307
    have gb60308 : tag b60308 = 19 := tg_of gb60308
    refine t_get (C := RX7) (T := TX7) (N := 7) X hT mb60308 gb60308 rfl rfl 0 (by decide) qw_1225 inlX7 rfl dX11_orders_25 (fun v60309 hv60309 ov60309 => ?_)
    obtain ⟨z60310, rfl, rz60310⟩ := okV_i ov60309
    refine t_cVv (n := 2) (C := RX9) (T := TX9) (N := 6) (As := [.ref b60306, .int z60310]) (rest := []) X hT (kt154_X9_lookAtAll l G tag L F hT.2.2.2 b60304 b60306 z60310 mb60304 gb60304 mb60306 gb60306) mb60304 gb60304 rfl rfl qw_1333 qw_1334 qw_1335 qw_40 qw_1336 ⟨rfl, by decide +kernel, by decide +kernel, by decide +kernel⟩ ⟨Nat.le_of_ble_eq_true rfl, Nat.le_of_ble_eq_true rfl⟩ hl rfl rfl (Nat.le_of_ble_eq_true rfl) dX11_orders_28 ⟨Nat.le_of_ble_eq_true rfl, Nat.le_of_ble_eq_true rfl⟩ (fun F H locs hT hz60311 => ?_)
    have yz60311 := hz60311
    have hv60299 := (yz60311 _ 2 (Or.inl (by rw [g0]; decide))).trans hv60299
    have hv60303 := (yz60311 _ 11 (Or.inr (by decide))).trans hv60303
    have hv60305 := (yz60311 _ 3 (Or.inr (by decide))).trans hv60305
    have hv60307 := (yz60311 _ 5 (Or.inr (by decide))).trans hv60307
    have hv60309 := (yz60311 _ 0 (Or.inr (by decide))).trans hv60309
    have hfr : ∀ b j : Nat, (tag b ≠ 22 ∨ j ≠ 2) → (tag b ≠ 26 ∨ j ≠ 13) → fld F b j = fld Fo b j := fun b j n22_2 n26_13 => (yz60311 b j n22_2).trans (hfr b j n22_2 n26_13)
    refine lv_aload_n hx hb dX11_orders_31 rfl (lv_at hl 0 rfl) ?_
    refine lv_aload_n hx hb dX11_orders_32 rfl (lv_at hl 0 rfl) ?_
    refine t_get (C := RX11) (T := TX11) (N := 16) X hT m0 g0 rfl rfl 11 (by decide) qw_41 inlX11 rfl dX11_orders_33 (fun v60312 hv60312 ov60312 => ?_)
    obtain rfl : v60312 = .ref b60304 := hv60312.symm.trans hv60303
    refine t_get (C := RX9) (T := TX9) (N := 6) X hT mb60304 gb60304 rfl rfl 2 (by decide) qw_1332 inlX9 rfl dX11_orders_36 (fun v60313 hv60313 ov60313 => ?_)
    obtain ⟨z60314, rfl, rz60314⟩ := okV_i ov60313
    refine t_cVi (n := 1) (C := RX11) (T := TX11) (N := 16) (As := [.int z60314]) (rest := []) X hT (kt96_X11_answer l G tag L F hT.2.2.2 p0 z60314 m0 g0) m0 g0 rfl rfl qw_463 qw_464 qw_465 qw_2 qw_466 ⟨rfl, by decide +kernel, by decide +kernel, by decide +kernel⟩ ⟨Nat.le_of_ble_eq_true rfl, Nat.le_of_ble_eq_true rfl⟩ hl rfl rfl (Nat.le_of_ble_eq_true rfl) dX11_orders_39 ⟨Nat.le_of_ble_eq_true rfl, Nat.le_of_ble_eq_true rfl⟩ (fun z60315 F H locs hT hz60315 => ?_)
    obtain ⟨hz60315, yz60315⟩ := hz60315
    have hv60299 := (yz60315 _ 2 (Or.inr (by decide))).trans hv60299
    have hv60303 := (yz60315 _ 11 (Or.inr (by decide))).trans hv60303
    have hv60305 := (yz60315 _ 3 (Or.inr (by decide))).trans hv60305
    have hv60307 := (yz60315 _ 5 (Or.inr (by decide))).trans hv60307
    have hv60309 := (yz60315 _ 0 (Or.inr (by decide))).trans hv60309
    have hv60313 := (yz60315 _ 2 (Or.inr (by decide))).trans hv60313
    have hfr : ∀ b j : Nat, (tag b ≠ 22 ∨ j ≠ 2) → (tag b ≠ 26 ∨ j ≠ 13) → fld F b j = fld Fo b j := fun b j n22_2 n26_13 => (yz60315 b j n26_13).trans (hfr b j n22_2 n26_13)
    exact t_iret hQ X hT (⟨rg_all _, hfr⟩) (Nat.le_of_ble_eq_true rfl) (Nat.le_of_ble_eq_true rfl) dX11_orders_42
  · have w60316 := cv_eq (rfl : z60300.toInt = z60300.toInt) (by decide : (0 : Int32).toInt = 0) c60301
    refine lv_aload_n hx hb dX11_orders_7 rfl (lv_at hl 0 rfl) ?_
    refine lv_iconst (v := 1) hx hb dX11_orders_8 (by decide) ?_
    refine t_cVi (n := 1) (C := RX11) (T := TX11) (N := 16) (As := [.int 1]) (rest := []) X hT (kt97_X11_refuse l G tag L F hT.2.2.2 p0 1 m0 g0) m0 g0 rfl rfl qw_152 qw_153 qw_154 qw_2 qw_155 ⟨rfl, by decide +kernel, by decide +kernel, by decide +kernel⟩ ⟨Nat.le_of_ble_eq_true rfl, Nat.le_of_ble_eq_true rfl⟩ hl rfl rfl (Nat.le_of_ble_eq_true rfl) dX11_orders_9 ⟨Nat.le_of_ble_eq_true rfl, Nat.le_of_ble_eq_true rfl⟩ (fun z60317 F H locs hT hz60317 => ?_)
    obtain ⟨hz60317, yz60317⟩ := hz60317
    have hv60299 := (yz60317 _ 2 (Or.inr (by decide))).trans hv60299
    have hfr : ∀ b j : Nat, (tag b ≠ 22 ∨ j ≠ 2) → (tag b ≠ 26 ∨ j ≠ 13) → fld F b j = fld Fo b j := fun b j n22_2 n26_13 => (yz60317 b j n26_13).trans (hfr b j n22_2 n26_13)
    exact t_iret hQ X hT (⟨rg_all _, hfr⟩) (Nat.le_of_ble_eq_true rfl) (Nat.le_of_ble_eq_true rfl) dX11_orders_12
set_option maxHeartbeats 4000000 in
set_option maxRecDepth 100000 in
theorem kt167_X11_putNumber (l : Launch) (G : KG) (tag : Nat → Nat) (L : List Nat) (Fo : Nat → va_E) (ho : okT G ttC tag L Fo) (p0 : Nat) (p1 : Int32) (m0 : p0 ∈ L) (g0 : tag p0 = 26) : TMv l yX11_putNumber cX11_putNumber 3 { frames := 0, cells := 0, slots := 0, locals := 0 } G ttC tag L Fo [.ref p0, .int p1] (fun F1 => ∀ b j : Nat, (tag b ≠ 26 ∨ j ≠ 1) → fld F1 b j = fld Fo b j) := by
  refine t_bodyv (y := yX11_putNumber) (cd := cX11_putNumber) (mL := 3) (rm := { frames := 0, cells := 0, slots := 0, locals := 0 }) (av := [.ref p0, .int p1]) (by decide) (Nat.le_of_ble_eq_true rfl) ho ?_
  intro p e s m args below meth c ls A Q hQ X hT hl
  have hx := X.1.1
  have hb := X.1.2.1
  have hl : lv_has ls 3 [(0, .ref p0), (1, .int p1)] := hl
  have rp1 := rg_all p1
  obtain ⟨F, hFo⟩ : ∃ F : Nat → va_E, F = Fo := ⟨_, rfl⟩
  rw [← hFo] at hT
  have hfr : ∀ b j : Nat, (tag b ≠ 26 ∨ j ≠ 1) → fld F b j = fld Fo b j := by
    rw [hFo]
    intros
    rfl
  have K3 : ∀ (n : Nat) (z60636 : Int32) (F : Nat → va_E) (H : Heap) (locs : List Loc) (ls : Array Slot), (z60636.toInt - (-8) < (n : Int)) → ((-8) ≤ z60636.toInt ∧ z60636.toInt ≤ 24) → TH G ttC A s tag L F H locs → (∀ b j : Nat, (tag b ≠ 26 ∨ j ≠ 1) → fld F b j = fld Fo b j) → lv_has ls 3 [(0, .ref p0), (1, .int p1), (2, .int z60636)] → W p l e { frames := 0, cells := 0, slots := 0, locals := 0 } s m args below meth c H locs 0 0 Q (F0 m 3 ls []) := by
    intro n
    induction n with
    | zero =>
      intro z60636 F H locs ls hn rz60636 hT hfr hl
      exfalso
      omega
    | succ n ih3 =>
      intro z60636 F H locs ls hn rz60636 hT hfr hl
      have K43 : ∀ (z60638 : Int32) (F : Nat → va_E) (H : Heap) (locs : List Loc) (ls : Array Slot), (1 ≤ z60638.toInt ∧ z60638.toInt ≤ 1000) → (0 ≤ z60636.toInt ∧ z60636.toInt ≤ 24) → TH G ttC A s tag L F H locs → (∀ b j : Nat, (tag b ≠ 26 ∨ j ≠ 1) → fld F b j = fld Fo b j) → fld F p0 1 = .int z60638 → lv_has ls 3 [(0, .ref p0), (1, .int p1), (2, .int z60636)] → W p l e { frames := 0, cells := 0, slots := 0, locals := 0 } s m args below meth c H locs 0 0 Q (F0 m 43 ls []) := by
        intro z60638 F H locs ls rz60638 r9s60637 hT hfr qz60638 hl
        obtain ⟨z60639, ez60639⟩ : ∃ y : Int32, y = z60636 + (-8) := ⟨_, rfl⟩
        have hz60639 : z60639.toInt = z60636.toInt + (-8) := ar_add ez60639 rfl (by decide : ((-8) : Int32).toInt = (-8)) (by omega) (by omega)
        refine lv_iinc (v := z60639) (lv' := [(2, .int z60639), (0, .ref p0), (1, .int p1)]) hx hb dX11_putNumber_43 hl (k := 2) rfl (by rw [ez60639]; rfl) (by decide) rfl (fun ls hl => ?_)
        refine lv_goto (tgt := 3) hx hb dX11_putNumber_46 (by decide) ?_
        exact ih3 z60639 _ _ _ _ (by omega) (by omega) hT hfr  (lv_sub hl [1, 2, 0] rfl)
      refine lv_iload_n hx hb dX11_putNumber_3 rfl (lv_at hl 2 rfl) ?_
      refine lv_if_lt (tgt := 49) hx hb dX11_putNumber_4 (by decide) (fun c60640 => ?_) (fun c60640 => ?_)
      · have w60641 := cv_lt (rfl : z60636.toInt = z60636.toInt) (by decide : (0 : Int32).toInt = 0) c60640
        exact t_vret hQ X hT hfr (Nat.le_of_ble_eq_true rfl) (Nat.le_of_ble_eq_true rfl) dX11_putNumber_49
      · have w60642 := cv_nlt (rfl : z60636.toInt = z60636.toInt) (by decide : (0 : Int32).toInt = 0) c60640
        refine lv_aload_n hx hb dX11_putNumber_7 rfl (lv_at hl 0 rfl) ?_
        refine t_get (C := RX11) (T := TX11) (N := 16) X hT m0 g0 rfl rfl 1 (by decide) qw_131 inlX11 rfl dX11_putNumber_8 (fun v60643 hv60643 ov60643 => ?_)
        obtain ⟨z60644, rfl, rz60644⟩ := okV_i ov60643
        refine lv_sipush (v := 1000) hx hb dX11_putNumber_11 (by decide) ?_
        refine lv_icmp_ge (tgt := 43) hx hb dX11_putNumber_14 (by decide) (fun c60645 => ?_) (fun c60645 => ?_)
        · have w60646 := cv_le (by decide : (1000 : Int32).toInt = 1000) (rfl : z60644.toInt = z60644.toInt) c60645
          exact K43 z60644 _ _ _ _ (by omega) (by omega) hT hfr hv60643 (lv_sub hl [0, 1, 2] rfl)
        · have w60647 := cv_nle (by decide : (1000 : Int32).toInt = 1000) (rfl : z60644.toInt = z60644.toInt) c60645
          refine lv_aload_n hx hb dX11_putNumber_17 rfl (lv_at hl 0 rfl) ?_
          refine t_get (C := RX11) (T := TX11) (N := 16) X hT m0 g0 rfl rfl 0 (by decide) qw_14 inlX11 rfl dX11_putNumber_18 (fun v60648 hv60648 ov60648 => ?_)
          obtain ⟨b60649, rfl, mb60649, gb60649⟩ := okV_r ov60648
          have gb60649 : tag b60649 = 1 := tg_of gb60649
          refine lv_aload_n hx hb dX11_putNumber_21 rfl (lv_at hl 0 rfl) ?_
          refine t_get (C := RX11) (T := TX11) (N := 16) X hT m0 g0 rfl rfl 1 (by decide) qw_131 inlX11 rfl dX11_putNumber_22 (fun v60650 hv60650 ov60650 => ?_)
          obtain rfl : v60650 = .int z60644 := hv60650.symm.trans hv60643
          refine lv_iload_n hx hb dX11_putNumber_25 rfl (lv_at hl 1 rfl) ?_
          refine lv_iload_n hx hb dX11_putNumber_26 rfl (lv_at hl 2 rfl) ?_
          refine lv_ishr hx hb dX11_putNumber_27 ?_
          refine lv_topi (fun z60651 ez60651 => ?_)
          have rz60651 := rg_all z60651
          refine lv_sipush (v := 255) hx hb dX11_putNumber_28 (by decide) ?_
          refine lv_iand hx hb dX11_putNumber_31 ?_
          refine lv_topi (fun z60652 ez60652 => ?_)
          have rz60652 : 0 ≤ z60652.toInt ∧ z60652.toInt ≤ 255 := ar_and ez60652 8 (by decide) (by decide)
          refine t_ist X hT mb60649 gb60649 rfl (by omega) (show 0 ≤ (z60652 : Int32).toInt ∧ (z60652 : Int32).toInt ≤ 255 from (by omega)) dX11_putNumber_32 (fun F H locs hT v60653 h1v60653 h2v60653 => ?_)
          have hv60643 := (h2v60653 _ _).trans hv60643
          have hv60648 := (h2v60653 _ _).trans hv60648
          have hfr : ∀ b j : Nat, (tag b ≠ 26 ∨ j ≠ 1) → fld F b j = fld Fo b j := fun b j n26_1 => (h2v60653 b j).trans (hfr b j n26_1)
          refine lv_aload_n hx hb dX11_putNumber_33 rfl (lv_at hl 0 rfl) ?_
          refine lv_dup hx hb dX11_putNumber_34 rfl ?_
          refine t_get (C := RX11) (T := TX11) (N := 16) X hT m0 g0 rfl rfl 1 (by decide) qw_131 inlX11 rfl dX11_putNumber_35 (fun v60654 hv60654 ov60654 => ?_)
          obtain rfl : v60654 = .int z60644 := hv60654.symm.trans hv60643
          refine lv_iconst (v := 1) hx hb dX11_putNumber_38 (by decide) ?_
          refine lv_iadd hx hb dX11_putNumber_39 ?_
          refine lv_topi (fun z60655 ez60655 => ?_)
          have hz60655 : z60655.toInt = z60644.toInt + 1 := ar_add ez60655 (rfl : z60644.toInt = z60644.toInt) (by decide : (1 : Int32).toInt = 1) (by omega) (by omega)
          have rz60655 : 1 ≤ z60655.toInt ∧ z60655.toInt ≤ 1000 := by omega
          refine t_put (C := RX11) (T := TX11) (N := 16) (v := .int z60655) X hT m0 g0 rfl tyX11 tyX11_ok nmX11 rfl 1 (by decide) qw_131 inlX11 rfl (by first | rfl | decide) (by first | rfl | decide) rfl (⟨_, rfl, (by omega), (by omega)⟩) dX11_putNumber_40 (fun F H locs hT v60656 h1v60656 h2v60656 => ?_)
          have hv60648 := (h1v60656 _ _ (Or.inr (by decide))).trans hv60648
          have v60653 := (h2v60656 _ _).trans v60653
          have hfr : ∀ b j : Nat, (tag b ≠ 26 ∨ j ≠ 1) → fld F b j = fld Fo b j := fun b j n26_1 => (h1v60656 b j (fr_ne g0 n26_1)).trans (hfr b j n26_1)
          exact K43 z60655 _ _ _ _ (by omega) (by omega) hT hfr v60656 (lv_sub hl [0, 1, 2] rfl)
  refine lv_bipush (v := 24) hx hb dX11_putNumber_0 (by decide) ?_
  refine lv_istore_n (lv' := [(2, .int 24), (0, .ref p0), (1, .int p1)]) hx hb dX11_putNumber_2 rfl hl (by decide) rfl (fun ls hl => ?_)
  have kk60657 : (24 : Int32).toInt = 24 := by decide
  exact K3 33 24 _ _ _ _ (by omega) (by decide) hT hfr  (lv_sub hl [1, 2, 0] rfl)
set_option maxHeartbeats 4000000 in
set_option maxRecDepth 100000 in
theorem kt168_X11_refuse (l : Launch) (G : KG) (tag : Nat → Nat) (L : List Nat) (Fo : Nat → va_E) (ho : okT G ttC tag L Fo) (p0 : Nat) (p1 : Int32) (m0 : p0 ∈ L) (g0 : tag p0 = 26) : TMi l yX11_refuse cX11_refuse 2 (some .int) { frames := 0, cells := 0, slots := 0, locals := 0 } G ttC tag L Fo [.ref p0, .int p1] (fun r F1 => ((-1) ≤ r.toInt ∧ r.toInt ≤ (-1)) ∧ (∀ b j : Nat, (tag b ≠ 26 ∨ j ≠ 13) → fld F1 b j = fld Fo b j)) := by
  refine t_bodyi (y := yX11_refuse) (cd := cX11_refuse) (mL := 2) (rt := (some .int)) (rm := { frames := 0, cells := 0, slots := 0, locals := 0 }) (av := [.ref p0, .int p1]) (by decide) (Nat.le_of_ble_eq_true rfl) ho ?_
  intro p e s m args below meth c ls A Q hQ X hT hl
  have hx := X.1.1
  have hb := X.1.2.1
  have hl : lv_has ls 2 [(0, .ref p0), (1, .int p1)] := hl
  have rp1 := rg_all p1
  obtain ⟨F, hFo⟩ : ∃ F : Nat → va_E, F = Fo := ⟨_, rfl⟩
  rw [← hFo] at hT
  have hfr : ∀ b j : Nat, (tag b ≠ 26 ∨ j ≠ 13) → fld F b j = fld Fo b j := by
    rw [hFo]
    intros
    rfl
  refine lv_aload_n hx hb dX11_refuse_0 rfl (lv_at hl 0 rfl) ?_
  refine lv_iload_n hx hb dX11_refuse_1 rfl (lv_at hl 1 rfl) ?_
  refine t_put (C := RX11) (T := TX11) (N := 16) (v := .int p1) X hT m0 g0 rfl tyX11 tyX11_ok nmX11 rfl 13 (by decide) qw_156 inlX11 rfl (by first | rfl | decide) (by first | rfl | decide) rfl (⟨_, rfl, (by omega), (by omega)⟩) dX11_refuse_2 (fun F H locs hT v60669 h1v60669 h2v60669 => ?_)
  have hfr : ∀ b j : Nat, (tag b ≠ 26 ∨ j ≠ 13) → fld F b j = fld Fo b j := fun b j n26_13 => (h1v60669 b j (fr_ne g0 n26_13)).trans (hfr b j n26_13)
  refine lv_iconst (v := (-1)) hx hb dX11_refuse_5 (by decide) ?_
  exact t_iret hQ X hT (⟨(by decide), hfr⟩) (Nat.le_of_ble_eq_true rfl) (Nat.le_of_ble_eq_true rfl) dX11_refuse_6
set_option maxHeartbeats 4000000 in
set_option maxRecDepth 100000 in
theorem kt169_X11_room (l : Launch) (G : KG) (tag : Nat → Nat) (L : List Nat) (Fo : Nat → va_E) (ho : okT G ttC tag L Fo) (p0 : Nat) (p1 : Int32) (m0 : p0 ∈ L) (g0 : tag p0 = 26) : TMi l yX11_room cX11_room 5 (some .int) { frames := 4, cells := 0, slots := 0, locals := 108 } G ttC tag L Fo [.ref p0, .int p1] (fun r F1 => ((-2147483648) ≤ r.toInt ∧ r.toInt ≤ 2147483647) ∧ (∀ b j : Nat, (tag b ≠ 19 ∨ j ≠ 0) → (tag b ≠ 19 ∨ j ≠ 1) → (tag b ≠ 26 ∨ j ≠ 13) → fld F1 b j = fld Fo b j)) := by
  refine t_bodyi (y := yX11_room) (cd := cX11_room) (mL := 5) (rt := (some .int)) (rm := { frames := 4, cells := 0, slots := 0, locals := 108 }) (av := [.ref p0, .int p1]) (by decide) (Nat.le_of_ble_eq_true rfl) ho ?_
  intro p e s m args below meth c ls A Q hQ X hT hl
  have hx := X.1.1
  have hb := X.1.2.1
  have hl : lv_has ls 5 [(0, .ref p0), (1, .int p1)] := hl
  have rp1 := rg_all p1
  obtain ⟨F, hFo⟩ : ∃ F : Nat → va_E, F = Fo := ⟨_, rfl⟩
  rw [← hFo] at hT
  have hfr : ∀ b j : Nat, (tag b ≠ 19 ∨ j ≠ 0) → (tag b ≠ 19 ∨ j ≠ 1) → (tag b ≠ 26 ∨ j ≠ 13) → fld F b j = fld Fo b j := by
    rw [hFo]
    intros
    rfl
  have K29 : ∀ (n : Nat) (z62041 : Int32) (z62042 : Int32) (F : Nat → va_E) (H : Heap) (locs : List Loc) (ls : Array Slot), (6 - z62042.toInt < (n : Int)) → (0 ≤ z62042.toInt ∧ z62042.toInt ≤ 6) → (0 ≤ p1.toInt ∧ p1.toInt ≤ 3) → TH G ttC A s tag L F H locs → (∀ b j : Nat, (tag b ≠ 19 ∨ j ≠ 0) → (tag b ≠ 19 ∨ j ≠ 1) → (tag b ≠ 26 ∨ j ≠ 13) → fld F b j = fld Fo b j) → lv_has ls 5 [(0, .ref p0), (1, .int p1), (2, .int z62041), (3, .int z62042)] → W p l e { frames := 4, cells := 0, slots := 0, locals := 108 } s m args below meth c H locs 0 0 Q (F0 m 29 ls []) := by
    intro n
    induction n with
    | zero =>
      intro z62041 z62042 F H locs ls hn rz62042 r9s62040 hT hfr hl
      have rz62041 := rg_all z62041
      exfalso
      omega
    | succ n ih29 =>
      intro z62041 z62042 F H locs ls hn rz62042 r9s62040 hT hfr hl
      have rz62041 := rg_all z62041
      have K67 : ∀ (z62044 : Int32) (F : Nat → va_E) (H : Heap) (locs : List Loc) (ls : Array Slot), ((-2) ≤ z62044.toInt ∧ z62044.toInt ≤ 900) → (0 ≤ z62042.toInt ∧ z62042.toInt ≤ 5) → TH G ttC A s tag L F H locs → (∀ b j : Nat, (tag b ≠ 19 ∨ j ≠ 0) → (tag b ≠ 19 ∨ j ≠ 1) → (tag b ≠ 26 ∨ j ≠ 13) → fld F b j = fld Fo b j) → lv_has ls 5 [(0, .ref p0), (1, .int p1), (2, .int z62041), (3, .int z62042)] → W p l e { frames := 4, cells := 0, slots := 0, locals := 108 } s m args below meth c H locs 0 0 Q (F0 m 67 ls [.int z62044]) := by
        intro z62044 F H locs ls rz62044 r9s62043 hT hfr hl
        refine lv_istore (lv' := [(4, .int z62044), (0, .ref p0), (1, .int p1), (2, .int z62041), (3, .int z62042)]) hx hb dX11_room_67 hl (by decide) rfl (fun ls hl => ?_)
        refine lv_iload hx hb dX11_room_69 (lv_at hl 0 rfl) ?_
        refine lv_bipush (v := (-2)) hx hb dX11_room_71 (by decide) ?_
        refine lv_icmp_ne (tgt := 82) hx hb dX11_room_73 (by decide) (fun c62045 => ?_) (fun c62045 => ?_)
        · have w62046 := cv_ne (rfl : z62044.toInt = z62044.toInt) (by decide : ((-2) : Int32).toInt = (-2)) c62045
          refine lv_aload_n hx hb dX11_room_82 rfl (lv_at hl 1 rfl) ?_
          refine t_get (C := RX11) (T := TX11) (N := 16) X hT m0 g0 rfl rfl 7 (by decide) qw_25 inlX11 rfl dX11_room_83 (fun v62047 hv62047 ov62047 => ?_)
          obtain ⟨b62048, rfl, mb62048, gb62048⟩ := okV_r ov62047
          have gb62048 : tag b62048 = 19 := tg_of gb62048
          refine lv_iload_n hx hb dX11_room_86 rfl (lv_at hl 2 rfl) ?_
          refine lv_iconst (v := 0) hx hb dX11_room_87 (by decide) ?_
          refine lv_iload hx hb dX11_room_88 (lv_at hl 0 rfl) ?_
          refine lv_bipush (v := 100) hx hb dX11_room_90 (by decide) ?_
          refine lv_idiv hx hb dX11_room_92 (by decide) ?_
          refine lv_topi (fun z62049 ez62049 => ?_)
          have rz62049 := rg_all z62049
          refine lv_iload hx hb dX11_room_93 (lv_at hl 0 rfl) ?_
          refine lv_bipush (v := 100) hx hb dX11_room_95 (by decide) ?_
          refine lv_irem hx hb dX11_room_97 (by decide) ?_
          refine lv_topi (fun z62050 ez62050 => ?_)
          have rz62050 := rg_all z62050
          refine lv_iconst (v := 0) hx hb dX11_room_98 (by decide) ?_
          refine lv_aload_n hx hb dX11_room_99 rfl (lv_at hl 1 rfl) ?_
          refine t_get (C := RX11) (T := TX11) (N := 16) X hT m0 g0 rfl rfl 7 (by decide) qw_25 inlX11 rfl dX11_room_100 (fun v62051 hv62051 ov62051 => ?_)
          obtain rfl : v62051 = .ref b62048 := hv62051.symm.trans hv62047
          refine t_get (C := RX7) (T := TX7) (N := 7) X hT mb62048 gb62048 rfl rfl 0 (by decide) qw_1225 inlX7 rfl dX11_room_103 (fun v62052 hv62052 ov62052 => ?_)
          obtain ⟨z62053, rfl, rz62053⟩ := okV_i ov62052
          refine t_cVv (n := 6) (C := RX7) (T := TX7) (N := 7) (As := [.int p1, .int 0, .int z62049, .int z62050, .int 0, .int z62053]) (rest := []) X hT (kt70_X7_addSkin l G tag L F hT.2.2.2 b62048 p1 0 z62049 z62050 0 z62053 mb62048 gb62048 (by omega)) mb62048 gb62048 rfl rfl qw_1226 qw_419 qw_420 qw_22 qw_421 ⟨rfl, by decide +kernel, by decide +kernel, by decide +kernel⟩ ⟨Nat.le_of_ble_eq_true rfl, Nat.le_of_ble_eq_true rfl⟩ hl rfl rfl (Nat.le_of_ble_eq_true rfl) dX11_room_106 ⟨Nat.le_of_ble_eq_true rfl, Nat.le_of_ble_eq_true rfl⟩ (fun F H locs hT hz62054 => ?_)
          have yz62054 := hz62054
          have hv62047 := (yz62054 _ 7 ).trans hv62047
          have hv62052 := (yz62054 _ 0 ).trans hv62052
          have hfr : ∀ b j : Nat, (tag b ≠ 19 ∨ j ≠ 0) → (tag b ≠ 19 ∨ j ≠ 1) → (tag b ≠ 26 ∨ j ≠ 13) → fld F b j = fld Fo b j := fun b j n19_0 n19_1 n26_13 => (yz62054 b j ).trans (hfr b j n19_0 n19_1 n26_13)
          obtain ⟨z62055, ez62055⟩ : ∃ y : Int32, y = z62041 + 1 := ⟨_, rfl⟩
          have rz62055 := rg_all z62055
          refine lv_iinc (v := z62055) (lv' := [(2, .int z62055), (4, .int z62044), (0, .ref p0), (1, .int p1), (3, .int z62042)]) hx hb dX11_room_109 hl (k := 3) rfl (by rw [ez62055]; rfl) (by decide) rfl (fun ls hl => ?_)
          obtain ⟨z62056, ez62056⟩ : ∃ y : Int32, y = z62042 + 1 := ⟨_, rfl⟩
          have hz62056 : z62056.toInt = z62042.toInt + 1 := ar_add ez62056 rfl (by decide : (1 : Int32).toInt = 1) (by omega) (by omega)
          refine lv_iinc (v := z62056) (lv' := [(3, .int z62056), (2, .int z62055), (4, .int z62044), (0, .ref p0), (1, .int p1)]) hx hb dX11_room_112 hl (k := 4) rfl (by rw [ez62056]; rfl) (by decide) rfl (fun ls hl => ?_)
          refine lv_goto (tgt := 29) hx hb dX11_room_115 (by decide) ?_
          exact ih29 z62055 z62056 _ _ _ _ (by omega) (by omega) (by omega) hT hfr  (lv_sub hl [3, 4, 1, 0] rfl)
        · have w62057 := cv_eq (rfl : z62044.toInt = z62044.toInt) (by decide : ((-2) : Int32).toInt = (-2)) c62045
          refine lv_aload_n hx hb dX11_room_76 rfl (lv_at hl 1 rfl) ?_
          refine lv_iload_n hx hb dX11_room_77 rfl (lv_at hl 3 rfl) ?_
          refine t_cVi (n := 1) (C := RX11) (T := TX11) (N := 16) (As := [.int z62041]) (rest := []) X hT (kt96_X11_answer l G tag L F hT.2.2.2 p0 z62041 m0 g0) m0 g0 rfl rfl qw_463 qw_464 qw_465 qw_2 qw_466 ⟨rfl, by decide +kernel, by decide +kernel, by decide +kernel⟩ ⟨Nat.le_of_ble_eq_true rfl, Nat.le_of_ble_eq_true rfl⟩ hl rfl rfl (Nat.le_of_ble_eq_true rfl) dX11_room_78 ⟨Nat.le_of_ble_eq_true rfl, Nat.le_of_ble_eq_true rfl⟩ (fun z62058 F H locs hT hz62058 => ?_)
          obtain ⟨hz62058, yz62058⟩ := hz62058
          have hfr : ∀ b j : Nat, (tag b ≠ 19 ∨ j ≠ 0) → (tag b ≠ 19 ∨ j ≠ 1) → (tag b ≠ 26 ∨ j ≠ 13) → fld F b j = fld Fo b j := fun b j n19_0 n19_1 n26_13 => (yz62058 b j n26_13).trans (hfr b j n19_0 n19_1 n26_13)
          exact t_iret hQ X hT (⟨rg_all _, hfr⟩) (Nat.le_of_ble_eq_true rfl) (Nat.le_of_ble_eq_true rfl) dX11_room_81
      refine lv_iload_n hx hb dX11_room_29 rfl (lv_at hl 3 rfl) ?_
      refine lv_bipush (v := 6) hx hb dX11_room_30 (by decide) ?_
      refine lv_icmp_ge (tgt := 118) hx hb dX11_room_32 (by decide) (fun c62059 => ?_) (fun c62059 => ?_)
      · have w62060 := cv_le (by decide : (6 : Int32).toInt = 6) (rfl : z62042.toInt = z62042.toInt) c62059
        refine lv_aload_n hx hb dX11_room_118 rfl (lv_at hl 0 rfl) ?_
        refine lv_iload_n hx hb dX11_room_119 rfl (lv_at hl 2 rfl) ?_
        refine t_cVi (n := 1) (C := RX11) (T := TX11) (N := 16) (As := [.int z62041]) (rest := []) X hT (kt96_X11_answer l G tag L F hT.2.2.2 p0 z62041 m0 g0) m0 g0 rfl rfl qw_463 qw_464 qw_465 qw_2 qw_466 ⟨rfl, by decide +kernel, by decide +kernel, by decide +kernel⟩ ⟨Nat.le_of_ble_eq_true rfl, Nat.le_of_ble_eq_true rfl⟩ hl rfl rfl (Nat.le_of_ble_eq_true rfl) dX11_room_120 ⟨Nat.le_of_ble_eq_true rfl, Nat.le_of_ble_eq_true rfl⟩ (fun z62061 F H locs hT hz62061 => ?_)
        obtain ⟨hz62061, yz62061⟩ := hz62061
        have hfr : ∀ b j : Nat, (tag b ≠ 19 ∨ j ≠ 0) → (tag b ≠ 19 ∨ j ≠ 1) → (tag b ≠ 26 ∨ j ≠ 13) → fld F b j = fld Fo b j := fun b j n19_0 n19_1 n26_13 => (yz62061 b j n26_13).trans (hfr b j n19_0 n19_1 n26_13)
        exact t_iret hQ X hT (⟨rg_all _, hfr⟩) (Nat.le_of_ble_eq_true rfl) (Nat.le_of_ble_eq_true rfl) dX11_room_123
      · have w62062 := cv_nle (by decide : (6 : Int32).toInt = 6) (rfl : z62042.toInt = z62042.toInt) c62059
        refine lv_aload_n hx hb dX11_room_35 rfl (lv_at hl 0 rfl) ?_
        refine t_get (C := RX11) (T := TX11) (N := 16) X hT m0 g0 rfl rfl 3 (by decide) qw_18 inlX11 rfl dX11_room_36 (fun v62063 hv62063 ov62063 => ?_)
        obtain ⟨b62064, rfl, mb62064, gb62064⟩ := okV_r ov62063
        have gb62064 : tag b62064 = 18 := tg_of gb62064
        refine lv_aload_n hx hb dX11_room_39 rfl (lv_at hl 0 rfl) ?_
        refine t_get (C := RX11) (T := TX11) (N := 16) X hT m0 g0 rfl rfl 7 (by decide) qw_25 inlX11 rfl dX11_room_40 (fun v62065 hv62065 ov62065 => ?_)
        obtain ⟨b62066, rfl, mb62066, gb62066⟩ := okV_r ov62065
        have gb62066 : tag b62066 = 19 := tg_of gb62066
        refine lv_iload_n hx hb dX11_room_43 rfl (lv_at hl 1 rfl) ?_
        refine t_cSi (n := 3) (As := [.ref b62064, .ref b62066, .int p1]) (rest := []) X hT (kt66_X6_isFit l G tag L F hT.2.2.2 b62064 b62066 p1 mb62064 gb62064 mb62066 gb62066 (by omega)) qw_904 qw_403 qw_380 qw_404 ⟨by decide +kernel, by decide +kernel, by decide +kernel⟩ ⟨Nat.le_of_ble_eq_true rfl, Nat.le_of_ble_eq_true rfl⟩ hl rfl rfl (Nat.le_of_ble_eq_true rfl) dX11_room_44 ⟨Nat.le_of_ble_eq_true rfl, Nat.le_of_ble_eq_true rfl⟩ (fun z62067 F9 H locs hT hz62067 => ?_)
        obtain ⟨fz62067, hz62067⟩ := hz62067
        rw [fz62067] at hT
        refine lv_if_eq (tgt := 65) hx hb dX11_room_47 (by decide) (fun c62068 => ?_) (fun c62068 => ?_)
        · have w62069 := cv_eq (rfl : z62067.toInt = z62067.toInt) (by decide : (0 : Int32).toInt = 0) c62068
          refine lv_bipush (v := (-2)) hx hb dX11_room_65 (by decide) ?_
          exact K67 (-2) _ _ _ _ (by decide) (by omega) hT hfr  (lv_sub hl [0, 1, 2, 3] rfl)
        · have w62070 := cv_ne (rfl : z62067.toInt = z62067.toInt) (by decide : (0 : Int32).toInt = 0) c62068
          refine lv_aload_n hx hb dX11_room_50 rfl (lv_at hl 0 rfl) ?_
          refine t_get (C := RX11) (T := TX11) (N := 16) X hT m0 g0 rfl rfl 3 (by decide) qw_18 inlX11 rfl dX11_room_51 (fun v62071 hv62071 ov62071 => ?_)
          obtain rfl : v62071 = .ref b62064 := hv62071.symm.trans hv62063
          refine lv_aload_n hx hb dX11_room_54 rfl (lv_at hl 0 rfl) ?_
          refine t_get (C := RX11) (T := TX11) (N := 16) X hT m0 g0 rfl rfl 7 (by decide) qw_25 inlX11 rfl dX11_room_55 (fun v62072 hv62072 ov62072 => ?_)
          obtain rfl : v62072 = .ref b62066 := hv62072.symm.trans hv62065
          refine lv_iload_n hx hb dX11_room_58 rfl (lv_at hl 1 rfl) ?_
          refine t_cSi (n := 3) (As := [.ref b62064, .ref b62066, .int p1]) (rest := []) X hT (kt69_X6_lawDoor l G tag L F hT.2.2.2 b62064 b62066 p1 mb62064 gb62064 mb62066 gb62066 (by omega)) qw_913 qw_914 qw_380 qw_915 ⟨by decide +kernel, by decide +kernel, by decide +kernel⟩ ⟨Nat.le_of_ble_eq_true rfl, Nat.le_of_ble_eq_true rfl⟩ hl rfl rfl (Nat.le_of_ble_eq_true rfl) dX11_room_59 ⟨Nat.le_of_ble_eq_true rfl, Nat.le_of_ble_eq_true rfl⟩ (fun z62073 F9 H locs hT hz62073 => ?_)
          obtain ⟨fz62073, hz62073⟩ := hz62073
          rw [fz62073] at hT
          refine lv_goto (tgt := 67) hx hb dX11_room_62 (by decide) ?_
          exact K67 z62073 _ _ _ _ (by omega) (by omega) hT hfr  (lv_sub hl [0, 1, 2, 3] rfl)
  refine lv_aload_n hx hb dX11_room_0 rfl (lv_at hl 0 rfl) ?_
  refine lv_iload_n hx hb dX11_room_1 rfl (lv_at hl 1 rfl) ?_
  refine t_cVi (n := 1) (C := RX11) (T := TX11) (N := 16) (As := [.int p1]) (rest := []) X hT (kt93_X11_isHouse l G tag L F hT.2.2.2 p0 p1 m0 g0) m0 g0 rfl rfl qw_770 qw_771 qw_772 qw_2 qw_773 ⟨rfl, by decide +kernel, by decide +kernel, by decide +kernel⟩ ⟨Nat.le_of_ble_eq_true rfl, Nat.le_of_ble_eq_true rfl⟩ hl rfl rfl (Nat.le_of_ble_eq_true rfl) dX11_room_2 ⟨Nat.le_of_ble_eq_true rfl, Nat.le_of_ble_eq_true rfl⟩ (fun z62074 F9 H locs hT hz62074 => ?_)
  obtain ⟨fz62074, hz62074⟩ := hz62074
  rw [fz62074] at hT
  obtain ⟨hz62074, iz62074⟩ := hz62074
  refine lv_if_ne (tgt := 14) hx hb dX11_room_5 (by decide) (fun c62075 => ?_) (fun c62075 => ?_)
  · have w62076 := cv_ne (rfl : z62074.toInt = z62074.toInt) (by decide : (0 : Int32).toInt = 0) c62075
    have w62077 := (fun h => (iz62074 h)) (by omega)
    refine lv_aload_n hx hb dX11_room_14 rfl (lv_at hl 0 rfl) ?_
    refine t_get (C := RX11) (T := TX11) (N := 16) X hT m0 g0 rfl rfl 7 (by decide) qw_25 inlX11 rfl dX11_room_15 (fun v62078 hv62078 ov62078 => ?_)
    obtain ⟨b62079, rfl, mb62079, gb62079⟩ := okV_r ov62078
    have gb62079 : tag b62079 = 19 := tg_of gb62079
    refine lv_aload_n hx hb dX11_room_18 rfl (lv_at hl 0 rfl) ?_
    refine t_get (C := RX11) (T := TX11) (N := 16) X hT m0 g0 rfl rfl 5 (by decide) qw_23 inlX11 rfl dX11_room_19 (fun v62080 hv62080 ov62080 => ?_)
    obtain ⟨b62081, rfl, mb62081, gb62081⟩ := okV_r ov62080
    have gb62081 : tag b62081 = 19 := tg_of gb62081
    refine t_cVv (n := 1) (C := RX7) (T := TX7) (N := 7) (As := [.ref b62081]) (rest := []) X hT (kt77_X7_copyFrom l G tag L F hT.2.2.2 b62079 b62081 mb62079 gb62079 mb62081 gb62081) mb62079 gb62079 rfl rfl qw_449 qw_450 qw_451 qw_22 qw_452 ⟨rfl, by decide +kernel, by decide +kernel, by decide +kernel⟩ ⟨Nat.le_of_ble_eq_true rfl, Nat.le_of_ble_eq_true rfl⟩ hl rfl rfl (Nat.le_of_ble_eq_true rfl) dX11_room_22 ⟨Nat.le_of_ble_eq_true rfl, Nat.le_of_ble_eq_true rfl⟩ (fun F H locs hT hz62082 => ?_)
    have yz62082 := hz62082
    have hv62078 := (yz62082 _ 7 (Or.inr (by decide)) (Or.inr (by decide))).trans hv62078
    have hv62080 := (yz62082 _ 5 (Or.inr (by decide)) (Or.inr (by decide))).trans hv62080
    have hfr : ∀ b j : Nat, (tag b ≠ 19 ∨ j ≠ 0) → (tag b ≠ 19 ∨ j ≠ 1) → (tag b ≠ 26 ∨ j ≠ 13) → fld F b j = fld Fo b j := fun b j n19_0 n19_1 n26_13 => (yz62082 b j n19_0 n19_1).trans (hfr b j n19_0 n19_1 n26_13)
    refine lv_iconst (v := 0) hx hb dX11_room_25 (by decide) ?_
    refine lv_istore_n (lv' := [(2, .int 0), (0, .ref p0), (1, .int p1)]) hx hb dX11_room_26 rfl hl (by decide) rfl (fun ls hl => ?_)
    refine lv_iconst (v := 0) hx hb dX11_room_27 (by decide) ?_
    refine lv_istore_n (lv' := [(3, .int 0), (2, .int 0), (0, .ref p0), (1, .int p1)]) hx hb dX11_room_28 rfl hl (by decide) rfl (fun ls hl => ?_)
    have kk62083 : (0 : Int32).toInt = 0 := by decide
    have kk62084 : (0 : Int32).toInt = 0 := by decide
    exact K29 7 0 0 _ _ _ _ (by omega) (by decide) (by omega) hT hfr  (lv_sub hl [2, 3, 1, 0] rfl)
  · have w62085 := cv_eq (rfl : z62074.toInt = z62074.toInt) (by decide : (0 : Int32).toInt = 0) c62075
    refine lv_aload_n hx hb dX11_room_8 rfl (lv_at hl 0 rfl) ?_
    refine lv_iconst (v := 1) hx hb dX11_room_9 (by decide) ?_
    refine t_cVi (n := 1) (C := RX11) (T := TX11) (N := 16) (As := [.int 1]) (rest := []) X hT (kt97_X11_refuse l G tag L F hT.2.2.2 p0 1 m0 g0) m0 g0 rfl rfl qw_152 qw_153 qw_154 qw_2 qw_155 ⟨rfl, by decide +kernel, by decide +kernel, by decide +kernel⟩ ⟨Nat.le_of_ble_eq_true rfl, Nat.le_of_ble_eq_true rfl⟩ hl rfl rfl (Nat.le_of_ble_eq_true rfl) dX11_room_10 ⟨Nat.le_of_ble_eq_true rfl, Nat.le_of_ble_eq_true rfl⟩ (fun z62086 F H locs hT hz62086 => ?_)
    obtain ⟨hz62086, yz62086⟩ := hz62086
    have hfr : ∀ b j : Nat, (tag b ≠ 19 ∨ j ≠ 0) → (tag b ≠ 19 ∨ j ≠ 1) → (tag b ≠ 26 ∨ j ≠ 13) → fld F b j = fld Fo b j := fun b j n19_0 n19_1 n26_13 => (yz62086 b j n26_13).trans (hfr b j n19_0 n19_1 n26_13)
    exact t_iret hQ X hT (⟨rg_all _, hfr⟩) (Nat.le_of_ble_eq_true rfl) (Nat.le_of_ble_eq_true rfl) dX11_room_13
set_option maxHeartbeats 4000000 in
set_option maxRecDepth 100000 in
theorem kt170_X11_round (l : Launch) (G : KG) (tag : Nat → Nat) (L : List Nat) (Fo : Nat → va_E) (ho : okT G ttC tag L Fo) (p0 : Nat) (p1 : Int32) (p2 : Int32) (m0 : p0 ∈ L) (g0 : tag p0 = 26) : TMi l yX11_round cX11_round 3 (some .int) { frames := 3, cells := 0, slots := 0, locals := 68 } G ttC tag L Fo [.ref p0, .int p1, .int p2] (fun r F1 => ((-2147483648) ≤ r.toInt ∧ r.toInt ≤ 2147483647) ∧ (∀ b j : Nat, (tag b ≠ 26 ∨ j ≠ 13) → fld F1 b j = fld Fo b j)) := by
  refine t_bodyi (y := yX11_round) (cd := cX11_round) (mL := 3) (rt := (some .int)) (rm := { frames := 3, cells := 0, slots := 0, locals := 68 }) (av := [.ref p0, .int p1, .int p2]) (by decide) (Nat.le_of_ble_eq_true rfl) ho ?_
  intro p e s m args below meth c ls A Q hQ X hT hl
  have hx := X.1.1
  have hb := X.1.2.1
  have hl : lv_has ls 3 [(0, .ref p0), (1, .int p1), (2, .int p2)] := hl
  have rp1 := rg_all p1
  have rp2 := rg_all p2
  obtain ⟨F, hFo⟩ : ∃ F : Nat → va_E, F = Fo := ⟨_, rfl⟩
  rw [← hFo] at hT
  have hfr : ∀ b j : Nat, (tag b ≠ 26 ∨ j ≠ 13) → fld F b j = fld Fo b j := by
    rw [hFo]
    intros
    rfl
  have K14 : ∀  (F : Nat → va_E) (H : Heap) (locs : List Loc) (ls : Array Slot), TH G ttC A s tag L F H locs → (∀ b j : Nat, (tag b ≠ 26 ∨ j ≠ 13) → fld F b j = fld Fo b j) → lv_has ls 3 [(0, .ref p0), (1, .int p1), (2, .int p2)] → W p l e { frames := 3, cells := 0, slots := 0, locals := 68 } s m args below meth c H locs 0 0 Q (F0 m 14 ls []) := by
    intro F H locs ls hT hfr hl
    refine lv_aload_n hx hb dX11_round_14 rfl (lv_at hl 0 rfl) ?_
    refine lv_iconst (v := 1) hx hb dX11_round_15 (by decide) ?_
    refine t_cVi (n := 1) (C := RX11) (T := TX11) (N := 16) (As := [.int 1]) (rest := []) X hT (kt97_X11_refuse l G tag L F hT.2.2.2 p0 1 m0 g0) m0 g0 rfl rfl qw_152 qw_153 qw_154 qw_2 qw_155 ⟨rfl, by decide +kernel, by decide +kernel, by decide +kernel⟩ ⟨Nat.le_of_ble_eq_true rfl, Nat.le_of_ble_eq_true rfl⟩ hl rfl rfl (Nat.le_of_ble_eq_true rfl) dX11_round_16 ⟨Nat.le_of_ble_eq_true rfl, Nat.le_of_ble_eq_true rfl⟩ (fun z62252 F H locs hT hz62252 => ?_)
    obtain ⟨hz62252, yz62252⟩ := hz62252
    have hfr : ∀ b j : Nat, (tag b ≠ 26 ∨ j ≠ 13) → fld F b j = fld Fo b j := fun b j n26_13 => (yz62252 b j n26_13).trans (hfr b j n26_13)
    exact t_iret hQ X hT (⟨rg_all _, hfr⟩) (Nat.le_of_ble_eq_true rfl) (Nat.le_of_ble_eq_true rfl) dX11_round_19
  refine lv_aload_n hx hb dX11_round_0 rfl (lv_at hl 0 rfl) ?_
  refine lv_iload_n hx hb dX11_round_1 rfl (lv_at hl 1 rfl) ?_
  refine lv_iload_n hx hb dX11_round_2 rfl (lv_at hl 2 rfl) ?_
  refine t_cVi (n := 2) (C := RX11) (T := TX11) (N := 16) (As := [.int p1, .int p2]) (rest := []) X hT (kt104_X11_isSkin l G tag L F hT.2.2.2 p0 p1 p2 m0 g0) m0 g0 rfl rfl qw_823 qw_824 qw_825 qw_2 qw_826 ⟨rfl, by decide +kernel, by decide +kernel, by decide +kernel⟩ ⟨Nat.le_of_ble_eq_true rfl, Nat.le_of_ble_eq_true rfl⟩ hl rfl rfl (Nat.le_of_ble_eq_true rfl) dX11_round_3 ⟨Nat.le_of_ble_eq_true rfl, Nat.le_of_ble_eq_true rfl⟩ (fun z62253 F9 H locs hT hz62253 => ?_)
  obtain ⟨fz62253, hz62253⟩ := hz62253
  rw [fz62253] at hT
  obtain ⟨hz62253, iz62253⟩ := hz62253
  refine lv_if_eq (tgt := 14) hx hb dX11_round_6 (by decide) (fun c62254 => ?_) (fun c62254 => ?_)
  · have w62255 := cv_eq (rfl : z62253.toInt = z62253.toInt) (by decide : (0 : Int32).toInt = 0) c62254
    exact K14  _ _ _ _  hT hfr  (lv_sub hl [0, 1, 2] rfl)
  · have w62256 := cv_ne (rfl : z62253.toInt = z62253.toInt) (by decide : (0 : Int32).toInt = 0) c62254
    have w62257 := (fun h => (iz62253 h).1) (by omega)
    have w62258 := (fun h => (iz62253 h).2) (by omega)
    refine lv_iload_n hx hb dX11_round_9 rfl (lv_at hl 2 rfl) ?_
    refine lv_iconst (v := 2) hx hb dX11_round_10 (by decide) ?_
    refine lv_icmp_ge (tgt := 20) hx hb dX11_round_11 (by decide) (fun c62259 => ?_) (fun c62259 => ?_)
    · have w62260 := cv_le (by decide : (2 : Int32).toInt = 2) (rfl : p2.toInt = p2.toInt) c62259
      refine lv_aload_n hx hb dX11_round_20 rfl (lv_at hl 0 rfl) ?_
      refine lv_aload_n hx hb dX11_round_21 rfl (lv_at hl 0 rfl) ?_
      refine t_get (C := RX11) (T := TX11) (N := 16) X hT m0 g0 rfl rfl 5 (by decide) qw_23 inlX11 rfl dX11_round_22 (fun v62261 hv62261 ov62261 => ?_)
      obtain ⟨b62262, rfl, mb62262, gb62262⟩ := okV_r ov62261
      have gb62262 : tag b62262 = 19 := tg_of gb62262
      refine lv_iload_n hx hb dX11_round_25 rfl (lv_at hl 1 rfl) ?_
      refine lv_iload_n hx hb dX11_round_26 rfl (lv_at hl 2 rfl) ?_
      refine t_cVi (n := 2) (C := RX7) (T := TX7) (N := 7) (As := [.int p1, .int p2]) (rest := [.ref p0]) X hT (kt34_X7_roundIn l G tag L F hT.2.2.2 b62262 p1 p2 mb62262 gb62262) mb62262 gb62262 rfl rfl qw_1083 qw_989 qw_990 qw_22 qw_991 ⟨rfl, by decide +kernel, by decide +kernel, by decide +kernel⟩ ⟨Nat.le_of_ble_eq_true rfl, Nat.le_of_ble_eq_true rfl⟩ hl rfl rfl (Nat.le_of_ble_eq_true rfl) dX11_round_27 ⟨Nat.le_of_ble_eq_true rfl, Nat.le_of_ble_eq_true rfl⟩ (fun z62263 F9 H locs hT hz62263 => ?_)
      obtain ⟨fz62263, hz62263⟩ := hz62263
      rw [fz62263] at hT
      refine t_cVi (n := 1) (C := RX11) (T := TX11) (N := 16) (As := [.int z62263]) (rest := []) X hT (kt96_X11_answer l G tag L F hT.2.2.2 p0 z62263 m0 g0) m0 g0 rfl rfl qw_463 qw_464 qw_465 qw_2 qw_466 ⟨rfl, by decide +kernel, by decide +kernel, by decide +kernel⟩ ⟨Nat.le_of_ble_eq_true rfl, Nat.le_of_ble_eq_true rfl⟩ hl rfl rfl (Nat.le_of_ble_eq_true rfl) dX11_round_30 ⟨Nat.le_of_ble_eq_true rfl, Nat.le_of_ble_eq_true rfl⟩ (fun z62264 F H locs hT hz62264 => ?_)
      obtain ⟨hz62264, yz62264⟩ := hz62264
      have hv62261 := (yz62264 _ 5 (Or.inr (by decide))).trans hv62261
      have hfr : ∀ b j : Nat, (tag b ≠ 26 ∨ j ≠ 13) → fld F b j = fld Fo b j := fun b j n26_13 => (yz62264 b j n26_13).trans (hfr b j n26_13)
      exact t_iret hQ X hT (⟨rg_all _, hfr⟩) (Nat.le_of_ble_eq_true rfl) (Nat.le_of_ble_eq_true rfl) dX11_round_33
    · have w62265 := cv_nle (by decide : (2 : Int32).toInt = 2) (rfl : p2.toInt = p2.toInt) c62259
      exact K14  _ _ _ _  hT hfr  (lv_sub hl [0, 1, 2] rfl)
