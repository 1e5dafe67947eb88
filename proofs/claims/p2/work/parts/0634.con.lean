set_option maxHeartbeats 4000000 in
set_option maxRecDepth 100000 in
theorem km484_X11_feed (l : Launch) (G : KG) (tag : Nat → Nat) (L : List Nat) (Fo : Nat → va_E) (ho : okT G ttC tag L Fo) (p0 : Nat) (p1 : Int32) (p2 : Int32) (p3 : Int32) (p4 : Int32) (p5 : Int32) (x0 : Int32) (m0 : p0 ∈ L) (g0 : tag p0 = 26) (hx0 : 0 ≤ x0.toInt ∧ x0.toInt ≤ 1000) (pf0 : fld Fo p0 1 = .int x0) : TMi l yX11_feed cX11_feed 6 (some .int) { frames := 1, cells := 0, slots := 0, locals := 22 } G ttC tag L Fo [.ref p0, .int p1, .int p2, .int p3, .int p4, .int p5] (fun r F1 => ((-2147483648) ≤ r.toInt ∧ r.toInt ≤ 2147483647) ∧ ((∀ b j : Nat, (tag b ≠ 26 ∨ j ≠ 1) → fld F1 b j = fld Fo b j) ∧ (∀ b j : Nat, tag b ≠ 1 → elm F1 b j = elm Fo b j)) ∧ (∃ z : Int32, fld F1 p0 1 = .int z ∧ (x0.toInt ≤ 980 → z.toInt = x0.toInt + 20 ∧ r.toInt = x0.toInt + 20) ∧ (980 < x0.toInt → z.toInt = x0.toInt ∧ r.toInt = -1))) := by
  refine t_bodyi (y := yX11_feed) (cd := cX11_feed) (mL := 6) (rt := (some .int)) (rm := { frames := 1, cells := 0, slots := 0, locals := 22 }) (av := [.ref p0, .int p1, .int p2, .int p3, .int p4, .int p5]) (by decide) (Nat.le_of_ble_eq_true rfl) ho ?_
  intro p e s m args below meth c ls A Q hQ X hT hl
  have hx := X.1.1
  have hb := X.1.2.1
  have hl : lv_has ls 6 [(0, .ref p0), (1, .int p1), (2, .int p2), (3, .int p3), (4, .int p4), (5, .int p5)] := hl
  have rp1 := rg_all p1
  have rp2 := rg_all p2
  have rp3 := rg_all p3
  have rp4 := rg_all p4
  have rp5 := rg_all p5
  obtain ⟨F, hFo⟩ : ∃ F : Nat → va_E, F = Fo := ⟨_, rfl⟩
  rw [← hFo] at hT pf0
  have hfr : (∀ b j : Nat, (tag b ≠ 26 ∨ j ≠ 1) → fld F b j = fld Fo b j) ∧ (∀ b j : Nat, tag b ≠ 1 → elm F b j = elm Fo b j) := by
    rw [hFo]
    exact ⟨by intros; rfl, by intros; rfl⟩
  refine lv_aload_n hx hb dX11_feed_0 rfl (lv_at hl 0 rfl) ?_
  refine t_get (C := RX11) (T := TX11) (N := 16) X hT m0 g0 rfl rfl 1 (by decide) qw_131 inlX11 rfl dX11_feed_1 (fun v171808 hv171808 ov171808 => ?_)
  obtain rfl : v171808 = .int x0 := hv171808.symm.trans pf0
  refine lv_bipush (v := 20) hx hb dX11_feed_4 (by decide) ?_
  refine lv_iadd hx hb dX11_feed_6 ?_
  refine lv_topi (fun z171809 ez171809 => ?_)
  have hz171809 : z171809.toInt = x0.toInt + 20 := ar_add ez171809 (rfl : x0.toInt = x0.toInt) (by decide : (20 : Int32).toInt = 20) (by omega) (by omega)
  have rz171809 : 20 ≤ z171809.toInt ∧ z171809.toInt ≤ 1020 := by omega
  refine lv_sipush (v := 1000) hx hb dX11_feed_7 (by decide) ?_
  refine lv_icmp_le (tgt := 15) hx hb dX11_feed_10 (by decide) (fun c171810 => ?_) (fun c171810 => ?_)
  · have w171811 := cv_le (rfl : z171809.toInt = z171809.toInt) (by decide : (1000 : Int32).toInt = 1000) c171810
    have w171812 : 0 ≤ x0.toInt ∧ x0.toInt ≤ 980 := by omega
    refine lv_aload_n hx hb dX11_feed_15 rfl (lv_at hl 0 rfl) ?_
    refine lv_iload_n hx hb dX11_feed_16 rfl (lv_at hl 1 rfl) ?_
    refine t_cVv (n := 1) (C := RX11) (T := TX11) (N := 16) (As := [.int p1]) (rest := []) X hT (km483_X11_putNumber l G tag L F hT.2.2.2 p0 p1 x0 m0 g0 (by omega) pf0) m0 g0 rfl rfl qw_132 qw_133 qw_134 qw_2 qw_135 ⟨rfl, by decide +kernel, by decide +kernel, by decide +kernel⟩ ⟨Nat.le_of_ble_eq_true rfl, Nat.le_of_ble_eq_true rfl⟩ hl rfl rfl (Nat.le_of_ble_eq_true rfl) dX11_feed_17 ⟨Nat.le_of_ble_eq_true rfl, Nat.le_of_ble_eq_true rfl⟩ (fun F H locs hT hz171813 => ?_)
    obtain ⟨yz171813, xz171813_0⟩ := hz171813
    have hfr : (∀ b j : Nat, (tag b ≠ 26 ∨ j ≠ 1) → fld F b j = fld Fo b j) ∧ (∀ b j : Nat, tag b ≠ 1 → elm F b j = elm Fo b j) := ⟨fun b j n26_1 => (yz171813.1 b j n26_1).trans (hfr.1 b j n26_1), fun b j a1 => (yz171813.2 b j a1).trans (hfr.2 b j a1)⟩
    obtain ⟨z171814, qz171814, hz171814⟩ := xz171813_0
    have rz171814 : 4 ≤ z171814.toInt ∧ z171814.toInt ≤ 984 := by omega
    refine lv_aload_n hx hb dX11_feed_20 rfl (lv_at hl 0 rfl) ?_
    refine lv_iload_n hx hb dX11_feed_21 rfl (lv_at hl 2 rfl) ?_
    refine t_cVv (n := 1) (C := RX11) (T := TX11) (N := 16) (As := [.int p2]) (rest := []) X hT (km483_X11_putNumber l G tag L F hT.2.2.2 p0 p2 z171814 m0 g0 (by omega) qz171814) m0 g0 rfl rfl qw_132 qw_133 qw_134 qw_2 qw_135 ⟨rfl, by decide +kernel, by decide +kernel, by decide +kernel⟩ ⟨Nat.le_of_ble_eq_true rfl, Nat.le_of_ble_eq_true rfl⟩ hl rfl rfl (Nat.le_of_ble_eq_true rfl) dX11_feed_22 ⟨Nat.le_of_ble_eq_true rfl, Nat.le_of_ble_eq_true rfl⟩ (fun F H locs hT hz171815 => ?_)
    obtain ⟨yz171815, xz171815_0⟩ := hz171815
    have hfr : (∀ b j : Nat, (tag b ≠ 26 ∨ j ≠ 1) → fld F b j = fld Fo b j) ∧ (∀ b j : Nat, tag b ≠ 1 → elm F b j = elm Fo b j) := ⟨fun b j n26_1 => (yz171815.1 b j n26_1).trans (hfr.1 b j n26_1), fun b j a1 => (yz171815.2 b j a1).trans (hfr.2 b j a1)⟩
    obtain ⟨z171816, qz171816, hz171816⟩ := xz171815_0
    have rz171816 : 8 ≤ z171816.toInt ∧ z171816.toInt ≤ 988 := by omega
    refine lv_aload_n hx hb dX11_feed_25 rfl (lv_at hl 0 rfl) ?_
    refine lv_iload_n hx hb dX11_feed_26 rfl (lv_at hl 3 rfl) ?_
    refine t_cVv (n := 1) (C := RX11) (T := TX11) (N := 16) (As := [.int p3]) (rest := []) X hT (km483_X11_putNumber l G tag L F hT.2.2.2 p0 p3 z171816 m0 g0 (by omega) qz171816) m0 g0 rfl rfl qw_132 qw_133 qw_134 qw_2 qw_135 ⟨rfl, by decide +kernel, by decide +kernel, by decide +kernel⟩ ⟨Nat.le_of_ble_eq_true rfl, Nat.le_of_ble_eq_true rfl⟩ hl rfl rfl (Nat.le_of_ble_eq_true rfl) dX11_feed_27 ⟨Nat.le_of_ble_eq_true rfl, Nat.le_of_ble_eq_true rfl⟩ (fun F H locs hT hz171817 => ?_)
    obtain ⟨yz171817, xz171817_0⟩ := hz171817
    have hfr : (∀ b j : Nat, (tag b ≠ 26 ∨ j ≠ 1) → fld F b j = fld Fo b j) ∧ (∀ b j : Nat, tag b ≠ 1 → elm F b j = elm Fo b j) := ⟨fun b j n26_1 => (yz171817.1 b j n26_1).trans (hfr.1 b j n26_1), fun b j a1 => (yz171817.2 b j a1).trans (hfr.2 b j a1)⟩
    obtain ⟨z171818, qz171818, hz171818⟩ := xz171817_0
    have rz171818 : 12 ≤ z171818.toInt ∧ z171818.toInt ≤ 992 := by omega
    refine lv_aload_n hx hb dX11_feed_30 rfl (lv_at hl 0 rfl) ?_
    refine lv_iload hx hb dX11_feed_31 (lv_at hl 4 rfl) ?_
    refine t_cVv (n := 1) (C := RX11) (T := TX11) (N := 16) (As := [.int p4]) (rest := []) X hT (km483_X11_putNumber l G tag L F hT.2.2.2 p0 p4 z171818 m0 g0 (by omega) qz171818) m0 g0 rfl rfl qw_132 qw_133 qw_134 qw_2 qw_135 ⟨rfl, by decide +kernel, by decide +kernel, by decide +kernel⟩ ⟨Nat.le_of_ble_eq_true rfl, Nat.le_of_ble_eq_true rfl⟩ hl rfl rfl (Nat.le_of_ble_eq_true rfl) dX11_feed_33 ⟨Nat.le_of_ble_eq_true rfl, Nat.le_of_ble_eq_true rfl⟩ (fun F H locs hT hz171819 => ?_)
    obtain ⟨yz171819, xz171819_0⟩ := hz171819
    have hfr : (∀ b j : Nat, (tag b ≠ 26 ∨ j ≠ 1) → fld F b j = fld Fo b j) ∧ (∀ b j : Nat, tag b ≠ 1 → elm F b j = elm Fo b j) := ⟨fun b j n26_1 => (yz171819.1 b j n26_1).trans (hfr.1 b j n26_1), fun b j a1 => (yz171819.2 b j a1).trans (hfr.2 b j a1)⟩
    obtain ⟨z171820, qz171820, hz171820⟩ := xz171819_0
    have rz171820 : 16 ≤ z171820.toInt ∧ z171820.toInt ≤ 996 := by omega
    refine lv_aload_n hx hb dX11_feed_36 rfl (lv_at hl 0 rfl) ?_
    refine lv_iload hx hb dX11_feed_37 (lv_at hl 5 rfl) ?_
    refine t_cVv (n := 1) (C := RX11) (T := TX11) (N := 16) (As := [.int p5]) (rest := []) X hT (km483_X11_putNumber l G tag L F hT.2.2.2 p0 p5 z171820 m0 g0 (by omega) qz171820) m0 g0 rfl rfl qw_132 qw_133 qw_134 qw_2 qw_135 ⟨rfl, by decide +kernel, by decide +kernel, by decide +kernel⟩ ⟨Nat.le_of_ble_eq_true rfl, Nat.le_of_ble_eq_true rfl⟩ hl rfl rfl (Nat.le_of_ble_eq_true rfl) dX11_feed_39 ⟨Nat.le_of_ble_eq_true rfl, Nat.le_of_ble_eq_true rfl⟩ (fun F H locs hT hz171821 => ?_)
    obtain ⟨yz171821, xz171821_0⟩ := hz171821
    have hfr : (∀ b j : Nat, (tag b ≠ 26 ∨ j ≠ 1) → fld F b j = fld Fo b j) ∧ (∀ b j : Nat, tag b ≠ 1 → elm F b j = elm Fo b j) := ⟨fun b j n26_1 => (yz171821.1 b j n26_1).trans (hfr.1 b j n26_1), fun b j a1 => (yz171821.2 b j a1).trans (hfr.2 b j a1)⟩
    obtain ⟨z171822, qz171822, hz171822⟩ := xz171821_0
    have rz171822 : 20 ≤ z171822.toInt ∧ z171822.toInt ≤ 1000 := by omega
    refine lv_aload_n hx hb dX11_feed_42 rfl (lv_at hl 0 rfl) ?_
    refine t_get (C := RX11) (T := TX11) (N := 16) X hT m0 g0 rfl rfl 1 (by decide) qw_131 inlX11 rfl dX11_feed_43 (fun v171823 hv171823 ov171823 => ?_)
    obtain rfl : v171823 = .int z171822 := hv171823.symm.trans qz171822
    exact t_iret hQ X hT (⟨rg_all _, hfr, ⟨_, qz171822, by omega, by omega⟩⟩) (Nat.le_of_ble_eq_true rfl) (Nat.le_of_ble_eq_true rfl) dX11_feed_46
  · have w171824 := cv_nle (rfl : z171809.toInt = z171809.toInt) (by decide : (1000 : Int32).toInt = 1000) c171810
    refine lv_iconst (v := (-1)) hx hb dX11_feed_13 (by decide) ?_
    have k171825 : ((-1) : Int32).toInt = (-1) := by decide
    exact t_iret hQ X hT (⟨rg_all _, hfr, ⟨_, pf0, by omega, by omega⟩⟩) (Nat.le_of_ble_eq_true rfl) (Nat.le_of_ble_eq_true rfl) dX11_feed_14
