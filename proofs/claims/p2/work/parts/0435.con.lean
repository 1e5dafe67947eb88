theorem kp_X13_years (l : Launch) (G : KG) (tag : Nat → Nat) (L : List Nat) (Fo : Nat → va_E) (ho : okT G ttC tag L Fo) (p0 : Nat) (p1 : Int32) (m0 : p0 ∈ L) (g0 : tag p0 = 46) : TMi l yX13_years cX13_years 3 (some .int) { frames := 7, cells := 0, slots := 0, locals := 170 } G ttC tag L Fo [.ref p0, .int p1] (fun r F1 => ((-2147483648) ≤ r.toInt ∧ r.toInt ≤ 2147483647) ∧ ((∀ b j : Nat, (tag b ≠ 46 ∨ j ≠ 0) → (tag b ≠ 46 ∨ j ≠ 1) → (tag b ≠ 46 ∨ j ≠ 2) → (tag b ≠ 46 ∨ j ≠ 20) → (tag b ≠ 46 ∨ j ≠ 22) → (tag b ≠ 46 ∨ j ≠ 23) → fld F1 b j = fld Fo b j) ∧ (∀ b j : Nat, tag b ≠ 37 → tag b ≠ 38 → tag b ≠ 40 → elm F1 b j = elm Fo b j))) := by
  rcases t_fldn ho m0 g0 rfl 3 rfl with h9 | ⟨b9, h9, m9, t9⟩
  · exact km247_X13_years l G tag L Fo ho p0 p1  m0 g0 h9 
  · exact km246_X13_years l G tag L Fo ho p0 p1 b9  m0 g0 m9 (tg_of t9) h9 
set_option maxHeartbeats 4000000 in
set_option maxRecDepth 100000 in
theorem km249_X13_build (l : Launch) (G : KG) (tag : Nat → Nat) (L : List Nat) (Fo : Nat → va_E) (ho : okT G ttC tag L Fo) (p0 : Nat) (p1 : Int32) (p2 : Int32) (p3 : Int32) (p4 : Int32) (p5 : Int32) (x0 : Nat) (m0 : p0 ∈ L) (g0 : tag p0 = 46) (mx0 : x0 ∈ L) (gx0 : tag x0 = 45) (pf0 : fld Fo p0 3 = .ref x0) : TMi l yX13_build cX13_build 8 (some .int) { frames := 4, cells := 0, slots := 0, locals := 98 } G ttC tag L Fo [.ref p0, .int p1, .int p2, .int p3, .int p4, .int p5] (fun r F1 => ((-2147483648) ≤ r.toInt ∧ r.toInt ≤ 2147483647) ∧ ((∀ b j : Nat, (tag b ≠ 46 ∨ j ≠ 0) → (tag b ≠ 46 ∨ j ≠ 1) → (tag b ≠ 46 ∨ j ≠ 2) → (tag b ≠ 46 ∨ j ≠ 20) → fld F1 b j = fld Fo b j) ∧ (∀ b j : Nat, tag b ≠ 37 → tag b ≠ 38 → elm F1 b j = elm Fo b j))) := by
  refine t_bodyi (y := yX13_build) (cd := cX13_build) (mL := 8) (rt := (some .int)) (rm := { frames := 4, cells := 0, slots := 0, locals := 98 }) (av := [.ref p0, .int p1, .int p2, .int p3, .int p4, .int p5]) (by decide) (Nat.le_of_ble_eq_true rfl) ho ?_
  intro p e s m args below meth c ls A Q hQ X hT hl
  have hx := X.1.1
  have hb := X.1.2.1
  have hl : lv_has ls 8 [(0, .ref p0), (1, .int p1), (2, .int p2), (3, .int p3), (4, .int p4), (5, .int p5)] := hl
  have rp1 := rg_all p1
  have rp2 := rg_all p2
  have rp3 := rg_all p3
  have rp4 := rg_all p4
  have rp5 := rg_all p5
  obtain ⟨F, hFo⟩ : ∃ F : Nat → va_E, F = Fo := ⟨_, rfl⟩
  rw [← hFo] at hT pf0
  have hfr : (∀ b j : Nat, (tag b ≠ 46 ∨ j ≠ 0) → (tag b ≠ 46 ∨ j ≠ 1) → (tag b ≠ 46 ∨ j ≠ 2) → (tag b ≠ 46 ∨ j ≠ 20) → fld F b j = fld Fo b j) ∧ (∀ b j : Nat, tag b ≠ 37 → tag b ≠ 38 → elm F b j = elm Fo b j) := by
    rw [hFo]
    exact ⟨by intros; rfl, by intros; rfl⟩
  refine lv_aload_n hx hb dX13_build_0 rfl (lv_at hl 0 rfl) ?_
  refine lv_iconst (v := 0) hx hb dX13_build_1 (by decide) ?_
  refine t_put (C := RX13) (T := TX13) (N := 37) (v := .int 0) X hT m0 g0 rfl tyX13 tyX13_ok nmX13 rfl 0 (by decide) qw_140 inlX13 rfl (by first | rfl | decide) (by first | rfl | decide) rfl (⟨_, rfl, (show (-2147483648) ≤ (0 : Int32).toInt from (by decide)), (show (0 : Int32).toInt ≤ 2147483647 from (by decide))⟩) dX13_build_2 (fun F H locs hT v77394 h1v77394 h2v77394 => ?_)
  have pf0 := (h1v77394 _ _ (Or.inr (by decide))).trans pf0
  have hfr : (∀ b j : Nat, (tag b ≠ 46 ∨ j ≠ 0) → (tag b ≠ 46 ∨ j ≠ 1) → (tag b ≠ 46 ∨ j ≠ 2) → (tag b ≠ 46 ∨ j ≠ 20) → fld F b j = fld Fo b j) ∧ (∀ b j : Nat, tag b ≠ 37 → tag b ≠ 38 → elm F b j = elm Fo b j) := ⟨fun b j n46_0 n46_1 n46_2 n46_20 => (h1v77394 b j (fr_ne g0 n46_0)).trans (hfr.1 b j n46_0 n46_1 n46_2 n46_20), fun b j a37 a38 => (h2v77394 b j).trans (hfr.2 b j a37 a38)⟩
  refine lv_aload_n hx hb dX13_build_5 rfl (lv_at hl 0 rfl) ?_
  refine lv_iload_n hx hb dX13_build_6 rfl (lv_at hl 1 rfl) ?_
  refine t_cVi (n := 1) (C := RX13) (T := TX13) (N := 37) (As := [.int p1]) (rest := []) X hT (km107_X13_isHouse l G tag L F hT.2.2.2 p0 p1 x0 m0 g0 mx0 gx0 pf0) m0 g0 rfl rfl qw_796 qw_797 qw_798 qw_5 qw_799 ⟨rfl, by decide +kernel, by decide +kernel, by decide +kernel⟩ ⟨Nat.le_of_ble_eq_true rfl, Nat.le_of_ble_eq_true rfl⟩ hl rfl rfl (Nat.le_of_ble_eq_true rfl) dX13_build_7 ⟨Nat.le_of_ble_eq_true rfl, Nat.le_of_ble_eq_true rfl⟩ (fun z77395 F9 H locs hT hz77395 => ?_)
  obtain ⟨fz77395, hz77395⟩ := hz77395
  rw [fz77395] at hT
  obtain ⟨hz77395, iz77395⟩ := hz77395
  refine lv_if_eq (tgt := 30) hx hb dX13_build_10 (by decide) (fun c77396 => ?_) (fun c77396 => ?_)
  · have w77397 := cv_eq (rfl : z77395.toInt = z77395.toInt) (by decide : (0 : Int32).toInt = 0) c77396
    refine lv_aload_n hx hb dX13_build_30 rfl (lv_at hl 0 rfl) ?_
    refine lv_iconst (v := 1) hx hb dX13_build_31 (by decide) ?_
    refine t_cVi (n := 1) (C := RX13) (T := TX13) (N := 37) (As := [.int 1]) (rest := []) X hT (km88_X13_refused l G tag L F hT.2.2.2 p0 1 m0 g0) m0 g0 rfl rfl qw_484 qw_485 qw_486 qw_5 qw_487 ⟨rfl, by decide +kernel, by decide +kernel, by decide +kernel⟩ ⟨Nat.le_of_ble_eq_true rfl, Nat.le_of_ble_eq_true rfl⟩ hl rfl rfl (Nat.le_of_ble_eq_true rfl) dX13_build_32 ⟨Nat.le_of_ble_eq_true rfl, Nat.le_of_ble_eq_true rfl⟩ (fun z77398 F H locs hT hz77398 => ?_)
    obtain ⟨hz77398, yz77398⟩ := hz77398
    have pf0 := (yz77398.1 _ 3 (Or.inr (by decide)) (Or.inr (by decide))).trans pf0
    have v77394 := (yz77398.1 _ 0 (Or.inr (by decide)) (Or.inr (by decide))).trans v77394
    have hfr : (∀ b j : Nat, (tag b ≠ 46 ∨ j ≠ 0) → (tag b ≠ 46 ∨ j ≠ 1) → (tag b ≠ 46 ∨ j ≠ 2) → (tag b ≠ 46 ∨ j ≠ 20) → fld F b j = fld Fo b j) ∧ (∀ b j : Nat, tag b ≠ 37 → tag b ≠ 38 → elm F b j = elm Fo b j) := ⟨fun b j n46_0 n46_1 n46_2 n46_20 => (yz77398.1 b j n46_1 n46_2).trans (hfr.1 b j n46_0 n46_1 n46_2 n46_20), fun b j a37 a38 => (yz77398.2 b j ).trans (hfr.2 b j a37 a38)⟩
    exact t_iret hQ X hT (⟨rg_all _, hfr⟩) (Nat.le_of_ble_eq_true rfl) (Nat.le_of_ble_eq_true rfl) dX13_build_35
  · have w77399 := cv_ne (rfl : z77395.toInt = z77395.toInt) (by decide : (0 : Int32).toInt = 0) c77396
    have w77400 := (fun h => (iz77395 h)) (by omega)
    refine lv_aload_n hx hb dX13_build_13 rfl (lv_at hl 0 rfl) ?_
    refine lv_iload_n hx hb dX13_build_14 rfl (lv_at hl 2 rfl) ?_
    refine t_cVi (n := 1) (C := RX13) (T := TX13) (N := 37) (As := [.int p2]) (rest := []) X hT (km150_X13_isStone l G tag L F hT.2.2.2 p0 p2 x0 m0 g0 mx0 gx0 pf0) m0 g0 rfl rfl qw_967 qw_968 qw_969 qw_5 qw_970 ⟨rfl, by decide +kernel, by decide +kernel, by decide +kernel⟩ ⟨Nat.le_of_ble_eq_true rfl, Nat.le_of_ble_eq_true rfl⟩ hl rfl rfl (Nat.le_of_ble_eq_true rfl) dX13_build_15 ⟨Nat.le_of_ble_eq_true rfl, Nat.le_of_ble_eq_true rfl⟩ (fun z77401 F9 H locs hT hz77401 => ?_)
    obtain ⟨fz77401, hz77401⟩ := hz77401
    rw [fz77401] at hT
    obtain ⟨hz77401, iz77401⟩ := hz77401
    refine lv_if_eq (tgt := 30) hx hb dX13_build_18 (by decide) (fun c77402 => ?_) (fun c77402 => ?_)
    · have w77403 := cv_eq (rfl : z77401.toInt = z77401.toInt) (by decide : (0 : Int32).toInt = 0) c77402
      refine lv_aload_n hx hb dX13_build_30 rfl (lv_at hl 0 rfl) ?_
      refine lv_iconst (v := 1) hx hb dX13_build_31 (by decide) ?_
      refine t_cVi (n := 1) (C := RX13) (T := TX13) (N := 37) (As := [.int 1]) (rest := []) X hT (km88_X13_refused l G tag L F hT.2.2.2 p0 1 m0 g0) m0 g0 rfl rfl qw_484 qw_485 qw_486 qw_5 qw_487 ⟨rfl, by decide +kernel, by decide +kernel, by decide +kernel⟩ ⟨Nat.le_of_ble_eq_true rfl, Nat.le_of_ble_eq_true rfl⟩ hl rfl rfl (Nat.le_of_ble_eq_true rfl) dX13_build_32 ⟨Nat.le_of_ble_eq_true rfl, Nat.le_of_ble_eq_true rfl⟩ (fun z77404 F H locs hT hz77404 => ?_)
      obtain ⟨hz77404, yz77404⟩ := hz77404
      have pf0 := (yz77404.1 _ 3 (Or.inr (by decide)) (Or.inr (by decide))).trans pf0
      have v77394 := (yz77404.1 _ 0 (Or.inr (by decide)) (Or.inr (by decide))).trans v77394
      have hfr : (∀ b j : Nat, (tag b ≠ 46 ∨ j ≠ 0) → (tag b ≠ 46 ∨ j ≠ 1) → (tag b ≠ 46 ∨ j ≠ 2) → (tag b ≠ 46 ∨ j ≠ 20) → fld F b j = fld Fo b j) ∧ (∀ b j : Nat, tag b ≠ 37 → tag b ≠ 38 → elm F b j = elm Fo b j) := ⟨fun b j n46_0 n46_1 n46_2 n46_20 => (yz77404.1 b j n46_1 n46_2).trans (hfr.1 b j n46_0 n46_1 n46_2 n46_20), fun b j a37 a38 => (yz77404.2 b j ).trans (hfr.2 b j a37 a38)⟩
      exact t_iret hQ X hT (⟨rg_all _, hfr⟩) (Nat.le_of_ble_eq_true rfl) (Nat.le_of_ble_eq_true rfl) dX13_build_35
    · have w77405 := cv_ne (rfl : z77401.toInt = z77401.toInt) (by decide : (0 : Int32).toInt = 0) c77402
      have w77406 := (fun h => (iz77401 h)) (by omega)
      refine lv_iload_n hx hb dX13_build_21 rfl (lv_at hl 3 rfl) ?_
      refine lv_iconst (v := 0) hx hb dX13_build_22 (by decide) ?_
      refine lv_iconst (v := 3) hx hb dX13_build_23 (by decide) ?_
      refine t_cSi (n := 3) (As := [.int p3, .int 0, .int 3]) (rest := []) X hT (km19_X13_within l G tag L F hT.2.2.2 p3 0 3 ) qw_568 qw_569 qw_5 qw_570 ⟨by decide +kernel, by decide +kernel, by decide +kernel⟩ ⟨Nat.le_of_ble_eq_true rfl, Nat.le_of_ble_eq_true rfl⟩ hl rfl rfl (Nat.le_of_ble_eq_true rfl) dX13_build_24 ⟨Nat.le_of_ble_eq_true rfl, Nat.le_of_ble_eq_true rfl⟩ (fun z77407 F9 H locs hT hz77407 => ?_)
      obtain ⟨fz77407, hz77407, xz77407_0⟩ := hz77407
      rw [fz77407] at hT
      have k77408 : (0 : Int32).toInt = 0 := by decide
      have k77409 : (3 : Int32).toInt = 3 := by decide
      refine lv_if_ne (tgt := 36) hx hb dX13_build_27 (by decide) (fun c77410 => ?_) (fun c77410 => ?_)
      · have w77411 := cv_ne (rfl : z77407.toInt = z77407.toInt) (by decide : (0 : Int32).toInt = 0) c77410
        have w77412 := xz77407_0 (by omega)
        refine lv_aload_n hx hb dX13_build_36 rfl (lv_at hl 0 rfl) ?_
        refine t_get (C := RX13) (T := TX13) (N := 37) X hT m0 g0 rfl rfl 16 (by decide) qw_112 inlX13 rfl dX13_build_37 (fun v77413 hv77413 ov77413 => ?_)
        obtain ⟨b77414, rfl, mb77414, gb77414⟩ := okV_r ov77413
        have gb77414 : tag b77414 = 37 := tg_of gb77414
        refine lv_iconst (v := 0) hx hb dX13_build_40 (by decide) ?_
        refine lv_iload_n hx hb dX13_build_41 rfl (lv_at hl 1 rfl) ?_
        refine lv_iadd hx hb dX13_build_42 ?_
        refine lv_topi (fun z77415 ez77415 => ?_)
        obtain rfl : p1 = z77415 := (ar_zadd ez77415).symm
        refine t_ild X hT mb77414 gb77414 rfl (by omega) dX13_build_43 (fun z77416 vz77416 rz77416 => ?_)
        have rz77416 := row_ml (by omega) rz77416
        refine lv_iconst (v := 1) hx hb dX13_build_44 (by decide) ?_
        refine lv_iadd hx hb dX13_build_45 ?_
        refine lv_topi (fun z77417 ez77417 => ?_)
        have hz77417 : z77417.toInt = z77416.toInt + 1 := ar_add ez77417 (rfl : z77416.toInt = z77416.toInt) (by decide : (1 : Int32).toInt = 1) (by omega) (by omega)
        have rz77417 : 1 ≤ z77417.toInt ∧ z77417.toInt ≤ 7 := by omega
        refine lv_istore (lv' := [(6, .int z77417), (0, .ref p0), (1, .int p1), (2, .int p2), (3, .int p3), (4, .int p4), (5, .int p5)]) hx hb dX13_build_46 hl (by decide) rfl (fun ls hl => ?_)
        refine lv_iload hx hb dX13_build_48 (lv_at hl 0 rfl) ?_
        refine lv_bipush (v := 6) hx hb dX13_build_50 (by decide) ?_
        refine lv_icmp_le (tgt := 61) hx hb dX13_build_52 (by decide) (fun c77418 => ?_) (fun c77418 => ?_)
        · have w77419 := cv_le (rfl : z77417.toInt = z77417.toInt) (by decide : (6 : Int32).toInt = 6) c77418
          refine lv_iload hx hb dX13_build_61 (lv_at hl 5 rfl) ?_
          refine lv_iconst (v := 0) hx hb dX13_build_63 (by decide) ?_
          refine lv_iconst (v := 2) hx hb dX13_build_64 (by decide) ?_
          refine lv_iload hx hb dX13_build_65 (lv_at hl 0 rfl) ?_
          refine lv_imul hx hb dX13_build_67 ?_
          refine lv_topi (fun z77420 ez77420 => ?_)
          have hz77420 : z77420.toInt = 2 * z77417.toInt := ar_mul ez77420 (by decide : (2 : Int32).toInt = 2) (rfl : z77417.toInt = z77417.toInt) (by omega) (by omega)
          have rz77420 : 2 ≤ z77420.toInt ∧ z77420.toInt ≤ 12 := by omega
          refine lv_iconst (v := 2) hx hb dX13_build_68 (by decide) ?_
          refine lv_isub hx hb dX13_build_69 ?_
          refine lv_topi (fun z77421 ez77421 => ?_)
          have hz77421 : z77421.toInt = z77420.toInt - 2 := ar_sub ez77421 (rfl : z77420.toInt = z77420.toInt) (by decide : (2 : Int32).toInt = 2) (by omega) (by omega)
          have rz77421 : 0 ≤ z77421.toInt ∧ z77421.toInt ≤ 10 := by omega
          refine t_cSi (n := 3) (As := [.int p4, .int 0, .int z77421]) (rest := []) X hT (km19_X13_within l G tag L F hT.2.2.2 p4 0 z77421 ) qw_568 qw_569 qw_5 qw_570 ⟨by decide +kernel, by decide +kernel, by decide +kernel⟩ ⟨Nat.le_of_ble_eq_true rfl, Nat.le_of_ble_eq_true rfl⟩ hl rfl rfl (Nat.le_of_ble_eq_true rfl) dX13_build_70 ⟨Nat.le_of_ble_eq_true rfl, Nat.le_of_ble_eq_true rfl⟩ (fun z77422 F9 H locs hT hz77422 => ?_)
          obtain ⟨fz77422, hz77422, xz77422_0⟩ := hz77422
          rw [fz77422] at hT
          have k77423 : (0 : Int32).toInt = 0 := by decide
          refine lv_if_eq (tgt := 87) hx hb dX13_build_73 (by decide) (fun c77424 => ?_) (fun c77424 => ?_)
          · have w77425 := cv_eq (rfl : z77422.toInt = z77422.toInt) (by decide : (0 : Int32).toInt = 0) c77424
            refine lv_aload_n hx hb dX13_build_87 rfl (lv_at hl 1 rfl) ?_
            refine lv_iconst (v := 2) hx hb dX13_build_88 (by decide) ?_
            refine t_cVi (n := 1) (C := RX13) (T := TX13) (N := 37) (As := [.int 2]) (rest := []) X hT (km88_X13_refused l G tag L F hT.2.2.2 p0 2 m0 g0) m0 g0 rfl rfl qw_484 qw_485 qw_486 qw_5 qw_487 ⟨rfl, by decide +kernel, by decide +kernel, by decide +kernel⟩ ⟨Nat.le_of_ble_eq_true rfl, Nat.le_of_ble_eq_true rfl⟩ hl rfl rfl (Nat.le_of_ble_eq_true rfl) dX13_build_89 ⟨Nat.le_of_ble_eq_true rfl, Nat.le_of_ble_eq_true rfl⟩ (fun z77426 F H locs hT hz77426 => ?_)
            obtain ⟨hz77426, yz77426⟩ := hz77426
            have pf0 := (yz77426.1 _ 3 (Or.inr (by decide)) (Or.inr (by decide))).trans pf0
            have v77394 := (yz77426.1 _ 0 (Or.inr (by decide)) (Or.inr (by decide))).trans v77394
            have hv77413 := (yz77426.1 _ 16 (Or.inr (by decide)) (Or.inr (by decide))).trans hv77413
            have vz77416 := (yz77426.2 _ _ ).trans vz77416
            have hfr : (∀ b j : Nat, (tag b ≠ 46 ∨ j ≠ 0) → (tag b ≠ 46 ∨ j ≠ 1) → (tag b ≠ 46 ∨ j ≠ 2) → (tag b ≠ 46 ∨ j ≠ 20) → fld F b j = fld Fo b j) ∧ (∀ b j : Nat, tag b ≠ 37 → tag b ≠ 38 → elm F b j = elm Fo b j) := ⟨fun b j n46_0 n46_1 n46_2 n46_20 => (yz77426.1 b j n46_1 n46_2).trans (hfr.1 b j n46_0 n46_1 n46_2 n46_20), fun b j a37 a38 => (yz77426.2 b j ).trans (hfr.2 b j a37 a38)⟩
            exact t_iret hQ X hT (⟨rg_all _, hfr⟩) (Nat.le_of_ble_eq_true rfl) (Nat.le_of_ble_eq_true rfl) dX13_build_92
          · have w77427 := cv_ne (rfl : z77422.toInt = z77422.toInt) (by decide : (0 : Int32).toInt = 0) c77424
            have w77428 := xz77422_0 (by omega)
            refine lv_iload hx hb dX13_build_76 (lv_at hl 6 rfl) ?_
            refine lv_iconst (v := 0) hx hb dX13_build_78 (by decide) ?_
            refine lv_bipush (v := 99) hx hb dX13_build_79 (by decide) ?_
            refine t_cSi (n := 3) (As := [.int p5, .int 0, .int 99]) (rest := []) X hT (km19_X13_within l G tag L F hT.2.2.2 p5 0 99 ) qw_568 qw_569 qw_5 qw_570 ⟨by decide +kernel, by decide +kernel, by decide +kernel⟩ ⟨Nat.le_of_ble_eq_true rfl, Nat.le_of_ble_eq_true rfl⟩ hl rfl rfl (Nat.le_of_ble_eq_true rfl) dX13_build_81 ⟨Nat.le_of_ble_eq_true rfl, Nat.le_of_ble_eq_true rfl⟩ (fun z77429 F9 H locs hT hz77429 => ?_)
            obtain ⟨fz77429, hz77429, xz77429_0⟩ := hz77429
            rw [fz77429] at hT
            have k77430 : (0 : Int32).toInt = 0 := by decide
            have k77431 : (99 : Int32).toInt = 99 := by decide
            refine lv_if_ne (tgt := 93) hx hb dX13_build_84 (by decide) (fun c77432 => ?_) (fun c77432 => ?_)
            · have w77433 := cv_ne (rfl : z77429.toInt = z77429.toInt) (by decide : (0 : Int32).toInt = 0) c77432
              have w77434 := xz77429_0 (by omega)
              refine lv_aload_n hx hb dX13_build_93 rfl (lv_at hl 1 rfl) ?_
              refine t_get (C := RX13) (T := TX13) (N := 37) X hT m0 g0 rfl rfl 3 (by decide) qw_481 inlX13 rfl dX13_build_94 (fun v77435 hv77435 ov77435 => ?_)
              obtain rfl : v77435 = .ref x0 := hv77435.symm.trans pf0
              refine lv_aload_n hx hb dX13_build_97 rfl (lv_at hl 1 rfl) ?_
              refine t_get (C := RX13) (T := TX13) (N := 37) X hT m0 g0 rfl rfl 16 (by decide) qw_112 inlX13 rfl dX13_build_98 (fun v77436 hv77436 ov77436 => ?_)
              obtain rfl : v77436 = .ref b77414 := hv77436.symm.trans hv77413
              refine lv_iload_n hx hb dX13_build_101 rfl (lv_at hl 2 rfl) ?_
              refine t_cSi (n := 3) (As := [.ref x0, .ref b77414, .int p1]) (rest := []) X hT (km138_X13_fitsIn l G tag L F hT.2.2.2 x0 b77414 p1 mx0 gx0 mb77414 gb77414 (by omega)) qw_644 qw_645 qw_5 qw_646 ⟨by decide +kernel, by decide +kernel, by decide +kernel⟩ ⟨Nat.le_of_ble_eq_true rfl, Nat.le_of_ble_eq_true rfl⟩ hl rfl rfl (Nat.le_of_ble_eq_true rfl) dX13_build_102 ⟨Nat.le_of_ble_eq_true rfl, Nat.le_of_ble_eq_true rfl⟩ (fun z77437 F9 H locs hT hz77437 => ?_)
              obtain ⟨fz77437, hz77437⟩ := hz77437
              rw [fz77437] at hT
              refine lv_if_eq (tgt := 128) hx hb dX13_build_105 (by decide) (fun c77438 => ?_) (fun c77438 => ?_)
              · have w77439 := cv_eq (rfl : z77437.toInt = z77437.toInt) (by decide : (0 : Int32).toInt = 0) c77438
                refine lv_aload_n hx hb dX13_build_128 rfl (lv_at hl 1 rfl) ?_
                refine lv_iconst (v := 5) hx hb dX13_build_129 (by decide) ?_
                refine t_cVi (n := 1) (C := RX13) (T := TX13) (N := 37) (As := [.int 5]) (rest := []) X hT (km88_X13_refused l G tag L F hT.2.2.2 p0 5 m0 g0) m0 g0 rfl rfl qw_484 qw_485 qw_486 qw_5 qw_487 ⟨rfl, by decide +kernel, by decide +kernel, by decide +kernel⟩ ⟨Nat.le_of_ble_eq_true rfl, Nat.le_of_ble_eq_true rfl⟩ hl rfl rfl (Nat.le_of_ble_eq_true rfl) dX13_build_130 ⟨Nat.le_of_ble_eq_true rfl, Nat.le_of_ble_eq_true rfl⟩ (fun z77440 F H locs hT hz77440 => ?_)
                obtain ⟨hz77440, yz77440⟩ := hz77440
                have pf0 := (yz77440.1 _ 3 (Or.inr (by decide)) (Or.inr (by decide))).trans pf0
                have v77394 := (yz77440.1 _ 0 (Or.inr (by decide)) (Or.inr (by decide))).trans v77394
                have hv77413 := (yz77440.1 _ 16 (Or.inr (by decide)) (Or.inr (by decide))).trans hv77413
                have vz77416 := (yz77440.2 _ _ ).trans vz77416
                have hfr : (∀ b j : Nat, (tag b ≠ 46 ∨ j ≠ 0) → (tag b ≠ 46 ∨ j ≠ 1) → (tag b ≠ 46 ∨ j ≠ 2) → (tag b ≠ 46 ∨ j ≠ 20) → fld F b j = fld Fo b j) ∧ (∀ b j : Nat, tag b ≠ 37 → tag b ≠ 38 → elm F b j = elm Fo b j) := ⟨fun b j n46_0 n46_1 n46_2 n46_20 => (yz77440.1 b j n46_1 n46_2).trans (hfr.1 b j n46_0 n46_1 n46_2 n46_20), fun b j a37 a38 => (yz77440.2 b j ).trans (hfr.2 b j a37 a38)⟩
                exact t_iret hQ X hT (⟨rg_all _, hfr⟩) (Nat.le_of_ble_eq_true rfl) (Nat.le_of_ble_eq_true rfl) dX13_build_133
              · have w77441 := cv_ne (rfl : z77437.toInt = z77437.toInt) (by decide : (0 : Int32).toInt = 0) c77438
                refine lv_aload_n hx hb dX13_build_108 rfl (lv_at hl 1 rfl) ?_
                refine t_get (C := RX13) (T := TX13) (N := 37) X hT m0 g0 rfl rfl 3 (by decide) qw_481 inlX13 rfl dX13_build_109 (fun v77442 hv77442 ov77442 => ?_)
                obtain rfl : v77442 = .ref x0 := hv77442.symm.trans pf0
                refine lv_aload_n hx hb dX13_build_112 rfl (lv_at hl 1 rfl) ?_
                refine t_get (C := RX13) (T := TX13) (N := 37) X hT m0 g0 rfl rfl 16 (by decide) qw_112 inlX13 rfl dX13_build_113 (fun v77443 hv77443 ov77443 => ?_)
                obtain rfl : v77443 = .ref b77414 := hv77443.symm.trans hv77413
                refine lv_iload_n hx hb dX13_build_116 rfl (lv_at hl 2 rfl) ?_
                refine lv_iload hx hb dX13_build_117 (lv_at hl 0 rfl) ?_
                refine lv_iload_n hx hb dX13_build_119 rfl (lv_at hl 4 rfl) ?_
                refine lv_iload hx hb dX13_build_120 (lv_at hl 5 rfl) ?_
                refine t_cSi (n := 6) (As := [.ref x0, .ref b77414, .int p1, .int z77417, .int p3, .int p4]) (rest := []) X hT (km113_X13_isFree l G tag L F hT.2.2.2 x0 b77414 p1 z77417 p3 p4 mx0 gx0 mb77414 gb77414 (by omega)) qw_804 qw_805 qw_5 qw_806 ⟨by decide +kernel, by decide +kernel, by decide +kernel⟩ ⟨Nat.le_of_ble_eq_true rfl, Nat.le_of_ble_eq_true rfl⟩ hl rfl rfl (Nat.le_of_ble_eq_true rfl) dX13_build_122 ⟨Nat.le_of_ble_eq_true rfl, Nat.le_of_ble_eq_true rfl⟩ (fun z77444 F9 H locs hT hz77444 => ?_)
                obtain ⟨fz77444, hz77444⟩ := hz77444
                rw [fz77444] at hT
                refine lv_if_ne (tgt := 134) hx hb dX13_build_125 (by decide) (fun c77445 => ?_) (fun c77445 => ?_)
                · have w77446 := cv_ne (rfl : z77444.toInt = z77444.toInt) (by decide : (0 : Int32).toInt = 0) c77445
                  refine lv_aload_n hx hb dX13_build_134 rfl (lv_at hl 1 rfl) ?_
                  refine lv_aload_n hx hb dX13_build_135 rfl (lv_at hl 1 rfl) ?_
                  refine t_get (C := RX13) (T := TX13) (N := 37) X hT m0 g0 rfl rfl 16 (by decide) qw_112 inlX13 rfl dX13_build_136 (fun v77447 hv77447 ov77447 => ?_)
                  obtain rfl : v77447 = .ref b77414 := hv77447.symm.trans hv77413
                  refine lv_iload_n hx hb dX13_build_139 rfl (lv_at hl 2 rfl) ?_
                  refine lv_iload_n hx hb dX13_build_140 rfl (lv_at hl 3 rfl) ?_
                  refine t_cVi (n := 3) (C := RX13) (T := TX13) (N := 37) (As := [.ref b77414, .int p1, .int p2]) (rest := []) X hT (km151_X13_costOf l G tag L F hT.2.2.2 p0 b77414 p1 p2 x0 m0 g0 mb77414 gb77414 (by omega) (by omega) mx0 gx0 pf0) m0 g0 rfl rfl qw_971 qw_972 qw_973 qw_5 qw_974 ⟨rfl, by decide +kernel, by decide +kernel, by decide +kernel⟩ ⟨Nat.le_of_ble_eq_true rfl, Nat.le_of_ble_eq_true rfl⟩ hl rfl rfl (Nat.le_of_ble_eq_true rfl) dX13_build_141 ⟨Nat.le_of_ble_eq_true rfl, Nat.le_of_ble_eq_true rfl⟩ (fun z77448 F9 H locs hT hz77448 => ?_)
                  obtain ⟨fz77448, hz77448⟩ := hz77448
                  rw [fz77448] at hT
                  refine lv_istore (lv' := [(7, .int z77448), (6, .int z77417), (0, .ref p0), (1, .int p1), (2, .int p2), (3, .int p3), (4, .int p4), (5, .int p5)]) hx hb dX13_build_144 hl (by decide) rfl (fun ls hl => ?_)
                  refine lv_aload_n hx hb dX13_build_146 rfl (lv_at hl 2 rfl) ?_
                  refine t_get (C := RX13) (T := TX13) (N := 37) X hT m0 g0 rfl rfl 16 (by decide) qw_112 inlX13 rfl dX13_build_147 (fun v77449 hv77449 ov77449 => ?_)
                  obtain rfl : v77449 = .ref b77414 := hv77449.symm.trans hv77413
                  refine lv_bipush (v := 8) hx hb dX13_build_150 (by decide) ?_
                  refine lv_iload_n hx hb dX13_build_152 rfl (lv_at hl 3 rfl) ?_
                  refine lv_iadd hx hb dX13_build_153 ?_
                  refine lv_topi (fun z77450 ez77450 => ?_)
                  have hz77450 : z77450.toInt = 8 + p1.toInt := ar_add ez77450 (by decide : (8 : Int32).toInt = 8) (rfl : p1.toInt = p1.toInt) (by omega) (by omega)
                  have rz77450 : 8 ≤ z77450.toInt ∧ z77450.toInt ≤ 11 := by omega
                  refine t_ild X hT mb77414 gb77414 rfl (by omega) dX13_build_154 (fun z77451 vz77451 rz77451 => ?_)
                  have oz77451 := rz77451
                  have rz77451 := rg_all z77451
                  refine lv_iload hx hb dX13_build_155 (lv_at hl 0 rfl) ?_
                  refine lv_icmp_ge (tgt := 167) hx hb dX13_build_157 (by decide) (fun c77452 => ?_) (fun c77452 => ?_)
                  · have w77453 := cv_le (rfl : z77448.toInt = z77448.toInt) (rfl : z77451.toInt = z77451.toInt) c77452
                    refine lv_aload_n hx hb dX13_build_167 rfl (lv_at hl 2 rfl) ?_
                    refine t_cVv (n := 0) (C := RX13) (T := TX13) (N := 37) (As := []) (rest := []) X hT (km245_X13_keeps l G tag L F hT.2.2.2 p0 m0 g0) m0 g0 rfl rfl qw_1437 qw_1438 qw_1439 qw_5 qw_1440 ⟨rfl, by decide +kernel, by decide +kernel, by decide +kernel⟩ ⟨Nat.le_of_ble_eq_true rfl, Nat.le_of_ble_eq_true rfl⟩ hl rfl rfl (Nat.le_of_ble_eq_true rfl) dX13_build_168 ⟨Nat.le_of_ble_eq_true rfl, Nat.le_of_ble_eq_true rfl⟩ (fun F H locs hT hz77454 => ?_)
                    have yz77454 := hz77454
                    have pf0 := (yz77454.1 _ 3 (Or.inr (by decide))).trans pf0
                    have v77394 := (yz77454.1 _ 0 (Or.inr (by decide))).trans v77394
                    have hv77413 := (yz77454.1 _ 16 (Or.inr (by decide))).trans hv77413
                    have vz77416 := (yz77454.2 _ _ (by rw [gb77414]; decide)).trans vz77416
                    have vz77451 := (yz77454.2 _ _ (by rw [gb77414]; decide)).trans vz77451
                    have hfr : (∀ b j : Nat, (tag b ≠ 46 ∨ j ≠ 0) → (tag b ≠ 46 ∨ j ≠ 1) → (tag b ≠ 46 ∨ j ≠ 2) → (tag b ≠ 46 ∨ j ≠ 20) → fld F b j = fld Fo b j) ∧ (∀ b j : Nat, tag b ≠ 37 → tag b ≠ 38 → elm F b j = elm Fo b j) := ⟨fun b j n46_0 n46_1 n46_2 n46_20 => (yz77454.1 b j n46_20).trans (hfr.1 b j n46_0 n46_1 n46_2 n46_20), fun b j a37 a38 => (yz77454.2 b j a38).trans (hfr.2 b j a37 a38)⟩
                    refine lv_aload_n hx hb dX13_build_171 rfl (lv_at hl 2 rfl) ?_
                    refine t_get (C := RX13) (T := TX13) (N := 37) X hT m0 g0 rfl rfl 16 (by decide) qw_112 inlX13 rfl dX13_build_172 (fun v77455 hv77455 ov77455 => ?_)
                    obtain rfl : v77455 = .ref b77414 := hv77455.symm.trans hv77413
                    refine lv_bipush (v := 8) hx hb dX13_build_175 (by decide) ?_
                    refine lv_iload_n hx hb dX13_build_177 rfl (lv_at hl 3 rfl) ?_
                    refine lv_iadd hx hb dX13_build_178 ?_
                    refine lv_topi (fun z77456 ez77456 => ?_)
                    have hz77456 : z77456.toInt = 8 + p1.toInt := ar_add ez77456 (by decide : (8 : Int32).toInt = 8) (rfl : p1.toInt = p1.toInt) (by omega) (by omega)
                    have rz77456 : 8 ≤ z77456.toInt ∧ z77456.toInt ≤ 11 := by omega
                    refine lv_dup2_11 hx hb dX13_build_179 rfl rfl ?_
                    refine t_ild X hT mb77414 gb77414 rfl (by omega) dX13_build_180 (fun z77457 vz77457 rz77457 => ?_)
                    have oz77457 := rz77457
                    have rz77457 := rg_all z77457
                    refine lv_iload hx hb dX13_build_181 (lv_at hl 0 rfl) ?_
                    refine lv_isub hx hb dX13_build_183 ?_
                    refine lv_topi (fun z77458 ez77458 => ?_)
                    have rz77458 := rg_all z77458
                    refine t_ist X hT mb77414 gb77414 rfl (by omega) (row_fv (by omega) (Or.inl (by omega))) dX13_build_184 (fun F H locs hT v77459 h1v77459 h2v77459 => ?_)
                    have pf0 := (h2v77459 _ _).trans pf0
                    have v77394 := (h2v77459 _ _).trans v77394
                    have hv77413 := (h2v77459 _ _).trans hv77413
                    have vz77416 := (h1v77459 _ _ (Or.inr (ine (by omega) (by omega) (by omega)))).trans vz77416
                    have hfr : (∀ b j : Nat, (tag b ≠ 46 ∨ j ≠ 0) → (tag b ≠ 46 ∨ j ≠ 1) → (tag b ≠ 46 ∨ j ≠ 2) → (tag b ≠ 46 ∨ j ≠ 20) → fld F b j = fld Fo b j) ∧ (∀ b j : Nat, tag b ≠ 37 → tag b ≠ 38 → elm F b j = elm Fo b j) := ⟨fun b j n46_0 n46_1 n46_2 n46_20 => (h2v77459 b j).trans (hfr.1 b j n46_0 n46_1 n46_2 n46_20), fun b j a37 a38 => (h1v77459 b j (Or.inl (at_ne gb77414 a37))).trans (hfr.2 b j a37 a38)⟩
                    refine lv_aload_n hx hb dX13_build_185 rfl (lv_at hl 2 rfl) ?_
                    refine t_get (C := RX13) (T := TX13) (N := 37) X hT m0 g0 rfl rfl 16 (by decide) qw_112 inlX13 rfl dX13_build_186 (fun v77460 hv77460 ov77460 => ?_)
                    obtain rfl : v77460 = .ref b77414 := hv77460.symm.trans hv77413
                    refine lv_iload_n hx hb dX13_build_189 rfl (lv_at hl 3 rfl) ?_
                    refine lv_iload_n hx hb dX13_build_190 rfl (lv_at hl 4 rfl) ?_
                    refine lv_iload_n hx hb dX13_build_191 rfl (lv_at hl 5 rfl) ?_
                    refine lv_iload hx hb dX13_build_192 (lv_at hl 6 rfl) ?_
                    refine lv_iload hx hb dX13_build_194 (lv_at hl 7 rfl) ?_
                    refine lv_aload_n hx hb dX13_build_196 rfl (lv_at hl 2 rfl) ?_
                    refine t_get (C := RX13) (T := TX13) (N := 37) X hT m0 g0 rfl rfl 16 (by decide) qw_112 inlX13 rfl dX13_build_197 (fun v77461 hv77461 ov77461 => ?_)
                    obtain rfl : v77461 = .ref b77414 := hv77461.symm.trans hv77413
                    refine lv_sipush (v := 210) hx hb dX13_build_200 (by decide) ?_
                    refine t_ild X hT mb77414 gb77414 rfl (by decide) dX13_build_203 (fun z77462 vz77462 rz77462 => ?_)
                    have oz77462 := rz77462
                    have rz77462 := rg_all z77462
                    have w77463 : 0 ≤ z77416.toInt ∧ z77416.toInt ≤ 5 := by omega
                    refine t_cSv (n := 7) (As := [.ref b77414, .int p1, .int p2, .int p3, .int p4, .int p5, .int z77462]) (rest := []) X hT (km50_X13_adds l G tag L F hT.2.2.2 b77414 p1 p2 p3 p4 p5 z77462 z77416 mb77414 gb77414 (by omega) (by omega) (by omega) vz77416) qw_658 qw_659 qw_5 qw_660 ⟨by decide +kernel, by decide +kernel, by decide +kernel⟩ ⟨Nat.le_of_ble_eq_true rfl, Nat.le_of_ble_eq_true rfl⟩ hl rfl rfl (Nat.le_of_ble_eq_true rfl) dX13_build_204 ⟨Nat.le_of_ble_eq_true rfl, Nat.le_of_ble_eq_true rfl⟩ (fun F H locs hT hz77464 => ?_)
                    obtain ⟨yz77464, xz77464_0⟩ := hz77464
                    have pf0 := (yz77464.1 _ 3 ).trans pf0
                    have v77394 := (yz77464.1 _ 0 ).trans v77394
                    have hv77413 := (yz77464.1 _ 16 ).trans hv77413
                    have hfr : (∀ b j : Nat, (tag b ≠ 46 ∨ j ≠ 0) → (tag b ≠ 46 ∨ j ≠ 1) → (tag b ≠ 46 ∨ j ≠ 2) → (tag b ≠ 46 ∨ j ≠ 20) → fld F b j = fld Fo b j) ∧ (∀ b j : Nat, tag b ≠ 37 → tag b ≠ 38 → elm F b j = elm Fo b j) := ⟨fun b j n46_0 n46_1 n46_2 n46_20 => (yz77464.1 b j ).trans (hfr.1 b j n46_0 n46_1 n46_2 n46_20), fun b j a37 a38 => (yz77464.2 b j a37).trans (hfr.2 b j a37 a38)⟩
                    obtain ⟨z77465, qz77465, hz77465⟩ := xz77464_0
                    have rz77465 : 1 ≤ z77465.toInt ∧ z77465.toInt ≤ 6 := by omega
                    refine lv_aload_n hx hb dX13_build_207 rfl (lv_at hl 2 rfl) ?_
                    refine lv_iload hx hb dX13_build_208 (lv_at hl 0 rfl) ?_
                    refine t_cVi (n := 1) (C := RX13) (T := TX13) (N := 37) (As := [.int z77448]) (rest := []) X hT (km93_X13_good l G tag L F hT.2.2.2 p0 z77448 m0 g0) m0 g0 rfl rfl qw_687 qw_688 qw_689 qw_5 qw_690 ⟨rfl, by decide +kernel, by decide +kernel, by decide +kernel⟩ ⟨Nat.le_of_ble_eq_true rfl, Nat.le_of_ble_eq_true rfl⟩ hl rfl rfl (Nat.le_of_ble_eq_true rfl) dX13_build_210 ⟨Nat.le_of_ble_eq_true rfl, Nat.le_of_ble_eq_true rfl⟩ (fun z77466 F H locs hT hz77466 => ?_)
                    obtain ⟨hz77466, yz77466⟩ := hz77466
                    have pf0 := (yz77466.1 _ 3 (Or.inr (by decide)) (Or.inr (by decide))).trans pf0
                    have v77394 := (yz77466.1 _ 0 (Or.inr (by decide)) (Or.inr (by decide))).trans v77394
                    have hv77413 := (yz77466.1 _ 16 (Or.inr (by decide)) (Or.inr (by decide))).trans hv77413
                    have qz77465 := (yz77466.2 _ _ ).trans qz77465
                    have hfr : (∀ b j : Nat, (tag b ≠ 46 ∨ j ≠ 0) → (tag b ≠ 46 ∨ j ≠ 1) → (tag b ≠ 46 ∨ j ≠ 2) → (tag b ≠ 46 ∨ j ≠ 20) → fld F b j = fld Fo b j) ∧ (∀ b j : Nat, tag b ≠ 37 → tag b ≠ 38 → elm F b j = elm Fo b j) := ⟨fun b j n46_0 n46_1 n46_2 n46_20 => (yz77466.1 b j n46_1 n46_2).trans (hfr.1 b j n46_0 n46_1 n46_2 n46_20), fun b j a37 a38 => (yz77466.2 b j ).trans (hfr.2 b j a37 a38)⟩
                    exact t_iret hQ X hT (⟨rg_all _, hfr⟩) (Nat.le_of_ble_eq_true rfl) (Nat.le_of_ble_eq_true rfl) dX13_build_213
                  · have w77467 := cv_nle (rfl : z77448.toInt = z77448.toInt) (rfl : z77451.toInt = z77451.toInt) c77452
                    refine lv_aload_n hx hb dX13_build_160 rfl (lv_at hl 2 rfl) ?_
                    refine lv_bipush (v := 6) hx hb dX13_build_161 (by decide) ?_
                    refine t_cVi (n := 1) (C := RX13) (T := TX13) (N := 37) (As := [.int 6]) (rest := []) X hT (km88_X13_refused l G tag L F hT.2.2.2 p0 6 m0 g0) m0 g0 rfl rfl qw_484 qw_485 qw_486 qw_5 qw_487 ⟨rfl, by decide +kernel, by decide +kernel, by decide +kernel⟩ ⟨Nat.le_of_ble_eq_true rfl, Nat.le_of_ble_eq_true rfl⟩ hl rfl rfl (Nat.le_of_ble_eq_true rfl) dX13_build_163 ⟨Nat.le_of_ble_eq_true rfl, Nat.le_of_ble_eq_true rfl⟩ (fun z77468 F H locs hT hz77468 => ?_)
                    obtain ⟨hz77468, yz77468⟩ := hz77468
                    have pf0 := (yz77468.1 _ 3 (Or.inr (by decide)) (Or.inr (by decide))).trans pf0
                    have v77394 := (yz77468.1 _ 0 (Or.inr (by decide)) (Or.inr (by decide))).trans v77394
                    have hv77413 := (yz77468.1 _ 16 (Or.inr (by decide)) (Or.inr (by decide))).trans hv77413
                    have vz77416 := (yz77468.2 _ _ ).trans vz77416
                    have vz77451 := (yz77468.2 _ _ ).trans vz77451
                    have hfr : (∀ b j : Nat, (tag b ≠ 46 ∨ j ≠ 0) → (tag b ≠ 46 ∨ j ≠ 1) → (tag b ≠ 46 ∨ j ≠ 2) → (tag b ≠ 46 ∨ j ≠ 20) → fld F b j = fld Fo b j) ∧ (∀ b j : Nat, tag b ≠ 37 → tag b ≠ 38 → elm F b j = elm Fo b j) := ⟨fun b j n46_0 n46_1 n46_2 n46_20 => (yz77468.1 b j n46_1 n46_2).trans (hfr.1 b j n46_0 n46_1 n46_2 n46_20), fun b j a37 a38 => (yz77468.2 b j ).trans (hfr.2 b j a37 a38)⟩
                    exact t_iret hQ X hT (⟨rg_all _, hfr⟩) (Nat.le_of_ble_eq_true rfl) (Nat.le_of_ble_eq_true rfl) dX13_build_166
                · have w77469 := cv_eq (rfl : z77444.toInt = z77444.toInt) (by decide : (0 : Int32).toInt = 0) c77445
                  refine lv_aload_n hx hb dX13_build_128 rfl (lv_at hl 1 rfl) ?_
                  refine lv_iconst (v := 5) hx hb dX13_build_129 (by decide) ?_
                  refine t_cVi (n := 1) (C := RX13) (T := TX13) (N := 37) (As := [.int 5]) (rest := []) X hT (km88_X13_refused l G tag L F hT.2.2.2 p0 5 m0 g0) m0 g0 rfl rfl qw_484 qw_485 qw_486 qw_5 qw_487 ⟨rfl, by decide +kernel, by decide +kernel, by decide +kernel⟩ ⟨Nat.le_of_ble_eq_true rfl, Nat.le_of_ble_eq_true rfl⟩ hl rfl rfl (Nat.le_of_ble_eq_true rfl) dX13_build_130 ⟨Nat.le_of_ble_eq_true rfl, Nat.le_of_ble_eq_true rfl⟩ (fun z77470 F H locs hT hz77470 => ?_)
                  obtain ⟨hz77470, yz77470⟩ := hz77470
                  have pf0 := (yz77470.1 _ 3 (Or.inr (by decide)) (Or.inr (by decide))).trans pf0
                  have v77394 := (yz77470.1 _ 0 (Or.inr (by decide)) (Or.inr (by decide))).trans v77394
                  have hv77413 := (yz77470.1 _ 16 (Or.inr (by decide)) (Or.inr (by decide))).trans hv77413
                  have vz77416 := (yz77470.2 _ _ ).trans vz77416
                  have hfr : (∀ b j : Nat, (tag b ≠ 46 ∨ j ≠ 0) → (tag b ≠ 46 ∨ j ≠ 1) → (tag b ≠ 46 ∨ j ≠ 2) → (tag b ≠ 46 ∨ j ≠ 20) → fld F b j = fld Fo b j) ∧ (∀ b j : Nat, tag b ≠ 37 → tag b ≠ 38 → elm F b j = elm Fo b j) := ⟨fun b j n46_0 n46_1 n46_2 n46_20 => (yz77470.1 b j n46_1 n46_2).trans (hfr.1 b j n46_0 n46_1 n46_2 n46_20), fun b j a37 a38 => (yz77470.2 b j ).trans (hfr.2 b j a37 a38)⟩
                  exact t_iret hQ X hT (⟨rg_all _, hfr⟩) (Nat.le_of_ble_eq_true rfl) (Nat.le_of_ble_eq_true rfl) dX13_build_133
            · have w77471 := cv_eq (rfl : z77429.toInt = z77429.toInt) (by decide : (0 : Int32).toInt = 0) c77432
              refine lv_aload_n hx hb dX13_build_87 rfl (lv_at hl 1 rfl) ?_
              refine lv_iconst (v := 2) hx hb dX13_build_88 (by decide) ?_
              refine t_cVi (n := 1) (C := RX13) (T := TX13) (N := 37) (As := [.int 2]) (rest := []) X hT (km88_X13_refused l G tag L F hT.2.2.2 p0 2 m0 g0) m0 g0 rfl rfl qw_484 qw_485 qw_486 qw_5 qw_487 ⟨rfl, by decide +kernel, by decide +kernel, by decide +kernel⟩ ⟨Nat.le_of_ble_eq_true rfl, Nat.le_of_ble_eq_true rfl⟩ hl rfl rfl (Nat.le_of_ble_eq_true rfl) dX13_build_89 ⟨Nat.le_of_ble_eq_true rfl, Nat.le_of_ble_eq_true rfl⟩ (fun z77472 F H locs hT hz77472 => ?_)
              obtain ⟨hz77472, yz77472⟩ := hz77472
              have pf0 := (yz77472.1 _ 3 (Or.inr (by decide)) (Or.inr (by decide))).trans pf0
              have v77394 := (yz77472.1 _ 0 (Or.inr (by decide)) (Or.inr (by decide))).trans v77394
              have hv77413 := (yz77472.1 _ 16 (Or.inr (by decide)) (Or.inr (by decide))).trans hv77413
              have vz77416 := (yz77472.2 _ _ ).trans vz77416
              have hfr : (∀ b j : Nat, (tag b ≠ 46 ∨ j ≠ 0) → (tag b ≠ 46 ∨ j ≠ 1) → (tag b ≠ 46 ∨ j ≠ 2) → (tag b ≠ 46 ∨ j ≠ 20) → fld F b j = fld Fo b j) ∧ (∀ b j : Nat, tag b ≠ 37 → tag b ≠ 38 → elm F b j = elm Fo b j) := ⟨fun b j n46_0 n46_1 n46_2 n46_20 => (yz77472.1 b j n46_1 n46_2).trans (hfr.1 b j n46_0 n46_1 n46_2 n46_20), fun b j a37 a38 => (yz77472.2 b j ).trans (hfr.2 b j a37 a38)⟩
              exact t_iret hQ X hT (⟨rg_all _, hfr⟩) (Nat.le_of_ble_eq_true rfl) (Nat.le_of_ble_eq_true rfl) dX13_build_92
        · have w77473 := cv_nle (rfl : z77417.toInt = z77417.toInt) (by decide : (6 : Int32).toInt = 6) c77418
          refine lv_aload_n hx hb dX13_build_55 rfl (lv_at hl 1 rfl) ?_
          refine lv_iconst (v := 3) hx hb dX13_build_56 (by decide) ?_
          refine t_cVi (n := 1) (C := RX13) (T := TX13) (N := 37) (As := [.int 3]) (rest := []) X hT (km88_X13_refused l G tag L F hT.2.2.2 p0 3 m0 g0) m0 g0 rfl rfl qw_484 qw_485 qw_486 qw_5 qw_487 ⟨rfl, by decide +kernel, by decide +kernel, by decide +kernel⟩ ⟨Nat.le_of_ble_eq_true rfl, Nat.le_of_ble_eq_true rfl⟩ hl rfl rfl (Nat.le_of_ble_eq_true rfl) dX13_build_57 ⟨Nat.le_of_ble_eq_true rfl, Nat.le_of_ble_eq_true rfl⟩ (fun z77474 F H locs hT hz77474 => ?_)
          obtain ⟨hz77474, yz77474⟩ := hz77474
          have pf0 := (yz77474.1 _ 3 (Or.inr (by decide)) (Or.inr (by decide))).trans pf0
          have v77394 := (yz77474.1 _ 0 (Or.inr (by decide)) (Or.inr (by decide))).trans v77394
          have hv77413 := (yz77474.1 _ 16 (Or.inr (by decide)) (Or.inr (by decide))).trans hv77413
          have vz77416 := (yz77474.2 _ _ ).trans vz77416
          have hfr : (∀ b j : Nat, (tag b ≠ 46 ∨ j ≠ 0) → (tag b ≠ 46 ∨ j ≠ 1) → (tag b ≠ 46 ∨ j ≠ 2) → (tag b ≠ 46 ∨ j ≠ 20) → fld F b j = fld Fo b j) ∧ (∀ b j : Nat, tag b ≠ 37 → tag b ≠ 38 → elm F b j = elm Fo b j) := ⟨fun b j n46_0 n46_1 n46_2 n46_20 => (yz77474.1 b j n46_1 n46_2).trans (hfr.1 b j n46_0 n46_1 n46_2 n46_20), fun b j a37 a38 => (yz77474.2 b j ).trans (hfr.2 b j a37 a38)⟩
          exact t_iret hQ X hT (⟨rg_all _, hfr⟩) (Nat.le_of_ble_eq_true rfl) (Nat.le_of_ble_eq_true rfl) dX13_build_60
      · have w77475 := cv_eq (rfl : z77407.toInt = z77407.toInt) (by decide : (0 : Int32).toInt = 0) c77410
        refine lv_aload_n hx hb dX13_build_30 rfl (lv_at hl 0 rfl) ?_
        refine lv_iconst (v := 1) hx hb dX13_build_31 (by decide) ?_
        refine t_cVi (n := 1) (C := RX13) (T := TX13) (N := 37) (As := [.int 1]) (rest := []) X hT (km88_X13_refused l G tag L F hT.2.2.2 p0 1 m0 g0) m0 g0 rfl rfl qw_484 qw_485 qw_486 qw_5 qw_487 ⟨rfl, by decide +kernel, by decide +kernel, by decide +kernel⟩ ⟨Nat.le_of_ble_eq_true rfl, Nat.le_of_ble_eq_true rfl⟩ hl rfl rfl (Nat.le_of_ble_eq_true rfl) dX13_build_32 ⟨Nat.le_of_ble_eq_true rfl, Nat.le_of_ble_eq_true rfl⟩ (fun z77476 F H locs hT hz77476 => ?_)
        obtain ⟨hz77476, yz77476⟩ := hz77476
        have pf0 := (yz77476.1 _ 3 (Or.inr (by decide)) (Or.inr (by decide))).trans pf0
        have v77394 := (yz77476.1 _ 0 (Or.inr (by decide)) (Or.inr (by decide))).trans v77394
        have hfr : (∀ b j : Nat, (tag b ≠ 46 ∨ j ≠ 0) → (tag b ≠ 46 ∨ j ≠ 1) → (tag b ≠ 46 ∨ j ≠ 2) → (tag b ≠ 46 ∨ j ≠ 20) → fld F b j = fld Fo b j) ∧ (∀ b j : Nat, tag b ≠ 37 → tag b ≠ 38 → elm F b j = elm Fo b j) := ⟨fun b j n46_0 n46_1 n46_2 n46_20 => (yz77476.1 b j n46_1 n46_2).trans (hfr.1 b j n46_0 n46_1 n46_2 n46_20), fun b j a37 a38 => (yz77476.2 b j ).trans (hfr.2 b j a37 a38)⟩
        exact t_iret hQ X hT (⟨rg_all _, hfr⟩) (Nat.le_of_ble_eq_true rfl) (Nat.le_of_ble_eq_true rfl) dX13_build_35
set_option maxHeartbeats 4000000 in
set_option maxRecDepth 100000 in
theorem km250_X13_build (l : Launch) (G : KG) (tag : Nat → Nat) (L : List Nat) (Fo : Nat → va_E) (ho : okT G ttC tag L Fo) (p0 : Nat) (p1 : Int32) (p2 : Int32) (p3 : Int32) (p4 : Int32) (p5 : Int32) (m0 : p0 ∈ L) (g0 : tag p0 = 46) (pf0 : fld Fo p0 3 = .null) : TMi l yX13_build cX13_build 8 (some .int) { frames := 4, cells := 0, slots := 0, locals := 98 } G ttC tag L Fo [.ref p0, .int p1, .int p2, .int p3, .int p4, .int p5] (fun r F1 => ((-2147483648) ≤ r.toInt ∧ r.toInt ≤ 2147483647) ∧ ((∀ b j : Nat, (tag b ≠ 46 ∨ j ≠ 0) → (tag b ≠ 46 ∨ j ≠ 1) → (tag b ≠ 46 ∨ j ≠ 2) → (tag b ≠ 46 ∨ j ≠ 20) → fld F1 b j = fld Fo b j) ∧ (∀ b j : Nat, tag b ≠ 37 → tag b ≠ 38 → elm F1 b j = elm Fo b j))) := by
  refine t_bodyi (y := yX13_build) (cd := cX13_build) (mL := 8) (rt := (some .int)) (rm := { frames := 4, cells := 0, slots := 0, locals := 98 }) (av := [.ref p0, .int p1, .int p2, .int p3, .int p4, .int p5]) (by decide) (Nat.le_of_ble_eq_true rfl) ho ?_
  intro p e s m args below meth c ls A Q hQ X hT hl
  have hx := X.1.1
  have hb := X.1.2.1
  have hl : lv_has ls 8 [(0, .ref p0), (1, .int p1), (2, .int p2), (3, .int p3), (4, .int p4), (5, .int p5)] := hl
  have rp1 := rg_all p1
  have rp2 := rg_all p2
  have rp3 := rg_all p3
  have rp4 := rg_all p4
  have rp5 := rg_all p5
  obtain ⟨F, hFo⟩ : ∃ F : Nat → va_E, F = Fo := ⟨_, rfl⟩
  rw [← hFo] at hT pf0
  have hfr : (∀ b j : Nat, (tag b ≠ 46 ∨ j ≠ 0) → (tag b ≠ 46 ∨ j ≠ 1) → (tag b ≠ 46 ∨ j ≠ 2) → (tag b ≠ 46 ∨ j ≠ 20) → fld F b j = fld Fo b j) ∧ (∀ b j : Nat, tag b ≠ 37 → tag b ≠ 38 → elm F b j = elm Fo b j) := by
    rw [hFo]
    exact ⟨by intros; rfl, by intros; rfl⟩
  refine lv_aload_n hx hb dX13_build_0 rfl (lv_at hl 0 rfl) ?_
  refine lv_iconst (v := 0) hx hb dX13_build_1 (by decide) ?_
  refine t_put (C := RX13) (T := TX13) (N := 37) (v := .int 0) X hT m0 g0 rfl tyX13 tyX13_ok nmX13 rfl 0 (by decide) qw_140 inlX13 rfl (by first | rfl | decide) (by first | rfl | decide) rfl (⟨_, rfl, (show (-2147483648) ≤ (0 : Int32).toInt from (by decide)), (show (0 : Int32).toInt ≤ 2147483647 from (by decide))⟩) dX13_build_2 (fun F H locs hT v77543 h1v77543 h2v77543 => ?_)
  have pf0 := (h1v77543 _ _ (Or.inr (by decide))).trans pf0
  have hfr : (∀ b j : Nat, (tag b ≠ 46 ∨ j ≠ 0) → (tag b ≠ 46 ∨ j ≠ 1) → (tag b ≠ 46 ∨ j ≠ 2) → (tag b ≠ 46 ∨ j ≠ 20) → fld F b j = fld Fo b j) ∧ (∀ b j : Nat, tag b ≠ 37 → tag b ≠ 38 → elm F b j = elm Fo b j) := ⟨fun b j n46_0 n46_1 n46_2 n46_20 => (h1v77543 b j (fr_ne g0 n46_0)).trans (hfr.1 b j n46_0 n46_1 n46_2 n46_20), fun b j a37 a38 => (h2v77543 b j).trans (hfr.2 b j a37 a38)⟩
  refine lv_aload_n hx hb dX13_build_5 rfl (lv_at hl 0 rfl) ?_
  refine lv_iload_n hx hb dX13_build_6 rfl (lv_at hl 1 rfl) ?_
  refine t_cVi (n := 1) (C := RX13) (T := TX13) (N := 37) (As := [.int p1]) (rest := []) X hT (km116_X13_isHouse l G tag L F hT.2.2.2 p0 p1 m0 g0 pf0) m0 g0 rfl rfl qw_796 qw_797 qw_798 qw_5 qw_799 ⟨rfl, by decide +kernel, by decide +kernel, by decide +kernel⟩ ⟨Nat.le_of_ble_eq_true rfl, Nat.le_of_ble_eq_true rfl⟩ hl rfl rfl (Nat.le_of_ble_eq_true rfl) dX13_build_7 ⟨Nat.le_of_ble_eq_true rfl, Nat.le_of_ble_eq_true rfl⟩ (fun z77544 F9 H locs hT hz77544 => ?_)
  obtain ⟨fz77544, hz77544⟩ := hz77544
  rw [fz77544] at hT
  refine lv_if_eq (tgt := 30) hx hb dX13_build_10 (by decide) (fun c77545 => ?_) (fun c77545 => ?_)
  · have w77546 := cv_eq (rfl : z77544.toInt = z77544.toInt) (by decide : (0 : Int32).toInt = 0) c77545
    refine lv_aload_n hx hb dX13_build_30 rfl (lv_at hl 0 rfl) ?_
    refine lv_iconst (v := 1) hx hb dX13_build_31 (by decide) ?_
    refine t_cVi (n := 1) (C := RX13) (T := TX13) (N := 37) (As := [.int 1]) (rest := []) X hT (km88_X13_refused l G tag L F hT.2.2.2 p0 1 m0 g0) m0 g0 rfl rfl qw_484 qw_485 qw_486 qw_5 qw_487 ⟨rfl, by decide +kernel, by decide +kernel, by decide +kernel⟩ ⟨Nat.le_of_ble_eq_true rfl, Nat.le_of_ble_eq_true rfl⟩ hl rfl rfl (Nat.le_of_ble_eq_true rfl) dX13_build_32 ⟨Nat.le_of_ble_eq_true rfl, Nat.le_of_ble_eq_true rfl⟩ (fun z77547 F H locs hT hz77547 => ?_)
    obtain ⟨hz77547, yz77547⟩ := hz77547
    have pf0 := (yz77547.1 _ 3 (Or.inr (by decide)) (Or.inr (by decide))).trans pf0
    have v77543 := (yz77547.1 _ 0 (Or.inr (by decide)) (Or.inr (by decide))).trans v77543
    have hfr : (∀ b j : Nat, (tag b ≠ 46 ∨ j ≠ 0) → (tag b ≠ 46 ∨ j ≠ 1) → (tag b ≠ 46 ∨ j ≠ 2) → (tag b ≠ 46 ∨ j ≠ 20) → fld F b j = fld Fo b j) ∧ (∀ b j : Nat, tag b ≠ 37 → tag b ≠ 38 → elm F b j = elm Fo b j) := ⟨fun b j n46_0 n46_1 n46_2 n46_20 => (yz77547.1 b j n46_1 n46_2).trans (hfr.1 b j n46_0 n46_1 n46_2 n46_20), fun b j a37 a38 => (yz77547.2 b j ).trans (hfr.2 b j a37 a38)⟩
    exact t_iret hQ X hT (⟨rg_all _, hfr⟩) (Nat.le_of_ble_eq_true rfl) (Nat.le_of_ble_eq_true rfl) dX13_build_35
  · have w77548 := cv_ne (rfl : z77544.toInt = z77544.toInt) (by decide : (0 : Int32).toInt = 0) c77545
    exfalso
    omega
theorem kp_X13_build (l : Launch) (G : KG) (tag : Nat → Nat) (L : List Nat) (Fo : Nat → va_E) (ho : okT G ttC tag L Fo) (p0 : Nat) (p1 : Int32) (p2 : Int32) (p3 : Int32) (p4 : Int32) (p5 : Int32) (m0 : p0 ∈ L) (g0 : tag p0 = 46) : TMi l yX13_build cX13_build 8 (some .int) { frames := 4, cells := 0, slots := 0, locals := 98 } G ttC tag L Fo [.ref p0, .int p1, .int p2, .int p3, .int p4, .int p5] (fun r F1 => ((-2147483648) ≤ r.toInt ∧ r.toInt ≤ 2147483647) ∧ ((∀ b j : Nat, (tag b ≠ 46 ∨ j ≠ 0) → (tag b ≠ 46 ∨ j ≠ 1) → (tag b ≠ 46 ∨ j ≠ 2) → (tag b ≠ 46 ∨ j ≠ 20) → fld F1 b j = fld Fo b j) ∧ (∀ b j : Nat, tag b ≠ 37 → tag b ≠ 38 → elm F1 b j = elm Fo b j))) := by
  rcases t_fldn ho m0 g0 rfl 3 rfl with h9 | ⟨b9, h9, m9, t9⟩
  · exact km250_X13_build l G tag L Fo ho p0 p1 p2 p3 p4 p5  m0 g0 h9 
  · exact km249_X13_build l G tag L Fo ho p0 p1 p2 p3 p4 p5 b9  m0 g0 m9 (tg_of t9) h9 
set_option maxHeartbeats 4000000 in
set_option maxRecDepth 100000 in
theorem km252_X13_take (l : Launch) (G : KG) (tag : Nat → Nat) (L : List Nat) (Fo : Nat → va_E) (ho : okT G ttC tag L Fo) (p0 : Nat) (p1 : Int32) (x0 : Nat) (m0 : p0 ∈ L) (g0 : tag p0 = 46) (mx0 : x0 ∈ L) (gx0 : tag x0 = 45) (pf0 : fld Fo p0 3 = .ref x0) : TMi l yX13_take cX13_take 4 (some .int) { frames := 2, cells := 0, slots := 0, locals := 44 } G ttC tag L Fo [.ref p0, .int p1] (fun r F1 => ((-2147483648) ≤ r.toInt ∧ r.toInt ≤ 2147483647) ∧ ((∀ b j : Nat, (tag b ≠ 46 ∨ j ≠ 0) → (tag b ≠ 46 ∨ j ≠ 1) → (tag b ≠ 46 ∨ j ≠ 2) → (tag b ≠ 46 ∨ j ≠ 20) → fld F1 b j = fld Fo b j) ∧ (∀ b j : Nat, tag b ≠ 37 → tag b ≠ 38 → elm F1 b j = elm Fo b j))) := by
  refine t_bodyi (y := yX13_take) (cd := cX13_take) (mL := 4) (rt := (some .int)) (rm := { frames := 2, cells := 0, slots := 0, locals := 44 }) (av := [.ref p0, .int p1]) (by decide) (Nat.le_of_ble_eq_true rfl) ho ?_
  intro p e s m args below meth c ls A Q hQ X hT hl
  have hx := X.1.1
  have hb := X.1.2.1
  have hl : lv_has ls 4 [(0, .ref p0), (1, .int p1)] := hl
  have rp1 := rg_all p1
  obtain ⟨F, hFo⟩ : ∃ F : Nat → va_E, F = Fo := ⟨_, rfl⟩
  rw [← hFo] at hT pf0
  have hfr : (∀ b j : Nat, (tag b ≠ 46 ∨ j ≠ 0) → (tag b ≠ 46 ∨ j ≠ 1) → (tag b ≠ 46 ∨ j ≠ 2) → (tag b ≠ 46 ∨ j ≠ 20) → fld F b j = fld Fo b j) ∧ (∀ b j : Nat, tag b ≠ 37 → tag b ≠ 38 → elm F b j = elm Fo b j) := by
    rw [hFo]
    exact ⟨by intros; rfl, by intros; rfl⟩
  refine lv_aload_n hx hb dX13_take_0 rfl (lv_at hl 0 rfl) ?_
  refine lv_iconst (v := 0) hx hb dX13_take_1 (by decide) ?_
  refine t_put (C := RX13) (T := TX13) (N := 37) (v := .int 0) X hT m0 g0 rfl tyX13 tyX13_ok nmX13 rfl 0 (by decide) qw_140 inlX13 rfl (by first | rfl | decide) (by first | rfl | decide) rfl (⟨_, rfl, (show (-2147483648) ≤ (0 : Int32).toInt from (by decide)), (show (0 : Int32).toInt ≤ 2147483647 from (by decide))⟩) dX13_take_2 (fun F H locs hT v77967 h1v77967 h2v77967 => ?_)
  have pf0 := (h1v77967 _ _ (Or.inr (by decide))).trans pf0
  have hfr : (∀ b j : Nat, (tag b ≠ 46 ∨ j ≠ 0) → (tag b ≠ 46 ∨ j ≠ 1) → (tag b ≠ 46 ∨ j ≠ 2) → (tag b ≠ 46 ∨ j ≠ 20) → fld F b j = fld Fo b j) ∧ (∀ b j : Nat, tag b ≠ 37 → tag b ≠ 38 → elm F b j = elm Fo b j) := ⟨fun b j n46_0 n46_1 n46_2 n46_20 => (h1v77967 b j (fr_ne g0 n46_0)).trans (hfr.1 b j n46_0 n46_1 n46_2 n46_20), fun b j a37 a38 => (h2v77967 b j).trans (hfr.2 b j a37 a38)⟩
  refine lv_aload_n hx hb dX13_take_5 rfl (lv_at hl 0 rfl) ?_
  refine lv_iload_n hx hb dX13_take_6 rfl (lv_at hl 1 rfl) ?_
  refine t_cVi (n := 1) (C := RX13) (T := TX13) (N := 37) (As := [.int p1]) (rest := []) X hT (km107_X13_isHouse l G tag L F hT.2.2.2 p0 p1 x0 m0 g0 mx0 gx0 pf0) m0 g0 rfl rfl qw_796 qw_797 qw_798 qw_5 qw_799 ⟨rfl, by decide +kernel, by decide +kernel, by decide +kernel⟩ ⟨Nat.le_of_ble_eq_true rfl, Nat.le_of_ble_eq_true rfl⟩ hl rfl rfl (Nat.le_of_ble_eq_true rfl) dX13_take_7 ⟨Nat.le_of_ble_eq_true rfl, Nat.le_of_ble_eq_true rfl⟩ (fun z77968 F9 H locs hT hz77968 => ?_)
  obtain ⟨fz77968, hz77968⟩ := hz77968
  rw [fz77968] at hT
  obtain ⟨hz77968, iz77968⟩ := hz77968
  refine lv_if_ne (tgt := 19) hx hb dX13_take_10 (by decide) (fun c77969 => ?_) (fun c77969 => ?_)
  · have w77970 := cv_ne (rfl : z77968.toInt = z77968.toInt) (by decide : (0 : Int32).toInt = 0) c77969
    have w77971 := (fun h => (iz77968 h)) (by omega)
    refine lv_aload_n hx hb dX13_take_19 rfl (lv_at hl 0 rfl) ?_
    refine lv_iload_n hx hb dX13_take_20 rfl (lv_at hl 1 rfl) ?_
    obtain ⟨z77972, qz77972, mz77972, gz77972⟩ := t_fldr hT m0 g0 rfl 16 rfl
    have gz77972 : tag z77972 = 37 := tg_of gz77972
    refine t_cVi (n := 1) (C := RX13) (T := TX13) (N := 37) (As := [.int p1]) (rest := []) X hT (km214_X13_inmost l G tag L F hT.2.2.2 p0 p1 z77972 m0 g0 (by omega) mz77972 gz77972 qz77972) m0 g0 rfl rfl qw_1304 qw_1305 qw_1306 qw_5 qw_1307 ⟨rfl, by decide +kernel, by decide +kernel, by decide +kernel⟩ ⟨Nat.le_of_ble_eq_true rfl, Nat.le_of_ble_eq_true rfl⟩ hl rfl rfl (Nat.le_of_ble_eq_true rfl) dX13_take_21 ⟨Nat.le_of_ble_eq_true rfl, Nat.le_of_ble_eq_true rfl⟩ (fun z77973 F9 H locs hT hz77973 => ?_)
    obtain ⟨fz77973, hz77973, xz77973_0⟩ := hz77973
    rw [fz77973] at hT xz77973_0
    refine lv_istore_n (lv' := [(2, .int z77973), (0, .ref p0), (1, .int p1)]) hx hb dX13_take_24 rfl hl (by decide) rfl (fun ls hl => ?_)
    refine lv_iload_n hx hb dX13_take_25 rfl (lv_at hl 0 rfl) ?_
    refine lv_bipush (v := (-2)) hx hb dX13_take_26 (by decide) ?_
    refine lv_icmp_ne (tgt := 38) hx hb dX13_take_28 (by decide) (fun c77974 => ?_) (fun c77974 => ?_)
    · have w77975 := cv_ne (rfl : z77973.toInt = z77973.toInt) (by decide : ((-2) : Int32).toInt = (-2)) c77974
      have w77976 := xz77973_0.1 (by omega)
      refine lv_aload_n hx hb dX13_take_38 rfl (lv_at hl 1 rfl) ?_
      refine lv_iload_n hx hb dX13_take_39 rfl (lv_at hl 2 rfl) ?_
      refine lv_iload_n hx hb dX13_take_40 rfl (lv_at hl 0 rfl) ?_
      refine t_cVi (n := 2) (C := RX13) (T := TX13) (N := 37) (As := [.int p1, .int z77973]) (rest := []) X hT (km219_X13_isLivedIn l G tag L F hT.2.2.2 p0 p1 z77973 x0 m0 g0 mx0 gx0 pf0) m0 g0 rfl rfl qw_1324 qw_1325 qw_1326 qw_5 qw_1327 ⟨rfl, by decide +kernel, by decide +kernel, by decide +kernel⟩ ⟨Nat.le_of_ble_eq_true rfl, Nat.le_of_ble_eq_true rfl⟩ hl rfl rfl (Nat.le_of_ble_eq_true rfl) dX13_take_41 ⟨Nat.le_of_ble_eq_true rfl, Nat.le_of_ble_eq_true rfl⟩ (fun z77977 F9 H locs hT hz77977 => ?_)
      obtain ⟨fz77977, hz77977⟩ := hz77977
      rw [fz77977] at hT
      refine lv_if_eq (tgt := 53) hx hb dX13_take_44 (by decide) (fun c77978 => ?_) (fun c77978 => ?_)
      · have w77979 := cv_eq (rfl : z77977.toInt = z77977.toInt) (by decide : (0 : Int32).toInt = 0) c77978
        refine lv_aload_n hx hb dX13_take_53 rfl (lv_at hl 1 rfl) ?_
        refine t_cVv (n := 0) (C := RX13) (T := TX13) (N := 37) (As := []) (rest := []) X hT (km245_X13_keeps l G tag L F hT.2.2.2 p0 m0 g0) m0 g0 rfl rfl qw_1437 qw_1438 qw_1439 qw_5 qw_1440 ⟨rfl, by decide +kernel, by decide +kernel, by decide +kernel⟩ ⟨Nat.le_of_ble_eq_true rfl, Nat.le_of_ble_eq_true rfl⟩ hl rfl rfl (Nat.le_of_ble_eq_true rfl) dX13_take_54 ⟨Nat.le_of_ble_eq_true rfl, Nat.le_of_ble_eq_true rfl⟩ (fun F H locs hT hz77980 => ?_)
        have yz77980 := hz77980
        have pf0 := (yz77980.1 _ 3 (Or.inr (by decide))).trans pf0
        have v77967 := (yz77980.1 _ 0 (Or.inr (by decide))).trans v77967
        have qz77972 := (yz77980.1 _ 16 (Or.inr (by decide))).trans qz77972
        have hfr : (∀ b j : Nat, (tag b ≠ 46 ∨ j ≠ 0) → (tag b ≠ 46 ∨ j ≠ 1) → (tag b ≠ 46 ∨ j ≠ 2) → (tag b ≠ 46 ∨ j ≠ 20) → fld F b j = fld Fo b j) ∧ (∀ b j : Nat, tag b ≠ 37 → tag b ≠ 38 → elm F b j = elm Fo b j) := ⟨fun b j n46_0 n46_1 n46_2 n46_20 => (yz77980.1 b j n46_20).trans (hfr.1 b j n46_0 n46_1 n46_2 n46_20), fun b j a37 a38 => (yz77980.2 b j a38).trans (hfr.2 b j a37 a38)⟩
        refine lv_aload_n hx hb dX13_take_57 rfl (lv_at hl 1 rfl) ?_
        refine lv_iload_n hx hb dX13_take_58 rfl (lv_at hl 2 rfl) ?_
        refine lv_iload_n hx hb dX13_take_59 rfl (lv_at hl 0 rfl) ?_
        refine t_cVi (n := 2) (C := RX13) (T := TX13) (N := 37) (As := [.int p1, .int z77973]) (rest := []) X hT (km215_X13_goldOf l G tag L F hT.2.2.2 p0 p1 z77973 x0 m0 g0 (by omega) (by omega) mx0 gx0 pf0) m0 g0 rfl rfl qw_1308 qw_1309 qw_1310 qw_5 qw_1311 ⟨rfl, by decide +kernel, by decide +kernel, by decide +kernel⟩ ⟨Nat.le_of_ble_eq_true rfl, Nat.le_of_ble_eq_true rfl⟩ hl rfl rfl (Nat.le_of_ble_eq_true rfl) dX13_take_60 ⟨Nat.le_of_ble_eq_true rfl, Nat.le_of_ble_eq_true rfl⟩ (fun z77981 F9 H locs hT hz77981 => ?_)
        obtain ⟨fz77981, hz77981⟩ := hz77981
        rw [fz77981] at hT
        refine lv_istore_n (lv' := [(3, .int z77981), (2, .int z77973), (0, .ref p0), (1, .int p1)]) hx hb dX13_take_63 rfl hl (by decide) rfl (fun ls hl => ?_)
        refine lv_aload_n hx hb dX13_take_64 rfl (lv_at hl 2 rfl) ?_
        refine t_get (C := RX13) (T := TX13) (N := 37) X hT m0 g0 rfl rfl 16 (by decide) qw_112 inlX13 rfl dX13_take_65 (fun v77982 hv77982 ov77982 => ?_)
        obtain rfl : v77982 = .ref z77972 := hv77982.symm.trans qz77972
        refine lv_bipush (v := 8) hx hb dX13_take_68 (by decide) ?_
        refine lv_iload_n hx hb dX13_take_70 rfl (lv_at hl 3 rfl) ?_
        refine lv_iadd hx hb dX13_take_71 ?_
        refine lv_topi (fun z77983 ez77983 => ?_)
        have hz77983 : z77983.toInt = 8 + p1.toInt := ar_add ez77983 (by decide : (8 : Int32).toInt = 8) (rfl : p1.toInt = p1.toInt) (by omega) (by omega)
        have rz77983 : 8 ≤ z77983.toInt ∧ z77983.toInt ≤ 11 := by omega
        refine lv_sipush (v := 999) hx hb dX13_take_72 (by decide) ?_
        refine lv_aload_n hx hb dX13_take_75 rfl (lv_at hl 2 rfl) ?_
        refine t_get (C := RX13) (T := TX13) (N := 37) X hT m0 g0 rfl rfl 16 (by decide) qw_112 inlX13 rfl dX13_take_76 (fun v77984 hv77984 ov77984 => ?_)
        obtain rfl : v77984 = .ref z77972 := hv77984.symm.trans qz77972
        refine lv_bipush (v := 8) hx hb dX13_take_79 (by decide) ?_
        refine lv_iload_n hx hb dX13_take_81 rfl (lv_at hl 3 rfl) ?_
        refine lv_iadd hx hb dX13_take_82 ?_
        refine lv_topi (fun z77985 ez77985 => ?_)
        have hz77985 : z77985.toInt = 8 + p1.toInt := ar_add ez77985 (by decide : (8 : Int32).toInt = 8) (rfl : p1.toInt = p1.toInt) (by omega) (by omega)
        have rz77985 : 8 ≤ z77985.toInt ∧ z77985.toInt ≤ 11 := by omega
        refine t_ild X hT mz77972 gz77972 rfl (by omega) dX13_take_83 (fun z77986 vz77986 rz77986 => ?_)
        have oz77986 := rz77986
        have rz77986 := rg_all z77986
        refine lv_iload_n hx hb dX13_take_84 rfl (lv_at hl 0 rfl) ?_
        refine lv_iadd hx hb dX13_take_85 ?_
        refine lv_topi (fun z77987 ez77987 => ?_)
        have rz77987 := rg_all z77987
        refine t_cSi (n := 2) (As := [.int 999, .int z77987]) (rest := [.int z77983, .ref z77972]) X hT (km161_X13_least l G tag L F hT.2.2.2 999 z77987 ) qw_1065 qw_1066 qw_5 qw_1067 ⟨by decide +kernel, by decide +kernel, by decide +kernel⟩ ⟨Nat.le_of_ble_eq_true rfl, Nat.le_of_ble_eq_true rfl⟩ hl rfl rfl (Nat.le_of_ble_eq_true rfl) dX13_take_86 ⟨Nat.le_of_ble_eq_true rfl, Nat.le_of_ble_eq_true rfl⟩ (fun z77988 F9 H locs hT hz77988 => ?_)
        obtain ⟨fz77988, hz77988⟩ := hz77988
        rw [fz77988] at hT
        refine t_ist X hT mz77972 gz77972 rfl (by omega) (row_fv (by omega) (Or.inl (by omega))) dX13_take_89 (fun F H locs hT v77989 h1v77989 h2v77989 => ?_)
        have pf0 := (h2v77989 _ _).trans pf0
        have v77967 := (h2v77989 _ _).trans v77967
        have qz77972 := (h2v77989 _ _).trans qz77972
        have hfr : (∀ b j : Nat, (tag b ≠ 46 ∨ j ≠ 0) → (tag b ≠ 46 ∨ j ≠ 1) → (tag b ≠ 46 ∨ j ≠ 2) → (tag b ≠ 46 ∨ j ≠ 20) → fld F b j = fld Fo b j) ∧ (∀ b j : Nat, tag b ≠ 37 → tag b ≠ 38 → elm F b j = elm Fo b j) := ⟨fun b j n46_0 n46_1 n46_2 n46_20 => (h2v77989 b j).trans (hfr.1 b j n46_0 n46_1 n46_2 n46_20), fun b j a37 a38 => (h1v77989 b j (Or.inl (at_ne gz77972 a37))).trans (hfr.2 b j a37 a38)⟩
        refine lv_aload_n hx hb dX13_take_90 rfl (lv_at hl 2 rfl) ?_
        refine t_get (C := RX13) (T := TX13) (N := 37) X hT m0 g0 rfl rfl 16 (by decide) qw_112 inlX13 rfl dX13_take_91 (fun v77990 hv77990 ov77990 => ?_)
        obtain rfl : v77990 = .ref z77972 := hv77990.symm.trans qz77972
        refine lv_iload_n hx hb dX13_take_94 rfl (lv_at hl 3 rfl) ?_
        refine lv_iload_n hx hb dX13_take_95 rfl (lv_at hl 1 rfl) ?_
        refine lv_iconst (v := 5) hx hb dX13_take_96 (by decide) ?_
        refine t_cSi (n := 3) (As := [.int p1, .int z77973, .int 5]) (rest := [.ref z77972]) X hT (km49_X13_part l G tag L F hT.2.2.2 p1 z77973 5 (by omega) (by omega) (by decide)) qw_661 qw_662 qw_5 qw_663 ⟨by decide +kernel, by decide +kernel, by decide +kernel⟩ ⟨Nat.le_of_ble_eq_true rfl, Nat.le_of_ble_eq_true rfl⟩ hl rfl rfl (Nat.le_of_ble_eq_true rfl) dX13_take_97 ⟨Nat.le_of_ble_eq_true rfl, Nat.le_of_ble_eq_true rfl⟩ (fun z77991 F9 H locs hT hz77991 => ?_)
        obtain ⟨fz77991, hz77991, xz77991_0⟩ := hz77991
        rw [fz77991] at hT
        have k77992 : (5 : Int32).toInt = 5 := by decide
        refine lv_iconst (v := 1) hx hb dX13_take_100 (by decide) ?_
        refine t_ist X hT mz77972 gz77972 rfl (by omega) (row_fv (by omega) (Or.inr (Or.inr (by omega)))) dX13_take_101 (fun F H locs hT v77993 h1v77993 h2v77993 => ?_)
        have pf0 := (h2v77993 _ _).trans pf0
        have v77967 := (h2v77993 _ _).trans v77967
        have qz77972 := (h2v77993 _ _).trans qz77972
        have v77989 := (h1v77993 _ _ (Or.inr (ine (by omega) (by omega) (by omega)))).trans v77989
        have hfr : (∀ b j : Nat, (tag b ≠ 46 ∨ j ≠ 0) → (tag b ≠ 46 ∨ j ≠ 1) → (tag b ≠ 46 ∨ j ≠ 2) → (tag b ≠ 46 ∨ j ≠ 20) → fld F b j = fld Fo b j) ∧ (∀ b j : Nat, tag b ≠ 37 → tag b ≠ 38 → elm F b j = elm Fo b j) := ⟨fun b j n46_0 n46_1 n46_2 n46_20 => (h2v77993 b j).trans (hfr.1 b j n46_0 n46_1 n46_2 n46_20), fun b j a37 a38 => (h1v77993 b j (Or.inl (at_ne gz77972 a37))).trans (hfr.2 b j a37 a38)⟩
        refine lv_aload_n hx hb dX13_take_102 rfl (lv_at hl 2 rfl) ?_
        refine t_get (C := RX13) (T := TX13) (N := 37) X hT m0 g0 rfl rfl 16 (by decide) qw_112 inlX13 rfl dX13_take_103 (fun v77994 hv77994 ov77994 => ?_)
        obtain rfl : v77994 = .ref z77972 := hv77994.symm.trans qz77972
        refine lv_iload_n hx hb dX13_take_106 rfl (lv_at hl 3 rfl) ?_
        refine lv_iload_n hx hb dX13_take_107 rfl (lv_at hl 1 rfl) ?_
        refine lv_bipush (v := 6) hx hb dX13_take_108 (by decide) ?_
        refine t_cSi (n := 3) (As := [.int p1, .int z77973, .int 6]) (rest := [.ref z77972]) X hT (km49_X13_part l G tag L F hT.2.2.2 p1 z77973 6 (by omega) (by omega) (by decide)) qw_661 qw_662 qw_5 qw_663 ⟨by decide +kernel, by decide +kernel, by decide +kernel⟩ ⟨Nat.le_of_ble_eq_true rfl, Nat.le_of_ble_eq_true rfl⟩ hl rfl rfl (Nat.le_of_ble_eq_true rfl) dX13_take_110 ⟨Nat.le_of_ble_eq_true rfl, Nat.le_of_ble_eq_true rfl⟩ (fun z77995 F9 H locs hT hz77995 => ?_)
        obtain ⟨fz77995, hz77995, xz77995_0⟩ := hz77995
        rw [fz77995] at hT
        have k77996 : (6 : Int32).toInt = 6 := by decide
        refine lv_iconst (v := 0) hx hb dX13_take_113 (by decide) ?_
        refine t_ist X hT mz77972 gz77972 rfl (by omega) (row_fv (by omega) (Or.inr (Or.inr (by omega)))) dX13_take_114 (fun F H locs hT v77997 h1v77997 h2v77997 => ?_)
        have pf0 := (h2v77997 _ _).trans pf0
        have v77967 := (h2v77997 _ _).trans v77967
        have qz77972 := (h2v77997 _ _).trans qz77972
        have v77989 := (h1v77997 _ _ (Or.inr (ine (by omega) (by omega) (by omega)))).trans v77989
        have hfr : (∀ b j : Nat, (tag b ≠ 46 ∨ j ≠ 0) → (tag b ≠ 46 ∨ j ≠ 1) → (tag b ≠ 46 ∨ j ≠ 2) → (tag b ≠ 46 ∨ j ≠ 20) → fld F b j = fld Fo b j) ∧ (∀ b j : Nat, tag b ≠ 37 → tag b ≠ 38 → elm F b j = elm Fo b j) := ⟨fun b j n46_0 n46_1 n46_2 n46_20 => (h2v77997 b j).trans (hfr.1 b j n46_0 n46_1 n46_2 n46_20), fun b j a37 a38 => (h1v77997 b j (Or.inl (at_ne gz77972 a37))).trans (hfr.2 b j a37 a38)⟩
        refine lv_aload_n hx hb dX13_take_115 rfl (lv_at hl 2 rfl) ?_
        refine lv_iload_n hx hb dX13_take_116 rfl (lv_at hl 0 rfl) ?_
        refine t_cVi (n := 1) (C := RX13) (T := TX13) (N := 37) (As := [.int z77981]) (rest := []) X hT (km93_X13_good l G tag L F hT.2.2.2 p0 z77981 m0 g0) m0 g0 rfl rfl qw_687 qw_688 qw_689 qw_5 qw_690 ⟨rfl, by decide +kernel, by decide +kernel, by decide +kernel⟩ ⟨Nat.le_of_ble_eq_true rfl, Nat.le_of_ble_eq_true rfl⟩ hl rfl rfl (Nat.le_of_ble_eq_true rfl) dX13_take_117 ⟨Nat.le_of_ble_eq_true rfl, Nat.le_of_ble_eq_true rfl⟩ (fun z77998 F H locs hT hz77998 => ?_)
        obtain ⟨hz77998, yz77998⟩ := hz77998
        have pf0 := (yz77998.1 _ 3 (Or.inr (by decide)) (Or.inr (by decide))).trans pf0
        have v77967 := (yz77998.1 _ 0 (Or.inr (by decide)) (Or.inr (by decide))).trans v77967
        have qz77972 := (yz77998.1 _ 16 (Or.inr (by decide)) (Or.inr (by decide))).trans qz77972
        have v77989 := (yz77998.2 _ _ ).trans v77989
        have v77997 := (yz77998.2 _ _ ).trans v77997
        have hfr : (∀ b j : Nat, (tag b ≠ 46 ∨ j ≠ 0) → (tag b ≠ 46 ∨ j ≠ 1) → (tag b ≠ 46 ∨ j ≠ 2) → (tag b ≠ 46 ∨ j ≠ 20) → fld F b j = fld Fo b j) ∧ (∀ b j : Nat, tag b ≠ 37 → tag b ≠ 38 → elm F b j = elm Fo b j) := ⟨fun b j n46_0 n46_1 n46_2 n46_20 => (yz77998.1 b j n46_1 n46_2).trans (hfr.1 b j n46_0 n46_1 n46_2 n46_20), fun b j a37 a38 => (yz77998.2 b j ).trans (hfr.2 b j a37 a38)⟩
        exact t_iret hQ X hT (⟨rg_all _, hfr⟩) (Nat.le_of_ble_eq_true rfl) (Nat.le_of_ble_eq_true rfl) dX13_take_120
      · have w77999 := cv_ne (rfl : z77977.toInt = z77977.toInt) (by decide : (0 : Int32).toInt = 0) c77978
        refine lv_aload_n hx hb dX13_take_47 rfl (lv_at hl 1 rfl) ?_
        refine lv_iconst (v := 5) hx hb dX13_take_48 (by decide) ?_
        refine t_cVi (n := 1) (C := RX13) (T := TX13) (N := 37) (As := [.int 5]) (rest := []) X hT (km88_X13_refused l G tag L F hT.2.2.2 p0 5 m0 g0) m0 g0 rfl rfl qw_484 qw_485 qw_486 qw_5 qw_487 ⟨rfl, by decide +kernel, by decide +kernel, by decide +kernel⟩ ⟨Nat.le_of_ble_eq_true rfl, Nat.le_of_ble_eq_true rfl⟩ hl rfl rfl (Nat.le_of_ble_eq_true rfl) dX13_take_49 ⟨Nat.le_of_ble_eq_true rfl, Nat.le_of_ble_eq_true rfl⟩ (fun z78000 F H locs hT hz78000 => ?_)
        obtain ⟨hz78000, yz78000⟩ := hz78000
        have pf0 := (yz78000.1 _ 3 (Or.inr (by decide)) (Or.inr (by decide))).trans pf0
        have v77967 := (yz78000.1 _ 0 (Or.inr (by decide)) (Or.inr (by decide))).trans v77967
        have qz77972 := (yz78000.1 _ 16 (Or.inr (by decide)) (Or.inr (by decide))).trans qz77972
        have hfr : (∀ b j : Nat, (tag b ≠ 46 ∨ j ≠ 0) → (tag b ≠ 46 ∨ j ≠ 1) → (tag b ≠ 46 ∨ j ≠ 2) → (tag b ≠ 46 ∨ j ≠ 20) → fld F b j = fld Fo b j) ∧ (∀ b j : Nat, tag b ≠ 37 → tag b ≠ 38 → elm F b j = elm Fo b j) := ⟨fun b j n46_0 n46_1 n46_2 n46_20 => (yz78000.1 b j n46_1 n46_2).trans (hfr.1 b j n46_0 n46_1 n46_2 n46_20), fun b j a37 a38 => (yz78000.2 b j ).trans (hfr.2 b j a37 a38)⟩
        exact t_iret hQ X hT (⟨rg_all _, hfr⟩) (Nat.le_of_ble_eq_true rfl) (Nat.le_of_ble_eq_true rfl) dX13_take_52
    · have w78001 := cv_eq (rfl : z77973.toInt = z77973.toInt) (by decide : ((-2) : Int32).toInt = (-2)) c77974
      refine lv_aload_n hx hb dX13_take_31 rfl (lv_at hl 1 rfl) ?_
      refine lv_bipush (v := 6) hx hb dX13_take_32 (by decide) ?_
      refine t_cVi (n := 1) (C := RX13) (T := TX13) (N := 37) (As := [.int 6]) (rest := []) X hT (km88_X13_refused l G tag L F hT.2.2.2 p0 6 m0 g0) m0 g0 rfl rfl qw_484 qw_485 qw_486 qw_5 qw_487 ⟨rfl, by decide +kernel, by decide +kernel, by decide +kernel⟩ ⟨Nat.le_of_ble_eq_true rfl, Nat.le_of_ble_eq_true rfl⟩ hl rfl rfl (Nat.le_of_ble_eq_true rfl) dX13_take_34 ⟨Nat.le_of_ble_eq_true rfl, Nat.le_of_ble_eq_true rfl⟩ (fun z78002 F H locs hT hz78002 => ?_)
      obtain ⟨hz78002, yz78002⟩ := hz78002
      have pf0 := (yz78002.1 _ 3 (Or.inr (by decide)) (Or.inr (by decide))).trans pf0
      have v77967 := (yz78002.1 _ 0 (Or.inr (by decide)) (Or.inr (by decide))).trans v77967
      have qz77972 := (yz78002.1 _ 16 (Or.inr (by decide)) (Or.inr (by decide))).trans qz77972
      have hfr : (∀ b j : Nat, (tag b ≠ 46 ∨ j ≠ 0) → (tag b ≠ 46 ∨ j ≠ 1) → (tag b ≠ 46 ∨ j ≠ 2) → (tag b ≠ 46 ∨ j ≠ 20) → fld F b j = fld Fo b j) ∧ (∀ b j : Nat, tag b ≠ 37 → tag b ≠ 38 → elm F b j = elm Fo b j) := ⟨fun b j n46_0 n46_1 n46_2 n46_20 => (yz78002.1 b j n46_1 n46_2).trans (hfr.1 b j n46_0 n46_1 n46_2 n46_20), fun b j a37 a38 => (yz78002.2 b j ).trans (hfr.2 b j a37 a38)⟩
      exact t_iret hQ X hT (⟨rg_all _, hfr⟩) (Nat.le_of_ble_eq_true rfl) (Nat.le_of_ble_eq_true rfl) dX13_take_37
  · have w78003 := cv_eq (rfl : z77968.toInt = z77968.toInt) (by decide : (0 : Int32).toInt = 0) c77969
    refine lv_aload_n hx hb dX13_take_13 rfl (lv_at hl 0 rfl) ?_
    refine lv_iconst (v := 1) hx hb dX13_take_14 (by decide) ?_
    refine t_cVi (n := 1) (C := RX13) (T := TX13) (N := 37) (As := [.int 1]) (rest := []) X hT (km88_X13_refused l G tag L F hT.2.2.2 p0 1 m0 g0) m0 g0 rfl rfl qw_484 qw_485 qw_486 qw_5 qw_487 ⟨rfl, by decide +kernel, by decide +kernel, by decide +kernel⟩ ⟨Nat.le_of_ble_eq_true rfl, Nat.le_of_ble_eq_true rfl⟩ hl rfl rfl (Nat.le_of_ble_eq_true rfl) dX13_take_15 ⟨Nat.le_of_ble_eq_true rfl, Nat.le_of_ble_eq_true rfl⟩ (fun z78004 F H locs hT hz78004 => ?_)
    obtain ⟨hz78004, yz78004⟩ := hz78004
    have pf0 := (yz78004.1 _ 3 (Or.inr (by decide)) (Or.inr (by decide))).trans pf0
    have v77967 := (yz78004.1 _ 0 (Or.inr (by decide)) (Or.inr (by decide))).trans v77967
    have hfr : (∀ b j : Nat, (tag b ≠ 46 ∨ j ≠ 0) → (tag b ≠ 46 ∨ j ≠ 1) → (tag b ≠ 46 ∨ j ≠ 2) → (tag b ≠ 46 ∨ j ≠ 20) → fld F b j = fld Fo b j) ∧ (∀ b j : Nat, tag b ≠ 37 → tag b ≠ 38 → elm F b j = elm Fo b j) := ⟨fun b j n46_0 n46_1 n46_2 n46_20 => (yz78004.1 b j n46_1 n46_2).trans (hfr.1 b j n46_0 n46_1 n46_2 n46_20), fun b j a37 a38 => (yz78004.2 b j ).trans (hfr.2 b j a37 a38)⟩
    exact t_iret hQ X hT (⟨rg_all _, hfr⟩) (Nat.le_of_ble_eq_true rfl) (Nat.le_of_ble_eq_true rfl) dX13_take_18
