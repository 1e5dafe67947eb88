theorem kp_X13_years (l : Launch) (G : KG) (tag : Nat → Nat) (L : List Nat) (Fo : Nat → va_E) (ho : okT G ttC tag L Fo) (p0 : Nat) (p1 : Int32) (m0 : p0 ∈ L) (g0 : tag p0 = 46) : TMi l yX13_years cX13_years 3 (some .int) { frames := 7, cells := 0, slots := 0, locals := 170 } G ttC tag L Fo [.ref p0, .int p1] (fun r F1 => ((-2147483648) ≤ r.toInt ∧ r.toInt ≤ 2147483647) ∧ ((∀ b j : Nat, (tag b ≠ 46 ∨ j ≠ 0) → (tag b ≠ 46 ∨ j ≠ 1) → (tag b ≠ 46 ∨ j ≠ 2) → (tag b ≠ 46 ∨ j ≠ 20) → (tag b ≠ 46 ∨ j ≠ 22) → (tag b ≠ 46 ∨ j ≠ 23) → fld F1 b j = fld Fo b j) ∧ (∀ b j : Nat, tag b ≠ 37 → tag b ≠ 38 → tag b ≠ 40 → elm F1 b j = elm Fo b j))) := by
  rcases t_fldn ho m0 g0 rfl 3 rfl with h9 | ⟨b9, h9, m9, t9⟩
  · exact km247_X13_years l G tag L Fo ho p0 p1  m0 g0 h9 
  · exact km246_X13_years l G tag L Fo ho p0 p1 b9  m0 g0 m9 (tg_of t9) h9 
set_option maxHeartbeats 4000000 in
set_option maxRecDepth 100000 in
theorem km249_X13_build (l : Launch) (G : KG) (tag : Nat → Nat) (L : List Nat) (Fo : Nat → va_E) (ho : okT G ttC tag L Fo) (p0 : Nat) (p1 : Int32) (p2 : Int32) (p3 : Int32) (p4 : Int32) (p5 : Int32) (x0 : Nat) (m0 : p0 ∈ L) (g0 : tag p0 = 46) (mx0 : x0 ∈ L) (gx0 : tag x0 = 45) (pf0 : fld Fo p0 3 = .ref x0) : TMi l yX13_build cX13_build 8 (some .int) { frames := 4, cells := 0, slots := 0, locals := 98 } G ttC tag L Fo [.ref p0, .int p1, .int p2, .int p3, .int p4, .int p5] (fun r F1 => ((-2147483648) ≤ r.toInt ∧ r.toInt ≤ 2147483647) ∧ ((∀ b j : Nat, (tag b ≠ 46 ∨ j ≠ 0) → (tag b ≠ 46 ∨ j ≠ 1) → (tag b ≠ 46 ∨ j ≠ 2) → (tag b ≠ 46 ∨ j ≠ 20) → fld F1 b j = fld Fo b j) ∧ (∀ b j : Nat, tag b ≠ 37 → tag b ≠ 38 → elm F1 b j = elm Fo b j))) := by
  refine t_bodyi (y := yX13_build) (cd := cX13_build) (mL := 8) (rt := (some .int)) (rm := { frames := 4, cells := 0, slots := 0, locals := 98 }) (av := [.ref p0, .int p1, .int p2, .int p3, .int p4, .int p5]) (by decide) (Nat.le_of_ble_eq_true rfl) ho ?_
  intro p e s m args below meth c ls A Q hQ X hT hl
  have hx := X.1.1
  have hb := X.1.2.1
  have hl : lv_has ls 8 [(0, .ref p0), (1, .int p1), (2, .int p2), (3, .int p3), (4, .int p4), (5, .int p5)] := hl
  have rp1 := rg_all p1
  have rp2 := rg_all p2
  have rp3 := rg_all p3
  have rp4 := rg_all p4
  have rp5 := rg_all p5
  obtain ⟨F, hFo⟩ : ∃ F : Nat → va_E, F = Fo := ⟨_, rfl⟩
  rw [← hFo] at hT pf0
  have hfr : (∀ b j : Nat, (tag b ≠ 46 ∨ j ≠ 0) → (tag b ≠ 46 ∨ j ≠ 1) → (tag b ≠ 46 ∨ j ≠ 2) → (tag b ≠ 46 ∨ j ≠ 20) → fld F b j = fld Fo b j) ∧ (∀ b j : Nat, tag b ≠ 37 → tag b ≠ 38 → elm F b j = elm Fo b j) := by
    rw [hFo]
    exact ⟨by intros; rfl, by intros; rfl⟩
  refine lv_aload_n hx hb dX13_build_0 rfl (lv_at hl 0 rfl) ?_
  refine lv_iconst (v := 0) hx hb dX13_build_1 (by decide) ?_
  refine t_put (C := RX13) (T := TX13) (N := 37) (v := .int 0) X hT m0 g0 rfl tyX13 tyX13_ok nmX13 rfl 0 (by decide) qw_140 inlX13 rfl (by first | rfl | decide) (by first | rfl | decide) rfl (⟨_, rfl, (show (-2147483648) ≤ (0 : Int32).toInt from (by decide)), (show (0 : Int32).toInt ≤ 2147483647 from (by decide))⟩) dX13_build_2 (fun F H locs hT v77217 h1v77217 h2v77217 => ?_)
  have pf0 := (h1v77217 _ _ (Or.inr (by decide))).trans pf0
  have hfr : (∀ b j : Nat, (tag b ≠ 46 ∨ j ≠ 0) → (tag b ≠ 46 ∨ j ≠ 1) → (tag b ≠ 46 ∨ j ≠ 2) → (tag b ≠ 46 ∨ j ≠ 20) → fld F b j = fld Fo b j) ∧ (∀ b j : Nat, tag b ≠ 37 → tag b ≠ 38 → elm F b j = elm Fo b j) := ⟨fun b j n46_0 n46_1 n46_2 n46_20 => (h1v77217 b j (fr_ne g0 n46_0)).trans (hfr.1 b j n46_0 n46_1 n46_2 n46_20), fun b j a37 a38 => (h2v77217 b j).trans (hfr.2 b j a37 a38)⟩
  refine lv_aload_n hx hb dX13_build_5 rfl (lv_at hl 0 rfl) ?_
  refine lv_iload_n hx hb dX13_build_6 rfl (lv_at hl 1 rfl) ?_
  refine t_cVi (n := 1) (C := RX13) (T := TX13) (N := 37) (As := [.int p1]) (rest := []) X hT (km107_X13_isHouse l G tag L F hT.2.2.2 p0 p1 x0 m0 g0 mx0 gx0 pf0) m0 g0 rfl rfl qw_796 qw_797 qw_798 qw_5 qw_799 ⟨rfl, by decide +kernel, by decide +kernel, by decide +kernel⟩ ⟨Nat.le_of_ble_eq_true rfl, Nat.le_of_ble_eq_true rfl⟩ hl rfl rfl (Nat.le_of_ble_eq_true rfl) dX13_build_7 ⟨Nat.le_of_ble_eq_true rfl, Nat.le_of_ble_eq_true rfl⟩ (fun z77218 F9 H locs hT hz77218 => ?_)
  obtain ⟨fz77218, hz77218⟩ := hz77218
  rw [fz77218] at hT
  obtain ⟨hz77218, iz77218⟩ := hz77218
  refine lv_if_eq (tgt := 30) hx hb dX13_build_10 (by decide) (fun c77219 => ?_) (fun c77219 => ?_)
  · have w77220 := cv_eq (rfl : z77218.toInt = z77218.toInt) (by decide : (0 : Int32).toInt = 0) c77219
    refine lv_aload_n hx hb dX13_build_30 rfl (lv_at hl 0 rfl) ?_
    refine lv_iconst (v := 1) hx hb dX13_build_31 (by decide) ?_
    refine t_cVi (n := 1) (C := RX13) (T := TX13) (N := 37) (As := [.int 1]) (rest := []) X hT (km88_X13_refused l G tag L F hT.2.2.2 p0 1 m0 g0) m0 g0 rfl rfl qw_484 qw_485 qw_486 qw_5 qw_487 ⟨rfl, by decide +kernel, by decide +kernel, by decide +kernel⟩ ⟨Nat.le_of_ble_eq_true rfl, Nat.le_of_ble_eq_true rfl⟩ hl rfl rfl (Nat.le_of_ble_eq_true rfl) dX13_build_32 ⟨Nat.le_of_ble_eq_true rfl, Nat.le_of_ble_eq_true rfl⟩ (fun z77221 F H locs hT hz77221 => ?_)
    obtain ⟨hz77221, yz77221⟩ := hz77221
    have pf0 := (yz77221.1 _ 3 (Or.inr (by decide)) (Or.inr (by decide))).trans pf0
    have v77217 := (yz77221.1 _ 0 (Or.inr (by decide)) (Or.inr (by decide))).trans v77217
    have hfr : (∀ b j : Nat, (tag b ≠ 46 ∨ j ≠ 0) → (tag b ≠ 46 ∨ j ≠ 1) → (tag b ≠ 46 ∨ j ≠ 2) → (tag b ≠ 46 ∨ j ≠ 20) → fld F b j = fld Fo b j) ∧ (∀ b j : Nat, tag b ≠ 37 → tag b ≠ 38 → elm F b j = elm Fo b j) := ⟨fun b j n46_0 n46_1 n46_2 n46_20 => (yz77221.1 b j n46_1 n46_2).trans (hfr.1 b j n46_0 n46_1 n46_2 n46_20), fun b j a37 a38 => (yz77221.2 b j ).trans (hfr.2 b j a37 a38)⟩
    exact t_iret hQ X hT (⟨rg_all _, hfr⟩) (Nat.le_of_ble_eq_true rfl) (Nat.le_of_ble_eq_true rfl) dX13_build_35
  · have w77222 := cv_ne (rfl : z77218.toInt = z77218.toInt) (by decide : (0 : Int32).toInt = 0) c77219
    have w77223 := (fun h => (iz77218 h)) (by omega)
    refine lv_aload_n hx hb dX13_build_13 rfl (lv_at hl 0 rfl) ?_
    refine lv_iload_n hx hb dX13_build_14 rfl (lv_at hl 2 rfl) ?_
    refine t_cVi (n := 1) (C := RX13) (T := TX13) (N := 37) (As := [.int p2]) (rest := []) X hT (km150_X13_isStone l G tag L F hT.2.2.2 p0 p2 x0 m0 g0 mx0 gx0 pf0) m0 g0 rfl rfl qw_967 qw_968 qw_969 qw_5 qw_970 ⟨rfl, by decide +kernel, by decide +kernel, by decide +kernel⟩ ⟨Nat.le_of_ble_eq_true rfl, Nat.le_of_ble_eq_true rfl⟩ hl rfl rfl (Nat.le_of_ble_eq_true rfl) dX13_build_15 ⟨Nat.le_of_ble_eq_true rfl, Nat.le_of_ble_eq_true rfl⟩ (fun z77224 F9 H locs hT hz77224 => ?_)
    obtain ⟨fz77224, hz77224⟩ := hz77224
    rw [fz77224] at hT
    obtain ⟨hz77224, iz77224⟩ := hz77224
    refine lv_if_eq (tgt := 30) hx hb dX13_build_18 (by decide) (fun c77225 => ?_) (fun c77225 => ?_)
    · have w77226 := cv_eq (rfl : z77224.toInt = z77224.toInt) (by decide : (0 : Int32).toInt = 0) c77225
      refine lv_aload_n hx hb dX13_build_30 rfl (lv_at hl 0 rfl) ?_
      refine lv_iconst (v := 1) hx hb dX13_build_31 (by decide) ?_
      refine t_cVi (n := 1) (C := RX13) (T := TX13) (N := 37) (As := [.int 1]) (rest := []) X hT (km88_X13_refused l G tag L F hT.2.2.2 p0 1 m0 g0) m0 g0 rfl rfl qw_484 qw_485 qw_486 qw_5 qw_487 ⟨rfl, by decide +kernel, by decide +kernel, by decide +kernel⟩ ⟨Nat.le_of_ble_eq_true rfl, Nat.le_of_ble_eq_true rfl⟩ hl rfl rfl (Nat.le_of_ble_eq_true rfl) dX13_build_32 ⟨Nat.le_of_ble_eq_true rfl, Nat.le_of_ble_eq_true rfl⟩ (fun z77227 F H locs hT hz77227 => ?_)
      obtain ⟨hz77227, yz77227⟩ := hz77227
      have pf0 := (yz77227.1 _ 3 (Or.inr (by decide)) (Or.inr (by decide))).trans pf0
      have v77217 := (yz77227.1 _ 0 (Or.inr (by decide)) (Or.inr (by decide))).trans v77217
      have hfr : (∀ b j : Nat, (tag b ≠ 46 ∨ j ≠ 0) → (tag b ≠ 46 ∨ j ≠ 1) → (tag b ≠ 46 ∨ j ≠ 2) → (tag b ≠ 46 ∨ j ≠ 20) → fld F b j = fld Fo b j) ∧ (∀ b j : Nat, tag b ≠ 37 → tag b ≠ 38 → elm F b j = elm Fo b j) := ⟨fun b j n46_0 n46_1 n46_2 n46_20 => (yz77227.1 b j n46_1 n46_2).trans (hfr.1 b j n46_0 n46_1 n46_2 n46_20), fun b j a37 a38 => (yz77227.2 b j ).trans (hfr.2 b j a37 a38)⟩
      exact t_iret hQ X hT (⟨rg_all _, hfr⟩) (Nat.le_of_ble_eq_true rfl) (Nat.le_of_ble_eq_true rfl) dX13_build_35
    · have w77228 := cv_ne (rfl : z77224.toInt = z77224.toInt) (by decide : (0 : Int32).toInt = 0) c77225
      have w77229 := (fun h => (iz77224 h)) (by omega)
      refine lv_iload_n hx hb dX13_build_21 rfl (lv_at hl 3 rfl) ?_
      refine lv_iconst (v := 0) hx hb dX13_build_22 (by decide) ?_
      refine lv_iconst (v := 3) hx hb dX13_build_23 (by decide) ?_
      refine t_cSi (n := 3) (As := [.int p3, .int 0, .int 3]) (rest := []) X hT (km19_X13_within l G tag L F hT.2.2.2 p3 0 3 ) qw_568 qw_569 qw_5 qw_570 ⟨by decide +kernel, by decide +kernel, by decide +kernel⟩ ⟨Nat.le_of_ble_eq_true rfl, Nat.le_of_ble_eq_true rfl⟩ hl rfl rfl (Nat.le_of_ble_eq_true rfl) dX13_build_24 ⟨Nat.le_of_ble_eq_true rfl, Nat.le_of_ble_eq_true rfl⟩ (fun z77230 F9 H locs hT hz77230 => ?_)
      obtain ⟨fz77230, hz77230, xz77230_0⟩ := hz77230
      rw [fz77230] at hT
      have k77231 : (0 : Int32).toInt = 0 := by decide
      have k77232 : (3 : Int32).toInt = 3 := by decide
      refine lv_if_ne (tgt := 36) hx hb dX13_build_27 (by decide) (fun c77233 => ?_) (fun c77233 => ?_)
      · have w77234 := cv_ne (rfl : z77230.toInt = z77230.toInt) (by decide : (0 : Int32).toInt = 0) c77233
        have w77235 := xz77230_0 (by omega)
        refine lv_aload_n hx hb dX13_build_36 rfl (lv_at hl 0 rfl) ?_
        refine t_get (C := RX13) (T := TX13) (N := 37) X hT m0 g0 rfl rfl 16 (by decide) qw_112 inlX13 rfl dX13_build_37 (fun v77236 hv77236 ov77236 => ?_)
        obtain ⟨b77237, rfl, mb77237, gb77237⟩ := okV_r ov77236
        have gb77237 : tag b77237 = 37 := tg_of gb77237
        refine lv_iconst (v := 0) hx hb dX13_build_40 (by decide) ?_
        refine lv_iload_n hx hb dX13_build_41 rfl (lv_at hl 1 rfl) ?_
        refine lv_iadd hx hb dX13_build_42 ?_
        refine lv_topi (fun z77238 ez77238 => ?_)
        obtain rfl : p1 = z77238 := (ar_zadd ez77238).symm
        refine t_ild X hT mb77237 gb77237 rfl (by omega) dX13_build_43 (fun z77239 vz77239 rz77239 => ?_)
        have rz77239 := row_ml (by omega) rz77239
        refine lv_iconst (v := 1) hx hb dX13_build_44 (by decide) ?_
        refine lv_iadd hx hb dX13_build_45 ?_
        refine lv_topi (fun z77240 ez77240 => ?_)
        have hz77240 : z77240.toInt = z77239.toInt + 1 := ar_add ez77240 (rfl : z77239.toInt = z77239.toInt) (by decide : (1 : Int32).toInt = 1) (by omega) (by omega)
        have rz77240 : 1 ≤ z77240.toInt ∧ z77240.toInt ≤ 7 := by omega
        refine lv_istore (lv' := [(6, .int z77240), (0, .ref p0), (1, .int p1), (2, .int p2), (3, .int p3), (4, .int p4), (5, .int p5)]) hx hb dX13_build_46 hl (by decide) rfl (fun ls hl => ?_)
        refine lv_iload hx hb dX13_build_48 (lv_at hl 0 rfl) ?_
        refine lv_bipush (v := 6) hx hb dX13_build_50 (by decide) ?_
        refine lv_icmp_le (tgt := 61) hx hb dX13_build_52 (by decide) (fun c77241 => ?_) (fun c77241 => ?_)
        · have w77242 := cv_le (rfl : z77240.toInt = z77240.toInt) (by decide : (6 : Int32).toInt = 6) c77241
          refine lv_iload hx hb dX13_build_61 (lv_at hl 5 rfl) ?_
          refine lv_iconst (v := 0) hx hb dX13_build_63 (by decide) ?_
          refine lv_iconst (v := 2) hx hb dX13_build_64 (by decide) ?_
          refine lv_iload hx hb dX13_build_65 (lv_at hl 0 rfl) ?_
          refine lv_imul hx hb dX13_build_67 ?_
          refine lv_topi (fun z77243 ez77243 => ?_)
          have hz77243 : z77243.toInt = 2 * z77240.toInt := ar_mul ez77243 (by decide : (2 : Int32).toInt = 2) (rfl : z77240.toInt = z77240.toInt) (by omega) (by omega)
          have rz77243 : 2 ≤ z77243.toInt ∧ z77243.toInt ≤ 12 := by omega
          refine lv_iconst (v := 2) hx hb dX13_build_68 (by decide) ?_
          refine lv_isub hx hb dX13_build_69 ?_
          refine lv_topi (fun z77244 ez77244 => ?_)
          have hz77244 : z77244.toInt = z77243.toInt - 2 := ar_sub ez77244 (rfl : z77243.toInt = z77243.toInt) (by decide : (2 : Int32).toInt = 2) (by omega) (by omega)
          have rz77244 : 0 ≤ z77244.toInt ∧ z77244.toInt ≤ 10 := by omega
          refine t_cSi (n := 3) (As := [.int p4, .int 0, .int z77244]) (rest := []) X hT (km19_X13_within l G tag L F hT.2.2.2 p4 0 z77244 ) qw_568 qw_569 qw_5 qw_570 ⟨by decide +kernel, by decide +kernel, by decide +kernel⟩ ⟨Nat.le_of_ble_eq_true rfl, Nat.le_of_ble_eq_true rfl⟩ hl rfl rfl (Nat.le_of_ble_eq_true rfl) dX13_build_70 ⟨Nat.le_of_ble_eq_true rfl, Nat.le_of_ble_eq_true rfl⟩ (fun z77245 F9 H locs hT hz77245 => ?_)
          obtain ⟨fz77245, hz77245, xz77245_0⟩ := hz77245
          rw [fz77245] at hT
          have k77246 : (0 : Int32).toInt = 0 := by decide
          refine lv_if_eq (tgt := 87) hx hb dX13_build_73 (by decide) (fun c77247 => ?_) (fun c77247 => ?_)
          · have w77248 := cv_eq (rfl : z77245.toInt = z77245.toInt) (by decide : (0 : Int32).toInt = 0) c77247
            refine lv_aload_n hx hb dX13_build_87 rfl (lv_at hl 1 rfl) ?_
            refine lv_iconst (v := 2) hx hb dX13_build_88 (by decide) ?_
            refine t_cVi (n := 1) (C := RX13) (T := TX13) (N := 37) (As := [.int 2]) (rest := []) X hT (km88_X13_refused l G tag L F hT.2.2.2 p0 2 m0 g0) m0 g0 rfl rfl qw_484 qw_485 qw_486 qw_5 qw_487 ⟨rfl, by decide +kernel, by decide +kernel, by decide +kernel⟩ ⟨Nat.le_of_ble_eq_true rfl, Nat.le_of_ble_eq_true rfl⟩ hl rfl rfl (Nat.le_of_ble_eq_true rfl) dX13_build_89 ⟨Nat.le_of_ble_eq_true rfl, Nat.le_of_ble_eq_true rfl⟩ (fun z77249 F H locs hT hz77249 => ?_)
            obtain ⟨hz77249, yz77249⟩ := hz77249
            have pf0 := (yz77249.1 _ 3 (Or.inr (by decide)) (Or.inr (by decide))).trans pf0
            have v77217 := (yz77249.1 _ 0 (Or.inr (by decide)) (Or.inr (by decide))).trans v77217
            have hv77236 := (yz77249.1 _ 16 (Or.inr (by decide)) (Or.inr (by decide))).trans hv77236
            have vz77239 := (yz77249.2 _ _ ).trans vz77239
            have hfr : (∀ b j : Nat, (tag b ≠ 46 ∨ j ≠ 0) → (tag b ≠ 46 ∨ j ≠ 1) → (tag b ≠ 46 ∨ j ≠ 2) → (tag b ≠ 46 ∨ j ≠ 20) → fld F b j = fld Fo b j) ∧ (∀ b j : Nat, tag b ≠ 37 → tag b ≠ 38 → elm F b j = elm Fo b j) := ⟨fun b j n46_0 n46_1 n46_2 n46_20 => (yz77249.1 b j n46_1 n46_2).trans (hfr.1 b j n46_0 n46_1 n46_2 n46_20), fun b j a37 a38 => (yz77249.2 b j ).trans (hfr.2 b j a37 a38)⟩
            exact t_iret hQ X hT (⟨rg_all _, hfr⟩) (Nat.le_of_ble_eq_true rfl) (Nat.le_of_ble_eq_true rfl) dX13_build_92
          · have w77250 := cv_ne (rfl : z77245.toInt = z77245.toInt) (by decide : (0 : Int32).toInt = 0) c77247
            have w77251 := xz77245_0 (by omega)
            refine lv_iload hx hb dX13_build_76 (lv_at hl 6 rfl) ?_
            refine lv_iconst (v := 0) hx hb dX13_build_78 (by decide) ?_
            refine lv_bipush (v := 99) hx hb dX13_build_79 (by decide) ?_
            refine t_cSi (n := 3) (As := [.int p5, .int 0, .int 99]) (rest := []) X hT (km19_X13_within l G tag L F hT.2.2.2 p5 0 99 ) qw_568 qw_569 qw_5 qw_570 ⟨by decide +kernel, by decide +kernel, by decide +kernel⟩ ⟨Nat.le_of_ble_eq_true rfl, Nat.le_of_ble_eq_true rfl⟩ hl rfl rfl (Nat.le_of_ble_eq_true rfl) dX13_build_81 ⟨Nat.le_of_ble_eq_true rfl, Nat.le_of_ble_eq_true rfl⟩ (fun z77252 F9 H locs hT hz77252 => ?_)
            obtain ⟨fz77252, hz77252, xz77252_0⟩ := hz77252
            rw [fz77252] at hT
            have k77253 : (0 : Int32).toInt = 0 := by decide
            have k77254 : (99 : Int32).toInt = 99 := by decide
            refine lv_if_ne (tgt := 93) hx hb dX13_build_84 (by decide) (fun c77255 => ?_) (fun c77255 => ?_)
            · have w77256 := cv_ne (rfl : z77252.toInt = z77252.toInt) (by decide : (0 : Int32).toInt = 0) c77255
              have w77257 := xz77252_0 (by omega)
              refine lv_aload_n hx hb dX13_build_93 rfl (lv_at hl 1 rfl) ?_
              refine t_get (C := RX13) (T := TX13) (N := 37) X hT m0 g0 rfl rfl 3 (by decide) qw_481 inlX13 rfl dX13_build_94 (fun v77258 hv77258 ov77258 => ?_)
              obtain rfl : v77258 = .ref x0 := hv77258.symm.trans pf0
              refine lv_aload_n hx hb dX13_build_97 rfl (lv_at hl 1 rfl) ?_
              refine t_get (C := RX13) (T := TX13) (N := 37) X hT m0 g0 rfl rfl 16 (by decide) qw_112 inlX13 rfl dX13_build_98 (fun v77259 hv77259 ov77259 => ?_)
              obtain rfl : v77259 = .ref b77237 := hv77259.symm.trans hv77236
              refine lv_iload_n hx hb dX13_build_101 rfl (lv_at hl 2 rfl) ?_
              refine t_cSi (n := 3) (As := [.ref x0, .ref b77237, .int p1]) (rest := []) X hT (km138_X13_fitsIn l G tag L F hT.2.2.2 x0 b77237 p1 mx0 gx0 mb77237 gb77237 (by omega)) qw_644 qw_645 qw_5 qw_646 ⟨by decide +kernel, by decide +kernel, by decide +kernel⟩ ⟨Nat.le_of_ble_eq_true rfl, Nat.le_of_ble_eq_true rfl⟩ hl rfl rfl (Nat.le_of_ble_eq_true rfl) dX13_build_102 ⟨Nat.le_of_ble_eq_true rfl, Nat.le_of_ble_eq_true rfl⟩ (fun z77260 F9 H locs hT hz77260 => ?_)
              obtain ⟨fz77260, hz77260⟩ := hz77260
              rw [fz77260] at hT
              refine lv_if_eq (tgt := 128) hx hb dX13_build_105 (by decide) (fun c77261 => ?_) (fun c77261 => ?_)
              · have w77262 := cv_eq (rfl : z77260.toInt = z77260.toInt) (by decide : (0 : Int32).toInt = 0) c77261
                refine lv_aload_n hx hb dX13_build_128 rfl (lv_at hl 1 rfl) ?_
                refine lv_iconst (v := 5) hx hb dX13_build_129 (by decide) ?_
                refine t_cVi (n := 1) (C := RX13) (T := TX13) (N := 37) (As := [.int 5]) (rest := []) X hT (km88_X13_refused l G tag L F hT.2.2.2 p0 5 m0 g0) m0 g0 rfl rfl qw_484 qw_485 qw_486 qw_5 qw_487 ⟨rfl, by decide +kernel, by decide +kernel, by decide +kernel⟩ ⟨Nat.le_of_ble_eq_true rfl, Nat.le_of_ble_eq_true rfl⟩ hl rfl rfl (Nat.le_of_ble_eq_true rfl) dX13_build_130 ⟨Nat.le_of_ble_eq_true rfl, Nat.le_of_ble_eq_true rfl⟩ (fun z77263 F H locs hT hz77263 => ?_)
                obtain ⟨hz77263, yz77263⟩ := hz77263
                have pf0 := (yz77263.1 _ 3 (Or.inr (by decide)) (Or.inr (by decide))).trans pf0
                have v77217 := (yz77263.1 _ 0 (Or.inr (by decide)) (Or.inr (by decide))).trans v77217
                have hv77236 := (yz77263.1 _ 16 (Or.inr (by decide)) (Or.inr (by decide))).trans hv77236
                have vz77239 := (yz77263.2 _ _ ).trans vz77239
                have hfr : (∀ b j : Nat, (tag b ≠ 46 ∨ j ≠ 0) → (tag b ≠ 46 ∨ j ≠ 1) → (tag b ≠ 46 ∨ j ≠ 2) → (tag b ≠ 46 ∨ j ≠ 20) → fld F b j = fld Fo b j) ∧ (∀ b j : Nat, tag b ≠ 37 → tag b ≠ 38 → elm F b j = elm Fo b j) := ⟨fun b j n46_0 n46_1 n46_2 n46_20 => (yz77263.1 b j n46_1 n46_2).trans (hfr.1 b j n46_0 n46_1 n46_2 n46_20), fun b j a37 a38 => (yz77263.2 b j ).trans (hfr.2 b j a37 a38)⟩
                exact t_iret hQ X hT (⟨rg_all _, hfr⟩) (Nat.le_of_ble_eq_true rfl) (Nat.le_of_ble_eq_true rfl) dX13_build_133
              · have w77264 := cv_ne (rfl : z77260.toInt = z77260.toInt) (by decide : (0 : Int32).toInt = 0) c77261
                refine lv_aload_n hx hb dX13_build_108 rfl (lv_at hl 1 rfl) ?_
                refine t_get (C := RX13) (T := TX13) (N := 37) X hT m0 g0 rfl rfl 3 (by decide) qw_481 inlX13 rfl dX13_build_109 (fun v77265 hv77265 ov77265 => ?_)
                obtain rfl : v77265 = .ref x0 := hv77265.symm.trans pf0
                refine lv_aload_n hx hb dX13_build_112 rfl (lv_at hl 1 rfl) ?_
                refine t_get (C := RX13) (T := TX13) (N := 37) X hT m0 g0 rfl rfl 16 (by decide) qw_112 inlX13 rfl dX13_build_113 (fun v77266 hv77266 ov77266 => ?_)
                obtain rfl : v77266 = .ref b77237 := hv77266.symm.trans hv77236
                refine lv_iload_n hx hb dX13_build_116 rfl (lv_at hl 2 rfl) ?_
                refine lv_iload hx hb dX13_build_117 (lv_at hl 0 rfl) ?_
                refine lv_iload_n hx hb dX13_build_119 rfl (lv_at hl 4 rfl) ?_
                refine lv_iload hx hb dX13_build_120 (lv_at hl 5 rfl) ?_
                refine t_cSi (n := 6) (As := [.ref x0, .ref b77237, .int p1, .int z77240, .int p3, .int p4]) (rest := []) X hT (km113_X13_isFree l G tag L F hT.2.2.2 x0 b77237 p1 z77240 p3 p4 mx0 gx0 mb77237 gb77237 (by omega)) qw_804 qw_805 qw_5 qw_806 ⟨by decide +kernel, by decide +kernel, by decide +kernel⟩ ⟨Nat.le_of_ble_eq_true rfl, Nat.le_of_ble_eq_true rfl⟩ hl rfl rfl (Nat.le_of_ble_eq_true rfl) dX13_build_122 ⟨Nat.le_of_ble_eq_true rfl, Nat.le_of_ble_eq_true rfl⟩ (fun z77267 F9 H locs hT hz77267 => ?_)
                obtain ⟨fz77267, hz77267⟩ := hz77267
                rw [fz77267] at hT
                refine lv_if_ne (tgt := 134) hx hb dX13_build_125 (by decide) (fun c77268 => ?_) (fun c77268 => ?_)
                · have w77269 := cv_ne (rfl : z77267.toInt = z77267.toInt) (by decide : (0 : Int32).toInt = 0) c77268
                  refine lv_aload_n hx hb dX13_build_134 rfl (lv_at hl 1 rfl) ?_
                  refine lv_aload_n hx hb dX13_build_135 rfl (lv_at hl 1 rfl) ?_
                  refine t_get (C := RX13) (T := TX13) (N := 37) X hT m0 g0 rfl rfl 16 (by decide) qw_112 inlX13 rfl dX13_build_136 (fun v77270 hv77270 ov77270 => ?_)
                  obtain rfl : v77270 = .ref b77237 := hv77270.symm.trans hv77236
                  refine lv_iload_n hx hb dX13_build_139 rfl (lv_at hl 2 rfl) ?_
                  refine lv_iload_n hx hb dX13_build_140 rfl (lv_at hl 3 rfl) ?_
                  refine t_cVi (n := 3) (C := RX13) (T := TX13) (N := 37) (As := [.ref b77237, .int p1, .int p2]) (rest := []) X hT (km151_X13_costOf l G tag L F hT.2.2.2 p0 b77237 p1 p2 x0 m0 g0 mb77237 gb77237 (by omega) (by omega) mx0 gx0 pf0) m0 g0 rfl rfl qw_971 qw_972 qw_973 qw_5 qw_974 ⟨rfl, by decide +kernel, by decide +kernel, by decide +kernel⟩ ⟨Nat.le_of_ble_eq_true rfl, Nat.le_of_ble_eq_true rfl⟩ hl rfl rfl (Nat.le_of_ble_eq_true rfl) dX13_build_141 ⟨Nat.le_of_ble_eq_true rfl, Nat.le_of_ble_eq_true rfl⟩ (fun z77271 F9 H locs hT hz77271 => ?_)
                  obtain ⟨fz77271, hz77271⟩ := hz77271
                  rw [fz77271] at hT
                  refine lv_istore (lv' := [(7, .int z77271), (6, .int z77240), (0, .ref p0), (1, .int p1), (2, .int p2), (3, .int p3), (4, .int p4), (5, .int p5)]) hx hb dX13_build_144 hl (by decide) rfl (fun ls hl => ?_)
                  refine lv_aload_n hx hb dX13_build_146 rfl (lv_at hl 2 rfl) ?_
                  refine t_get (C := RX13) (T := TX13) (N := 37) X hT m0 g0 rfl rfl 16 (by decide) qw_112 inlX13 rfl dX13_build_147 (fun v77272 hv77272 ov77272 => ?_)
                  obtain rfl : v77272 = .ref b77237 := hv77272.symm.trans hv77236
                  refine lv_bipush (v := 8) hx hb dX13_build_150 (by decide) ?_
                  refine lv_iload_n hx hb dX13_build_152 rfl (lv_at hl 3 rfl) ?_
                  refine lv_iadd hx hb dX13_build_153 ?_
                  refine lv_topi (fun z77273 ez77273 => ?_)
                  have hz77273 : z77273.toInt = 8 + p1.toInt := ar_add ez77273 (by decide : (8 : Int32).toInt = 8) (rfl : p1.toInt = p1.toInt) (by omega) (by omega)
                  have rz77273 : 8 ≤ z77273.toInt ∧ z77273.toInt ≤ 11 := by omega
                  refine t_ild X hT mb77237 gb77237 rfl (by omega) dX13_build_154 (fun z77274 vz77274 rz77274 => ?_)
                  have oz77274 := rz77274
                  have rz77274 := rg_all z77274
                  refine lv_iload hx hb dX13_build_155 (lv_at hl 0 rfl) ?_
                  refine lv_icmp_ge (tgt := 167) hx hb dX13_build_157 (by decide) (fun c77275 => ?_) (fun c77275 => ?_)
                  · have w77276 := cv_le (rfl : z77271.toInt = z77271.toInt) (rfl : z77274.toInt = z77274.toInt) c77275
                    refine lv_aload_n hx hb dX13_build_167 rfl (lv_at hl 2 rfl) ?_
                    refine t_cVv (n := 0) (C := RX13) (T := TX13) (N := 37) (As := []) (rest := []) X hT (km245_X13_keeps l G tag L F hT.2.2.2 p0 m0 g0) m0 g0 rfl rfl qw_1437 qw_1438 qw_1439 qw_5 qw_1440 ⟨rfl, by decide +kernel, by decide +kernel, by decide +kernel⟩ ⟨Nat.le_of_ble_eq_true rfl, Nat.le_of_ble_eq_true rfl⟩ hl rfl rfl (Nat.le_of_ble_eq_true rfl) dX13_build_168 ⟨Nat.le_of_ble_eq_true rfl, Nat.le_of_ble_eq_true rfl⟩ (fun F H locs hT hz77277 => ?_)
                    have yz77277 := hz77277
                    have pf0 := (yz77277.1 _ 3 (Or.inr (by decide))).trans pf0
                    have v77217 := (yz77277.1 _ 0 (Or.inr (by decide))).trans v77217
                    have hv77236 := (yz77277.1 _ 16 (Or.inr (by decide))).trans hv77236
                    have vz77239 := (yz77277.2 _ _ (by rw [gb77237]; decide)).trans vz77239
                    have vz77274 := (yz77277.2 _ _ (by rw [gb77237]; decide)).trans vz77274
                    have hfr : (∀ b j : Nat, (tag b ≠ 46 ∨ j ≠ 0) → (tag b ≠ 46 ∨ j ≠ 1) → (tag b ≠ 46 ∨ j ≠ 2) → (tag b ≠ 46 ∨ j ≠ 20) → fld F b j = fld Fo b j) ∧ (∀ b j : Nat, tag b ≠ 37 → tag b ≠ 38 → elm F b j = elm Fo b j) := ⟨fun b j n46_0 n46_1 n46_2 n46_20 => (yz77277.1 b j n46_20).trans (hfr.1 b j n46_0 n46_1 n46_2 n46_20), fun b j a37 a38 => (yz77277.2 b j a38).trans (hfr.2 b j a37 a38)⟩
                    refine lv_aload_n hx hb dX13_build_171 rfl (lv_at hl 2 rfl) ?_
                    refine t_get (C := RX13) (T := TX13) (N := 37) X hT m0 g0 rfl rfl 16 (by decide) qw_112 inlX13 rfl dX13_build_172 (fun v77278 hv77278 ov77278 => ?_)
                    obtain rfl : v77278 = .ref b77237 := hv77278.symm.trans hv77236
                    refine lv_bipush (v := 8) hx hb dX13_build_175 (by decide) ?_
                    refine lv_iload_n hx hb dX13_build_177 rfl (lv_at hl 3 rfl) ?_
                    refine lv_iadd hx hb dX13_build_178 ?_
                    refine lv_topi (fun z77279 ez77279 => ?_)
                    have hz77279 : z77279.toInt = 8 + p1.toInt := ar_add ez77279 (by decide : (8 : Int32).toInt = 8) (rfl : p1.toInt = p1.toInt) (by omega) (by omega)
                    have rz77279 : 8 ≤ z77279.toInt ∧ z77279.toInt ≤ 11 := by omega
                    refine lv_dup2_11 hx hb dX13_build_179 rfl rfl ?_
                    refine t_ild X hT mb77237 gb77237 rfl (by omega) dX13_build_180 (fun z77280 vz77280 rz77280 => ?_)
                    have oz77280 := rz77280
                    have rz77280 := rg_all z77280
                    refine lv_iload hx hb dX13_build_181 (lv_at hl 0 rfl) ?_
                    refine lv_isub hx hb dX13_build_183 ?_
                    refine lv_topi (fun z77281 ez77281 => ?_)
                    have rz77281 := rg_all z77281
                    refine t_ist X hT mb77237 gb77237 rfl (by omega) (row_fv (by omega) (Or.inl (by omega))) dX13_build_184 (fun F H locs hT v77282 h1v77282 h2v77282 => ?_)
                    have pf0 := (h2v77282 _ _).trans pf0
                    have v77217 := (h2v77282 _ _).trans v77217
                    have hv77236 := (h2v77282 _ _).trans hv77236
                    have vz77239 := (h1v77282 _ _ (Or.inr (ine (by omega) (by omega) (by omega)))).trans vz77239
                    have hfr : (∀ b j : Nat, (tag b ≠ 46 ∨ j ≠ 0) → (tag b ≠ 46 ∨ j ≠ 1) → (tag b ≠ 46 ∨ j ≠ 2) → (tag b ≠ 46 ∨ j ≠ 20) → fld F b j = fld Fo b j) ∧ (∀ b j : Nat, tag b ≠ 37 → tag b ≠ 38 → elm F b j = elm Fo b j) := ⟨fun b j n46_0 n46_1 n46_2 n46_20 => (h2v77282 b j).trans (hfr.1 b j n46_0 n46_1 n46_2 n46_20), fun b j a37 a38 => (h1v77282 b j (Or.inl (at_ne gb77237 a37))).trans (hfr.2 b j a37 a38)⟩
                    refine lv_aload_n hx hb dX13_build_185 rfl (lv_at hl 2 rfl) ?_
                    refine t_get (C := RX13) (T := TX13) (N := 37) X hT m0 g0 rfl rfl 16 (by decide) qw_112 inlX13 rfl dX13_build_186 (fun v77283 hv77283 ov77283 => ?_)
                    obtain rfl : v77283 = .ref b77237 := hv77283.symm.trans hv77236
                    refine lv_iload_n hx hb dX13_build_189 rfl (lv_at hl 3 rfl) ?_
                    refine lv_iload_n hx hb dX13_build_190 rfl (lv_at hl 4 rfl) ?_
                    refine lv_iload_n hx hb dX13_build_191 rfl (lv_at hl 5 rfl) ?_
                    refine lv_iload hx hb dX13_build_192 (lv_at hl 6 rfl) ?_
                    refine lv_iload hx hb dX13_build_194 (lv_at hl 7 rfl) ?_
                    refine lv_aload_n hx hb dX13_build_196 rfl (lv_at hl 2 rfl) ?_
                    refine t_get (C := RX13) (T := TX13) (N := 37) X hT m0 g0 rfl rfl 16 (by decide) qw_112 inlX13 rfl dX13_build_197 (fun v77284 hv77284 ov77284 => ?_)
                    obtain rfl : v77284 = .ref b77237 := hv77284.symm.trans hv77236
                    refine lv_sipush (v := 210) hx hb dX13_build_200 (by decide) ?_
                    refine t_ild X hT mb77237 gb77237 rfl (by decide) dX13_build_203 (fun z77285 vz77285 rz77285 => ?_)
                    have oz77285 := rz77285
                    have rz77285 := rg_all z77285
                    have w77286 : 0 ≤ z77239.toInt ∧ z77239.toInt ≤ 5 := by omega
                    refine t_cSv (n := 7) (As := [.ref b77237, .int p1, .int p2, .int p3, .int p4, .int p5, .int z77285]) (rest := []) X hT (km50_X13_adds l G tag L F hT.2.2.2 b77237 p1 p2 p3 p4 p5 z77285 z77239 mb77237 gb77237 (by omega) (by omega) (by omega) vz77239) qw_658 qw_659 qw_5 qw_660 ⟨by decide +kernel, by decide +kernel, by decide +kernel⟩ ⟨Nat.le_of_ble_eq_true rfl, Nat.le_of_ble_eq_true rfl⟩ hl rfl rfl (Nat.le_of_ble_eq_true rfl) dX13_build_204 ⟨Nat.le_of_ble_eq_true rfl, Nat.le_of_ble_eq_true rfl⟩ (fun F H locs hT hz77287 => ?_)
                    obtain ⟨yz77287, xz77287_0⟩ := hz77287
                    have pf0 := (yz77287.1 _ 3 ).trans pf0
                    have v77217 := (yz77287.1 _ 0 ).trans v77217
                    have hv77236 := (yz77287.1 _ 16 ).trans hv77236
                    have hfr : (∀ b j : Nat, (tag b ≠ 46 ∨ j ≠ 0) → (tag b ≠ 46 ∨ j ≠ 1) → (tag b ≠ 46 ∨ j ≠ 2) → (tag b ≠ 46 ∨ j ≠ 20) → fld F b j = fld Fo b j) ∧ (∀ b j : Nat, tag b ≠ 37 → tag b ≠ 38 → elm F b j = elm Fo b j) := ⟨fun b j n46_0 n46_1 n46_2 n46_20 => (yz77287.1 b j ).trans (hfr.1 b j n46_0 n46_1 n46_2 n46_20), fun b j a37 a38 => (yz77287.2 b j a37).trans (hfr.2 b j a37 a38)⟩
                    obtain ⟨z77288, qz77288, hz77288⟩ := xz77287_0
                    have rz77288 : 1 ≤ z77288.toInt ∧ z77288.toInt ≤ 6 := by omega
                    refine lv_aload_n hx hb dX13_build_207 rfl (lv_at hl 2 rfl) ?_
                    refine lv_iload hx hb dX13_build_208 (lv_at hl 0 rfl) ?_
                    refine t_cVi (n := 1) (C := RX13) (T := TX13) (N := 37) (As := [.int z77271]) (rest := []) X hT (km93_X13_good l G tag L F hT.2.2.2 p0 z77271 m0 g0) m0 g0 rfl rfl qw_687 qw_688 qw_689 qw_5 qw_690 ⟨rfl, by decide +kernel, by decide +kernel, by decide +kernel⟩ ⟨Nat.le_of_ble_eq_true rfl, Nat.le_of_ble_eq_true rfl⟩ hl rfl rfl (Nat.le_of_ble_eq_true rfl) dX13_build_210 ⟨Nat.le_of_ble_eq_true rfl, Nat.le_of_ble_eq_true rfl⟩ (fun z77289 F H locs hT hz77289 => ?_)
                    obtain ⟨hz77289, yz77289⟩ := hz77289
                    have pf0 := (yz77289.1 _ 3 (Or.inr (by decide)) (Or.inr (by decide))).trans pf0
                    have v77217 := (yz77289.1 _ 0 (Or.inr (by decide)) (Or.inr (by decide))).trans v77217
                    have hv77236 := (yz77289.1 _ 16 (Or.inr (by decide)) (Or.inr (by decide))).trans hv77236
                    have qz77288 := (yz77289.2 _ _ ).trans qz77288
                    have hfr : (∀ b j : Nat, (tag b ≠ 46 ∨ j ≠ 0) → (tag b ≠ 46 ∨ j ≠ 1) → (tag b ≠ 46 ∨ j ≠ 2) → (tag b ≠ 46 ∨ j ≠ 20) → fld F b j = fld Fo b j) ∧ (∀ b j : Nat, tag b ≠ 37 → tag b ≠ 38 → elm F b j = elm Fo b j) := ⟨fun b j n46_0 n46_1 n46_2 n46_20 => (yz77289.1 b j n46_1 n46_2).trans (hfr.1 b j n46_0 n46_1 n46_2 n46_20), fun b j a37 a38 => (yz77289.2 b j ).trans (hfr.2 b j a37 a38)⟩
                    exact t_iret hQ X hT (⟨rg_all _, hfr⟩) (Nat.le_of_ble_eq_true rfl) (Nat.le_of_ble_eq_true rfl) dX13_build_213
                  · have w77290 := cv_nle (rfl : z77271.toInt = z77271.toInt) (rfl : z77274.toInt = z77274.toInt) c77275
                    refine lv_aload_n hx hb dX13_build_160 rfl (lv_at hl 2 rfl) ?_
                    refine lv_bipush (v := 6) hx hb dX13_build_161 (by decide) ?_
                    refine t_cVi (n := 1) (C := RX13) (T := TX13) (N := 37) (As := [.int 6]) (rest := []) X hT (km88_X13_refused l G tag L F hT.2.2.2 p0 6 m0 g0) m0 g0 rfl rfl qw_484 qw_485 qw_486 qw_5 qw_487 ⟨rfl, by decide +kernel, by decide +kernel, by decide +kernel⟩ ⟨Nat.le_of_ble_eq_true rfl, Nat.le_of_ble_eq_true rfl⟩ hl rfl rfl (Nat.le_of_ble_eq_true rfl) dX13_build_163 ⟨Nat.le_of_ble_eq_true rfl, Nat.le_of_ble_eq_true rfl⟩ (fun z77291 F H locs hT hz77291 => ?_)
                    obtain ⟨hz77291, yz77291⟩ := hz77291
                    have pf0 := (yz77291.1 _ 3 (Or.inr (by decide)) (Or.inr (by decide))).trans pf0
                    have v77217 := (yz77291.1 _ 0 (Or.inr (by decide)) (Or.inr (by decide))).trans v77217
                    have hv77236 := (yz77291.1 _ 16 (Or.inr (by decide)) (Or.inr (by decide))).trans hv77236
                    have vz77239 := (yz77291.2 _ _ ).trans vz77239
                    have vz77274 := (yz77291.2 _ _ ).trans vz77274
                    have hfr : (∀ b j : Nat, (tag b ≠ 46 ∨ j ≠ 0) → (tag b ≠ 46 ∨ j ≠ 1) → (tag b ≠ 46 ∨ j ≠ 2) → (tag b ≠ 46 ∨ j ≠ 20) → fld F b j = fld Fo b j) ∧ (∀ b j : Nat, tag b ≠ 37 → tag b ≠ 38 → elm F b j = elm Fo b j) := ⟨fun b j n46_0 n46_1 n46_2 n46_20 => (yz77291.1 b j n46_1 n46_2).trans (hfr.1 b j n46_0 n46_1 n46_2 n46_20), fun b j a37 a38 => (yz77291.2 b j ).trans (hfr.2 b j a37 a38)⟩
                    exact t_iret hQ X hT (⟨rg_all _, hfr⟩) (Nat.le_of_ble_eq_true rfl) (Nat.le_of_ble_eq_true rfl) dX13_build_166
                · have w77292 := cv_eq (rfl : z77267.toInt = z77267.toInt) (by decide : (0 : Int32).toInt = 0) c77268
                  refine lv_aload_n hx hb dX13_build_128 rfl (lv_at hl 1 rfl) ?_
                  refine lv_iconst (v := 5) hx hb dX13_build_129 (by decide) ?_
                  refine t_cVi (n := 1) (C := RX13) (T := TX13) (N := 37) (As := [.int 5]) (rest := []) X hT (km88_X13_refused l G tag L F hT.2.2.2 p0 5 m0 g0) m0 g0 rfl rfl qw_484 qw_485 qw_486 qw_5 qw_487 ⟨rfl, by decide +kernel, by decide +kernel, by decide +kernel⟩ ⟨Nat.le_of_ble_eq_true rfl, Nat.le_of_ble_eq_true rfl⟩ hl rfl rfl (Nat.le_of_ble_eq_true rfl) dX13_build_130 ⟨Nat.le_of_ble_eq_true rfl, Nat.le_of_ble_eq_true rfl⟩ (fun z77293 F H locs hT hz77293 => ?_)
                  obtain ⟨hz77293, yz77293⟩ := hz77293
                  have pf0 := (yz77293.1 _ 3 (Or.inr (by decide)) (Or.inr (by decide))).trans pf0
                  have v77217 := (yz77293.1 _ 0 (Or.inr (by decide)) (Or.inr (by decide))).trans v77217
                  have hv77236 := (yz77293.1 _ 16 (Or.inr (by decide)) (Or.inr (by decide))).trans hv77236
                  have vz77239 := (yz77293.2 _ _ ).trans vz77239
                  have hfr : (∀ b j : Nat, (tag b ≠ 46 ∨ j ≠ 0) → (tag b ≠ 46 ∨ j ≠ 1) → (tag b ≠ 46 ∨ j ≠ 2) → (tag b ≠ 46 ∨ j ≠ 20) → fld F b j = fld Fo b j) ∧ (∀ b j : Nat, tag b ≠ 37 → tag b ≠ 38 → elm F b j = elm Fo b j) := ⟨fun b j n46_0 n46_1 n46_2 n46_20 => (yz77293.1 b j n46_1 n46_2).trans (hfr.1 b j n46_0 n46_1 n46_2 n46_20), fun b j a37 a38 => (yz77293.2 b j ).trans (hfr.2 b j a37 a38)⟩
                  exact t_iret hQ X hT (⟨rg_all _, hfr⟩) (Nat.le_of_ble_eq_true rfl) (Nat.le_of_ble_eq_true rfl) dX13_build_133
            · have w77294 := cv_eq (rfl : z77252.toInt = z77252.toInt) (by decide : (0 : Int32).toInt = 0) c77255
              refine lv_aload_n hx hb dX13_build_87 rfl (lv_at hl 1 rfl) ?_
              refine lv_iconst (v := 2) hx hb dX13_build_88 (by decide) ?_
              refine t_cVi (n := 1) (C := RX13) (T := TX13) (N := 37) (As := [.int 2]) (rest := []) X hT (km88_X13_refused l G tag L F hT.2.2.2 p0 2 m0 g0) m0 g0 rfl rfl qw_484 qw_485 qw_486 qw_5 qw_487 ⟨rfl, by decide +kernel, by decide +kernel, by decide +kernel⟩ ⟨Nat.le_of_ble_eq_true rfl, Nat.le_of_ble_eq_true rfl⟩ hl rfl rfl (Nat.le_of_ble_eq_true rfl) dX13_build_89 ⟨Nat.le_of_ble_eq_true rfl, Nat.le_of_ble_eq_true rfl⟩ (fun z77295 F H locs hT hz77295 => ?_)
              obtain ⟨hz77295, yz77295⟩ := hz77295
              have pf0 := (yz77295.1 _ 3 (Or.inr (by decide)) (Or.inr (by decide))).trans pf0
              have v77217 := (yz77295.1 _ 0 (Or.inr (by decide)) (Or.inr (by decide))).trans v77217
              have hv77236 := (yz77295.1 _ 16 (Or.inr (by decide)) (Or.inr (by decide))).trans hv77236
              have vz77239 := (yz77295.2 _ _ ).trans vz77239
              have hfr : (∀ b j : Nat, (tag b ≠ 46 ∨ j ≠ 0) → (tag b ≠ 46 ∨ j ≠ 1) → (tag b ≠ 46 ∨ j ≠ 2) → (tag b ≠ 46 ∨ j ≠ 20) → fld F b j = fld Fo b j) ∧ (∀ b j : Nat, tag b ≠ 37 → tag b ≠ 38 → elm F b j = elm Fo b j) := ⟨fun b j n46_0 n46_1 n46_2 n46_20 => (yz77295.1 b j n46_1 n46_2).trans (hfr.1 b j n46_0 n46_1 n46_2 n46_20), fun b j a37 a38 => (yz77295.2 b j ).trans (hfr.2 b j a37 a38)⟩
              exact t_iret hQ X hT (⟨rg_all _, hfr⟩) (Nat.le_of_ble_eq_true rfl) (Nat.le_of_ble_eq_true rfl) dX13_build_92
        · have w77296 := cv_nle (rfl : z77240.toInt = z77240.toInt) (by decide : (6 : Int32).toInt = 6) c77241
          refine lv_aload_n hx hb dX13_build_55 rfl (lv_at hl 1 rfl) ?_
          refine lv_iconst (v := 3) hx hb dX13_build_56 (by decide) ?_
          refine t_cVi (n := 1) (C := RX13) (T := TX13) (N := 37) (As := [.int 3]) (rest := []) X hT (km88_X13_refused l G tag L F hT.2.2.2 p0 3 m0 g0) m0 g0 rfl rfl qw_484 qw_485 qw_486 qw_5 qw_487 ⟨rfl, by decide +kernel, by decide +kernel, by decide +kernel⟩ ⟨Nat.le_of_ble_eq_true rfl, Nat.le_of_ble_eq_true rfl⟩ hl rfl rfl (Nat.le_of_ble_eq_true rfl) dX13_build_57 ⟨Nat.le_of_ble_eq_true rfl, Nat.le_of_ble_eq_true rfl⟩ (fun z77297 F H locs hT hz77297 => ?_)
          obtain ⟨hz77297, yz77297⟩ := hz77297
          have pf0 := (yz77297.1 _ 3 (Or.inr (by decide)) (Or.inr (by decide))).trans pf0
          have v77217 := (yz77297.1 _ 0 (Or.inr (by decide)) (Or.inr (by decide))).trans v77217
          have hv77236 := (yz77297.1 _ 16 (Or.inr (by decide)) (Or.inr (by decide))).trans hv77236
          have vz77239 := (yz77297.2 _ _ ).trans vz77239
          have hfr : (∀ b j : Nat, (tag b ≠ 46 ∨ j ≠ 0) → (tag b ≠ 46 ∨ j ≠ 1) → (tag b ≠ 46 ∨ j ≠ 2) → (tag b ≠ 46 ∨ j ≠ 20) → fld F b j = fld Fo b j) ∧ (∀ b j : Nat, tag b ≠ 37 → tag b ≠ 38 → elm F b j = elm Fo b j) := ⟨fun b j n46_0 n46_1 n46_2 n46_20 => (yz77297.1 b j n46_1 n46_2).trans (hfr.1 b j n46_0 n46_1 n46_2 n46_20), fun b j a37 a38 => (yz77297.2 b j ).trans (hfr.2 b j a37 a38)⟩
          exact t_iret hQ X hT (⟨rg_all _, hfr⟩) (Nat.le_of_ble_eq_true rfl) (Nat.le_of_ble_eq_true rfl) dX13_build_60
      · have w77298 := cv_eq (rfl : z77230.toInt = z77230.toInt) (by decide : (0 : Int32).toInt = 0) c77233
        refine lv_aload_n hx hb dX13_build_30 rfl (lv_at hl 0 rfl) ?_
        refine lv_iconst (v := 1) hx hb dX13_build_31 (by decide) ?_
        refine t_cVi (n := 1) (C := RX13) (T := TX13) (N := 37) (As := [.int 1]) (rest := []) X hT (km88_X13_refused l G tag L F hT.2.2.2 p0 1 m0 g0) m0 g0 rfl rfl qw_484 qw_485 qw_486 qw_5 qw_487 ⟨rfl, by decide +kernel, by decide +kernel, by decide +kernel⟩ ⟨Nat.le_of_ble_eq_true rfl, Nat.le_of_ble_eq_true rfl⟩ hl rfl rfl (Nat.le_of_ble_eq_true rfl) dX13_build_32 ⟨Nat.le_of_ble_eq_true rfl, Nat.le_of_ble_eq_true rfl⟩ (fun z77299 F H locs hT hz77299 => ?_)
        obtain ⟨hz77299, yz77299⟩ := hz77299
        have pf0 := (yz77299.1 _ 3 (Or.inr (by decide)) (Or.inr (by decide))).trans pf0
        have v77217 := (yz77299.1 _ 0 (Or.inr (by decide)) (Or.inr (by decide))).trans v77217
        have hfr : (∀ b j : Nat, (tag b ≠ 46 ∨ j ≠ 0) → (tag b ≠ 46 ∨ j ≠ 1) → (tag b ≠ 46 ∨ j ≠ 2) → (tag b ≠ 46 ∨ j ≠ 20) → fld F b j = fld Fo b j) ∧ (∀ b j : Nat, tag b ≠ 37 → tag b ≠ 38 → elm F b j = elm Fo b j) := ⟨fun b j n46_0 n46_1 n46_2 n46_20 => (yz77299.1 b j n46_1 n46_2).trans (hfr.1 b j n46_0 n46_1 n46_2 n46_20), fun b j a37 a38 => (yz77299.2 b j ).trans (hfr.2 b j a37 a38)⟩
        exact t_iret hQ X hT (⟨rg_all _, hfr⟩) (Nat.le_of_ble_eq_true rfl) (Nat.le_of_ble_eq_true rfl) dX13_build_35
set_option maxHeartbeats 4000000 in
set_option maxRecDepth 100000 in
theorem km250_X13_build (l : Launch) (G : KG) (tag : Nat → Nat) (L : List Nat) (Fo : Nat → va_E) (ho : okT G ttC tag L Fo) (p0 : Nat) (p1 : Int32) (p2 : Int32) (p3 : Int32) (p4 : Int32) (p5 : Int32) (m0 : p0 ∈ L) (g0 : tag p0 = 46) (pf0 : fld Fo p0 3 = .null) : TMi l yX13_build cX13_build 8 (some .int) { frames := 4, cells := 0, slots := 0, locals := 98 } G ttC tag L Fo [.ref p0, .int p1, .int p2, .int p3, .int p4, .int p5] (fun r F1 => ((-2147483648) ≤ r.toInt ∧ r.toInt ≤ 2147483647) ∧ ((∀ b j : Nat, (tag b ≠ 46 ∨ j ≠ 0) → (tag b ≠ 46 ∨ j ≠ 1) → (tag b ≠ 46 ∨ j ≠ 2) → (tag b ≠ 46 ∨ j ≠ 20) → fld F1 b j = fld Fo b j) ∧ (∀ b j : Nat, tag b ≠ 37 → tag b ≠ 38 → elm F1 b j = elm Fo b j))) := by
  refine t_bodyi (y := yX13_build) (cd := cX13_build) (mL := 8) (rt := (some .int)) (rm := { frames := 4, cells := 0, slots := 0, locals := 98 }) (av := [.ref p0, .int p1, .int p2, .int p3, .int p4, .int p5]) (by decide) (Nat.le_of_ble_eq_true rfl) ho ?_
  intro p e s m args below meth c ls A Q hQ X hT hl
  have hx := X.1.1
  have hb := X.1.2.1
  have hl : lv_has ls 8 [(0, .ref p0), (1, .int p1), (2, .int p2), (3, .int p3), (4, .int p4), (5, .int p5)] := hl
  have rp1 := rg_all p1
  have rp2 := rg_all p2
  have rp3 := rg_all p3
  have rp4 := rg_all p4
  have rp5 := rg_all p5
  obtain ⟨F, hFo⟩ : ∃ F : Nat → va_E, F = Fo := ⟨_, rfl⟩
  rw [← hFo] at hT pf0
  have hfr : (∀ b j : Nat, (tag b ≠ 46 ∨ j ≠ 0) → (tag b ≠ 46 ∨ j ≠ 1) → (tag b ≠ 46 ∨ j ≠ 2) → (tag b ≠ 46 ∨ j ≠ 20) → fld F b j = fld Fo b j) ∧ (∀ b j : Nat, tag b ≠ 37 → tag b ≠ 38 → elm F b j = elm Fo b j) := by
    rw [hFo]
    exact ⟨by intros; rfl, by intros; rfl⟩
  refine lv_aload_n hx hb dX13_build_0 rfl (lv_at hl 0 rfl) ?_
  refine lv_iconst (v := 0) hx hb dX13_build_1 (by decide) ?_
  refine t_put (C := RX13) (T := TX13) (N := 37) (v := .int 0) X hT m0 g0 rfl tyX13 tyX13_ok nmX13 rfl 0 (by decide) qw_140 inlX13 rfl (by first | rfl | decide) (by first | rfl | decide) rfl (⟨_, rfl, (show (-2147483648) ≤ (0 : Int32).toInt from (by decide)), (show (0 : Int32).toInt ≤ 2147483647 from (by decide))⟩) dX13_build_2 (fun F H locs hT v77366 h1v77366 h2v77366 => ?_)
  have pf0 := (h1v77366 _ _ (Or.inr (by decide))).trans pf0
  have hfr : (∀ b j : Nat, (tag b ≠ 46 ∨ j ≠ 0) → (tag b ≠ 46 ∨ j ≠ 1) → (tag b ≠ 46 ∨ j ≠ 2) → (tag b ≠ 46 ∨ j ≠ 20) → fld F b j = fld Fo b j) ∧ (∀ b j : Nat, tag b ≠ 37 → tag b ≠ 38 → elm F b j = elm Fo b j) := ⟨fun b j n46_0 n46_1 n46_2 n46_20 => (h1v77366 b j (fr_ne g0 n46_0)).trans (hfr.1 b j n46_0 n46_1 n46_2 n46_20), fun b j a37 a38 => (h2v77366 b j).trans (hfr.2 b j a37 a38)⟩
  refine lv_aload_n hx hb dX13_build_5 rfl (lv_at hl 0 rfl) ?_
  refine lv_iload_n hx hb dX13_build_6 rfl (lv_at hl 1 rfl) ?_
  refine t_cVi (n := 1) (C := RX13) (T := TX13) (N := 37) (As := [.int p1]) (rest := []) X hT (km116_X13_isHouse l G tag L F hT.2.2.2 p0 p1 m0 g0 pf0) m0 g0 rfl rfl qw_796 qw_797 qw_798 qw_5 qw_799 ⟨rfl, by decide +kernel, by decide +kernel, by decide +kernel⟩ ⟨Nat.le_of_ble_eq_true rfl, Nat.le_of_ble_eq_true rfl⟩ hl rfl rfl (Nat.le_of_ble_eq_true rfl) dX13_build_7 ⟨Nat.le_of_ble_eq_true rfl, Nat.le_of_ble_eq_true rfl⟩ (fun z77367 F9 H locs hT hz77367 => ?_)
  obtain ⟨fz77367, hz77367⟩ := hz77367
  rw [fz77367] at hT
  refine lv_if_eq (tgt := 30) hx hb dX13_build_10 (by decide) (fun c77368 => ?_) (fun c77368 => ?_)
  · have w77369 := cv_eq (rfl : z77367.toInt = z77367.toInt) (by decide : (0 : Int32).toInt = 0) c77368
    refine lv_aload_n hx hb dX13_build_30 rfl (lv_at hl 0 rfl) ?_
    refine lv_iconst (v := 1) hx hb dX13_build_31 (by decide) ?_
    refine t_cVi (n := 1) (C := RX13) (T := TX13) (N := 37) (As := [.int 1]) (rest := []) X hT (km88_X13_refused l G tag L F hT.2.2.2 p0 1 m0 g0) m0 g0 rfl rfl qw_484 qw_485 qw_486 qw_5 qw_487 ⟨rfl, by decide +kernel, by decide +kernel, by decide +kernel⟩ ⟨Nat.le_of_ble_eq_true rfl, Nat.le_of_ble_eq_true rfl⟩ hl rfl rfl (Nat.le_of_ble_eq_true rfl) dX13_build_32 ⟨Nat.le_of_ble_eq_true rfl, Nat.le_of_ble_eq_true rfl⟩ (fun z77370 F H locs hT hz77370 => ?_)
    obtain ⟨hz77370, yz77370⟩ := hz77370
    have pf0 := (yz77370.1 _ 3 (Or.inr (by decide)) (Or.inr (by decide))).trans pf0
    have v77366 := (yz77370.1 _ 0 (Or.inr (by decide)) (Or.inr (by decide))).trans v77366
    have hfr : (∀ b j : Nat, (tag b ≠ 46 ∨ j ≠ 0) → (tag b ≠ 46 ∨ j ≠ 1) → (tag b ≠ 46 ∨ j ≠ 2) → (tag b ≠ 46 ∨ j ≠ 20) → fld F b j = fld Fo b j) ∧ (∀ b j : Nat, tag b ≠ 37 → tag b ≠ 38 → elm F b j = elm Fo b j) := ⟨fun b j n46_0 n46_1 n46_2 n46_20 => (yz77370.1 b j n46_1 n46_2).trans (hfr.1 b j n46_0 n46_1 n46_2 n46_20), fun b j a37 a38 => (yz77370.2 b j ).trans (hfr.2 b j a37 a38)⟩
    exact t_iret hQ X hT (⟨rg_all _, hfr⟩) (Nat.le_of_ble_eq_true rfl) (Nat.le_of_ble_eq_true rfl) dX13_build_35
  · have w77371 := cv_ne (rfl : z77367.toInt = z77367.toInt) (by decide : (0 : Int32).toInt = 0) c77368
    exfalso
    omega
theorem kp_X13_build (l : Launch) (G : KG) (tag : Nat → Nat) (L : List Nat) (Fo : Nat → va_E) (ho : okT G ttC tag L Fo) (p0 : Nat) (p1 : Int32) (p2 : Int32) (p3 : Int32) (p4 : Int32) (p5 : Int32) (m0 : p0 ∈ L) (g0 : tag p0 = 46) : TMi l yX13_build cX13_build 8 (some .int) { frames := 4, cells := 0, slots := 0, locals := 98 } G ttC tag L Fo [.ref p0, .int p1, .int p2, .int p3, .int p4, .int p5] (fun r F1 => ((-2147483648) ≤ r.toInt ∧ r.toInt ≤ 2147483647) ∧ ((∀ b j : Nat, (tag b ≠ 46 ∨ j ≠ 0) → (tag b ≠ 46 ∨ j ≠ 1) → (tag b ≠ 46 ∨ j ≠ 2) → (tag b ≠ 46 ∨ j ≠ 20) → fld F1 b j = fld Fo b j) ∧ (∀ b j : Nat, tag b ≠ 37 → tag b ≠ 38 → elm F1 b j = elm Fo b j))) := by
  rcases t_fldn ho m0 g0 rfl 3 rfl with h9 | ⟨b9, h9, m9, t9⟩
  · exact km250_X13_build l G tag L Fo ho p0 p1 p2 p3 p4 p5  m0 g0 h9 
  · exact km249_X13_build l G tag L Fo ho p0 p1 p2 p3 p4 p5 b9  m0 g0 m9 (tg_of t9) h9 
set_option maxHeartbeats 4000000 in
set_option maxRecDepth 100000 in
theorem km252_X13_take (l : Launch) (G : KG) (tag : Nat → Nat) (L : List Nat) (Fo : Nat → va_E) (ho : okT G ttC tag L Fo) (p0 : Nat) (p1 : Int32) (x0 : Nat) (m0 : p0 ∈ L) (g0 : tag p0 = 46) (mx0 : x0 ∈ L) (gx0 : tag x0 = 45) (pf0 : fld Fo p0 3 = .ref x0) : TMi l yX13_take cX13_take 4 (some .int) { frames := 2, cells := 0, slots := 0, locals := 44 } G ttC tag L Fo [.ref p0, .int p1] (fun r F1 => ((-2147483648) ≤ r.toInt ∧ r.toInt ≤ 2147483647) ∧ ((∀ b j : Nat, (tag b ≠ 46 ∨ j ≠ 0) → (tag b ≠ 46 ∨ j ≠ 1) → (tag b ≠ 46 ∨ j ≠ 2) → (tag b ≠ 46 ∨ j ≠ 20) → fld F1 b j = fld Fo b j) ∧ (∀ b j : Nat, tag b ≠ 37 → tag b ≠ 38 → elm F1 b j = elm Fo b j))) := by
  refine t_bodyi (y := yX13_take) (cd := cX13_take) (mL := 4) (rt := (some .int)) (rm := { frames := 2, cells := 0, slots := 0, locals := 44 }) (av := [.ref p0, .int p1]) (by decide) (Nat.le_of_ble_eq_true rfl) ho ?_
  intro p e s m args below meth c ls A Q hQ X hT hl
  have hx := X.1.1
  have hb := X.1.2.1
  have hl : lv_has ls 4 [(0, .ref p0), (1, .int p1)] := hl
  have rp1 := rg_all p1
  obtain ⟨F, hFo⟩ : ∃ F : Nat → va_E, F = Fo := ⟨_, rfl⟩
  rw [← hFo] at hT pf0
  have hfr : (∀ b j : Nat, (tag b ≠ 46 ∨ j ≠ 0) → (tag b ≠ 46 ∨ j ≠ 1) → (tag b ≠ 46 ∨ j ≠ 2) → (tag b ≠ 46 ∨ j ≠ 20) → fld F b j = fld Fo b j) ∧ (∀ b j : Nat, tag b ≠ 37 → tag b ≠ 38 → elm F b j = elm Fo b j) := by
    rw [hFo]
    exact ⟨by intros; rfl, by intros; rfl⟩
  refine lv_aload_n hx hb dX13_take_0 rfl (lv_at hl 0 rfl) ?_
  refine lv_iconst (v := 0) hx hb dX13_take_1 (by decide) ?_
  refine t_put (C := RX13) (T := TX13) (N := 37) (v := .int 0) X hT m0 g0 rfl tyX13 tyX13_ok nmX13 rfl 0 (by decide) qw_140 inlX13 rfl (by first | rfl | decide) (by first | rfl | decide) rfl (⟨_, rfl, (show (-2147483648) ≤ (0 : Int32).toInt from (by decide)), (show (0 : Int32).toInt ≤ 2147483647 from (by decide))⟩) dX13_take_2 (fun F H locs hT v77790 h1v77790 h2v77790 => ?_)
  have pf0 := (h1v77790 _ _ (Or.inr (by decide))).trans pf0
  have hfr : (∀ b j : Nat, (tag b ≠ 46 ∨ j ≠ 0) → (tag b ≠ 46 ∨ j ≠ 1) → (tag b ≠ 46 ∨ j ≠ 2) → (tag b ≠ 46 ∨ j ≠ 20) → fld F b j = fld Fo b j) ∧ (∀ b j : Nat, tag b ≠ 37 → tag b ≠ 38 → elm F b j = elm Fo b j) := ⟨fun b j n46_0 n46_1 n46_2 n46_20 => (h1v77790 b j (fr_ne g0 n46_0)).trans (hfr.1 b j n46_0 n46_1 n46_2 n46_20), fun b j a37 a38 => (h2v77790 b j).trans (hfr.2 b j a37 a38)⟩
  refine lv_aload_n hx hb dX13_take_5 rfl (lv_at hl 0 rfl) ?_
  refine lv_iload_n hx hb dX13_take_6 rfl (lv_at hl 1 rfl) ?_
  refine t_cVi (n := 1) (C := RX13) (T := TX13) (N := 37) (As := [.int p1]) (rest := []) X hT (km107_X13_isHouse l G tag L F hT.2.2.2 p0 p1 x0 m0 g0 mx0 gx0 pf0) m0 g0 rfl rfl qw_796 qw_797 qw_798 qw_5 qw_799 ⟨rfl, by decide +kernel, by decide +kernel, by decide +kernel⟩ ⟨Nat.le_of_ble_eq_true rfl, Nat.le_of_ble_eq_true rfl⟩ hl rfl rfl (Nat.le_of_ble_eq_true rfl) dX13_take_7 ⟨Nat.le_of_ble_eq_true rfl, Nat.le_of_ble_eq_true rfl⟩ (fun z77791 F9 H locs hT hz77791 => ?_)
  obtain ⟨fz77791, hz77791⟩ := hz77791
  rw [fz77791] at hT
  obtain ⟨hz77791, iz77791⟩ := hz77791
  refine lv_if_ne (tgt := 19) hx hb dX13_take_10 (by decide) (fun c77792 => ?_) (fun c77792 => ?_)
  · have w77793 := cv_ne (rfl : z77791.toInt = z77791.toInt) (by decide : (0 : Int32).toInt = 0) c77792
    have w77794 := (fun h => (iz77791 h)) (by omega)
    refine lv_aload_n hx hb dX13_take_19 rfl (lv_at hl 0 rfl) ?_
    refine lv_iload_n hx hb dX13_take_20 rfl (lv_at hl 1 rfl) ?_
    obtain ⟨z77795, qz77795, mz77795, gz77795⟩ := t_fldr hT m0 g0 rfl 16 rfl
    have gz77795 : tag z77795 = 37 := tg_of gz77795
    refine t_cVi (n := 1) (C := RX13) (T := TX13) (N := 37) (As := [.int p1]) (rest := []) X hT (km214_X13_inmost l G tag L F hT.2.2.2 p0 p1 z77795 m0 g0 (by omega) mz77795 gz77795 qz77795) m0 g0 rfl rfl qw_1304 qw_1305 qw_1306 qw_5 qw_1307 ⟨rfl, by decide +kernel, by decide +kernel, by decide +kernel⟩ ⟨Nat.le_of_ble_eq_true rfl, Nat.le_of_ble_eq_true rfl⟩ hl rfl rfl (Nat.le_of_ble_eq_true rfl) dX13_take_21 ⟨Nat.le_of_ble_eq_true rfl, Nat.le_of_ble_eq_true rfl⟩ (fun z77796 F9 H locs hT hz77796 => ?_)
    obtain ⟨fz77796, hz77796, xz77796_0⟩ := hz77796
    rw [fz77796] at hT xz77796_0
    refine lv_istore_n (lv' := [(2, .int z77796), (0, .ref p0), (1, .int p1)]) hx hb dX13_take_24 rfl hl (by decide) rfl (fun ls hl => ?_)
    refine lv_iload_n hx hb dX13_take_25 rfl (lv_at hl 0 rfl) ?_
    refine lv_bipush (v := (-2)) hx hb dX13_take_26 (by decide) ?_
    refine lv_icmp_ne (tgt := 38) hx hb dX13_take_28 (by decide) (fun c77797 => ?_) (fun c77797 => ?_)
    · have w77798 := cv_ne (rfl : z77796.toInt = z77796.toInt) (by decide : ((-2) : Int32).toInt = (-2)) c77797
      have w77799 := xz77796_0.1 (by omega)
      refine lv_aload_n hx hb dX13_take_38 rfl (lv_at hl 1 rfl) ?_
      refine lv_iload_n hx hb dX13_take_39 rfl (lv_at hl 2 rfl) ?_
      refine lv_iload_n hx hb dX13_take_40 rfl (lv_at hl 0 rfl) ?_
      refine t_cVi (n := 2) (C := RX13) (T := TX13) (N := 37) (As := [.int p1, .int z77796]) (rest := []) X hT (km219_X13_isLivedIn l G tag L F hT.2.2.2 p0 p1 z77796 x0 m0 g0 mx0 gx0 pf0) m0 g0 rfl rfl qw_1324 qw_1325 qw_1326 qw_5 qw_1327 ⟨rfl, by decide +kernel, by decide +kernel, by decide +kernel⟩ ⟨Nat.le_of_ble_eq_true rfl, Nat.le_of_ble_eq_true rfl⟩ hl rfl rfl (Nat.le_of_ble_eq_true rfl) dX13_take_41 ⟨Nat.le_of_ble_eq_true rfl, Nat.le_of_ble_eq_true rfl⟩ (fun z77800 F9 H locs hT hz77800 => ?_)
      obtain ⟨fz77800, hz77800⟩ := hz77800
      rw [fz77800] at hT
      refine lv_if_eq (tgt := 53) hx hb dX13_take_44 (by decide) (fun c77801 => ?_) (fun c77801 => ?_)
      · have w77802 := cv_eq (rfl : z77800.toInt = z77800.toInt) (by decide : (0 : Int32).toInt = 0) c77801
        refine lv_aload_n hx hb dX13_take_53 rfl (lv_at hl 1 rfl) ?_
        refine t_cVv (n := 0) (C := RX13) (T := TX13) (N := 37) (As := []) (rest := []) X hT (km245_X13_keeps l G tag L F hT.2.2.2 p0 m0 g0) m0 g0 rfl rfl qw_1437 qw_1438 qw_1439 qw_5 qw_1440 ⟨rfl, by decide +kernel, by decide +kernel, by decide +kernel⟩ ⟨Nat.le_of_ble_eq_true rfl, Nat.le_of_ble_eq_true rfl⟩ hl rfl rfl (Nat.le_of_ble_eq_true rfl) dX13_take_54 ⟨Nat.le_of_ble_eq_true rfl, Nat.le_of_ble_eq_true rfl⟩ (fun F H locs hT hz77803 => ?_)
        have yz77803 := hz77803
        have pf0 := (yz77803.1 _ 3 (Or.inr (by decide))).trans pf0
        have v77790 := (yz77803.1 _ 0 (Or.inr (by decide))).trans v77790
        have qz77795 := (yz77803.1 _ 16 (Or.inr (by decide))).trans qz77795
        have hfr : (∀ b j : Nat, (tag b ≠ 46 ∨ j ≠ 0) → (tag b ≠ 46 ∨ j ≠ 1) → (tag b ≠ 46 ∨ j ≠ 2) → (tag b ≠ 46 ∨ j ≠ 20) → fld F b j = fld Fo b j) ∧ (∀ b j : Nat, tag b ≠ 37 → tag b ≠ 38 → elm F b j = elm Fo b j) := ⟨fun b j n46_0 n46_1 n46_2 n46_20 => (yz77803.1 b j n46_20).trans (hfr.1 b j n46_0 n46_1 n46_2 n46_20), fun b j a37 a38 => (yz77803.2 b j a38).trans (hfr.2 b j a37 a38)⟩
        refine lv_aload_n hx hb dX13_take_57 rfl (lv_at hl 1 rfl) ?_
        refine lv_iload_n hx hb dX13_take_58 rfl (lv_at hl 2 rfl) ?_
        refine lv_iload_n hx hb dX13_take_59 rfl (lv_at hl 0 rfl) ?_
        refine t_cVi (n := 2) (C := RX13) (T := TX13) (N := 37) (As := [.int p1, .int z77796]) (rest := []) X hT (km215_X13_goldOf l G tag L F hT.2.2.2 p0 p1 z77796 x0 m0 g0 (by omega) (by omega) mx0 gx0 pf0) m0 g0 rfl rfl qw_1308 qw_1309 qw_1310 qw_5 qw_1311 ⟨rfl, by decide +kernel, by decide +kernel, by decide +kernel⟩ ⟨Nat.le_of_ble_eq_true rfl, Nat.le_of_ble_eq_true rfl⟩ hl rfl rfl (Nat.le_of_ble_eq_true rfl) dX13_take_60 ⟨Nat.le_of_ble_eq_true rfl, Nat.le_of_ble_eq_true rfl⟩ (fun z77804 F9 H locs hT hz77804 => ?_)
        obtain ⟨fz77804, hz77804⟩ := hz77804
        rw [fz77804] at hT
        refine lv_istore_n (lv' := [(3, .int z77804), (2, .int z77796), (0, .ref p0), (1, .int p1)]) hx hb dX13_take_63 rfl hl (by decide) rfl (fun ls hl => ?_)
        refine lv_aload_n hx hb dX13_take_64 rfl (lv_at hl 2 rfl) ?_
        refine t_get (C := RX13) (T := TX13) (N := 37) X hT m0 g0 rfl rfl 16 (by decide) qw_112 inlX13 rfl dX13_take_65 (fun v77805 hv77805 ov77805 => ?_)
        obtain rfl : v77805 = .ref z77795 := hv77805.symm.trans qz77795
        refine lv_bipush (v := 8) hx hb dX13_take_68 (by decide) ?_
        refine lv_iload_n hx hb dX13_take_70 rfl (lv_at hl 3 rfl) ?_
        refine lv_iadd hx hb dX13_take_71 ?_
        refine lv_topi (fun z77806 ez77806 => ?_)
        have hz77806 : z77806.toInt = 8 + p1.toInt := ar_add ez77806 (by decide : (8 : Int32).toInt = 8) (rfl : p1.toInt = p1.toInt) (by omega) (by omega)
        have rz77806 : 8 ≤ z77806.toInt ∧ z77806.toInt ≤ 11 := by omega
        refine lv_sipush (v := 999) hx hb dX13_take_72 (by decide) ?_
        refine lv_aload_n hx hb dX13_take_75 rfl (lv_at hl 2 rfl) ?_
        refine t_get (C := RX13) (T := TX13) (N := 37) X hT m0 g0 rfl rfl 16 (by decide) qw_112 inlX13 rfl dX13_take_76 (fun v77807 hv77807 ov77807 => ?_)
        obtain rfl : v77807 = .ref z77795 := hv77807.symm.trans qz77795
        refine lv_bipush (v := 8) hx hb dX13_take_79 (by decide) ?_
        refine lv_iload_n hx hb dX13_take_81 rfl (lv_at hl 3 rfl) ?_
        refine lv_iadd hx hb dX13_take_82 ?_
        refine lv_topi (fun z77808 ez77808 => ?_)
        have hz77808 : z77808.toInt = 8 + p1.toInt := ar_add ez77808 (by decide : (8 : Int32).toInt = 8) (rfl : p1.toInt = p1.toInt) (by omega) (by omega)
        have rz77808 : 8 ≤ z77808.toInt ∧ z77808.toInt ≤ 11 := by omega
        refine t_ild X hT mz77795 gz77795 rfl (by omega) dX13_take_83 (fun z77809 vz77809 rz77809 => ?_)
        have oz77809 := rz77809
        have rz77809 := rg_all z77809
        refine lv_iload_n hx hb dX13_take_84 rfl (lv_at hl 0 rfl) ?_
        refine lv_iadd hx hb dX13_take_85 ?_
        refine lv_topi (fun z77810 ez77810 => ?_)
        have rz77810 := rg_all z77810
        refine t_cSi (n := 2) (As := [.int 999, .int z77810]) (rest := [.int z77806, .ref z77795]) X hT (km161_X13_least l G tag L F hT.2.2.2 999 z77810 ) qw_1065 qw_1066 qw_5 qw_1067 ⟨by decide +kernel, by decide +kernel, by decide +kernel⟩ ⟨Nat.le_of_ble_eq_true rfl, Nat.le_of_ble_eq_true rfl⟩ hl rfl rfl (Nat.le_of_ble_eq_true rfl) dX13_take_86 ⟨Nat.le_of_ble_eq_true rfl, Nat.le_of_ble_eq_true rfl⟩ (fun z77811 F9 H locs hT hz77811 => ?_)
        obtain ⟨fz77811, hz77811⟩ := hz77811
        rw [fz77811] at hT
        refine t_ist X hT mz77795 gz77795 rfl (by omega) (row_fv (by omega) (Or.inl (by omega))) dX13_take_89 (fun F H locs hT v77812 h1v77812 h2v77812 => ?_)
        have pf0 := (h2v77812 _ _).trans pf0
        have v77790 := (h2v77812 _ _).trans v77790
        have qz77795 := (h2v77812 _ _).trans qz77795
        have hfr : (∀ b j : Nat, (tag b ≠ 46 ∨ j ≠ 0) → (tag b ≠ 46 ∨ j ≠ 1) → (tag b ≠ 46 ∨ j ≠ 2) → (tag b ≠ 46 ∨ j ≠ 20) → fld F b j = fld Fo b j) ∧ (∀ b j : Nat, tag b ≠ 37 → tag b ≠ 38 → elm F b j = elm Fo b j) := ⟨fun b j n46_0 n46_1 n46_2 n46_20 => (h2v77812 b j).trans (hfr.1 b j n46_0 n46_1 n46_2 n46_20), fun b j a37 a38 => (h1v77812 b j (Or.inl (at_ne gz77795 a37))).trans (hfr.2 b j a37 a38)⟩
        refine lv_aload_n hx hb dX13_take_90 rfl (lv_at hl 2 rfl) ?_
        refine t_get (C := RX13) (T := TX13) (N := 37) X hT m0 g0 rfl rfl 16 (by decide) qw_112 inlX13 rfl dX13_take_91 (fun v77813 hv77813 ov77813 => ?_)
        obtain rfl : v77813 = .ref z77795 := hv77813.symm.trans qz77795
        refine lv_iload_n hx hb dX13_take_94 rfl (lv_at hl 3 rfl) ?_
        refine lv_iload_n hx hb dX13_take_95 rfl (lv_at hl 1 rfl) ?_
        refine lv_iconst (v := 5) hx hb dX13_take_96 (by decide) ?_
        refine t_cSi (n := 3) (As := [.int p1, .int z77796, .int 5]) (rest := [.ref z77795]) X hT (km49_X13_part l G tag L F hT.2.2.2 p1 z77796 5 (by omega) (by omega) (by decide)) qw_661 qw_662 qw_5 qw_663 ⟨by decide +kernel, by decide +kernel, by decide +kernel⟩ ⟨Nat.le_of_ble_eq_true rfl, Nat.le_of_ble_eq_true rfl⟩ hl rfl rfl (Nat.le_of_ble_eq_true rfl) dX13_take_97 ⟨Nat.le_of_ble_eq_true rfl, Nat.le_of_ble_eq_true rfl⟩ (fun z77814 F9 H locs hT hz77814 => ?_)
        obtain ⟨fz77814, hz77814, xz77814_0⟩ := hz77814
        rw [fz77814] at hT
        have k77815 : (5 : Int32).toInt = 5 := by decide
        refine lv_iconst (v := 1) hx hb dX13_take_100 (by decide) ?_
        refine t_ist X hT mz77795 gz77795 rfl (by omega) (row_fv (by omega) (Or.inr (Or.inr (by omega)))) dX13_take_101 (fun F H locs hT v77816 h1v77816 h2v77816 => ?_)
        have pf0 := (h2v77816 _ _).trans pf0
        have v77790 := (h2v77816 _ _).trans v77790
        have qz77795 := (h2v77816 _ _).trans qz77795
        have v77812 := (h1v77816 _ _ (Or.inr (ine (by omega) (by omega) (by omega)))).trans v77812
        have hfr : (∀ b j : Nat, (tag b ≠ 46 ∨ j ≠ 0) → (tag b ≠ 46 ∨ j ≠ 1) → (tag b ≠ 46 ∨ j ≠ 2) → (tag b ≠ 46 ∨ j ≠ 20) → fld F b j = fld Fo b j) ∧ (∀ b j : Nat, tag b ≠ 37 → tag b ≠ 38 → elm F b j = elm Fo b j) := ⟨fun b j n46_0 n46_1 n46_2 n46_20 => (h2v77816 b j).trans (hfr.1 b j n46_0 n46_1 n46_2 n46_20), fun b j a37 a38 => (h1v77816 b j (Or.inl (at_ne gz77795 a37))).trans (hfr.2 b j a37 a38)⟩
        refine lv_aload_n hx hb dX13_take_102 rfl (lv_at hl 2 rfl) ?_
        refine t_get (C := RX13) (T := TX13) (N := 37) X hT m0 g0 rfl rfl 16 (by decide) qw_112 inlX13 rfl dX13_take_103 (fun v77817 hv77817 ov77817 => ?_)
        obtain rfl : v77817 = .ref z77795 := hv77817.symm.trans qz77795
        refine lv_iload_n hx hb dX13_take_106 rfl (lv_at hl 3 rfl) ?_
        refine lv_iload_n hx hb dX13_take_107 rfl (lv_at hl 1 rfl) ?_
        refine lv_bipush (v := 6) hx hb dX13_take_108 (by decide) ?_
        refine t_cSi (n := 3) (As := [.int p1, .int z77796, .int 6]) (rest := [.ref z77795]) X hT (km49_X13_part l G tag L F hT.2.2.2 p1 z77796 6 (by omega) (by omega) (by decide)) qw_661 qw_662 qw_5 qw_663 ⟨by decide +kernel, by decide +kernel, by decide +kernel⟩ ⟨Nat.le_of_ble_eq_true rfl, Nat.le_of_ble_eq_true rfl⟩ hl rfl rfl (Nat.le_of_ble_eq_true rfl) dX13_take_110 ⟨Nat.le_of_ble_eq_true rfl, Nat.le_of_ble_eq_true rfl⟩ (fun z77818 F9 H locs hT hz77818 => ?_)
        obtain ⟨fz77818, hz77818, xz77818_0⟩ := hz77818
        rw [fz77818] at hT
        have k77819 : (6 : Int32).toInt = 6 := by decide
        refine lv_iconst (v := 0) hx hb dX13_take_113 (by decide) ?_
        refine t_ist X hT mz77795 gz77795 rfl (by omega) (row_fv (by omega) (Or.inr (Or.inr (by omega)))) dX13_take_114 (fun F H locs hT v77820 h1v77820 h2v77820 => ?_)
        have pf0 := (h2v77820 _ _).trans pf0
        have v77790 := (h2v77820 _ _).trans v77790
        have qz77795 := (h2v77820 _ _).trans qz77795
        have v77812 := (h1v77820 _ _ (Or.inr (ine (by omega) (by omega) (by omega)))).trans v77812
        have hfr : (∀ b j : Nat, (tag b ≠ 46 ∨ j ≠ 0) → (tag b ≠ 46 ∨ j ≠ 1) → (tag b ≠ 46 ∨ j ≠ 2) → (tag b ≠ 46 ∨ j ≠ 20) → fld F b j = fld Fo b j) ∧ (∀ b j : Nat, tag b ≠ 37 → tag b ≠ 38 → elm F b j = elm Fo b j) := ⟨fun b j n46_0 n46_1 n46_2 n46_20 => (h2v77820 b j).trans (hfr.1 b j n46_0 n46_1 n46_2 n46_20), fun b j a37 a38 => (h1v77820 b j (Or.inl (at_ne gz77795 a37))).trans (hfr.2 b j a37 a38)⟩
        refine lv_aload_n hx hb dX13_take_115 rfl (lv_at hl 2 rfl) ?_
        refine lv_iload_n hx hb dX13_take_116 rfl (lv_at hl 0 rfl) ?_
        refine t_cVi (n := 1) (C := RX13) (T := TX13) (N := 37) (As := [.int z77804]) (rest := []) X hT (km93_X13_good l G tag L F hT.2.2.2 p0 z77804 m0 g0) m0 g0 rfl rfl qw_687 qw_688 qw_689 qw_5 qw_690 ⟨rfl, by decide +kernel, by decide +kernel, by decide +kernel⟩ ⟨Nat.le_of_ble_eq_true rfl, Nat.le_of_ble_eq_true rfl⟩ hl rfl rfl (Nat.le_of_ble_eq_true rfl) dX13_take_117 ⟨Nat.le_of_ble_eq_true rfl, Nat.le_of_ble_eq_true rfl⟩ (fun z77821 F H locs hT hz77821 => ?_)
        obtain ⟨hz77821, yz77821⟩ := hz77821
        have pf0 := (yz77821.1 _ 3 (Or.inr (by decide)) (Or.inr (by decide))).trans pf0
        have v77790 := (yz77821.1 _ 0 (Or.inr (by decide)) (Or.inr (by decide))).trans v77790
        have qz77795 := (yz77821.1 _ 16 (Or.inr (by decide)) (Or.inr (by decide))).trans qz77795
        have v77812 := (yz77821.2 _ _ ).trans v77812
        have v77820 := (yz77821.2 _ _ ).trans v77820
        have hfr : (∀ b j : Nat, (tag b ≠ 46 ∨ j ≠ 0) → (tag b ≠ 46 ∨ j ≠ 1) → (tag b ≠ 46 ∨ j ≠ 2) → (tag b ≠ 46 ∨ j ≠ 20) → fld F b j = fld Fo b j) ∧ (∀ b j : Nat, tag b ≠ 37 → tag b ≠ 38 → elm F b j = elm Fo b j) := ⟨fun b j n46_0 n46_1 n46_2 n46_20 => (yz77821.1 b j n46_1 n46_2).trans (hfr.1 b j n46_0 n46_1 n46_2 n46_20), fun b j a37 a38 => (yz77821.2 b j ).trans (hfr.2 b j a37 a38)⟩
        exact t_iret hQ X hT (⟨rg_all _, hfr⟩) (Nat.le_of_ble_eq_true rfl) (Nat.le_of_ble_eq_true rfl) dX13_take_120
      · have w77822 := cv_ne (rfl : z77800.toInt = z77800.toInt) (by decide : (0 : Int32).toInt = 0) c77801
        refine lv_aload_n hx hb dX13_take_47 rfl (lv_at hl 1 rfl) ?_
        refine lv_iconst (v := 5) hx hb dX13_take_48 (by decide) ?_
        refine t_cVi (n := 1) (C := RX13) (T := TX13) (N := 37) (As := [.int 5]) (rest := []) X hT (km88_X13_refused l G tag L F hT.2.2.2 p0 5 m0 g0) m0 g0 rfl rfl qw_484 qw_485 qw_486 qw_5 qw_487 ⟨rfl, by decide +kernel, by decide +kernel, by decide +kernel⟩ ⟨Nat.le_of_ble_eq_true rfl, Nat.le_of_ble_eq_true rfl⟩ hl rfl rfl (Nat.le_of_ble_eq_true rfl) dX13_take_49 ⟨Nat.le_of_ble_eq_true rfl, Nat.le_of_ble_eq_true rfl⟩ (fun z77823 F H locs hT hz77823 => ?_)
        obtain ⟨hz77823, yz77823⟩ := hz77823
        have pf0 := (yz77823.1 _ 3 (Or.inr (by decide)) (Or.inr (by decide))).trans pf0
        have v77790 := (yz77823.1 _ 0 (Or.inr (by decide)) (Or.inr (by decide))).trans v77790
        have qz77795 := (yz77823.1 _ 16 (Or.inr (by decide)) (Or.inr (by decide))).trans qz77795
        have hfr : (∀ b j : Nat, (tag b ≠ 46 ∨ j ≠ 0) → (tag b ≠ 46 ∨ j ≠ 1) → (tag b ≠ 46 ∨ j ≠ 2) → (tag b ≠ 46 ∨ j ≠ 20) → fld F b j = fld Fo b j) ∧ (∀ b j : Nat, tag b ≠ 37 → tag b ≠ 38 → elm F b j = elm Fo b j) := ⟨fun b j n46_0 n46_1 n46_2 n46_20 => (yz77823.1 b j n46_1 n46_2).trans (hfr.1 b j n46_0 n46_1 n46_2 n46_20), fun b j a37 a38 => (yz77823.2 b j ).trans (hfr.2 b j a37 a38)⟩
        exact t_iret hQ X hT (⟨rg_all _, hfr⟩) (Nat.le_of_ble_eq_true rfl) (Nat.le_of_ble_eq_true rfl) dX13_take_52
    · have w77824 := cv_eq (rfl : z77796.toInt = z77796.toInt) (by decide : ((-2) : Int32).toInt = (-2)) c77797
      refine lv_aload_n hx hb dX13_take_31 rfl (lv_at hl 1 rfl) ?_
      refine lv_bipush (v := 6) hx hb dX13_take_32 (by decide) ?_
      refine t_cVi (n := 1) (C := RX13) (T := TX13) (N := 37) (As := [.int 6]) (rest := []) X hT (km88_X13_refused l G tag L F hT.2.2.2 p0 6 m0 g0) m0 g0 rfl rfl qw_484 qw_485 qw_486 qw_5 qw_487 ⟨rfl, by decide +kernel, by decide +kernel, by decide +kernel⟩ ⟨Nat.le_of_ble_eq_true rfl, Nat.le_of_ble_eq_true rfl⟩ hl rfl rfl (Nat.le_of_ble_eq_true rfl) dX13_take_34 ⟨Nat.le_of_ble_eq_true rfl, Nat.le_of_ble_eq_true rfl⟩ (fun z77825 F H locs hT hz77825 => ?_)
      obtain ⟨hz77825, yz77825⟩ := hz77825
      have pf0 := (yz77825.1 _ 3 (Or.inr (by decide)) (Or.inr (by decide))).trans pf0
      have v77790 := (yz77825.1 _ 0 (Or.inr (by decide)) (Or.inr (by decide))).trans v77790
      have qz77795 := (yz77825.1 _ 16 (Or.inr (by decide)) (Or.inr (by decide))).trans qz77795
      have hfr : (∀ b j : Nat, (tag b ≠ 46 ∨ j ≠ 0) → (tag b ≠ 46 ∨ j ≠ 1) → (tag b ≠ 46 ∨ j ≠ 2) → (tag b ≠ 46 ∨ j ≠ 20) → fld F b j = fld Fo b j) ∧ (∀ b j : Nat, tag b ≠ 37 → tag b ≠ 38 → elm F b j = elm Fo b j) := ⟨fun b j n46_0 n46_1 n46_2 n46_20 => (yz77825.1 b j n46_1 n46_2).trans (hfr.1 b j n46_0 n46_1 n46_2 n46_20), fun b j a37 a38 => (yz77825.2 b j ).trans (hfr.2 b j a37 a38)⟩
      exact t_iret hQ X hT (⟨rg_all _, hfr⟩) (Nat.le_of_ble_eq_true rfl) (Nat.le_of_ble_eq_true rfl) dX13_take_37
  · have w77826 := cv_eq (rfl : z77791.toInt = z77791.toInt) (by decide : (0 : Int32).toInt = 0) c77792
    refine lv_aload_n hx hb dX13_take_13 rfl (lv_at hl 0 rfl) ?_
    refine lv_iconst (v := 1) hx hb dX13_take_14 (by decide) ?_
    refine t_cVi (n := 1) (C := RX13) (T := TX13) (N := 37) (As := [.int 1]) (rest := []) X hT (km88_X13_refused l G tag L F hT.2.2.2 p0 1 m0 g0) m0 g0 rfl rfl qw_484 qw_485 qw_486 qw_5 qw_487 ⟨rfl, by decide +kernel, by decide +kernel, by decide +kernel⟩ ⟨Nat.le_of_ble_eq_true rfl, Nat.le_of_ble_eq_true rfl⟩ hl rfl rfl (Nat.le_of_ble_eq_true rfl) dX13_take_15 ⟨Nat.le_of_ble_eq_true rfl, Nat.le_of_ble_eq_true rfl⟩ (fun z77827 F H locs hT hz77827 => ?_)
    obtain ⟨hz77827, yz77827⟩ := hz77827
    have pf0 := (yz77827.1 _ 3 (Or.inr (by decide)) (Or.inr (by decide))).trans pf0
    have v77790 := (yz77827.1 _ 0 (Or.inr (by decide)) (Or.inr (by decide))).trans v77790
    have hfr : (∀ b j : Nat, (tag b ≠ 46 ∨ j ≠ 0) → (tag b ≠ 46 ∨ j ≠ 1) → (tag b ≠ 46 ∨ j ≠ 2) → (tag b ≠ 46 ∨ j ≠ 20) → fld F b j = fld Fo b j) ∧ (∀ b j : Nat, tag b ≠ 37 → tag b ≠ 38 → elm F b j = elm Fo b j) := ⟨fun b j n46_0 n46_1 n46_2 n46_20 => (yz77827.1 b j n46_1 n46_2).trans (hfr.1 b j n46_0 n46_1 n46_2 n46_20), fun b j a37 a38 => (yz77827.2 b j ).trans (hfr.2 b j a37 a38)⟩
    exact t_iret hQ X hT (⟨rg_all _, hfr⟩) (Nat.le_of_ble_eq_true rfl) (Nat.le_of_ble_eq_true rfl) dX13_take_18
