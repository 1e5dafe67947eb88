set_option maxHeartbeats 4000000 in
set_option maxRecDepth 100000 in
theorem kt460_X3_checkLine (l : Launch) (G : KG) (tag : Nat → Nat) (L : List Nat) (Fo : Nat → va_E) (ho : okT G ttC tag L Fo) (p0 : Nat) (p1 : Int32) (x0 : Nat) (x1 : Nat) (x2 : Nat) (x3 : Nat) (x4 : Nat) (x5 : Nat) (m0 : p0 ∈ L) (g0 : tag p0 = 25) (h1 : 4 ≤ p1.toInt ∧ p1.toInt ≤ 4) (mx0 : x0 ∈ L) (gx0 : tag x0 = 24) (pf0 : fld Fo p0 0 = .ref x0) (mx1 : x1 ∈ L) (gx1 : tag x1 = 18) (pf1 : fld Fo p0 1 = .ref x1) (mx2 : x2 ∈ L) (gx2 : tag x2 = 19) (pf2 : fld Fo p0 2 = .ref x2) (mx3 : x3 ∈ L) (gx3 : tag x3 = 1) (pf3 : fld Fo x0 0 = .ref x3) (mx4 : x4 ∈ L) (gx4 : tag x4 = 14) (pf4 : fld Fo p0 10 = .ref x4) (mx5 : x5 ∈ L) (gx5 : tag x5 = 15) (pf5 : fld Fo p0 11 = .ref x5) : TMv l yX3_checkLine cX3_checkLine 2 { frames := 1, cells := 0, slots := 0, locals := 22 } G ttC tag L Fo [.ref p0, .int p1] (fun F1 => ((∀ b j : Nat, (tag b ≠ 25 ∨ j ≠ 3) → (tag b ≠ 25 ∨ j ≠ 4) → fld F1 b j = fld Fo b j) ∧ EF tag F1 Fo) ∧ (((∃ z : Int32, fld F1 p0 3 = .int z ∧ 1 ≤ z.toInt ∧ z.toInt ≤ 7)) ∨ ((∃ z : Int32, fld F1 x1 10 = .int z ∧ 0 ≤ z.toInt ∧ z.toInt ≤ 3)))) := by
  refine t_bodyv (y := yX3_checkLine) (cd := cX3_checkLine) (mL := 2) (rm := { frames := 1, cells := 0, slots := 0, locals := 22 }) (av := [.ref p0, .int p1]) (by decide) (Nat.le_of_ble_eq_true rfl) ho ?_
  intro p e s m args below meth c ls A Q hQ X hT hl
  have hx := X.1.1
  have hb := X.1.2.1
  have hl : lv_has ls 2 [(0, .ref p0), (1, .int p1)] := hl
  obtain ⟨F, hFo⟩ : ∃ F : Nat → va_E, F = Fo := ⟨_, rfl⟩
  rw [← hFo] at hT pf0 pf1 pf2 pf3 pf4 pf5
  have hfr : (∀ b j : Nat, (tag b ≠ 25 ∨ j ≠ 3) → (tag b ≠ 25 ∨ j ≠ 4) → fld F b j = fld Fo b j) ∧ EF tag F Fo := by
    rw [hFo]
    exact ⟨by intros; rfl, fun _ _ _ => rfl⟩
  refine lv_aload_n hx hb dX3_checkLine_0 rfl (lv_at hl 0 rfl) ?_
  refine lv_iload_n hx hb dX3_checkLine_1 rfl (lv_at hl 1 rfl) ?_
  refine t_cVi (n := 1) (C := RX3) (T := TX3) (N := 13) (As := [.int p1]) (rest := []) X hT (kt430_X3_isLineAgain l G tag L F hT.2.2.2 p0 p1 m0 g0) m0 g0 rfl rfl qw_295 qw_296 qw_297 qw_28 qw_298 ⟨rfl, by decide +kernel, by decide +kernel, by decide +kernel⟩ ⟨Nat.le_of_ble_eq_true rfl, Nat.le_of_ble_eq_true rfl⟩ hl rfl rfl (Nat.le_of_ble_eq_true rfl) dX3_checkLine_2 ⟨Nat.le_of_ble_eq_true rfl, Nat.le_of_ble_eq_true rfl⟩ (fun z156220 F9 H locs hT hz156220 => ?_)
  obtain ⟨fz156220, hz156220⟩ := hz156220
  rw [fz156220] at hT
  refine lv_if_eq (tgt := 23) hx hb dX3_checkLine_5 (by decide) (fun c156221 => ?_) (fun c156221 => ?_)
  · have w156222 := cv_eq (rfl : z156220.toInt = z156220.toInt) (by decide : (0 : Int32).toInt = 0) c156221
    refine lv_aload_n hx hb dX3_checkLine_23 rfl (lv_at hl 0 rfl) ?_
    refine lv_iload_n hx hb dX3_checkLine_24 rfl (lv_at hl 1 rfl) ?_
    refine t_cVi (n := 1) (C := RX3) (T := TX3) (N := 13) (As := [.int p1]) (rest := []) X hT (kt459_X3_isLineTooMany l G tag L F hT.2.2.2 p0 p1 x0 x1 x2 x3 x4 x5 m0 g0 (by omega) mx0 gx0 pf0 mx1 gx1 pf1 mx2 gx2 pf2 mx3 gx3 pf3 mx4 gx4 pf4 mx5 gx5 pf5) m0 g0 rfl rfl qw_299 qw_300 qw_301 qw_28 qw_302 ⟨rfl, by decide +kernel, by decide +kernel, by decide +kernel⟩ ⟨Nat.le_of_ble_eq_true rfl, Nat.le_of_ble_eq_true rfl⟩ hl rfl rfl (Nat.le_of_ble_eq_true rfl) dX3_checkLine_25 ⟨Nat.le_of_ble_eq_true rfl, Nat.le_of_ble_eq_true rfl⟩ (fun z156223 F9 H locs hT hz156223 => ?_)
    obtain ⟨fz156223, hz156223, xz156223_0⟩ := hz156223
    rw [fz156223] at hT xz156223_0
    rcases xz156223_0 with xz156223_0 | xz156223_0
    · refine lv_if_eq (tgt := 46) hx hb dX3_checkLine_28 (by decide) (fun c156224 => ?_) (fun c156224 => ?_)
      · have w156225 := cv_eq (rfl : z156223.toInt = z156223.toInt) (by decide : (0 : Int32).toInt = 0) c156224
        exfalso
        omega
      · have w156226 := cv_ne (rfl : z156223.toInt = z156223.toInt) (by decide : (0 : Int32).toInt = 0) c156224
        refine lv_aload_n hx hb dX3_checkLine_31 rfl (lv_at hl 0 rfl) ?_
        refine lv_iconst (v := 5) hx hb dX3_checkLine_32 (by decide) ?_
        refine lv_aload_n hx hb dX3_checkLine_33 rfl (lv_at hl 0 rfl) ?_
        refine t_get (C := RX3) (T := TX3) (N := 13) X hT m0 g0 rfl rfl 0 (by decide) qw_73 inlX3 rfl dX3_checkLine_34 (fun v156227 hv156227 ov156227 => ?_)
        obtain rfl : v156227 = .ref x0 := hv156227.symm.trans pf0
        refine t_get (C := RX8) (T := TX8) (N := 8) X hT mx0 gx0 rfl rfl 4 (by decide) qw_227 inlX8 rfl dX3_checkLine_37 (fun v156228 hv156228 ov156228 => ?_)
        obtain ⟨z156229, rfl, rz156229⟩ := okV_i ov156228
        refine t_cVv (n := 2) (C := RX3) (T := TX3) (N := 13) (As := [.int 5, .int z156229]) (rest := []) X hT (kt432_X3_fail l G tag L F hT.2.2.2 p0 5 z156229 m0 g0 (by decide)) m0 g0 rfl rfl qw_287 qw_288 qw_289 qw_28 qw_290 ⟨rfl, by decide +kernel, by decide +kernel, by decide +kernel⟩ ⟨Nat.le_of_ble_eq_true rfl, Nat.le_of_ble_eq_true rfl⟩ hl rfl rfl (Nat.le_of_ble_eq_true rfl) dX3_checkLine_40 ⟨Nat.le_of_ble_eq_true rfl, Nat.le_of_ble_eq_true rfl⟩ (fun F H locs hT hz156230 => ?_)
        obtain ⟨yz156230, xz156230_0⟩ := hz156230
        have pf0 := (yz156230.1 _ 0 (Or.inr (by decide)) (Or.inr (by decide))).trans pf0
        have pf1 := (yz156230.1 _ 1 (Or.inr (by decide)) (Or.inr (by decide))).trans pf1
        have pf2 := (yz156230.1 _ 2 (Or.inr (by decide)) (Or.inr (by decide))).trans pf2
        have pf3 := (yz156230.1 _ 0 (Or.inr (by decide)) (Or.inr (by decide))).trans pf3
        have pf4 := (yz156230.1 _ 10 (Or.inr (by decide)) (Or.inr (by decide))).trans pf4
        have pf5 := (yz156230.1 _ 11 (Or.inr (by decide)) (Or.inr (by decide))).trans pf5
        have hv156228 := (yz156230.1 _ 4 (Or.inr (by decide)) (Or.inl (by rw [gx0]; decide))).trans hv156228
        have hfr : (∀ b j : Nat, (tag b ≠ 25 ∨ j ≠ 3) → (tag b ≠ 25 ∨ j ≠ 4) → fld F b j = fld Fo b j) ∧ EF tag F Fo := ⟨fun b j n25_3 n25_4 => (yz156230.1 b j n25_3 n25_4).trans (hfr.1 b j n25_3 n25_4), fun b j hb => (yz156230.2 b j hb).trans (hfr.2 b j hb)⟩
        obtain ⟨z156231, qz156231, rz156231⟩ := xz156230_0
        refine lv_goto (tgt := 85) hx hb dX3_checkLine_43 (by decide) ?_
        exact t_vret hQ X hT ⟨hfr, (Or.inl (⟨_, qz156231, (by omega), (by omega)⟩))⟩ (Nat.le_of_ble_eq_true rfl) (Nat.le_of_ble_eq_true rfl) dX3_checkLine_85
    · obtain ⟨z156232, qz156232, rz156232⟩ := xz156223_0
      refine lv_if_eq (tgt := 46) hx hb dX3_checkLine_28 (by decide) (fun c156233 => ?_) (fun c156233 => ?_)
      · have w156234 := cv_eq (rfl : z156223.toInt = z156223.toInt) (by decide : (0 : Int32).toInt = 0) c156233
        refine lv_iload_n hx hb dX3_checkLine_46 rfl (lv_at hl 1 rfl) ?_
        refine lv_if_eq (tgt := 57) hx hb dX3_checkLine_47 (by decide) (fun c156235 => ?_) (fun c156235 => ?_)
        · have w156236 := cv_eq (rfl : p1.toInt = p1.toInt) (by decide : (0 : Int32).toInt = 0) c156235
          exfalso
          omega
        · have w156237 := cv_ne (rfl : p1.toInt = p1.toInt) (by decide : (0 : Int32).toInt = 0) c156235
          refine lv_aload_n hx hb dX3_checkLine_50 rfl (lv_at hl 0 rfl) ?_
          refine t_get (C := RX3) (T := TX3) (N := 13) X hT m0 g0 rfl rfl 5 (by decide) qw_165 inlX3 rfl dX3_checkLine_51 (fun v156238 hv156238 ov156238 => ?_)
          obtain ⟨z156239, rfl, rz156239⟩ := okV_i ov156238
          refine lv_if_eq (tgt := 72) hx hb dX3_checkLine_54 (by decide) (fun c156240 => ?_) (fun c156240 => ?_)
          · have w156241 := cv_eq (rfl : z156239.toInt = z156239.toInt) (by decide : (0 : Int32).toInt = 0) c156240
            refine lv_aload_n hx hb dX3_checkLine_72 rfl (lv_at hl 0 rfl) ?_
            refine lv_bipush (v := 6) hx hb dX3_checkLine_73 (by decide) ?_
            refine lv_aload_n hx hb dX3_checkLine_75 rfl (lv_at hl 0 rfl) ?_
            refine t_get (C := RX3) (T := TX3) (N := 13) X hT m0 g0 rfl rfl 0 (by decide) qw_73 inlX3 rfl dX3_checkLine_76 (fun v156242 hv156242 ov156242 => ?_)
            obtain rfl : v156242 = .ref x0 := hv156242.symm.trans pf0
            refine t_get (C := RX8) (T := TX8) (N := 8) X hT mx0 gx0 rfl rfl 4 (by decide) qw_227 inlX8 rfl dX3_checkLine_79 (fun v156243 hv156243 ov156243 => ?_)
            obtain ⟨z156244, rfl, rz156244⟩ := okV_i ov156243
            refine t_cVv (n := 2) (C := RX3) (T := TX3) (N := 13) (As := [.int 6, .int z156244]) (rest := []) X hT (kt432_X3_fail l G tag L F hT.2.2.2 p0 6 z156244 m0 g0 (by decide)) m0 g0 rfl rfl qw_287 qw_288 qw_289 qw_28 qw_290 ⟨rfl, by decide +kernel, by decide +kernel, by decide +kernel⟩ ⟨Nat.le_of_ble_eq_true rfl, Nat.le_of_ble_eq_true rfl⟩ hl rfl rfl (Nat.le_of_ble_eq_true rfl) dX3_checkLine_82 ⟨Nat.le_of_ble_eq_true rfl, Nat.le_of_ble_eq_true rfl⟩ (fun F H locs hT hz156245 => ?_)
            obtain ⟨yz156245, xz156245_0⟩ := hz156245
            have pf0 := (yz156245.1 _ 0 (Or.inr (by decide)) (Or.inr (by decide))).trans pf0
            have pf1 := (yz156245.1 _ 1 (Or.inr (by decide)) (Or.inr (by decide))).trans pf1
            have pf2 := (yz156245.1 _ 2 (Or.inr (by decide)) (Or.inr (by decide))).trans pf2
            have pf3 := (yz156245.1 _ 0 (Or.inr (by decide)) (Or.inr (by decide))).trans pf3
            have pf4 := (yz156245.1 _ 10 (Or.inr (by decide)) (Or.inr (by decide))).trans pf4
            have pf5 := (yz156245.1 _ 11 (Or.inr (by decide)) (Or.inr (by decide))).trans pf5
            have qz156232 := (yz156245.1 _ 10 (Or.inr (by decide)) (Or.inr (by decide))).trans qz156232
            have hv156238 := (yz156245.1 _ 5 (Or.inr (by decide)) (Or.inr (by decide))).trans hv156238
            have hv156243 := (yz156245.1 _ 4 (Or.inr (by decide)) (Or.inl (by rw [gx0]; decide))).trans hv156243
            have hfr : (∀ b j : Nat, (tag b ≠ 25 ∨ j ≠ 3) → (tag b ≠ 25 ∨ j ≠ 4) → fld F b j = fld Fo b j) ∧ EF tag F Fo := ⟨fun b j n25_3 n25_4 => (yz156245.1 b j n25_3 n25_4).trans (hfr.1 b j n25_3 n25_4), fun b j hb => (yz156245.2 b j hb).trans (hfr.2 b j hb)⟩
            obtain ⟨z156246, qz156246, rz156246⟩ := xz156245_0
            exact t_vret hQ X hT ⟨hfr, (Or.inl (⟨_, qz156246, (by omega), (by omega)⟩))⟩ (Nat.le_of_ble_eq_true rfl) (Nat.le_of_ble_eq_true rfl) dX3_checkLine_85
          · have w156247 := cv_ne (rfl : z156239.toInt = z156239.toInt) (by decide : (0 : Int32).toInt = 0) c156240
            refine lv_iload_n hx hb dX3_checkLine_57 rfl (lv_at hl 1 rfl) ?_
            refine lv_iconst (v := 2) hx hb dX3_checkLine_58 (by decide) ?_
            refine lv_icmp_ne (tgt := 85) hx hb dX3_checkLine_59 (by decide) (fun c156248 => ?_) (fun c156248 => ?_)
            · have w156249 := cv_ne (rfl : p1.toInt = p1.toInt) (by decide : (2 : Int32).toInt = 2) c156248
              exact t_vret hQ X hT ⟨hfr, (Or.inr (⟨_, qz156232, (by omega), (by omega)⟩))⟩ (Nat.le_of_ble_eq_true rfl) (Nat.le_of_ble_eq_true rfl) dX3_checkLine_85
            · have w156250 := cv_eq (rfl : p1.toInt = p1.toInt) (by decide : (2 : Int32).toInt = 2) c156248
              exfalso
              omega
      · have w156251 := cv_ne (rfl : z156223.toInt = z156223.toInt) (by decide : (0 : Int32).toInt = 0) c156233
        refine lv_aload_n hx hb dX3_checkLine_31 rfl (lv_at hl 0 rfl) ?_
        refine lv_iconst (v := 5) hx hb dX3_checkLine_32 (by decide) ?_
        refine lv_aload_n hx hb dX3_checkLine_33 rfl (lv_at hl 0 rfl) ?_
        refine t_get (C := RX3) (T := TX3) (N := 13) X hT m0 g0 rfl rfl 0 (by decide) qw_73 inlX3 rfl dX3_checkLine_34 (fun v156252 hv156252 ov156252 => ?_)
        obtain rfl : v156252 = .ref x0 := hv156252.symm.trans pf0
        refine t_get (C := RX8) (T := TX8) (N := 8) X hT mx0 gx0 rfl rfl 4 (by decide) qw_227 inlX8 rfl dX3_checkLine_37 (fun v156253 hv156253 ov156253 => ?_)
        obtain ⟨z156254, rfl, rz156254⟩ := okV_i ov156253
        refine t_cVv (n := 2) (C := RX3) (T := TX3) (N := 13) (As := [.int 5, .int z156254]) (rest := []) X hT (kt432_X3_fail l G tag L F hT.2.2.2 p0 5 z156254 m0 g0 (by decide)) m0 g0 rfl rfl qw_287 qw_288 qw_289 qw_28 qw_290 ⟨rfl, by decide +kernel, by decide +kernel, by decide +kernel⟩ ⟨Nat.le_of_ble_eq_true rfl, Nat.le_of_ble_eq_true rfl⟩ hl rfl rfl (Nat.le_of_ble_eq_true rfl) dX3_checkLine_40 ⟨Nat.le_of_ble_eq_true rfl, Nat.le_of_ble_eq_true rfl⟩ (fun F H locs hT hz156255 => ?_)
        obtain ⟨yz156255, xz156255_0⟩ := hz156255
        have pf0 := (yz156255.1 _ 0 (Or.inr (by decide)) (Or.inr (by decide))).trans pf0
        have pf1 := (yz156255.1 _ 1 (Or.inr (by decide)) (Or.inr (by decide))).trans pf1
        have pf2 := (yz156255.1 _ 2 (Or.inr (by decide)) (Or.inr (by decide))).trans pf2
        have pf3 := (yz156255.1 _ 0 (Or.inr (by decide)) (Or.inr (by decide))).trans pf3
        have pf4 := (yz156255.1 _ 10 (Or.inr (by decide)) (Or.inr (by decide))).trans pf4
        have pf5 := (yz156255.1 _ 11 (Or.inr (by decide)) (Or.inr (by decide))).trans pf5
        have qz156232 := (yz156255.1 _ 10 (Or.inr (by decide)) (Or.inr (by decide))).trans qz156232
        have hv156253 := (yz156255.1 _ 4 (Or.inr (by decide)) (Or.inl (by rw [gx0]; decide))).trans hv156253
        have hfr : (∀ b j : Nat, (tag b ≠ 25 ∨ j ≠ 3) → (tag b ≠ 25 ∨ j ≠ 4) → fld F b j = fld Fo b j) ∧ EF tag F Fo := ⟨fun b j n25_3 n25_4 => (yz156255.1 b j n25_3 n25_4).trans (hfr.1 b j n25_3 n25_4), fun b j hb => (yz156255.2 b j hb).trans (hfr.2 b j hb)⟩
        obtain ⟨z156256, qz156256, rz156256⟩ := xz156255_0
        refine lv_goto (tgt := 85) hx hb dX3_checkLine_43 (by decide) ?_
        exact t_vret hQ X hT ⟨hfr, (Or.inl (⟨_, qz156256, (by omega), (by omega)⟩))⟩ (Nat.le_of_ble_eq_true rfl) (Nat.le_of_ble_eq_true rfl) dX3_checkLine_85
  · have w156257 := cv_ne (rfl : z156220.toInt = z156220.toInt) (by decide : (0 : Int32).toInt = 0) c156221
    refine lv_aload_n hx hb dX3_checkLine_8 rfl (lv_at hl 0 rfl) ?_
    refine lv_iconst (v := 3) hx hb dX3_checkLine_9 (by decide) ?_
    refine lv_aload_n hx hb dX3_checkLine_10 rfl (lv_at hl 0 rfl) ?_
    refine t_get (C := RX3) (T := TX3) (N := 13) X hT m0 g0 rfl rfl 0 (by decide) qw_73 inlX3 rfl dX3_checkLine_11 (fun v156258 hv156258 ov156258 => ?_)
    obtain rfl : v156258 = .ref x0 := hv156258.symm.trans pf0
    refine t_get (C := RX8) (T := TX8) (N := 8) X hT mx0 gx0 rfl rfl 4 (by decide) qw_227 inlX8 rfl dX3_checkLine_14 (fun v156259 hv156259 ov156259 => ?_)
    obtain ⟨z156260, rfl, rz156260⟩ := okV_i ov156259
    refine t_cVv (n := 2) (C := RX3) (T := TX3) (N := 13) (As := [.int 3, .int z156260]) (rest := []) X hT (kt432_X3_fail l G tag L F hT.2.2.2 p0 3 z156260 m0 g0 (by decide)) m0 g0 rfl rfl qw_287 qw_288 qw_289 qw_28 qw_290 ⟨rfl, by decide +kernel, by decide +kernel, by decide +kernel⟩ ⟨Nat.le_of_ble_eq_true rfl, Nat.le_of_ble_eq_true rfl⟩ hl rfl rfl (Nat.le_of_ble_eq_true rfl) dX3_checkLine_17 ⟨Nat.le_of_ble_eq_true rfl, Nat.le_of_ble_eq_true rfl⟩ (fun F H locs hT hz156261 => ?_)
    obtain ⟨yz156261, xz156261_0⟩ := hz156261
    have pf0 := (yz156261.1 _ 0 (Or.inr (by decide)) (Or.inr (by decide))).trans pf0
    have pf1 := (yz156261.1 _ 1 (Or.inr (by decide)) (Or.inr (by decide))).trans pf1
    have pf2 := (yz156261.1 _ 2 (Or.inr (by decide)) (Or.inr (by decide))).trans pf2
    have pf3 := (yz156261.1 _ 0 (Or.inr (by decide)) (Or.inr (by decide))).trans pf3
    have pf4 := (yz156261.1 _ 10 (Or.inr (by decide)) (Or.inr (by decide))).trans pf4
    have pf5 := (yz156261.1 _ 11 (Or.inr (by decide)) (Or.inr (by decide))).trans pf5
    have hv156259 := (yz156261.1 _ 4 (Or.inr (by decide)) (Or.inl (by rw [gx0]; decide))).trans hv156259
    have hfr : (∀ b j : Nat, (tag b ≠ 25 ∨ j ≠ 3) → (tag b ≠ 25 ∨ j ≠ 4) → fld F b j = fld Fo b j) ∧ EF tag F Fo := ⟨fun b j n25_3 n25_4 => (yz156261.1 b j n25_3 n25_4).trans (hfr.1 b j n25_3 n25_4), fun b j hb => (yz156261.2 b j hb).trans (hfr.2 b j hb)⟩
    obtain ⟨z156262, qz156262, rz156262⟩ := xz156261_0
    refine lv_goto (tgt := 85) hx hb dX3_checkLine_20 (by decide) ?_
    exact t_vret hQ X hT ⟨hfr, (Or.inl (⟨_, qz156262, (by omega), (by omega)⟩))⟩ (Nat.le_of_ble_eq_true rfl) (Nat.le_of_ble_eq_true rfl) dX3_checkLine_85
set_option maxHeartbeats 4000000 in
set_option maxRecDepth 100000 in
theorem kt461_X3_isLineTooMany (l : Launch) (G : KG) (tag : Nat → Nat) (L : List Nat) (F : Nat → va_E) (ho : okT G ttC tag L F) (p0 : Nat) (p1 : Int32) (x0 : Nat) (x1 : Nat) (x2 : Nat) (x3 : Nat) (x4 : Nat) (x5 : Nat) (m0 : p0 ∈ L) (g0 : tag p0 = 25) (h1 : 7 ≤ p1.toInt ∧ p1.toInt ≤ 7) (mx0 : x0 ∈ L) (gx0 : tag x0 = 24) (pf0 : fld F p0 0 = .ref x0) (mx1 : x1 ∈ L) (gx1 : tag x1 = 18) (pf1 : fld F p0 1 = .ref x1) (mx2 : x2 ∈ L) (gx2 : tag x2 = 19) (pf2 : fld F p0 2 = .ref x2) (mx3 : x3 ∈ L) (gx3 : tag x3 = 1) (pf3 : fld F x0 0 = .ref x3) (mx4 : x4 ∈ L) (gx4 : tag x4 = 14) (pf4 : fld F p0 10 = .ref x4) (mx5 : x5 ∈ L) (gx5 : tag x5 = 15) (pf5 : fld F p0 11 = .ref x5) : TMi l yX3_isLineTooMany cX3_isLineTooMany 2 (some .boolean) { frames := 0, cells := 0, slots := 0, locals := 0 } G ttC tag L F [.ref p0, .int p1] (fun r F1 => F1 = F ∧ (0 ≤ r.toInt ∧ r.toInt ≤ 1) ∧ (((1 ≤ r.toInt ∧ r.toInt ≤ 1)) ∨ ((∃ z : Int32, fld F1 x1 16 = .int z ∧ 0 ≤ z.toInt ∧ z.toInt ≤ 5)))) := by
  refine t_bodyi (y := yX3_isLineTooMany) (cd := cX3_isLineTooMany) (mL := 2) (rt := (some .boolean)) (rm := { frames := 0, cells := 0, slots := 0, locals := 0 }) (av := [.ref p0, .int p1]) (by decide) (Nat.le_of_ble_eq_true rfl) ho ?_
  intro p e s m args below meth c ls A Q hQ X hT hl
  have hx := X.1.1
  have hb := X.1.2.1
  have hl : lv_has ls 2 [(0, .ref p0), (1, .int p1)] := hl
  refine lv_iload_n hx hb dX3_isLineTooMany_0 rfl (lv_at hl 1 rfl) ?_
  by_cases c156547 : p1 = 2
  · have w156548 := cv_eq (rfl : p1.toInt = p1.toInt) (by decide : (2 : Int32).toInt = 2) c156547
    exfalso
    omega
  have w156549 := cv_ne (rfl : p1.toInt = p1.toInt) (by decide : (2 : Int32).toInt = 2) c156547
  by_cases c156550 : p1 = 3
  · have w156551 := cv_eq (rfl : p1.toInt = p1.toInt) (by decide : (3 : Int32).toInt = 3) c156550
    exfalso
    omega
  have w156552 := cv_ne (rfl : p1.toInt = p1.toInt) (by decide : (3 : Int32).toInt = 3) c156550
  by_cases c156553 : p1 = 4
  · have w156554 := cv_eq (rfl : p1.toInt = p1.toInt) (by decide : (4 : Int32).toInt = 4) c156553
    exfalso
    omega
  have w156555 := cv_ne (rfl : p1.toInt = p1.toInt) (by decide : (4 : Int32).toInt = 4) c156553
  by_cases c156556 : p1 = 5
  · have w156557 := cv_eq (rfl : p1.toInt = p1.toInt) (by decide : (5 : Int32).toInt = 5) c156556
    exfalso
    omega
  have w156558 := cv_ne (rfl : p1.toInt = p1.toInt) (by decide : (5 : Int32).toInt = 5) c156556
  by_cases c156559 : p1 = 6
  · have w156560 := cv_eq (rfl : p1.toInt = p1.toInt) (by decide : (6 : Int32).toInt = 6) c156559
    exfalso
    omega
  have w156561 := cv_ne (rfl : p1.toInt = p1.toInt) (by decide : (6 : Int32).toInt = 6) c156559
  by_cases c156562 : p1 = 7
  · have w156563 := cv_eq (rfl : p1.toInt = p1.toInt) (by decide : (7 : Int32).toInt = 7) c156562
    refine lv_tableIn (off := 110) (tgt := 111) hx hb dX3_isLineTooMany_1 (by rw [c156562]; decide) (by rw [c156562]; decide) (by rw [c156562]; decide) (by decide) ?_
    refine lv_aload_n hx hb dX3_isLineTooMany_111 rfl (lv_at hl 0 rfl) ?_
    refine t_get (C := RX3) (T := TX3) (N := 13) X hT m0 g0 rfl rfl 1 (by decide) qw_161 inlX3 rfl dX3_isLineTooMany_112 (fun v156564 hv156564 ov156564 => ?_)
    obtain rfl : v156564 = .ref x1 := hv156564.symm.trans pf1
    refine t_get (C := RX1) (T := TX1) (N := 20) X hT mx1 gx1 rfl rfl 16 (by decide) qw_304 inlX1 rfl dX3_isLineTooMany_115 (fun v156565 hv156565 ov156565 => ?_)
    obtain ⟨z156566, rfl, rz156566⟩ := okV_i ov156565
    refine lv_bipush (v := 6) hx hb dX3_isLineTooMany_118 (by decide) ?_
    refine lv_icmp_lt (tgt := 127) hx hb dX3_isLineTooMany_120 (by decide) (fun c156567 => ?_) (fun c156567 => ?_)
    · have w156568 := cv_lt (rfl : z156566.toInt = z156566.toInt) (by decide : (6 : Int32).toInt = 6) c156567
      refine lv_iconst (v := 0) hx hb dX3_isLineTooMany_127 (by decide) ?_
      exact t_zret hQ X hT (by decide) (⟨rfl, (by decide), (Or.inr (⟨_, hv156565, (by omega), (by omega)⟩))⟩) (Nat.le_of_ble_eq_true rfl) (Nat.le_of_ble_eq_true rfl) dX3_isLineTooMany_128
    · have w156569 := cv_nlt (rfl : z156566.toInt = z156566.toInt) (by decide : (6 : Int32).toInt = 6) c156567
      refine lv_iconst (v := 1) hx hb dX3_isLineTooMany_123 (by decide) ?_
      refine lv_goto (tgt := 128) hx hb dX3_isLineTooMany_124 (by decide) ?_
      exact t_zret hQ X hT (by decide) (⟨rfl, (by decide), (Or.inl (⟨(by decide), (by decide)⟩))⟩) (Nat.le_of_ble_eq_true rfl) (Nat.le_of_ble_eq_true rfl) dX3_isLineTooMany_128
  have w156570 := cv_ne (rfl : p1.toInt = p1.toInt) (by decide : (7 : Int32).toInt = 7) c156562
  exfalso
  omega
set_option maxHeartbeats 4000000 in
set_option maxRecDepth 100000 in
theorem kt462_X3_checkLine (l : Launch) (G : KG) (tag : Nat → Nat) (L : List Nat) (Fo : Nat → va_E) (ho : okT G ttC tag L Fo) (p0 : Nat) (p1 : Int32) (x0 : Nat) (x1 : Nat) (x2 : Nat) (x3 : Nat) (x4 : Nat) (x5 : Nat) (m0 : p0 ∈ L) (g0 : tag p0 = 25) (h1 : 7 ≤ p1.toInt ∧ p1.toInt ≤ 7) (mx0 : x0 ∈ L) (gx0 : tag x0 = 24) (pf0 : fld Fo p0 0 = .ref x0) (mx1 : x1 ∈ L) (gx1 : tag x1 = 18) (pf1 : fld Fo p0 1 = .ref x1) (mx2 : x2 ∈ L) (gx2 : tag x2 = 19) (pf2 : fld Fo p0 2 = .ref x2) (mx3 : x3 ∈ L) (gx3 : tag x3 = 1) (pf3 : fld Fo x0 0 = .ref x3) (mx4 : x4 ∈ L) (gx4 : tag x4 = 14) (pf4 : fld Fo p0 10 = .ref x4) (mx5 : x5 ∈ L) (gx5 : tag x5 = 15) (pf5 : fld Fo p0 11 = .ref x5) : TMv l yX3_checkLine cX3_checkLine 2 { frames := 1, cells := 0, slots := 0, locals := 22 } G ttC tag L Fo [.ref p0, .int p1] (fun F1 => ((∀ b j : Nat, (tag b ≠ 25 ∨ j ≠ 3) → (tag b ≠ 25 ∨ j ≠ 4) → fld F1 b j = fld Fo b j) ∧ EF tag F1 Fo) ∧ (((∃ z : Int32, fld F1 p0 3 = .int z ∧ 1 ≤ z.toInt ∧ z.toInt ≤ 7)) ∨ ((∃ z : Int32, fld F1 x1 16 = .int z ∧ 0 ≤ z.toInt ∧ z.toInt ≤ 5)))) := by
  refine t_bodyv (y := yX3_checkLine) (cd := cX3_checkLine) (mL := 2) (rm := { frames := 1, cells := 0, slots := 0, locals := 22 }) (av := [.ref p0, .int p1]) (by decide) (Nat.le_of_ble_eq_true rfl) ho ?_
  intro p e s m args below meth c ls A Q hQ X hT hl
  have hx := X.1.1
  have hb := X.1.2.1
  have hl : lv_has ls 2 [(0, .ref p0), (1, .int p1)] := hl
  obtain ⟨F, hFo⟩ : ∃ F : Nat → va_E, F = Fo := ⟨_, rfl⟩
  rw [← hFo] at hT pf0 pf1 pf2 pf3 pf4 pf5
  have hfr : (∀ b j : Nat, (tag b ≠ 25 ∨ j ≠ 3) → (tag b ≠ 25 ∨ j ≠ 4) → fld F b j = fld Fo b j) ∧ EF tag F Fo := by
    rw [hFo]
    exact ⟨by intros; rfl, fun _ _ _ => rfl⟩
  refine lv_aload_n hx hb dX3_checkLine_0 rfl (lv_at hl 0 rfl) ?_
  refine lv_iload_n hx hb dX3_checkLine_1 rfl (lv_at hl 1 rfl) ?_
  refine t_cVi (n := 1) (C := RX3) (T := TX3) (N := 13) (As := [.int p1]) (rest := []) X hT (kt430_X3_isLineAgain l G tag L F hT.2.2.2 p0 p1 m0 g0) m0 g0 rfl rfl qw_295 qw_296 qw_297 qw_28 qw_298 ⟨rfl, by decide +kernel, by decide +kernel, by decide +kernel⟩ ⟨Nat.le_of_ble_eq_true rfl, Nat.le_of_ble_eq_true rfl⟩ hl rfl rfl (Nat.le_of_ble_eq_true rfl) dX3_checkLine_2 ⟨Nat.le_of_ble_eq_true rfl, Nat.le_of_ble_eq_true rfl⟩ (fun z157041 F9 H locs hT hz157041 => ?_)
  obtain ⟨fz157041, hz157041⟩ := hz157041
  rw [fz157041] at hT
  refine lv_if_eq (tgt := 23) hx hb dX3_checkLine_5 (by decide) (fun c157042 => ?_) (fun c157042 => ?_)
  · have w157043 := cv_eq (rfl : z157041.toInt = z157041.toInt) (by decide : (0 : Int32).toInt = 0) c157042
    refine lv_aload_n hx hb dX3_checkLine_23 rfl (lv_at hl 0 rfl) ?_
    refine lv_iload_n hx hb dX3_checkLine_24 rfl (lv_at hl 1 rfl) ?_
    refine t_cVi (n := 1) (C := RX3) (T := TX3) (N := 13) (As := [.int p1]) (rest := []) X hT (kt461_X3_isLineTooMany l G tag L F hT.2.2.2 p0 p1 x0 x1 x2 x3 x4 x5 m0 g0 (by omega) mx0 gx0 pf0 mx1 gx1 pf1 mx2 gx2 pf2 mx3 gx3 pf3 mx4 gx4 pf4 mx5 gx5 pf5) m0 g0 rfl rfl qw_299 qw_300 qw_301 qw_28 qw_302 ⟨rfl, by decide +kernel, by decide +kernel, by decide +kernel⟩ ⟨Nat.le_of_ble_eq_true rfl, Nat.le_of_ble_eq_true rfl⟩ hl rfl rfl (Nat.le_of_ble_eq_true rfl) dX3_checkLine_25 ⟨Nat.le_of_ble_eq_true rfl, Nat.le_of_ble_eq_true rfl⟩ (fun z157044 F9 H locs hT hz157044 => ?_)
    obtain ⟨fz157044, hz157044, xz157044_0⟩ := hz157044
    rw [fz157044] at hT xz157044_0
    rcases xz157044_0 with xz157044_0 | xz157044_0
    · refine lv_if_eq (tgt := 46) hx hb dX3_checkLine_28 (by decide) (fun c157045 => ?_) (fun c157045 => ?_)
      · have w157046 := cv_eq (rfl : z157044.toInt = z157044.toInt) (by decide : (0 : Int32).toInt = 0) c157045
        exfalso
        omega
      · have w157047 := cv_ne (rfl : z157044.toInt = z157044.toInt) (by decide : (0 : Int32).toInt = 0) c157045
        refine lv_aload_n hx hb dX3_checkLine_31 rfl (lv_at hl 0 rfl) ?_
        refine lv_iconst (v := 5) hx hb dX3_checkLine_32 (by decide) ?_
        refine lv_aload_n hx hb dX3_checkLine_33 rfl (lv_at hl 0 rfl) ?_
        refine t_get (C := RX3) (T := TX3) (N := 13) X hT m0 g0 rfl rfl 0 (by decide) qw_73 inlX3 rfl dX3_checkLine_34 (fun v157048 hv157048 ov157048 => ?_)
        obtain rfl : v157048 = .ref x0 := hv157048.symm.trans pf0
        refine t_get (C := RX8) (T := TX8) (N := 8) X hT mx0 gx0 rfl rfl 4 (by decide) qw_227 inlX8 rfl dX3_checkLine_37 (fun v157049 hv157049 ov157049 => ?_)
        obtain ⟨z157050, rfl, rz157050⟩ := okV_i ov157049
        refine t_cVv (n := 2) (C := RX3) (T := TX3) (N := 13) (As := [.int 5, .int z157050]) (rest := []) X hT (kt432_X3_fail l G tag L F hT.2.2.2 p0 5 z157050 m0 g0 (by decide)) m0 g0 rfl rfl qw_287 qw_288 qw_289 qw_28 qw_290 ⟨rfl, by decide +kernel, by decide +kernel, by decide +kernel⟩ ⟨Nat.le_of_ble_eq_true rfl, Nat.le_of_ble_eq_true rfl⟩ hl rfl rfl (Nat.le_of_ble_eq_true rfl) dX3_checkLine_40 ⟨Nat.le_of_ble_eq_true rfl, Nat.le_of_ble_eq_true rfl⟩ (fun F H locs hT hz157051 => ?_)
        obtain ⟨yz157051, xz157051_0⟩ := hz157051
        have pf0 := (yz157051.1 _ 0 (Or.inr (by decide)) (Or.inr (by decide))).trans pf0
        have pf1 := (yz157051.1 _ 1 (Or.inr (by decide)) (Or.inr (by decide))).trans pf1
        have pf2 := (yz157051.1 _ 2 (Or.inr (by decide)) (Or.inr (by decide))).trans pf2
        have pf3 := (yz157051.1 _ 0 (Or.inr (by decide)) (Or.inr (by decide))).trans pf3
        have pf4 := (yz157051.1 _ 10 (Or.inr (by decide)) (Or.inr (by decide))).trans pf4
        have pf5 := (yz157051.1 _ 11 (Or.inr (by decide)) (Or.inr (by decide))).trans pf5
        have hv157049 := (yz157051.1 _ 4 (Or.inr (by decide)) (Or.inl (by rw [gx0]; decide))).trans hv157049
        have hfr : (∀ b j : Nat, (tag b ≠ 25 ∨ j ≠ 3) → (tag b ≠ 25 ∨ j ≠ 4) → fld F b j = fld Fo b j) ∧ EF tag F Fo := ⟨fun b j n25_3 n25_4 => (yz157051.1 b j n25_3 n25_4).trans (hfr.1 b j n25_3 n25_4), fun b j hb => (yz157051.2 b j hb).trans (hfr.2 b j hb)⟩
        obtain ⟨z157052, qz157052, rz157052⟩ := xz157051_0
        refine lv_goto (tgt := 85) hx hb dX3_checkLine_43 (by decide) ?_
        exact t_vret hQ X hT ⟨hfr, (Or.inl (⟨_, qz157052, (by omega), (by omega)⟩))⟩ (Nat.le_of_ble_eq_true rfl) (Nat.le_of_ble_eq_true rfl) dX3_checkLine_85
    · obtain ⟨z157053, qz157053, rz157053⟩ := xz157044_0
      refine lv_if_eq (tgt := 46) hx hb dX3_checkLine_28 (by decide) (fun c157054 => ?_) (fun c157054 => ?_)
      · have w157055 := cv_eq (rfl : z157044.toInt = z157044.toInt) (by decide : (0 : Int32).toInt = 0) c157054
        refine lv_iload_n hx hb dX3_checkLine_46 rfl (lv_at hl 1 rfl) ?_
        refine lv_if_eq (tgt := 57) hx hb dX3_checkLine_47 (by decide) (fun c157056 => ?_) (fun c157056 => ?_)
        · have w157057 := cv_eq (rfl : p1.toInt = p1.toInt) (by decide : (0 : Int32).toInt = 0) c157056
          exfalso
          omega
        · have w157058 := cv_ne (rfl : p1.toInt = p1.toInt) (by decide : (0 : Int32).toInt = 0) c157056
          refine lv_aload_n hx hb dX3_checkLine_50 rfl (lv_at hl 0 rfl) ?_
          refine t_get (C := RX3) (T := TX3) (N := 13) X hT m0 g0 rfl rfl 5 (by decide) qw_165 inlX3 rfl dX3_checkLine_51 (fun v157059 hv157059 ov157059 => ?_)
          obtain ⟨z157060, rfl, rz157060⟩ := okV_i ov157059
          refine lv_if_eq (tgt := 72) hx hb dX3_checkLine_54 (by decide) (fun c157061 => ?_) (fun c157061 => ?_)
          · have w157062 := cv_eq (rfl : z157060.toInt = z157060.toInt) (by decide : (0 : Int32).toInt = 0) c157061
            refine lv_aload_n hx hb dX3_checkLine_72 rfl (lv_at hl 0 rfl) ?_
            refine lv_bipush (v := 6) hx hb dX3_checkLine_73 (by decide) ?_
            refine lv_aload_n hx hb dX3_checkLine_75 rfl (lv_at hl 0 rfl) ?_
            refine t_get (C := RX3) (T := TX3) (N := 13) X hT m0 g0 rfl rfl 0 (by decide) qw_73 inlX3 rfl dX3_checkLine_76 (fun v157063 hv157063 ov157063 => ?_)
            obtain rfl : v157063 = .ref x0 := hv157063.symm.trans pf0
            refine t_get (C := RX8) (T := TX8) (N := 8) X hT mx0 gx0 rfl rfl 4 (by decide) qw_227 inlX8 rfl dX3_checkLine_79 (fun v157064 hv157064 ov157064 => ?_)
            obtain ⟨z157065, rfl, rz157065⟩ := okV_i ov157064
            refine t_cVv (n := 2) (C := RX3) (T := TX3) (N := 13) (As := [.int 6, .int z157065]) (rest := []) X hT (kt432_X3_fail l G tag L F hT.2.2.2 p0 6 z157065 m0 g0 (by decide)) m0 g0 rfl rfl qw_287 qw_288 qw_289 qw_28 qw_290 ⟨rfl, by decide +kernel, by decide +kernel, by decide +kernel⟩ ⟨Nat.le_of_ble_eq_true rfl, Nat.le_of_ble_eq_true rfl⟩ hl rfl rfl (Nat.le_of_ble_eq_true rfl) dX3_checkLine_82 ⟨Nat.le_of_ble_eq_true rfl, Nat.le_of_ble_eq_true rfl⟩ (fun F H locs hT hz157066 => ?_)
            obtain ⟨yz157066, xz157066_0⟩ := hz157066
            have pf0 := (yz157066.1 _ 0 (Or.inr (by decide)) (Or.inr (by decide))).trans pf0
            have pf1 := (yz157066.1 _ 1 (Or.inr (by decide)) (Or.inr (by decide))).trans pf1
            have pf2 := (yz157066.1 _ 2 (Or.inr (by decide)) (Or.inr (by decide))).trans pf2
            have pf3 := (yz157066.1 _ 0 (Or.inr (by decide)) (Or.inr (by decide))).trans pf3
            have pf4 := (yz157066.1 _ 10 (Or.inr (by decide)) (Or.inr (by decide))).trans pf4
            have pf5 := (yz157066.1 _ 11 (Or.inr (by decide)) (Or.inr (by decide))).trans pf5
            have qz157053 := (yz157066.1 _ 16 (Or.inr (by decide)) (Or.inr (by decide))).trans qz157053
            have hv157059 := (yz157066.1 _ 5 (Or.inr (by decide)) (Or.inr (by decide))).trans hv157059
            have hv157064 := (yz157066.1 _ 4 (Or.inr (by decide)) (Or.inl (by rw [gx0]; decide))).trans hv157064
            have hfr : (∀ b j : Nat, (tag b ≠ 25 ∨ j ≠ 3) → (tag b ≠ 25 ∨ j ≠ 4) → fld F b j = fld Fo b j) ∧ EF tag F Fo := ⟨fun b j n25_3 n25_4 => (yz157066.1 b j n25_3 n25_4).trans (hfr.1 b j n25_3 n25_4), fun b j hb => (yz157066.2 b j hb).trans (hfr.2 b j hb)⟩
            obtain ⟨z157067, qz157067, rz157067⟩ := xz157066_0
            exact t_vret hQ X hT ⟨hfr, (Or.inl (⟨_, qz157067, (by omega), (by omega)⟩))⟩ (Nat.le_of_ble_eq_true rfl) (Nat.le_of_ble_eq_true rfl) dX3_checkLine_85
          · have w157068 := cv_ne (rfl : z157060.toInt = z157060.toInt) (by decide : (0 : Int32).toInt = 0) c157061
            refine lv_iload_n hx hb dX3_checkLine_57 rfl (lv_at hl 1 rfl) ?_
            refine lv_iconst (v := 2) hx hb dX3_checkLine_58 (by decide) ?_
            refine lv_icmp_ne (tgt := 85) hx hb dX3_checkLine_59 (by decide) (fun c157069 => ?_) (fun c157069 => ?_)
            · have w157070 := cv_ne (rfl : p1.toInt = p1.toInt) (by decide : (2 : Int32).toInt = 2) c157069
              exact t_vret hQ X hT ⟨hfr, (Or.inr (⟨_, qz157053, (by omega), (by omega)⟩))⟩ (Nat.le_of_ble_eq_true rfl) (Nat.le_of_ble_eq_true rfl) dX3_checkLine_85
            · have w157071 := cv_eq (rfl : p1.toInt = p1.toInt) (by decide : (2 : Int32).toInt = 2) c157069
              exfalso
              omega
      · have w157072 := cv_ne (rfl : z157044.toInt = z157044.toInt) (by decide : (0 : Int32).toInt = 0) c157054
        refine lv_aload_n hx hb dX3_checkLine_31 rfl (lv_at hl 0 rfl) ?_
        refine lv_iconst (v := 5) hx hb dX3_checkLine_32 (by decide) ?_
        refine lv_aload_n hx hb dX3_checkLine_33 rfl (lv_at hl 0 rfl) ?_
        refine t_get (C := RX3) (T := TX3) (N := 13) X hT m0 g0 rfl rfl 0 (by decide) qw_73 inlX3 rfl dX3_checkLine_34 (fun v157073 hv157073 ov157073 => ?_)
        obtain rfl : v157073 = .ref x0 := hv157073.symm.trans pf0
        refine t_get (C := RX8) (T := TX8) (N := 8) X hT mx0 gx0 rfl rfl 4 (by decide) qw_227 inlX8 rfl dX3_checkLine_37 (fun v157074 hv157074 ov157074 => ?_)
        obtain ⟨z157075, rfl, rz157075⟩ := okV_i ov157074
        refine t_cVv (n := 2) (C := RX3) (T := TX3) (N := 13) (As := [.int 5, .int z157075]) (rest := []) X hT (kt432_X3_fail l G tag L F hT.2.2.2 p0 5 z157075 m0 g0 (by decide)) m0 g0 rfl rfl qw_287 qw_288 qw_289 qw_28 qw_290 ⟨rfl, by decide +kernel, by decide +kernel, by decide +kernel⟩ ⟨Nat.le_of_ble_eq_true rfl, Nat.le_of_ble_eq_true rfl⟩ hl rfl rfl (Nat.le_of_ble_eq_true rfl) dX3_checkLine_40 ⟨Nat.le_of_ble_eq_true rfl, Nat.le_of_ble_eq_true rfl⟩ (fun F H locs hT hz157076 => ?_)
        obtain ⟨yz157076, xz157076_0⟩ := hz157076
        have pf0 := (yz157076.1 _ 0 (Or.inr (by decide)) (Or.inr (by decide))).trans pf0
        have pf1 := (yz157076.1 _ 1 (Or.inr (by decide)) (Or.inr (by decide))).trans pf1
        have pf2 := (yz157076.1 _ 2 (Or.inr (by decide)) (Or.inr (by decide))).trans pf2
        have pf3 := (yz157076.1 _ 0 (Or.inr (by decide)) (Or.inr (by decide))).trans pf3
        have pf4 := (yz157076.1 _ 10 (Or.inr (by decide)) (Or.inr (by decide))).trans pf4
        have pf5 := (yz157076.1 _ 11 (Or.inr (by decide)) (Or.inr (by decide))).trans pf5
        have qz157053 := (yz157076.1 _ 16 (Or.inr (by decide)) (Or.inr (by decide))).trans qz157053
        have hv157074 := (yz157076.1 _ 4 (Or.inr (by decide)) (Or.inl (by rw [gx0]; decide))).trans hv157074
        have hfr : (∀ b j : Nat, (tag b ≠ 25 ∨ j ≠ 3) → (tag b ≠ 25 ∨ j ≠ 4) → fld F b j = fld Fo b j) ∧ EF tag F Fo := ⟨fun b j n25_3 n25_4 => (yz157076.1 b j n25_3 n25_4).trans (hfr.1 b j n25_3 n25_4), fun b j hb => (yz157076.2 b j hb).trans (hfr.2 b j hb)⟩
        obtain ⟨z157077, qz157077, rz157077⟩ := xz157076_0
        refine lv_goto (tgt := 85) hx hb dX3_checkLine_43 (by decide) ?_
        exact t_vret hQ X hT ⟨hfr, (Or.inl (⟨_, qz157077, (by omega), (by omega)⟩))⟩ (Nat.le_of_ble_eq_true rfl) (Nat.le_of_ble_eq_true rfl) dX3_checkLine_85
  · have w157078 := cv_ne (rfl : z157041.toInt = z157041.toInt) (by decide : (0 : Int32).toInt = 0) c157042
    refine lv_aload_n hx hb dX3_checkLine_8 rfl (lv_at hl 0 rfl) ?_
    refine lv_iconst (v := 3) hx hb dX3_checkLine_9 (by decide) ?_
    refine lv_aload_n hx hb dX3_checkLine_10 rfl (lv_at hl 0 rfl) ?_
    refine t_get (C := RX3) (T := TX3) (N := 13) X hT m0 g0 rfl rfl 0 (by decide) qw_73 inlX3 rfl dX3_checkLine_11 (fun v157079 hv157079 ov157079 => ?_)
    obtain rfl : v157079 = .ref x0 := hv157079.symm.trans pf0
    refine t_get (C := RX8) (T := TX8) (N := 8) X hT mx0 gx0 rfl rfl 4 (by decide) qw_227 inlX8 rfl dX3_checkLine_14 (fun v157080 hv157080 ov157080 => ?_)
    obtain ⟨z157081, rfl, rz157081⟩ := okV_i ov157080
    refine t_cVv (n := 2) (C := RX3) (T := TX3) (N := 13) (As := [.int 3, .int z157081]) (rest := []) X hT (kt432_X3_fail l G tag L F hT.2.2.2 p0 3 z157081 m0 g0 (by decide)) m0 g0 rfl rfl qw_287 qw_288 qw_289 qw_28 qw_290 ⟨rfl, by decide +kernel, by decide +kernel, by decide +kernel⟩ ⟨Nat.le_of_ble_eq_true rfl, Nat.le_of_ble_eq_true rfl⟩ hl rfl rfl (Nat.le_of_ble_eq_true rfl) dX3_checkLine_17 ⟨Nat.le_of_ble_eq_true rfl, Nat.le_of_ble_eq_true rfl⟩ (fun F H locs hT hz157082 => ?_)
    obtain ⟨yz157082, xz157082_0⟩ := hz157082
    have pf0 := (yz157082.1 _ 0 (Or.inr (by decide)) (Or.inr (by decide))).trans pf0
    have pf1 := (yz157082.1 _ 1 (Or.inr (by decide)) (Or.inr (by decide))).trans pf1
    have pf2 := (yz157082.1 _ 2 (Or.inr (by decide)) (Or.inr (by decide))).trans pf2
    have pf3 := (yz157082.1 _ 0 (Or.inr (by decide)) (Or.inr (by decide))).trans pf3
    have pf4 := (yz157082.1 _ 10 (Or.inr (by decide)) (Or.inr (by decide))).trans pf4
    have pf5 := (yz157082.1 _ 11 (Or.inr (by decide)) (Or.inr (by decide))).trans pf5
    have hv157080 := (yz157082.1 _ 4 (Or.inr (by decide)) (Or.inl (by rw [gx0]; decide))).trans hv157080
    have hfr : (∀ b j : Nat, (tag b ≠ 25 ∨ j ≠ 3) → (tag b ≠ 25 ∨ j ≠ 4) → fld F b j = fld Fo b j) ∧ EF tag F Fo := ⟨fun b j n25_3 n25_4 => (yz157082.1 b j n25_3 n25_4).trans (hfr.1 b j n25_3 n25_4), fun b j hb => (yz157082.2 b j hb).trans (hfr.2 b j hb)⟩
    obtain ⟨z157083, qz157083, rz157083⟩ := xz157082_0
    refine lv_goto (tgt := 85) hx hb dX3_checkLine_20 (by decide) ?_
    exact t_vret hQ X hT ⟨hfr, (Or.inl (⟨_, qz157083, (by omega), (by omega)⟩))⟩ (Nat.le_of_ble_eq_true rfl) (Nat.le_of_ble_eq_true rfl) dX3_checkLine_85
set_option maxHeartbeats 4000000 in
set_option maxRecDepth 100000 in
theorem kt463_X3_newName (l : Launch) (G : KG) (tag : Nat → Nat) (L : List Nat) (Fo : Nat → va_E) (ho : okT G ttC tag L Fo) (p0 : Nat) (p1 : Int32) (p2 : Int32) (x0 : Nat) (x1 : Nat) (x2 : Nat) (x3 : Nat) (x4 : Nat) (x5 : Nat) (m0 : p0 ∈ L) (g0 : tag p0 = 25) (h1 : 7 ≤ p1.toInt ∧ p1.toInt ≤ 7) (h2 : 0 ≤ p2.toInt ∧ p2.toInt ≤ 5) (mx0 : x0 ∈ L) (gx0 : tag x0 = 24) (pf0 : fld Fo p0 0 = .ref x0) (mx1 : x1 ∈ L) (gx1 : tag x1 = 18) (pf1 : fld Fo p0 1 = .ref x1) (mx2 : x2 ∈ L) (gx2 : tag x2 = 19) (pf2 : fld Fo p0 2 = .ref x2) (mx3 : x3 ∈ L) (gx3 : tag x3 = 1) (pf3 : fld Fo x0 0 = .ref x3) (mx4 : x4 ∈ L) (gx4 : tag x4 = 14) (pf4 : fld Fo p0 10 = .ref x4) (mx5 : x5 ∈ L) (gx5 : tag x5 = 15) (pf5 : fld Fo p0 11 = .ref x5) (hrel : NSR Fo x4 x5) : TMv l yX3_newName cX3_newName 3 { frames := 6, cells := 0, slots := 0, locals := 128 } G ttC tag L Fo [.ref p0, .int p1, .int p2] (fun F1 => (∀ b j : Nat, (tag b ≠ 24 ∨ j ≠ 2) → (tag b ≠ 24 ∨ j ≠ 3) → (tag b ≠ 24 ∨ j ≠ 4) → (tag b ≠ 24 ∨ j ≠ 5) → (tag b ≠ 24 ∨ j ≠ 6) → (tag b ≠ 24 ∨ j ≠ 7) → (tag b ≠ 25 ∨ j ≠ 3) → (tag b ≠ 25 ∨ j ≠ 4) → (tag b ≠ 25 ∨ j ≠ 12) → fld F1 b j = fld Fo b j) ∧ (NSR F1 x4 x5)) := by
  refine t_bodyv (y := yX3_newName) (cd := cX3_newName) (mL := 3) (rm := { frames := 6, cells := 0, slots := 0, locals := 128 }) (av := [.ref p0, .int p1, .int p2]) (by decide) (Nat.le_of_ble_eq_true rfl) ho ?_
  intro p e s m args below meth c ls A Q hQ X hT hl
  have hx := X.1.1
  have hb := X.1.2.1
  have hl : lv_has ls 3 [(0, .ref p0), (1, .int p1), (2, .int p2)] := hl
  obtain ⟨F, hFo⟩ : ∃ F : Nat → va_E, F = Fo := ⟨_, rfl⟩
  rw [← hFo] at hT pf0 pf1 pf2 pf3 pf4 pf5 hrel
  have hfr : ∀ b j : Nat, (tag b ≠ 24 ∨ j ≠ 2) → (tag b ≠ 24 ∨ j ≠ 3) → (tag b ≠ 24 ∨ j ≠ 4) → (tag b ≠ 24 ∨ j ≠ 5) → (tag b ≠ 24 ∨ j ≠ 6) → (tag b ≠ 24 ∨ j ≠ 7) → (tag b ≠ 25 ∨ j ≠ 3) → (tag b ≠ 25 ∨ j ≠ 4) → (tag b ≠ 25 ∨ j ≠ 12) → fld F b j = fld Fo b j := by
    rw [hFo]
    intros
    rfl
  have K51 : ∀  (F : Nat → va_E) (H : Heap) (locs : List Loc) (ls : Array Slot), TH G ttC A s tag L F H locs → (∀ b j : Nat, (tag b ≠ 24 ∨ j ≠ 2) → (tag b ≠ 24 ∨ j ≠ 3) → (tag b ≠ 24 ∨ j ≠ 4) → (tag b ≠ 24 ∨ j ≠ 5) → (tag b ≠ 24 ∨ j ≠ 6) → (tag b ≠ 24 ∨ j ≠ 7) → (tag b ≠ 25 ∨ j ≠ 3) → (tag b ≠ 25 ∨ j ≠ 4) → (tag b ≠ 25 ∨ j ≠ 12) → fld F b j = fld Fo b j) → NSR F x4 x5 → fld F p0 0 = .ref x0 → fld F p0 1 = .ref x1 → fld F p0 2 = .ref x2 → fld F x0 0 = .ref x3 → fld F p0 10 = .ref x4 → fld F p0 11 = .ref x5 → lv_has ls 3 [(0, .ref p0), (1, .int p1), (2, .int p2)] → W p l e { frames := 6, cells := 0, slots := 0, locals := 128 } s m args below meth c H locs 0 0 Q (F0 m 51 ls []) := by
    intro F H locs ls hT hfr hrel pf0 pf1 pf2 pf3 pf4 pf5 hl
    refine lv_aload_n hx hb dX3_newName_51 rfl (lv_at hl 0 rfl) ?_
    refine t_get (C := RX3) (T := TX3) (N := 13) X hT m0 g0 rfl rfl 3 (by decide) qw_163 inlX3 rfl dX3_newName_52 (fun v157930 hv157930 ov157930 => ?_)
    obtain ⟨z157931, rfl, rz157931⟩ := okV_i ov157930
    refine lv_if_ne (tgt := 67) hx hb dX3_newName_55 (by decide) (fun c157932 => ?_) (fun c157932 => ?_)
    · have w157933 := cv_ne (rfl : z157931.toInt = z157931.toInt) (by decide : (0 : Int32).toInt = 0) c157932
      exact t_vret hQ X hT ⟨hfr, hrel⟩ (Nat.le_of_ble_eq_true rfl) (Nat.le_of_ble_eq_true rfl) dX3_newName_67
    · have w157934 := cv_eq (rfl : z157931.toInt = z157931.toInt) (by decide : (0 : Int32).toInt = 0) c157932
      refine lv_aload_n hx hb dX3_newName_58 rfl (lv_at hl 0 rfl) ?_
      refine t_get (C := RX3) (T := TX3) (N := 13) X hT m0 g0 rfl rfl 12 (by decide) qw_169 inlX3 rfl dX3_newName_59 (fun v157935 hv157935 ov157935 => ?_)
      obtain ⟨z157936, rfl, rz157936⟩ := okV_i ov157935
      refine lv_bipush (v := 20) hx hb dX3_newName_62 (by decide) ?_
      refine lv_icmp_lt (tgt := 68) hx hb dX3_newName_64 (by decide) (fun c157937 => ?_) (fun c157937 => ?_)
      · have w157938 := cv_lt (rfl : z157936.toInt = z157936.toInt) (by decide : (20 : Int32).toInt = 20) c157937
        refine lv_aload_n hx hb dX3_newName_68 rfl (lv_at hl 0 rfl) ?_
        refine t_get (C := RX3) (T := TX3) (N := 13) X hT m0 g0 rfl rfl 9 (by decide) qw_74 inlX3 rfl dX3_newName_69 (fun v157939 hv157939 ov157939 => ?_)
        obtain ⟨b157940, rfl, mb157940, gb157940⟩ := okV_r ov157939
        have gb157940 : tag b157940 = 13 := tg_of gb157940
        refine lv_aload_n hx hb dX3_newName_72 rfl (lv_at hl 0 rfl) ?_
        refine t_get (C := RX3) (T := TX3) (N := 13) X hT m0 g0 rfl rfl 12 (by decide) qw_169 inlX3 rfl dX3_newName_73 (fun v157941 hv157941 ov157941 => ?_)
        obtain rfl : v157941 = .int z157936 := hv157941.symm.trans hv157935
        refine lv_aload_n hx hb dX3_newName_76 rfl (lv_at hl 0 rfl) ?_
        refine t_get (C := RX3) (T := TX3) (N := 13) X hT m0 g0 rfl rfl 0 (by decide) qw_73 inlX3 rfl dX3_newName_77 (fun v157942 hv157942 ov157942 => ?_)
        obtain rfl : v157942 = .ref x0 := hv157942.symm.trans pf0
        refine t_get (C := RX8) (T := TX8) (N := 8) X hT mx0 gx0 rfl rfl 7 (by decide) qw_360 inlX8 rfl dX3_newName_80 (fun v157943 hv157943 ov157943 => ?_)
        obtain ⟨z157944, rfl⟩ := ov157943
        refine t_lst X hT mb157940 gb157940 rfl (by omega) dX3_newName_83 (fun F H locs hT h1v157945 h2v157945 => ?_)
        have pf0 := (h2v157945 _ _).trans pf0
        have pf1 := (h2v157945 _ _).trans pf1
        have pf2 := (h2v157945 _ _).trans pf2
        have pf3 := (h2v157945 _ _).trans pf3
        have pf4 := (h2v157945 _ _).trans pf4
        have pf5 := (h2v157945 _ _).trans pf5
        have hv157930 := (h2v157945 _ _).trans hv157930
        have hv157935 := (h2v157945 _ _).trans hv157935
        have hv157939 := (h2v157945 _ _).trans hv157939
        have hfr : ∀ b j : Nat, (tag b ≠ 24 ∨ j ≠ 2) → (tag b ≠ 24 ∨ j ≠ 3) → (tag b ≠ 24 ∨ j ≠ 4) → (tag b ≠ 24 ∨ j ≠ 5) → (tag b ≠ 24 ∨ j ≠ 6) → (tag b ≠ 24 ∨ j ≠ 7) → (tag b ≠ 25 ∨ j ≠ 3) → (tag b ≠ 25 ∨ j ≠ 4) → (tag b ≠ 25 ∨ j ≠ 12) → fld F b j = fld Fo b j := fun b j n24_2 n24_3 n24_4 n24_5 n24_6 n24_7 n25_3 n25_4 n25_12 => (h2v157945 b j).trans (hfr b j n24_2 n24_3 n24_4 n24_5 n24_6 n24_7 n25_3 n25_4 n25_12)
        have hrel := nsr_of (fun j => h1v157945 _ j) (fun j => h1v157945 _ j) hrel
        refine lv_aload_n hx hb dX3_newName_84 rfl (lv_at hl 0 rfl) ?_
        refine t_get (C := RX3) (T := TX3) (N := 13) X hT m0 g0 rfl rfl 10 (by decide) qw_75 inlX3 rfl dX3_newName_85 (fun v157946 hv157946 ov157946 => ?_)
        obtain rfl : v157946 = .ref x4 := hv157946.symm.trans pf4
        refine lv_aload_n hx hb dX3_newName_88 rfl (lv_at hl 0 rfl) ?_
        refine t_get (C := RX3) (T := TX3) (N := 13) X hT m0 g0 rfl rfl 12 (by decide) qw_169 inlX3 rfl dX3_newName_89 (fun v157947 hv157947 ov157947 => ?_)
        obtain rfl : v157947 = .int z157936 := hv157947.symm.trans hv157935
        refine lv_iload_n hx hb dX3_newName_92 rfl (lv_at hl 1 rfl) ?_
        refine t_ist X hT mx4 gx4 rfl (by omega) (show (-2147483648) ≤ (p1 : Int32).toInt ∧ (p1 : Int32).toInt ≤ 2147483647 from (by omega)) dX3_newName_93 (fun F H locs hT v157948 h1v157948 h2v157948 => ?_)
        have pf0 := (h2v157948 _ _).trans pf0
        have pf1 := (h2v157948 _ _).trans pf1
        have pf2 := (h2v157948 _ _).trans pf2
        have pf3 := (h2v157948 _ _).trans pf3
        have pf4 := (h2v157948 _ _).trans pf4
        have pf5 := (h2v157948 _ _).trans pf5
        have hv157930 := (h2v157948 _ _).trans hv157930
        have hv157935 := (h2v157948 _ _).trans hv157935
        have hv157939 := (h2v157948 _ _).trans hv157939
        have hfr : ∀ b j : Nat, (tag b ≠ 24 ∨ j ≠ 2) → (tag b ≠ 24 ∨ j ≠ 3) → (tag b ≠ 24 ∨ j ≠ 4) → (tag b ≠ 24 ∨ j ≠ 5) → (tag b ≠ 24 ∨ j ≠ 6) → (tag b ≠ 24 ∨ j ≠ 7) → (tag b ≠ 25 ∨ j ≠ 3) → (tag b ≠ 25 ∨ j ≠ 4) → (tag b ≠ 25 ∨ j ≠ 12) → fld F b j = fld Fo b j := fun b j n24_2 n24_3 n24_4 n24_5 n24_6 n24_7 n25_3 n25_4 n25_12 => (h2v157948 b j).trans (hfr b j n24_2 n24_3 n24_4 n24_5 n24_6 n24_7 n25_3 n25_4 n25_12)
        have hrel := nsr_s hrel h1v157948 (tne gx5 gx4 (by decide))
        refine lv_aload_n hx hb dX3_newName_94 rfl (lv_at hl 0 rfl) ?_
        refine t_get (C := RX3) (T := TX3) (N := 13) X hT m0 g0 rfl rfl 11 (by decide) qw_76 inlX3 rfl dX3_newName_95 (fun v157949 hv157949 ov157949 => ?_)
        obtain rfl : v157949 = .ref x5 := hv157949.symm.trans pf5
        refine lv_aload_n hx hb dX3_newName_98 rfl (lv_at hl 0 rfl) ?_
        refine t_get (C := RX3) (T := TX3) (N := 13) X hT m0 g0 rfl rfl 12 (by decide) qw_169 inlX3 rfl dX3_newName_99 (fun v157950 hv157950 ov157950 => ?_)
        obtain rfl : v157950 = .int z157936 := hv157950.symm.trans hv157935
        refine lv_iload_n hx hb dX3_newName_102 rfl (lv_at hl 2 rfl) ?_
        refine t_ist X hT mx5 gx5 rfl (by omega) (show (-2147483648) ≤ (p2 : Int32).toInt ∧ (p2 : Int32).toInt ≤ 2147483647 from (by omega)) dX3_newName_103 (fun F H locs hT v157951 h1v157951 h2v157951 => ?_)
        have pf0 := (h2v157951 _ _).trans pf0
        have pf1 := (h2v157951 _ _).trans pf1
        have pf2 := (h2v157951 _ _).trans pf2
        have pf3 := (h2v157951 _ _).trans pf3
        have pf4 := (h2v157951 _ _).trans pf4
        have pf5 := (h2v157951 _ _).trans pf5
        have hv157930 := (h2v157951 _ _).trans hv157930
        have hv157935 := (h2v157951 _ _).trans hv157935
        have hv157939 := (h2v157951 _ _).trans hv157939
        have hfr : ∀ b j : Nat, (tag b ≠ 24 ∨ j ≠ 2) → (tag b ≠ 24 ∨ j ≠ 3) → (tag b ≠ 24 ∨ j ≠ 4) → (tag b ≠ 24 ∨ j ≠ 5) → (tag b ≠ 24 ∨ j ≠ 6) → (tag b ≠ 24 ∨ j ≠ 7) → (tag b ≠ 25 ∨ j ≠ 3) → (tag b ≠ 25 ∨ j ≠ 4) → (tag b ≠ 25 ∨ j ≠ 12) → fld F b j = fld Fo b j := fun b j n24_2 n24_3 n24_4 n24_5 n24_6 n24_7 n25_3 n25_4 n25_12 => (h2v157951 b j).trans (hfr b j n24_2 n24_3 n24_4 n24_5 n24_6 n24_7 n25_3 n25_4 n25_12)
        have hrel := nsr_n hrel v157948 h1v157951 v157951 (tne gx4 gx5 (by decide)) ⟨fun h9 => (by have h8 := congrArg Int32.toInt h9; rw [show ((4 : Int32).toInt = 4) from by decide] at h8; omega), fun h9 => ⟨(by omega), (by omega)⟩⟩
        refine lv_aload_n hx hb dX3_newName_104 rfl (lv_at hl 0 rfl) ?_
        refine lv_dup hx hb dX3_newName_105 rfl ?_
        refine t_get (C := RX3) (T := TX3) (N := 13) X hT m0 g0 rfl rfl 12 (by decide) qw_169 inlX3 rfl dX3_newName_106 (fun v157952 hv157952 ov157952 => ?_)
        obtain rfl : v157952 = .int z157936 := hv157952.symm.trans hv157935
        refine lv_iconst (v := 1) hx hb dX3_newName_109 (by decide) ?_
        refine lv_iadd hx hb dX3_newName_110 ?_
        refine lv_topi (fun z157953 ez157953 => ?_)
        have hz157953 : z157953.toInt = z157936.toInt + 1 := ar_add ez157953 (rfl : z157936.toInt = z157936.toInt) (by decide : (1 : Int32).toInt = 1) (by omega) (by omega)
        have rz157953 : 1 ≤ z157953.toInt ∧ z157953.toInt ≤ 20 := by omega
        refine t_put (C := RX3) (T := TX3) (N := 13) (v := .int z157953) X hT m0 g0 rfl tyX3 tyX3_ok nmX3 rfl 12 (by decide) qw_169 inlX3 rfl (by first | rfl | decide) (by first | rfl | decide) rfl (⟨_, rfl, (show 0 ≤ (z157953 : Int32).toInt from (by omega)), (show (z157953 : Int32).toInt ≤ 20 from (by omega))⟩) dX3_newName_111 (fun F H locs hT v157954 h1v157954 h2v157954 => ?_)
        have pf0 := (h1v157954 _ _ (Or.inr (by decide))).trans pf0
        have pf1 := (h1v157954 _ _ (Or.inr (by decide))).trans pf1
        have pf2 := (h1v157954 _ _ (Or.inr (by decide))).trans pf2
        have pf3 := (h1v157954 _ _ (Or.inr (by decide))).trans pf3
        have pf4 := (h1v157954 _ _ (Or.inr (by decide))).trans pf4
        have pf5 := (h1v157954 _ _ (Or.inr (by decide))).trans pf5
        have hv157930 := (h1v157954 _ _ (Or.inr (by decide))).trans hv157930
        have hv157939 := (h1v157954 _ _ (Or.inr (by decide))).trans hv157939
        have v157951 := (h2v157954 _ _).trans v157951
        have hfr : ∀ b j : Nat, (tag b ≠ 24 ∨ j ≠ 2) → (tag b ≠ 24 ∨ j ≠ 3) → (tag b ≠ 24 ∨ j ≠ 4) → (tag b ≠ 24 ∨ j ≠ 5) → (tag b ≠ 24 ∨ j ≠ 6) → (tag b ≠ 24 ∨ j ≠ 7) → (tag b ≠ 25 ∨ j ≠ 3) → (tag b ≠ 25 ∨ j ≠ 4) → (tag b ≠ 25 ∨ j ≠ 12) → fld F b j = fld Fo b j := fun b j n24_2 n24_3 n24_4 n24_5 n24_6 n24_7 n25_3 n25_4 n25_12 => (h1v157954 b j (fr_ne g0 n25_12)).trans (hfr b j n24_2 n24_3 n24_4 n24_5 n24_6 n24_7 n25_3 n25_4 n25_12)
        have hrel := nsr_of (fun j => h2v157954 _ j) (fun j => h2v157954 _ j) hrel
        refine lv_aload_n hx hb dX3_newName_114 rfl (lv_at hl 0 rfl) ?_
        refine t_get (C := RX3) (T := TX3) (N := 13) X hT m0 g0 rfl rfl 0 (by decide) qw_73 inlX3 rfl dX3_newName_115 (fun v157955 hv157955 ov157955 => ?_)
        obtain rfl : v157955 = .ref x0 := hv157955.symm.trans pf0
        refine t_cVv (n := 0) (C := RX8) (T := TX8) (N := 8) (As := []) (rest := []) X hT (kt440_X8_advance l G tag L F hT.2.2.2 x0 x3 mx0 gx0 mx3 gx3 pf3) mx0 gx0 rfl rfl qw_305 qw_197 qw_198 qw_72 qw_199 ⟨rfl, by decide +kernel, by decide +kernel, by decide +kernel⟩ ⟨Nat.le_of_ble_eq_true rfl, Nat.le_of_ble_eq_true rfl⟩ hl rfl rfl (Nat.le_of_ble_eq_true rfl) dX3_newName_118 ⟨Nat.le_of_ble_eq_true rfl, Nat.le_of_ble_eq_true rfl⟩ (fun F H locs hT hz157956 => ?_)
        have yz157956 := hz157956
        have pf0 := (yz157956.1 _ 0 (Or.inr (by decide)) (Or.inr (by decide)) (Or.inr (by decide)) (Or.inr (by decide)) (Or.inr (by decide)) (Or.inr (by decide))).trans pf0
        have pf1 := (yz157956.1 _ 1 (Or.inr (by decide)) (Or.inr (by decide)) (Or.inr (by decide)) (Or.inr (by decide)) (Or.inr (by decide)) (Or.inr (by decide))).trans pf1
        have pf2 := (yz157956.1 _ 2 (Or.inl (by rw [g0]; decide)) (Or.inr (by decide)) (Or.inr (by decide)) (Or.inr (by decide)) (Or.inr (by decide)) (Or.inr (by decide))).trans pf2
        have pf3 := (yz157956.1 _ 0 (Or.inr (by decide)) (Or.inr (by decide)) (Or.inr (by decide)) (Or.inr (by decide)) (Or.inr (by decide)) (Or.inr (by decide))).trans pf3
        have pf4 := (yz157956.1 _ 10 (Or.inr (by decide)) (Or.inr (by decide)) (Or.inr (by decide)) (Or.inr (by decide)) (Or.inr (by decide)) (Or.inr (by decide))).trans pf4
        have pf5 := (yz157956.1 _ 11 (Or.inr (by decide)) (Or.inr (by decide)) (Or.inr (by decide)) (Or.inr (by decide)) (Or.inr (by decide)) (Or.inr (by decide))).trans pf5
        have hv157930 := (yz157956.1 _ 3 (Or.inr (by decide)) (Or.inl (by rw [g0]; decide)) (Or.inr (by decide)) (Or.inr (by decide)) (Or.inr (by decide)) (Or.inr (by decide))).trans hv157930
        have hv157939 := (yz157956.1 _ 9 (Or.inr (by decide)) (Or.inr (by decide)) (Or.inr (by decide)) (Or.inr (by decide)) (Or.inr (by decide)) (Or.inr (by decide))).trans hv157939
        have v157951 := (yz157956.2 _ _ (Or.inr gx5)).trans v157951
        have v157954 := (yz157956.1 _ 12 (Or.inr (by decide)) (Or.inr (by decide)) (Or.inr (by decide)) (Or.inr (by decide)) (Or.inr (by decide)) (Or.inr (by decide))).trans v157954
        have hfr : ∀ b j : Nat, (tag b ≠ 24 ∨ j ≠ 2) → (tag b ≠ 24 ∨ j ≠ 3) → (tag b ≠ 24 ∨ j ≠ 4) → (tag b ≠ 24 ∨ j ≠ 5) → (tag b ≠ 24 ∨ j ≠ 6) → (tag b ≠ 24 ∨ j ≠ 7) → (tag b ≠ 25 ∨ j ≠ 3) → (tag b ≠ 25 ∨ j ≠ 4) → (tag b ≠ 25 ∨ j ≠ 12) → fld F b j = fld Fo b j := fun b j n24_2 n24_3 n24_4 n24_5 n24_6 n24_7 n25_3 n25_4 n25_12 => (yz157956.1 b j n24_2 n24_3 n24_4 n24_5 n24_6 n24_7).trans (hfr b j n24_2 n24_3 n24_4 n24_5 n24_6 n24_7 n25_3 n25_4 n25_12)
        have hrel := nsr_of (fun j => yz157956.2 _ j (Or.inl gx4)) (fun j => yz157956.2 _ j (Or.inr gx5)) hrel
        exact t_vret hQ X hT ⟨hfr, hrel⟩ (Nat.le_of_ble_eq_true rfl) (Nat.le_of_ble_eq_true rfl) dX3_newName_121
      · have w157957 := cv_nlt (rfl : z157936.toInt = z157936.toInt) (by decide : (20 : Int32).toInt = 20) c157937
        exact t_vret hQ X hT ⟨hfr, hrel⟩ (Nat.le_of_ble_eq_true rfl) (Nat.le_of_ble_eq_true rfl) dX3_newName_67
  have K31 : ∀  (F : Nat → va_E) (H : Heap) (locs : List Loc) (ls : Array Slot), TH G ttC A s tag L F H locs → (∀ b j : Nat, (tag b ≠ 24 ∨ j ≠ 2) → (tag b ≠ 24 ∨ j ≠ 3) → (tag b ≠ 24 ∨ j ≠ 4) → (tag b ≠ 24 ∨ j ≠ 5) → (tag b ≠ 24 ∨ j ≠ 6) → (tag b ≠ 24 ∨ j ≠ 7) → (tag b ≠ 25 ∨ j ≠ 3) → (tag b ≠ 25 ∨ j ≠ 4) → (tag b ≠ 25 ∨ j ≠ 12) → fld F b j = fld Fo b j) → NSR F x4 x5 → fld F p0 0 = .ref x0 → fld F p0 1 = .ref x1 → fld F p0 2 = .ref x2 → fld F x0 0 = .ref x3 → fld F p0 10 = .ref x4 → fld F p0 11 = .ref x5 → lv_has ls 3 [(0, .ref p0), (1, .int p1), (2, .int p2)] → W p l e { frames := 6, cells := 0, slots := 0, locals := 128 } s m args below meth c H locs 0 0 Q (F0 m 31 ls []) := by
    intro F H locs ls hT hfr hrel pf0 pf1 pf2 pf3 pf4 pf5 hl
    refine lv_aload_n hx hb dX3_newName_31 rfl (lv_at hl 0 rfl) ?_
    refine t_cVi (n := 0) (C := RX3) (T := TX3) (N := 13) (As := []) (rest := []) X hT (kt442_X3_findName l G tag L F hT.2.2.2 p0 x0 x1 x2 x3 x4 x5 m0 g0 mx0 gx0 pf0 mx1 gx1 pf1 mx2 gx2 pf2 mx3 gx3 pf3 mx4 gx4 pf4 mx5 gx5 pf5) m0 g0 rfl rfl qw_361 qw_362 qw_363 qw_28 qw_364 ⟨rfl, by decide +kernel, by decide +kernel, by decide +kernel⟩ ⟨Nat.le_of_ble_eq_true rfl, Nat.le_of_ble_eq_true rfl⟩ hl rfl rfl (Nat.le_of_ble_eq_true rfl) dX3_newName_32 ⟨Nat.le_of_ble_eq_true rfl, Nat.le_of_ble_eq_true rfl⟩ (fun z157958 F9 H locs hT hz157958 => ?_)
    obtain ⟨fz157958, hz157958⟩ := hz157958
    rw [fz157958] at hT
    refine lv_iconst (v := (-1)) hx hb dX3_newName_35 (by decide) ?_
    refine lv_icmp_eq (tgt := 51) hx hb dX3_newName_36 (by decide) (fun c157959 => ?_) (fun c157959 => ?_)
    · have w157960 := cv_eq (rfl : z157958.toInt = z157958.toInt) (by decide : ((-1) : Int32).toInt = (-1)) c157959
      exact K51  _ _ _ _  hT hfr hrel pf0 pf1 pf2 pf3 pf4 pf5 (lv_sub hl [0, 1, 2] rfl)
    · have w157961 := cv_ne (rfl : z157958.toInt = z157958.toInt) (by decide : ((-1) : Int32).toInt = (-1)) c157959
      refine lv_aload_n hx hb dX3_newName_39 rfl (lv_at hl 0 rfl) ?_
      refine lv_iconst (v := 3) hx hb dX3_newName_40 (by decide) ?_
      refine lv_aload_n hx hb dX3_newName_41 rfl (lv_at hl 0 rfl) ?_
      refine t_get (C := RX3) (T := TX3) (N := 13) X hT m0 g0 rfl rfl 0 (by decide) qw_73 inlX3 rfl dX3_newName_42 (fun v157962 hv157962 ov157962 => ?_)
      obtain rfl : v157962 = .ref x0 := hv157962.symm.trans pf0
      refine t_get (C := RX8) (T := TX8) (N := 8) X hT mx0 gx0 rfl rfl 4 (by decide) qw_227 inlX8 rfl dX3_newName_45 (fun v157963 hv157963 ov157963 => ?_)
      obtain ⟨z157964, rfl, rz157964⟩ := okV_i ov157963
      refine t_cVv (n := 2) (C := RX3) (T := TX3) (N := 13) (As := [.int 3, .int z157964]) (rest := []) X hT (kt432_X3_fail l G tag L F hT.2.2.2 p0 3 z157964 m0 g0 (by decide)) m0 g0 rfl rfl qw_287 qw_288 qw_289 qw_28 qw_290 ⟨rfl, by decide +kernel, by decide +kernel, by decide +kernel⟩ ⟨Nat.le_of_ble_eq_true rfl, Nat.le_of_ble_eq_true rfl⟩ hl rfl rfl (Nat.le_of_ble_eq_true rfl) dX3_newName_48 ⟨Nat.le_of_ble_eq_true rfl, Nat.le_of_ble_eq_true rfl⟩ (fun F H locs hT hz157965 => ?_)
      obtain ⟨yz157965, xz157965_0⟩ := hz157965
      have pf0 := (yz157965.1 _ 0 (Or.inr (by decide)) (Or.inr (by decide))).trans pf0
      have pf1 := (yz157965.1 _ 1 (Or.inr (by decide)) (Or.inr (by decide))).trans pf1
      have pf2 := (yz157965.1 _ 2 (Or.inr (by decide)) (Or.inr (by decide))).trans pf2
      have pf3 := (yz157965.1 _ 0 (Or.inr (by decide)) (Or.inr (by decide))).trans pf3
      have pf4 := (yz157965.1 _ 10 (Or.inr (by decide)) (Or.inr (by decide))).trans pf4
      have pf5 := (yz157965.1 _ 11 (Or.inr (by decide)) (Or.inr (by decide))).trans pf5
      have hv157963 := (yz157965.1 _ 4 (Or.inr (by decide)) (Or.inl (by rw [gx0]; decide))).trans hv157963
      have hfr : ∀ b j : Nat, (tag b ≠ 24 ∨ j ≠ 2) → (tag b ≠ 24 ∨ j ≠ 3) → (tag b ≠ 24 ∨ j ≠ 4) → (tag b ≠ 24 ∨ j ≠ 5) → (tag b ≠ 24 ∨ j ≠ 6) → (tag b ≠ 24 ∨ j ≠ 7) → (tag b ≠ 25 ∨ j ≠ 3) → (tag b ≠ 25 ∨ j ≠ 4) → (tag b ≠ 25 ∨ j ≠ 12) → fld F b j = fld Fo b j := fun b j n24_2 n24_3 n24_4 n24_5 n24_6 n24_7 n25_3 n25_4 n25_12 => (yz157965.1 b j n25_3 n25_4).trans (hfr b j n24_2 n24_3 n24_4 n24_5 n24_6 n24_7 n25_3 n25_4 n25_12)
      have hrel := nsr_of (fun j => yz157965.2 _ j (Or.inl gx4)) (fun j => yz157965.2 _ j (Or.inr gx5)) hrel
      obtain ⟨z157966, qz157966, rz157966⟩ := xz157965_0
      exact K51  _ _ _ _  hT hfr hrel pf0 pf1 pf2 pf3 pf4 pf5 (lv_sub hl [0, 1, 2] rfl)
  have K19 : ∀  (F : Nat → va_E) (H : Heap) (locs : List Loc) (ls : Array Slot), TH G ttC A s tag L F H locs → (∀ b j : Nat, (tag b ≠ 24 ∨ j ≠ 2) → (tag b ≠ 24 ∨ j ≠ 3) → (tag b ≠ 24 ∨ j ≠ 4) → (tag b ≠ 24 ∨ j ≠ 5) → (tag b ≠ 24 ∨ j ≠ 6) → (tag b ≠ 24 ∨ j ≠ 7) → (tag b ≠ 25 ∨ j ≠ 3) → (tag b ≠ 25 ∨ j ≠ 4) → (tag b ≠ 25 ∨ j ≠ 12) → fld F b j = fld Fo b j) → NSR F x4 x5 → fld F p0 0 = .ref x0 → fld F p0 1 = .ref x1 → fld F p0 2 = .ref x2 → fld F x0 0 = .ref x3 → fld F p0 10 = .ref x4 → fld F p0 11 = .ref x5 → lv_has ls 3 [(0, .ref p0), (1, .int p1), (2, .int p2)] → W p l e { frames := 6, cells := 0, slots := 0, locals := 128 } s m args below meth c H locs 0 0 Q (F0 m 19 ls []) := by
    intro F H locs ls hT hfr hrel pf0 pf1 pf2 pf3 pf4 pf5 hl
    refine lv_aload_n hx hb dX3_newName_19 rfl (lv_at hl 0 rfl) ?_
    refine lv_iconst (v := 1) hx hb dX3_newName_20 (by decide) ?_
    refine lv_aload_n hx hb dX3_newName_21 rfl (lv_at hl 0 rfl) ?_
    refine t_get (C := RX3) (T := TX3) (N := 13) X hT m0 g0 rfl rfl 0 (by decide) qw_73 inlX3 rfl dX3_newName_22 (fun v157967 hv157967 ov157967 => ?_)
    obtain rfl : v157967 = .ref x0 := hv157967.symm.trans pf0
    refine t_get (C := RX8) (T := TX8) (N := 8) X hT mx0 gx0 rfl rfl 4 (by decide) qw_227 inlX8 rfl dX3_newName_25 (fun v157968 hv157968 ov157968 => ?_)
    obtain ⟨z157969, rfl, rz157969⟩ := okV_i ov157968
    refine t_cVv (n := 2) (C := RX3) (T := TX3) (N := 13) (As := [.int 1, .int z157969]) (rest := []) X hT (kt432_X3_fail l G tag L F hT.2.2.2 p0 1 z157969 m0 g0 (by decide)) m0 g0 rfl rfl qw_287 qw_288 qw_289 qw_28 qw_290 ⟨rfl, by decide +kernel, by decide +kernel, by decide +kernel⟩ ⟨Nat.le_of_ble_eq_true rfl, Nat.le_of_ble_eq_true rfl⟩ hl rfl rfl (Nat.le_of_ble_eq_true rfl) dX3_newName_28 ⟨Nat.le_of_ble_eq_true rfl, Nat.le_of_ble_eq_true rfl⟩ (fun F H locs hT hz157970 => ?_)
    obtain ⟨yz157970, xz157970_0⟩ := hz157970
    have pf0 := (yz157970.1 _ 0 (Or.inr (by decide)) (Or.inr (by decide))).trans pf0
    have pf1 := (yz157970.1 _ 1 (Or.inr (by decide)) (Or.inr (by decide))).trans pf1
    have pf2 := (yz157970.1 _ 2 (Or.inr (by decide)) (Or.inr (by decide))).trans pf2
    have pf3 := (yz157970.1 _ 0 (Or.inr (by decide)) (Or.inr (by decide))).trans pf3
    have pf4 := (yz157970.1 _ 10 (Or.inr (by decide)) (Or.inr (by decide))).trans pf4
    have pf5 := (yz157970.1 _ 11 (Or.inr (by decide)) (Or.inr (by decide))).trans pf5
    have hv157968 := (yz157970.1 _ 4 (Or.inr (by decide)) (Or.inl (by rw [gx0]; decide))).trans hv157968
    have hfr : ∀ b j : Nat, (tag b ≠ 24 ∨ j ≠ 2) → (tag b ≠ 24 ∨ j ≠ 3) → (tag b ≠ 24 ∨ j ≠ 4) → (tag b ≠ 24 ∨ j ≠ 5) → (tag b ≠ 24 ∨ j ≠ 6) → (tag b ≠ 24 ∨ j ≠ 7) → (tag b ≠ 25 ∨ j ≠ 3) → (tag b ≠ 25 ∨ j ≠ 4) → (tag b ≠ 25 ∨ j ≠ 12) → fld F b j = fld Fo b j := fun b j n24_2 n24_3 n24_4 n24_5 n24_6 n24_7 n25_3 n25_4 n25_12 => (yz157970.1 b j n25_3 n25_4).trans (hfr b j n24_2 n24_3 n24_4 n24_5 n24_6 n24_7 n25_3 n25_4 n25_12)
    have hrel := nsr_of (fun j => yz157970.2 _ j (Or.inl gx4)) (fun j => yz157970.2 _ j (Or.inr gx5)) hrel
    obtain ⟨z157971, qz157971, rz157971⟩ := xz157970_0
    exact K31  _ _ _ _  hT hfr hrel pf0 pf1 pf2 pf3 pf4 pf5 (lv_sub hl [0, 1, 2] rfl)
  refine lv_aload_n hx hb dX3_newName_0 rfl (lv_at hl 0 rfl) ?_
  refine t_get (C := RX3) (T := TX3) (N := 13) X hT m0 g0 rfl rfl 0 (by decide) qw_73 inlX3 rfl dX3_newName_1 (fun v157972 hv157972 ov157972 => ?_)
  obtain rfl : v157972 = .ref x0 := hv157972.symm.trans pf0
  refine t_get (C := RX8) (T := TX8) (N := 8) X hT mx0 gx0 rfl rfl 3 (by decide) qw_170 inlX8 rfl dX3_newName_4 (fun v157973 hv157973 ov157973 => ?_)
  obtain ⟨z157974, rfl, rz157974⟩ := okV_i ov157973
  refine lv_iconst (v := 1) hx hb dX3_newName_7 (by decide) ?_
  refine lv_icmp_ne (tgt := 19) hx hb dX3_newName_8 (by decide) (fun c157975 => ?_) (fun c157975 => ?_)
  · have w157976 := cv_ne (rfl : z157974.toInt = z157974.toInt) (by decide : (1 : Int32).toInt = 1) c157975
    exact K19  _ _ _ _  hT hfr hrel pf0 pf1 pf2 pf3 pf4 pf5 (lv_sub hl [0, 1, 2] rfl)
  · have w157977 := cv_eq (rfl : z157974.toInt = z157974.toInt) (by decide : (1 : Int32).toInt = 1) c157975
    refine lv_aload_n hx hb dX3_newName_11 rfl (lv_at hl 0 rfl) ?_
    refine t_cVi (n := 0) (C := RX3) (T := TX3) (N := 13) (As := []) (rest := []) X hT (kt443_X3_lineSort l G tag L F hT.2.2.2 p0 x0 x1 x2 x3 x4 x5 m0 g0 mx0 gx0 pf0 mx1 gx1 pf1 mx2 gx2 pf2 mx3 gx3 pf3 mx4 gx4 pf4 mx5 gx5 pf5) m0 g0 rfl rfl qw_230 qw_231 qw_232 qw_28 qw_233 ⟨rfl, by decide +kernel, by decide +kernel, by decide +kernel⟩ ⟨Nat.le_of_ble_eq_true rfl, Nat.le_of_ble_eq_true rfl⟩ hl rfl rfl (Nat.le_of_ble_eq_true rfl) dX3_newName_12 ⟨Nat.le_of_ble_eq_true rfl, Nat.le_of_ble_eq_true rfl⟩ (fun z157978 F9 H locs hT hz157978 => ?_)
    obtain ⟨fz157978, hz157978⟩ := hz157978
    rw [fz157978] at hT
    refine lv_iconst (v := (-1)) hx hb dX3_newName_15 (by decide) ?_
    refine lv_icmp_eq (tgt := 31) hx hb dX3_newName_16 (by decide) (fun c157979 => ?_) (fun c157979 => ?_)
    · have w157980 := cv_eq (rfl : z157978.toInt = z157978.toInt) (by decide : ((-1) : Int32).toInt = (-1)) c157979
      exact K31  _ _ _ _  hT hfr hrel pf0 pf1 pf2 pf3 pf4 pf5 (lv_sub hl [0, 1, 2] rfl)
    · have w157981 := cv_ne (rfl : z157978.toInt = z157978.toInt) (by decide : ((-1) : Int32).toInt = (-1)) c157979
      exact K19  _ _ _ _  hT hfr hrel pf0 pf1 pf2 pf3 pf4 pf5 (lv_sub hl [0, 1, 2] rfl)
