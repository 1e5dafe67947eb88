set_option maxHeartbeats 4000000 in
set_option maxRecDepth 100000 in
theorem kt355_X11_isHouse (l : Launch) (G : KG) (tag : Nat → Nat) (L : List Nat) (F : Nat → va_E) (ho : okT G ttC tag L F) (p0 : Nat) (p1 : Int32) (m0 : p0 ∈ L) (g0 : tag p0 = 26) : TMi l yX11_isHouse cX11_isHouse 2 (some .boolean) { frames := 0, cells := 0, slots := 0, locals := 0 } G ttC tag L F [.ref p0, .int p1] (fun r F1 => F1 = F ∧ ((0 ≤ r.toInt ∧ r.toInt ≤ 1) ∧ (r.toInt ≠ 0 → (0 ≤ p1.toInt ∧ p1.toInt ≤ 3)))) := by
  refine t_bodyi (y := yX11_isHouse) (cd := cX11_isHouse) (mL := 2) (rt := (some .boolean)) (rm := { frames := 0, cells := 0, slots := 0, locals := 0 }) (av := [.ref p0, .int p1]) (by decide) (Nat.le_of_ble_eq_true rfl) ho ?_
  intro p e s m args below meth c ls A Q hQ X hT hl
  have hx := X.1.1
  have hb := X.1.2.1
  have hl : lv_has ls 2 [(0, .ref p0), (1, .int p1)] := hl
  have rp1 := rg_all p1
  refine lv_aload_n hx hb dX11_isHouse_0 rfl (lv_at hl 0 rfl) ?_
  refine t_get (C := RX11) (T := TX11) (N := 16) X hT m0 g0 rfl rfl 2 (by decide) qw_150 inlX11 rfl dX11_isHouse_1 (fun v106223 hv106223 ov106223 => ?_)
  obtain ⟨z106224, rfl, rz106224⟩ := okV_i ov106223
  refine lv_if_eq (tgt := 26) hx hb dX11_isHouse_4 (by decide) (fun c106225 => ?_) (fun c106225 => ?_)
  · have w106226 := cv_eq (rfl : z106224.toInt = z106224.toInt) (by decide : (0 : Int32).toInt = 0) c106225
    refine lv_iconst (v := 0) hx hb dX11_isHouse_26 (by decide) ?_
    exact t_zret hQ X hT (by decide) (⟨rfl, ⟨(by decide), fun h => absurd (by decide) h⟩⟩) (Nat.le_of_ble_eq_true rfl) (Nat.le_of_ble_eq_true rfl) dX11_isHouse_27
  · have w106227 := cv_ne (rfl : z106224.toInt = z106224.toInt) (by decide : (0 : Int32).toInt = 0) c106225
    refine lv_iload_n hx hb dX11_isHouse_7 rfl (lv_at hl 1 rfl) ?_
    refine lv_if_lt (tgt := 26) hx hb dX11_isHouse_8 (by decide) (fun c106228 => ?_) (fun c106228 => ?_)
    · have w106229 := cv_lt (rfl : p1.toInt = p1.toInt) (by decide : (0 : Int32).toInt = 0) c106228
      refine lv_iconst (v := 0) hx hb dX11_isHouse_26 (by decide) ?_
      exact t_zret hQ X hT (by decide) (⟨rfl, ⟨(by decide), fun h => absurd (by decide) h⟩⟩) (Nat.le_of_ble_eq_true rfl) (Nat.le_of_ble_eq_true rfl) dX11_isHouse_27
    · have w106230 := cv_nlt (rfl : p1.toInt = p1.toInt) (by decide : (0 : Int32).toInt = 0) c106228
      refine lv_iload_n hx hb dX11_isHouse_11 rfl (lv_at hl 1 rfl) ?_
      refine lv_aload_n hx hb dX11_isHouse_12 rfl (lv_at hl 0 rfl) ?_
      refine t_get (C := RX11) (T := TX11) (N := 16) X hT m0 g0 rfl rfl 3 (by decide) qw_18 inlX11 rfl dX11_isHouse_13 (fun v106231 hv106231 ov106231 => ?_)
      obtain ⟨b106232, rfl, mb106232, gb106232⟩ := okV_r ov106231
      have gb106232 : tag b106232 = 18 := tg_of gb106232
      refine t_get (C := RX1) (T := TX1) (N := 20) X hT mb106232 gb106232 rfl rfl 10 (by decide) qw_151 inlX1 rfl dX11_isHouse_16 (fun v106233 hv106233 ov106233 => ?_)
      obtain ⟨z106234, rfl, rz106234⟩ := okV_i ov106233
      refine lv_icmp_ge (tgt := 26) hx hb dX11_isHouse_19 (by decide) (fun c106235 => ?_) (fun c106235 => ?_)
      · have w106236 := cv_le (rfl : z106234.toInt = z106234.toInt) (rfl : p1.toInt = p1.toInt) c106235
        refine lv_iconst (v := 0) hx hb dX11_isHouse_26 (by decide) ?_
        exact t_zret hQ X hT (by decide) (⟨rfl, ⟨(by decide), fun h => absurd (by decide) h⟩⟩) (Nat.le_of_ble_eq_true rfl) (Nat.le_of_ble_eq_true rfl) dX11_isHouse_27
      · have w106237 := cv_nle (rfl : z106234.toInt = z106234.toInt) (rfl : p1.toInt = p1.toInt) c106235
        refine lv_iconst (v := 1) hx hb dX11_isHouse_22 (by decide) ?_
        refine lv_goto (tgt := 27) hx hb dX11_isHouse_23 (by decide) ?_
        exact t_zret hQ X hT (by decide) (⟨rfl, ⟨(by decide), fun _ => by omega⟩⟩) (Nat.le_of_ble_eq_true rfl) (Nat.le_of_ble_eq_true rfl) dX11_isHouse_27
set_option maxHeartbeats 4000000 in
set_option maxRecDepth 100000 in
theorem kt356_X11_isRoom (l : Launch) (G : KG) (tag : Nat → Nat) (L : List Nat) (F : Nat → va_E) (ho : okT G ttC tag L F) (p0 : Nat) (p1 : Int32) (p2 : Int32) (m0 : p0 ∈ L) (g0 : tag p0 = 26) : TMi l yX11_isRoom cX11_isRoom 3 (some .boolean) { frames := 1, cells := 0, slots := 0, locals := 21 } G ttC tag L F [.ref p0, .int p1, .int p2] (fun r F1 => F1 = F ∧ ((0 ≤ r.toInt ∧ r.toInt ≤ 1) ∧ (r.toInt ≠ 0 → (0 ≤ p1.toInt ∧ p1.toInt ≤ 3) ∧ (0 ≤ p2.toInt ∧ p2.toInt ≤ 6)))) := by
  refine t_bodyi (y := yX11_isRoom) (cd := cX11_isRoom) (mL := 3) (rt := (some .boolean)) (rm := { frames := 1, cells := 0, slots := 0, locals := 21 }) (av := [.ref p0, .int p1, .int p2]) (by decide) (Nat.le_of_ble_eq_true rfl) ho ?_
  intro p e s m args below meth c ls A Q hQ X hT hl
  have hx := X.1.1
  have hb := X.1.2.1
  have hl : lv_has ls 3 [(0, .ref p0), (1, .int p1), (2, .int p2)] := hl
  have rp1 := rg_all p1
  have rp2 := rg_all p2
  refine lv_aload_n hx hb dX11_isRoom_0 rfl (lv_at hl 0 rfl) ?_
  refine lv_iload_n hx hb dX11_isRoom_1 rfl (lv_at hl 1 rfl) ?_
  refine t_cVi (n := 1) (C := RX11) (T := TX11) (N := 16) (As := [.int p1]) (rest := []) X hT (kt355_X11_isHouse l G tag L F hT.2.2.2 p0 p1 m0 g0) m0 g0 rfl rfl qw_770 qw_771 qw_772 qw_2 qw_773 ⟨rfl, by decide +kernel, by decide +kernel, by decide +kernel⟩ ⟨Nat.le_of_ble_eq_true rfl, Nat.le_of_ble_eq_true rfl⟩ hl rfl rfl (Nat.le_of_ble_eq_true rfl) dX11_isRoom_2 ⟨Nat.le_of_ble_eq_true rfl, Nat.le_of_ble_eq_true rfl⟩ (fun z106414 F9 H locs hT hz106414 => ?_)
  obtain ⟨fz106414, hz106414⟩ := hz106414
  rw [fz106414] at hT
  obtain ⟨hz106414, iz106414⟩ := hz106414
  refine lv_if_eq (tgt := 29) hx hb dX11_isRoom_5 (by decide) (fun c106415 => ?_) (fun c106415 => ?_)
  · have w106416 := cv_eq (rfl : z106414.toInt = z106414.toInt) (by decide : (0 : Int32).toInt = 0) c106415
    refine lv_iconst (v := 0) hx hb dX11_isRoom_29 (by decide) ?_
    exact t_zret hQ X hT (by decide) (⟨rfl, ⟨(by decide), fun h => absurd (by decide) h⟩⟩) (Nat.le_of_ble_eq_true rfl) (Nat.le_of_ble_eq_true rfl) dX11_isRoom_30
  · have w106417 := cv_ne (rfl : z106414.toInt = z106414.toInt) (by decide : (0 : Int32).toInt = 0) c106415
    have w106418 := (fun h => (iz106414 h)) (by omega)
    refine lv_iload_n hx hb dX11_isRoom_8 rfl (lv_at hl 2 rfl) ?_
    refine lv_if_lt (tgt := 29) hx hb dX11_isRoom_9 (by decide) (fun c106419 => ?_) (fun c106419 => ?_)
    · have w106420 := cv_lt (rfl : p2.toInt = p2.toInt) (by decide : (0 : Int32).toInt = 0) c106419
      refine lv_iconst (v := 0) hx hb dX11_isRoom_29 (by decide) ?_
      exact t_zret hQ X hT (by decide) (⟨rfl, ⟨(by decide), fun h => absurd (by decide) h⟩⟩) (Nat.le_of_ble_eq_true rfl) (Nat.le_of_ble_eq_true rfl) dX11_isRoom_30
    · have w106421 := cv_nlt (rfl : p2.toInt = p2.toInt) (by decide : (0 : Int32).toInt = 0) c106419
      refine lv_iload_n hx hb dX11_isRoom_12 rfl (lv_at hl 2 rfl) ?_
      refine lv_aload_n hx hb dX11_isRoom_13 rfl (lv_at hl 0 rfl) ?_
      refine t_get (C := RX11) (T := TX11) (N := 16) X hT m0 g0 rfl rfl 5 (by decide) qw_23 inlX11 rfl dX11_isRoom_14 (fun v106422 hv106422 ov106422 => ?_)
      obtain ⟨b106423, rfl, mb106423, gb106423⟩ := okV_r ov106422
      have gb106423 : tag b106423 = 19 := tg_of gb106423
      refine t_get (C := RX7) (T := TX7) (N := 7) X hT mb106423 gb106423 rfl rfl 2 (by decide) qw_766 inlX7 rfl dX11_isRoom_17 (fun v106424 hv106424 ov106424 => ?_)
      obtain ⟨b106425, rfl, mb106425, gb106425⟩ := okV_r ov106424
      have gb106425 : tag b106425 = 8 := tg_of gb106425
      refine lv_iload_n hx hb dX11_isRoom_20 rfl (lv_at hl 1 rfl) ?_
      refine t_ild X hT mb106425 gb106425 rfl (by omega) dX11_isRoom_21 (fun z106426 vz106426 rz106426 => ?_)
      have rz106426 : 0 ≤ z106426.toInt ∧ z106426.toInt ≤ 6 := rz106426
      refine lv_icmp_gt (tgt := 29) hx hb dX11_isRoom_22 (by decide) (fun c106427 => ?_) (fun c106427 => ?_)
      · have w106428 := cv_lt (rfl : z106426.toInt = z106426.toInt) (rfl : p2.toInt = p2.toInt) c106427
        refine lv_iconst (v := 0) hx hb dX11_isRoom_29 (by decide) ?_
        exact t_zret hQ X hT (by decide) (⟨rfl, ⟨(by decide), fun h => absurd (by decide) h⟩⟩) (Nat.le_of_ble_eq_true rfl) (Nat.le_of_ble_eq_true rfl) dX11_isRoom_30
      · have w106429 := cv_nlt (rfl : z106426.toInt = z106426.toInt) (rfl : p2.toInt = p2.toInt) c106427
        refine lv_iconst (v := 1) hx hb dX11_isRoom_25 (by decide) ?_
        refine lv_goto (tgt := 30) hx hb dX11_isRoom_26 (by decide) ?_
        exact t_zret hQ X hT (by decide) (⟨rfl, ⟨(by decide), fun _ => ⟨by omega, by omega⟩⟩⟩) (Nat.le_of_ble_eq_true rfl) (Nat.le_of_ble_eq_true rfl) dX11_isRoom_30
set_option maxHeartbeats 4000000 in
set_option maxRecDepth 100000 in
theorem kt357_X11_refuse (l : Launch) (G : KG) (tag : Nat → Nat) (L : List Nat) (Fo : Nat → va_E) (ho : okT G ttC tag L Fo) (p0 : Nat) (p1 : Int32) (m0 : p0 ∈ L) (g0 : tag p0 = 26) : TMi l yX11_refuse cX11_refuse 2 (some .int) { frames := 0, cells := 0, slots := 0, locals := 0 } G ttC tag L Fo [.ref p0, .int p1] (fun r F1 => ((-1) ≤ r.toInt ∧ r.toInt ≤ (-1)) ∧ ((∀ b j : Nat, (tag b ≠ 26 ∨ j ≠ 13) → fld F1 b j = fld Fo b j) ∧ EF tag F1 Fo)) := by
  refine t_bodyi (y := yX11_refuse) (cd := cX11_refuse) (mL := 2) (rt := (some .int)) (rm := { frames := 0, cells := 0, slots := 0, locals := 0 }) (av := [.ref p0, .int p1]) (by decide) (Nat.le_of_ble_eq_true rfl) ho ?_
  intro p e s m args below meth c ls A Q hQ X hT hl
  have hx := X.1.1
  have hb := X.1.2.1
  have hl : lv_has ls 2 [(0, .ref p0), (1, .int p1)] := hl
  have rp1 := rg_all p1
  obtain ⟨F, hFo⟩ : ∃ F : Nat → va_E, F = Fo := ⟨_, rfl⟩
  rw [← hFo] at hT
  have hfr : (∀ b j : Nat, (tag b ≠ 26 ∨ j ≠ 13) → fld F b j = fld Fo b j) ∧ EF tag F Fo := by
    rw [hFo]
    exact ⟨by intros; rfl, fun _ _ _ => rfl⟩
  refine lv_aload_n hx hb dX11_refuse_0 rfl (lv_at hl 0 rfl) ?_
  refine lv_iload_n hx hb dX11_refuse_1 rfl (lv_at hl 1 rfl) ?_
  refine t_put (C := RX11) (T := TX11) (N := 16) (v := .int p1) X hT m0 g0 rfl tyX11 tyX11_ok nmX11 rfl 13 (by decide) qw_156 inlX11 rfl (by first | rfl | decide) (by first | rfl | decide) rfl (⟨_, rfl, (show (-2147483648) ≤ (p1 : Int32).toInt from (by omega)), (show (p1 : Int32).toInt ≤ 2147483647 from (by omega))⟩) dX11_refuse_2 (fun F H locs hT v106456 h1v106456 h2v106456 => ?_)
  have hfr : (∀ b j : Nat, (tag b ≠ 26 ∨ j ≠ 13) → fld F b j = fld Fo b j) ∧ EF tag F Fo := ⟨fun b j n26_13 => (h1v106456 b j (fr_ne g0 n26_13)).trans (hfr.1 b j n26_13), fun b j hb => (h2v106456 b j).trans (hfr.2 b j hb)⟩
  refine lv_iconst (v := (-1)) hx hb dX11_refuse_5 (by decide) ?_
  exact t_iret hQ X hT (⟨(by decide), hfr⟩) (Nat.le_of_ble_eq_true rfl) (Nat.le_of_ble_eq_true rfl) dX11_refuse_6
set_option maxHeartbeats 4000000 in
set_option maxRecDepth 100000 in
theorem kt358_X11_breaks (l : Launch) (G : KG) (tag : Nat → Nat) (L : List Nat) (Fo : Nat → va_E) (ho : okT G ttC tag L Fo) (p0 : Nat) (p1 : Int32) (p2 : Int32) (m0 : p0 ∈ L) (g0 : tag p0 = 26) : TMi l yX11_breaks cX11_breaks 3 (some .int) { frames := 6, cells := 0, slots := 0, locals := 149 } G ttC tag L Fo [.ref p0, .int p1, .int p2] (fun r F1 => ((-2147483648) ≤ r.toInt ∧ r.toInt ≤ 2147483647) ∧ ((∀ b j : Nat, (tag b ≠ 21 ∨ j ≠ 0) → (tag b ≠ 21 ∨ j ≠ 1) → (tag b ≠ 26 ∨ j ≠ 13) → fld F1 b j = fld Fo b j) ∧ EF tag F1 Fo)) := by
  refine t_bodyi (y := yX11_breaks) (cd := cX11_breaks) (mL := 3) (rt := (some .int)) (rm := { frames := 6, cells := 0, slots := 0, locals := 149 }) (av := [.ref p0, .int p1, .int p2]) (by decide) (Nat.le_of_ble_eq_true rfl) ho ?_
  intro p e s m args below meth c ls A Q hQ X hT hl
  have hx := X.1.1
  have hb := X.1.2.1
  have hl : lv_has ls 3 [(0, .ref p0), (1, .int p1), (2, .int p2)] := hl
  have rp1 := rg_all p1
  have rp2 := rg_all p2
  obtain ⟨F, hFo⟩ : ∃ F : Nat → va_E, F = Fo := ⟨_, rfl⟩
  rw [← hFo] at hT
  have hfr : (∀ b j : Nat, (tag b ≠ 21 ∨ j ≠ 0) → (tag b ≠ 21 ∨ j ≠ 1) → (tag b ≠ 26 ∨ j ≠ 13) → fld F b j = fld Fo b j) ∧ EF tag F Fo := by
    rw [hFo]
    exact ⟨by intros; rfl, fun _ _ _ => rfl⟩
  refine lv_aload_n hx hb dX11_breaks_0 rfl (lv_at hl 0 rfl) ?_
  refine lv_iload_n hx hb dX11_breaks_1 rfl (lv_at hl 1 rfl) ?_
  refine lv_iload_n hx hb dX11_breaks_2 rfl (lv_at hl 2 rfl) ?_
  refine t_cVi (n := 2) (C := RX11) (T := TX11) (N := 16) (As := [.int p1, .int p2]) (rest := []) X hT (kt356_X11_isRoom l G tag L F hT.2.2.2 p0 p1 p2 m0 g0) m0 g0 rfl rfl qw_827 qw_828 qw_829 qw_2 qw_830 ⟨rfl, by decide +kernel, by decide +kernel, by decide +kernel⟩ ⟨Nat.le_of_ble_eq_true rfl, Nat.le_of_ble_eq_true rfl⟩ hl rfl rfl (Nat.le_of_ble_eq_true rfl) dX11_breaks_3 ⟨Nat.le_of_ble_eq_true rfl, Nat.le_of_ble_eq_true rfl⟩ (fun z106618 F9 H locs hT hz106618 => ?_)
  obtain ⟨fz106618, hz106618⟩ := hz106618
  rw [fz106618] at hT
  obtain ⟨hz106618, iz106618⟩ := hz106618
  refine lv_if_ne (tgt := 15) hx hb dX11_breaks_6 (by decide) (fun c106619 => ?_) (fun c106619 => ?_)
  · have w106620 := cv_ne (rfl : z106618.toInt = z106618.toInt) (by decide : (0 : Int32).toInt = 0) c106619
    have w106621 := (fun h => (iz106618 h).1) (by omega)
    have w106622 := (fun h => (iz106618 h).2) (by omega)
    refine lv_aload_n hx hb dX11_breaks_15 rfl (lv_at hl 0 rfl) ?_
    refine lv_aload_n hx hb dX11_breaks_16 rfl (lv_at hl 0 rfl) ?_
    refine t_get (C := RX11) (T := TX11) (N := 16) X hT m0 g0 rfl rfl 10 (by decide) qw_37 inlX11 rfl dX11_breaks_17 (fun v106623 hv106623 ov106623 => ?_)
    obtain ⟨b106624, rfl, mb106624, gb106624⟩ := okV_r ov106623
    have gb106624 : tag b106624 = 21 := tg_of gb106624
    refine lv_aload_n hx hb dX11_breaks_20 rfl (lv_at hl 0 rfl) ?_
    refine t_get (C := RX11) (T := TX11) (N := 16) X hT m0 g0 rfl rfl 3 (by decide) qw_18 inlX11 rfl dX11_breaks_21 (fun v106625 hv106625 ov106625 => ?_)
    obtain ⟨b106626, rfl, mb106626, gb106626⟩ := okV_r ov106625
    have gb106626 : tag b106626 = 18 := tg_of gb106626
    refine lv_aload_n hx hb dX11_breaks_24 rfl (lv_at hl 0 rfl) ?_
    refine t_get (C := RX11) (T := TX11) (N := 16) X hT m0 g0 rfl rfl 5 (by decide) qw_23 inlX11 rfl dX11_breaks_25 (fun v106627 hv106627 ov106627 => ?_)
    obtain ⟨b106628, rfl, mb106628, gb106628⟩ := okV_r ov106627
    have gb106628 : tag b106628 = 19 := tg_of gb106628
    refine lv_iload_n hx hb dX11_breaks_28 rfl (lv_at hl 1 rfl) ?_
    refine lv_iload_n hx hb dX11_breaks_29 rfl (lv_at hl 2 rfl) ?_
    refine t_cVi (n := 4) (C := RX0) (T := TX0) (N := 2) (As := [.ref b106626, .ref b106628, .int p1, .int p2]) (rest := [.ref p0]) X hT (kt335_X0_cheapest l G tag L F hT.2.2.2 b106624 b106626 b106628 p1 p2 mb106624 gb106624 mb106626 gb106626 mb106628 gb106628 (by omega)) mb106624 gb106624 rfl rfl qw_1012 qw_1013 qw_1014 qw_36 qw_1015 ⟨rfl, by decide +kernel, by decide +kernel, by decide +kernel⟩ ⟨Nat.le_of_ble_eq_true rfl, Nat.le_of_ble_eq_true rfl⟩ hl rfl rfl (Nat.le_of_ble_eq_true rfl) dX11_breaks_30 ⟨Nat.le_of_ble_eq_true rfl, Nat.le_of_ble_eq_true rfl⟩ (fun z106629 F H locs hT hz106629 => ?_)
    obtain ⟨hz106629, yz106629⟩ := hz106629
    have hv106623 := (yz106629.1 _ 10 (Or.inr (by decide)) (Or.inr (by decide))).trans hv106623
    have hv106625 := (yz106629.1 _ 3 (Or.inr (by decide)) (Or.inr (by decide))).trans hv106625
    have hv106627 := (yz106629.1 _ 5 (Or.inr (by decide)) (Or.inr (by decide))).trans hv106627
    have hfr : (∀ b j : Nat, (tag b ≠ 21 ∨ j ≠ 0) → (tag b ≠ 21 ∨ j ≠ 1) → (tag b ≠ 26 ∨ j ≠ 13) → fld F b j = fld Fo b j) ∧ EF tag F Fo := ⟨fun b j n21_0 n21_1 n26_13 => (yz106629.1 b j n21_0 n21_1).trans (hfr.1 b j n21_0 n21_1 n26_13), fun b j hb => (yz106629.2 b j hb).trans (hfr.2 b j hb)⟩
    refine lv_bipush (v := 8) hx hb dX11_breaks_33 (by decide) ?_
    refine lv_irem hx hb dX11_breaks_35 (by decide) ?_
    refine lv_topi (fun z106630 ez106630 => ?_)
    have rz106630 := rg_all z106630
    refine t_cVi (n := 1) (C := RX11) (T := TX11) (N := 16) (As := [.int z106630]) (rest := []) X hT (kt350_X11_answer l G tag L F hT.2.2.2 p0 z106630 m0 g0) m0 g0 rfl rfl qw_463 qw_464 qw_465 qw_2 qw_466 ⟨rfl, by decide +kernel, by decide +kernel, by decide +kernel⟩ ⟨Nat.le_of_ble_eq_true rfl, Nat.le_of_ble_eq_true rfl⟩ hl rfl rfl (Nat.le_of_ble_eq_true rfl) dX11_breaks_36 ⟨Nat.le_of_ble_eq_true rfl, Nat.le_of_ble_eq_true rfl⟩ (fun z106631 F H locs hT hz106631 => ?_)
    obtain ⟨hz106631, yz106631⟩ := hz106631
    have hv106623 := (yz106631.1 _ 10 (Or.inr (by decide))).trans hv106623
    have hv106625 := (yz106631.1 _ 3 (Or.inr (by decide))).trans hv106625
    have hv106627 := (yz106631.1 _ 5 (Or.inr (by decide))).trans hv106627
    have hfr : (∀ b j : Nat, (tag b ≠ 21 ∨ j ≠ 0) → (tag b ≠ 21 ∨ j ≠ 1) → (tag b ≠ 26 ∨ j ≠ 13) → fld F b j = fld Fo b j) ∧ EF tag F Fo := ⟨fun b j n21_0 n21_1 n26_13 => (yz106631.1 b j n26_13).trans (hfr.1 b j n21_0 n21_1 n26_13), fun b j hb => (yz106631.2 b j hb).trans (hfr.2 b j hb)⟩
    exact t_iret hQ X hT (⟨rg_all _, hfr⟩) (Nat.le_of_ble_eq_true rfl) (Nat.le_of_ble_eq_true rfl) dX11_breaks_39
  · have w106632 := cv_eq (rfl : z106618.toInt = z106618.toInt) (by decide : (0 : Int32).toInt = 0) c106619
    refine lv_aload_n hx hb dX11_breaks_9 rfl (lv_at hl 0 rfl) ?_
    refine lv_iconst (v := 1) hx hb dX11_breaks_10 (by decide) ?_
    refine t_cVi (n := 1) (C := RX11) (T := TX11) (N := 16) (As := [.int 1]) (rest := []) X hT (kt357_X11_refuse l G tag L F hT.2.2.2 p0 1 m0 g0) m0 g0 rfl rfl qw_152 qw_153 qw_154 qw_2 qw_155 ⟨rfl, by decide +kernel, by decide +kernel, by decide +kernel⟩ ⟨Nat.le_of_ble_eq_true rfl, Nat.le_of_ble_eq_true rfl⟩ hl rfl rfl (Nat.le_of_ble_eq_true rfl) dX11_breaks_11 ⟨Nat.le_of_ble_eq_true rfl, Nat.le_of_ble_eq_true rfl⟩ (fun z106633 F H locs hT hz106633 => ?_)
    obtain ⟨hz106633, yz106633⟩ := hz106633
    have hfr : (∀ b j : Nat, (tag b ≠ 21 ∨ j ≠ 0) → (tag b ≠ 21 ∨ j ≠ 1) → (tag b ≠ 26 ∨ j ≠ 13) → fld F b j = fld Fo b j) ∧ EF tag F Fo := ⟨fun b j n21_0 n21_1 n26_13 => (yz106633.1 b j n26_13).trans (hfr.1 b j n21_0 n21_1 n26_13), fun b j hb => (yz106633.2 b j hb).trans (hfr.2 b j hb)⟩
    exact t_iret hQ X hT (⟨rg_all _, hfr⟩) (Nat.le_of_ble_eq_true rfl) (Nat.le_of_ble_eq_true rfl) dX11_breaks_14
set_option maxHeartbeats 4000000 in
set_option maxRecDepth 100000 in
theorem kt359_X11_isStone (l : Launch) (G : KG) (tag : Nat → Nat) (L : List Nat) (F : Nat → va_E) (ho : okT G ttC tag L F) (p0 : Nat) (p1 : Int32) (m0 : p0 ∈ L) (g0 : tag p0 = 26) : TMi l yX11_isStone cX11_isStone 2 (some .boolean) { frames := 0, cells := 0, slots := 0, locals := 0 } G ttC tag L F [.ref p0, .int p1] (fun r F1 => F1 = F ∧ (0 ≤ r.toInt ∧ r.toInt ≤ 1)) := by
  refine t_bodyi (y := yX11_isStone) (cd := cX11_isStone) (mL := 2) (rt := (some .boolean)) (rm := { frames := 0, cells := 0, slots := 0, locals := 0 }) (av := [.ref p0, .int p1]) (by decide) (Nat.le_of_ble_eq_true rfl) ho ?_
  intro p e s m args below meth c ls A Q hQ X hT hl
  have hx := X.1.1
  have hb := X.1.2.1
  have hl : lv_has ls 2 [(0, .ref p0), (1, .int p1)] := hl
  have rp1 := rg_all p1
  refine lv_aload_n hx hb dX11_isStone_0 rfl (lv_at hl 0 rfl) ?_
  refine t_get (C := RX11) (T := TX11) (N := 16) X hT m0 g0 rfl rfl 2 (by decide) qw_150 inlX11 rfl dX11_isStone_1 (fun v106804 hv106804 ov106804 => ?_)
  obtain ⟨z106805, rfl, rz106805⟩ := okV_i ov106804
  refine lv_if_eq (tgt := 26) hx hb dX11_isStone_4 (by decide) (fun c106806 => ?_) (fun c106806 => ?_)
  · have w106807 := cv_eq (rfl : z106805.toInt = z106805.toInt) (by decide : (0 : Int32).toInt = 0) c106806
    refine lv_iconst (v := 0) hx hb dX11_isStone_26 (by decide) ?_
    exact t_zret hQ X hT (by decide) (⟨rfl, (by decide)⟩) (Nat.le_of_ble_eq_true rfl) (Nat.le_of_ble_eq_true rfl) dX11_isStone_27
  · have w106808 := cv_ne (rfl : z106805.toInt = z106805.toInt) (by decide : (0 : Int32).toInt = 0) c106806
    refine lv_iload_n hx hb dX11_isStone_7 rfl (lv_at hl 1 rfl) ?_
    refine lv_if_lt (tgt := 26) hx hb dX11_isStone_8 (by decide) (fun c106809 => ?_) (fun c106809 => ?_)
    · have w106810 := cv_lt (rfl : p1.toInt = p1.toInt) (by decide : (0 : Int32).toInt = 0) c106809
      refine lv_iconst (v := 0) hx hb dX11_isStone_26 (by decide) ?_
      exact t_zret hQ X hT (by decide) (⟨rfl, (by decide)⟩) (Nat.le_of_ble_eq_true rfl) (Nat.le_of_ble_eq_true rfl) dX11_isStone_27
    · have w106811 := cv_nlt (rfl : p1.toInt = p1.toInt) (by decide : (0 : Int32).toInt = 0) c106809
      refine lv_iload_n hx hb dX11_isStone_11 rfl (lv_at hl 1 rfl) ?_
      refine lv_aload_n hx hb dX11_isStone_12 rfl (lv_at hl 0 rfl) ?_
      refine t_get (C := RX11) (T := TX11) (N := 16) X hT m0 g0 rfl rfl 3 (by decide) qw_18 inlX11 rfl dX11_isStone_13 (fun v106812 hv106812 ov106812 => ?_)
      obtain ⟨b106813, rfl, mb106813, gb106813⟩ := okV_r ov106812
      have gb106813 : tag b106813 = 18 := tg_of gb106813
      refine t_get (C := RX1) (T := TX1) (N := 20) X hT mb106813 gb106813 rfl rfl 8 (by decide) qw_958 inlX1 rfl dX11_isStone_16 (fun v106814 hv106814 ov106814 => ?_)
      obtain ⟨z106815, rfl, rz106815⟩ := okV_i ov106814
      refine lv_icmp_ge (tgt := 26) hx hb dX11_isStone_19 (by decide) (fun c106816 => ?_) (fun c106816 => ?_)
      · have w106817 := cv_le (rfl : z106815.toInt = z106815.toInt) (rfl : p1.toInt = p1.toInt) c106816
        refine lv_iconst (v := 0) hx hb dX11_isStone_26 (by decide) ?_
        exact t_zret hQ X hT (by decide) (⟨rfl, (by decide)⟩) (Nat.le_of_ble_eq_true rfl) (Nat.le_of_ble_eq_true rfl) dX11_isStone_27
      · have w106818 := cv_nle (rfl : z106815.toInt = z106815.toInt) (rfl : p1.toInt = p1.toInt) c106816
        refine lv_iconst (v := 1) hx hb dX11_isStone_22 (by decide) ?_
        refine lv_goto (tgt := 27) hx hb dX11_isStone_23 (by decide) ?_
        exact t_zret hQ X hT (by decide) (⟨rfl, (by decide)⟩) (Nat.le_of_ble_eq_true rfl) (Nat.le_of_ble_eq_true rfl) dX11_isStone_27
set_option maxHeartbeats 4000000 in
set_option maxRecDepth 100000 in
theorem kt360_X2_keep (l : Launch) (G : KG) (tag : Nat → Nat) (L : List Nat) (Fo : Nat → va_E) (ho : okT G ttC tag L Fo) (p0 : Nat) (p1 : Nat) (m0 : p0 ∈ L) (g0 : tag p0 = 23) (m1 : p1 ∈ L) (g1 : tag p1 = 19) : TMv l yX2_keep cX2_keep 2 { frames := 2, cells := 0, slots := 0, locals := 45 } G ttC tag L Fo [.ref p0, .ref p1] (fun F1 => ((∀ b j : Nat, (tag b ≠ 19 ∨ j ≠ 0) → (tag b ≠ 19 ∨ j ≠ 1) → (tag b ≠ 23 ∨ j ≠ 2) → (tag b ≠ 23 ∨ j ≠ 3) → fld F1 b j = fld Fo b j) ∧ EF tag F1 Fo)) := by
  refine t_bodyv (y := yX2_keep) (cd := cX2_keep) (mL := 2) (rm := { frames := 2, cells := 0, slots := 0, locals := 45 }) (av := [.ref p0, .ref p1]) (by decide) (Nat.le_of_ble_eq_true rfl) ho ?_
  intro p e s m args below meth c ls A Q hQ X hT hl
  have hx := X.1.1
  have hb := X.1.2.1
  have hl : lv_has ls 2 [(0, .ref p0), (1, .ref p1)] := hl
  obtain ⟨F, hFo⟩ : ∃ F : Nat → va_E, F = Fo := ⟨_, rfl⟩
  rw [← hFo] at hT
  have hfr : (∀ b j : Nat, (tag b ≠ 19 ∨ j ≠ 0) → (tag b ≠ 19 ∨ j ≠ 1) → (tag b ≠ 23 ∨ j ≠ 2) → (tag b ≠ 23 ∨ j ≠ 3) → fld F b j = fld Fo b j) ∧ EF tag F Fo := by
    rw [hFo]
    exact ⟨by intros; rfl, fun _ _ _ => rfl⟩
  have K32 : ∀ (z107170 : Int32) (F : Nat → va_E) (H : Heap) (locs : List Loc) (ls : Array Slot), (0 ≤ z107170.toInt ∧ z107170.toInt ≤ 9) → TH G ttC A s tag L F H locs → ((∀ b j : Nat, (tag b ≠ 19 ∨ j ≠ 0) → (tag b ≠ 19 ∨ j ≠ 1) → (tag b ≠ 23 ∨ j ≠ 2) → (tag b ≠ 23 ∨ j ≠ 3) → fld F b j = fld Fo b j) ∧ EF tag F Fo) → fld F p0 3 = .int z107170 → lv_has ls 2 [(0, .ref p0), (1, .ref p1)] → W p l e { frames := 2, cells := 0, slots := 0, locals := 45 } s m args below meth c H locs 0 0 Q (F0 m 32 ls []) := by
    intro z107170 F H locs ls rz107170 hT hfr qz107170 hl
    refine lv_aload_n hx hb dX2_keep_32 rfl (lv_at hl 0 rfl) ?_
    refine t_get (C := RX2) (T := TX2) (N := 5) X hT m0 g0 rfl rfl 0 (by decide) qw_103 inlX2 rfl dX2_keep_33 (fun v107171 hv107171 ov107171 => ?_)
    obtain ⟨b107172, rfl, mb107172, gb107172⟩ := okV_r ov107171
    have gb107172 : tag b107172 = 16 := tg_of gb107172
    refine lv_aload_n hx hb dX2_keep_36 rfl (lv_at hl 0 rfl) ?_
    refine t_get (C := RX2) (T := TX2) (N := 5) X hT m0 g0 rfl rfl 2 (by decide) qw_1431 inlX2 rfl dX2_keep_37 (fun v107173 hv107173 ov107173 => ?_)
    obtain ⟨z107174, rfl, rz107174⟩ := okV_i ov107173
    refine lv_aload_n hx hb dX2_keep_40 rfl (lv_at hl 0 rfl) ?_
    refine t_get (C := RX2) (T := TX2) (N := 5) X hT m0 g0 rfl rfl 3 (by decide) qw_461 inlX2 rfl dX2_keep_41 (fun v107175 hv107175 ov107175 => ?_)
    obtain rfl : v107175 = .int z107170 := hv107175.symm.trans qz107170
    refine lv_iadd hx hb dX2_keep_44 ?_
    refine lv_topi (fun z107176 ez107176 => ?_)
    have hz107176 : z107176.toInt = z107174.toInt + z107170.toInt := ar_add ez107176 (rfl : z107174.toInt = z107174.toInt) (rfl : z107170.toInt = z107170.toInt) (by omega) (by omega)
    have rz107176 : 0 ≤ z107176.toInt ∧ z107176.toInt ≤ 18 := by omega
    refine lv_bipush (v := 10) hx hb dX2_keep_45 (by decide) ?_
    refine lv_irem hx hb dX2_keep_47 (by decide) ?_
    refine lv_topi (fun z107177 ez107177 => ?_)
    have hz107177 : z107177.toInt = z107176.toInt % 10 := ar_rem ez107177 (rfl : z107176.toInt = z107176.toInt) (by decide : (10 : Int32).toInt = 10) (by omega) (by omega)
    have rz107177 : 0 ≤ z107177.toInt ∧ z107177.toInt ≤ 9 := by omega
    refine t_ald X hT mb107172 gb107172 rfl (by omega) dX2_keep_48 (fun b107178 mb107178 gb107178 => ?_)
    have gb107178 : tag b107178 = 19 := tg_of gb107178
    refine lv_aload_n hx hb dX2_keep_49 rfl (lv_at hl 1 rfl) ?_
    refine t_cVv (n := 1) (C := RX7) (T := TX7) (N := 7) (As := [.ref p1]) (rest := []) X hT (kt343_X7_copyFrom l G tag L F hT.2.2.2 b107178 p1 mb107178 gb107178 m1 g1) mb107178 gb107178 rfl rfl qw_1432 qw_450 qw_451 qw_22 qw_452 ⟨rfl, by decide +kernel, by decide +kernel, by decide +kernel⟩ ⟨Nat.le_of_ble_eq_true rfl, Nat.le_of_ble_eq_true rfl⟩ hl rfl rfl (Nat.le_of_ble_eq_true rfl) dX2_keep_50 ⟨Nat.le_of_ble_eq_true rfl, Nat.le_of_ble_eq_true rfl⟩ (fun F H locs hT hz107179 => ?_)
    have yz107179 := hz107179
    have qz107170 := (yz107179.1 _ 3 (Or.inr (by decide)) (Or.inr (by decide))).trans qz107170
    have hv107171 := (yz107179.1 _ 0 (Or.inl (by rw [g0]; decide)) (Or.inr (by decide))).trans hv107171
    have hv107173 := (yz107179.1 _ 2 (Or.inr (by decide)) (Or.inr (by decide))).trans hv107173
    have hfr : (∀ b j : Nat, (tag b ≠ 19 ∨ j ≠ 0) → (tag b ≠ 19 ∨ j ≠ 1) → (tag b ≠ 23 ∨ j ≠ 2) → (tag b ≠ 23 ∨ j ≠ 3) → fld F b j = fld Fo b j) ∧ EF tag F Fo := ⟨fun b j n19_0 n19_1 n23_2 n23_3 => (yz107179.1 b j n19_0 n19_1).trans (hfr.1 b j n19_0 n19_1 n23_2 n23_3), fun b j hb => (yz107179.2 b j hb).trans (hfr.2 b j hb)⟩
    refine lv_aload_n hx hb dX2_keep_53 rfl (lv_at hl 0 rfl) ?_
    refine lv_dup hx hb dX2_keep_54 rfl ?_
    refine t_get (C := RX2) (T := TX2) (N := 5) X hT m0 g0 rfl rfl 3 (by decide) qw_461 inlX2 rfl dX2_keep_55 (fun v107180 hv107180 ov107180 => ?_)
    obtain rfl : v107180 = .int z107170 := hv107180.symm.trans qz107170
    refine lv_iconst (v := 1) hx hb dX2_keep_58 (by decide) ?_
    refine lv_iadd hx hb dX2_keep_59 ?_
    refine lv_topi (fun z107181 ez107181 => ?_)
    have hz107181 : z107181.toInt = z107170.toInt + 1 := ar_add ez107181 (rfl : z107170.toInt = z107170.toInt) (by decide : (1 : Int32).toInt = 1) (by omega) (by omega)
    have rz107181 : 1 ≤ z107181.toInt ∧ z107181.toInt ≤ 10 := by omega
    refine t_put (C := RX2) (T := TX2) (N := 5) (v := .int z107181) X hT m0 g0 rfl tyX2 tyX2_ok nmX2 rfl 3 (by decide) qw_461 inlX2 rfl (by first | rfl | decide) (by first | rfl | decide) rfl (⟨_, rfl, (show 0 ≤ (z107181 : Int32).toInt from (by omega)), (show (z107181 : Int32).toInt ≤ 10 from (by omega))⟩) dX2_keep_60 (fun F H locs hT v107182 h1v107182 h2v107182 => ?_)
    have hv107171 := (h1v107182 _ _ (Or.inr (by decide))).trans hv107171
    have hv107173 := (h1v107182 _ _ (Or.inr (by decide))).trans hv107173
    have hfr : (∀ b j : Nat, (tag b ≠ 19 ∨ j ≠ 0) → (tag b ≠ 19 ∨ j ≠ 1) → (tag b ≠ 23 ∨ j ≠ 2) → (tag b ≠ 23 ∨ j ≠ 3) → fld F b j = fld Fo b j) ∧ EF tag F Fo := ⟨fun b j n19_0 n19_1 n23_2 n23_3 => (h1v107182 b j (fr_ne g0 n23_3)).trans (hfr.1 b j n19_0 n19_1 n23_2 n23_3), fun b j hb => (h2v107182 b j).trans (hfr.2 b j hb)⟩
    exact t_vret hQ X hT hfr (Nat.le_of_ble_eq_true rfl) (Nat.le_of_ble_eq_true rfl) dX2_keep_63
  refine lv_aload_n hx hb dX2_keep_0 rfl (lv_at hl 0 rfl) ?_
  refine t_get (C := RX2) (T := TX2) (N := 5) X hT m0 g0 rfl rfl 3 (by decide) qw_461 inlX2 rfl dX2_keep_1 (fun v107183 hv107183 ov107183 => ?_)
  obtain ⟨z107184, rfl, rz107184⟩ := okV_i ov107183
  refine lv_bipush (v := 10) hx hb dX2_keep_4 (by decide) ?_
  refine lv_icmp_ne (tgt := 32) hx hb dX2_keep_6 (by decide) (fun c107185 => ?_) (fun c107185 => ?_)
  · have w107186 := cv_ne (rfl : z107184.toInt = z107184.toInt) (by decide : (10 : Int32).toInt = 10) c107185
    exact K32 z107184 _ _ _ _ (by omega) hT hfr hv107183 (lv_sub hl [0, 1] rfl)
  · have w107187 := cv_eq (rfl : z107184.toInt = z107184.toInt) (by decide : (10 : Int32).toInt = 10) c107185
    refine lv_aload_n hx hb dX2_keep_9 rfl (lv_at hl 0 rfl) ?_
    refine lv_aload_n hx hb dX2_keep_10 rfl (lv_at hl 0 rfl) ?_
    refine t_get (C := RX2) (T := TX2) (N := 5) X hT m0 g0 rfl rfl 2 (by decide) qw_1431 inlX2 rfl dX2_keep_11 (fun v107188 hv107188 ov107188 => ?_)
    obtain ⟨z107189, rfl, rz107189⟩ := okV_i ov107188
    refine lv_iconst (v := 1) hx hb dX2_keep_14 (by decide) ?_
    refine lv_iadd hx hb dX2_keep_15 ?_
    refine lv_topi (fun z107190 ez107190 => ?_)
    have hz107190 : z107190.toInt = z107189.toInt + 1 := ar_add ez107190 (rfl : z107189.toInt = z107189.toInt) (by decide : (1 : Int32).toInt = 1) (by omega) (by omega)
    have rz107190 : 1 ≤ z107190.toInt ∧ z107190.toInt ≤ 10 := by omega
    refine lv_bipush (v := 10) hx hb dX2_keep_16 (by decide) ?_
    refine lv_irem hx hb dX2_keep_18 (by decide) ?_
    refine lv_topi (fun z107191 ez107191 => ?_)
    have hz107191 : z107191.toInt = z107190.toInt % 10 := ar_rem ez107191 (rfl : z107190.toInt = z107190.toInt) (by decide : (10 : Int32).toInt = 10) (by omega) (by omega)
    have rz107191 : 0 ≤ z107191.toInt ∧ z107191.toInt ≤ 9 := by omega
    refine t_put (C := RX2) (T := TX2) (N := 5) (v := .int z107191) X hT m0 g0 rfl tyX2 tyX2_ok nmX2 rfl 2 (by decide) qw_1431 inlX2 rfl (by first | rfl | decide) (by first | rfl | decide) rfl (⟨_, rfl, (show 0 ≤ (z107191 : Int32).toInt from (by omega)), (show (z107191 : Int32).toInt ≤ 9 from (by omega))⟩) dX2_keep_19 (fun F H locs hT v107192 h1v107192 h2v107192 => ?_)
    have hv107183 := (h1v107192 _ _ (Or.inr (by decide))).trans hv107183
    have hfr : (∀ b j : Nat, (tag b ≠ 19 ∨ j ≠ 0) → (tag b ≠ 19 ∨ j ≠ 1) → (tag b ≠ 23 ∨ j ≠ 2) → (tag b ≠ 23 ∨ j ≠ 3) → fld F b j = fld Fo b j) ∧ EF tag F Fo := ⟨fun b j n19_0 n19_1 n23_2 n23_3 => (h1v107192 b j (fr_ne g0 n23_2)).trans (hfr.1 b j n19_0 n19_1 n23_2 n23_3), fun b j hb => (h2v107192 b j).trans (hfr.2 b j hb)⟩
    refine lv_aload_n hx hb dX2_keep_22 rfl (lv_at hl 0 rfl) ?_
    refine lv_dup hx hb dX2_keep_23 rfl ?_
    refine t_get (C := RX2) (T := TX2) (N := 5) X hT m0 g0 rfl rfl 3 (by decide) qw_461 inlX2 rfl dX2_keep_24 (fun v107193 hv107193 ov107193 => ?_)
    obtain rfl : v107193 = .int z107184 := hv107193.symm.trans hv107183
    refine lv_iconst (v := 1) hx hb dX2_keep_27 (by decide) ?_
    refine lv_isub hx hb dX2_keep_28 ?_
    refine lv_topi (fun z107194 ez107194 => ?_)
    have hz107194 : z107194.toInt = z107184.toInt - 1 := ar_sub ez107194 (rfl : z107184.toInt = z107184.toInt) (by decide : (1 : Int32).toInt = 1) (by omega) (by omega)
    have rz107194 : 9 ≤ z107194.toInt ∧ z107194.toInt ≤ 9 := by omega
    refine t_put (C := RX2) (T := TX2) (N := 5) (v := .int z107194) X hT m0 g0 rfl tyX2 tyX2_ok nmX2 rfl 3 (by decide) qw_461 inlX2 rfl (by first | rfl | decide) (by first | rfl | decide) rfl (⟨_, rfl, (show 0 ≤ (z107194 : Int32).toInt from (by omega)), (show (z107194 : Int32).toInt ≤ 10 from (by omega))⟩) dX2_keep_29 (fun F H locs hT v107195 h1v107195 h2v107195 => ?_)
    have v107192 := (h1v107195 _ _ (Or.inr (by decide))).trans v107192
    have hfr : (∀ b j : Nat, (tag b ≠ 19 ∨ j ≠ 0) → (tag b ≠ 19 ∨ j ≠ 1) → (tag b ≠ 23 ∨ j ≠ 2) → (tag b ≠ 23 ∨ j ≠ 3) → fld F b j = fld Fo b j) ∧ EF tag F Fo := ⟨fun b j n19_0 n19_1 n23_2 n23_3 => (h1v107195 b j (fr_ne g0 n23_3)).trans (hfr.1 b j n19_0 n19_1 n23_2 n23_3), fun b j hb => (h2v107195 b j).trans (hfr.2 b j hb)⟩
    exact K32 z107194 _ _ _ _ (by omega) hT hfr v107195 (lv_sub hl [0, 1] rfl)
set_option maxHeartbeats 4000000 in
set_option maxRecDepth 100000 in
theorem kt361_X11_build (l : Launch) (G : KG) (tag : Nat → Nat) (L : List Nat) (Fo : Nat → va_E) (ho : okT G ttC tag L Fo) (p0 : Nat) (p1 : Int32) (p2 : Int32) (p3 : Int32) (p4 : Int32) (p5 : Int32) (m0 : p0 ∈ L) (g0 : tag p0 = 26) : TMi l yX11_build cX11_build 8 (some .int) { frames := 3, cells := 0, slots := 0, locals := 80 } G ttC tag L Fo [.ref p0, .int p1, .int p2, .int p3, .int p4, .int p5] (fun r F1 => ((-2147483648) ≤ r.toInt ∧ r.toInt ≤ 2147483647) ∧ ((∀ b j : Nat, (tag b ≠ 19 ∨ j ≠ 0) → (tag b ≠ 19 ∨ j ≠ 1) → (tag b ≠ 23 ∨ j ≠ 2) → (tag b ≠ 23 ∨ j ≠ 3) → (tag b ≠ 26 ∨ j ≠ 13) → fld F1 b j = fld Fo b j) ∧ EF tag F1 Fo)) := by
  refine t_bodyi (y := yX11_build) (cd := cX11_build) (mL := 8) (rt := (some .int)) (rm := { frames := 3, cells := 0, slots := 0, locals := 80 }) (av := [.ref p0, .int p1, .int p2, .int p3, .int p4, .int p5]) (by decide) (Nat.le_of_ble_eq_true rfl) ho ?_
  intro p e s m args below meth c ls A Q hQ X hT hl
  have hx := X.1.1
  have hb := X.1.2.1
  have hl : lv_has ls 8 [(0, .ref p0), (1, .int p1), (2, .int p2), (3, .int p3), (4, .int p4), (5, .int p5)] := hl
  have rp1 := rg_all p1
  have rp2 := rg_all p2
  have rp3 := rg_all p3
  have rp4 := rg_all p4
  have rp5 := rg_all p5
  obtain ⟨F, hFo⟩ : ∃ F : Nat → va_E, F = Fo := ⟨_, rfl⟩
  rw [← hFo] at hT
  have hfr : (∀ b j : Nat, (tag b ≠ 19 ∨ j ≠ 0) → (tag b ≠ 19 ∨ j ≠ 1) → (tag b ≠ 23 ∨ j ≠ 2) → (tag b ≠ 23 ∨ j ≠ 3) → (tag b ≠ 26 ∨ j ≠ 13) → fld F b j = fld Fo b j) ∧ EF tag F Fo := by
    rw [hFo]
    exact ⟨by intros; rfl, fun _ _ _ => rfl⟩
  have K25 : ∀  (F : Nat → va_E) (H : Heap) (locs : List Loc) (ls : Array Slot), TH G ttC A s tag L F H locs → ((∀ b j : Nat, (tag b ≠ 19 ∨ j ≠ 0) → (tag b ≠ 19 ∨ j ≠ 1) → (tag b ≠ 23 ∨ j ≠ 2) → (tag b ≠ 23 ∨ j ≠ 3) → (tag b ≠ 26 ∨ j ≠ 13) → fld F b j = fld Fo b j) ∧ EF tag F Fo) → lv_has ls 8 [(0, .ref p0), (1, .int p1), (2, .int p2), (3, .int p3), (4, .int p4), (5, .int p5)] → W p l e { frames := 3, cells := 0, slots := 0, locals := 80 } s m args below meth c H locs 0 0 Q (F0 m 25 ls []) := by
    intro F H locs ls hT hfr hl
    refine lv_aload_n hx hb dX11_build_25 rfl (lv_at hl 0 rfl) ?_
    refine lv_iconst (v := 1) hx hb dX11_build_26 (by decide) ?_
    refine t_cVi (n := 1) (C := RX11) (T := TX11) (N := 16) (As := [.int 1]) (rest := []) X hT (kt357_X11_refuse l G tag L F hT.2.2.2 p0 1 m0 g0) m0 g0 rfl rfl qw_152 qw_153 qw_154 qw_2 qw_155 ⟨rfl, by decide +kernel, by decide +kernel, by decide +kernel⟩ ⟨Nat.le_of_ble_eq_true rfl, Nat.le_of_ble_eq_true rfl⟩ hl rfl rfl (Nat.le_of_ble_eq_true rfl) dX11_build_27 ⟨Nat.le_of_ble_eq_true rfl, Nat.le_of_ble_eq_true rfl⟩ (fun z108061 F H locs hT hz108061 => ?_)
    obtain ⟨hz108061, yz108061⟩ := hz108061
    have hfr : (∀ b j : Nat, (tag b ≠ 19 ∨ j ≠ 0) → (tag b ≠ 19 ∨ j ≠ 1) → (tag b ≠ 23 ∨ j ≠ 2) → (tag b ≠ 23 ∨ j ≠ 3) → (tag b ≠ 26 ∨ j ≠ 13) → fld F b j = fld Fo b j) ∧ EF tag F Fo := ⟨fun b j n19_0 n19_1 n23_2 n23_3 n26_13 => (yz108061.1 b j n26_13).trans (hfr.1 b j n19_0 n19_1 n23_2 n23_3 n26_13), fun b j hb => (yz108061.2 b j hb).trans (hfr.2 b j hb)⟩
    exact t_iret hQ X hT (⟨rg_all _, hfr⟩) (Nat.le_of_ble_eq_true rfl) (Nat.le_of_ble_eq_true rfl) dX11_build_30
  have K85 : ∀ (z108064 : Int32) (F : Nat → va_E) (H : Heap) (locs : List Loc) (ls : Array Slot), (1 ≤ z108064.toInt ∧ z108064.toInt ≤ 6) → (0 ≤ p1.toInt ∧ p1.toInt ≤ 3) → (0 ≤ p3.toInt ∧ p3.toInt ≤ 3) → TH G ttC A s tag L F H locs → ((∀ b j : Nat, (tag b ≠ 19 ∨ j ≠ 0) → (tag b ≠ 19 ∨ j ≠ 1) → (tag b ≠ 23 ∨ j ≠ 2) → (tag b ≠ 23 ∨ j ≠ 3) → (tag b ≠ 26 ∨ j ≠ 13) → fld F b j = fld Fo b j) ∧ EF tag F Fo) → lv_has ls 8 [(0, .ref p0), (1, .int p1), (2, .int p2), (3, .int p3), (4, .int p4), (5, .int p5), (6, .int z108064)] → W p l e { frames := 3, cells := 0, slots := 0, locals := 80 } s m args below meth c H locs 0 0 Q (F0 m 85 ls []) := by
    intro z108064 F H locs ls rz108064 r9s108062 r9s108063 hT hfr hl
    refine lv_aload_n hx hb dX11_build_85 rfl (lv_at hl 0 rfl) ?_
    refine lv_iconst (v := 2) hx hb dX11_build_86 (by decide) ?_
    refine t_cVi (n := 1) (C := RX11) (T := TX11) (N := 16) (As := [.int 2]) (rest := []) X hT (kt357_X11_refuse l G tag L F hT.2.2.2 p0 2 m0 g0) m0 g0 rfl rfl qw_152 qw_153 qw_154 qw_2 qw_155 ⟨rfl, by decide +kernel, by decide +kernel, by decide +kernel⟩ ⟨Nat.le_of_ble_eq_true rfl, Nat.le_of_ble_eq_true rfl⟩ hl rfl rfl (Nat.le_of_ble_eq_true rfl) dX11_build_87 ⟨Nat.le_of_ble_eq_true rfl, Nat.le_of_ble_eq_true rfl⟩ (fun z108065 F H locs hT hz108065 => ?_)
    obtain ⟨hz108065, yz108065⟩ := hz108065
    have hfr : (∀ b j : Nat, (tag b ≠ 19 ∨ j ≠ 0) → (tag b ≠ 19 ∨ j ≠ 1) → (tag b ≠ 23 ∨ j ≠ 2) → (tag b ≠ 23 ∨ j ≠ 3) → (tag b ≠ 26 ∨ j ≠ 13) → fld F b j = fld Fo b j) ∧ EF tag F Fo := ⟨fun b j n19_0 n19_1 n23_2 n23_3 n26_13 => (yz108065.1 b j n26_13).trans (hfr.1 b j n19_0 n19_1 n23_2 n23_3 n26_13), fun b j hb => (yz108065.2 b j hb).trans (hfr.2 b j hb)⟩
    exact t_iret hQ X hT (⟨rg_all _, hfr⟩) (Nat.le_of_ble_eq_true rfl) (Nat.le_of_ble_eq_true rfl) dX11_build_90
  have K126 : ∀ (z108070 : Int32) (F : Nat → va_E) (H : Heap) (locs : List Loc) (ls : Array Slot), (1 ≤ z108070.toInt ∧ z108070.toInt ≤ 6) → (0 ≤ p1.toInt ∧ p1.toInt ≤ 3) → (0 ≤ p3.toInt ∧ p3.toInt ≤ 3) → (0 ≤ p4.toInt ∧ p4.toInt ≤ 10) → (0 ≤ p5.toInt ∧ p5.toInt ≤ 99) → TH G ttC A s tag L F H locs → ((∀ b j : Nat, (tag b ≠ 19 ∨ j ≠ 0) → (tag b ≠ 19 ∨ j ≠ 1) → (tag b ≠ 23 ∨ j ≠ 2) → (tag b ≠ 23 ∨ j ≠ 3) → (tag b ≠ 26 ∨ j ≠ 13) → fld F b j = fld Fo b j) ∧ EF tag F Fo) → lv_has ls 8 [(0, .ref p0), (1, .int p1), (2, .int p2), (3, .int p3), (4, .int p4), (5, .int p5), (6, .int z108070)] → W p l e { frames := 3, cells := 0, slots := 0, locals := 80 } s m args below meth c H locs 0 0 Q (F0 m 126 ls []) := by
    intro z108070 F H locs ls rz108070 r9s108066 r9s108067 r9s108068 r9s108069 hT hfr hl
    refine lv_aload_n hx hb dX11_build_126 rfl (lv_at hl 0 rfl) ?_
    refine lv_iconst (v := 5) hx hb dX11_build_127 (by decide) ?_
    refine t_cVi (n := 1) (C := RX11) (T := TX11) (N := 16) (As := [.int 5]) (rest := []) X hT (kt357_X11_refuse l G tag L F hT.2.2.2 p0 5 m0 g0) m0 g0 rfl rfl qw_152 qw_153 qw_154 qw_2 qw_155 ⟨rfl, by decide +kernel, by decide +kernel, by decide +kernel⟩ ⟨Nat.le_of_ble_eq_true rfl, Nat.le_of_ble_eq_true rfl⟩ hl rfl rfl (Nat.le_of_ble_eq_true rfl) dX11_build_128 ⟨Nat.le_of_ble_eq_true rfl, Nat.le_of_ble_eq_true rfl⟩ (fun z108071 F H locs hT hz108071 => ?_)
    obtain ⟨hz108071, yz108071⟩ := hz108071
    have hfr : (∀ b j : Nat, (tag b ≠ 19 ∨ j ≠ 0) → (tag b ≠ 19 ∨ j ≠ 1) → (tag b ≠ 23 ∨ j ≠ 2) → (tag b ≠ 23 ∨ j ≠ 3) → (tag b ≠ 26 ∨ j ≠ 13) → fld F b j = fld Fo b j) ∧ EF tag F Fo := ⟨fun b j n19_0 n19_1 n23_2 n23_3 n26_13 => (yz108071.1 b j n26_13).trans (hfr.1 b j n19_0 n19_1 n23_2 n23_3 n26_13), fun b j hb => (yz108071.2 b j hb).trans (hfr.2 b j hb)⟩
    exact t_iret hQ X hT (⟨rg_all _, hfr⟩) (Nat.le_of_ble_eq_true rfl) (Nat.le_of_ble_eq_true rfl) dX11_build_131
  refine lv_aload_n hx hb dX11_build_0 rfl (lv_at hl 0 rfl) ?_
  refine lv_iload_n hx hb dX11_build_1 rfl (lv_at hl 1 rfl) ?_
  refine t_cVi (n := 1) (C := RX11) (T := TX11) (N := 16) (As := [.int p1]) (rest := []) X hT (kt355_X11_isHouse l G tag L F hT.2.2.2 p0 p1 m0 g0) m0 g0 rfl rfl qw_770 qw_771 qw_772 qw_2 qw_773 ⟨rfl, by decide +kernel, by decide +kernel, by decide +kernel⟩ ⟨Nat.le_of_ble_eq_true rfl, Nat.le_of_ble_eq_true rfl⟩ hl rfl rfl (Nat.le_of_ble_eq_true rfl) dX11_build_2 ⟨Nat.le_of_ble_eq_true rfl, Nat.le_of_ble_eq_true rfl⟩ (fun z108072 F9 H locs hT hz108072 => ?_)
  obtain ⟨fz108072, hz108072⟩ := hz108072
  rw [fz108072] at hT
  obtain ⟨hz108072, iz108072⟩ := hz108072
  refine lv_if_eq (tgt := 25) hx hb dX11_build_5 (by decide) (fun c108073 => ?_) (fun c108073 => ?_)
  · have w108074 := cv_eq (rfl : z108072.toInt = z108072.toInt) (by decide : (0 : Int32).toInt = 0) c108073
    exact K25  _ _ _ _  hT hfr  (lv_sub hl [0, 1, 2, 3, 4, 5] rfl)
  · have w108075 := cv_ne (rfl : z108072.toInt = z108072.toInt) (by decide : (0 : Int32).toInt = 0) c108073
    have w108076 := (fun h => (iz108072 h)) (by omega)
    refine lv_aload_n hx hb dX11_build_8 rfl (lv_at hl 0 rfl) ?_
    refine lv_iload_n hx hb dX11_build_9 rfl (lv_at hl 2 rfl) ?_
    refine t_cVi (n := 1) (C := RX11) (T := TX11) (N := 16) (As := [.int p2]) (rest := []) X hT (kt359_X11_isStone l G tag L F hT.2.2.2 p0 p2 m0 g0) m0 g0 rfl rfl qw_954 qw_955 qw_956 qw_2 qw_957 ⟨rfl, by decide +kernel, by decide +kernel, by decide +kernel⟩ ⟨Nat.le_of_ble_eq_true rfl, Nat.le_of_ble_eq_true rfl⟩ hl rfl rfl (Nat.le_of_ble_eq_true rfl) dX11_build_10 ⟨Nat.le_of_ble_eq_true rfl, Nat.le_of_ble_eq_true rfl⟩ (fun z108077 F9 H locs hT hz108077 => ?_)
    obtain ⟨fz108077, hz108077⟩ := hz108077
    rw [fz108077] at hT
    refine lv_if_eq (tgt := 25) hx hb dX11_build_13 (by decide) (fun c108078 => ?_) (fun c108078 => ?_)
    · have w108079 := cv_eq (rfl : z108077.toInt = z108077.toInt) (by decide : (0 : Int32).toInt = 0) c108078
      exact K25  _ _ _ _  hT hfr  (lv_sub hl [0, 1, 2, 3, 4, 5] rfl)
    · have w108080 := cv_ne (rfl : z108077.toInt = z108077.toInt) (by decide : (0 : Int32).toInt = 0) c108078
      refine lv_iload_n hx hb dX11_build_16 rfl (lv_at hl 3 rfl) ?_
      refine lv_if_lt (tgt := 25) hx hb dX11_build_17 (by decide) (fun c108081 => ?_) (fun c108081 => ?_)
      · have w108082 := cv_lt (rfl : p3.toInt = p3.toInt) (by decide : (0 : Int32).toInt = 0) c108081
        exact K25  _ _ _ _  hT hfr  (lv_sub hl [0, 1, 2, 3, 4, 5] rfl)
      · have w108083 := cv_nlt (rfl : p3.toInt = p3.toInt) (by decide : (0 : Int32).toInt = 0) c108081
        refine lv_iload_n hx hb dX11_build_20 rfl (lv_at hl 3 rfl) ?_
        refine lv_iconst (v := 4) hx hb dX11_build_21 (by decide) ?_
        refine lv_icmp_lt (tgt := 31) hx hb dX11_build_22 (by decide) (fun c108084 => ?_) (fun c108084 => ?_)
        · have w108085 := cv_lt (rfl : p3.toInt = p3.toInt) (by decide : (4 : Int32).toInt = 4) c108084
          refine lv_aload_n hx hb dX11_build_31 rfl (lv_at hl 0 rfl) ?_
          refine t_get (C := RX11) (T := TX11) (N := 16) X hT m0 g0 rfl rfl 5 (by decide) qw_23 inlX11 rfl dX11_build_32 (fun v108086 hv108086 ov108086 => ?_)
          obtain ⟨b108087, rfl, mb108087, gb108087⟩ := okV_r ov108086
          have gb108087 : tag b108087 = 19 := tg_of gb108087
          refine t_get (C := RX7) (T := TX7) (N := 7) X hT mb108087 gb108087 rfl rfl 2 (by decide) qw_766 inlX7 rfl dX11_build_35 (fun v108088 hv108088 ov108088 => ?_)
          obtain ⟨b108089, rfl, mb108089, gb108089⟩ := okV_r ov108088
          have gb108089 : tag b108089 = 8 := tg_of gb108089
          refine lv_iload_n hx hb dX11_build_38 rfl (lv_at hl 1 rfl) ?_
          refine t_ild X hT mb108089 gb108089 rfl (by omega) dX11_build_39 (fun z108090 vz108090 rz108090 => ?_)
          have rz108090 : 0 ≤ z108090.toInt ∧ z108090.toInt ≤ 6 := rz108090
          refine lv_iconst (v := 1) hx hb dX11_build_40 (by decide) ?_
          refine lv_iadd hx hb dX11_build_41 ?_
          refine lv_topi (fun z108091 ez108091 => ?_)
          have hz108091 : z108091.toInt = z108090.toInt + 1 := ar_add ez108091 (rfl : z108090.toInt = z108090.toInt) (by decide : (1 : Int32).toInt = 1) (by omega) (by omega)
          have rz108091 : 1 ≤ z108091.toInt ∧ z108091.toInt ≤ 7 := by omega
          refine lv_istore (lv' := [(6, .int z108091), (0, .ref p0), (1, .int p1), (2, .int p2), (3, .int p3), (4, .int p4), (5, .int p5)]) hx hb dX11_build_42 hl (by decide) rfl (fun ls hl => ?_)
          refine lv_iload hx hb dX11_build_44 (lv_at hl 0 rfl) ?_
          refine lv_bipush (v := 6) hx hb dX11_build_46 (by decide) ?_
          refine lv_icmp_le (tgt := 57) hx hb dX11_build_48 (by decide) (fun c108092 => ?_) (fun c108092 => ?_)
          · have w108093 := cv_le (rfl : z108091.toInt = z108091.toInt) (by decide : (6 : Int32).toInt = 6) c108092
            refine lv_iload hx hb dX11_build_57 (lv_at hl 5 rfl) ?_
            refine lv_if_lt (tgt := 85) hx hb dX11_build_59 (by decide) (fun c108094 => ?_) (fun c108094 => ?_)
            · have w108095 := cv_lt (rfl : p4.toInt = p4.toInt) (by decide : (0 : Int32).toInt = 0) c108094
              exact K85 z108091 _ _ _ _ (by omega) (by omega) (by omega) hT hfr  (lv_sub hl [1, 2, 3, 4, 5, 6, 0] rfl)
            · have w108096 := cv_nlt (rfl : p4.toInt = p4.toInt) (by decide : (0 : Int32).toInt = 0) c108094
              refine lv_iload hx hb dX11_build_62 (lv_at hl 5 rfl) ?_
              refine lv_iconst (v := 2) hx hb dX11_build_64 (by decide) ?_
              refine lv_iload hx hb dX11_build_65 (lv_at hl 0 rfl) ?_
              refine lv_imul hx hb dX11_build_67 ?_
              refine lv_topi (fun z108097 ez108097 => ?_)
              have hz108097 : z108097.toInt = 2 * z108091.toInt := ar_mul ez108097 (by decide : (2 : Int32).toInt = 2) (rfl : z108091.toInt = z108091.toInt) (by omega) (by omega)
              have rz108097 : 2 ≤ z108097.toInt ∧ z108097.toInt ≤ 12 := by omega
              refine lv_iconst (v := 2) hx hb dX11_build_68 (by decide) ?_
              refine lv_isub hx hb dX11_build_69 ?_
              refine lv_topi (fun z108098 ez108098 => ?_)
              have hz108098 : z108098.toInt = z108097.toInt - 2 := ar_sub ez108098 (rfl : z108097.toInt = z108097.toInt) (by decide : (2 : Int32).toInt = 2) (by omega) (by omega)
              have rz108098 : 0 ≤ z108098.toInt ∧ z108098.toInt ≤ 10 := by omega
              refine lv_icmp_gt (tgt := 85) hx hb dX11_build_70 (by decide) (fun c108099 => ?_) (fun c108099 => ?_)
              · have w108100 := cv_lt (rfl : z108098.toInt = z108098.toInt) (rfl : p4.toInt = p4.toInt) c108099
                exact K85 z108091 _ _ _ _ (by omega) (by omega) (by omega) hT hfr  (lv_sub hl [1, 2, 3, 4, 5, 6, 0] rfl)
              · have w108101 := cv_nlt (rfl : z108098.toInt = z108098.toInt) (rfl : p4.toInt = p4.toInt) c108099
                refine lv_iload hx hb dX11_build_73 (lv_at hl 6 rfl) ?_
                refine lv_if_lt (tgt := 85) hx hb dX11_build_75 (by decide) (fun c108102 => ?_) (fun c108102 => ?_)
                · have w108103 := cv_lt (rfl : p5.toInt = p5.toInt) (by decide : (0 : Int32).toInt = 0) c108102
                  exact K85 z108091 _ _ _ _ (by omega) (by omega) (by omega) hT hfr  (lv_sub hl [1, 2, 3, 4, 5, 6, 0] rfl)
                · have w108104 := cv_nlt (rfl : p5.toInt = p5.toInt) (by decide : (0 : Int32).toInt = 0) c108102
                  refine lv_iload hx hb dX11_build_78 (lv_at hl 6 rfl) ?_
                  refine lv_bipush (v := 99) hx hb dX11_build_80 (by decide) ?_
                  refine lv_icmp_le (tgt := 91) hx hb dX11_build_82 (by decide) (fun c108105 => ?_) (fun c108105 => ?_)
                  · have w108106 := cv_le (rfl : p5.toInt = p5.toInt) (by decide : (99 : Int32).toInt = 99) c108105
                    refine lv_aload_n hx hb dX11_build_91 rfl (lv_at hl 1 rfl) ?_
                    refine t_get (C := RX11) (T := TX11) (N := 16) X hT m0 g0 rfl rfl 3 (by decide) qw_18 inlX11 rfl dX11_build_92 (fun v108107 hv108107 ov108107 => ?_)
                    obtain ⟨b108108, rfl, mb108108, gb108108⟩ := okV_r ov108107
                    have gb108108 : tag b108108 = 18 := tg_of gb108108
                    refine lv_aload_n hx hb dX11_build_95 rfl (lv_at hl 1 rfl) ?_
                    refine t_get (C := RX11) (T := TX11) (N := 16) X hT m0 g0 rfl rfl 5 (by decide) qw_23 inlX11 rfl dX11_build_96 (fun v108109 hv108109 ov108109 => ?_)
                    obtain rfl : v108109 = .ref b108087 := hv108109.symm.trans hv108086
                    refine lv_iload_n hx hb dX11_build_99 rfl (lv_at hl 2 rfl) ?_
                    refine t_cSi (n := 3) (As := [.ref b108108, .ref b108087, .int p1]) (rest := []) X hT (kt325_X6_isFit l G tag L F hT.2.2.2 b108108 b108087 p1 mb108108 gb108108 mb108087 gb108087 (by omega)) qw_904 qw_403 qw_380 qw_404 ⟨by decide +kernel, by decide +kernel, by decide +kernel⟩ ⟨Nat.le_of_ble_eq_true rfl, Nat.le_of_ble_eq_true rfl⟩ hl rfl rfl (Nat.le_of_ble_eq_true rfl) dX11_build_100 ⟨Nat.le_of_ble_eq_true rfl, Nat.le_of_ble_eq_true rfl⟩ (fun z108110 F9 H locs hT hz108110 => ?_)
                    obtain ⟨fz108110, hz108110⟩ := hz108110
                    rw [fz108110] at hT
                    refine lv_if_eq (tgt := 126) hx hb dX11_build_103 (by decide) (fun c108111 => ?_) (fun c108111 => ?_)
                    · have w108112 := cv_eq (rfl : z108110.toInt = z108110.toInt) (by decide : (0 : Int32).toInt = 0) c108111
                      exact K126 z108091 _ _ _ _ (by omega) (by omega) (by omega) (by omega) (by omega) hT hfr  (lv_sub hl [1, 2, 3, 4, 5, 6, 0] rfl)
                    · have w108113 := cv_ne (rfl : z108110.toInt = z108110.toInt) (by decide : (0 : Int32).toInt = 0) c108111
                      refine lv_aload_n hx hb dX11_build_106 rfl (lv_at hl 1 rfl) ?_
                      refine t_get (C := RX11) (T := TX11) (N := 16) X hT m0 g0 rfl rfl 3 (by decide) qw_18 inlX11 rfl dX11_build_107 (fun v108114 hv108114 ov108114 => ?_)
                      obtain rfl : v108114 = .ref b108108 := hv108114.symm.trans hv108107
                      refine lv_aload_n hx hb dX11_build_110 rfl (lv_at hl 1 rfl) ?_
                      refine t_get (C := RX11) (T := TX11) (N := 16) X hT m0 g0 rfl rfl 5 (by decide) qw_23 inlX11 rfl dX11_build_111 (fun v108115 hv108115 ov108115 => ?_)
                      obtain rfl : v108115 = .ref b108087 := hv108115.symm.trans hv108086
                      refine lv_iload_n hx hb dX11_build_114 rfl (lv_at hl 2 rfl) ?_
                      refine lv_iload hx hb dX11_build_115 (lv_at hl 0 rfl) ?_
                      refine lv_iload_n hx hb dX11_build_117 rfl (lv_at hl 4 rfl) ?_
                      refine lv_iload hx hb dX11_build_118 (lv_at hl 5 rfl) ?_
                      refine t_cSi (n := 6) (As := [.ref b108108, .ref b108087, .int p1, .int z108091, .int p3, .int p4]) (rest := []) X hT (kt337_X6_isFrontFree l G tag L F hT.2.2.2 b108108 b108087 p1 z108091 p3 p4 mb108108 gb108108 mb108087 gb108087 (by omega) (by omega)) qw_1445 qw_782 qw_380 qw_783 ⟨by decide +kernel, by decide +kernel, by decide +kernel⟩ ⟨Nat.le_of_ble_eq_true rfl, Nat.le_of_ble_eq_true rfl⟩ hl rfl rfl (Nat.le_of_ble_eq_true rfl) dX11_build_120 ⟨Nat.le_of_ble_eq_true rfl, Nat.le_of_ble_eq_true rfl⟩ (fun z108116 F9 H locs hT hz108116 => ?_)
                      obtain ⟨fz108116, hz108116⟩ := hz108116
                      rw [fz108116] at hT
                      refine lv_if_ne (tgt := 132) hx hb dX11_build_123 (by decide) (fun c108117 => ?_) (fun c108117 => ?_)
                      · have w108118 := cv_ne (rfl : z108116.toInt = z108116.toInt) (by decide : (0 : Int32).toInt = 0) c108117
                        refine lv_aload_n hx hb dX11_build_132 rfl (lv_at hl 1 rfl) ?_
                        refine t_get (C := RX11) (T := TX11) (N := 16) X hT m0 g0 rfl rfl 3 (by decide) qw_18 inlX11 rfl dX11_build_133 (fun v108119 hv108119 ov108119 => ?_)
                        obtain rfl : v108119 = .ref b108108 := hv108119.symm.trans hv108107
                        refine lv_aload_n hx hb dX11_build_136 rfl (lv_at hl 1 rfl) ?_
                        refine t_get (C := RX11) (T := TX11) (N := 16) X hT m0 g0 rfl rfl 5 (by decide) qw_23 inlX11 rfl dX11_build_137 (fun v108120 hv108120 ov108120 => ?_)
                        obtain rfl : v108120 = .ref b108087 := hv108120.symm.trans hv108086
                        refine lv_iload_n hx hb dX11_build_140 rfl (lv_at hl 2 rfl) ?_
                        refine lv_iload_n hx hb dX11_build_141 rfl (lv_at hl 3 rfl) ?_
                        refine t_cSi (n := 4) (As := [.ref b108108, .ref b108087, .int p1, .int p2]) (rest := []) X hT (kt327_X6_priceOf l G tag L F hT.2.2.2 b108108 b108087 p1 p2 mb108108 gb108108 mb108087 gb108087 (by omega)) qw_959 qw_960 qw_380 qw_961 ⟨by decide +kernel, by decide +kernel, by decide +kernel⟩ ⟨Nat.le_of_ble_eq_true rfl, Nat.le_of_ble_eq_true rfl⟩ hl rfl rfl (Nat.le_of_ble_eq_true rfl) dX11_build_142 ⟨Nat.le_of_ble_eq_true rfl, Nat.le_of_ble_eq_true rfl⟩ (fun z108121 F9 H locs hT hz108121 => ?_)
                        obtain ⟨fz108121, hz108121⟩ := hz108121
                        rw [fz108121] at hT
                        refine lv_istore (lv' := [(7, .int z108121), (6, .int z108091), (0, .ref p0), (1, .int p1), (2, .int p2), (3, .int p3), (4, .int p4), (5, .int p5)]) hx hb dX11_build_145 hl (by decide) rfl (fun ls hl => ?_)
                        refine lv_iload hx hb dX11_build_147 (lv_at hl 0 rfl) ?_
                        refine lv_aload_n hx hb dX11_build_149 rfl (lv_at hl 2 rfl) ?_
                        refine t_get (C := RX11) (T := TX11) (N := 16) X hT m0 g0 rfl rfl 5 (by decide) qw_23 inlX11 rfl dX11_build_150 (fun v108122 hv108122 ov108122 => ?_)
                        obtain rfl : v108122 = .ref b108087 := hv108122.symm.trans hv108086
                        refine t_get (C := RX7) (T := TX7) (N := 7) X hT mb108087 gb108087 rfl rfl 4 (by decide) qw_768 inlX7 rfl dX11_build_153 (fun v108123 hv108123 ov108123 => ?_)
                        obtain ⟨b108124, rfl, mb108124, gb108124⟩ := okV_r ov108123
                        have gb108124 : tag b108124 = 5 := tg_of gb108124
                        refine lv_iload_n hx hb dX11_build_156 rfl (lv_at hl 3 rfl) ?_
                        refine t_ild X hT mb108124 gb108124 rfl (by omega) dX11_build_157 (fun z108125 vz108125 rz108125 => ?_)
                        have rz108125 : (-2147483648) ≤ z108125.toInt ∧ z108125.toInt ≤ 2147483647 := rz108125
                        refine lv_icmp_le (tgt := 168) hx hb dX11_build_158 (by decide) (fun c108126 => ?_) (fun c108126 => ?_)
                        · have w108127 := cv_le (rfl : z108121.toInt = z108121.toInt) (rfl : z108125.toInt = z108125.toInt) c108126
                          refine lv_aload_n hx hb dX11_build_168 rfl (lv_at hl 2 rfl) ?_
                          refine t_get (C := RX11) (T := TX11) (N := 16) X hT m0 g0 rfl rfl 12 (by decide) qw_45 inlX11 rfl dX11_build_169 (fun v108128 hv108128 ov108128 => ?_)
                          obtain ⟨b108129, rfl, mb108129, gb108129⟩ := okV_r ov108128
                          have gb108129 : tag b108129 = 23 := tg_of gb108129
                          refine lv_aload_n hx hb dX11_build_172 rfl (lv_at hl 2 rfl) ?_
                          refine t_get (C := RX11) (T := TX11) (N := 16) X hT m0 g0 rfl rfl 5 (by decide) qw_23 inlX11 rfl dX11_build_173 (fun v108130 hv108130 ov108130 => ?_)
                          obtain rfl : v108130 = .ref b108087 := hv108130.symm.trans hv108086
                          refine t_cVv (n := 1) (C := RX2) (T := TX2) (N := 5) (As := [.ref b108087]) (rest := []) X hT (kt360_X2_keep l G tag L F hT.2.2.2 b108129 b108087 mb108129 gb108129 mb108087 gb108087) mb108129 gb108129 rfl rfl qw_1427 qw_1428 qw_1429 qw_44 qw_1430 ⟨rfl, by decide +kernel, by decide +kernel, by decide +kernel⟩ ⟨Nat.le_of_ble_eq_true rfl, Nat.le_of_ble_eq_true rfl⟩ hl rfl rfl (Nat.le_of_ble_eq_true rfl) dX11_build_176 ⟨Nat.le_of_ble_eq_true rfl, Nat.le_of_ble_eq_true rfl⟩ (fun F H locs hT hz108131 => ?_)
                          have yz108131 := hz108131
                          have hv108086 := (yz108131.1 _ 5 (Or.inr (by decide)) (Or.inr (by decide)) (Or.inr (by decide)) (Or.inr (by decide))).trans hv108086
                          have hv108088 := (yz108131.1 _ 2 (Or.inr (by decide)) (Or.inr (by decide)) (Or.inl (by rw [gb108087]; decide)) (Or.inr (by decide))).trans hv108088
                          have hv108107 := (yz108131.1 _ 3 (Or.inr (by decide)) (Or.inr (by decide)) (Or.inr (by decide)) (Or.inl (by rw [g0]; decide))).trans hv108107
                          have hv108123 := (yz108131.1 _ 4 (Or.inr (by decide)) (Or.inr (by decide)) (Or.inr (by decide)) (Or.inr (by decide))).trans hv108123
                          have hv108128 := (yz108131.1 _ 12 (Or.inr (by decide)) (Or.inr (by decide)) (Or.inr (by decide)) (Or.inr (by decide))).trans hv108128
                          have hfr : (∀ b j : Nat, (tag b ≠ 19 ∨ j ≠ 0) → (tag b ≠ 19 ∨ j ≠ 1) → (tag b ≠ 23 ∨ j ≠ 2) → (tag b ≠ 23 ∨ j ≠ 3) → (tag b ≠ 26 ∨ j ≠ 13) → fld F b j = fld Fo b j) ∧ EF tag F Fo := ⟨fun b j n19_0 n19_1 n23_2 n23_3 n26_13 => (yz108131.1 b j n19_0 n19_1 n23_2 n23_3).trans (hfr.1 b j n19_0 n19_1 n23_2 n23_3 n26_13), fun b j hb => (yz108131.2 b j hb).trans (hfr.2 b j hb)⟩
                          refine lv_aload_n hx hb dX11_build_179 rfl (lv_at hl 2 rfl) ?_
                          refine t_get (C := RX11) (T := TX11) (N := 16) X hT m0 g0 rfl rfl 5 (by decide) qw_23 inlX11 rfl dX11_build_180 (fun v108132 hv108132 ov108132 => ?_)
                          obtain rfl : v108132 = .ref b108087 := hv108132.symm.trans hv108086
                          refine t_get (C := RX7) (T := TX7) (N := 7) X hT mb108087 gb108087 rfl rfl 4 (by decide) qw_768 inlX7 rfl dX11_build_183 (fun v108133 hv108133 ov108133 => ?_)
                          obtain rfl : v108133 = .ref b108124 := hv108133.symm.trans hv108123
                          refine lv_iload_n hx hb dX11_build_186 rfl (lv_at hl 3 rfl) ?_
                          refine lv_dup2_11 hx hb dX11_build_187 rfl rfl ?_
                          refine t_ild X hT mb108124 gb108124 rfl (by omega) dX11_build_188 (fun z108134 vz108134 rz108134 => ?_)
                          have rz108134 : (-2147483648) ≤ z108134.toInt ∧ z108134.toInt ≤ 2147483647 := rz108134
                          refine lv_iload hx hb dX11_build_189 (lv_at hl 0 rfl) ?_
                          refine lv_isub hx hb dX11_build_191 ?_
                          refine lv_topi (fun z108135 ez108135 => ?_)
                          have rz108135 := rg_all z108135
                          refine t_ist X hT mb108124 gb108124 rfl (by omega) (show (-2147483648) ≤ (z108135 : Int32).toInt ∧ (z108135 : Int32).toInt ≤ 2147483647 from (by omega)) dX11_build_192 (fun F H locs hT v108136 h1v108136 h2v108136 => ?_)
                          have hv108086 := (h2v108136 _ _).trans hv108086
                          have hv108088 := (h2v108136 _ _).trans hv108088
                          have hv108107 := (h2v108136 _ _).trans hv108107
                          have hv108123 := (h2v108136 _ _).trans hv108123
                          have hv108128 := (h2v108136 _ _).trans hv108128
                          have hfr : (∀ b j : Nat, (tag b ≠ 19 ∨ j ≠ 0) → (tag b ≠ 19 ∨ j ≠ 1) → (tag b ≠ 23 ∨ j ≠ 2) → (tag b ≠ 23 ∨ j ≠ 3) → (tag b ≠ 26 ∨ j ≠ 13) → fld F b j = fld Fo b j) ∧ EF tag F Fo := ⟨fun b j n19_0 n19_1 n23_2 n23_3 n26_13 => (h2v108136 b j).trans (hfr.1 b j n19_0 n19_1 n23_2 n23_3 n26_13), fun b j hb => (h1v108136 b j (Or.inl (ns_ne hb gb108124 (by decide)))).trans (hfr.2 b j hb)⟩
                          refine lv_aload_n hx hb dX11_build_193 rfl (lv_at hl 2 rfl) ?_
                          refine t_get (C := RX11) (T := TX11) (N := 16) X hT m0 g0 rfl rfl 5 (by decide) qw_23 inlX11 rfl dX11_build_194 (fun v108137 hv108137 ov108137 => ?_)
                          obtain rfl : v108137 = .ref b108087 := hv108137.symm.trans hv108086
                          refine lv_iload_n hx hb dX11_build_197 rfl (lv_at hl 3 rfl) ?_
                          refine lv_iload_n hx hb dX11_build_198 rfl (lv_at hl 4 rfl) ?_
                          refine lv_iload_n hx hb dX11_build_199 rfl (lv_at hl 5 rfl) ?_
                          refine lv_iload hx hb dX11_build_200 (lv_at hl 6 rfl) ?_
                          refine lv_iload hx hb dX11_build_202 (lv_at hl 7 rfl) ?_
                          refine lv_aload_n hx hb dX11_build_204 rfl (lv_at hl 2 rfl) ?_
                          refine t_get (C := RX11) (T := TX11) (N := 16) X hT m0 g0 rfl rfl 5 (by decide) qw_23 inlX11 rfl dX11_build_205 (fun v108138 hv108138 ov108138 => ?_)
                          obtain rfl : v108138 = .ref b108087 := hv108138.symm.trans hv108086
                          refine t_get (C := RX7) (T := TX7) (N := 7) X hT mb108087 gb108087 rfl rfl 0 (by decide) qw_1225 inlX7 rfl dX11_build_208 (fun v108139 hv108139 ov108139 => ?_)
                          obtain ⟨z108140, rfl, rz108140⟩ := okV_i ov108139
                          refine t_cVv (n := 6) (C := RX7) (T := TX7) (N := 7) (As := [.int p1, .int p2, .int p3, .int p4, .int p5, .int z108140]) (rest := []) X hT (kt311_X7_addSkin l G tag L F hT.2.2.2 b108087 p1 p2 p3 p4 p5 z108140 mb108087 gb108087 (by omega)) mb108087 gb108087 rfl rfl qw_1226 qw_419 qw_420 qw_22 qw_421 ⟨rfl, by decide +kernel, by decide +kernel, by decide +kernel⟩ ⟨Nat.le_of_ble_eq_true rfl, Nat.le_of_ble_eq_true rfl⟩ hl rfl rfl (Nat.le_of_ble_eq_true rfl) dX11_build_211 ⟨Nat.le_of_ble_eq_true rfl, Nat.le_of_ble_eq_true rfl⟩ (fun F H locs hT hz108141 => ?_)
                          have yz108141 := hz108141
                          have hv108086 := (yz108141.1 _ 5 ).trans hv108086
                          have hv108088 := (yz108141.1 _ 2 ).trans hv108088
                          have hv108107 := (yz108141.1 _ 3 ).trans hv108107
                          have hv108123 := (yz108141.1 _ 4 ).trans hv108123
                          have hv108128 := (yz108141.1 _ 12 ).trans hv108128
                          have hv108139 := (yz108141.1 _ 0 ).trans hv108139
                          have hfr : (∀ b j : Nat, (tag b ≠ 19 ∨ j ≠ 0) → (tag b ≠ 19 ∨ j ≠ 1) → (tag b ≠ 23 ∨ j ≠ 2) → (tag b ≠ 23 ∨ j ≠ 3) → (tag b ≠ 26 ∨ j ≠ 13) → fld F b j = fld Fo b j) ∧ EF tag F Fo := ⟨fun b j n19_0 n19_1 n23_2 n23_3 n26_13 => (yz108141.1 b j ).trans (hfr.1 b j n19_0 n19_1 n23_2 n23_3 n26_13), fun b j hb => (yz108141.2 b j hb).trans (hfr.2 b j hb)⟩
                          refine lv_aload_n hx hb dX11_build_214 rfl (lv_at hl 2 rfl) ?_
                          refine lv_iload hx hb dX11_build_215 (lv_at hl 0 rfl) ?_
                          refine t_cVi (n := 1) (C := RX11) (T := TX11) (N := 16) (As := [.int z108121]) (rest := []) X hT (kt350_X11_answer l G tag L F hT.2.2.2 p0 z108121 m0 g0) m0 g0 rfl rfl qw_463 qw_464 qw_465 qw_2 qw_466 ⟨rfl, by decide +kernel, by decide +kernel, by decide +kernel⟩ ⟨Nat.le_of_ble_eq_true rfl, Nat.le_of_ble_eq_true rfl⟩ hl rfl rfl (Nat.le_of_ble_eq_true rfl) dX11_build_217 ⟨Nat.le_of_ble_eq_true rfl, Nat.le_of_ble_eq_true rfl⟩ (fun z108142 F H locs hT hz108142 => ?_)
                          obtain ⟨hz108142, yz108142⟩ := hz108142
                          have hv108086 := (yz108142.1 _ 5 (Or.inr (by decide))).trans hv108086
                          have hv108088 := (yz108142.1 _ 2 (Or.inr (by decide))).trans hv108088
                          have hv108107 := (yz108142.1 _ 3 (Or.inr (by decide))).trans hv108107
                          have hv108123 := (yz108142.1 _ 4 (Or.inr (by decide))).trans hv108123
                          have hv108128 := (yz108142.1 _ 12 (Or.inr (by decide))).trans hv108128
                          have hv108139 := (yz108142.1 _ 0 (Or.inr (by decide))).trans hv108139
                          have hfr : (∀ b j : Nat, (tag b ≠ 19 ∨ j ≠ 0) → (tag b ≠ 19 ∨ j ≠ 1) → (tag b ≠ 23 ∨ j ≠ 2) → (tag b ≠ 23 ∨ j ≠ 3) → (tag b ≠ 26 ∨ j ≠ 13) → fld F b j = fld Fo b j) ∧ EF tag F Fo := ⟨fun b j n19_0 n19_1 n23_2 n23_3 n26_13 => (yz108142.1 b j n26_13).trans (hfr.1 b j n19_0 n19_1 n23_2 n23_3 n26_13), fun b j hb => (yz108142.2 b j hb).trans (hfr.2 b j hb)⟩
                          exact t_iret hQ X hT (⟨rg_all _, hfr⟩) (Nat.le_of_ble_eq_true rfl) (Nat.le_of_ble_eq_true rfl) dX11_build_220
                        · have w108143 := cv_nle (rfl : z108121.toInt = z108121.toInt) (rfl : z108125.toInt = z108125.toInt) c108126
                          refine lv_aload_n hx hb dX11_build_161 rfl (lv_at hl 2 rfl) ?_
                          refine lv_bipush (v := 6) hx hb dX11_build_162 (by decide) ?_
                          refine t_cVi (n := 1) (C := RX11) (T := TX11) (N := 16) (As := [.int 6]) (rest := []) X hT (kt357_X11_refuse l G tag L F hT.2.2.2 p0 6 m0 g0) m0 g0 rfl rfl qw_152 qw_153 qw_154 qw_2 qw_155 ⟨rfl, by decide +kernel, by decide +kernel, by decide +kernel⟩ ⟨Nat.le_of_ble_eq_true rfl, Nat.le_of_ble_eq_true rfl⟩ hl rfl rfl (Nat.le_of_ble_eq_true rfl) dX11_build_164 ⟨Nat.le_of_ble_eq_true rfl, Nat.le_of_ble_eq_true rfl⟩ (fun z108144 F H locs hT hz108144 => ?_)
                          obtain ⟨hz108144, yz108144⟩ := hz108144
                          have hv108086 := (yz108144.1 _ 5 (Or.inr (by decide))).trans hv108086
                          have hv108088 := (yz108144.1 _ 2 (Or.inr (by decide))).trans hv108088
                          have hv108107 := (yz108144.1 _ 3 (Or.inr (by decide))).trans hv108107
                          have hv108123 := (yz108144.1 _ 4 (Or.inr (by decide))).trans hv108123
                          have hfr : (∀ b j : Nat, (tag b ≠ 19 ∨ j ≠ 0) → (tag b ≠ 19 ∨ j ≠ 1) → (tag b ≠ 23 ∨ j ≠ 2) → (tag b ≠ 23 ∨ j ≠ 3) → (tag b ≠ 26 ∨ j ≠ 13) → fld F b j = fld Fo b j) ∧ EF tag F Fo := ⟨fun b j n19_0 n19_1 n23_2 n23_3 n26_13 => (yz108144.1 b j n26_13).trans (hfr.1 b j n19_0 n19_1 n23_2 n23_3 n26_13), fun b j hb => (yz108144.2 b j hb).trans (hfr.2 b j hb)⟩
                          exact t_iret hQ X hT (⟨rg_all _, hfr⟩) (Nat.le_of_ble_eq_true rfl) (Nat.le_of_ble_eq_true rfl) dX11_build_167
                      · have w108145 := cv_eq (rfl : z108116.toInt = z108116.toInt) (by decide : (0 : Int32).toInt = 0) c108117
                        exact K126 z108091 _ _ _ _ (by omega) (by omega) (by omega) (by omega) (by omega) hT hfr  (lv_sub hl [1, 2, 3, 4, 5, 6, 0] rfl)
                  · have w108146 := cv_nle (rfl : p5.toInt = p5.toInt) (by decide : (99 : Int32).toInt = 99) c108105
                    exact K85 z108091 _ _ _ _ (by omega) (by omega) (by omega) hT hfr  (lv_sub hl [1, 2, 3, 4, 5, 6, 0] rfl)
          · have w108147 := cv_nle (rfl : z108091.toInt = z108091.toInt) (by decide : (6 : Int32).toInt = 6) c108092
            refine lv_aload_n hx hb dX11_build_51 rfl (lv_at hl 1 rfl) ?_
            refine lv_iconst (v := 3) hx hb dX11_build_52 (by decide) ?_
            refine t_cVi (n := 1) (C := RX11) (T := TX11) (N := 16) (As := [.int 3]) (rest := []) X hT (kt357_X11_refuse l G tag L F hT.2.2.2 p0 3 m0 g0) m0 g0 rfl rfl qw_152 qw_153 qw_154 qw_2 qw_155 ⟨rfl, by decide +kernel, by decide +kernel, by decide +kernel⟩ ⟨Nat.le_of_ble_eq_true rfl, Nat.le_of_ble_eq_true rfl⟩ hl rfl rfl (Nat.le_of_ble_eq_true rfl) dX11_build_53 ⟨Nat.le_of_ble_eq_true rfl, Nat.le_of_ble_eq_true rfl⟩ (fun z108148 F H locs hT hz108148 => ?_)
            obtain ⟨hz108148, yz108148⟩ := hz108148
            have hv108086 := (yz108148.1 _ 5 (Or.inr (by decide))).trans hv108086
            have hv108088 := (yz108148.1 _ 2 (Or.inr (by decide))).trans hv108088
            have hfr : (∀ b j : Nat, (tag b ≠ 19 ∨ j ≠ 0) → (tag b ≠ 19 ∨ j ≠ 1) → (tag b ≠ 23 ∨ j ≠ 2) → (tag b ≠ 23 ∨ j ≠ 3) → (tag b ≠ 26 ∨ j ≠ 13) → fld F b j = fld Fo b j) ∧ EF tag F Fo := ⟨fun b j n19_0 n19_1 n23_2 n23_3 n26_13 => (yz108148.1 b j n26_13).trans (hfr.1 b j n19_0 n19_1 n23_2 n23_3 n26_13), fun b j hb => (yz108148.2 b j hb).trans (hfr.2 b j hb)⟩
            exact t_iret hQ X hT (⟨rg_all _, hfr⟩) (Nat.le_of_ble_eq_true rfl) (Nat.le_of_ble_eq_true rfl) dX11_build_56
        · have w108149 := cv_nlt (rfl : p3.toInt = p3.toInt) (by decide : (4 : Int32).toInt = 4) c108084
          exact K25  _ _ _ _  hT hfr  (lv_sub hl [0, 1, 2, 3, 4, 5] rfl)
