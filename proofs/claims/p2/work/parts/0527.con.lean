set_option maxHeartbeats 4000000 in
set_option maxRecDepth 100000 in
theorem kt220_X6_isShut (l : Launch) (G : KG) (tag : Nat → Nat) (L : List Nat) (F : Nat → va_E) (ho : okT G ttC tag L F) (p0 : Nat) (p1 : Nat) (p2 : Int32) (m0 : p0 ∈ L) (g0 : tag p0 = 18) (m1 : p1 ∈ L) (g1 : tag p1 = 19) (h2 : 0 ≤ p2.toInt ∧ p2.toInt ≤ 3) : TMi l yX6_isShut cX6_isShut 5 (some .boolean) { frames := 3, cells := 0, slots := 0, locals := 77 } G ttC tag L F [.ref p0, .ref p1, .int p2] (fun r F1 => F1 = F ∧ (0 ≤ r.toInt ∧ r.toInt ≤ 1)) := by
  refine t_bodyi (y := yX6_isShut) (cd := cX6_isShut) (mL := 5) (rt := (some .boolean)) (rm := { frames := 3, cells := 0, slots := 0, locals := 77 }) (av := [.ref p0, .ref p1, .int p2]) (by decide) (Nat.le_of_ble_eq_true rfl) ho ?_
  intro p e s m args below meth c ls A Q hQ X hT hl
  have hx := X.1.1
  have hb := X.1.2.1
  have hl : lv_has ls 5 [(0, .ref p0), (1, .ref p1), (2, .int p2)] := hl
  refine lv_aload_n hx hb dX6_isShut_0 rfl (lv_at hl 1 rfl) ?_
  refine t_get (C := RX7) (T := TX7) (N := 7) X hT m1 g1 rfl rfl 2 (by decide) qw_383 inlX7 rfl dX6_isShut_1 (fun v77739 hv77739 ov77739 => ?_)
  obtain ⟨b77740, rfl, mb77740, gb77740⟩ := okV_r ov77739
  have gb77740 : tag b77740 = 8 := tg_of gb77740
  refine lv_iload_n hx hb dX6_isShut_4 rfl (lv_at hl 2 rfl) ?_
  refine t_ild X hT mb77740 gb77740 rfl (by omega) dX6_isShut_5 (fun z77741 vz77741 rz77741 => ?_)
  have rz77741 : 0 ≤ z77741.toInt ∧ z77741.toInt ≤ 6 := rz77741
  refine lv_istore_n (lv' := [(3, .int z77741), (0, .ref p0), (1, .ref p1), (2, .int p2)]) hx hb dX6_isShut_6 rfl hl (by decide) rfl (fun ls hl => ?_)
  refine lv_iload_n hx hb dX6_isShut_7 rfl (lv_at hl 0 rfl) ?_
  refine lv_if_ne (tgt := 13) hx hb dX6_isShut_8 (by decide) (fun c77742 => ?_) (fun c77742 => ?_)
  · have w77743 := cv_ne (rfl : z77741.toInt = z77741.toInt) (by decide : (0 : Int32).toInt = 0) c77742
    refine lv_aload_n hx hb dX6_isShut_13 rfl (lv_at hl 2 rfl) ?_
    refine lv_iload_n hx hb dX6_isShut_14 rfl (lv_at hl 3 rfl) ?_
    refine lv_iload_n hx hb dX6_isShut_15 rfl (lv_at hl 0 rfl) ?_
    refine lv_iconst (v := 1) hx hb dX6_isShut_16 (by decide) ?_
    refine t_cVi (n := 3) (C := RX7) (T := TX7) (N := 7) (As := [.int p2, .int z77741, .int 1]) (rest := []) X hT (kt19_X7_partOf l G tag L F hT.2.2.2 p1 p2 z77741 1 m1 g1) m1 g1 rfl rfl qw_777 qw_778 qw_779 qw_22 qw_780 ⟨rfl, by decide +kernel, by decide +kernel, by decide +kernel⟩ ⟨Nat.le_of_ble_eq_true rfl, Nat.le_of_ble_eq_true rfl⟩ hl rfl rfl (Nat.le_of_ble_eq_true rfl) dX6_isShut_17 ⟨Nat.le_of_ble_eq_true rfl, Nat.le_of_ble_eq_true rfl⟩ (fun z77744 F9 H locs hT hz77744 => ?_)
    obtain ⟨fz77744, hz77744⟩ := hz77744
    rw [fz77744] at hT
    refine lv_istore (lv' := [(4, .int z77744), (3, .int z77741), (0, .ref p0), (1, .ref p1), (2, .int p2)]) hx hb dX6_isShut_20 hl (by decide) rfl (fun ls hl => ?_)
    refine lv_iload hx hb dX6_isShut_22 (lv_at hl 0 rfl) ?_
    refine lv_if_lt (tgt := 33) hx hb dX6_isShut_24 (by decide) (fun c77745 => ?_) (fun c77745 => ?_)
    · have w77746 := cv_lt (rfl : z77744.toInt = z77744.toInt) (by decide : (0 : Int32).toInt = 0) c77745
      refine lv_iconst (v := 0) hx hb dX6_isShut_33 (by decide) ?_
      exact t_zret hQ X hT (by decide) (⟨rfl, (by decide)⟩) (Nat.le_of_ble_eq_true rfl) (Nat.le_of_ble_eq_true rfl) dX6_isShut_34
    · have w77747 := cv_nlt (rfl : z77744.toInt = z77744.toInt) (by decide : (0 : Int32).toInt = 0) c77745
      refine lv_iload hx hb dX6_isShut_27 (lv_at hl 0 rfl) ?_
      refine lv_iconst (v := 4) hx hb dX6_isShut_29 (by decide) ?_
      refine lv_icmp_lt (tgt := 35) hx hb dX6_isShut_30 (by decide) (fun c77748 => ?_) (fun c77748 => ?_)
      · have w77749 := cv_lt (rfl : z77744.toInt = z77744.toInt) (by decide : (4 : Int32).toInt = 4) c77748
        refine lv_aload_n hx hb dX6_isShut_35 rfl (lv_at hl 2 rfl) ?_
        refine lv_aload_n hx hb dX6_isShut_36 rfl (lv_at hl 3 rfl) ?_
        refine lv_iload_n hx hb dX6_isShut_37 rfl (lv_at hl 4 rfl) ?_
        refine lv_iload_n hx hb dX6_isShut_38 rfl (lv_at hl 1 rfl) ?_
        refine lv_iload hx hb dX6_isShut_39 (lv_at hl 0 rfl) ?_
        refine lv_aload_n hx hb dX6_isShut_41 rfl (lv_at hl 3 rfl) ?_
        refine lv_iload_n hx hb dX6_isShut_42 rfl (lv_at hl 4 rfl) ?_
        refine lv_iload_n hx hb dX6_isShut_43 rfl (lv_at hl 1 rfl) ?_
        refine lv_iconst (v := 2) hx hb dX6_isShut_44 (by decide) ?_
        refine t_cVi (n := 3) (C := RX7) (T := TX7) (N := 7) (As := [.int p2, .int z77741, .int 2]) (rest := [.int z77744, .int z77741, .int p2, .ref p1, .ref p0]) X hT (kt19_X7_partOf l G tag L F hT.2.2.2 p1 p2 z77741 2 m1 g1) m1 g1 rfl rfl qw_777 qw_778 qw_779 qw_22 qw_780 ⟨rfl, by decide +kernel, by decide +kernel, by decide +kernel⟩ ⟨Nat.le_of_ble_eq_true rfl, Nat.le_of_ble_eq_true rfl⟩ hl rfl rfl (Nat.le_of_ble_eq_true rfl) dX6_isShut_45 ⟨Nat.le_of_ble_eq_true rfl, Nat.le_of_ble_eq_true rfl⟩ (fun z77750 F9 H locs hT hz77750 => ?_)
        obtain ⟨fz77750, hz77750⟩ := hz77750
        rw [fz77750] at hT
        refine t_cSi (n := 6) (As := [.ref p0, .ref p1, .int p2, .int z77741, .int z77744, .int z77750]) (rest := []) X hT (kt68_X6_isFrontFree l G tag L F hT.2.2.2 p0 p1 p2 z77741 z77744 z77750 m0 g0 m1 g1 (by omega) (by omega)) qw_781 qw_782 qw_380 qw_783 ⟨by decide +kernel, by decide +kernel, by decide +kernel⟩ ⟨Nat.le_of_ble_eq_true rfl, Nat.le_of_ble_eq_true rfl⟩ hl rfl rfl (Nat.le_of_ble_eq_true rfl) dX6_isShut_48 ⟨Nat.le_of_ble_eq_true rfl, Nat.le_of_ble_eq_true rfl⟩ (fun z77751 F9 H locs hT hz77751 => ?_)
        obtain ⟨fz77751, hz77751⟩ := hz77751
        rw [fz77751] at hT
        refine lv_if_ne (tgt := 58) hx hb dX6_isShut_51 (by decide) (fun c77752 => ?_) (fun c77752 => ?_)
        · have w77753 := cv_ne (rfl : z77751.toInt = z77751.toInt) (by decide : (0 : Int32).toInt = 0) c77752
          refine lv_iconst (v := 0) hx hb dX6_isShut_58 (by decide) ?_
          exact t_zret hQ X hT (by decide) (⟨rfl, (by decide)⟩) (Nat.le_of_ble_eq_true rfl) (Nat.le_of_ble_eq_true rfl) dX6_isShut_59
        · have w77754 := cv_eq (rfl : z77751.toInt = z77751.toInt) (by decide : (0 : Int32).toInt = 0) c77752
          refine lv_iconst (v := 1) hx hb dX6_isShut_54 (by decide) ?_
          refine lv_goto (tgt := 59) hx hb dX6_isShut_55 (by decide) ?_
          exact t_zret hQ X hT (by decide) (⟨rfl, (by decide)⟩) (Nat.le_of_ble_eq_true rfl) (Nat.le_of_ble_eq_true rfl) dX6_isShut_59
      · have w77755 := cv_nlt (rfl : z77744.toInt = z77744.toInt) (by decide : (4 : Int32).toInt = 4) c77748
        refine lv_iconst (v := 0) hx hb dX6_isShut_33 (by decide) ?_
        exact t_zret hQ X hT (by decide) (⟨rfl, (by decide)⟩) (Nat.le_of_ble_eq_true rfl) (Nat.le_of_ble_eq_true rfl) dX6_isShut_34
  · have w77756 := cv_eq (rfl : z77741.toInt = z77741.toInt) (by decide : (0 : Int32).toInt = 0) c77742
    refine lv_iconst (v := 0) hx hb dX6_isShut_11 (by decide) ?_
    exact t_zret hQ X hT (by decide) (⟨rfl, (by decide)⟩) (Nat.le_of_ble_eq_true rfl) (Nat.le_of_ble_eq_true rfl) dX6_isShut_12
set_option maxHeartbeats 4000000 in
set_option maxRecDepth 100000 in
theorem kt221_X6_lawDoor (l : Launch) (G : KG) (tag : Nat → Nat) (L : List Nat) (F : Nat → va_E) (ho : okT G ttC tag L F) (p0 : Nat) (p1 : Nat) (p2 : Int32) (m0 : p0 ∈ L) (g0 : tag p0 = 18) (m1 : p1 ∈ L) (g1 : tag p1 = 19) (h2 : 0 ≤ p2.toInt ∧ p2.toInt ≤ 3) : TMi l yX6_lawDoor cX6_lawDoor 12 (some .int) { frames := 3, cells := 0, slots := 0, locals := 77 } G ttC tag L F [.ref p0, .ref p1, .int p2] (fun r F1 => F1 = F ∧ ((-2) ≤ r.toInt ∧ r.toInt ≤ 900)) := by
  refine t_bodyi (y := yX6_lawDoor) (cd := cX6_lawDoor) (mL := 12) (rt := (some .int)) (rm := { frames := 3, cells := 0, slots := 0, locals := 77 }) (av := [.ref p0, .ref p1, .int p2]) (by decide) (Nat.le_of_ble_eq_true rfl) ho ?_
  intro p e s m args below meth c ls A Q hQ X hT hl
  have hx := X.1.1
  have hb := X.1.2.1
  have hl : lv_has ls 12 [(0, .ref p0), (1, .ref p1), (2, .int p2)] := hl
  have K42 : ∀ (n : Nat) (z79197 : Int32) (z79198 : Int32) (z79199 : Int32) (z79200 : Int32) (z79201 : Int32) (z79202 : Int32) (H : Heap) (locs : List Loc) (ls : Array Slot), (4 - z79202.toInt < (n : Int)) → (0 ≤ z79197.toInt ∧ z79197.toInt ≤ 6) → (1 ≤ z79198.toInt ∧ z79198.toInt ≤ 7) → ((-2) ≤ z79200.toInt ∧ z79200.toInt ≤ 900) → (0 ≤ z79202.toInt ∧ z79202.toInt ≤ 4) → TH G ttC A s tag L F H locs → lv_has ls 12 [(0, .ref p0), (1, .ref p1), (2, .int p2), (3, .int z79197), (4, .int z79198), (5, .int z79199), (6, .int z79200), (7, .int z79201), (8, .int z79202)] → W p l e { frames := 3, cells := 0, slots := 0, locals := 77 } s m args below meth c H locs 0 0 Q (F0 m 42 ls []) := by
    intro n
    induction n with
    | zero =>
      intro z79197 z79198 z79199 z79200 z79201 z79202 H locs ls hn rz79197 rz79198 rz79200 rz79202 hT hl
      have rz79199 := rg_all z79199
      have rz79201 := rg_all z79201
      exfalso
      omega
    | succ n ih42 =>
      intro z79197 z79198 z79199 z79200 z79201 z79202 H locs ls hn rz79197 rz79198 rz79200 rz79202 hT hl
      have rz79199 := rg_all z79199
      have rz79201 := rg_all z79201
      have K51 : ∀ (n : Nat) (z79203 : Int32) (z79204 : Int32) (z79206 : Int32) (H : Heap) (locs : List Loc) (ls : Array Slot), (13 - z79206.toInt < (n : Int)) → ((-2) ≤ z79203.toInt ∧ z79203.toInt ≤ 900) → (0 ≤ z79206.toInt ∧ z79206.toInt ≤ 13) → (0 ≤ z79202.toInt ∧ z79202.toInt ≤ 3) → TH G ttC A s tag L F H locs → lv_has ls 12 [(0, .ref p0), (1, .ref p1), (2, .int p2), (3, .int z79197), (4, .int z79198), (5, .int z79199), (6, .int z79203), (7, .int z79204), (8, .int z79202), (9, .int z79206)] → W p l e { frames := 3, cells := 0, slots := 0, locals := 77 } s m args below meth c H locs 0 0 Q (F0 m 51 ls []) := by
        intro n
        induction n with
        | zero =>
          intro z79203 z79204 z79206 H locs ls hn rz79203 rz79206 r9s79205 hT hl
          have rz79204 := rg_all z79204
          exfalso
          omega
        | succ n ih51 =>
          intro z79203 z79204 z79206 H locs ls hn rz79203 rz79206 r9s79205 hT hl
          have rz79204 := rg_all z79204
          have K160 : ∀ (z79207 : Int32) (z79208 : Int32) (z79210 : Int32) (z79211 : Int32) (H : Heap) (locs : List Loc) (ls : Array Slot), ((-2) ≤ z79207.toInt ∧ z79207.toInt ≤ 900) → (0 ≤ z79211.toInt ∧ z79211.toInt ≤ 1) → (0 ≤ z79206.toInt ∧ z79206.toInt ≤ 12) → TH G ttC A s tag L F H locs → lv_has ls 12 [(0, .ref p0), (1, .ref p1), (2, .int p2), (3, .int z79197), (4, .int z79198), (5, .int z79199), (6, .int z79207), (7, .int z79208), (8, .int z79202), (9, .int z79206), (10, .int z79210), (11, .int z79211)] → W p l e { frames := 3, cells := 0, slots := 0, locals := 77 } s m args below meth c H locs 0 0 Q (F0 m 160 ls []) := by
            intro z79207 z79208 z79210 z79211 H locs ls rz79207 rz79211 r9s79209 hT hl
            have rz79208 := rg_all z79208
            have rz79210 := rg_all z79210
            obtain ⟨z79212, ez79212⟩ : ∃ y : Int32, y = z79206 + 1 := ⟨_, rfl⟩
            have hz79212 : z79212.toInt = z79206.toInt + 1 := ar_add ez79212 rfl (by decide : (1 : Int32).toInt = 1) (by omega) (by omega)
            refine lv_iinc (v := z79212) (lv' := [(9, .int z79212), (0, .ref p0), (1, .ref p1), (2, .int p2), (3, .int z79197), (4, .int z79198), (5, .int z79199), (6, .int z79207), (7, .int z79208), (8, .int z79202), (10, .int z79210), (11, .int z79211)]) hx hb dX6_lawDoor_160 hl (k := 9) rfl (by rw [ez79212]; rfl) (by decide) rfl (fun ls hl => ?_)
            refine lv_goto (tgt := 51) hx hb dX6_lawDoor_163 (by decide) ?_
            exact ih51 z79207 z79208 z79212 _ _ _ (by omega) (by omega) (by omega) (by omega) hT  (lv_sub hl [1, 2, 3, 4, 5, 6, 7, 8, 9, 0] rfl)
          have K124 : ∀ (z79214 : Int32) (z79215 : Int32) (H : Heap) (locs : List Loc) (ls : Array Slot), (0 ≤ z79215.toInt ∧ z79215.toInt ≤ 1) → (0 ≤ z79206.toInt ∧ z79206.toInt ≤ 12) → TH G ttC A s tag L F H locs → lv_has ls 12 [(0, .ref p0), (1, .ref p1), (2, .int p2), (3, .int z79197), (4, .int z79198), (5, .int z79199), (6, .int z79203), (7, .int z79204), (8, .int z79202), (9, .int z79206), (10, .int z79214)] → W p l e { frames := 3, cells := 0, slots := 0, locals := 77 } s m args below meth c H locs 0 0 Q (F0 m 124 ls [.int z79215]) := by
            intro z79214 z79215 H locs ls rz79215 r9s79213 hT hl
            have rz79214 := rg_all z79214
            refine lv_istore (lv' := [(11, .int z79215), (0, .ref p0), (1, .ref p1), (2, .int p2), (3, .int z79197), (4, .int z79198), (5, .int z79199), (6, .int z79203), (7, .int z79204), (8, .int z79202), (9, .int z79206), (10, .int z79214)]) hx hb dX6_lawDoor_124 hl (by decide) rfl (fun ls hl => ?_)
            refine lv_iload hx hb dX6_lawDoor_126 (lv_at hl 0 rfl) ?_
            refine lv_if_eq (tgt := 160) hx hb dX6_lawDoor_128 (by decide) (fun c79216 => ?_) (fun c79216 => ?_)
            · have w79217 := cv_eq (rfl : z79215.toInt = z79215.toInt) (by decide : (0 : Int32).toInt = 0) c79216
              exact K160 z79203 z79204 z79214 z79215 _ _ _ (by omega) (by omega) (by omega) hT  (lv_sub hl [1, 2, 3, 4, 5, 6, 7, 8, 9, 10, 11, 0] rfl)
            · have w79218 := cv_ne (rfl : z79215.toInt = z79215.toInt) (by decide : (0 : Int32).toInt = 0) c79216
              refine lv_aload_n hx hb dX6_lawDoor_131 rfl (lv_at hl 1 rfl) ?_
              refine lv_aload_n hx hb dX6_lawDoor_132 rfl (lv_at hl 2 rfl) ?_
              refine lv_iload_n hx hb dX6_lawDoor_133 rfl (lv_at hl 3 rfl) ?_
              refine lv_iload hx hb dX6_lawDoor_134 (lv_at hl 5 rfl) ?_
              refine lv_iload hx hb dX6_lawDoor_136 (lv_at hl 9 rfl) ?_
              refine lv_iload hx hb dX6_lawDoor_138 (lv_at hl 10 rfl) ?_
              refine t_cSi (n := 6) (As := [.ref p0, .ref p1, .int p2, .int z79198, .int z79202, .int z79206]) (rest := []) X hT (kt68_X6_isFrontFree l G tag L F hT.2.2.2 p0 p1 p2 z79198 z79202 z79206 m0 g0 m1 g1 (by omega) (by omega)) qw_781 qw_782 qw_380 qw_783 ⟨by decide +kernel, by decide +kernel, by decide +kernel⟩ ⟨Nat.le_of_ble_eq_true rfl, Nat.le_of_ble_eq_true rfl⟩ hl rfl rfl (Nat.le_of_ble_eq_true rfl) dX6_lawDoor_140 ⟨Nat.le_of_ble_eq_true rfl, Nat.le_of_ble_eq_true rfl⟩ (fun z79219 F9 H locs hT hz79219 => ?_)
              obtain ⟨fz79219, hz79219⟩ := hz79219
              rw [fz79219] at hT
              refine lv_if_eq (tgt := 160) hx hb dX6_lawDoor_143 (by decide) (fun c79220 => ?_) (fun c79220 => ?_)
              · have w79221 := cv_eq (rfl : z79219.toInt = z79219.toInt) (by decide : (0 : Int32).toInt = 0) c79220
                exact K160 z79203 z79204 z79214 z79215 _ _ _ (by omega) (by omega) (by omega) hT  (lv_sub hl [1, 2, 3, 4, 5, 6, 7, 8, 9, 10, 11, 0] rfl)
              · have w79222 := cv_ne (rfl : z79219.toInt = z79219.toInt) (by decide : (0 : Int32).toInt = 0) c79220
                refine lv_bipush (v := 100) hx hb dX6_lawDoor_146 (by decide) ?_
                refine lv_iload hx hb dX6_lawDoor_148 (lv_at hl 9 rfl) ?_
                refine lv_imul hx hb dX6_lawDoor_150 ?_
                refine lv_topi (fun z79223 ez79223 => ?_)
                have hz79223 : z79223.toInt = 100 * z79202.toInt := ar_mul ez79223 (by decide : (100 : Int32).toInt = 100) (rfl : z79202.toInt = z79202.toInt) (by omega) (by omega)
                have rz79223 : 0 ≤ z79223.toInt ∧ z79223.toInt ≤ 300 := by omega
                refine lv_iload hx hb dX6_lawDoor_151 (lv_at hl 10 rfl) ?_
                refine lv_iadd hx hb dX6_lawDoor_153 ?_
                refine lv_topi (fun z79224 ez79224 => ?_)
                have hz79224 : z79224.toInt = z79223.toInt + z79206.toInt := ar_add ez79224 (rfl : z79223.toInt = z79223.toInt) (rfl : z79206.toInt = z79206.toInt) (by omega) (by omega)
                have rz79224 : 0 ≤ z79224.toInt ∧ z79224.toInt ≤ 312 := by omega
                refine lv_istore (lv' := [(6, .int z79224), (11, .int z79215), (0, .ref p0), (1, .ref p1), (2, .int p2), (3, .int z79197), (4, .int z79198), (5, .int z79199), (7, .int z79204), (8, .int z79202), (9, .int z79206), (10, .int z79214)]) hx hb dX6_lawDoor_154 hl (by decide) rfl (fun ls hl => ?_)
                refine lv_iload hx hb dX6_lawDoor_156 (lv_at hl 11 rfl) ?_
                refine lv_istore (lv' := [(7, .int z79214), (6, .int z79224), (11, .int z79215), (0, .ref p0), (1, .ref p1), (2, .int p2), (3, .int z79197), (4, .int z79198), (5, .int z79199), (8, .int z79202), (9, .int z79206), (10, .int z79214)]) hx hb dX6_lawDoor_158 hl (by decide) rfl (fun ls hl => ?_)
                exact K160 z79224 z79214 z79214 z79215 _ _ _ (by omega) (by omega) (by omega) hT  (lv_sub hl [3, 4, 5, 6, 7, 8, 1, 0, 9, 10, 11, 2] rfl)
          have K119 : ∀ (z79226 : Int32) (H : Heap) (locs : List Loc) (ls : Array Slot), (0 ≤ z79206.toInt ∧ z79206.toInt ≤ 12) → TH G ttC A s tag L F H locs → lv_has ls 12 [(0, .ref p0), (1, .ref p1), (2, .int p2), (3, .int z79197), (4, .int z79198), (5, .int z79199), (6, .int z79203), (7, .int z79204), (8, .int z79202), (9, .int z79206), (10, .int z79226)] → W p l e { frames := 3, cells := 0, slots := 0, locals := 77 } s m args below meth c H locs 0 0 Q (F0 m 119 ls []) := by
            intro z79226 H locs ls r9s79225 hT hl
            have rz79226 := rg_all z79226
            refine lv_iconst (v := 1) hx hb dX6_lawDoor_119 (by decide) ?_
            refine lv_goto (tgt := 124) hx hb dX6_lawDoor_120 (by decide) ?_
            exact K124 z79226 1 _ _ _ (by decide) (by omega) hT  (lv_sub hl [0, 1, 2, 3, 4, 5, 6, 7, 8, 9, 10] rfl)
          have K123 : ∀ (z79229 : Int32) (z79230 : Int32) (H : Heap) (locs : List Loc) (ls : Array Slot), (0 ≤ z79230.toInt ∧ z79230.toInt ≤ 1) → ((-1) ≤ z79203.toInt ∧ z79203.toInt ≤ 900) → (0 ≤ z79206.toInt ∧ z79206.toInt ≤ 12) → TH G ttC A s tag L F H locs → fld F p0 2 = .int z79230 → lv_has ls 12 [(0, .ref p0), (1, .ref p1), (2, .int p2), (3, .int z79197), (4, .int z79198), (5, .int z79199), (6, .int z79203), (7, .int z79204), (8, .int z79202), (9, .int z79206), (10, .int z79229)] → W p l e { frames := 3, cells := 0, slots := 0, locals := 77 } s m args below meth c H locs 0 0 Q (F0 m 123 ls []) := by
            intro z79229 z79230 H locs ls rz79230 r9s79227 r9s79228 hT qz79230 hl
            have rz79229 := rg_all z79229
            refine lv_iconst (v := 0) hx hb dX6_lawDoor_123 (by decide) ?_
            exact K124 z79229 0 _ _ _ (by decide) (by omega) hT  (lv_sub hl [0, 1, 2, 3, 4, 5, 6, 7, 8, 9, 10] rfl)
          have K86 : ∀ (z79232 : Int32) (H : Heap) (locs : List Loc) (ls : Array Slot), (0 ≤ z79206.toInt ∧ z79206.toInt ≤ 12) → TH G ttC A s tag L F H locs → lv_has ls 12 [(0, .ref p0), (1, .ref p1), (2, .int p2), (3, .int z79197), (4, .int z79198), (5, .int z79199), (6, .int z79203), (7, .int z79204), (8, .int z79202), (9, .int z79206)] → W p l e { frames := 3, cells := 0, slots := 0, locals := 77 } s m args below meth c H locs 0 0 Q (F0 m 86 ls [.int z79232]) := by
            intro z79232 H locs ls r9s79231 hT hl
            have rz79232 := rg_all z79232
            refine lv_istore (lv' := [(10, .int z79232), (0, .ref p0), (1, .ref p1), (2, .int p2), (3, .int z79197), (4, .int z79198), (5, .int z79199), (6, .int z79203), (7, .int z79204), (8, .int z79202), (9, .int z79206)]) hx hb dX6_lawDoor_86 hl (by decide) rfl (fun ls hl => ?_)
            refine lv_iload hx hb dX6_lawDoor_88 (lv_at hl 7 rfl) ?_
            refine lv_bipush (v := (-2)) hx hb dX6_lawDoor_90 (by decide) ?_
            refine lv_icmp_eq (tgt := 119) hx hb dX6_lawDoor_92 (by decide) (fun c79233 => ?_) (fun c79233 => ?_)
            · have w79234 := cv_eq (rfl : z79203.toInt = z79203.toInt) (by decide : ((-2) : Int32).toInt = (-2)) c79233
              exact K119 z79232 _ _ _ (by omega) hT  (lv_sub hl [1, 2, 3, 4, 5, 6, 7, 8, 9, 10, 0] rfl)
            · have w79235 := cv_ne (rfl : z79203.toInt = z79203.toInt) (by decide : ((-2) : Int32).toInt = (-2)) c79233
              refine lv_aload_n hx hb dX6_lawDoor_95 rfl (lv_at hl 1 rfl) ?_
              refine t_get (C := RX1) (T := TX1) (N := 20) X hT m0 g0 rfl rfl 2 (by decide) qw_916 inlX1 rfl dX6_lawDoor_96 (fun v79236 hv79236 ov79236 => ?_)
              obtain ⟨z79237, rfl, rz79237⟩ := okV_i ov79236
              refine lv_if_eq (tgt := 112) hx hb dX6_lawDoor_99 (by decide) (fun c79238 => ?_) (fun c79238 => ?_)
              · have w79239 := cv_eq (rfl : z79237.toInt = z79237.toInt) (by decide : (0 : Int32).toInt = 0) c79238
                refine lv_iload hx hb dX6_lawDoor_112 (lv_at hl 0 rfl) ?_
                refine lv_iload hx hb dX6_lawDoor_114 (lv_at hl 8 rfl) ?_
                refine lv_icmp_ge (tgt := 123) hx hb dX6_lawDoor_116 (by decide) (fun c79240 => ?_) (fun c79240 => ?_)
                · have w79241 := cv_le (rfl : z79204.toInt = z79204.toInt) (rfl : z79232.toInt = z79232.toInt) c79240
                  exact K123 z79232 z79237 _ _ _ (by omega) (by omega) (by omega) hT hv79236 (lv_sub hl [1, 2, 3, 4, 5, 6, 7, 8, 9, 10, 0] rfl)
                · have w79242 := cv_nle (rfl : z79204.toInt = z79204.toInt) (rfl : z79232.toInt = z79232.toInt) c79240
                  exact K119 z79232 _ _ _ (by omega) hT  (lv_sub hl [1, 2, 3, 4, 5, 6, 7, 8, 9, 10, 0] rfl)
              · have w79243 := cv_ne (rfl : z79237.toInt = z79237.toInt) (by decide : (0 : Int32).toInt = 0) c79238
                refine lv_iload hx hb dX6_lawDoor_102 (lv_at hl 0 rfl) ?_
                refine lv_iload hx hb dX6_lawDoor_104 (lv_at hl 8 rfl) ?_
                refine lv_icmp_le (tgt := 123) hx hb dX6_lawDoor_106 (by decide) (fun c79244 => ?_) (fun c79244 => ?_)
                · have w79245 := cv_le (rfl : z79232.toInt = z79232.toInt) (rfl : z79204.toInt = z79204.toInt) c79244
                  exact K123 z79232 z79237 _ _ _ (by omega) (by omega) (by omega) hT hv79236 (lv_sub hl [1, 2, 3, 4, 5, 6, 7, 8, 9, 10, 0] rfl)
                · have w79246 := cv_nle (rfl : z79232.toInt = z79232.toInt) (rfl : z79204.toInt = z79204.toInt) c79244
                  refine lv_goto (tgt := 119) hx hb dX6_lawDoor_109 (by decide) ?_
                  exact K119 z79232 _ _ _ (by omega) hT  (lv_sub hl [1, 2, 3, 4, 5, 6, 7, 8, 9, 10, 0] rfl)
          refine lv_iload hx hb dX6_lawDoor_51 (lv_at hl 9 rfl) ?_
          refine lv_iconst (v := 2) hx hb dX6_lawDoor_53 (by decide) ?_
          refine lv_iload hx hb dX6_lawDoor_54 (lv_at hl 4 rfl) ?_
          refine lv_imul hx hb dX6_lawDoor_56 ?_
          refine lv_topi (fun z79247 ez79247 => ?_)
          have hz79247 : z79247.toInt = 2 * z79198.toInt := ar_mul ez79247 (by decide : (2 : Int32).toInt = 2) (rfl : z79198.toInt = z79198.toInt) (by omega) (by omega)
          have rz79247 : 2 ≤ z79247.toInt ∧ z79247.toInt ≤ 14 := by omega
          refine lv_iconst (v := 2) hx hb dX6_lawDoor_57 (by decide) ?_
          refine lv_isub hx hb dX6_lawDoor_58 ?_
          refine lv_topi (fun z79248 ez79248 => ?_)
          have hz79248 : z79248.toInt = z79247.toInt - 2 := ar_sub ez79248 (rfl : z79247.toInt = z79247.toInt) (by decide : (2 : Int32).toInt = 2) (by omega) (by omega)
          have rz79248 : 0 ≤ z79248.toInt ∧ z79248.toInt ≤ 12 := by omega
          refine lv_icmp_gt (tgt := 166) hx hb dX6_lawDoor_59 (by decide) (fun c79249 => ?_) (fun c79249 => ?_)
          · have w79250 := cv_lt (rfl : z79248.toInt = z79248.toInt) (rfl : z79206.toInt = z79206.toInt) c79249
            obtain ⟨z79251, ez79251⟩ : ∃ y : Int32, y = z79202 + 1 := ⟨_, rfl⟩
            have hz79251 : z79251.toInt = z79202.toInt + 1 := ar_add ez79251 rfl (by decide : (1 : Int32).toInt = 1) (by omega) (by omega)
            refine lv_iinc (v := z79251) (lv' := [(8, .int z79251), (0, .ref p0), (1, .ref p1), (2, .int p2), (3, .int z79197), (4, .int z79198), (5, .int z79199), (6, .int z79203), (7, .int z79204), (9, .int z79206)]) hx hb dX6_lawDoor_166 hl (k := 8) rfl (by rw [ez79251]; rfl) (by decide) rfl (fun ls hl => ?_)
            refine lv_goto (tgt := 42) hx hb dX6_lawDoor_169 (by decide) ?_
            exact ih42 z79197 z79198 z79199 z79203 z79204 z79251 _ _ _ (by omega) (by omega) (by omega) (by omega) (by omega) hT  (lv_sub hl [1, 2, 3, 4, 5, 6, 7, 8, 0] rfl)
          · have w79252 := cv_nlt (rfl : z79248.toInt = z79248.toInt) (rfl : z79206.toInt = z79206.toInt) c79249
            refine lv_iload_n hx hb dX6_lawDoor_62 rfl (lv_at hl 3 rfl) ?_
            refine lv_if_ne (tgt := 70) hx hb dX6_lawDoor_63 (by decide) (fun c79253 => ?_) (fun c79253 => ?_)
            · have w79254 := cv_ne (rfl : z79197.toInt = z79197.toInt) (by decide : (0 : Int32).toInt = 0) c79253
              refine lv_iload hx hb dX6_lawDoor_70 (lv_at hl 4 rfl) ?_
              refine lv_iload hx hb dX6_lawDoor_72 (lv_at hl 4 rfl) ?_
              refine lv_iload hx hb dX6_lawDoor_74 (lv_at hl 8 rfl) ?_
              refine lv_iload hx hb dX6_lawDoor_76 (lv_at hl 9 rfl) ?_
              refine t_cSi (n := 3) (As := [.int z79198, .int z79202, .int z79206]) (rest := [.int z79198]) X hT (kt27_X4_doorPlace l G tag L F hT.2.2.2 z79198 z79202 z79206 ) qw_784 qw_785 qw_409 qw_786 ⟨by decide +kernel, by decide +kernel, by decide +kernel⟩ ⟨Nat.le_of_ble_eq_true rfl, Nat.le_of_ble_eq_true rfl⟩ hl rfl rfl (Nat.le_of_ble_eq_true rfl) dX6_lawDoor_78 ⟨Nat.le_of_ble_eq_true rfl, Nat.le_of_ble_eq_true rfl⟩ (fun z79255 F9 H locs hT hz79255 => ?_)
              obtain ⟨fz79255, hz79255⟩ := hz79255
              rw [fz79255] at hT
              refine lv_iload hx hb dX6_lawDoor_81 (lv_at hl 5 rfl) ?_
              refine t_cSi (n := 3) (As := [.int z79198, .int z79255, .int z79199]) (rest := []) X hT (kt31_X4_between l G tag L F hT.2.2.2 z79198 z79255 z79199 ) qw_925 qw_926 qw_409 qw_927 ⟨by decide +kernel, by decide +kernel, by decide +kernel⟩ ⟨Nat.le_of_ble_eq_true rfl, Nat.le_of_ble_eq_true rfl⟩ hl rfl rfl (Nat.le_of_ble_eq_true rfl) dX6_lawDoor_83 ⟨Nat.le_of_ble_eq_true rfl, Nat.le_of_ble_eq_true rfl⟩ (fun z79256 F9 H locs hT hz79256 => ?_)
              obtain ⟨fz79256, hz79256⟩ := hz79256
              rw [fz79256] at hT
              exact K86 z79256 _ _ _ (by omega) hT  (lv_sub hl [0, 1, 2, 3, 4, 5, 6, 7, 8, 9] rfl)
            · have w79257 := cv_eq (rfl : z79197.toInt = z79197.toInt) (by decide : (0 : Int32).toInt = 0) c79253
              refine lv_iconst (v := 0) hx hb dX6_lawDoor_66 (by decide) ?_
              refine lv_goto (tgt := 86) hx hb dX6_lawDoor_67 (by decide) ?_
              exact K86 0 _ _ _ (by omega) hT  (lv_sub hl [0, 1, 2, 3, 4, 5, 6, 7, 8, 9] rfl)
      refine lv_iload hx hb dX6_lawDoor_42 (lv_at hl 8 rfl) ?_
      refine lv_iconst (v := 4) hx hb dX6_lawDoor_44 (by decide) ?_
      refine lv_icmp_ge (tgt := 172) hx hb dX6_lawDoor_45 (by decide) (fun c79258 => ?_) (fun c79258 => ?_)
      · have w79259 := cv_le (by decide : (4 : Int32).toInt = 4) (rfl : z79202.toInt = z79202.toInt) c79258
        refine lv_iload hx hb dX6_lawDoor_172 (lv_at hl 6 rfl) ?_
        exact t_iret hQ X hT (⟨rfl, (by omega)⟩) (Nat.le_of_ble_eq_true rfl) (Nat.le_of_ble_eq_true rfl) dX6_lawDoor_174
      · have w79260 := cv_nle (by decide : (4 : Int32).toInt = 4) (rfl : z79202.toInt = z79202.toInt) c79258
        refine lv_iconst (v := 0) hx hb dX6_lawDoor_48 (by decide) ?_
        refine lv_istore (lv' := [(9, .int 0), (0, .ref p0), (1, .ref p1), (2, .int p2), (3, .int z79197), (4, .int z79198), (5, .int z79199), (6, .int z79200), (7, .int z79201), (8, .int z79202)]) hx hb dX6_lawDoor_49 hl (by decide) rfl (fun ls hl => ?_)
        have kk79261 : (0 : Int32).toInt = 0 := by decide
        exact K51 14 z79200 z79201 0 _ _ _ (by omega) (by omega) (by decide) (by omega) hT  (lv_sub hl [1, 2, 3, 4, 5, 6, 7, 8, 9, 0] rfl)
  have K30 : ∀ (z79262 : Int32) (z79263 : Int32) (z79264 : Int32) (H : Heap) (locs : List Loc) (ls : Array Slot), (0 ≤ z79262.toInt ∧ z79262.toInt ≤ 6) → (1 ≤ z79263.toInt ∧ z79263.toInt ≤ 7) → TH G ttC A s tag L F H locs → lv_has ls 12 [(0, .ref p0), (1, .ref p1), (2, .int p2), (3, .int z79262), (4, .int z79263)] → W p l e { frames := 3, cells := 0, slots := 0, locals := 77 } s m args below meth c H locs 0 0 Q (F0 m 30 ls [.int z79264]) := by
    intro z79262 z79263 z79264 H locs ls rz79262 rz79263 hT hl
    have rz79264 := rg_all z79264
    refine lv_istore (lv' := [(5, .int z79264), (0, .ref p0), (1, .ref p1), (2, .int p2), (3, .int z79262), (4, .int z79263)]) hx hb dX6_lawDoor_30 hl (by decide) rfl (fun ls hl => ?_)
    refine lv_bipush (v := (-2)) hx hb dX6_lawDoor_32 (by decide) ?_
    refine lv_istore (lv' := [(6, .int (-2)), (5, .int z79264), (0, .ref p0), (1, .ref p1), (2, .int p2), (3, .int z79262), (4, .int z79263)]) hx hb dX6_lawDoor_34 hl (by decide) rfl (fun ls hl => ?_)
    refine lv_iconst (v := 0) hx hb dX6_lawDoor_36 (by decide) ?_
    refine lv_istore (lv' := [(7, .int 0), (6, .int (-2)), (5, .int z79264), (0, .ref p0), (1, .ref p1), (2, .int p2), (3, .int z79262), (4, .int z79263)]) hx hb dX6_lawDoor_37 hl (by decide) rfl (fun ls hl => ?_)
    refine lv_iconst (v := 0) hx hb dX6_lawDoor_39 (by decide) ?_
    refine lv_istore (lv' := [(8, .int 0), (7, .int 0), (6, .int (-2)), (5, .int z79264), (0, .ref p0), (1, .ref p1), (2, .int p2), (3, .int z79262), (4, .int z79263)]) hx hb dX6_lawDoor_40 hl (by decide) rfl (fun ls hl => ?_)
    have kk79265 : ((-2) : Int32).toInt = (-2) := by decide
    have kk79266 : (0 : Int32).toInt = 0 := by decide
    have kk79267 : (0 : Int32).toInt = 0 := by decide
    exact K42 5 z79262 z79263 z79264 (-2) 0 0 _ _ _ (by omega) (by omega) (by omega) (by decide) (by decide) hT  (lv_sub hl [4, 5, 6, 7, 8, 3, 2, 1, 0] rfl)
  refine lv_aload_n hx hb dX6_lawDoor_0 rfl (lv_at hl 1 rfl) ?_
  refine t_get (C := RX7) (T := TX7) (N := 7) X hT m1 g1 rfl rfl 2 (by decide) qw_383 inlX7 rfl dX6_lawDoor_1 (fun v79268 hv79268 ov79268 => ?_)
  obtain ⟨b79269, rfl, mb79269, gb79269⟩ := okV_r ov79268
  have gb79269 : tag b79269 = 8 := tg_of gb79269
  refine lv_iload_n hx hb dX6_lawDoor_4 rfl (lv_at hl 2 rfl) ?_
  refine t_ild X hT mb79269 gb79269 rfl (by omega) dX6_lawDoor_5 (fun z79270 vz79270 rz79270 => ?_)
  have rz79270 : 0 ≤ z79270.toInt ∧ z79270.toInt ≤ 6 := rz79270
  refine lv_istore_n (lv' := [(3, .int z79270), (0, .ref p0), (1, .ref p1), (2, .int p2)]) hx hb dX6_lawDoor_6 rfl hl (by decide) rfl (fun ls hl => ?_)
  refine lv_iload_n hx hb dX6_lawDoor_7 rfl (lv_at hl 0 rfl) ?_
  refine lv_iconst (v := 1) hx hb dX6_lawDoor_8 (by decide) ?_
  refine lv_iadd hx hb dX6_lawDoor_9 ?_
  refine lv_topi (fun z79271 ez79271 => ?_)
  have hz79271 : z79271.toInt = z79270.toInt + 1 := ar_add ez79271 (rfl : z79270.toInt = z79270.toInt) (by decide : (1 : Int32).toInt = 1) (by omega) (by omega)
  have rz79271 : 1 ≤ z79271.toInt ∧ z79271.toInt ≤ 7 := by omega
  refine lv_istore (lv' := [(4, .int z79271), (3, .int z79270), (0, .ref p0), (1, .ref p1), (2, .int p2)]) hx hb dX6_lawDoor_10 hl (by decide) rfl (fun ls hl => ?_)
  refine lv_iload_n hx hb dX6_lawDoor_12 rfl (lv_at hl 1 rfl) ?_
  refine lv_if_ne (tgt := 20) hx hb dX6_lawDoor_13 (by decide) (fun c79272 => ?_) (fun c79272 => ?_)
  · have w79273 := cv_ne (rfl : z79270.toInt = z79270.toInt) (by decide : (0 : Int32).toInt = 0) c79272
    refine lv_iload_n hx hb dX6_lawDoor_20 rfl (lv_at hl 1 rfl) ?_
    refine lv_aload_n hx hb dX6_lawDoor_21 rfl (lv_at hl 3 rfl) ?_
    refine lv_iload_n hx hb dX6_lawDoor_22 rfl (lv_at hl 4 rfl) ?_
    refine lv_iload_n hx hb dX6_lawDoor_23 rfl (lv_at hl 1 rfl) ?_
    refine t_cVi (n := 2) (C := RX7) (T := TX7) (N := 7) (As := [.int p2, .int z79270]) (rest := [.int z79270]) X hT (kt29_X7_doorOf l G tag L F hT.2.2.2 p1 p2 z79270 m1 g1) m1 g1 rfl rfl qw_917 qw_918 qw_919 qw_22 qw_920 ⟨rfl, by decide +kernel, by decide +kernel, by decide +kernel⟩ ⟨Nat.le_of_ble_eq_true rfl, Nat.le_of_ble_eq_true rfl⟩ hl rfl rfl (Nat.le_of_ble_eq_true rfl) dX6_lawDoor_24 ⟨Nat.le_of_ble_eq_true rfl, Nat.le_of_ble_eq_true rfl⟩ (fun z79274 F9 H locs hT hz79274 => ?_)
    obtain ⟨fz79274, hz79274⟩ := hz79274
    rw [fz79274] at hT
    refine t_cSi (n := 2) (As := [.int z79270, .int z79274]) (rest := []) X hT (kt30_X4_inFront l G tag L F hT.2.2.2 z79270 z79274 ) qw_922 qw_923 qw_409 qw_924 ⟨by decide +kernel, by decide +kernel, by decide +kernel⟩ ⟨Nat.le_of_ble_eq_true rfl, Nat.le_of_ble_eq_true rfl⟩ hl rfl rfl (Nat.le_of_ble_eq_true rfl) dX6_lawDoor_27 ⟨Nat.le_of_ble_eq_true rfl, Nat.le_of_ble_eq_true rfl⟩ (fun z79275 F9 H locs hT hz79275 => ?_)
    obtain ⟨fz79275, hz79275⟩ := hz79275
    rw [fz79275] at hT
    exact K30 z79270 z79271 z79275 _ _ _ (by omega) (by omega) hT  (lv_sub hl [2, 3, 4, 1, 0] rfl)
  · have w79276 := cv_eq (rfl : z79270.toInt = z79270.toInt) (by decide : (0 : Int32).toInt = 0) c79272
    refine lv_iconst (v := 0) hx hb dX6_lawDoor_16 (by decide) ?_
    refine lv_goto (tgt := 30) hx hb dX6_lawDoor_17 (by decide) ?_
    exact K30 z79270 z79271 0 _ _ _ (by omega) (by omega) hT  (lv_sub hl [2, 3, 4, 1, 0] rfl)
set_option maxHeartbeats 4000000 in
set_option maxRecDepth 100000 in
theorem kt222_X7_copyFrom (l : Launch) (G : KG) (tag : Nat → Nat) (L : List Nat) (Fo : Nat → va_E) (ho : okT G ttC tag L Fo) (p0 : Nat) (p1 : Nat) (m0 : p0 ∈ L) (g0 : tag p0 = 19) (m1 : p1 ∈ L) (g1 : tag p1 = 19) : TMv l yX7_copyFrom cX7_copyFrom 2 { frames := 1, cells := 0, slots := 0, locals := 24 } G ttC tag L Fo [.ref p0, .ref p1] (fun F1 => ∀ b j : Nat, (tag b ≠ 19 ∨ j ≠ 0) → (tag b ≠ 19 ∨ j ≠ 1) → fld F1 b j = fld Fo b j) := by
  refine t_bodyv (y := yX7_copyFrom) (cd := cX7_copyFrom) (mL := 2) (rm := { frames := 1, cells := 0, slots := 0, locals := 24 }) (av := [.ref p0, .ref p1]) (by decide) (Nat.le_of_ble_eq_true rfl) ho ?_
  intro p e s m args below meth c ls A Q hQ X hT hl
  have hx := X.1.1
  have hb := X.1.2.1
  have hl : lv_has ls 2 [(0, .ref p0), (1, .ref p1)] := hl
  obtain ⟨F, hFo⟩ : ∃ F : Nat → va_E, F = Fo := ⟨_, rfl⟩
  rw [← hFo] at hT
  have hfr : ∀ b j : Nat, (tag b ≠ 19 ∨ j ≠ 0) → (tag b ≠ 19 ∨ j ≠ 1) → fld F b j = fld Fo b j := by
    rw [hFo]
    intros
    rfl
  refine lv_aload_n hx hb dX7_copyFrom_0 rfl (lv_at hl 0 rfl) ?_
  refine lv_aload_n hx hb dX7_copyFrom_1 rfl (lv_at hl 1 rfl) ?_
  refine t_get (C := RX7) (T := TX7) (N := 7) X hT m1 g1 rfl rfl 0 (by decide) qw_187 inlX7 rfl dX7_copyFrom_2 (fun v79618 hv79618 ov79618 => ?_)
  obtain ⟨z79619, rfl, rz79619⟩ := okV_i ov79618
  refine t_put (C := RX7) (T := TX7) (N := 7) (v := .int z79619) X hT m0 g0 rfl tyX7 tyX7_ok nmX7 rfl 0 (by decide) qw_187 inlX7 rfl (by first | rfl | decide) (by first | rfl | decide) rfl (⟨_, rfl, (by omega), (by omega)⟩) dX7_copyFrom_5 (fun F H locs hT v79620 h1v79620 h2v79620 => ?_)
  have hfr : ∀ b j : Nat, (tag b ≠ 19 ∨ j ≠ 0) → (tag b ≠ 19 ∨ j ≠ 1) → fld F b j = fld Fo b j := fun b j n19_0 n19_1 => (h1v79620 b j (fr_ne g0 n19_0)).trans (hfr b j n19_0 n19_1)
  refine lv_aload_n hx hb dX7_copyFrom_8 rfl (lv_at hl 0 rfl) ?_
  refine lv_aload_n hx hb dX7_copyFrom_9 rfl (lv_at hl 1 rfl) ?_
  refine t_get (C := RX7) (T := TX7) (N := 7) X hT m1 g1 rfl rfl 1 (by decide) qw_188 inlX7 rfl dX7_copyFrom_10 (fun v79621 hv79621 ov79621 => ?_)
  obtain ⟨z79622, rfl, rz79622⟩ := okV_i ov79621
  refine t_put (C := RX7) (T := TX7) (N := 7) (v := .int z79622) X hT m0 g0 rfl tyX7 tyX7_ok nmX7 rfl 1 (by decide) qw_188 inlX7 rfl (by first | rfl | decide) (by first | rfl | decide) rfl (⟨_, rfl, (by omega), (by omega)⟩) dX7_copyFrom_13 (fun F H locs hT v79623 h1v79623 h2v79623 => ?_)
  have v79620 := (h1v79623 _ _ (Or.inr (by decide))).trans v79620
  have hfr : ∀ b j : Nat, (tag b ≠ 19 ∨ j ≠ 0) → (tag b ≠ 19 ∨ j ≠ 1) → fld F b j = fld Fo b j := fun b j n19_0 n19_1 => (h1v79623 b j (fr_ne g0 n19_1)).trans (hfr b j n19_0 n19_1)
  refine lv_aload_n hx hb dX7_copyFrom_16 rfl (lv_at hl 1 rfl) ?_
  refine t_get (C := RX7) (T := TX7) (N := 7) X hT m1 g1 rfl rfl 2 (by decide) qw_62 inlX7 rfl dX7_copyFrom_17 (fun v79624 hv79624 ov79624 => ?_)
  obtain ⟨b79625, rfl, mb79625, gb79625⟩ := okV_r ov79624
  have gb79625 : tag b79625 = 8 := tg_of gb79625
  refine lv_iconst (v := 0) hx hb dX7_copyFrom_20 (by decide) ?_
  refine lv_aload_n hx hb dX7_copyFrom_21 rfl (lv_at hl 0 rfl) ?_
  refine t_get (C := RX7) (T := TX7) (N := 7) X hT m0 g0 rfl rfl 2 (by decide) qw_62 inlX7 rfl dX7_copyFrom_22 (fun v79626 hv79626 ov79626 => ?_)
  obtain ⟨b79627, rfl, mb79627, gb79627⟩ := okV_r ov79626
  have gb79627 : tag b79627 = 8 := tg_of gb79627
  refine lv_iconst (v := 0) hx hb dX7_copyFrom_25 (by decide) ?_
  refine lv_iconst (v := 4) hx hb dX7_copyFrom_26 (by decide) ?_
  refine t_copy X hT hl mb79625 gb79625 mb79627 gb79627 rfl rfl (by decide) (by decide) (by decide) (by decide) (by decide) (fun _ _ => ⟨by decide, by decide⟩) qw_453 qw_454 qw_455 qw_456 (Nat.le_of_ble_eq_true rfl) (Nat.le_of_ble_eq_true rfl) dX7_copyFrom_27 (fun F H locs hT h2v79628 => ?_)
  have v79620 := (h2v79628 _ _).trans v79620
  have v79623 := (h2v79628 _ _).trans v79623
  have hv79624 := (h2v79628 _ _).trans hv79624
  have hv79626 := (h2v79628 _ _).trans hv79626
  have hfr : ∀ b j : Nat, (tag b ≠ 19 ∨ j ≠ 0) → (tag b ≠ 19 ∨ j ≠ 1) → fld F b j = fld Fo b j := fun b j n19_0 n19_1 => (h2v79628 b j).trans (hfr b j n19_0 n19_1)
  refine lv_aload_n hx hb dX7_copyFrom_30 rfl (lv_at hl 1 rfl) ?_
  refine t_get (C := RX7) (T := TX7) (N := 7) X hT m1 g1 rfl rfl 3 (by decide) qw_63 inlX7 rfl dX7_copyFrom_31 (fun v79629 hv79629 ov79629 => ?_)
  obtain ⟨b79630, rfl, mb79630, gb79630⟩ := okV_r ov79629
  have gb79630 : tag b79630 = 5 := tg_of gb79630
  refine lv_iconst (v := 0) hx hb dX7_copyFrom_34 (by decide) ?_
  refine lv_aload_n hx hb dX7_copyFrom_35 rfl (lv_at hl 0 rfl) ?_
  refine t_get (C := RX7) (T := TX7) (N := 7) X hT m0 g0 rfl rfl 3 (by decide) qw_63 inlX7 rfl dX7_copyFrom_36 (fun v79631 hv79631 ov79631 => ?_)
  obtain ⟨b79632, rfl, mb79632, gb79632⟩ := okV_r ov79631
  have gb79632 : tag b79632 = 5 := tg_of gb79632
  refine lv_iconst (v := 0) hx hb dX7_copyFrom_39 (by decide) ?_
  refine lv_iconst (v := 4) hx hb dX7_copyFrom_40 (by decide) ?_
  refine t_copy X hT hl mb79630 gb79630 mb79632 gb79632 rfl rfl (by decide) (by decide) (by decide) (by decide) (by decide) (fun _ _ => ⟨by decide, by decide⟩) qw_453 qw_454 qw_455 qw_456 (Nat.le_of_ble_eq_true rfl) (Nat.le_of_ble_eq_true rfl) dX7_copyFrom_41 (fun F H locs hT h2v79633 => ?_)
  have v79620 := (h2v79633 _ _).trans v79620
  have v79623 := (h2v79633 _ _).trans v79623
  have hv79624 := (h2v79633 _ _).trans hv79624
  have hv79626 := (h2v79633 _ _).trans hv79626
  have hv79629 := (h2v79633 _ _).trans hv79629
  have hv79631 := (h2v79633 _ _).trans hv79631
  have hfr : ∀ b j : Nat, (tag b ≠ 19 ∨ j ≠ 0) → (tag b ≠ 19 ∨ j ≠ 1) → fld F b j = fld Fo b j := fun b j n19_0 n19_1 => (h2v79633 b j).trans (hfr b j n19_0 n19_1)
  refine lv_aload_n hx hb dX7_copyFrom_44 rfl (lv_at hl 1 rfl) ?_
  refine t_get (C := RX7) (T := TX7) (N := 7) X hT m1 g1 rfl rfl 4 (by decide) qw_64 inlX7 rfl dX7_copyFrom_45 (fun v79634 hv79634 ov79634 => ?_)
  obtain ⟨b79635, rfl, mb79635, gb79635⟩ := okV_r ov79634
  have gb79635 : tag b79635 = 5 := tg_of gb79635
  refine lv_iconst (v := 0) hx hb dX7_copyFrom_48 (by decide) ?_
  refine lv_aload_n hx hb dX7_copyFrom_49 rfl (lv_at hl 0 rfl) ?_
  refine t_get (C := RX7) (T := TX7) (N := 7) X hT m0 g0 rfl rfl 4 (by decide) qw_64 inlX7 rfl dX7_copyFrom_50 (fun v79636 hv79636 ov79636 => ?_)
  obtain ⟨b79637, rfl, mb79637, gb79637⟩ := okV_r ov79636
  have gb79637 : tag b79637 = 5 := tg_of gb79637
  refine lv_iconst (v := 0) hx hb dX7_copyFrom_53 (by decide) ?_
  refine lv_iconst (v := 4) hx hb dX7_copyFrom_54 (by decide) ?_
  refine t_copy X hT hl mb79635 gb79635 mb79637 gb79637 rfl rfl (by decide) (by decide) (by decide) (by decide) (by decide) (fun _ _ => ⟨by decide, by decide⟩) qw_453 qw_454 qw_455 qw_456 (Nat.le_of_ble_eq_true rfl) (Nat.le_of_ble_eq_true rfl) dX7_copyFrom_55 (fun F H locs hT h2v79638 => ?_)
  have v79620 := (h2v79638 _ _).trans v79620
  have v79623 := (h2v79638 _ _).trans v79623
  have hv79624 := (h2v79638 _ _).trans hv79624
  have hv79626 := (h2v79638 _ _).trans hv79626
  have hv79629 := (h2v79638 _ _).trans hv79629
  have hv79631 := (h2v79638 _ _).trans hv79631
  have hv79634 := (h2v79638 _ _).trans hv79634
  have hv79636 := (h2v79638 _ _).trans hv79636
  have hfr : ∀ b j : Nat, (tag b ≠ 19 ∨ j ≠ 0) → (tag b ≠ 19 ∨ j ≠ 1) → fld F b j = fld Fo b j := fun b j n19_0 n19_1 => (h2v79638 b j).trans (hfr b j n19_0 n19_1)
  refine lv_aload_n hx hb dX7_copyFrom_58 rfl (lv_at hl 1 rfl) ?_
  refine t_get (C := RX7) (T := TX7) (N := 7) X hT m1 g1 rfl rfl 5 (by decide) qw_65 inlX7 rfl dX7_copyFrom_59 (fun v79639 hv79639 ov79639 => ?_)
  obtain ⟨b79640, rfl, mb79640, gb79640⟩ := okV_r ov79639
  have gb79640 : tag b79640 = 7 := tg_of gb79640
  refine lv_iconst (v := 0) hx hb dX7_copyFrom_62 (by decide) ?_
  refine lv_aload_n hx hb dX7_copyFrom_63 rfl (lv_at hl 0 rfl) ?_
  refine t_get (C := RX7) (T := TX7) (N := 7) X hT m0 g0 rfl rfl 5 (by decide) qw_65 inlX7 rfl dX7_copyFrom_64 (fun v79641 hv79641 ov79641 => ?_)
  obtain ⟨b79642, rfl, mb79642, gb79642⟩ := okV_r ov79641
  have gb79642 : tag b79642 = 7 := tg_of gb79642
  refine lv_iconst (v := 0) hx hb dX7_copyFrom_67 (by decide) ?_
  refine lv_bipush (v := 6) hx hb dX7_copyFrom_68 (by decide) ?_
  refine t_copy X hT hl mb79640 gb79640 mb79642 gb79642 rfl rfl (by decide) (by decide) (by decide) (by decide) (by decide) (fun _ _ => ⟨by decide, by decide⟩) qw_453 qw_454 qw_455 qw_456 (Nat.le_of_ble_eq_true rfl) (Nat.le_of_ble_eq_true rfl) dX7_copyFrom_70 (fun F H locs hT h2v79643 => ?_)
  have v79620 := (h2v79643 _ _).trans v79620
  have v79623 := (h2v79643 _ _).trans v79623
  have hv79624 := (h2v79643 _ _).trans hv79624
  have hv79626 := (h2v79643 _ _).trans hv79626
  have hv79629 := (h2v79643 _ _).trans hv79629
  have hv79631 := (h2v79643 _ _).trans hv79631
  have hv79634 := (h2v79643 _ _).trans hv79634
  have hv79636 := (h2v79643 _ _).trans hv79636
  have hv79639 := (h2v79643 _ _).trans hv79639
  have hv79641 := (h2v79643 _ _).trans hv79641
  have hfr : ∀ b j : Nat, (tag b ≠ 19 ∨ j ≠ 0) → (tag b ≠ 19 ∨ j ≠ 1) → fld F b j = fld Fo b j := fun b j n19_0 n19_1 => (h2v79643 b j).trans (hfr b j n19_0 n19_1)
  refine lv_aload_n hx hb dX7_copyFrom_73 rfl (lv_at hl 1 rfl) ?_
  refine t_get (C := RX7) (T := TX7) (N := 7) X hT m1 g1 rfl rfl 6 (by decide) qw_66 inlX7 rfl dX7_copyFrom_74 (fun v79644 hv79644 ov79644 => ?_)
  obtain ⟨b79645, rfl, mb79645, gb79645⟩ := okV_r ov79644
  have gb79645 : tag b79645 = 9 := tg_of gb79645
  refine lv_iconst (v := 0) hx hb dX7_copyFrom_77 (by decide) ?_
  refine lv_aload_n hx hb dX7_copyFrom_78 rfl (lv_at hl 0 rfl) ?_
  refine t_get (C := RX7) (T := TX7) (N := 7) X hT m0 g0 rfl rfl 6 (by decide) qw_66 inlX7 rfl dX7_copyFrom_79 (fun v79646 hv79646 ov79646 => ?_)
  obtain ⟨b79647, rfl, mb79647, gb79647⟩ := okV_r ov79646
  have gb79647 : tag b79647 = 9 := tg_of gb79647
  refine lv_iconst (v := 0) hx hb dX7_copyFrom_82 (by decide) ?_
  refine lv_sipush (v := 192) hx hb dX7_copyFrom_83 (by decide) ?_
  refine t_copy X hT hl mb79645 gb79645 mb79647 gb79647 rfl rfl (by decide) (by decide) (by decide) (by decide) (by decide) (fun _ _ => ⟨by decide, by decide⟩) qw_453 qw_454 qw_455 qw_456 (Nat.le_of_ble_eq_true rfl) (Nat.le_of_ble_eq_true rfl) dX7_copyFrom_86 (fun F H locs hT h2v79648 => ?_)
  have v79620 := (h2v79648 _ _).trans v79620
  have v79623 := (h2v79648 _ _).trans v79623
  have hv79624 := (h2v79648 _ _).trans hv79624
  have hv79626 := (h2v79648 _ _).trans hv79626
  have hv79629 := (h2v79648 _ _).trans hv79629
  have hv79631 := (h2v79648 _ _).trans hv79631
  have hv79634 := (h2v79648 _ _).trans hv79634
  have hv79636 := (h2v79648 _ _).trans hv79636
  have hv79639 := (h2v79648 _ _).trans hv79639
  have hv79641 := (h2v79648 _ _).trans hv79641
  have hv79644 := (h2v79648 _ _).trans hv79644
  have hv79646 := (h2v79648 _ _).trans hv79646
  have hfr : ∀ b j : Nat, (tag b ≠ 19 ∨ j ≠ 0) → (tag b ≠ 19 ∨ j ≠ 1) → fld F b j = fld Fo b j := fun b j n19_0 n19_1 => (h2v79648 b j).trans (hfr b j n19_0 n19_1)
  exact t_vret hQ X hT hfr (Nat.le_of_ble_eq_true rfl) (Nat.le_of_ble_eq_true rfl) dX7_copyFrom_89
set_option maxHeartbeats 4000000 in
set_option maxRecDepth 100000 in
theorem kt223_X8_advance (l : Launch) (G : KG) (tag : Nat → Nat) (L : List Nat) (Fo : Nat → va_E) (ho : okT G ttC tag L Fo) (p0 : Nat) (x0 : Nat) (m0 : p0 ∈ L) (g0 : tag p0 = 24) (mx0 : x0 ∈ L) (gx0 : tag x0 = 1) (pf0 : fld Fo p0 0 = .ref x0) : TMv l yX8_advance cX8_advance 2 { frames := 2, cells := 0, slots := 0, locals := 41 } G ttC tag L Fo [.ref p0] (fun F1 => ∀ b j : Nat, (tag b ≠ 24 ∨ j ≠ 2) → (tag b ≠ 24 ∨ j ≠ 3) → (tag b ≠ 24 ∨ j ≠ 4) → (tag b ≠ 24 ∨ j ≠ 5) → (tag b ≠ 24 ∨ j ≠ 6) → (tag b ≠ 24 ∨ j ≠ 7) → fld F1 b j = fld Fo b j) := by
  refine t_bodyv (y := yX8_advance) (cd := cX8_advance) (mL := 2) (rm := { frames := 2, cells := 0, slots := 0, locals := 41 }) (av := [.ref p0]) (by decide) (Nat.le_of_ble_eq_true rfl) ho ?_
  intro p e s m args below meth c ls A Q hQ X hT hl
  have hx := X.1.1
  have hb := X.1.2.1
  have hl : lv_has ls 2 [(0, .ref p0)] := hl
  obtain ⟨F, hFo⟩ : ∃ F : Nat → va_E, F = Fo := ⟨_, rfl⟩
  rw [← hFo] at hT
  have hfr : ∀ b j : Nat, (tag b ≠ 24 ∨ j ≠ 2) → (tag b ≠ 24 ∨ j ≠ 3) → (tag b ≠ 24 ∨ j ≠ 4) → (tag b ≠ 24 ∨ j ≠ 5) → (tag b ≠ 24 ∨ j ≠ 6) → (tag b ≠ 24 ∨ j ≠ 7) → fld F b j = fld Fo b j := by
    rw [hFo]
    intros
    rfl
  have K121 : ∀ (z80455 : Int32) (z80456 : Int32) (b80457 : Nat) (z80458 : Int32) (z80459 : Int32) (z80460 : Int32) (z80461 : Int32) (F : Nat → va_E) (H : Heap) (locs : List Loc) (ls : Array Slot), (0 ≤ z80455.toInt ∧ z80455.toInt ≤ 255) → (3 ≤ z80456.toInt ∧ z80456.toInt ≤ 4) → (b80457 ∈ L) → (tag b80457 = 24) → (0 ≤ z80458.toInt ∧ z80458.toInt ≤ 1000) → (0 ≤ z80459.toInt ∧ z80459.toInt ≤ 999) → (0 ≤ z80460.toInt ∧ z80460.toInt ≤ 1000) → (0 ≤ z80461.toInt ∧ z80461.toInt ≤ 999) → TH G ttC A s tag L F H locs → (∀ b j : Nat, (tag b ≠ 24 ∨ j ≠ 2) → (tag b ≠ 24 ∨ j ≠ 3) → (tag b ≠ 24 ∨ j ≠ 4) → (tag b ≠ 24 ∨ j ≠ 5) → (tag b ≠ 24 ∨ j ≠ 6) → (tag b ≠ 24 ∨ j ≠ 7) → fld F b j = fld Fo b j) → fld F p0 0 = .ref x0 → fld F p0 5 = .int z80458 → fld F p0 2 = .int z80459 → fld F p0 1 = .int z80460 → fld F p0 4 = .int z80461 → lv_has ls 2 [(0, .ref p0), (1, .int z80455)] → W p l e { frames := 2, cells := 0, slots := 0, locals := 41 } s m args below meth c H locs 0 0 Q (F0 m 121 ls [.int z80456, .ref b80457]) := by
    intro z80455 z80456 b80457 z80458 z80459 z80460 z80461 F H locs ls rz80455 rz80456 mb80457 gb80457 rz80458 rz80459 rz80460 rz80461 hT hfr pf0 qz80458 qz80459 qz80460 qz80461 hl
    refine t_put (C := RX8) (T := TX8) (N := 8) (v := .int z80456) X hT mb80457 gb80457 rfl tyX8 tyX8_ok nmX8 rfl 3 (by decide) qw_202 inlX8 rfl (by first | rfl | decide) (by first | rfl | decide) rfl (⟨_, rfl, (by omega), (by omega)⟩) dX8_advance_121 (fun F H locs hT v80462 h1v80462 h2v80462 => ?_)
    have qz80458 := (h1v80462 _ _ (Or.inr (by decide))).trans qz80458
    have qz80459 := (h1v80462 _ _ (Or.inr (by decide))).trans qz80459
    have qz80460 := (h1v80462 _ _ (Or.inr (by decide))).trans qz80460
    have qz80461 := (h1v80462 _ _ (Or.inr (by decide))).trans qz80461
    have pf0 := (h1v80462 _ _ (Or.inr (by decide))).trans pf0
    have hfr : ∀ b j : Nat, (tag b ≠ 24 ∨ j ≠ 2) → (tag b ≠ 24 ∨ j ≠ 3) → (tag b ≠ 24 ∨ j ≠ 4) → (tag b ≠ 24 ∨ j ≠ 5) → (tag b ≠ 24 ∨ j ≠ 6) → (tag b ≠ 24 ∨ j ≠ 7) → fld F b j = fld Fo b j := fun b j n24_2 n24_3 n24_4 n24_5 n24_6 n24_7 => (h1v80462 b j (fr_ne gb80457 n24_3)).trans (hfr b j n24_2 n24_3 n24_4 n24_5 n24_6 n24_7)
    refine lv_aload_n hx hb dX8_advance_124 rfl (lv_at hl 0 rfl) ?_
    refine lv_iload_n hx hb dX8_advance_125 rfl (lv_at hl 1 rfl) ?_
    refine t_put (C := RX8) (T := TX8) (N := 8) (v := .int z80455) X hT m0 g0 rfl tyX8 tyX8_ok nmX8 rfl 6 (by decide) qw_203 inlX8 rfl (by first | rfl | decide) (by first | rfl | decide) rfl (⟨_, rfl, (by omega), (by omega)⟩) dX8_advance_126 (fun F H locs hT v80463 h1v80463 h2v80463 => ?_)
    have qz80458 := (h1v80463 _ _ (Or.inr (by decide))).trans qz80458
    have qz80459 := (h1v80463 _ _ (Or.inr (by decide))).trans qz80459
    have qz80460 := (h1v80463 _ _ (Or.inr (by decide))).trans qz80460
    have qz80461 := (h1v80463 _ _ (Or.inr (by decide))).trans qz80461
    have pf0 := (h1v80463 _ _ (Or.inr (by decide))).trans pf0
    have v80462 := (h1v80463 _ _ (Or.inr (by decide))).trans v80462
    have hfr : ∀ b j : Nat, (tag b ≠ 24 ∨ j ≠ 2) → (tag b ≠ 24 ∨ j ≠ 3) → (tag b ≠ 24 ∨ j ≠ 4) → (tag b ≠ 24 ∨ j ≠ 5) → (tag b ≠ 24 ∨ j ≠ 6) → (tag b ≠ 24 ∨ j ≠ 7) → fld F b j = fld Fo b j := fun b j n24_2 n24_3 n24_4 n24_5 n24_6 n24_7 => (h1v80463 b j (fr_ne g0 n24_6)).trans (hfr b j n24_2 n24_3 n24_4 n24_5 n24_6 n24_7)
    refine lv_aload_n hx hb dX8_advance_129 rfl (lv_at hl 0 rfl) ?_
    refine lv_dup hx hb dX8_advance_130 rfl ?_
    refine t_get (C := RX8) (T := TX8) (N := 8) X hT m0 g0 rfl rfl 2 (by decide) qw_195 inlX8 rfl dX8_advance_131 (fun v80464 hv80464 ov80464 => ?_)
    obtain rfl : v80464 = .int z80459 := hv80464.symm.trans qz80459
    refine lv_iconst (v := 1) hx hb dX8_advance_134 (by decide) ?_
    refine lv_iadd hx hb dX8_advance_135 ?_
    refine lv_topi (fun z80465 ez80465 => ?_)
    have hz80465 : z80465.toInt = z80459.toInt + 1 := ar_add ez80465 (rfl : z80459.toInt = z80459.toInt) (by decide : (1 : Int32).toInt = 1) (by omega) (by omega)
    have rz80465 : 1 ≤ z80465.toInt ∧ z80465.toInt ≤ 1000 := by omega
    refine t_put (C := RX8) (T := TX8) (N := 8) (v := .int z80465) X hT m0 g0 rfl tyX8 tyX8_ok nmX8 rfl 2 (by decide) qw_195 inlX8 rfl (by first | rfl | decide) (by first | rfl | decide) rfl (⟨_, rfl, (by omega), (by omega)⟩) dX8_advance_136 (fun F H locs hT v80466 h1v80466 h2v80466 => ?_)
    have qz80458 := (h1v80466 _ _ (Or.inr (by decide))).trans qz80458
    have qz80460 := (h1v80466 _ _ (Or.inr (by decide))).trans qz80460
    have qz80461 := (h1v80466 _ _ (Or.inr (by decide))).trans qz80461
    have pf0 := (h1v80466 _ _ (Or.inr (by decide))).trans pf0
    have v80462 := (h1v80466 _ _ (Or.inr (by decide))).trans v80462
    have v80463 := (h1v80466 _ _ (Or.inr (by decide))).trans v80463
    have hfr : ∀ b j : Nat, (tag b ≠ 24 ∨ j ≠ 2) → (tag b ≠ 24 ∨ j ≠ 3) → (tag b ≠ 24 ∨ j ≠ 4) → (tag b ≠ 24 ∨ j ≠ 5) → (tag b ≠ 24 ∨ j ≠ 6) → (tag b ≠ 24 ∨ j ≠ 7) → fld F b j = fld Fo b j := fun b j n24_2 n24_3 n24_4 n24_5 n24_6 n24_7 => (h1v80466 b j (fr_ne g0 n24_2)).trans (hfr b j n24_2 n24_3 n24_4 n24_5 n24_6 n24_7)
    exact t_vret hQ X hT hfr (Nat.le_of_ble_eq_true rfl) (Nat.le_of_ble_eq_true rfl) dX8_advance_139
  have K116 : ∀ (z80467 : Int32) (b80468 : Nat) (z80469 : Int32) (z80470 : Int32) (z80471 : Int32) (z80472 : Int32) (F : Nat → va_E) (H : Heap) (locs : List Loc) (ls : Array Slot), (44 ≤ z80467.toInt ∧ z80467.toInt ≤ 59) → (b80468 ∈ L) → (tag b80468 = 24) → (0 ≤ z80469.toInt ∧ z80469.toInt ≤ 1000) → (0 ≤ z80470.toInt ∧ z80470.toInt ≤ 999) → (0 ≤ z80471.toInt ∧ z80471.toInt ≤ 1000) → (0 ≤ z80472.toInt ∧ z80472.toInt ≤ 999) → TH G ttC A s tag L F H locs → (∀ b j : Nat, (tag b ≠ 24 ∨ j ≠ 2) → (tag b ≠ 24 ∨ j ≠ 3) → (tag b ≠ 24 ∨ j ≠ 4) → (tag b ≠ 24 ∨ j ≠ 5) → (tag b ≠ 24 ∨ j ≠ 6) → (tag b ≠ 24 ∨ j ≠ 7) → fld F b j = fld Fo b j) → fld F p0 0 = .ref x0 → fld F p0 5 = .int z80469 → fld F p0 2 = .int z80470 → fld F p0 1 = .int z80471 → fld F p0 4 = .int z80472 → lv_has ls 2 [(0, .ref p0), (1, .int z80467)] → W p l e { frames := 2, cells := 0, slots := 0, locals := 41 } s m args below meth c H locs 0 0 Q (F0 m 116 ls [.ref b80468]) := by
    intro z80467 b80468 z80469 z80470 z80471 z80472 F H locs ls rz80467 mb80468 gb80468 rz80469 rz80470 rz80471 rz80472 hT hfr pf0 qz80469 qz80470 qz80471 qz80472 hl
    refine lv_iconst (v := 3) hx hb dX8_advance_116 (by decide) ?_
    refine lv_goto (tgt := 121) hx hb dX8_advance_117 (by decide) ?_
    exact K121 z80467 3 b80468 z80469 z80470 z80471 z80472 _ _ _ _ (by omega) (by decide) mb80468 gb80468 (by omega) (by omega) (by omega) (by omega) hT hfr pf0 qz80469 qz80470 qz80471 qz80472 (lv_sub hl [0, 1] rfl)
  have K45 : ∀ (z80473 : Int32) (z80474 : Int32) (z80475 : Int32) (z80476 : Int32) (F : Nat → va_E) (H : Heap) (locs : List Loc) (ls : Array Slot), (0 ≤ z80473.toInt ∧ z80473.toInt ≤ 1000) → (0 ≤ z80474.toInt ∧ z80474.toInt ≤ 1000) → (0 ≤ z80475.toInt ∧ z80475.toInt ≤ 1000) → (0 ≤ z80476.toInt ∧ z80476.toInt ≤ 1000) → TH G ttC A s tag L F H locs → (∀ b j : Nat, (tag b ≠ 24 ∨ j ≠ 2) → (tag b ≠ 24 ∨ j ≠ 3) → (tag b ≠ 24 ∨ j ≠ 4) → (tag b ≠ 24 ∨ j ≠ 5) → (tag b ≠ 24 ∨ j ≠ 6) → (tag b ≠ 24 ∨ j ≠ 7) → fld F b j = fld Fo b j) → fld F p0 0 = .ref x0 → fld F p0 4 = .int z80473 → fld F p0 5 = .int z80474 → fld F p0 2 = .int z80475 → fld F p0 1 = .int z80476 → lv_has ls 2 [(0, .ref p0)] → W p l e { frames := 2, cells := 0, slots := 0, locals := 41 } s m args below meth c H locs 0 0 Q (F0 m 45 ls []) := by
    intro z80473 z80474 z80475 z80476 F H locs ls rz80473 rz80474 rz80475 rz80476 hT hfr pf0 qz80473 qz80474 qz80475 qz80476 hl
    refine lv_aload_n hx hb dX8_advance_45 rfl (lv_at hl 0 rfl) ?_
    refine lv_aload_n hx hb dX8_advance_46 rfl (lv_at hl 0 rfl) ?_
    refine t_get (C := RX8) (T := TX8) (N := 8) X hT m0 g0 rfl rfl 2 (by decide) qw_195 inlX8 rfl dX8_advance_47 (fun v80477 hv80477 ov80477 => ?_)
    obtain rfl : v80477 = .int z80475 := hv80477.symm.trans qz80475
    refine t_put (C := RX8) (T := TX8) (N := 8) (v := .int z80475) X hT m0 g0 rfl tyX8 tyX8_ok nmX8 rfl 4 (by decide) qw_200 inlX8 rfl (by first | rfl | decide) (by first | rfl | decide) rfl (⟨_, rfl, (by omega), (by omega)⟩) dX8_advance_50 (fun F H locs hT v80478 h1v80478 h2v80478 => ?_)
    have qz80474 := (h1v80478 _ _ (Or.inr (by decide))).trans qz80474
    have qz80475 := (h1v80478 _ _ (Or.inr (by decide))).trans qz80475
    have qz80476 := (h1v80478 _ _ (Or.inr (by decide))).trans qz80476
    have pf0 := (h1v80478 _ _ (Or.inr (by decide))).trans pf0
    have hfr : ∀ b j : Nat, (tag b ≠ 24 ∨ j ≠ 2) → (tag b ≠ 24 ∨ j ≠ 3) → (tag b ≠ 24 ∨ j ≠ 4) → (tag b ≠ 24 ∨ j ≠ 5) → (tag b ≠ 24 ∨ j ≠ 6) → (tag b ≠ 24 ∨ j ≠ 7) → fld F b j = fld Fo b j := fun b j n24_2 n24_3 n24_4 n24_5 n24_6 n24_7 => (h1v80478 b j (fr_ne g0 n24_4)).trans (hfr b j n24_2 n24_3 n24_4 n24_5 n24_6 n24_7)
    refine lv_aload_n hx hb dX8_advance_53 rfl (lv_at hl 0 rfl) ?_
    refine lv_aload_n hx hb dX8_advance_54 rfl (lv_at hl 0 rfl) ?_
    refine t_get (C := RX8) (T := TX8) (N := 8) X hT m0 g0 rfl rfl 2 (by decide) qw_195 inlX8 rfl dX8_advance_55 (fun v80479 hv80479 ov80479 => ?_)
    obtain rfl : v80479 = .int z80475 := hv80479.symm.trans qz80475
    refine t_cVi (n := 1) (C := RX8) (T := TX8) (N := 8) (As := [.int z80475]) (rest := []) X hT (kt139_X8_byteAt l G tag L F hT.2.2.2 p0 z80475 x0 m0 g0 mx0 gx0 pf0) m0 g0 rfl rfl qw_204 qw_205 qw_206 qw_72 qw_207 ⟨rfl, by decide +kernel, by decide +kernel, by decide +kernel⟩ ⟨Nat.le_of_ble_eq_true rfl, Nat.le_of_ble_eq_true rfl⟩ hl rfl rfl (Nat.le_of_ble_eq_true rfl) dX8_advance_58 ⟨Nat.le_of_ble_eq_true rfl, Nat.le_of_ble_eq_true rfl⟩ (fun z80480 F9 H locs hT hz80480 => ?_)
    obtain ⟨fz80480, hz80480⟩ := hz80480
    rw [fz80480] at hT
    obtain ⟨hz80480, iz80480⟩ := hz80480
    refine lv_istore_n (lv' := [(1, .int z80480), (0, .ref p0)]) hx hb dX8_advance_61 rfl hl (by decide) rfl (fun ls hl => ?_)
    refine lv_iload_n hx hb dX8_advance_62 rfl (lv_at hl 0 rfl) ?_
    refine lv_iconst (v := (-1)) hx hb dX8_advance_63 (by decide) ?_
    refine lv_icmp_ne (tgt := 75) hx hb dX8_advance_64 (by decide) (fun c80481 => ?_) (fun c80481 => ?_)
    · have w80482 := cv_ne (rfl : z80480.toInt = z80480.toInt) (by decide : ((-1) : Int32).toInt = (-1)) c80481
      have w80483 := (fun h => (iz80480 h)) (by omega)
      refine lv_iload_n hx hb dX8_advance_75 rfl (lv_at hl 0 rfl) ?_
      refine t_cSi (n := 1) (As := [.int z80480]) (rest := []) X hT (kt140_X8_isLetter l G tag L F hT.2.2.2 z80480 ) qw_208 qw_209 qw_72 qw_210 ⟨by decide +kernel, by decide +kernel, by decide +kernel⟩ ⟨Nat.le_of_ble_eq_true rfl, Nat.le_of_ble_eq_true rfl⟩ hl rfl rfl (Nat.le_of_ble_eq_true rfl) dX8_advance_76 ⟨Nat.le_of_ble_eq_true rfl, Nat.le_of_ble_eq_true rfl⟩ (fun z80484 F9 H locs hT hz80484 => ?_)
      obtain ⟨fz80484, hz80484⟩ := hz80484
      rw [fz80484] at hT
      refine lv_if_eq (tgt := 89) hx hb dX8_advance_79 (by decide) (fun c80485 => ?_) (fun c80485 => ?_)
      · have w80486 := cv_eq (rfl : z80484.toInt = z80484.toInt) (by decide : (0 : Int32).toInt = 0) c80485
        refine lv_iload_n hx hb dX8_advance_89 rfl (lv_at hl 0 rfl) ?_
        refine t_cSi (n := 1) (As := [.int z80480]) (rest := []) X hT (kt141_X8_isDigit l G tag L F hT.2.2.2 z80480 ) qw_216 qw_217 qw_72 qw_218 ⟨by decide +kernel, by decide +kernel, by decide +kernel⟩ ⟨Nat.le_of_ble_eq_true rfl, Nat.le_of_ble_eq_true rfl⟩ hl rfl rfl (Nat.le_of_ble_eq_true rfl) dX8_advance_90 ⟨Nat.le_of_ble_eq_true rfl, Nat.le_of_ble_eq_true rfl⟩ (fun z80487 F9 H locs hT hz80487 => ?_)
        obtain ⟨fz80487, hz80487⟩ := hz80487
        rw [fz80487] at hT
        refine lv_if_eq (tgt := 103) hx hb dX8_advance_93 (by decide) (fun c80488 => ?_) (fun c80488 => ?_)
        · have w80489 := cv_eq (rfl : z80487.toInt = z80487.toInt) (by decide : (0 : Int32).toInt = 0) c80488
          refine lv_aload_n hx hb dX8_advance_103 rfl (lv_at hl 1 rfl) ?_
          refine lv_iload_n hx hb dX8_advance_104 rfl (lv_at hl 0 rfl) ?_
          refine lv_bipush (v := 59) hx hb dX8_advance_105 (by decide) ?_
          refine lv_icmp_eq (tgt := 116) hx hb dX8_advance_107 (by decide) (fun c80490 => ?_) (fun c80490 => ?_)
          · have w80491 := cv_eq (rfl : z80480.toInt = z80480.toInt) (by decide : (59 : Int32).toInt = 59) c80490
            have w80492 := (fun h => (iz80480 h)) (by omega)
            exact K116 z80480 p0 z80474 z80475 z80476 z80475 _ _ _ _ (by omega) m0 g0 (by omega) (by omega) (by omega) (by omega) hT hfr pf0 qz80474 qz80475 qz80476 v80478 (lv_sub hl [1, 0] rfl)
          · have w80493 := cv_ne (rfl : z80480.toInt = z80480.toInt) (by decide : (59 : Int32).toInt = 59) c80490
            have w80494 := (fun h => (iz80480 h)) (by omega)
            refine lv_iload_n hx hb dX8_advance_110 rfl (lv_at hl 0 rfl) ?_
            refine lv_bipush (v := 44) hx hb dX8_advance_111 (by decide) ?_
            refine lv_icmp_ne (tgt := 120) hx hb dX8_advance_113 (by decide) (fun c80495 => ?_) (fun c80495 => ?_)
            · have w80496 := cv_ne (rfl : z80480.toInt = z80480.toInt) (by decide : (44 : Int32).toInt = 44) c80495
              have w80497 := (fun h => (iz80480 h)) (by omega)
              refine lv_iconst (v := 4) hx hb dX8_advance_120 (by decide) ?_
              exact K121 z80480 4 p0 z80474 z80475 z80476 z80475 _ _ _ _ (by omega) (by decide) m0 g0 (by omega) (by omega) (by omega) (by omega) hT hfr pf0 qz80474 qz80475 qz80476 v80478 (lv_sub hl [1, 0] rfl)
            · have w80498 := cv_eq (rfl : z80480.toInt = z80480.toInt) (by decide : (44 : Int32).toInt = 44) c80495
              have w80499 := (fun h => (iz80480 h)) (by omega)
              exact K116 z80480 p0 z80474 z80475 z80476 z80475 _ _ _ _ (by omega) m0 g0 (by omega) (by omega) (by omega) (by omega) hT hfr pf0 qz80474 qz80475 qz80476 v80478 (lv_sub hl [1, 0] rfl)
        · have w80500 := cv_ne (rfl : z80487.toInt = z80487.toInt) (by decide : (0 : Int32).toInt = 0) c80488
          refine lv_aload_n hx hb dX8_advance_96 rfl (lv_at hl 1 rfl) ?_
          refine t_cVv (n := 0) (C := RX8) (T := TX8) (N := 8) (As := []) (rest := []) X hT (kt142_X8_takeWhole l G tag L F hT.2.2.2 p0 x0 m0 g0 mx0 gx0 pf0) m0 g0 rfl rfl qw_219 qw_220 qw_221 qw_72 qw_222 ⟨rfl, by decide +kernel, by decide +kernel, by decide +kernel⟩ ⟨Nat.le_of_ble_eq_true rfl, Nat.le_of_ble_eq_true rfl⟩ hl rfl rfl (Nat.le_of_ble_eq_true rfl) dX8_advance_97 ⟨Nat.le_of_ble_eq_true rfl, Nat.le_of_ble_eq_true rfl⟩ (fun F H locs hT hz80501 => ?_)
          have yz80501 := hz80501
          have qz80474 := (yz80501 _ 5 (Or.inr (by decide)) (Or.inr (by decide)) (Or.inr (by decide))).trans qz80474
          have qz80476 := (yz80501 _ 1 (Or.inr (by decide)) (Or.inr (by decide)) (Or.inr (by decide))).trans qz80476
          have pf0 := (yz80501 _ 0 (Or.inr (by decide)) (Or.inr (by decide)) (Or.inr (by decide))).trans pf0
          have v80478 := (yz80501 _ 4 (Or.inr (by decide)) (Or.inr (by decide)) (Or.inr (by decide))).trans v80478
          have hfr : ∀ b j : Nat, (tag b ≠ 24 ∨ j ≠ 2) → (tag b ≠ 24 ∨ j ≠ 3) → (tag b ≠ 24 ∨ j ≠ 4) → (tag b ≠ 24 ∨ j ≠ 5) → (tag b ≠ 24 ∨ j ≠ 6) → (tag b ≠ 24 ∨ j ≠ 7) → fld F b j = fld Fo b j := fun b j n24_2 n24_3 n24_4 n24_5 n24_6 n24_7 => (yz80501 b j n24_2 n24_3 n24_6).trans (hfr b j n24_2 n24_3 n24_4 n24_5 n24_6 n24_7)
          refine lv_goto (tgt := 139) hx hb dX8_advance_100 (by decide) ?_
          exact t_vret hQ X hT hfr (Nat.le_of_ble_eq_true rfl) (Nat.le_of_ble_eq_true rfl) dX8_advance_139
      · have w80502 := cv_ne (rfl : z80484.toInt = z80484.toInt) (by decide : (0 : Int32).toInt = 0) c80485
        refine lv_aload_n hx hb dX8_advance_82 rfl (lv_at hl 1 rfl) ?_
        refine t_cVv (n := 0) (C := RX8) (T := TX8) (N := 8) (As := []) (rest := []) X hT (kt143_X8_takeWord l G tag L F hT.2.2.2 p0 x0 m0 g0 mx0 gx0 pf0) m0 g0 rfl rfl qw_211 qw_212 qw_213 qw_72 qw_214 ⟨rfl, by decide +kernel, by decide +kernel, by decide +kernel⟩ ⟨Nat.le_of_ble_eq_true rfl, Nat.le_of_ble_eq_true rfl⟩ hl rfl rfl (Nat.le_of_ble_eq_true rfl) dX8_advance_83 ⟨Nat.le_of_ble_eq_true rfl, Nat.le_of_ble_eq_true rfl⟩ (fun F H locs hT hz80503 => ?_)
        have yz80503 := hz80503
        have qz80474 := (yz80503 _ 5 (Or.inr (by decide)) (Or.inr (by decide)) (Or.inr (by decide))).trans qz80474
        have qz80476 := (yz80503 _ 1 (Or.inr (by decide)) (Or.inr (by decide)) (Or.inr (by decide))).trans qz80476
        have pf0 := (yz80503 _ 0 (Or.inr (by decide)) (Or.inr (by decide)) (Or.inr (by decide))).trans pf0
        have v80478 := (yz80503 _ 4 (Or.inr (by decide)) (Or.inr (by decide)) (Or.inr (by decide))).trans v80478
        have hfr : ∀ b j : Nat, (tag b ≠ 24 ∨ j ≠ 2) → (tag b ≠ 24 ∨ j ≠ 3) → (tag b ≠ 24 ∨ j ≠ 4) → (tag b ≠ 24 ∨ j ≠ 5) → (tag b ≠ 24 ∨ j ≠ 6) → (tag b ≠ 24 ∨ j ≠ 7) → fld F b j = fld Fo b j := fun b j n24_2 n24_3 n24_4 n24_5 n24_6 n24_7 => (yz80503 b j n24_2 n24_3 n24_7).trans (hfr b j n24_2 n24_3 n24_4 n24_5 n24_6 n24_7)
        refine lv_goto (tgt := 139) hx hb dX8_advance_86 (by decide) ?_
        exact t_vret hQ X hT hfr (Nat.le_of_ble_eq_true rfl) (Nat.le_of_ble_eq_true rfl) dX8_advance_139
    · have w80504 := cv_eq (rfl : z80480.toInt = z80480.toInt) (by decide : ((-1) : Int32).toInt = (-1)) c80481
      refine lv_aload_n hx hb dX8_advance_67 rfl (lv_at hl 1 rfl) ?_
      refine lv_iconst (v := 0) hx hb dX8_advance_68 (by decide) ?_
      refine t_put (C := RX8) (T := TX8) (N := 8) (v := .int 0) X hT m0 g0 rfl tyX8 tyX8_ok nmX8 rfl 3 (by decide) qw_202 inlX8 rfl (by first | rfl | decide) (by first | rfl | decide) rfl (⟨_, rfl, (by decide), (by decide)⟩) dX8_advance_69 (fun F H locs hT v80505 h1v80505 h2v80505 => ?_)
      have qz80474 := (h1v80505 _ _ (Or.inr (by decide))).trans qz80474
      have qz80475 := (h1v80505 _ _ (Or.inr (by decide))).trans qz80475
      have qz80476 := (h1v80505 _ _ (Or.inr (by decide))).trans qz80476
      have pf0 := (h1v80505 _ _ (Or.inr (by decide))).trans pf0
      have v80478 := (h1v80505 _ _ (Or.inr (by decide))).trans v80478
      have hfr : ∀ b j : Nat, (tag b ≠ 24 ∨ j ≠ 2) → (tag b ≠ 24 ∨ j ≠ 3) → (tag b ≠ 24 ∨ j ≠ 4) → (tag b ≠ 24 ∨ j ≠ 5) → (tag b ≠ 24 ∨ j ≠ 6) → (tag b ≠ 24 ∨ j ≠ 7) → fld F b j = fld Fo b j := fun b j n24_2 n24_3 n24_4 n24_5 n24_6 n24_7 => (h1v80505 b j (fr_ne g0 n24_3)).trans (hfr b j n24_2 n24_3 n24_4 n24_5 n24_6 n24_7)
      refine lv_goto (tgt := 139) hx hb dX8_advance_72 (by decide) ?_
      exact t_vret hQ X hT hfr (Nat.le_of_ble_eq_true rfl) (Nat.le_of_ble_eq_true rfl) dX8_advance_139
  have K8 : ∀ (n : Nat) (z80506 : Int32) (z80507 : Int32) (z80508 : Int32) (F : Nat → va_E) (H : Heap) (locs : List Loc) (ls : Array Slot), (1000 - z80508.toInt < (n : Int)) → (0 ≤ z80506.toInt ∧ z80506.toInt ≤ 1000) → (0 ≤ z80507.toInt ∧ z80507.toInt ≤ 1000) → (0 ≤ z80508.toInt ∧ z80508.toInt ≤ 1000) → TH G ttC A s tag L F H locs → (∀ b j : Nat, (tag b ≠ 24 ∨ j ≠ 2) → (tag b ≠ 24 ∨ j ≠ 3) → (tag b ≠ 24 ∨ j ≠ 4) → (tag b ≠ 24 ∨ j ≠ 5) → (tag b ≠ 24 ∨ j ≠ 6) → (tag b ≠ 24 ∨ j ≠ 7) → fld F b j = fld Fo b j) → fld F p0 0 = .ref x0 → fld F p0 4 = .int z80506 → fld F p0 5 = .int z80507 → fld F p0 2 = .int z80508 → lv_has ls 2 [(0, .ref p0)] → W p l e { frames := 2, cells := 0, slots := 0, locals := 41 } s m args below meth c H locs 0 0 Q (F0 m 8 ls []) := by
    intro n
    induction n with
    | zero =>
      intro z80506 z80507 z80508 F H locs ls hn rz80506 rz80507 rz80508 hT hfr pf0 qz80506 qz80507 qz80508 hl
      exfalso
      omega
    | succ n ih8 =>
      intro z80506 z80507 z80508 F H locs ls hn rz80506 rz80507 rz80508 hT hfr pf0 qz80506 qz80507 qz80508 hl
      refine lv_aload_n hx hb dX8_advance_8 rfl (lv_at hl 0 rfl) ?_
      refine t_get (C := RX8) (T := TX8) (N := 8) X hT m0 g0 rfl rfl 2 (by decide) qw_195 inlX8 rfl dX8_advance_9 (fun v80509 hv80509 ov80509 => ?_)
      obtain rfl : v80509 = .int z80508 := hv80509.symm.trans qz80508
      refine lv_aload_n hx hb dX8_advance_12 rfl (lv_at hl 0 rfl) ?_
      refine t_get (C := RX8) (T := TX8) (N := 8) X hT m0 g0 rfl rfl 1 (by decide) qw_194 inlX8 rfl dX8_advance_13 (fun v80510 hv80510 ov80510 => ?_)
      obtain ⟨z80511, rfl, rz80511⟩ := okV_i ov80510
      refine lv_icmp_ge (tgt := 45) hx hb dX8_advance_16 (by decide) (fun c80512 => ?_) (fun c80512 => ?_)
      · have w80513 := cv_le (rfl : z80511.toInt = z80511.toInt) (rfl : z80508.toInt = z80508.toInt) c80512
        exact K45 z80506 z80507 z80508 z80511 _ _ _ _ (by omega) (by omega) (by omega) (by omega) hT hfr pf0 qz80506 qz80507 qz80508 hv80510 (lv_sub hl [0] rfl)
      · have w80514 := cv_nle (rfl : z80511.toInt = z80511.toInt) (rfl : z80508.toInt = z80508.toInt) c80512
        refine lv_aload_n hx hb dX8_advance_19 rfl (lv_at hl 0 rfl) ?_
        refine lv_aload_n hx hb dX8_advance_20 rfl (lv_at hl 0 rfl) ?_
        refine t_get (C := RX8) (T := TX8) (N := 8) X hT m0 g0 rfl rfl 2 (by decide) qw_195 inlX8 rfl dX8_advance_21 (fun v80515 hv80515 ov80515 => ?_)
        obtain rfl : v80515 = .int z80508 := hv80515.symm.trans qz80508
        refine t_cVi (n := 1) (C := RX8) (T := TX8) (N := 8) (As := [.int z80508]) (rest := []) X hT (kt139_X8_byteAt l G tag L F hT.2.2.2 p0 z80508 x0 m0 g0 mx0 gx0 pf0) m0 g0 rfl rfl qw_204 qw_205 qw_206 qw_72 qw_207 ⟨rfl, by decide +kernel, by decide +kernel, by decide +kernel⟩ ⟨Nat.le_of_ble_eq_true rfl, Nat.le_of_ble_eq_true rfl⟩ hl rfl rfl (Nat.le_of_ble_eq_true rfl) dX8_advance_24 ⟨Nat.le_of_ble_eq_true rfl, Nat.le_of_ble_eq_true rfl⟩ (fun z80516 F9 H locs hT hz80516 => ?_)
        obtain ⟨fz80516, hz80516⟩ := hz80516
        rw [fz80516] at hT
        obtain ⟨hz80516, iz80516⟩ := hz80516
        refine lv_bipush (v := 32) hx hb dX8_advance_27 (by decide) ?_
        refine lv_icmp_ne (tgt := 45) hx hb dX8_advance_29 (by decide) (fun c80517 => ?_) (fun c80517 => ?_)
        · have w80518 := cv_ne (rfl : z80516.toInt = z80516.toInt) (by decide : (32 : Int32).toInt = 32) c80517
          exact K45 z80506 z80507 z80508 z80511 _ _ _ _ (by omega) (by omega) (by omega) (by omega) hT hfr pf0 qz80506 qz80507 qz80508 hv80510 (lv_sub hl [0] rfl)
        · have w80519 := cv_eq (rfl : z80516.toInt = z80516.toInt) (by decide : (32 : Int32).toInt = 32) c80517
          have w80520 := (fun h => (iz80516 h)) (by omega)
          refine lv_aload_n hx hb dX8_advance_32 rfl (lv_at hl 0 rfl) ?_
          refine lv_dup hx hb dX8_advance_33 rfl ?_
          refine t_get (C := RX8) (T := TX8) (N := 8) X hT m0 g0 rfl rfl 2 (by decide) qw_195 inlX8 rfl dX8_advance_34 (fun v80521 hv80521 ov80521 => ?_)
          obtain rfl : v80521 = .int z80508 := hv80521.symm.trans qz80508
          refine lv_iconst (v := 1) hx hb dX8_advance_37 (by decide) ?_
          refine lv_iadd hx hb dX8_advance_38 ?_
          refine lv_topi (fun z80522 ez80522 => ?_)
          have hz80522 : z80522.toInt = z80508.toInt + 1 := ar_add ez80522 (rfl : z80508.toInt = z80508.toInt) (by decide : (1 : Int32).toInt = 1) (by omega) (by omega)
          have rz80522 : 1 ≤ z80522.toInt ∧ z80522.toInt ≤ 1000 := by omega
          refine t_put (C := RX8) (T := TX8) (N := 8) (v := .int z80522) X hT m0 g0 rfl tyX8 tyX8_ok nmX8 rfl 2 (by decide) qw_195 inlX8 rfl (by first | rfl | decide) (by first | rfl | decide) rfl (⟨_, rfl, (by omega), (by omega)⟩) dX8_advance_39 (fun F H locs hT v80523 h1v80523 h2v80523 => ?_)
          have qz80506 := (h1v80523 _ _ (Or.inr (by decide))).trans qz80506
          have qz80507 := (h1v80523 _ _ (Or.inr (by decide))).trans qz80507
          have pf0 := (h1v80523 _ _ (Or.inr (by decide))).trans pf0
          have hv80510 := (h1v80523 _ _ (Or.inr (by decide))).trans hv80510
          have hfr : ∀ b j : Nat, (tag b ≠ 24 ∨ j ≠ 2) → (tag b ≠ 24 ∨ j ≠ 3) → (tag b ≠ 24 ∨ j ≠ 4) → (tag b ≠ 24 ∨ j ≠ 5) → (tag b ≠ 24 ∨ j ≠ 6) → (tag b ≠ 24 ∨ j ≠ 7) → fld F b j = fld Fo b j := fun b j n24_2 n24_3 n24_4 n24_5 n24_6 n24_7 => (h1v80523 b j (fr_ne g0 n24_2)).trans (hfr b j n24_2 n24_3 n24_4 n24_5 n24_6 n24_7)
          refine lv_goto (tgt := 8) hx hb dX8_advance_42 (by decide) ?_
          exact ih8 z80506 z80507 z80522 _ _ _ _ (by omega) (by omega) (by omega) (by omega) hT hfr pf0 qz80506 qz80507 v80523 (lv_sub hl [0] rfl)
  refine lv_aload_n hx hb dX8_advance_0 rfl (lv_at hl 0 rfl) ?_
  refine lv_aload_n hx hb dX8_advance_1 rfl (lv_at hl 0 rfl) ?_
  refine t_get (C := RX8) (T := TX8) (N := 8) X hT m0 g0 rfl rfl 4 (by decide) qw_200 inlX8 rfl dX8_advance_2 (fun v80524 hv80524 ov80524 => ?_)
  obtain ⟨z80525, rfl, rz80525⟩ := okV_i ov80524
  refine t_put (C := RX8) (T := TX8) (N := 8) (v := .int z80525) X hT m0 g0 rfl tyX8 tyX8_ok nmX8 rfl 5 (by decide) qw_201 inlX8 rfl (by first | rfl | decide) (by first | rfl | decide) rfl (⟨_, rfl, (by omega), (by omega)⟩) dX8_advance_5 (fun F H locs hT v80526 h1v80526 h2v80526 => ?_)
  have pf0 := (h1v80526 _ _ (Or.inr (by decide))).trans pf0
  have hv80524 := (h1v80526 _ _ (Or.inr (by decide))).trans hv80524
  have hfr : ∀ b j : Nat, (tag b ≠ 24 ∨ j ≠ 2) → (tag b ≠ 24 ∨ j ≠ 3) → (tag b ≠ 24 ∨ j ≠ 4) → (tag b ≠ 24 ∨ j ≠ 5) → (tag b ≠ 24 ∨ j ≠ 6) → (tag b ≠ 24 ∨ j ≠ 7) → fld F b j = fld Fo b j := fun b j n24_2 n24_3 n24_4 n24_5 n24_6 n24_7 => (h1v80526 b j (fr_ne g0 n24_5)).trans (hfr b j n24_2 n24_3 n24_4 n24_5 n24_6 n24_7)
  obtain ⟨z80527, qz80527, rz80527⟩ := t_fld hT m0 g0 rfl 2 rfl
  have rz80527 : 0 ≤ z80527.toInt ∧ z80527.toInt ≤ 1000 := rz80527
  exact K8 1001 z80525 z80525 z80527 _ _ _ _ (by omega) (by omega) (by omega) (by omega) hT hfr pf0 hv80524 v80526 qz80527 (lv_sub hl [0] rfl)
