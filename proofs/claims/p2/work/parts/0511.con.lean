set_option maxHeartbeats 4000000 in
set_option maxRecDepth 100000 in
theorem kt101_X11_build (l : Launch) (G : KG) (tag : Nat → Nat) (L : List Nat) (Fo : Nat → va_E) (ho : okT G ttC tag L Fo) (p0 : Nat) (p1 : Int32) (p2 : Int32) (p3 : Int32) (p4 : Int32) (p5 : Int32) (m0 : p0 ∈ L) (g0 : tag p0 = 26) : TMi l yX11_build cX11_build 8 (some .int) { frames := 3, cells := 0, slots := 0, locals := 80 } G ttC tag L Fo [.ref p0, .int p1, .int p2, .int p3, .int p4, .int p5] (fun r F1 => ((-2147483648) ≤ r.toInt ∧ r.toInt ≤ 2147483647) ∧ (∀ b j : Nat, (tag b ≠ 19 ∨ j ≠ 0) → (tag b ≠ 19 ∨ j ≠ 1) → (tag b ≠ 23 ∨ j ≠ 2) → (tag b ≠ 23 ∨ j ≠ 3) → (tag b ≠ 26 ∨ j ≠ 13) → fld F1 b j = fld Fo b j)) := by
  refine t_bodyi (y := yX11_build) (cd := cX11_build) (mL := 8) (rt := (some .int)) (rm := { frames := 3, cells := 0, slots := 0, locals := 80 }) (av := [.ref p0, .int p1, .int p2, .int p3, .int p4, .int p5]) (by decide) (Nat.le_of_ble_eq_true rfl) ho ?_
  intro p e s m args below meth c ls A Q hQ X hT hl
  have hx := X.1.1
  have hb := X.1.2.1
  have hl : lv_has ls 8 [(0, .ref p0), (1, .int p1), (2, .int p2), (3, .int p3), (4, .int p4), (5, .int p5)] := hl
  have rp1 := rg_all p1
  have rp2 := rg_all p2
  have rp3 := rg_all p3
  have rp4 := rg_all p4
  have rp5 := rg_all p5
  obtain ⟨F, hFo⟩ : ∃ F : Nat → va_E, F = Fo := ⟨_, rfl⟩
  rw [← hFo] at hT
  have hfr : ∀ b j : Nat, (tag b ≠ 19 ∨ j ≠ 0) → (tag b ≠ 19 ∨ j ≠ 1) → (tag b ≠ 23 ∨ j ≠ 2) → (tag b ≠ 23 ∨ j ≠ 3) → (tag b ≠ 26 ∨ j ≠ 13) → fld F b j = fld Fo b j := by
    rw [hFo]
    intros
    rfl
  have K25 : ∀  (F : Nat → va_E) (H : Heap) (locs : List Loc) (ls : Array Slot), TH G ttC A s tag L F H locs → (∀ b j : Nat, (tag b ≠ 19 ∨ j ≠ 0) → (tag b ≠ 19 ∨ j ≠ 1) → (tag b ≠ 23 ∨ j ≠ 2) → (tag b ≠ 23 ∨ j ≠ 3) → (tag b ≠ 26 ∨ j ≠ 13) → fld F b j = fld Fo b j) → lv_has ls 8 [(0, .ref p0), (1, .int p1), (2, .int p2), (3, .int p3), (4, .int p4), (5, .int p5)] → W p l e { frames := 3, cells := 0, slots := 0, locals := 80 } s m args below meth c H locs 0 0 Q (F0 m 25 ls []) := by
    intro F H locs ls hT hfr hl
    refine lv_aload_n hx hb dX11_build_25 rfl (lv_at hl 0 rfl) ?_
    refine lv_iconst (v := 1) hx hb dX11_build_26 (by decide) ?_
    refine t_cVi (n := 1) (C := RX11) (T := TX11) (N := 16) (As := [.int 1]) (rest := []) X hT (kt97_X11_refuse l G tag L F hT.2.2.2 p0 1 m0 g0) m0 g0 rfl rfl qw_152 qw_153 qw_154 qw_2 qw_155 ⟨rfl, by decide +kernel, by decide +kernel, by decide +kernel⟩ ⟨Nat.le_of_ble_eq_true rfl, Nat.le_of_ble_eq_true rfl⟩ hl rfl rfl (Nat.le_of_ble_eq_true rfl) dX11_build_27 ⟨Nat.le_of_ble_eq_true rfl, Nat.le_of_ble_eq_true rfl⟩ (fun z32975 F H locs hT hz32975 => ?_)
    obtain ⟨hz32975, yz32975⟩ := hz32975
    have hfr : ∀ b j : Nat, (tag b ≠ 19 ∨ j ≠ 0) → (tag b ≠ 19 ∨ j ≠ 1) → (tag b ≠ 23 ∨ j ≠ 2) → (tag b ≠ 23 ∨ j ≠ 3) → (tag b ≠ 26 ∨ j ≠ 13) → fld F b j = fld Fo b j := fun b j n19_0 n19_1 n23_2 n23_3 n26_13 => (yz32975 b j n26_13).trans (hfr b j n19_0 n19_1 n23_2 n23_3 n26_13)
    exact t_iret hQ X hT (⟨rg_all _, hfr⟩) (Nat.le_of_ble_eq_true rfl) (Nat.le_of_ble_eq_true rfl) dX11_build_30
  have K85 : ∀ (z32978 : Int32) (F : Nat → va_E) (H : Heap) (locs : List Loc) (ls : Array Slot), (1 ≤ z32978.toInt ∧ z32978.toInt ≤ 6) → (0 ≤ p1.toInt ∧ p1.toInt ≤ 3) → (0 ≤ p3.toInt ∧ p3.toInt ≤ 3) → TH G ttC A s tag L F H locs → (∀ b j : Nat, (tag b ≠ 19 ∨ j ≠ 0) → (tag b ≠ 19 ∨ j ≠ 1) → (tag b ≠ 23 ∨ j ≠ 2) → (tag b ≠ 23 ∨ j ≠ 3) → (tag b ≠ 26 ∨ j ≠ 13) → fld F b j = fld Fo b j) → lv_has ls 8 [(0, .ref p0), (1, .int p1), (2, .int p2), (3, .int p3), (4, .int p4), (5, .int p5), (6, .int z32978)] → W p l e { frames := 3, cells := 0, slots := 0, locals := 80 } s m args below meth c H locs 0 0 Q (F0 m 85 ls []) := by
    intro z32978 F H locs ls rz32978 r9s32976 r9s32977 hT hfr hl
    refine lv_aload_n hx hb dX11_build_85 rfl (lv_at hl 0 rfl) ?_
    refine lv_iconst (v := 2) hx hb dX11_build_86 (by decide) ?_
    refine t_cVi (n := 1) (C := RX11) (T := TX11) (N := 16) (As := [.int 2]) (rest := []) X hT (kt97_X11_refuse l G tag L F hT.2.2.2 p0 2 m0 g0) m0 g0 rfl rfl qw_152 qw_153 qw_154 qw_2 qw_155 ⟨rfl, by decide +kernel, by decide +kernel, by decide +kernel⟩ ⟨Nat.le_of_ble_eq_true rfl, Nat.le_of_ble_eq_true rfl⟩ hl rfl rfl (Nat.le_of_ble_eq_true rfl) dX11_build_87 ⟨Nat.le_of_ble_eq_true rfl, Nat.le_of_ble_eq_true rfl⟩ (fun z32979 F H locs hT hz32979 => ?_)
    obtain ⟨hz32979, yz32979⟩ := hz32979
    have hfr : ∀ b j : Nat, (tag b ≠ 19 ∨ j ≠ 0) → (tag b ≠ 19 ∨ j ≠ 1) → (tag b ≠ 23 ∨ j ≠ 2) → (tag b ≠ 23 ∨ j ≠ 3) → (tag b ≠ 26 ∨ j ≠ 13) → fld F b j = fld Fo b j := fun b j n19_0 n19_1 n23_2 n23_3 n26_13 => (yz32979 b j n26_13).trans (hfr b j n19_0 n19_1 n23_2 n23_3 n26_13)
    exact t_iret hQ X hT (⟨rg_all _, hfr⟩) (Nat.le_of_ble_eq_true rfl) (Nat.le_of_ble_eq_true rfl) dX11_build_90
  have K126 : ∀ (z32984 : Int32) (F : Nat → va_E) (H : Heap) (locs : List Loc) (ls : Array Slot), (1 ≤ z32984.toInt ∧ z32984.toInt ≤ 6) → (0 ≤ p1.toInt ∧ p1.toInt ≤ 3) → (0 ≤ p3.toInt ∧ p3.toInt ≤ 3) → (0 ≤ p4.toInt ∧ p4.toInt ≤ 10) → (0 ≤ p5.toInt ∧ p5.toInt ≤ 99) → TH G ttC A s tag L F H locs → (∀ b j : Nat, (tag b ≠ 19 ∨ j ≠ 0) → (tag b ≠ 19 ∨ j ≠ 1) → (tag b ≠ 23 ∨ j ≠ 2) → (tag b ≠ 23 ∨ j ≠ 3) → (tag b ≠ 26 ∨ j ≠ 13) → fld F b j = fld Fo b j) → lv_has ls 8 [(0, .ref p0), (1, .int p1), (2, .int p2), (3, .int p3), (4, .int p4), (5, .int p5), (6, .int z32984)] → W p l e { frames := 3, cells := 0, slots := 0, locals := 80 } s m args below meth c H locs 0 0 Q (F0 m 126 ls []) := by
    intro z32984 F H locs ls rz32984 r9s32980 r9s32981 r9s32982 r9s32983 hT hfr hl
    refine lv_aload_n hx hb dX11_build_126 rfl (lv_at hl 0 rfl) ?_
    refine lv_iconst (v := 5) hx hb dX11_build_127 (by decide) ?_
    refine t_cVi (n := 1) (C := RX11) (T := TX11) (N := 16) (As := [.int 5]) (rest := []) X hT (kt97_X11_refuse l G tag L F hT.2.2.2 p0 5 m0 g0) m0 g0 rfl rfl qw_152 qw_153 qw_154 qw_2 qw_155 ⟨rfl, by decide +kernel, by decide +kernel, by decide +kernel⟩ ⟨Nat.le_of_ble_eq_true rfl, Nat.le_of_ble_eq_true rfl⟩ hl rfl rfl (Nat.le_of_ble_eq_true rfl) dX11_build_128 ⟨Nat.le_of_ble_eq_true rfl, Nat.le_of_ble_eq_true rfl⟩ (fun z32985 F H locs hT hz32985 => ?_)
    obtain ⟨hz32985, yz32985⟩ := hz32985
    have hfr : ∀ b j : Nat, (tag b ≠ 19 ∨ j ≠ 0) → (tag b ≠ 19 ∨ j ≠ 1) → (tag b ≠ 23 ∨ j ≠ 2) → (tag b ≠ 23 ∨ j ≠ 3) → (tag b ≠ 26 ∨ j ≠ 13) → fld F b j = fld Fo b j := fun b j n19_0 n19_1 n23_2 n23_3 n26_13 => (yz32985 b j n26_13).trans (hfr b j n19_0 n19_1 n23_2 n23_3 n26_13)
    exact t_iret hQ X hT (⟨rg_all _, hfr⟩) (Nat.le_of_ble_eq_true rfl) (Nat.le_of_ble_eq_true rfl) dX11_build_131
  refine lv_aload_n hx hb dX11_build_0 rfl (lv_at hl 0 rfl) ?_
  refine lv_iload_n hx hb dX11_build_1 rfl (lv_at hl 1 rfl) ?_
  refine t_cVi (n := 1) (C := RX11) (T := TX11) (N := 16) (As := [.int p1]) (rest := []) X hT (kt93_X11_isHouse l G tag L F hT.2.2.2 p0 p1 m0 g0) m0 g0 rfl rfl qw_770 qw_771 qw_772 qw_2 qw_773 ⟨rfl, by decide +kernel, by decide +kernel, by decide +kernel⟩ ⟨Nat.le_of_ble_eq_true rfl, Nat.le_of_ble_eq_true rfl⟩ hl rfl rfl (Nat.le_of_ble_eq_true rfl) dX11_build_2 ⟨Nat.le_of_ble_eq_true rfl, Nat.le_of_ble_eq_true rfl⟩ (fun z32986 F9 H locs hT hz32986 => ?_)
  obtain ⟨fz32986, hz32986⟩ := hz32986
  rw [fz32986] at hT
  obtain ⟨hz32986, iz32986⟩ := hz32986
  refine lv_if_eq (tgt := 25) hx hb dX11_build_5 (by decide) (fun c32987 => ?_) (fun c32987 => ?_)
  · have w32988 := cv_eq (rfl : z32986.toInt = z32986.toInt) (by decide : (0 : Int32).toInt = 0) c32987
    exact K25  _ _ _ _  hT hfr  (lv_sub hl [0, 1, 2, 3, 4, 5] rfl)
  · have w32989 := cv_ne (rfl : z32986.toInt = z32986.toInt) (by decide : (0 : Int32).toInt = 0) c32987
    have w32990 := (fun h => (iz32986 h)) (by omega)
    refine lv_aload_n hx hb dX11_build_8 rfl (lv_at hl 0 rfl) ?_
    refine lv_iload_n hx hb dX11_build_9 rfl (lv_at hl 2 rfl) ?_
    refine t_cVi (n := 1) (C := RX11) (T := TX11) (N := 16) (As := [.int p2]) (rest := []) X hT (kt99_X11_isStone l G tag L F hT.2.2.2 p0 p2 m0 g0) m0 g0 rfl rfl qw_954 qw_955 qw_956 qw_2 qw_957 ⟨rfl, by decide +kernel, by decide +kernel, by decide +kernel⟩ ⟨Nat.le_of_ble_eq_true rfl, Nat.le_of_ble_eq_true rfl⟩ hl rfl rfl (Nat.le_of_ble_eq_true rfl) dX11_build_10 ⟨Nat.le_of_ble_eq_true rfl, Nat.le_of_ble_eq_true rfl⟩ (fun z32991 F9 H locs hT hz32991 => ?_)
    obtain ⟨fz32991, hz32991⟩ := hz32991
    rw [fz32991] at hT
    refine lv_if_eq (tgt := 25) hx hb dX11_build_13 (by decide) (fun c32992 => ?_) (fun c32992 => ?_)
    · have w32993 := cv_eq (rfl : z32991.toInt = z32991.toInt) (by decide : (0 : Int32).toInt = 0) c32992
      exact K25  _ _ _ _  hT hfr  (lv_sub hl [0, 1, 2, 3, 4, 5] rfl)
    · have w32994 := cv_ne (rfl : z32991.toInt = z32991.toInt) (by decide : (0 : Int32).toInt = 0) c32992
      refine lv_iload_n hx hb dX11_build_16 rfl (lv_at hl 3 rfl) ?_
      refine lv_if_lt (tgt := 25) hx hb dX11_build_17 (by decide) (fun c32995 => ?_) (fun c32995 => ?_)
      · have w32996 := cv_lt (rfl : p3.toInt = p3.toInt) (by decide : (0 : Int32).toInt = 0) c32995
        exact K25  _ _ _ _  hT hfr  (lv_sub hl [0, 1, 2, 3, 4, 5] rfl)
      · have w32997 := cv_nlt (rfl : p3.toInt = p3.toInt) (by decide : (0 : Int32).toInt = 0) c32995
        refine lv_iload_n hx hb dX11_build_20 rfl (lv_at hl 3 rfl) ?_
        refine lv_iconst (v := 4) hx hb dX11_build_21 (by decide) ?_
        refine lv_icmp_lt (tgt := 31) hx hb dX11_build_22 (by decide) (fun c32998 => ?_) (fun c32998 => ?_)
        · have w32999 := cv_lt (rfl : p3.toInt = p3.toInt) (by decide : (4 : Int32).toInt = 4) c32998
          refine lv_aload_n hx hb dX11_build_31 rfl (lv_at hl 0 rfl) ?_
          refine t_get (C := RX11) (T := TX11) (N := 16) X hT m0 g0 rfl rfl 5 (by decide) qw_23 inlX11 rfl dX11_build_32 (fun v33000 hv33000 ov33000 => ?_)
          obtain ⟨b33001, rfl, mb33001, gb33001⟩ := okV_r ov33000
          have gb33001 : tag b33001 = 19 := tg_of gb33001
          refine t_get (C := RX7) (T := TX7) (N := 7) X hT mb33001 gb33001 rfl rfl 2 (by decide) qw_766 inlX7 rfl dX11_build_35 (fun v33002 hv33002 ov33002 => ?_)
          obtain ⟨b33003, rfl, mb33003, gb33003⟩ := okV_r ov33002
          have gb33003 : tag b33003 = 8 := tg_of gb33003
          refine lv_iload_n hx hb dX11_build_38 rfl (lv_at hl 1 rfl) ?_
          refine t_ild X hT mb33003 gb33003 rfl (by omega) dX11_build_39 (fun z33004 vz33004 rz33004 => ?_)
          have rz33004 : 0 ≤ z33004.toInt ∧ z33004.toInt ≤ 6 := rz33004
          refine lv_iconst (v := 1) hx hb dX11_build_40 (by decide) ?_
          refine lv_iadd hx hb dX11_build_41 ?_
          refine lv_topi (fun z33005 ez33005 => ?_)
          have hz33005 : z33005.toInt = z33004.toInt + 1 := ar_add ez33005 (rfl : z33004.toInt = z33004.toInt) (by decide : (1 : Int32).toInt = 1) (by omega) (by omega)
          have rz33005 : 1 ≤ z33005.toInt ∧ z33005.toInt ≤ 7 := by omega
          refine lv_istore (lv' := [(6, .int z33005), (0, .ref p0), (1, .int p1), (2, .int p2), (3, .int p3), (4, .int p4), (5, .int p5)]) hx hb dX11_build_42 hl (by decide) rfl (fun ls hl => ?_)
          refine lv_iload hx hb dX11_build_44 (lv_at hl 0 rfl) ?_
          refine lv_bipush (v := 6) hx hb dX11_build_46 (by decide) ?_
          refine lv_icmp_le (tgt := 57) hx hb dX11_build_48 (by decide) (fun c33006 => ?_) (fun c33006 => ?_)
          · have w33007 := cv_le (rfl : z33005.toInt = z33005.toInt) (by decide : (6 : Int32).toInt = 6) c33006
            refine lv_iload hx hb dX11_build_57 (lv_at hl 5 rfl) ?_
            refine lv_if_lt (tgt := 85) hx hb dX11_build_59 (by decide) (fun c33008 => ?_) (fun c33008 => ?_)
            · have w33009 := cv_lt (rfl : p4.toInt = p4.toInt) (by decide : (0 : Int32).toInt = 0) c33008
              exact K85 z33005 _ _ _ _ (by omega) (by omega) (by omega) hT hfr  (lv_sub hl [1, 2, 3, 4, 5, 6, 0] rfl)
            · have w33010 := cv_nlt (rfl : p4.toInt = p4.toInt) (by decide : (0 : Int32).toInt = 0) c33008
              refine lv_iload hx hb dX11_build_62 (lv_at hl 5 rfl) ?_
              refine lv_iconst (v := 2) hx hb dX11_build_64 (by decide) ?_
              refine lv_iload hx hb dX11_build_65 (lv_at hl 0 rfl) ?_
              refine lv_imul hx hb dX11_build_67 ?_
              refine lv_topi (fun z33011 ez33011 => ?_)
              have hz33011 : z33011.toInt = 2 * z33005.toInt := ar_mul ez33011 (by decide : (2 : Int32).toInt = 2) (rfl : z33005.toInt = z33005.toInt) (by omega) (by omega)
              have rz33011 : 2 ≤ z33011.toInt ∧ z33011.toInt ≤ 12 := by omega
              refine lv_iconst (v := 2) hx hb dX11_build_68 (by decide) ?_
              refine lv_isub hx hb dX11_build_69 ?_
              refine lv_topi (fun z33012 ez33012 => ?_)
              have hz33012 : z33012.toInt = z33011.toInt - 2 := ar_sub ez33012 (rfl : z33011.toInt = z33011.toInt) (by decide : (2 : Int32).toInt = 2) (by omega) (by omega)
              have rz33012 : 0 ≤ z33012.toInt ∧ z33012.toInt ≤ 10 := by omega
              refine lv_icmp_gt (tgt := 85) hx hb dX11_build_70 (by decide) (fun c33013 => ?_) (fun c33013 => ?_)
              · have w33014 := cv_lt (rfl : z33012.toInt = z33012.toInt) (rfl : p4.toInt = p4.toInt) c33013
                exact K85 z33005 _ _ _ _ (by omega) (by omega) (by omega) hT hfr  (lv_sub hl [1, 2, 3, 4, 5, 6, 0] rfl)
              · have w33015 := cv_nlt (rfl : z33012.toInt = z33012.toInt) (rfl : p4.toInt = p4.toInt) c33013
                refine lv_iload hx hb dX11_build_73 (lv_at hl 6 rfl) ?_
                refine lv_if_lt (tgt := 85) hx hb dX11_build_75 (by decide) (fun c33016 => ?_) (fun c33016 => ?_)
                · have w33017 := cv_lt (rfl : p5.toInt = p5.toInt) (by decide : (0 : Int32).toInt = 0) c33016
                  exact K85 z33005 _ _ _ _ (by omega) (by omega) (by omega) hT hfr  (lv_sub hl [1, 2, 3, 4, 5, 6, 0] rfl)
                · have w33018 := cv_nlt (rfl : p5.toInt = p5.toInt) (by decide : (0 : Int32).toInt = 0) c33016
                  refine lv_iload hx hb dX11_build_78 (lv_at hl 6 rfl) ?_
                  refine lv_bipush (v := 99) hx hb dX11_build_80 (by decide) ?_
                  refine lv_icmp_le (tgt := 91) hx hb dX11_build_82 (by decide) (fun c33019 => ?_) (fun c33019 => ?_)
                  · have w33020 := cv_le (rfl : p5.toInt = p5.toInt) (by decide : (99 : Int32).toInt = 99) c33019
                    refine lv_aload_n hx hb dX11_build_91 rfl (lv_at hl 1 rfl) ?_
                    refine t_get (C := RX11) (T := TX11) (N := 16) X hT m0 g0 rfl rfl 3 (by decide) qw_18 inlX11 rfl dX11_build_92 (fun v33021 hv33021 ov33021 => ?_)
                    obtain ⟨b33022, rfl, mb33022, gb33022⟩ := okV_r ov33021
                    have gb33022 : tag b33022 = 18 := tg_of gb33022
                    refine lv_aload_n hx hb dX11_build_95 rfl (lv_at hl 1 rfl) ?_
                    refine t_get (C := RX11) (T := TX11) (N := 16) X hT m0 g0 rfl rfl 5 (by decide) qw_23 inlX11 rfl dX11_build_96 (fun v33023 hv33023 ov33023 => ?_)
                    obtain rfl : v33023 = .ref b33001 := hv33023.symm.trans hv33000
                    refine lv_iload_n hx hb dX11_build_99 rfl (lv_at hl 2 rfl) ?_
                    refine t_cSi (n := 3) (As := [.ref b33022, .ref b33001, .int p1]) (rest := []) X hT (kt66_X6_isFit l G tag L F hT.2.2.2 b33022 b33001 p1 mb33022 gb33022 mb33001 gb33001 (by omega)) qw_904 qw_403 qw_380 qw_404 ⟨by decide +kernel, by decide +kernel, by decide +kernel⟩ ⟨Nat.le_of_ble_eq_true rfl, Nat.le_of_ble_eq_true rfl⟩ hl rfl rfl (Nat.le_of_ble_eq_true rfl) dX11_build_100 ⟨Nat.le_of_ble_eq_true rfl, Nat.le_of_ble_eq_true rfl⟩ (fun z33024 F9 H locs hT hz33024 => ?_)
                    obtain ⟨fz33024, hz33024⟩ := hz33024
                    rw [fz33024] at hT
                    refine lv_if_eq (tgt := 126) hx hb dX11_build_103 (by decide) (fun c33025 => ?_) (fun c33025 => ?_)
                    · have w33026 := cv_eq (rfl : z33024.toInt = z33024.toInt) (by decide : (0 : Int32).toInt = 0) c33025
                      exact K126 z33005 _ _ _ _ (by omega) (by omega) (by omega) (by omega) (by omega) hT hfr  (lv_sub hl [1, 2, 3, 4, 5, 6, 0] rfl)
                    · have w33027 := cv_ne (rfl : z33024.toInt = z33024.toInt) (by decide : (0 : Int32).toInt = 0) c33025
                      refine lv_aload_n hx hb dX11_build_106 rfl (lv_at hl 1 rfl) ?_
                      refine t_get (C := RX11) (T := TX11) (N := 16) X hT m0 g0 rfl rfl 3 (by decide) qw_18 inlX11 rfl dX11_build_107 (fun v33028 hv33028 ov33028 => ?_)
                      obtain rfl : v33028 = .ref b33022 := hv33028.symm.trans hv33021
                      refine lv_aload_n hx hb dX11_build_110 rfl (lv_at hl 1 rfl) ?_
                      refine t_get (C := RX11) (T := TX11) (N := 16) X hT m0 g0 rfl rfl 5 (by decide) qw_23 inlX11 rfl dX11_build_111 (fun v33029 hv33029 ov33029 => ?_)
                      obtain rfl : v33029 = .ref b33001 := hv33029.symm.trans hv33000
                      refine lv_iload_n hx hb dX11_build_114 rfl (lv_at hl 2 rfl) ?_
                      refine lv_iload hx hb dX11_build_115 (lv_at hl 0 rfl) ?_
                      refine lv_iload_n hx hb dX11_build_117 rfl (lv_at hl 4 rfl) ?_
                      refine lv_iload hx hb dX11_build_118 (lv_at hl 5 rfl) ?_
                      refine t_cSi (n := 6) (As := [.ref b33022, .ref b33001, .int p1, .int z33005, .int p3, .int p4]) (rest := []) X hT (kt68_X6_isFrontFree l G tag L F hT.2.2.2 b33022 b33001 p1 z33005 p3 p4 mb33022 gb33022 mb33001 gb33001 (by omega) (by omega)) qw_1445 qw_782 qw_380 qw_783 ⟨by decide +kernel, by decide +kernel, by decide +kernel⟩ ⟨Nat.le_of_ble_eq_true rfl, Nat.le_of_ble_eq_true rfl⟩ hl rfl rfl (Nat.le_of_ble_eq_true rfl) dX11_build_120 ⟨Nat.le_of_ble_eq_true rfl, Nat.le_of_ble_eq_true rfl⟩ (fun z33030 F9 H locs hT hz33030 => ?_)
                      obtain ⟨fz33030, hz33030⟩ := hz33030
                      rw [fz33030] at hT
                      refine lv_if_ne (tgt := 132) hx hb dX11_build_123 (by decide) (fun c33031 => ?_) (fun c33031 => ?_)
                      · have w33032 := cv_ne (rfl : z33030.toInt = z33030.toInt) (by decide : (0 : Int32).toInt = 0) c33031
                        refine lv_aload_n hx hb dX11_build_132 rfl (lv_at hl 1 rfl) ?_
                        refine t_get (C := RX11) (T := TX11) (N := 16) X hT m0 g0 rfl rfl 3 (by decide) qw_18 inlX11 rfl dX11_build_133 (fun v33033 hv33033 ov33033 => ?_)
                        obtain rfl : v33033 = .ref b33022 := hv33033.symm.trans hv33021
                        refine lv_aload_n hx hb dX11_build_136 rfl (lv_at hl 1 rfl) ?_
                        refine t_get (C := RX11) (T := TX11) (N := 16) X hT m0 g0 rfl rfl 5 (by decide) qw_23 inlX11 rfl dX11_build_137 (fun v33034 hv33034 ov33034 => ?_)
                        obtain rfl : v33034 = .ref b33001 := hv33034.symm.trans hv33000
                        refine lv_iload_n hx hb dX11_build_140 rfl (lv_at hl 2 rfl) ?_
                        refine lv_iload_n hx hb dX11_build_141 rfl (lv_at hl 3 rfl) ?_
                        refine t_cSi (n := 4) (As := [.ref b33022, .ref b33001, .int p1, .int p2]) (rest := []) X hT (kt65_X6_priceOf l G tag L F hT.2.2.2 b33022 b33001 p1 p2 mb33022 gb33022 mb33001 gb33001 (by omega)) qw_959 qw_960 qw_380 qw_961 ⟨by decide +kernel, by decide +kernel, by decide +kernel⟩ ⟨Nat.le_of_ble_eq_true rfl, Nat.le_of_ble_eq_true rfl⟩ hl rfl rfl (Nat.le_of_ble_eq_true rfl) dX11_build_142 ⟨Nat.le_of_ble_eq_true rfl, Nat.le_of_ble_eq_true rfl⟩ (fun z33035 F9 H locs hT hz33035 => ?_)
                        obtain ⟨fz33035, hz33035⟩ := hz33035
                        rw [fz33035] at hT
                        refine lv_istore (lv' := [(7, .int z33035), (6, .int z33005), (0, .ref p0), (1, .int p1), (2, .int p2), (3, .int p3), (4, .int p4), (5, .int p5)]) hx hb dX11_build_145 hl (by decide) rfl (fun ls hl => ?_)
                        refine lv_iload hx hb dX11_build_147 (lv_at hl 0 rfl) ?_
                        refine lv_aload_n hx hb dX11_build_149 rfl (lv_at hl 2 rfl) ?_
                        refine t_get (C := RX11) (T := TX11) (N := 16) X hT m0 g0 rfl rfl 5 (by decide) qw_23 inlX11 rfl dX11_build_150 (fun v33036 hv33036 ov33036 => ?_)
                        obtain rfl : v33036 = .ref b33001 := hv33036.symm.trans hv33000
                        refine t_get (C := RX7) (T := TX7) (N := 7) X hT mb33001 gb33001 rfl rfl 4 (by decide) qw_768 inlX7 rfl dX11_build_153 (fun v33037 hv33037 ov33037 => ?_)
                        obtain ⟨b33038, rfl, mb33038, gb33038⟩ := okV_r ov33037
                        have gb33038 : tag b33038 = 5 := tg_of gb33038
                        refine lv_iload_n hx hb dX11_build_156 rfl (lv_at hl 3 rfl) ?_
                        refine t_ild X hT mb33038 gb33038 rfl (by omega) dX11_build_157 (fun z33039 vz33039 rz33039 => ?_)
                        have rz33039 : (-2147483648) ≤ z33039.toInt ∧ z33039.toInt ≤ 2147483647 := rz33039
                        refine lv_icmp_le (tgt := 168) hx hb dX11_build_158 (by decide) (fun c33040 => ?_) (fun c33040 => ?_)
                        · have w33041 := cv_le (rfl : z33035.toInt = z33035.toInt) (rfl : z33039.toInt = z33039.toInt) c33040
                          refine lv_aload_n hx hb dX11_build_168 rfl (lv_at hl 2 rfl) ?_
                          refine t_get (C := RX11) (T := TX11) (N := 16) X hT m0 g0 rfl rfl 12 (by decide) qw_45 inlX11 rfl dX11_build_169 (fun v33042 hv33042 ov33042 => ?_)
                          obtain ⟨b33043, rfl, mb33043, gb33043⟩ := okV_r ov33042
                          have gb33043 : tag b33043 = 23 := tg_of gb33043
                          refine lv_aload_n hx hb dX11_build_172 rfl (lv_at hl 2 rfl) ?_
                          refine t_get (C := RX11) (T := TX11) (N := 16) X hT m0 g0 rfl rfl 5 (by decide) qw_23 inlX11 rfl dX11_build_173 (fun v33044 hv33044 ov33044 => ?_)
                          obtain rfl : v33044 = .ref b33001 := hv33044.symm.trans hv33000
                          refine t_cVv (n := 1) (C := RX2) (T := TX2) (N := 5) (As := [.ref b33001]) (rest := []) X hT (kt100_X2_keep l G tag L F hT.2.2.2 b33043 b33001 mb33043 gb33043 mb33001 gb33001) mb33043 gb33043 rfl rfl qw_1427 qw_1428 qw_1429 qw_44 qw_1430 ⟨rfl, by decide +kernel, by decide +kernel, by decide +kernel⟩ ⟨Nat.le_of_ble_eq_true rfl, Nat.le_of_ble_eq_true rfl⟩ hl rfl rfl (Nat.le_of_ble_eq_true rfl) dX11_build_176 ⟨Nat.le_of_ble_eq_true rfl, Nat.le_of_ble_eq_true rfl⟩ (fun F H locs hT hz33045 => ?_)
                          have yz33045 := hz33045
                          have hv33000 := (yz33045 _ 5 (Or.inr (by decide)) (Or.inr (by decide)) (Or.inr (by decide)) (Or.inr (by decide))).trans hv33000
                          have hv33002 := (yz33045 _ 2 (Or.inr (by decide)) (Or.inr (by decide)) (Or.inl (by rw [gb33001]; decide)) (Or.inr (by decide))).trans hv33002
                          have hv33021 := (yz33045 _ 3 (Or.inr (by decide)) (Or.inr (by decide)) (Or.inr (by decide)) (Or.inl (by rw [g0]; decide))).trans hv33021
                          have hv33037 := (yz33045 _ 4 (Or.inr (by decide)) (Or.inr (by decide)) (Or.inr (by decide)) (Or.inr (by decide))).trans hv33037
                          have hv33042 := (yz33045 _ 12 (Or.inr (by decide)) (Or.inr (by decide)) (Or.inr (by decide)) (Or.inr (by decide))).trans hv33042
                          have hfr : ∀ b j : Nat, (tag b ≠ 19 ∨ j ≠ 0) → (tag b ≠ 19 ∨ j ≠ 1) → (tag b ≠ 23 ∨ j ≠ 2) → (tag b ≠ 23 ∨ j ≠ 3) → (tag b ≠ 26 ∨ j ≠ 13) → fld F b j = fld Fo b j := fun b j n19_0 n19_1 n23_2 n23_3 n26_13 => (yz33045 b j n19_0 n19_1 n23_2 n23_3).trans (hfr b j n19_0 n19_1 n23_2 n23_3 n26_13)
                          refine lv_aload_n hx hb dX11_build_179 rfl (lv_at hl 2 rfl) ?_
                          refine t_get (C := RX11) (T := TX11) (N := 16) X hT m0 g0 rfl rfl 5 (by decide) qw_23 inlX11 rfl dX11_build_180 (fun v33046 hv33046 ov33046 => ?_)
                          obtain rfl : v33046 = .ref b33001 := hv33046.symm.trans hv33000
                          refine t_get (C := RX7) (T := TX7) (N := 7) X hT mb33001 gb33001 rfl rfl 4 (by decide) qw_768 inlX7 rfl dX11_build_183 (fun v33047 hv33047 ov33047 => ?_)
                          obtain rfl : v33047 = .ref b33038 := hv33047.symm.trans hv33037
                          refine lv_iload_n hx hb dX11_build_186 rfl (lv_at hl 3 rfl) ?_
                          refine lv_dup2_11 hx hb dX11_build_187 rfl rfl ?_
                          refine t_ild X hT mb33038 gb33038 rfl (by omega) dX11_build_188 (fun z33048 vz33048 rz33048 => ?_)
                          have rz33048 : (-2147483648) ≤ z33048.toInt ∧ z33048.toInt ≤ 2147483647 := rz33048
                          refine lv_iload hx hb dX11_build_189 (lv_at hl 0 rfl) ?_
                          refine lv_isub hx hb dX11_build_191 ?_
                          refine lv_topi (fun z33049 ez33049 => ?_)
                          have rz33049 := rg_all z33049
                          refine t_ist X hT mb33038 gb33038 rfl (by omega) (show (-2147483648) ≤ (z33049 : Int32).toInt ∧ (z33049 : Int32).toInt ≤ 2147483647 from (by omega)) dX11_build_192 (fun F H locs hT v33050 h1v33050 h2v33050 => ?_)
                          have hv33000 := (h2v33050 _ _).trans hv33000
                          have hv33002 := (h2v33050 _ _).trans hv33002
                          have hv33021 := (h2v33050 _ _).trans hv33021
                          have hv33037 := (h2v33050 _ _).trans hv33037
                          have hv33042 := (h2v33050 _ _).trans hv33042
                          have hfr : ∀ b j : Nat, (tag b ≠ 19 ∨ j ≠ 0) → (tag b ≠ 19 ∨ j ≠ 1) → (tag b ≠ 23 ∨ j ≠ 2) → (tag b ≠ 23 ∨ j ≠ 3) → (tag b ≠ 26 ∨ j ≠ 13) → fld F b j = fld Fo b j := fun b j n19_0 n19_1 n23_2 n23_3 n26_13 => (h2v33050 b j).trans (hfr b j n19_0 n19_1 n23_2 n23_3 n26_13)
                          refine lv_aload_n hx hb dX11_build_193 rfl (lv_at hl 2 rfl) ?_
                          refine t_get (C := RX11) (T := TX11) (N := 16) X hT m0 g0 rfl rfl 5 (by decide) qw_23 inlX11 rfl dX11_build_194 (fun v33051 hv33051 ov33051 => ?_)
                          obtain rfl : v33051 = .ref b33001 := hv33051.symm.trans hv33000
                          refine lv_iload_n hx hb dX11_build_197 rfl (lv_at hl 3 rfl) ?_
                          refine lv_iload_n hx hb dX11_build_198 rfl (lv_at hl 4 rfl) ?_
                          refine lv_iload_n hx hb dX11_build_199 rfl (lv_at hl 5 rfl) ?_
                          refine lv_iload hx hb dX11_build_200 (lv_at hl 6 rfl) ?_
                          refine lv_iload hx hb dX11_build_202 (lv_at hl 7 rfl) ?_
                          refine lv_aload_n hx hb dX11_build_204 rfl (lv_at hl 2 rfl) ?_
                          refine t_get (C := RX11) (T := TX11) (N := 16) X hT m0 g0 rfl rfl 5 (by decide) qw_23 inlX11 rfl dX11_build_205 (fun v33052 hv33052 ov33052 => ?_)
                          obtain rfl : v33052 = .ref b33001 := hv33052.symm.trans hv33000
                          refine t_get (C := RX7) (T := TX7) (N := 7) X hT mb33001 gb33001 rfl rfl 0 (by decide) qw_1225 inlX7 rfl dX11_build_208 (fun v33053 hv33053 ov33053 => ?_)
                          obtain ⟨z33054, rfl, rz33054⟩ := okV_i ov33053
                          refine t_cVv (n := 6) (C := RX7) (T := TX7) (N := 7) (As := [.int p1, .int p2, .int p3, .int p4, .int p5, .int z33054]) (rest := []) X hT (kt70_X7_addSkin l G tag L F hT.2.2.2 b33001 p1 p2 p3 p4 p5 z33054 mb33001 gb33001 (by omega)) mb33001 gb33001 rfl rfl qw_1226 qw_419 qw_420 qw_22 qw_421 ⟨rfl, by decide +kernel, by decide +kernel, by decide +kernel⟩ ⟨Nat.le_of_ble_eq_true rfl, Nat.le_of_ble_eq_true rfl⟩ hl rfl rfl (Nat.le_of_ble_eq_true rfl) dX11_build_211 ⟨Nat.le_of_ble_eq_true rfl, Nat.le_of_ble_eq_true rfl⟩ (fun F H locs hT hz33055 => ?_)
                          have yz33055 := hz33055
                          have hv33000 := (yz33055 _ 5 ).trans hv33000
                          have hv33002 := (yz33055 _ 2 ).trans hv33002
                          have hv33021 := (yz33055 _ 3 ).trans hv33021
                          have hv33037 := (yz33055 _ 4 ).trans hv33037
                          have hv33042 := (yz33055 _ 12 ).trans hv33042
                          have hv33053 := (yz33055 _ 0 ).trans hv33053
                          have hfr : ∀ b j : Nat, (tag b ≠ 19 ∨ j ≠ 0) → (tag b ≠ 19 ∨ j ≠ 1) → (tag b ≠ 23 ∨ j ≠ 2) → (tag b ≠ 23 ∨ j ≠ 3) → (tag b ≠ 26 ∨ j ≠ 13) → fld F b j = fld Fo b j := fun b j n19_0 n19_1 n23_2 n23_3 n26_13 => (yz33055 b j ).trans (hfr b j n19_0 n19_1 n23_2 n23_3 n26_13)
                          refine lv_aload_n hx hb dX11_build_214 rfl (lv_at hl 2 rfl) ?_
                          refine lv_iload hx hb dX11_build_215 (lv_at hl 0 rfl) ?_
                          refine t_cVi (n := 1) (C := RX11) (T := TX11) (N := 16) (As := [.int z33035]) (rest := []) X hT (kt96_X11_answer l G tag L F hT.2.2.2 p0 z33035 m0 g0) m0 g0 rfl rfl qw_463 qw_464 qw_465 qw_2 qw_466 ⟨rfl, by decide +kernel, by decide +kernel, by decide +kernel⟩ ⟨Nat.le_of_ble_eq_true rfl, Nat.le_of_ble_eq_true rfl⟩ hl rfl rfl (Nat.le_of_ble_eq_true rfl) dX11_build_217 ⟨Nat.le_of_ble_eq_true rfl, Nat.le_of_ble_eq_true rfl⟩ (fun z33056 F H locs hT hz33056 => ?_)
                          obtain ⟨hz33056, yz33056⟩ := hz33056
                          have hv33000 := (yz33056 _ 5 (Or.inr (by decide))).trans hv33000
                          have hv33002 := (yz33056 _ 2 (Or.inr (by decide))).trans hv33002
                          have hv33021 := (yz33056 _ 3 (Or.inr (by decide))).trans hv33021
                          have hv33037 := (yz33056 _ 4 (Or.inr (by decide))).trans hv33037
                          have hv33042 := (yz33056 _ 12 (Or.inr (by decide))).trans hv33042
                          have hv33053 := (yz33056 _ 0 (Or.inr (by decide))).trans hv33053
                          have hfr : ∀ b j : Nat, (tag b ≠ 19 ∨ j ≠ 0) → (tag b ≠ 19 ∨ j ≠ 1) → (tag b ≠ 23 ∨ j ≠ 2) → (tag b ≠ 23 ∨ j ≠ 3) → (tag b ≠ 26 ∨ j ≠ 13) → fld F b j = fld Fo b j := fun b j n19_0 n19_1 n23_2 n23_3 n26_13 => (yz33056 b j n26_13).trans (hfr b j n19_0 n19_1 n23_2 n23_3 n26_13)
                          exact t_iret hQ X hT (⟨rg_all _, hfr⟩) (Nat.le_of_ble_eq_true rfl) (Nat.le_of_ble_eq_true rfl) dX11_build_220
                        · have w33057 := cv_nle (rfl : z33035.toInt = z33035.toInt) (rfl : z33039.toInt = z33039.toInt) c33040
                          refine lv_aload_n hx hb dX11_build_161 rfl (lv_at hl 2 rfl) ?_
                          refine lv_bipush (v := 6) hx hb dX11_build_162 (by decide) ?_
                          refine t_cVi (n := 1) (C := RX11) (T := TX11) (N := 16) (As := [.int 6]) (rest := []) X hT (kt97_X11_refuse l G tag L F hT.2.2.2 p0 6 m0 g0) m0 g0 rfl rfl qw_152 qw_153 qw_154 qw_2 qw_155 ⟨rfl, by decide +kernel, by decide +kernel, by decide +kernel⟩ ⟨Nat.le_of_ble_eq_true rfl, Nat.le_of_ble_eq_true rfl⟩ hl rfl rfl (Nat.le_of_ble_eq_true rfl) dX11_build_164 ⟨Nat.le_of_ble_eq_true rfl, Nat.le_of_ble_eq_true rfl⟩ (fun z33058 F H locs hT hz33058 => ?_)
                          obtain ⟨hz33058, yz33058⟩ := hz33058
                          have hv33000 := (yz33058 _ 5 (Or.inr (by decide))).trans hv33000
                          have hv33002 := (yz33058 _ 2 (Or.inr (by decide))).trans hv33002
                          have hv33021 := (yz33058 _ 3 (Or.inr (by decide))).trans hv33021
                          have hv33037 := (yz33058 _ 4 (Or.inr (by decide))).trans hv33037
                          have hfr : ∀ b j : Nat, (tag b ≠ 19 ∨ j ≠ 0) → (tag b ≠ 19 ∨ j ≠ 1) → (tag b ≠ 23 ∨ j ≠ 2) → (tag b ≠ 23 ∨ j ≠ 3) → (tag b ≠ 26 ∨ j ≠ 13) → fld F b j = fld Fo b j := fun b j n19_0 n19_1 n23_2 n23_3 n26_13 => (yz33058 b j n26_13).trans (hfr b j n19_0 n19_1 n23_2 n23_3 n26_13)
                          exact t_iret hQ X hT (⟨rg_all _, hfr⟩) (Nat.le_of_ble_eq_true rfl) (Nat.le_of_ble_eq_true rfl) dX11_build_167
                      · have w33059 := cv_eq (rfl : z33030.toInt = z33030.toInt) (by decide : (0 : Int32).toInt = 0) c33031
                        exact K126 z33005 _ _ _ _ (by omega) (by omega) (by omega) (by omega) (by omega) hT hfr  (lv_sub hl [1, 2, 3, 4, 5, 6, 0] rfl)
                  · have w33060 := cv_nle (rfl : p5.toInt = p5.toInt) (by decide : (99 : Int32).toInt = 99) c33019
                    exact K85 z33005 _ _ _ _ (by omega) (by omega) (by omega) hT hfr  (lv_sub hl [1, 2, 3, 4, 5, 6, 0] rfl)
          · have w33061 := cv_nle (rfl : z33005.toInt = z33005.toInt) (by decide : (6 : Int32).toInt = 6) c33006
            refine lv_aload_n hx hb dX11_build_51 rfl (lv_at hl 1 rfl) ?_
            refine lv_iconst (v := 3) hx hb dX11_build_52 (by decide) ?_
            refine t_cVi (n := 1) (C := RX11) (T := TX11) (N := 16) (As := [.int 3]) (rest := []) X hT (kt97_X11_refuse l G tag L F hT.2.2.2 p0 3 m0 g0) m0 g0 rfl rfl qw_152 qw_153 qw_154 qw_2 qw_155 ⟨rfl, by decide +kernel, by decide +kernel, by decide +kernel⟩ ⟨Nat.le_of_ble_eq_true rfl, Nat.le_of_ble_eq_true rfl⟩ hl rfl rfl (Nat.le_of_ble_eq_true rfl) dX11_build_53 ⟨Nat.le_of_ble_eq_true rfl, Nat.le_of_ble_eq_true rfl⟩ (fun z33062 F H locs hT hz33062 => ?_)
            obtain ⟨hz33062, yz33062⟩ := hz33062
            have hv33000 := (yz33062 _ 5 (Or.inr (by decide))).trans hv33000
            have hv33002 := (yz33062 _ 2 (Or.inr (by decide))).trans hv33002
            have hfr : ∀ b j : Nat, (tag b ≠ 19 ∨ j ≠ 0) → (tag b ≠ 19 ∨ j ≠ 1) → (tag b ≠ 23 ∨ j ≠ 2) → (tag b ≠ 23 ∨ j ≠ 3) → (tag b ≠ 26 ∨ j ≠ 13) → fld F b j = fld Fo b j := fun b j n19_0 n19_1 n23_2 n23_3 n26_13 => (yz33062 b j n26_13).trans (hfr b j n19_0 n19_1 n23_2 n23_3 n26_13)
            exact t_iret hQ X hT (⟨rg_all _, hfr⟩) (Nat.le_of_ble_eq_true rfl) (Nat.le_of_ble_eq_true rfl) dX11_build_56
        · have w33063 := cv_nlt (rfl : p3.toInt = p3.toInt) (by decide : (4 : Int32).toInt = 4) c32998
          exact K25  _ _ _ _  hT hfr  (lv_sub hl [0, 1, 2, 3, 4, 5] rfl)
set_option maxHeartbeats 4000000 in
set_option maxRecDepth 100000 in
theorem kt102_X11_costs (l : Launch) (G : KG) (tag : Nat → Nat) (L : List Nat) (Fo : Nat → va_E) (ho : okT G ttC tag L Fo) (p0 : Nat) (p1 : Int32) (p2 : Int32) (m0 : p0 ∈ L) (g0 : tag p0 = 26) : TMi l yX11_costs cX11_costs 3 (some .int) { frames := 2, cells := 0, slots := 0, locals := 46 } G ttC tag L Fo [.ref p0, .int p1, .int p2] (fun r F1 => ((-2147483648) ≤ r.toInt ∧ r.toInt ≤ 2147483647) ∧ (∀ b j : Nat, (tag b ≠ 26 ∨ j ≠ 13) → fld F1 b j = fld Fo b j)) := by
  refine t_bodyi (y := yX11_costs) (cd := cX11_costs) (mL := 3) (rt := (some .int)) (rm := { frames := 2, cells := 0, slots := 0, locals := 46 }) (av := [.ref p0, .int p1, .int p2]) (by decide) (Nat.le_of_ble_eq_true rfl) ho ?_
  intro p e s m args below meth c ls A Q hQ X hT hl
  have hx := X.1.1
  have hb := X.1.2.1
  have hl : lv_has ls 3 [(0, .ref p0), (1, .int p1), (2, .int p2)] := hl
  have rp1 := rg_all p1
  have rp2 := rg_all p2
  obtain ⟨F, hFo⟩ : ∃ F : Nat → va_E, F = Fo := ⟨_, rfl⟩
  rw [← hFo] at hT
  have hfr : ∀ b j : Nat, (tag b ≠ 26 ∨ j ≠ 13) → fld F b j = fld Fo b j := by
    rw [hFo]
    intros
    rfl
  have K16 : ∀  (F : Nat → va_E) (H : Heap) (locs : List Loc) (ls : Array Slot), TH G ttC A s tag L F H locs → (∀ b j : Nat, (tag b ≠ 26 ∨ j ≠ 13) → fld F b j = fld Fo b j) → lv_has ls 3 [(0, .ref p0), (1, .int p1), (2, .int p2)] → W p l e { frames := 2, cells := 0, slots := 0, locals := 46 } s m args below meth c H locs 0 0 Q (F0 m 16 ls []) := by
    intro F H locs ls hT hfr hl
    refine lv_aload_n hx hb dX11_costs_16 rfl (lv_at hl 0 rfl) ?_
    refine lv_iconst (v := 1) hx hb dX11_costs_17 (by decide) ?_
    refine t_cVi (n := 1) (C := RX11) (T := TX11) (N := 16) (As := [.int 1]) (rest := []) X hT (kt97_X11_refuse l G tag L F hT.2.2.2 p0 1 m0 g0) m0 g0 rfl rfl qw_152 qw_153 qw_154 qw_2 qw_155 ⟨rfl, by decide +kernel, by decide +kernel, by decide +kernel⟩ ⟨Nat.le_of_ble_eq_true rfl, Nat.le_of_ble_eq_true rfl⟩ hl rfl rfl (Nat.le_of_ble_eq_true rfl) dX11_costs_18 ⟨Nat.le_of_ble_eq_true rfl, Nat.le_of_ble_eq_true rfl⟩ (fun z33339 F H locs hT hz33339 => ?_)
    obtain ⟨hz33339, yz33339⟩ := hz33339
    have hfr : ∀ b j : Nat, (tag b ≠ 26 ∨ j ≠ 13) → fld F b j = fld Fo b j := fun b j n26_13 => (yz33339 b j n26_13).trans (hfr b j n26_13)
    exact t_iret hQ X hT (⟨rg_all _, hfr⟩) (Nat.le_of_ble_eq_true rfl) (Nat.le_of_ble_eq_true rfl) dX11_costs_21
  refine lv_aload_n hx hb dX11_costs_0 rfl (lv_at hl 0 rfl) ?_
  refine lv_iload_n hx hb dX11_costs_1 rfl (lv_at hl 1 rfl) ?_
  refine t_cVi (n := 1) (C := RX11) (T := TX11) (N := 16) (As := [.int p1]) (rest := []) X hT (kt93_X11_isHouse l G tag L F hT.2.2.2 p0 p1 m0 g0) m0 g0 rfl rfl qw_770 qw_771 qw_772 qw_2 qw_773 ⟨rfl, by decide +kernel, by decide +kernel, by decide +kernel⟩ ⟨Nat.le_of_ble_eq_true rfl, Nat.le_of_ble_eq_true rfl⟩ hl rfl rfl (Nat.le_of_ble_eq_true rfl) dX11_costs_2 ⟨Nat.le_of_ble_eq_true rfl, Nat.le_of_ble_eq_true rfl⟩ (fun z33340 F9 H locs hT hz33340 => ?_)
  obtain ⟨fz33340, hz33340⟩ := hz33340
  rw [fz33340] at hT
  obtain ⟨hz33340, iz33340⟩ := hz33340
  refine lv_if_eq (tgt := 16) hx hb dX11_costs_5 (by decide) (fun c33341 => ?_) (fun c33341 => ?_)
  · have w33342 := cv_eq (rfl : z33340.toInt = z33340.toInt) (by decide : (0 : Int32).toInt = 0) c33341
    exact K16  _ _ _ _  hT hfr  (lv_sub hl [0, 1, 2] rfl)
  · have w33343 := cv_ne (rfl : z33340.toInt = z33340.toInt) (by decide : (0 : Int32).toInt = 0) c33341
    have w33344 := (fun h => (iz33340 h)) (by omega)
    refine lv_aload_n hx hb dX11_costs_8 rfl (lv_at hl 0 rfl) ?_
    refine lv_iload_n hx hb dX11_costs_9 rfl (lv_at hl 2 rfl) ?_
    refine t_cVi (n := 1) (C := RX11) (T := TX11) (N := 16) (As := [.int p2]) (rest := []) X hT (kt99_X11_isStone l G tag L F hT.2.2.2 p0 p2 m0 g0) m0 g0 rfl rfl qw_954 qw_955 qw_956 qw_2 qw_957 ⟨rfl, by decide +kernel, by decide +kernel, by decide +kernel⟩ ⟨Nat.le_of_ble_eq_true rfl, Nat.le_of_ble_eq_true rfl⟩ hl rfl rfl (Nat.le_of_ble_eq_true rfl) dX11_costs_10 ⟨Nat.le_of_ble_eq_true rfl, Nat.le_of_ble_eq_true rfl⟩ (fun z33345 F9 H locs hT hz33345 => ?_)
    obtain ⟨fz33345, hz33345⟩ := hz33345
    rw [fz33345] at hT
    refine lv_if_ne (tgt := 22) hx hb dX11_costs_13 (by decide) (fun c33346 => ?_) (fun c33346 => ?_)
    · have w33347 := cv_ne (rfl : z33345.toInt = z33345.toInt) (by decide : (0 : Int32).toInt = 0) c33346
      refine lv_aload_n hx hb dX11_costs_22 rfl (lv_at hl 0 rfl) ?_
      refine t_get (C := RX11) (T := TX11) (N := 16) X hT m0 g0 rfl rfl 5 (by decide) qw_23 inlX11 rfl dX11_costs_23 (fun v33348 hv33348 ov33348 => ?_)
      obtain ⟨b33349, rfl, mb33349, gb33349⟩ := okV_r ov33348
      have gb33349 : tag b33349 = 19 := tg_of gb33349
      refine t_get (C := RX7) (T := TX7) (N := 7) X hT mb33349 gb33349 rfl rfl 2 (by decide) qw_766 inlX7 rfl dX11_costs_26 (fun v33350 hv33350 ov33350 => ?_)
      obtain ⟨b33351, rfl, mb33351, gb33351⟩ := okV_r ov33350
      have gb33351 : tag b33351 = 8 := tg_of gb33351
      refine lv_iload_n hx hb dX11_costs_29 rfl (lv_at hl 1 rfl) ?_
      refine t_ild X hT mb33351 gb33351 rfl (by omega) dX11_costs_30 (fun z33352 vz33352 rz33352 => ?_)
      have rz33352 : 0 ≤ z33352.toInt ∧ z33352.toInt ≤ 6 := rz33352
      refine lv_bipush (v := 6) hx hb dX11_costs_31 (by decide) ?_
      refine lv_icmp_lt (tgt := 42) hx hb dX11_costs_33 (by decide) (fun c33353 => ?_) (fun c33353 => ?_)
      · have w33354 := cv_lt (rfl : z33352.toInt = z33352.toInt) (by decide : (6 : Int32).toInt = 6) c33353
        refine lv_aload_n hx hb dX11_costs_42 rfl (lv_at hl 0 rfl) ?_
        refine lv_aload_n hx hb dX11_costs_43 rfl (lv_at hl 0 rfl) ?_
        refine t_get (C := RX11) (T := TX11) (N := 16) X hT m0 g0 rfl rfl 3 (by decide) qw_18 inlX11 rfl dX11_costs_44 (fun v33355 hv33355 ov33355 => ?_)
        obtain ⟨b33356, rfl, mb33356, gb33356⟩ := okV_r ov33355
        have gb33356 : tag b33356 = 18 := tg_of gb33356
        refine lv_aload_n hx hb dX11_costs_47 rfl (lv_at hl 0 rfl) ?_
        refine t_get (C := RX11) (T := TX11) (N := 16) X hT m0 g0 rfl rfl 5 (by decide) qw_23 inlX11 rfl dX11_costs_48 (fun v33357 hv33357 ov33357 => ?_)
        obtain rfl : v33357 = .ref b33349 := hv33357.symm.trans hv33348
        refine lv_iload_n hx hb dX11_costs_51 rfl (lv_at hl 1 rfl) ?_
        refine lv_iload_n hx hb dX11_costs_52 rfl (lv_at hl 2 rfl) ?_
        refine t_cSi (n := 4) (As := [.ref b33356, .ref b33349, .int p1, .int p2]) (rest := [.ref p0]) X hT (kt65_X6_priceOf l G tag L F hT.2.2.2 b33356 b33349 p1 p2 mb33356 gb33356 mb33349 gb33349 (by omega)) qw_959 qw_960 qw_380 qw_961 ⟨by decide +kernel, by decide +kernel, by decide +kernel⟩ ⟨Nat.le_of_ble_eq_true rfl, Nat.le_of_ble_eq_true rfl⟩ hl rfl rfl (Nat.le_of_ble_eq_true rfl) dX11_costs_53 ⟨Nat.le_of_ble_eq_true rfl, Nat.le_of_ble_eq_true rfl⟩ (fun z33358 F9 H locs hT hz33358 => ?_)
        obtain ⟨fz33358, hz33358⟩ := hz33358
        rw [fz33358] at hT
        refine t_cVi (n := 1) (C := RX11) (T := TX11) (N := 16) (As := [.int z33358]) (rest := []) X hT (kt96_X11_answer l G tag L F hT.2.2.2 p0 z33358 m0 g0) m0 g0 rfl rfl qw_463 qw_464 qw_465 qw_2 qw_466 ⟨rfl, by decide +kernel, by decide +kernel, by decide +kernel⟩ ⟨Nat.le_of_ble_eq_true rfl, Nat.le_of_ble_eq_true rfl⟩ hl rfl rfl (Nat.le_of_ble_eq_true rfl) dX11_costs_56 ⟨Nat.le_of_ble_eq_true rfl, Nat.le_of_ble_eq_true rfl⟩ (fun z33359 F H locs hT hz33359 => ?_)
        obtain ⟨hz33359, yz33359⟩ := hz33359
        have hv33348 := (yz33359 _ 5 (Or.inr (by decide))).trans hv33348
        have hv33350 := (yz33359 _ 2 (Or.inr (by decide))).trans hv33350
        have hv33355 := (yz33359 _ 3 (Or.inr (by decide))).trans hv33355
        have hfr : ∀ b j : Nat, (tag b ≠ 26 ∨ j ≠ 13) → fld F b j = fld Fo b j := fun b j n26_13 => (yz33359 b j n26_13).trans (hfr b j n26_13)
        exact t_iret hQ X hT (⟨rg_all _, hfr⟩) (Nat.le_of_ble_eq_true rfl) (Nat.le_of_ble_eq_true rfl) dX11_costs_59
      · have w33360 := cv_nlt (rfl : z33352.toInt = z33352.toInt) (by decide : (6 : Int32).toInt = 6) c33353
        refine lv_aload_n hx hb dX11_costs_36 rfl (lv_at hl 0 rfl) ?_
        refine lv_iconst (v := 3) hx hb dX11_costs_37 (by decide) ?_
        refine t_cVi (n := 1) (C := RX11) (T := TX11) (N := 16) (As := [.int 3]) (rest := []) X hT (kt97_X11_refuse l G tag L F hT.2.2.2 p0 3 m0 g0) m0 g0 rfl rfl qw_152 qw_153 qw_154 qw_2 qw_155 ⟨rfl, by decide +kernel, by decide +kernel, by decide +kernel⟩ ⟨Nat.le_of_ble_eq_true rfl, Nat.le_of_ble_eq_true rfl⟩ hl rfl rfl (Nat.le_of_ble_eq_true rfl) dX11_costs_38 ⟨Nat.le_of_ble_eq_true rfl, Nat.le_of_ble_eq_true rfl⟩ (fun z33361 F H locs hT hz33361 => ?_)
        obtain ⟨hz33361, yz33361⟩ := hz33361
        have hv33348 := (yz33361 _ 5 (Or.inr (by decide))).trans hv33348
        have hv33350 := (yz33361 _ 2 (Or.inr (by decide))).trans hv33350
        have hfr : ∀ b j : Nat, (tag b ≠ 26 ∨ j ≠ 13) → fld F b j = fld Fo b j := fun b j n26_13 => (yz33361 b j n26_13).trans (hfr b j n26_13)
        exact t_iret hQ X hT (⟨rg_all _, hfr⟩) (Nat.le_of_ble_eq_true rfl) (Nat.le_of_ble_eq_true rfl) dX11_costs_41
    · have w33362 := cv_eq (rfl : z33345.toInt = z33345.toInt) (by decide : (0 : Int32).toInt = 0) c33346
      exact K16  _ _ _ _  hT hfr  (lv_sub hl [0, 1, 2] rfl)
set_option maxHeartbeats 4000000 in
set_option maxRecDepth 100000 in
theorem kt103_X11_door (l : Launch) (G : KG) (tag : Nat → Nat) (L : List Nat) (Fo : Nat → va_E) (ho : okT G ttC tag L Fo) (p0 : Nat) (p1 : Int32) (m0 : p0 ∈ L) (g0 : tag p0 = 26) : TMi l yX11_door cX11_door 2 (some .int) { frames := 4, cells := 0, slots := 0, locals := 108 } G ttC tag L Fo [.ref p0, .int p1] (fun r F1 => ((-2147483648) ≤ r.toInt ∧ r.toInt ≤ 2147483647) ∧ (∀ b j : Nat, (tag b ≠ 26 ∨ j ≠ 13) → fld F1 b j = fld Fo b j)) := by
  refine t_bodyi (y := yX11_door) (cd := cX11_door) (mL := 2) (rt := (some .int)) (rm := { frames := 4, cells := 0, slots := 0, locals := 108 }) (av := [.ref p0, .int p1]) (by decide) (Nat.le_of_ble_eq_true rfl) ho ?_
  intro p e s m args below meth c ls A Q hQ X hT hl
  have hx := X.1.1
  have hb := X.1.2.1
  have hl : lv_has ls 2 [(0, .ref p0), (1, .int p1)] := hl
  have rp1 := rg_all p1
  obtain ⟨F, hFo⟩ : ∃ F : Nat → va_E, F = Fo := ⟨_, rfl⟩
  rw [← hFo] at hT
  have hfr : ∀ b j : Nat, (tag b ≠ 26 ∨ j ≠ 13) → fld F b j = fld Fo b j := by
    rw [hFo]
    intros
    rfl
  have K47 : ∀ (z33584 : Int32) (b33585 : Nat) (F : Nat → va_E) (H : Heap) (locs : List Loc) (ls : Array Slot), ((-2) ≤ z33584.toInt ∧ z33584.toInt ≤ 900) → (b33585 ∈ L) → (tag b33585 = 26) → (0 ≤ p1.toInt ∧ p1.toInt ≤ 3) → TH G ttC A s tag L F H locs → (∀ b j : Nat, (tag b ≠ 26 ∨ j ≠ 13) → fld F b j = fld Fo b j) → lv_has ls 2 [(0, .ref p0), (1, .int p1)] → W p l e { frames := 4, cells := 0, slots := 0, locals := 108 } s m args below meth c H locs 0 0 Q (F0 m 47 ls [.int z33584, .ref b33585]) := by
    intro z33584 b33585 F H locs ls rz33584 mb33585 gb33585 r9s33583 hT hfr hl
    refine t_cVi (n := 1) (C := RX11) (T := TX11) (N := 16) (As := [.int z33584]) (rest := []) X hT (kt96_X11_answer l G tag L F hT.2.2.2 b33585 z33584 mb33585 gb33585) mb33585 gb33585 rfl rfl qw_463 qw_464 qw_465 qw_2 qw_466 ⟨rfl, by decide +kernel, by decide +kernel, by decide +kernel⟩ ⟨Nat.le_of_ble_eq_true rfl, Nat.le_of_ble_eq_true rfl⟩ hl rfl rfl (Nat.le_of_ble_eq_true rfl) dX11_door_47 ⟨Nat.le_of_ble_eq_true rfl, Nat.le_of_ble_eq_true rfl⟩ (fun z33586 F H locs hT hz33586 => ?_)
    obtain ⟨hz33586, yz33586⟩ := hz33586
    have hfr : ∀ b j : Nat, (tag b ≠ 26 ∨ j ≠ 13) → fld F b j = fld Fo b j := fun b j n26_13 => (yz33586 b j n26_13).trans (hfr b j n26_13)
    exact t_iret hQ X hT (⟨rg_all _, hfr⟩) (Nat.le_of_ble_eq_true rfl) (Nat.le_of_ble_eq_true rfl) dX11_door_50
  refine lv_aload_n hx hb dX11_door_0 rfl (lv_at hl 0 rfl) ?_
  refine lv_iload_n hx hb dX11_door_1 rfl (lv_at hl 1 rfl) ?_
  refine t_cVi (n := 1) (C := RX11) (T := TX11) (N := 16) (As := [.int p1]) (rest := []) X hT (kt93_X11_isHouse l G tag L F hT.2.2.2 p0 p1 m0 g0) m0 g0 rfl rfl qw_770 qw_771 qw_772 qw_2 qw_773 ⟨rfl, by decide +kernel, by decide +kernel, by decide +kernel⟩ ⟨Nat.le_of_ble_eq_true rfl, Nat.le_of_ble_eq_true rfl⟩ hl rfl rfl (Nat.le_of_ble_eq_true rfl) dX11_door_2 ⟨Nat.le_of_ble_eq_true rfl, Nat.le_of_ble_eq_true rfl⟩ (fun z33587 F9 H locs hT hz33587 => ?_)
  obtain ⟨fz33587, hz33587⟩ := hz33587
  rw [fz33587] at hT
  obtain ⟨hz33587, iz33587⟩ := hz33587
  refine lv_if_ne (tgt := 14) hx hb dX11_door_5 (by decide) (fun c33588 => ?_) (fun c33588 => ?_)
  · have w33589 := cv_ne (rfl : z33587.toInt = z33587.toInt) (by decide : (0 : Int32).toInt = 0) c33588
    have w33590 := (fun h => (iz33587 h)) (by omega)
    refine lv_aload_n hx hb dX11_door_14 rfl (lv_at hl 0 rfl) ?_
    refine lv_aload_n hx hb dX11_door_15 rfl (lv_at hl 0 rfl) ?_
    refine t_get (C := RX11) (T := TX11) (N := 16) X hT m0 g0 rfl rfl 3 (by decide) qw_18 inlX11 rfl dX11_door_16 (fun v33591 hv33591 ov33591 => ?_)
    obtain ⟨b33592, rfl, mb33592, gb33592⟩ := okV_r ov33591
    have gb33592 : tag b33592 = 18 := tg_of gb33592
    refine lv_aload_n hx hb dX11_door_19 rfl (lv_at hl 0 rfl) ?_
    refine t_get (C := RX11) (T := TX11) (N := 16) X hT m0 g0 rfl rfl 5 (by decide) qw_23 inlX11 rfl dX11_door_20 (fun v33593 hv33593 ov33593 => ?_)
    obtain ⟨b33594, rfl, mb33594, gb33594⟩ := okV_r ov33593
    have gb33594 : tag b33594 = 19 := tg_of gb33594
    refine lv_iload_n hx hb dX11_door_23 rfl (lv_at hl 1 rfl) ?_
    refine t_cSi (n := 3) (As := [.ref b33592, .ref b33594, .int p1]) (rest := [.ref p0]) X hT (kt66_X6_isFit l G tag L F hT.2.2.2 b33592 b33594 p1 mb33592 gb33592 mb33594 gb33594 (by omega)) qw_904 qw_403 qw_380 qw_404 ⟨by decide +kernel, by decide +kernel, by decide +kernel⟩ ⟨Nat.le_of_ble_eq_true rfl, Nat.le_of_ble_eq_true rfl⟩ hl rfl rfl (Nat.le_of_ble_eq_true rfl) dX11_door_24 ⟨Nat.le_of_ble_eq_true rfl, Nat.le_of_ble_eq_true rfl⟩ (fun z33595 F9 H locs hT hz33595 => ?_)
    obtain ⟨fz33595, hz33595⟩ := hz33595
    rw [fz33595] at hT
    refine lv_if_eq (tgt := 45) hx hb dX11_door_27 (by decide) (fun c33596 => ?_) (fun c33596 => ?_)
    · have w33597 := cv_eq (rfl : z33595.toInt = z33595.toInt) (by decide : (0 : Int32).toInt = 0) c33596
      refine lv_bipush (v := (-2)) hx hb dX11_door_45 (by decide) ?_
      exact K47 (-2) p0 _ _ _ _ (by decide) m0 g0 (by omega) hT hfr  (lv_sub hl [0, 1] rfl)
    · have w33598 := cv_ne (rfl : z33595.toInt = z33595.toInt) (by decide : (0 : Int32).toInt = 0) c33596
      refine lv_aload_n hx hb dX11_door_30 rfl (lv_at hl 0 rfl) ?_
      refine t_get (C := RX11) (T := TX11) (N := 16) X hT m0 g0 rfl rfl 3 (by decide) qw_18 inlX11 rfl dX11_door_31 (fun v33599 hv33599 ov33599 => ?_)
      obtain rfl : v33599 = .ref b33592 := hv33599.symm.trans hv33591
      refine lv_aload_n hx hb dX11_door_34 rfl (lv_at hl 0 rfl) ?_
      refine t_get (C := RX11) (T := TX11) (N := 16) X hT m0 g0 rfl rfl 5 (by decide) qw_23 inlX11 rfl dX11_door_35 (fun v33600 hv33600 ov33600 => ?_)
      obtain rfl : v33600 = .ref b33594 := hv33600.symm.trans hv33593
      refine lv_iload_n hx hb dX11_door_38 rfl (lv_at hl 1 rfl) ?_
      refine t_cSi (n := 3) (As := [.ref b33592, .ref b33594, .int p1]) (rest := [.ref p0]) X hT (kt69_X6_lawDoor l G tag L F hT.2.2.2 b33592 b33594 p1 mb33592 gb33592 mb33594 gb33594 (by omega)) qw_913 qw_914 qw_380 qw_915 ⟨by decide +kernel, by decide +kernel, by decide +kernel⟩ ⟨Nat.le_of_ble_eq_true rfl, Nat.le_of_ble_eq_true rfl⟩ hl rfl rfl (Nat.le_of_ble_eq_true rfl) dX11_door_39 ⟨Nat.le_of_ble_eq_true rfl, Nat.le_of_ble_eq_true rfl⟩ (fun z33601 F9 H locs hT hz33601 => ?_)
      obtain ⟨fz33601, hz33601⟩ := hz33601
      rw [fz33601] at hT
      refine lv_goto (tgt := 47) hx hb dX11_door_42 (by decide) ?_
      exact K47 z33601 p0 _ _ _ _ (by omega) m0 g0 (by omega) hT hfr  (lv_sub hl [0, 1] rfl)
  · have w33602 := cv_eq (rfl : z33587.toInt = z33587.toInt) (by decide : (0 : Int32).toInt = 0) c33588
    refine lv_aload_n hx hb dX11_door_8 rfl (lv_at hl 0 rfl) ?_
    refine lv_iconst (v := 1) hx hb dX11_door_9 (by decide) ?_
    refine t_cVi (n := 1) (C := RX11) (T := TX11) (N := 16) (As := [.int 1]) (rest := []) X hT (kt97_X11_refuse l G tag L F hT.2.2.2 p0 1 m0 g0) m0 g0 rfl rfl qw_152 qw_153 qw_154 qw_2 qw_155 ⟨rfl, by decide +kernel, by decide +kernel, by decide +kernel⟩ ⟨Nat.le_of_ble_eq_true rfl, Nat.le_of_ble_eq_true rfl⟩ hl rfl rfl (Nat.le_of_ble_eq_true rfl) dX11_door_10 ⟨Nat.le_of_ble_eq_true rfl, Nat.le_of_ble_eq_true rfl⟩ (fun z33603 F H locs hT hz33603 => ?_)
    obtain ⟨hz33603, yz33603⟩ := hz33603
    have hfr : ∀ b j : Nat, (tag b ≠ 26 ∨ j ≠ 13) → fld F b j = fld Fo b j := fun b j n26_13 => (yz33603 b j n26_13).trans (hfr b j n26_13)
    exact t_iret hQ X hT (⟨rg_all _, hfr⟩) (Nat.le_of_ble_eq_true rfl) (Nat.le_of_ble_eq_true rfl) dX11_door_13
set_option maxHeartbeats 4000000 in
set_option maxRecDepth 100000 in
theorem kt104_X11_isSkin (l : Launch) (G : KG) (tag : Nat → Nat) (L : List Nat) (F : Nat → va_E) (ho : okT G ttC tag L F) (p0 : Nat) (p1 : Int32) (p2 : Int32) (m0 : p0 ∈ L) (g0 : tag p0 = 26) : TMi l yX11_isSkin cX11_isSkin 3 (some .boolean) { frames := 2, cells := 0, slots := 0, locals := 43 } G ttC tag L F [.ref p0, .int p1, .int p2] (fun r F1 => F1 = F ∧ ((0 ≤ r.toInt ∧ r.toInt ≤ 1) ∧ (r.toInt ≠ 0 → (0 ≤ p1.toInt ∧ p1.toInt ≤ 3) ∧ (1 ≤ p2.toInt ∧ p2.toInt ≤ 6)))) := by
  refine t_bodyi (y := yX11_isSkin) (cd := cX11_isSkin) (mL := 3) (rt := (some .boolean)) (rm := { frames := 2, cells := 0, slots := 0, locals := 43 }) (av := [.ref p0, .int p1, .int p2]) (by decide) (Nat.le_of_ble_eq_true rfl) ho ?_
  intro p e s m args below meth c ls A Q hQ X hT hl
  have hx := X.1.1
  have hb := X.1.2.1
  have hl : lv_has ls 3 [(0, .ref p0), (1, .int p1), (2, .int p2)] := hl
  have rp1 := rg_all p1
  have rp2 := rg_all p2
  refine lv_iload_n hx hb dX11_isSkin_0 rfl (lv_at hl 2 rfl) ?_
  refine lv_if_le (tgt := 17) hx hb dX11_isSkin_1 (by decide) (fun c33703 => ?_) (fun c33703 => ?_)
  · have w33704 := cv_le (rfl : p2.toInt = p2.toInt) (by decide : (0 : Int32).toInt = 0) c33703
    refine lv_iconst (v := 0) hx hb dX11_isSkin_17 (by decide) ?_
    exact t_zret hQ X hT (by decide) (⟨rfl, ⟨(by decide), fun h => absurd (by decide) h⟩⟩) (Nat.le_of_ble_eq_true rfl) (Nat.le_of_ble_eq_true rfl) dX11_isSkin_18
  · have w33705 := cv_nle (rfl : p2.toInt = p2.toInt) (by decide : (0 : Int32).toInt = 0) c33703
    refine lv_aload_n hx hb dX11_isSkin_4 rfl (lv_at hl 0 rfl) ?_
    refine lv_iload_n hx hb dX11_isSkin_5 rfl (lv_at hl 1 rfl) ?_
    refine lv_iload_n hx hb dX11_isSkin_6 rfl (lv_at hl 2 rfl) ?_
    refine t_cVi (n := 2) (C := RX11) (T := TX11) (N := 16) (As := [.int p1, .int p2]) (rest := []) X hT (kt94_X11_isRoom l G tag L F hT.2.2.2 p0 p1 p2 m0 g0) m0 g0 rfl rfl qw_827 qw_828 qw_829 qw_2 qw_830 ⟨rfl, by decide +kernel, by decide +kernel, by decide +kernel⟩ ⟨Nat.le_of_ble_eq_true rfl, Nat.le_of_ble_eq_true rfl⟩ hl rfl rfl (Nat.le_of_ble_eq_true rfl) dX11_isSkin_7 ⟨Nat.le_of_ble_eq_true rfl, Nat.le_of_ble_eq_true rfl⟩ (fun z33706 F9 H locs hT hz33706 => ?_)
    obtain ⟨fz33706, hz33706⟩ := hz33706
    rw [fz33706] at hT
    obtain ⟨hz33706, iz33706⟩ := hz33706
    refine lv_if_eq (tgt := 17) hx hb dX11_isSkin_10 (by decide) (fun c33707 => ?_) (fun c33707 => ?_)
    · have w33708 := cv_eq (rfl : z33706.toInt = z33706.toInt) (by decide : (0 : Int32).toInt = 0) c33707
      refine lv_iconst (v := 0) hx hb dX11_isSkin_17 (by decide) ?_
      exact t_zret hQ X hT (by decide) (⟨rfl, ⟨(by decide), fun h => absurd (by decide) h⟩⟩) (Nat.le_of_ble_eq_true rfl) (Nat.le_of_ble_eq_true rfl) dX11_isSkin_18
    · have w33709 := cv_ne (rfl : z33706.toInt = z33706.toInt) (by decide : (0 : Int32).toInt = 0) c33707
      have w33710 := (fun h => (iz33706 h).1) (by omega)
      have w33711 := (fun h => (iz33706 h).2) (by omega)
      refine lv_iconst (v := 1) hx hb dX11_isSkin_13 (by decide) ?_
      refine lv_goto (tgt := 18) hx hb dX11_isSkin_14 (by decide) ?_
      exact t_zret hQ X hT (by decide) (⟨rfl, ⟨(by decide), fun _ => ⟨by omega, by omega⟩⟩⟩) (Nat.le_of_ble_eq_true rfl) (Nat.le_of_ble_eq_true rfl) dX11_isSkin_18
set_option maxHeartbeats 4000000 in
set_option maxRecDepth 100000 in
theorem kt105_X10_pass (l : Launch) (G : KG) (tag : Nat → Nat) (L : List Nat) (Fo : Nat → va_E) (ho : okT G ttC tag L Fo) (p0 : Nat) (p1 : Nat) (m0 : p0 ∈ L) (g0 : tag p0 = 18) (m1 : p1 ∈ L) (g1 : tag p1 = 19) : TMv l yX10_pass cX10_pass 5 { frames := 5, cells := 0, slots := 0, locals := 133 } G ttC tag L Fo [.ref p0, .ref p1, .ref (G.2 13)] (fun F1 => ∀ b j : Nat, (tag b ≠ 19 ∨ j ≠ 0) → (tag b ≠ 19 ∨ j ≠ 1) → fld F1 b j = fld Fo b j) := by
  refine t_bodyv (y := yX10_pass) (cd := cX10_pass) (mL := 5) (rm := { frames := 5, cells := 0, slots := 0, locals := 133 }) (av := [.ref p0, .ref p1, .ref (G.2 13)]) (by decide) (Nat.le_of_ble_eq_true rfl) ho ?_
  intro p e s m args below meth c ls A Q hQ X hT hl
  have hx := X.1.1
  have hb := X.1.2.1
  have hl : lv_has ls 5 [(0, .ref p0), (1, .ref p1), (2, .ref (G.2 13))] := hl
  obtain ⟨F, hFo⟩ : ∃ F : Nat → va_E, F = Fo := ⟨_, rfl⟩
  rw [← hFo] at hT
  have hfr : ∀ b j : Nat, (tag b ≠ 19 ∨ j ≠ 0) → (tag b ≠ 19 ∨ j ≠ 1) → fld F b j = fld Fo b j := by
    rw [hFo]
    intros
    rfl
  have K51 : ∀ (z34209 : Int32) (z34210 : Int32) (F : Nat → va_E) (H : Heap) (locs : List Loc) (ls : Array Slot), (0 ≤ z34209.toInt ∧ z34209.toInt ≤ 4) → (0 ≤ z34210.toInt ∧ z34210.toInt ≤ 4) → TH G ttC A s tag L F H locs → (∀ b j : Nat, (tag b ≠ 19 ∨ j ≠ 0) → (tag b ≠ 19 ∨ j ≠ 1) → fld F b j = fld Fo b j) → fld F p0 10 = .int z34210 → lv_has ls 5 [(0, .ref p0), (1, .ref p1), (2, .ref (G.2 13)), (3, .int z34209)] → W p l e { frames := 5, cells := 0, slots := 0, locals := 133 } s m args below meth c H locs 0 0 Q (F0 m 51 ls []) := by
    intro z34209 z34210 F H locs ls rz34209 rz34210 hT hfr qz34210 hl
    refine lv_aload_n hx hb dX10_pass_51 rfl (lv_at hl 1 rfl) ?_
    refine lv_dup hx hb dX10_pass_52 rfl ?_
    refine t_get (C := RX7) (T := TX7) (N := 7) X hT m1 g1 rfl rfl 0 (by decide) qw_1102 inlX7 rfl dX10_pass_53 (fun v34211 hv34211 ov34211 => ?_)
    obtain ⟨z34212, rfl, rz34212⟩ := okV_i ov34211
    refine lv_iconst (v := 1) hx hb dX10_pass_56 (by decide) ?_
    refine lv_iadd hx hb dX10_pass_57 ?_
    refine lv_topi (fun z34213 ez34213 => ?_)
    have rz34213 := rg_all z34213
    refine t_put (C := RX7) (T := TX7) (N := 7) (v := .int z34213) X hT m1 g1 rfl tyX7 tyX7_ok nmX7 rfl 0 (by decide) qw_1102 inlX7 rfl (by first | rfl | decide) (by first | rfl | decide) rfl (⟨_, rfl, (by omega), (by omega)⟩) dX10_pass_58 (fun F H locs hT v34214 h1v34214 h2v34214 => ?_)
    have qz34210 := (h1v34214 _ _ (Or.inr (by decide))).trans qz34210
    have hfr : ∀ b j : Nat, (tag b ≠ 19 ∨ j ≠ 0) → (tag b ≠ 19 ∨ j ≠ 1) → fld F b j = fld Fo b j := fun b j n19_0 n19_1 => (h1v34214 b j (fr_ne g1 n19_0)).trans (hfr b j n19_0 n19_1)
    exact t_vret hQ X hT hfr (Nat.le_of_ble_eq_true rfl) (Nat.le_of_ble_eq_true rfl) dX10_pass_61
  have K2 : ∀ (n : Nat) (z34215 : Int32) (F : Nat → va_E) (H : Heap) (locs : List Loc) (ls : Array Slot), (4 - z34215.toInt < (n : Int)) → (0 ≤ z34215.toInt ∧ z34215.toInt ≤ 4) → TH G ttC A s tag L F H locs → (∀ b j : Nat, (tag b ≠ 19 ∨ j ≠ 0) → (tag b ≠ 19 ∨ j ≠ 1) → fld F b j = fld Fo b j) → lv_has ls 5 [(0, .ref p0), (1, .ref p1), (2, .ref (G.2 13)), (3, .int z34215)] → W p l e { frames := 5, cells := 0, slots := 0, locals := 133 } s m args below meth c H locs 0 0 Q (F0 m 2 ls []) := by
    intro n
    induction n with
    | zero =>
      intro z34215 F H locs ls hn rz34215 hT hfr hl
      exfalso
      omega
    | succ n ih2 =>
      intro z34215 F H locs ls hn rz34215 hT hfr hl
      have K45 : ∀ (z34217 : Int32) (z34218 : Int32) (F : Nat → va_E) (H : Heap) (locs : List Loc) (ls : Array Slot), (0 ≤ z34217.toInt ∧ z34217.toInt ≤ 3) → (1 ≤ z34218.toInt ∧ z34218.toInt ≤ 4) → (0 ≤ z34215.toInt ∧ z34215.toInt ≤ 3) → TH G ttC A s tag L F H locs → (∀ b j : Nat, (tag b ≠ 19 ∨ j ≠ 0) → (tag b ≠ 19 ∨ j ≠ 1) → fld F b j = fld Fo b j) → fld F p0 10 = .int z34218 → lv_has ls 5 [(0, .ref p0), (1, .ref p1), (2, .ref (G.2 13)), (3, .int z34215), (4, .int z34217)] → W p l e { frames := 5, cells := 0, slots := 0, locals := 133 } s m args below meth c H locs 0 0 Q (F0 m 45 ls []) := by
        intro z34217 z34218 F H locs ls rz34217 rz34218 r9s34216 hT hfr qz34218 hl
        obtain ⟨z34219, ez34219⟩ : ∃ y : Int32, y = z34215 + 1 := ⟨_, rfl⟩
        have hz34219 : z34219.toInt = z34215.toInt + 1 := ar_add ez34219 rfl (by decide : (1 : Int32).toInt = 1) (by omega) (by omega)
        refine lv_iinc (v := z34219) (lv' := [(3, .int z34219), (0, .ref p0), (1, .ref p1), (2, .ref (G.2 13)), (4, .int z34217)]) hx hb dX10_pass_45 hl (k := 3) rfl (by rw [ez34219]; rfl) (by decide) rfl (fun ls hl => ?_)
        refine lv_goto (tgt := 2) hx hb dX10_pass_48 (by decide) ?_
        exact ih2 z34219 _ _ _ _ (by omega) (by omega) hT hfr  (lv_sub hl [1, 2, 3, 0] rfl)
      refine lv_iload_n hx hb dX10_pass_2 rfl (lv_at hl 3 rfl) ?_
      refine lv_aload_n hx hb dX10_pass_3 rfl (lv_at hl 0 rfl) ?_
      refine t_get (C := RX1) (T := TX1) (N := 20) X hT m0 g0 rfl rfl 10 (by decide) qw_1100 inlX1 rfl dX10_pass_4 (fun v34220 hv34220 ov34220 => ?_)
      obtain ⟨z34221, rfl, rz34221⟩ := okV_i ov34220
      refine lv_icmp_ge (tgt := 51) hx hb dX10_pass_7 (by decide) (fun c34222 => ?_) (fun c34222 => ?_)
      · have w34223 := cv_le (rfl : z34221.toInt = z34221.toInt) (rfl : z34215.toInt = z34215.toInt) c34222
        exact K51 z34215 z34221 _ _ _ _ (by omega) (by omega) hT hfr hv34220 (lv_sub hl [0, 1, 2, 3] rfl)
      · have w34224 := cv_nle (rfl : z34221.toInt = z34221.toInt) (rfl : z34215.toInt = z34215.toInt) c34222
        refine lv_iload_n hx hb dX10_pass_10 rfl (lv_at hl 3 rfl) ?_
        refine lv_aload_n hx hb dX10_pass_11 rfl (lv_at hl 2 rfl) ?_
        refine t_tlen (v := 4) X hT X.2.2.2.1.2.2.2.2 rfl dX10_pass_12 ?_
        refine lv_icmp_ge (tgt := 51) hx hb dX10_pass_13 (by decide) (fun c34225 => ?_) (fun c34225 => ?_)
        · have w34226 := cv_le (by decide : (4 : Int32).toInt = 4) (rfl : z34215.toInt = z34215.toInt) c34225
          exfalso
          omega
        · have w34227 := cv_nle (by decide : (4 : Int32).toInt = 4) (rfl : z34215.toInt = z34215.toInt) c34225
          refine lv_aload_n hx hb dX10_pass_16 rfl (lv_at hl 2 rfl) ?_
          refine lv_iload_n hx hb dX10_pass_17 rfl (lv_at hl 3 rfl) ?_
          refine t_tild X hT X.2.2.2.1.2.2.2.2 (by omega) dX10_pass_18 (fun z34228 ez34228 => ?_)
          have rz34228 : 0 ≤ z34228.toInt ∧ z34228.toInt ≤ 3 := by rw [ez34228]; exact gNums_r _
          refine lv_istore (lv' := [(4, .int z34228), (0, .ref p0), (1, .ref p1), (2, .ref (G.2 13)), (3, .int z34215)]) hx hb dX10_pass_19 hl (by decide) rfl (fun ls hl => ?_)
          refine lv_aload_n hx hb dX10_pass_21 rfl (lv_at hl 2 rfl) ?_
          refine t_get (C := RX7) (T := TX7) (N := 7) X hT m1 g1 rfl rfl 3 (by decide) qw_1101 inlX7 rfl dX10_pass_22 (fun v34229 hv34229 ov34229 => ?_)
          obtain ⟨b34230, rfl, mb34230, gb34230⟩ := okV_r ov34229
          have gb34230 : tag b34230 = 5 := tg_of gb34230
          refine lv_iload hx hb dX10_pass_25 (lv_at hl 0 rfl) ?_
          refine t_ild X hT mb34230 gb34230 rfl (by omega) dX10_pass_27 (fun z34231 vz34231 rz34231 => ?_)
          have rz34231 : (-2147483648) ≤ z34231.toInt ∧ z34231.toInt ≤ 2147483647 := rz34231
          refine lv_if_le (tgt := 45) hx hb dX10_pass_28 (by decide) (fun c34232 => ?_) (fun c34232 => ?_)
          · have w34233 := cv_le (rfl : z34231.toInt = z34231.toInt) (by decide : (0 : Int32).toInt = 0) c34232
            exact K45 z34228 z34221 _ _ _ _ (by omega) (by omega) (by omega) hT hfr hv34220 (lv_sub hl [1, 2, 3, 4, 0] rfl)
          · have w34234 := cv_nle (rfl : z34231.toInt = z34231.toInt) (by decide : (0 : Int32).toInt = 0) c34232
            refine lv_aload_n hx hb dX10_pass_31 rfl (lv_at hl 1 rfl) ?_
            refine lv_aload_n hx hb dX10_pass_32 rfl (lv_at hl 2 rfl) ?_
            refine lv_iload hx hb dX10_pass_33 (lv_at hl 0 rfl) ?_
            refine t_cSv (n := 3) (As := [.ref p0, .ref p1, .int z34228]) (rest := []) X hT (kt79_X10_liveOn l G tag L F hT.2.2.2 p0 p1 z34228 m0 g0 m1 g1 (by omega)) qw_1103 qw_1104 qw_32 qw_1105 ⟨by decide +kernel, by decide +kernel, by decide +kernel⟩ ⟨Nat.le_of_ble_eq_true rfl, Nat.le_of_ble_eq_true rfl⟩ hl rfl rfl (Nat.le_of_ble_eq_true rfl) dX10_pass_35 ⟨Nat.le_of_ble_eq_true rfl, Nat.le_of_ble_eq_true rfl⟩ (fun F H locs hT hz34235 => ?_)
            have yz34235 := hz34235
            have hv34220 := (yz34235 _ 10 (Or.inr (by decide))).trans hv34220
            have hv34229 := (yz34235 _ 3 (Or.inr (by decide))).trans hv34229
            have hfr : ∀ b j : Nat, (tag b ≠ 19 ∨ j ≠ 0) → (tag b ≠ 19 ∨ j ≠ 1) → fld F b j = fld Fo b j := fun b j n19_0 n19_1 => (yz34235 b j n19_1).trans (hfr b j n19_0 n19_1)
            refine lv_aload_n hx hb dX10_pass_38 rfl (lv_at hl 1 rfl) ?_
            refine lv_aload_n hx hb dX10_pass_39 rfl (lv_at hl 2 rfl) ?_
            refine lv_iload hx hb dX10_pass_40 (lv_at hl 0 rfl) ?_
            refine t_cSv (n := 3) (As := [.ref p0, .ref p1, .int z34228]) (rest := []) X hT (kt80_X10_grow l G tag L F hT.2.2.2 p0 p1 z34228 m0 g0 m1 g1 (by omega)) qw_1128 qw_1129 qw_32 qw_1130 ⟨by decide +kernel, by decide +kernel, by decide +kernel⟩ ⟨Nat.le_of_ble_eq_true rfl, Nat.le_of_ble_eq_true rfl⟩ hl rfl rfl (Nat.le_of_ble_eq_true rfl) dX10_pass_42 ⟨Nat.le_of_ble_eq_true rfl, Nat.le_of_ble_eq_true rfl⟩ (fun F H locs hT hz34236 => ?_)
            have yz34236 := hz34236
            have hv34220 := (yz34236 _ 10 ).trans hv34220
            have hv34229 := (yz34236 _ 3 ).trans hv34229
            have hfr : ∀ b j : Nat, (tag b ≠ 19 ∨ j ≠ 0) → (tag b ≠ 19 ∨ j ≠ 1) → fld F b j = fld Fo b j := fun b j n19_0 n19_1 => (yz34236 b j ).trans (hfr b j n19_0 n19_1)
            exact K45 z34228 z34221 _ _ _ _ (by omega) (by omega) (by omega) hT hfr hv34220 (lv_sub hl [1, 2, 3, 4, 0] rfl)
  refine lv_iconst (v := 0) hx hb dX10_pass_0 (by decide) ?_
  refine lv_istore_n (lv' := [(3, .int 0), (0, .ref p0), (1, .ref p1), (2, .ref (G.2 13))]) hx hb dX10_pass_1 rfl hl (by decide) rfl (fun ls hl => ?_)
  have kk34237 : (0 : Int32).toInt = 0 := by decide
  exact K2 5 0 _ _ _ _ (by omega) (by decide) hT hfr  (lv_sub hl [1, 2, 3, 0] rfl)
