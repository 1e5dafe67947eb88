set_option maxHeartbeats 4000000 in
set_option maxRecDepth 100000 in
theorem kt149_X9_noteRow (l : Launch) (G : KG) (tag : Nat → Nat) (L : List Nat) (Fo : Nat → va_E) (ho : okT G ttC tag L Fo) (p0 : Nat) (p1 : Nat) (p2 : Int32) (m0 : p0 ∈ L) (g0 : tag p0 = 22) (m1 : p1 ∈ L) (g1 : tag p1 = 18) : TMv l yX9_noteRow cX9_noteRow 7 { frames := 2, cells := 0, slots := 0, locals := 36 } G ttC tag L Fo [.ref p0, .ref p1, .int p2] (fun F1 => ∀ b j : Nat, fld F1 b j = fld Fo b j) := by
  refine t_bodyv (y := yX9_noteRow) (cd := cX9_noteRow) (mL := 7) (rm := { frames := 2, cells := 0, slots := 0, locals := 36 }) (av := [.ref p0, .ref p1, .int p2]) (by decide) (Nat.le_of_ble_eq_true rfl) ho ?_
  intro p e s m args below meth c ls A Q hQ X hT hl
  have hx := X.1.1
  have hb := X.1.2.1
  have hl : lv_has ls 7 [(0, .ref p0), (1, .ref p1), (2, .int p2)] := hl
  have rp2 := rg_all p2
  obtain ⟨F, hFo⟩ : ∃ F : Nat → va_E, F = Fo := ⟨_, rfl⟩
  rw [← hFo] at hT
  have hfr : ∀ b j : Nat, fld F b j = fld Fo b j := by
    rw [hFo]
    intros
    rfl
  have K82 : ∀ (n : Nat) (z52981 : Int32) (z52982 : Int32) (z52983 : Int32) (z52984 : Int32) (F : Nat → va_E) (H : Heap) (locs : List Loc) (ls : Array Slot), (z52983.toInt - (-1) < (n : Int)) → ((-1) ≤ z52983.toInt ∧ z52983.toInt ≤ 5) → (0 ≤ z52984.toInt ∧ z52984.toInt ≤ 6) → TH G ttC A s tag L F H locs → (∀ b j : Nat, fld F b j = fld Fo b j) → fld F p1 16 = .int z52984 → lv_has ls 7 [(0, .ref p0), (1, .ref p1), (2, .int p2), (3, .int z52981), (4, .int z52982), (5, .int z52983)] → W p l e { frames := 2, cells := 0, slots := 0, locals := 36 } s m args below meth c H locs 0 0 Q (F0 m 82 ls []) := by
    intro n
    induction n with
    | zero =>
      intro z52981 z52982 z52983 z52984 F H locs ls hn rz52983 rz52984 hT hfr qz52984 hl
      have rz52981 := rg_all z52981
      have rz52982 := rg_all z52982
      exfalso
      omega
    | succ n ih82 =>
      intro z52981 z52982 z52983 z52984 F H locs ls hn rz52983 rz52984 hT hfr qz52984 hl
      have rz52981 := rg_all z52981
      have rz52982 := rg_all z52982
      refine lv_iload hx hb dX9_noteRow_82 (lv_at hl 5 rfl) ?_
      refine lv_if_lt (tgt := 137) hx hb dX9_noteRow_84 (by decide) (fun c52985 => ?_) (fun c52985 => ?_)
      · have w52986 := cv_lt (rfl : z52983.toInt = z52983.toInt) (by decide : (0 : Int32).toInt = 0) c52985
        exact t_vret hQ X hT hfr (Nat.le_of_ble_eq_true rfl) (Nat.le_of_ble_eq_true rfl) dX9_noteRow_137
      · have w52987 := cv_nlt (rfl : z52983.toInt = z52983.toInt) (by decide : (0 : Int32).toInt = 0) c52985
        refine lv_aload_n hx hb dX9_noteRow_87 rfl (lv_at hl 0 rfl) ?_
        refine t_get (C := RX9) (T := TX9) (N := 6) X hT m0 g0 rfl rfl 0 (by decide) qw_93 inlX9 rfl dX9_noteRow_88 (fun v52988 hv52988 ov52988 => ?_)
        obtain ⟨b52989, rfl, mb52989, gb52989⟩ := okV_r ov52988
        have gb52989 : tag b52989 = 11 := tg_of gb52989
        refine lv_iload hx hb dX9_noteRow_91 (lv_at hl 5 rfl) ?_
        refine t_ild X hT mb52989 gb52989 rfl (by omega) dX9_noteRow_93 (fun z52990 vz52990 rz52990 => ?_)
        have rz52990 : 0 ≤ z52990.toInt ∧ z52990.toInt ≤ 5 := rz52990
        refine lv_istore (lv' := [(6, .int z52990), (0, .ref p0), (1, .ref p1), (2, .int p2), (3, .int z52981), (4, .int z52982), (5, .int z52983)]) hx hb dX9_noteRow_94 hl (by decide) rfl (fun ls hl => ?_)
        refine lv_iload hx hb dX9_noteRow_96 (lv_at hl 5 rfl) ?_
        refine lv_iconst (v := 1) hx hb dX9_noteRow_98 (by decide) ?_
        refine lv_isub hx hb dX9_noteRow_99 ?_
        refine lv_topi (fun z52991 ez52991 => ?_)
        have rz52991 := rg_all z52991
        refine lv_aload_n hx hb dX9_noteRow_100 rfl (lv_at hl 2 rfl) ?_
        refine lv_iload_n hx hb dX9_noteRow_101 rfl (lv_at hl 3 rfl) ?_
        refine lv_iload hx hb dX9_noteRow_102 (lv_at hl 0 rfl) ?_
        refine t_cSi (n := 3) (As := [.ref p1, .int p2, .int z52990]) (rest := [.int z52991]) X hT (kt147_X9_lastFor l G tag L F hT.2.2.2 p1 p2 z52990 m1 g1 (by omega)) qw_1347 qw_1348 qw_40 qw_1349 ⟨by decide +kernel, by decide +kernel, by decide +kernel⟩ ⟨Nat.le_of_ble_eq_true rfl, Nat.le_of_ble_eq_true rfl⟩ hl rfl rfl (Nat.le_of_ble_eq_true rfl) dX9_noteRow_104 ⟨Nat.le_of_ble_eq_true rfl, Nat.le_of_ble_eq_true rfl⟩ (fun z52992 F9 H locs hT hz52992 => ?_)
        obtain ⟨fz52992, hz52992⟩ := hz52992
        rw [fz52992] at hT
        refine t_mmin X hl qw_1351 qw_1018 qw_850 qw_1019 (Nat.le_of_ble_eq_true rfl) (Nat.le_of_ble_eq_true rfl) (Nat.le_of_ble_eq_true rfl) (Nat.le_of_ble_eq_true rfl) dX9_noteRow_107 (fun z52993 ez52993 => ?_)
        have hz52993 := mmin_e ez52993 (rfl : z52991.toInt = z52991.toInt) (rfl : z52992.toInt = z52992.toInt)
        refine lv_istore (lv' := [(4, .int z52993), (6, .int z52990), (0, .ref p0), (1, .ref p1), (2, .int p2), (3, .int z52981), (5, .int z52983)]) hx hb dX9_noteRow_110 hl (by decide) rfl (fun ls hl => ?_)
        refine lv_aload_n hx hb dX9_noteRow_112 rfl (lv_at hl 2 rfl) ?_
        refine t_get (C := RX9) (T := TX9) (N := 6) X hT m0 g0 rfl rfl 4 (by decide) qw_96 inlX9 rfl dX9_noteRow_113 (fun v52994 hv52994 ov52994 => ?_)
        obtain ⟨b52995, rfl, mb52995, gb52995⟩ := okV_r ov52994
        have gb52995 : tag b52995 = 7 := tg_of gb52995
        refine lv_iload hx hb dX9_noteRow_116 (lv_at hl 1 rfl) ?_
        refine lv_aload_n hx hb dX9_noteRow_118 rfl (lv_at hl 2 rfl) ?_
        refine t_get (C := RX9) (T := TX9) (N := 6) X hT m0 g0 rfl rfl 4 (by decide) qw_96 inlX9 rfl dX9_noteRow_119 (fun v52996 hv52996 ov52996 => ?_)
        obtain rfl : v52996 = .ref b52995 := hv52996.symm.trans hv52994
        refine lv_iload hx hb dX9_noteRow_122 (lv_at hl 1 rfl) ?_
        refine t_ild X hT mb52995 gb52995 rfl (by omega) dX9_noteRow_124 (fun z52997 vz52997 rz52997 => ?_)
        have rz52997 : (-2147483648) ≤ z52997.toInt ∧ z52997.toInt ≤ 2147483647 := rz52997
        refine lv_iload hx hb dX9_noteRow_125 (lv_at hl 0 rfl) ?_
        refine t_mmax X hl qw_1346 qw_849 qw_850 qw_851 (Nat.le_of_ble_eq_true rfl) (Nat.le_of_ble_eq_true rfl) (Nat.le_of_ble_eq_true rfl) (Nat.le_of_ble_eq_true rfl) dX9_noteRow_127 (fun z52998 ez52998 => ?_)
        have hz52998 := mmax_e ez52998 (rfl : z52997.toInt = z52997.toInt) (rfl : z52993.toInt = z52993.toInt)
        refine t_ist X hT mb52995 gb52995 rfl (by omega) (show (-2147483648) ≤ (z52998 : Int32).toInt ∧ (z52998 : Int32).toInt ≤ 2147483647 from (by omega)) dX9_noteRow_130 (fun F H locs hT v52999 h1v52999 h2v52999 => ?_)
        have qz52984 := (h2v52999 _ _).trans qz52984
        have hv52988 := (h2v52999 _ _).trans hv52988
        have hv52994 := (h2v52999 _ _).trans hv52994
        have hfr : ∀ b j : Nat, fld F b j = fld Fo b j := fun b j  => (h2v52999 b j).trans (hfr b j )
        obtain ⟨z53000, ez53000⟩ : ∃ y : Int32, y = z52983 + (-1) := ⟨_, rfl⟩
        have hz53000 : z53000.toInt = z52983.toInt + (-1) := ar_add ez53000 rfl (by decide : ((-1) : Int32).toInt = (-1)) (by omega) (by omega)
        refine lv_iinc (v := z53000) (lv' := [(5, .int z53000), (4, .int z52993), (6, .int z52990), (0, .ref p0), (1, .ref p1), (2, .int p2), (3, .int z52981)]) hx hb dX9_noteRow_131 hl (k := 6) rfl (by rw [ez53000]; rfl) (by decide) rfl (fun ls hl => ?_)
        refine lv_goto (tgt := 82) hx hb dX9_noteRow_134 (by decide) ?_
        exact ih82 z52981 z52993 z53000 z52984 _ _ _ _ (by omega) (by omega) (by omega) hT hfr qz52984 (lv_sub hl [3, 4, 5, 6, 1, 0] rfl)
  have K5 : ∀ (n : Nat) (z53001 : Int32) (z53002 : Int32) (F : Nat → va_E) (H : Heap) (locs : List Loc) (ls : Array Slot), (6 - z53002.toInt < (n : Int)) → (0 ≤ z53002.toInt ∧ z53002.toInt ≤ 6) → TH G ttC A s tag L F H locs → (∀ b j : Nat, fld F b j = fld Fo b j) → lv_has ls 7 [(0, .ref p0), (1, .ref p1), (2, .int p2), (3, .int z53001), (4, .int z53002)] → W p l e { frames := 2, cells := 0, slots := 0, locals := 36 } s m args below meth c H locs 0 0 Q (F0 m 5 ls []) := by
    intro n
    induction n with
    | zero =>
      intro z53001 z53002 F H locs ls hn rz53002 hT hfr hl
      have rz53001 := rg_all z53001
      exfalso
      omega
    | succ n ih5 =>
      intro z53001 z53002 F H locs ls hn rz53002 hT hfr hl
      have rz53001 := rg_all z53001
      refine lv_iload hx hb dX9_noteRow_5 (lv_at hl 4 rfl) ?_
      refine lv_aload_n hx hb dX9_noteRow_7 rfl (lv_at hl 1 rfl) ?_
      refine t_get (C := RX1) (T := TX1) (N := 20) X hT m1 g1 rfl rfl 16 (by decide) qw_1338 inlX1 rfl dX9_noteRow_8 (fun v53003 hv53003 ov53003 => ?_)
      obtain ⟨z53004, rfl, rz53004⟩ := okV_i ov53003
      refine lv_icmp_ge (tgt := 71) hx hb dX9_noteRow_11 (by decide) (fun c53005 => ?_) (fun c53005 => ?_)
      · have w53006 := cv_le (rfl : z53004.toInt = z53004.toInt) (rfl : z53002.toInt = z53002.toInt) c53005
        refine lv_iload_n hx hb dX9_noteRow_71 rfl (lv_at hl 2 rfl) ?_
        refine lv_istore (lv' := [(4, .int p2), (0, .ref p0), (1, .ref p1), (2, .int p2), (3, .int z53001)]) hx hb dX9_noteRow_72 hl (by decide) rfl (fun ls hl => ?_)
        refine lv_aload_n hx hb dX9_noteRow_74 rfl (lv_at hl 2 rfl) ?_
        refine t_get (C := RX1) (T := TX1) (N := 20) X hT m1 g1 rfl rfl 16 (by decide) qw_1338 inlX1 rfl dX9_noteRow_75 (fun v53007 hv53007 ov53007 => ?_)
        obtain rfl : v53007 = .int z53004 := hv53007.symm.trans hv53003
        refine lv_iconst (v := 1) hx hb dX9_noteRow_78 (by decide) ?_
        refine lv_isub hx hb dX9_noteRow_79 ?_
        refine lv_topi (fun z53008 ez53008 => ?_)
        have hz53008 : z53008.toInt = z53004.toInt - 1 := ar_sub ez53008 (rfl : z53004.toInt = z53004.toInt) (by decide : (1 : Int32).toInt = 1) (by omega) (by omega)
        have rz53008 : (-1) ≤ z53008.toInt ∧ z53008.toInt ≤ 5 := by omega
        refine lv_istore (lv' := [(5, .int z53008), (4, .int p2), (0, .ref p0), (1, .ref p1), (2, .int p2), (3, .int z53001)]) hx hb dX9_noteRow_80 hl (by decide) rfl (fun ls hl => ?_)
        exact K82 7 z53001 p2 z53008 z53004 _ _ _ _ (by omega) (by omega) (by omega) hT hfr hv53003 (lv_sub hl [2, 3, 4, 5, 1, 0] rfl)
      · have w53009 := cv_nle (rfl : z53004.toInt = z53004.toInt) (rfl : z53002.toInt = z53002.toInt) c53005
        refine lv_aload_n hx hb dX9_noteRow_14 rfl (lv_at hl 0 rfl) ?_
        refine t_get (C := RX9) (T := TX9) (N := 6) X hT m0 g0 rfl rfl 0 (by decide) qw_93 inlX9 rfl dX9_noteRow_15 (fun v53010 hv53010 ov53010 => ?_)
        obtain ⟨b53011, rfl, mb53011, gb53011⟩ := okV_r ov53010
        have gb53011 : tag b53011 = 11 := tg_of gb53011
        refine lv_iload hx hb dX9_noteRow_18 (lv_at hl 4 rfl) ?_
        refine t_ild X hT mb53011 gb53011 rfl (by omega) dX9_noteRow_20 (fun z53012 vz53012 rz53012 => ?_)
        have rz53012 : 0 ≤ z53012.toInt ∧ z53012.toInt ≤ 5 := rz53012
        refine lv_istore (lv' := [(5, .int z53012), (0, .ref p0), (1, .ref p1), (2, .int p2), (3, .int z53001), (4, .int z53002)]) hx hb dX9_noteRow_21 hl (by decide) rfl (fun ls hl => ?_)
        refine lv_aload_n hx hb dX9_noteRow_23 rfl (lv_at hl 1 rfl) ?_
        refine t_get (C := RX9) (T := TX9) (N := 6) X hT m0 g0 rfl rfl 3 (by decide) qw_95 inlX9 rfl dX9_noteRow_24 (fun v53013 hv53013 ov53013 => ?_)
        obtain ⟨b53014, rfl, mb53014, gb53014⟩ := okV_r ov53013
        have gb53014 : tag b53014 = 7 := tg_of gb53014
        refine lv_iload hx hb dX9_noteRow_27 (lv_at hl 0 rfl) ?_
        refine lv_aload_n hx hb dX9_noteRow_29 rfl (lv_at hl 1 rfl) ?_
        refine t_get (C := RX9) (T := TX9) (N := 6) X hT m0 g0 rfl rfl 3 (by decide) qw_95 inlX9 rfl dX9_noteRow_30 (fun v53015 hv53015 ov53015 => ?_)
        obtain rfl : v53015 = .ref b53014 := hv53015.symm.trans hv53013
        refine lv_iload hx hb dX9_noteRow_33 (lv_at hl 0 rfl) ?_
        refine t_ild X hT mb53014 gb53014 rfl (by omega) dX9_noteRow_35 (fun z53016 vz53016 rz53016 => ?_)
        have rz53016 : (-2147483648) ≤ z53016.toInt ∧ z53016.toInt ≤ 2147483647 := rz53016
        refine lv_aload_n hx hb dX9_noteRow_36 rfl (lv_at hl 1 rfl) ?_
        refine t_get (C := RX9) (T := TX9) (N := 6) X hT m0 g0 rfl rfl 1 (by decide) qw_94 inlX9 rfl dX9_noteRow_37 (fun v53017 hv53017 ov53017 => ?_)
        obtain ⟨b53018, rfl, mb53018, gb53018⟩ := okV_r ov53017
        have gb53018 : tag b53018 = 7 := tg_of gb53018
        refine lv_iload hx hb dX9_noteRow_40 (lv_at hl 5 rfl) ?_
        refine t_ild X hT mb53018 gb53018 rfl (by omega) dX9_noteRow_42 (fun z53019 vz53019 rz53019 => ?_)
        have rz53019 : (-2147483648) ≤ z53019.toInt ∧ z53019.toInt ≤ 2147483647 := rz53019
        refine t_mmin X hl qw_1351 qw_1018 qw_850 qw_1019 (Nat.le_of_ble_eq_true rfl) (Nat.le_of_ble_eq_true rfl) (Nat.le_of_ble_eq_true rfl) (Nat.le_of_ble_eq_true rfl) dX9_noteRow_43 (fun z53020 ez53020 => ?_)
        have hz53020 := mmin_e ez53020 (rfl : z53016.toInt = z53016.toInt) (rfl : z53019.toInt = z53019.toInt)
        refine t_ist X hT mb53014 gb53014 rfl (by omega) (show (-2147483648) ≤ (z53020 : Int32).toInt ∧ (z53020 : Int32).toInt ≤ 2147483647 from (by omega)) dX9_noteRow_46 (fun F H locs hT v53021 h1v53021 h2v53021 => ?_)
        have hv53003 := (h2v53021 _ _).trans hv53003
        have hv53010 := (h2v53021 _ _).trans hv53010
        have hv53013 := (h2v53021 _ _).trans hv53013
        have hv53017 := (h2v53021 _ _).trans hv53017
        have hfr : ∀ b j : Nat, fld F b j = fld Fo b j := fun b j  => (h2v53021 b j).trans (hfr b j )
        refine lv_aload_n hx hb dX9_noteRow_47 rfl (lv_at hl 1 rfl) ?_
        refine t_get (C := RX9) (T := TX9) (N := 6) X hT m0 g0 rfl rfl 5 (by decide) qw_97 inlX9 rfl dX9_noteRow_48 (fun v53022 hv53022 ov53022 => ?_)
        obtain ⟨b53023, rfl, mb53023, gb53023⟩ := okV_r ov53022
        have gb53023 : tag b53023 = 7 := tg_of gb53023
        refine lv_iload hx hb dX9_noteRow_51 (lv_at hl 0 rfl) ?_
        refine lv_dup2_11 hx hb dX9_noteRow_53 rfl rfl ?_
        refine t_ild X hT mb53023 gb53023 rfl (by omega) dX9_noteRow_54 (fun z53024 vz53024 rz53024 => ?_)
        have rz53024 : (-2147483648) ≤ z53024.toInt ∧ z53024.toInt ≤ 2147483647 := rz53024
        refine lv_iload_n hx hb dX9_noteRow_55 rfl (lv_at hl 4 rfl) ?_
        refine lv_iand hx hb dX9_noteRow_56 ?_
        refine lv_topi (fun z53025 ez53025 => ?_)
        have rz53025 := rg_all z53025
        refine t_ist X hT mb53023 gb53023 rfl (by omega) (show (-2147483648) ≤ (z53025 : Int32).toInt ∧ (z53025 : Int32).toInt ≤ 2147483647 from (by omega)) dX9_noteRow_57 (fun F H locs hT v53026 h1v53026 h2v53026 => ?_)
        have hv53003 := (h2v53026 _ _).trans hv53003
        have hv53010 := (h2v53026 _ _).trans hv53010
        have hv53013 := (h2v53026 _ _).trans hv53013
        have hv53017 := (h2v53026 _ _).trans hv53017
        have hv53022 := (h2v53026 _ _).trans hv53022
        have hfr : ∀ b j : Nat, fld F b j = fld Fo b j := fun b j  => (h2v53026 b j).trans (hfr b j )
        refine lv_iload_n hx hb dX9_noteRow_58 rfl (lv_at hl 4 rfl) ?_
        refine lv_iconst (v := 1) hx hb dX9_noteRow_59 (by decide) ?_
        refine lv_iload hx hb dX9_noteRow_60 (lv_at hl 0 rfl) ?_
        refine lv_ishl hx hb dX9_noteRow_62 ?_
        refine lv_topi (fun z53027 ez53027 => ?_)
        have rz53027 := rg_all z53027
        refine lv_ior hx hb dX9_noteRow_63 ?_
        refine lv_topi (fun z53028 ez53028 => ?_)
        have rz53028 := rg_all z53028
        refine lv_istore_n (lv' := [(3, .int z53028), (5, .int z53012), (0, .ref p0), (1, .ref p1), (2, .int p2), (4, .int z53002)]) hx hb dX9_noteRow_64 rfl hl (by decide) rfl (fun ls hl => ?_)
        obtain ⟨z53029, ez53029⟩ : ∃ y : Int32, y = z53002 + 1 := ⟨_, rfl⟩
        have hz53029 : z53029.toInt = z53002.toInt + 1 := ar_add ez53029 rfl (by decide : (1 : Int32).toInt = 1) (by omega) (by omega)
        refine lv_iinc (v := z53029) (lv' := [(4, .int z53029), (3, .int z53028), (5, .int z53012), (0, .ref p0), (1, .ref p1), (2, .int p2)]) hx hb dX9_noteRow_65 hl (k := 5) rfl (by rw [ez53029]; rfl) (by decide) rfl (fun ls hl => ?_)
        refine lv_goto (tgt := 5) hx hb dX9_noteRow_68 (by decide) ?_
        exact ih5 z53028 z53029 _ _ _ _ (by omega) (by omega) hT hfr  (lv_sub hl [3, 4, 5, 1, 0] rfl)
  refine lv_iconst (v := 0) hx hb dX9_noteRow_0 (by decide) ?_
  refine lv_istore_n (lv' := [(3, .int 0), (0, .ref p0), (1, .ref p1), (2, .int p2)]) hx hb dX9_noteRow_1 rfl hl (by decide) rfl (fun ls hl => ?_)
  refine lv_iconst (v := 0) hx hb dX9_noteRow_2 (by decide) ?_
  refine lv_istore (lv' := [(4, .int 0), (3, .int 0), (0, .ref p0), (1, .ref p1), (2, .int p2)]) hx hb dX9_noteRow_3 hl (by decide) rfl (fun ls hl => ?_)
  have kk53030 : (0 : Int32).toInt = 0 := by decide
  have kk53031 : (0 : Int32).toInt = 0 := by decide
  exact K5 7 0 0 _ _ _ _ (by omega) (by decide) hT hfr  (lv_sub hl [2, 3, 4, 1, 0] rfl)
set_option maxHeartbeats 4000000 in
set_option maxRecDepth 100000 in
theorem kt150_X5_swap (l : Launch) (G : KG) (tag : Nat → Nat) (L : List Nat) (Fo : Nat → va_E) (ho : okT G ttC tag L Fo) (p0 : Nat) (p1 : Int32) (p2 : Int32) (m0 : p0 ∈ L) (g0 : tag p0 = 11) (h1 : 0 ≤ p1.toInt ∧ p1.toInt ≤ 5) (h2 : 0 ≤ p2.toInt ∧ p2.toInt ≤ 5) : TMv l yX5_swap cX5_swap 4 { frames := 0, cells := 0, slots := 0, locals := 0 } G ttC tag L Fo [.ref p0, .int p1, .int p2] (fun F1 => ∀ b j : Nat, fld F1 b j = fld Fo b j) := by
  refine t_bodyv (y := yX5_swap) (cd := cX5_swap) (mL := 4) (rm := { frames := 0, cells := 0, slots := 0, locals := 0 }) (av := [.ref p0, .int p1, .int p2]) (by decide) (Nat.le_of_ble_eq_true rfl) ho ?_
  intro p e s m args below meth c ls A Q hQ X hT hl
  have hx := X.1.1
  have hb := X.1.2.1
  have hl : lv_has ls 4 [(0, .ref p0), (1, .int p1), (2, .int p2)] := hl
  obtain ⟨F, hFo⟩ : ∃ F : Nat → va_E, F = Fo := ⟨_, rfl⟩
  rw [← hFo] at hT
  have hfr : ∀ b j : Nat, fld F b j = fld Fo b j := by
    rw [hFo]
    intros
    rfl
  refine lv_aload_n hx hb dX5_swap_0 rfl (lv_at hl 0 rfl) ?_
  refine lv_iload_n hx hb dX5_swap_1 rfl (lv_at hl 1 rfl) ?_
  refine t_ild X hT m0 g0 rfl (by omega) dX5_swap_2 (fun z53202 vz53202 rz53202 => ?_)
  have rz53202 : 0 ≤ z53202.toInt ∧ z53202.toInt ≤ 5 := rz53202
  refine lv_istore_n (lv' := [(3, .int z53202), (0, .ref p0), (1, .int p1), (2, .int p2)]) hx hb dX5_swap_3 rfl hl (by decide) rfl (fun ls hl => ?_)
  refine lv_aload_n hx hb dX5_swap_4 rfl (lv_at hl 1 rfl) ?_
  refine lv_iload_n hx hb dX5_swap_5 rfl (lv_at hl 2 rfl) ?_
  refine lv_aload_n hx hb dX5_swap_6 rfl (lv_at hl 1 rfl) ?_
  refine lv_iload_n hx hb dX5_swap_7 rfl (lv_at hl 3 rfl) ?_
  refine t_ild X hT m0 g0 rfl (by omega) dX5_swap_8 (fun z53203 vz53203 rz53203 => ?_)
  have rz53203 : 0 ≤ z53203.toInt ∧ z53203.toInt ≤ 5 := rz53203
  refine t_ist X hT m0 g0 rfl (by omega) (show 0 ≤ (z53203 : Int32).toInt ∧ (z53203 : Int32).toInt ≤ 5 from (by omega)) dX5_swap_9 (fun F H locs hT v53204 h1v53204 h2v53204 => ?_)
  have hfr : ∀ b j : Nat, fld F b j = fld Fo b j := fun b j  => (h2v53204 b j).trans (hfr b j )
  refine lv_aload_n hx hb dX5_swap_10 rfl (lv_at hl 1 rfl) ?_
  refine lv_iload_n hx hb dX5_swap_11 rfl (lv_at hl 3 rfl) ?_
  refine lv_iload_n hx hb dX5_swap_12 rfl (lv_at hl 0 rfl) ?_
  refine t_ist X hT m0 g0 rfl (by omega) (show 0 ≤ (z53202 : Int32).toInt ∧ (z53202 : Int32).toInt ≤ 5 from (by omega)) dX5_swap_13 (fun F H locs hT v53205 h1v53205 h2v53205 => ?_)
  have hfr : ∀ b j : Nat, fld F b j = fld Fo b j := fun b j  => (h2v53205 b j).trans (hfr b j )
  exact t_vret hQ X hT hfr (Nat.le_of_ble_eq_true rfl) (Nat.le_of_ble_eq_true rfl) dX5_swap_14
set_option maxHeartbeats 4000000 in
set_option maxRecDepth 100000 in
theorem kt151_X5_advance (l : Launch) (G : KG) (tag : Nat → Nat) (L : List Nat) (Fo : Nat → va_E) (ho : okT G ttC tag L Fo) (p0 : Nat) (p1 : Int32) (m0 : p0 ∈ L) (g0 : tag p0 = 11) (h1 : 2 ≤ p1.toInt ∧ p1.toInt ≤ 6) : TMv l yX5_advance cX5_advance 6 { frames := 1, cells := 0, slots := 0, locals := 23 } G ttC tag L Fo [.ref p0, .int p1] (fun F1 => ∀ b j : Nat, fld F1 b j = fld Fo b j) := by
  refine t_bodyv (y := yX5_advance) (cd := cX5_advance) (mL := 6) (rm := { frames := 1, cells := 0, slots := 0, locals := 23 }) (av := [.ref p0, .int p1]) (by decide) (Nat.le_of_ble_eq_true rfl) ho ?_
  intro p e s m args below meth c ls A Q hQ X hT hl
  have hx := X.1.1
  have hb := X.1.2.1
  have hl : lv_has ls 6 [(0, .ref p0), (1, .int p1)] := hl
  obtain ⟨F, hFo⟩ : ∃ F : Nat → va_E, F = Fo := ⟨_, rfl⟩
  rw [← hFo] at hT
  have hfr : ∀ b j : Nat, fld F b j = fld Fo b j := by
    rw [hFo]
    intros
    rfl
  have K77 : ∀ (n : Nat) (z53666 : Int32) (z53667 : Int32) (z53668 : Int32) (z53669 : Int32) (F : Nat → va_E) (H : Heap) (locs : List Loc) (ls : Array Slot), (5 - z53668.toInt < (n : Int)) → (0 ≤ z53666.toInt ∧ z53666.toInt ≤ 4) → (0 ≤ z53667.toInt ∧ z53667.toInt ≤ 5) → (1 ≤ z53668.toInt ∧ z53668.toInt ≤ 5) → (1 ≤ z53669.toInt ∧ z53669.toInt ≤ 5) → TH G ttC A s tag L F H locs → (∀ b j : Nat, fld F b j = fld Fo b j) → lv_has ls 6 [(0, .ref p0), (1, .int p1), (2, .int z53666), (3, .int z53667), (4, .int z53668), (5, .int z53669)] → W p l e { frames := 1, cells := 0, slots := 0, locals := 23 } s m args below meth c H locs 0 0 Q (F0 m 77 ls []) := by
    intro n
    induction n with
    | zero =>
      intro z53666 z53667 z53668 z53669 F H locs ls hn rz53666 rz53667 rz53668 rz53669 hT hfr hl
      exfalso
      omega
    | succ n ih77 =>
      intro z53666 z53667 z53668 z53669 F H locs ls hn rz53666 rz53667 rz53668 rz53669 hT hfr hl
      refine lv_iload hx hb dX5_advance_77 (lv_at hl 4 rfl) ?_
      refine lv_iload hx hb dX5_advance_79 (lv_at hl 5 rfl) ?_
      refine lv_icmp_ge (tgt := 101) hx hb dX5_advance_81 (by decide) (fun c53670 => ?_) (fun c53670 => ?_)
      · have w53671 := cv_le (rfl : z53669.toInt = z53669.toInt) (rfl : z53668.toInt = z53668.toInt) c53670
        exact t_vret hQ X hT hfr (Nat.le_of_ble_eq_true rfl) (Nat.le_of_ble_eq_true rfl) dX5_advance_101
      · have w53672 := cv_nle (rfl : z53669.toInt = z53669.toInt) (rfl : z53668.toInt = z53668.toInt) c53670
        refine lv_aload_n hx hb dX5_advance_84 rfl (lv_at hl 0 rfl) ?_
        refine lv_iload hx hb dX5_advance_85 (lv_at hl 4 rfl) ?_
        refine lv_iload hx hb dX5_advance_87 (lv_at hl 5 rfl) ?_
        refine t_cSv (n := 3) (As := [.ref p0, .int z53668, .int z53669]) (rest := []) X hT (kt150_X5_swap l G tag L F hT.2.2.2 p0 z53668 z53669 m0 g0 (by omega) (by omega)) qw_1250 qw_1251 qw_1242 qw_1252 ⟨by decide +kernel, by decide +kernel, by decide +kernel⟩ ⟨Nat.le_of_ble_eq_true rfl, Nat.le_of_ble_eq_true rfl⟩ hl rfl rfl (Nat.le_of_ble_eq_true rfl) dX5_advance_89 ⟨Nat.le_of_ble_eq_true rfl, Nat.le_of_ble_eq_true rfl⟩ (fun F H locs hT hz53673 => ?_)
        have yz53673 := hz53673
        have hfr : ∀ b j : Nat, fld F b j = fld Fo b j := fun b j  => (yz53673 b j ).trans (hfr b j )
        obtain ⟨z53674, ez53674⟩ : ∃ y : Int32, y = z53668 + 1 := ⟨_, rfl⟩
        have hz53674 : z53674.toInt = z53668.toInt + 1 := ar_add ez53674 rfl (by decide : (1 : Int32).toInt = 1) (by omega) (by omega)
        refine lv_iinc (v := z53674) (lv' := [(4, .int z53674), (0, .ref p0), (1, .int p1), (2, .int z53666), (3, .int z53667), (5, .int z53669)]) hx hb dX5_advance_92 hl (k := 4) rfl (by rw [ez53674]; rfl) (by decide) rfl (fun ls hl => ?_)
        obtain ⟨z53675, ez53675⟩ : ∃ y : Int32, y = z53669 + (-1) := ⟨_, rfl⟩
        have hz53675 : z53675.toInt = z53669.toInt + (-1) := ar_add ez53675 rfl (by decide : ((-1) : Int32).toInt = (-1)) (by omega) (by omega)
        refine lv_iinc (v := z53675) (lv' := [(5, .int z53675), (4, .int z53674), (0, .ref p0), (1, .int p1), (2, .int z53666), (3, .int z53667)]) hx hb dX5_advance_95 hl (k := 5) rfl (by rw [ez53675]; rfl) (by decide) rfl (fun ls hl => ?_)
        refine lv_goto (tgt := 77) hx hb dX5_advance_98 (by decide) ?_
        exact ih77 z53666 z53667 z53674 z53675 _ _ _ _ (by omega) (by omega) (by omega) (by omega) (by omega) hT hfr  (lv_sub hl [2, 3, 4, 5, 1, 0] rfl)
  have K61 : ∀ (z53676 : Int32) (z53677 : Int32) (F : Nat → va_E) (H : Heap) (locs : List Loc) (ls : Array Slot), (0 ≤ z53676.toInt ∧ z53676.toInt ≤ 4) → (0 ≤ z53677.toInt ∧ z53677.toInt ≤ 5) → TH G ttC A s tag L F H locs → (∀ b j : Nat, fld F b j = fld Fo b j) → lv_has ls 6 [(0, .ref p0), (1, .int p1), (2, .int z53676), (3, .int z53677)] → W p l e { frames := 1, cells := 0, slots := 0, locals := 23 } s m args below meth c H locs 0 0 Q (F0 m 61 ls []) := by
    intro z53676 z53677 F H locs ls rz53676 rz53677 hT hfr hl
    refine lv_aload_n hx hb dX5_advance_61 rfl (lv_at hl 0 rfl) ?_
    refine lv_iload_n hx hb dX5_advance_62 rfl (lv_at hl 2 rfl) ?_
    refine lv_iload_n hx hb dX5_advance_63 rfl (lv_at hl 3 rfl) ?_
    refine t_cSv (n := 3) (As := [.ref p0, .int z53676, .int z53677]) (rest := []) X hT (kt150_X5_swap l G tag L F hT.2.2.2 p0 z53676 z53677 m0 g0 (by omega) (by omega)) qw_1250 qw_1251 qw_1242 qw_1252 ⟨by decide +kernel, by decide +kernel, by decide +kernel⟩ ⟨Nat.le_of_ble_eq_true rfl, Nat.le_of_ble_eq_true rfl⟩ hl rfl rfl (Nat.le_of_ble_eq_true rfl) dX5_advance_64 ⟨Nat.le_of_ble_eq_true rfl, Nat.le_of_ble_eq_true rfl⟩ (fun F H locs hT hz53678 => ?_)
    have yz53678 := hz53678
    have hfr : ∀ b j : Nat, fld F b j = fld Fo b j := fun b j  => (yz53678 b j ).trans (hfr b j )
    refine lv_iload_n hx hb dX5_advance_67 rfl (lv_at hl 2 rfl) ?_
    refine lv_iconst (v := 1) hx hb dX5_advance_68 (by decide) ?_
    refine lv_iadd hx hb dX5_advance_69 ?_
    refine lv_topi (fun z53679 ez53679 => ?_)
    have hz53679 : z53679.toInt = z53676.toInt + 1 := ar_add ez53679 (rfl : z53676.toInt = z53676.toInt) (by decide : (1 : Int32).toInt = 1) (by omega) (by omega)
    have rz53679 : 1 ≤ z53679.toInt ∧ z53679.toInt ≤ 5 := by omega
    refine lv_istore (lv' := [(4, .int z53679), (0, .ref p0), (1, .int p1), (2, .int z53676), (3, .int z53677)]) hx hb dX5_advance_70 hl (by decide) rfl (fun ls hl => ?_)
    refine lv_iload_n hx hb dX5_advance_72 rfl (lv_at hl 2 rfl) ?_
    refine lv_iconst (v := 1) hx hb dX5_advance_73 (by decide) ?_
    refine lv_isub hx hb dX5_advance_74 ?_
    refine lv_topi (fun z53680 ez53680 => ?_)
    have hz53680 : z53680.toInt = p1.toInt - 1 := ar_sub ez53680 (rfl : p1.toInt = p1.toInt) (by decide : (1 : Int32).toInt = 1) (by omega) (by omega)
    have rz53680 : 1 ≤ z53680.toInt ∧ z53680.toInt ≤ 5 := by omega
    refine lv_istore (lv' := [(5, .int z53680), (4, .int z53679), (0, .ref p0), (1, .int p1), (2, .int z53676), (3, .int z53677)]) hx hb dX5_advance_75 hl (by decide) rfl (fun ls hl => ?_)
    exact K77 5 z53676 z53677 z53679 z53680 _ _ _ _ (by omega) (by omega) (by omega) (by omega) (by omega) hT hfr  (lv_sub hl [2, 3, 4, 5, 1, 0] rfl)
  have K41 : ∀ (n : Nat) (z53681 : Int32) (z53682 : Int32) (F : Nat → va_E) (H : Heap) (locs : List Loc) (ls : Array Slot), (z53682.toInt - 0 < (n : Int)) → (0 ≤ z53681.toInt ∧ z53681.toInt ≤ 4) → (0 ≤ z53682.toInt ∧ z53682.toInt ≤ 5) → TH G ttC A s tag L F H locs → (∀ b j : Nat, fld F b j = fld Fo b j) → lv_has ls 6 [(0, .ref p0), (1, .int p1), (2, .int z53681), (3, .int z53682)] → W p l e { frames := 1, cells := 0, slots := 0, locals := 23 } s m args below meth c H locs 0 0 Q (F0 m 41 ls []) := by
    intro n
    induction n with
    | zero =>
      intro z53681 z53682 F H locs ls hn rz53681 rz53682 hT hfr hl
      exfalso
      omega
    | succ n ih41 =>
      intro z53681 z53682 F H locs ls hn rz53681 rz53682 hT hfr hl
      refine lv_iload_n hx hb dX5_advance_41 rfl (lv_at hl 3 rfl) ?_
      refine lv_iload_n hx hb dX5_advance_42 rfl (lv_at hl 2 rfl) ?_
      refine lv_icmp_le (tgt := 61) hx hb dX5_advance_43 (by decide) (fun c53683 => ?_) (fun c53683 => ?_)
      · have w53684 := cv_le (rfl : z53682.toInt = z53682.toInt) (rfl : z53681.toInt = z53681.toInt) c53683
        exact K61 z53681 z53682 _ _ _ _ (by omega) (by omega) hT hfr  (lv_sub hl [0, 1, 2, 3] rfl)
      · have w53685 := cv_nle (rfl : z53682.toInt = z53682.toInt) (rfl : z53681.toInt = z53681.toInt) c53683
        refine lv_aload_n hx hb dX5_advance_46 rfl (lv_at hl 0 rfl) ?_
        refine lv_iload_n hx hb dX5_advance_47 rfl (lv_at hl 3 rfl) ?_
        refine t_ild X hT m0 g0 rfl (by omega) dX5_advance_48 (fun z53686 vz53686 rz53686 => ?_)
        have rz53686 : 0 ≤ z53686.toInt ∧ z53686.toInt ≤ 5 := rz53686
        refine lv_aload_n hx hb dX5_advance_49 rfl (lv_at hl 0 rfl) ?_
        refine lv_iload_n hx hb dX5_advance_50 rfl (lv_at hl 2 rfl) ?_
        refine t_ild X hT m0 g0 rfl (by omega) dX5_advance_51 (fun z53687 vz53687 rz53687 => ?_)
        have rz53687 : 0 ≤ z53687.toInt ∧ z53687.toInt ≤ 5 := rz53687
        refine lv_icmp_ge (tgt := 61) hx hb dX5_advance_52 (by decide) (fun c53688 => ?_) (fun c53688 => ?_)
        · have w53689 := cv_le (rfl : z53687.toInt = z53687.toInt) (rfl : z53686.toInt = z53686.toInt) c53688
          exact K61 z53681 z53682 _ _ _ _ (by omega) (by omega) hT hfr  (lv_sub hl [0, 1, 2, 3] rfl)
        · have w53690 := cv_nle (rfl : z53687.toInt = z53687.toInt) (rfl : z53686.toInt = z53686.toInt) c53688
          obtain ⟨z53691, ez53691⟩ : ∃ y : Int32, y = z53682 + (-1) := ⟨_, rfl⟩
          have hz53691 : z53691.toInt = z53682.toInt + (-1) := ar_add ez53691 rfl (by decide : ((-1) : Int32).toInt = (-1)) (by omega) (by omega)
          refine lv_iinc (v := z53691) (lv' := [(3, .int z53691), (0, .ref p0), (1, .int p1), (2, .int z53681)]) hx hb dX5_advance_55 hl (k := 3) rfl (by rw [ez53691]; rfl) (by decide) rfl (fun ls hl => ?_)
          refine lv_goto (tgt := 41) hx hb dX5_advance_58 (by decide) ?_
          exact ih41 z53681 z53691 _ _ _ _ (by omega) (by omega) (by omega) hT hfr  (lv_sub hl [1, 2, 3, 0] rfl)
  have K32 : ∀ (z53692 : Int32) (F : Nat → va_E) (H : Heap) (locs : List Loc) (ls : Array Slot), ((-1) ≤ z53692.toInt ∧ z53692.toInt ≤ 4) → TH G ttC A s tag L F H locs → (∀ b j : Nat, fld F b j = fld Fo b j) → lv_has ls 6 [(0, .ref p0), (1, .int p1), (2, .int z53692)] → W p l e { frames := 1, cells := 0, slots := 0, locals := 23 } s m args below meth c H locs 0 0 Q (F0 m 32 ls []) := by
    intro z53692 F H locs ls rz53692 hT hfr hl
    refine lv_iload_n hx hb dX5_advance_32 rfl (lv_at hl 2 rfl) ?_
    refine lv_if_ge (tgt := 37) hx hb dX5_advance_33 (by decide) (fun c53693 => ?_) (fun c53693 => ?_)
    · have w53694 := cv_le (by decide : (0 : Int32).toInt = 0) (rfl : z53692.toInt = z53692.toInt) c53693
      refine lv_iload_n hx hb dX5_advance_37 rfl (lv_at hl 1 rfl) ?_
      refine lv_iconst (v := 1) hx hb dX5_advance_38 (by decide) ?_
      refine lv_isub hx hb dX5_advance_39 ?_
      refine lv_topi (fun z53695 ez53695 => ?_)
      have hz53695 : z53695.toInt = p1.toInt - 1 := ar_sub ez53695 (rfl : p1.toInt = p1.toInt) (by decide : (1 : Int32).toInt = 1) (by omega) (by omega)
      have rz53695 : 1 ≤ z53695.toInt ∧ z53695.toInt ≤ 5 := by omega
      refine lv_istore_n (lv' := [(3, .int z53695), (0, .ref p0), (1, .int p1), (2, .int z53692)]) hx hb dX5_advance_40 rfl hl (by decide) rfl (fun ls hl => ?_)
      exact K41 6 z53692 z53695 _ _ _ _ (by omega) (by omega) (by omega) hT hfr  (lv_sub hl [1, 2, 3, 0] rfl)
    · have w53696 := cv_nle (by decide : (0 : Int32).toInt = 0) (rfl : z53692.toInt = z53692.toInt) c53693
      exact t_vret hQ X hT hfr (Nat.le_of_ble_eq_true rfl) (Nat.le_of_ble_eq_true rfl) dX5_advance_36
  have K11 : ∀ (n : Nat) (z53697 : Int32) (F : Nat → va_E) (H : Heap) (locs : List Loc) (ls : Array Slot), (z53697.toInt - (-1) < (n : Int)) → ((-1) ≤ z53697.toInt ∧ z53697.toInt ≤ 4) → TH G ttC A s tag L F H locs → (∀ b j : Nat, fld F b j = fld Fo b j) → lv_has ls 6 [(0, .ref p0), (1, .int p1), (2, .int z53697)] → W p l e { frames := 1, cells := 0, slots := 0, locals := 23 } s m args below meth c H locs 0 0 Q (F0 m 11 ls []) := by
    intro n
    induction n with
    | zero =>
      intro z53697 F H locs ls hn rz53697 hT hfr hl
      exfalso
      omega
    | succ n ih11 =>
      intro z53697 F H locs ls hn rz53697 hT hfr hl
      refine lv_iload_n hx hb dX5_advance_11 rfl (lv_at hl 2 rfl) ?_
      refine lv_if_lt (tgt := 32) hx hb dX5_advance_12 (by decide) (fun c53698 => ?_) (fun c53698 => ?_)
      · have w53699 := cv_lt (rfl : z53697.toInt = z53697.toInt) (by decide : (0 : Int32).toInt = 0) c53698
        exact K32 z53697 _ _ _ _ (by omega) hT hfr  (lv_sub hl [0, 1, 2] rfl)
      · have w53700 := cv_nlt (rfl : z53697.toInt = z53697.toInt) (by decide : (0 : Int32).toInt = 0) c53698
        refine lv_aload_n hx hb dX5_advance_15 rfl (lv_at hl 0 rfl) ?_
        refine lv_iload_n hx hb dX5_advance_16 rfl (lv_at hl 2 rfl) ?_
        refine t_ild X hT m0 g0 rfl (by omega) dX5_advance_17 (fun z53701 vz53701 rz53701 => ?_)
        have rz53701 : 0 ≤ z53701.toInt ∧ z53701.toInt ≤ 5 := rz53701
        refine lv_aload_n hx hb dX5_advance_18 rfl (lv_at hl 0 rfl) ?_
        refine lv_iload_n hx hb dX5_advance_19 rfl (lv_at hl 2 rfl) ?_
        refine lv_iconst (v := 1) hx hb dX5_advance_20 (by decide) ?_
        refine lv_iadd hx hb dX5_advance_21 ?_
        refine lv_topi (fun z53702 ez53702 => ?_)
        have hz53702 : z53702.toInt = z53697.toInt + 1 := ar_add ez53702 (rfl : z53697.toInt = z53697.toInt) (by decide : (1 : Int32).toInt = 1) (by omega) (by omega)
        have rz53702 : 1 ≤ z53702.toInt ∧ z53702.toInt ≤ 5 := by omega
        refine t_ild X hT m0 g0 rfl (by omega) dX5_advance_22 (fun z53703 vz53703 rz53703 => ?_)
        have rz53703 : 0 ≤ z53703.toInt ∧ z53703.toInt ≤ 5 := rz53703
        refine lv_icmp_le (tgt := 32) hx hb dX5_advance_23 (by decide) (fun c53704 => ?_) (fun c53704 => ?_)
        · have w53705 := cv_le (rfl : z53701.toInt = z53701.toInt) (rfl : z53703.toInt = z53703.toInt) c53704
          exact K32 z53697 _ _ _ _ (by omega) hT hfr  (lv_sub hl [0, 1, 2] rfl)
        · have w53706 := cv_nle (rfl : z53701.toInt = z53701.toInt) (rfl : z53703.toInt = z53703.toInt) c53704
          obtain ⟨z53707, ez53707⟩ : ∃ y : Int32, y = z53697 + (-1) := ⟨_, rfl⟩
          have hz53707 : z53707.toInt = z53697.toInt + (-1) := ar_add ez53707 rfl (by decide : ((-1) : Int32).toInt = (-1)) (by omega) (by omega)
          refine lv_iinc (v := z53707) (lv' := [(2, .int z53707), (0, .ref p0), (1, .int p1)]) hx hb dX5_advance_26 hl (k := 2) rfl (by rw [ez53707]; rfl) (by decide) rfl (fun ls hl => ?_)
          refine lv_goto (tgt := 11) hx hb dX5_advance_29 (by decide) ?_
          exact ih11 z53707 _ _ _ _ (by omega) (by omega) hT hfr  (lv_sub hl [1, 2, 0] rfl)
  refine lv_iload_n hx hb dX5_advance_0 rfl (lv_at hl 1 rfl) ?_
  refine lv_aload_n hx hb dX5_advance_1 rfl (lv_at hl 0 rfl) ?_
  refine t_alen X hT m0 g0 rfl (by decide) dX5_advance_2 ?_
  refine lv_topi (fun z53708 ez53708 => ?_)
  obtain rfl : z53708 = 6 := ez53708.trans (by rfl)
  refine lv_icmp_le (tgt := 7) hx hb dX5_advance_3 (by decide) (fun c53709 => ?_) (fun c53709 => ?_)
  · have w53710 := cv_le (rfl : p1.toInt = p1.toInt) (by decide : (6 : Int32).toInt = 6) c53709
    refine lv_iload_n hx hb dX5_advance_7 rfl (lv_at hl 1 rfl) ?_
    refine lv_iconst (v := 2) hx hb dX5_advance_8 (by decide) ?_
    refine lv_isub hx hb dX5_advance_9 ?_
    refine lv_topi (fun z53711 ez53711 => ?_)
    have hz53711 : z53711.toInt = p1.toInt - 2 := ar_sub ez53711 (rfl : p1.toInt = p1.toInt) (by decide : (2 : Int32).toInt = 2) (by omega) (by omega)
    have rz53711 : 0 ≤ z53711.toInt ∧ z53711.toInt ≤ 4 := by omega
    refine lv_istore_n (lv' := [(2, .int z53711), (0, .ref p0), (1, .int p1)]) hx hb dX5_advance_10 rfl hl (by decide) rfl (fun ls hl => ?_)
    exact K11 6 z53711 _ _ _ _ (by omega) (by omega) hT hfr  (lv_sub hl [1, 2, 0] rfl)
  · have w53712 := cv_nle (rfl : p1.toInt = p1.toInt) (by decide : (6 : Int32).toInt = 6) c53709
    exfalso
    omega
set_option maxHeartbeats 4000000 in
set_option maxRecDepth 100000 in
theorem kt152_X5_advance (l : Launch) (G : KG) (tag : Nat → Nat) (L : List Nat) (Fo : Nat → va_E) (ho : okT G ttC tag L Fo) (p0 : Nat) (p1 : Int32) (m0 : p0 ∈ L) (g0 : tag p0 = 11) (h1 : 0 ≤ p1.toInt ∧ p1.toInt ≤ 1) : TMv l yX5_advance cX5_advance 6 { frames := 1, cells := 0, slots := 0, locals := 23 } G ttC tag L Fo [.ref p0, .int p1] (fun F1 => ∀ b j : Nat, fld F1 b j = fld Fo b j) := by
  refine t_bodyv (y := yX5_advance) (cd := cX5_advance) (mL := 6) (rm := { frames := 1, cells := 0, slots := 0, locals := 23 }) (av := [.ref p0, .int p1]) (by decide) (Nat.le_of_ble_eq_true rfl) ho ?_
  intro p e s m args below meth c ls A Q hQ X hT hl
  have hx := X.1.1
  have hb := X.1.2.1
  have hl : lv_has ls 6 [(0, .ref p0), (1, .int p1)] := hl
  obtain ⟨F, hFo⟩ : ∃ F : Nat → va_E, F = Fo := ⟨_, rfl⟩
  rw [← hFo] at hT
  have hfr : ∀ b j : Nat, fld F b j = fld Fo b j := by
    rw [hFo]
    intros
    rfl
  have K32 : ∀ (z53860 : Int32) (F : Nat → va_E) (H : Heap) (locs : List Loc) (ls : Array Slot), ((-2) ≤ z53860.toInt ∧ z53860.toInt ≤ (-1)) → TH G ttC A s tag L F H locs → (∀ b j : Nat, fld F b j = fld Fo b j) → lv_has ls 6 [(0, .ref p0), (1, .int p1), (2, .int z53860)] → W p l e { frames := 1, cells := 0, slots := 0, locals := 23 } s m args below meth c H locs 0 0 Q (F0 m 32 ls []) := by
    intro z53860 F H locs ls rz53860 hT hfr hl
    refine lv_iload_n hx hb dX5_advance_32 rfl (lv_at hl 2 rfl) ?_
    refine lv_if_ge (tgt := 37) hx hb dX5_advance_33 (by decide) (fun c53861 => ?_) (fun c53861 => ?_)
    · have w53862 := cv_le (by decide : (0 : Int32).toInt = 0) (rfl : z53860.toInt = z53860.toInt) c53861
      exfalso
      omega
    · have w53863 := cv_nle (by decide : (0 : Int32).toInt = 0) (rfl : z53860.toInt = z53860.toInt) c53861
      exact t_vret hQ X hT hfr (Nat.le_of_ble_eq_true rfl) (Nat.le_of_ble_eq_true rfl) dX5_advance_36
  have K11 : ∀ (z53864 : Int32) (F : Nat → va_E) (H : Heap) (locs : List Loc) (ls : Array Slot), ((-2) ≤ z53864.toInt ∧ z53864.toInt ≤ (-1)) → TH G ttC A s tag L F H locs → (∀ b j : Nat, fld F b j = fld Fo b j) → lv_has ls 6 [(0, .ref p0), (1, .int p1), (2, .int z53864)] → W p l e { frames := 1, cells := 0, slots := 0, locals := 23 } s m args below meth c H locs 0 0 Q (F0 m 11 ls []) := by
    intro z53864 F H locs ls rz53864 hT hfr hl
    refine lv_iload_n hx hb dX5_advance_11 rfl (lv_at hl 2 rfl) ?_
    refine lv_if_lt (tgt := 32) hx hb dX5_advance_12 (by decide) (fun c53865 => ?_) (fun c53865 => ?_)
    · have w53866 := cv_lt (rfl : z53864.toInt = z53864.toInt) (by decide : (0 : Int32).toInt = 0) c53865
      exact K32 z53864 _ _ _ _ (by omega) hT hfr  (lv_sub hl [0, 1, 2] rfl)
    · have w53867 := cv_nlt (rfl : z53864.toInt = z53864.toInt) (by decide : (0 : Int32).toInt = 0) c53865
      exfalso
      omega
  refine lv_iload_n hx hb dX5_advance_0 rfl (lv_at hl 1 rfl) ?_
  refine lv_aload_n hx hb dX5_advance_1 rfl (lv_at hl 0 rfl) ?_
  refine t_alen X hT m0 g0 rfl (by decide) dX5_advance_2 ?_
  refine lv_topi (fun z53868 ez53868 => ?_)
  obtain rfl : z53868 = 6 := ez53868.trans (by rfl)
  refine lv_icmp_le (tgt := 7) hx hb dX5_advance_3 (by decide) (fun c53869 => ?_) (fun c53869 => ?_)
  · have w53870 := cv_le (rfl : p1.toInt = p1.toInt) (by decide : (6 : Int32).toInt = 6) c53869
    refine lv_iload_n hx hb dX5_advance_7 rfl (lv_at hl 1 rfl) ?_
    refine lv_iconst (v := 2) hx hb dX5_advance_8 (by decide) ?_
    refine lv_isub hx hb dX5_advance_9 ?_
    refine lv_topi (fun z53871 ez53871 => ?_)
    have hz53871 : z53871.toInt = p1.toInt - 2 := ar_sub ez53871 (rfl : p1.toInt = p1.toInt) (by decide : (2 : Int32).toInt = 2) (by omega) (by omega)
    have rz53871 : (-2) ≤ z53871.toInt ∧ z53871.toInt ≤ (-1) := by omega
    refine lv_istore_n (lv' := [(2, .int z53871), (0, .ref p0), (1, .int p1)]) hx hb dX5_advance_10 rfl hl (by decide) rfl (fun ls hl => ?_)
    exact K11 z53871 _ _ _ _ (by omega) hT hfr  (lv_sub hl [1, 2, 0] rfl)
  · have w53872 := cv_nle (rfl : p1.toInt = p1.toInt) (by decide : (6 : Int32).toInt = 6) c53869
    exfalso
    omega
theorem kt153_X5_advance (l : Launch) (G : KG) (tag : Nat → Nat) (L : List Nat) (Fo : Nat → va_E) (ho : okT G ttC tag L Fo) (p0 : Nat) (p1 : Int32) (m0 : p0 ∈ L) (g0 : tag p0 = 11) (h1 : 0 ≤ p1.toInt ∧ p1.toInt ≤ 6) : TMv l yX5_advance cX5_advance 6 { frames := 1, cells := 0, slots := 0, locals := 23 } G ttC tag L Fo [.ref p0, .int p1] (fun F1 => ∀ b j : Nat, fld F1 b j = fld Fo b j) := by
  by_cases h9 : p1.toInt < 2
  · exact kt152_X5_advance l G tag L Fo ho p0 p1 m0 g0 (by omega)
  · exact kt151_X5_advance l G tag L Fo ho p0 p1 m0 g0 (by omega)
set_option maxHeartbeats 4000000 in
set_option maxRecDepth 100000 in
theorem kt154_X9_lookAtAll (l : Launch) (G : KG) (tag : Nat → Nat) (L : List Nat) (Fo : Nat → va_E) (ho : okT G ttC tag L Fo) (p0 : Nat) (p1 : Nat) (p2 : Int32) (m0 : p0 ∈ L) (g0 : tag p0 = 22) (m1 : p1 ∈ L) (g1 : tag p1 = 18) : TMv l yX9_lookAtAll cX9_lookAtAll 4 { frames := 3, cells := 0, slots := 0, locals := 63 } G ttC tag L Fo [.ref p0, .ref p1, .int p2] (fun F1 => ∀ b j : Nat, (tag b ≠ 22 ∨ j ≠ 2) → fld F1 b j = fld Fo b j) := by
  refine t_bodyv (y := yX9_lookAtAll) (cd := cX9_lookAtAll) (mL := 4) (rm := { frames := 3, cells := 0, slots := 0, locals := 63 }) (av := [.ref p0, .ref p1, .int p2]) (by decide) (Nat.le_of_ble_eq_true rfl) ho ?_
  intro p e s m args below meth c ls A Q hQ X hT hl
  have hx := X.1.1
  have hb := X.1.2.1
  have hl : lv_has ls 4 [(0, .ref p0), (1, .ref p1), (2, .int p2)] := hl
  have rp2 := rg_all p2
  obtain ⟨F, hFo⟩ : ∃ F : Nat → va_E, F = Fo := ⟨_, rfl⟩
  rw [← hFo] at hT
  have hfr : ∀ b j : Nat, (tag b ≠ 22 ∨ j ≠ 2) → fld F b j = fld Fo b j := by
    rw [hFo]
    intros
    rfl
  have K55 : ∀ (n : Nat) (z55481 : Int32) (z55482 : Int32) (z55483 : Int32) (F : Nat → va_E) (H : Heap) (locs : List Loc) (ls : Array Slot), (720 - z55481.toInt < (n : Int)) → (0 ≤ z55481.toInt ∧ z55481.toInt ≤ 720) → (0 ≤ z55483.toInt ∧ z55483.toInt ≤ 6) → TH G ttC A s tag L F H locs → (∀ b j : Nat, (tag b ≠ 22 ∨ j ≠ 2) → fld F b j = fld Fo b j) → fld F p0 2 = .int z55482 → fld F p1 16 = .int z55483 → lv_has ls 4 [(0, .ref p0), (1, .ref p1), (2, .int p2), (3, .int z55481)] → W p l e { frames := 3, cells := 0, slots := 0, locals := 63 } s m args below meth c H locs 0 0 Q (F0 m 55 ls []) := by
    intro n
    induction n with
    | zero =>
      intro z55481 z55482 z55483 F H locs ls hn rz55481 rz55483 hT hfr qz55482 qz55483 hl
      have rz55482 := rg_all z55482
      exfalso
      omega
    | succ n ih55 =>
      intro z55481 z55482 z55483 F H locs ls hn rz55481 rz55483 hT hfr qz55482 qz55483 hl
      have rz55482 := rg_all z55482
      have K92 : ∀ (z55485 : Int32) (z55486 : Int32) (F : Nat → va_E) (H : Heap) (locs : List Loc) (ls : Array Slot), (0 ≤ z55486.toInt ∧ z55486.toInt ≤ 6) → (0 ≤ z55481.toInt ∧ z55481.toInt ≤ 719) → TH G ttC A s tag L F H locs → (∀ b j : Nat, (tag b ≠ 22 ∨ j ≠ 2) → fld F b j = fld Fo b j) → fld F p0 2 = .int z55485 → fld F p1 16 = .int z55486 → lv_has ls 4 [(0, .ref p0), (1, .ref p1), (2, .int p2), (3, .int z55481)] → W p l e { frames := 3, cells := 0, slots := 0, locals := 63 } s m args below meth c H locs 0 0 Q (F0 m 92 ls []) := by
        intro z55485 z55486 F H locs ls rz55486 r9s55484 hT hfr qz55485 qz55486 hl
        have rz55485 := rg_all z55485
        refine lv_aload_n hx hb dX9_lookAtAll_92 rfl (lv_at hl 0 rfl) ?_
        refine t_get (C := RX9) (T := TX9) (N := 6) X hT m0 g0 rfl rfl 0 (by decide) qw_93 inlX9 rfl dX9_lookAtAll_93 (fun v55487 hv55487 ov55487 => ?_)
        obtain ⟨b55488, rfl, mb55488, gb55488⟩ := okV_r ov55487
        have gb55488 : tag b55488 = 11 := tg_of gb55488
        refine lv_aload_n hx hb dX9_lookAtAll_96 rfl (lv_at hl 1 rfl) ?_
        refine t_get (C := RX1) (T := TX1) (N := 20) X hT m1 g1 rfl rfl 16 (by decide) qw_1338 inlX1 rfl dX9_lookAtAll_97 (fun v55489 hv55489 ov55489 => ?_)
        obtain rfl : v55489 = .int z55486 := hv55489.symm.trans qz55486
        refine t_cSv (n := 2) (As := [.ref b55488, .int z55486]) (rest := []) X hT (kt153_X5_advance l G tag L F hT.2.2.2 b55488 z55486 mb55488 gb55488 (by omega)) qw_1356 qw_1248 qw_1242 qw_1249 ⟨by decide +kernel, by decide +kernel, by decide +kernel⟩ ⟨Nat.le_of_ble_eq_true rfl, Nat.le_of_ble_eq_true rfl⟩ hl rfl rfl (Nat.le_of_ble_eq_true rfl) dX9_lookAtAll_100 ⟨Nat.le_of_ble_eq_true rfl, Nat.le_of_ble_eq_true rfl⟩ (fun F H locs hT hz55490 => ?_)
        have yz55490 := hz55490
        have qz55485 := (yz55490 _ 2 ).trans qz55485
        have qz55486 := (yz55490 _ 16 ).trans qz55486
        have hv55487 := (yz55490 _ 0 ).trans hv55487
        have hfr : ∀ b j : Nat, (tag b ≠ 22 ∨ j ≠ 2) → fld F b j = fld Fo b j := fun b j n22_2 => (yz55490 b j ).trans (hfr b j n22_2)
        obtain ⟨z55491, ez55491⟩ : ∃ y : Int32, y = z55481 + 1 := ⟨_, rfl⟩
        have hz55491 : z55491.toInt = z55481.toInt + 1 := ar_add ez55491 rfl (by decide : (1 : Int32).toInt = 1) (by omega) (by omega)
        refine lv_iinc (v := z55491) (lv' := [(3, .int z55491), (0, .ref p0), (1, .ref p1), (2, .int p2)]) hx hb dX9_lookAtAll_103 hl (k := 3) rfl (by rw [ez55491]; rfl) (by decide) rfl (fun ls hl => ?_)
        refine lv_goto (tgt := 55) hx hb dX9_lookAtAll_106 (by decide) ?_
        exact ih55 z55491 z55485 z55486 _ _ _ _ (by omega) (by omega) (by omega) hT hfr qz55485 qz55486 (lv_sub hl [1, 2, 3, 0] rfl)
      refine lv_iload_n hx hb dX9_lookAtAll_55 rfl (lv_at hl 3 rfl) ?_
      refine t_getsN X hT X.2.2.2.1.2.2.2.1 (List.mem_of_getElem? (i := 3) rfl) dX9_lookAtAll_56 ?_
      refine lv_aload_n hx hb dX9_lookAtAll_59 rfl (lv_at hl 1 rfl) ?_
      refine t_get (C := RX1) (T := TX1) (N := 20) X hT m1 g1 rfl rfl 16 (by decide) qw_1338 inlX1 rfl dX9_lookAtAll_60 (fun v55492 hv55492 ov55492 => ?_)
      obtain rfl : v55492 = .int z55483 := hv55492.symm.trans qz55483
      refine t_tild X hT X.2.2.2.1.2.2.2.1 (by omega) dX9_lookAtAll_63 (fun z55493 ez55493 => ?_)
      have rz55493 : 1 ≤ z55493.toInt ∧ z55493.toInt ≤ 720 := by rw [ez55493]; exact gRows_r _
      refine lv_icmp_ge (tgt := 109) hx hb dX9_lookAtAll_64 (by decide) (fun c55494 => ?_) (fun c55494 => ?_)
      · have w55495 := cv_le (rfl : z55493.toInt = z55493.toInt) (rfl : z55481.toInt = z55481.toInt) c55494
        exact t_vret hQ X hT hfr (Nat.le_of_ble_eq_true rfl) (Nat.le_of_ble_eq_true rfl) dX9_lookAtAll_109
      · have w55496 := cv_nle (rfl : z55493.toInt = z55493.toInt) (rfl : z55481.toInt = z55481.toInt) c55494
        refine lv_aload_n hx hb dX9_lookAtAll_67 rfl (lv_at hl 0 rfl) ?_
        refine lv_aload_n hx hb dX9_lookAtAll_68 rfl (lv_at hl 1 rfl) ?_
        refine lv_iload_n hx hb dX9_lookAtAll_69 rfl (lv_at hl 2 rfl) ?_
        refine t_cVi (n := 2) (C := RX9) (T := TX9) (N := 6) (As := [.ref p1, .int p2]) (rest := []) X hT (kt148_X9_canBe l G tag L F hT.2.2.2 p0 p1 p2 m0 g0 m1 g1) m0 g0 rfl rfl qw_1340 qw_1341 qw_1342 qw_40 qw_1343 ⟨rfl, by decide +kernel, by decide +kernel, by decide +kernel⟩ ⟨Nat.le_of_ble_eq_true rfl, Nat.le_of_ble_eq_true rfl⟩ hl rfl rfl (Nat.le_of_ble_eq_true rfl) dX9_lookAtAll_70 ⟨Nat.le_of_ble_eq_true rfl, Nat.le_of_ble_eq_true rfl⟩ (fun z55497 F H locs hT hz55497 => ?_)
        obtain ⟨hz55497, yz55497⟩ := hz55497
        have qz55482 := (yz55497 _ 2 ).trans qz55482
        have qz55483 := (yz55497 _ 16 ).trans qz55483
        have hfr : ∀ b j : Nat, (tag b ≠ 22 ∨ j ≠ 2) → fld F b j = fld Fo b j := fun b j n22_2 => (yz55497 b j ).trans (hfr b j n22_2)
        refine lv_if_eq (tgt := 92) hx hb dX9_lookAtAll_73 (by decide) (fun c55498 => ?_) (fun c55498 => ?_)
        · have w55499 := cv_eq (rfl : z55497.toInt = z55497.toInt) (by decide : (0 : Int32).toInt = 0) c55498
          exact K92 z55482 z55483 _ _ _ _ (by omega) (by omega) hT hfr qz55482 qz55483 (lv_sub hl [0, 1, 2, 3] rfl)
        · have w55500 := cv_ne (rfl : z55497.toInt = z55497.toInt) (by decide : (0 : Int32).toInt = 0) c55498
          refine lv_aload_n hx hb dX9_lookAtAll_76 rfl (lv_at hl 0 rfl) ?_
          refine lv_dup hx hb dX9_lookAtAll_77 rfl ?_
          refine t_get (C := RX9) (T := TX9) (N := 6) X hT m0 g0 rfl rfl 2 (by decide) qw_1337 inlX9 rfl dX9_lookAtAll_78 (fun v55501 hv55501 ov55501 => ?_)
          obtain rfl : v55501 = .int z55482 := hv55501.symm.trans qz55482
          refine lv_iconst (v := 1) hx hb dX9_lookAtAll_81 (by decide) ?_
          refine lv_iadd hx hb dX9_lookAtAll_82 ?_
          refine lv_topi (fun z55502 ez55502 => ?_)
          have rz55502 := rg_all z55502
          refine t_put (C := RX9) (T := TX9) (N := 6) (v := .int z55502) X hT m0 g0 rfl tyX9 tyX9_ok nmX9 rfl 2 (by decide) qw_1337 inlX9 rfl (by first | rfl | decide) (by first | rfl | decide) rfl (⟨_, rfl, (by omega), (by omega)⟩) dX9_lookAtAll_83 (fun F H locs hT v55503 h1v55503 h2v55503 => ?_)
          have qz55483 := (h1v55503 _ _ (Or.inr (by decide))).trans qz55483
          have hfr : ∀ b j : Nat, (tag b ≠ 22 ∨ j ≠ 2) → fld F b j = fld Fo b j := fun b j n22_2 => (h1v55503 b j (fr_ne g0 n22_2)).trans (hfr b j n22_2)
          refine lv_aload_n hx hb dX9_lookAtAll_86 rfl (lv_at hl 0 rfl) ?_
          refine lv_aload_n hx hb dX9_lookAtAll_87 rfl (lv_at hl 1 rfl) ?_
          refine lv_iload_n hx hb dX9_lookAtAll_88 rfl (lv_at hl 2 rfl) ?_
          refine t_cVv (n := 2) (C := RX9) (T := TX9) (N := 6) (As := [.ref p1, .int p2]) (rest := []) X hT (kt149_X9_noteRow l G tag L F hT.2.2.2 p0 p1 p2 m0 g0 m1 g1) m0 g0 rfl rfl qw_1352 qw_1353 qw_1354 qw_40 qw_1355 ⟨rfl, by decide +kernel, by decide +kernel, by decide +kernel⟩ ⟨Nat.le_of_ble_eq_true rfl, Nat.le_of_ble_eq_true rfl⟩ hl rfl rfl (Nat.le_of_ble_eq_true rfl) dX9_lookAtAll_89 ⟨Nat.le_of_ble_eq_true rfl, Nat.le_of_ble_eq_true rfl⟩ (fun F H locs hT hz55504 => ?_)
          have yz55504 := hz55504
          have qz55483 := (yz55504 _ 16 ).trans qz55483
          have v55503 := (yz55504 _ 2 ).trans v55503
          have hfr : ∀ b j : Nat, (tag b ≠ 22 ∨ j ≠ 2) → fld F b j = fld Fo b j := fun b j n22_2 => (yz55504 b j ).trans (hfr b j n22_2)
          exact K92 z55502 z55483 _ _ _ _ (by omega) (by omega) hT hfr v55503 qz55483 (lv_sub hl [0, 1, 2, 3] rfl)
  have K7 : ∀ (n : Nat) (z55505 : Int32) (z55506 : Int32) (F : Nat → va_E) (H : Heap) (locs : List Loc) (ls : Array Slot), (6 - z55505.toInt < (n : Int)) → (0 ≤ z55505.toInt ∧ z55505.toInt ≤ 6) → (0 ≤ z55506.toInt ∧ z55506.toInt ≤ 0) → TH G ttC A s tag L F H locs → (∀ b j : Nat, (tag b ≠ 22 ∨ j ≠ 2) → fld F b j = fld Fo b j) → fld F p0 2 = .int z55506 → lv_has ls 4 [(0, .ref p0), (1, .ref p1), (2, .int p2), (3, .int z55505)] → W p l e { frames := 3, cells := 0, slots := 0, locals := 63 } s m args below meth c H locs 0 0 Q (F0 m 7 ls []) := by
    intro n
    induction n with
    | zero =>
      intro z55505 z55506 F H locs ls hn rz55505 rz55506 hT hfr qz55506 hl
      exfalso
      omega
    | succ n ih7 =>
      intro z55505 z55506 F H locs ls hn rz55505 rz55506 hT hfr qz55506 hl
      refine lv_iload_n hx hb dX9_lookAtAll_7 rfl (lv_at hl 3 rfl) ?_
      refine lv_bipush (v := 6) hx hb dX9_lookAtAll_8 (by decide) ?_
      refine lv_icmp_ge (tgt := 42) hx hb dX9_lookAtAll_10 (by decide) (fun c55507 => ?_) (fun c55507 => ?_)
      · have w55508 := cv_le (by decide : (6 : Int32).toInt = 6) (rfl : z55505.toInt = z55505.toInt) c55507
        refine lv_aload_n hx hb dX9_lookAtAll_42 rfl (lv_at hl 0 rfl) ?_
        refine t_get (C := RX9) (T := TX9) (N := 6) X hT m0 g0 rfl rfl 0 (by decide) qw_93 inlX9 rfl dX9_lookAtAll_43 (fun v55509 hv55509 ov55509 => ?_)
        obtain ⟨b55510, rfl, mb55510, gb55510⟩ := okV_r ov55509
        have gb55510 : tag b55510 = 11 := tg_of gb55510
        refine lv_aload_n hx hb dX9_lookAtAll_46 rfl (lv_at hl 1 rfl) ?_
        refine t_get (C := RX1) (T := TX1) (N := 20) X hT m1 g1 rfl rfl 16 (by decide) qw_1338 inlX1 rfl dX9_lookAtAll_47 (fun v55511 hv55511 ov55511 => ?_)
        obtain ⟨z55512, rfl, rz55512⟩ := okV_i ov55511
        refine t_cSv (n := 2) (As := [.ref b55510, .int z55512]) (rest := []) X hT (kt146_X5_begin l G tag L F hT.2.2.2 b55510 z55512 mb55510 gb55510 (by omega)) qw_1339 qw_1241 qw_1242 qw_1243 ⟨by decide +kernel, by decide +kernel, by decide +kernel⟩ ⟨Nat.le_of_ble_eq_true rfl, Nat.le_of_ble_eq_true rfl⟩ hl rfl rfl (Nat.le_of_ble_eq_true rfl) dX9_lookAtAll_50 ⟨Nat.le_of_ble_eq_true rfl, Nat.le_of_ble_eq_true rfl⟩ (fun F H locs hT hz55513 => ?_)
        have yz55513 := hz55513
        have qz55506 := (yz55513 _ 2 ).trans qz55506
        have hv55509 := (yz55513 _ 0 ).trans hv55509
        have hv55511 := (yz55513 _ 16 ).trans hv55511
        have hfr : ∀ b j : Nat, (tag b ≠ 22 ∨ j ≠ 2) → fld F b j = fld Fo b j := fun b j n22_2 => (yz55513 b j ).trans (hfr b j n22_2)
        refine lv_iconst (v := 0) hx hb dX9_lookAtAll_53 (by decide) ?_
        refine lv_istore_n (lv' := [(3, .int 0), (0, .ref p0), (1, .ref p1), (2, .int p2)]) hx hb dX9_lookAtAll_54 rfl hl (by decide) rfl (fun ls hl => ?_)
        have kk55514 : (0 : Int32).toInt = 0 := by decide
        exact K55 721 0 z55506 z55512 _ _ _ _ (by omega) (by decide) (by omega) hT hfr qz55506 hv55511 (lv_sub hl [1, 2, 3, 0] rfl)
      · have w55515 := cv_nle (by decide : (6 : Int32).toInt = 6) (rfl : z55505.toInt = z55505.toInt) c55507
        refine lv_aload_n hx hb dX9_lookAtAll_13 rfl (lv_at hl 0 rfl) ?_
        refine t_get (C := RX9) (T := TX9) (N := 6) X hT m0 g0 rfl rfl 3 (by decide) qw_95 inlX9 rfl dX9_lookAtAll_14 (fun v55516 hv55516 ov55516 => ?_)
        obtain ⟨b55517, rfl, mb55517, gb55517⟩ := okV_r ov55516
        have gb55517 : tag b55517 = 7 := tg_of gb55517
        refine lv_iload_n hx hb dX9_lookAtAll_17 rfl (lv_at hl 3 rfl) ?_
        refine lv_sipush (v := 999) hx hb dX9_lookAtAll_18 (by decide) ?_
        refine t_ist X hT mb55517 gb55517 rfl (by omega) (show (-2147483648) ≤ (999 : Int32).toInt ∧ (999 : Int32).toInt ≤ 2147483647 from (by decide)) dX9_lookAtAll_21 (fun F H locs hT v55518 h1v55518 h2v55518 => ?_)
        have qz55506 := (h2v55518 _ _).trans qz55506
        have hv55516 := (h2v55518 _ _).trans hv55516
        have hfr : ∀ b j : Nat, (tag b ≠ 22 ∨ j ≠ 2) → fld F b j = fld Fo b j := fun b j n22_2 => (h2v55518 b j).trans (hfr b j n22_2)
        refine lv_aload_n hx hb dX9_lookAtAll_22 rfl (lv_at hl 0 rfl) ?_
        refine t_get (C := RX9) (T := TX9) (N := 6) X hT m0 g0 rfl rfl 4 (by decide) qw_96 inlX9 rfl dX9_lookAtAll_23 (fun v55519 hv55519 ov55519 => ?_)
        obtain ⟨b55520, rfl, mb55520, gb55520⟩ := okV_r ov55519
        have gb55520 : tag b55520 = 7 := tg_of gb55520
        refine lv_iload_n hx hb dX9_lookAtAll_26 rfl (lv_at hl 3 rfl) ?_
        refine lv_iconst (v := 0) hx hb dX9_lookAtAll_27 (by decide) ?_
        refine t_ist X hT mb55520 gb55520 rfl (by omega) (show (-2147483648) ≤ (0 : Int32).toInt ∧ (0 : Int32).toInt ≤ 2147483647 from (by decide)) dX9_lookAtAll_28 (fun F H locs hT v55521 h1v55521 h2v55521 => ?_)
        have qz55506 := (h2v55521 _ _).trans qz55506
        have hv55516 := (h2v55521 _ _).trans hv55516
        have hv55519 := (h2v55521 _ _).trans hv55519
        have hfr : ∀ b j : Nat, (tag b ≠ 22 ∨ j ≠ 2) → fld F b j = fld Fo b j := fun b j n22_2 => (h2v55521 b j).trans (hfr b j n22_2)
        refine lv_aload_n hx hb dX9_lookAtAll_29 rfl (lv_at hl 0 rfl) ?_
        refine t_get (C := RX9) (T := TX9) (N := 6) X hT m0 g0 rfl rfl 5 (by decide) qw_97 inlX9 rfl dX9_lookAtAll_30 (fun v55522 hv55522 ov55522 => ?_)
        obtain ⟨b55523, rfl, mb55523, gb55523⟩ := okV_r ov55522
        have gb55523 : tag b55523 = 7 := tg_of gb55523
        refine lv_iload_n hx hb dX9_lookAtAll_33 rfl (lv_at hl 3 rfl) ?_
        refine lv_iconst (v := (-1)) hx hb dX9_lookAtAll_34 (by decide) ?_
        refine t_ist X hT mb55523 gb55523 rfl (by omega) (show (-2147483648) ≤ ((-1) : Int32).toInt ∧ ((-1) : Int32).toInt ≤ 2147483647 from (by decide)) dX9_lookAtAll_35 (fun F H locs hT v55524 h1v55524 h2v55524 => ?_)
        have qz55506 := (h2v55524 _ _).trans qz55506
        have hv55516 := (h2v55524 _ _).trans hv55516
        have hv55519 := (h2v55524 _ _).trans hv55519
        have hv55522 := (h2v55524 _ _).trans hv55522
        have hfr : ∀ b j : Nat, (tag b ≠ 22 ∨ j ≠ 2) → fld F b j = fld Fo b j := fun b j n22_2 => (h2v55524 b j).trans (hfr b j n22_2)
        obtain ⟨z55525, ez55525⟩ : ∃ y : Int32, y = z55505 + 1 := ⟨_, rfl⟩
        have hz55525 : z55525.toInt = z55505.toInt + 1 := ar_add ez55525 rfl (by decide : (1 : Int32).toInt = 1) (by omega) (by omega)
        refine lv_iinc (v := z55525) (lv' := [(3, .int z55525), (0, .ref p0), (1, .ref p1), (2, .int p2)]) hx hb dX9_lookAtAll_36 hl (k := 3) rfl (by rw [ez55525]; rfl) (by decide) rfl (fun ls hl => ?_)
        refine lv_goto (tgt := 7) hx hb dX9_lookAtAll_39 (by decide) ?_
        exact ih7 z55525 z55506 _ _ _ _ (by omega) (by omega) (by omega) hT hfr qz55506 (lv_sub hl [1, 2, 3, 0] rfl)
  refine lv_aload_n hx hb dX9_lookAtAll_0 rfl (lv_at hl 0 rfl) ?_
  refine lv_iconst (v := 0) hx hb dX9_lookAtAll_1 (by decide) ?_
  refine t_put (C := RX9) (T := TX9) (N := 6) (v := .int 0) X hT m0 g0 rfl tyX9 tyX9_ok nmX9 rfl 2 (by decide) qw_1337 inlX9 rfl (by first | rfl | decide) (by first | rfl | decide) rfl (⟨_, rfl, (by decide), (by decide)⟩) dX9_lookAtAll_2 (fun F H locs hT v55526 h1v55526 h2v55526 => ?_)
  have hfr : ∀ b j : Nat, (tag b ≠ 22 ∨ j ≠ 2) → fld F b j = fld Fo b j := fun b j n22_2 => (h1v55526 b j (fr_ne g0 n22_2)).trans (hfr b j n22_2)
  refine lv_iconst (v := 0) hx hb dX9_lookAtAll_5 (by decide) ?_
  refine lv_istore_n (lv' := [(3, .int 0), (0, .ref p0), (1, .ref p1), (2, .int p2)]) hx hb dX9_lookAtAll_6 rfl hl (by decide) rfl (fun ls hl => ?_)
  have kk55527 : (0 : Int32).toInt = 0 := by decide
  exact K7 7 0 0 _ _ _ _ (by omega) (by decide) (by decide) hT hfr v55526 (lv_sub hl [1, 2, 3, 0] rfl)
set_option maxHeartbeats 4000000 in
set_option maxRecDepth 100000 in
theorem kt155_X11_latest (l : Launch) (G : KG) (tag : Nat → Nat) (L : List Nat) (Fo : Nat → va_E) (ho : okT G ttC tag L Fo) (p0 : Nat) (p1 : Int32) (m0 : p0 ∈ L) (g0 : tag p0 = 26) : TMi l yX11_latest cX11_latest 2 (some .int) { frames := 4, cells := 0, slots := 0, locals := 86 } G ttC tag L Fo [.ref p0, .int p1] (fun r F1 => ((-2147483648) ≤ r.toInt ∧ r.toInt ≤ 2147483647) ∧ (∀ b j : Nat, (tag b ≠ 22 ∨ j ≠ 2) → (tag b ≠ 26 ∨ j ≠ 13) → fld F1 b j = fld Fo b j)) := by
  refine t_bodyi (y := yX11_latest) (cd := cX11_latest) (mL := 2) (rt := (some .int)) (rm := { frames := 4, cells := 0, slots := 0, locals := 86 }) (av := [.ref p0, .int p1]) (by decide) (Nat.le_of_ble_eq_true rfl) ho ?_
  intro p e s m args below meth c ls A Q hQ X hT hl
  have hx := X.1.1
  have hb := X.1.2.1
  have hl : lv_has ls 2 [(0, .ref p0), (1, .int p1)] := hl
  have rp1 := rg_all p1
  obtain ⟨F, hFo⟩ : ∃ F : Nat → va_E, F = Fo := ⟨_, rfl⟩
  rw [← hFo] at hT
  have hfr : ∀ b j : Nat, (tag b ≠ 22 ∨ j ≠ 2) → (tag b ≠ 26 ∨ j ≠ 13) → fld F b j = fld Fo b j := by
    rw [hFo]
    intros
    rfl
  have K57 : ∀ (z55825 : Int32) (b55826 : Nat) (F : Nat → va_E) (H : Heap) (locs : List Loc) (ls : Array Slot), (b55826 ∈ L) → (tag b55826 = 26) → (0 ≤ p1.toInt ∧ p1.toInt ≤ 5) → TH G ttC A s tag L F H locs → (∀ b j : Nat, (tag b ≠ 22 ∨ j ≠ 2) → (tag b ≠ 26 ∨ j ≠ 13) → fld F b j = fld Fo b j) → lv_has ls 2 [(0, .ref p0), (1, .int p1)] → W p l e { frames := 4, cells := 0, slots := 0, locals := 86 } s m args below meth c H locs 0 0 Q (F0 m 57 ls [.int z55825, .ref b55826]) := by
    intro z55825 b55826 F H locs ls mb55826 gb55826 r9s55824 hT hfr hl
    have rz55825 := rg_all z55825
    refine t_cVi (n := 1) (C := RX11) (T := TX11) (N := 16) (As := [.int z55825]) (rest := []) X hT (kt96_X11_answer l G tag L F hT.2.2.2 b55826 z55825 mb55826 gb55826) mb55826 gb55826 rfl rfl qw_463 qw_464 qw_465 qw_2 qw_466 ⟨rfl, by decide +kernel, by decide +kernel, by decide +kernel⟩ ⟨Nat.le_of_ble_eq_true rfl, Nat.le_of_ble_eq_true rfl⟩ hl rfl rfl (Nat.le_of_ble_eq_true rfl) dX11_latest_57 ⟨Nat.le_of_ble_eq_true rfl, Nat.le_of_ble_eq_true rfl⟩ (fun z55827 F H locs hT hz55827 => ?_)
    obtain ⟨hz55827, yz55827⟩ := hz55827
    have hfr : ∀ b j : Nat, (tag b ≠ 22 ∨ j ≠ 2) → (tag b ≠ 26 ∨ j ≠ 13) → fld F b j = fld Fo b j := fun b j n22_2 n26_13 => (yz55827 b j n26_13).trans (hfr b j n22_2 n26_13)
    exact t_iret hQ X hT (⟨rg_all _, hfr⟩) (Nat.le_of_ble_eq_true rfl) (Nat.le_of_ble_eq_true rfl) dX11_latest_60
  refine lv_aload_n hx hb dX11_latest_0 rfl (lv_at hl 0 rfl) ?_
  refine lv_iload_n hx hb dX11_latest_1 rfl (lv_at hl 1 rfl) ?_
  refine t_cVi (n := 1) (C := RX11) (T := TX11) (N := 16) (As := [.int p1]) (rest := []) X hT (kt145_X11_isWall l G tag L F hT.2.2.2 p0 p1 m0 g0) m0 g0 rfl rfl qw_1379 qw_1380 qw_1381 qw_2 qw_1382 ⟨rfl, by decide +kernel, by decide +kernel, by decide +kernel⟩ ⟨Nat.le_of_ble_eq_true rfl, Nat.le_of_ble_eq_true rfl⟩ hl rfl rfl (Nat.le_of_ble_eq_true rfl) dX11_latest_2 ⟨Nat.le_of_ble_eq_true rfl, Nat.le_of_ble_eq_true rfl⟩ (fun z55828 F9 H locs hT hz55828 => ?_)
  obtain ⟨fz55828, hz55828⟩ := hz55828
  rw [fz55828] at hT
  obtain ⟨hz55828, iz55828⟩ := hz55828
  refine lv_if_ne (tgt := 14) hx hb dX11_latest_5 (by decide) (fun c55829 => ?_) (fun c55829 => ?_)
  · have w55830 := cv_ne (rfl : z55828.toInt = z55828.toInt) (by decide : (0 : Int32).toInt = 0) c55829
    have w55831 := (fun h => (iz55828 h)) (by omega)
    refine lv_aload_n hx hb dX11_latest_14 rfl (lv_at hl 0 rfl) ?_
    refine t_get (C := RX11) (T := TX11) (N := 16) X hT m0 g0 rfl rfl 11 (by decide) qw_41 inlX11 rfl dX11_latest_15 (fun v55832 hv55832 ov55832 => ?_)
    obtain ⟨b55833, rfl, mb55833, gb55833⟩ := okV_r ov55832
    have gb55833 : tag b55833 = 22 := tg_of gb55833
    refine lv_aload_n hx hb dX11_latest_18 rfl (lv_at hl 0 rfl) ?_
    refine t_get (C := RX11) (T := TX11) (N := 16) X hT m0 g0 rfl rfl 3 (by decide) qw_18 inlX11 rfl dX11_latest_19 (fun v55834 hv55834 ov55834 => ?_)
    obtain ⟨b55835, rfl, mb55835, gb55835⟩ := okV_r ov55834
    have gb55835 : tag b55835 = 18 := tg_of gb55835
    refine lv_aload_n hx hb dX11_latest_22 rfl (lv_at hl 0 rfl) ?_
    refine t_get (C := RX11) (T := TX11) (N := 16) X hT m0 g0 rfl rfl 5 (by decide) qw_23 inlX11 rfl dX11_latest_23 (fun v55836 hv55836 ov55836 => ?_)
    obtain ⟨b55837, rfl, mb55837, gb55837⟩ := okV_r ov55836
    have gb55837 : tag b55837 = 19 := tg_of gb55837
    refine t_get (C := RX7) (T := TX7) (N := 7) X hT mb55837 gb55837 rfl rfl 0 (by decide) qw_1225 inlX7 rfl dX11_latest_26 (fun v55838 hv55838 ov55838 => ?_)
    obtain ⟨z55839, rfl, rz55839⟩ := okV_i ov55838
    refine t_cVv (n := 2) (C := RX9) (T := TX9) (N := 6) (As := [.ref b55835, .int z55839]) (rest := []) X hT (kt154_X9_lookAtAll l G tag L F hT.2.2.2 b55833 b55835 z55839 mb55833 gb55833 mb55835 gb55835) mb55833 gb55833 rfl rfl qw_1333 qw_1334 qw_1335 qw_40 qw_1336 ⟨rfl, by decide +kernel, by decide +kernel, by decide +kernel⟩ ⟨Nat.le_of_ble_eq_true rfl, Nat.le_of_ble_eq_true rfl⟩ hl rfl rfl (Nat.le_of_ble_eq_true rfl) dX11_latest_29 ⟨Nat.le_of_ble_eq_true rfl, Nat.le_of_ble_eq_true rfl⟩ (fun F H locs hT hz55840 => ?_)
    have yz55840 := hz55840
    have hv55832 := (yz55840 _ 11 (Or.inr (by decide))).trans hv55832
    have hv55834 := (yz55840 _ 3 (Or.inr (by decide))).trans hv55834
    have hv55836 := (yz55840 _ 5 (Or.inr (by decide))).trans hv55836
    have hv55838 := (yz55840 _ 0 (Or.inr (by decide))).trans hv55838
    have hfr : ∀ b j : Nat, (tag b ≠ 22 ∨ j ≠ 2) → (tag b ≠ 26 ∨ j ≠ 13) → fld F b j = fld Fo b j := fun b j n22_2 n26_13 => (yz55840 b j n22_2).trans (hfr b j n22_2 n26_13)
    refine lv_aload_n hx hb dX11_latest_32 rfl (lv_at hl 0 rfl) ?_
    refine lv_aload_n hx hb dX11_latest_33 rfl (lv_at hl 0 rfl) ?_
    refine t_get (C := RX11) (T := TX11) (N := 16) X hT m0 g0 rfl rfl 11 (by decide) qw_41 inlX11 rfl dX11_latest_34 (fun v55841 hv55841 ov55841 => ?_)
    obtain rfl : v55841 = .ref b55833 := hv55841.symm.trans hv55832
    refine t_get (C := RX9) (T := TX9) (N := 6) X hT mb55833 gb55833 rfl rfl 2 (by decide) qw_1332 inlX9 rfl dX11_latest_37 (fun v55842 hv55842 ov55842 => ?_)
    obtain ⟨z55843, rfl, rz55843⟩ := okV_i ov55842
    refine lv_if_ne (tgt := 48) hx hb dX11_latest_40 (by decide) (fun c55844 => ?_) (fun c55844 => ?_)
    · have w55845 := cv_ne (rfl : z55843.toInt = z55843.toInt) (by decide : (0 : Int32).toInt = 0) c55844
      refine lv_aload_n hx hb dX11_latest_48 rfl (lv_at hl 0 rfl) ?_
      refine t_get (C := RX11) (T := TX11) (N := 16) X hT m0 g0 rfl rfl 11 (by decide) qw_41 inlX11 rfl dX11_latest_49 (fun v55846 hv55846 ov55846 => ?_)
      obtain rfl : v55846 = .ref b55833 := hv55846.symm.trans hv55832
      refine t_get (C := RX9) (T := TX9) (N := 6) X hT mb55833 gb55833 rfl rfl 4 (by decide) qw_1409 inlX9 rfl dX11_latest_52 (fun v55847 hv55847 ov55847 => ?_)
      obtain ⟨b55848, rfl, mb55848, gb55848⟩ := okV_r ov55847
      have gb55848 : tag b55848 = 7 := tg_of gb55848
      refine lv_iload_n hx hb dX11_latest_55 rfl (lv_at hl 1 rfl) ?_
      refine t_ild X hT mb55848 gb55848 rfl (by omega) dX11_latest_56 (fun z55849 vz55849 rz55849 => ?_)
      have rz55849 : (-2147483648) ≤ z55849.toInt ∧ z55849.toInt ≤ 2147483647 := rz55849
      exact K57 z55849 p0 _ _ _ _ m0 g0 (by omega) hT hfr  (lv_sub hl [0, 1] rfl)
    · have w55850 := cv_eq (rfl : z55843.toInt = z55843.toInt) (by decide : (0 : Int32).toInt = 0) c55844
      refine lv_bipush (v := (-2)) hx hb dX11_latest_43 (by decide) ?_
      refine lv_goto (tgt := 57) hx hb dX11_latest_45 (by decide) ?_
      exact K57 (-2) p0 _ _ _ _ m0 g0 (by omega) hT hfr  (lv_sub hl [0, 1] rfl)
  · have w55851 := cv_eq (rfl : z55828.toInt = z55828.toInt) (by decide : (0 : Int32).toInt = 0) c55829
    refine lv_aload_n hx hb dX11_latest_8 rfl (lv_at hl 0 rfl) ?_
    refine lv_iconst (v := 1) hx hb dX11_latest_9 (by decide) ?_
    refine t_cVi (n := 1) (C := RX11) (T := TX11) (N := 16) (As := [.int 1]) (rest := []) X hT (kt97_X11_refuse l G tag L F hT.2.2.2 p0 1 m0 g0) m0 g0 rfl rfl qw_152 qw_153 qw_154 qw_2 qw_155 ⟨rfl, by decide +kernel, by decide +kernel, by decide +kernel⟩ ⟨Nat.le_of_ble_eq_true rfl, Nat.le_of_ble_eq_true rfl⟩ hl rfl rfl (Nat.le_of_ble_eq_true rfl) dX11_latest_10 ⟨Nat.le_of_ble_eq_true rfl, Nat.le_of_ble_eq_true rfl⟩ (fun z55852 F H locs hT hz55852 => ?_)
    obtain ⟨hz55852, yz55852⟩ := hz55852
    have hfr : ∀ b j : Nat, (tag b ≠ 22 ∨ j ≠ 2) → (tag b ≠ 26 ∨ j ≠ 13) → fld F b j = fld Fo b j := fun b j n22_2 n26_13 => (yz55852 b j n26_13).trans (hfr b j n22_2 n26_13)
    exact t_iret hQ X hT (⟨rg_all _, hfr⟩) (Nat.le_of_ble_eq_true rfl) (Nat.le_of_ble_eq_true rfl) dX11_latest_13
