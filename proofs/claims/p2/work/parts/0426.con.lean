set_option maxHeartbeats 4000000 in
set_option maxRecDepth 100000 in
theorem km179_X13_rots (l : Launch) (G : KG) (tag : Nat → Nat) (L : List Nat) (Fo : Nat → va_E) (ho : okT G ttC tag L Fo) (p0 : Nat) (p1 : Nat) (p2 : Int32) (p3 : Int32) (x0 : Nat) (m0 : p0 ∈ L) (g0 : tag p0 = 46) (m1 : p1 ∈ L) (g1 : tag p1 = 37) (h2 : 0 ≤ p2.toInt ∧ p2.toInt ≤ 3) (h3 : 1 ≤ p3.toInt ∧ p3.toInt ≤ 6) (mx0 : x0 ∈ L) (gx0 : tag x0 = 45) (pf0 : fld Fo p0 3 = .ref x0) : TMv l yX13_rots cX13_rots 5 { frames := 1, cells := 0, slots := 0, locals := 22 } G ttC tag L Fo [.ref p0, .ref p1, .int p2, .int p3] (fun F1 => ((∀ b j : Nat, fld F1 b j = fld Fo b j) ∧ (∀ b j : Nat, tag b ≠ 37 → elm F1 b j = elm Fo b j))) := by
  refine t_bodyv (y := yX13_rots) (cd := cX13_rots) (mL := 5) (rm := { frames := 1, cells := 0, slots := 0, locals := 22 }) (av := [.ref p0, .ref p1, .int p2, .int p3]) (by decide) (Nat.le_of_ble_eq_true rfl) ho ?_
  intro p e s m args below meth c ls A Q hQ X hT hl
  have hx := X.1.1
  have hb := X.1.2.1
  have hl : lv_has ls 5 [(0, .ref p0), (1, .ref p1), (2, .int p2), (3, .int p3)] := hl
  obtain ⟨F, hFo⟩ : ∃ F : Nat → va_E, F = Fo := ⟨_, rfl⟩
  rw [← hFo] at hT pf0
  have hfr : (∀ b j : Nat, fld F b j = fld Fo b j) ∧ (∀ b j : Nat, tag b ≠ 37 → elm F b j = elm Fo b j) := by
    rw [hFo]
    exact ⟨by intros; rfl, by intros; rfl⟩
  refine lv_aload_n hx hb dX13_rots_0 rfl (lv_at hl 1 rfl) ?_
  refine lv_iload_n hx hb dX13_rots_1 rfl (lv_at hl 2 rfl) ?_
  refine lv_iload_n hx hb dX13_rots_2 rfl (lv_at hl 3 rfl) ?_
  refine lv_iconst (v := 5) hx hb dX13_rots_3 (by decide) ?_
  refine t_cSi (n := 3) (As := [.int p2, .int p3, .int 5]) (rest := [.ref p1]) X hT (km49_X13_part l G tag L F hT.2.2.2 p2 p3 5 (by omega) (by omega) (by decide)) qw_661 qw_662 qw_5 qw_663 ⟨by decide +kernel, by decide +kernel, by decide +kernel⟩ ⟨Nat.le_of_ble_eq_true rfl, Nat.le_of_ble_eq_true rfl⟩ hl rfl rfl (Nat.le_of_ble_eq_true rfl) dX13_rots_4 ⟨Nat.le_of_ble_eq_true rfl, Nat.le_of_ble_eq_true rfl⟩ (fun z50033 F9 H locs hT hz50033 => ?_)
  obtain ⟨fz50033, hz50033, xz50033_0⟩ := hz50033
  rw [fz50033] at hT
  have k50034 : (5 : Int32).toInt = 5 := by decide
  refine t_ild X hT m1 g1 rfl (by omega) dX13_rots_7 (fun z50035 vz50035 rz50035 => ?_)
  have oz50035 := rz50035
  have rz50035 := rg_all z50035
  refine lv_iconst (v := 1) hx hb dX13_rots_8 (by decide) ?_
  refine lv_icmp_eq (tgt := 25) hx hb dX13_rots_9 (by decide) (fun c50036 => ?_) (fun c50036 => ?_)
  · have w50037 := cv_eq (rfl : z50035.toInt = z50035.toInt) (by decide : (1 : Int32).toInt = 1) c50036
    exact t_vret hQ X hT hfr (Nat.le_of_ble_eq_true rfl) (Nat.le_of_ble_eq_true rfl) dX13_rots_25
  · have w50038 := cv_ne (rfl : z50035.toInt = z50035.toInt) (by decide : (1 : Int32).toInt = 1) c50036
    refine lv_aload_n hx hb dX13_rots_12 rfl (lv_at hl 1 rfl) ?_
    refine lv_iload_n hx hb dX13_rots_13 rfl (lv_at hl 2 rfl) ?_
    refine lv_iload_n hx hb dX13_rots_14 rfl (lv_at hl 3 rfl) ?_
    refine lv_bipush (v := 6) hx hb dX13_rots_15 (by decide) ?_
    refine t_cSi (n := 3) (As := [.int p2, .int p3, .int 6]) (rest := [.ref p1]) X hT (km49_X13_part l G tag L F hT.2.2.2 p2 p3 6 (by omega) (by omega) (by decide)) qw_661 qw_662 qw_5 qw_663 ⟨by decide +kernel, by decide +kernel, by decide +kernel⟩ ⟨Nat.le_of_ble_eq_true rfl, Nat.le_of_ble_eq_true rfl⟩ hl rfl rfl (Nat.le_of_ble_eq_true rfl) dX13_rots_17 ⟨Nat.le_of_ble_eq_true rfl, Nat.le_of_ble_eq_true rfl⟩ (fun z50039 F9 H locs hT hz50039 => ?_)
    obtain ⟨fz50039, hz50039, xz50039_0⟩ := hz50039
    rw [fz50039] at hT
    have k50040 : (6 : Int32).toInt = 6 := by decide
    refine t_ild X hT m1 g1 rfl (by omega) dX13_rots_20 (fun z50041 vz50041 rz50041 => ?_)
    have oz50041 := rz50041
    have rz50041 := rg_all z50041
    refine lv_iconst (v := 1) hx hb dX13_rots_21 (by decide) ?_
    refine lv_icmp_ne (tgt := 26) hx hb dX13_rots_22 (by decide) (fun c50042 => ?_) (fun c50042 => ?_)
    · have w50043 := cv_ne (rfl : z50041.toInt = z50041.toInt) (by decide : (1 : Int32).toInt = 1) c50042
      refine lv_aload_n hx hb dX13_rots_26 rfl (lv_at hl 1 rfl) ?_
      refine lv_iload_n hx hb dX13_rots_27 rfl (lv_at hl 2 rfl) ?_
      refine lv_iload_n hx hb dX13_rots_28 rfl (lv_at hl 3 rfl) ?_
      refine lv_iconst (v := 0) hx hb dX13_rots_29 (by decide) ?_
      refine t_cSi (n := 3) (As := [.int p2, .int p3, .int 0]) (rest := [.ref p1]) X hT (km49_X13_part l G tag L F hT.2.2.2 p2 p3 0 (by omega) (by omega) (by decide)) qw_661 qw_662 qw_5 qw_663 ⟨by decide +kernel, by decide +kernel, by decide +kernel⟩ ⟨Nat.le_of_ble_eq_true rfl, Nat.le_of_ble_eq_true rfl⟩ hl rfl rfl (Nat.le_of_ble_eq_true rfl) dX13_rots_30 ⟨Nat.le_of_ble_eq_true rfl, Nat.le_of_ble_eq_true rfl⟩ (fun z50044 F9 H locs hT hz50044 => ?_)
      obtain ⟨fz50044, hz50044, xz50044_0⟩ := hz50044
      rw [fz50044] at hT
      have k50045 : (0 : Int32).toInt = 0 := by decide
      refine t_ild X hT m1 g1 rfl (by omega) dX13_rots_33 (fun z50046 vz50046 rz50046 => ?_)
      have rz50046 := row_sl (by omega) (by omega) rz50046
      refine lv_istore (lv' := [(4, .int z50046), (0, .ref p0), (1, .ref p1), (2, .int p2), (3, .int p3)]) hx hb dX13_rots_34 hl (by decide) rfl (fun ls hl => ?_)
      refine lv_aload_n hx hb dX13_rots_36 rfl (lv_at hl 2 rfl) ?_
      refine lv_iload_n hx hb dX13_rots_37 rfl (lv_at hl 3 rfl) ?_
      refine lv_iload_n hx hb dX13_rots_38 rfl (lv_at hl 4 rfl) ?_
      refine lv_iconst (v := 4) hx hb dX13_rots_39 (by decide) ?_
      refine t_cSi (n := 3) (As := [.int p2, .int p3, .int 4]) (rest := [.ref p1]) X hT (km49_X13_part l G tag L F hT.2.2.2 p2 p3 4 (by omega) (by omega) (by decide)) qw_661 qw_662 qw_5 qw_663 ⟨by decide +kernel, by decide +kernel, by decide +kernel⟩ ⟨Nat.le_of_ble_eq_true rfl, Nat.le_of_ble_eq_true rfl⟩ hl rfl rfl (Nat.le_of_ble_eq_true rfl) dX13_rots_40 ⟨Nat.le_of_ble_eq_true rfl, Nat.le_of_ble_eq_true rfl⟩ (fun z50047 F9 H locs hT hz50047 => ?_)
      obtain ⟨fz50047, hz50047, xz50047_0⟩ := hz50047
      rw [fz50047] at hT
      have k50048 : (4 : Int32).toInt = 4 := by decide
      refine lv_dup2_11 hx hb dX13_rots_43 rfl rfl ?_
      refine t_ild X hT m1 g1 rfl (by omega) dX13_rots_44 (fun z50049 vz50049 rz50049 => ?_)
      have oz50049 := rz50049
      have rz50049 := rg_all z50049
      refine lv_aload_n hx hb dX13_rots_45 rfl (lv_at hl 1 rfl) ?_
      refine t_get (C := RX13) (T := TX13) (N := 37) X hT m0 g0 rfl rfl 3 (by decide) qw_481 inlX13 rfl dX13_rots_46 (fun v50050 hv50050 ov50050 => ?_)
      obtain rfl : v50050 = .ref x0 := hv50050.symm.trans pf0
      refine t_getN (C := RX12) (T := TX12) (N := 31) X hT mx0 gx0 rfl rfl 19 (by decide) (List.mem_of_getElem? (i := 23) rfl) inlX12 rfl dX13_rots_49 (fun v50051 hv50051 ov50051 => ?_)
      obtain ⟨b50052, rfl, mb50052, gb50052⟩ := okV_r ov50051
      have gb50052 : tag b50052 = 29 := tg_of gb50052
      refine lv_iload hx hb dX13_rots_52 (lv_at hl 0 rfl) ?_
      refine t_ild X hT mb50052 gb50052 rfl (by omega) dX13_rots_54 (fun z50053 vz50053 rz50053 => ?_)
      have rz50053 : (-2147483648) ≤ z50053.toInt ∧ z50053.toInt ≤ 2147483647 := rz50053
      refine lv_iadd hx hb dX13_rots_55 ?_
      refine lv_topi (fun z50054 ez50054 => ?_)
      have rz50054 := rg_all z50054
      refine t_ist X hT m1 g1 rfl (by omega) (row_fv (by omega) (Or.inr (Or.inr (by omega)))) dX13_rots_56 (fun F H locs hT v50055 h1v50055 h2v50055 => ?_)
      have pf0 := (h2v50055 _ _).trans pf0
      have hv50051 := (h2v50055 _ _).trans hv50051
      have vz50053 := (h1v50055 _ _ (Or.inl (tne gb50052 g1 (by decide)))).trans vz50053
      have hfr : (∀ b j : Nat, fld F b j = fld Fo b j) ∧ (∀ b j : Nat, tag b ≠ 37 → elm F b j = elm Fo b j) := ⟨fun b j  => (h2v50055 b j).trans (hfr.1 b j ), fun b j a37 => (h1v50055 b j (Or.inl (at_ne g1 a37))).trans (hfr.2 b j a37)⟩
      refine lv_iload_n hx hb dX13_rots_57 rfl (lv_at hl 4 rfl) ?_
      refine lv_iconst (v := 1) hx hb dX13_rots_58 (by decide) ?_
      refine lv_icmp_le (tgt := 106) hx hb dX13_rots_59 (by decide) (fun c50056 => ?_) (fun c50056 => ?_)
      · have w50057 := cv_le (rfl : p3.toInt = p3.toInt) (by decide : (1 : Int32).toInt = 1) c50056
        refine lv_aload_n hx hb dX13_rots_106 rfl (lv_at hl 2 rfl) ?_
        refine lv_iload_n hx hb dX13_rots_107 rfl (lv_at hl 3 rfl) ?_
        refine lv_iload_n hx hb dX13_rots_108 rfl (lv_at hl 4 rfl) ?_
        refine lv_iconst (v := 4) hx hb dX13_rots_109 (by decide) ?_
        refine t_cSi (n := 3) (As := [.int p2, .int p3, .int 4]) (rest := [.ref p1]) X hT (km49_X13_part l G tag L F hT.2.2.2 p2 p3 4 (by omega) (by omega) (by decide)) qw_661 qw_662 qw_5 qw_663 ⟨by decide +kernel, by decide +kernel, by decide +kernel⟩ ⟨Nat.le_of_ble_eq_true rfl, Nat.le_of_ble_eq_true rfl⟩ hl rfl rfl (Nat.le_of_ble_eq_true rfl) dX13_rots_110 ⟨Nat.le_of_ble_eq_true rfl, Nat.le_of_ble_eq_true rfl⟩ (fun z50058 F9 H locs hT hz50058 => ?_)
        obtain ⟨fz50058, hz50058, xz50058_0⟩ := hz50058
        rw [fz50058] at hT
        have k50059 : (4 : Int32).toInt = 4 := by decide
        refine t_ild X hT m1 g1 rfl (by omega) dX13_rots_113 (fun z50060 vz50060 rz50060 => ?_)
        have oz50060 := rz50060
        have rz50060 := rg_all z50060
        refine lv_aload_n hx hb dX13_rots_114 rfl (lv_at hl 1 rfl) ?_
        refine t_get (C := RX13) (T := TX13) (N := 37) X hT m0 g0 rfl rfl 3 (by decide) qw_481 inlX13 rfl dX13_rots_115 (fun v50061 hv50061 ov50061 => ?_)
        obtain rfl : v50061 = .ref x0 := hv50061.symm.trans pf0
        refine t_getN (C := RX12) (T := TX12) (N := 31) X hT mx0 gx0 rfl rfl 20 (by decide) (List.mem_of_getElem? (i := 24) rfl) inlX12 rfl dX13_rots_118 (fun v50062 hv50062 ov50062 => ?_)
        obtain ⟨b50063, rfl, mb50063, gb50063⟩ := okV_r ov50062
        have gb50063 : tag b50063 = 29 := tg_of gb50063
        refine lv_iload hx hb dX13_rots_121 (lv_at hl 0 rfl) ?_
        refine t_ild X hT mb50063 gb50063 rfl (by omega) dX13_rots_123 (fun z50064 vz50064 rz50064 => ?_)
        have rz50064 : (-2147483648) ≤ z50064.toInt ∧ z50064.toInt ≤ 2147483647 := rz50064
        refine lv_icmp_lt (tgt := 136) hx hb dX13_rots_124 (by decide) (fun c50065 => ?_) (fun c50065 => ?_)
        · have w50066 := cv_lt (rfl : z50060.toInt = z50060.toInt) (rfl : z50064.toInt = z50064.toInt) c50065
          exact t_vret hQ X hT hfr (Nat.le_of_ble_eq_true rfl) (Nat.le_of_ble_eq_true rfl) dX13_rots_136
        · have w50067 := cv_nlt (rfl : z50060.toInt = z50060.toInt) (rfl : z50064.toInt = z50064.toInt) c50065
          refine lv_aload_n hx hb dX13_rots_127 rfl (lv_at hl 2 rfl) ?_
          refine lv_iload_n hx hb dX13_rots_128 rfl (lv_at hl 3 rfl) ?_
          refine lv_iload_n hx hb dX13_rots_129 rfl (lv_at hl 4 rfl) ?_
          refine lv_iconst (v := 5) hx hb dX13_rots_130 (by decide) ?_
          refine t_cSi (n := 3) (As := [.int p2, .int p3, .int 5]) (rest := [.ref p1]) X hT (km49_X13_part l G tag L F hT.2.2.2 p2 p3 5 (by omega) (by omega) (by decide)) qw_661 qw_662 qw_5 qw_663 ⟨by decide +kernel, by decide +kernel, by decide +kernel⟩ ⟨Nat.le_of_ble_eq_true rfl, Nat.le_of_ble_eq_true rfl⟩ hl rfl rfl (Nat.le_of_ble_eq_true rfl) dX13_rots_131 ⟨Nat.le_of_ble_eq_true rfl, Nat.le_of_ble_eq_true rfl⟩ (fun z50068 F9 H locs hT hz50068 => ?_)
          obtain ⟨fz50068, hz50068, xz50068_0⟩ := hz50068
          rw [fz50068] at hT
          have k50069 : (5 : Int32).toInt = 5 := by decide
          refine lv_iconst (v := 1) hx hb dX13_rots_134 (by decide) ?_
          refine t_ist X hT m1 g1 rfl (by omega) (row_fv (by omega) (Or.inr (Or.inr (by omega)))) dX13_rots_135 (fun F H locs hT v50070 h1v50070 h2v50070 => ?_)
          have pf0 := (h2v50070 _ _).trans pf0
          have hv50051 := (h2v50070 _ _).trans hv50051
          have vz50053 := (h1v50070 _ _ (Or.inl (tne gb50052 g1 (by decide)))).trans vz50053
          have hv50062 := (h2v50070 _ _).trans hv50062
          have vz50064 := (h1v50070 _ _ (Or.inl (tne gb50063 g1 (by decide)))).trans vz50064
          have hfr : (∀ b j : Nat, fld F b j = fld Fo b j) ∧ (∀ b j : Nat, tag b ≠ 37 → elm F b j = elm Fo b j) := ⟨fun b j  => (h2v50070 b j).trans (hfr.1 b j ), fun b j a37 => (h1v50070 b j (Or.inl (at_ne g1 a37))).trans (hfr.2 b j a37)⟩
          exact t_vret hQ X hT hfr (Nat.le_of_ble_eq_true rfl) (Nat.le_of_ble_eq_true rfl) dX13_rots_136
      · have w50071 := cv_nle (rfl : p3.toInt = p3.toInt) (by decide : (1 : Int32).toInt = 1) c50056
        refine lv_aload_n hx hb dX13_rots_62 rfl (lv_at hl 2 rfl) ?_
        refine lv_iload_n hx hb dX13_rots_63 rfl (lv_at hl 3 rfl) ?_
        refine lv_iload_n hx hb dX13_rots_64 rfl (lv_at hl 4 rfl) ?_
        refine lv_iconst (v := 1) hx hb dX13_rots_65 (by decide) ?_
        refine lv_isub hx hb dX13_rots_66 ?_
        refine lv_topi (fun z50072 ez50072 => ?_)
        have hz50072 : z50072.toInt = p3.toInt - 1 := ar_sub ez50072 (rfl : p3.toInt = p3.toInt) (by decide : (1 : Int32).toInt = 1) (by omega) (by omega)
        have rz50072 : 1 ≤ z50072.toInt ∧ z50072.toInt ≤ 5 := by omega
        refine lv_iconst (v := 5) hx hb dX13_rots_67 (by decide) ?_
        refine t_cSi (n := 3) (As := [.int p2, .int z50072, .int 5]) (rest := [.ref p1]) X hT (km49_X13_part l G tag L F hT.2.2.2 p2 z50072 5 (by omega) (by omega) (by decide)) qw_661 qw_662 qw_5 qw_663 ⟨by decide +kernel, by decide +kernel, by decide +kernel⟩ ⟨Nat.le_of_ble_eq_true rfl, Nat.le_of_ble_eq_true rfl⟩ hl rfl rfl (Nat.le_of_ble_eq_true rfl) dX13_rots_68 ⟨Nat.le_of_ble_eq_true rfl, Nat.le_of_ble_eq_true rfl⟩ (fun z50073 F9 H locs hT hz50073 => ?_)
        obtain ⟨fz50073, hz50073, xz50073_0⟩ := hz50073
        rw [fz50073] at hT
        have k50074 : (5 : Int32).toInt = 5 := by decide
        refine t_ild X hT m1 g1 rfl (by omega) dX13_rots_71 (fun z50075 vz50075 rz50075 => ?_)
        have oz50075 := rz50075
        have rz50075 := rg_all z50075
        refine lv_iconst (v := 1) hx hb dX13_rots_72 (by decide) ?_
        refine lv_icmp_ne (tgt := 106) hx hb dX13_rots_73 (by decide) (fun c50076 => ?_) (fun c50076 => ?_)
        · have w50077 := cv_ne (rfl : z50075.toInt = z50075.toInt) (by decide : (1 : Int32).toInt = 1) c50076
          refine lv_aload_n hx hb dX13_rots_106 rfl (lv_at hl 2 rfl) ?_
          refine lv_iload_n hx hb dX13_rots_107 rfl (lv_at hl 3 rfl) ?_
          refine lv_iload_n hx hb dX13_rots_108 rfl (lv_at hl 4 rfl) ?_
          refine lv_iconst (v := 4) hx hb dX13_rots_109 (by decide) ?_
          refine t_cSi (n := 3) (As := [.int p2, .int p3, .int 4]) (rest := [.ref p1]) X hT (km49_X13_part l G tag L F hT.2.2.2 p2 p3 4 (by omega) (by omega) (by decide)) qw_661 qw_662 qw_5 qw_663 ⟨by decide +kernel, by decide +kernel, by decide +kernel⟩ ⟨Nat.le_of_ble_eq_true rfl, Nat.le_of_ble_eq_true rfl⟩ hl rfl rfl (Nat.le_of_ble_eq_true rfl) dX13_rots_110 ⟨Nat.le_of_ble_eq_true rfl, Nat.le_of_ble_eq_true rfl⟩ (fun z50078 F9 H locs hT hz50078 => ?_)
          obtain ⟨fz50078, hz50078, xz50078_0⟩ := hz50078
          rw [fz50078] at hT
          have k50079 : (4 : Int32).toInt = 4 := by decide
          refine t_ild X hT m1 g1 rfl (by omega) dX13_rots_113 (fun z50080 vz50080 rz50080 => ?_)
          have oz50080 := rz50080
          have rz50080 := rg_all z50080
          refine lv_aload_n hx hb dX13_rots_114 rfl (lv_at hl 1 rfl) ?_
          refine t_get (C := RX13) (T := TX13) (N := 37) X hT m0 g0 rfl rfl 3 (by decide) qw_481 inlX13 rfl dX13_rots_115 (fun v50081 hv50081 ov50081 => ?_)
          obtain rfl : v50081 = .ref x0 := hv50081.symm.trans pf0
          refine t_getN (C := RX12) (T := TX12) (N := 31) X hT mx0 gx0 rfl rfl 20 (by decide) (List.mem_of_getElem? (i := 24) rfl) inlX12 rfl dX13_rots_118 (fun v50082 hv50082 ov50082 => ?_)
          obtain ⟨b50083, rfl, mb50083, gb50083⟩ := okV_r ov50082
          have gb50083 : tag b50083 = 29 := tg_of gb50083
          refine lv_iload hx hb dX13_rots_121 (lv_at hl 0 rfl) ?_
          refine t_ild X hT mb50083 gb50083 rfl (by omega) dX13_rots_123 (fun z50084 vz50084 rz50084 => ?_)
          have rz50084 : (-2147483648) ≤ z50084.toInt ∧ z50084.toInt ≤ 2147483647 := rz50084
          refine lv_icmp_lt (tgt := 136) hx hb dX13_rots_124 (by decide) (fun c50085 => ?_) (fun c50085 => ?_)
          · have w50086 := cv_lt (rfl : z50080.toInt = z50080.toInt) (rfl : z50084.toInt = z50084.toInt) c50085
            exact t_vret hQ X hT hfr (Nat.le_of_ble_eq_true rfl) (Nat.le_of_ble_eq_true rfl) dX13_rots_136
          · have w50087 := cv_nlt (rfl : z50080.toInt = z50080.toInt) (rfl : z50084.toInt = z50084.toInt) c50085
            refine lv_aload_n hx hb dX13_rots_127 rfl (lv_at hl 2 rfl) ?_
            refine lv_iload_n hx hb dX13_rots_128 rfl (lv_at hl 3 rfl) ?_
            refine lv_iload_n hx hb dX13_rots_129 rfl (lv_at hl 4 rfl) ?_
            refine lv_iconst (v := 5) hx hb dX13_rots_130 (by decide) ?_
            refine t_cSi (n := 3) (As := [.int p2, .int p3, .int 5]) (rest := [.ref p1]) X hT (km49_X13_part l G tag L F hT.2.2.2 p2 p3 5 (by omega) (by omega) (by decide)) qw_661 qw_662 qw_5 qw_663 ⟨by decide +kernel, by decide +kernel, by decide +kernel⟩ ⟨Nat.le_of_ble_eq_true rfl, Nat.le_of_ble_eq_true rfl⟩ hl rfl rfl (Nat.le_of_ble_eq_true rfl) dX13_rots_131 ⟨Nat.le_of_ble_eq_true rfl, Nat.le_of_ble_eq_true rfl⟩ (fun z50088 F9 H locs hT hz50088 => ?_)
            obtain ⟨fz50088, hz50088, xz50088_0⟩ := hz50088
            rw [fz50088] at hT
            have k50089 : (5 : Int32).toInt = 5 := by decide
            refine lv_iconst (v := 1) hx hb dX13_rots_134 (by decide) ?_
            refine t_ist X hT m1 g1 rfl (by omega) (row_fv (by omega) (Or.inr (Or.inr (by omega)))) dX13_rots_135 (fun F H locs hT v50090 h1v50090 h2v50090 => ?_)
            have pf0 := (h2v50090 _ _).trans pf0
            have hv50051 := (h2v50090 _ _).trans hv50051
            have vz50053 := (h1v50090 _ _ (Or.inl (tne gb50052 g1 (by decide)))).trans vz50053
            have hv50082 := (h2v50090 _ _).trans hv50082
            have vz50084 := (h1v50090 _ _ (Or.inl (tne gb50083 g1 (by decide)))).trans vz50084
            have hfr : (∀ b j : Nat, fld F b j = fld Fo b j) ∧ (∀ b j : Nat, tag b ≠ 37 → elm F b j = elm Fo b j) := ⟨fun b j  => (h2v50090 b j).trans (hfr.1 b j ), fun b j a37 => (h1v50090 b j (Or.inl (at_ne g1 a37))).trans (hfr.2 b j a37)⟩
            exact t_vret hQ X hT hfr (Nat.le_of_ble_eq_true rfl) (Nat.le_of_ble_eq_true rfl) dX13_rots_136
        · have w50091 := cv_eq (rfl : z50075.toInt = z50075.toInt) (by decide : (1 : Int32).toInt = 1) c50076
          refine lv_aload_n hx hb dX13_rots_76 rfl (lv_at hl 2 rfl) ?_
          refine lv_iload_n hx hb dX13_rots_77 rfl (lv_at hl 3 rfl) ?_
          refine lv_iload_n hx hb dX13_rots_78 rfl (lv_at hl 4 rfl) ?_
          refine lv_iconst (v := 4) hx hb dX13_rots_79 (by decide) ?_
          refine t_cSi (n := 3) (As := [.int p2, .int p3, .int 4]) (rest := [.ref p1]) X hT (km49_X13_part l G tag L F hT.2.2.2 p2 p3 4 (by omega) (by omega) (by decide)) qw_661 qw_662 qw_5 qw_663 ⟨by decide +kernel, by decide +kernel, by decide +kernel⟩ ⟨Nat.le_of_ble_eq_true rfl, Nat.le_of_ble_eq_true rfl⟩ hl rfl rfl (Nat.le_of_ble_eq_true rfl) dX13_rots_80 ⟨Nat.le_of_ble_eq_true rfl, Nat.le_of_ble_eq_true rfl⟩ (fun z50092 F9 H locs hT hz50092 => ?_)
          obtain ⟨fz50092, hz50092, xz50092_0⟩ := hz50092
          rw [fz50092] at hT
          have k50093 : (4 : Int32).toInt = 4 := by decide
          refine lv_dup2_11 hx hb dX13_rots_83 rfl rfl ?_
          refine t_ild X hT m1 g1 rfl (by omega) dX13_rots_84 (fun z50094 vz50094 rz50094 => ?_)
          have oz50094 := rz50094
          have rz50094 := rg_all z50094
          refine lv_aload_n hx hb dX13_rots_85 rfl (lv_at hl 1 rfl) ?_
          refine t_get (C := RX13) (T := TX13) (N := 37) X hT m0 g0 rfl rfl 3 (by decide) qw_481 inlX13 rfl dX13_rots_86 (fun v50095 hv50095 ov50095 => ?_)
          obtain rfl : v50095 = .ref x0 := hv50095.symm.trans pf0
          refine t_getN (C := RX12) (T := TX12) (N := 31) X hT mx0 gx0 rfl rfl 16 (by decide) (List.mem_of_getElem? (i := 20) rfl) inlX12 rfl dX13_rots_89 (fun v50096 hv50096 ov50096 => ?_)
          obtain ⟨b50097, rfl, mb50097, gb50097⟩ := okV_r ov50096
          have gb50097 : tag b50097 = 29 := tg_of gb50097
          refine lv_iload hx hb dX13_rots_92 (lv_at hl 0 rfl) ?_
          refine t_ild X hT mb50097 gb50097 rfl (by omega) dX13_rots_94 (fun z50098 vz50098 rz50098 => ?_)
          have rz50098 : (-2147483648) ≤ z50098.toInt ∧ z50098.toInt ≤ 2147483647 := rz50098
          refine lv_iconst (v := 1) hx hb dX13_rots_95 (by decide) ?_
          refine lv_icmp_ne (tgt := 103) hx hb dX13_rots_96 (by decide) (fun c50099 => ?_) (fun c50099 => ?_)
          · have w50100 := cv_ne (rfl : z50098.toInt = z50098.toInt) (by decide : (1 : Int32).toInt = 1) c50099
            refine lv_iconst (v := 1) hx hb dX13_rots_103 (by decide) ?_
            refine lv_iadd hx hb dX13_rots_104 ?_
            refine lv_topi (fun z50101 ez50101 => ?_)
            have rz50101 := rg_all z50101
            refine t_ist X hT m1 g1 rfl (by omega) (row_fv (by omega) (Or.inr (Or.inr (by omega)))) dX13_rots_105 (fun F H locs hT v50102 h1v50102 h2v50102 => ?_)
            have pf0 := (h2v50102 _ _).trans pf0
            have hv50051 := (h2v50102 _ _).trans hv50051
            have vz50053 := (h1v50102 _ _ (Or.inl (tne gb50052 g1 (by decide)))).trans vz50053
            have hv50096 := (h2v50102 _ _).trans hv50096
            have vz50098 := (h1v50102 _ _ (Or.inl (tne gb50097 g1 (by decide)))).trans vz50098
            have hfr : (∀ b j : Nat, fld F b j = fld Fo b j) ∧ (∀ b j : Nat, tag b ≠ 37 → elm F b j = elm Fo b j) := ⟨fun b j  => (h2v50102 b j).trans (hfr.1 b j ), fun b j a37 => (h1v50102 b j (Or.inl (at_ne g1 a37))).trans (hfr.2 b j a37)⟩
            refine lv_aload_n hx hb dX13_rots_106 rfl (lv_at hl 2 rfl) ?_
            refine lv_iload_n hx hb dX13_rots_107 rfl (lv_at hl 3 rfl) ?_
            refine lv_iload_n hx hb dX13_rots_108 rfl (lv_at hl 4 rfl) ?_
            refine lv_iconst (v := 4) hx hb dX13_rots_109 (by decide) ?_
            refine t_cSi (n := 3) (As := [.int p2, .int p3, .int 4]) (rest := [.ref p1]) X hT (km49_X13_part l G tag L F hT.2.2.2 p2 p3 4 (by omega) (by omega) (by decide)) qw_661 qw_662 qw_5 qw_663 ⟨by decide +kernel, by decide +kernel, by decide +kernel⟩ ⟨Nat.le_of_ble_eq_true rfl, Nat.le_of_ble_eq_true rfl⟩ hl rfl rfl (Nat.le_of_ble_eq_true rfl) dX13_rots_110 ⟨Nat.le_of_ble_eq_true rfl, Nat.le_of_ble_eq_true rfl⟩ (fun z50103 F9 H locs hT hz50103 => ?_)
            obtain ⟨fz50103, hz50103, xz50103_0⟩ := hz50103
            rw [fz50103] at hT
            have k50104 : (4 : Int32).toInt = 4 := by decide
            refine t_ild X hT m1 g1 rfl (by omega) dX13_rots_113 (fun z50105 vz50105 rz50105 => ?_)
            have oz50105 := rz50105
            have rz50105 := rg_all z50105
            refine lv_aload_n hx hb dX13_rots_114 rfl (lv_at hl 1 rfl) ?_
            refine t_get (C := RX13) (T := TX13) (N := 37) X hT m0 g0 rfl rfl 3 (by decide) qw_481 inlX13 rfl dX13_rots_115 (fun v50106 hv50106 ov50106 => ?_)
            obtain rfl : v50106 = .ref x0 := hv50106.symm.trans pf0
            refine t_getN (C := RX12) (T := TX12) (N := 31) X hT mx0 gx0 rfl rfl 20 (by decide) (List.mem_of_getElem? (i := 24) rfl) inlX12 rfl dX13_rots_118 (fun v50107 hv50107 ov50107 => ?_)
            obtain ⟨b50108, rfl, mb50108, gb50108⟩ := okV_r ov50107
            have gb50108 : tag b50108 = 29 := tg_of gb50108
            refine lv_iload hx hb dX13_rots_121 (lv_at hl 0 rfl) ?_
            refine t_ild X hT mb50108 gb50108 rfl (by omega) dX13_rots_123 (fun z50109 vz50109 rz50109 => ?_)
            have rz50109 : (-2147483648) ≤ z50109.toInt ∧ z50109.toInt ≤ 2147483647 := rz50109
            refine lv_icmp_lt (tgt := 136) hx hb dX13_rots_124 (by decide) (fun c50110 => ?_) (fun c50110 => ?_)
            · have w50111 := cv_lt (rfl : z50105.toInt = z50105.toInt) (rfl : z50109.toInt = z50109.toInt) c50110
              exact t_vret hQ X hT hfr (Nat.le_of_ble_eq_true rfl) (Nat.le_of_ble_eq_true rfl) dX13_rots_136
            · have w50112 := cv_nlt (rfl : z50105.toInt = z50105.toInt) (rfl : z50109.toInt = z50109.toInt) c50110
              refine lv_aload_n hx hb dX13_rots_127 rfl (lv_at hl 2 rfl) ?_
              refine lv_iload_n hx hb dX13_rots_128 rfl (lv_at hl 3 rfl) ?_
              refine lv_iload_n hx hb dX13_rots_129 rfl (lv_at hl 4 rfl) ?_
              refine lv_iconst (v := 5) hx hb dX13_rots_130 (by decide) ?_
              refine t_cSi (n := 3) (As := [.int p2, .int p3, .int 5]) (rest := [.ref p1]) X hT (km49_X13_part l G tag L F hT.2.2.2 p2 p3 5 (by omega) (by omega) (by decide)) qw_661 qw_662 qw_5 qw_663 ⟨by decide +kernel, by decide +kernel, by decide +kernel⟩ ⟨Nat.le_of_ble_eq_true rfl, Nat.le_of_ble_eq_true rfl⟩ hl rfl rfl (Nat.le_of_ble_eq_true rfl) dX13_rots_131 ⟨Nat.le_of_ble_eq_true rfl, Nat.le_of_ble_eq_true rfl⟩ (fun z50113 F9 H locs hT hz50113 => ?_)
              obtain ⟨fz50113, hz50113, xz50113_0⟩ := hz50113
              rw [fz50113] at hT
              have k50114 : (5 : Int32).toInt = 5 := by decide
              refine lv_iconst (v := 1) hx hb dX13_rots_134 (by decide) ?_
              refine t_ist X hT m1 g1 rfl (by omega) (row_fv (by omega) (Or.inr (Or.inr (by omega)))) dX13_rots_135 (fun F H locs hT v50115 h1v50115 h2v50115 => ?_)
              have pf0 := (h2v50115 _ _).trans pf0
              have hv50051 := (h2v50115 _ _).trans hv50051
              have vz50053 := (h1v50115 _ _ (Or.inl (tne gb50052 g1 (by decide)))).trans vz50053
              have hv50096 := (h2v50115 _ _).trans hv50096
              have vz50098 := (h1v50115 _ _ (Or.inl (tne gb50097 g1 (by decide)))).trans vz50098
              have hv50107 := (h2v50115 _ _).trans hv50107
              have vz50109 := (h1v50115 _ _ (Or.inl (tne gb50108 g1 (by decide)))).trans vz50109
              have hfr : (∀ b j : Nat, fld F b j = fld Fo b j) ∧ (∀ b j : Nat, tag b ≠ 37 → elm F b j = elm Fo b j) := ⟨fun b j  => (h2v50115 b j).trans (hfr.1 b j ), fun b j a37 => (h1v50115 b j (Or.inl (at_ne g1 a37))).trans (hfr.2 b j a37)⟩
              exact t_vret hQ X hT hfr (Nat.le_of_ble_eq_true rfl) (Nat.le_of_ble_eq_true rfl) dX13_rots_136
          · have w50116 := cv_eq (rfl : z50098.toInt = z50098.toInt) (by decide : (1 : Int32).toInt = 1) c50099
            refine lv_iconst (v := 2) hx hb dX13_rots_99 (by decide) ?_
            refine lv_goto (tgt := 104) hx hb dX13_rots_100 (by decide) ?_
            refine lv_iadd hx hb dX13_rots_104 ?_
            refine lv_topi (fun z50117 ez50117 => ?_)
            have rz50117 := rg_all z50117
            refine t_ist X hT m1 g1 rfl (by omega) (row_fv (by omega) (Or.inr (Or.inr (by omega)))) dX13_rots_105 (fun F H locs hT v50118 h1v50118 h2v50118 => ?_)
            have pf0 := (h2v50118 _ _).trans pf0
            have hv50051 := (h2v50118 _ _).trans hv50051
            have vz50053 := (h1v50118 _ _ (Or.inl (tne gb50052 g1 (by decide)))).trans vz50053
            have hv50096 := (h2v50118 _ _).trans hv50096
            have vz50098 := (h1v50118 _ _ (Or.inl (tne gb50097 g1 (by decide)))).trans vz50098
            have hfr : (∀ b j : Nat, fld F b j = fld Fo b j) ∧ (∀ b j : Nat, tag b ≠ 37 → elm F b j = elm Fo b j) := ⟨fun b j  => (h2v50118 b j).trans (hfr.1 b j ), fun b j a37 => (h1v50118 b j (Or.inl (at_ne g1 a37))).trans (hfr.2 b j a37)⟩
            refine lv_aload_n hx hb dX13_rots_106 rfl (lv_at hl 2 rfl) ?_
            refine lv_iload_n hx hb dX13_rots_107 rfl (lv_at hl 3 rfl) ?_
            refine lv_iload_n hx hb dX13_rots_108 rfl (lv_at hl 4 rfl) ?_
            refine lv_iconst (v := 4) hx hb dX13_rots_109 (by decide) ?_
            refine t_cSi (n := 3) (As := [.int p2, .int p3, .int 4]) (rest := [.ref p1]) X hT (km49_X13_part l G tag L F hT.2.2.2 p2 p3 4 (by omega) (by omega) (by decide)) qw_661 qw_662 qw_5 qw_663 ⟨by decide +kernel, by decide +kernel, by decide +kernel⟩ ⟨Nat.le_of_ble_eq_true rfl, Nat.le_of_ble_eq_true rfl⟩ hl rfl rfl (Nat.le_of_ble_eq_true rfl) dX13_rots_110 ⟨Nat.le_of_ble_eq_true rfl, Nat.le_of_ble_eq_true rfl⟩ (fun z50119 F9 H locs hT hz50119 => ?_)
            obtain ⟨fz50119, hz50119, xz50119_0⟩ := hz50119
            rw [fz50119] at hT
            have k50120 : (4 : Int32).toInt = 4 := by decide
            refine t_ild X hT m1 g1 rfl (by omega) dX13_rots_113 (fun z50121 vz50121 rz50121 => ?_)
            have oz50121 := rz50121
            have rz50121 := rg_all z50121
            refine lv_aload_n hx hb dX13_rots_114 rfl (lv_at hl 1 rfl) ?_
            refine t_get (C := RX13) (T := TX13) (N := 37) X hT m0 g0 rfl rfl 3 (by decide) qw_481 inlX13 rfl dX13_rots_115 (fun v50122 hv50122 ov50122 => ?_)
            obtain rfl : v50122 = .ref x0 := hv50122.symm.trans pf0
            refine t_getN (C := RX12) (T := TX12) (N := 31) X hT mx0 gx0 rfl rfl 20 (by decide) (List.mem_of_getElem? (i := 24) rfl) inlX12 rfl dX13_rots_118 (fun v50123 hv50123 ov50123 => ?_)
            obtain ⟨b50124, rfl, mb50124, gb50124⟩ := okV_r ov50123
            have gb50124 : tag b50124 = 29 := tg_of gb50124
            refine lv_iload hx hb dX13_rots_121 (lv_at hl 0 rfl) ?_
            refine t_ild X hT mb50124 gb50124 rfl (by omega) dX13_rots_123 (fun z50125 vz50125 rz50125 => ?_)
            have rz50125 : (-2147483648) ≤ z50125.toInt ∧ z50125.toInt ≤ 2147483647 := rz50125
            refine lv_icmp_lt (tgt := 136) hx hb dX13_rots_124 (by decide) (fun c50126 => ?_) (fun c50126 => ?_)
            · have w50127 := cv_lt (rfl : z50121.toInt = z50121.toInt) (rfl : z50125.toInt = z50125.toInt) c50126
              exact t_vret hQ X hT hfr (Nat.le_of_ble_eq_true rfl) (Nat.le_of_ble_eq_true rfl) dX13_rots_136
            · have w50128 := cv_nlt (rfl : z50121.toInt = z50121.toInt) (rfl : z50125.toInt = z50125.toInt) c50126
              refine lv_aload_n hx hb dX13_rots_127 rfl (lv_at hl 2 rfl) ?_
              refine lv_iload_n hx hb dX13_rots_128 rfl (lv_at hl 3 rfl) ?_
              refine lv_iload_n hx hb dX13_rots_129 rfl (lv_at hl 4 rfl) ?_
              refine lv_iconst (v := 5) hx hb dX13_rots_130 (by decide) ?_
              refine t_cSi (n := 3) (As := [.int p2, .int p3, .int 5]) (rest := [.ref p1]) X hT (km49_X13_part l G tag L F hT.2.2.2 p2 p3 5 (by omega) (by omega) (by decide)) qw_661 qw_662 qw_5 qw_663 ⟨by decide +kernel, by decide +kernel, by decide +kernel⟩ ⟨Nat.le_of_ble_eq_true rfl, Nat.le_of_ble_eq_true rfl⟩ hl rfl rfl (Nat.le_of_ble_eq_true rfl) dX13_rots_131 ⟨Nat.le_of_ble_eq_true rfl, Nat.le_of_ble_eq_true rfl⟩ (fun z50129 F9 H locs hT hz50129 => ?_)
              obtain ⟨fz50129, hz50129, xz50129_0⟩ := hz50129
              rw [fz50129] at hT
              have k50130 : (5 : Int32).toInt = 5 := by decide
              refine lv_iconst (v := 1) hx hb dX13_rots_134 (by decide) ?_
              refine t_ist X hT m1 g1 rfl (by omega) (row_fv (by omega) (Or.inr (Or.inr (by omega)))) dX13_rots_135 (fun F H locs hT v50131 h1v50131 h2v50131 => ?_)
              have pf0 := (h2v50131 _ _).trans pf0
              have hv50051 := (h2v50131 _ _).trans hv50051
              have vz50053 := (h1v50131 _ _ (Or.inl (tne gb50052 g1 (by decide)))).trans vz50053
              have hv50096 := (h2v50131 _ _).trans hv50096
              have vz50098 := (h1v50131 _ _ (Or.inl (tne gb50097 g1 (by decide)))).trans vz50098
              have hv50123 := (h2v50131 _ _).trans hv50123
              have vz50125 := (h1v50131 _ _ (Or.inl (tne gb50124 g1 (by decide)))).trans vz50125
              have hfr : (∀ b j : Nat, fld F b j = fld Fo b j) ∧ (∀ b j : Nat, tag b ≠ 37 → elm F b j = elm Fo b j) := ⟨fun b j  => (h2v50131 b j).trans (hfr.1 b j ), fun b j a37 => (h1v50131 b j (Or.inl (at_ne g1 a37))).trans (hfr.2 b j a37)⟩
              exact t_vret hQ X hT hfr (Nat.le_of_ble_eq_true rfl) (Nat.le_of_ble_eq_true rfl) dX13_rots_136
    · have w50132 := cv_eq (rfl : z50041.toInt = z50041.toInt) (by decide : (1 : Int32).toInt = 1) c50042
      exact t_vret hQ X hT hfr (Nat.le_of_ble_eq_true rfl) (Nat.le_of_ble_eq_true rfl) dX13_rots_25
set_option maxHeartbeats 4000000 in
set_option maxRecDepth 100000 in
theorem km180_X13_yearOf (l : Launch) (G : KG) (tag : Nat → Nat) (L : List Nat) (Fo : Nat → va_E) (ho : okT G ttC tag L Fo) (p0 : Nat) (p1 : Nat) (p2 : Int32) (x0 : Nat) (m0 : p0 ∈ L) (g0 : tag p0 = 46) (m1 : p1 ∈ L) (g1 : tag p1 = 37) (h2 : 0 ≤ p2.toInt ∧ p2.toInt ≤ 3) (mx0 : x0 ∈ L) (gx0 : tag x0 = 45) (pf0 : fld Fo p0 3 = .ref x0) : TMv l yX13_yearOf cX13_yearOf 4 { frames := 5, cells := 0, slots := 0, locals := 125 } G ttC tag L Fo [.ref p0, .ref p1, .int p2] (fun F1 => ((∀ b j : Nat, (tag b ≠ 46 ∨ j ≠ 22) → (tag b ≠ 46 ∨ j ≠ 23) → fld F1 b j = fld Fo b j) ∧ (∀ b j : Nat, tag b ≠ 37 → elm F1 b j = elm Fo b j))) := by
  refine t_bodyv (y := yX13_yearOf) (cd := cX13_yearOf) (mL := 4) (rm := { frames := 5, cells := 0, slots := 0, locals := 125 }) (av := [.ref p0, .ref p1, .int p2]) (by decide) (Nat.le_of_ble_eq_true rfl) ho ?_
  intro p e s m args below meth c ls A Q hQ X hT hl
  have hx := X.1.1
  have hb := X.1.2.1
  have hl : lv_has ls 4 [(0, .ref p0), (1, .ref p1), (2, .int p2)] := hl
  obtain ⟨F, hFo⟩ : ∃ F : Nat → va_E, F = Fo := ⟨_, rfl⟩
  rw [← hFo] at hT pf0
  have hfr : (∀ b j : Nat, (tag b ≠ 46 ∨ j ≠ 22) → (tag b ≠ 46 ∨ j ≠ 23) → fld F b j = fld Fo b j) ∧ (∀ b j : Nat, tag b ≠ 37 → elm F b j = elm Fo b j) := by
    rw [hFo]
    exact ⟨by intros; rfl, by intros; rfl⟩
  have K168 : ∀ (z51802 : Int32) (z51803 : Int32) (z51804 : Int32) (z51805 : Int32) (F : Nat → va_E) (H : Heap) (locs : List Loc) (ls : Array Slot), (1 ≤ z51802.toInt ∧ z51802.toInt ≤ 7) → TH G ttC A s tag L F H locs → ((∀ b j : Nat, (tag b ≠ 46 ∨ j ≠ 22) → (tag b ≠ 46 ∨ j ≠ 23) → fld F b j = fld Fo b j) ∧ (∀ b j : Nat, tag b ≠ 37 → elm F b j = elm Fo b j)) → (fld F p0 3 = .ref x0) → (fld F x0 5 = .int z51803) → (fld F x0 3 = .int z51804) → (fld F x0 4 = .int z51805) → lv_has ls 4 [(0, .ref p0), (1, .ref p1), (2, .int p2), (3, .int z51802)] → W p l e { frames := 5, cells := 0, slots := 0, locals := 125 } s m args below meth c H locs 0 0 Q (F0 m 168 ls []) := by
    intro z51802 z51803 z51804 z51805 F H locs ls rz51802 hT hfr pf0 qz51803 qz51804 qz51805 hl
    have rz51803 := rg_all z51803
    have rz51804 := rg_all z51804
    have rz51805 := rg_all z51805
    refine lv_aload_n hx hb dX13_yearOf_168 rfl (lv_at hl 0 rfl) ?_
    refine lv_aload_n hx hb dX13_yearOf_169 rfl (lv_at hl 1 rfl) ?_
    refine lv_iload_n hx hb dX13_yearOf_170 rfl (lv_at hl 2 rfl) ?_
    obtain ⟨z51806, qz51806, rz51806⟩ := t_elm hT m1 g1 rfl (i := p2) (by omega)
    have rz51806 := row_ml (by omega) rz51806
    have rz51806 : 0 ≤ z51806.toInt ∧ z51806.toInt ≤ 6 := rz51806
    refine t_cVi (n := 2) (C := RX13) (T := TX13) (N := 37) (As := [.ref p1, .int p2]) (rest := []) X hT (km146_X13_findsDoor l G tag L F hT.2.2.2 p0 p1 p2 x0 z51806 m0 g0 m1 g1 (by omega) mx0 gx0 pf0 (by omega) qz51806) m0 g0 rfl rfl qw_934 qw_935 qw_936 qw_5 qw_937 ⟨rfl, by decide +kernel, by decide +kernel, by decide +kernel⟩ ⟨Nat.le_of_ble_eq_true rfl, Nat.le_of_ble_eq_true rfl⟩ hl rfl rfl (Nat.le_of_ble_eq_true rfl) dX13_yearOf_171 ⟨Nat.le_of_ble_eq_true rfl, Nat.le_of_ble_eq_true rfl⟩ (fun z51807 F H locs hT hz51807 => ?_)
    obtain ⟨hz51807, yz51807, xz51807_0⟩ := hz51807
    have qz51803 := (yz51807.1 _ 5 (Or.inr (by decide)) (Or.inr (by decide))).trans qz51803
    have qz51804 := (yz51807.1 _ 3 (Or.inr (by decide)) (Or.inr (by decide))).trans qz51804
    have qz51805 := (yz51807.1 _ 4 (Or.inr (by decide)) (Or.inr (by decide))).trans qz51805
    have pf0 := (yz51807.1 _ 3 (Or.inr (by decide)) (Or.inr (by decide))).trans pf0
    have qz51806 := (yz51807.2 _ _ ).trans qz51806
    have hfr : (∀ b j : Nat, (tag b ≠ 46 ∨ j ≠ 22) → (tag b ≠ 46 ∨ j ≠ 23) → fld F b j = fld Fo b j) ∧ (∀ b j : Nat, tag b ≠ 37 → elm F b j = elm Fo b j) := ⟨fun b j n46_22 n46_23 => (yz51807.1 b j n46_22 n46_23).trans (hfr.1 b j n46_22 n46_23), fun b j a37 => (yz51807.2 b j ).trans (hfr.2 b j a37)⟩
    refine lv_if_eq (tgt := 201) hx hb dX13_yearOf_174 (by decide) (fun c51808 => ?_) (fun c51808 => ?_)
    · have w51809 := cv_eq (rfl : z51807.toInt = z51807.toInt) (by decide : (0 : Int32).toInt = 0) c51808
      exact t_vret hQ X hT hfr (Nat.le_of_ble_eq_true rfl) (Nat.le_of_ble_eq_true rfl) dX13_yearOf_201
    · have w51810 := cv_ne (rfl : z51807.toInt = z51807.toInt) (by decide : (0 : Int32).toInt = 0) c51808
      have w51811 := xz51807_0 (by omega)
      refine lv_aload_n hx hb dX13_yearOf_177 rfl (lv_at hl 1 rfl) ?_
      refine lv_bipush (v := 8) hx hb dX13_yearOf_178 (by decide) ?_
      refine lv_iload_n hx hb dX13_yearOf_180 rfl (lv_at hl 2 rfl) ?_
      refine lv_iadd hx hb dX13_yearOf_181 ?_
      refine lv_topi (fun z51812 ez51812 => ?_)
      have hz51812 : z51812.toInt = 8 + p2.toInt := ar_add ez51812 (by decide : (8 : Int32).toInt = 8) (rfl : p2.toInt = p2.toInt) (by omega) (by omega)
      have rz51812 : 8 ≤ z51812.toInt ∧ z51812.toInt ≤ 11 := by omega
      refine t_ild X hT m1 g1 rfl (by omega) dX13_yearOf_182 (fun z51813 vz51813 rz51813 => ?_)
      have oz51813 := rz51813
      have rz51813 := rg_all z51813
      refine lv_aload_n hx hb dX13_yearOf_183 rfl (lv_at hl 0 rfl) ?_
      refine lv_aload_n hx hb dX13_yearOf_184 rfl (lv_at hl 1 rfl) ?_
      refine lv_iload_n hx hb dX13_yearOf_185 rfl (lv_at hl 2 rfl) ?_
      refine lv_aload_n hx hb dX13_yearOf_186 rfl (lv_at hl 0 rfl) ?_
      refine t_get (C := RX13) (T := TX13) (N := 37) X hT m0 g0 rfl rfl 3 (by decide) qw_481 inlX13 rfl dX13_yearOf_187 (fun v51814 hv51814 ov51814 => ?_)
      obtain rfl : v51814 = .ref x0 := hv51814.symm.trans pf0
      refine t_getN (C := RX12) (T := TX12) (N := 31) X hT mx0 gx0 rfl rfl 22 (by decide) (List.mem_of_getElem? (i := 26) rfl) inlX12 rfl dX13_yearOf_190 (fun v51815 hv51815 ov51815 => ?_)
      obtain ⟨b51816, rfl, mb51816, gb51816⟩ := okV_r ov51815
      have gb51816 : tag b51816 = 31 := tg_of gb51816
      refine lv_iload_n hx hb dX13_yearOf_193 rfl (lv_at hl 2 rfl) ?_
      refine t_ild X hT mb51816 gb51816 rfl (by omega) dX13_yearOf_194 (fun z51817 vz51817 rz51817 => ?_)
      have rz51817 : 0 ≤ z51817.toInt ∧ z51817.toInt ≤ 3 := rz51817
      refine t_cVi (n := 3) (C := RX13) (T := TX13) (N := 37) (As := [.ref p1, .int p2, .int z51817]) (rest := [.int z51813]) X hT (km151_X13_costOf l G tag L F hT.2.2.2 p0 p1 p2 z51817 x0 m0 g0 m1 g1 (by omega) (by omega) mx0 gx0 pf0) m0 g0 rfl rfl qw_971 qw_972 qw_973 qw_5 qw_974 ⟨rfl, by decide +kernel, by decide +kernel, by decide +kernel⟩ ⟨Nat.le_of_ble_eq_true rfl, Nat.le_of_ble_eq_true rfl⟩ hl rfl rfl (Nat.le_of_ble_eq_true rfl) dX13_yearOf_195 ⟨Nat.le_of_ble_eq_true rfl, Nat.le_of_ble_eq_true rfl⟩ (fun z51818 F9 H locs hT hz51818 => ?_)
      obtain ⟨fz51818, hz51818⟩ := hz51818
      rw [fz51818] at hT
      refine lv_icmp_ge (tgt := 202) hx hb dX13_yearOf_198 (by decide) (fun c51819 => ?_) (fun c51819 => ?_)
      · have w51820 := cv_le (rfl : z51818.toInt = z51818.toInt) (rfl : z51813.toInt = z51813.toInt) c51819
        refine lv_aload_n hx hb dX13_yearOf_202 rfl (lv_at hl 1 rfl) ?_
        refine lv_bipush (v := 8) hx hb dX13_yearOf_203 (by decide) ?_
        refine lv_iload_n hx hb dX13_yearOf_205 rfl (lv_at hl 2 rfl) ?_
        refine lv_iadd hx hb dX13_yearOf_206 ?_
        refine lv_topi (fun z51821 ez51821 => ?_)
        have hz51821 : z51821.toInt = 8 + p2.toInt := ar_add ez51821 (by decide : (8 : Int32).toInt = 8) (rfl : p2.toInt = p2.toInt) (by omega) (by omega)
        have rz51821 : 8 ≤ z51821.toInt ∧ z51821.toInt ≤ 11 := by omega
        refine lv_dup2_11 hx hb dX13_yearOf_207 rfl rfl ?_
        refine t_ild X hT m1 g1 rfl (by omega) dX13_yearOf_208 (fun z51822 vz51822 rz51822 => ?_)
        have oz51822 := rz51822
        have rz51822 := rg_all z51822
        refine lv_aload_n hx hb dX13_yearOf_209 rfl (lv_at hl 0 rfl) ?_
        refine lv_aload_n hx hb dX13_yearOf_210 rfl (lv_at hl 1 rfl) ?_
        refine lv_iload_n hx hb dX13_yearOf_211 rfl (lv_at hl 2 rfl) ?_
        refine lv_aload_n hx hb dX13_yearOf_212 rfl (lv_at hl 0 rfl) ?_
        refine t_get (C := RX13) (T := TX13) (N := 37) X hT m0 g0 rfl rfl 3 (by decide) qw_481 inlX13 rfl dX13_yearOf_213 (fun v51823 hv51823 ov51823 => ?_)
        obtain rfl : v51823 = .ref x0 := hv51823.symm.trans pf0
        refine t_getN (C := RX12) (T := TX12) (N := 31) X hT mx0 gx0 rfl rfl 22 (by decide) (List.mem_of_getElem? (i := 26) rfl) inlX12 rfl dX13_yearOf_216 (fun v51824 hv51824 ov51824 => ?_)
        obtain rfl : v51824 = .ref b51816 := hv51824.symm.trans hv51815
        refine lv_iload_n hx hb dX13_yearOf_219 rfl (lv_at hl 2 rfl) ?_
        refine t_ild X hT mb51816 gb51816 rfl (by omega) dX13_yearOf_220 (fun z51825 vz51825 rz51825 => ?_)
        obtain rfl : z51817 = z51825 := vz51817.symm.trans vz51825
        refine t_cVi (n := 3) (C := RX13) (T := TX13) (N := 37) (As := [.ref p1, .int p2, .int z51817]) (rest := [.int z51822, .int z51821, .ref p1]) X hT (km151_X13_costOf l G tag L F hT.2.2.2 p0 p1 p2 z51817 x0 m0 g0 m1 g1 (by omega) (by omega) mx0 gx0 pf0) m0 g0 rfl rfl qw_971 qw_972 qw_973 qw_5 qw_974 ⟨rfl, by decide +kernel, by decide +kernel, by decide +kernel⟩ ⟨Nat.le_of_ble_eq_true rfl, Nat.le_of_ble_eq_true rfl⟩ hl rfl rfl (Nat.le_of_ble_eq_true rfl) dX13_yearOf_221 ⟨Nat.le_of_ble_eq_true rfl, Nat.le_of_ble_eq_true rfl⟩ (fun z51826 F9 H locs hT hz51826 => ?_)
        obtain ⟨fz51826, hz51826⟩ := hz51826
        rw [fz51826] at hT
        refine lv_isub hx hb dX13_yearOf_224 ?_
        refine lv_topi (fun z51827 ez51827 => ?_)
        have rz51827 := rg_all z51827
        refine t_ist X hT m1 g1 rfl (by omega) (row_fv (by omega) (Or.inl (by omega))) dX13_yearOf_225 (fun F H locs hT v51828 h1v51828 h2v51828 => ?_)
        have qz51803 := (h2v51828 _ _).trans qz51803
        have qz51804 := (h2v51828 _ _).trans qz51804
        have qz51805 := (h2v51828 _ _).trans qz51805
        have pf0 := (h2v51828 _ _).trans pf0
        have qz51806 := (h1v51828 _ _ (Or.inr (ine (by omega) (by omega) (by omega)))).trans qz51806
        have hv51815 := (h2v51828 _ _).trans hv51815
        have vz51817 := (h1v51828 _ _ (Or.inl (tne gb51816 g1 (by decide)))).trans vz51817
        have hfr : (∀ b j : Nat, (tag b ≠ 46 ∨ j ≠ 22) → (tag b ≠ 46 ∨ j ≠ 23) → fld F b j = fld Fo b j) ∧ (∀ b j : Nat, tag b ≠ 37 → elm F b j = elm Fo b j) := ⟨fun b j n46_22 n46_23 => (h2v51828 b j).trans (hfr.1 b j n46_22 n46_23), fun b j a37 => (h1v51828 b j (Or.inl (at_ne g1 a37))).trans (hfr.2 b j a37)⟩
        refine lv_aload_n hx hb dX13_yearOf_226 rfl (lv_at hl 1 rfl) ?_
        refine lv_iload_n hx hb dX13_yearOf_227 rfl (lv_at hl 2 rfl) ?_
        refine lv_aload_n hx hb dX13_yearOf_228 rfl (lv_at hl 0 rfl) ?_
        refine t_get (C := RX13) (T := TX13) (N := 37) X hT m0 g0 rfl rfl 3 (by decide) qw_481 inlX13 rfl dX13_yearOf_229 (fun v51829 hv51829 ov51829 => ?_)
        obtain rfl : v51829 = .ref x0 := hv51829.symm.trans pf0
        refine t_getN (C := RX12) (T := TX12) (N := 31) X hT mx0 gx0 rfl rfl 22 (by decide) (List.mem_of_getElem? (i := 26) rfl) inlX12 rfl dX13_yearOf_232 (fun v51830 hv51830 ov51830 => ?_)
        obtain rfl : v51830 = .ref b51816 := hv51830.symm.trans hv51815
        refine lv_iload_n hx hb dX13_yearOf_235 rfl (lv_at hl 2 rfl) ?_
        refine t_ild X hT mb51816 gb51816 rfl (by omega) dX13_yearOf_236 (fun z51831 vz51831 rz51831 => ?_)
        obtain rfl : z51817 = z51831 := vz51817.symm.trans vz51831
        refine lv_aload_n hx hb dX13_yearOf_237 rfl (lv_at hl 0 rfl) ?_
        refine t_get (C := RX13) (T := TX13) (N := 37) X hT m0 g0 rfl rfl 22 (by decide) qw_932 inlX13 rfl dX13_yearOf_238 (fun v51832 hv51832 ov51832 => ?_)
        obtain ⟨z51833, rfl, rz51833⟩ := okV_i ov51832
        refine lv_aload_n hx hb dX13_yearOf_241 rfl (lv_at hl 0 rfl) ?_
        refine t_get (C := RX13) (T := TX13) (N := 37) X hT m0 g0 rfl rfl 23 (by decide) qw_933 inlX13 rfl dX13_yearOf_242 (fun v51834 hv51834 ov51834 => ?_)
        obtain ⟨z51835, rfl, rz51835⟩ := okV_i ov51834
        refine lv_aload_n hx hb dX13_yearOf_245 rfl (lv_at hl 1 rfl) ?_
        refine lv_iconst (v := 4) hx hb dX13_yearOf_246 (by decide) ?_
        refine lv_iload_n hx hb dX13_yearOf_247 rfl (lv_at hl 2 rfl) ?_
        refine lv_iadd hx hb dX13_yearOf_248 ?_
        refine lv_topi (fun z51836 ez51836 => ?_)
        have hz51836 : z51836.toInt = 4 + p2.toInt := ar_add ez51836 (by decide : (4 : Int32).toInt = 4) (rfl : p2.toInt = p2.toInt) (by omega) (by omega)
        have rz51836 : 4 ≤ z51836.toInt ∧ z51836.toInt ≤ 7 := by omega
        refine t_ild X hT m1 g1 rfl (by omega) dX13_yearOf_249 (fun z51837 vz51837 rz51837 => ?_)
        have oz51837 := rz51837
        have rz51837 := rg_all z51837
        refine lv_bipush (v := 10) hx hb dX13_yearOf_250 (by decide) ?_
        refine lv_irem hx hb dX13_yearOf_252 (by decide) ?_
        refine lv_topi (fun z51838 ez51838 => ?_)
        have rz51838 := rg_all z51838
        refine lv_aload_n hx hb dX13_yearOf_253 rfl (lv_at hl 1 rfl) ?_
        refine lv_sipush (v := 210) hx hb dX13_yearOf_254 (by decide) ?_
        refine t_ild X hT m1 g1 rfl (by decide) dX13_yearOf_257 (fun z51839 vz51839 rz51839 => ?_)
        have oz51839 := rz51839
        have rz51839 := rg_all z51839
        refine t_cSv (n := 7) (As := [.ref p1, .int p2, .int z51817, .int z51833, .int z51835, .int z51838, .int z51839]) (rest := []) X hT (km50_X13_adds l G tag L F hT.2.2.2 p1 p2 z51817 z51833 z51835 z51838 z51839 z51806 m1 g1 (by omega) (by omega) (by omega) qz51806) qw_658 qw_659 qw_5 qw_660 ⟨by decide +kernel, by decide +kernel, by decide +kernel⟩ ⟨Nat.le_of_ble_eq_true rfl, Nat.le_of_ble_eq_true rfl⟩ hl rfl rfl (Nat.le_of_ble_eq_true rfl) dX13_yearOf_258 ⟨Nat.le_of_ble_eq_true rfl, Nat.le_of_ble_eq_true rfl⟩ (fun F H locs hT hz51840 => ?_)
        obtain ⟨yz51840, xz51840_0⟩ := hz51840
        have qz51803 := (yz51840.1 _ 5 ).trans qz51803
        have qz51804 := (yz51840.1 _ 3 ).trans qz51804
        have qz51805 := (yz51840.1 _ 4 ).trans qz51805
        have pf0 := (yz51840.1 _ 3 ).trans pf0
        have hv51815 := (yz51840.1 _ 22 ).trans hv51815
        have vz51817 := (yz51840.2 _ _ (by rw [gb51816]; decide)).trans vz51817
        have hv51832 := (yz51840.1 _ 22 ).trans hv51832
        have hv51834 := (yz51840.1 _ 23 ).trans hv51834
        have hfr : (∀ b j : Nat, (tag b ≠ 46 ∨ j ≠ 22) → (tag b ≠ 46 ∨ j ≠ 23) → fld F b j = fld Fo b j) ∧ (∀ b j : Nat, tag b ≠ 37 → elm F b j = elm Fo b j) := ⟨fun b j n46_22 n46_23 => (yz51840.1 b j ).trans (hfr.1 b j n46_22 n46_23), fun b j a37 => (yz51840.2 b j a37).trans (hfr.2 b j a37)⟩
        obtain ⟨z51841, qz51841, hz51841⟩ := xz51840_0
        have rz51841 : 1 ≤ z51841.toInt ∧ z51841.toInt ≤ 6 := by omega
        exact t_vret hQ X hT hfr (Nat.le_of_ble_eq_true rfl) (Nat.le_of_ble_eq_true rfl) dX13_yearOf_261
      · have w51842 := cv_nle (rfl : z51818.toInt = z51818.toInt) (rfl : z51813.toInt = z51813.toInt) c51819
        exact t_vret hQ X hT hfr (Nat.le_of_ble_eq_true rfl) (Nat.le_of_ble_eq_true rfl) dX13_yearOf_201
  have K112 : ∀ (n : Nat) (z51843 : Int32) (z51844 : Int32) (z51845 : Int32) (z51846 : Int32) (F : Nat → va_E) (H : Heap) (locs : List Loc) (ls : Array Slot), (7 - z51843.toInt < (n : Int)) → (1 ≤ z51843.toInt ∧ z51843.toInt ≤ 7) → ((-2147483647) ≤ z51846.toInt ∧ z51846.toInt ≤ 2147483647) → TH G ttC A s tag L F H locs → ((∀ b j : Nat, (tag b ≠ 46 ∨ j ≠ 22) → (tag b ≠ 46 ∨ j ≠ 23) → fld F b j = fld Fo b j) ∧ (∀ b j : Nat, tag b ≠ 37 → elm F b j = elm Fo b j)) → (fld F p0 3 = .ref x0) → (fld F x0 5 = .int z51844) → (fld F x0 3 = .int z51845) → (fld F x0 4 = .int z51846) → lv_has ls 4 [(0, .ref p0), (1, .ref p1), (2, .int p2), (3, .int z51843)] → W p l e { frames := 5, cells := 0, slots := 0, locals := 125 } s m args below meth c H locs 0 0 Q (F0 m 112 ls []) := by
    intro n
    induction n with
    | zero =>
      intro z51843 z51844 z51845 z51846 F H locs ls hn rz51843 rz51846 hT hfr pf0 qz51844 qz51845 qz51846 hl
      have rz51844 := rg_all z51844
      have rz51845 := rg_all z51845
      exfalso
      omega
    | succ n ih112 =>
      intro z51843 z51844 z51845 z51846 F H locs ls hn rz51843 rz51846 hT hfr pf0 qz51844 qz51845 qz51846 hl
      have rz51844 := rg_all z51844
      have rz51845 := rg_all z51845
      have K162 : ∀ (z51848 : Int32) (z51849 : Int32) (z51850 : Int32) (F : Nat → va_E) (H : Heap) (locs : List Loc) (ls : Array Slot), ((-2147483647) ≤ z51850.toInt ∧ z51850.toInt ≤ 2147483647) → (1 ≤ z51843.toInt ∧ z51843.toInt ≤ 6) → TH G ttC A s tag L F H locs → ((∀ b j : Nat, (tag b ≠ 46 ∨ j ≠ 22) → (tag b ≠ 46 ∨ j ≠ 23) → fld F b j = fld Fo b j) ∧ (∀ b j : Nat, tag b ≠ 37 → elm F b j = elm Fo b j)) → (fld F p0 3 = .ref x0) → (fld F x0 5 = .int z51848) → (fld F x0 3 = .int z51849) → (fld F x0 4 = .int z51850) → lv_has ls 4 [(0, .ref p0), (1, .ref p1), (2, .int p2), (3, .int z51843)] → W p l e { frames := 5, cells := 0, slots := 0, locals := 125 } s m args below meth c H locs 0 0 Q (F0 m 162 ls []) := by
        intro z51848 z51849 z51850 F H locs ls rz51850 r9s51847 hT hfr pf0 qz51848 qz51849 qz51850 hl
        have rz51848 := rg_all z51848
        have rz51849 := rg_all z51849
        obtain ⟨z51851, ez51851⟩ : ∃ y : Int32, y = z51843 + 1 := ⟨_, rfl⟩
        have hz51851 : z51851.toInt = z51843.toInt + 1 := ar_add ez51851 rfl (by decide : (1 : Int32).toInt = 1) (by omega) (by omega)
        refine lv_iinc (v := z51851) (lv' := [(3, .int z51851), (0, .ref p0), (1, .ref p1), (2, .int p2)]) hx hb dX13_yearOf_162 hl (k := 3) rfl (by rw [ez51851]; rfl) (by decide) rfl (fun ls hl => ?_)
        refine lv_goto (tgt := 112) hx hb dX13_yearOf_165 (by decide) ?_
        exact ih112 z51851 z51848 z51849 z51850 _ _ _ _ (by omega) (by omega) (by omega) hT hfr pf0 qz51848 qz51849 qz51850 (lv_sub hl [1, 2, 3, 0] rfl)
      refine lv_iload_n hx hb dX13_yearOf_112 rfl (lv_at hl 3 rfl) ?_
      refine lv_aload_n hx hb dX13_yearOf_113 rfl (lv_at hl 1 rfl) ?_
      refine lv_iconst (v := 0) hx hb dX13_yearOf_114 (by decide) ?_
      refine lv_iload_n hx hb dX13_yearOf_115 rfl (lv_at hl 2 rfl) ?_
      refine lv_iadd hx hb dX13_yearOf_116 ?_
      refine lv_topi (fun z51852 ez51852 => ?_)
      obtain rfl : p2 = z51852 := (ar_zadd ez51852).symm
      refine t_ild X hT m1 g1 rfl (by omega) dX13_yearOf_117 (fun z51853 vz51853 rz51853 => ?_)
      have rz51853 := row_ml (by omega) rz51853
      refine lv_icmp_gt (tgt := 168) hx hb dX13_yearOf_118 (by decide) (fun c51854 => ?_) (fun c51854 => ?_)
      · have w51855 := cv_lt (rfl : z51853.toInt = z51853.toInt) (rfl : z51843.toInt = z51843.toInt) c51854
        exact K168 z51843 z51844 z51845 z51846 _ _ _ _ (by omega) hT hfr pf0 qz51844 qz51845 qz51846 (lv_sub hl [0, 1, 2, 3] rfl)
      · have w51856 := cv_nlt (rfl : z51853.toInt = z51853.toInt) (rfl : z51843.toInt = z51843.toInt) c51854
        refine lv_aload_n hx hb dX13_yearOf_121 rfl (lv_at hl 0 rfl) ?_
        refine t_get (C := RX13) (T := TX13) (N := 37) X hT m0 g0 rfl rfl 3 (by decide) qw_481 inlX13 rfl dX13_yearOf_122 (fun v51857 hv51857 ov51857 => ?_)
        obtain rfl : v51857 = .ref x0 := hv51857.symm.trans pf0
        refine t_getN (C := RX12) (T := TX12) (N := 31) X hT mx0 gx0 rfl rfl 16 (by decide) (List.mem_of_getElem? (i := 20) rfl) inlX12 rfl dX13_yearOf_125 (fun v51858 hv51858 ov51858 => ?_)
        obtain ⟨b51859, rfl, mb51859, gb51859⟩ := okV_r ov51858
        have gb51859 : tag b51859 = 29 := tg_of gb51859
        refine lv_aload_n hx hb dX13_yearOf_128 rfl (lv_at hl 1 rfl) ?_
        refine lv_iload_n hx hb dX13_yearOf_129 rfl (lv_at hl 2 rfl) ?_
        refine lv_iload_n hx hb dX13_yearOf_130 rfl (lv_at hl 3 rfl) ?_
        refine lv_iconst (v := 0) hx hb dX13_yearOf_131 (by decide) ?_
        refine t_cSi (n := 3) (As := [.int p2, .int z51843, .int 0]) (rest := [.ref p1, .ref b51859]) X hT (km49_X13_part l G tag L F hT.2.2.2 p2 z51843 0 (by omega) (by omega) (by decide)) qw_661 qw_662 qw_5 qw_663 ⟨by decide +kernel, by decide +kernel, by decide +kernel⟩ ⟨Nat.le_of_ble_eq_true rfl, Nat.le_of_ble_eq_true rfl⟩ hl rfl rfl (Nat.le_of_ble_eq_true rfl) dX13_yearOf_132 ⟨Nat.le_of_ble_eq_true rfl, Nat.le_of_ble_eq_true rfl⟩ (fun z51860 F9 H locs hT hz51860 => ?_)
        obtain ⟨fz51860, hz51860, xz51860_0⟩ := hz51860
        rw [fz51860] at hT
        have k51861 : (0 : Int32).toInt = 0 := by decide
        refine t_ild X hT m1 g1 rfl (by omega) dX13_yearOf_135 (fun z51862 vz51862 rz51862 => ?_)
        have rz51862 := row_sl (by omega) (by omega) rz51862
        refine t_ild X hT mb51859 gb51859 rfl (by omega) dX13_yearOf_136 (fun z51863 vz51863 rz51863 => ?_)
        have rz51863 : (-2147483648) ≤ z51863.toInt ∧ z51863.toInt ≤ 2147483647 := rz51863
        refine lv_iconst (v := 2) hx hb dX13_yearOf_137 (by decide) ?_
        refine lv_icmp_ne (tgt := 162) hx hb dX13_yearOf_138 (by decide) (fun c51864 => ?_) (fun c51864 => ?_)
        · have w51865 := cv_ne (rfl : z51863.toInt = z51863.toInt) (by decide : (2 : Int32).toInt = 2) c51864
          exact K162 z51844 z51845 z51846 _ _ _ _ (by omega) (by omega) hT hfr pf0 qz51844 qz51845 qz51846 (lv_sub hl [0, 1, 2, 3] rfl)
        · have w51866 := cv_eq (rfl : z51863.toInt = z51863.toInt) (by decide : (2 : Int32).toInt = 2) c51864
          refine lv_aload_n hx hb dX13_yearOf_141 rfl (lv_at hl 1 rfl) ?_
          refine lv_iload_n hx hb dX13_yearOf_142 rfl (lv_at hl 2 rfl) ?_
          refine lv_iload_n hx hb dX13_yearOf_143 rfl (lv_at hl 3 rfl) ?_
          refine lv_bipush (v := 6) hx hb dX13_yearOf_144 (by decide) ?_
          refine t_cSi (n := 3) (As := [.int p2, .int z51843, .int 6]) (rest := [.ref p1]) X hT (km49_X13_part l G tag L F hT.2.2.2 p2 z51843 6 (by omega) (by omega) (by decide)) qw_661 qw_662 qw_5 qw_663 ⟨by decide +kernel, by decide +kernel, by decide +kernel⟩ ⟨Nat.le_of_ble_eq_true rfl, Nat.le_of_ble_eq_true rfl⟩ hl rfl rfl (Nat.le_of_ble_eq_true rfl) dX13_yearOf_146 ⟨Nat.le_of_ble_eq_true rfl, Nat.le_of_ble_eq_true rfl⟩ (fun z51867 F9 H locs hT hz51867 => ?_)
          obtain ⟨fz51867, hz51867, xz51867_0⟩ := hz51867
          rw [fz51867] at hT
          have k51868 : (6 : Int32).toInt = 6 := by decide
          refine t_ild X hT m1 g1 rfl (by omega) dX13_yearOf_149 (fun z51869 vz51869 rz51869 => ?_)
          have oz51869 := rz51869
          have rz51869 := rg_all z51869
          refine lv_if_ne (tgt := 162) hx hb dX13_yearOf_150 (by decide) (fun c51870 => ?_) (fun c51870 => ?_)
          · have w51871 := cv_ne (rfl : z51869.toInt = z51869.toInt) (by decide : (0 : Int32).toInt = 0) c51870
            exact K162 z51844 z51845 z51846 _ _ _ _ (by omega) (by omega) hT hfr pf0 qz51844 qz51845 qz51846 (lv_sub hl [0, 1, 2, 3] rfl)
          · have w51872 := cv_eq (rfl : z51869.toInt = z51869.toInt) (by decide : (0 : Int32).toInt = 0) c51870
            refine lv_aload_n hx hb dX13_yearOf_153 rfl (lv_at hl 1 rfl) ?_
            refine lv_iload_n hx hb dX13_yearOf_154 rfl (lv_at hl 2 rfl) ?_
            refine lv_iload_n hx hb dX13_yearOf_155 rfl (lv_at hl 3 rfl) ?_
            refine lv_iconst (v := 5) hx hb dX13_yearOf_156 (by decide) ?_
            refine t_cSi (n := 3) (As := [.int p2, .int z51843, .int 5]) (rest := [.ref p1]) X hT (km49_X13_part l G tag L F hT.2.2.2 p2 z51843 5 (by omega) (by omega) (by decide)) qw_661 qw_662 qw_5 qw_663 ⟨by decide +kernel, by decide +kernel, by decide +kernel⟩ ⟨Nat.le_of_ble_eq_true rfl, Nat.le_of_ble_eq_true rfl⟩ hl rfl rfl (Nat.le_of_ble_eq_true rfl) dX13_yearOf_157 ⟨Nat.le_of_ble_eq_true rfl, Nat.le_of_ble_eq_true rfl⟩ (fun z51873 F9 H locs hT hz51873 => ?_)
            obtain ⟨fz51873, hz51873, xz51873_0⟩ := hz51873
            rw [fz51873] at hT
            have k51874 : (5 : Int32).toInt = 5 := by decide
            refine lv_iconst (v := 1) hx hb dX13_yearOf_160 (by decide) ?_
            refine t_ist X hT m1 g1 rfl (by omega) (row_fv (by omega) (Or.inr (Or.inr (by omega)))) dX13_yearOf_161 (fun F H locs hT v51875 h1v51875 h2v51875 => ?_)
            have qz51844 := (h2v51875 _ _).trans qz51844
            have qz51845 := (h2v51875 _ _).trans qz51845
            have qz51846 := (h2v51875 _ _).trans qz51846
            have pf0 := (h2v51875 _ _).trans pf0
            have vz51853 := (h1v51875 _ _ (Or.inr (ine (by omega) (by omega) (by omega)))).trans vz51853
            have hv51858 := (h2v51875 _ _).trans hv51858
            have vz51863 := (h1v51875 _ _ (Or.inl (tne gb51859 g1 (by decide)))).trans vz51863
            have hfr : (∀ b j : Nat, (tag b ≠ 46 ∨ j ≠ 22) → (tag b ≠ 46 ∨ j ≠ 23) → fld F b j = fld Fo b j) ∧ (∀ b j : Nat, tag b ≠ 37 → elm F b j = elm Fo b j) := ⟨fun b j n46_22 n46_23 => (h2v51875 b j).trans (hfr.1 b j n46_22 n46_23), fun b j a37 => (h1v51875 b j (Or.inl (at_ne g1 a37))).trans (hfr.2 b j a37)⟩
            exact K162 z51844 z51845 z51846 _ _ _ _ (by omega) (by omega) hT hfr pf0 qz51844 qz51845 qz51846 (lv_sub hl [0, 1, 2, 3] rfl)
  have K74 : ∀ (n : Nat) (z51876 : Int32) (z51877 : Int32) (z51878 : Int32) (F : Nat → va_E) (H : Heap) (locs : List Loc) (ls : Array Slot), (7 - z51876.toInt < (n : Int)) → (1 ≤ z51876.toInt ∧ z51876.toInt ≤ 7) → TH G ttC A s tag L F H locs → ((∀ b j : Nat, (tag b ≠ 46 ∨ j ≠ 22) → (tag b ≠ 46 ∨ j ≠ 23) → fld F b j = fld Fo b j) ∧ (∀ b j : Nat, tag b ≠ 37 → elm F b j = elm Fo b j)) → (fld F p0 3 = .ref x0) → (fld F x0 5 = .int z51877) → (fld F x0 3 = .int z51878) → lv_has ls 4 [(0, .ref p0), (1, .ref p1), (2, .int p2), (3, .int z51876)] → W p l e { frames := 5, cells := 0, slots := 0, locals := 125 } s m args below meth c H locs 0 0 Q (F0 m 74 ls []) := by
    intro n
    induction n with
    | zero =>
      intro z51876 z51877 z51878 F H locs ls hn rz51876 hT hfr pf0 qz51877 qz51878 hl
      have rz51877 := rg_all z51877
      have rz51878 := rg_all z51878
      exfalso
      omega
    | succ n ih74 =>
      intro z51876 z51877 z51878 F H locs ls hn rz51876 hT hfr pf0 qz51877 qz51878 hl
      have rz51877 := rg_all z51877
      have rz51878 := rg_all z51878
      refine lv_iload_n hx hb dX13_yearOf_74 rfl (lv_at hl 3 rfl) ?_
      refine lv_aload_n hx hb dX13_yearOf_75 rfl (lv_at hl 1 rfl) ?_
      refine lv_iconst (v := 0) hx hb dX13_yearOf_76 (by decide) ?_
      refine lv_iload_n hx hb dX13_yearOf_77 rfl (lv_at hl 2 rfl) ?_
      refine lv_iadd hx hb dX13_yearOf_78 ?_
      refine lv_topi (fun z51879 ez51879 => ?_)
      obtain rfl : p2 = z51879 := (ar_zadd ez51879).symm
      refine t_ild X hT m1 g1 rfl (by omega) dX13_yearOf_79 (fun z51880 vz51880 rz51880 => ?_)
      have rz51880 := row_ml (by omega) rz51880
      refine lv_icmp_gt (tgt := 96) hx hb dX13_yearOf_80 (by decide) (fun c51881 => ?_) (fun c51881 => ?_)
      · have w51882 := cv_lt (rfl : z51880.toInt = z51880.toInt) (rfl : z51876.toInt = z51876.toInt) c51881
        refine lv_aload_n hx hb dX13_yearOf_96 rfl (lv_at hl 1 rfl) ?_
        refine t_cSi (n := 1) (As := [.ref p1]) (rest := []) X hT (km178_X13_drawn l G tag L F hT.2.2.2 p1 m1 g1) qw_1168 qw_1169 qw_5 qw_1170 ⟨by decide +kernel, by decide +kernel, by decide +kernel⟩ ⟨Nat.le_of_ble_eq_true rfl, Nat.le_of_ble_eq_true rfl⟩ hl rfl rfl (Nat.le_of_ble_eq_true rfl) dX13_yearOf_97 ⟨Nat.le_of_ble_eq_true rfl, Nat.le_of_ble_eq_true rfl⟩ (fun z51883 F H locs hT hz51883 => ?_)
        obtain ⟨hz51883, yz51883⟩ := hz51883
        have qz51877 := (yz51883.1 _ 5 ).trans qz51877
        have qz51878 := (yz51883.1 _ 3 ).trans qz51878
        have pf0 := (yz51883.1 _ 3 ).trans pf0
        have hfr : (∀ b j : Nat, (tag b ≠ 46 ∨ j ≠ 22) → (tag b ≠ 46 ∨ j ≠ 23) → fld F b j = fld Fo b j) ∧ (∀ b j : Nat, tag b ≠ 37 → elm F b j = elm Fo b j) := ⟨fun b j n46_22 n46_23 => (yz51883.1 b j ).trans (hfr.1 b j n46_22 n46_23), fun b j a37 => (yz51883.2 b j a37).trans (hfr.2 b j a37)⟩
        refine lv_aload_n hx hb dX13_yearOf_100 rfl (lv_at hl 0 rfl) ?_
        refine t_get (C := RX13) (T := TX13) (N := 37) X hT m0 g0 rfl rfl 3 (by decide) qw_481 inlX13 rfl dX13_yearOf_101 (fun v51884 hv51884 ov51884 => ?_)
        obtain rfl : v51884 = .ref x0 := hv51884.symm.trans pf0
        refine t_getN (C := RX12) (T := TX12) (N := 31) X hT mx0 gx0 rfl rfl 4 (by decide) (List.mem_of_getElem? (i := 8) rfl) inlX12 rfl dX13_yearOf_104 (fun v51885 hv51885 ov51885 => ?_)
        obtain ⟨z51886, rfl, rz51886⟩ := okV_i ov51885
        refine lv_icmp_ge (tgt := 168) hx hb dX13_yearOf_107 (by decide) (fun c51887 => ?_) (fun c51887 => ?_)
        · have w51888 := cv_le (rfl : z51886.toInt = z51886.toInt) (rfl : z51883.toInt = z51883.toInt) c51887
          exact K168 z51876 z51877 z51878 z51886 _ _ _ _ (by omega) hT hfr pf0 qz51877 qz51878 hv51885 (lv_sub hl [0, 1, 2, 3] rfl)
        · have w51889 := cv_nle (rfl : z51886.toInt = z51886.toInt) (rfl : z51883.toInt = z51883.toInt) c51887
          refine lv_iconst (v := 1) hx hb dX13_yearOf_110 (by decide) ?_
          refine lv_istore_n (lv' := [(3, .int 1), (0, .ref p0), (1, .ref p1), (2, .int p2)]) hx hb dX13_yearOf_111 rfl hl (by decide) rfl (fun ls hl => ?_)
          have k51890 : (1 : Int32).toInt = 1 := by decide
          exact K112 7 1 z51877 z51878 z51886 _ _ _ _ (by omega) (by decide) (by omega) hT hfr pf0 qz51877 qz51878 hv51885 (lv_sub hl [1, 2, 3, 0] rfl)
      · have w51891 := cv_nlt (rfl : z51880.toInt = z51880.toInt) (rfl : z51876.toInt = z51876.toInt) c51881
        refine lv_aload_n hx hb dX13_yearOf_83 rfl (lv_at hl 0 rfl) ?_
        refine lv_aload_n hx hb dX13_yearOf_84 rfl (lv_at hl 1 rfl) ?_
        refine lv_iload_n hx hb dX13_yearOf_85 rfl (lv_at hl 2 rfl) ?_
        refine lv_iload_n hx hb dX13_yearOf_86 rfl (lv_at hl 3 rfl) ?_
        refine t_cVv (n := 3) (C := RX13) (T := TX13) (N := 37) (As := [.ref p1, .int p2, .int z51876]) (rest := []) X hT (km179_X13_rots l G tag L F hT.2.2.2 p0 p1 p2 z51876 x0 m0 g0 m1 g1 (by omega) (by omega) mx0 gx0 pf0) m0 g0 rfl rfl qw_1174 qw_1175 qw_1176 qw_5 qw_1177 ⟨rfl, by decide +kernel, by decide +kernel, by decide +kernel⟩ ⟨Nat.le_of_ble_eq_true rfl, Nat.le_of_ble_eq_true rfl⟩ hl rfl rfl (Nat.le_of_ble_eq_true rfl) dX13_yearOf_87 ⟨Nat.le_of_ble_eq_true rfl, Nat.le_of_ble_eq_true rfl⟩ (fun F H locs hT hz51892 => ?_)
        have yz51892 := hz51892
        have qz51877 := (yz51892.1 _ 5 ).trans qz51877
        have qz51878 := (yz51892.1 _ 3 ).trans qz51878
        have pf0 := (yz51892.1 _ 3 ).trans pf0
        have hfr : (∀ b j : Nat, (tag b ≠ 46 ∨ j ≠ 22) → (tag b ≠ 46 ∨ j ≠ 23) → fld F b j = fld Fo b j) ∧ (∀ b j : Nat, tag b ≠ 37 → elm F b j = elm Fo b j) := ⟨fun b j n46_22 n46_23 => (yz51892.1 b j ).trans (hfr.1 b j n46_22 n46_23), fun b j a37 => (yz51892.2 b j a37).trans (hfr.2 b j a37)⟩
        obtain ⟨z51893, ez51893⟩ : ∃ y : Int32, y = z51876 + 1 := ⟨_, rfl⟩
        have hz51893 : z51893.toInt = z51876.toInt + 1 := ar_add ez51893 rfl (by decide : (1 : Int32).toInt = 1) (by omega) (by omega)
        refine lv_iinc (v := z51893) (lv' := [(3, .int z51893), (0, .ref p0), (1, .ref p1), (2, .int p2)]) hx hb dX13_yearOf_90 hl (k := 3) rfl (by rw [ez51893]; rfl) (by decide) rfl (fun ls hl => ?_)
        refine lv_goto (tgt := 74) hx hb dX13_yearOf_93 (by decide) ?_
        exact ih74 z51893 z51877 z51878 _ _ _ _ (by omega) (by omega) hT hfr pf0 qz51877 qz51878 (lv_sub hl [1, 2, 3, 0] rfl)
  have K72 : ∀ (z51894 : Int32) (z51895 : Int32) (F : Nat → va_E) (H : Heap) (locs : List Loc) (ls : Array Slot), TH G ttC A s tag L F H locs → ((∀ b j : Nat, (tag b ≠ 46 ∨ j ≠ 22) → (tag b ≠ 46 ∨ j ≠ 23) → fld F b j = fld Fo b j) ∧ (∀ b j : Nat, tag b ≠ 37 → elm F b j = elm Fo b j)) → (fld F p0 3 = .ref x0) → (fld F x0 5 = .int z51894) → (fld F x0 3 = .int z51895) → lv_has ls 4 [(0, .ref p0), (1, .ref p1), (2, .int p2)] → W p l e { frames := 5, cells := 0, slots := 0, locals := 125 } s m args below meth c H locs 0 0 Q (F0 m 72 ls []) := by
    intro z51894 z51895 F H locs ls hT hfr pf0 qz51894 qz51895 hl
    have rz51894 := rg_all z51894
    have rz51895 := rg_all z51895
    refine lv_iconst (v := 1) hx hb dX13_yearOf_72 (by decide) ?_
    refine lv_istore_n (lv' := [(3, .int 1), (0, .ref p0), (1, .ref p1), (2, .int p2)]) hx hb dX13_yearOf_73 rfl hl (by decide) rfl (fun ls hl => ?_)
    have k51896 : (1 : Int32).toInt = 1 := by decide
    exact K74 7 1 z51894 z51895 _ _ _ _ (by omega) (by decide) hT hfr pf0 qz51894 qz51895 (lv_sub hl [1, 2, 3, 0] rfl)
  refine lv_aload_n hx hb dX13_yearOf_0 rfl (lv_at hl 1 rfl) ?_
  refine lv_iconst (v := 4) hx hb dX13_yearOf_1 (by decide) ?_
  refine lv_iload_n hx hb dX13_yearOf_2 rfl (lv_at hl 2 rfl) ?_
  refine lv_iadd hx hb dX13_yearOf_3 ?_
  refine lv_topi (fun z51897 ez51897 => ?_)
  have hz51897 : z51897.toInt = 4 + p2.toInt := ar_add ez51897 (by decide : (4 : Int32).toInt = 4) (rfl : p2.toInt = p2.toInt) (by omega) (by omega)
  have rz51897 : 4 ≤ z51897.toInt ∧ z51897.toInt ≤ 7 := by omega
  refine t_ild X hT m1 g1 rfl (by omega) dX13_yearOf_4 (fun z51898 vz51898 rz51898 => ?_)
  have oz51898 := rz51898
  have rz51898 := rg_all z51898
  refine lv_if_ne (tgt := 9) hx hb dX13_yearOf_5 (by decide) (fun c51899 => ?_) (fun c51899 => ?_)
  · have w51900 := cv_ne (rfl : z51898.toInt = z51898.toInt) (by decide : (0 : Int32).toInt = 0) c51899
    refine lv_aload_n hx hb dX13_yearOf_9 rfl (lv_at hl 1 rfl) ?_
    refine lv_bipush (v := 8) hx hb dX13_yearOf_10 (by decide) ?_
    refine lv_iload_n hx hb dX13_yearOf_12 rfl (lv_at hl 2 rfl) ?_
    refine lv_iadd hx hb dX13_yearOf_13 ?_
    refine lv_topi (fun z51901 ez51901 => ?_)
    have hz51901 : z51901.toInt = 8 + p2.toInt := ar_add ez51901 (by decide : (8 : Int32).toInt = 8) (rfl : p2.toInt = p2.toInt) (by omega) (by omega)
    have rz51901 : 8 ≤ z51901.toInt ∧ z51901.toInt ≤ 11 := by omega
    refine lv_sipush (v := 999) hx hb dX13_yearOf_14 (by decide) ?_
    refine lv_aload_n hx hb dX13_yearOf_17 rfl (lv_at hl 1 rfl) ?_
    refine lv_bipush (v := 8) hx hb dX13_yearOf_18 (by decide) ?_
    refine lv_iload_n hx hb dX13_yearOf_20 rfl (lv_at hl 2 rfl) ?_
    refine lv_iadd hx hb dX13_yearOf_21 ?_
    refine lv_topi (fun z51902 ez51902 => ?_)
    have hz51902 : z51902.toInt = 8 + p2.toInt := ar_add ez51902 (by decide : (8 : Int32).toInt = 8) (rfl : p2.toInt = p2.toInt) (by omega) (by omega)
    have rz51902 : 8 ≤ z51902.toInt ∧ z51902.toInt ≤ 11 := by omega
    refine t_ild X hT m1 g1 rfl (by omega) dX13_yearOf_22 (fun z51903 vz51903 rz51903 => ?_)
    have oz51903 := rz51903
    have rz51903 := rg_all z51903
    refine lv_aload_n hx hb dX13_yearOf_23 rfl (lv_at hl 1 rfl) ?_
    refine lv_iconst (v := 4) hx hb dX13_yearOf_24 (by decide) ?_
    refine lv_iload_n hx hb dX13_yearOf_25 rfl (lv_at hl 2 rfl) ?_
    refine lv_iadd hx hb dX13_yearOf_26 ?_
    refine lv_topi (fun z51904 ez51904 => ?_)
    have hz51904 : z51904.toInt = 4 + p2.toInt := ar_add ez51904 (by decide : (4 : Int32).toInt = 4) (rfl : p2.toInt = p2.toInt) (by omega) (by omega)
    have rz51904 : 4 ≤ z51904.toInt ∧ z51904.toInt ≤ 7 := by omega
    refine t_ild X hT m1 g1 rfl (by omega) dX13_yearOf_27 (fun z51905 vz51905 rz51905 => ?_)
    have oz51905 := rz51905
    have rz51905 := rg_all z51905
    refine lv_aload_n hx hb dX13_yearOf_28 rfl (lv_at hl 0 rfl) ?_
    refine t_get (C := RX13) (T := TX13) (N := 37) X hT m0 g0 rfl rfl 3 (by decide) qw_481 inlX13 rfl dX13_yearOf_29 (fun v51906 hv51906 ov51906 => ?_)
    obtain rfl : v51906 = .ref x0 := hv51906.symm.trans pf0
    refine t_getN (C := RX12) (T := TX12) (N := 31) X hT mx0 gx0 rfl rfl 5 (by decide) (List.mem_of_getElem? (i := 9) rfl) inlX12 rfl dX13_yearOf_32 (fun v51907 hv51907 ov51907 => ?_)
    obtain ⟨z51908, rfl, rz51908⟩ := okV_i ov51907
    refine lv_imul hx hb dX13_yearOf_35 ?_
    refine lv_topi (fun z51909 ez51909 => ?_)
    have rz51909 := rg_all z51909
    refine lv_iadd hx hb dX13_yearOf_36 ?_
    refine lv_topi (fun z51910 ez51910 => ?_)
    have rz51910 := rg_all z51910
    refine t_cSi (n := 2) (As := [.int 999, .int z51910]) (rest := [.int z51901, .ref p1]) X hT (km161_X13_least l G tag L F hT.2.2.2 999 z51910 ) qw_1065 qw_1066 qw_5 qw_1067 ⟨by decide +kernel, by decide +kernel, by decide +kernel⟩ ⟨Nat.le_of_ble_eq_true rfl, Nat.le_of_ble_eq_true rfl⟩ hl rfl rfl (Nat.le_of_ble_eq_true rfl) dX13_yearOf_37 ⟨Nat.le_of_ble_eq_true rfl, Nat.le_of_ble_eq_true rfl⟩ (fun z51911 F9 H locs hT hz51911 => ?_)
    obtain ⟨fz51911, hz51911⟩ := hz51911
    rw [fz51911] at hT
    refine t_ist X hT m1 g1 rfl (by omega) (row_fv (by omega) (Or.inl (by omega))) dX13_yearOf_40 (fun F H locs hT v51912 h1v51912 h2v51912 => ?_)
    have pf0 := (h2v51912 _ _).trans pf0
    have vz51898 := (h1v51912 _ _ (Or.inr (ine (by omega) (by omega) (by omega)))).trans vz51898
    have vz51905 := (h1v51912 _ _ (Or.inr (ine (by omega) (by omega) (by omega)))).trans vz51905
    have hv51907 := (h2v51912 _ _).trans hv51907
    have hfr : (∀ b j : Nat, (tag b ≠ 46 ∨ j ≠ 22) → (tag b ≠ 46 ∨ j ≠ 23) → fld F b j = fld Fo b j) ∧ (∀ b j : Nat, tag b ≠ 37 → elm F b j = elm Fo b j) := ⟨fun b j n46_22 n46_23 => (h2v51912 b j).trans (hfr.1 b j n46_22 n46_23), fun b j a37 => (h1v51912 b j (Or.inl (at_ne g1 a37))).trans (hfr.2 b j a37)⟩
    refine lv_aload_n hx hb dX13_yearOf_41 rfl (lv_at hl 1 rfl) ?_
    refine t_cSi (n := 1) (As := [.ref p1]) (rest := []) X hT (km178_X13_drawn l G tag L F hT.2.2.2 p1 m1 g1) qw_1168 qw_1169 qw_5 qw_1170 ⟨by decide +kernel, by decide +kernel, by decide +kernel⟩ ⟨Nat.le_of_ble_eq_true rfl, Nat.le_of_ble_eq_true rfl⟩ hl rfl rfl (Nat.le_of_ble_eq_true rfl) dX13_yearOf_42 ⟨Nat.le_of_ble_eq_true rfl, Nat.le_of_ble_eq_true rfl⟩ (fun z51913 F H locs hT hz51913 => ?_)
    obtain ⟨hz51913, yz51913⟩ := hz51913
    have pf0 := (yz51913.1 _ 3 ).trans pf0
    have hv51907 := (yz51913.1 _ 5 ).trans hv51907
    have hfr : (∀ b j : Nat, (tag b ≠ 46 ∨ j ≠ 22) → (tag b ≠ 46 ∨ j ≠ 23) → fld F b j = fld Fo b j) ∧ (∀ b j : Nat, tag b ≠ 37 → elm F b j = elm Fo b j) := ⟨fun b j n46_22 n46_23 => (yz51913.1 b j ).trans (hfr.1 b j n46_22 n46_23), fun b j a37 => (yz51913.2 b j a37).trans (hfr.2 b j a37)⟩
    refine lv_aload_n hx hb dX13_yearOf_45 rfl (lv_at hl 0 rfl) ?_
    refine t_get (C := RX13) (T := TX13) (N := 37) X hT m0 g0 rfl rfl 3 (by decide) qw_481 inlX13 rfl dX13_yearOf_46 (fun v51914 hv51914 ov51914 => ?_)
    obtain rfl : v51914 = .ref x0 := hv51914.symm.trans pf0
    refine t_getN (C := RX12) (T := TX12) (N := 31) X hT mx0 gx0 rfl rfl 3 (by decide) (List.mem_of_getElem? (i := 7) rfl) inlX12 rfl dX13_yearOf_49 (fun v51915 hv51915 ov51915 => ?_)
    obtain ⟨z51916, rfl, rz51916⟩ := okV_i ov51915
    refine lv_icmp_ge (tgt := 72) hx hb dX13_yearOf_52 (by decide) (fun c51917 => ?_) (fun c51917 => ?_)
    · have w51918 := cv_le (rfl : z51916.toInt = z51916.toInt) (rfl : z51913.toInt = z51913.toInt) c51917
      exact K72 z51908 z51916 _ _ _ _  hT hfr pf0 hv51907 hv51915 (lv_sub hl [0, 1, 2] rfl)
    · have w51919 := cv_nle (rfl : z51916.toInt = z51916.toInt) (rfl : z51913.toInt = z51913.toInt) c51917
      refine lv_aload_n hx hb dX13_yearOf_55 rfl (lv_at hl 1 rfl) ?_
      refine lv_iconst (v := 4) hx hb dX13_yearOf_56 (by decide) ?_
      refine lv_iload_n hx hb dX13_yearOf_57 rfl (lv_at hl 2 rfl) ?_
      refine lv_iadd hx hb dX13_yearOf_58 ?_
      refine lv_topi (fun z51920 ez51920 => ?_)
      have hz51920 : z51920.toInt = 4 + p2.toInt := ar_add ez51920 (by decide : (4 : Int32).toInt = 4) (rfl : p2.toInt = p2.toInt) (by omega) (by omega)
      have rz51920 : 4 ≤ z51920.toInt ∧ z51920.toInt ≤ 7 := by omega
      refine lv_bipush (v := 99) hx hb dX13_yearOf_59 (by decide) ?_
      refine lv_aload_n hx hb dX13_yearOf_61 rfl (lv_at hl 1 rfl) ?_
      refine lv_iconst (v := 4) hx hb dX13_yearOf_62 (by decide) ?_
      refine lv_iload_n hx hb dX13_yearOf_63 rfl (lv_at hl 2 rfl) ?_
      refine lv_iadd hx hb dX13_yearOf_64 ?_
      refine lv_topi (fun z51921 ez51921 => ?_)
      have hz51921 : z51921.toInt = 4 + p2.toInt := ar_add ez51921 (by decide : (4 : Int32).toInt = 4) (rfl : p2.toInt = p2.toInt) (by omega) (by omega)
      have rz51921 : 4 ≤ z51921.toInt ∧ z51921.toInt ≤ 7 := by omega
      refine t_ild X hT m1 g1 rfl (by omega) dX13_yearOf_65 (fun z51922 vz51922 rz51922 => ?_)
      have oz51922 := rz51922
      have rz51922 := rg_all z51922
      refine lv_iconst (v := 1) hx hb dX13_yearOf_66 (by decide) ?_
      refine lv_iadd hx hb dX13_yearOf_67 ?_
      refine lv_topi (fun z51923 ez51923 => ?_)
      have rz51923 := rg_all z51923
      refine t_cSi (n := 2) (As := [.int 99, .int z51923]) (rest := [.int z51920, .ref p1]) X hT (km161_X13_least l G tag L F hT.2.2.2 99 z51923 ) qw_1065 qw_1066 qw_5 qw_1067 ⟨by decide +kernel, by decide +kernel, by decide +kernel⟩ ⟨Nat.le_of_ble_eq_true rfl, Nat.le_of_ble_eq_true rfl⟩ hl rfl rfl (Nat.le_of_ble_eq_true rfl) dX13_yearOf_68 ⟨Nat.le_of_ble_eq_true rfl, Nat.le_of_ble_eq_true rfl⟩ (fun z51924 F9 H locs hT hz51924 => ?_)
      obtain ⟨fz51924, hz51924⟩ := hz51924
      rw [fz51924] at hT
      refine t_ist X hT m1 g1 rfl (by omega) (row_fv (by omega) (Or.inl (by omega))) dX13_yearOf_71 (fun F H locs hT v51925 h1v51925 h2v51925 => ?_)
      have pf0 := (h2v51925 _ _).trans pf0
      have hv51907 := (h2v51925 _ _).trans hv51907
      have hv51915 := (h2v51925 _ _).trans hv51915
      have hfr : (∀ b j : Nat, (tag b ≠ 46 ∨ j ≠ 22) → (tag b ≠ 46 ∨ j ≠ 23) → fld F b j = fld Fo b j) ∧ (∀ b j : Nat, tag b ≠ 37 → elm F b j = elm Fo b j) := ⟨fun b j n46_22 n46_23 => (h2v51925 b j).trans (hfr.1 b j n46_22 n46_23), fun b j a37 => (h1v51925 b j (Or.inl (at_ne g1 a37))).trans (hfr.2 b j a37)⟩
      exact K72 z51908 z51916 _ _ _ _  hT hfr pf0 hv51907 hv51915 (lv_sub hl [0, 1, 2] rfl)
  · have w51926 := cv_eq (rfl : z51898.toInt = z51898.toInt) (by decide : (0 : Int32).toInt = 0) c51899
    exact t_vret hQ X hT hfr (Nat.le_of_ble_eq_true rfl) (Nat.le_of_ble_eq_true rfl) dX13_yearOf_8
