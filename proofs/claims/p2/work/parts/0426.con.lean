set_option maxHeartbeats 4000000 in
set_option maxRecDepth 100000 in
theorem km179_X13_rots (l : Launch) (G : KG) (tag : Nat → Nat) (L : List Nat) (Fo : Nat → va_E) (ho : okT G ttC tag L Fo) (p0 : Nat) (p1 : Nat) (p2 : Int32) (p3 : Int32) (x0 : Nat) (m0 : p0 ∈ L) (g0 : tag p0 = 46) (m1 : p1 ∈ L) (g1 : tag p1 = 37) (h2 : 0 ≤ p2.toInt ∧ p2.toInt ≤ 3) (h3 : 1 ≤ p3.toInt ∧ p3.toInt ≤ 6) (mx0 : x0 ∈ L) (gx0 : tag x0 = 45) (pf0 : fld Fo p0 3 = .ref x0) : TMv l yX13_rots cX13_rots 5 { frames := 1, cells := 0, slots := 0, locals := 22 } G ttC tag L Fo [.ref p0, .ref p1, .int p2, .int p3] (fun F1 => ((∀ b j : Nat, fld F1 b j = fld Fo b j) ∧ (∀ b j : Nat, tag b ≠ 37 → elm F1 b j = elm Fo b j))) := by
  refine t_bodyv (y := yX13_rots) (cd := cX13_rots) (mL := 5) (rm := { frames := 1, cells := 0, slots := 0, locals := 22 }) (av := [.ref p0, .ref p1, .int p2, .int p3]) (by decide) (Nat.le_of_ble_eq_true rfl) ho ?_
  intro p e s m args below meth c ls A Q hQ X hT hl
  have hx := X.1.1
  have hb := X.1.2.1
  have hl : lv_has ls 5 [(0, .ref p0), (1, .ref p1), (2, .int p2), (3, .int p3)] := hl
  obtain ⟨F, hFo⟩ : ∃ F : Nat → va_E, F = Fo := ⟨_, rfl⟩
  rw [← hFo] at hT pf0
  have hfr : (∀ b j : Nat, fld F b j = fld Fo b j) ∧ (∀ b j : Nat, tag b ≠ 37 → elm F b j = elm Fo b j) := by
    rw [hFo]
    exact ⟨by intros; rfl, by intros; rfl⟩
  refine lv_aload_n hx hb dX13_rots_0 rfl (lv_at hl 1 rfl) ?_
  refine lv_iload_n hx hb dX13_rots_1 rfl (lv_at hl 2 rfl) ?_
  refine lv_iload_n hx hb dX13_rots_2 rfl (lv_at hl 3 rfl) ?_
  refine lv_iconst (v := 5) hx hb dX13_rots_3 (by decide) ?_
  refine t_cSi (n := 3) (As := [.int p2, .int p3, .int 5]) (rest := [.ref p1]) X hT (km49_X13_part l G tag L F hT.2.2.2 p2 p3 5 (by omega) (by omega) (by decide)) qw_661 qw_662 qw_5 qw_663 ⟨by decide +kernel, by decide +kernel, by decide +kernel⟩ ⟨Nat.le_of_ble_eq_true rfl, Nat.le_of_ble_eq_true rfl⟩ hl rfl rfl (Nat.le_of_ble_eq_true rfl) dX13_rots_4 ⟨Nat.le_of_ble_eq_true rfl, Nat.le_of_ble_eq_true rfl⟩ (fun z50210 F9 H locs hT hz50210 => ?_)
  obtain ⟨fz50210, hz50210, xz50210_0⟩ := hz50210
  rw [fz50210] at hT
  have k50211 : (5 : Int32).toInt = 5 := by decide
  refine t_ild X hT m1 g1 rfl (by omega) dX13_rots_7 (fun z50212 vz50212 rz50212 => ?_)
  have oz50212 := rz50212
  have rz50212 := rg_all z50212
  refine lv_iconst (v := 1) hx hb dX13_rots_8 (by decide) ?_
  refine lv_icmp_eq (tgt := 25) hx hb dX13_rots_9 (by decide) (fun c50213 => ?_) (fun c50213 => ?_)
  · have w50214 := cv_eq (rfl : z50212.toInt = z50212.toInt) (by decide : (1 : Int32).toInt = 1) c50213
    exact t_vret hQ X hT hfr (Nat.le_of_ble_eq_true rfl) (Nat.le_of_ble_eq_true rfl) dX13_rots_25
  · have w50215 := cv_ne (rfl : z50212.toInt = z50212.toInt) (by decide : (1 : Int32).toInt = 1) c50213
    refine lv_aload_n hx hb dX13_rots_12 rfl (lv_at hl 1 rfl) ?_
    refine lv_iload_n hx hb dX13_rots_13 rfl (lv_at hl 2 rfl) ?_
    refine lv_iload_n hx hb dX13_rots_14 rfl (lv_at hl 3 rfl) ?_
    refine lv_bipush (v := 6) hx hb dX13_rots_15 (by decide) ?_
    refine t_cSi (n := 3) (As := [.int p2, .int p3, .int 6]) (rest := [.ref p1]) X hT (km49_X13_part l G tag L F hT.2.2.2 p2 p3 6 (by omega) (by omega) (by decide)) qw_661 qw_662 qw_5 qw_663 ⟨by decide +kernel, by decide +kernel, by decide +kernel⟩ ⟨Nat.le_of_ble_eq_true rfl, Nat.le_of_ble_eq_true rfl⟩ hl rfl rfl (Nat.le_of_ble_eq_true rfl) dX13_rots_17 ⟨Nat.le_of_ble_eq_true rfl, Nat.le_of_ble_eq_true rfl⟩ (fun z50216 F9 H locs hT hz50216 => ?_)
    obtain ⟨fz50216, hz50216, xz50216_0⟩ := hz50216
    rw [fz50216] at hT
    have k50217 : (6 : Int32).toInt = 6 := by decide
    refine t_ild X hT m1 g1 rfl (by omega) dX13_rots_20 (fun z50218 vz50218 rz50218 => ?_)
    have oz50218 := rz50218
    have rz50218 := rg_all z50218
    refine lv_iconst (v := 1) hx hb dX13_rots_21 (by decide) ?_
    refine lv_icmp_ne (tgt := 26) hx hb dX13_rots_22 (by decide) (fun c50219 => ?_) (fun c50219 => ?_)
    · have w50220 := cv_ne (rfl : z50218.toInt = z50218.toInt) (by decide : (1 : Int32).toInt = 1) c50219
      refine lv_aload_n hx hb dX13_rots_26 rfl (lv_at hl 1 rfl) ?_
      refine lv_iload_n hx hb dX13_rots_27 rfl (lv_at hl 2 rfl) ?_
      refine lv_iload_n hx hb dX13_rots_28 rfl (lv_at hl 3 rfl) ?_
      refine lv_iconst (v := 0) hx hb dX13_rots_29 (by decide) ?_
      refine t_cSi (n := 3) (As := [.int p2, .int p3, .int 0]) (rest := [.ref p1]) X hT (km49_X13_part l G tag L F hT.2.2.2 p2 p3 0 (by omega) (by omega) (by decide)) qw_661 qw_662 qw_5 qw_663 ⟨by decide +kernel, by decide +kernel, by decide +kernel⟩ ⟨Nat.le_of_ble_eq_true rfl, Nat.le_of_ble_eq_true rfl⟩ hl rfl rfl (Nat.le_of_ble_eq_true rfl) dX13_rots_30 ⟨Nat.le_of_ble_eq_true rfl, Nat.le_of_ble_eq_true rfl⟩ (fun z50221 F9 H locs hT hz50221 => ?_)
      obtain ⟨fz50221, hz50221, xz50221_0⟩ := hz50221
      rw [fz50221] at hT
      have k50222 : (0 : Int32).toInt = 0 := by decide
      refine t_ild X hT m1 g1 rfl (by omega) dX13_rots_33 (fun z50223 vz50223 rz50223 => ?_)
      have rz50223 := row_sl (by omega) (by omega) rz50223
      refine lv_istore (lv' := [(4, .int z50223), (0, .ref p0), (1, .ref p1), (2, .int p2), (3, .int p3)]) hx hb dX13_rots_34 hl (by decide) rfl (fun ls hl => ?_)
      refine lv_aload_n hx hb dX13_rots_36 rfl (lv_at hl 2 rfl) ?_
      refine lv_iload_n hx hb dX13_rots_37 rfl (lv_at hl 3 rfl) ?_
      refine lv_iload_n hx hb dX13_rots_38 rfl (lv_at hl 4 rfl) ?_
      refine lv_iconst (v := 4) hx hb dX13_rots_39 (by decide) ?_
      refine t_cSi (n := 3) (As := [.int p2, .int p3, .int 4]) (rest := [.ref p1]) X hT (km49_X13_part l G tag L F hT.2.2.2 p2 p3 4 (by omega) (by omega) (by decide)) qw_661 qw_662 qw_5 qw_663 ⟨by decide +kernel, by decide +kernel, by decide +kernel⟩ ⟨Nat.le_of_ble_eq_true rfl, Nat.le_of_ble_eq_true rfl⟩ hl rfl rfl (Nat.le_of_ble_eq_true rfl) dX13_rots_40 ⟨Nat.le_of_ble_eq_true rfl, Nat.le_of_ble_eq_true rfl⟩ (fun z50224 F9 H locs hT hz50224 => ?_)
      obtain ⟨fz50224, hz50224, xz50224_0⟩ := hz50224
      rw [fz50224] at hT
      have k50225 : (4 : Int32).toInt = 4 := by decide
      refine lv_dup2_11 hx hb dX13_rots_43 rfl rfl ?_
      refine t_ild X hT m1 g1 rfl (by omega) dX13_rots_44 (fun z50226 vz50226 rz50226 => ?_)
      have oz50226 := rz50226
      have rz50226 := rg_all z50226
      refine lv_aload_n hx hb dX13_rots_45 rfl (lv_at hl 1 rfl) ?_
      refine t_get (C := RX13) (T := TX13) (N := 37) X hT m0 g0 rfl rfl 3 (by decide) qw_481 inlX13 rfl dX13_rots_46 (fun v50227 hv50227 ov50227 => ?_)
      obtain rfl : v50227 = .ref x0 := hv50227.symm.trans pf0
      refine t_getN (C := RX12) (T := TX12) (N := 31) X hT mx0 gx0 rfl rfl 19 (by decide) (List.mem_of_getElem? (i := 23) rfl) inlX12 rfl dX13_rots_49 (fun v50228 hv50228 ov50228 => ?_)
      obtain ⟨b50229, rfl, mb50229, gb50229⟩ := okV_r ov50228
      have gb50229 : tag b50229 = 29 := tg_of gb50229
      refine lv_iload hx hb dX13_rots_52 (lv_at hl 0 rfl) ?_
      refine t_ild X hT mb50229 gb50229 rfl (by omega) dX13_rots_54 (fun z50230 vz50230 rz50230 => ?_)
      have rz50230 : (-2147483648) ≤ z50230.toInt ∧ z50230.toInt ≤ 2147483647 := rz50230
      refine lv_iadd hx hb dX13_rots_55 ?_
      refine lv_topi (fun z50231 ez50231 => ?_)
      have rz50231 := rg_all z50231
      refine t_ist X hT m1 g1 rfl (by omega) (row_fv (by omega) (Or.inr (Or.inr (by omega)))) dX13_rots_56 (fun F H locs hT v50232 h1v50232 h2v50232 => ?_)
      have pf0 := (h2v50232 _ _).trans pf0
      have hv50228 := (h2v50232 _ _).trans hv50228
      have vz50230 := (h1v50232 _ _ (Or.inl (tne gb50229 g1 (by decide)))).trans vz50230
      have hfr : (∀ b j : Nat, fld F b j = fld Fo b j) ∧ (∀ b j : Nat, tag b ≠ 37 → elm F b j = elm Fo b j) := ⟨fun b j  => (h2v50232 b j).trans (hfr.1 b j ), fun b j a37 => (h1v50232 b j (Or.inl (at_ne g1 a37))).trans (hfr.2 b j a37)⟩
      refine lv_iload_n hx hb dX13_rots_57 rfl (lv_at hl 4 rfl) ?_
      refine lv_iconst (v := 1) hx hb dX13_rots_58 (by decide) ?_
      refine lv_icmp_le (tgt := 106) hx hb dX13_rots_59 (by decide) (fun c50233 => ?_) (fun c50233 => ?_)
      · have w50234 := cv_le (rfl : p3.toInt = p3.toInt) (by decide : (1 : Int32).toInt = 1) c50233
        refine lv_aload_n hx hb dX13_rots_106 rfl (lv_at hl 2 rfl) ?_
        refine lv_iload_n hx hb dX13_rots_107 rfl (lv_at hl 3 rfl) ?_
        refine lv_iload_n hx hb dX13_rots_108 rfl (lv_at hl 4 rfl) ?_
        refine lv_iconst (v := 4) hx hb dX13_rots_109 (by decide) ?_
        refine t_cSi (n := 3) (As := [.int p2, .int p3, .int 4]) (rest := [.ref p1]) X hT (km49_X13_part l G tag L F hT.2.2.2 p2 p3 4 (by omega) (by omega) (by decide)) qw_661 qw_662 qw_5 qw_663 ⟨by decide +kernel, by decide +kernel, by decide +kernel⟩ ⟨Nat.le_of_ble_eq_true rfl, Nat.le_of_ble_eq_true rfl⟩ hl rfl rfl (Nat.le_of_ble_eq_true rfl) dX13_rots_110 ⟨Nat.le_of_ble_eq_true rfl, Nat.le_of_ble_eq_true rfl⟩ (fun z50235 F9 H locs hT hz50235 => ?_)
        obtain ⟨fz50235, hz50235, xz50235_0⟩ := hz50235
        rw [fz50235] at hT
        have k50236 : (4 : Int32).toInt = 4 := by decide
        refine t_ild X hT m1 g1 rfl (by omega) dX13_rots_113 (fun z50237 vz50237 rz50237 => ?_)
        have oz50237 := rz50237
        have rz50237 := rg_all z50237
        refine lv_aload_n hx hb dX13_rots_114 rfl (lv_at hl 1 rfl) ?_
        refine t_get (C := RX13) (T := TX13) (N := 37) X hT m0 g0 rfl rfl 3 (by decide) qw_481 inlX13 rfl dX13_rots_115 (fun v50238 hv50238 ov50238 => ?_)
        obtain rfl : v50238 = .ref x0 := hv50238.symm.trans pf0
        refine t_getN (C := RX12) (T := TX12) (N := 31) X hT mx0 gx0 rfl rfl 20 (by decide) (List.mem_of_getElem? (i := 24) rfl) inlX12 rfl dX13_rots_118 (fun v50239 hv50239 ov50239 => ?_)
        obtain ⟨b50240, rfl, mb50240, gb50240⟩ := okV_r ov50239
        have gb50240 : tag b50240 = 29 := tg_of gb50240
        refine lv_iload hx hb dX13_rots_121 (lv_at hl 0 rfl) ?_
        refine t_ild X hT mb50240 gb50240 rfl (by omega) dX13_rots_123 (fun z50241 vz50241 rz50241 => ?_)
        have rz50241 : (-2147483648) ≤ z50241.toInt ∧ z50241.toInt ≤ 2147483647 := rz50241
        refine lv_icmp_lt (tgt := 136) hx hb dX13_rots_124 (by decide) (fun c50242 => ?_) (fun c50242 => ?_)
        · have w50243 := cv_lt (rfl : z50237.toInt = z50237.toInt) (rfl : z50241.toInt = z50241.toInt) c50242
          exact t_vret hQ X hT hfr (Nat.le_of_ble_eq_true rfl) (Nat.le_of_ble_eq_true rfl) dX13_rots_136
        · have w50244 := cv_nlt (rfl : z50237.toInt = z50237.toInt) (rfl : z50241.toInt = z50241.toInt) c50242
          refine lv_aload_n hx hb dX13_rots_127 rfl (lv_at hl 2 rfl) ?_
          refine lv_iload_n hx hb dX13_rots_128 rfl (lv_at hl 3 rfl) ?_
          refine lv_iload_n hx hb dX13_rots_129 rfl (lv_at hl 4 rfl) ?_
          refine lv_iconst (v := 5) hx hb dX13_rots_130 (by decide) ?_
          refine t_cSi (n := 3) (As := [.int p2, .int p3, .int 5]) (rest := [.ref p1]) X hT (km49_X13_part l G tag L F hT.2.2.2 p2 p3 5 (by omega) (by omega) (by decide)) qw_661 qw_662 qw_5 qw_663 ⟨by decide +kernel, by decide +kernel, by decide +kernel⟩ ⟨Nat.le_of_ble_eq_true rfl, Nat.le_of_ble_eq_true rfl⟩ hl rfl rfl (Nat.le_of_ble_eq_true rfl) dX13_rots_131 ⟨Nat.le_of_ble_eq_true rfl, Nat.le_of_ble_eq_true rfl⟩ (fun z50245 F9 H locs hT hz50245 => ?_)
          obtain ⟨fz50245, hz50245, xz50245_0⟩ := hz50245
          rw [fz50245] at hT
          have k50246 : (5 : Int32).toInt = 5 := by decide
          refine lv_iconst (v := 1) hx hb dX13_rots_134 (by decide) ?_
          refine t_ist X hT m1 g1 rfl (by omega) (row_fv (by omega) (Or.inr (Or.inr (by omega)))) dX13_rots_135 (fun F H locs hT v50247 h1v50247 h2v50247 => ?_)
          have pf0 := (h2v50247 _ _).trans pf0
          have hv50228 := (h2v50247 _ _).trans hv50228
          have vz50230 := (h1v50247 _ _ (Or.inl (tne gb50229 g1 (by decide)))).trans vz50230
          have hv50239 := (h2v50247 _ _).trans hv50239
          have vz50241 := (h1v50247 _ _ (Or.inl (tne gb50240 g1 (by decide)))).trans vz50241
          have hfr : (∀ b j : Nat, fld F b j = fld Fo b j) ∧ (∀ b j : Nat, tag b ≠ 37 → elm F b j = elm Fo b j) := ⟨fun b j  => (h2v50247 b j).trans (hfr.1 b j ), fun b j a37 => (h1v50247 b j (Or.inl (at_ne g1 a37))).trans (hfr.2 b j a37)⟩
          exact t_vret hQ X hT hfr (Nat.le_of_ble_eq_true rfl) (Nat.le_of_ble_eq_true rfl) dX13_rots_136
      · have w50248 := cv_nle (rfl : p3.toInt = p3.toInt) (by decide : (1 : Int32).toInt = 1) c50233
        refine lv_aload_n hx hb dX13_rots_62 rfl (lv_at hl 2 rfl) ?_
        refine lv_iload_n hx hb dX13_rots_63 rfl (lv_at hl 3 rfl) ?_
        refine lv_iload_n hx hb dX13_rots_64 rfl (lv_at hl 4 rfl) ?_
        refine lv_iconst (v := 1) hx hb dX13_rots_65 (by decide) ?_
        refine lv_isub hx hb dX13_rots_66 ?_
        refine lv_topi (fun z50249 ez50249 => ?_)
        have hz50249 : z50249.toInt = p3.toInt - 1 := ar_sub ez50249 (rfl : p3.toInt = p3.toInt) (by decide : (1 : Int32).toInt = 1) (by omega) (by omega)
        have rz50249 : 1 ≤ z50249.toInt ∧ z50249.toInt ≤ 5 := by omega
        refine lv_iconst (v := 5) hx hb dX13_rots_67 (by decide) ?_
        refine t_cSi (n := 3) (As := [.int p2, .int z50249, .int 5]) (rest := [.ref p1]) X hT (km49_X13_part l G tag L F hT.2.2.2 p2 z50249 5 (by omega) (by omega) (by decide)) qw_661 qw_662 qw_5 qw_663 ⟨by decide +kernel, by decide +kernel, by decide +kernel⟩ ⟨Nat.le_of_ble_eq_true rfl, Nat.le_of_ble_eq_true rfl⟩ hl rfl rfl (Nat.le_of_ble_eq_true rfl) dX13_rots_68 ⟨Nat.le_of_ble_eq_true rfl, Nat.le_of_ble_eq_true rfl⟩ (fun z50250 F9 H locs hT hz50250 => ?_)
        obtain ⟨fz50250, hz50250, xz50250_0⟩ := hz50250
        rw [fz50250] at hT
        have k50251 : (5 : Int32).toInt = 5 := by decide
        refine t_ild X hT m1 g1 rfl (by omega) dX13_rots_71 (fun z50252 vz50252 rz50252 => ?_)
        have oz50252 := rz50252
        have rz50252 := rg_all z50252
        refine lv_iconst (v := 1) hx hb dX13_rots_72 (by decide) ?_
        refine lv_icmp_ne (tgt := 106) hx hb dX13_rots_73 (by decide) (fun c50253 => ?_) (fun c50253 => ?_)
        · have w50254 := cv_ne (rfl : z50252.toInt = z50252.toInt) (by decide : (1 : Int32).toInt = 1) c50253
          refine lv_aload_n hx hb dX13_rots_106 rfl (lv_at hl 2 rfl) ?_
          refine lv_iload_n hx hb dX13_rots_107 rfl (lv_at hl 3 rfl) ?_
          refine lv_iload_n hx hb dX13_rots_108 rfl (lv_at hl 4 rfl) ?_
          refine lv_iconst (v := 4) hx hb dX13_rots_109 (by decide) ?_
          refine t_cSi (n := 3) (As := [.int p2, .int p3, .int 4]) (rest := [.ref p1]) X hT (km49_X13_part l G tag L F hT.2.2.2 p2 p3 4 (by omega) (by omega) (by decide)) qw_661 qw_662 qw_5 qw_663 ⟨by decide +kernel, by decide +kernel, by decide +kernel⟩ ⟨Nat.le_of_ble_eq_true rfl, Nat.le_of_ble_eq_true rfl⟩ hl rfl rfl (Nat.le_of_ble_eq_true rfl) dX13_rots_110 ⟨Nat.le_of_ble_eq_true rfl, Nat.le_of_ble_eq_true rfl⟩ (fun z50255 F9 H locs hT hz50255 => ?_)
          obtain ⟨fz50255, hz50255, xz50255_0⟩ := hz50255
          rw [fz50255] at hT
          have k50256 : (4 : Int32).toInt = 4 := by decide
          refine t_ild X hT m1 g1 rfl (by omega) dX13_rots_113 (fun z50257 vz50257 rz50257 => ?_)
          have oz50257 := rz50257
          have rz50257 := rg_all z50257
          refine lv_aload_n hx hb dX13_rots_114 rfl (lv_at hl 1 rfl) ?_
          refine t_get (C := RX13) (T := TX13) (N := 37) X hT m0 g0 rfl rfl 3 (by decide) qw_481 inlX13 rfl dX13_rots_115 (fun v50258 hv50258 ov50258 => ?_)
          obtain rfl : v50258 = .ref x0 := hv50258.symm.trans pf0
          refine t_getN (C := RX12) (T := TX12) (N := 31) X hT mx0 gx0 rfl rfl 20 (by decide) (List.mem_of_getElem? (i := 24) rfl) inlX12 rfl dX13_rots_118 (fun v50259 hv50259 ov50259 => ?_)
          obtain ⟨b50260, rfl, mb50260, gb50260⟩ := okV_r ov50259
          have gb50260 : tag b50260 = 29 := tg_of gb50260
          refine lv_iload hx hb dX13_rots_121 (lv_at hl 0 rfl) ?_
          refine t_ild X hT mb50260 gb50260 rfl (by omega) dX13_rots_123 (fun z50261 vz50261 rz50261 => ?_)
          have rz50261 : (-2147483648) ≤ z50261.toInt ∧ z50261.toInt ≤ 2147483647 := rz50261
          refine lv_icmp_lt (tgt := 136) hx hb dX13_rots_124 (by decide) (fun c50262 => ?_) (fun c50262 => ?_)
          · have w50263 := cv_lt (rfl : z50257.toInt = z50257.toInt) (rfl : z50261.toInt = z50261.toInt) c50262
            exact t_vret hQ X hT hfr (Nat.le_of_ble_eq_true rfl) (Nat.le_of_ble_eq_true rfl) dX13_rots_136
          · have w50264 := cv_nlt (rfl : z50257.toInt = z50257.toInt) (rfl : z50261.toInt = z50261.toInt) c50262
            refine lv_aload_n hx hb dX13_rots_127 rfl (lv_at hl 2 rfl) ?_
            refine lv_iload_n hx hb dX13_rots_128 rfl (lv_at hl 3 rfl) ?_
            refine lv_iload_n hx hb dX13_rots_129 rfl (lv_at hl 4 rfl) ?_
            refine lv_iconst (v := 5) hx hb dX13_rots_130 (by decide) ?_
            refine t_cSi (n := 3) (As := [.int p2, .int p3, .int 5]) (rest := [.ref p1]) X hT (km49_X13_part l G tag L F hT.2.2.2 p2 p3 5 (by omega) (by omega) (by decide)) qw_661 qw_662 qw_5 qw_663 ⟨by decide +kernel, by decide +kernel, by decide +kernel⟩ ⟨Nat.le_of_ble_eq_true rfl, Nat.le_of_ble_eq_true rfl⟩ hl rfl rfl (Nat.le_of_ble_eq_true rfl) dX13_rots_131 ⟨Nat.le_of_ble_eq_true rfl, Nat.le_of_ble_eq_true rfl⟩ (fun z50265 F9 H locs hT hz50265 => ?_)
            obtain ⟨fz50265, hz50265, xz50265_0⟩ := hz50265
            rw [fz50265] at hT
            have k50266 : (5 : Int32).toInt = 5 := by decide
            refine lv_iconst (v := 1) hx hb dX13_rots_134 (by decide) ?_
            refine t_ist X hT m1 g1 rfl (by omega) (row_fv (by omega) (Or.inr (Or.inr (by omega)))) dX13_rots_135 (fun F H locs hT v50267 h1v50267 h2v50267 => ?_)
            have pf0 := (h2v50267 _ _).trans pf0
            have hv50228 := (h2v50267 _ _).trans hv50228
            have vz50230 := (h1v50267 _ _ (Or.inl (tne gb50229 g1 (by decide)))).trans vz50230
            have hv50259 := (h2v50267 _ _).trans hv50259
            have vz50261 := (h1v50267 _ _ (Or.inl (tne gb50260 g1 (by decide)))).trans vz50261
            have hfr : (∀ b j : Nat, fld F b j = fld Fo b j) ∧ (∀ b j : Nat, tag b ≠ 37 → elm F b j = elm Fo b j) := ⟨fun b j  => (h2v50267 b j).trans (hfr.1 b j ), fun b j a37 => (h1v50267 b j (Or.inl (at_ne g1 a37))).trans (hfr.2 b j a37)⟩
            exact t_vret hQ X hT hfr (Nat.le_of_ble_eq_true rfl) (Nat.le_of_ble_eq_true rfl) dX13_rots_136
        · have w50268 := cv_eq (rfl : z50252.toInt = z50252.toInt) (by decide : (1 : Int32).toInt = 1) c50253
          refine lv_aload_n hx hb dX13_rots_76 rfl (lv_at hl 2 rfl) ?_
          refine lv_iload_n hx hb dX13_rots_77 rfl (lv_at hl 3 rfl) ?_
          refine lv_iload_n hx hb dX13_rots_78 rfl (lv_at hl 4 rfl) ?_
          refine lv_iconst (v := 4) hx hb dX13_rots_79 (by decide) ?_
          refine t_cSi (n := 3) (As := [.int p2, .int p3, .int 4]) (rest := [.ref p1]) X hT (km49_X13_part l G tag L F hT.2.2.2 p2 p3 4 (by omega) (by omega) (by decide)) qw_661 qw_662 qw_5 qw_663 ⟨by decide +kernel, by decide +kernel, by decide +kernel⟩ ⟨Nat.le_of_ble_eq_true rfl, Nat.le_of_ble_eq_true rfl⟩ hl rfl rfl (Nat.le_of_ble_eq_true rfl) dX13_rots_80 ⟨Nat.le_of_ble_eq_true rfl, Nat.le_of_ble_eq_true rfl⟩ (fun z50269 F9 H locs hT hz50269 => ?_)
          obtain ⟨fz50269, hz50269, xz50269_0⟩ := hz50269
          rw [fz50269] at hT
          have k50270 : (4 : Int32).toInt = 4 := by decide
          refine lv_dup2_11 hx hb dX13_rots_83 rfl rfl ?_
          refine t_ild X hT m1 g1 rfl (by omega) dX13_rots_84 (fun z50271 vz50271 rz50271 => ?_)
          have oz50271 := rz50271
          have rz50271 := rg_all z50271
          refine lv_aload_n hx hb dX13_rots_85 rfl (lv_at hl 1 rfl) ?_
          refine t_get (C := RX13) (T := TX13) (N := 37) X hT m0 g0 rfl rfl 3 (by decide) qw_481 inlX13 rfl dX13_rots_86 (fun v50272 hv50272 ov50272 => ?_)
          obtain rfl : v50272 = .ref x0 := hv50272.symm.trans pf0
          refine t_getN (C := RX12) (T := TX12) (N := 31) X hT mx0 gx0 rfl rfl 16 (by decide) (List.mem_of_getElem? (i := 20) rfl) inlX12 rfl dX13_rots_89 (fun v50273 hv50273 ov50273 => ?_)
          obtain ⟨b50274, rfl, mb50274, gb50274⟩ := okV_r ov50273
          have gb50274 : tag b50274 = 29 := tg_of gb50274
          refine lv_iload hx hb dX13_rots_92 (lv_at hl 0 rfl) ?_
          refine t_ild X hT mb50274 gb50274 rfl (by omega) dX13_rots_94 (fun z50275 vz50275 rz50275 => ?_)
          have rz50275 : (-2147483648) ≤ z50275.toInt ∧ z50275.toInt ≤ 2147483647 := rz50275
          refine lv_iconst (v := 1) hx hb dX13_rots_95 (by decide) ?_
          refine lv_icmp_ne (tgt := 103) hx hb dX13_rots_96 (by decide) (fun c50276 => ?_) (fun c50276 => ?_)
          · have w50277 := cv_ne (rfl : z50275.toInt = z50275.toInt) (by decide : (1 : Int32).toInt = 1) c50276
            refine lv_iconst (v := 1) hx hb dX13_rots_103 (by decide) ?_
            refine lv_iadd hx hb dX13_rots_104 ?_
            refine lv_topi (fun z50278 ez50278 => ?_)
            have rz50278 := rg_all z50278
            refine t_ist X hT m1 g1 rfl (by omega) (row_fv (by omega) (Or.inr (Or.inr (by omega)))) dX13_rots_105 (fun F H locs hT v50279 h1v50279 h2v50279 => ?_)
            have pf0 := (h2v50279 _ _).trans pf0
            have hv50228 := (h2v50279 _ _).trans hv50228
            have vz50230 := (h1v50279 _ _ (Or.inl (tne gb50229 g1 (by decide)))).trans vz50230
            have hv50273 := (h2v50279 _ _).trans hv50273
            have vz50275 := (h1v50279 _ _ (Or.inl (tne gb50274 g1 (by decide)))).trans vz50275
            have hfr : (∀ b j : Nat, fld F b j = fld Fo b j) ∧ (∀ b j : Nat, tag b ≠ 37 → elm F b j = elm Fo b j) := ⟨fun b j  => (h2v50279 b j).trans (hfr.1 b j ), fun b j a37 => (h1v50279 b j (Or.inl (at_ne g1 a37))).trans (hfr.2 b j a37)⟩
            refine lv_aload_n hx hb dX13_rots_106 rfl (lv_at hl 2 rfl) ?_
            refine lv_iload_n hx hb dX13_rots_107 rfl (lv_at hl 3 rfl) ?_
            refine lv_iload_n hx hb dX13_rots_108 rfl (lv_at hl 4 rfl) ?_
            refine lv_iconst (v := 4) hx hb dX13_rots_109 (by decide) ?_
            refine t_cSi (n := 3) (As := [.int p2, .int p3, .int 4]) (rest := [.ref p1]) X hT (km49_X13_part l G tag L F hT.2.2.2 p2 p3 4 (by omega) (by omega) (by decide)) qw_661 qw_662 qw_5 qw_663 ⟨by decide +kernel, by decide +kernel, by decide +kernel⟩ ⟨Nat.le_of_ble_eq_true rfl, Nat.le_of_ble_eq_true rfl⟩ hl rfl rfl (Nat.le_of_ble_eq_true rfl) dX13_rots_110 ⟨Nat.le_of_ble_eq_true rfl, Nat.le_of_ble_eq_true rfl⟩ (fun z50280 F9 H locs hT hz50280 => ?_)
            obtain ⟨fz50280, hz50280, xz50280_0⟩ := hz50280
            rw [fz50280] at hT
            have k50281 : (4 : Int32).toInt = 4 := by decide
            refine t_ild X hT m1 g1 rfl (by omega) dX13_rots_113 (fun z50282 vz50282 rz50282 => ?_)
            have oz50282 := rz50282
            have rz50282 := rg_all z50282
            refine lv_aload_n hx hb dX13_rots_114 rfl (lv_at hl 1 rfl) ?_
            refine t_get (C := RX13) (T := TX13) (N := 37) X hT m0 g0 rfl rfl 3 (by decide) qw_481 inlX13 rfl dX13_rots_115 (fun v50283 hv50283 ov50283 => ?_)
            obtain rfl : v50283 = .ref x0 := hv50283.symm.trans pf0
            refine t_getN (C := RX12) (T := TX12) (N := 31) X hT mx0 gx0 rfl rfl 20 (by decide) (List.mem_of_getElem? (i := 24) rfl) inlX12 rfl dX13_rots_118 (fun v50284 hv50284 ov50284 => ?_)
            obtain ⟨b50285, rfl, mb50285, gb50285⟩ := okV_r ov50284
            have gb50285 : tag b50285 = 29 := tg_of gb50285
            refine lv_iload hx hb dX13_rots_121 (lv_at hl 0 rfl) ?_
            refine t_ild X hT mb50285 gb50285 rfl (by omega) dX13_rots_123 (fun z50286 vz50286 rz50286 => ?_)
            have rz50286 : (-2147483648) ≤ z50286.toInt ∧ z50286.toInt ≤ 2147483647 := rz50286
            refine lv_icmp_lt (tgt := 136) hx hb dX13_rots_124 (by decide) (fun c50287 => ?_) (fun c50287 => ?_)
            · have w50288 := cv_lt (rfl : z50282.toInt = z50282.toInt) (rfl : z50286.toInt = z50286.toInt) c50287
              exact t_vret hQ X hT hfr (Nat.le_of_ble_eq_true rfl) (Nat.le_of_ble_eq_true rfl) dX13_rots_136
            · have w50289 := cv_nlt (rfl : z50282.toInt = z50282.toInt) (rfl : z50286.toInt = z50286.toInt) c50287
              refine lv_aload_n hx hb dX13_rots_127 rfl (lv_at hl 2 rfl) ?_
              refine lv_iload_n hx hb dX13_rots_128 rfl (lv_at hl 3 rfl) ?_
              refine lv_iload_n hx hb dX13_rots_129 rfl (lv_at hl 4 rfl) ?_
              refine lv_iconst (v := 5) hx hb dX13_rots_130 (by decide) ?_
              refine t_cSi (n := 3) (As := [.int p2, .int p3, .int 5]) (rest := [.ref p1]) X hT (km49_X13_part l G tag L F hT.2.2.2 p2 p3 5 (by omega) (by omega) (by decide)) qw_661 qw_662 qw_5 qw_663 ⟨by decide +kernel, by decide +kernel, by decide +kernel⟩ ⟨Nat.le_of_ble_eq_true rfl, Nat.le_of_ble_eq_true rfl⟩ hl rfl rfl (Nat.le_of_ble_eq_true rfl) dX13_rots_131 ⟨Nat.le_of_ble_eq_true rfl, Nat.le_of_ble_eq_true rfl⟩ (fun z50290 F9 H locs hT hz50290 => ?_)
              obtain ⟨fz50290, hz50290, xz50290_0⟩ := hz50290
              rw [fz50290] at hT
              have k50291 : (5 : Int32).toInt = 5 := by decide
              refine lv_iconst (v := 1) hx hb dX13_rots_134 (by decide) ?_
              refine t_ist X hT m1 g1 rfl (by omega) (row_fv (by omega) (Or.inr (Or.inr (by omega)))) dX13_rots_135 (fun F H locs hT v50292 h1v50292 h2v50292 => ?_)
              have pf0 := (h2v50292 _ _).trans pf0
              have hv50228 := (h2v50292 _ _).trans hv50228
              have vz50230 := (h1v50292 _ _ (Or.inl (tne gb50229 g1 (by decide)))).trans vz50230
              have hv50273 := (h2v50292 _ _).trans hv50273
              have vz50275 := (h1v50292 _ _ (Or.inl (tne gb50274 g1 (by decide)))).trans vz50275
              have hv50284 := (h2v50292 _ _).trans hv50284
              have vz50286 := (h1v50292 _ _ (Or.inl (tne gb50285 g1 (by decide)))).trans vz50286
              have hfr : (∀ b j : Nat, fld F b j = fld Fo b j) ∧ (∀ b j : Nat, tag b ≠ 37 → elm F b j = elm Fo b j) := ⟨fun b j  => (h2v50292 b j).trans (hfr.1 b j ), fun b j a37 => (h1v50292 b j (Or.inl (at_ne g1 a37))).trans (hfr.2 b j a37)⟩
              exact t_vret hQ X hT hfr (Nat.le_of_ble_eq_true rfl) (Nat.le_of_ble_eq_true rfl) dX13_rots_136
          · have w50293 := cv_eq (rfl : z50275.toInt = z50275.toInt) (by decide : (1 : Int32).toInt = 1) c50276
            refine lv_iconst (v := 2) hx hb dX13_rots_99 (by decide) ?_
            refine lv_goto (tgt := 104) hx hb dX13_rots_100 (by decide) ?_
            refine lv_iadd hx hb dX13_rots_104 ?_
            refine lv_topi (fun z50294 ez50294 => ?_)
            have rz50294 := rg_all z50294
            refine t_ist X hT m1 g1 rfl (by omega) (row_fv (by omega) (Or.inr (Or.inr (by omega)))) dX13_rots_105 (fun F H locs hT v50295 h1v50295 h2v50295 => ?_)
            have pf0 := (h2v50295 _ _).trans pf0
            have hv50228 := (h2v50295 _ _).trans hv50228
            have vz50230 := (h1v50295 _ _ (Or.inl (tne gb50229 g1 (by decide)))).trans vz50230
            have hv50273 := (h2v50295 _ _).trans hv50273
            have vz50275 := (h1v50295 _ _ (Or.inl (tne gb50274 g1 (by decide)))).trans vz50275
            have hfr : (∀ b j : Nat, fld F b j = fld Fo b j) ∧ (∀ b j : Nat, tag b ≠ 37 → elm F b j = elm Fo b j) := ⟨fun b j  => (h2v50295 b j).trans (hfr.1 b j ), fun b j a37 => (h1v50295 b j (Or.inl (at_ne g1 a37))).trans (hfr.2 b j a37)⟩
            refine lv_aload_n hx hb dX13_rots_106 rfl (lv_at hl 2 rfl) ?_
            refine lv_iload_n hx hb dX13_rots_107 rfl (lv_at hl 3 rfl) ?_
            refine lv_iload_n hx hb dX13_rots_108 rfl (lv_at hl 4 rfl) ?_
            refine lv_iconst (v := 4) hx hb dX13_rots_109 (by decide) ?_
            refine t_cSi (n := 3) (As := [.int p2, .int p3, .int 4]) (rest := [.ref p1]) X hT (km49_X13_part l G tag L F hT.2.2.2 p2 p3 4 (by omega) (by omega) (by decide)) qw_661 qw_662 qw_5 qw_663 ⟨by decide +kernel, by decide +kernel, by decide +kernel⟩ ⟨Nat.le_of_ble_eq_true rfl, Nat.le_of_ble_eq_true rfl⟩ hl rfl rfl (Nat.le_of_ble_eq_true rfl) dX13_rots_110 ⟨Nat.le_of_ble_eq_true rfl, Nat.le_of_ble_eq_true rfl⟩ (fun z50296 F9 H locs hT hz50296 => ?_)
            obtain ⟨fz50296, hz50296, xz50296_0⟩ := hz50296
            rw [fz50296] at hT
            have k50297 : (4 : Int32).toInt = 4 := by decide
            refine t_ild X hT m1 g1 rfl (by omega) dX13_rots_113 (fun z50298 vz50298 rz50298 => ?_)
            have oz50298 := rz50298
            have rz50298 := rg_all z50298
            refine lv_aload_n hx hb dX13_rots_114 rfl (lv_at hl 1 rfl) ?_
            refine t_get (C := RX13) (T := TX13) (N := 37) X hT m0 g0 rfl rfl 3 (by decide) qw_481 inlX13 rfl dX13_rots_115 (fun v50299 hv50299 ov50299 => ?_)
            obtain rfl : v50299 = .ref x0 := hv50299.symm.trans pf0
            refine t_getN (C := RX12) (T := TX12) (N := 31) X hT mx0 gx0 rfl rfl 20 (by decide) (List.mem_of_getElem? (i := 24) rfl) inlX12 rfl dX13_rots_118 (fun v50300 hv50300 ov50300 => ?_)
            obtain ⟨b50301, rfl, mb50301, gb50301⟩ := okV_r ov50300
            have gb50301 : tag b50301 = 29 := tg_of gb50301
            refine lv_iload hx hb dX13_rots_121 (lv_at hl 0 rfl) ?_
            refine t_ild X hT mb50301 gb50301 rfl (by omega) dX13_rots_123 (fun z50302 vz50302 rz50302 => ?_)
            have rz50302 : (-2147483648) ≤ z50302.toInt ∧ z50302.toInt ≤ 2147483647 := rz50302
            refine lv_icmp_lt (tgt := 136) hx hb dX13_rots_124 (by decide) (fun c50303 => ?_) (fun c50303 => ?_)
            · have w50304 := cv_lt (rfl : z50298.toInt = z50298.toInt) (rfl : z50302.toInt = z50302.toInt) c50303
              exact t_vret hQ X hT hfr (Nat.le_of_ble_eq_true rfl) (Nat.le_of_ble_eq_true rfl) dX13_rots_136
            · have w50305 := cv_nlt (rfl : z50298.toInt = z50298.toInt) (rfl : z50302.toInt = z50302.toInt) c50303
              refine lv_aload_n hx hb dX13_rots_127 rfl (lv_at hl 2 rfl) ?_
              refine lv_iload_n hx hb dX13_rots_128 rfl (lv_at hl 3 rfl) ?_
              refine lv_iload_n hx hb dX13_rots_129 rfl (lv_at hl 4 rfl) ?_
              refine lv_iconst (v := 5) hx hb dX13_rots_130 (by decide) ?_
              refine t_cSi (n := 3) (As := [.int p2, .int p3, .int 5]) (rest := [.ref p1]) X hT (km49_X13_part l G tag L F hT.2.2.2 p2 p3 5 (by omega) (by omega) (by decide)) qw_661 qw_662 qw_5 qw_663 ⟨by decide +kernel, by decide +kernel, by decide +kernel⟩ ⟨Nat.le_of_ble_eq_true rfl, Nat.le_of_ble_eq_true rfl⟩ hl rfl rfl (Nat.le_of_ble_eq_true rfl) dX13_rots_131 ⟨Nat.le_of_ble_eq_true rfl, Nat.le_of_ble_eq_true rfl⟩ (fun z50306 F9 H locs hT hz50306 => ?_)
              obtain ⟨fz50306, hz50306, xz50306_0⟩ := hz50306
              rw [fz50306] at hT
              have k50307 : (5 : Int32).toInt = 5 := by decide
              refine lv_iconst (v := 1) hx hb dX13_rots_134 (by decide) ?_
              refine t_ist X hT m1 g1 rfl (by omega) (row_fv (by omega) (Or.inr (Or.inr (by omega)))) dX13_rots_135 (fun F H locs hT v50308 h1v50308 h2v50308 => ?_)
              have pf0 := (h2v50308 _ _).trans pf0
              have hv50228 := (h2v50308 _ _).trans hv50228
              have vz50230 := (h1v50308 _ _ (Or.inl (tne gb50229 g1 (by decide)))).trans vz50230
              have hv50273 := (h2v50308 _ _).trans hv50273
              have vz50275 := (h1v50308 _ _ (Or.inl (tne gb50274 g1 (by decide)))).trans vz50275
              have hv50300 := (h2v50308 _ _).trans hv50300
              have vz50302 := (h1v50308 _ _ (Or.inl (tne gb50301 g1 (by decide)))).trans vz50302
              have hfr : (∀ b j : Nat, fld F b j = fld Fo b j) ∧ (∀ b j : Nat, tag b ≠ 37 → elm F b j = elm Fo b j) := ⟨fun b j  => (h2v50308 b j).trans (hfr.1 b j ), fun b j a37 => (h1v50308 b j (Or.inl (at_ne g1 a37))).trans (hfr.2 b j a37)⟩
              exact t_vret hQ X hT hfr (Nat.le_of_ble_eq_true rfl) (Nat.le_of_ble_eq_true rfl) dX13_rots_136
    · have w50309 := cv_eq (rfl : z50218.toInt = z50218.toInt) (by decide : (1 : Int32).toInt = 1) c50219
      exact t_vret hQ X hT hfr (Nat.le_of_ble_eq_true rfl) (Nat.le_of_ble_eq_true rfl) dX13_rots_25
set_option maxHeartbeats 4000000 in
set_option maxRecDepth 100000 in
theorem km180_X13_yearOf (l : Launch) (G : KG) (tag : Nat → Nat) (L : List Nat) (Fo : Nat → va_E) (ho : okT G ttC tag L Fo) (p0 : Nat) (p1 : Nat) (p2 : Int32) (x0 : Nat) (m0 : p0 ∈ L) (g0 : tag p0 = 46) (m1 : p1 ∈ L) (g1 : tag p1 = 37) (h2 : 0 ≤ p2.toInt ∧ p2.toInt ≤ 3) (mx0 : x0 ∈ L) (gx0 : tag x0 = 45) (pf0 : fld Fo p0 3 = .ref x0) : TMv l yX13_yearOf cX13_yearOf 4 { frames := 5, cells := 0, slots := 0, locals := 125 } G ttC tag L Fo [.ref p0, .ref p1, .int p2] (fun F1 => ((∀ b j : Nat, (tag b ≠ 46 ∨ j ≠ 22) → (tag b ≠ 46 ∨ j ≠ 23) → fld F1 b j = fld Fo b j) ∧ (∀ b j : Nat, tag b ≠ 37 → elm F1 b j = elm Fo b j))) := by
  refine t_bodyv (y := yX13_yearOf) (cd := cX13_yearOf) (mL := 4) (rm := { frames := 5, cells := 0, slots := 0, locals := 125 }) (av := [.ref p0, .ref p1, .int p2]) (by decide) (Nat.le_of_ble_eq_true rfl) ho ?_
  intro p e s m args below meth c ls A Q hQ X hT hl
  have hx := X.1.1
  have hb := X.1.2.1
  have hl : lv_has ls 4 [(0, .ref p0), (1, .ref p1), (2, .int p2)] := hl
  obtain ⟨F, hFo⟩ : ∃ F : Nat → va_E, F = Fo := ⟨_, rfl⟩
  rw [← hFo] at hT pf0
  have hfr : (∀ b j : Nat, (tag b ≠ 46 ∨ j ≠ 22) → (tag b ≠ 46 ∨ j ≠ 23) → fld F b j = fld Fo b j) ∧ (∀ b j : Nat, tag b ≠ 37 → elm F b j = elm Fo b j) := by
    rw [hFo]
    exact ⟨by intros; rfl, by intros; rfl⟩
  have K168 : ∀ (z51979 : Int32) (z51980 : Int32) (z51981 : Int32) (z51982 : Int32) (F : Nat → va_E) (H : Heap) (locs : List Loc) (ls : Array Slot), (1 ≤ z51979.toInt ∧ z51979.toInt ≤ 7) → TH G ttC A s tag L F H locs → ((∀ b j : Nat, (tag b ≠ 46 ∨ j ≠ 22) → (tag b ≠ 46 ∨ j ≠ 23) → fld F b j = fld Fo b j) ∧ (∀ b j : Nat, tag b ≠ 37 → elm F b j = elm Fo b j)) → (fld F p0 3 = .ref x0) → (fld F x0 5 = .int z51980) → (fld F x0 3 = .int z51981) → (fld F x0 4 = .int z51982) → lv_has ls 4 [(0, .ref p0), (1, .ref p1), (2, .int p2), (3, .int z51979)] → W p l e { frames := 5, cells := 0, slots := 0, locals := 125 } s m args below meth c H locs 0 0 Q (F0 m 168 ls []) := by
    intro z51979 z51980 z51981 z51982 F H locs ls rz51979 hT hfr pf0 qz51980 qz51981 qz51982 hl
    have rz51980 := rg_all z51980
    have rz51981 := rg_all z51981
    have rz51982 := rg_all z51982
    refine lv_aload_n hx hb dX13_yearOf_168 rfl (lv_at hl 0 rfl) ?_
    refine lv_aload_n hx hb dX13_yearOf_169 rfl (lv_at hl 1 rfl) ?_
    refine lv_iload_n hx hb dX13_yearOf_170 rfl (lv_at hl 2 rfl) ?_
    obtain ⟨z51983, qz51983, rz51983⟩ := t_elm hT m1 g1 rfl (i := p2) (by omega)
    have rz51983 := row_ml (by omega) rz51983
    have rz51983 : 0 ≤ z51983.toInt ∧ z51983.toInt ≤ 6 := rz51983
    refine t_cVi (n := 2) (C := RX13) (T := TX13) (N := 37) (As := [.ref p1, .int p2]) (rest := []) X hT (km146_X13_findsDoor l G tag L F hT.2.2.2 p0 p1 p2 x0 z51983 m0 g0 m1 g1 (by omega) mx0 gx0 pf0 (by omega) qz51983) m0 g0 rfl rfl qw_934 qw_935 qw_936 qw_5 qw_937 ⟨rfl, by decide +kernel, by decide +kernel, by decide +kernel⟩ ⟨Nat.le_of_ble_eq_true rfl, Nat.le_of_ble_eq_true rfl⟩ hl rfl rfl (Nat.le_of_ble_eq_true rfl) dX13_yearOf_171 ⟨Nat.le_of_ble_eq_true rfl, Nat.le_of_ble_eq_true rfl⟩ (fun z51984 F H locs hT hz51984 => ?_)
    obtain ⟨hz51984, yz51984, xz51984_0⟩ := hz51984
    have qz51980 := (yz51984.1 _ 5 (Or.inr (by decide)) (Or.inr (by decide))).trans qz51980
    have qz51981 := (yz51984.1 _ 3 (Or.inr (by decide)) (Or.inr (by decide))).trans qz51981
    have qz51982 := (yz51984.1 _ 4 (Or.inr (by decide)) (Or.inr (by decide))).trans qz51982
    have pf0 := (yz51984.1 _ 3 (Or.inr (by decide)) (Or.inr (by decide))).trans pf0
    have qz51983 := (yz51984.2 _ _ ).trans qz51983
    have hfr : (∀ b j : Nat, (tag b ≠ 46 ∨ j ≠ 22) → (tag b ≠ 46 ∨ j ≠ 23) → fld F b j = fld Fo b j) ∧ (∀ b j : Nat, tag b ≠ 37 → elm F b j = elm Fo b j) := ⟨fun b j n46_22 n46_23 => (yz51984.1 b j n46_22 n46_23).trans (hfr.1 b j n46_22 n46_23), fun b j a37 => (yz51984.2 b j ).trans (hfr.2 b j a37)⟩
    refine lv_if_eq (tgt := 201) hx hb dX13_yearOf_174 (by decide) (fun c51985 => ?_) (fun c51985 => ?_)
    · have w51986 := cv_eq (rfl : z51984.toInt = z51984.toInt) (by decide : (0 : Int32).toInt = 0) c51985
      exact t_vret hQ X hT hfr (Nat.le_of_ble_eq_true rfl) (Nat.le_of_ble_eq_true rfl) dX13_yearOf_201
    · have w51987 := cv_ne (rfl : z51984.toInt = z51984.toInt) (by decide : (0 : Int32).toInt = 0) c51985
      have w51988 := xz51984_0 (by omega)
      refine lv_aload_n hx hb dX13_yearOf_177 rfl (lv_at hl 1 rfl) ?_
      refine lv_bipush (v := 8) hx hb dX13_yearOf_178 (by decide) ?_
      refine lv_iload_n hx hb dX13_yearOf_180 rfl (lv_at hl 2 rfl) ?_
      refine lv_iadd hx hb dX13_yearOf_181 ?_
      refine lv_topi (fun z51989 ez51989 => ?_)
      have hz51989 : z51989.toInt = 8 + p2.toInt := ar_add ez51989 (by decide : (8 : Int32).toInt = 8) (rfl : p2.toInt = p2.toInt) (by omega) (by omega)
      have rz51989 : 8 ≤ z51989.toInt ∧ z51989.toInt ≤ 11 := by omega
      refine t_ild X hT m1 g1 rfl (by omega) dX13_yearOf_182 (fun z51990 vz51990 rz51990 => ?_)
      have oz51990 := rz51990
      have rz51990 := rg_all z51990
      refine lv_aload_n hx hb dX13_yearOf_183 rfl (lv_at hl 0 rfl) ?_
      refine lv_aload_n hx hb dX13_yearOf_184 rfl (lv_at hl 1 rfl) ?_
      refine lv_iload_n hx hb dX13_yearOf_185 rfl (lv_at hl 2 rfl) ?_
      refine lv_aload_n hx hb dX13_yearOf_186 rfl (lv_at hl 0 rfl) ?_
      refine t_get (C := RX13) (T := TX13) (N := 37) X hT m0 g0 rfl rfl 3 (by decide) qw_481 inlX13 rfl dX13_yearOf_187 (fun v51991 hv51991 ov51991 => ?_)
      obtain rfl : v51991 = .ref x0 := hv51991.symm.trans pf0
      refine t_getN (C := RX12) (T := TX12) (N := 31) X hT mx0 gx0 rfl rfl 22 (by decide) (List.mem_of_getElem? (i := 26) rfl) inlX12 rfl dX13_yearOf_190 (fun v51992 hv51992 ov51992 => ?_)
      obtain ⟨b51993, rfl, mb51993, gb51993⟩ := okV_r ov51992
      have gb51993 : tag b51993 = 31 := tg_of gb51993
      refine lv_iload_n hx hb dX13_yearOf_193 rfl (lv_at hl 2 rfl) ?_
      refine t_ild X hT mb51993 gb51993 rfl (by omega) dX13_yearOf_194 (fun z51994 vz51994 rz51994 => ?_)
      have rz51994 : 0 ≤ z51994.toInt ∧ z51994.toInt ≤ 3 := rz51994
      refine t_cVi (n := 3) (C := RX13) (T := TX13) (N := 37) (As := [.ref p1, .int p2, .int z51994]) (rest := [.int z51990]) X hT (km151_X13_costOf l G tag L F hT.2.2.2 p0 p1 p2 z51994 x0 m0 g0 m1 g1 (by omega) (by omega) mx0 gx0 pf0) m0 g0 rfl rfl qw_971 qw_972 qw_973 qw_5 qw_974 ⟨rfl, by decide +kernel, by decide +kernel, by decide +kernel⟩ ⟨Nat.le_of_ble_eq_true rfl, Nat.le_of_ble_eq_true rfl⟩ hl rfl rfl (Nat.le_of_ble_eq_true rfl) dX13_yearOf_195 ⟨Nat.le_of_ble_eq_true rfl, Nat.le_of_ble_eq_true rfl⟩ (fun z51995 F9 H locs hT hz51995 => ?_)
      obtain ⟨fz51995, hz51995⟩ := hz51995
      rw [fz51995] at hT
      refine lv_icmp_ge (tgt := 202) hx hb dX13_yearOf_198 (by decide) (fun c51996 => ?_) (fun c51996 => ?_)
      · have w51997 := cv_le (rfl : z51995.toInt = z51995.toInt) (rfl : z51990.toInt = z51990.toInt) c51996
        refine lv_aload_n hx hb dX13_yearOf_202 rfl (lv_at hl 1 rfl) ?_
        refine lv_bipush (v := 8) hx hb dX13_yearOf_203 (by decide) ?_
        refine lv_iload_n hx hb dX13_yearOf_205 rfl (lv_at hl 2 rfl) ?_
        refine lv_iadd hx hb dX13_yearOf_206 ?_
        refine lv_topi (fun z51998 ez51998 => ?_)
        have hz51998 : z51998.toInt = 8 + p2.toInt := ar_add ez51998 (by decide : (8 : Int32).toInt = 8) (rfl : p2.toInt = p2.toInt) (by omega) (by omega)
        have rz51998 : 8 ≤ z51998.toInt ∧ z51998.toInt ≤ 11 := by omega
        refine lv_dup2_11 hx hb dX13_yearOf_207 rfl rfl ?_
        refine t_ild X hT m1 g1 rfl (by omega) dX13_yearOf_208 (fun z51999 vz51999 rz51999 => ?_)
        have oz51999 := rz51999
        have rz51999 := rg_all z51999
        refine lv_aload_n hx hb dX13_yearOf_209 rfl (lv_at hl 0 rfl) ?_
        refine lv_aload_n hx hb dX13_yearOf_210 rfl (lv_at hl 1 rfl) ?_
        refine lv_iload_n hx hb dX13_yearOf_211 rfl (lv_at hl 2 rfl) ?_
        refine lv_aload_n hx hb dX13_yearOf_212 rfl (lv_at hl 0 rfl) ?_
        refine t_get (C := RX13) (T := TX13) (N := 37) X hT m0 g0 rfl rfl 3 (by decide) qw_481 inlX13 rfl dX13_yearOf_213 (fun v52000 hv52000 ov52000 => ?_)
        obtain rfl : v52000 = .ref x0 := hv52000.symm.trans pf0
        refine t_getN (C := RX12) (T := TX12) (N := 31) X hT mx0 gx0 rfl rfl 22 (by decide) (List.mem_of_getElem? (i := 26) rfl) inlX12 rfl dX13_yearOf_216 (fun v52001 hv52001 ov52001 => ?_)
        obtain rfl : v52001 = .ref b51993 := hv52001.symm.trans hv51992
        refine lv_iload_n hx hb dX13_yearOf_219 rfl (lv_at hl 2 rfl) ?_
        refine t_ild X hT mb51993 gb51993 rfl (by omega) dX13_yearOf_220 (fun z52002 vz52002 rz52002 => ?_)
        obtain rfl : z51994 = z52002 := vz51994.symm.trans vz52002
        refine t_cVi (n := 3) (C := RX13) (T := TX13) (N := 37) (As := [.ref p1, .int p2, .int z51994]) (rest := [.int z51999, .int z51998, .ref p1]) X hT (km151_X13_costOf l G tag L F hT.2.2.2 p0 p1 p2 z51994 x0 m0 g0 m1 g1 (by omega) (by omega) mx0 gx0 pf0) m0 g0 rfl rfl qw_971 qw_972 qw_973 qw_5 qw_974 ⟨rfl, by decide +kernel, by decide +kernel, by decide +kernel⟩ ⟨Nat.le_of_ble_eq_true rfl, Nat.le_of_ble_eq_true rfl⟩ hl rfl rfl (Nat.le_of_ble_eq_true rfl) dX13_yearOf_221 ⟨Nat.le_of_ble_eq_true rfl, Nat.le_of_ble_eq_true rfl⟩ (fun z52003 F9 H locs hT hz52003 => ?_)
        obtain ⟨fz52003, hz52003⟩ := hz52003
        rw [fz52003] at hT
        refine lv_isub hx hb dX13_yearOf_224 ?_
        refine lv_topi (fun z52004 ez52004 => ?_)
        have rz52004 := rg_all z52004
        refine t_ist X hT m1 g1 rfl (by omega) (row_fv (by omega) (Or.inl (by omega))) dX13_yearOf_225 (fun F H locs hT v52005 h1v52005 h2v52005 => ?_)
        have qz51980 := (h2v52005 _ _).trans qz51980
        have qz51981 := (h2v52005 _ _).trans qz51981
        have qz51982 := (h2v52005 _ _).trans qz51982
        have pf0 := (h2v52005 _ _).trans pf0
        have qz51983 := (h1v52005 _ _ (Or.inr (ine (by omega) (by omega) (by omega)))).trans qz51983
        have hv51992 := (h2v52005 _ _).trans hv51992
        have vz51994 := (h1v52005 _ _ (Or.inl (tne gb51993 g1 (by decide)))).trans vz51994
        have hfr : (∀ b j : Nat, (tag b ≠ 46 ∨ j ≠ 22) → (tag b ≠ 46 ∨ j ≠ 23) → fld F b j = fld Fo b j) ∧ (∀ b j : Nat, tag b ≠ 37 → elm F b j = elm Fo b j) := ⟨fun b j n46_22 n46_23 => (h2v52005 b j).trans (hfr.1 b j n46_22 n46_23), fun b j a37 => (h1v52005 b j (Or.inl (at_ne g1 a37))).trans (hfr.2 b j a37)⟩
        refine lv_aload_n hx hb dX13_yearOf_226 rfl (lv_at hl 1 rfl) ?_
        refine lv_iload_n hx hb dX13_yearOf_227 rfl (lv_at hl 2 rfl) ?_
        refine lv_aload_n hx hb dX13_yearOf_228 rfl (lv_at hl 0 rfl) ?_
        refine t_get (C := RX13) (T := TX13) (N := 37) X hT m0 g0 rfl rfl 3 (by decide) qw_481 inlX13 rfl dX13_yearOf_229 (fun v52006 hv52006 ov52006 => ?_)
        obtain rfl : v52006 = .ref x0 := hv52006.symm.trans pf0
        refine t_getN (C := RX12) (T := TX12) (N := 31) X hT mx0 gx0 rfl rfl 22 (by decide) (List.mem_of_getElem? (i := 26) rfl) inlX12 rfl dX13_yearOf_232 (fun v52007 hv52007 ov52007 => ?_)
        obtain rfl : v52007 = .ref b51993 := hv52007.symm.trans hv51992
        refine lv_iload_n hx hb dX13_yearOf_235 rfl (lv_at hl 2 rfl) ?_
        refine t_ild X hT mb51993 gb51993 rfl (by omega) dX13_yearOf_236 (fun z52008 vz52008 rz52008 => ?_)
        obtain rfl : z51994 = z52008 := vz51994.symm.trans vz52008
        refine lv_aload_n hx hb dX13_yearOf_237 rfl (lv_at hl 0 rfl) ?_
        refine t_get (C := RX13) (T := TX13) (N := 37) X hT m0 g0 rfl rfl 22 (by decide) qw_932 inlX13 rfl dX13_yearOf_238 (fun v52009 hv52009 ov52009 => ?_)
        obtain ⟨z52010, rfl, rz52010⟩ := okV_i ov52009
        refine lv_aload_n hx hb dX13_yearOf_241 rfl (lv_at hl 0 rfl) ?_
        refine t_get (C := RX13) (T := TX13) (N := 37) X hT m0 g0 rfl rfl 23 (by decide) qw_933 inlX13 rfl dX13_yearOf_242 (fun v52011 hv52011 ov52011 => ?_)
        obtain ⟨z52012, rfl, rz52012⟩ := okV_i ov52011
        refine lv_aload_n hx hb dX13_yearOf_245 rfl (lv_at hl 1 rfl) ?_
        refine lv_iconst (v := 4) hx hb dX13_yearOf_246 (by decide) ?_
        refine lv_iload_n hx hb dX13_yearOf_247 rfl (lv_at hl 2 rfl) ?_
        refine lv_iadd hx hb dX13_yearOf_248 ?_
        refine lv_topi (fun z52013 ez52013 => ?_)
        have hz52013 : z52013.toInt = 4 + p2.toInt := ar_add ez52013 (by decide : (4 : Int32).toInt = 4) (rfl : p2.toInt = p2.toInt) (by omega) (by omega)
        have rz52013 : 4 ≤ z52013.toInt ∧ z52013.toInt ≤ 7 := by omega
        refine t_ild X hT m1 g1 rfl (by omega) dX13_yearOf_249 (fun z52014 vz52014 rz52014 => ?_)
        have oz52014 := rz52014
        have rz52014 := rg_all z52014
        refine lv_bipush (v := 10) hx hb dX13_yearOf_250 (by decide) ?_
        refine lv_irem hx hb dX13_yearOf_252 (by decide) ?_
        refine lv_topi (fun z52015 ez52015 => ?_)
        have rz52015 := rg_all z52015
        refine lv_aload_n hx hb dX13_yearOf_253 rfl (lv_at hl 1 rfl) ?_
        refine lv_sipush (v := 210) hx hb dX13_yearOf_254 (by decide) ?_
        refine t_ild X hT m1 g1 rfl (by decide) dX13_yearOf_257 (fun z52016 vz52016 rz52016 => ?_)
        have oz52016 := rz52016
        have rz52016 := rg_all z52016
        refine t_cSv (n := 7) (As := [.ref p1, .int p2, .int z51994, .int z52010, .int z52012, .int z52015, .int z52016]) (rest := []) X hT (km50_X13_adds l G tag L F hT.2.2.2 p1 p2 z51994 z52010 z52012 z52015 z52016 z51983 m1 g1 (by omega) (by omega) (by omega) qz51983) qw_658 qw_659 qw_5 qw_660 ⟨by decide +kernel, by decide +kernel, by decide +kernel⟩ ⟨Nat.le_of_ble_eq_true rfl, Nat.le_of_ble_eq_true rfl⟩ hl rfl rfl (Nat.le_of_ble_eq_true rfl) dX13_yearOf_258 ⟨Nat.le_of_ble_eq_true rfl, Nat.le_of_ble_eq_true rfl⟩ (fun F H locs hT hz52017 => ?_)
        obtain ⟨yz52017, xz52017_0⟩ := hz52017
        have qz51980 := (yz52017.1 _ 5 ).trans qz51980
        have qz51981 := (yz52017.1 _ 3 ).trans qz51981
        have qz51982 := (yz52017.1 _ 4 ).trans qz51982
        have pf0 := (yz52017.1 _ 3 ).trans pf0
        have hv51992 := (yz52017.1 _ 22 ).trans hv51992
        have vz51994 := (yz52017.2 _ _ (by rw [gb51993]; decide)).trans vz51994
        have hv52009 := (yz52017.1 _ 22 ).trans hv52009
        have hv52011 := (yz52017.1 _ 23 ).trans hv52011
        have hfr : (∀ b j : Nat, (tag b ≠ 46 ∨ j ≠ 22) → (tag b ≠ 46 ∨ j ≠ 23) → fld F b j = fld Fo b j) ∧ (∀ b j : Nat, tag b ≠ 37 → elm F b j = elm Fo b j) := ⟨fun b j n46_22 n46_23 => (yz52017.1 b j ).trans (hfr.1 b j n46_22 n46_23), fun b j a37 => (yz52017.2 b j a37).trans (hfr.2 b j a37)⟩
        obtain ⟨z52018, qz52018, hz52018⟩ := xz52017_0
        have rz52018 : 1 ≤ z52018.toInt ∧ z52018.toInt ≤ 6 := by omega
        exact t_vret hQ X hT hfr (Nat.le_of_ble_eq_true rfl) (Nat.le_of_ble_eq_true rfl) dX13_yearOf_261
      · have w52019 := cv_nle (rfl : z51995.toInt = z51995.toInt) (rfl : z51990.toInt = z51990.toInt) c51996
        exact t_vret hQ X hT hfr (Nat.le_of_ble_eq_true rfl) (Nat.le_of_ble_eq_true rfl) dX13_yearOf_201
  have K112 : ∀ (n : Nat) (z52020 : Int32) (z52021 : Int32) (z52022 : Int32) (z52023 : Int32) (F : Nat → va_E) (H : Heap) (locs : List Loc) (ls : Array Slot), (7 - z52020.toInt < (n : Int)) → (1 ≤ z52020.toInt ∧ z52020.toInt ≤ 7) → ((-2147483647) ≤ z52023.toInt ∧ z52023.toInt ≤ 2147483647) → TH G ttC A s tag L F H locs → ((∀ b j : Nat, (tag b ≠ 46 ∨ j ≠ 22) → (tag b ≠ 46 ∨ j ≠ 23) → fld F b j = fld Fo b j) ∧ (∀ b j : Nat, tag b ≠ 37 → elm F b j = elm Fo b j)) → (fld F p0 3 = .ref x0) → (fld F x0 5 = .int z52021) → (fld F x0 3 = .int z52022) → (fld F x0 4 = .int z52023) → lv_has ls 4 [(0, .ref p0), (1, .ref p1), (2, .int p2), (3, .int z52020)] → W p l e { frames := 5, cells := 0, slots := 0, locals := 125 } s m args below meth c H locs 0 0 Q (F0 m 112 ls []) := by
    intro n
    induction n with
    | zero =>
      intro z52020 z52021 z52022 z52023 F H locs ls hn rz52020 rz52023 hT hfr pf0 qz52021 qz52022 qz52023 hl
      have rz52021 := rg_all z52021
      have rz52022 := rg_all z52022
      exfalso
      omega
    | succ n ih112 =>
      intro z52020 z52021 z52022 z52023 F H locs ls hn rz52020 rz52023 hT hfr pf0 qz52021 qz52022 qz52023 hl
      have rz52021 := rg_all z52021
      have rz52022 := rg_all z52022
      have K162 : ∀ (z52025 : Int32) (z52026 : Int32) (z52027 : Int32) (F : Nat → va_E) (H : Heap) (locs : List Loc) (ls : Array Slot), ((-2147483647) ≤ z52027.toInt ∧ z52027.toInt ≤ 2147483647) → (1 ≤ z52020.toInt ∧ z52020.toInt ≤ 6) → TH G ttC A s tag L F H locs → ((∀ b j : Nat, (tag b ≠ 46 ∨ j ≠ 22) → (tag b ≠ 46 ∨ j ≠ 23) → fld F b j = fld Fo b j) ∧ (∀ b j : Nat, tag b ≠ 37 → elm F b j = elm Fo b j)) → (fld F p0 3 = .ref x0) → (fld F x0 5 = .int z52025) → (fld F x0 3 = .int z52026) → (fld F x0 4 = .int z52027) → lv_has ls 4 [(0, .ref p0), (1, .ref p1), (2, .int p2), (3, .int z52020)] → W p l e { frames := 5, cells := 0, slots := 0, locals := 125 } s m args below meth c H locs 0 0 Q (F0 m 162 ls []) := by
        intro z52025 z52026 z52027 F H locs ls rz52027 r9s52024 hT hfr pf0 qz52025 qz52026 qz52027 hl
        have rz52025 := rg_all z52025
        have rz52026 := rg_all z52026
        obtain ⟨z52028, ez52028⟩ : ∃ y : Int32, y = z52020 + 1 := ⟨_, rfl⟩
        have hz52028 : z52028.toInt = z52020.toInt + 1 := ar_add ez52028 rfl (by decide : (1 : Int32).toInt = 1) (by omega) (by omega)
        refine lv_iinc (v := z52028) (lv' := [(3, .int z52028), (0, .ref p0), (1, .ref p1), (2, .int p2)]) hx hb dX13_yearOf_162 hl (k := 3) rfl (by rw [ez52028]; rfl) (by decide) rfl (fun ls hl => ?_)
        refine lv_goto (tgt := 112) hx hb dX13_yearOf_165 (by decide) ?_
        exact ih112 z52028 z52025 z52026 z52027 _ _ _ _ (by omega) (by omega) (by omega) hT hfr pf0 qz52025 qz52026 qz52027 (lv_sub hl [1, 2, 3, 0] rfl)
      refine lv_iload_n hx hb dX13_yearOf_112 rfl (lv_at hl 3 rfl) ?_
      refine lv_aload_n hx hb dX13_yearOf_113 rfl (lv_at hl 1 rfl) ?_
      refine lv_iconst (v := 0) hx hb dX13_yearOf_114 (by decide) ?_
      refine lv_iload_n hx hb dX13_yearOf_115 rfl (lv_at hl 2 rfl) ?_
      refine lv_iadd hx hb dX13_yearOf_116 ?_
      refine lv_topi (fun z52029 ez52029 => ?_)
      obtain rfl : p2 = z52029 := (ar_zadd ez52029).symm
      refine t_ild X hT m1 g1 rfl (by omega) dX13_yearOf_117 (fun z52030 vz52030 rz52030 => ?_)
      have rz52030 := row_ml (by omega) rz52030
      refine lv_icmp_gt (tgt := 168) hx hb dX13_yearOf_118 (by decide) (fun c52031 => ?_) (fun c52031 => ?_)
      · have w52032 := cv_lt (rfl : z52030.toInt = z52030.toInt) (rfl : z52020.toInt = z52020.toInt) c52031
        exact K168 z52020 z52021 z52022 z52023 _ _ _ _ (by omega) hT hfr pf0 qz52021 qz52022 qz52023 (lv_sub hl [0, 1, 2, 3] rfl)
      · have w52033 := cv_nlt (rfl : z52030.toInt = z52030.toInt) (rfl : z52020.toInt = z52020.toInt) c52031
        refine lv_aload_n hx hb dX13_yearOf_121 rfl (lv_at hl 0 rfl) ?_
        refine t_get (C := RX13) (T := TX13) (N := 37) X hT m0 g0 rfl rfl 3 (by decide) qw_481 inlX13 rfl dX13_yearOf_122 (fun v52034 hv52034 ov52034 => ?_)
        obtain rfl : v52034 = .ref x0 := hv52034.symm.trans pf0
        refine t_getN (C := RX12) (T := TX12) (N := 31) X hT mx0 gx0 rfl rfl 16 (by decide) (List.mem_of_getElem? (i := 20) rfl) inlX12 rfl dX13_yearOf_125 (fun v52035 hv52035 ov52035 => ?_)
        obtain ⟨b52036, rfl, mb52036, gb52036⟩ := okV_r ov52035
        have gb52036 : tag b52036 = 29 := tg_of gb52036
        refine lv_aload_n hx hb dX13_yearOf_128 rfl (lv_at hl 1 rfl) ?_
        refine lv_iload_n hx hb dX13_yearOf_129 rfl (lv_at hl 2 rfl) ?_
        refine lv_iload_n hx hb dX13_yearOf_130 rfl (lv_at hl 3 rfl) ?_
        refine lv_iconst (v := 0) hx hb dX13_yearOf_131 (by decide) ?_
        refine t_cSi (n := 3) (As := [.int p2, .int z52020, .int 0]) (rest := [.ref p1, .ref b52036]) X hT (km49_X13_part l G tag L F hT.2.2.2 p2 z52020 0 (by omega) (by omega) (by decide)) qw_661 qw_662 qw_5 qw_663 ⟨by decide +kernel, by decide +kernel, by decide +kernel⟩ ⟨Nat.le_of_ble_eq_true rfl, Nat.le_of_ble_eq_true rfl⟩ hl rfl rfl (Nat.le_of_ble_eq_true rfl) dX13_yearOf_132 ⟨Nat.le_of_ble_eq_true rfl, Nat.le_of_ble_eq_true rfl⟩ (fun z52037 F9 H locs hT hz52037 => ?_)
        obtain ⟨fz52037, hz52037, xz52037_0⟩ := hz52037
        rw [fz52037] at hT
        have k52038 : (0 : Int32).toInt = 0 := by decide
        refine t_ild X hT m1 g1 rfl (by omega) dX13_yearOf_135 (fun z52039 vz52039 rz52039 => ?_)
        have rz52039 := row_sl (by omega) (by omega) rz52039
        refine t_ild X hT mb52036 gb52036 rfl (by omega) dX13_yearOf_136 (fun z52040 vz52040 rz52040 => ?_)
        have rz52040 : (-2147483648) ≤ z52040.toInt ∧ z52040.toInt ≤ 2147483647 := rz52040
        refine lv_iconst (v := 2) hx hb dX13_yearOf_137 (by decide) ?_
        refine lv_icmp_ne (tgt := 162) hx hb dX13_yearOf_138 (by decide) (fun c52041 => ?_) (fun c52041 => ?_)
        · have w52042 := cv_ne (rfl : z52040.toInt = z52040.toInt) (by decide : (2 : Int32).toInt = 2) c52041
          exact K162 z52021 z52022 z52023 _ _ _ _ (by omega) (by omega) hT hfr pf0 qz52021 qz52022 qz52023 (lv_sub hl [0, 1, 2, 3] rfl)
        · have w52043 := cv_eq (rfl : z52040.toInt = z52040.toInt) (by decide : (2 : Int32).toInt = 2) c52041
          refine lv_aload_n hx hb dX13_yearOf_141 rfl (lv_at hl 1 rfl) ?_
          refine lv_iload_n hx hb dX13_yearOf_142 rfl (lv_at hl 2 rfl) ?_
          refine lv_iload_n hx hb dX13_yearOf_143 rfl (lv_at hl 3 rfl) ?_
          refine lv_bipush (v := 6) hx hb dX13_yearOf_144 (by decide) ?_
          refine t_cSi (n := 3) (As := [.int p2, .int z52020, .int 6]) (rest := [.ref p1]) X hT (km49_X13_part l G tag L F hT.2.2.2 p2 z52020 6 (by omega) (by omega) (by decide)) qw_661 qw_662 qw_5 qw_663 ⟨by decide +kernel, by decide +kernel, by decide +kernel⟩ ⟨Nat.le_of_ble_eq_true rfl, Nat.le_of_ble_eq_true rfl⟩ hl rfl rfl (Nat.le_of_ble_eq_true rfl) dX13_yearOf_146 ⟨Nat.le_of_ble_eq_true rfl, Nat.le_of_ble_eq_true rfl⟩ (fun z52044 F9 H locs hT hz52044 => ?_)
          obtain ⟨fz52044, hz52044, xz52044_0⟩ := hz52044
          rw [fz52044] at hT
          have k52045 : (6 : Int32).toInt = 6 := by decide
          refine t_ild X hT m1 g1 rfl (by omega) dX13_yearOf_149 (fun z52046 vz52046 rz52046 => ?_)
          have oz52046 := rz52046
          have rz52046 := rg_all z52046
          refine lv_if_ne (tgt := 162) hx hb dX13_yearOf_150 (by decide) (fun c52047 => ?_) (fun c52047 => ?_)
          · have w52048 := cv_ne (rfl : z52046.toInt = z52046.toInt) (by decide : (0 : Int32).toInt = 0) c52047
            exact K162 z52021 z52022 z52023 _ _ _ _ (by omega) (by omega) hT hfr pf0 qz52021 qz52022 qz52023 (lv_sub hl [0, 1, 2, 3] rfl)
          · have w52049 := cv_eq (rfl : z52046.toInt = z52046.toInt) (by decide : (0 : Int32).toInt = 0) c52047
            refine lv_aload_n hx hb dX13_yearOf_153 rfl (lv_at hl 1 rfl) ?_
            refine lv_iload_n hx hb dX13_yearOf_154 rfl (lv_at hl 2 rfl) ?_
            refine lv_iload_n hx hb dX13_yearOf_155 rfl (lv_at hl 3 rfl) ?_
            refine lv_iconst (v := 5) hx hb dX13_yearOf_156 (by decide) ?_
            refine t_cSi (n := 3) (As := [.int p2, .int z52020, .int 5]) (rest := [.ref p1]) X hT (km49_X13_part l G tag L F hT.2.2.2 p2 z52020 5 (by omega) (by omega) (by decide)) qw_661 qw_662 qw_5 qw_663 ⟨by decide +kernel, by decide +kernel, by decide +kernel⟩ ⟨Nat.le_of_ble_eq_true rfl, Nat.le_of_ble_eq_true rfl⟩ hl rfl rfl (Nat.le_of_ble_eq_true rfl) dX13_yearOf_157 ⟨Nat.le_of_ble_eq_true rfl, Nat.le_of_ble_eq_true rfl⟩ (fun z52050 F9 H locs hT hz52050 => ?_)
            obtain ⟨fz52050, hz52050, xz52050_0⟩ := hz52050
            rw [fz52050] at hT
            have k52051 : (5 : Int32).toInt = 5 := by decide
            refine lv_iconst (v := 1) hx hb dX13_yearOf_160 (by decide) ?_
            refine t_ist X hT m1 g1 rfl (by omega) (row_fv (by omega) (Or.inr (Or.inr (by omega)))) dX13_yearOf_161 (fun F H locs hT v52052 h1v52052 h2v52052 => ?_)
            have qz52021 := (h2v52052 _ _).trans qz52021
            have qz52022 := (h2v52052 _ _).trans qz52022
            have qz52023 := (h2v52052 _ _).trans qz52023
            have pf0 := (h2v52052 _ _).trans pf0
            have vz52030 := (h1v52052 _ _ (Or.inr (ine (by omega) (by omega) (by omega)))).trans vz52030
            have hv52035 := (h2v52052 _ _).trans hv52035
            have vz52040 := (h1v52052 _ _ (Or.inl (tne gb52036 g1 (by decide)))).trans vz52040
            have hfr : (∀ b j : Nat, (tag b ≠ 46 ∨ j ≠ 22) → (tag b ≠ 46 ∨ j ≠ 23) → fld F b j = fld Fo b j) ∧ (∀ b j : Nat, tag b ≠ 37 → elm F b j = elm Fo b j) := ⟨fun b j n46_22 n46_23 => (h2v52052 b j).trans (hfr.1 b j n46_22 n46_23), fun b j a37 => (h1v52052 b j (Or.inl (at_ne g1 a37))).trans (hfr.2 b j a37)⟩
            exact K162 z52021 z52022 z52023 _ _ _ _ (by omega) (by omega) hT hfr pf0 qz52021 qz52022 qz52023 (lv_sub hl [0, 1, 2, 3] rfl)
  have K74 : ∀ (n : Nat) (z52053 : Int32) (z52054 : Int32) (z52055 : Int32) (F : Nat → va_E) (H : Heap) (locs : List Loc) (ls : Array Slot), (7 - z52053.toInt < (n : Int)) → (1 ≤ z52053.toInt ∧ z52053.toInt ≤ 7) → TH G ttC A s tag L F H locs → ((∀ b j : Nat, (tag b ≠ 46 ∨ j ≠ 22) → (tag b ≠ 46 ∨ j ≠ 23) → fld F b j = fld Fo b j) ∧ (∀ b j : Nat, tag b ≠ 37 → elm F b j = elm Fo b j)) → (fld F p0 3 = .ref x0) → (fld F x0 5 = .int z52054) → (fld F x0 3 = .int z52055) → lv_has ls 4 [(0, .ref p0), (1, .ref p1), (2, .int p2), (3, .int z52053)] → W p l e { frames := 5, cells := 0, slots := 0, locals := 125 } s m args below meth c H locs 0 0 Q (F0 m 74 ls []) := by
    intro n
    induction n with
    | zero =>
      intro z52053 z52054 z52055 F H locs ls hn rz52053 hT hfr pf0 qz52054 qz52055 hl
      have rz52054 := rg_all z52054
      have rz52055 := rg_all z52055
      exfalso
      omega
    | succ n ih74 =>
      intro z52053 z52054 z52055 F H locs ls hn rz52053 hT hfr pf0 qz52054 qz52055 hl
      have rz52054 := rg_all z52054
      have rz52055 := rg_all z52055
      refine lv_iload_n hx hb dX13_yearOf_74 rfl (lv_at hl 3 rfl) ?_
      refine lv_aload_n hx hb dX13_yearOf_75 rfl (lv_at hl 1 rfl) ?_
      refine lv_iconst (v := 0) hx hb dX13_yearOf_76 (by decide) ?_
      refine lv_iload_n hx hb dX13_yearOf_77 rfl (lv_at hl 2 rfl) ?_
      refine lv_iadd hx hb dX13_yearOf_78 ?_
      refine lv_topi (fun z52056 ez52056 => ?_)
      obtain rfl : p2 = z52056 := (ar_zadd ez52056).symm
      refine t_ild X hT m1 g1 rfl (by omega) dX13_yearOf_79 (fun z52057 vz52057 rz52057 => ?_)
      have rz52057 := row_ml (by omega) rz52057
      refine lv_icmp_gt (tgt := 96) hx hb dX13_yearOf_80 (by decide) (fun c52058 => ?_) (fun c52058 => ?_)
      · have w52059 := cv_lt (rfl : z52057.toInt = z52057.toInt) (rfl : z52053.toInt = z52053.toInt) c52058
        refine lv_aload_n hx hb dX13_yearOf_96 rfl (lv_at hl 1 rfl) ?_
        refine t_cSi (n := 1) (As := [.ref p1]) (rest := []) X hT (km178_X13_drawn l G tag L F hT.2.2.2 p1 m1 g1) qw_1168 qw_1169 qw_5 qw_1170 ⟨by decide +kernel, by decide +kernel, by decide +kernel⟩ ⟨Nat.le_of_ble_eq_true rfl, Nat.le_of_ble_eq_true rfl⟩ hl rfl rfl (Nat.le_of_ble_eq_true rfl) dX13_yearOf_97 ⟨Nat.le_of_ble_eq_true rfl, Nat.le_of_ble_eq_true rfl⟩ (fun z52060 F H locs hT hz52060 => ?_)
        obtain ⟨hz52060, yz52060⟩ := hz52060
        have qz52054 := (yz52060.1 _ 5 ).trans qz52054
        have qz52055 := (yz52060.1 _ 3 ).trans qz52055
        have pf0 := (yz52060.1 _ 3 ).trans pf0
        have hfr : (∀ b j : Nat, (tag b ≠ 46 ∨ j ≠ 22) → (tag b ≠ 46 ∨ j ≠ 23) → fld F b j = fld Fo b j) ∧ (∀ b j : Nat, tag b ≠ 37 → elm F b j = elm Fo b j) := ⟨fun b j n46_22 n46_23 => (yz52060.1 b j ).trans (hfr.1 b j n46_22 n46_23), fun b j a37 => (yz52060.2 b j a37).trans (hfr.2 b j a37)⟩
        refine lv_aload_n hx hb dX13_yearOf_100 rfl (lv_at hl 0 rfl) ?_
        refine t_get (C := RX13) (T := TX13) (N := 37) X hT m0 g0 rfl rfl 3 (by decide) qw_481 inlX13 rfl dX13_yearOf_101 (fun v52061 hv52061 ov52061 => ?_)
        obtain rfl : v52061 = .ref x0 := hv52061.symm.trans pf0
        refine t_getN (C := RX12) (T := TX12) (N := 31) X hT mx0 gx0 rfl rfl 4 (by decide) (List.mem_of_getElem? (i := 8) rfl) inlX12 rfl dX13_yearOf_104 (fun v52062 hv52062 ov52062 => ?_)
        obtain ⟨z52063, rfl, rz52063⟩ := okV_i ov52062
        refine lv_icmp_ge (tgt := 168) hx hb dX13_yearOf_107 (by decide) (fun c52064 => ?_) (fun c52064 => ?_)
        · have w52065 := cv_le (rfl : z52063.toInt = z52063.toInt) (rfl : z52060.toInt = z52060.toInt) c52064
          exact K168 z52053 z52054 z52055 z52063 _ _ _ _ (by omega) hT hfr pf0 qz52054 qz52055 hv52062 (lv_sub hl [0, 1, 2, 3] rfl)
        · have w52066 := cv_nle (rfl : z52063.toInt = z52063.toInt) (rfl : z52060.toInt = z52060.toInt) c52064
          refine lv_iconst (v := 1) hx hb dX13_yearOf_110 (by decide) ?_
          refine lv_istore_n (lv' := [(3, .int 1), (0, .ref p0), (1, .ref p1), (2, .int p2)]) hx hb dX13_yearOf_111 rfl hl (by decide) rfl (fun ls hl => ?_)
          have k52067 : (1 : Int32).toInt = 1 := by decide
          exact K112 7 1 z52054 z52055 z52063 _ _ _ _ (by omega) (by decide) (by omega) hT hfr pf0 qz52054 qz52055 hv52062 (lv_sub hl [1, 2, 3, 0] rfl)
      · have w52068 := cv_nlt (rfl : z52057.toInt = z52057.toInt) (rfl : z52053.toInt = z52053.toInt) c52058
        refine lv_aload_n hx hb dX13_yearOf_83 rfl (lv_at hl 0 rfl) ?_
        refine lv_aload_n hx hb dX13_yearOf_84 rfl (lv_at hl 1 rfl) ?_
        refine lv_iload_n hx hb dX13_yearOf_85 rfl (lv_at hl 2 rfl) ?_
        refine lv_iload_n hx hb dX13_yearOf_86 rfl (lv_at hl 3 rfl) ?_
        refine t_cVv (n := 3) (C := RX13) (T := TX13) (N := 37) (As := [.ref p1, .int p2, .int z52053]) (rest := []) X hT (km179_X13_rots l G tag L F hT.2.2.2 p0 p1 p2 z52053 x0 m0 g0 m1 g1 (by omega) (by omega) mx0 gx0 pf0) m0 g0 rfl rfl qw_1174 qw_1175 qw_1176 qw_5 qw_1177 ⟨rfl, by decide +kernel, by decide +kernel, by decide +kernel⟩ ⟨Nat.le_of_ble_eq_true rfl, Nat.le_of_ble_eq_true rfl⟩ hl rfl rfl (Nat.le_of_ble_eq_true rfl) dX13_yearOf_87 ⟨Nat.le_of_ble_eq_true rfl, Nat.le_of_ble_eq_true rfl⟩ (fun F H locs hT hz52069 => ?_)
        have yz52069 := hz52069
        have qz52054 := (yz52069.1 _ 5 ).trans qz52054
        have qz52055 := (yz52069.1 _ 3 ).trans qz52055
        have pf0 := (yz52069.1 _ 3 ).trans pf0
        have hfr : (∀ b j : Nat, (tag b ≠ 46 ∨ j ≠ 22) → (tag b ≠ 46 ∨ j ≠ 23) → fld F b j = fld Fo b j) ∧ (∀ b j : Nat, tag b ≠ 37 → elm F b j = elm Fo b j) := ⟨fun b j n46_22 n46_23 => (yz52069.1 b j ).trans (hfr.1 b j n46_22 n46_23), fun b j a37 => (yz52069.2 b j a37).trans (hfr.2 b j a37)⟩
        obtain ⟨z52070, ez52070⟩ : ∃ y : Int32, y = z52053 + 1 := ⟨_, rfl⟩
        have hz52070 : z52070.toInt = z52053.toInt + 1 := ar_add ez52070 rfl (by decide : (1 : Int32).toInt = 1) (by omega) (by omega)
        refine lv_iinc (v := z52070) (lv' := [(3, .int z52070), (0, .ref p0), (1, .ref p1), (2, .int p2)]) hx hb dX13_yearOf_90 hl (k := 3) rfl (by rw [ez52070]; rfl) (by decide) rfl (fun ls hl => ?_)
        refine lv_goto (tgt := 74) hx hb dX13_yearOf_93 (by decide) ?_
        exact ih74 z52070 z52054 z52055 _ _ _ _ (by omega) (by omega) hT hfr pf0 qz52054 qz52055 (lv_sub hl [1, 2, 3, 0] rfl)
  have K72 : ∀ (z52071 : Int32) (z52072 : Int32) (F : Nat → va_E) (H : Heap) (locs : List Loc) (ls : Array Slot), TH G ttC A s tag L F H locs → ((∀ b j : Nat, (tag b ≠ 46 ∨ j ≠ 22) → (tag b ≠ 46 ∨ j ≠ 23) → fld F b j = fld Fo b j) ∧ (∀ b j : Nat, tag b ≠ 37 → elm F b j = elm Fo b j)) → (fld F p0 3 = .ref x0) → (fld F x0 5 = .int z52071) → (fld F x0 3 = .int z52072) → lv_has ls 4 [(0, .ref p0), (1, .ref p1), (2, .int p2)] → W p l e { frames := 5, cells := 0, slots := 0, locals := 125 } s m args below meth c H locs 0 0 Q (F0 m 72 ls []) := by
    intro z52071 z52072 F H locs ls hT hfr pf0 qz52071 qz52072 hl
    have rz52071 := rg_all z52071
    have rz52072 := rg_all z52072
    refine lv_iconst (v := 1) hx hb dX13_yearOf_72 (by decide) ?_
    refine lv_istore_n (lv' := [(3, .int 1), (0, .ref p0), (1, .ref p1), (2, .int p2)]) hx hb dX13_yearOf_73 rfl hl (by decide) rfl (fun ls hl => ?_)
    have k52073 : (1 : Int32).toInt = 1 := by decide
    exact K74 7 1 z52071 z52072 _ _ _ _ (by omega) (by decide) hT hfr pf0 qz52071 qz52072 (lv_sub hl [1, 2, 3, 0] rfl)
  refine lv_aload_n hx hb dX13_yearOf_0 rfl (lv_at hl 1 rfl) ?_
  refine lv_iconst (v := 4) hx hb dX13_yearOf_1 (by decide) ?_
  refine lv_iload_n hx hb dX13_yearOf_2 rfl (lv_at hl 2 rfl) ?_
  refine lv_iadd hx hb dX13_yearOf_3 ?_
  refine lv_topi (fun z52074 ez52074 => ?_)
  have hz52074 : z52074.toInt = 4 + p2.toInt := ar_add ez52074 (by decide : (4 : Int32).toInt = 4) (rfl : p2.toInt = p2.toInt) (by omega) (by omega)
  have rz52074 : 4 ≤ z52074.toInt ∧ z52074.toInt ≤ 7 := by omega
  refine t_ild X hT m1 g1 rfl (by omega) dX13_yearOf_4 (fun z52075 vz52075 rz52075 => ?_)
  have oz52075 := rz52075
  have rz52075 := rg_all z52075
  refine lv_if_ne (tgt := 9) hx hb dX13_yearOf_5 (by decide) (fun c52076 => ?_) (fun c52076 => ?_)
  · have w52077 := cv_ne (rfl : z52075.toInt = z52075.toInt) (by decide : (0 : Int32).toInt = 0) c52076
    refine lv_aload_n hx hb dX13_yearOf_9 rfl (lv_at hl 1 rfl) ?_
    refine lv_bipush (v := 8) hx hb dX13_yearOf_10 (by decide) ?_
    refine lv_iload_n hx hb dX13_yearOf_12 rfl (lv_at hl 2 rfl) ?_
    refine lv_iadd hx hb dX13_yearOf_13 ?_
    refine lv_topi (fun z52078 ez52078 => ?_)
    have hz52078 : z52078.toInt = 8 + p2.toInt := ar_add ez52078 (by decide : (8 : Int32).toInt = 8) (rfl : p2.toInt = p2.toInt) (by omega) (by omega)
    have rz52078 : 8 ≤ z52078.toInt ∧ z52078.toInt ≤ 11 := by omega
    refine lv_sipush (v := 999) hx hb dX13_yearOf_14 (by decide) ?_
    refine lv_aload_n hx hb dX13_yearOf_17 rfl (lv_at hl 1 rfl) ?_
    refine lv_bipush (v := 8) hx hb dX13_yearOf_18 (by decide) ?_
    refine lv_iload_n hx hb dX13_yearOf_20 rfl (lv_at hl 2 rfl) ?_
    refine lv_iadd hx hb dX13_yearOf_21 ?_
    refine lv_topi (fun z52079 ez52079 => ?_)
    have hz52079 : z52079.toInt = 8 + p2.toInt := ar_add ez52079 (by decide : (8 : Int32).toInt = 8) (rfl : p2.toInt = p2.toInt) (by omega) (by omega)
    have rz52079 : 8 ≤ z52079.toInt ∧ z52079.toInt ≤ 11 := by omega
    refine t_ild X hT m1 g1 rfl (by omega) dX13_yearOf_22 (fun z52080 vz52080 rz52080 => ?_)
    have oz52080 := rz52080
    have rz52080 := rg_all z52080
    refine lv_aload_n hx hb dX13_yearOf_23 rfl (lv_at hl 1 rfl) ?_
    refine lv_iconst (v := 4) hx hb dX13_yearOf_24 (by decide) ?_
    refine lv_iload_n hx hb dX13_yearOf_25 rfl (lv_at hl 2 rfl) ?_
    refine lv_iadd hx hb dX13_yearOf_26 ?_
    refine lv_topi (fun z52081 ez52081 => ?_)
    have hz52081 : z52081.toInt = 4 + p2.toInt := ar_add ez52081 (by decide : (4 : Int32).toInt = 4) (rfl : p2.toInt = p2.toInt) (by omega) (by omega)
    have rz52081 : 4 ≤ z52081.toInt ∧ z52081.toInt ≤ 7 := by omega
    refine t_ild X hT m1 g1 rfl (by omega) dX13_yearOf_27 (fun z52082 vz52082 rz52082 => ?_)
    have oz52082 := rz52082
    have rz52082 := rg_all z52082
    refine lv_aload_n hx hb dX13_yearOf_28 rfl (lv_at hl 0 rfl) ?_
    refine t_get (C := RX13) (T := TX13) (N := 37) X hT m0 g0 rfl rfl 3 (by decide) qw_481 inlX13 rfl dX13_yearOf_29 (fun v52083 hv52083 ov52083 => ?_)
    obtain rfl : v52083 = .ref x0 := hv52083.symm.trans pf0
    refine t_getN (C := RX12) (T := TX12) (N := 31) X hT mx0 gx0 rfl rfl 5 (by decide) (List.mem_of_getElem? (i := 9) rfl) inlX12 rfl dX13_yearOf_32 (fun v52084 hv52084 ov52084 => ?_)
    obtain ⟨z52085, rfl, rz52085⟩ := okV_i ov52084
    refine lv_imul hx hb dX13_yearOf_35 ?_
    refine lv_topi (fun z52086 ez52086 => ?_)
    have rz52086 := rg_all z52086
    refine lv_iadd hx hb dX13_yearOf_36 ?_
    refine lv_topi (fun z52087 ez52087 => ?_)
    have rz52087 := rg_all z52087
    refine t_cSi (n := 2) (As := [.int 999, .int z52087]) (rest := [.int z52078, .ref p1]) X hT (km161_X13_least l G tag L F hT.2.2.2 999 z52087 ) qw_1065 qw_1066 qw_5 qw_1067 ⟨by decide +kernel, by decide +kernel, by decide +kernel⟩ ⟨Nat.le_of_ble_eq_true rfl, Nat.le_of_ble_eq_true rfl⟩ hl rfl rfl (Nat.le_of_ble_eq_true rfl) dX13_yearOf_37 ⟨Nat.le_of_ble_eq_true rfl, Nat.le_of_ble_eq_true rfl⟩ (fun z52088 F9 H locs hT hz52088 => ?_)
    obtain ⟨fz52088, hz52088⟩ := hz52088
    rw [fz52088] at hT
    refine t_ist X hT m1 g1 rfl (by omega) (row_fv (by omega) (Or.inl (by omega))) dX13_yearOf_40 (fun F H locs hT v52089 h1v52089 h2v52089 => ?_)
    have pf0 := (h2v52089 _ _).trans pf0
    have vz52075 := (h1v52089 _ _ (Or.inr (ine (by omega) (by omega) (by omega)))).trans vz52075
    have vz52082 := (h1v52089 _ _ (Or.inr (ine (by omega) (by omega) (by omega)))).trans vz52082
    have hv52084 := (h2v52089 _ _).trans hv52084
    have hfr : (∀ b j : Nat, (tag b ≠ 46 ∨ j ≠ 22) → (tag b ≠ 46 ∨ j ≠ 23) → fld F b j = fld Fo b j) ∧ (∀ b j : Nat, tag b ≠ 37 → elm F b j = elm Fo b j) := ⟨fun b j n46_22 n46_23 => (h2v52089 b j).trans (hfr.1 b j n46_22 n46_23), fun b j a37 => (h1v52089 b j (Or.inl (at_ne g1 a37))).trans (hfr.2 b j a37)⟩
    refine lv_aload_n hx hb dX13_yearOf_41 rfl (lv_at hl 1 rfl) ?_
    refine t_cSi (n := 1) (As := [.ref p1]) (rest := []) X hT (km178_X13_drawn l G tag L F hT.2.2.2 p1 m1 g1) qw_1168 qw_1169 qw_5 qw_1170 ⟨by decide +kernel, by decide +kernel, by decide +kernel⟩ ⟨Nat.le_of_ble_eq_true rfl, Nat.le_of_ble_eq_true rfl⟩ hl rfl rfl (Nat.le_of_ble_eq_true rfl) dX13_yearOf_42 ⟨Nat.le_of_ble_eq_true rfl, Nat.le_of_ble_eq_true rfl⟩ (fun z52090 F H locs hT hz52090 => ?_)
    obtain ⟨hz52090, yz52090⟩ := hz52090
    have pf0 := (yz52090.1 _ 3 ).trans pf0
    have hv52084 := (yz52090.1 _ 5 ).trans hv52084
    have hfr : (∀ b j : Nat, (tag b ≠ 46 ∨ j ≠ 22) → (tag b ≠ 46 ∨ j ≠ 23) → fld F b j = fld Fo b j) ∧ (∀ b j : Nat, tag b ≠ 37 → elm F b j = elm Fo b j) := ⟨fun b j n46_22 n46_23 => (yz52090.1 b j ).trans (hfr.1 b j n46_22 n46_23), fun b j a37 => (yz52090.2 b j a37).trans (hfr.2 b j a37)⟩
    refine lv_aload_n hx hb dX13_yearOf_45 rfl (lv_at hl 0 rfl) ?_
    refine t_get (C := RX13) (T := TX13) (N := 37) X hT m0 g0 rfl rfl 3 (by decide) qw_481 inlX13 rfl dX13_yearOf_46 (fun v52091 hv52091 ov52091 => ?_)
    obtain rfl : v52091 = .ref x0 := hv52091.symm.trans pf0
    refine t_getN (C := RX12) (T := TX12) (N := 31) X hT mx0 gx0 rfl rfl 3 (by decide) (List.mem_of_getElem? (i := 7) rfl) inlX12 rfl dX13_yearOf_49 (fun v52092 hv52092 ov52092 => ?_)
    obtain ⟨z52093, rfl, rz52093⟩ := okV_i ov52092
    refine lv_icmp_ge (tgt := 72) hx hb dX13_yearOf_52 (by decide) (fun c52094 => ?_) (fun c52094 => ?_)
    · have w52095 := cv_le (rfl : z52093.toInt = z52093.toInt) (rfl : z52090.toInt = z52090.toInt) c52094
      exact K72 z52085 z52093 _ _ _ _  hT hfr pf0 hv52084 hv52092 (lv_sub hl [0, 1, 2] rfl)
    · have w52096 := cv_nle (rfl : z52093.toInt = z52093.toInt) (rfl : z52090.toInt = z52090.toInt) c52094
      refine lv_aload_n hx hb dX13_yearOf_55 rfl (lv_at hl 1 rfl) ?_
      refine lv_iconst (v := 4) hx hb dX13_yearOf_56 (by decide) ?_
      refine lv_iload_n hx hb dX13_yearOf_57 rfl (lv_at hl 2 rfl) ?_
      refine lv_iadd hx hb dX13_yearOf_58 ?_
      refine lv_topi (fun z52097 ez52097 => ?_)
      have hz52097 : z52097.toInt = 4 + p2.toInt := ar_add ez52097 (by decide : (4 : Int32).toInt = 4) (rfl : p2.toInt = p2.toInt) (by omega) (by omega)
      have rz52097 : 4 ≤ z52097.toInt ∧ z52097.toInt ≤ 7 := by omega
      refine lv_bipush (v := 99) hx hb dX13_yearOf_59 (by decide) ?_
      refine lv_aload_n hx hb dX13_yearOf_61 rfl (lv_at hl 1 rfl) ?_
      refine lv_iconst (v := 4) hx hb dX13_yearOf_62 (by decide) ?_
      refine lv_iload_n hx hb dX13_yearOf_63 rfl (lv_at hl 2 rfl) ?_
      refine lv_iadd hx hb dX13_yearOf_64 ?_
      refine lv_topi (fun z52098 ez52098 => ?_)
      have hz52098 : z52098.toInt = 4 + p2.toInt := ar_add ez52098 (by decide : (4 : Int32).toInt = 4) (rfl : p2.toInt = p2.toInt) (by omega) (by omega)
      have rz52098 : 4 ≤ z52098.toInt ∧ z52098.toInt ≤ 7 := by omega
      refine t_ild X hT m1 g1 rfl (by omega) dX13_yearOf_65 (fun z52099 vz52099 rz52099 => ?_)
      have oz52099 := rz52099
      have rz52099 := rg_all z52099
      refine lv_iconst (v := 1) hx hb dX13_yearOf_66 (by decide) ?_
      refine lv_iadd hx hb dX13_yearOf_67 ?_
      refine lv_topi (fun z52100 ez52100 => ?_)
      have rz52100 := rg_all z52100
      refine t_cSi (n := 2) (As := [.int 99, .int z52100]) (rest := [.int z52097, .ref p1]) X hT (km161_X13_least l G tag L F hT.2.2.2 99 z52100 ) qw_1065 qw_1066 qw_5 qw_1067 ⟨by decide +kernel, by decide +kernel, by decide +kernel⟩ ⟨Nat.le_of_ble_eq_true rfl, Nat.le_of_ble_eq_true rfl⟩ hl rfl rfl (Nat.le_of_ble_eq_true rfl) dX13_yearOf_68 ⟨Nat.le_of_ble_eq_true rfl, Nat.le_of_ble_eq_true rfl⟩ (fun z52101 F9 H locs hT hz52101 => ?_)
      obtain ⟨fz52101, hz52101⟩ := hz52101
      rw [fz52101] at hT
      refine t_ist X hT m1 g1 rfl (by omega) (row_fv (by omega) (Or.inl (by omega))) dX13_yearOf_71 (fun F H locs hT v52102 h1v52102 h2v52102 => ?_)
      have pf0 := (h2v52102 _ _).trans pf0
      have hv52084 := (h2v52102 _ _).trans hv52084
      have hv52092 := (h2v52102 _ _).trans hv52092
      have hfr : (∀ b j : Nat, (tag b ≠ 46 ∨ j ≠ 22) → (tag b ≠ 46 ∨ j ≠ 23) → fld F b j = fld Fo b j) ∧ (∀ b j : Nat, tag b ≠ 37 → elm F b j = elm Fo b j) := ⟨fun b j n46_22 n46_23 => (h2v52102 b j).trans (hfr.1 b j n46_22 n46_23), fun b j a37 => (h1v52102 b j (Or.inl (at_ne g1 a37))).trans (hfr.2 b j a37)⟩
      exact K72 z52085 z52093 _ _ _ _  hT hfr pf0 hv52084 hv52092 (lv_sub hl [0, 1, 2] rfl)
  · have w52103 := cv_eq (rfl : z52075.toInt = z52075.toInt) (by decide : (0 : Int32).toInt = 0) c52076
    exact t_vret hQ X hT hfr (Nat.le_of_ble_eq_true rfl) (Nat.le_of_ble_eq_true rfl) dX13_yearOf_8
