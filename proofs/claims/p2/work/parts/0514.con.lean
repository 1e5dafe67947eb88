set_option maxHeartbeats 4000000 in
set_option maxRecDepth 100000 in
theorem kt113_X9_noteRow (l : Launch) (G : KG) (tag : Nat → Nat) (L : List Nat) (Fo : Nat → va_E) (ho : okT G ttC tag L Fo) (p0 : Nat) (p1 : Nat) (p2 : Int32) (m0 : p0 ∈ L) (g0 : tag p0 = 22) (m1 : p1 ∈ L) (g1 : tag p1 = 18) : TMv l yX9_noteRow cX9_noteRow 7 { frames := 2, cells := 0, slots := 0, locals := 36 } G ttC tag L Fo [.ref p0, .ref p1, .int p2] (fun F1 => ((∀ b j : Nat, fld F1 b j = fld Fo b j) ∧ EF tag F1 Fo)) := by
  refine t_bodyv (y := yX9_noteRow) (cd := cX9_noteRow) (mL := 7) (rm := { frames := 2, cells := 0, slots := 0, locals := 36 }) (av := [.ref p0, .ref p1, .int p2]) (by decide) (Nat.le_of_ble_eq_true rfl) ho ?_
  intro p e s m args below meth c ls A Q hQ X hT hl
  have hx := X.1.1
  have hb := X.1.2.1
  have hl : lv_has ls 7 [(0, .ref p0), (1, .ref p1), (2, .int p2)] := hl
  have rp2 := rg_all p2
  obtain ⟨F, hFo⟩ : ∃ F : Nat → va_E, F = Fo := ⟨_, rfl⟩
  rw [← hFo] at hT
  have hfr : (∀ b j : Nat, fld F b j = fld Fo b j) ∧ EF tag F Fo := by
    rw [hFo]
    exact ⟨by intros; rfl, fun _ _ _ => rfl⟩
  have K82 : ∀ (n : Nat) (z39225 : Int32) (z39226 : Int32) (z39227 : Int32) (z39228 : Int32) (F : Nat → va_E) (H : Heap) (locs : List Loc) (ls : Array Slot), (z39227.toInt - (-1) < (n : Int)) → ((-1) ≤ z39227.toInt ∧ z39227.toInt ≤ 5) → (0 ≤ z39228.toInt ∧ z39228.toInt ≤ 6) → TH G ttC A s tag L F H locs → ((∀ b j : Nat, fld F b j = fld Fo b j) ∧ EF tag F Fo) → fld F p1 16 = .int z39228 → lv_has ls 7 [(0, .ref p0), (1, .ref p1), (2, .int p2), (3, .int z39225), (4, .int z39226), (5, .int z39227)] → W p l e { frames := 2, cells := 0, slots := 0, locals := 36 } s m args below meth c H locs 0 0 Q (F0 m 82 ls []) := by
    intro n
    induction n with
    | zero =>
      intro z39225 z39226 z39227 z39228 F H locs ls hn rz39227 rz39228 hT hfr qz39228 hl
      have rz39225 := rg_all z39225
      have rz39226 := rg_all z39226
      exfalso
      omega
    | succ n ih82 =>
      intro z39225 z39226 z39227 z39228 F H locs ls hn rz39227 rz39228 hT hfr qz39228 hl
      have rz39225 := rg_all z39225
      have rz39226 := rg_all z39226
      refine lv_iload hx hb dX9_noteRow_82 (lv_at hl 5 rfl) ?_
      refine lv_if_lt (tgt := 137) hx hb dX9_noteRow_84 (by decide) (fun c39229 => ?_) (fun c39229 => ?_)
      · have w39230 := cv_lt (rfl : z39227.toInt = z39227.toInt) (by decide : (0 : Int32).toInt = 0) c39229
        exact t_vret hQ X hT hfr (Nat.le_of_ble_eq_true rfl) (Nat.le_of_ble_eq_true rfl) dX9_noteRow_137
      · have w39231 := cv_nlt (rfl : z39227.toInt = z39227.toInt) (by decide : (0 : Int32).toInt = 0) c39229
        refine lv_aload_n hx hb dX9_noteRow_87 rfl (lv_at hl 0 rfl) ?_
        refine t_get (C := RX9) (T := TX9) (N := 6) X hT m0 g0 rfl rfl 0 (by decide) qw_93 inlX9 rfl dX9_noteRow_88 (fun v39232 hv39232 ov39232 => ?_)
        obtain ⟨b39233, rfl, mb39233, gb39233⟩ := okV_r ov39232
        have gb39233 : tag b39233 = 11 := tg_of gb39233
        refine lv_iload hx hb dX9_noteRow_91 (lv_at hl 5 rfl) ?_
        refine t_ild X hT mb39233 gb39233 rfl (by omega) dX9_noteRow_93 (fun z39234 vz39234 rz39234 => ?_)
        have rz39234 : 0 ≤ z39234.toInt ∧ z39234.toInt ≤ 5 := rz39234
        refine lv_istore (lv' := [(6, .int z39234), (0, .ref p0), (1, .ref p1), (2, .int p2), (3, .int z39225), (4, .int z39226), (5, .int z39227)]) hx hb dX9_noteRow_94 hl (by decide) rfl (fun ls hl => ?_)
        refine lv_iload hx hb dX9_noteRow_96 (lv_at hl 5 rfl) ?_
        refine lv_iconst (v := 1) hx hb dX9_noteRow_98 (by decide) ?_
        refine lv_isub hx hb dX9_noteRow_99 ?_
        refine lv_topi (fun z39235 ez39235 => ?_)
        have rz39235 := rg_all z39235
        refine lv_aload_n hx hb dX9_noteRow_100 rfl (lv_at hl 2 rfl) ?_
        refine lv_iload_n hx hb dX9_noteRow_101 rfl (lv_at hl 3 rfl) ?_
        refine lv_iload hx hb dX9_noteRow_102 (lv_at hl 0 rfl) ?_
        refine t_cSi (n := 3) (As := [.ref p1, .int p2, .int z39234]) (rest := [.int z39235]) X hT (kt111_X9_lastFor l G tag L F hT.2.2.2 p1 p2 z39234 m1 g1 (by omega)) qw_1347 qw_1348 qw_40 qw_1349 ⟨by decide +kernel, by decide +kernel, by decide +kernel⟩ ⟨Nat.le_of_ble_eq_true rfl, Nat.le_of_ble_eq_true rfl⟩ hl rfl rfl (Nat.le_of_ble_eq_true rfl) dX9_noteRow_104 ⟨Nat.le_of_ble_eq_true rfl, Nat.le_of_ble_eq_true rfl⟩ (fun z39236 F9 H locs hT hz39236 => ?_)
        obtain ⟨fz39236, hz39236⟩ := hz39236
        rw [fz39236] at hT
        refine t_mmin X hl qw_1351 qw_1018 qw_850 qw_1019 (Nat.le_of_ble_eq_true rfl) (Nat.le_of_ble_eq_true rfl) (Nat.le_of_ble_eq_true rfl) (Nat.le_of_ble_eq_true rfl) dX9_noteRow_107 (fun z39237 ez39237 => ?_)
        have hz39237 := mmin_e ez39237 (rfl : z39235.toInt = z39235.toInt) (rfl : z39236.toInt = z39236.toInt)
        refine lv_istore (lv' := [(4, .int z39237), (6, .int z39234), (0, .ref p0), (1, .ref p1), (2, .int p2), (3, .int z39225), (5, .int z39227)]) hx hb dX9_noteRow_110 hl (by decide) rfl (fun ls hl => ?_)
        refine lv_aload_n hx hb dX9_noteRow_112 rfl (lv_at hl 2 rfl) ?_
        refine t_get (C := RX9) (T := TX9) (N := 6) X hT m0 g0 rfl rfl 4 (by decide) qw_96 inlX9 rfl dX9_noteRow_113 (fun v39238 hv39238 ov39238 => ?_)
        obtain ⟨b39239, rfl, mb39239, gb39239⟩ := okV_r ov39238
        have gb39239 : tag b39239 = 7 := tg_of gb39239
        refine lv_iload hx hb dX9_noteRow_116 (lv_at hl 1 rfl) ?_
        refine lv_aload_n hx hb dX9_noteRow_118 rfl (lv_at hl 2 rfl) ?_
        refine t_get (C := RX9) (T := TX9) (N := 6) X hT m0 g0 rfl rfl 4 (by decide) qw_96 inlX9 rfl dX9_noteRow_119 (fun v39240 hv39240 ov39240 => ?_)
        obtain rfl : v39240 = .ref b39239 := hv39240.symm.trans hv39238
        refine lv_iload hx hb dX9_noteRow_122 (lv_at hl 1 rfl) ?_
        refine t_ild X hT mb39239 gb39239 rfl (by omega) dX9_noteRow_124 (fun z39241 vz39241 rz39241 => ?_)
        have rz39241 : (-2147483648) ≤ z39241.toInt ∧ z39241.toInt ≤ 2147483647 := rz39241
        refine lv_iload hx hb dX9_noteRow_125 (lv_at hl 0 rfl) ?_
        refine t_mmax X hl qw_1346 qw_849 qw_850 qw_851 (Nat.le_of_ble_eq_true rfl) (Nat.le_of_ble_eq_true rfl) (Nat.le_of_ble_eq_true rfl) (Nat.le_of_ble_eq_true rfl) dX9_noteRow_127 (fun z39242 ez39242 => ?_)
        have hz39242 := mmax_e ez39242 (rfl : z39241.toInt = z39241.toInt) (rfl : z39237.toInt = z39237.toInt)
        refine t_ist X hT mb39239 gb39239 rfl (by omega) (show (-2147483648) ≤ (z39242 : Int32).toInt ∧ (z39242 : Int32).toInt ≤ 2147483647 from (by omega)) dX9_noteRow_130 (fun F H locs hT v39243 h1v39243 h2v39243 => ?_)
        have qz39228 := (h2v39243 _ _).trans qz39228
        have hv39232 := (h2v39243 _ _).trans hv39232
        have hv39238 := (h2v39243 _ _).trans hv39238
        have hfr : (∀ b j : Nat, fld F b j = fld Fo b j) ∧ EF tag F Fo := ⟨fun b j  => (h2v39243 b j).trans (hfr.1 b j ), fun b j hb => (h1v39243 b j (Or.inl (ns_ne hb gb39239 (by decide)))).trans (hfr.2 b j hb)⟩
        obtain ⟨z39244, ez39244⟩ : ∃ y : Int32, y = z39227 + (-1) := ⟨_, rfl⟩
        have hz39244 : z39244.toInt = z39227.toInt + (-1) := ar_add ez39244 rfl (by decide : ((-1) : Int32).toInt = (-1)) (by omega) (by omega)
        refine lv_iinc (v := z39244) (lv' := [(5, .int z39244), (4, .int z39237), (6, .int z39234), (0, .ref p0), (1, .ref p1), (2, .int p2), (3, .int z39225)]) hx hb dX9_noteRow_131 hl (k := 6) rfl (by rw [ez39244]; rfl) (by decide) rfl (fun ls hl => ?_)
        refine lv_goto (tgt := 82) hx hb dX9_noteRow_134 (by decide) ?_
        exact ih82 z39225 z39237 z39244 z39228 _ _ _ _ (by omega) (by omega) (by omega) hT hfr qz39228 (lv_sub hl [3, 4, 5, 6, 1, 0] rfl)
  have K5 : ∀ (n : Nat) (z39245 : Int32) (z39246 : Int32) (F : Nat → va_E) (H : Heap) (locs : List Loc) (ls : Array Slot), (6 - z39246.toInt < (n : Int)) → (0 ≤ z39246.toInt ∧ z39246.toInt ≤ 6) → TH G ttC A s tag L F H locs → ((∀ b j : Nat, fld F b j = fld Fo b j) ∧ EF tag F Fo) → lv_has ls 7 [(0, .ref p0), (1, .ref p1), (2, .int p2), (3, .int z39245), (4, .int z39246)] → W p l e { frames := 2, cells := 0, slots := 0, locals := 36 } s m args below meth c H locs 0 0 Q (F0 m 5 ls []) := by
    intro n
    induction n with
    | zero =>
      intro z39245 z39246 F H locs ls hn rz39246 hT hfr hl
      have rz39245 := rg_all z39245
      exfalso
      omega
    | succ n ih5 =>
      intro z39245 z39246 F H locs ls hn rz39246 hT hfr hl
      have rz39245 := rg_all z39245
      refine lv_iload hx hb dX9_noteRow_5 (lv_at hl 4 rfl) ?_
      refine lv_aload_n hx hb dX9_noteRow_7 rfl (lv_at hl 1 rfl) ?_
      refine t_get (C := RX1) (T := TX1) (N := 20) X hT m1 g1 rfl rfl 16 (by decide) qw_1338 inlX1 rfl dX9_noteRow_8 (fun v39247 hv39247 ov39247 => ?_)
      obtain ⟨z39248, rfl, rz39248⟩ := okV_i ov39247
      refine lv_icmp_ge (tgt := 71) hx hb dX9_noteRow_11 (by decide) (fun c39249 => ?_) (fun c39249 => ?_)
      · have w39250 := cv_le (rfl : z39248.toInt = z39248.toInt) (rfl : z39246.toInt = z39246.toInt) c39249
        refine lv_iload_n hx hb dX9_noteRow_71 rfl (lv_at hl 2 rfl) ?_
        refine lv_istore (lv' := [(4, .int p2), (0, .ref p0), (1, .ref p1), (2, .int p2), (3, .int z39245)]) hx hb dX9_noteRow_72 hl (by decide) rfl (fun ls hl => ?_)
        refine lv_aload_n hx hb dX9_noteRow_74 rfl (lv_at hl 2 rfl) ?_
        refine t_get (C := RX1) (T := TX1) (N := 20) X hT m1 g1 rfl rfl 16 (by decide) qw_1338 inlX1 rfl dX9_noteRow_75 (fun v39251 hv39251 ov39251 => ?_)
        obtain rfl : v39251 = .int z39248 := hv39251.symm.trans hv39247
        refine lv_iconst (v := 1) hx hb dX9_noteRow_78 (by decide) ?_
        refine lv_isub hx hb dX9_noteRow_79 ?_
        refine lv_topi (fun z39252 ez39252 => ?_)
        have hz39252 : z39252.toInt = z39248.toInt - 1 := ar_sub ez39252 (rfl : z39248.toInt = z39248.toInt) (by decide : (1 : Int32).toInt = 1) (by omega) (by omega)
        have rz39252 : (-1) ≤ z39252.toInt ∧ z39252.toInt ≤ 5 := by omega
        refine lv_istore (lv' := [(5, .int z39252), (4, .int p2), (0, .ref p0), (1, .ref p1), (2, .int p2), (3, .int z39245)]) hx hb dX9_noteRow_80 hl (by decide) rfl (fun ls hl => ?_)
        exact K82 7 z39245 p2 z39252 z39248 _ _ _ _ (by omega) (by omega) (by omega) hT hfr hv39247 (lv_sub hl [2, 3, 4, 5, 1, 0] rfl)
      · have w39253 := cv_nle (rfl : z39248.toInt = z39248.toInt) (rfl : z39246.toInt = z39246.toInt) c39249
        refine lv_aload_n hx hb dX9_noteRow_14 rfl (lv_at hl 0 rfl) ?_
        refine t_get (C := RX9) (T := TX9) (N := 6) X hT m0 g0 rfl rfl 0 (by decide) qw_93 inlX9 rfl dX9_noteRow_15 (fun v39254 hv39254 ov39254 => ?_)
        obtain ⟨b39255, rfl, mb39255, gb39255⟩ := okV_r ov39254
        have gb39255 : tag b39255 = 11 := tg_of gb39255
        refine lv_iload hx hb dX9_noteRow_18 (lv_at hl 4 rfl) ?_
        refine t_ild X hT mb39255 gb39255 rfl (by omega) dX9_noteRow_20 (fun z39256 vz39256 rz39256 => ?_)
        have rz39256 : 0 ≤ z39256.toInt ∧ z39256.toInt ≤ 5 := rz39256
        refine lv_istore (lv' := [(5, .int z39256), (0, .ref p0), (1, .ref p1), (2, .int p2), (3, .int z39245), (4, .int z39246)]) hx hb dX9_noteRow_21 hl (by decide) rfl (fun ls hl => ?_)
        refine lv_aload_n hx hb dX9_noteRow_23 rfl (lv_at hl 1 rfl) ?_
        refine t_get (C := RX9) (T := TX9) (N := 6) X hT m0 g0 rfl rfl 3 (by decide) qw_95 inlX9 rfl dX9_noteRow_24 (fun v39257 hv39257 ov39257 => ?_)
        obtain ⟨b39258, rfl, mb39258, gb39258⟩ := okV_r ov39257
        have gb39258 : tag b39258 = 7 := tg_of gb39258
        refine lv_iload hx hb dX9_noteRow_27 (lv_at hl 0 rfl) ?_
        refine lv_aload_n hx hb dX9_noteRow_29 rfl (lv_at hl 1 rfl) ?_
        refine t_get (C := RX9) (T := TX9) (N := 6) X hT m0 g0 rfl rfl 3 (by decide) qw_95 inlX9 rfl dX9_noteRow_30 (fun v39259 hv39259 ov39259 => ?_)
        obtain rfl : v39259 = .ref b39258 := hv39259.symm.trans hv39257
        refine lv_iload hx hb dX9_noteRow_33 (lv_at hl 0 rfl) ?_
        refine t_ild X hT mb39258 gb39258 rfl (by omega) dX9_noteRow_35 (fun z39260 vz39260 rz39260 => ?_)
        have rz39260 : (-2147483648) ≤ z39260.toInt ∧ z39260.toInt ≤ 2147483647 := rz39260
        refine lv_aload_n hx hb dX9_noteRow_36 rfl (lv_at hl 1 rfl) ?_
        refine t_get (C := RX9) (T := TX9) (N := 6) X hT m0 g0 rfl rfl 1 (by decide) qw_94 inlX9 rfl dX9_noteRow_37 (fun v39261 hv39261 ov39261 => ?_)
        obtain ⟨b39262, rfl, mb39262, gb39262⟩ := okV_r ov39261
        have gb39262 : tag b39262 = 7 := tg_of gb39262
        refine lv_iload hx hb dX9_noteRow_40 (lv_at hl 5 rfl) ?_
        refine t_ild X hT mb39262 gb39262 rfl (by omega) dX9_noteRow_42 (fun z39263 vz39263 rz39263 => ?_)
        have rz39263 : (-2147483648) ≤ z39263.toInt ∧ z39263.toInt ≤ 2147483647 := rz39263
        refine t_mmin X hl qw_1351 qw_1018 qw_850 qw_1019 (Nat.le_of_ble_eq_true rfl) (Nat.le_of_ble_eq_true rfl) (Nat.le_of_ble_eq_true rfl) (Nat.le_of_ble_eq_true rfl) dX9_noteRow_43 (fun z39264 ez39264 => ?_)
        have hz39264 := mmin_e ez39264 (rfl : z39260.toInt = z39260.toInt) (rfl : z39263.toInt = z39263.toInt)
        refine t_ist X hT mb39258 gb39258 rfl (by omega) (show (-2147483648) ≤ (z39264 : Int32).toInt ∧ (z39264 : Int32).toInt ≤ 2147483647 from (by omega)) dX9_noteRow_46 (fun F H locs hT v39265 h1v39265 h2v39265 => ?_)
        have hv39247 := (h2v39265 _ _).trans hv39247
        have hv39254 := (h2v39265 _ _).trans hv39254
        have hv39257 := (h2v39265 _ _).trans hv39257
        have hv39261 := (h2v39265 _ _).trans hv39261
        have hfr : (∀ b j : Nat, fld F b j = fld Fo b j) ∧ EF tag F Fo := ⟨fun b j  => (h2v39265 b j).trans (hfr.1 b j ), fun b j hb => (h1v39265 b j (Or.inl (ns_ne hb gb39258 (by decide)))).trans (hfr.2 b j hb)⟩
        refine lv_aload_n hx hb dX9_noteRow_47 rfl (lv_at hl 1 rfl) ?_
        refine t_get (C := RX9) (T := TX9) (N := 6) X hT m0 g0 rfl rfl 5 (by decide) qw_97 inlX9 rfl dX9_noteRow_48 (fun v39266 hv39266 ov39266 => ?_)
        obtain ⟨b39267, rfl, mb39267, gb39267⟩ := okV_r ov39266
        have gb39267 : tag b39267 = 7 := tg_of gb39267
        refine lv_iload hx hb dX9_noteRow_51 (lv_at hl 0 rfl) ?_
        refine lv_dup2_11 hx hb dX9_noteRow_53 rfl rfl ?_
        refine t_ild X hT mb39267 gb39267 rfl (by omega) dX9_noteRow_54 (fun z39268 vz39268 rz39268 => ?_)
        have rz39268 : (-2147483648) ≤ z39268.toInt ∧ z39268.toInt ≤ 2147483647 := rz39268
        refine lv_iload_n hx hb dX9_noteRow_55 rfl (lv_at hl 4 rfl) ?_
        refine lv_iand hx hb dX9_noteRow_56 ?_
        refine lv_topi (fun z39269 ez39269 => ?_)
        have rz39269 := rg_all z39269
        refine t_ist X hT mb39267 gb39267 rfl (by omega) (show (-2147483648) ≤ (z39269 : Int32).toInt ∧ (z39269 : Int32).toInt ≤ 2147483647 from (by omega)) dX9_noteRow_57 (fun F H locs hT v39270 h1v39270 h2v39270 => ?_)
        have hv39247 := (h2v39270 _ _).trans hv39247
        have hv39254 := (h2v39270 _ _).trans hv39254
        have hv39257 := (h2v39270 _ _).trans hv39257
        have hv39261 := (h2v39270 _ _).trans hv39261
        have hv39266 := (h2v39270 _ _).trans hv39266
        have hfr : (∀ b j : Nat, fld F b j = fld Fo b j) ∧ EF tag F Fo := ⟨fun b j  => (h2v39270 b j).trans (hfr.1 b j ), fun b j hb => (h1v39270 b j (Or.inl (ns_ne hb gb39267 (by decide)))).trans (hfr.2 b j hb)⟩
        refine lv_iload_n hx hb dX9_noteRow_58 rfl (lv_at hl 4 rfl) ?_
        refine lv_iconst (v := 1) hx hb dX9_noteRow_59 (by decide) ?_
        refine lv_iload hx hb dX9_noteRow_60 (lv_at hl 0 rfl) ?_
        refine lv_ishl hx hb dX9_noteRow_62 ?_
        refine lv_topi (fun z39271 ez39271 => ?_)
        have rz39271 := rg_all z39271
        refine lv_ior hx hb dX9_noteRow_63 ?_
        refine lv_topi (fun z39272 ez39272 => ?_)
        have rz39272 := rg_all z39272
        refine lv_istore_n (lv' := [(3, .int z39272), (5, .int z39256), (0, .ref p0), (1, .ref p1), (2, .int p2), (4, .int z39246)]) hx hb dX9_noteRow_64 rfl hl (by decide) rfl (fun ls hl => ?_)
        obtain ⟨z39273, ez39273⟩ : ∃ y : Int32, y = z39246 + 1 := ⟨_, rfl⟩
        have hz39273 : z39273.toInt = z39246.toInt + 1 := ar_add ez39273 rfl (by decide : (1 : Int32).toInt = 1) (by omega) (by omega)
        refine lv_iinc (v := z39273) (lv' := [(4, .int z39273), (3, .int z39272), (5, .int z39256), (0, .ref p0), (1, .ref p1), (2, .int p2)]) hx hb dX9_noteRow_65 hl (k := 5) rfl (by rw [ez39273]; rfl) (by decide) rfl (fun ls hl => ?_)
        refine lv_goto (tgt := 5) hx hb dX9_noteRow_68 (by decide) ?_
        exact ih5 z39272 z39273 _ _ _ _ (by omega) (by omega) hT hfr  (lv_sub hl [3, 4, 5, 1, 0] rfl)
  refine lv_iconst (v := 0) hx hb dX9_noteRow_0 (by decide) ?_
  refine lv_istore_n (lv' := [(3, .int 0), (0, .ref p0), (1, .ref p1), (2, .int p2)]) hx hb dX9_noteRow_1 rfl hl (by decide) rfl (fun ls hl => ?_)
  refine lv_iconst (v := 0) hx hb dX9_noteRow_2 (by decide) ?_
  refine lv_istore (lv' := [(4, .int 0), (3, .int 0), (0, .ref p0), (1, .ref p1), (2, .int p2)]) hx hb dX9_noteRow_3 hl (by decide) rfl (fun ls hl => ?_)
  have kk39274 : (0 : Int32).toInt = 0 := by decide
  have kk39275 : (0 : Int32).toInt = 0 := by decide
  exact K5 7 0 0 _ _ _ _ (by omega) (by decide) hT hfr  (lv_sub hl [2, 3, 4, 1, 0] rfl)
set_option maxHeartbeats 4000000 in
set_option maxRecDepth 100000 in
theorem kt114_X5_swap (l : Launch) (G : KG) (tag : Nat → Nat) (L : List Nat) (Fo : Nat → va_E) (ho : okT G ttC tag L Fo) (p0 : Nat) (p1 : Int32) (p2 : Int32) (m0 : p0 ∈ L) (g0 : tag p0 = 11) (h1 : 0 ≤ p1.toInt ∧ p1.toInt ≤ 5) (h2 : 0 ≤ p2.toInt ∧ p2.toInt ≤ 5) : TMv l yX5_swap cX5_swap 4 { frames := 0, cells := 0, slots := 0, locals := 0 } G ttC tag L Fo [.ref p0, .int p1, .int p2] (fun F1 => ((∀ b j : Nat, fld F1 b j = fld Fo b j) ∧ EF tag F1 Fo)) := by
  refine t_bodyv (y := yX5_swap) (cd := cX5_swap) (mL := 4) (rm := { frames := 0, cells := 0, slots := 0, locals := 0 }) (av := [.ref p0, .int p1, .int p2]) (by decide) (Nat.le_of_ble_eq_true rfl) ho ?_
  intro p e s m args below meth c ls A Q hQ X hT hl
  have hx := X.1.1
  have hb := X.1.2.1
  have hl : lv_has ls 4 [(0, .ref p0), (1, .int p1), (2, .int p2)] := hl
  obtain ⟨F, hFo⟩ : ∃ F : Nat → va_E, F = Fo := ⟨_, rfl⟩
  rw [← hFo] at hT
  have hfr : (∀ b j : Nat, fld F b j = fld Fo b j) ∧ EF tag F Fo := by
    rw [hFo]
    exact ⟨by intros; rfl, fun _ _ _ => rfl⟩
  refine lv_aload_n hx hb dX5_swap_0 rfl (lv_at hl 0 rfl) ?_
  refine lv_iload_n hx hb dX5_swap_1 rfl (lv_at hl 1 rfl) ?_
  refine t_ild X hT m0 g0 rfl (by omega) dX5_swap_2 (fun z39446 vz39446 rz39446 => ?_)
  have rz39446 : 0 ≤ z39446.toInt ∧ z39446.toInt ≤ 5 := rz39446
  refine lv_istore_n (lv' := [(3, .int z39446), (0, .ref p0), (1, .int p1), (2, .int p2)]) hx hb dX5_swap_3 rfl hl (by decide) rfl (fun ls hl => ?_)
  refine lv_aload_n hx hb dX5_swap_4 rfl (lv_at hl 1 rfl) ?_
  refine lv_iload_n hx hb dX5_swap_5 rfl (lv_at hl 2 rfl) ?_
  refine lv_aload_n hx hb dX5_swap_6 rfl (lv_at hl 1 rfl) ?_
  refine lv_iload_n hx hb dX5_swap_7 rfl (lv_at hl 3 rfl) ?_
  refine t_ild X hT m0 g0 rfl (by omega) dX5_swap_8 (fun z39447 vz39447 rz39447 => ?_)
  have rz39447 : 0 ≤ z39447.toInt ∧ z39447.toInt ≤ 5 := rz39447
  refine t_ist X hT m0 g0 rfl (by omega) (show 0 ≤ (z39447 : Int32).toInt ∧ (z39447 : Int32).toInt ≤ 5 from (by omega)) dX5_swap_9 (fun F H locs hT v39448 h1v39448 h2v39448 => ?_)
  have hfr : (∀ b j : Nat, fld F b j = fld Fo b j) ∧ EF tag F Fo := ⟨fun b j  => (h2v39448 b j).trans (hfr.1 b j ), fun b j hb => (h1v39448 b j (Or.inl (ns_ne hb g0 (by decide)))).trans (hfr.2 b j hb)⟩
  refine lv_aload_n hx hb dX5_swap_10 rfl (lv_at hl 1 rfl) ?_
  refine lv_iload_n hx hb dX5_swap_11 rfl (lv_at hl 3 rfl) ?_
  refine lv_iload_n hx hb dX5_swap_12 rfl (lv_at hl 0 rfl) ?_
  refine t_ist X hT m0 g0 rfl (by omega) (show 0 ≤ (z39446 : Int32).toInt ∧ (z39446 : Int32).toInt ≤ 5 from (by omega)) dX5_swap_13 (fun F H locs hT v39449 h1v39449 h2v39449 => ?_)
  have hfr : (∀ b j : Nat, fld F b j = fld Fo b j) ∧ EF tag F Fo := ⟨fun b j  => (h2v39449 b j).trans (hfr.1 b j ), fun b j hb => (h1v39449 b j (Or.inl (ns_ne hb g0 (by decide)))).trans (hfr.2 b j hb)⟩
  exact t_vret hQ X hT hfr (Nat.le_of_ble_eq_true rfl) (Nat.le_of_ble_eq_true rfl) dX5_swap_14
set_option maxHeartbeats 4000000 in
set_option maxRecDepth 100000 in
theorem kt115_X5_advance (l : Launch) (G : KG) (tag : Nat → Nat) (L : List Nat) (Fo : Nat → va_E) (ho : okT G ttC tag L Fo) (p0 : Nat) (p1 : Int32) (m0 : p0 ∈ L) (g0 : tag p0 = 11) (h1 : 2 ≤ p1.toInt ∧ p1.toInt ≤ 6) : TMv l yX5_advance cX5_advance 6 { frames := 1, cells := 0, slots := 0, locals := 23 } G ttC tag L Fo [.ref p0, .int p1] (fun F1 => ((∀ b j : Nat, fld F1 b j = fld Fo b j) ∧ EF tag F1 Fo)) := by
  refine t_bodyv (y := yX5_advance) (cd := cX5_advance) (mL := 6) (rm := { frames := 1, cells := 0, slots := 0, locals := 23 }) (av := [.ref p0, .int p1]) (by decide) (Nat.le_of_ble_eq_true rfl) ho ?_
  intro p e s m args below meth c ls A Q hQ X hT hl
  have hx := X.1.1
  have hb := X.1.2.1
  have hl : lv_has ls 6 [(0, .ref p0), (1, .int p1)] := hl
  obtain ⟨F, hFo⟩ : ∃ F : Nat → va_E, F = Fo := ⟨_, rfl⟩
  rw [← hFo] at hT
  have hfr : (∀ b j : Nat, fld F b j = fld Fo b j) ∧ EF tag F Fo := by
    rw [hFo]
    exact ⟨by intros; rfl, fun _ _ _ => rfl⟩
  have K77 : ∀ (n : Nat) (z39910 : Int32) (z39911 : Int32) (z39912 : Int32) (z39913 : Int32) (F : Nat → va_E) (H : Heap) (locs : List Loc) (ls : Array Slot), (5 - z39912.toInt < (n : Int)) → (0 ≤ z39910.toInt ∧ z39910.toInt ≤ 4) → (0 ≤ z39911.toInt ∧ z39911.toInt ≤ 5) → (1 ≤ z39912.toInt ∧ z39912.toInt ≤ 5) → (1 ≤ z39913.toInt ∧ z39913.toInt ≤ 5) → TH G ttC A s tag L F H locs → ((∀ b j : Nat, fld F b j = fld Fo b j) ∧ EF tag F Fo) → lv_has ls 6 [(0, .ref p0), (1, .int p1), (2, .int z39910), (3, .int z39911), (4, .int z39912), (5, .int z39913)] → W p l e { frames := 1, cells := 0, slots := 0, locals := 23 } s m args below meth c H locs 0 0 Q (F0 m 77 ls []) := by
    intro n
    induction n with
    | zero =>
      intro z39910 z39911 z39912 z39913 F H locs ls hn rz39910 rz39911 rz39912 rz39913 hT hfr hl
      exfalso
      omega
    | succ n ih77 =>
      intro z39910 z39911 z39912 z39913 F H locs ls hn rz39910 rz39911 rz39912 rz39913 hT hfr hl
      refine lv_iload hx hb dX5_advance_77 (lv_at hl 4 rfl) ?_
      refine lv_iload hx hb dX5_advance_79 (lv_at hl 5 rfl) ?_
      refine lv_icmp_ge (tgt := 101) hx hb dX5_advance_81 (by decide) (fun c39914 => ?_) (fun c39914 => ?_)
      · have w39915 := cv_le (rfl : z39913.toInt = z39913.toInt) (rfl : z39912.toInt = z39912.toInt) c39914
        exact t_vret hQ X hT hfr (Nat.le_of_ble_eq_true rfl) (Nat.le_of_ble_eq_true rfl) dX5_advance_101
      · have w39916 := cv_nle (rfl : z39913.toInt = z39913.toInt) (rfl : z39912.toInt = z39912.toInt) c39914
        refine lv_aload_n hx hb dX5_advance_84 rfl (lv_at hl 0 rfl) ?_
        refine lv_iload hx hb dX5_advance_85 (lv_at hl 4 rfl) ?_
        refine lv_iload hx hb dX5_advance_87 (lv_at hl 5 rfl) ?_
        refine t_cSv (n := 3) (As := [.ref p0, .int z39912, .int z39913]) (rest := []) X hT (kt114_X5_swap l G tag L F hT.2.2.2 p0 z39912 z39913 m0 g0 (by omega) (by omega)) qw_1250 qw_1251 qw_1242 qw_1252 ⟨by decide +kernel, by decide +kernel, by decide +kernel⟩ ⟨Nat.le_of_ble_eq_true rfl, Nat.le_of_ble_eq_true rfl⟩ hl rfl rfl (Nat.le_of_ble_eq_true rfl) dX5_advance_89 ⟨Nat.le_of_ble_eq_true rfl, Nat.le_of_ble_eq_true rfl⟩ (fun F H locs hT hz39917 => ?_)
        have yz39917 := hz39917
        have hfr : (∀ b j : Nat, fld F b j = fld Fo b j) ∧ EF tag F Fo := ⟨fun b j  => (yz39917.1 b j ).trans (hfr.1 b j ), fun b j hb => (yz39917.2 b j hb).trans (hfr.2 b j hb)⟩
        obtain ⟨z39918, ez39918⟩ : ∃ y : Int32, y = z39912 + 1 := ⟨_, rfl⟩
        have hz39918 : z39918.toInt = z39912.toInt + 1 := ar_add ez39918 rfl (by decide : (1 : Int32).toInt = 1) (by omega) (by omega)
        refine lv_iinc (v := z39918) (lv' := [(4, .int z39918), (0, .ref p0), (1, .int p1), (2, .int z39910), (3, .int z39911), (5, .int z39913)]) hx hb dX5_advance_92 hl (k := 4) rfl (by rw [ez39918]; rfl) (by decide) rfl (fun ls hl => ?_)
        obtain ⟨z39919, ez39919⟩ : ∃ y : Int32, y = z39913 + (-1) := ⟨_, rfl⟩
        have hz39919 : z39919.toInt = z39913.toInt + (-1) := ar_add ez39919 rfl (by decide : ((-1) : Int32).toInt = (-1)) (by omega) (by omega)
        refine lv_iinc (v := z39919) (lv' := [(5, .int z39919), (4, .int z39918), (0, .ref p0), (1, .int p1), (2, .int z39910), (3, .int z39911)]) hx hb dX5_advance_95 hl (k := 5) rfl (by rw [ez39919]; rfl) (by decide) rfl (fun ls hl => ?_)
        refine lv_goto (tgt := 77) hx hb dX5_advance_98 (by decide) ?_
        exact ih77 z39910 z39911 z39918 z39919 _ _ _ _ (by omega) (by omega) (by omega) (by omega) (by omega) hT hfr  (lv_sub hl [2, 3, 4, 5, 1, 0] rfl)
  have K61 : ∀ (z39920 : Int32) (z39921 : Int32) (F : Nat → va_E) (H : Heap) (locs : List Loc) (ls : Array Slot), (0 ≤ z39920.toInt ∧ z39920.toInt ≤ 4) → (0 ≤ z39921.toInt ∧ z39921.toInt ≤ 5) → TH G ttC A s tag L F H locs → ((∀ b j : Nat, fld F b j = fld Fo b j) ∧ EF tag F Fo) → lv_has ls 6 [(0, .ref p0), (1, .int p1), (2, .int z39920), (3, .int z39921)] → W p l e { frames := 1, cells := 0, slots := 0, locals := 23 } s m args below meth c H locs 0 0 Q (F0 m 61 ls []) := by
    intro z39920 z39921 F H locs ls rz39920 rz39921 hT hfr hl
    refine lv_aload_n hx hb dX5_advance_61 rfl (lv_at hl 0 rfl) ?_
    refine lv_iload_n hx hb dX5_advance_62 rfl (lv_at hl 2 rfl) ?_
    refine lv_iload_n hx hb dX5_advance_63 rfl (lv_at hl 3 rfl) ?_
    refine t_cSv (n := 3) (As := [.ref p0, .int z39920, .int z39921]) (rest := []) X hT (kt114_X5_swap l G tag L F hT.2.2.2 p0 z39920 z39921 m0 g0 (by omega) (by omega)) qw_1250 qw_1251 qw_1242 qw_1252 ⟨by decide +kernel, by decide +kernel, by decide +kernel⟩ ⟨Nat.le_of_ble_eq_true rfl, Nat.le_of_ble_eq_true rfl⟩ hl rfl rfl (Nat.le_of_ble_eq_true rfl) dX5_advance_64 ⟨Nat.le_of_ble_eq_true rfl, Nat.le_of_ble_eq_true rfl⟩ (fun F H locs hT hz39922 => ?_)
    have yz39922 := hz39922
    have hfr : (∀ b j : Nat, fld F b j = fld Fo b j) ∧ EF tag F Fo := ⟨fun b j  => (yz39922.1 b j ).trans (hfr.1 b j ), fun b j hb => (yz39922.2 b j hb).trans (hfr.2 b j hb)⟩
    refine lv_iload_n hx hb dX5_advance_67 rfl (lv_at hl 2 rfl) ?_
    refine lv_iconst (v := 1) hx hb dX5_advance_68 (by decide) ?_
    refine lv_iadd hx hb dX5_advance_69 ?_
    refine lv_topi (fun z39923 ez39923 => ?_)
    have hz39923 : z39923.toInt = z39920.toInt + 1 := ar_add ez39923 (rfl : z39920.toInt = z39920.toInt) (by decide : (1 : Int32).toInt = 1) (by omega) (by omega)
    have rz39923 : 1 ≤ z39923.toInt ∧ z39923.toInt ≤ 5 := by omega
    refine lv_istore (lv' := [(4, .int z39923), (0, .ref p0), (1, .int p1), (2, .int z39920), (3, .int z39921)]) hx hb dX5_advance_70 hl (by decide) rfl (fun ls hl => ?_)
    refine lv_iload_n hx hb dX5_advance_72 rfl (lv_at hl 2 rfl) ?_
    refine lv_iconst (v := 1) hx hb dX5_advance_73 (by decide) ?_
    refine lv_isub hx hb dX5_advance_74 ?_
    refine lv_topi (fun z39924 ez39924 => ?_)
    have hz39924 : z39924.toInt = p1.toInt - 1 := ar_sub ez39924 (rfl : p1.toInt = p1.toInt) (by decide : (1 : Int32).toInt = 1) (by omega) (by omega)
    have rz39924 : 1 ≤ z39924.toInt ∧ z39924.toInt ≤ 5 := by omega
    refine lv_istore (lv' := [(5, .int z39924), (4, .int z39923), (0, .ref p0), (1, .int p1), (2, .int z39920), (3, .int z39921)]) hx hb dX5_advance_75 hl (by decide) rfl (fun ls hl => ?_)
    exact K77 5 z39920 z39921 z39923 z39924 _ _ _ _ (by omega) (by omega) (by omega) (by omega) (by omega) hT hfr  (lv_sub hl [2, 3, 4, 5, 1, 0] rfl)
  have K41 : ∀ (n : Nat) (z39925 : Int32) (z39926 : Int32) (F : Nat → va_E) (H : Heap) (locs : List Loc) (ls : Array Slot), (z39926.toInt - 0 < (n : Int)) → (0 ≤ z39925.toInt ∧ z39925.toInt ≤ 4) → (0 ≤ z39926.toInt ∧ z39926.toInt ≤ 5) → TH G ttC A s tag L F H locs → ((∀ b j : Nat, fld F b j = fld Fo b j) ∧ EF tag F Fo) → lv_has ls 6 [(0, .ref p0), (1, .int p1), (2, .int z39925), (3, .int z39926)] → W p l e { frames := 1, cells := 0, slots := 0, locals := 23 } s m args below meth c H locs 0 0 Q (F0 m 41 ls []) := by
    intro n
    induction n with
    | zero =>
      intro z39925 z39926 F H locs ls hn rz39925 rz39926 hT hfr hl
      exfalso
      omega
    | succ n ih41 =>
      intro z39925 z39926 F H locs ls hn rz39925 rz39926 hT hfr hl
      refine lv_iload_n hx hb dX5_advance_41 rfl (lv_at hl 3 rfl) ?_
      refine lv_iload_n hx hb dX5_advance_42 rfl (lv_at hl 2 rfl) ?_
      refine lv_icmp_le (tgt := 61) hx hb dX5_advance_43 (by decide) (fun c39927 => ?_) (fun c39927 => ?_)
      · have w39928 := cv_le (rfl : z39926.toInt = z39926.toInt) (rfl : z39925.toInt = z39925.toInt) c39927
        exact K61 z39925 z39926 _ _ _ _ (by omega) (by omega) hT hfr  (lv_sub hl [0, 1, 2, 3] rfl)
      · have w39929 := cv_nle (rfl : z39926.toInt = z39926.toInt) (rfl : z39925.toInt = z39925.toInt) c39927
        refine lv_aload_n hx hb dX5_advance_46 rfl (lv_at hl 0 rfl) ?_
        refine lv_iload_n hx hb dX5_advance_47 rfl (lv_at hl 3 rfl) ?_
        refine t_ild X hT m0 g0 rfl (by omega) dX5_advance_48 (fun z39930 vz39930 rz39930 => ?_)
        have rz39930 : 0 ≤ z39930.toInt ∧ z39930.toInt ≤ 5 := rz39930
        refine lv_aload_n hx hb dX5_advance_49 rfl (lv_at hl 0 rfl) ?_
        refine lv_iload_n hx hb dX5_advance_50 rfl (lv_at hl 2 rfl) ?_
        refine t_ild X hT m0 g0 rfl (by omega) dX5_advance_51 (fun z39931 vz39931 rz39931 => ?_)
        have rz39931 : 0 ≤ z39931.toInt ∧ z39931.toInt ≤ 5 := rz39931
        refine lv_icmp_ge (tgt := 61) hx hb dX5_advance_52 (by decide) (fun c39932 => ?_) (fun c39932 => ?_)
        · have w39933 := cv_le (rfl : z39931.toInt = z39931.toInt) (rfl : z39930.toInt = z39930.toInt) c39932
          exact K61 z39925 z39926 _ _ _ _ (by omega) (by omega) hT hfr  (lv_sub hl [0, 1, 2, 3] rfl)
        · have w39934 := cv_nle (rfl : z39931.toInt = z39931.toInt) (rfl : z39930.toInt = z39930.toInt) c39932
          obtain ⟨z39935, ez39935⟩ : ∃ y : Int32, y = z39926 + (-1) := ⟨_, rfl⟩
          have hz39935 : z39935.toInt = z39926.toInt + (-1) := ar_add ez39935 rfl (by decide : ((-1) : Int32).toInt = (-1)) (by omega) (by omega)
          refine lv_iinc (v := z39935) (lv' := [(3, .int z39935), (0, .ref p0), (1, .int p1), (2, .int z39925)]) hx hb dX5_advance_55 hl (k := 3) rfl (by rw [ez39935]; rfl) (by decide) rfl (fun ls hl => ?_)
          refine lv_goto (tgt := 41) hx hb dX5_advance_58 (by decide) ?_
          exact ih41 z39925 z39935 _ _ _ _ (by omega) (by omega) (by omega) hT hfr  (lv_sub hl [1, 2, 3, 0] rfl)
  have K32 : ∀ (z39936 : Int32) (F : Nat → va_E) (H : Heap) (locs : List Loc) (ls : Array Slot), ((-1) ≤ z39936.toInt ∧ z39936.toInt ≤ 4) → TH G ttC A s tag L F H locs → ((∀ b j : Nat, fld F b j = fld Fo b j) ∧ EF tag F Fo) → lv_has ls 6 [(0, .ref p0), (1, .int p1), (2, .int z39936)] → W p l e { frames := 1, cells := 0, slots := 0, locals := 23 } s m args below meth c H locs 0 0 Q (F0 m 32 ls []) := by
    intro z39936 F H locs ls rz39936 hT hfr hl
    refine lv_iload_n hx hb dX5_advance_32 rfl (lv_at hl 2 rfl) ?_
    refine lv_if_ge (tgt := 37) hx hb dX5_advance_33 (by decide) (fun c39937 => ?_) (fun c39937 => ?_)
    · have w39938 := cv_le (by decide : (0 : Int32).toInt = 0) (rfl : z39936.toInt = z39936.toInt) c39937
      refine lv_iload_n hx hb dX5_advance_37 rfl (lv_at hl 1 rfl) ?_
      refine lv_iconst (v := 1) hx hb dX5_advance_38 (by decide) ?_
      refine lv_isub hx hb dX5_advance_39 ?_
      refine lv_topi (fun z39939 ez39939 => ?_)
      have hz39939 : z39939.toInt = p1.toInt - 1 := ar_sub ez39939 (rfl : p1.toInt = p1.toInt) (by decide : (1 : Int32).toInt = 1) (by omega) (by omega)
      have rz39939 : 1 ≤ z39939.toInt ∧ z39939.toInt ≤ 5 := by omega
      refine lv_istore_n (lv' := [(3, .int z39939), (0, .ref p0), (1, .int p1), (2, .int z39936)]) hx hb dX5_advance_40 rfl hl (by decide) rfl (fun ls hl => ?_)
      exact K41 6 z39936 z39939 _ _ _ _ (by omega) (by omega) (by omega) hT hfr  (lv_sub hl [1, 2, 3, 0] rfl)
    · have w39940 := cv_nle (by decide : (0 : Int32).toInt = 0) (rfl : z39936.toInt = z39936.toInt) c39937
      exact t_vret hQ X hT hfr (Nat.le_of_ble_eq_true rfl) (Nat.le_of_ble_eq_true rfl) dX5_advance_36
  have K11 : ∀ (n : Nat) (z39941 : Int32) (F : Nat → va_E) (H : Heap) (locs : List Loc) (ls : Array Slot), (z39941.toInt - (-1) < (n : Int)) → ((-1) ≤ z39941.toInt ∧ z39941.toInt ≤ 4) → TH G ttC A s tag L F H locs → ((∀ b j : Nat, fld F b j = fld Fo b j) ∧ EF tag F Fo) → lv_has ls 6 [(0, .ref p0), (1, .int p1), (2, .int z39941)] → W p l e { frames := 1, cells := 0, slots := 0, locals := 23 } s m args below meth c H locs 0 0 Q (F0 m 11 ls []) := by
    intro n
    induction n with
    | zero =>
      intro z39941 F H locs ls hn rz39941 hT hfr hl
      exfalso
      omega
    | succ n ih11 =>
      intro z39941 F H locs ls hn rz39941 hT hfr hl
      refine lv_iload_n hx hb dX5_advance_11 rfl (lv_at hl 2 rfl) ?_
      refine lv_if_lt (tgt := 32) hx hb dX5_advance_12 (by decide) (fun c39942 => ?_) (fun c39942 => ?_)
      · have w39943 := cv_lt (rfl : z39941.toInt = z39941.toInt) (by decide : (0 : Int32).toInt = 0) c39942
        exact K32 z39941 _ _ _ _ (by omega) hT hfr  (lv_sub hl [0, 1, 2] rfl)
      · have w39944 := cv_nlt (rfl : z39941.toInt = z39941.toInt) (by decide : (0 : Int32).toInt = 0) c39942
        refine lv_aload_n hx hb dX5_advance_15 rfl (lv_at hl 0 rfl) ?_
        refine lv_iload_n hx hb dX5_advance_16 rfl (lv_at hl 2 rfl) ?_
        refine t_ild X hT m0 g0 rfl (by omega) dX5_advance_17 (fun z39945 vz39945 rz39945 => ?_)
        have rz39945 : 0 ≤ z39945.toInt ∧ z39945.toInt ≤ 5 := rz39945
        refine lv_aload_n hx hb dX5_advance_18 rfl (lv_at hl 0 rfl) ?_
        refine lv_iload_n hx hb dX5_advance_19 rfl (lv_at hl 2 rfl) ?_
        refine lv_iconst (v := 1) hx hb dX5_advance_20 (by decide) ?_
        refine lv_iadd hx hb dX5_advance_21 ?_
        refine lv_topi (fun z39946 ez39946 => ?_)
        have hz39946 : z39946.toInt = z39941.toInt + 1 := ar_add ez39946 (rfl : z39941.toInt = z39941.toInt) (by decide : (1 : Int32).toInt = 1) (by omega) (by omega)
        have rz39946 : 1 ≤ z39946.toInt ∧ z39946.toInt ≤ 5 := by omega
        refine t_ild X hT m0 g0 rfl (by omega) dX5_advance_22 (fun z39947 vz39947 rz39947 => ?_)
        have rz39947 : 0 ≤ z39947.toInt ∧ z39947.toInt ≤ 5 := rz39947
        refine lv_icmp_le (tgt := 32) hx hb dX5_advance_23 (by decide) (fun c39948 => ?_) (fun c39948 => ?_)
        · have w39949 := cv_le (rfl : z39945.toInt = z39945.toInt) (rfl : z39947.toInt = z39947.toInt) c39948
          exact K32 z39941 _ _ _ _ (by omega) hT hfr  (lv_sub hl [0, 1, 2] rfl)
        · have w39950 := cv_nle (rfl : z39945.toInt = z39945.toInt) (rfl : z39947.toInt = z39947.toInt) c39948
          obtain ⟨z39951, ez39951⟩ : ∃ y : Int32, y = z39941 + (-1) := ⟨_, rfl⟩
          have hz39951 : z39951.toInt = z39941.toInt + (-1) := ar_add ez39951 rfl (by decide : ((-1) : Int32).toInt = (-1)) (by omega) (by omega)
          refine lv_iinc (v := z39951) (lv' := [(2, .int z39951), (0, .ref p0), (1, .int p1)]) hx hb dX5_advance_26 hl (k := 2) rfl (by rw [ez39951]; rfl) (by decide) rfl (fun ls hl => ?_)
          refine lv_goto (tgt := 11) hx hb dX5_advance_29 (by decide) ?_
          exact ih11 z39951 _ _ _ _ (by omega) (by omega) hT hfr  (lv_sub hl [1, 2, 0] rfl)
  refine lv_iload_n hx hb dX5_advance_0 rfl (lv_at hl 1 rfl) ?_
  refine lv_aload_n hx hb dX5_advance_1 rfl (lv_at hl 0 rfl) ?_
  refine t_alen X hT m0 g0 rfl (by decide) dX5_advance_2 ?_
  refine lv_topi (fun z39952 ez39952 => ?_)
  obtain rfl : z39952 = 6 := ez39952.trans (by rfl)
  refine lv_icmp_le (tgt := 7) hx hb dX5_advance_3 (by decide) (fun c39953 => ?_) (fun c39953 => ?_)
  · have w39954 := cv_le (rfl : p1.toInt = p1.toInt) (by decide : (6 : Int32).toInt = 6) c39953
    refine lv_iload_n hx hb dX5_advance_7 rfl (lv_at hl 1 rfl) ?_
    refine lv_iconst (v := 2) hx hb dX5_advance_8 (by decide) ?_
    refine lv_isub hx hb dX5_advance_9 ?_
    refine lv_topi (fun z39955 ez39955 => ?_)
    have hz39955 : z39955.toInt = p1.toInt - 2 := ar_sub ez39955 (rfl : p1.toInt = p1.toInt) (by decide : (2 : Int32).toInt = 2) (by omega) (by omega)
    have rz39955 : 0 ≤ z39955.toInt ∧ z39955.toInt ≤ 4 := by omega
    refine lv_istore_n (lv' := [(2, .int z39955), (0, .ref p0), (1, .int p1)]) hx hb dX5_advance_10 rfl hl (by decide) rfl (fun ls hl => ?_)
    exact K11 6 z39955 _ _ _ _ (by omega) (by omega) hT hfr  (lv_sub hl [1, 2, 0] rfl)
  · have w39956 := cv_nle (rfl : p1.toInt = p1.toInt) (by decide : (6 : Int32).toInt = 6) c39953
    exfalso
    omega
set_option maxHeartbeats 4000000 in
set_option maxRecDepth 100000 in
theorem kt116_X5_advance (l : Launch) (G : KG) (tag : Nat → Nat) (L : List Nat) (Fo : Nat → va_E) (ho : okT G ttC tag L Fo) (p0 : Nat) (p1 : Int32) (m0 : p0 ∈ L) (g0 : tag p0 = 11) (h1 : 0 ≤ p1.toInt ∧ p1.toInt ≤ 1) : TMv l yX5_advance cX5_advance 6 { frames := 1, cells := 0, slots := 0, locals := 23 } G ttC tag L Fo [.ref p0, .int p1] (fun F1 => ((∀ b j : Nat, fld F1 b j = fld Fo b j) ∧ EF tag F1 Fo)) := by
  refine t_bodyv (y := yX5_advance) (cd := cX5_advance) (mL := 6) (rm := { frames := 1, cells := 0, slots := 0, locals := 23 }) (av := [.ref p0, .int p1]) (by decide) (Nat.le_of_ble_eq_true rfl) ho ?_
  intro p e s m args below meth c ls A Q hQ X hT hl
  have hx := X.1.1
  have hb := X.1.2.1
  have hl : lv_has ls 6 [(0, .ref p0), (1, .int p1)] := hl
  obtain ⟨F, hFo⟩ : ∃ F : Nat → va_E, F = Fo := ⟨_, rfl⟩
  rw [← hFo] at hT
  have hfr : (∀ b j : Nat, fld F b j = fld Fo b j) ∧ EF tag F Fo := by
    rw [hFo]
    exact ⟨by intros; rfl, fun _ _ _ => rfl⟩
  have K32 : ∀ (z40104 : Int32) (F : Nat → va_E) (H : Heap) (locs : List Loc) (ls : Array Slot), ((-2) ≤ z40104.toInt ∧ z40104.toInt ≤ (-1)) → TH G ttC A s tag L F H locs → ((∀ b j : Nat, fld F b j = fld Fo b j) ∧ EF tag F Fo) → lv_has ls 6 [(0, .ref p0), (1, .int p1), (2, .int z40104)] → W p l e { frames := 1, cells := 0, slots := 0, locals := 23 } s m args below meth c H locs 0 0 Q (F0 m 32 ls []) := by
    intro z40104 F H locs ls rz40104 hT hfr hl
    refine lv_iload_n hx hb dX5_advance_32 rfl (lv_at hl 2 rfl) ?_
    refine lv_if_ge (tgt := 37) hx hb dX5_advance_33 (by decide) (fun c40105 => ?_) (fun c40105 => ?_)
    · have w40106 := cv_le (by decide : (0 : Int32).toInt = 0) (rfl : z40104.toInt = z40104.toInt) c40105
      exfalso
      omega
    · have w40107 := cv_nle (by decide : (0 : Int32).toInt = 0) (rfl : z40104.toInt = z40104.toInt) c40105
      exact t_vret hQ X hT hfr (Nat.le_of_ble_eq_true rfl) (Nat.le_of_ble_eq_true rfl) dX5_advance_36
  have K11 : ∀ (z40108 : Int32) (F : Nat → va_E) (H : Heap) (locs : List Loc) (ls : Array Slot), ((-2) ≤ z40108.toInt ∧ z40108.toInt ≤ (-1)) → TH G ttC A s tag L F H locs → ((∀ b j : Nat, fld F b j = fld Fo b j) ∧ EF tag F Fo) → lv_has ls 6 [(0, .ref p0), (1, .int p1), (2, .int z40108)] → W p l e { frames := 1, cells := 0, slots := 0, locals := 23 } s m args below meth c H locs 0 0 Q (F0 m 11 ls []) := by
    intro z40108 F H locs ls rz40108 hT hfr hl
    refine lv_iload_n hx hb dX5_advance_11 rfl (lv_at hl 2 rfl) ?_
    refine lv_if_lt (tgt := 32) hx hb dX5_advance_12 (by decide) (fun c40109 => ?_) (fun c40109 => ?_)
    · have w40110 := cv_lt (rfl : z40108.toInt = z40108.toInt) (by decide : (0 : Int32).toInt = 0) c40109
      exact K32 z40108 _ _ _ _ (by omega) hT hfr  (lv_sub hl [0, 1, 2] rfl)
    · have w40111 := cv_nlt (rfl : z40108.toInt = z40108.toInt) (by decide : (0 : Int32).toInt = 0) c40109
      exfalso
      omega
  refine lv_iload_n hx hb dX5_advance_0 rfl (lv_at hl 1 rfl) ?_
  refine lv_aload_n hx hb dX5_advance_1 rfl (lv_at hl 0 rfl) ?_
  refine t_alen X hT m0 g0 rfl (by decide) dX5_advance_2 ?_
  refine lv_topi (fun z40112 ez40112 => ?_)
  obtain rfl : z40112 = 6 := ez40112.trans (by rfl)
  refine lv_icmp_le (tgt := 7) hx hb dX5_advance_3 (by decide) (fun c40113 => ?_) (fun c40113 => ?_)
  · have w40114 := cv_le (rfl : p1.toInt = p1.toInt) (by decide : (6 : Int32).toInt = 6) c40113
    refine lv_iload_n hx hb dX5_advance_7 rfl (lv_at hl 1 rfl) ?_
    refine lv_iconst (v := 2) hx hb dX5_advance_8 (by decide) ?_
    refine lv_isub hx hb dX5_advance_9 ?_
    refine lv_topi (fun z40115 ez40115 => ?_)
    have hz40115 : z40115.toInt = p1.toInt - 2 := ar_sub ez40115 (rfl : p1.toInt = p1.toInt) (by decide : (2 : Int32).toInt = 2) (by omega) (by omega)
    have rz40115 : (-2) ≤ z40115.toInt ∧ z40115.toInt ≤ (-1) := by omega
    refine lv_istore_n (lv' := [(2, .int z40115), (0, .ref p0), (1, .int p1)]) hx hb dX5_advance_10 rfl hl (by decide) rfl (fun ls hl => ?_)
    exact K11 z40115 _ _ _ _ (by omega) hT hfr  (lv_sub hl [1, 2, 0] rfl)
  · have w40116 := cv_nle (rfl : p1.toInt = p1.toInt) (by decide : (6 : Int32).toInt = 6) c40113
    exfalso
    omega
theorem kt117_X5_advance (l : Launch) (G : KG) (tag : Nat → Nat) (L : List Nat) (Fo : Nat → va_E) (ho : okT G ttC tag L Fo) (p0 : Nat) (p1 : Int32) (m0 : p0 ∈ L) (g0 : tag p0 = 11) (h1 : 0 ≤ p1.toInt ∧ p1.toInt ≤ 6) : TMv l yX5_advance cX5_advance 6 { frames := 1, cells := 0, slots := 0, locals := 23 } G ttC tag L Fo [.ref p0, .int p1] (fun F1 => ((∀ b j : Nat, fld F1 b j = fld Fo b j) ∧ EF tag F1 Fo)) := by
  by_cases h9 : p1.toInt < 2
  · exact kt116_X5_advance l G tag L Fo ho p0 p1 m0 g0 (by omega)
  · exact kt115_X5_advance l G tag L Fo ho p0 p1 m0 g0 (by omega)
set_option maxHeartbeats 4000000 in
set_option maxRecDepth 100000 in
theorem kt118_X9_lookAtAll (l : Launch) (G : KG) (tag : Nat → Nat) (L : List Nat) (Fo : Nat → va_E) (ho : okT G ttC tag L Fo) (p0 : Nat) (p1 : Nat) (p2 : Int32) (m0 : p0 ∈ L) (g0 : tag p0 = 22) (m1 : p1 ∈ L) (g1 : tag p1 = 18) : TMv l yX9_lookAtAll cX9_lookAtAll 4 { frames := 3, cells := 0, slots := 0, locals := 63 } G ttC tag L Fo [.ref p0, .ref p1, .int p2] (fun F1 => ((∀ b j : Nat, (tag b ≠ 22 ∨ j ≠ 2) → fld F1 b j = fld Fo b j) ∧ EF tag F1 Fo)) := by
  refine t_bodyv (y := yX9_lookAtAll) (cd := cX9_lookAtAll) (mL := 4) (rm := { frames := 3, cells := 0, slots := 0, locals := 63 }) (av := [.ref p0, .ref p1, .int p2]) (by decide) (Nat.le_of_ble_eq_true rfl) ho ?_
  intro p e s m args below meth c ls A Q hQ X hT hl
  have hx := X.1.1
  have hb := X.1.2.1
  have hl : lv_has ls 4 [(0, .ref p0), (1, .ref p1), (2, .int p2)] := hl
  have rp2 := rg_all p2
  obtain ⟨F, hFo⟩ : ∃ F : Nat → va_E, F = Fo := ⟨_, rfl⟩
  rw [← hFo] at hT
  have hfr : (∀ b j : Nat, (tag b ≠ 22 ∨ j ≠ 2) → fld F b j = fld Fo b j) ∧ EF tag F Fo := by
    rw [hFo]
    exact ⟨by intros; rfl, fun _ _ _ => rfl⟩
  have K55 : ∀ (n : Nat) (z41725 : Int32) (z41726 : Int32) (z41727 : Int32) (F : Nat → va_E) (H : Heap) (locs : List Loc) (ls : Array Slot), (720 - z41725.toInt < (n : Int)) → (0 ≤ z41725.toInt ∧ z41725.toInt ≤ 720) → (0 ≤ z41727.toInt ∧ z41727.toInt ≤ 6) → TH G ttC A s tag L F H locs → ((∀ b j : Nat, (tag b ≠ 22 ∨ j ≠ 2) → fld F b j = fld Fo b j) ∧ EF tag F Fo) → fld F p0 2 = .int z41726 → fld F p1 16 = .int z41727 → lv_has ls 4 [(0, .ref p0), (1, .ref p1), (2, .int p2), (3, .int z41725)] → W p l e { frames := 3, cells := 0, slots := 0, locals := 63 } s m args below meth c H locs 0 0 Q (F0 m 55 ls []) := by
    intro n
    induction n with
    | zero =>
      intro z41725 z41726 z41727 F H locs ls hn rz41725 rz41727 hT hfr qz41726 qz41727 hl
      have rz41726 := rg_all z41726
      exfalso
      omega
    | succ n ih55 =>
      intro z41725 z41726 z41727 F H locs ls hn rz41725 rz41727 hT hfr qz41726 qz41727 hl
      have rz41726 := rg_all z41726
      have K92 : ∀ (z41729 : Int32) (z41730 : Int32) (F : Nat → va_E) (H : Heap) (locs : List Loc) (ls : Array Slot), (0 ≤ z41730.toInt ∧ z41730.toInt ≤ 6) → (0 ≤ z41725.toInt ∧ z41725.toInt ≤ 719) → TH G ttC A s tag L F H locs → ((∀ b j : Nat, (tag b ≠ 22 ∨ j ≠ 2) → fld F b j = fld Fo b j) ∧ EF tag F Fo) → fld F p0 2 = .int z41729 → fld F p1 16 = .int z41730 → lv_has ls 4 [(0, .ref p0), (1, .ref p1), (2, .int p2), (3, .int z41725)] → W p l e { frames := 3, cells := 0, slots := 0, locals := 63 } s m args below meth c H locs 0 0 Q (F0 m 92 ls []) := by
        intro z41729 z41730 F H locs ls rz41730 r9s41728 hT hfr qz41729 qz41730 hl
        have rz41729 := rg_all z41729
        refine lv_aload_n hx hb dX9_lookAtAll_92 rfl (lv_at hl 0 rfl) ?_
        refine t_get (C := RX9) (T := TX9) (N := 6) X hT m0 g0 rfl rfl 0 (by decide) qw_93 inlX9 rfl dX9_lookAtAll_93 (fun v41731 hv41731 ov41731 => ?_)
        obtain ⟨b41732, rfl, mb41732, gb41732⟩ := okV_r ov41731
        have gb41732 : tag b41732 = 11 := tg_of gb41732
        refine lv_aload_n hx hb dX9_lookAtAll_96 rfl (lv_at hl 1 rfl) ?_
        refine t_get (C := RX1) (T := TX1) (N := 20) X hT m1 g1 rfl rfl 16 (by decide) qw_1338 inlX1 rfl dX9_lookAtAll_97 (fun v41733 hv41733 ov41733 => ?_)
        obtain rfl : v41733 = .int z41730 := hv41733.symm.trans qz41730
        refine t_cSv (n := 2) (As := [.ref b41732, .int z41730]) (rest := []) X hT (kt117_X5_advance l G tag L F hT.2.2.2 b41732 z41730 mb41732 gb41732 (by omega)) qw_1356 qw_1248 qw_1242 qw_1249 ⟨by decide +kernel, by decide +kernel, by decide +kernel⟩ ⟨Nat.le_of_ble_eq_true rfl, Nat.le_of_ble_eq_true rfl⟩ hl rfl rfl (Nat.le_of_ble_eq_true rfl) dX9_lookAtAll_100 ⟨Nat.le_of_ble_eq_true rfl, Nat.le_of_ble_eq_true rfl⟩ (fun F H locs hT hz41734 => ?_)
        have yz41734 := hz41734
        have qz41729 := (yz41734.1 _ 2 ).trans qz41729
        have qz41730 := (yz41734.1 _ 16 ).trans qz41730
        have hv41731 := (yz41734.1 _ 0 ).trans hv41731
        have hfr : (∀ b j : Nat, (tag b ≠ 22 ∨ j ≠ 2) → fld F b j = fld Fo b j) ∧ EF tag F Fo := ⟨fun b j n22_2 => (yz41734.1 b j ).trans (hfr.1 b j n22_2), fun b j hb => (yz41734.2 b j hb).trans (hfr.2 b j hb)⟩
        obtain ⟨z41735, ez41735⟩ : ∃ y : Int32, y = z41725 + 1 := ⟨_, rfl⟩
        have hz41735 : z41735.toInt = z41725.toInt + 1 := ar_add ez41735 rfl (by decide : (1 : Int32).toInt = 1) (by omega) (by omega)
        refine lv_iinc (v := z41735) (lv' := [(3, .int z41735), (0, .ref p0), (1, .ref p1), (2, .int p2)]) hx hb dX9_lookAtAll_103 hl (k := 3) rfl (by rw [ez41735]; rfl) (by decide) rfl (fun ls hl => ?_)
        refine lv_goto (tgt := 55) hx hb dX9_lookAtAll_106 (by decide) ?_
        exact ih55 z41735 z41729 z41730 _ _ _ _ (by omega) (by omega) (by omega) hT hfr qz41729 qz41730 (lv_sub hl [1, 2, 3, 0] rfl)
      refine lv_iload_n hx hb dX9_lookAtAll_55 rfl (lv_at hl 3 rfl) ?_
      refine t_getsN X hT X.2.2.2.1.2.1.2.2.1 (List.mem_of_getElem? (i := 3) rfl) dX9_lookAtAll_56 ?_
      refine lv_aload_n hx hb dX9_lookAtAll_59 rfl (lv_at hl 1 rfl) ?_
      refine t_get (C := RX1) (T := TX1) (N := 20) X hT m1 g1 rfl rfl 16 (by decide) qw_1338 inlX1 rfl dX9_lookAtAll_60 (fun v41736 hv41736 ov41736 => ?_)
      obtain rfl : v41736 = .int z41727 := hv41736.symm.trans qz41727
      refine t_tild X hT X.2.2.2.1.2.1.2.2.1 (by omega) dX9_lookAtAll_63 (fun z41737 ez41737 => ?_)
      have rz41737 : 1 ≤ z41737.toInt ∧ z41737.toInt ≤ 720 := by rw [ez41737]; exact gRows_r _
      refine lv_icmp_ge (tgt := 109) hx hb dX9_lookAtAll_64 (by decide) (fun c41738 => ?_) (fun c41738 => ?_)
      · have w41739 := cv_le (rfl : z41737.toInt = z41737.toInt) (rfl : z41725.toInt = z41725.toInt) c41738
        exact t_vret hQ X hT hfr (Nat.le_of_ble_eq_true rfl) (Nat.le_of_ble_eq_true rfl) dX9_lookAtAll_109
      · have w41740 := cv_nle (rfl : z41737.toInt = z41737.toInt) (rfl : z41725.toInt = z41725.toInt) c41738
        refine lv_aload_n hx hb dX9_lookAtAll_67 rfl (lv_at hl 0 rfl) ?_
        refine lv_aload_n hx hb dX9_lookAtAll_68 rfl (lv_at hl 1 rfl) ?_
        refine lv_iload_n hx hb dX9_lookAtAll_69 rfl (lv_at hl 2 rfl) ?_
        refine t_cVi (n := 2) (C := RX9) (T := TX9) (N := 6) (As := [.ref p1, .int p2]) (rest := []) X hT (kt112_X9_canBe l G tag L F hT.2.2.2 p0 p1 p2 m0 g0 m1 g1) m0 g0 rfl rfl qw_1340 qw_1341 qw_1342 qw_40 qw_1343 ⟨rfl, by decide +kernel, by decide +kernel, by decide +kernel⟩ ⟨Nat.le_of_ble_eq_true rfl, Nat.le_of_ble_eq_true rfl⟩ hl rfl rfl (Nat.le_of_ble_eq_true rfl) dX9_lookAtAll_70 ⟨Nat.le_of_ble_eq_true rfl, Nat.le_of_ble_eq_true rfl⟩ (fun z41741 F H locs hT hz41741 => ?_)
        obtain ⟨hz41741, yz41741⟩ := hz41741
        have qz41726 := (yz41741.1 _ 2 ).trans qz41726
        have qz41727 := (yz41741.1 _ 16 ).trans qz41727
        have hfr : (∀ b j : Nat, (tag b ≠ 22 ∨ j ≠ 2) → fld F b j = fld Fo b j) ∧ EF tag F Fo := ⟨fun b j n22_2 => (yz41741.1 b j ).trans (hfr.1 b j n22_2), fun b j hb => (yz41741.2 b j hb).trans (hfr.2 b j hb)⟩
        refine lv_if_eq (tgt := 92) hx hb dX9_lookAtAll_73 (by decide) (fun c41742 => ?_) (fun c41742 => ?_)
        · have w41743 := cv_eq (rfl : z41741.toInt = z41741.toInt) (by decide : (0 : Int32).toInt = 0) c41742
          exact K92 z41726 z41727 _ _ _ _ (by omega) (by omega) hT hfr qz41726 qz41727 (lv_sub hl [0, 1, 2, 3] rfl)
        · have w41744 := cv_ne (rfl : z41741.toInt = z41741.toInt) (by decide : (0 : Int32).toInt = 0) c41742
          refine lv_aload_n hx hb dX9_lookAtAll_76 rfl (lv_at hl 0 rfl) ?_
          refine lv_dup hx hb dX9_lookAtAll_77 rfl ?_
          refine t_get (C := RX9) (T := TX9) (N := 6) X hT m0 g0 rfl rfl 2 (by decide) qw_1337 inlX9 rfl dX9_lookAtAll_78 (fun v41745 hv41745 ov41745 => ?_)
          obtain rfl : v41745 = .int z41726 := hv41745.symm.trans qz41726
          refine lv_iconst (v := 1) hx hb dX9_lookAtAll_81 (by decide) ?_
          refine lv_iadd hx hb dX9_lookAtAll_82 ?_
          refine lv_topi (fun z41746 ez41746 => ?_)
          have rz41746 := rg_all z41746
          refine t_put (C := RX9) (T := TX9) (N := 6) (v := .int z41746) X hT m0 g0 rfl tyX9 tyX9_ok nmX9 rfl 2 (by decide) qw_1337 inlX9 rfl (by first | rfl | decide) (by first | rfl | decide) rfl (⟨_, rfl, (show (-2147483648) ≤ (z41746 : Int32).toInt from (by omega)), (show (z41746 : Int32).toInt ≤ 2147483647 from (by omega))⟩) dX9_lookAtAll_83 (fun F H locs hT v41747 h1v41747 h2v41747 => ?_)
          have qz41727 := (h1v41747 _ _ (Or.inr (by decide))).trans qz41727
          have hfr : (∀ b j : Nat, (tag b ≠ 22 ∨ j ≠ 2) → fld F b j = fld Fo b j) ∧ EF tag F Fo := ⟨fun b j n22_2 => (h1v41747 b j (fr_ne g0 n22_2)).trans (hfr.1 b j n22_2), fun b j hb => (h2v41747 b j).trans (hfr.2 b j hb)⟩
          refine lv_aload_n hx hb dX9_lookAtAll_86 rfl (lv_at hl 0 rfl) ?_
          refine lv_aload_n hx hb dX9_lookAtAll_87 rfl (lv_at hl 1 rfl) ?_
          refine lv_iload_n hx hb dX9_lookAtAll_88 rfl (lv_at hl 2 rfl) ?_
          refine t_cVv (n := 2) (C := RX9) (T := TX9) (N := 6) (As := [.ref p1, .int p2]) (rest := []) X hT (kt113_X9_noteRow l G tag L F hT.2.2.2 p0 p1 p2 m0 g0 m1 g1) m0 g0 rfl rfl qw_1352 qw_1353 qw_1354 qw_40 qw_1355 ⟨rfl, by decide +kernel, by decide +kernel, by decide +kernel⟩ ⟨Nat.le_of_ble_eq_true rfl, Nat.le_of_ble_eq_true rfl⟩ hl rfl rfl (Nat.le_of_ble_eq_true rfl) dX9_lookAtAll_89 ⟨Nat.le_of_ble_eq_true rfl, Nat.le_of_ble_eq_true rfl⟩ (fun F H locs hT hz41748 => ?_)
          have yz41748 := hz41748
          have qz41727 := (yz41748.1 _ 16 ).trans qz41727
          have v41747 := (yz41748.1 _ 2 ).trans v41747
          have hfr : (∀ b j : Nat, (tag b ≠ 22 ∨ j ≠ 2) → fld F b j = fld Fo b j) ∧ EF tag F Fo := ⟨fun b j n22_2 => (yz41748.1 b j ).trans (hfr.1 b j n22_2), fun b j hb => (yz41748.2 b j hb).trans (hfr.2 b j hb)⟩
          exact K92 z41746 z41727 _ _ _ _ (by omega) (by omega) hT hfr v41747 qz41727 (lv_sub hl [0, 1, 2, 3] rfl)
  have K7 : ∀ (n : Nat) (z41749 : Int32) (z41750 : Int32) (F : Nat → va_E) (H : Heap) (locs : List Loc) (ls : Array Slot), (6 - z41749.toInt < (n : Int)) → (0 ≤ z41749.toInt ∧ z41749.toInt ≤ 6) → (0 ≤ z41750.toInt ∧ z41750.toInt ≤ 0) → TH G ttC A s tag L F H locs → ((∀ b j : Nat, (tag b ≠ 22 ∨ j ≠ 2) → fld F b j = fld Fo b j) ∧ EF tag F Fo) → fld F p0 2 = .int z41750 → lv_has ls 4 [(0, .ref p0), (1, .ref p1), (2, .int p2), (3, .int z41749)] → W p l e { frames := 3, cells := 0, slots := 0, locals := 63 } s m args below meth c H locs 0 0 Q (F0 m 7 ls []) := by
    intro n
    induction n with
    | zero =>
      intro z41749 z41750 F H locs ls hn rz41749 rz41750 hT hfr qz41750 hl
      exfalso
      omega
    | succ n ih7 =>
      intro z41749 z41750 F H locs ls hn rz41749 rz41750 hT hfr qz41750 hl
      refine lv_iload_n hx hb dX9_lookAtAll_7 rfl (lv_at hl 3 rfl) ?_
      refine lv_bipush (v := 6) hx hb dX9_lookAtAll_8 (by decide) ?_
      refine lv_icmp_ge (tgt := 42) hx hb dX9_lookAtAll_10 (by decide) (fun c41751 => ?_) (fun c41751 => ?_)
      · have w41752 := cv_le (by decide : (6 : Int32).toInt = 6) (rfl : z41749.toInt = z41749.toInt) c41751
        refine lv_aload_n hx hb dX9_lookAtAll_42 rfl (lv_at hl 0 rfl) ?_
        refine t_get (C := RX9) (T := TX9) (N := 6) X hT m0 g0 rfl rfl 0 (by decide) qw_93 inlX9 rfl dX9_lookAtAll_43 (fun v41753 hv41753 ov41753 => ?_)
        obtain ⟨b41754, rfl, mb41754, gb41754⟩ := okV_r ov41753
        have gb41754 : tag b41754 = 11 := tg_of gb41754
        refine lv_aload_n hx hb dX9_lookAtAll_46 rfl (lv_at hl 1 rfl) ?_
        refine t_get (C := RX1) (T := TX1) (N := 20) X hT m1 g1 rfl rfl 16 (by decide) qw_1338 inlX1 rfl dX9_lookAtAll_47 (fun v41755 hv41755 ov41755 => ?_)
        obtain ⟨z41756, rfl, rz41756⟩ := okV_i ov41755
        refine t_cSv (n := 2) (As := [.ref b41754, .int z41756]) (rest := []) X hT (kt110_X5_begin l G tag L F hT.2.2.2 b41754 z41756 mb41754 gb41754 (by omega)) qw_1339 qw_1241 qw_1242 qw_1243 ⟨by decide +kernel, by decide +kernel, by decide +kernel⟩ ⟨Nat.le_of_ble_eq_true rfl, Nat.le_of_ble_eq_true rfl⟩ hl rfl rfl (Nat.le_of_ble_eq_true rfl) dX9_lookAtAll_50 ⟨Nat.le_of_ble_eq_true rfl, Nat.le_of_ble_eq_true rfl⟩ (fun F H locs hT hz41757 => ?_)
        have yz41757 := hz41757
        have qz41750 := (yz41757.1 _ 2 ).trans qz41750
        have hv41753 := (yz41757.1 _ 0 ).trans hv41753
        have hv41755 := (yz41757.1 _ 16 ).trans hv41755
        have hfr : (∀ b j : Nat, (tag b ≠ 22 ∨ j ≠ 2) → fld F b j = fld Fo b j) ∧ EF tag F Fo := ⟨fun b j n22_2 => (yz41757.1 b j ).trans (hfr.1 b j n22_2), fun b j hb => (yz41757.2 b j hb).trans (hfr.2 b j hb)⟩
        refine lv_iconst (v := 0) hx hb dX9_lookAtAll_53 (by decide) ?_
        refine lv_istore_n (lv' := [(3, .int 0), (0, .ref p0), (1, .ref p1), (2, .int p2)]) hx hb dX9_lookAtAll_54 rfl hl (by decide) rfl (fun ls hl => ?_)
        have kk41758 : (0 : Int32).toInt = 0 := by decide
        exact K55 721 0 z41750 z41756 _ _ _ _ (by omega) (by decide) (by omega) hT hfr qz41750 hv41755 (lv_sub hl [1, 2, 3, 0] rfl)
      · have w41759 := cv_nle (by decide : (6 : Int32).toInt = 6) (rfl : z41749.toInt = z41749.toInt) c41751
        refine lv_aload_n hx hb dX9_lookAtAll_13 rfl (lv_at hl 0 rfl) ?_
        refine t_get (C := RX9) (T := TX9) (N := 6) X hT m0 g0 rfl rfl 3 (by decide) qw_95 inlX9 rfl dX9_lookAtAll_14 (fun v41760 hv41760 ov41760 => ?_)
        obtain ⟨b41761, rfl, mb41761, gb41761⟩ := okV_r ov41760
        have gb41761 : tag b41761 = 7 := tg_of gb41761
        refine lv_iload_n hx hb dX9_lookAtAll_17 rfl (lv_at hl 3 rfl) ?_
        refine lv_sipush (v := 999) hx hb dX9_lookAtAll_18 (by decide) ?_
        refine t_ist X hT mb41761 gb41761 rfl (by omega) (show (-2147483648) ≤ (999 : Int32).toInt ∧ (999 : Int32).toInt ≤ 2147483647 from (by decide)) dX9_lookAtAll_21 (fun F H locs hT v41762 h1v41762 h2v41762 => ?_)
        have qz41750 := (h2v41762 _ _).trans qz41750
        have hv41760 := (h2v41762 _ _).trans hv41760
        have hfr : (∀ b j : Nat, (tag b ≠ 22 ∨ j ≠ 2) → fld F b j = fld Fo b j) ∧ EF tag F Fo := ⟨fun b j n22_2 => (h2v41762 b j).trans (hfr.1 b j n22_2), fun b j hb => (h1v41762 b j (Or.inl (ns_ne hb gb41761 (by decide)))).trans (hfr.2 b j hb)⟩
        refine lv_aload_n hx hb dX9_lookAtAll_22 rfl (lv_at hl 0 rfl) ?_
        refine t_get (C := RX9) (T := TX9) (N := 6) X hT m0 g0 rfl rfl 4 (by decide) qw_96 inlX9 rfl dX9_lookAtAll_23 (fun v41763 hv41763 ov41763 => ?_)
        obtain ⟨b41764, rfl, mb41764, gb41764⟩ := okV_r ov41763
        have gb41764 : tag b41764 = 7 := tg_of gb41764
        refine lv_iload_n hx hb dX9_lookAtAll_26 rfl (lv_at hl 3 rfl) ?_
        refine lv_iconst (v := 0) hx hb dX9_lookAtAll_27 (by decide) ?_
        refine t_ist X hT mb41764 gb41764 rfl (by omega) (show (-2147483648) ≤ (0 : Int32).toInt ∧ (0 : Int32).toInt ≤ 2147483647 from (by decide)) dX9_lookAtAll_28 (fun F H locs hT v41765 h1v41765 h2v41765 => ?_)
        have qz41750 := (h2v41765 _ _).trans qz41750
        have hv41760 := (h2v41765 _ _).trans hv41760
        have hv41763 := (h2v41765 _ _).trans hv41763
        have hfr : (∀ b j : Nat, (tag b ≠ 22 ∨ j ≠ 2) → fld F b j = fld Fo b j) ∧ EF tag F Fo := ⟨fun b j n22_2 => (h2v41765 b j).trans (hfr.1 b j n22_2), fun b j hb => (h1v41765 b j (Or.inl (ns_ne hb gb41764 (by decide)))).trans (hfr.2 b j hb)⟩
        refine lv_aload_n hx hb dX9_lookAtAll_29 rfl (lv_at hl 0 rfl) ?_
        refine t_get (C := RX9) (T := TX9) (N := 6) X hT m0 g0 rfl rfl 5 (by decide) qw_97 inlX9 rfl dX9_lookAtAll_30 (fun v41766 hv41766 ov41766 => ?_)
        obtain ⟨b41767, rfl, mb41767, gb41767⟩ := okV_r ov41766
        have gb41767 : tag b41767 = 7 := tg_of gb41767
        refine lv_iload_n hx hb dX9_lookAtAll_33 rfl (lv_at hl 3 rfl) ?_
        refine lv_iconst (v := (-1)) hx hb dX9_lookAtAll_34 (by decide) ?_
        refine t_ist X hT mb41767 gb41767 rfl (by omega) (show (-2147483648) ≤ ((-1) : Int32).toInt ∧ ((-1) : Int32).toInt ≤ 2147483647 from (by decide)) dX9_lookAtAll_35 (fun F H locs hT v41768 h1v41768 h2v41768 => ?_)
        have qz41750 := (h2v41768 _ _).trans qz41750
        have hv41760 := (h2v41768 _ _).trans hv41760
        have hv41763 := (h2v41768 _ _).trans hv41763
        have hv41766 := (h2v41768 _ _).trans hv41766
        have hfr : (∀ b j : Nat, (tag b ≠ 22 ∨ j ≠ 2) → fld F b j = fld Fo b j) ∧ EF tag F Fo := ⟨fun b j n22_2 => (h2v41768 b j).trans (hfr.1 b j n22_2), fun b j hb => (h1v41768 b j (Or.inl (ns_ne hb gb41767 (by decide)))).trans (hfr.2 b j hb)⟩
        obtain ⟨z41769, ez41769⟩ : ∃ y : Int32, y = z41749 + 1 := ⟨_, rfl⟩
        have hz41769 : z41769.toInt = z41749.toInt + 1 := ar_add ez41769 rfl (by decide : (1 : Int32).toInt = 1) (by omega) (by omega)
        refine lv_iinc (v := z41769) (lv' := [(3, .int z41769), (0, .ref p0), (1, .ref p1), (2, .int p2)]) hx hb dX9_lookAtAll_36 hl (k := 3) rfl (by rw [ez41769]; rfl) (by decide) rfl (fun ls hl => ?_)
        refine lv_goto (tgt := 7) hx hb dX9_lookAtAll_39 (by decide) ?_
        exact ih7 z41769 z41750 _ _ _ _ (by omega) (by omega) (by omega) hT hfr qz41750 (lv_sub hl [1, 2, 3, 0] rfl)
  refine lv_aload_n hx hb dX9_lookAtAll_0 rfl (lv_at hl 0 rfl) ?_
  refine lv_iconst (v := 0) hx hb dX9_lookAtAll_1 (by decide) ?_
  refine t_put (C := RX9) (T := TX9) (N := 6) (v := .int 0) X hT m0 g0 rfl tyX9 tyX9_ok nmX9 rfl 2 (by decide) qw_1337 inlX9 rfl (by first | rfl | decide) (by first | rfl | decide) rfl (⟨_, rfl, (show (-2147483648) ≤ (0 : Int32).toInt from (by decide)), (show (0 : Int32).toInt ≤ 2147483647 from (by decide))⟩) dX9_lookAtAll_2 (fun F H locs hT v41770 h1v41770 h2v41770 => ?_)
  have hfr : (∀ b j : Nat, (tag b ≠ 22 ∨ j ≠ 2) → fld F b j = fld Fo b j) ∧ EF tag F Fo := ⟨fun b j n22_2 => (h1v41770 b j (fr_ne g0 n22_2)).trans (hfr.1 b j n22_2), fun b j hb => (h2v41770 b j).trans (hfr.2 b j hb)⟩
  refine lv_iconst (v := 0) hx hb dX9_lookAtAll_5 (by decide) ?_
  refine lv_istore_n (lv' := [(3, .int 0), (0, .ref p0), (1, .ref p1), (2, .int p2)]) hx hb dX9_lookAtAll_6 rfl hl (by decide) rfl (fun ls hl => ?_)
  have kk41771 : (0 : Int32).toInt = 0 := by decide
  exact K7 7 0 0 _ _ _ _ (by omega) (by decide) (by decide) hT hfr v41770 (lv_sub hl [1, 2, 3, 0] rfl)
set_option maxHeartbeats 4000000 in
set_option maxRecDepth 100000 in
theorem kt119_X11_latest (l : Launch) (G : KG) (tag : Nat → Nat) (L : List Nat) (Fo : Nat → va_E) (ho : okT G ttC tag L Fo) (p0 : Nat) (p1 : Int32) (m0 : p0 ∈ L) (g0 : tag p0 = 26) : TMi l yX11_latest cX11_latest 2 (some .int) { frames := 4, cells := 0, slots := 0, locals := 86 } G ttC tag L Fo [.ref p0, .int p1] (fun r F1 => ((-2147483648) ≤ r.toInt ∧ r.toInt ≤ 2147483647) ∧ ((∀ b j : Nat, (tag b ≠ 22 ∨ j ≠ 2) → (tag b ≠ 26 ∨ j ≠ 13) → fld F1 b j = fld Fo b j) ∧ EF tag F1 Fo)) := by
  refine t_bodyi (y := yX11_latest) (cd := cX11_latest) (mL := 2) (rt := (some .int)) (rm := { frames := 4, cells := 0, slots := 0, locals := 86 }) (av := [.ref p0, .int p1]) (by decide) (Nat.le_of_ble_eq_true rfl) ho ?_
  intro p e s m args below meth c ls A Q hQ X hT hl
  have hx := X.1.1
  have hb := X.1.2.1
  have hl : lv_has ls 2 [(0, .ref p0), (1, .int p1)] := hl
  have rp1 := rg_all p1
  obtain ⟨F, hFo⟩ : ∃ F : Nat → va_E, F = Fo := ⟨_, rfl⟩
  rw [← hFo] at hT
  have hfr : (∀ b j : Nat, (tag b ≠ 22 ∨ j ≠ 2) → (tag b ≠ 26 ∨ j ≠ 13) → fld F b j = fld Fo b j) ∧ EF tag F Fo := by
    rw [hFo]
    exact ⟨by intros; rfl, fun _ _ _ => rfl⟩
  have K57 : ∀ (z42069 : Int32) (b42070 : Nat) (F : Nat → va_E) (H : Heap) (locs : List Loc) (ls : Array Slot), (b42070 ∈ L) → (tag b42070 = 26) → (0 ≤ p1.toInt ∧ p1.toInt ≤ 5) → TH G ttC A s tag L F H locs → ((∀ b j : Nat, (tag b ≠ 22 ∨ j ≠ 2) → (tag b ≠ 26 ∨ j ≠ 13) → fld F b j = fld Fo b j) ∧ EF tag F Fo) → lv_has ls 2 [(0, .ref p0), (1, .int p1)] → W p l e { frames := 4, cells := 0, slots := 0, locals := 86 } s m args below meth c H locs 0 0 Q (F0 m 57 ls [.int z42069, .ref b42070]) := by
    intro z42069 b42070 F H locs ls mb42070 gb42070 r9s42068 hT hfr hl
    have rz42069 := rg_all z42069
    refine t_cVi (n := 1) (C := RX11) (T := TX11) (N := 16) (As := [.int z42069]) (rest := []) X hT (kt56_X11_answer l G tag L F hT.2.2.2 b42070 z42069 mb42070 gb42070) mb42070 gb42070 rfl rfl qw_463 qw_464 qw_465 qw_2 qw_466 ⟨rfl, by decide +kernel, by decide +kernel, by decide +kernel⟩ ⟨Nat.le_of_ble_eq_true rfl, Nat.le_of_ble_eq_true rfl⟩ hl rfl rfl (Nat.le_of_ble_eq_true rfl) dX11_latest_57 ⟨Nat.le_of_ble_eq_true rfl, Nat.le_of_ble_eq_true rfl⟩ (fun z42071 F H locs hT hz42071 => ?_)
    obtain ⟨hz42071, yz42071⟩ := hz42071
    have hfr : (∀ b j : Nat, (tag b ≠ 22 ∨ j ≠ 2) → (tag b ≠ 26 ∨ j ≠ 13) → fld F b j = fld Fo b j) ∧ EF tag F Fo := ⟨fun b j n22_2 n26_13 => (yz42071.1 b j n26_13).trans (hfr.1 b j n22_2 n26_13), fun b j hb => (yz42071.2 b j hb).trans (hfr.2 b j hb)⟩
    exact t_iret hQ X hT (⟨rg_all _, hfr⟩) (Nat.le_of_ble_eq_true rfl) (Nat.le_of_ble_eq_true rfl) dX11_latest_60
  refine lv_aload_n hx hb dX11_latest_0 rfl (lv_at hl 0 rfl) ?_
  refine lv_iload_n hx hb dX11_latest_1 rfl (lv_at hl 1 rfl) ?_
  refine t_cVi (n := 1) (C := RX11) (T := TX11) (N := 16) (As := [.int p1]) (rest := []) X hT (kt92_X11_isWall l G tag L F hT.2.2.2 p0 p1 m0 g0) m0 g0 rfl rfl qw_1379 qw_1380 qw_1381 qw_2 qw_1382 ⟨rfl, by decide +kernel, by decide +kernel, by decide +kernel⟩ ⟨Nat.le_of_ble_eq_true rfl, Nat.le_of_ble_eq_true rfl⟩ hl rfl rfl (Nat.le_of_ble_eq_true rfl) dX11_latest_2 ⟨Nat.le_of_ble_eq_true rfl, Nat.le_of_ble_eq_true rfl⟩ (fun z42072 F9 H locs hT hz42072 => ?_)
  obtain ⟨fz42072, hz42072⟩ := hz42072
  rw [fz42072] at hT
  obtain ⟨hz42072, iz42072⟩ := hz42072
  refine lv_if_ne (tgt := 14) hx hb dX11_latest_5 (by decide) (fun c42073 => ?_) (fun c42073 => ?_)
  · have w42074 := cv_ne (rfl : z42072.toInt = z42072.toInt) (by decide : (0 : Int32).toInt = 0) c42073
    have w42075 := (fun h => (iz42072 h)) (by omega)
    refine lv_aload_n hx hb dX11_latest_14 rfl (lv_at hl 0 rfl) ?_
    refine t_get (C := RX11) (T := TX11) (N := 16) X hT m0 g0 rfl rfl 11 (by decide) qw_41 inlX11 rfl dX11_latest_15 (fun v42076 hv42076 ov42076 => ?_)
    obtain ⟨b42077, rfl, mb42077, gb42077⟩ := okV_r ov42076
    have gb42077 : tag b42077 = 22 := tg_of gb42077
    refine lv_aload_n hx hb dX11_latest_18 rfl (lv_at hl 0 rfl) ?_
    refine t_get (C := RX11) (T := TX11) (N := 16) X hT m0 g0 rfl rfl 3 (by decide) qw_18 inlX11 rfl dX11_latest_19 (fun v42078 hv42078 ov42078 => ?_)
    obtain ⟨b42079, rfl, mb42079, gb42079⟩ := okV_r ov42078
    have gb42079 : tag b42079 = 18 := tg_of gb42079
    refine lv_aload_n hx hb dX11_latest_22 rfl (lv_at hl 0 rfl) ?_
    refine t_get (C := RX11) (T := TX11) (N := 16) X hT m0 g0 rfl rfl 5 (by decide) qw_23 inlX11 rfl dX11_latest_23 (fun v42080 hv42080 ov42080 => ?_)
    obtain ⟨b42081, rfl, mb42081, gb42081⟩ := okV_r ov42080
    have gb42081 : tag b42081 = 19 := tg_of gb42081
    refine t_get (C := RX7) (T := TX7) (N := 7) X hT mb42081 gb42081 rfl rfl 0 (by decide) qw_1225 inlX7 rfl dX11_latest_26 (fun v42082 hv42082 ov42082 => ?_)
    obtain ⟨z42083, rfl, rz42083⟩ := okV_i ov42082
    refine t_cVv (n := 2) (C := RX9) (T := TX9) (N := 6) (As := [.ref b42079, .int z42083]) (rest := []) X hT (kt118_X9_lookAtAll l G tag L F hT.2.2.2 b42077 b42079 z42083 mb42077 gb42077 mb42079 gb42079) mb42077 gb42077 rfl rfl qw_1333 qw_1334 qw_1335 qw_40 qw_1336 ⟨rfl, by decide +kernel, by decide +kernel, by decide +kernel⟩ ⟨Nat.le_of_ble_eq_true rfl, Nat.le_of_ble_eq_true rfl⟩ hl rfl rfl (Nat.le_of_ble_eq_true rfl) dX11_latest_29 ⟨Nat.le_of_ble_eq_true rfl, Nat.le_of_ble_eq_true rfl⟩ (fun F H locs hT hz42084 => ?_)
    have yz42084 := hz42084
    have hv42076 := (yz42084.1 _ 11 (Or.inr (by decide))).trans hv42076
    have hv42078 := (yz42084.1 _ 3 (Or.inr (by decide))).trans hv42078
    have hv42080 := (yz42084.1 _ 5 (Or.inr (by decide))).trans hv42080
    have hv42082 := (yz42084.1 _ 0 (Or.inr (by decide))).trans hv42082
    have hfr : (∀ b j : Nat, (tag b ≠ 22 ∨ j ≠ 2) → (tag b ≠ 26 ∨ j ≠ 13) → fld F b j = fld Fo b j) ∧ EF tag F Fo := ⟨fun b j n22_2 n26_13 => (yz42084.1 b j n22_2).trans (hfr.1 b j n22_2 n26_13), fun b j hb => (yz42084.2 b j hb).trans (hfr.2 b j hb)⟩
    refine lv_aload_n hx hb dX11_latest_32 rfl (lv_at hl 0 rfl) ?_
    refine lv_aload_n hx hb dX11_latest_33 rfl (lv_at hl 0 rfl) ?_
    refine t_get (C := RX11) (T := TX11) (N := 16) X hT m0 g0 rfl rfl 11 (by decide) qw_41 inlX11 rfl dX11_latest_34 (fun v42085 hv42085 ov42085 => ?_)
    obtain rfl : v42085 = .ref b42077 := hv42085.symm.trans hv42076
    refine t_get (C := RX9) (T := TX9) (N := 6) X hT mb42077 gb42077 rfl rfl 2 (by decide) qw_1332 inlX9 rfl dX11_latest_37 (fun v42086 hv42086 ov42086 => ?_)
    obtain ⟨z42087, rfl, rz42087⟩ := okV_i ov42086
    refine lv_if_ne (tgt := 48) hx hb dX11_latest_40 (by decide) (fun c42088 => ?_) (fun c42088 => ?_)
    · have w42089 := cv_ne (rfl : z42087.toInt = z42087.toInt) (by decide : (0 : Int32).toInt = 0) c42088
      refine lv_aload_n hx hb dX11_latest_48 rfl (lv_at hl 0 rfl) ?_
      refine t_get (C := RX11) (T := TX11) (N := 16) X hT m0 g0 rfl rfl 11 (by decide) qw_41 inlX11 rfl dX11_latest_49 (fun v42090 hv42090 ov42090 => ?_)
      obtain rfl : v42090 = .ref b42077 := hv42090.symm.trans hv42076
      refine t_get (C := RX9) (T := TX9) (N := 6) X hT mb42077 gb42077 rfl rfl 4 (by decide) qw_1409 inlX9 rfl dX11_latest_52 (fun v42091 hv42091 ov42091 => ?_)
      obtain ⟨b42092, rfl, mb42092, gb42092⟩ := okV_r ov42091
      have gb42092 : tag b42092 = 7 := tg_of gb42092
      refine lv_iload_n hx hb dX11_latest_55 rfl (lv_at hl 1 rfl) ?_
      refine t_ild X hT mb42092 gb42092 rfl (by omega) dX11_latest_56 (fun z42093 vz42093 rz42093 => ?_)
      have rz42093 : (-2147483648) ≤ z42093.toInt ∧ z42093.toInt ≤ 2147483647 := rz42093
      exact K57 z42093 p0 _ _ _ _ m0 g0 (by omega) hT hfr  (lv_sub hl [0, 1] rfl)
    · have w42094 := cv_eq (rfl : z42087.toInt = z42087.toInt) (by decide : (0 : Int32).toInt = 0) c42088
      refine lv_bipush (v := (-2)) hx hb dX11_latest_43 (by decide) ?_
      refine lv_goto (tgt := 57) hx hb dX11_latest_45 (by decide) ?_
      exact K57 (-2) p0 _ _ _ _ m0 g0 (by omega) hT hfr  (lv_sub hl [0, 1] rfl)
  · have w42095 := cv_eq (rfl : z42072.toInt = z42072.toInt) (by decide : (0 : Int32).toInt = 0) c42073
    refine lv_aload_n hx hb dX11_latest_8 rfl (lv_at hl 0 rfl) ?_
    refine lv_iconst (v := 1) hx hb dX11_latest_9 (by decide) ?_
    refine t_cVi (n := 1) (C := RX11) (T := TX11) (N := 16) (As := [.int 1]) (rest := []) X hT (kt63_X11_refuse l G tag L F hT.2.2.2 p0 1 m0 g0) m0 g0 rfl rfl qw_152 qw_153 qw_154 qw_2 qw_155 ⟨rfl, by decide +kernel, by decide +kernel, by decide +kernel⟩ ⟨Nat.le_of_ble_eq_true rfl, Nat.le_of_ble_eq_true rfl⟩ hl rfl rfl (Nat.le_of_ble_eq_true rfl) dX11_latest_10 ⟨Nat.le_of_ble_eq_true rfl, Nat.le_of_ble_eq_true rfl⟩ (fun z42096 F H locs hT hz42096 => ?_)
    obtain ⟨hz42096, yz42096⟩ := hz42096
    have hfr : (∀ b j : Nat, (tag b ≠ 22 ∨ j ≠ 2) → (tag b ≠ 26 ∨ j ≠ 13) → fld F b j = fld Fo b j) ∧ EF tag F Fo := ⟨fun b j n22_2 n26_13 => (yz42096.1 b j n26_13).trans (hfr.1 b j n22_2 n26_13), fun b j hb => (yz42096.2 b j hb).trans (hfr.2 b j hb)⟩
    exact t_iret hQ X hT (⟨rg_all _, hfr⟩) (Nat.le_of_ble_eq_true rfl) (Nat.le_of_ble_eq_true rfl) dX11_latest_13
