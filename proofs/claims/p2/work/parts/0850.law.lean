/-! the law's loop: what holds between two calls -/
def LINV (tag : Nat → Nat) (L : List Nat) (F : Nat → va_E) (x0 m0 o0 : Nat) : Prop := x0 ∈ L ∧ tag x0 = 26 ∧ m0 ∈ L ∧ tag m0 = 46 ∧ o0 ∈ L ∧ tag o0 = 47 ∧ ∃ f1 f2 : Int32, fld F x0 1 = .int f1 ∧ fld F m0 6 = .int f2 ∧ f1.toInt = f2.toInt ∧ 0 ≤ f1.toInt ∧ f1.toInt ≤ 1000 ∧ ∃ rd rs rn : Nat, fld F x0 8 = .ref rd ∧ rd ∈ L ∧ tag rd = 25 ∧ fld F rd 10 = .ref rs ∧ fld F rd 11 = .ref rn ∧ rs ∈ L ∧ rn ∈ L ∧ tag rs = 14 ∧ tag rn = 15 ∧ NSR F rs rn
set_option maxHeartbeats 4000000 in
set_option maxRecDepth 100000 in
theorem law_c0 {p : Program} {e : Env} {s : State} {m : MethodId} {below : List Frame} {meth : Method} {c : Code} (l : Launch) (G : KG) (b : Nat) (xs : Nat → Int32) {L9 : Nat} (hL9 : L9 ≤ 3072) (X : CX p s m #[Value.ref b] meth c cL_law 7 RL ret G (fun q : Nat => s.heap.size ≤ q) lw_tbl) (hX : va_X b L9 xs s s.heap) (hbl : b < s.heap.size) {H : Heap} {locs : List Loc} {ls : Array Slot} {cells slots : Nat} (hc : cells ≤ 600000) (hs : slots ≤ 7290000) {tag : Nat → Nat} {L : List Nat} {F : Nat → va_E} (x0 m0 o0 : Nat) (i : Int32) (hi : 0 ≤ i.toInt ∧ i.toInt + 6 ≤ (L9 : Int)) (hT : TH G ttC (fun q : Nat => s.heap.size ≤ q) s tag L F H locs) (hI : LINV tag L F x0 m0 o0) (hl : lv_has ls 7 [(4, .int i), (3, .ref o0), (2, .ref m0), (1, .ref x0), (0, .ref b)]) (kk : ∀ (tag1 : Nat → Nat) (L1 : List Nat) (F1 : Nat → va_E) (H1 : Heap) (locs1 : List Loc) (ls1 : Array Slot) (c1 s1 : Nat), c1 ≤ cells + 17 → s1 ≤ slots + 541 → TH G ttC (fun q : Nat => s.heap.size ≤ q) s tag1 L1 F1 H1 locs1 → LINV tag1 L1 F1 x0 m0 o0 → lv_has ls1 7 [(4, .int i), (3, .ref o0), (2, .ref m0), (1, .ref x0), (0, .ref b)] → W p l e room_1 s m #[Value.ref b] below meth c H1 locs1 c1 s1 (lw_Z below #[Value.ref b] s) (F0 m 1828 ls1 [])) : W p l e room_1 s m #[Value.ref b] below meth c H locs cells slots (lw_Z below #[Value.ref b] s) (F0 m 252 ls []) := by
  have hx := X.1.1
  have hb := X.1.2.1
  have hbA : ¬ (fun q : Nat => s.heap.size ≤ q) b := Nat.not_le.mpr hbl
  have hL9i : (L9 : Int) ≤ 3072 := by omega
  obtain ⟨mx, gx, mm, gm, mo, go, f1, f2, hf1, hf2, hff, hf0, hf9, rd, rs, rn, hrd, mrd, grd, hrs, hrn, mrs, mrn, grs, grn, hns⟩ := hI
  refine lv_aload_n hx hb dL_law_252 rfl (lv_at hl 3 rfl) ?_
  refine lv_aload_n hx hb dL_law_253 rfl (lv_at hl 4 rfl) ?_
  refine lv_iload hx hb dL_law_254 (lv_at hl 0 rfl) ?_
  refine lv_iconst (v := 1) hx hb dL_law_256 (by decide) ?_
  refine lv_iadd hx hb dL_law_257 ?_
  refine lv_topi (fun z1 ez1 => ?_)
  have hz1 : z1.toInt = i.toInt + 1 := ar_add ez1 rfl (by decide : (1 : Int32).toInt = 1) (by omega) (by omega)
  refine va_sld hx hb hX hbl hbA hT.2.2.1 (vp_in_iff.mpr (by omega)) dL_law_258 ?_
  refine lv_topi (fun v2 ev2 => ?_)
  refine lv_aload_n hx hb dL_law_259 rfl (lv_at hl 4 rfl) ?_
  refine lv_iload hx hb dL_law_260 (lv_at hl 0 rfl) ?_
  refine lv_iconst (v := 2) hx hb dL_law_262 (by decide) ?_
  refine lv_iadd hx hb dL_law_263 ?_
  refine lv_topi (fun z3 ez3 => ?_)
  have hz3 : z3.toInt = i.toInt + 2 := ar_add ez3 rfl (by decide : (2 : Int32).toInt = 2) (by omega) (by omega)
  refine va_sld hx hb hX hbl hbA hT.2.2.1 (vp_in_iff.mpr (by omega)) dL_law_264 ?_
  refine lv_topi (fun v4 ev4 => ?_)
  refine lv_aload_n hx hb dL_law_265 rfl (lv_at hl 4 rfl) ?_
  refine lv_iload hx hb dL_law_266 (lv_at hl 0 rfl) ?_
  refine lv_iconst (v := 3) hx hb dL_law_268 (by decide) ?_
  refine lv_iadd hx hb dL_law_269 ?_
  refine lv_topi (fun z5 ez5 => ?_)
  have hz5 : z5.toInt = i.toInt + 3 := ar_add ez5 rfl (by decide : (3 : Int32).toInt = 3) (by omega) (by omega)
  refine va_sld hx hb hX hbl hbA hT.2.2.1 (vp_in_iff.mpr (by omega)) dL_law_270 ?_
  refine lv_topi (fun v6 ev6 => ?_)
  refine lv_aload_n hx hb dL_law_271 rfl (lv_at hl 4 rfl) ?_
  refine lv_iload hx hb dL_law_272 (lv_at hl 0 rfl) ?_
  refine lv_iconst (v := 4) hx hb dL_law_274 (by decide) ?_
  refine lv_iadd hx hb dL_law_275 ?_
  refine lv_topi (fun z7 ez7 => ?_)
  have hz7 : z7.toInt = i.toInt + 4 := ar_add ez7 rfl (by decide : (4 : Int32).toInt = 4) (by omega) (by omega)
  refine va_sld hx hb hX hbl hbA hT.2.2.1 (vp_in_iff.mpr (by omega)) dL_law_276 ?_
  refine lv_topi (fun v8 ev8 => ?_)
  refine lv_aload_n hx hb dL_law_277 rfl (lv_at hl 4 rfl) ?_
  refine lv_iload hx hb dL_law_278 (lv_at hl 0 rfl) ?_
  refine lv_iconst (v := 5) hx hb dL_law_280 (by decide) ?_
  refine lv_iadd hx hb dL_law_281 ?_
  refine lv_topi (fun z9 ez9 => ?_)
  have hz9 : z9.toInt = i.toInt + 5 := ar_add ez9 rfl (by decide : (5 : Int32).toInt = 5) (by omega) (by omega)
  refine va_sld hx hb hX hbl hbA hT.2.2.1 (vp_in_iff.mpr (by omega)) dL_law_282 ?_
  refine lv_topi (fun v10 ev10 => ?_)
  refine t_cVi (n := 5) (C := RX11) (T := TX11) (N := 16) (As := [.int v2, .int v4, .int v6, .int v8, .int v10]) (rest := []) X hT (km484_X11_feed l G tag L F hT.2.2.2 x0 v2 v4 v6 v8 v10 f1 mx gx ⟨hf0, hf9⟩ hf1) mx gx rfl rfl qw_127 qw_128 qw_129 qw_2 qw_130 ⟨rfl, by decide +kernel, by decide +kernel, by decide +kernel⟩ ⟨(Nat.le_of_ble_eq_true rfl), (Nat.le_of_ble_eq_true rfl)⟩ hl rfl rfl (Nat.le_of_ble_eq_true rfl) dL_law_283 ⟨show cells + 0 ≤ 601024 from by omega, show slots + 0 ≤ 7293034 from by omega⟩ (fun r11 F H locs hT hr11 => ?_)
  refine W.widen (k := cells) (n := slots) (Nat.le_refl _) (Nat.le_refl _) ?_
  obtain ⟨hgr11, yr11, zr11, hzr11, hc1r11, hc2r11⟩ := hr11
  have hf2 := (yr11.1 _ 6 (Or.inr (by decide))).trans hf2
  have hrd := (yr11.1 _ 8 (Or.inr (by decide))).trans hrd
  have hrs := (yr11.1 _ 10 (Or.inr (by decide))).trans hrs
  have hrn := (yr11.1 _ 11 (Or.inr (by decide))).trans hrn
  have hns := nsr_of (fun j => yr11.2 _ j (by rw [grs]; decide)) (fun j => yr11.2 _ j (by rw [grn]; decide)) hns
  have hf1 := hzr11
  refine lv_aload_n hx hb dL_law_286 rfl (lv_at hl 2 rfl) ?_
  refine lv_aload_n hx hb dL_law_287 rfl (lv_at hl 4 rfl) ?_
  refine lv_iload hx hb dL_law_288 (lv_at hl 0 rfl) ?_
  refine lv_iconst (v := 1) hx hb dL_law_290 (by decide) ?_
  refine lv_iadd hx hb dL_law_291 ?_
  refine lv_topi (fun z12 ez12 => ?_)
  have hz12 : z12.toInt = i.toInt + 1 := ar_add ez12 rfl (by decide : (1 : Int32).toInt = 1) (by omega) (by omega)
  refine va_sld hx hb hX hbl hbA hT.2.2.1 (vp_in_iff.mpr (by omega)) dL_law_292 ?_
  refine lv_topi (fun v13 ev13 => ?_)
  refine lv_aload_n hx hb dL_law_293 rfl (lv_at hl 4 rfl) ?_
  refine lv_iload hx hb dL_law_294 (lv_at hl 0 rfl) ?_
  refine lv_iconst (v := 2) hx hb dL_law_296 (by decide) ?_
  refine lv_iadd hx hb dL_law_297 ?_
  refine lv_topi (fun z14 ez14 => ?_)
  have hz14 : z14.toInt = i.toInt + 2 := ar_add ez14 rfl (by decide : (2 : Int32).toInt = 2) (by omega) (by omega)
  refine va_sld hx hb hX hbl hbA hT.2.2.1 (vp_in_iff.mpr (by omega)) dL_law_298 ?_
  refine lv_topi (fun v15 ev15 => ?_)
  refine lv_aload_n hx hb dL_law_299 rfl (lv_at hl 4 rfl) ?_
  refine lv_iload hx hb dL_law_300 (lv_at hl 0 rfl) ?_
  refine lv_iconst (v := 3) hx hb dL_law_302 (by decide) ?_
  refine lv_iadd hx hb dL_law_303 ?_
  refine lv_topi (fun z16 ez16 => ?_)
  have hz16 : z16.toInt = i.toInt + 3 := ar_add ez16 rfl (by decide : (3 : Int32).toInt = 3) (by omega) (by omega)
  refine va_sld hx hb hX hbl hbA hT.2.2.1 (vp_in_iff.mpr (by omega)) dL_law_304 ?_
  refine lv_topi (fun v17 ev17 => ?_)
  refine lv_aload_n hx hb dL_law_305 rfl (lv_at hl 4 rfl) ?_
  refine lv_iload hx hb dL_law_306 (lv_at hl 0 rfl) ?_
  refine lv_iconst (v := 4) hx hb dL_law_308 (by decide) ?_
  refine lv_iadd hx hb dL_law_309 ?_
  refine lv_topi (fun z18 ez18 => ?_)
  have hz18 : z18.toInt = i.toInt + 4 := ar_add ez18 rfl (by decide : (4 : Int32).toInt = 4) (by omega) (by omega)
  refine va_sld hx hb hX hbl hbA hT.2.2.1 (vp_in_iff.mpr (by omega)) dL_law_310 ?_
  refine lv_topi (fun v19 ev19 => ?_)
  refine lv_aload_n hx hb dL_law_311 rfl (lv_at hl 4 rfl) ?_
  refine lv_iload hx hb dL_law_312 (lv_at hl 0 rfl) ?_
  refine lv_iconst (v := 5) hx hb dL_law_314 (by decide) ?_
  refine lv_iadd hx hb dL_law_315 ?_
  refine lv_topi (fun z20 ez20 => ?_)
  have hz20 : z20.toInt = i.toInt + 5 := ar_add ez20 rfl (by decide : (5 : Int32).toInt = 5) (by omega) (by omega)
  refine va_sld hx hb hX hbl hbA hT.2.2.1 (vp_in_iff.mpr (by omega)) dL_law_316 ?_
  refine lv_topi (fun v21 ev21 => ?_)
  refine t_cVi (n := 5) (C := RX13) (T := TX13) (N := 37) (As := [.int v13, .int v15, .int v17, .int v19, .int v21]) (rest := [.int r11]) X hT (km83_X13_feed l G tag L F hT.2.2.2 m0 v13 v15 v17 v19 v21 f2 mm gm (by omega) hf2) mm gm rfl rfl qw_136 qw_137 qw_138 qw_5 qw_139 ⟨rfl, by decide +kernel, by decide +kernel, by decide +kernel⟩ ⟨(Nat.le_of_ble_eq_true rfl), (Nat.le_of_ble_eq_true rfl)⟩ hl rfl rfl (Nat.le_of_ble_eq_true rfl) dL_law_317 ⟨show cells + 0 ≤ 601024 from by omega, show slots + 0 ≤ 7293034 from by omega⟩ (fun r22 F H locs hT hr22 => ?_)
  refine W.widen (k := cells) (n := slots) (Nat.le_refl _) (Nat.le_refl _) ?_
  obtain ⟨hgr22, yr22, zr22, hzr22, hc1r22, hc2r22⟩ := hr22
  have hf1 := (yr22.1 _ 1 (Or.inr (by decide)) (Or.inr (by decide))).trans hf1
  have hrd := (yr22.1 _ 8 (Or.inr (by decide)) (Or.inr (by decide))).trans hrd
  have hrs := (yr22.1 _ 10 (Or.inr (by decide)) (Or.inr (by decide))).trans hrs
  have hrn := (yr22.1 _ 11 (Or.inr (by decide)) (Or.inr (by decide))).trans hrn
  have hns := nsr_of (fun j => yr22.2 _ j (by rw [grs]; decide)) (fun j => yr22.2 _ j (by rw [grn]; decide)) hns
  refine lv_icmp_eq (tgt := 1828) hx hb dL_law_320 (by decide) (fun _ => ?_) (fun c9 => absurd (Int32.toInt_inj.mp (by omega)) c9)
  exact kk tag L F H locs _ cells slots (by omega) (by omega) hT ⟨mx, gx, mm, gm, mo, go, zr11, zr22, hf1, hzr22, (by omega), (by omega), (by omega), rd, rs, rn, hrd, mrd, grd, hrs, hrn, mrs, mrn, grs, grn, hns⟩ (lv_sub hl [0, 1, 2, 3, 4] rfl)
set_option maxHeartbeats 4000000 in
set_option maxRecDepth 100000 in
theorem law_c1 {p : Program} {e : Env} {s : State} {m : MethodId} {below : List Frame} {meth : Method} {c : Code} (l : Launch) (G : KG) (b : Nat) (xs : Nat → Int32) {L9 : Nat} (hL9 : L9 ≤ 3072) (X : CX p s m #[Value.ref b] meth c cL_law 7 RL ret G (fun q : Nat => s.heap.size ≤ q) lw_tbl) (hX : va_X b L9 xs s s.heap) (hbl : b < s.heap.size) {H : Heap} {locs : List Loc} {ls : Array Slot} {cells slots : Nat} (hc : cells ≤ 600000) (hs : slots ≤ 7290000) {tag : Nat → Nat} {L : List Nat} {F : Nat → va_E} (x0 m0 o0 : Nat) (i : Int32) (hi : 0 ≤ i.toInt ∧ i.toInt + 6 ≤ (L9 : Int)) (hT : TH G ttC (fun q : Nat => s.heap.size ≤ q) s tag L F H locs) (hI : LINV tag L F x0 m0 o0) (hl : lv_has ls 7 [(4, .int i), (3, .ref o0), (2, .ref m0), (1, .ref x0), (0, .ref b)]) (kk : ∀ (tag1 : Nat → Nat) (L1 : List Nat) (F1 : Nat → va_E) (H1 : Heap) (locs1 : List Loc) (ls1 : Array Slot) (c1 s1 : Nat), c1 ≤ cells + 17 → s1 ≤ slots + 541 → TH G ttC (fun q : Nat => s.heap.size ≤ q) s tag1 L1 F1 H1 locs1 → LINV tag1 L1 F1 x0 m0 o0 → lv_has ls1 7 [(4, .int i), (3, .ref o0), (2, .ref m0), (1, .ref x0), (0, .ref b)] → W p l e room_1 s m #[Value.ref b] below meth c H1 locs1 c1 s1 (lw_Z below #[Value.ref b] s) (F0 m 1828 ls1 [])) : W p l e room_1 s m #[Value.ref b] below meth c H locs cells slots (lw_Z below #[Value.ref b] s) (F0 m 325 ls []) := by
  have hx := X.1.1
  have hb := X.1.2.1
  have hbA : ¬ (fun q : Nat => s.heap.size ≤ q) b := Nat.not_le.mpr hbl
  have hL9i : (L9 : Int) ≤ 3072 := by omega
  obtain ⟨mx, gx, mm, gm, mo, go, f1, f2, hf1, hf2, hff, hf0, hf9, rd, rs, rn, hrd, mrd, grd, hrs, hrn, mrs, mrn, grs, grn, hns⟩ := hI
  refine lv_aload_n hx hb dL_law_325 rfl (lv_at hl 3 rfl) ?_
  refine lv_aload_n hx hb dL_law_326 rfl (lv_at hl 4 rfl) ?_
  refine lv_iload hx hb dL_law_327 (lv_at hl 0 rfl) ?_
  refine lv_iconst (v := 1) hx hb dL_law_329 (by decide) ?_
  refine lv_iadd hx hb dL_law_330 ?_
  refine lv_topi (fun z1 ez1 => ?_)
  have hz1 : z1.toInt = i.toInt + 1 := ar_add ez1 rfl (by decide : (1 : Int32).toInt = 1) (by omega) (by omega)
  refine va_sld hx hb hX hbl hbA hT.2.2.1 (vp_in_iff.mpr (by omega)) dL_law_331 ?_
  refine lv_topi (fun v2 ev2 => ?_)
  refine t_cVi (n := 1) (C := RX11) (T := TX11) (N := 16) (As := [.int v2]) (rest := []) X hT (kt482_X11_land l G tag L F hT.2.2.2 x0 v2 rd rs rn f1 mx gx mrd (grd) hrd mrs grs hrs mrn grn hrn ⟨hf0, hf9⟩ hf1 hns) mx gx rfl rfl qw_142 qw_143 qw_144 qw_2 qw_145 ⟨rfl, by decide +kernel, by decide +kernel, by decide +kernel⟩ ⟨(Nat.le_of_ble_eq_true rfl), (Nat.le_of_ble_eq_true rfl)⟩ hl rfl rfl (Nat.le_of_ble_eq_true rfl) dL_law_332 ⟨show cells + 0 ≤ 601024 from by omega, show slots + 0 ≤ 7293034 from by omega⟩ (fun r3 F H locs hT hr3 => ?_)
  refine W.widen (k := cells) (n := slots) (Nat.le_refl _) (Nat.le_refl _) ?_
  obtain ⟨hgr3, yr3, hns, zr3, hzr3, hc1r3, hc2r3⟩ := hr3
  have hf2 := (yr3 _ 6 (Or.inr (by decide)) (Or.inr (by decide)) (Or.inr (by decide)) (Or.inr (by decide)) (Or.inr (by decide)) (Or.inr (by decide)) (Or.inl (by rw [gm]; decide)) (Or.inr (by decide)) (Or.inr (by decide)) (Or.inr (by decide)) (Or.inr (by decide)) (Or.inr (by decide)) (Or.inr (by decide)) (Or.inr (by decide)) (Or.inr (by decide)) (Or.inr (by decide)) (Or.inr (by decide)) (Or.inr (by decide)) (Or.inr (by decide)) (Or.inr (by decide)) (Or.inr (by decide)) (Or.inl (by rw [gm]; decide)) (Or.inr (by decide)) (Or.inr (by decide)) (Or.inr (by decide)) (Or.inr (by decide)) (Or.inr (by decide)) (Or.inr (by decide)) (Or.inl (by rw [gm]; decide)) (Or.inr (by decide)) (Or.inr (by decide)) (Or.inr (by decide)) (Or.inr (by decide)) (Or.inr (by decide)) (Or.inr (by decide)) (Or.inr (by decide)) (Or.inr (by decide)) (Or.inr (by decide)) (Or.inr (by decide))).trans hf2
  have hrd := (yr3 _ 8 (Or.inr (by decide)) (Or.inr (by decide)) (Or.inr (by decide)) (Or.inr (by decide)) (Or.inr (by decide)) (Or.inr (by decide)) (Or.inr (by decide)) (Or.inl (by rw [gx]; decide)) (Or.inr (by decide)) (Or.inr (by decide)) (Or.inr (by decide)) (Or.inr (by decide)) (Or.inr (by decide)) (Or.inr (by decide)) (Or.inr (by decide)) (Or.inr (by decide)) (Or.inr (by decide)) (Or.inr (by decide)) (Or.inr (by decide)) (Or.inr (by decide)) (Or.inr (by decide)) (Or.inr (by decide)) (Or.inr (by decide)) (Or.inr (by decide)) (Or.inr (by decide)) (Or.inr (by decide)) (Or.inr (by decide)) (Or.inr (by decide)) (Or.inr (by decide)) (Or.inr (by decide)) (Or.inl (by rw [gx]; decide)) (Or.inr (by decide)) (Or.inr (by decide)) (Or.inr (by decide)) (Or.inr (by decide)) (Or.inr (by decide)) (Or.inr (by decide)) (Or.inr (by decide)) (Or.inr (by decide))).trans hrd
  have hrs := (yr3 _ 10 (Or.inr (by decide)) (Or.inr (by decide)) (Or.inr (by decide)) (Or.inr (by decide)) (Or.inr (by decide)) (Or.inr (by decide)) (Or.inr (by decide)) (Or.inr (by decide)) (Or.inl (by rw [grd]; decide)) (Or.inr (by decide)) (Or.inr (by decide)) (Or.inr (by decide)) (Or.inr (by decide)) (Or.inr (by decide)) (Or.inr (by decide)) (Or.inr (by decide)) (Or.inr (by decide)) (Or.inr (by decide)) (Or.inr (by decide)) (Or.inr (by decide)) (Or.inr (by decide)) (Or.inr (by decide)) (Or.inr (by decide)) (Or.inr (by decide)) (Or.inr (by decide)) (Or.inr (by decide)) (Or.inr (by decide)) (Or.inr (by decide)) (Or.inr (by decide)) (Or.inr (by decide)) (Or.inr (by decide)) (Or.inr (by decide)) (Or.inr (by decide)) (Or.inr (by decide)) (Or.inr (by decide)) (Or.inr (by decide)) (Or.inr (by decide)) (Or.inr (by decide)) (Or.inr (by decide))).trans hrs
  have hrn := (yr3 _ 11 (Or.inr (by decide)) (Or.inr (by decide)) (Or.inr (by decide)) (Or.inr (by decide)) (Or.inr (by decide)) (Or.inr (by decide)) (Or.inr (by decide)) (Or.inr (by decide)) (Or.inr (by decide)) (Or.inr (by decide)) (Or.inr (by decide)) (Or.inr (by decide)) (Or.inr (by decide)) (Or.inr (by decide)) (Or.inr (by decide)) (Or.inr (by decide)) (Or.inr (by decide)) (Or.inr (by decide)) (Or.inr (by decide)) (Or.inr (by decide)) (Or.inr (by decide)) (Or.inr (by decide)) (Or.inr (by decide)) (Or.inr (by decide)) (Or.inr (by decide)) (Or.inr (by decide)) (Or.inr (by decide)) (Or.inr (by decide)) (Or.inr (by decide)) (Or.inr (by decide)) (Or.inr (by decide)) (Or.inr (by decide)) (Or.inr (by decide)) (Or.inr (by decide)) (Or.inr (by decide)) (Or.inr (by decide)) (Or.inr (by decide)) (Or.inr (by decide)) (Or.inr (by decide))).trans hrn
  have hf1 := hzr3
  refine lv_pop hx hb dL_law_335 rfl ?_
  refine lv_aload_n hx hb dL_law_336 rfl (lv_at hl 2 rfl) ?_
  refine lv_aload_n hx hb dL_law_337 rfl (lv_at hl 4 rfl) ?_
  refine lv_iload hx hb dL_law_338 (lv_at hl 0 rfl) ?_
  refine lv_iconst (v := 1) hx hb dL_law_340 (by decide) ?_
  refine lv_iadd hx hb dL_law_341 ?_
  refine lv_topi (fun z4 ez4 => ?_)
  have hz4 : z4.toInt = i.toInt + 1 := ar_add ez4 rfl (by decide : (1 : Int32).toInt = 1) (by omega) (by omega)
  refine va_sld hx hb hX hbl hbA hT.2.2.1 (vp_in_iff.mpr (by omega)) dL_law_342 ?_
  refine lv_topi (fun v5 ev5 => ?_)
  have ev5v2 : v5 = v2 := by rw [ev5, ev2, ez4, ez1]
  have tv5 : v5.toInt = v2.toInt := by rw [ev5v2]
  refine t_cbV (n := 1) (C := RX13) (T := TX13) (N := 37) (As := [.int v5]) (rest := []) X hT (kb_X13_land l G tag L F hT.2.2.2 m0 v5 f2 mm gm (by omega) hf2) mm gm rfl rfl qw_467 qw_468 qw_469 qw_5 qw_470 ⟨rfl, by decide +kernel, by decide +kernel, by decide +kernel⟩ ⟨(Nat.le_of_ble_eq_true rfl), (Nat.le_of_ble_eq_true rfl)⟩ hl rfl rfl (Nat.le_of_ble_eq_true rfl) dL_law_343 ⟨show cells + 17 ≤ 601024 from by omega, show slots + 535 ≤ 7293034 from by omega⟩ (fun r6 u9 H locs hT hr6 => ?_)
  obtain ⟨tag, L, F⟩ := u9
  have hT : TH G ttC (fun q : Nat => s.heap.size ≤ q) s tag L F H locs := hT
  obtain ⟨hext, hfa, zr6, hzr6, hc1r6, hc2r6⟩ := hr6
  have hext : ∀ b ∈ _, b ∈ L ∧ tag b = _ := hext
  have hf1 : fld F x0 1 = .int zr3 := (hfa.1 _ 1 mx (Or.inr (by decide)) (Or.inl (by rw [gx]; decide)) (Or.inr (by decide)) (Or.inr (by decide)) (Or.inr (by decide)) (Or.inr (by decide)) (Or.inr (by decide)) (Or.inr (by decide)) (Or.inr (by decide)) (Or.inr (by decide)) (Or.inr (by decide)) (Or.inr (by decide)) (Or.inr (by decide)) (Or.inr (by decide)) (Or.inr (by decide)) (Or.inr (by decide)) (Or.inl (by rw [gx]; decide)) (Or.inr (by decide)) (Or.inr (by decide)) (Or.inr (by decide)) (Or.inr (by decide)) (Or.inr (by decide)) (Or.inr (by decide)) (Or.inr (by decide)) (Or.inr (by decide)) (Or.inr (by decide)) (Or.inr (by decide)) (Or.inr (by decide)) (Or.inr (by decide)) (Or.inr (by decide)) (Or.inr (by decide)) (Or.inr (by decide))).trans hf1
  have hrd : fld F x0 8 = .ref rd := (hfa.1 _ 8 mx (Or.inr (by decide)) (Or.inr (by decide)) (Or.inr (by decide)) (Or.inr (by decide)) (Or.inr (by decide)) (Or.inr (by decide)) (Or.inr (by decide)) (Or.inr (by decide)) (Or.inl (by rw [gx]; decide)) (Or.inr (by decide)) (Or.inr (by decide)) (Or.inr (by decide)) (Or.inr (by decide)) (Or.inr (by decide)) (Or.inr (by decide)) (Or.inr (by decide)) (Or.inr (by decide)) (Or.inr (by decide)) (Or.inr (by decide)) (Or.inr (by decide)) (Or.inr (by decide)) (Or.inr (by decide)) (Or.inl (by rw [gx]; decide)) (Or.inr (by decide)) (Or.inr (by decide)) (Or.inr (by decide)) (Or.inr (by decide)) (Or.inr (by decide)) (Or.inr (by decide)) (Or.inr (by decide)) (Or.inr (by decide)) (Or.inr (by decide))).trans hrd
  have hrs : fld F rd 10 = .ref rs := (hfa.1 _ 10 mrd (Or.inr (by decide)) (Or.inr (by decide)) (Or.inr (by decide)) (Or.inr (by decide)) (Or.inr (by decide)) (Or.inr (by decide)) (Or.inr (by decide)) (Or.inr (by decide)) (Or.inr (by decide)) (Or.inr (by decide)) (Or.inl (by rw [grd]; decide)) (Or.inr (by decide)) (Or.inr (by decide)) (Or.inr (by decide)) (Or.inr (by decide)) (Or.inr (by decide)) (Or.inr (by decide)) (Or.inr (by decide)) (Or.inr (by decide)) (Or.inr (by decide)) (Or.inr (by decide)) (Or.inr (by decide)) (Or.inr (by decide)) (Or.inr (by decide)) (Or.inl (by rw [grd]; decide)) (Or.inr (by decide)) (Or.inr (by decide)) (Or.inr (by decide)) (Or.inr (by decide)) (Or.inr (by decide)) (Or.inr (by decide)) (Or.inr (by decide))).trans hrs
  have hrn : fld F rd 11 = .ref rn := (hfa.1 _ 11 mrd (Or.inr (by decide)) (Or.inr (by decide)) (Or.inr (by decide)) (Or.inr (by decide)) (Or.inr (by decide)) (Or.inr (by decide)) (Or.inr (by decide)) (Or.inr (by decide)) (Or.inr (by decide)) (Or.inr (by decide)) (Or.inr (by decide)) (Or.inl (by rw [grd]; decide)) (Or.inr (by decide)) (Or.inr (by decide)) (Or.inr (by decide)) (Or.inr (by decide)) (Or.inr (by decide)) (Or.inr (by decide)) (Or.inr (by decide)) (Or.inr (by decide)) (Or.inr (by decide)) (Or.inr (by decide)) (Or.inr (by decide)) (Or.inr (by decide)) (Or.inr (by decide)) (Or.inl (by rw [grd]; decide)) (Or.inr (by decide)) (Or.inr (by decide)) (Or.inr (by decide)) (Or.inr (by decide)) (Or.inr (by decide)) (Or.inr (by decide))).trans hrn
  have hns : NSR F rs rn := nsr_of (fun j => hfa.2 _ j mrs (by rw [grs]; decide) (by rw [grs]; decide) (by rw [grs]; decide) (by rw [grs]; decide) (by rw [grs]; decide) (by rw [grs]; decide) (by rw [grs]; decide) (by rw [grs]; decide) (by rw [grs]; decide) (by rw [grs]; decide)) (fun j => hfa.2 _ j mrn (by rw [grn]; decide) (by rw [grn]; decide) (by rw [grn]; decide) (by rw [grn]; decide) (by rw [grn]; decide) (by rw [grn]; decide) (by rw [grn]; decide) (by rw [grn]; decide) (by rw [grn]; decide) (by rw [grn]; decide)) hns
  have hzr6 : fld F m0 6 = .int zr6 := hzr6
  have gx : tag x0 = 26 := (hext _ mx).2.trans gx
  have mx : x0 ∈ L := (hext _ mx).1
  have gm : tag m0 = 46 := (hext _ mm).2.trans gm
  have mm : m0 ∈ L := (hext _ mm).1
  have go : tag o0 = 47 := (hext _ mo).2.trans go
  have mo : o0 ∈ L := (hext _ mo).1
  have grd : tag rd = 25 := (hext _ mrd).2.trans grd
  have mrd : rd ∈ L := (hext _ mrd).1
  have grs : tag rs = 14 := (hext _ mrs).2.trans grs
  have mrs : rs ∈ L := (hext _ mrs).1
  have grn : tag rn = 15 := (hext _ mrn).2.trans grn
  have mrn : rn ∈ L := (hext _ mrn).1
  refine W.widen (k := cells + 17) (n := slots + 535) (Nat.le_refl _) (Nat.le_refl _) ?_
  refine lv_pop hx hb dL_law_346 rfl ?_
  refine lv_goto (tgt := 1828) hx hb dL_law_347 (by decide) ?_
  exact kk tag L F H locs _ (cells + 17) (slots + 535) (by omega) (by omega) hT ⟨mx, gx, mm, gm, mo, go, zr3, zr6, hf1, hzr6, (by omega), (by omega), (by omega), rd, rs, rn, hrd, mrd, grd, hrs, hrn, mrs, mrn, grs, grn, hns⟩ (lv_sub hl [0, 1, 2, 3, 4] rfl)
set_option maxHeartbeats 4000000 in
set_option maxRecDepth 100000 in
theorem law_c2 {p : Program} {e : Env} {s : State} {m : MethodId} {below : List Frame} {meth : Method} {c : Code} (l : Launch) (G : KG) (b : Nat) (xs : Nat → Int32) {L9 : Nat} (hL9 : L9 ≤ 3072) (X : CX p s m #[Value.ref b] meth c cL_law 7 RL ret G (fun q : Nat => s.heap.size ≤ q) lw_tbl) (hX : va_X b L9 xs s s.heap) (hbl : b < s.heap.size) {H : Heap} {locs : List Loc} {ls : Array Slot} {cells slots : Nat} (hc : cells ≤ 600000) (hs : slots ≤ 7290000) {tag : Nat → Nat} {L : List Nat} {F : Nat → va_E} (x0 m0 o0 : Nat) (i : Int32) (hi : 0 ≤ i.toInt ∧ i.toInt + 6 ≤ (L9 : Int)) (hT : TH G ttC (fun q : Nat => s.heap.size ≤ q) s tag L F H locs) (hI : LINV tag L F x0 m0 o0) (hl : lv_has ls 7 [(4, .int i), (3, .ref o0), (2, .ref m0), (1, .ref x0), (0, .ref b)]) (kk : ∀ (tag1 : Nat → Nat) (L1 : List Nat) (F1 : Nat → va_E) (H1 : Heap) (locs1 : List Loc) (ls1 : Array Slot) (c1 s1 : Nat), c1 ≤ cells + 17 → s1 ≤ slots + 541 → TH G ttC (fun q : Nat => s.heap.size ≤ q) s tag1 L1 F1 H1 locs1 → LINV tag1 L1 F1 x0 m0 o0 → lv_has ls1 7 [(4, .int i), (3, .ref o0), (2, .ref m0), (1, .ref x0), (0, .ref b)] → W p l e room_1 s m #[Value.ref b] below meth c H1 locs1 c1 s1 (lw_Z below #[Value.ref b] s) (F0 m 1828 ls1 [])) : W p l e room_1 s m #[Value.ref b] below meth c H locs cells slots (lw_Z below #[Value.ref b] s) (F0 m 350 ls []) := by
  have hx := X.1.1
  have hb := X.1.2.1
  have hbA : ¬ (fun q : Nat => s.heap.size ≤ q) b := Nat.not_le.mpr hbl
  have hL9i : (L9 : Int) ≤ 3072 := by omega
  obtain ⟨mx, gx, mm, gm, mo, go, f1, f2, hf1, hf2, hff, hf0, hf9, rd, rs, rn, hrd, mrd, grd, hrs, hrn, mrs, mrn, grs, grn, hns⟩ := hI
  refine lv_aload_n hx hb dL_law_350 rfl (lv_at hl 3 rfl) ?_
  refine t_cVi (n := 0) (C := RX11) (T := TX11) (N := 16) (As := []) (rest := []) X hT (kt367_X11_fault l G tag L F hT.2.2.2 x0 mx gx) mx gx rfl rfl qw_691 qw_692 qw_693 qw_2 qw_694 ⟨rfl, by decide +kernel, by decide +kernel, by decide +kernel⟩ ⟨(Nat.le_of_ble_eq_true rfl), (Nat.le_of_ble_eq_true rfl)⟩ hl rfl rfl (Nat.le_of_ble_eq_true rfl) dL_law_351 ⟨show cells + 0 ≤ 601024 from by omega, show slots + 0 ≤ 7293034 from by omega⟩ (fun r1 F9 H locs hT hr1 => ?_)
  refine W.widen (k := cells) (n := slots) (Nat.le_refl _) (Nat.le_refl _) ?_
  rw [hr1.1] at hT
  refine lv_pop hx hb dL_law_354 rfl ?_
  refine lv_aload_n hx hb dL_law_355 rfl (lv_at hl 2 rfl) ?_
  refine t_cVi (n := 0) (C := RX13) (T := TX13) (N := 37) (As := []) (rest := []) X hT (km84_X13_fault l G tag L F hT.2.2.2 m0 mm gm) mm gm rfl rfl qw_695 qw_696 qw_697 qw_5 qw_698 ⟨rfl, by decide +kernel, by decide +kernel, by decide +kernel⟩ ⟨(Nat.le_of_ble_eq_true rfl), (Nat.le_of_ble_eq_true rfl)⟩ hl rfl rfl (Nat.le_of_ble_eq_true rfl) dL_law_356 ⟨show cells + 0 ≤ 601024 from by omega, show slots + 0 ≤ 7293034 from by omega⟩ (fun r2 F H locs hT hr2 => ?_)
  refine W.widen (k := cells) (n := slots) (Nat.le_refl _) (Nat.le_refl _) ?_
  obtain ⟨hgr2, yr2⟩ := hr2
  have hf1 := (yr2.1 _ 1 (Or.inr (by decide))).trans hf1
  have hf2 := (yr2.1 _ 6 (Or.inr (by decide))).trans hf2
  have hrd := (yr2.1 _ 8 (Or.inr (by decide))).trans hrd
  have hrs := (yr2.1 _ 10 (Or.inr (by decide))).trans hrs
  have hrn := (yr2.1 _ 11 (Or.inr (by decide))).trans hrn
  have hns := nsr_of (fun j => yr2.2 _ j ) (fun j => yr2.2 _ j ) hns
  refine lv_pop hx hb dL_law_359 rfl ?_
  refine lv_goto (tgt := 1828) hx hb dL_law_360 (by decide) ?_
  exact kk tag L F H locs _ cells slots (by omega) (by omega) hT ⟨mx, gx, mm, gm, mo, go, f1, f2, hf1, hf2, hff, hf0, hf9, rd, rs, rn, hrd, mrd, grd, hrs, hrn, mrs, mrn, grs, grn, hns⟩ (lv_sub hl [0, 1, 2, 3, 4] rfl)
set_option maxHeartbeats 4000000 in
set_option maxRecDepth 100000 in
theorem law_c3 {p : Program} {e : Env} {s : State} {m : MethodId} {below : List Frame} {meth : Method} {c : Code} (l : Launch) (G : KG) (b : Nat) (xs : Nat → Int32) {L9 : Nat} (hL9 : L9 ≤ 3072) (X : CX p s m #[Value.ref b] meth c cL_law 7 RL ret G (fun q : Nat => s.heap.size ≤ q) lw_tbl) (hX : va_X b L9 xs s s.heap) (hbl : b < s.heap.size) {H : Heap} {locs : List Loc} {ls : Array Slot} {cells slots : Nat} (hc : cells ≤ 600000) (hs : slots ≤ 7290000) {tag : Nat → Nat} {L : List Nat} {F : Nat → va_E} (x0 m0 o0 : Nat) (i : Int32) (hi : 0 ≤ i.toInt ∧ i.toInt + 6 ≤ (L9 : Int)) (hT : TH G ttC (fun q : Nat => s.heap.size ≤ q) s tag L F H locs) (hI : LINV tag L F x0 m0 o0) (hl : lv_has ls 7 [(4, .int i), (3, .ref o0), (2, .ref m0), (1, .ref x0), (0, .ref b)]) (kk : ∀ (tag1 : Nat → Nat) (L1 : List Nat) (F1 : Nat → va_E) (H1 : Heap) (locs1 : List Loc) (ls1 : Array Slot) (c1 s1 : Nat), c1 ≤ cells + 17 → s1 ≤ slots + 541 → TH G ttC (fun q : Nat => s.heap.size ≤ q) s tag1 L1 F1 H1 locs1 → LINV tag1 L1 F1 x0 m0 o0 → lv_has ls1 7 [(4, .int i), (3, .ref o0), (2, .ref m0), (1, .ref x0), (0, .ref b)] → W p l e room_1 s m #[Value.ref b] below meth c H1 locs1 c1 s1 (lw_Z below #[Value.ref b] s) (F0 m 1828 ls1 [])) : W p l e room_1 s m #[Value.ref b] below meth c H locs cells slots (lw_Z below #[Value.ref b] s) (F0 m 363 ls []) := by
  have hx := X.1.1
  have hb := X.1.2.1
  have hbA : ¬ (fun q : Nat => s.heap.size ≤ q) b := Nat.not_le.mpr hbl
  have hL9i : (L9 : Int) ≤ 3072 := by omega
  obtain ⟨mx, gx, mm, gm, mo, go, f1, f2, hf1, hf2, hff, hf0, hf9, rd, rs, rn, hrd, mrd, grd, hrs, hrn, mrs, mrn, grs, grn, hns⟩ := hI
  refine lv_aload_n hx hb dL_law_363 rfl (lv_at hl 3 rfl) ?_
  refine t_cVi (n := 0) (C := RX11) (T := TX11) (N := 16) (As := []) (rest := []) X hT (kt425_X11_where l G tag L F hT.2.2.2 x0 mx gx) mx gx rfl rfl qw_699 qw_700 qw_701 qw_2 qw_702 ⟨rfl, by decide +kernel, by decide +kernel, by decide +kernel⟩ ⟨(Nat.le_of_ble_eq_true rfl), (Nat.le_of_ble_eq_true rfl)⟩ hl rfl rfl (Nat.le_of_ble_eq_true rfl) dL_law_364 ⟨show cells + 0 ≤ 601024 from by omega, show slots + 0 ≤ 7293034 from by omega⟩ (fun r1 F9 H locs hT hr1 => ?_)
  refine W.widen (k := cells) (n := slots) (Nat.le_refl _) (Nat.le_refl _) ?_
  rw [hr1.1] at hT
  refine lv_pop hx hb dL_law_367 rfl ?_
  refine lv_aload_n hx hb dL_law_368 rfl (lv_at hl 2 rfl) ?_
  refine t_cVi (n := 0) (C := RX13) (T := TX13) (N := 37) (As := []) (rest := []) X hT (km85_X13_where l G tag L F hT.2.2.2 m0 mm gm) mm gm rfl rfl qw_703 qw_704 qw_705 qw_5 qw_706 ⟨rfl, by decide +kernel, by decide +kernel, by decide +kernel⟩ ⟨(Nat.le_of_ble_eq_true rfl), (Nat.le_of_ble_eq_true rfl)⟩ hl rfl rfl (Nat.le_of_ble_eq_true rfl) dL_law_369 ⟨show cells + 0 ≤ 601024 from by omega, show slots + 0 ≤ 7293034 from by omega⟩ (fun r2 F H locs hT hr2 => ?_)
  refine W.widen (k := cells) (n := slots) (Nat.le_refl _) (Nat.le_refl _) ?_
  obtain ⟨hgr2, yr2⟩ := hr2
  have hf1 := (yr2.1 _ 1 (Or.inr (by decide))).trans hf1
  have hf2 := (yr2.1 _ 6 (Or.inr (by decide))).trans hf2
  have hrd := (yr2.1 _ 8 (Or.inr (by decide))).trans hrd
  have hrs := (yr2.1 _ 10 (Or.inr (by decide))).trans hrs
  have hrn := (yr2.1 _ 11 (Or.inr (by decide))).trans hrn
  have hns := nsr_of (fun j => yr2.2 _ j ) (fun j => yr2.2 _ j ) hns
  refine lv_pop hx hb dL_law_372 rfl ?_
  refine lv_goto (tgt := 1828) hx hb dL_law_373 (by decide) ?_
  exact kk tag L F H locs _ cells slots (by omega) (by omega) hT ⟨mx, gx, mm, gm, mo, go, f1, f2, hf1, hf2, hff, hf0, hf9, rd, rs, rn, hrd, mrd, grd, hrs, hrn, mrs, mrn, grs, grn, hns⟩ (lv_sub hl [0, 1, 2, 3, 4] rfl)
set_option maxHeartbeats 4000000 in
set_option maxRecDepth 100000 in
theorem law_c4 {p : Program} {e : Env} {s : State} {m : MethodId} {below : List Frame} {meth : Method} {c : Code} (l : Launch) (G : KG) (b : Nat) (xs : Nat → Int32) {L9 : Nat} (hL9 : L9 ≤ 3072) (X : CX p s m #[Value.ref b] meth c cL_law 7 RL ret G (fun q : Nat => s.heap.size ≤ q) lw_tbl) (hX : va_X b L9 xs s s.heap) (hbl : b < s.heap.size) {H : Heap} {locs : List Loc} {ls : Array Slot} {cells slots : Nat} (hc : cells ≤ 600000) (hs : slots ≤ 7290000) {tag : Nat → Nat} {L : List Nat} {F : Nat → va_E} (x0 m0 o0 : Nat) (i : Int32) (hi : 0 ≤ i.toInt ∧ i.toInt + 6 ≤ (L9 : Int)) (hT : TH G ttC (fun q : Nat => s.heap.size ≤ q) s tag L F H locs) (hI : LINV tag L F x0 m0 o0) (hl : lv_has ls 7 [(4, .int i), (3, .ref o0), (2, .ref m0), (1, .ref x0), (0, .ref b)]) (kk : ∀ (tag1 : Nat → Nat) (L1 : List Nat) (F1 : Nat → va_E) (H1 : Heap) (locs1 : List Loc) (ls1 : Array Slot) (c1 s1 : Nat), c1 ≤ cells + 17 → s1 ≤ slots + 541 → TH G ttC (fun q : Nat => s.heap.size ≤ q) s tag1 L1 F1 H1 locs1 → LINV tag1 L1 F1 x0 m0 o0 → lv_has ls1 7 [(4, .int i), (3, .ref o0), (2, .ref m0), (1, .ref x0), (0, .ref b)] → W p l e room_1 s m #[Value.ref b] below meth c H1 locs1 c1 s1 (lw_Z below #[Value.ref b] s) (F0 m 1828 ls1 [])) : W p l e room_1 s m #[Value.ref b] below meth c H locs cells slots (lw_Z below #[Value.ref b] s) (F0 m 376 ls []) := by
  have hx := X.1.1
  have hb := X.1.2.1
  have hbA : ¬ (fun q : Nat => s.heap.size ≤ q) b := Nat.not_le.mpr hbl
  have hL9i : (L9 : Int) ≤ 3072 := by omega
  obtain ⟨mx, gx, mm, gm, mo, go, f1, f2, hf1, hf2, hff, hf0, hf9, rd, rs, rn, hrd, mrd, grd, hrs, hrn, mrs, mrn, grs, grn, hns⟩ := hI
  refine lv_aload_n hx hb dL_law_376 rfl (lv_at hl 3 rfl) ?_
  refine lv_aload_n hx hb dL_law_377 rfl (lv_at hl 4 rfl) ?_
  refine lv_iload hx hb dL_law_378 (lv_at hl 0 rfl) ?_
  refine lv_iconst (v := 1) hx hb dL_law_380 (by decide) ?_
  refine lv_iadd hx hb dL_law_381 ?_
  refine lv_topi (fun z1 ez1 => ?_)
  have hz1 : z1.toInt = i.toInt + 1 := ar_add ez1 rfl (by decide : (1 : Int32).toInt = 1) (by omega) (by omega)
  refine va_sld hx hb hX hbl hbA hT.2.2.1 (vp_in_iff.mpr (by omega)) dL_law_382 ?_
  refine lv_topi (fun v2 ev2 => ?_)
  refine lv_aload_n hx hb dL_law_383 rfl (lv_at hl 4 rfl) ?_
  refine lv_iload hx hb dL_law_384 (lv_at hl 0 rfl) ?_
  refine lv_iconst (v := 2) hx hb dL_law_386 (by decide) ?_
  refine lv_iadd hx hb dL_law_387 ?_
  refine lv_topi (fun z3 ez3 => ?_)
  have hz3 : z3.toInt = i.toInt + 2 := ar_add ez3 rfl (by decide : (2 : Int32).toInt = 2) (by omega) (by omega)
  refine va_sld hx hb hX hbl hbA hT.2.2.1 (vp_in_iff.mpr (by omega)) dL_law_388 ?_
  refine lv_topi (fun v4 ev4 => ?_)
  refine t_cVi (n := 2) (C := RX11) (T := TX11) (N := 16) (As := [.int v2, .int v4]) (rest := []) X hT (kt426_X11_whose l G tag L F hT.2.2.2 x0 v2 v4 mx gx) mx gx rfl rfl qw_707 qw_708 qw_709 qw_2 qw_710 ⟨rfl, by decide +kernel, by decide +kernel, by decide +kernel⟩ ⟨(Nat.le_of_ble_eq_true rfl), (Nat.le_of_ble_eq_true rfl)⟩ hl rfl rfl (Nat.le_of_ble_eq_true rfl) dL_law_389 ⟨show cells + 0 ≤ 601024 from by omega, show slots + 0 ≤ 7293034 from by omega⟩ (fun r5 F H locs hT hr5 => ?_)
  refine W.widen (k := cells) (n := slots) (Nat.le_refl _) (Nat.le_refl _) ?_
  obtain ⟨hgr5, yr5⟩ := hr5
  have hf1 := (yr5.1 _ 1 (Or.inr (by decide))).trans hf1
  have hf2 := (yr5.1 _ 6 (Or.inr (by decide))).trans hf2
  have hrd := (yr5.1 _ 8 (Or.inr (by decide))).trans hrd
  have hrs := (yr5.1 _ 10 (Or.inr (by decide))).trans hrs
  have hrn := (yr5.1 _ 11 (Or.inr (by decide))).trans hrn
  have hns := nsr_of (fun j => yr5.2 _ j (Or.inl grs)) (fun j => yr5.2 _ j (Or.inr grn)) hns
  refine lv_pop hx hb dL_law_392 rfl ?_
  refine lv_aload_n hx hb dL_law_393 rfl (lv_at hl 2 rfl) ?_
  refine lv_aload_n hx hb dL_law_394 rfl (lv_at hl 4 rfl) ?_
  refine lv_iload hx hb dL_law_395 (lv_at hl 0 rfl) ?_
  refine lv_iconst (v := 1) hx hb dL_law_397 (by decide) ?_
  refine lv_iadd hx hb dL_law_398 ?_
  refine lv_topi (fun z6 ez6 => ?_)
  have hz6 : z6.toInt = i.toInt + 1 := ar_add ez6 rfl (by decide : (1 : Int32).toInt = 1) (by omega) (by omega)
  refine va_sld hx hb hX hbl hbA hT.2.2.1 (vp_in_iff.mpr (by omega)) dL_law_399 ?_
  refine lv_topi (fun v7 ev7 => ?_)
  refine lv_aload_n hx hb dL_law_400 rfl (lv_at hl 4 rfl) ?_
  refine lv_iload hx hb dL_law_401 (lv_at hl 0 rfl) ?_
  refine lv_iconst (v := 2) hx hb dL_law_403 (by decide) ?_
  refine lv_iadd hx hb dL_law_404 ?_
  refine lv_topi (fun z8 ez8 => ?_)
  have hz8 : z8.toInt = i.toInt + 2 := ar_add ez8 rfl (by decide : (2 : Int32).toInt = 2) (by omega) (by omega)
  refine va_sld hx hb hX hbl hbA hT.2.2.1 (vp_in_iff.mpr (by omega)) dL_law_405 ?_
  refine lv_topi (fun v9 ev9 => ?_)
  refine t_cVi (n := 2) (C := RX13) (T := TX13) (N := 37) (As := [.int v7, .int v9]) (rest := []) X hT (kp_X13_whose l G tag L F hT.2.2.2 m0 v7 v9 mm gm) mm gm rfl rfl qw_715 qw_716 qw_717 qw_5 qw_718 ⟨rfl, by decide +kernel, by decide +kernel, by decide +kernel⟩ ⟨(Nat.le_of_ble_eq_true rfl), (Nat.le_of_ble_eq_true rfl)⟩ hl rfl rfl (Nat.le_of_ble_eq_true rfl) dL_law_406 ⟨show cells + 0 ≤ 601024 from by omega, show slots + 0 ≤ 7293034 from by omega⟩ (fun r10 F H locs hT hr10 => ?_)
  refine W.widen (k := cells) (n := slots) (Nat.le_refl _) (Nat.le_refl _) ?_
  obtain ⟨hgr10, yr10⟩ := hr10
  have hf1 := (yr10.1 _ 1 (Or.inr (by decide)) (Or.inl (by rw [gx]; decide)) (Or.inr (by decide))).trans hf1
  have hf2 := (yr10.1 _ 6 (Or.inr (by decide)) (Or.inr (by decide)) (Or.inr (by decide))).trans hf2
  have hrd := (yr10.1 _ 8 (Or.inr (by decide)) (Or.inr (by decide)) (Or.inr (by decide))).trans hrd
  have hrs := (yr10.1 _ 10 (Or.inr (by decide)) (Or.inr (by decide)) (Or.inr (by decide))).trans hrs
  have hrn := (yr10.1 _ 11 (Or.inr (by decide)) (Or.inr (by decide)) (Or.inr (by decide))).trans hrn
  have hns := nsr_of (fun j => yr10.2 _ j ) (fun j => yr10.2 _ j ) hns
  refine lv_pop hx hb dL_law_409 rfl ?_
  refine lv_goto (tgt := 1828) hx hb dL_law_410 (by decide) ?_
  exact kk tag L F H locs _ cells slots (by omega) (by omega) hT ⟨mx, gx, mm, gm, mo, go, f1, f2, hf1, hf2, hff, hf0, hf9, rd, rs, rn, hrd, mrd, grd, hrs, hrn, mrs, mrn, grs, grn, hns⟩ (lv_sub hl [0, 1, 2, 3, 4] rfl)
set_option maxHeartbeats 4000000 in
set_option maxRecDepth 100000 in
theorem law_c5 {p : Program} {e : Env} {s : State} {m : MethodId} {below : List Frame} {meth : Method} {c : Code} (l : Launch) (G : KG) (b : Nat) (xs : Nat → Int32) {L9 : Nat} (hL9 : L9 ≤ 3072) (X : CX p s m #[Value.ref b] meth c cL_law 7 RL ret G (fun q : Nat => s.heap.size ≤ q) lw_tbl) (hX : va_X b L9 xs s s.heap) (hbl : b < s.heap.size) {H : Heap} {locs : List Loc} {ls : Array Slot} {cells slots : Nat} (hc : cells ≤ 600000) (hs : slots ≤ 7290000) {tag : Nat → Nat} {L : List Nat} {F : Nat → va_E} (x0 m0 o0 : Nat) (i : Int32) (hi : 0 ≤ i.toInt ∧ i.toInt + 6 ≤ (L9 : Int)) (hT : TH G ttC (fun q : Nat => s.heap.size ≤ q) s tag L F H locs) (hI : LINV tag L F x0 m0 o0) (hl : lv_has ls 7 [(4, .int i), (3, .ref o0), (2, .ref m0), (1, .ref x0), (0, .ref b)]) (kk : ∀ (tag1 : Nat → Nat) (L1 : List Nat) (F1 : Nat → va_E) (H1 : Heap) (locs1 : List Loc) (ls1 : Array Slot) (c1 s1 : Nat), c1 ≤ cells + 17 → s1 ≤ slots + 541 → TH G ttC (fun q : Nat => s.heap.size ≤ q) s tag1 L1 F1 H1 locs1 → LINV tag1 L1 F1 x0 m0 o0 → lv_has ls1 7 [(4, .int i), (3, .ref o0), (2, .ref m0), (1, .ref x0), (0, .ref b)] → W p l e room_1 s m #[Value.ref b] below meth c H1 locs1 c1 s1 (lw_Z below #[Value.ref b] s) (F0 m 1828 ls1 [])) : W p l e room_1 s m #[Value.ref b] below meth c H locs cells slots (lw_Z below #[Value.ref b] s) (F0 m 413 ls []) := by
  have hx := X.1.1
  have hb := X.1.2.1
  have hbA : ¬ (fun q : Nat => s.heap.size ≤ q) b := Nat.not_le.mpr hbl
  have hL9i : (L9 : Int) ≤ 3072 := by omega
  obtain ⟨mx, gx, mm, gm, mo, go, f1, f2, hf1, hf2, hff, hf0, hf9, rd, rs, rn, hrd, mrd, grd, hrs, hrn, mrs, mrn, grs, grn, hns⟩ := hI
  refine lv_aload_n hx hb dL_law_413 rfl (lv_at hl 3 rfl) ?_
  refine t_cVi (n := 0) (C := RX11) (T := TX11) (N := 16) (As := []) (rest := []) X hT (kt408_X11_shared l G tag L F hT.2.2.2 x0 mx gx) mx gx rfl rfl qw_723 qw_724 qw_725 qw_2 qw_726 ⟨rfl, by decide +kernel, by decide +kernel, by decide +kernel⟩ ⟨(Nat.le_of_ble_eq_true rfl), (Nat.le_of_ble_eq_true rfl)⟩ hl rfl rfl (Nat.le_of_ble_eq_true rfl) dL_law_414 ⟨show cells + 0 ≤ 601024 from by omega, show slots + 0 ≤ 7293034 from by omega⟩ (fun r1 F H locs hT hr1 => ?_)
  refine W.widen (k := cells) (n := slots) (Nat.le_refl _) (Nat.le_refl _) ?_
  obtain ⟨hgr1, yr1⟩ := hr1
  have hf1 := (yr1.1 _ 1 (Or.inr (by decide))).trans hf1
  have hf2 := (yr1.1 _ 6 (Or.inr (by decide))).trans hf2
  have hrd := (yr1.1 _ 8 (Or.inr (by decide))).trans hrd
  have hrs := (yr1.1 _ 10 (Or.inr (by decide))).trans hrs
  have hrn := (yr1.1 _ 11 (Or.inr (by decide))).trans hrn
  have hns := nsr_of (fun j => yr1.2 _ j (Or.inl grs)) (fun j => yr1.2 _ j (Or.inr grn)) hns
  refine lv_pop hx hb dL_law_417 rfl ?_
  refine lv_aload_n hx hb dL_law_418 rfl (lv_at hl 2 rfl) ?_
  refine t_cVi (n := 0) (C := RX13) (T := TX13) (N := 37) (As := []) (rest := []) X hT (kp_X13_shared l G tag L F hT.2.2.2 m0 mm gm) mm gm rfl rfl qw_736 qw_737 qw_738 qw_5 qw_739 ⟨rfl, by decide +kernel, by decide +kernel, by decide +kernel⟩ ⟨(Nat.le_of_ble_eq_true rfl), (Nat.le_of_ble_eq_true rfl)⟩ hl rfl rfl (Nat.le_of_ble_eq_true rfl) dL_law_419 ⟨show cells + 0 ≤ 601024 from by omega, show slots + 0 ≤ 7293034 from by omega⟩ (fun r2 F H locs hT hr2 => ?_)
  refine W.widen (k := cells) (n := slots) (Nat.le_refl _) (Nat.le_refl _) ?_
  obtain ⟨hgr2, yr2⟩ := hr2
  have hf1 := (yr2.1 _ 1 (Or.inr (by decide)) (Or.inl (by rw [gx]; decide)) (Or.inr (by decide))).trans hf1
  have hf2 := (yr2.1 _ 6 (Or.inr (by decide)) (Or.inr (by decide)) (Or.inr (by decide))).trans hf2
  have hrd := (yr2.1 _ 8 (Or.inr (by decide)) (Or.inr (by decide)) (Or.inr (by decide))).trans hrd
  have hrs := (yr2.1 _ 10 (Or.inr (by decide)) (Or.inr (by decide)) (Or.inr (by decide))).trans hrs
  have hrn := (yr2.1 _ 11 (Or.inr (by decide)) (Or.inr (by decide)) (Or.inr (by decide))).trans hrn
  have hns := nsr_of (fun j => yr2.2 _ j ) (fun j => yr2.2 _ j ) hns
  refine lv_pop hx hb dL_law_422 rfl ?_
  refine lv_goto (tgt := 1828) hx hb dL_law_423 (by decide) ?_
  exact kk tag L F H locs _ cells slots (by omega) (by omega) hT ⟨mx, gx, mm, gm, mo, go, f1, f2, hf1, hf2, hff, hf0, hf9, rd, rs, rn, hrd, mrd, grd, hrs, hrn, mrs, mrn, grs, grn, hns⟩ (lv_sub hl [0, 1, 2, 3, 4] rfl)
set_option maxHeartbeats 4000000 in
set_option maxRecDepth 100000 in
theorem law_c6 {p : Program} {e : Env} {s : State} {m : MethodId} {below : List Frame} {meth : Method} {c : Code} (l : Launch) (G : KG) (b : Nat) (xs : Nat → Int32) {L9 : Nat} (hL9 : L9 ≤ 3072) (X : CX p s m #[Value.ref b] meth c cL_law 7 RL ret G (fun q : Nat => s.heap.size ≤ q) lw_tbl) (hX : va_X b L9 xs s s.heap) (hbl : b < s.heap.size) {H : Heap} {locs : List Loc} {ls : Array Slot} {cells slots : Nat} (hc : cells ≤ 600000) (hs : slots ≤ 7290000) {tag : Nat → Nat} {L : List Nat} {F : Nat → va_E} (x0 m0 o0 : Nat) (i : Int32) (hi : 0 ≤ i.toInt ∧ i.toInt + 6 ≤ (L9 : Int)) (hT : TH G ttC (fun q : Nat => s.heap.size ≤ q) s tag L F H locs) (hI : LINV tag L F x0 m0 o0) (hl : lv_has ls 7 [(4, .int i), (3, .ref o0), (2, .ref m0), (1, .ref x0), (0, .ref b)]) (kk : ∀ (tag1 : Nat → Nat) (L1 : List Nat) (F1 : Nat → va_E) (H1 : Heap) (locs1 : List Loc) (ls1 : Array Slot) (c1 s1 : Nat), c1 ≤ cells + 17 → s1 ≤ slots + 541 → TH G ttC (fun q : Nat => s.heap.size ≤ q) s tag1 L1 F1 H1 locs1 → LINV tag1 L1 F1 x0 m0 o0 → lv_has ls1 7 [(4, .int i), (3, .ref o0), (2, .ref m0), (1, .ref x0), (0, .ref b)] → W p l e room_1 s m #[Value.ref b] below meth c H1 locs1 c1 s1 (lw_Z below #[Value.ref b] s) (F0 m 1828 ls1 [])) : W p l e room_1 s m #[Value.ref b] below meth c H locs cells slots (lw_Z below #[Value.ref b] s) (F0 m 426 ls []) := by
  have hx := X.1.1
  have hb := X.1.2.1
  have hbA : ¬ (fun q : Nat => s.heap.size ≤ q) b := Nat.not_le.mpr hbl
  have hL9i : (L9 : Int) ≤ 3072 := by omega
  obtain ⟨mx, gx, mm, gm, mo, go, f1, f2, hf1, hf2, hff, hf0, hf9, rd, rs, rn, hrd, mrd, grd, hrs, hrn, mrs, mrn, grs, grn, hns⟩ := hI
  refine lv_aload_n hx hb dL_law_426 rfl (lv_at hl 3 rfl) ?_
  refine t_cVi (n := 0) (C := RX11) (T := TX11) (N := 16) (As := []) (rest := []) X hT (kt373_X11_free l G tag L F hT.2.2.2 x0 mx gx) mx gx rfl rfl qw_751 qw_752 qw_753 qw_2 qw_754 ⟨rfl, by decide +kernel, by decide +kernel, by decide +kernel⟩ ⟨(Nat.le_of_ble_eq_true rfl), (Nat.le_of_ble_eq_true rfl)⟩ hl rfl rfl (Nat.le_of_ble_eq_true rfl) dL_law_427 ⟨show cells + 0 ≤ 601024 from by omega, show slots + 0 ≤ 7293034 from by omega⟩ (fun r1 F H locs hT hr1 => ?_)
  refine W.widen (k := cells) (n := slots) (Nat.le_refl _) (Nat.le_refl _) ?_
  obtain ⟨hgr1, yr1⟩ := hr1
  have hf1 := (yr1.1 _ 1 (Or.inr (by decide))).trans hf1
  have hf2 := (yr1.1 _ 6 (Or.inr (by decide))).trans hf2
  have hrd := (yr1.1 _ 8 (Or.inr (by decide))).trans hrd
  have hrs := (yr1.1 _ 10 (Or.inr (by decide))).trans hrs
  have hrn := (yr1.1 _ 11 (Or.inr (by decide))).trans hrn
  have hns := nsr_of (fun j => yr1.2 _ j (Or.inl grs)) (fun j => yr1.2 _ j (Or.inr grn)) hns
  refine lv_pop hx hb dL_law_430 rfl ?_
  refine lv_aload_n hx hb dL_law_431 rfl (lv_at hl 2 rfl) ?_
  refine t_cVi (n := 0) (C := RX13) (T := TX13) (N := 37) (As := []) (rest := []) X hT (kp_X13_free l G tag L F hT.2.2.2 m0 mm gm) mm gm rfl rfl qw_756 qw_757 qw_758 qw_5 qw_759 ⟨rfl, by decide +kernel, by decide +kernel, by decide +kernel⟩ ⟨(Nat.le_of_ble_eq_true rfl), (Nat.le_of_ble_eq_true rfl)⟩ hl rfl rfl (Nat.le_of_ble_eq_true rfl) dL_law_432 ⟨show cells + 0 ≤ 601024 from by omega, show slots + 0 ≤ 7293034 from by omega⟩ (fun r2 F H locs hT hr2 => ?_)
  refine W.widen (k := cells) (n := slots) (Nat.le_refl _) (Nat.le_refl _) ?_
  obtain ⟨hgr2, yr2⟩ := hr2
  have hf1 := (yr2.1 _ 1 (Or.inr (by decide)) (Or.inl (by rw [gx]; decide)) (Or.inr (by decide))).trans hf1
  have hf2 := (yr2.1 _ 6 (Or.inr (by decide)) (Or.inr (by decide)) (Or.inr (by decide))).trans hf2
  have hrd := (yr2.1 _ 8 (Or.inr (by decide)) (Or.inr (by decide)) (Or.inr (by decide))).trans hrd
  have hrs := (yr2.1 _ 10 (Or.inr (by decide)) (Or.inr (by decide)) (Or.inr (by decide))).trans hrs
  have hrn := (yr2.1 _ 11 (Or.inr (by decide)) (Or.inr (by decide)) (Or.inr (by decide))).trans hrn
  have hns := nsr_of (fun j => yr2.2 _ j ) (fun j => yr2.2 _ j ) hns
  refine lv_pop hx hb dL_law_435 rfl ?_
  refine lv_goto (tgt := 1828) hx hb dL_law_436 (by decide) ?_
  exact kk tag L F H locs _ cells slots (by omega) (by omega) hT ⟨mx, gx, mm, gm, mo, go, f1, f2, hf1, hf2, hff, hf0, hf9, rd, rs, rn, hrd, mrd, grd, hrs, hrn, mrs, mrn, grs, grn, hns⟩ (lv_sub hl [0, 1, 2, 3, 4] rfl)
set_option maxHeartbeats 4000000 in
set_option maxRecDepth 100000 in
theorem law_c7 {p : Program} {e : Env} {s : State} {m : MethodId} {below : List Frame} {meth : Method} {c : Code} (l : Launch) (G : KG) (b : Nat) (xs : Nat → Int32) {L9 : Nat} (hL9 : L9 ≤ 3072) (X : CX p s m #[Value.ref b] meth c cL_law 7 RL ret G (fun q : Nat => s.heap.size ≤ q) lw_tbl) (hX : va_X b L9 xs s s.heap) (hbl : b < s.heap.size) {H : Heap} {locs : List Loc} {ls : Array Slot} {cells slots : Nat} (hc : cells ≤ 600000) (hs : slots ≤ 7290000) {tag : Nat → Nat} {L : List Nat} {F : Nat → va_E} (x0 m0 o0 : Nat) (i : Int32) (hi : 0 ≤ i.toInt ∧ i.toInt + 6 ≤ (L9 : Int)) (hT : TH G ttC (fun q : Nat => s.heap.size ≤ q) s tag L F H locs) (hI : LINV tag L F x0 m0 o0) (hl : lv_has ls 7 [(4, .int i), (3, .ref o0), (2, .ref m0), (1, .ref x0), (0, .ref b)]) (kk : ∀ (tag1 : Nat → Nat) (L1 : List Nat) (F1 : Nat → va_E) (H1 : Heap) (locs1 : List Loc) (ls1 : Array Slot) (c1 s1 : Nat), c1 ≤ cells + 17 → s1 ≤ slots + 541 → TH G ttC (fun q : Nat => s.heap.size ≤ q) s tag1 L1 F1 H1 locs1 → LINV tag1 L1 F1 x0 m0 o0 → lv_has ls1 7 [(4, .int i), (3, .ref o0), (2, .ref m0), (1, .ref x0), (0, .ref b)] → W p l e room_1 s m #[Value.ref b] below meth c H1 locs1 c1 s1 (lw_Z below #[Value.ref b] s) (F0 m 1828 ls1 [])) : W p l e room_1 s m #[Value.ref b] below meth c H locs cells slots (lw_Z below #[Value.ref b] s) (F0 m 439 ls []) := by
  have hx := X.1.1
  have hb := X.1.2.1
  have hbA : ¬ (fun q : Nat => s.heap.size ≤ q) b := Nat.not_le.mpr hbl
  have hL9i : (L9 : Int) ≤ 3072 := by omega
  obtain ⟨mx, gx, mm, gm, mo, go, f1, f2, hf1, hf2, hff, hf0, hf9, rd, rs, rn, hrd, mrd, grd, hrs, hrn, mrs, mrn, grs, grn, hns⟩ := hI
  refine lv_aload_n hx hb dL_law_439 rfl (lv_at hl 3 rfl) ?_
  refine lv_aload_n hx hb dL_law_440 rfl (lv_at hl 4 rfl) ?_
  refine lv_iload hx hb dL_law_441 (lv_at hl 0 rfl) ?_
  refine lv_iconst (v := 1) hx hb dL_law_443 (by decide) ?_
  refine lv_iadd hx hb dL_law_444 ?_
  refine lv_topi (fun z1 ez1 => ?_)
  have hz1 : z1.toInt = i.toInt + 1 := ar_add ez1 rfl (by decide : (1 : Int32).toInt = 1) (by omega) (by omega)
  refine va_sld hx hb hX hbl hbA hT.2.2.1 (vp_in_iff.mpr (by omega)) dL_law_445 ?_
  refine lv_topi (fun v2 ev2 => ?_)
  refine lv_aload_n hx hb dL_law_446 rfl (lv_at hl 4 rfl) ?_
  refine lv_iload hx hb dL_law_447 (lv_at hl 0 rfl) ?_
  refine lv_iconst (v := 2) hx hb dL_law_449 (by decide) ?_
  refine lv_iadd hx hb dL_law_450 ?_
  refine lv_topi (fun z3 ez3 => ?_)
  have hz3 : z3.toInt = i.toInt + 2 := ar_add ez3 rfl (by decide : (2 : Int32).toInt = 2) (by omega) (by omega)
  refine va_sld hx hb hX hbl hbA hT.2.2.1 (vp_in_iff.mpr (by omega)) dL_law_451 ?_
  refine lv_topi (fun v4 ev4 => ?_)
  refine t_cVi (n := 2) (C := RX11) (T := TX11) (N := 16) (As := [.int v2, .int v4]) (rest := []) X hT (kt382_X11_house l G tag L F hT.2.2.2 x0 v2 v4 mx gx) mx gx rfl rfl qw_760 qw_761 qw_762 qw_2 qw_763 ⟨rfl, by decide +kernel, by decide +kernel, by decide +kernel⟩ ⟨(Nat.le_of_ble_eq_true rfl), (Nat.le_of_ble_eq_true rfl)⟩ hl rfl rfl (Nat.le_of_ble_eq_true rfl) dL_law_452 ⟨show cells + 0 ≤ 601024 from by omega, show slots + 0 ≤ 7293034 from by omega⟩ (fun r5 F H locs hT hr5 => ?_)
  refine W.widen (k := cells) (n := slots) (Nat.le_refl _) (Nat.le_refl _) ?_
  obtain ⟨hgr5, yr5⟩ := hr5
  have hf1 := (yr5.1 _ 1 (Or.inr (by decide))).trans hf1
  have hf2 := (yr5.1 _ 6 (Or.inr (by decide))).trans hf2
  have hrd := (yr5.1 _ 8 (Or.inr (by decide))).trans hrd
  have hrs := (yr5.1 _ 10 (Or.inr (by decide))).trans hrs
  have hrn := (yr5.1 _ 11 (Or.inr (by decide))).trans hrn
  have hns := nsr_of (fun j => yr5.2 _ j (Or.inl grs)) (fun j => yr5.2 _ j (Or.inr grn)) hns
  refine lv_pop hx hb dL_law_455 rfl ?_
  refine lv_aload_n hx hb dL_law_456 rfl (lv_at hl 2 rfl) ?_
  refine lv_aload_n hx hb dL_law_457 rfl (lv_at hl 4 rfl) ?_
  refine lv_iload hx hb dL_law_458 (lv_at hl 0 rfl) ?_
  refine lv_iconst (v := 1) hx hb dL_law_460 (by decide) ?_
  refine lv_iadd hx hb dL_law_461 ?_
  refine lv_topi (fun z6 ez6 => ?_)
  have hz6 : z6.toInt = i.toInt + 1 := ar_add ez6 rfl (by decide : (1 : Int32).toInt = 1) (by omega) (by omega)
  refine va_sld hx hb hX hbl hbA hT.2.2.1 (vp_in_iff.mpr (by omega)) dL_law_462 ?_
  refine lv_topi (fun v7 ev7 => ?_)
  refine lv_aload_n hx hb dL_law_463 rfl (lv_at hl 4 rfl) ?_
  refine lv_iload hx hb dL_law_464 (lv_at hl 0 rfl) ?_
  refine lv_iconst (v := 2) hx hb dL_law_466 (by decide) ?_
  refine lv_iadd hx hb dL_law_467 ?_
  refine lv_topi (fun z8 ez8 => ?_)
  have hz8 : z8.toInt = i.toInt + 2 := ar_add ez8 rfl (by decide : (2 : Int32).toInt = 2) (by omega) (by omega)
  refine va_sld hx hb hX hbl hbA hT.2.2.1 (vp_in_iff.mpr (by omega)) dL_law_468 ?_
  refine lv_topi (fun v9 ev9 => ?_)
  refine t_cVi (n := 2) (C := RX13) (T := TX13) (N := 37) (As := [.int v7, .int v9]) (rest := []) X hT (kp_X13_house l G tag L F hT.2.2.2 m0 v7 v9 mm gm) mm gm rfl rfl qw_792 qw_793 qw_794 qw_5 qw_795 ⟨rfl, by decide +kernel, by decide +kernel, by decide +kernel⟩ ⟨(Nat.le_of_ble_eq_true rfl), (Nat.le_of_ble_eq_true rfl)⟩ hl rfl rfl (Nat.le_of_ble_eq_true rfl) dL_law_469 ⟨show cells + 0 ≤ 601024 from by omega, show slots + 0 ≤ 7293034 from by omega⟩ (fun r10 F H locs hT hr10 => ?_)
  refine W.widen (k := cells) (n := slots) (Nat.le_refl _) (Nat.le_refl _) ?_
  obtain ⟨hgr10, yr10⟩ := hr10
  have hf1 := (yr10.1 _ 1 (Or.inr (by decide)) (Or.inl (by rw [gx]; decide)) (Or.inr (by decide))).trans hf1
  have hf2 := (yr10.1 _ 6 (Or.inr (by decide)) (Or.inr (by decide)) (Or.inr (by decide))).trans hf2
  have hrd := (yr10.1 _ 8 (Or.inr (by decide)) (Or.inr (by decide)) (Or.inr (by decide))).trans hrd
  have hrs := (yr10.1 _ 10 (Or.inr (by decide)) (Or.inr (by decide)) (Or.inr (by decide))).trans hrs
  have hrn := (yr10.1 _ 11 (Or.inr (by decide)) (Or.inr (by decide)) (Or.inr (by decide))).trans hrn
  have hns := nsr_of (fun j => yr10.2 _ j ) (fun j => yr10.2 _ j ) hns
  refine lv_pop hx hb dL_law_472 rfl ?_
  refine lv_goto (tgt := 1828) hx hb dL_law_473 (by decide) ?_
  exact kk tag L F H locs _ cells slots (by omega) (by omega) hT ⟨mx, gx, mm, gm, mo, go, f1, f2, hf1, hf2, hff, hf0, hf9, rd, rs, rn, hrd, mrd, grd, hrs, hrn, mrs, mrn, grs, grn, hns⟩ (lv_sub hl [0, 1, 2, 3, 4] rfl)
set_option maxHeartbeats 4000000 in
set_option maxRecDepth 100000 in
theorem law_c8 {p : Program} {e : Env} {s : State} {m : MethodId} {below : List Frame} {meth : Method} {c : Code} (l : Launch) (G : KG) (b : Nat) (xs : Nat → Int32) {L9 : Nat} (hL9 : L9 ≤ 3072) (X : CX p s m #[Value.ref b] meth c cL_law 7 RL ret G (fun q : Nat => s.heap.size ≤ q) lw_tbl) (hX : va_X b L9 xs s s.heap) (hbl : b < s.heap.size) {H : Heap} {locs : List Loc} {ls : Array Slot} {cells slots : Nat} (hc : cells ≤ 600000) (hs : slots ≤ 7290000) {tag : Nat → Nat} {L : List Nat} {F : Nat → va_E} (x0 m0 o0 : Nat) (i : Int32) (hi : 0 ≤ i.toInt ∧ i.toInt + 6 ≤ (L9 : Int)) (hT : TH G ttC (fun q : Nat => s.heap.size ≤ q) s tag L F H locs) (hI : LINV tag L F x0 m0 o0) (hl : lv_has ls 7 [(4, .int i), (3, .ref o0), (2, .ref m0), (1, .ref x0), (0, .ref b)]) (kk : ∀ (tag1 : Nat → Nat) (L1 : List Nat) (F1 : Nat → va_E) (H1 : Heap) (locs1 : List Loc) (ls1 : Array Slot) (c1 s1 : Nat), c1 ≤ cells + 17 → s1 ≤ slots + 541 → TH G ttC (fun q : Nat => s.heap.size ≤ q) s tag1 L1 F1 H1 locs1 → LINV tag1 L1 F1 x0 m0 o0 → lv_has ls1 7 [(4, .int i), (3, .ref o0), (2, .ref m0), (1, .ref x0), (0, .ref b)] → W p l e room_1 s m #[Value.ref b] below meth c H1 locs1 c1 s1 (lw_Z below #[Value.ref b] s) (F0 m 1828 ls1 [])) : W p l e room_1 s m #[Value.ref b] below meth c H locs cells slots (lw_Z below #[Value.ref b] s) (F0 m 476 ls []) := by
  have hx := X.1.1
  have hb := X.1.2.1
  have hbA : ¬ (fun q : Nat => s.heap.size ≤ q) b := Nat.not_le.mpr hbl
  have hL9i : (L9 : Int) ≤ 3072 := by omega
  obtain ⟨mx, gx, mm, gm, mo, go, f1, f2, hf1, hf2, hff, hf0, hf9, rd, rs, rn, hrd, mrd, grd, hrs, hrn, mrs, mrn, grs, grn, hns⟩ := hI
  refine lv_aload_n hx hb dL_law_476 rfl (lv_at hl 3 rfl) ?_
  refine lv_aload_n hx hb dL_law_477 rfl (lv_at hl 4 rfl) ?_
  refine lv_iload hx hb dL_law_478 (lv_at hl 0 rfl) ?_
  refine lv_iconst (v := 1) hx hb dL_law_480 (by decide) ?_
  refine lv_iadd hx hb dL_law_481 ?_
  refine lv_topi (fun z1 ez1 => ?_)
  have hz1 : z1.toInt = i.toInt + 1 := ar_add ez1 rfl (by decide : (1 : Int32).toInt = 1) (by omega) (by omega)
  refine va_sld hx hb hX hbl hbA hT.2.2.1 (vp_in_iff.mpr (by omega)) dL_law_482 ?_
  refine lv_topi (fun v2 ev2 => ?_)
  refine lv_aload_n hx hb dL_law_483 rfl (lv_at hl 4 rfl) ?_
  refine lv_iload hx hb dL_law_484 (lv_at hl 0 rfl) ?_
  refine lv_iconst (v := 2) hx hb dL_law_486 (by decide) ?_
  refine lv_iadd hx hb dL_law_487 ?_
  refine lv_topi (fun z3 ez3 => ?_)
  have hz3 : z3.toInt = i.toInt + 2 := ar_add ez3 rfl (by decide : (2 : Int32).toInt = 2) (by omega) (by omega)
  refine va_sld hx hb hX hbl hbA hT.2.2.1 (vp_in_iff.mpr (by omega)) dL_law_488 ?_
  refine lv_topi (fun v4 ev4 => ?_)
  refine lv_aload_n hx hb dL_law_489 rfl (lv_at hl 4 rfl) ?_
  refine lv_iload hx hb dL_law_490 (lv_at hl 0 rfl) ?_
  refine lv_iconst (v := 3) hx hb dL_law_492 (by decide) ?_
  refine lv_iadd hx hb dL_law_493 ?_
  refine lv_topi (fun z5 ez5 => ?_)
  have hz5 : z5.toInt = i.toInt + 3 := ar_add ez5 rfl (by decide : (3 : Int32).toInt = 3) (by omega) (by omega)
  refine va_sld hx hb hX hbl hbA hT.2.2.1 (vp_in_iff.mpr (by omega)) dL_law_494 ?_
  refine lv_topi (fun v6 ev6 => ?_)
  refine t_cVi (n := 3) (C := RX11) (T := TX11) (N := 16) (As := [.int v2, .int v4, .int v6]) (rest := []) X hT (kt412_X11_skin l G tag L F hT.2.2.2 x0 v2 v4 v6 mx gx) mx gx rfl rfl qw_819 qw_820 qw_821 qw_2 qw_822 ⟨rfl, by decide +kernel, by decide +kernel, by decide +kernel⟩ ⟨(Nat.le_of_ble_eq_true rfl), (Nat.le_of_ble_eq_true rfl)⟩ hl rfl rfl (Nat.le_of_ble_eq_true rfl) dL_law_495 ⟨show cells + 0 ≤ 601024 from by omega, show slots + 0 ≤ 7293034 from by omega⟩ (fun r7 F H locs hT hr7 => ?_)
  refine W.widen (k := cells) (n := slots) (Nat.le_refl _) (Nat.le_refl _) ?_
  obtain ⟨hgr7, yr7⟩ := hr7
  have hf1 := (yr7.1 _ 1 (Or.inr (by decide))).trans hf1
  have hf2 := (yr7.1 _ 6 (Or.inr (by decide))).trans hf2
  have hrd := (yr7.1 _ 8 (Or.inr (by decide))).trans hrd
  have hrs := (yr7.1 _ 10 (Or.inr (by decide))).trans hrs
  have hrn := (yr7.1 _ 11 (Or.inr (by decide))).trans hrn
  have hns := nsr_of (fun j => yr7.2 _ j (Or.inl grs)) (fun j => yr7.2 _ j (Or.inr grn)) hns
  refine lv_pop hx hb dL_law_498 rfl ?_
  refine lv_aload_n hx hb dL_law_499 rfl (lv_at hl 2 rfl) ?_
  refine lv_aload_n hx hb dL_law_500 rfl (lv_at hl 4 rfl) ?_
  refine lv_iload hx hb dL_law_501 (lv_at hl 0 rfl) ?_
  refine lv_iconst (v := 1) hx hb dL_law_503 (by decide) ?_
  refine lv_iadd hx hb dL_law_504 ?_
  refine lv_topi (fun z8 ez8 => ?_)
  have hz8 : z8.toInt = i.toInt + 1 := ar_add ez8 rfl (by decide : (1 : Int32).toInt = 1) (by omega) (by omega)
  refine va_sld hx hb hX hbl hbA hT.2.2.1 (vp_in_iff.mpr (by omega)) dL_law_505 ?_
  refine lv_topi (fun v9 ev9 => ?_)
  refine lv_aload_n hx hb dL_law_506 rfl (lv_at hl 4 rfl) ?_
  refine lv_iload hx hb dL_law_507 (lv_at hl 0 rfl) ?_
  refine lv_iconst (v := 2) hx hb dL_law_509 (by decide) ?_
  refine lv_iadd hx hb dL_law_510 ?_
  refine lv_topi (fun z10 ez10 => ?_)
  have hz10 : z10.toInt = i.toInt + 2 := ar_add ez10 rfl (by decide : (2 : Int32).toInt = 2) (by omega) (by omega)
  refine va_sld hx hb hX hbl hbA hT.2.2.1 (vp_in_iff.mpr (by omega)) dL_law_511 ?_
  refine lv_topi (fun v11 ev11 => ?_)
  refine lv_aload_n hx hb dL_law_512 rfl (lv_at hl 4 rfl) ?_
  refine lv_iload hx hb dL_law_513 (lv_at hl 0 rfl) ?_
  refine lv_iconst (v := 3) hx hb dL_law_515 (by decide) ?_
  refine lv_iadd hx hb dL_law_516 ?_
  refine lv_topi (fun z12 ez12 => ?_)
  have hz12 : z12.toInt = i.toInt + 3 := ar_add ez12 rfl (by decide : (3 : Int32).toInt = 3) (by omega) (by omega)
  refine va_sld hx hb hX hbl hbA hT.2.2.1 (vp_in_iff.mpr (by omega)) dL_law_517 ?_
  refine lv_topi (fun v13 ev13 => ?_)
  refine t_cVi (n := 3) (C := RX13) (T := TX13) (N := 37) (As := [.int v9, .int v11, .int v13]) (rest := []) X hT (kp_X13_skin l G tag L F hT.2.2.2 m0 v9 v11 v13 mm gm) mm gm rfl rfl qw_832 qw_833 qw_834 qw_5 qw_835 ⟨rfl, by decide +kernel, by decide +kernel, by decide +kernel⟩ ⟨(Nat.le_of_ble_eq_true rfl), (Nat.le_of_ble_eq_true rfl)⟩ hl rfl rfl (Nat.le_of_ble_eq_true rfl) dL_law_518 ⟨show cells + 0 ≤ 601024 from by omega, show slots + 0 ≤ 7293034 from by omega⟩ (fun r14 F H locs hT hr14 => ?_)
  refine W.widen (k := cells) (n := slots) (Nat.le_refl _) (Nat.le_refl _) ?_
  obtain ⟨hgr14, yr14⟩ := hr14
  have hf1 := (yr14.1 _ 1 (Or.inr (by decide)) (Or.inl (by rw [gx]; decide)) (Or.inr (by decide))).trans hf1
  have hf2 := (yr14.1 _ 6 (Or.inr (by decide)) (Or.inr (by decide)) (Or.inr (by decide))).trans hf2
  have hrd := (yr14.1 _ 8 (Or.inr (by decide)) (Or.inr (by decide)) (Or.inr (by decide))).trans hrd
  have hrs := (yr14.1 _ 10 (Or.inr (by decide)) (Or.inr (by decide)) (Or.inr (by decide))).trans hrs
  have hrn := (yr14.1 _ 11 (Or.inr (by decide)) (Or.inr (by decide)) (Or.inr (by decide))).trans hrn
  have hns := nsr_of (fun j => yr14.2 _ j ) (fun j => yr14.2 _ j ) hns
  refine lv_pop hx hb dL_law_521 rfl ?_
  refine lv_goto (tgt := 1828) hx hb dL_law_522 (by decide) ?_
  exact kk tag L F H locs _ cells slots (by omega) (by omega) hT ⟨mx, gx, mm, gm, mo, go, f1, f2, hf1, hf2, hff, hf0, hf9, rd, rs, rn, hrd, mrd, grd, hrs, hrn, mrs, mrn, grs, grn, hns⟩ (lv_sub hl [0, 1, 2, 3, 4] rfl)
set_option maxHeartbeats 4000000 in
set_option maxRecDepth 100000 in
theorem law_c9 {p : Program} {e : Env} {s : State} {m : MethodId} {below : List Frame} {meth : Method} {c : Code} (l : Launch) (G : KG) (b : Nat) (xs : Nat → Int32) {L9 : Nat} (hL9 : L9 ≤ 3072) (X : CX p s m #[Value.ref b] meth c cL_law 7 RL ret G (fun q : Nat => s.heap.size ≤ q) lw_tbl) (hX : va_X b L9 xs s s.heap) (hbl : b < s.heap.size) {H : Heap} {locs : List Loc} {ls : Array Slot} {cells slots : Nat} (hc : cells ≤ 600000) (hs : slots ≤ 7290000) {tag : Nat → Nat} {L : List Nat} {F : Nat → va_E} (x0 m0 o0 : Nat) (i : Int32) (hi : 0 ≤ i.toInt ∧ i.toInt + 6 ≤ (L9 : Int)) (hT : TH G ttC (fun q : Nat => s.heap.size ≤ q) s tag L F H locs) (hI : LINV tag L F x0 m0 o0) (hl : lv_has ls 7 [(4, .int i), (3, .ref o0), (2, .ref m0), (1, .ref x0), (0, .ref b)]) (kk : ∀ (tag1 : Nat → Nat) (L1 : List Nat) (F1 : Nat → va_E) (H1 : Heap) (locs1 : List Loc) (ls1 : Array Slot) (c1 s1 : Nat), c1 ≤ cells + 17 → s1 ≤ slots + 541 → TH G ttC (fun q : Nat => s.heap.size ≤ q) s tag1 L1 F1 H1 locs1 → LINV tag1 L1 F1 x0 m0 o0 → lv_has ls1 7 [(4, .int i), (3, .ref o0), (2, .ref m0), (1, .ref x0), (0, .ref b)] → W p l e room_1 s m #[Value.ref b] below meth c H1 locs1 c1 s1 (lw_Z below #[Value.ref b] s) (F0 m 1828 ls1 [])) : W p l e room_1 s m #[Value.ref b] below meth c H locs cells slots (lw_Z below #[Value.ref b] s) (F0 m 525 ls []) := by
  have hx := X.1.1
  have hb := X.1.2.1
  have hbA : ¬ (fun q : Nat => s.heap.size ≤ q) b := Nat.not_le.mpr hbl
  have hL9i : (L9 : Int) ≤ 3072 := by omega
  obtain ⟨mx, gx, mm, gm, mo, go, f1, f2, hf1, hf2, hff, hf0, hf9, rd, rs, rn, hrd, mrd, grd, hrs, hrn, mrs, mrn, grs, grn, hns⟩ := hI
  refine lv_aload_n hx hb dL_law_525 rfl (lv_at hl 3 rfl) ?_
  refine lv_aload_n hx hb dL_law_526 rfl (lv_at hl 4 rfl) ?_
  refine lv_iload hx hb dL_law_527 (lv_at hl 0 rfl) ?_
  refine lv_iconst (v := 1) hx hb dL_law_529 (by decide) ?_
  refine lv_iadd hx hb dL_law_530 ?_
  refine lv_topi (fun z1 ez1 => ?_)
  have hz1 : z1.toInt = i.toInt + 1 := ar_add ez1 rfl (by decide : (1 : Int32).toInt = 1) (by omega) (by omega)
  refine va_sld hx hb hX hbl hbA hT.2.2.1 (vp_in_iff.mpr (by omega)) dL_law_531 ?_
  refine lv_topi (fun v2 ev2 => ?_)
  refine lv_aload_n hx hb dL_law_532 rfl (lv_at hl 4 rfl) ?_
  refine lv_iload hx hb dL_law_533 (lv_at hl 0 rfl) ?_
  refine lv_iconst (v := 2) hx hb dL_law_535 (by decide) ?_
  refine lv_iadd hx hb dL_law_536 ?_
  refine lv_topi (fun z3 ez3 => ?_)
  have hz3 : z3.toInt = i.toInt + 2 := ar_add ez3 rfl (by decide : (2 : Int32).toInt = 2) (by omega) (by omega)
  refine va_sld hx hb hX hbl hbA hT.2.2.1 (vp_in_iff.mpr (by omega)) dL_law_537 ?_
  refine lv_topi (fun v4 ev4 => ?_)
  refine t_cVi (n := 2) (C := RX11) (T := TX11) (N := 16) (As := [.int v2, .int v4]) (rest := []) X hT (kt423_X11_warm l G tag L F hT.2.2.2 x0 v2 v4 mx gx) mx gx rfl rfl qw_840 qw_841 qw_842 qw_2 qw_843 ⟨rfl, by decide +kernel, by decide +kernel, by decide +kernel⟩ ⟨(Nat.le_of_ble_eq_true rfl), (Nat.le_of_ble_eq_true rfl)⟩ hl rfl rfl (Nat.le_of_ble_eq_true rfl) dL_law_538 ⟨show cells + 0 ≤ 601024 from by omega, show slots + 0 ≤ 7293034 from by omega⟩ (fun r5 F H locs hT hr5 => ?_)
  refine W.widen (k := cells) (n := slots) (Nat.le_refl _) (Nat.le_refl _) ?_
  obtain ⟨hgr5, yr5⟩ := hr5
  have hf1 := (yr5.1 _ 1 (Or.inr (by decide))).trans hf1
  have hf2 := (yr5.1 _ 6 (Or.inr (by decide))).trans hf2
  have hrd := (yr5.1 _ 8 (Or.inr (by decide))).trans hrd
  have hrs := (yr5.1 _ 10 (Or.inr (by decide))).trans hrs
  have hrn := (yr5.1 _ 11 (Or.inr (by decide))).trans hrn
  have hns := nsr_of (fun j => yr5.2 _ j (Or.inl grs)) (fun j => yr5.2 _ j (Or.inr grn)) hns
  refine lv_pop hx hb dL_law_541 rfl ?_
  refine lv_aload_n hx hb dL_law_542 rfl (lv_at hl 2 rfl) ?_
  refine lv_aload_n hx hb dL_law_543 rfl (lv_at hl 4 rfl) ?_
  refine lv_iload hx hb dL_law_544 (lv_at hl 0 rfl) ?_
  refine lv_iconst (v := 1) hx hb dL_law_546 (by decide) ?_
  refine lv_iadd hx hb dL_law_547 ?_
  refine lv_topi (fun z6 ez6 => ?_)
  have hz6 : z6.toInt = i.toInt + 1 := ar_add ez6 rfl (by decide : (1 : Int32).toInt = 1) (by omega) (by omega)
  refine va_sld hx hb hX hbl hbA hT.2.2.1 (vp_in_iff.mpr (by omega)) dL_law_548 ?_
  refine lv_topi (fun v7 ev7 => ?_)
  refine lv_aload_n hx hb dL_law_549 rfl (lv_at hl 4 rfl) ?_
  refine lv_iload hx hb dL_law_550 (lv_at hl 0 rfl) ?_
  refine lv_iconst (v := 2) hx hb dL_law_552 (by decide) ?_
  refine lv_iadd hx hb dL_law_553 ?_
  refine lv_topi (fun z8 ez8 => ?_)
  have hz8 : z8.toInt = i.toInt + 2 := ar_add ez8 rfl (by decide : (2 : Int32).toInt = 2) (by omega) (by omega)
  refine va_sld hx hb hX hbl hbA hT.2.2.1 (vp_in_iff.mpr (by omega)) dL_law_554 ?_
  refine lv_topi (fun v9 ev9 => ?_)
  refine t_cVi (n := 2) (C := RX13) (T := TX13) (N := 37) (As := [.int v7, .int v9]) (rest := []) X hT (kp_X13_warm l G tag L F hT.2.2.2 m0 v7 v9 mm gm) mm gm rfl rfl qw_861 qw_862 qw_863 qw_5 qw_864 ⟨rfl, by decide +kernel, by decide +kernel, by decide +kernel⟩ ⟨(Nat.le_of_ble_eq_true rfl), (Nat.le_of_ble_eq_true rfl)⟩ hl rfl rfl (Nat.le_of_ble_eq_true rfl) dL_law_555 ⟨show cells + 0 ≤ 601024 from by omega, show slots + 0 ≤ 7293034 from by omega⟩ (fun r10 F H locs hT hr10 => ?_)
  refine W.widen (k := cells) (n := slots) (Nat.le_refl _) (Nat.le_refl _) ?_
  obtain ⟨hgr10, yr10⟩ := hr10
  have hf1 := (yr10.1 _ 1 (Or.inr (by decide)) (Or.inl (by rw [gx]; decide)) (Or.inr (by decide))).trans hf1
  have hf2 := (yr10.1 _ 6 (Or.inr (by decide)) (Or.inr (by decide)) (Or.inr (by decide))).trans hf2
  have hrd := (yr10.1 _ 8 (Or.inr (by decide)) (Or.inr (by decide)) (Or.inr (by decide))).trans hrd
  have hrs := (yr10.1 _ 10 (Or.inr (by decide)) (Or.inr (by decide)) (Or.inr (by decide))).trans hrs
  have hrn := (yr10.1 _ 11 (Or.inr (by decide)) (Or.inr (by decide)) (Or.inr (by decide))).trans hrn
  have hns := nsr_of (fun j => yr10.2 _ j ) (fun j => yr10.2 _ j ) hns
  refine lv_pop hx hb dL_law_558 rfl ?_
  refine lv_goto (tgt := 1828) hx hb dL_law_559 (by decide) ?_
  exact kk tag L F H locs _ cells slots (by omega) (by omega) hT ⟨mx, gx, mm, gm, mo, go, f1, f2, hf1, hf2, hff, hf0, hf9, rd, rs, rn, hrd, mrd, grd, hrs, hrn, mrs, mrn, grs, grn, hns⟩ (lv_sub hl [0, 1, 2, 3, 4] rfl)
