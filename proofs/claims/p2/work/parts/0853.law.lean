set_option maxHeartbeats 4000000 in
set_option maxRecDepth 100000 in
theorem law_c30 {p : Program} {e : Env} {s : State} {m : MethodId} {below : List Frame} {meth : Method} {c : Code} (l : Launch) (G : KG) (b : Nat) (xs : Nat → Int32) {L9 : Nat} (hL9 : L9 ≤ 3072) (X : CX p s m #[Value.ref b] meth c cL_law 7 RL ret G (fun q : Nat => s.heap.size ≤ q) lw_tbl) (hX : va_X b L9 xs s s.heap) (hbl : b < s.heap.size) {H : Heap} {locs : List Loc} {ls : Array Slot} {cells slots : Nat} (hc : cells ≤ 600000) (hs : slots ≤ 7290000) {tag : Nat → Nat} {L : List Nat} {F : Nat → va_E} (x0 m0 o0 : Nat) (i : Int32) (hi : 0 ≤ i.toInt ∧ i.toInt + 6 ≤ (L9 : Int)) (hT : TH G ttC (fun q : Nat => s.heap.size ≤ q) s tag L F H locs) (hI : LINV tag L F x0 m0 o0) (hl : lv_has ls 7 [(4, .int i), (3, .ref o0), (2, .ref m0), (1, .ref x0), (0, .ref b)]) (kk : ∀ (tag1 : Nat → Nat) (L1 : List Nat) (F1 : Nat → va_E) (H1 : Heap) (locs1 : List Loc) (ls1 : Array Slot) (c1 s1 : Nat), c1 ≤ cells + 17 → s1 ≤ slots + 541 → TH G ttC (fun q : Nat => s.heap.size ≤ q) s tag1 L1 F1 H1 locs1 → LINV tag1 L1 F1 x0 m0 o0 → lv_has ls1 7 [(4, .int i), (3, .ref o0), (2, .ref m0), (1, .ref x0), (0, .ref b)] → W p l e room_1 s m #[Value.ref b] below meth c H1 locs1 c1 s1 (lw_Z below #[Value.ref b] s) (F0 m 1828 ls1 [])) : W p l e room_1 s m #[Value.ref b] below meth c H locs cells slots (lw_Z below #[Value.ref b] s) (F0 m 1230 ls []) := by
  have hx := X.1.1
  have hb := X.1.2.1
  have hbA : ¬ (fun q : Nat => s.heap.size ≤ q) b := Nat.not_le.mpr hbl
  have hL9i : (L9 : Int) ≤ 3072 := by omega
  obtain ⟨mx, gx, mm, gm, mo, go, f1, f2, hf1, hf2, hff, hf0, hf9, rd, rs, rn, hrd, mrd, grd, hrs, hrn, mrs, mrn, grs, grn, hns⟩ := hI
  refine lv_aload_n hx hb dL_law_1230 rfl (lv_at hl 3 rfl) ?_
  refine lv_aload_n hx hb dL_law_1231 rfl (lv_at hl 4 rfl) ?_
  refine lv_iload hx hb dL_law_1232 (lv_at hl 0 rfl) ?_
  refine lv_iconst (v := 1) hx hb dL_law_1234 (by decide) ?_
  refine lv_iadd hx hb dL_law_1235 ?_
  refine lv_topi (fun z1 ez1 => ?_)
  have hz1 : z1.toInt = i.toInt + 1 := ar_add ez1 rfl (by decide : (1 : Int32).toInt = 1) (by omega) (by omega)
  refine va_sld hx hb hX hbl hbA hT.2.2.1 (vp_in_iff.mpr (by omega)) dL_law_1236 ?_
  refine lv_topi (fun v2 ev2 => ?_)
  refine lv_aload_n hx hb dL_law_1237 rfl (lv_at hl 4 rfl) ?_
  refine lv_iload hx hb dL_law_1238 (lv_at hl 0 rfl) ?_
  refine lv_iconst (v := 2) hx hb dL_law_1240 (by decide) ?_
  refine lv_iadd hx hb dL_law_1241 ?_
  refine lv_topi (fun z3 ez3 => ?_)
  have hz3 : z3.toInt = i.toInt + 2 := ar_add ez3 rfl (by decide : (2 : Int32).toInt = 2) (by omega) (by omega)
  refine va_sld hx hb hX hbl hbA hT.2.2.1 (vp_in_iff.mpr (by omega)) dL_law_1242 ?_
  refine lv_topi (fun v4 ev4 => ?_)
  refine t_cVi (n := 2) (C := RX11) (T := TX11) (N := 16) (As := [.int v2, .int v4]) (rest := []) X hT (kt402_X11_order l G tag L F hT.2.2.2 x0 v2 v4 mx gx) mx gx rfl rfl qw_1374 qw_1375 qw_1376 qw_2 qw_1377 ⟨rfl, by decide +kernel, by decide +kernel, by decide +kernel⟩ ⟨(Nat.le_of_ble_eq_true rfl), (Nat.le_of_ble_eq_true rfl)⟩ hl rfl rfl (Nat.le_of_ble_eq_true rfl) dL_law_1243 ⟨show cells + 0 ≤ 601024 from by omega, show slots + 0 ≤ 7293034 from by omega⟩ (fun r5 F H locs hT hr5 => ?_)
  refine W.widen (k := cells) (n := slots) (Nat.le_refl _) (Nat.le_refl _) ?_
  obtain ⟨hgr5, yr5⟩ := hr5
  have hf1 := (yr5.1 _ 1 (Or.inr (by decide))).trans hf1
  have hf2 := (yr5.1 _ 6 (Or.inr (by decide))).trans hf2
  have hrd := (yr5.1 _ 8 (Or.inr (by decide))).trans hrd
  have hrs := (yr5.1 _ 10 (Or.inr (by decide))).trans hrs
  have hrn := (yr5.1 _ 11 (Or.inr (by decide))).trans hrn
  have hns := nsr_of (fun j => yr5.2 _ j (Or.inl grs)) (fun j => yr5.2 _ j (Or.inr grn)) hns
  refine lv_pop hx hb dL_law_1246 rfl ?_
  refine lv_aload_n hx hb dL_law_1247 rfl (lv_at hl 2 rfl) ?_
  refine lv_aload_n hx hb dL_law_1248 rfl (lv_at hl 4 rfl) ?_
  refine lv_iload hx hb dL_law_1249 (lv_at hl 0 rfl) ?_
  refine lv_iconst (v := 1) hx hb dL_law_1251 (by decide) ?_
  refine lv_iadd hx hb dL_law_1252 ?_
  refine lv_topi (fun z6 ez6 => ?_)
  have hz6 : z6.toInt = i.toInt + 1 := ar_add ez6 rfl (by decide : (1 : Int32).toInt = 1) (by omega) (by omega)
  refine va_sld hx hb hX hbl hbA hT.2.2.1 (vp_in_iff.mpr (by omega)) dL_law_1253 ?_
  refine lv_topi (fun v7 ev7 => ?_)
  refine lv_aload_n hx hb dL_law_1254 rfl (lv_at hl 4 rfl) ?_
  refine lv_iload hx hb dL_law_1255 (lv_at hl 0 rfl) ?_
  refine lv_iconst (v := 2) hx hb dL_law_1257 (by decide) ?_
  refine lv_iadd hx hb dL_law_1258 ?_
  refine lv_topi (fun z8 ez8 => ?_)
  have hz8 : z8.toInt = i.toInt + 2 := ar_add ez8 rfl (by decide : (2 : Int32).toInt = 2) (by omega) (by omega)
  refine va_sld hx hb hX hbl hbA hT.2.2.1 (vp_in_iff.mpr (by omega)) dL_law_1259 ?_
  refine lv_topi (fun v9 ev9 => ?_)
  refine t_cVi (n := 2) (C := RX13) (T := TX13) (N := 37) (As := [.int v7, .int v9]) (rest := []) X hT (kp_X13_order l G tag L F hT.2.2.2 m0 v7 v9 mm gm) mm gm rfl rfl qw_1388 qw_1389 qw_1390 qw_5 qw_1391 ⟨rfl, by decide +kernel, by decide +kernel, by decide +kernel⟩ ⟨(Nat.le_of_ble_eq_true rfl), (Nat.le_of_ble_eq_true rfl)⟩ hl rfl rfl (Nat.le_of_ble_eq_true rfl) dL_law_1260 ⟨show cells + 0 ≤ 601024 from by omega, show slots + 0 ≤ 7293034 from by omega⟩ (fun r10 F H locs hT hr10 => ?_)
  refine W.widen (k := cells) (n := slots) (Nat.le_refl _) (Nat.le_refl _) ?_
  obtain ⟨hgr10, yr10⟩ := hr10
  have hf1 := (yr10.1 _ 1 (Or.inr (by decide)) (Or.inl (by rw [gx]; decide)) (Or.inr (by decide)) (Or.inr (by decide))).trans hf1
  have hf2 := (yr10.1 _ 6 (Or.inr (by decide)) (Or.inr (by decide)) (Or.inr (by decide)) (Or.inr (by decide))).trans hf2
  have hrd := (yr10.1 _ 8 (Or.inr (by decide)) (Or.inr (by decide)) (Or.inr (by decide)) (Or.inr (by decide))).trans hrd
  have hrs := (yr10.1 _ 10 (Or.inr (by decide)) (Or.inr (by decide)) (Or.inr (by decide)) (Or.inr (by decide))).trans hrs
  have hrn := (yr10.1 _ 11 (Or.inr (by decide)) (Or.inr (by decide)) (Or.inr (by decide)) (Or.inr (by decide))).trans hrn
  have hns := nsr_of (fun j => yr10.2 _ j (by rw [grs]; decide) (by rw [grs]; decide)) (fun j => yr10.2 _ j (by rw [grn]; decide) (by rw [grn]; decide)) hns
  refine lv_pop hx hb dL_law_1263 rfl ?_
  refine lv_goto (tgt := 1828) hx hb dL_law_1264 (by decide) ?_
  exact kk tag L F H locs _ cells slots (by omega) (by omega) hT ⟨mx, gx, mm, gm, mo, go, f1, f2, hf1, hf2, hff, hf0, hf9, rd, rs, rn, hrd, mrd, grd, hrs, hrn, mrs, mrn, grs, grn, hns⟩ (lv_sub hl [0, 1, 2, 3, 4] rfl)
set_option maxHeartbeats 4000000 in
set_option maxRecDepth 100000 in
theorem law_c31 {p : Program} {e : Env} {s : State} {m : MethodId} {below : List Frame} {meth : Method} {c : Code} (l : Launch) (G : KG) (b : Nat) (xs : Nat → Int32) {L9 : Nat} (hL9 : L9 ≤ 3072) (X : CX p s m #[Value.ref b] meth c cL_law 7 RL ret G (fun q : Nat => s.heap.size ≤ q) lw_tbl) (hX : va_X b L9 xs s s.heap) (hbl : b < s.heap.size) {H : Heap} {locs : List Loc} {ls : Array Slot} {cells slots : Nat} (hc : cells ≤ 600000) (hs : slots ≤ 7290000) {tag : Nat → Nat} {L : List Nat} {F : Nat → va_E} (x0 m0 o0 : Nat) (i : Int32) (hi : 0 ≤ i.toInt ∧ i.toInt + 6 ≤ (L9 : Int)) (hT : TH G ttC (fun q : Nat => s.heap.size ≤ q) s tag L F H locs) (hI : LINV tag L F x0 m0 o0) (hl : lv_has ls 7 [(4, .int i), (3, .ref o0), (2, .ref m0), (1, .ref x0), (0, .ref b)]) (kk : ∀ (tag1 : Nat → Nat) (L1 : List Nat) (F1 : Nat → va_E) (H1 : Heap) (locs1 : List Loc) (ls1 : Array Slot) (c1 s1 : Nat), c1 ≤ cells + 17 → s1 ≤ slots + 541 → TH G ttC (fun q : Nat => s.heap.size ≤ q) s tag1 L1 F1 H1 locs1 → LINV tag1 L1 F1 x0 m0 o0 → lv_has ls1 7 [(4, .int i), (3, .ref o0), (2, .ref m0), (1, .ref x0), (0, .ref b)] → W p l e room_1 s m #[Value.ref b] below meth c H1 locs1 c1 s1 (lw_Z below #[Value.ref b] s) (F0 m 1828 ls1 [])) : W p l e room_1 s m #[Value.ref b] below meth c H locs cells slots (lw_Z below #[Value.ref b] s) (F0 m 1267 ls []) := by
  have hx := X.1.1
  have hb := X.1.2.1
  have hbA : ¬ (fun q : Nat => s.heap.size ≤ q) b := Nat.not_le.mpr hbl
  have hL9i : (L9 : Int) ≤ 3072 := by omega
  obtain ⟨mx, gx, mm, gm, mo, go, f1, f2, hf1, hf2, hff, hf0, hf9, rd, rs, rn, hrd, mrd, grd, hrs, hrn, mrs, mrn, grs, grn, hns⟩ := hI
  refine lv_aload_n hx hb dL_law_1267 rfl (lv_at hl 3 rfl) ?_
  refine lv_aload_n hx hb dL_law_1268 rfl (lv_at hl 4 rfl) ?_
  refine lv_iload hx hb dL_law_1269 (lv_at hl 0 rfl) ?_
  refine lv_iconst (v := 1) hx hb dL_law_1271 (by decide) ?_
  refine lv_iadd hx hb dL_law_1272 ?_
  refine lv_topi (fun z1 ez1 => ?_)
  have hz1 : z1.toInt = i.toInt + 1 := ar_add ez1 rfl (by decide : (1 : Int32).toInt = 1) (by omega) (by omega)
  refine va_sld hx hb hX hbl hbA hT.2.2.1 (vp_in_iff.mpr (by omega)) dL_law_1273 ?_
  refine lv_topi (fun v2 ev2 => ?_)
  refine t_cVi (n := 1) (C := RX11) (T := TX11) (N := 16) (As := [.int v2]) (rest := []) X hT (kt414_X11_soonest l G tag L F hT.2.2.2 x0 v2 mx gx) mx gx rfl rfl qw_1396 qw_1397 qw_1398 qw_2 qw_1399 ⟨rfl, by decide +kernel, by decide +kernel, by decide +kernel⟩ ⟨(Nat.le_of_ble_eq_true rfl), (Nat.le_of_ble_eq_true rfl)⟩ hl rfl rfl (Nat.le_of_ble_eq_true rfl) dL_law_1274 ⟨show cells + 0 ≤ 601024 from by omega, show slots + 0 ≤ 7293034 from by omega⟩ (fun r3 F H locs hT hr3 => ?_)
  refine W.widen (k := cells) (n := slots) (Nat.le_refl _) (Nat.le_refl _) ?_
  obtain ⟨hgr3, yr3⟩ := hr3
  have hf1 := (yr3.1 _ 1 (Or.inr (by decide)) (Or.inr (by decide))).trans hf1
  have hf2 := (yr3.1 _ 6 (Or.inr (by decide)) (Or.inr (by decide))).trans hf2
  have hrd := (yr3.1 _ 8 (Or.inr (by decide)) (Or.inr (by decide))).trans hrd
  have hrs := (yr3.1 _ 10 (Or.inr (by decide)) (Or.inr (by decide))).trans hrs
  have hrn := (yr3.1 _ 11 (Or.inr (by decide)) (Or.inr (by decide))).trans hrn
  have hns := nsr_of (fun j => yr3.2 _ j (Or.inl grs)) (fun j => yr3.2 _ j (Or.inr grn)) hns
  refine lv_pop hx hb dL_law_1277 rfl ?_
  refine lv_aload_n hx hb dL_law_1278 rfl (lv_at hl 2 rfl) ?_
  refine lv_aload_n hx hb dL_law_1279 rfl (lv_at hl 4 rfl) ?_
  refine lv_iload hx hb dL_law_1280 (lv_at hl 0 rfl) ?_
  refine lv_iconst (v := 1) hx hb dL_law_1282 (by decide) ?_
  refine lv_iadd hx hb dL_law_1283 ?_
  refine lv_topi (fun z4 ez4 => ?_)
  have hz4 : z4.toInt = i.toInt + 1 := ar_add ez4 rfl (by decide : (1 : Int32).toInt = 1) (by omega) (by omega)
  refine va_sld hx hb hX hbl hbA hT.2.2.1 (vp_in_iff.mpr (by omega)) dL_law_1284 ?_
  refine lv_topi (fun v5 ev5 => ?_)
  refine t_cVi (n := 1) (C := RX13) (T := TX13) (N := 37) (As := [.int v5]) (rest := []) X hT (kp_X13_soonest l G tag L F hT.2.2.2 m0 v5 mm gm) mm gm rfl rfl qw_1401 qw_1402 qw_1403 qw_5 qw_1404 ⟨rfl, by decide +kernel, by decide +kernel, by decide +kernel⟩ ⟨(Nat.le_of_ble_eq_true rfl), (Nat.le_of_ble_eq_true rfl)⟩ hl rfl rfl (Nat.le_of_ble_eq_true rfl) dL_law_1285 ⟨show cells + 0 ≤ 601024 from by omega, show slots + 0 ≤ 7293034 from by omega⟩ (fun r6 F H locs hT hr6 => ?_)
  refine W.widen (k := cells) (n := slots) (Nat.le_refl _) (Nat.le_refl _) ?_
  obtain ⟨hgr6, yr6⟩ := hr6
  have hf1 := (yr6.1 _ 1 (Or.inr (by decide)) (Or.inl (by rw [gx]; decide)) (Or.inr (by decide)) (Or.inr (by decide))).trans hf1
  have hf2 := (yr6.1 _ 6 (Or.inr (by decide)) (Or.inr (by decide)) (Or.inr (by decide)) (Or.inr (by decide))).trans hf2
  have hrd := (yr6.1 _ 8 (Or.inr (by decide)) (Or.inr (by decide)) (Or.inr (by decide)) (Or.inr (by decide))).trans hrd
  have hrs := (yr6.1 _ 10 (Or.inr (by decide)) (Or.inr (by decide)) (Or.inr (by decide)) (Or.inr (by decide))).trans hrs
  have hrn := (yr6.1 _ 11 (Or.inr (by decide)) (Or.inr (by decide)) (Or.inr (by decide)) (Or.inr (by decide))).trans hrn
  have hns := nsr_of (fun j => yr6.2 _ j (by rw [grs]; decide) (by rw [grs]; decide)) (fun j => yr6.2 _ j (by rw [grn]; decide) (by rw [grn]; decide)) hns
  refine lv_pop hx hb dL_law_1288 rfl ?_
  refine lv_goto (tgt := 1828) hx hb dL_law_1289 (by decide) ?_
  exact kk tag L F H locs _ cells slots (by omega) (by omega) hT ⟨mx, gx, mm, gm, mo, go, f1, f2, hf1, hf2, hff, hf0, hf9, rd, rs, rn, hrd, mrd, grd, hrs, hrn, mrs, mrn, grs, grn, hns⟩ (lv_sub hl [0, 1, 2, 3, 4] rfl)
set_option maxHeartbeats 4000000 in
set_option maxRecDepth 100000 in
theorem law_c32 {p : Program} {e : Env} {s : State} {m : MethodId} {below : List Frame} {meth : Method} {c : Code} (l : Launch) (G : KG) (b : Nat) (xs : Nat → Int32) {L9 : Nat} (hL9 : L9 ≤ 3072) (X : CX p s m #[Value.ref b] meth c cL_law 7 RL ret G (fun q : Nat => s.heap.size ≤ q) lw_tbl) (hX : va_X b L9 xs s s.heap) (hbl : b < s.heap.size) {H : Heap} {locs : List Loc} {ls : Array Slot} {cells slots : Nat} (hc : cells ≤ 600000) (hs : slots ≤ 7290000) {tag : Nat → Nat} {L : List Nat} {F : Nat → va_E} (x0 m0 o0 : Nat) (i : Int32) (hi : 0 ≤ i.toInt ∧ i.toInt + 6 ≤ (L9 : Int)) (hT : TH G ttC (fun q : Nat => s.heap.size ≤ q) s tag L F H locs) (hI : LINV tag L F x0 m0 o0) (hl : lv_has ls 7 [(4, .int i), (3, .ref o0), (2, .ref m0), (1, .ref x0), (0, .ref b)]) (kk : ∀ (tag1 : Nat → Nat) (L1 : List Nat) (F1 : Nat → va_E) (H1 : Heap) (locs1 : List Loc) (ls1 : Array Slot) (c1 s1 : Nat), c1 ≤ cells + 17 → s1 ≤ slots + 541 → TH G ttC (fun q : Nat => s.heap.size ≤ q) s tag1 L1 F1 H1 locs1 → LINV tag1 L1 F1 x0 m0 o0 → lv_has ls1 7 [(4, .int i), (3, .ref o0), (2, .ref m0), (1, .ref x0), (0, .ref b)] → W p l e room_1 s m #[Value.ref b] below meth c H1 locs1 c1 s1 (lw_Z below #[Value.ref b] s) (F0 m 1828 ls1 [])) : W p l e room_1 s m #[Value.ref b] below meth c H locs cells slots (lw_Z below #[Value.ref b] s) (F0 m 1292 ls []) := by
  have hx := X.1.1
  have hb := X.1.2.1
  have hbA : ¬ (fun q : Nat => s.heap.size ≤ q) b := Nat.not_le.mpr hbl
  have hL9i : (L9 : Int) ≤ 3072 := by omega
  obtain ⟨mx, gx, mm, gm, mo, go, f1, f2, hf1, hf2, hff, hf0, hf9, rd, rs, rn, hrd, mrd, grd, hrs, hrn, mrs, mrn, grs, grn, hns⟩ := hI
  refine lv_aload_n hx hb dL_law_1292 rfl (lv_at hl 3 rfl) ?_
  refine lv_aload_n hx hb dL_law_1293 rfl (lv_at hl 4 rfl) ?_
  refine lv_iload hx hb dL_law_1294 (lv_at hl 0 rfl) ?_
  refine lv_iconst (v := 1) hx hb dL_law_1296 (by decide) ?_
  refine lv_iadd hx hb dL_law_1297 ?_
  refine lv_topi (fun z1 ez1 => ?_)
  have hz1 : z1.toInt = i.toInt + 1 := ar_add ez1 rfl (by decide : (1 : Int32).toInt = 1) (by omega) (by omega)
  refine va_sld hx hb hX hbl hbA hT.2.2.1 (vp_in_iff.mpr (by omega)) dL_law_1298 ?_
  refine lv_topi (fun v2 ev2 => ?_)
  refine t_cVi (n := 1) (C := RX11) (T := TX11) (N := 16) (As := [.int v2]) (rest := []) X hT (kt394_X11_latest l G tag L F hT.2.2.2 x0 v2 mx gx) mx gx rfl rfl qw_1405 qw_1406 qw_1407 qw_2 qw_1408 ⟨rfl, by decide +kernel, by decide +kernel, by decide +kernel⟩ ⟨(Nat.le_of_ble_eq_true rfl), (Nat.le_of_ble_eq_true rfl)⟩ hl rfl rfl (Nat.le_of_ble_eq_true rfl) dL_law_1299 ⟨show cells + 0 ≤ 601024 from by omega, show slots + 0 ≤ 7293034 from by omega⟩ (fun r3 F H locs hT hr3 => ?_)
  refine W.widen (k := cells) (n := slots) (Nat.le_refl _) (Nat.le_refl _) ?_
  obtain ⟨hgr3, yr3⟩ := hr3
  have hf1 := (yr3.1 _ 1 (Or.inr (by decide)) (Or.inr (by decide))).trans hf1
  have hf2 := (yr3.1 _ 6 (Or.inr (by decide)) (Or.inr (by decide))).trans hf2
  have hrd := (yr3.1 _ 8 (Or.inr (by decide)) (Or.inr (by decide))).trans hrd
  have hrs := (yr3.1 _ 10 (Or.inr (by decide)) (Or.inr (by decide))).trans hrs
  have hrn := (yr3.1 _ 11 (Or.inr (by decide)) (Or.inr (by decide))).trans hrn
  have hns := nsr_of (fun j => yr3.2 _ j (Or.inl grs)) (fun j => yr3.2 _ j (Or.inr grn)) hns
  refine lv_pop hx hb dL_law_1302 rfl ?_
  refine lv_aload_n hx hb dL_law_1303 rfl (lv_at hl 2 rfl) ?_
  refine lv_aload_n hx hb dL_law_1304 rfl (lv_at hl 4 rfl) ?_
  refine lv_iload hx hb dL_law_1305 (lv_at hl 0 rfl) ?_
  refine lv_iconst (v := 1) hx hb dL_law_1307 (by decide) ?_
  refine lv_iadd hx hb dL_law_1308 ?_
  refine lv_topi (fun z4 ez4 => ?_)
  have hz4 : z4.toInt = i.toInt + 1 := ar_add ez4 rfl (by decide : (1 : Int32).toInt = 1) (by omega) (by omega)
  refine va_sld hx hb hX hbl hbA hT.2.2.1 (vp_in_iff.mpr (by omega)) dL_law_1309 ?_
  refine lv_topi (fun v5 ev5 => ?_)
  refine t_cVi (n := 1) (C := RX13) (T := TX13) (N := 37) (As := [.int v5]) (rest := []) X hT (kp_X13_latest l G tag L F hT.2.2.2 m0 v5 mm gm) mm gm rfl rfl qw_1410 qw_1411 qw_1412 qw_5 qw_1413 ⟨rfl, by decide +kernel, by decide +kernel, by decide +kernel⟩ ⟨(Nat.le_of_ble_eq_true rfl), (Nat.le_of_ble_eq_true rfl)⟩ hl rfl rfl (Nat.le_of_ble_eq_true rfl) dL_law_1310 ⟨show cells + 0 ≤ 601024 from by omega, show slots + 0 ≤ 7293034 from by omega⟩ (fun r6 F H locs hT hr6 => ?_)
  refine W.widen (k := cells) (n := slots) (Nat.le_refl _) (Nat.le_refl _) ?_
  obtain ⟨hgr6, yr6⟩ := hr6
  have hf1 := (yr6.1 _ 1 (Or.inr (by decide)) (Or.inl (by rw [gx]; decide)) (Or.inr (by decide)) (Or.inr (by decide))).trans hf1
  have hf2 := (yr6.1 _ 6 (Or.inr (by decide)) (Or.inr (by decide)) (Or.inr (by decide)) (Or.inr (by decide))).trans hf2
  have hrd := (yr6.1 _ 8 (Or.inr (by decide)) (Or.inr (by decide)) (Or.inr (by decide)) (Or.inr (by decide))).trans hrd
  have hrs := (yr6.1 _ 10 (Or.inr (by decide)) (Or.inr (by decide)) (Or.inr (by decide)) (Or.inr (by decide))).trans hrs
  have hrn := (yr6.1 _ 11 (Or.inr (by decide)) (Or.inr (by decide)) (Or.inr (by decide)) (Or.inr (by decide))).trans hrn
  have hns := nsr_of (fun j => yr6.2 _ j (by rw [grs]; decide) (by rw [grs]; decide)) (fun j => yr6.2 _ j (by rw [grn]; decide) (by rw [grn]; decide)) hns
  refine lv_pop hx hb dL_law_1313 rfl ?_
  refine lv_goto (tgt := 1828) hx hb dL_law_1314 (by decide) ?_
  exact kk tag L F H locs _ cells slots (by omega) (by omega) hT ⟨mx, gx, mm, gm, mo, go, f1, f2, hf1, hf2, hff, hf0, hf9, rd, rs, rn, hrd, mrd, grd, hrs, hrn, mrs, mrn, grs, grn, hns⟩ (lv_sub hl [0, 1, 2, 3, 4] rfl)
set_option maxHeartbeats 4000000 in
set_option maxRecDepth 100000 in
theorem law_c33 {p : Program} {e : Env} {s : State} {m : MethodId} {below : List Frame} {meth : Method} {c : Code} (l : Launch) (G : KG) (b : Nat) (xs : Nat → Int32) {L9 : Nat} (hL9 : L9 ≤ 3072) (X : CX p s m #[Value.ref b] meth c cL_law 7 RL ret G (fun q : Nat => s.heap.size ≤ q) lw_tbl) (hX : va_X b L9 xs s s.heap) (hbl : b < s.heap.size) {H : Heap} {locs : List Loc} {ls : Array Slot} {cells slots : Nat} (hc : cells ≤ 600000) (hs : slots ≤ 7290000) {tag : Nat → Nat} {L : List Nat} {F : Nat → va_E} (x0 m0 o0 : Nat) (i : Int32) (hi : 0 ≤ i.toInt ∧ i.toInt + 6 ≤ (L9 : Int)) (hT : TH G ttC (fun q : Nat => s.heap.size ≤ q) s tag L F H locs) (hI : LINV tag L F x0 m0 o0) (hl : lv_has ls 7 [(4, .int i), (3, .ref o0), (2, .ref m0), (1, .ref x0), (0, .ref b)]) (kk : ∀ (tag1 : Nat → Nat) (L1 : List Nat) (F1 : Nat → va_E) (H1 : Heap) (locs1 : List Loc) (ls1 : Array Slot) (c1 s1 : Nat), c1 ≤ cells + 17 → s1 ≤ slots + 541 → TH G ttC (fun q : Nat => s.heap.size ≤ q) s tag1 L1 F1 H1 locs1 → LINV tag1 L1 F1 x0 m0 o0 → lv_has ls1 7 [(4, .int i), (3, .ref o0), (2, .ref m0), (1, .ref x0), (0, .ref b)] → W p l e room_1 s m #[Value.ref b] below meth c H1 locs1 c1 s1 (lw_Z below #[Value.ref b] s) (F0 m 1828 ls1 [])) : W p l e room_1 s m #[Value.ref b] below meth c H locs cells slots (lw_Z below #[Value.ref b] s) (F0 m 1317 ls []) := by
  have hx := X.1.1
  have hb := X.1.2.1
  have hbA : ¬ (fun q : Nat => s.heap.size ≤ q) b := Nat.not_le.mpr hbl
  have hL9i : (L9 : Int) ≤ 3072 := by omega
  obtain ⟨mx, gx, mm, gm, mo, go, f1, f2, hf1, hf2, hff, hf0, hf9, rd, rs, rn, hrd, mrd, grd, hrs, hrn, mrs, mrn, grs, grn, hns⟩ := hI
  refine lv_aload_n hx hb dL_law_1317 rfl (lv_at hl 3 rfl) ?_
  refine lv_aload_n hx hb dL_law_1318 rfl (lv_at hl 4 rfl) ?_
  refine lv_iload hx hb dL_law_1319 (lv_at hl 0 rfl) ?_
  refine lv_iconst (v := 1) hx hb dL_law_1321 (by decide) ?_
  refine lv_iadd hx hb dL_law_1322 ?_
  refine lv_topi (fun z1 ez1 => ?_)
  have hz1 : z1.toInt = i.toInt + 1 := ar_add ez1 rfl (by decide : (1 : Int32).toInt = 1) (by omega) (by omega)
  refine va_sld hx hb hX hbl hbA hT.2.2.1 (vp_in_iff.mpr (by omega)) dL_law_1323 ?_
  refine lv_topi (fun v2 ev2 => ?_)
  refine lv_aload_n hx hb dL_law_1324 rfl (lv_at hl 4 rfl) ?_
  refine lv_iload hx hb dL_law_1325 (lv_at hl 0 rfl) ?_
  refine lv_iconst (v := 2) hx hb dL_law_1327 (by decide) ?_
  refine lv_iadd hx hb dL_law_1328 ?_
  refine lv_topi (fun z3 ez3 => ?_)
  have hz3 : z3.toInt = i.toInt + 2 := ar_add ez3 rfl (by decide : (2 : Int32).toInt = 2) (by omega) (by omega)
  refine va_sld hx hb hX hbl hbA hT.2.2.1 (vp_in_iff.mpr (by omega)) dL_law_1329 ?_
  refine lv_topi (fun v4 ev4 => ?_)
  refine t_cVi (n := 2) (C := RX11) (T := TX11) (N := 16) (As := [.int v2, .int v4]) (rest := []) X hT (kt416_X11_surely l G tag L F hT.2.2.2 x0 v2 v4 mx gx) mx gx rfl rfl qw_1414 qw_1415 qw_1416 qw_2 qw_1417 ⟨rfl, by decide +kernel, by decide +kernel, by decide +kernel⟩ ⟨(Nat.le_of_ble_eq_true rfl), (Nat.le_of_ble_eq_true rfl)⟩ hl rfl rfl (Nat.le_of_ble_eq_true rfl) dL_law_1330 ⟨show cells + 0 ≤ 601024 from by omega, show slots + 0 ≤ 7293034 from by omega⟩ (fun r5 F H locs hT hr5 => ?_)
  refine W.widen (k := cells) (n := slots) (Nat.le_refl _) (Nat.le_refl _) ?_
  obtain ⟨hgr5, yr5⟩ := hr5
  have hf1 := (yr5.1 _ 1 (Or.inr (by decide)) (Or.inr (by decide))).trans hf1
  have hf2 := (yr5.1 _ 6 (Or.inr (by decide)) (Or.inr (by decide))).trans hf2
  have hrd := (yr5.1 _ 8 (Or.inr (by decide)) (Or.inr (by decide))).trans hrd
  have hrs := (yr5.1 _ 10 (Or.inr (by decide)) (Or.inr (by decide))).trans hrs
  have hrn := (yr5.1 _ 11 (Or.inr (by decide)) (Or.inr (by decide))).trans hrn
  have hns := nsr_of (fun j => yr5.2 _ j (Or.inl grs)) (fun j => yr5.2 _ j (Or.inr grn)) hns
  refine lv_pop hx hb dL_law_1333 rfl ?_
  refine lv_aload_n hx hb dL_law_1334 rfl (lv_at hl 2 rfl) ?_
  refine lv_aload_n hx hb dL_law_1335 rfl (lv_at hl 4 rfl) ?_
  refine lv_iload hx hb dL_law_1336 (lv_at hl 0 rfl) ?_
  refine lv_iconst (v := 1) hx hb dL_law_1338 (by decide) ?_
  refine lv_iadd hx hb dL_law_1339 ?_
  refine lv_topi (fun z6 ez6 => ?_)
  have hz6 : z6.toInt = i.toInt + 1 := ar_add ez6 rfl (by decide : (1 : Int32).toInt = 1) (by omega) (by omega)
  refine va_sld hx hb hX hbl hbA hT.2.2.1 (vp_in_iff.mpr (by omega)) dL_law_1340 ?_
  refine lv_topi (fun v7 ev7 => ?_)
  refine lv_aload_n hx hb dL_law_1341 rfl (lv_at hl 4 rfl) ?_
  refine lv_iload hx hb dL_law_1342 (lv_at hl 0 rfl) ?_
  refine lv_iconst (v := 2) hx hb dL_law_1344 (by decide) ?_
  refine lv_iadd hx hb dL_law_1345 ?_
  refine lv_topi (fun z8 ez8 => ?_)
  have hz8 : z8.toInt = i.toInt + 2 := ar_add ez8 rfl (by decide : (2 : Int32).toInt = 2) (by omega) (by omega)
  refine va_sld hx hb hX hbl hbA hT.2.2.1 (vp_in_iff.mpr (by omega)) dL_law_1346 ?_
  refine lv_topi (fun v9 ev9 => ?_)
  refine t_cVi (n := 2) (C := RX13) (T := TX13) (N := 37) (As := [.int v7, .int v9]) (rest := []) X hT (kp_X13_surely l G tag L F hT.2.2.2 m0 v7 v9 mm gm) mm gm rfl rfl qw_1419 qw_1420 qw_1421 qw_5 qw_1422 ⟨rfl, by decide +kernel, by decide +kernel, by decide +kernel⟩ ⟨(Nat.le_of_ble_eq_true rfl), (Nat.le_of_ble_eq_true rfl)⟩ hl rfl rfl (Nat.le_of_ble_eq_true rfl) dL_law_1347 ⟨show cells + 0 ≤ 601024 from by omega, show slots + 0 ≤ 7293034 from by omega⟩ (fun r10 F H locs hT hr10 => ?_)
  refine W.widen (k := cells) (n := slots) (Nat.le_refl _) (Nat.le_refl _) ?_
  obtain ⟨hgr10, yr10⟩ := hr10
  have hf1 := (yr10.1 _ 1 (Or.inr (by decide)) (Or.inl (by rw [gx]; decide)) (Or.inr (by decide)) (Or.inr (by decide))).trans hf1
  have hf2 := (yr10.1 _ 6 (Or.inr (by decide)) (Or.inr (by decide)) (Or.inr (by decide)) (Or.inr (by decide))).trans hf2
  have hrd := (yr10.1 _ 8 (Or.inr (by decide)) (Or.inr (by decide)) (Or.inr (by decide)) (Or.inr (by decide))).trans hrd
  have hrs := (yr10.1 _ 10 (Or.inr (by decide)) (Or.inr (by decide)) (Or.inr (by decide)) (Or.inr (by decide))).trans hrs
  have hrn := (yr10.1 _ 11 (Or.inr (by decide)) (Or.inr (by decide)) (Or.inr (by decide)) (Or.inr (by decide))).trans hrn
  have hns := nsr_of (fun j => yr10.2 _ j (by rw [grs]; decide) (by rw [grs]; decide)) (fun j => yr10.2 _ j (by rw [grn]; decide) (by rw [grn]; decide)) hns
  refine lv_pop hx hb dL_law_1350 rfl ?_
  refine lv_goto (tgt := 1828) hx hb dL_law_1351 (by decide) ?_
  exact kk tag L F H locs _ cells slots (by omega) (by omega) hT ⟨mx, gx, mm, gm, mo, go, f1, f2, hf1, hf2, hff, hf0, hf9, rd, rs, rn, hrd, mrd, grd, hrs, hrn, mrs, mrn, grs, grn, hns⟩ (lv_sub hl [0, 1, 2, 3, 4] rfl)
set_option maxHeartbeats 4000000 in
set_option maxRecDepth 100000 in
theorem law_c34 {p : Program} {e : Env} {s : State} {m : MethodId} {below : List Frame} {meth : Method} {c : Code} (l : Launch) (G : KG) (b : Nat) (xs : Nat → Int32) {L9 : Nat} (hL9 : L9 ≤ 3072) (X : CX p s m #[Value.ref b] meth c cL_law 7 RL ret G (fun q : Nat => s.heap.size ≤ q) lw_tbl) (hX : va_X b L9 xs s s.heap) (hbl : b < s.heap.size) {H : Heap} {locs : List Loc} {ls : Array Slot} {cells slots : Nat} (hc : cells ≤ 600000) (hs : slots ≤ 7290000) {tag : Nat → Nat} {L : List Nat} {F : Nat → va_E} (x0 m0 o0 : Nat) (i : Int32) (hi : 0 ≤ i.toInt ∧ i.toInt + 6 ≤ (L9 : Int)) (hT : TH G ttC (fun q : Nat => s.heap.size ≤ q) s tag L F H locs) (hI : LINV tag L F x0 m0 o0) (hl : lv_has ls 7 [(4, .int i), (3, .ref o0), (2, .ref m0), (1, .ref x0), (0, .ref b)]) (kk : ∀ (tag1 : Nat → Nat) (L1 : List Nat) (F1 : Nat → va_E) (H1 : Heap) (locs1 : List Loc) (ls1 : Array Slot) (c1 s1 : Nat), c1 ≤ cells + 17 → s1 ≤ slots + 541 → TH G ttC (fun q : Nat => s.heap.size ≤ q) s tag1 L1 F1 H1 locs1 → LINV tag1 L1 F1 x0 m0 o0 → lv_has ls1 7 [(4, .int i), (3, .ref o0), (2, .ref m0), (1, .ref x0), (0, .ref b)] → W p l e room_1 s m #[Value.ref b] below meth c H1 locs1 c1 s1 (lw_Z below #[Value.ref b] s) (F0 m 1828 ls1 [])) : W p l e room_1 s m #[Value.ref b] below meth c H locs cells slots (lw_Z below #[Value.ref b] s) (F0 m 1354 ls []) := by
  have hx := X.1.1
  have hb := X.1.2.1
  have hbA : ¬ (fun q : Nat => s.heap.size ≤ q) b := Nat.not_le.mpr hbl
  have hL9i : (L9 : Int) ≤ 3072 := by omega
  obtain ⟨mx, gx, mm, gm, mo, go, f1, f2, hf1, hf2, hff, hf0, hf9, rd, rs, rn, hrd, mrd, grd, hrs, hrn, mrs, mrn, grs, grn, hns⟩ := hI
  refine lv_aload_n hx hb dL_law_1354 rfl (lv_at hl 3 rfl) ?_
  refine lv_aload_n hx hb dL_law_1355 rfl (lv_at hl 4 rfl) ?_
  refine lv_iload hx hb dL_law_1356 (lv_at hl 0 rfl) ?_
  refine lv_iconst (v := 1) hx hb dL_law_1358 (by decide) ?_
  refine lv_iadd hx hb dL_law_1359 ?_
  refine lv_topi (fun z1 ez1 => ?_)
  have hz1 : z1.toInt = i.toInt + 1 := ar_add ez1 rfl (by decide : (1 : Int32).toInt = 1) (by omega) (by omega)
  refine va_sld hx hb hX hbl hbA hT.2.2.1 (vp_in_iff.mpr (by omega)) dL_law_1360 ?_
  refine lv_topi (fun v2 ev2 => ?_)
  refine t_cVi (n := 1) (C := RX11) (T := TX11) (N := 16) (As := [.int v2]) (rest := []) X hT (kt428_X11_years l G tag L F hT.2.2.2 x0 v2 mx gx) mx gx rfl rfl qw_1423 qw_1424 qw_1425 qw_2 qw_1426 ⟨rfl, by decide +kernel, by decide +kernel, by decide +kernel⟩ ⟨(Nat.le_of_ble_eq_true rfl), (Nat.le_of_ble_eq_true rfl)⟩ hl rfl rfl (Nat.le_of_ble_eq_true rfl) dL_law_1361 ⟨show cells + 0 ≤ 601024 from by omega, show slots + 0 ≤ 7293034 from by omega⟩ (fun r3 F H locs hT hr3 => ?_)
  refine W.widen (k := cells) (n := slots) (Nat.le_refl _) (Nat.le_refl _) ?_
  obtain ⟨hgr3, yr3⟩ := hr3
  have hf1 := (yr3.1 _ 1 (Or.inr (by decide)) (Or.inl (by rw [gx]; decide)) (Or.inr (by decide)) (Or.inr (by decide)) (Or.inr (by decide))).trans hf1
  have hf2 := (yr3.1 _ 6 (Or.inr (by decide)) (Or.inr (by decide)) (Or.inr (by decide)) (Or.inr (by decide)) (Or.inr (by decide))).trans hf2
  have hrd := (yr3.1 _ 8 (Or.inr (by decide)) (Or.inr (by decide)) (Or.inr (by decide)) (Or.inr (by decide)) (Or.inr (by decide))).trans hrd
  have hrs := (yr3.1 _ 10 (Or.inr (by decide)) (Or.inr (by decide)) (Or.inr (by decide)) (Or.inr (by decide)) (Or.inr (by decide))).trans hrs
  have hrn := (yr3.1 _ 11 (Or.inr (by decide)) (Or.inr (by decide)) (Or.inr (by decide)) (Or.inr (by decide)) (Or.inr (by decide))).trans hrn
  have hns := nsr_of (fun j => yr3.2 _ j (Or.inl grs)) (fun j => yr3.2 _ j (Or.inr grn)) hns
  refine lv_pop hx hb dL_law_1364 rfl ?_
  refine lv_aload_n hx hb dL_law_1365 rfl (lv_at hl 2 rfl) ?_
  refine lv_aload_n hx hb dL_law_1366 rfl (lv_at hl 4 rfl) ?_
  refine lv_iload hx hb dL_law_1367 (lv_at hl 0 rfl) ?_
  refine lv_iconst (v := 1) hx hb dL_law_1369 (by decide) ?_
  refine lv_iadd hx hb dL_law_1370 ?_
  refine lv_topi (fun z4 ez4 => ?_)
  have hz4 : z4.toInt = i.toInt + 1 := ar_add ez4 rfl (by decide : (1 : Int32).toInt = 1) (by omega) (by omega)
  refine va_sld hx hb hX hbl hbA hT.2.2.1 (vp_in_iff.mpr (by omega)) dL_law_1371 ?_
  refine lv_topi (fun v5 ev5 => ?_)
  refine t_cVi (n := 1) (C := RX13) (T := TX13) (N := 37) (As := [.int v5]) (rest := []) X hT (kp_X13_years l G tag L F hT.2.2.2 m0 v5 mm gm) mm gm rfl rfl qw_1433 qw_1434 qw_1435 qw_5 qw_1436 ⟨rfl, by decide +kernel, by decide +kernel, by decide +kernel⟩ ⟨(Nat.le_of_ble_eq_true rfl), (Nat.le_of_ble_eq_true rfl)⟩ hl rfl rfl (Nat.le_of_ble_eq_true rfl) dL_law_1372 ⟨show cells + 0 ≤ 601024 from by omega, show slots + 0 ≤ 7293034 from by omega⟩ (fun r6 F H locs hT hr6 => ?_)
  refine W.widen (k := cells) (n := slots) (Nat.le_refl _) (Nat.le_refl _) ?_
  obtain ⟨hgr6, yr6⟩ := hr6
  have hf1 := (yr6.1 _ 1 (Or.inr (by decide)) (Or.inl (by rw [gx]; decide)) (Or.inr (by decide)) (Or.inr (by decide)) (Or.inr (by decide)) (Or.inr (by decide))).trans hf1
  have hf2 := (yr6.1 _ 6 (Or.inr (by decide)) (Or.inr (by decide)) (Or.inr (by decide)) (Or.inr (by decide)) (Or.inr (by decide)) (Or.inr (by decide))).trans hf2
  have hrd := (yr6.1 _ 8 (Or.inr (by decide)) (Or.inr (by decide)) (Or.inr (by decide)) (Or.inr (by decide)) (Or.inr (by decide)) (Or.inr (by decide))).trans hrd
  have hrs := (yr6.1 _ 10 (Or.inr (by decide)) (Or.inr (by decide)) (Or.inr (by decide)) (Or.inr (by decide)) (Or.inr (by decide)) (Or.inr (by decide))).trans hrs
  have hrn := (yr6.1 _ 11 (Or.inr (by decide)) (Or.inr (by decide)) (Or.inr (by decide)) (Or.inr (by decide)) (Or.inr (by decide)) (Or.inr (by decide))).trans hrn
  have hns := nsr_of (fun j => yr6.2 _ j (by rw [grs]; decide) (by rw [grs]; decide) (by rw [grs]; decide)) (fun j => yr6.2 _ j (by rw [grn]; decide) (by rw [grn]; decide) (by rw [grn]; decide)) hns
  refine lv_pop hx hb dL_law_1375 rfl ?_
  refine lv_goto (tgt := 1828) hx hb dL_law_1376 (by decide) ?_
  exact kk tag L F H locs _ cells slots (by omega) (by omega) hT ⟨mx, gx, mm, gm, mo, go, f1, f2, hf1, hf2, hff, hf0, hf9, rd, rs, rn, hrd, mrd, grd, hrs, hrn, mrs, mrn, grs, grn, hns⟩ (lv_sub hl [0, 1, 2, 3, 4] rfl)
set_option maxHeartbeats 4000000 in
set_option maxRecDepth 100000 in
theorem law_c35 {p : Program} {e : Env} {s : State} {m : MethodId} {below : List Frame} {meth : Method} {c : Code} (l : Launch) (G : KG) (b : Nat) (xs : Nat → Int32) {L9 : Nat} (hL9 : L9 ≤ 3072) (X : CX p s m #[Value.ref b] meth c cL_law 7 RL ret G (fun q : Nat => s.heap.size ≤ q) lw_tbl) (hX : va_X b L9 xs s s.heap) (hbl : b < s.heap.size) {H : Heap} {locs : List Loc} {ls : Array Slot} {cells slots : Nat} (hc : cells ≤ 600000) (hs : slots ≤ 7290000) {tag : Nat → Nat} {L : List Nat} {F : Nat → va_E} (x0 m0 o0 : Nat) (i : Int32) (hi : 0 ≤ i.toInt ∧ i.toInt + 6 ≤ (L9 : Int)) (hT : TH G ttC (fun q : Nat => s.heap.size ≤ q) s tag L F H locs) (hI : LINV tag L F x0 m0 o0) (hl : lv_has ls 7 [(4, .int i), (3, .ref o0), (2, .ref m0), (1, .ref x0), (0, .ref b)]) (kk : ∀ (tag1 : Nat → Nat) (L1 : List Nat) (F1 : Nat → va_E) (H1 : Heap) (locs1 : List Loc) (ls1 : Array Slot) (c1 s1 : Nat), c1 ≤ cells + 17 → s1 ≤ slots + 541 → TH G ttC (fun q : Nat => s.heap.size ≤ q) s tag1 L1 F1 H1 locs1 → LINV tag1 L1 F1 x0 m0 o0 → lv_has ls1 7 [(4, .int i), (3, .ref o0), (2, .ref m0), (1, .ref x0), (0, .ref b)] → W p l e room_1 s m #[Value.ref b] below meth c H1 locs1 c1 s1 (lw_Z below #[Value.ref b] s) (F0 m 1828 ls1 [])) : W p l e room_1 s m #[Value.ref b] below meth c H locs cells slots (lw_Z below #[Value.ref b] s) (F0 m 1379 ls []) := by
  have hx := X.1.1
  have hb := X.1.2.1
  have hbA : ¬ (fun q : Nat => s.heap.size ≤ q) b := Nat.not_le.mpr hbl
  have hL9i : (L9 : Int) ≤ 3072 := by omega
  obtain ⟨mx, gx, mm, gm, mo, go, f1, f2, hf1, hf2, hff, hf0, hf9, rd, rs, rn, hrd, mrd, grd, hrs, hrn, mrs, mrn, grs, grn, hns⟩ := hI
  refine lv_aload_n hx hb dL_law_1379 rfl (lv_at hl 3 rfl) ?_
  refine lv_aload_n hx hb dL_law_1380 rfl (lv_at hl 4 rfl) ?_
  refine lv_iload hx hb dL_law_1381 (lv_at hl 0 rfl) ?_
  refine lv_iconst (v := 1) hx hb dL_law_1383 (by decide) ?_
  refine lv_iadd hx hb dL_law_1384 ?_
  refine lv_topi (fun z1 ez1 => ?_)
  have hz1 : z1.toInt = i.toInt + 1 := ar_add ez1 rfl (by decide : (1 : Int32).toInt = 1) (by omega) (by omega)
  refine va_sld hx hb hX hbl hbA hT.2.2.1 (vp_in_iff.mpr (by omega)) dL_law_1385 ?_
  refine lv_topi (fun v2 ev2 => ?_)
  refine lv_aload_n hx hb dL_law_1386 rfl (lv_at hl 4 rfl) ?_
  refine lv_iload hx hb dL_law_1387 (lv_at hl 0 rfl) ?_
  refine lv_iconst (v := 2) hx hb dL_law_1389 (by decide) ?_
  refine lv_iadd hx hb dL_law_1390 ?_
  refine lv_topi (fun z3 ez3 => ?_)
  have hz3 : z3.toInt = i.toInt + 2 := ar_add ez3 rfl (by decide : (2 : Int32).toInt = 2) (by omega) (by omega)
  refine va_sld hx hb hX hbl hbA hT.2.2.1 (vp_in_iff.mpr (by omega)) dL_law_1391 ?_
  refine lv_topi (fun v4 ev4 => ?_)
  refine lv_aload_n hx hb dL_law_1392 rfl (lv_at hl 4 rfl) ?_
  refine lv_iload hx hb dL_law_1393 (lv_at hl 0 rfl) ?_
  refine lv_iconst (v := 3) hx hb dL_law_1395 (by decide) ?_
  refine lv_iadd hx hb dL_law_1396 ?_
  refine lv_topi (fun z5 ez5 => ?_)
  have hz5 : z5.toInt = i.toInt + 3 := ar_add ez5 rfl (by decide : (3 : Int32).toInt = 3) (by omega) (by omega)
  refine va_sld hx hb hX hbl hbA hT.2.2.1 (vp_in_iff.mpr (by omega)) dL_law_1397 ?_
  refine lv_topi (fun v6 ev6 => ?_)
  refine lv_aload_n hx hb dL_law_1398 rfl (lv_at hl 4 rfl) ?_
  refine lv_iload hx hb dL_law_1399 (lv_at hl 0 rfl) ?_
  refine lv_iconst (v := 4) hx hb dL_law_1401 (by decide) ?_
  refine lv_iadd hx hb dL_law_1402 ?_
  refine lv_topi (fun z7 ez7 => ?_)
  have hz7 : z7.toInt = i.toInt + 4 := ar_add ez7 rfl (by decide : (4 : Int32).toInt = 4) (by omega) (by omega)
  refine va_sld hx hb hX hbl hbA hT.2.2.1 (vp_in_iff.mpr (by omega)) dL_law_1403 ?_
  refine lv_topi (fun v8 ev8 => ?_)
  refine lv_aload_n hx hb dL_law_1404 rfl (lv_at hl 4 rfl) ?_
  refine lv_iload hx hb dL_law_1405 (lv_at hl 0 rfl) ?_
  refine lv_iconst (v := 5) hx hb dL_law_1407 (by decide) ?_
  refine lv_iadd hx hb dL_law_1408 ?_
  refine lv_topi (fun z9 ez9 => ?_)
  have hz9 : z9.toInt = i.toInt + 5 := ar_add ez9 rfl (by decide : (5 : Int32).toInt = 5) (by omega) (by omega)
  refine va_sld hx hb hX hbl hbA hT.2.2.1 (vp_in_iff.mpr (by omega)) dL_law_1409 ?_
  refine lv_topi (fun v10 ev10 => ?_)
  refine t_cVi (n := 5) (C := RX11) (T := TX11) (N := 16) (As := [.int v2, .int v4, .int v6, .int v8, .int v10]) (rest := []) X hT (kt361_X11_build l G tag L F hT.2.2.2 x0 v2 v4 v6 v8 v10 mx gx) mx gx rfl rfl qw_1441 qw_1442 qw_1443 qw_2 qw_1444 ⟨rfl, by decide +kernel, by decide +kernel, by decide +kernel⟩ ⟨(Nat.le_of_ble_eq_true rfl), (Nat.le_of_ble_eq_true rfl)⟩ hl rfl rfl (Nat.le_of_ble_eq_true rfl) dL_law_1410 ⟨show cells + 0 ≤ 601024 from by omega, show slots + 0 ≤ 7293034 from by omega⟩ (fun r11 F H locs hT hr11 => ?_)
  refine W.widen (k := cells) (n := slots) (Nat.le_refl _) (Nat.le_refl _) ?_
  obtain ⟨hgr11, yr11⟩ := hr11
  have hf1 := (yr11.1 _ 1 (Or.inr (by decide)) (Or.inl (by rw [gx]; decide)) (Or.inr (by decide)) (Or.inr (by decide)) (Or.inr (by decide))).trans hf1
  have hf2 := (yr11.1 _ 6 (Or.inr (by decide)) (Or.inr (by decide)) (Or.inr (by decide)) (Or.inr (by decide)) (Or.inr (by decide))).trans hf2
  have hrd := (yr11.1 _ 8 (Or.inr (by decide)) (Or.inr (by decide)) (Or.inr (by decide)) (Or.inr (by decide)) (Or.inr (by decide))).trans hrd
  have hrs := (yr11.1 _ 10 (Or.inr (by decide)) (Or.inr (by decide)) (Or.inr (by decide)) (Or.inr (by decide)) (Or.inr (by decide))).trans hrs
  have hrn := (yr11.1 _ 11 (Or.inr (by decide)) (Or.inr (by decide)) (Or.inr (by decide)) (Or.inr (by decide)) (Or.inr (by decide))).trans hrn
  have hns := nsr_of (fun j => yr11.2 _ j (Or.inl grs)) (fun j => yr11.2 _ j (Or.inr grn)) hns
  refine lv_pop hx hb dL_law_1413 rfl ?_
  refine lv_aload_n hx hb dL_law_1414 rfl (lv_at hl 2 rfl) ?_
  refine lv_aload_n hx hb dL_law_1415 rfl (lv_at hl 4 rfl) ?_
  refine lv_iload hx hb dL_law_1416 (lv_at hl 0 rfl) ?_
  refine lv_iconst (v := 1) hx hb dL_law_1418 (by decide) ?_
  refine lv_iadd hx hb dL_law_1419 ?_
  refine lv_topi (fun z12 ez12 => ?_)
  have hz12 : z12.toInt = i.toInt + 1 := ar_add ez12 rfl (by decide : (1 : Int32).toInt = 1) (by omega) (by omega)
  refine va_sld hx hb hX hbl hbA hT.2.2.1 (vp_in_iff.mpr (by omega)) dL_law_1420 ?_
  refine lv_topi (fun v13 ev13 => ?_)
  refine lv_aload_n hx hb dL_law_1421 rfl (lv_at hl 4 rfl) ?_
  refine lv_iload hx hb dL_law_1422 (lv_at hl 0 rfl) ?_
  refine lv_iconst (v := 2) hx hb dL_law_1424 (by decide) ?_
  refine lv_iadd hx hb dL_law_1425 ?_
  refine lv_topi (fun z14 ez14 => ?_)
  have hz14 : z14.toInt = i.toInt + 2 := ar_add ez14 rfl (by decide : (2 : Int32).toInt = 2) (by omega) (by omega)
  refine va_sld hx hb hX hbl hbA hT.2.2.1 (vp_in_iff.mpr (by omega)) dL_law_1426 ?_
  refine lv_topi (fun v15 ev15 => ?_)
  refine lv_aload_n hx hb dL_law_1427 rfl (lv_at hl 4 rfl) ?_
  refine lv_iload hx hb dL_law_1428 (lv_at hl 0 rfl) ?_
  refine lv_iconst (v := 3) hx hb dL_law_1430 (by decide) ?_
  refine lv_iadd hx hb dL_law_1431 ?_
  refine lv_topi (fun z16 ez16 => ?_)
  have hz16 : z16.toInt = i.toInt + 3 := ar_add ez16 rfl (by decide : (3 : Int32).toInt = 3) (by omega) (by omega)
  refine va_sld hx hb hX hbl hbA hT.2.2.1 (vp_in_iff.mpr (by omega)) dL_law_1432 ?_
  refine lv_topi (fun v17 ev17 => ?_)
  refine lv_aload_n hx hb dL_law_1433 rfl (lv_at hl 4 rfl) ?_
  refine lv_iload hx hb dL_law_1434 (lv_at hl 0 rfl) ?_
  refine lv_iconst (v := 4) hx hb dL_law_1436 (by decide) ?_
  refine lv_iadd hx hb dL_law_1437 ?_
  refine lv_topi (fun z18 ez18 => ?_)
  have hz18 : z18.toInt = i.toInt + 4 := ar_add ez18 rfl (by decide : (4 : Int32).toInt = 4) (by omega) (by omega)
  refine va_sld hx hb hX hbl hbA hT.2.2.1 (vp_in_iff.mpr (by omega)) dL_law_1438 ?_
  refine lv_topi (fun v19 ev19 => ?_)
  refine lv_aload_n hx hb dL_law_1439 rfl (lv_at hl 4 rfl) ?_
  refine lv_iload hx hb dL_law_1440 (lv_at hl 0 rfl) ?_
  refine lv_iconst (v := 5) hx hb dL_law_1442 (by decide) ?_
  refine lv_iadd hx hb dL_law_1443 ?_
  refine lv_topi (fun z20 ez20 => ?_)
  have hz20 : z20.toInt = i.toInt + 5 := ar_add ez20 rfl (by decide : (5 : Int32).toInt = 5) (by omega) (by omega)
  refine va_sld hx hb hX hbl hbA hT.2.2.1 (vp_in_iff.mpr (by omega)) dL_law_1444 ?_
  refine lv_topi (fun v21 ev21 => ?_)
  refine t_cVi (n := 5) (C := RX13) (T := TX13) (N := 37) (As := [.int v13, .int v15, .int v17, .int v19, .int v21]) (rest := []) X hT (kp_X13_build l G tag L F hT.2.2.2 m0 v13 v15 v17 v19 v21 mm gm) mm gm rfl rfl qw_1446 qw_1447 qw_1448 qw_5 qw_1449 ⟨rfl, by decide +kernel, by decide +kernel, by decide +kernel⟩ ⟨(Nat.le_of_ble_eq_true rfl), (Nat.le_of_ble_eq_true rfl)⟩ hl rfl rfl (Nat.le_of_ble_eq_true rfl) dL_law_1445 ⟨show cells + 0 ≤ 601024 from by omega, show slots + 0 ≤ 7293034 from by omega⟩ (fun r22 F H locs hT hr22 => ?_)
  refine W.widen (k := cells) (n := slots) (Nat.le_refl _) (Nat.le_refl _) ?_
  obtain ⟨hgr22, yr22⟩ := hr22
  have hf1 := (yr22.1 _ 1 (Or.inr (by decide)) (Or.inl (by rw [gx]; decide)) (Or.inr (by decide)) (Or.inr (by decide))).trans hf1
  have hf2 := (yr22.1 _ 6 (Or.inr (by decide)) (Or.inr (by decide)) (Or.inr (by decide)) (Or.inr (by decide))).trans hf2
  have hrd := (yr22.1 _ 8 (Or.inr (by decide)) (Or.inr (by decide)) (Or.inr (by decide)) (Or.inr (by decide))).trans hrd
  have hrs := (yr22.1 _ 10 (Or.inr (by decide)) (Or.inr (by decide)) (Or.inr (by decide)) (Or.inr (by decide))).trans hrs
  have hrn := (yr22.1 _ 11 (Or.inr (by decide)) (Or.inr (by decide)) (Or.inr (by decide)) (Or.inr (by decide))).trans hrn
  have hns := nsr_of (fun j => yr22.2 _ j (by rw [grs]; decide) (by rw [grs]; decide)) (fun j => yr22.2 _ j (by rw [grn]; decide) (by rw [grn]; decide)) hns
  refine lv_pop hx hb dL_law_1448 rfl ?_
  refine lv_goto (tgt := 1828) hx hb dL_law_1449 (by decide) ?_
  exact kk tag L F H locs _ cells slots (by omega) (by omega) hT ⟨mx, gx, mm, gm, mo, go, f1, f2, hf1, hf2, hff, hf0, hf9, rd, rs, rn, hrd, mrd, grd, hrs, hrn, mrs, mrn, grs, grn, hns⟩ (lv_sub hl [0, 1, 2, 3, 4] rfl)
set_option maxHeartbeats 4000000 in
set_option maxRecDepth 100000 in
theorem law_c36 {p : Program} {e : Env} {s : State} {m : MethodId} {below : List Frame} {meth : Method} {c : Code} (l : Launch) (G : KG) (b : Nat) (xs : Nat → Int32) {L9 : Nat} (hL9 : L9 ≤ 3072) (X : CX p s m #[Value.ref b] meth c cL_law 7 RL ret G (fun q : Nat => s.heap.size ≤ q) lw_tbl) (hX : va_X b L9 xs s s.heap) (hbl : b < s.heap.size) {H : Heap} {locs : List Loc} {ls : Array Slot} {cells slots : Nat} (hc : cells ≤ 600000) (hs : slots ≤ 7290000) {tag : Nat → Nat} {L : List Nat} {F : Nat → va_E} (x0 m0 o0 : Nat) (i : Int32) (hi : 0 ≤ i.toInt ∧ i.toInt + 6 ≤ (L9 : Int)) (hT : TH G ttC (fun q : Nat => s.heap.size ≤ q) s tag L F H locs) (hI : LINV tag L F x0 m0 o0) (hl : lv_has ls 7 [(4, .int i), (3, .ref o0), (2, .ref m0), (1, .ref x0), (0, .ref b)]) (kk : ∀ (tag1 : Nat → Nat) (L1 : List Nat) (F1 : Nat → va_E) (H1 : Heap) (locs1 : List Loc) (ls1 : Array Slot) (c1 s1 : Nat), c1 ≤ cells + 17 → s1 ≤ slots + 541 → TH G ttC (fun q : Nat => s.heap.size ≤ q) s tag1 L1 F1 H1 locs1 → LINV tag1 L1 F1 x0 m0 o0 → lv_has ls1 7 [(4, .int i), (3, .ref o0), (2, .ref m0), (1, .ref x0), (0, .ref b)] → W p l e room_1 s m #[Value.ref b] below meth c H1 locs1 c1 s1 (lw_Z below #[Value.ref b] s) (F0 m 1828 ls1 [])) : W p l e room_1 s m #[Value.ref b] below meth c H locs cells slots (lw_Z below #[Value.ref b] s) (F0 m 1452 ls []) := by
  have hx := X.1.1
  have hb := X.1.2.1
  have hbA : ¬ (fun q : Nat => s.heap.size ≤ q) b := Nat.not_le.mpr hbl
  have hL9i : (L9 : Int) ≤ 3072 := by omega
  obtain ⟨mx, gx, mm, gm, mo, go, f1, f2, hf1, hf2, hff, hf0, hf9, rd, rs, rn, hrd, mrd, grd, hrs, hrn, mrs, mrn, grs, grn, hns⟩ := hI
  refine lv_aload_n hx hb dL_law_1452 rfl (lv_at hl 3 rfl) ?_
  refine lv_aload_n hx hb dL_law_1453 rfl (lv_at hl 4 rfl) ?_
  refine lv_iload hx hb dL_law_1454 (lv_at hl 0 rfl) ?_
  refine lv_iconst (v := 1) hx hb dL_law_1456 (by decide) ?_
  refine lv_iadd hx hb dL_law_1457 ?_
  refine lv_topi (fun z1 ez1 => ?_)
  have hz1 : z1.toInt = i.toInt + 1 := ar_add ez1 rfl (by decide : (1 : Int32).toInt = 1) (by omega) (by omega)
  refine va_sld hx hb hX hbl hbA hT.2.2.1 (vp_in_iff.mpr (by omega)) dL_law_1458 ?_
  refine lv_topi (fun v2 ev2 => ?_)
  refine lv_aload_n hx hb dL_law_1459 rfl (lv_at hl 4 rfl) ?_
  refine lv_iload hx hb dL_law_1460 (lv_at hl 0 rfl) ?_
  refine lv_iconst (v := 2) hx hb dL_law_1462 (by decide) ?_
  refine lv_iadd hx hb dL_law_1463 ?_
  refine lv_topi (fun z3 ez3 => ?_)
  have hz3 : z3.toInt = i.toInt + 2 := ar_add ez3 rfl (by decide : (2 : Int32).toInt = 2) (by omega) (by omega)
  refine va_sld hx hb hX hbl hbA hT.2.2.1 (vp_in_iff.mpr (by omega)) dL_law_1464 ?_
  refine lv_topi (fun v4 ev4 => ?_)
  refine t_cVi (n := 2) (C := RX11) (T := TX11) (N := 16) (As := [.int v2, .int v4]) (rest := []) X hT (kt369_X11_fill l G tag L F hT.2.2.2 x0 v2 v4 mx gx) mx gx rfl rfl qw_1450 qw_1451 qw_1452 qw_2 qw_1453 ⟨rfl, by decide +kernel, by decide +kernel, by decide +kernel⟩ ⟨(Nat.le_of_ble_eq_true rfl), (Nat.le_of_ble_eq_true rfl)⟩ hl rfl rfl (Nat.le_of_ble_eq_true rfl) dL_law_1465 ⟨show cells + 0 ≤ 601024 from by omega, show slots + 0 ≤ 7293034 from by omega⟩ (fun r5 F H locs hT hr5 => ?_)
  refine W.widen (k := cells) (n := slots) (Nat.le_refl _) (Nat.le_refl _) ?_
  obtain ⟨hgr5, yr5⟩ := hr5
  have hf1 := (yr5.1 _ 1 (Or.inr (by decide)) (Or.inl (by rw [gx]; decide)) (Or.inr (by decide)) (Or.inr (by decide)) (Or.inr (by decide))).trans hf1
  have hf2 := (yr5.1 _ 6 (Or.inr (by decide)) (Or.inr (by decide)) (Or.inr (by decide)) (Or.inr (by decide)) (Or.inr (by decide))).trans hf2
  have hrd := (yr5.1 _ 8 (Or.inr (by decide)) (Or.inr (by decide)) (Or.inr (by decide)) (Or.inr (by decide)) (Or.inr (by decide))).trans hrd
  have hrs := (yr5.1 _ 10 (Or.inr (by decide)) (Or.inr (by decide)) (Or.inr (by decide)) (Or.inr (by decide)) (Or.inr (by decide))).trans hrs
  have hrn := (yr5.1 _ 11 (Or.inr (by decide)) (Or.inr (by decide)) (Or.inr (by decide)) (Or.inr (by decide)) (Or.inr (by decide))).trans hrn
  have hns := nsr_of (fun j => yr5.2 _ j (Or.inl grs)) (fun j => yr5.2 _ j (Or.inr grn)) hns
  refine lv_pop hx hb dL_law_1468 rfl ?_
  refine lv_aload_n hx hb dL_law_1469 rfl (lv_at hl 2 rfl) ?_
  refine lv_aload_n hx hb dL_law_1470 rfl (lv_at hl 4 rfl) ?_
  refine lv_iload hx hb dL_law_1471 (lv_at hl 0 rfl) ?_
  refine lv_iconst (v := 1) hx hb dL_law_1473 (by decide) ?_
  refine lv_iadd hx hb dL_law_1474 ?_
  refine lv_topi (fun z6 ez6 => ?_)
  have hz6 : z6.toInt = i.toInt + 1 := ar_add ez6 rfl (by decide : (1 : Int32).toInt = 1) (by omega) (by omega)
  refine va_sld hx hb hX hbl hbA hT.2.2.1 (vp_in_iff.mpr (by omega)) dL_law_1475 ?_
  refine lv_topi (fun v7 ev7 => ?_)
  refine lv_aload_n hx hb dL_law_1476 rfl (lv_at hl 4 rfl) ?_
  refine lv_iload hx hb dL_law_1477 (lv_at hl 0 rfl) ?_
  refine lv_iconst (v := 2) hx hb dL_law_1479 (by decide) ?_
  refine lv_iadd hx hb dL_law_1480 ?_
  refine lv_topi (fun z8 ez8 => ?_)
  have hz8 : z8.toInt = i.toInt + 2 := ar_add ez8 rfl (by decide : (2 : Int32).toInt = 2) (by omega) (by omega)
  refine va_sld hx hb hX hbl hbA hT.2.2.1 (vp_in_iff.mpr (by omega)) dL_law_1481 ?_
  refine lv_topi (fun v9 ev9 => ?_)
  refine t_cVi (n := 2) (C := RX13) (T := TX13) (N := 37) (As := [.int v7, .int v9]) (rest := []) X hT (kp_X13_fill l G tag L F hT.2.2.2 m0 v7 v9 mm gm) mm gm rfl rfl qw_1464 qw_1465 qw_1466 qw_5 qw_1467 ⟨rfl, by decide +kernel, by decide +kernel, by decide +kernel⟩ ⟨(Nat.le_of_ble_eq_true rfl), (Nat.le_of_ble_eq_true rfl)⟩ hl rfl rfl (Nat.le_of_ble_eq_true rfl) dL_law_1482 ⟨show cells + 0 ≤ 601024 from by omega, show slots + 0 ≤ 7293034 from by omega⟩ (fun r10 F H locs hT hr10 => ?_)
  refine W.widen (k := cells) (n := slots) (Nat.le_refl _) (Nat.le_refl _) ?_
  obtain ⟨hgr10, yr10⟩ := hr10
  have hf1 := (yr10.1 _ 1 (Or.inr (by decide)) (Or.inl (by rw [gx]; decide)) (Or.inr (by decide)) (Or.inr (by decide))).trans hf1
  have hf2 := (yr10.1 _ 6 (Or.inr (by decide)) (Or.inr (by decide)) (Or.inr (by decide)) (Or.inr (by decide))).trans hf2
  have hrd := (yr10.1 _ 8 (Or.inr (by decide)) (Or.inr (by decide)) (Or.inr (by decide)) (Or.inr (by decide))).trans hrd
  have hrs := (yr10.1 _ 10 (Or.inr (by decide)) (Or.inr (by decide)) (Or.inr (by decide)) (Or.inr (by decide))).trans hrs
  have hrn := (yr10.1 _ 11 (Or.inr (by decide)) (Or.inr (by decide)) (Or.inr (by decide)) (Or.inr (by decide))).trans hrn
  have hns := nsr_of (fun j => yr10.2 _ j (by rw [grs]; decide) (by rw [grs]; decide)) (fun j => yr10.2 _ j (by rw [grn]; decide) (by rw [grn]; decide)) hns
  refine lv_pop hx hb dL_law_1485 rfl ?_
  refine lv_goto (tgt := 1828) hx hb dL_law_1486 (by decide) ?_
  exact kk tag L F H locs _ cells slots (by omega) (by omega) hT ⟨mx, gx, mm, gm, mo, go, f1, f2, hf1, hf2, hff, hf0, hf9, rd, rs, rn, hrd, mrd, grd, hrs, hrn, mrs, mrn, grs, grn, hns⟩ (lv_sub hl [0, 1, 2, 3, 4] rfl)
set_option maxHeartbeats 4000000 in
set_option maxRecDepth 100000 in
theorem law_c37 {p : Program} {e : Env} {s : State} {m : MethodId} {below : List Frame} {meth : Method} {c : Code} (l : Launch) (G : KG) (b : Nat) (xs : Nat → Int32) {L9 : Nat} (hL9 : L9 ≤ 3072) (X : CX p s m #[Value.ref b] meth c cL_law 7 RL ret G (fun q : Nat => s.heap.size ≤ q) lw_tbl) (hX : va_X b L9 xs s s.heap) (hbl : b < s.heap.size) {H : Heap} {locs : List Loc} {ls : Array Slot} {cells slots : Nat} (hc : cells ≤ 600000) (hs : slots ≤ 7290000) {tag : Nat → Nat} {L : List Nat} {F : Nat → va_E} (x0 m0 o0 : Nat) (i : Int32) (hi : 0 ≤ i.toInt ∧ i.toInt + 6 ≤ (L9 : Int)) (hT : TH G ttC (fun q : Nat => s.heap.size ≤ q) s tag L F H locs) (hI : LINV tag L F x0 m0 o0) (hl : lv_has ls 7 [(4, .int i), (3, .ref o0), (2, .ref m0), (1, .ref x0), (0, .ref b)]) (kk : ∀ (tag1 : Nat → Nat) (L1 : List Nat) (F1 : Nat → va_E) (H1 : Heap) (locs1 : List Loc) (ls1 : Array Slot) (c1 s1 : Nat), c1 ≤ cells + 17 → s1 ≤ slots + 541 → TH G ttC (fun q : Nat => s.heap.size ≤ q) s tag1 L1 F1 H1 locs1 → LINV tag1 L1 F1 x0 m0 o0 → lv_has ls1 7 [(4, .int i), (3, .ref o0), (2, .ref m0), (1, .ref x0), (0, .ref b)] → W p l e room_1 s m #[Value.ref b] below meth c H1 locs1 c1 s1 (lw_Z below #[Value.ref b] s) (F0 m 1828 ls1 [])) : W p l e room_1 s m #[Value.ref b] below meth c H locs cells slots (lw_Z below #[Value.ref b] s) (F0 m 1489 ls []) := by
  have hx := X.1.1
  have hb := X.1.2.1
  have hbA : ¬ (fun q : Nat => s.heap.size ≤ q) b := Nat.not_le.mpr hbl
  have hL9i : (L9 : Int) ≤ 3072 := by omega
  obtain ⟨mx, gx, mm, gm, mo, go, f1, f2, hf1, hf2, hff, hf0, hf9, rd, rs, rn, hrd, mrd, grd, hrs, hrn, mrs, mrn, grs, grn, hns⟩ := hI
  refine lv_aload_n hx hb dL_law_1489 rfl (lv_at hl 3 rfl) ?_
  refine lv_aload_n hx hb dL_law_1490 rfl (lv_at hl 4 rfl) ?_
  refine lv_iload hx hb dL_law_1491 (lv_at hl 0 rfl) ?_
  refine lv_iconst (v := 1) hx hb dL_law_1493 (by decide) ?_
  refine lv_iadd hx hb dL_law_1494 ?_
  refine lv_topi (fun z1 ez1 => ?_)
  have hz1 : z1.toInt = i.toInt + 1 := ar_add ez1 rfl (by decide : (1 : Int32).toInt = 1) (by omega) (by omega)
  refine va_sld hx hb hX hbl hbA hT.2.2.1 (vp_in_iff.mpr (by omega)) dL_law_1495 ?_
  refine lv_topi (fun v2 ev2 => ?_)
  refine t_cVi (n := 1) (C := RX11) (T := TX11) (N := 16) (As := [.int v2]) (rest := []) X hT (kt417_X11_take l G tag L F hT.2.2.2 x0 v2 mx gx) mx gx rfl rfl qw_1476 qw_1477 qw_1478 qw_2 qw_1479 ⟨rfl, by decide +kernel, by decide +kernel, by decide +kernel⟩ ⟨(Nat.le_of_ble_eq_true rfl), (Nat.le_of_ble_eq_true rfl)⟩ hl rfl rfl (Nat.le_of_ble_eq_true rfl) dL_law_1496 ⟨show cells + 0 ≤ 601024 from by omega, show slots + 0 ≤ 7293034 from by omega⟩ (fun r3 F H locs hT hr3 => ?_)
  refine W.widen (k := cells) (n := slots) (Nat.le_refl _) (Nat.le_refl _) ?_
  obtain ⟨hgr3, yr3⟩ := hr3
  have hf1 := (yr3.1 _ 1 (Or.inr (by decide)) (Or.inl (by rw [gx]; decide)) (Or.inr (by decide)) (Or.inr (by decide)) (Or.inr (by decide))).trans hf1
  have hf2 := (yr3.1 _ 6 (Or.inr (by decide)) (Or.inr (by decide)) (Or.inr (by decide)) (Or.inr (by decide)) (Or.inr (by decide))).trans hf2
  have hrd := (yr3.1 _ 8 (Or.inr (by decide)) (Or.inr (by decide)) (Or.inr (by decide)) (Or.inr (by decide)) (Or.inr (by decide))).trans hrd
  have hrs := (yr3.1 _ 10 (Or.inr (by decide)) (Or.inr (by decide)) (Or.inr (by decide)) (Or.inr (by decide)) (Or.inr (by decide))).trans hrs
  have hrn := (yr3.1 _ 11 (Or.inr (by decide)) (Or.inr (by decide)) (Or.inr (by decide)) (Or.inr (by decide)) (Or.inr (by decide))).trans hrn
  have hns := nsr_of (fun j => yr3.2 _ j (Or.inl grs)) (fun j => yr3.2 _ j (Or.inr grn)) hns
  refine lv_pop hx hb dL_law_1499 rfl ?_
  refine lv_aload_n hx hb dL_law_1500 rfl (lv_at hl 2 rfl) ?_
  refine lv_aload_n hx hb dL_law_1501 rfl (lv_at hl 4 rfl) ?_
  refine lv_iload hx hb dL_law_1502 (lv_at hl 0 rfl) ?_
  refine lv_iconst (v := 1) hx hb dL_law_1504 (by decide) ?_
  refine lv_iadd hx hb dL_law_1505 ?_
  refine lv_topi (fun z4 ez4 => ?_)
  have hz4 : z4.toInt = i.toInt + 1 := ar_add ez4 rfl (by decide : (1 : Int32).toInt = 1) (by omega) (by omega)
  refine va_sld hx hb hX hbl hbA hT.2.2.1 (vp_in_iff.mpr (by omega)) dL_law_1506 ?_
  refine lv_topi (fun v5 ev5 => ?_)
  refine t_cVi (n := 1) (C := RX13) (T := TX13) (N := 37) (As := [.int v5]) (rest := []) X hT (kp_X13_take l G tag L F hT.2.2.2 m0 v5 mm gm) mm gm rfl rfl qw_1481 qw_1482 qw_1483 qw_5 qw_1484 ⟨rfl, by decide +kernel, by decide +kernel, by decide +kernel⟩ ⟨(Nat.le_of_ble_eq_true rfl), (Nat.le_of_ble_eq_true rfl)⟩ hl rfl rfl (Nat.le_of_ble_eq_true rfl) dL_law_1507 ⟨show cells + 0 ≤ 601024 from by omega, show slots + 0 ≤ 7293034 from by omega⟩ (fun r6 F H locs hT hr6 => ?_)
  refine W.widen (k := cells) (n := slots) (Nat.le_refl _) (Nat.le_refl _) ?_
  obtain ⟨hgr6, yr6⟩ := hr6
  have hf1 := (yr6.1 _ 1 (Or.inr (by decide)) (Or.inl (by rw [gx]; decide)) (Or.inr (by decide)) (Or.inr (by decide))).trans hf1
  have hf2 := (yr6.1 _ 6 (Or.inr (by decide)) (Or.inr (by decide)) (Or.inr (by decide)) (Or.inr (by decide))).trans hf2
  have hrd := (yr6.1 _ 8 (Or.inr (by decide)) (Or.inr (by decide)) (Or.inr (by decide)) (Or.inr (by decide))).trans hrd
  have hrs := (yr6.1 _ 10 (Or.inr (by decide)) (Or.inr (by decide)) (Or.inr (by decide)) (Or.inr (by decide))).trans hrs
  have hrn := (yr6.1 _ 11 (Or.inr (by decide)) (Or.inr (by decide)) (Or.inr (by decide)) (Or.inr (by decide))).trans hrn
  have hns := nsr_of (fun j => yr6.2 _ j (by rw [grs]; decide) (by rw [grs]; decide)) (fun j => yr6.2 _ j (by rw [grn]; decide) (by rw [grn]; decide)) hns
  refine lv_pop hx hb dL_law_1510 rfl ?_
  refine lv_goto (tgt := 1828) hx hb dL_law_1511 (by decide) ?_
  exact kk tag L F H locs _ cells slots (by omega) (by omega) hT ⟨mx, gx, mm, gm, mo, go, f1, f2, hf1, hf2, hff, hf0, hf9, rd, rs, rn, hrd, mrd, grd, hrs, hrn, mrs, mrn, grs, grn, hns⟩ (lv_sub hl [0, 1, 2, 3, 4] rfl)
set_option maxHeartbeats 4000000 in
set_option maxRecDepth 100000 in
theorem law_c38 {p : Program} {e : Env} {s : State} {m : MethodId} {below : List Frame} {meth : Method} {c : Code} (l : Launch) (G : KG) (b : Nat) (xs : Nat → Int32) {L9 : Nat} (hL9 : L9 ≤ 3072) (X : CX p s m #[Value.ref b] meth c cL_law 7 RL ret G (fun q : Nat => s.heap.size ≤ q) lw_tbl) (hX : va_X b L9 xs s s.heap) (hbl : b < s.heap.size) {H : Heap} {locs : List Loc} {ls : Array Slot} {cells slots : Nat} (hc : cells ≤ 600000) (hs : slots ≤ 7290000) {tag : Nat → Nat} {L : List Nat} {F : Nat → va_E} (x0 m0 o0 : Nat) (i : Int32) (hi : 0 ≤ i.toInt ∧ i.toInt + 6 ≤ (L9 : Int)) (hT : TH G ttC (fun q : Nat => s.heap.size ≤ q) s tag L F H locs) (hI : LINV tag L F x0 m0 o0) (hl : lv_has ls 7 [(4, .int i), (3, .ref o0), (2, .ref m0), (1, .ref x0), (0, .ref b)]) (kk : ∀ (tag1 : Nat → Nat) (L1 : List Nat) (F1 : Nat → va_E) (H1 : Heap) (locs1 : List Loc) (ls1 : Array Slot) (c1 s1 : Nat), c1 ≤ cells + 17 → s1 ≤ slots + 541 → TH G ttC (fun q : Nat => s.heap.size ≤ q) s tag1 L1 F1 H1 locs1 → LINV tag1 L1 F1 x0 m0 o0 → lv_has ls1 7 [(4, .int i), (3, .ref o0), (2, .ref m0), (1, .ref x0), (0, .ref b)] → W p l e room_1 s m #[Value.ref b] below meth c H1 locs1 c1 s1 (lw_Z below #[Value.ref b] s) (F0 m 1828 ls1 [])) : W p l e room_1 s m #[Value.ref b] below meth c H locs cells slots (lw_Z below #[Value.ref b] s) (F0 m 1514 ls []) := by
  have hx := X.1.1
  have hb := X.1.2.1
  have hbA : ¬ (fun q : Nat => s.heap.size ≤ q) b := Nat.not_le.mpr hbl
  have hL9i : (L9 : Int) ≤ 3072 := by omega
  obtain ⟨mx, gx, mm, gm, mo, go, f1, f2, hf1, hf2, hff, hf0, hf9, rd, rs, rn, hrd, mrd, grd, hrs, hrn, mrs, mrn, grs, grn, hns⟩ := hI
  refine lv_aload_n hx hb dL_law_1514 rfl (lv_at hl 3 rfl) ?_
  refine lv_aload_n hx hb dL_law_1515 rfl (lv_at hl 4 rfl) ?_
  refine lv_iload hx hb dL_law_1516 (lv_at hl 0 rfl) ?_
  refine lv_iconst (v := 1) hx hb dL_law_1518 (by decide) ?_
  refine lv_iadd hx hb dL_law_1519 ?_
  refine lv_topi (fun z1 ez1 => ?_)
  have hz1 : z1.toInt = i.toInt + 1 := ar_add ez1 rfl (by decide : (1 : Int32).toInt = 1) (by omega) (by omega)
  refine va_sld hx hb hX hbl hbA hT.2.2.1 (vp_in_iff.mpr (by omega)) dL_law_1520 ?_
  refine lv_topi (fun v2 ev2 => ?_)
  refine lv_aload_n hx hb dL_law_1521 rfl (lv_at hl 4 rfl) ?_
  refine lv_iload hx hb dL_law_1522 (lv_at hl 0 rfl) ?_
  refine lv_iconst (v := 2) hx hb dL_law_1524 (by decide) ?_
  refine lv_iadd hx hb dL_law_1525 ?_
  refine lv_topi (fun z3 ez3 => ?_)
  have hz3 : z3.toInt = i.toInt + 2 := ar_add ez3 rfl (by decide : (2 : Int32).toInt = 2) (by omega) (by omega)
  refine va_sld hx hb hX hbl hbA hT.2.2.1 (vp_in_iff.mpr (by omega)) dL_law_1526 ?_
  refine lv_topi (fun v4 ev4 => ?_)
  refine lv_aload_n hx hb dL_law_1527 rfl (lv_at hl 4 rfl) ?_
  refine lv_iload hx hb dL_law_1528 (lv_at hl 0 rfl) ?_
  refine lv_iconst (v := 3) hx hb dL_law_1530 (by decide) ?_
  refine lv_iadd hx hb dL_law_1531 ?_
  refine lv_topi (fun z5 ez5 => ?_)
  have hz5 : z5.toInt = i.toInt + 3 := ar_add ez5 rfl (by decide : (3 : Int32).toInt = 3) (by omega) (by omega)
  refine va_sld hx hb hX hbl hbA hT.2.2.1 (vp_in_iff.mpr (by omega)) dL_law_1532 ?_
  refine lv_topi (fun v6 ev6 => ?_)
  refine t_cVi (n := 3) (C := RX11) (T := TX11) (N := 16) (As := [.int v2, .int v4, .int v6]) (rest := []) X hT (kt396_X11_lock l G tag L F hT.2.2.2 x0 v2 v4 v6 mx gx) mx gx rfl rfl qw_1485 qw_1486 qw_1487 qw_2 qw_1488 ⟨rfl, by decide +kernel, by decide +kernel, by decide +kernel⟩ ⟨(Nat.le_of_ble_eq_true rfl), (Nat.le_of_ble_eq_true rfl)⟩ hl rfl rfl (Nat.le_of_ble_eq_true rfl) dL_law_1533 ⟨show cells + 0 ≤ 601024 from by omega, show slots + 0 ≤ 7293034 from by omega⟩ (fun r7 F H locs hT hr7 => ?_)
  refine W.widen (k := cells) (n := slots) (Nat.le_refl _) (Nat.le_refl _) ?_
  obtain ⟨hgr7, yr7⟩ := hr7
  have hf1 := (yr7.1 _ 1 (Or.inr (by decide)) (Or.inl (by rw [gx]; decide)) (Or.inr (by decide)) (Or.inr (by decide)) (Or.inr (by decide))).trans hf1
  have hf2 := (yr7.1 _ 6 (Or.inr (by decide)) (Or.inr (by decide)) (Or.inr (by decide)) (Or.inr (by decide)) (Or.inr (by decide))).trans hf2
  have hrd := (yr7.1 _ 8 (Or.inr (by decide)) (Or.inr (by decide)) (Or.inr (by decide)) (Or.inr (by decide)) (Or.inr (by decide))).trans hrd
  have hrs := (yr7.1 _ 10 (Or.inr (by decide)) (Or.inr (by decide)) (Or.inr (by decide)) (Or.inr (by decide)) (Or.inr (by decide))).trans hrs
  have hrn := (yr7.1 _ 11 (Or.inr (by decide)) (Or.inr (by decide)) (Or.inr (by decide)) (Or.inr (by decide)) (Or.inr (by decide))).trans hrn
  have hns := nsr_of (fun j => yr7.2 _ j (Or.inl grs)) (fun j => yr7.2 _ j (Or.inr grn)) hns
  refine lv_pop hx hb dL_law_1536 rfl ?_
  refine lv_aload_n hx hb dL_law_1537 rfl (lv_at hl 2 rfl) ?_
  refine lv_aload_n hx hb dL_law_1538 rfl (lv_at hl 4 rfl) ?_
  refine lv_iload hx hb dL_law_1539 (lv_at hl 0 rfl) ?_
  refine lv_iconst (v := 1) hx hb dL_law_1541 (by decide) ?_
  refine lv_iadd hx hb dL_law_1542 ?_
  refine lv_topi (fun z8 ez8 => ?_)
  have hz8 : z8.toInt = i.toInt + 1 := ar_add ez8 rfl (by decide : (1 : Int32).toInt = 1) (by omega) (by omega)
  refine va_sld hx hb hX hbl hbA hT.2.2.1 (vp_in_iff.mpr (by omega)) dL_law_1543 ?_
  refine lv_topi (fun v9 ev9 => ?_)
  refine lv_aload_n hx hb dL_law_1544 rfl (lv_at hl 4 rfl) ?_
  refine lv_iload hx hb dL_law_1545 (lv_at hl 0 rfl) ?_
  refine lv_iconst (v := 2) hx hb dL_law_1547 (by decide) ?_
  refine lv_iadd hx hb dL_law_1548 ?_
  refine lv_topi (fun z10 ez10 => ?_)
  have hz10 : z10.toInt = i.toInt + 2 := ar_add ez10 rfl (by decide : (2 : Int32).toInt = 2) (by omega) (by omega)
  refine va_sld hx hb hX hbl hbA hT.2.2.1 (vp_in_iff.mpr (by omega)) dL_law_1549 ?_
  refine lv_topi (fun v11 ev11 => ?_)
  refine lv_aload_n hx hb dL_law_1550 rfl (lv_at hl 4 rfl) ?_
  refine lv_iload hx hb dL_law_1551 (lv_at hl 0 rfl) ?_
  refine lv_iconst (v := 3) hx hb dL_law_1553 (by decide) ?_
  refine lv_iadd hx hb dL_law_1554 ?_
  refine lv_topi (fun z12 ez12 => ?_)
  have hz12 : z12.toInt = i.toInt + 3 := ar_add ez12 rfl (by decide : (3 : Int32).toInt = 3) (by omega) (by omega)
  refine va_sld hx hb hX hbl hbA hT.2.2.1 (vp_in_iff.mpr (by omega)) dL_law_1555 ?_
  refine lv_topi (fun v13 ev13 => ?_)
  refine t_cVi (n := 3) (C := RX13) (T := TX13) (N := 37) (As := [.int v9, .int v11, .int v13]) (rest := []) X hT (kp_X13_lock l G tag L F hT.2.2.2 m0 v9 v11 v13 mm gm) mm gm rfl rfl qw_1489 qw_1490 qw_1491 qw_5 qw_1492 ⟨rfl, by decide +kernel, by decide +kernel, by decide +kernel⟩ ⟨(Nat.le_of_ble_eq_true rfl), (Nat.le_of_ble_eq_true rfl)⟩ hl rfl rfl (Nat.le_of_ble_eq_true rfl) dL_law_1556 ⟨show cells + 0 ≤ 601024 from by omega, show slots + 0 ≤ 7293034 from by omega⟩ (fun r14 F H locs hT hr14 => ?_)
  refine W.widen (k := cells) (n := slots) (Nat.le_refl _) (Nat.le_refl _) ?_
  obtain ⟨hgr14, yr14⟩ := hr14
  have hf1 := (yr14.1 _ 1 (Or.inr (by decide)) (Or.inl (by rw [gx]; decide)) (Or.inr (by decide)) (Or.inr (by decide))).trans hf1
  have hf2 := (yr14.1 _ 6 (Or.inr (by decide)) (Or.inr (by decide)) (Or.inr (by decide)) (Or.inr (by decide))).trans hf2
  have hrd := (yr14.1 _ 8 (Or.inr (by decide)) (Or.inr (by decide)) (Or.inr (by decide)) (Or.inr (by decide))).trans hrd
  have hrs := (yr14.1 _ 10 (Or.inr (by decide)) (Or.inr (by decide)) (Or.inr (by decide)) (Or.inr (by decide))).trans hrs
  have hrn := (yr14.1 _ 11 (Or.inr (by decide)) (Or.inr (by decide)) (Or.inr (by decide)) (Or.inr (by decide))).trans hrn
  have hns := nsr_of (fun j => yr14.2 _ j (by rw [grs]; decide) (by rw [grs]; decide)) (fun j => yr14.2 _ j (by rw [grn]; decide) (by rw [grn]; decide)) hns
  refine lv_pop hx hb dL_law_1559 rfl ?_
  refine lv_goto (tgt := 1828) hx hb dL_law_1560 (by decide) ?_
  exact kk tag L F H locs _ cells slots (by omega) (by omega) hT ⟨mx, gx, mm, gm, mo, go, f1, f2, hf1, hf2, hff, hf0, hf9, rd, rs, rn, hrd, mrd, grd, hrs, hrn, mrs, mrn, grs, grn, hns⟩ (lv_sub hl [0, 1, 2, 3, 4] rfl)
