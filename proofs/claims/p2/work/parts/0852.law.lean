set_option maxHeartbeats 4000000 in
set_option maxRecDepth 100000 in
theorem law_c20 {p : Program} {e : Env} {s : State} {m : MethodId} {below : List Frame} {meth : Method} {c : Code} (l : Launch) (G : KG) (b : Nat) (xs : Nat → Int32) {L9 : Nat} (hL9 : L9 ≤ 3072) (X : CX p s m #[Value.ref b] meth c cL_law 7 RL ret G (fun q : Nat => s.heap.size ≤ q) lw_tbl) (hX : va_X b L9 xs s s.heap) (hbl : b < s.heap.size) {H : Heap} {locs : List Loc} {ls : Array Slot} {cells slots : Nat} (hc : cells ≤ 600000) (hs : slots ≤ 7290000) {tag : Nat → Nat} {L : List Nat} {F : Nat → va_E} (x0 m0 o0 : Nat) (i : Int32) (hi : 0 ≤ i.toInt ∧ i.toInt + 6 ≤ (L9 : Int)) (hT : TH G ttC (fun q : Nat => s.heap.size ≤ q) s tag L F H locs) (hI : LINV tag L F x0 m0 o0) (hl : lv_has ls 7 [(4, .int i), (3, .ref o0), (2, .ref m0), (1, .ref x0), (0, .ref b)]) (kk : ∀ (tag1 : Nat → Nat) (L1 : List Nat) (F1 : Nat → va_E) (H1 : Heap) (locs1 : List Loc) (ls1 : Array Slot) (c1 s1 : Nat), c1 ≤ cells + 17 → s1 ≤ slots + 541 → TH G ttC (fun q : Nat => s.heap.size ≤ q) s tag1 L1 F1 H1 locs1 → LINV tag1 L1 F1 x0 m0 o0 → lv_has ls1 7 [(4, .int i), (3, .ref o0), (2, .ref m0), (1, .ref x0), (0, .ref b)] → W p l e room_1 s m #[Value.ref b] below meth c H1 locs1 c1 s1 (lw_Z below #[Value.ref b] s) (F0 m 1828 ls1 [])) : W p l e room_1 s m #[Value.ref b] below meth c H locs cells slots (lw_Z below #[Value.ref b] s) (F0 m 920 ls []) := by
  have hx := X.1.1
  have hb := X.1.2.1
  have hbA : ¬ (fun q : Nat => s.heap.size ≤ q) b := Nat.not_le.mpr hbl
  have hL9i : (L9 : Int) ≤ 3072 := by omega
  obtain ⟨mx, gx, mm, gm, mo, go, f1, f2, hf1, hf2, hff, hf0, hf9, rd, rs, rn, hrd, mrd, grd, hrs, hrn, mrs, mrn, grs, grn, hns⟩ := hI
  refine lv_aload_n hx hb dL_law_920 rfl (lv_at hl 3 rfl) ?_
  refine lv_aload_n hx hb dL_law_921 rfl (lv_at hl 4 rfl) ?_
  refine lv_iload hx hb dL_law_922 (lv_at hl 0 rfl) ?_
  refine lv_iconst (v := 1) hx hb dL_law_924 (by decide) ?_
  refine lv_iadd hx hb dL_law_925 ?_
  refine lv_topi (fun z1 ez1 => ?_)
  have hz1 : z1.toInt = i.toInt + 1 := ar_add ez1 rfl (by decide : (1 : Int32).toInt = 1) (by omega) (by omega)
  refine va_sld hx hb hX hbl hbA hT.2.2.1 (vp_in_iff.mpr (by omega)) dL_law_926 ?_
  refine lv_topi (fun v2 ev2 => ?_)
  refine t_cVi (n := 1) (C := RX11) (T := TX11) (N := 16) (As := [.int v2]) (rest := []) X hT (kt413_X11_skinsIn l G tag L F hT.2.2.2 x0 v2 mx gx) mx gx rfl rfl qw_1178 qw_1179 qw_1180 qw_2 qw_1181 ⟨rfl, by decide +kernel, by decide +kernel, by decide +kernel⟩ ⟨(Nat.le_of_ble_eq_true rfl), (Nat.le_of_ble_eq_true rfl)⟩ hl rfl rfl (Nat.le_of_ble_eq_true rfl) dL_law_927 ⟨show cells + 0 ≤ 601024 from by omega, show slots + 0 ≤ 7293034 from by omega⟩ (fun r3 F H locs hT hr3 => ?_)
  refine W.widen (k := cells) (n := slots) (Nat.le_refl _) (Nat.le_refl _) ?_
  obtain ⟨hgr3, yr3⟩ := hr3
  have hf1 := (yr3.1 _ 1 (Or.inr (by decide)) (Or.inl (by rw [gx]; decide)) (Or.inr (by decide))).trans hf1
  have hf2 := (yr3.1 _ 6 (Or.inr (by decide)) (Or.inr (by decide)) (Or.inr (by decide))).trans hf2
  have hrd := (yr3.1 _ 8 (Or.inr (by decide)) (Or.inr (by decide)) (Or.inr (by decide))).trans hrd
  have hrs := (yr3.1 _ 10 (Or.inr (by decide)) (Or.inr (by decide)) (Or.inr (by decide))).trans hrs
  have hrn := (yr3.1 _ 11 (Or.inr (by decide)) (Or.inr (by decide)) (Or.inr (by decide))).trans hrn
  have hns := nsr_of (fun j => yr3.2 _ j (Or.inl grs)) (fun j => yr3.2 _ j (Or.inr grn)) hns
  refine lv_pop hx hb dL_law_930 rfl ?_
  refine lv_aload_n hx hb dL_law_931 rfl (lv_at hl 2 rfl) ?_
  refine lv_aload_n hx hb dL_law_932 rfl (lv_at hl 4 rfl) ?_
  refine lv_iload hx hb dL_law_933 (lv_at hl 0 rfl) ?_
  refine lv_iconst (v := 1) hx hb dL_law_935 (by decide) ?_
  refine lv_iadd hx hb dL_law_936 ?_
  refine lv_topi (fun z4 ez4 => ?_)
  have hz4 : z4.toInt = i.toInt + 1 := ar_add ez4 rfl (by decide : (1 : Int32).toInt = 1) (by omega) (by omega)
  refine va_sld hx hb hX hbl hbA hT.2.2.1 (vp_in_iff.mpr (by omega)) dL_law_937 ?_
  refine lv_topi (fun v5 ev5 => ?_)
  refine t_cVi (n := 1) (C := RX13) (T := TX13) (N := 37) (As := [.int v5]) (rest := []) X hT (kp_X13_skinsIn l G tag L F hT.2.2.2 m0 v5 mm gm) mm gm rfl rfl qw_1186 qw_1187 qw_1188 qw_5 qw_1189 ⟨rfl, by decide +kernel, by decide +kernel, by decide +kernel⟩ ⟨(Nat.le_of_ble_eq_true rfl), (Nat.le_of_ble_eq_true rfl)⟩ hl rfl rfl (Nat.le_of_ble_eq_true rfl) dL_law_938 ⟨show cells + 0 ≤ 601024 from by omega, show slots + 0 ≤ 7293034 from by omega⟩ (fun r6 F H locs hT hr6 => ?_)
  refine W.widen (k := cells) (n := slots) (Nat.le_refl _) (Nat.le_refl _) ?_
  obtain ⟨hgr6, yr6⟩ := hr6
  have hf1 := (yr6.1 _ 1 (Or.inr (by decide)) (Or.inl (by rw [gx]; decide)) (Or.inr (by decide)) (Or.inr (by decide)) (Or.inr (by decide))).trans hf1
  have hf2 := (yr6.1 _ 6 (Or.inr (by decide)) (Or.inr (by decide)) (Or.inr (by decide)) (Or.inr (by decide)) (Or.inr (by decide))).trans hf2
  have hrd := (yr6.1 _ 8 (Or.inr (by decide)) (Or.inr (by decide)) (Or.inr (by decide)) (Or.inr (by decide)) (Or.inr (by decide))).trans hrd
  have hrs := (yr6.1 _ 10 (Or.inr (by decide)) (Or.inr (by decide)) (Or.inr (by decide)) (Or.inr (by decide)) (Or.inr (by decide))).trans hrs
  have hrn := (yr6.1 _ 11 (Or.inr (by decide)) (Or.inr (by decide)) (Or.inr (by decide)) (Or.inr (by decide)) (Or.inr (by decide))).trans hrn
  have hns := nsr_of (fun j => yr6.2 _ j (by rw [grs]; decide) (by rw [grs]; decide)) (fun j => yr6.2 _ j (by rw [grn]; decide) (by rw [grn]; decide)) hns
  refine lv_pop hx hb dL_law_941 rfl ?_
  refine lv_goto (tgt := 1828) hx hb dL_law_942 (by decide) ?_
  exact kk tag L F H locs _ cells slots (by omega) (by omega) hT ⟨mx, gx, mm, gm, mo, go, f1, f2, hf1, hf2, hff, hf0, hf9, rd, rs, rn, hrd, mrd, grd, hrs, hrn, mrs, mrn, grs, grn, hns⟩ (lv_sub hl [0, 1, 2, 3, 4] rfl)
set_option maxHeartbeats 4000000 in
set_option maxRecDepth 100000 in
theorem law_c21 {p : Program} {e : Env} {s : State} {m : MethodId} {below : List Frame} {meth : Method} {c : Code} (l : Launch) (G : KG) (b : Nat) (xs : Nat → Int32) {L9 : Nat} (hL9 : L9 ≤ 3072) (X : CX p s m #[Value.ref b] meth c cL_law 7 RL ret G (fun q : Nat => s.heap.size ≤ q) lw_tbl) (hX : va_X b L9 xs s s.heap) (hbl : b < s.heap.size) {H : Heap} {locs : List Loc} {ls : Array Slot} {cells slots : Nat} (hc : cells ≤ 600000) (hs : slots ≤ 7290000) {tag : Nat → Nat} {L : List Nat} {F : Nat → va_E} (x0 m0 o0 : Nat) (i : Int32) (hi : 0 ≤ i.toInt ∧ i.toInt + 6 ≤ (L9 : Int)) (hT : TH G ttC (fun q : Nat => s.heap.size ≤ q) s tag L F H locs) (hI : LINV tag L F x0 m0 o0) (hl : lv_has ls 7 [(4, .int i), (3, .ref o0), (2, .ref m0), (1, .ref x0), (0, .ref b)]) (kk : ∀ (tag1 : Nat → Nat) (L1 : List Nat) (F1 : Nat → va_E) (H1 : Heap) (locs1 : List Loc) (ls1 : Array Slot) (c1 s1 : Nat), c1 ≤ cells + 17 → s1 ≤ slots + 541 → TH G ttC (fun q : Nat => s.heap.size ≤ q) s tag1 L1 F1 H1 locs1 → LINV tag1 L1 F1 x0 m0 o0 → lv_has ls1 7 [(4, .int i), (3, .ref o0), (2, .ref m0), (1, .ref x0), (0, .ref b)] → W p l e room_1 s m #[Value.ref b] below meth c H1 locs1 c1 s1 (lw_Z below #[Value.ref b] s) (F0 m 1828 ls1 [])) : W p l e room_1 s m #[Value.ref b] below meth c H locs cells slots (lw_Z below #[Value.ref b] s) (F0 m 945 ls []) := by
  have hx := X.1.1
  have hb := X.1.2.1
  have hbA : ¬ (fun q : Nat => s.heap.size ≤ q) b := Nat.not_le.mpr hbl
  have hL9i : (L9 : Int) ≤ 3072 := by omega
  obtain ⟨mx, gx, mm, gm, mo, go, f1, f2, hf1, hf2, hff, hf0, hf9, rd, rs, rn, hrd, mrd, grd, hrs, hrn, mrs, mrn, grs, grn, hns⟩ := hI
  refine lv_aload_n hx hb dL_law_945 rfl (lv_at hl 3 rfl) ?_
  refine lv_aload_n hx hb dL_law_946 rfl (lv_at hl 4 rfl) ?_
  refine lv_iload hx hb dL_law_947 (lv_at hl 0 rfl) ?_
  refine lv_iconst (v := 1) hx hb dL_law_949 (by decide) ?_
  refine lv_iadd hx hb dL_law_950 ?_
  refine lv_topi (fun z1 ez1 => ?_)
  have hz1 : z1.toInt = i.toInt + 1 := ar_add ez1 rfl (by decide : (1 : Int32).toInt = 1) (by omega) (by omega)
  refine va_sld hx hb hX hbl hbA hT.2.2.1 (vp_in_iff.mpr (by omega)) dL_law_951 ?_
  refine lv_topi (fun v2 ev2 => ?_)
  refine lv_aload_n hx hb dL_law_952 rfl (lv_at hl 4 rfl) ?_
  refine lv_iload hx hb dL_law_953 (lv_at hl 0 rfl) ?_
  refine lv_iconst (v := 2) hx hb dL_law_955 (by decide) ?_
  refine lv_iadd hx hb dL_law_956 ?_
  refine lv_topi (fun z3 ez3 => ?_)
  have hz3 : z3.toInt = i.toInt + 2 := ar_add ez3 rfl (by decide : (2 : Int32).toInt = 2) (by omega) (by omega)
  refine va_sld hx hb hX hbl hbA hT.2.2.1 (vp_in_iff.mpr (by omega)) dL_law_957 ?_
  refine lv_topi (fun v4 ev4 => ?_)
  refine lv_aload_n hx hb dL_law_958 rfl (lv_at hl 4 rfl) ?_
  refine lv_iload hx hb dL_law_959 (lv_at hl 0 rfl) ?_
  refine lv_iconst (v := 3) hx hb dL_law_961 (by decide) ?_
  refine lv_iadd hx hb dL_law_962 ?_
  refine lv_topi (fun z5 ez5 => ?_)
  have hz5 : z5.toInt = i.toInt + 3 := ar_add ez5 rfl (by decide : (3 : Int32).toInt = 3) (by omega) (by omega)
  refine va_sld hx hb hX hbl hbA hT.2.2.1 (vp_in_iff.mpr (by omega)) dL_law_963 ?_
  refine lv_topi (fun v6 ev6 => ?_)
  refine t_cVi (n := 3) (C := RX11) (T := TX11) (N := 16) (As := [.int v2, .int v4, .int v6]) (rest := []) X hT (kt399_X11_meet l G tag L F hT.2.2.2 x0 v2 v4 v6 mx gx) mx gx rfl rfl qw_1193 qw_1194 qw_1195 qw_2 qw_1196 ⟨rfl, by decide +kernel, by decide +kernel, by decide +kernel⟩ ⟨(Nat.le_of_ble_eq_true rfl), (Nat.le_of_ble_eq_true rfl)⟩ hl rfl rfl (Nat.le_of_ble_eq_true rfl) dL_law_964 ⟨show cells + 0 ≤ 601024 from by omega, show slots + 0 ≤ 7293034 from by omega⟩ (fun r7 F H locs hT hr7 => ?_)
  refine W.widen (k := cells) (n := slots) (Nat.le_refl _) (Nat.le_refl _) ?_
  obtain ⟨hgr7, yr7⟩ := hr7
  have hf1 := (yr7.1 _ 1 (Or.inr (by decide)) (Or.inl (by rw [gx]; decide)) (Or.inr (by decide))).trans hf1
  have hf2 := (yr7.1 _ 6 (Or.inr (by decide)) (Or.inr (by decide)) (Or.inr (by decide))).trans hf2
  have hrd := (yr7.1 _ 8 (Or.inr (by decide)) (Or.inr (by decide)) (Or.inr (by decide))).trans hrd
  have hrs := (yr7.1 _ 10 (Or.inr (by decide)) (Or.inr (by decide)) (Or.inr (by decide))).trans hrs
  have hrn := (yr7.1 _ 11 (Or.inr (by decide)) (Or.inr (by decide)) (Or.inr (by decide))).trans hrn
  have hns := nsr_of (fun j => yr7.2 _ j (Or.inl grs)) (fun j => yr7.2 _ j (Or.inr grn)) hns
  refine lv_pop hx hb dL_law_967 rfl ?_
  refine lv_aload_n hx hb dL_law_968 rfl (lv_at hl 2 rfl) ?_
  refine lv_aload_n hx hb dL_law_969 rfl (lv_at hl 4 rfl) ?_
  refine lv_iload hx hb dL_law_970 (lv_at hl 0 rfl) ?_
  refine lv_iconst (v := 1) hx hb dL_law_972 (by decide) ?_
  refine lv_iadd hx hb dL_law_973 ?_
  refine lv_topi (fun z8 ez8 => ?_)
  have hz8 : z8.toInt = i.toInt + 1 := ar_add ez8 rfl (by decide : (1 : Int32).toInt = 1) (by omega) (by omega)
  refine va_sld hx hb hX hbl hbA hT.2.2.1 (vp_in_iff.mpr (by omega)) dL_law_974 ?_
  refine lv_topi (fun v9 ev9 => ?_)
  refine lv_aload_n hx hb dL_law_975 rfl (lv_at hl 4 rfl) ?_
  refine lv_iload hx hb dL_law_976 (lv_at hl 0 rfl) ?_
  refine lv_iconst (v := 2) hx hb dL_law_978 (by decide) ?_
  refine lv_iadd hx hb dL_law_979 ?_
  refine lv_topi (fun z10 ez10 => ?_)
  have hz10 : z10.toInt = i.toInt + 2 := ar_add ez10 rfl (by decide : (2 : Int32).toInt = 2) (by omega) (by omega)
  refine va_sld hx hb hX hbl hbA hT.2.2.1 (vp_in_iff.mpr (by omega)) dL_law_980 ?_
  refine lv_topi (fun v11 ev11 => ?_)
  refine lv_aload_n hx hb dL_law_981 rfl (lv_at hl 4 rfl) ?_
  refine lv_iload hx hb dL_law_982 (lv_at hl 0 rfl) ?_
  refine lv_iconst (v := 3) hx hb dL_law_984 (by decide) ?_
  refine lv_iadd hx hb dL_law_985 ?_
  refine lv_topi (fun z12 ez12 => ?_)
  have hz12 : z12.toInt = i.toInt + 3 := ar_add ez12 rfl (by decide : (3 : Int32).toInt = 3) (by omega) (by omega)
  refine va_sld hx hb hX hbl hbA hT.2.2.1 (vp_in_iff.mpr (by omega)) dL_law_986 ?_
  refine lv_topi (fun v13 ev13 => ?_)
  refine t_cVi (n := 3) (C := RX13) (T := TX13) (N := 37) (As := [.int v9, .int v11, .int v13]) (rest := []) X hT (kp_X13_meet l G tag L F hT.2.2.2 m0 v9 v11 v13 mm gm) mm gm rfl rfl qw_1205 qw_1206 qw_1207 qw_5 qw_1208 ⟨rfl, by decide +kernel, by decide +kernel, by decide +kernel⟩ ⟨(Nat.le_of_ble_eq_true rfl), (Nat.le_of_ble_eq_true rfl)⟩ hl rfl rfl (Nat.le_of_ble_eq_true rfl) dL_law_987 ⟨show cells + 0 ≤ 601024 from by omega, show slots + 0 ≤ 7293034 from by omega⟩ (fun r14 F H locs hT hr14 => ?_)
  refine W.widen (k := cells) (n := slots) (Nat.le_refl _) (Nat.le_refl _) ?_
  obtain ⟨hgr14, yr14⟩ := hr14
  have hf1 := (yr14.1 _ 1 (Or.inr (by decide)) (Or.inl (by rw [gx]; decide)) (Or.inr (by decide)) (Or.inr (by decide)) (Or.inr (by decide))).trans hf1
  have hf2 := (yr14.1 _ 6 (Or.inr (by decide)) (Or.inr (by decide)) (Or.inr (by decide)) (Or.inr (by decide)) (Or.inr (by decide))).trans hf2
  have hrd := (yr14.1 _ 8 (Or.inr (by decide)) (Or.inr (by decide)) (Or.inr (by decide)) (Or.inr (by decide)) (Or.inr (by decide))).trans hrd
  have hrs := (yr14.1 _ 10 (Or.inr (by decide)) (Or.inr (by decide)) (Or.inr (by decide)) (Or.inr (by decide)) (Or.inr (by decide))).trans hrs
  have hrn := (yr14.1 _ 11 (Or.inr (by decide)) (Or.inr (by decide)) (Or.inr (by decide)) (Or.inr (by decide)) (Or.inr (by decide))).trans hrn
  have hns := nsr_of (fun j => yr14.2 _ j (by rw [grs]; decide) (by rw [grs]; decide)) (fun j => yr14.2 _ j (by rw [grn]; decide) (by rw [grn]; decide)) hns
  refine lv_pop hx hb dL_law_990 rfl ?_
  refine lv_goto (tgt := 1828) hx hb dL_law_991 (by decide) ?_
  exact kk tag L F H locs _ cells slots (by omega) (by omega) hT ⟨mx, gx, mm, gm, mo, go, f1, f2, hf1, hf2, hff, hf0, hf9, rd, rs, rn, hrd, mrd, grd, hrs, hrn, mrs, mrn, grs, grn, hns⟩ (lv_sub hl [0, 1, 2, 3, 4] rfl)
set_option maxHeartbeats 4000000 in
set_option maxRecDepth 100000 in
theorem law_c22 {p : Program} {e : Env} {s : State} {m : MethodId} {below : List Frame} {meth : Method} {c : Code} (l : Launch) (G : KG) (b : Nat) (xs : Nat → Int32) {L9 : Nat} (hL9 : L9 ≤ 3072) (X : CX p s m #[Value.ref b] meth c cL_law 7 RL ret G (fun q : Nat => s.heap.size ≤ q) lw_tbl) (hX : va_X b L9 xs s s.heap) (hbl : b < s.heap.size) {H : Heap} {locs : List Loc} {ls : Array Slot} {cells slots : Nat} (hc : cells ≤ 600000) (hs : slots ≤ 7290000) {tag : Nat → Nat} {L : List Nat} {F : Nat → va_E} (x0 m0 o0 : Nat) (i : Int32) (hi : 0 ≤ i.toInt ∧ i.toInt + 6 ≤ (L9 : Int)) (hT : TH G ttC (fun q : Nat => s.heap.size ≤ q) s tag L F H locs) (hI : LINV tag L F x0 m0 o0) (hl : lv_has ls 7 [(4, .int i), (3, .ref o0), (2, .ref m0), (1, .ref x0), (0, .ref b)]) (kk : ∀ (tag1 : Nat → Nat) (L1 : List Nat) (F1 : Nat → va_E) (H1 : Heap) (locs1 : List Loc) (ls1 : Array Slot) (c1 s1 : Nat), c1 ≤ cells + 17 → s1 ≤ slots + 541 → TH G ttC (fun q : Nat => s.heap.size ≤ q) s tag1 L1 F1 H1 locs1 → LINV tag1 L1 F1 x0 m0 o0 → lv_has ls1 7 [(4, .int i), (3, .ref o0), (2, .ref m0), (1, .ref x0), (0, .ref b)] → W p l e room_1 s m #[Value.ref b] below meth c H1 locs1 c1 s1 (lw_Z below #[Value.ref b] s) (F0 m 1828 ls1 [])) : W p l e room_1 s m #[Value.ref b] below meth c H locs cells slots (lw_Z below #[Value.ref b] s) (F0 m 994 ls []) := by
  have hx := X.1.1
  have hb := X.1.2.1
  have hbA : ¬ (fun q : Nat => s.heap.size ≤ q) b := Nat.not_le.mpr hbl
  have hL9i : (L9 : Int) ≤ 3072 := by omega
  obtain ⟨mx, gx, mm, gm, mo, go, f1, f2, hf1, hf2, hff, hf0, hf9, rd, rs, rn, hrd, mrd, grd, hrs, hrn, mrs, mrn, grs, grn, hns⟩ := hI
  refine lv_aload_n hx hb dL_law_994 rfl (lv_at hl 3 rfl) ?_
  refine lv_aload_n hx hb dL_law_995 rfl (lv_at hl 4 rfl) ?_
  refine lv_iload hx hb dL_law_996 (lv_at hl 0 rfl) ?_
  refine lv_iconst (v := 1) hx hb dL_law_998 (by decide) ?_
  refine lv_iadd hx hb dL_law_999 ?_
  refine lv_topi (fun z1 ez1 => ?_)
  have hz1 : z1.toInt = i.toInt + 1 := ar_add ez1 rfl (by decide : (1 : Int32).toInt = 1) (by omega) (by omega)
  refine va_sld hx hb hX hbl hbA hT.2.2.1 (vp_in_iff.mpr (by omega)) dL_law_1000 ?_
  refine lv_topi (fun v2 ev2 => ?_)
  refine lv_aload_n hx hb dL_law_1001 rfl (lv_at hl 4 rfl) ?_
  refine lv_iload hx hb dL_law_1002 (lv_at hl 0 rfl) ?_
  refine lv_iconst (v := 2) hx hb dL_law_1004 (by decide) ?_
  refine lv_iadd hx hb dL_law_1005 ?_
  refine lv_topi (fun z3 ez3 => ?_)
  have hz3 : z3.toInt = i.toInt + 2 := ar_add ez3 rfl (by decide : (2 : Int32).toInt = 2) (by omega) (by omega)
  refine va_sld hx hb hX hbl hbA hT.2.2.1 (vp_in_iff.mpr (by omega)) dL_law_1006 ?_
  refine lv_topi (fun v4 ev4 => ?_)
  refine lv_aload_n hx hb dL_law_1007 rfl (lv_at hl 4 rfl) ?_
  refine lv_iload hx hb dL_law_1008 (lv_at hl 0 rfl) ?_
  refine lv_iconst (v := 3) hx hb dL_law_1010 (by decide) ?_
  refine lv_iadd hx hb dL_law_1011 ?_
  refine lv_topi (fun z5 ez5 => ?_)
  have hz5 : z5.toInt = i.toInt + 3 := ar_add ez5 rfl (by decide : (3 : Int32).toInt = 3) (by omega) (by omega)
  refine va_sld hx hb hX hbl hbA hT.2.2.1 (vp_in_iff.mpr (by omega)) dL_law_1012 ?_
  refine lv_topi (fun v6 ev6 => ?_)
  refine t_cVi (n := 3) (C := RX11) (T := TX11) (N := 16) (As := [.int v2, .int v4, .int v6]) (rest := []) X hT (kt366_X11_falls l G tag L F hT.2.2.2 x0 v2 v4 v6 mx gx) mx gx rfl rfl qw_1213 qw_1214 qw_1215 qw_2 qw_1216 ⟨rfl, by decide +kernel, by decide +kernel, by decide +kernel⟩ ⟨(Nat.le_of_ble_eq_true rfl), (Nat.le_of_ble_eq_true rfl)⟩ hl rfl rfl (Nat.le_of_ble_eq_true rfl) dL_law_1013 ⟨show cells + 0 ≤ 601024 from by omega, show slots + 0 ≤ 7293034 from by omega⟩ (fun r7 F H locs hT hr7 => ?_)
  refine W.widen (k := cells) (n := slots) (Nat.le_refl _) (Nat.le_refl _) ?_
  obtain ⟨hgr7, yr7⟩ := hr7
  have hf1 := (yr7.1 _ 1 (Or.inr (by decide)) (Or.inl (by rw [gx]; decide)) (Or.inr (by decide))).trans hf1
  have hf2 := (yr7.1 _ 6 (Or.inr (by decide)) (Or.inr (by decide)) (Or.inr (by decide))).trans hf2
  have hrd := (yr7.1 _ 8 (Or.inr (by decide)) (Or.inr (by decide)) (Or.inr (by decide))).trans hrd
  have hrs := (yr7.1 _ 10 (Or.inr (by decide)) (Or.inr (by decide)) (Or.inr (by decide))).trans hrs
  have hrn := (yr7.1 _ 11 (Or.inr (by decide)) (Or.inr (by decide)) (Or.inr (by decide))).trans hrn
  have hns := nsr_of (fun j => yr7.2 _ j (Or.inl grs)) (fun j => yr7.2 _ j (Or.inr grn)) hns
  refine lv_pop hx hb dL_law_1016 rfl ?_
  refine lv_aload_n hx hb dL_law_1017 rfl (lv_at hl 2 rfl) ?_
  refine lv_aload_n hx hb dL_law_1018 rfl (lv_at hl 4 rfl) ?_
  refine lv_iload hx hb dL_law_1019 (lv_at hl 0 rfl) ?_
  refine lv_iconst (v := 1) hx hb dL_law_1021 (by decide) ?_
  refine lv_iadd hx hb dL_law_1022 ?_
  refine lv_topi (fun z8 ez8 => ?_)
  have hz8 : z8.toInt = i.toInt + 1 := ar_add ez8 rfl (by decide : (1 : Int32).toInt = 1) (by omega) (by omega)
  refine va_sld hx hb hX hbl hbA hT.2.2.1 (vp_in_iff.mpr (by omega)) dL_law_1023 ?_
  refine lv_topi (fun v9 ev9 => ?_)
  refine lv_aload_n hx hb dL_law_1024 rfl (lv_at hl 4 rfl) ?_
  refine lv_iload hx hb dL_law_1025 (lv_at hl 0 rfl) ?_
  refine lv_iconst (v := 2) hx hb dL_law_1027 (by decide) ?_
  refine lv_iadd hx hb dL_law_1028 ?_
  refine lv_topi (fun z10 ez10 => ?_)
  have hz10 : z10.toInt = i.toInt + 2 := ar_add ez10 rfl (by decide : (2 : Int32).toInt = 2) (by omega) (by omega)
  refine va_sld hx hb hX hbl hbA hT.2.2.1 (vp_in_iff.mpr (by omega)) dL_law_1029 ?_
  refine lv_topi (fun v11 ev11 => ?_)
  refine lv_aload_n hx hb dL_law_1030 rfl (lv_at hl 4 rfl) ?_
  refine lv_iload hx hb dL_law_1031 (lv_at hl 0 rfl) ?_
  refine lv_iconst (v := 3) hx hb dL_law_1033 (by decide) ?_
  refine lv_iadd hx hb dL_law_1034 ?_
  refine lv_topi (fun z12 ez12 => ?_)
  have hz12 : z12.toInt = i.toInt + 3 := ar_add ez12 rfl (by decide : (3 : Int32).toInt = 3) (by omega) (by omega)
  refine va_sld hx hb hX hbl hbA hT.2.2.1 (vp_in_iff.mpr (by omega)) dL_law_1035 ?_
  refine lv_topi (fun v13 ev13 => ?_)
  refine t_cVi (n := 3) (C := RX13) (T := TX13) (N := 37) (As := [.int v9, .int v11, .int v13]) (rest := []) X hT (kp_X13_falls l G tag L F hT.2.2.2 m0 v9 v11 v13 mm gm) mm gm rfl rfl qw_1217 qw_1218 qw_1219 qw_5 qw_1220 ⟨rfl, by decide +kernel, by decide +kernel, by decide +kernel⟩ ⟨(Nat.le_of_ble_eq_true rfl), (Nat.le_of_ble_eq_true rfl)⟩ hl rfl rfl (Nat.le_of_ble_eq_true rfl) dL_law_1036 ⟨show cells + 0 ≤ 601024 from by omega, show slots + 0 ≤ 7293034 from by omega⟩ (fun r14 F H locs hT hr14 => ?_)
  refine W.widen (k := cells) (n := slots) (Nat.le_refl _) (Nat.le_refl _) ?_
  obtain ⟨hgr14, yr14⟩ := hr14
  have hf1 := (yr14.1 _ 1 (Or.inr (by decide)) (Or.inl (by rw [gx]; decide)) (Or.inr (by decide)) (Or.inr (by decide)) (Or.inr (by decide))).trans hf1
  have hf2 := (yr14.1 _ 6 (Or.inr (by decide)) (Or.inr (by decide)) (Or.inr (by decide)) (Or.inr (by decide)) (Or.inr (by decide))).trans hf2
  have hrd := (yr14.1 _ 8 (Or.inr (by decide)) (Or.inr (by decide)) (Or.inr (by decide)) (Or.inr (by decide)) (Or.inr (by decide))).trans hrd
  have hrs := (yr14.1 _ 10 (Or.inr (by decide)) (Or.inr (by decide)) (Or.inr (by decide)) (Or.inr (by decide)) (Or.inr (by decide))).trans hrs
  have hrn := (yr14.1 _ 11 (Or.inr (by decide)) (Or.inr (by decide)) (Or.inr (by decide)) (Or.inr (by decide)) (Or.inr (by decide))).trans hrn
  have hns := nsr_of (fun j => yr14.2 _ j (by rw [grs]; decide) (by rw [grs]; decide)) (fun j => yr14.2 _ j (by rw [grn]; decide) (by rw [grn]; decide)) hns
  refine lv_pop hx hb dL_law_1039 rfl ?_
  refine lv_goto (tgt := 1828) hx hb dL_law_1040 (by decide) ?_
  exact kk tag L F H locs _ cells slots (by omega) (by omega) hT ⟨mx, gx, mm, gm, mo, go, f1, f2, hf1, hf2, hff, hf0, hf9, rd, rs, rn, hrd, mrd, grd, hrs, hrn, mrs, mrn, grs, grn, hns⟩ (lv_sub hl [0, 1, 2, 3, 4] rfl)
set_option maxHeartbeats 4000000 in
set_option maxRecDepth 100000 in
theorem law_c23 {p : Program} {e : Env} {s : State} {m : MethodId} {below : List Frame} {meth : Method} {c : Code} (l : Launch) (G : KG) (b : Nat) (xs : Nat → Int32) {L9 : Nat} (hL9 : L9 ≤ 3072) (X : CX p s m #[Value.ref b] meth c cL_law 7 RL ret G (fun q : Nat => s.heap.size ≤ q) lw_tbl) (hX : va_X b L9 xs s s.heap) (hbl : b < s.heap.size) {H : Heap} {locs : List Loc} {ls : Array Slot} {cells slots : Nat} (hc : cells ≤ 600000) (hs : slots ≤ 7290000) {tag : Nat → Nat} {L : List Nat} {F : Nat → va_E} (x0 m0 o0 : Nat) (i : Int32) (hi : 0 ≤ i.toInt ∧ i.toInt + 6 ≤ (L9 : Int)) (hT : TH G ttC (fun q : Nat => s.heap.size ≤ q) s tag L F H locs) (hI : LINV tag L F x0 m0 o0) (hl : lv_has ls 7 [(4, .int i), (3, .ref o0), (2, .ref m0), (1, .ref x0), (0, .ref b)]) (kk : ∀ (tag1 : Nat → Nat) (L1 : List Nat) (F1 : Nat → va_E) (H1 : Heap) (locs1 : List Loc) (ls1 : Array Slot) (c1 s1 : Nat), c1 ≤ cells + 17 → s1 ≤ slots + 541 → TH G ttC (fun q : Nat => s.heap.size ≤ q) s tag1 L1 F1 H1 locs1 → LINV tag1 L1 F1 x0 m0 o0 → lv_has ls1 7 [(4, .int i), (3, .ref o0), (2, .ref m0), (1, .ref x0), (0, .ref b)] → W p l e room_1 s m #[Value.ref b] below meth c H1 locs1 c1 s1 (lw_Z below #[Value.ref b] s) (F0 m 1828 ls1 [])) : W p l e room_1 s m #[Value.ref b] below meth c H locs cells slots (lw_Z below #[Value.ref b] s) (F0 m 1043 ls []) := by
  have hx := X.1.1
  have hb := X.1.2.1
  have hbA : ¬ (fun q : Nat => s.heap.size ≤ q) b := Nat.not_le.mpr hbl
  have hL9i : (L9 : Int) ≤ 3072 := by omega
  obtain ⟨mx, gx, mm, gm, mo, go, f1, f2, hf1, hf2, hff, hf0, hf9, rd, rs, rn, hrd, mrd, grd, hrs, hrn, mrs, mrn, grs, grn, hns⟩ := hI
  refine lv_aload_n hx hb dL_law_1043 rfl (lv_at hl 3 rfl) ?_
  refine lv_aload_n hx hb dL_law_1044 rfl (lv_at hl 4 rfl) ?_
  refine lv_iload hx hb dL_law_1045 (lv_at hl 0 rfl) ?_
  refine lv_iconst (v := 1) hx hb dL_law_1047 (by decide) ?_
  refine lv_iadd hx hb dL_law_1048 ?_
  refine lv_topi (fun z1 ez1 => ?_)
  have hz1 : z1.toInt = i.toInt + 1 := ar_add ez1 rfl (by decide : (1 : Int32).toInt = 1) (by omega) (by omega)
  refine va_sld hx hb hX hbl hbA hT.2.2.1 (vp_in_iff.mpr (by omega)) dL_law_1049 ?_
  refine lv_topi (fun v2 ev2 => ?_)
  refine t_cVi (n := 1) (C := RX11) (T := TX11) (N := 16) (As := [.int v2]) (rest := []) X hT (kt404_X11_room l G tag L F hT.2.2.2 x0 v2 mx gx) mx gx rfl rfl qw_1221 qw_1222 qw_1223 qw_2 qw_1224 ⟨rfl, by decide +kernel, by decide +kernel, by decide +kernel⟩ ⟨(Nat.le_of_ble_eq_true rfl), (Nat.le_of_ble_eq_true rfl)⟩ hl rfl rfl (Nat.le_of_ble_eq_true rfl) dL_law_1050 ⟨show cells + 0 ≤ 601024 from by omega, show slots + 0 ≤ 7293034 from by omega⟩ (fun r3 F H locs hT hr3 => ?_)
  refine W.widen (k := cells) (n := slots) (Nat.le_refl _) (Nat.le_refl _) ?_
  obtain ⟨hgr3, yr3⟩ := hr3
  have hf1 := (yr3.1 _ 1 (Or.inr (by decide)) (Or.inl (by rw [gx]; decide)) (Or.inr (by decide))).trans hf1
  have hf2 := (yr3.1 _ 6 (Or.inr (by decide)) (Or.inr (by decide)) (Or.inr (by decide))).trans hf2
  have hrd := (yr3.1 _ 8 (Or.inr (by decide)) (Or.inr (by decide)) (Or.inr (by decide))).trans hrd
  have hrs := (yr3.1 _ 10 (Or.inr (by decide)) (Or.inr (by decide)) (Or.inr (by decide))).trans hrs
  have hrn := (yr3.1 _ 11 (Or.inr (by decide)) (Or.inr (by decide)) (Or.inr (by decide))).trans hrn
  have hns := nsr_of (fun j => yr3.2 _ j (Or.inl grs)) (fun j => yr3.2 _ j (Or.inr grn)) hns
  refine lv_pop hx hb dL_law_1053 rfl ?_
  refine lv_aload_n hx hb dL_law_1054 rfl (lv_at hl 2 rfl) ?_
  refine lv_aload_n hx hb dL_law_1055 rfl (lv_at hl 4 rfl) ?_
  refine lv_iload hx hb dL_law_1056 (lv_at hl 0 rfl) ?_
  refine lv_iconst (v := 1) hx hb dL_law_1058 (by decide) ?_
  refine lv_iadd hx hb dL_law_1059 ?_
  refine lv_topi (fun z4 ez4 => ?_)
  have hz4 : z4.toInt = i.toInt + 1 := ar_add ez4 rfl (by decide : (1 : Int32).toInt = 1) (by omega) (by omega)
  refine va_sld hx hb hX hbl hbA hT.2.2.1 (vp_in_iff.mpr (by omega)) dL_law_1060 ?_
  refine lv_topi (fun v5 ev5 => ?_)
  refine t_cVi (n := 1) (C := RX13) (T := TX13) (N := 37) (As := [.int v5]) (rest := []) X hT (kp_X13_room l G tag L F hT.2.2.2 m0 v5 mm gm) mm gm rfl rfl qw_1227 qw_1228 qw_1229 qw_5 qw_1230 ⟨rfl, by decide +kernel, by decide +kernel, by decide +kernel⟩ ⟨(Nat.le_of_ble_eq_true rfl), (Nat.le_of_ble_eq_true rfl)⟩ hl rfl rfl (Nat.le_of_ble_eq_true rfl) dL_law_1061 ⟨show cells + 0 ≤ 601024 from by omega, show slots + 0 ≤ 7293034 from by omega⟩ (fun r6 F H locs hT hr6 => ?_)
  refine W.widen (k := cells) (n := slots) (Nat.le_refl _) (Nat.le_refl _) ?_
  obtain ⟨hgr6, yr6⟩ := hr6
  have hf1 := (yr6.1 _ 1 (Or.inr (by decide)) (Or.inl (by rw [gx]; decide)) (Or.inr (by decide)) (Or.inr (by decide)) (Or.inr (by decide))).trans hf1
  have hf2 := (yr6.1 _ 6 (Or.inr (by decide)) (Or.inr (by decide)) (Or.inr (by decide)) (Or.inr (by decide)) (Or.inr (by decide))).trans hf2
  have hrd := (yr6.1 _ 8 (Or.inr (by decide)) (Or.inr (by decide)) (Or.inr (by decide)) (Or.inr (by decide)) (Or.inr (by decide))).trans hrd
  have hrs := (yr6.1 _ 10 (Or.inr (by decide)) (Or.inr (by decide)) (Or.inr (by decide)) (Or.inr (by decide)) (Or.inr (by decide))).trans hrs
  have hrn := (yr6.1 _ 11 (Or.inr (by decide)) (Or.inr (by decide)) (Or.inr (by decide)) (Or.inr (by decide)) (Or.inr (by decide))).trans hrn
  have hns := nsr_of (fun j => yr6.2 _ j (by rw [grs]; decide)) (fun j => yr6.2 _ j (by rw [grn]; decide)) hns
  refine lv_pop hx hb dL_law_1064 rfl ?_
  refine lv_goto (tgt := 1828) hx hb dL_law_1065 (by decide) ?_
  exact kk tag L F H locs _ cells slots (by omega) (by omega) hT ⟨mx, gx, mm, gm, mo, go, f1, f2, hf1, hf2, hff, hf0, hf9, rd, rs, rn, hrd, mrd, grd, hrs, hrn, mrs, mrn, grs, grn, hns⟩ (lv_sub hl [0, 1, 2, 3, 4] rfl)
set_option maxHeartbeats 4000000 in
set_option maxRecDepth 100000 in
theorem law_c24 {p : Program} {e : Env} {s : State} {m : MethodId} {below : List Frame} {meth : Method} {c : Code} (l : Launch) (G : KG) (b : Nat) (xs : Nat → Int32) {L9 : Nat} (hL9 : L9 ≤ 3072) (X : CX p s m #[Value.ref b] meth c cL_law 7 RL ret G (fun q : Nat => s.heap.size ≤ q) lw_tbl) (hX : va_X b L9 xs s s.heap) (hbl : b < s.heap.size) {H : Heap} {locs : List Loc} {ls : Array Slot} {cells slots : Nat} (hc : cells ≤ 600000) (hs : slots ≤ 7290000) {tag : Nat → Nat} {L : List Nat} {F : Nat → va_E} (x0 m0 o0 : Nat) (i : Int32) (hi : 0 ≤ i.toInt ∧ i.toInt + 6 ≤ (L9 : Int)) (hT : TH G ttC (fun q : Nat => s.heap.size ≤ q) s tag L F H locs) (hI : LINV tag L F x0 m0 o0) (hl : lv_has ls 7 [(4, .int i), (3, .ref o0), (2, .ref m0), (1, .ref x0), (0, .ref b)]) (kk : ∀ (tag1 : Nat → Nat) (L1 : List Nat) (F1 : Nat → va_E) (H1 : Heap) (locs1 : List Loc) (ls1 : Array Slot) (c1 s1 : Nat), c1 ≤ cells + 17 → s1 ≤ slots + 541 → TH G ttC (fun q : Nat => s.heap.size ≤ q) s tag1 L1 F1 H1 locs1 → LINV tag1 L1 F1 x0 m0 o0 → lv_has ls1 7 [(4, .int i), (3, .ref o0), (2, .ref m0), (1, .ref x0), (0, .ref b)] → W p l e room_1 s m #[Value.ref b] below meth c H1 locs1 c1 s1 (lw_Z below #[Value.ref b] s) (F0 m 1828 ls1 [])) : W p l e room_1 s m #[Value.ref b] below meth c H locs cells slots (lw_Z below #[Value.ref b] s) (F0 m 1068 ls []) := by
  have hx := X.1.1
  have hb := X.1.2.1
  have hbA : ¬ (fun q : Nat => s.heap.size ≤ q) b := Nat.not_le.mpr hbl
  have hL9i : (L9 : Int) ≤ 3072 := by omega
  obtain ⟨mx, gx, mm, gm, mo, go, f1, f2, hf1, hf2, hff, hf0, hf9, rd, rs, rn, hrd, mrd, grd, hrs, hrn, mrs, mrn, grs, grn, hns⟩ := hI
  refine lv_aload_n hx hb dL_law_1068 rfl (lv_at hl 3 rfl) ?_
  refine lv_aload_n hx hb dL_law_1069 rfl (lv_at hl 4 rfl) ?_
  refine lv_iload hx hb dL_law_1070 (lv_at hl 0 rfl) ?_
  refine lv_iconst (v := 1) hx hb dL_law_1072 (by decide) ?_
  refine lv_iadd hx hb dL_law_1073 ?_
  refine lv_topi (fun z1 ez1 => ?_)
  have hz1 : z1.toInt = i.toInt + 1 := ar_add ez1 rfl (by decide : (1 : Int32).toInt = 1) (by omega) (by omega)
  refine va_sld hx hb hX hbl hbA hT.2.2.1 (vp_in_iff.mpr (by omega)) dL_law_1074 ?_
  refine lv_topi (fun v2 ev2 => ?_)
  refine t_cVi (n := 1) (C := RX11) (T := TX11) (N := 16) (As := [.int v2]) (rest := []) X hT (kt370_X11_first l G tag L F hT.2.2.2 x0 v2 mx gx) mx gx rfl rfl qw_1231 qw_1232 qw_1233 qw_2 qw_1234 ⟨rfl, by decide +kernel, by decide +kernel, by decide +kernel⟩ ⟨(Nat.le_of_ble_eq_true rfl), (Nat.le_of_ble_eq_true rfl)⟩ hl rfl rfl (Nat.le_of_ble_eq_true rfl) dL_law_1075 ⟨show cells + 0 ≤ 601024 from by omega, show slots + 0 ≤ 7293034 from by omega⟩ (fun r3 F H locs hT hr3 => ?_)
  refine W.widen (k := cells) (n := slots) (Nat.le_refl _) (Nat.le_refl _) ?_
  obtain ⟨hgr3, yr3⟩ := hr3
  have hf1 := (yr3.1 _ 1 (Or.inr (by decide)) (Or.inl (by rw [gx]; decide)) (Or.inr (by decide))).trans hf1
  have hf2 := (yr3.1 _ 6 (Or.inr (by decide)) (Or.inr (by decide)) (Or.inr (by decide))).trans hf2
  have hrd := (yr3.1 _ 8 (Or.inr (by decide)) (Or.inr (by decide)) (Or.inr (by decide))).trans hrd
  have hrs := (yr3.1 _ 10 (Or.inr (by decide)) (Or.inr (by decide)) (Or.inr (by decide))).trans hrs
  have hrn := (yr3.1 _ 11 (Or.inr (by decide)) (Or.inr (by decide)) (Or.inr (by decide))).trans hrn
  have hns := nsr_of (fun j => yr3.2 _ j (Or.inl grs)) (fun j => yr3.2 _ j (Or.inr grn)) hns
  refine lv_pop hx hb dL_law_1078 rfl ?_
  refine lv_aload_n hx hb dL_law_1079 rfl (lv_at hl 2 rfl) ?_
  refine lv_aload_n hx hb dL_law_1080 rfl (lv_at hl 4 rfl) ?_
  refine lv_iload hx hb dL_law_1081 (lv_at hl 0 rfl) ?_
  refine lv_iconst (v := 1) hx hb dL_law_1083 (by decide) ?_
  refine lv_iadd hx hb dL_law_1084 ?_
  refine lv_topi (fun z4 ez4 => ?_)
  have hz4 : z4.toInt = i.toInt + 1 := ar_add ez4 rfl (by decide : (1 : Int32).toInt = 1) (by omega) (by omega)
  refine va_sld hx hb hX hbl hbA hT.2.2.1 (vp_in_iff.mpr (by omega)) dL_law_1085 ?_
  refine lv_topi (fun v5 ev5 => ?_)
  refine t_cVi (n := 1) (C := RX13) (T := TX13) (N := 37) (As := [.int v5]) (rest := []) X hT (kp_X13_first l G tag L F hT.2.2.2 m0 v5 mm gm) mm gm rfl rfl qw_1253 qw_1254 qw_1255 qw_5 qw_1256 ⟨rfl, by decide +kernel, by decide +kernel, by decide +kernel⟩ ⟨(Nat.le_of_ble_eq_true rfl), (Nat.le_of_ble_eq_true rfl)⟩ hl rfl rfl (Nat.le_of_ble_eq_true rfl) dL_law_1086 ⟨show cells + 0 ≤ 601024 from by omega, show slots + 0 ≤ 7293034 from by omega⟩ (fun r6 F H locs hT hr6 => ?_)
  refine W.widen (k := cells) (n := slots) (Nat.le_refl _) (Nat.le_refl _) ?_
  obtain ⟨hgr6, yr6⟩ := hr6
  have hf1 := (yr6.1 _ 1 (Or.inr (by decide)) (Or.inl (by rw [gx]; decide)) (Or.inr (by decide)) (Or.inr (by decide)) (Or.inr (by decide)) (Or.inr (by decide))).trans hf1
  have hf2 := (yr6.1 _ 6 (Or.inr (by decide)) (Or.inr (by decide)) (Or.inr (by decide)) (Or.inr (by decide)) (Or.inr (by decide)) (Or.inr (by decide))).trans hf2
  have hrd := (yr6.1 _ 8 (Or.inr (by decide)) (Or.inr (by decide)) (Or.inr (by decide)) (Or.inr (by decide)) (Or.inr (by decide)) (Or.inr (by decide))).trans hrd
  have hrs := (yr6.1 _ 10 (Or.inr (by decide)) (Or.inr (by decide)) (Or.inr (by decide)) (Or.inr (by decide)) (Or.inr (by decide)) (Or.inr (by decide))).trans hrs
  have hrn := (yr6.1 _ 11 (Or.inr (by decide)) (Or.inr (by decide)) (Or.inr (by decide)) (Or.inr (by decide)) (Or.inr (by decide)) (Or.inr (by decide))).trans hrn
  have hns := nsr_of (fun j => yr6.2 _ j (by rw [grs]; decide) (by rw [grs]; decide) (by rw [grs]; decide)) (fun j => yr6.2 _ j (by rw [grn]; decide) (by rw [grn]; decide) (by rw [grn]; decide)) hns
  refine lv_pop hx hb dL_law_1089 rfl ?_
  refine lv_goto (tgt := 1828) hx hb dL_law_1090 (by decide) ?_
  exact kk tag L F H locs _ cells slots (by omega) (by omega) hT ⟨mx, gx, mm, gm, mo, go, f1, f2, hf1, hf2, hff, hf0, hf9, rd, rs, rn, hrd, mrd, grd, hrs, hrn, mrs, mrn, grs, grn, hns⟩ (lv_sub hl [0, 1, 2, 3, 4] rfl)
set_option maxHeartbeats 4000000 in
set_option maxRecDepth 100000 in
theorem law_c25 {p : Program} {e : Env} {s : State} {m : MethodId} {below : List Frame} {meth : Method} {c : Code} (l : Launch) (G : KG) (b : Nat) (xs : Nat → Int32) {L9 : Nat} (hL9 : L9 ≤ 3072) (X : CX p s m #[Value.ref b] meth c cL_law 7 RL ret G (fun q : Nat => s.heap.size ≤ q) lw_tbl) (hX : va_X b L9 xs s s.heap) (hbl : b < s.heap.size) {H : Heap} {locs : List Loc} {ls : Array Slot} {cells slots : Nat} (hc : cells ≤ 600000) (hs : slots ≤ 7290000) {tag : Nat → Nat} {L : List Nat} {F : Nat → va_E} (x0 m0 o0 : Nat) (i : Int32) (hi : 0 ≤ i.toInt ∧ i.toInt + 6 ≤ (L9 : Int)) (hT : TH G ttC (fun q : Nat => s.heap.size ≤ q) s tag L F H locs) (hI : LINV tag L F x0 m0 o0) (hl : lv_has ls 7 [(4, .int i), (3, .ref o0), (2, .ref m0), (1, .ref x0), (0, .ref b)]) (kk : ∀ (tag1 : Nat → Nat) (L1 : List Nat) (F1 : Nat → va_E) (H1 : Heap) (locs1 : List Loc) (ls1 : Array Slot) (c1 s1 : Nat), c1 ≤ cells + 17 → s1 ≤ slots + 541 → TH G ttC (fun q : Nat => s.heap.size ≤ q) s tag1 L1 F1 H1 locs1 → LINV tag1 L1 F1 x0 m0 o0 → lv_has ls1 7 [(4, .int i), (3, .ref o0), (2, .ref m0), (1, .ref x0), (0, .ref b)] → W p l e room_1 s m #[Value.ref b] below meth c H1 locs1 c1 s1 (lw_Z below #[Value.ref b] s) (F0 m 1828 ls1 [])) : W p l e room_1 s m #[Value.ref b] below meth c H locs cells slots (lw_Z below #[Value.ref b] s) (F0 m 1093 ls []) := by
  have hx := X.1.1
  have hb := X.1.2.1
  have hbA : ¬ (fun q : Nat => s.heap.size ≤ q) b := Nat.not_le.mpr hbl
  have hL9i : (L9 : Int) ≤ 3072 := by omega
  obtain ⟨mx, gx, mm, gm, mo, go, f1, f2, hf1, hf2, hff, hf0, hf9, rd, rs, rn, hrd, mrd, grd, hrs, hrn, mrs, mrn, grs, grn, hns⟩ := hI
  refine lv_aload_n hx hb dL_law_1093 rfl (lv_at hl 3 rfl) ?_
  refine lv_aload_n hx hb dL_law_1094 rfl (lv_at hl 4 rfl) ?_
  refine lv_iload hx hb dL_law_1095 (lv_at hl 0 rfl) ?_
  refine lv_iconst (v := 1) hx hb dL_law_1097 (by decide) ?_
  refine lv_iadd hx hb dL_law_1098 ?_
  refine lv_topi (fun z1 ez1 => ?_)
  have hz1 : z1.toInt = i.toInt + 1 := ar_add ez1 rfl (by decide : (1 : Int32).toInt = 1) (by omega) (by omega)
  refine va_sld hx hb hX hbl hbA hT.2.2.1 (vp_in_iff.mpr (by omega)) dL_law_1099 ?_
  refine lv_topi (fun v2 ev2 => ?_)
  refine lv_aload_n hx hb dL_law_1100 rfl (lv_at hl 4 rfl) ?_
  refine lv_iload hx hb dL_law_1101 (lv_at hl 0 rfl) ?_
  refine lv_iconst (v := 2) hx hb dL_law_1103 (by decide) ?_
  refine lv_iadd hx hb dL_law_1104 ?_
  refine lv_topi (fun z3 ez3 => ?_)
  have hz3 : z3.toInt = i.toInt + 2 := ar_add ez3 rfl (by decide : (2 : Int32).toInt = 2) (by omega) (by omega)
  refine va_sld hx hb hX hbl hbA hT.2.2.1 (vp_in_iff.mpr (by omega)) dL_law_1105 ?_
  refine lv_topi (fun v4 ev4 => ?_)
  refine t_cVi (n := 2) (C := RX11) (T := TX11) (N := 16) (As := [.int v2, .int v4]) (rest := []) X hT (kt371_X11_firstAt l G tag L F hT.2.2.2 x0 v2 v4 mx gx) mx gx rfl rfl qw_1268 qw_1269 qw_1270 qw_2 qw_1271 ⟨rfl, by decide +kernel, by decide +kernel, by decide +kernel⟩ ⟨(Nat.le_of_ble_eq_true rfl), (Nat.le_of_ble_eq_true rfl)⟩ hl rfl rfl (Nat.le_of_ble_eq_true rfl) dL_law_1106 ⟨show cells + 0 ≤ 601024 from by omega, show slots + 0 ≤ 7293034 from by omega⟩ (fun r5 F H locs hT hr5 => ?_)
  refine W.widen (k := cells) (n := slots) (Nat.le_refl _) (Nat.le_refl _) ?_
  obtain ⟨hgr5, yr5⟩ := hr5
  have hf1 := (yr5.1 _ 1 (Or.inr (by decide)) (Or.inl (by rw [gx]; decide)) (Or.inr (by decide))).trans hf1
  have hf2 := (yr5.1 _ 6 (Or.inr (by decide)) (Or.inr (by decide)) (Or.inr (by decide))).trans hf2
  have hrd := (yr5.1 _ 8 (Or.inr (by decide)) (Or.inr (by decide)) (Or.inr (by decide))).trans hrd
  have hrs := (yr5.1 _ 10 (Or.inr (by decide)) (Or.inr (by decide)) (Or.inr (by decide))).trans hrs
  have hrn := (yr5.1 _ 11 (Or.inr (by decide)) (Or.inr (by decide)) (Or.inr (by decide))).trans hrn
  have hns := nsr_of (fun j => yr5.2 _ j (Or.inl grs)) (fun j => yr5.2 _ j (Or.inr grn)) hns
  refine lv_pop hx hb dL_law_1109 rfl ?_
  refine lv_aload_n hx hb dL_law_1110 rfl (lv_at hl 2 rfl) ?_
  refine lv_aload_n hx hb dL_law_1111 rfl (lv_at hl 4 rfl) ?_
  refine lv_iload hx hb dL_law_1112 (lv_at hl 0 rfl) ?_
  refine lv_iconst (v := 1) hx hb dL_law_1114 (by decide) ?_
  refine lv_iadd hx hb dL_law_1115 ?_
  refine lv_topi (fun z6 ez6 => ?_)
  have hz6 : z6.toInt = i.toInt + 1 := ar_add ez6 rfl (by decide : (1 : Int32).toInt = 1) (by omega) (by omega)
  refine va_sld hx hb hX hbl hbA hT.2.2.1 (vp_in_iff.mpr (by omega)) dL_law_1116 ?_
  refine lv_topi (fun v7 ev7 => ?_)
  refine lv_aload_n hx hb dL_law_1117 rfl (lv_at hl 4 rfl) ?_
  refine lv_iload hx hb dL_law_1118 (lv_at hl 0 rfl) ?_
  refine lv_iconst (v := 2) hx hb dL_law_1120 (by decide) ?_
  refine lv_iadd hx hb dL_law_1121 ?_
  refine lv_topi (fun z8 ez8 => ?_)
  have hz8 : z8.toInt = i.toInt + 2 := ar_add ez8 rfl (by decide : (2 : Int32).toInt = 2) (by omega) (by omega)
  refine va_sld hx hb hX hbl hbA hT.2.2.1 (vp_in_iff.mpr (by omega)) dL_law_1122 ?_
  refine lv_topi (fun v9 ev9 => ?_)
  refine t_cVi (n := 2) (C := RX13) (T := TX13) (N := 37) (As := [.int v7, .int v9]) (rest := []) X hT (kp_X13_firstAt l G tag L F hT.2.2.2 m0 v7 v9 mm gm) mm gm rfl rfl qw_1273 qw_1274 qw_1275 qw_5 qw_1276 ⟨rfl, by decide +kernel, by decide +kernel, by decide +kernel⟩ ⟨(Nat.le_of_ble_eq_true rfl), (Nat.le_of_ble_eq_true rfl)⟩ hl rfl rfl (Nat.le_of_ble_eq_true rfl) dL_law_1123 ⟨show cells + 0 ≤ 601024 from by omega, show slots + 0 ≤ 7293034 from by omega⟩ (fun r10 F H locs hT hr10 => ?_)
  refine W.widen (k := cells) (n := slots) (Nat.le_refl _) (Nat.le_refl _) ?_
  obtain ⟨hgr10, yr10⟩ := hr10
  have hf1 := (yr10.1 _ 1 (Or.inr (by decide)) (Or.inl (by rw [gx]; decide)) (Or.inr (by decide)) (Or.inr (by decide)) (Or.inr (by decide)) (Or.inr (by decide))).trans hf1
  have hf2 := (yr10.1 _ 6 (Or.inr (by decide)) (Or.inr (by decide)) (Or.inr (by decide)) (Or.inr (by decide)) (Or.inr (by decide)) (Or.inr (by decide))).trans hf2
  have hrd := (yr10.1 _ 8 (Or.inr (by decide)) (Or.inr (by decide)) (Or.inr (by decide)) (Or.inr (by decide)) (Or.inr (by decide)) (Or.inr (by decide))).trans hrd
  have hrs := (yr10.1 _ 10 (Or.inr (by decide)) (Or.inr (by decide)) (Or.inr (by decide)) (Or.inr (by decide)) (Or.inr (by decide)) (Or.inr (by decide))).trans hrs
  have hrn := (yr10.1 _ 11 (Or.inr (by decide)) (Or.inr (by decide)) (Or.inr (by decide)) (Or.inr (by decide)) (Or.inr (by decide)) (Or.inr (by decide))).trans hrn
  have hns := nsr_of (fun j => yr10.2 _ j (by rw [grs]; decide) (by rw [grs]; decide) (by rw [grs]; decide)) (fun j => yr10.2 _ j (by rw [grn]; decide) (by rw [grn]; decide) (by rw [grn]; decide)) hns
  refine lv_pop hx hb dL_law_1126 rfl ?_
  refine lv_goto (tgt := 1828) hx hb dL_law_1127 (by decide) ?_
  exact kk tag L F H locs _ cells slots (by omega) (by omega) hT ⟨mx, gx, mm, gm, mo, go, f1, f2, hf1, hf2, hff, hf0, hf9, rd, rs, rn, hrd, mrd, grd, hrs, hrn, mrs, mrn, grs, grn, hns⟩ (lv_sub hl [0, 1, 2, 3, 4] rfl)
set_option maxHeartbeats 4000000 in
set_option maxRecDepth 100000 in
theorem law_c26 {p : Program} {e : Env} {s : State} {m : MethodId} {below : List Frame} {meth : Method} {c : Code} (l : Launch) (G : KG) (b : Nat) (xs : Nat → Int32) {L9 : Nat} (hL9 : L9 ≤ 3072) (X : CX p s m #[Value.ref b] meth c cL_law 7 RL ret G (fun q : Nat => s.heap.size ≤ q) lw_tbl) (hX : va_X b L9 xs s s.heap) (hbl : b < s.heap.size) {H : Heap} {locs : List Loc} {ls : Array Slot} {cells slots : Nat} (hc : cells ≤ 600000) (hs : slots ≤ 7290000) {tag : Nat → Nat} {L : List Nat} {F : Nat → va_E} (x0 m0 o0 : Nat) (i : Int32) (hi : 0 ≤ i.toInt ∧ i.toInt + 6 ≤ (L9 : Int)) (hT : TH G ttC (fun q : Nat => s.heap.size ≤ q) s tag L F H locs) (hI : LINV tag L F x0 m0 o0) (hl : lv_has ls 7 [(4, .int i), (3, .ref o0), (2, .ref m0), (1, .ref x0), (0, .ref b)]) (kk : ∀ (tag1 : Nat → Nat) (L1 : List Nat) (F1 : Nat → va_E) (H1 : Heap) (locs1 : List Loc) (ls1 : Array Slot) (c1 s1 : Nat), c1 ≤ cells + 17 → s1 ≤ slots + 541 → TH G ttC (fun q : Nat => s.heap.size ≤ q) s tag1 L1 F1 H1 locs1 → LINV tag1 L1 F1 x0 m0 o0 → lv_has ls1 7 [(4, .int i), (3, .ref o0), (2, .ref m0), (1, .ref x0), (0, .ref b)] → W p l e room_1 s m #[Value.ref b] below meth c H1 locs1 c1 s1 (lw_Z below #[Value.ref b] s) (F0 m 1828 ls1 [])) : W p l e room_1 s m #[Value.ref b] below meth c H locs cells slots (lw_Z below #[Value.ref b] s) (F0 m 1130 ls []) := by
  have hx := X.1.1
  have hb := X.1.2.1
  have hbA : ¬ (fun q : Nat => s.heap.size ≤ q) b := Nat.not_le.mpr hbl
  have hL9i : (L9 : Int) ≤ 3072 := by omega
  obtain ⟨mx, gx, mm, gm, mo, go, f1, f2, hf1, hf2, hff, hf0, hf9, rd, rs, rn, hrd, mrd, grd, hrs, hrn, mrs, mrn, grs, grn, hns⟩ := hI
  refine lv_aload_n hx hb dL_law_1130 rfl (lv_at hl 3 rfl) ?_
  refine lv_aload_n hx hb dL_law_1131 rfl (lv_at hl 4 rfl) ?_
  refine lv_iload hx hb dL_law_1132 (lv_at hl 0 rfl) ?_
  refine lv_iconst (v := 1) hx hb dL_law_1134 (by decide) ?_
  refine lv_iadd hx hb dL_law_1135 ?_
  refine lv_topi (fun z1 ez1 => ?_)
  have hz1 : z1.toInt = i.toInt + 1 := ar_add ez1 rfl (by decide : (1 : Int32).toInt = 1) (by omega) (by omega)
  refine va_sld hx hb hX hbl hbA hT.2.2.1 (vp_in_iff.mpr (by omega)) dL_law_1136 ?_
  refine lv_topi (fun v2 ev2 => ?_)
  refine lv_aload_n hx hb dL_law_1137 rfl (lv_at hl 4 rfl) ?_
  refine lv_iload hx hb dL_law_1138 (lv_at hl 0 rfl) ?_
  refine lv_iconst (v := 2) hx hb dL_law_1140 (by decide) ?_
  refine lv_iadd hx hb dL_law_1141 ?_
  refine lv_topi (fun z3 ez3 => ?_)
  have hz3 : z3.toInt = i.toInt + 2 := ar_add ez3 rfl (by decide : (2 : Int32).toInt = 2) (by omega) (by omega)
  refine va_sld hx hb hX hbl hbA hT.2.2.1 (vp_in_iff.mpr (by omega)) dL_law_1142 ?_
  refine lv_topi (fun v4 ev4 => ?_)
  refine t_cVi (n := 2) (C := RX11) (T := TX11) (N := 16) (As := [.int v2, .int v4]) (rest := []) X hT (kt377_X11_heads l G tag L F hT.2.2.2 x0 v2 v4 mx gx) mx gx rfl rfl qw_1277 qw_1278 qw_1279 qw_2 qw_1280 ⟨rfl, by decide +kernel, by decide +kernel, by decide +kernel⟩ ⟨(Nat.le_of_ble_eq_true rfl), (Nat.le_of_ble_eq_true rfl)⟩ hl rfl rfl (Nat.le_of_ble_eq_true rfl) dL_law_1143 ⟨show cells + 0 ≤ 601024 from by omega, show slots + 0 ≤ 7293034 from by omega⟩ (fun r5 F H locs hT hr5 => ?_)
  refine W.widen (k := cells) (n := slots) (Nat.le_refl _) (Nat.le_refl _) ?_
  obtain ⟨hgr5, yr5⟩ := hr5
  have hf1 := (yr5.1 _ 1 (Or.inr (by decide)) (Or.inl (by rw [gx]; decide)) (Or.inr (by decide))).trans hf1
  have hf2 := (yr5.1 _ 6 (Or.inr (by decide)) (Or.inr (by decide)) (Or.inr (by decide))).trans hf2
  have hrd := (yr5.1 _ 8 (Or.inr (by decide)) (Or.inr (by decide)) (Or.inr (by decide))).trans hrd
  have hrs := (yr5.1 _ 10 (Or.inr (by decide)) (Or.inr (by decide)) (Or.inr (by decide))).trans hrs
  have hrn := (yr5.1 _ 11 (Or.inr (by decide)) (Or.inr (by decide)) (Or.inr (by decide))).trans hrn
  have hns := nsr_of (fun j => yr5.2 _ j (Or.inl grs)) (fun j => yr5.2 _ j (Or.inr grn)) hns
  refine lv_pop hx hb dL_law_1146 rfl ?_
  refine lv_aload_n hx hb dL_law_1147 rfl (lv_at hl 2 rfl) ?_
  refine lv_aload_n hx hb dL_law_1148 rfl (lv_at hl 4 rfl) ?_
  refine lv_iload hx hb dL_law_1149 (lv_at hl 0 rfl) ?_
  refine lv_iconst (v := 1) hx hb dL_law_1151 (by decide) ?_
  refine lv_iadd hx hb dL_law_1152 ?_
  refine lv_topi (fun z6 ez6 => ?_)
  have hz6 : z6.toInt = i.toInt + 1 := ar_add ez6 rfl (by decide : (1 : Int32).toInt = 1) (by omega) (by omega)
  refine va_sld hx hb hX hbl hbA hT.2.2.1 (vp_in_iff.mpr (by omega)) dL_law_1153 ?_
  refine lv_topi (fun v7 ev7 => ?_)
  refine lv_aload_n hx hb dL_law_1154 rfl (lv_at hl 4 rfl) ?_
  refine lv_iload hx hb dL_law_1155 (lv_at hl 0 rfl) ?_
  refine lv_iconst (v := 2) hx hb dL_law_1157 (by decide) ?_
  refine lv_iadd hx hb dL_law_1158 ?_
  refine lv_topi (fun z8 ez8 => ?_)
  have hz8 : z8.toInt = i.toInt + 2 := ar_add ez8 rfl (by decide : (2 : Int32).toInt = 2) (by omega) (by omega)
  refine va_sld hx hb hX hbl hbA hT.2.2.1 (vp_in_iff.mpr (by omega)) dL_law_1159 ?_
  refine lv_topi (fun v9 ev9 => ?_)
  refine t_cVi (n := 2) (C := RX13) (T := TX13) (N := 37) (As := [.int v7, .int v9]) (rest := []) X hT (kp_X13_heads l G tag L F hT.2.2.2 m0 v7 v9 mm gm) mm gm rfl rfl qw_1283 qw_1284 qw_1285 qw_5 qw_1286 ⟨rfl, by decide +kernel, by decide +kernel, by decide +kernel⟩ ⟨(Nat.le_of_ble_eq_true rfl), (Nat.le_of_ble_eq_true rfl)⟩ hl rfl rfl (Nat.le_of_ble_eq_true rfl) dL_law_1160 ⟨show cells + 0 ≤ 601024 from by omega, show slots + 0 ≤ 7293034 from by omega⟩ (fun r10 F H locs hT hr10 => ?_)
  refine W.widen (k := cells) (n := slots) (Nat.le_refl _) (Nat.le_refl _) ?_
  obtain ⟨hgr10, yr10⟩ := hr10
  have hf1 := (yr10.1 _ 1 (Or.inr (by decide)) (Or.inl (by rw [gx]; decide)) (Or.inr (by decide)) (Or.inr (by decide)) (Or.inr (by decide))).trans hf1
  have hf2 := (yr10.1 _ 6 (Or.inr (by decide)) (Or.inr (by decide)) (Or.inr (by decide)) (Or.inr (by decide)) (Or.inr (by decide))).trans hf2
  have hrd := (yr10.1 _ 8 (Or.inr (by decide)) (Or.inr (by decide)) (Or.inr (by decide)) (Or.inr (by decide)) (Or.inr (by decide))).trans hrd
  have hrs := (yr10.1 _ 10 (Or.inr (by decide)) (Or.inr (by decide)) (Or.inr (by decide)) (Or.inr (by decide)) (Or.inr (by decide))).trans hrs
  have hrn := (yr10.1 _ 11 (Or.inr (by decide)) (Or.inr (by decide)) (Or.inr (by decide)) (Or.inr (by decide)) (Or.inr (by decide))).trans hrn
  have hns := nsr_of (fun j => yr10.2 _ j (by rw [grs]; decide) (by rw [grs]; decide)) (fun j => yr10.2 _ j (by rw [grn]; decide) (by rw [grn]; decide)) hns
  refine lv_pop hx hb dL_law_1163 rfl ?_
  refine lv_goto (tgt := 1828) hx hb dL_law_1164 (by decide) ?_
  exact kk tag L F H locs _ cells slots (by omega) (by omega) hT ⟨mx, gx, mm, gm, mo, go, f1, f2, hf1, hf2, hff, hf0, hf9, rd, rs, rn, hrd, mrd, grd, hrs, hrn, mrs, mrn, grs, grn, hns⟩ (lv_sub hl [0, 1, 2, 3, 4] rfl)
set_option maxHeartbeats 4000000 in
set_option maxRecDepth 100000 in
theorem law_c27 {p : Program} {e : Env} {s : State} {m : MethodId} {below : List Frame} {meth : Method} {c : Code} (l : Launch) (G : KG) (b : Nat) (xs : Nat → Int32) {L9 : Nat} (hL9 : L9 ≤ 3072) (X : CX p s m #[Value.ref b] meth c cL_law 7 RL ret G (fun q : Nat => s.heap.size ≤ q) lw_tbl) (hX : va_X b L9 xs s s.heap) (hbl : b < s.heap.size) {H : Heap} {locs : List Loc} {ls : Array Slot} {cells slots : Nat} (hc : cells ≤ 600000) (hs : slots ≤ 7290000) {tag : Nat → Nat} {L : List Nat} {F : Nat → va_E} (x0 m0 o0 : Nat) (i : Int32) (hi : 0 ≤ i.toInt ∧ i.toInt + 6 ≤ (L9 : Int)) (hT : TH G ttC (fun q : Nat => s.heap.size ≤ q) s tag L F H locs) (hI : LINV tag L F x0 m0 o0) (hl : lv_has ls 7 [(4, .int i), (3, .ref o0), (2, .ref m0), (1, .ref x0), (0, .ref b)]) (kk : ∀ (tag1 : Nat → Nat) (L1 : List Nat) (F1 : Nat → va_E) (H1 : Heap) (locs1 : List Loc) (ls1 : Array Slot) (c1 s1 : Nat), c1 ≤ cells + 17 → s1 ≤ slots + 541 → TH G ttC (fun q : Nat => s.heap.size ≤ q) s tag1 L1 F1 H1 locs1 → LINV tag1 L1 F1 x0 m0 o0 → lv_has ls1 7 [(4, .int i), (3, .ref o0), (2, .ref m0), (1, .ref x0), (0, .ref b)] → W p l e room_1 s m #[Value.ref b] below meth c H1 locs1 c1 s1 (lw_Z below #[Value.ref b] s) (F0 m 1828 ls1 [])) : W p l e room_1 s m #[Value.ref b] below meth c H locs cells slots (lw_Z below #[Value.ref b] s) (F0 m 1167 ls []) := by
  have hx := X.1.1
  have hb := X.1.2.1
  have hbA : ¬ (fun q : Nat => s.heap.size ≤ q) b := Nat.not_le.mpr hbl
  have hL9i : (L9 : Int) ≤ 3072 := by omega
  obtain ⟨mx, gx, mm, gm, mo, go, f1, f2, hf1, hf2, hff, hf0, hf9, rd, rs, rn, hrd, mrd, grd, hrs, hrn, mrs, mrn, grs, grn, hns⟩ := hI
  refine lv_aload_n hx hb dL_law_1167 rfl (lv_at hl 3 rfl) ?_
  refine lv_aload_n hx hb dL_law_1168 rfl (lv_at hl 4 rfl) ?_
  refine lv_iload hx hb dL_law_1169 (lv_at hl 0 rfl) ?_
  refine lv_iconst (v := 1) hx hb dL_law_1171 (by decide) ?_
  refine lv_iadd hx hb dL_law_1172 ?_
  refine lv_topi (fun z1 ez1 => ?_)
  have hz1 : z1.toInt = i.toInt + 1 := ar_add ez1 rfl (by decide : (1 : Int32).toInt = 1) (by omega) (by omega)
  refine va_sld hx hb hX hbl hbA hT.2.2.1 (vp_in_iff.mpr (by omega)) dL_law_1173 ?_
  refine lv_topi (fun v2 ev2 => ?_)
  refine t_cVi (n := 1) (C := RX11) (T := TX11) (N := 16) (As := [.int v2]) (rest := []) X hT (kt418_X11_takes l G tag L F hT.2.2.2 x0 v2 mx gx) mx gx rfl rfl qw_1288 qw_1289 qw_1290 qw_2 qw_1291 ⟨rfl, by decide +kernel, by decide +kernel, by decide +kernel⟩ ⟨(Nat.le_of_ble_eq_true rfl), (Nat.le_of_ble_eq_true rfl)⟩ hl rfl rfl (Nat.le_of_ble_eq_true rfl) dL_law_1174 ⟨show cells + 0 ≤ 601024 from by omega, show slots + 0 ≤ 7293034 from by omega⟩ (fun r3 F H locs hT hr3 => ?_)
  refine W.widen (k := cells) (n := slots) (Nat.le_refl _) (Nat.le_refl _) ?_
  obtain ⟨hgr3, yr3⟩ := hr3
  have hf1 := (yr3.1 _ 1 (Or.inr (by decide))).trans hf1
  have hf2 := (yr3.1 _ 6 (Or.inr (by decide))).trans hf2
  have hrd := (yr3.1 _ 8 (Or.inr (by decide))).trans hrd
  have hrs := (yr3.1 _ 10 (Or.inr (by decide))).trans hrs
  have hrn := (yr3.1 _ 11 (Or.inr (by decide))).trans hrn
  have hns := nsr_of (fun j => yr3.2 _ j (Or.inl grs)) (fun j => yr3.2 _ j (Or.inr grn)) hns
  refine lv_pop hx hb dL_law_1177 rfl ?_
  refine lv_aload_n hx hb dL_law_1178 rfl (lv_at hl 2 rfl) ?_
  refine lv_aload_n hx hb dL_law_1179 rfl (lv_at hl 4 rfl) ?_
  refine lv_iload hx hb dL_law_1180 (lv_at hl 0 rfl) ?_
  refine lv_iconst (v := 1) hx hb dL_law_1182 (by decide) ?_
  refine lv_iadd hx hb dL_law_1183 ?_
  refine lv_topi (fun z4 ez4 => ?_)
  have hz4 : z4.toInt = i.toInt + 1 := ar_add ez4 rfl (by decide : (1 : Int32).toInt = 1) (by omega) (by omega)
  refine va_sld hx hb hX hbl hbA hT.2.2.1 (vp_in_iff.mpr (by omega)) dL_law_1184 ?_
  refine lv_topi (fun v5 ev5 => ?_)
  refine t_cVi (n := 1) (C := RX13) (T := TX13) (N := 37) (As := [.int v5]) (rest := []) X hT (kp_X13_takes l G tag L F hT.2.2.2 m0 v5 mm gm) mm gm rfl rfl qw_1300 qw_1301 qw_1302 qw_5 qw_1303 ⟨rfl, by decide +kernel, by decide +kernel, by decide +kernel⟩ ⟨(Nat.le_of_ble_eq_true rfl), (Nat.le_of_ble_eq_true rfl)⟩ hl rfl rfl (Nat.le_of_ble_eq_true rfl) dL_law_1185 ⟨show cells + 0 ≤ 601024 from by omega, show slots + 0 ≤ 7293034 from by omega⟩ (fun r6 F H locs hT hr6 => ?_)
  refine W.widen (k := cells) (n := slots) (Nat.le_refl _) (Nat.le_refl _) ?_
  obtain ⟨hgr6, yr6⟩ := hr6
  have hf1 := (yr6.1 _ 1 (Or.inr (by decide)) (Or.inl (by rw [gx]; decide)) (Or.inr (by decide))).trans hf1
  have hf2 := (yr6.1 _ 6 (Or.inr (by decide)) (Or.inr (by decide)) (Or.inr (by decide))).trans hf2
  have hrd := (yr6.1 _ 8 (Or.inr (by decide)) (Or.inr (by decide)) (Or.inr (by decide))).trans hrd
  have hrs := (yr6.1 _ 10 (Or.inr (by decide)) (Or.inr (by decide)) (Or.inr (by decide))).trans hrs
  have hrn := (yr6.1 _ 11 (Or.inr (by decide)) (Or.inr (by decide)) (Or.inr (by decide))).trans hrn
  have hns := nsr_of (fun j => yr6.2 _ j ) (fun j => yr6.2 _ j ) hns
  refine lv_pop hx hb dL_law_1188 rfl ?_
  refine lv_goto (tgt := 1828) hx hb dL_law_1189 (by decide) ?_
  exact kk tag L F H locs _ cells slots (by omega) (by omega) hT ⟨mx, gx, mm, gm, mo, go, f1, f2, hf1, hf2, hff, hf0, hf9, rd, rs, rn, hrd, mrd, grd, hrs, hrn, mrs, mrn, grs, grn, hns⟩ (lv_sub hl [0, 1, 2, 3, 4] rfl)
set_option maxHeartbeats 4000000 in
set_option maxRecDepth 100000 in
theorem law_c28 {p : Program} {e : Env} {s : State} {m : MethodId} {below : List Frame} {meth : Method} {c : Code} (l : Launch) (G : KG) (b : Nat) (xs : Nat → Int32) {L9 : Nat} (hL9 : L9 ≤ 3072) (X : CX p s m #[Value.ref b] meth c cL_law 7 RL ret G (fun q : Nat => s.heap.size ≤ q) lw_tbl) (hX : va_X b L9 xs s s.heap) (hbl : b < s.heap.size) {H : Heap} {locs : List Loc} {ls : Array Slot} {cells slots : Nat} (hc : cells ≤ 600000) (hs : slots ≤ 7290000) {tag : Nat → Nat} {L : List Nat} {F : Nat → va_E} (x0 m0 o0 : Nat) (i : Int32) (hi : 0 ≤ i.toInt ∧ i.toInt + 6 ≤ (L9 : Int)) (hT : TH G ttC (fun q : Nat => s.heap.size ≤ q) s tag L F H locs) (hI : LINV tag L F x0 m0 o0) (hl : lv_has ls 7 [(4, .int i), (3, .ref o0), (2, .ref m0), (1, .ref x0), (0, .ref b)]) (kk : ∀ (tag1 : Nat → Nat) (L1 : List Nat) (F1 : Nat → va_E) (H1 : Heap) (locs1 : List Loc) (ls1 : Array Slot) (c1 s1 : Nat), c1 ≤ cells + 17 → s1 ≤ slots + 541 → TH G ttC (fun q : Nat => s.heap.size ≤ q) s tag1 L1 F1 H1 locs1 → LINV tag1 L1 F1 x0 m0 o0 → lv_has ls1 7 [(4, .int i), (3, .ref o0), (2, .ref m0), (1, .ref x0), (0, .ref b)] → W p l e room_1 s m #[Value.ref b] below meth c H1 locs1 c1 s1 (lw_Z below #[Value.ref b] s) (F0 m 1828 ls1 [])) : W p l e room_1 s m #[Value.ref b] below meth c H locs cells slots (lw_Z below #[Value.ref b] s) (F0 m 1192 ls []) := by
  have hx := X.1.1
  have hb := X.1.2.1
  have hbA : ¬ (fun q : Nat => s.heap.size ≤ q) b := Nat.not_le.mpr hbl
  have hL9i : (L9 : Int) ≤ 3072 := by omega
  obtain ⟨mx, gx, mm, gm, mo, go, f1, f2, hf1, hf2, hff, hf0, hf9, rd, rs, rn, hrd, mrd, grd, hrs, hrn, mrs, mrn, grs, grn, hns⟩ := hI
  refine lv_aload_n hx hb dL_law_1192 rfl (lv_at hl 3 rfl) ?_
  refine lv_aload_n hx hb dL_law_1193 rfl (lv_at hl 4 rfl) ?_
  refine lv_iload hx hb dL_law_1194 (lv_at hl 0 rfl) ?_
  refine lv_iconst (v := 1) hx hb dL_law_1196 (by decide) ?_
  refine lv_iadd hx hb dL_law_1197 ?_
  refine lv_topi (fun z1 ez1 => ?_)
  have hz1 : z1.toInt = i.toInt + 1 := ar_add ez1 rfl (by decide : (1 : Int32).toInt = 1) (by omega) (by omega)
  refine va_sld hx hb hX hbl hbA hT.2.2.1 (vp_in_iff.mpr (by omega)) dL_law_1198 ?_
  refine lv_topi (fun v2 ev2 => ?_)
  refine t_cVi (n := 1) (C := RX11) (T := TX11) (N := 16) (As := [.int v2]) (rest := []) X hT (kt427_X11_worth l G tag L F hT.2.2.2 x0 v2 mx gx) mx gx rfl rfl qw_1312 qw_1313 qw_1314 qw_2 qw_1315 ⟨rfl, by decide +kernel, by decide +kernel, by decide +kernel⟩ ⟨(Nat.le_of_ble_eq_true rfl), (Nat.le_of_ble_eq_true rfl)⟩ hl rfl rfl (Nat.le_of_ble_eq_true rfl) dL_law_1199 ⟨show cells + 0 ≤ 601024 from by omega, show slots + 0 ≤ 7293034 from by omega⟩ (fun r3 F H locs hT hr3 => ?_)
  refine W.widen (k := cells) (n := slots) (Nat.le_refl _) (Nat.le_refl _) ?_
  obtain ⟨hgr3, yr3⟩ := hr3
  have hf1 := (yr3.1 _ 1 (Or.inr (by decide))).trans hf1
  have hf2 := (yr3.1 _ 6 (Or.inr (by decide))).trans hf2
  have hrd := (yr3.1 _ 8 (Or.inr (by decide))).trans hrd
  have hrs := (yr3.1 _ 10 (Or.inr (by decide))).trans hrs
  have hrn := (yr3.1 _ 11 (Or.inr (by decide))).trans hrn
  have hns := nsr_of (fun j => yr3.2 _ j (Or.inl grs)) (fun j => yr3.2 _ j (Or.inr grn)) hns
  refine lv_pop hx hb dL_law_1202 rfl ?_
  refine lv_aload_n hx hb dL_law_1203 rfl (lv_at hl 2 rfl) ?_
  refine lv_aload_n hx hb dL_law_1204 rfl (lv_at hl 4 rfl) ?_
  refine lv_iload hx hb dL_law_1205 (lv_at hl 0 rfl) ?_
  refine lv_iconst (v := 1) hx hb dL_law_1207 (by decide) ?_
  refine lv_iadd hx hb dL_law_1208 ?_
  refine lv_topi (fun z4 ez4 => ?_)
  have hz4 : z4.toInt = i.toInt + 1 := ar_add ez4 rfl (by decide : (1 : Int32).toInt = 1) (by omega) (by omega)
  refine va_sld hx hb hX hbl hbA hT.2.2.1 (vp_in_iff.mpr (by omega)) dL_law_1209 ?_
  refine lv_topi (fun v5 ev5 => ?_)
  refine t_cVi (n := 1) (C := RX13) (T := TX13) (N := 37) (As := [.int v5]) (rest := []) X hT (kp_X13_worth l G tag L F hT.2.2.2 m0 v5 mm gm) mm gm rfl rfl qw_1320 qw_1321 qw_1322 qw_5 qw_1323 ⟨rfl, by decide +kernel, by decide +kernel, by decide +kernel⟩ ⟨(Nat.le_of_ble_eq_true rfl), (Nat.le_of_ble_eq_true rfl)⟩ hl rfl rfl (Nat.le_of_ble_eq_true rfl) dL_law_1210 ⟨show cells + 0 ≤ 601024 from by omega, show slots + 0 ≤ 7293034 from by omega⟩ (fun r6 F H locs hT hr6 => ?_)
  refine W.widen (k := cells) (n := slots) (Nat.le_refl _) (Nat.le_refl _) ?_
  obtain ⟨hgr6, yr6⟩ := hr6
  have hf1 := (yr6.1 _ 1 (Or.inr (by decide)) (Or.inl (by rw [gx]; decide)) (Or.inr (by decide))).trans hf1
  have hf2 := (yr6.1 _ 6 (Or.inr (by decide)) (Or.inr (by decide)) (Or.inr (by decide))).trans hf2
  have hrd := (yr6.1 _ 8 (Or.inr (by decide)) (Or.inr (by decide)) (Or.inr (by decide))).trans hrd
  have hrs := (yr6.1 _ 10 (Or.inr (by decide)) (Or.inr (by decide)) (Or.inr (by decide))).trans hrs
  have hrn := (yr6.1 _ 11 (Or.inr (by decide)) (Or.inr (by decide)) (Or.inr (by decide))).trans hrn
  have hns := nsr_of (fun j => yr6.2 _ j ) (fun j => yr6.2 _ j ) hns
  refine lv_pop hx hb dL_law_1213 rfl ?_
  refine lv_goto (tgt := 1828) hx hb dL_law_1214 (by decide) ?_
  exact kk tag L F H locs _ cells slots (by omega) (by omega) hT ⟨mx, gx, mm, gm, mo, go, f1, f2, hf1, hf2, hff, hf0, hf9, rd, rs, rn, hrd, mrd, grd, hrs, hrn, mrs, mrn, grs, grn, hns⟩ (lv_sub hl [0, 1, 2, 3, 4] rfl)
set_option maxHeartbeats 4000000 in
set_option maxRecDepth 100000 in
theorem law_c29 {p : Program} {e : Env} {s : State} {m : MethodId} {below : List Frame} {meth : Method} {c : Code} (l : Launch) (G : KG) (b : Nat) (xs : Nat → Int32) {L9 : Nat} (hL9 : L9 ≤ 3072) (X : CX p s m #[Value.ref b] meth c cL_law 7 RL ret G (fun q : Nat => s.heap.size ≤ q) lw_tbl) (hX : va_X b L9 xs s s.heap) (hbl : b < s.heap.size) {H : Heap} {locs : List Loc} {ls : Array Slot} {cells slots : Nat} (hc : cells ≤ 600000) (hs : slots ≤ 7290000) {tag : Nat → Nat} {L : List Nat} {F : Nat → va_E} (x0 m0 o0 : Nat) (i : Int32) (hi : 0 ≤ i.toInt ∧ i.toInt + 6 ≤ (L9 : Int)) (hT : TH G ttC (fun q : Nat => s.heap.size ≤ q) s tag L F H locs) (hI : LINV tag L F x0 m0 o0) (hl : lv_has ls 7 [(4, .int i), (3, .ref o0), (2, .ref m0), (1, .ref x0), (0, .ref b)]) (kk : ∀ (tag1 : Nat → Nat) (L1 : List Nat) (F1 : Nat → va_E) (H1 : Heap) (locs1 : List Loc) (ls1 : Array Slot) (c1 s1 : Nat), c1 ≤ cells + 17 → s1 ≤ slots + 541 → TH G ttC (fun q : Nat => s.heap.size ≤ q) s tag1 L1 F1 H1 locs1 → LINV tag1 L1 F1 x0 m0 o0 → lv_has ls1 7 [(4, .int i), (3, .ref o0), (2, .ref m0), (1, .ref x0), (0, .ref b)] → W p l e room_1 s m #[Value.ref b] below meth c H1 locs1 c1 s1 (lw_Z below #[Value.ref b] s) (F0 m 1828 ls1 [])) : W p l e room_1 s m #[Value.ref b] below meth c H locs cells slots (lw_Z below #[Value.ref b] s) (F0 m 1217 ls []) := by
  have hx := X.1.1
  have hb := X.1.2.1
  have hbA : ¬ (fun q : Nat => s.heap.size ≤ q) b := Nat.not_le.mpr hbl
  have hL9i : (L9 : Int) ≤ 3072 := by omega
  obtain ⟨mx, gx, mm, gm, mo, go, f1, f2, hf1, hf2, hff, hf0, hf9, rd, rs, rn, hrd, mrd, grd, hrs, hrn, mrs, mrn, grs, grn, hns⟩ := hI
  refine lv_aload_n hx hb dL_law_1217 rfl (lv_at hl 3 rfl) ?_
  refine t_cVi (n := 0) (C := RX11) (T := TX11) (N := 16) (As := []) (rest := []) X hT (kt403_X11_orders l G tag L F hT.2.2.2 x0 mx gx) mx gx rfl rfl qw_1328 qw_1329 qw_1330 qw_2 qw_1331 ⟨rfl, by decide +kernel, by decide +kernel, by decide +kernel⟩ ⟨(Nat.le_of_ble_eq_true rfl), (Nat.le_of_ble_eq_true rfl)⟩ hl rfl rfl (Nat.le_of_ble_eq_true rfl) dL_law_1218 ⟨show cells + 0 ≤ 601024 from by omega, show slots + 0 ≤ 7293034 from by omega⟩ (fun r1 F H locs hT hr1 => ?_)
  refine W.widen (k := cells) (n := slots) (Nat.le_refl _) (Nat.le_refl _) ?_
  obtain ⟨hgr1, yr1⟩ := hr1
  have hf1 := (yr1.1 _ 1 (Or.inr (by decide)) (Or.inr (by decide))).trans hf1
  have hf2 := (yr1.1 _ 6 (Or.inr (by decide)) (Or.inr (by decide))).trans hf2
  have hrd := (yr1.1 _ 8 (Or.inr (by decide)) (Or.inr (by decide))).trans hrd
  have hrs := (yr1.1 _ 10 (Or.inr (by decide)) (Or.inr (by decide))).trans hrs
  have hrn := (yr1.1 _ 11 (Or.inr (by decide)) (Or.inr (by decide))).trans hrn
  have hns := nsr_of (fun j => yr1.2 _ j (Or.inl grs)) (fun j => yr1.2 _ j (Or.inr grn)) hns
  refine lv_pop hx hb dL_law_1221 rfl ?_
  refine lv_aload_n hx hb dL_law_1222 rfl (lv_at hl 2 rfl) ?_
  refine t_cVi (n := 0) (C := RX13) (T := TX13) (N := 37) (As := []) (rest := []) X hT (kp_X13_orders l G tag L F hT.2.2.2 m0 mm gm) mm gm rfl rfl qw_1357 qw_1358 qw_1359 qw_5 qw_1360 ⟨rfl, by decide +kernel, by decide +kernel, by decide +kernel⟩ ⟨(Nat.le_of_ble_eq_true rfl), (Nat.le_of_ble_eq_true rfl)⟩ hl rfl rfl (Nat.le_of_ble_eq_true rfl) dL_law_1223 ⟨show cells + 0 ≤ 601024 from by omega, show slots + 0 ≤ 7293034 from by omega⟩ (fun r2 F H locs hT hr2 => ?_)
  refine W.widen (k := cells) (n := slots) (Nat.le_refl _) (Nat.le_refl _) ?_
  obtain ⟨hgr2, yr2⟩ := hr2
  have hf1 := (yr2.1 _ 1 (Or.inr (by decide)) (Or.inl (by rw [gx]; decide)) (Or.inr (by decide)) (Or.inr (by decide))).trans hf1
  have hf2 := (yr2.1 _ 6 (Or.inr (by decide)) (Or.inr (by decide)) (Or.inr (by decide)) (Or.inr (by decide))).trans hf2
  have hrd := (yr2.1 _ 8 (Or.inr (by decide)) (Or.inr (by decide)) (Or.inr (by decide)) (Or.inr (by decide))).trans hrd
  have hrs := (yr2.1 _ 10 (Or.inr (by decide)) (Or.inr (by decide)) (Or.inr (by decide)) (Or.inr (by decide))).trans hrs
  have hrn := (yr2.1 _ 11 (Or.inr (by decide)) (Or.inr (by decide)) (Or.inr (by decide)) (Or.inr (by decide))).trans hrn
  have hns := nsr_of (fun j => yr2.2 _ j (by rw [grs]; decide) (by rw [grs]; decide)) (fun j => yr2.2 _ j (by rw [grn]; decide) (by rw [grn]; decide)) hns
  refine lv_pop hx hb dL_law_1226 rfl ?_
  refine lv_goto (tgt := 1828) hx hb dL_law_1227 (by decide) ?_
  exact kk tag L F H locs _ cells slots (by omega) (by omega) hT ⟨mx, gx, mm, gm, mo, go, f1, f2, hf1, hf2, hff, hf0, hf9, rd, rs, rn, hrd, mrd, grd, hrs, hrn, mrs, mrn, grs, grn, hns⟩ (lv_sub hl [0, 1, 2, 3, 4] rfl)
