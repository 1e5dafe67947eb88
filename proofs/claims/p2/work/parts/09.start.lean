theorem qn_rU : (Jvm.Cond.isRef (Jvm.Term.static "java/lang/Throwable" "UNASSIGNED_STACK" "[Ljava/lang/StackTraceElement;")) = Cond.isRef (.static Bundle.tN "UNASSIGNED_STACK" Bundle.steD) := rfl
theorem st_lt {l : Launch} (h : l.flags = flags0) : l.stackTraces = false := by
  unfold Launch.stackTraces
  rw [h]
  decide +kernel
set_option maxHeartbeats 4000000 in
set_option maxRecDepth 100000 in
theorem whole_start {p : Program} {e : Env} {s : State} {m : MethodId} {below : List Frame} {meth : Method} {c : Code} (l : Launch) (hflags : l.flags = flags0) {b L : Nat} {xs : Nat → Int32} (hL : L ≤ 3072) (C0 : lw_At p s m meth c b L xs) : W p l e room_1 s m #[Value.ref b] below meth c s.heap [] 0 0 (lw_Z below #[Value.ref b] s) (entryFrame m ([Value.ref b] : List Value).toArray 7) := by
  obtain ⟨hx, hb, hr, hml, hown, hts, hX, hbl, hlocks, hgv⟩ := C0
  have hbA : ¬ (fun q : Nat => s.heap.size ≤ q) b := Nat.not_le.mpr hbl
  have hgv : (Jvm.Cond.and given_1 narrow_1).before #[Value.ref b] s = true := hgv
  obtain ⟨G, hK, hST⟩ := st_G hts hgv
  have hE : EN s := st_E hts hgv
  have X : CX p s m #[Value.ref b] meth c cL_law 7 RL ret G (fun q : Nat => s.heap.size ≤ q) lw_tbl := ⟨⟨hx, hb, hml, hown, hts⟩, wsL_law_in, hK, ⟨hE, hST⟩, fun _ h => h, hr, hlocks⟩
  have hlt := st_lt hflags
  have hEX : EX s := EX.of hts
  have hU : vx_Zq Bundle.tN "UNASSIGNED_STACK" Bundle.steD (fun q : Nat => s.heap.size ≤ q) s s.heap := vx_Zqof (hts _ qn_l9) (hts _ qn_i3) (at_before (T := Jvm.Cond.and given_1 narrow_1) [false, true, true, true, true, false, false, true, false, false, false] hgv : (Jvm.Cond.isRef (Jvm.Term.static "java/lang/Throwable" "UNASSIGNED_STACK" "[Ljava/lang/StackTraceElement;")).before #[Value.ref b] s = true) (fun a h => Nat.not_le.mpr h)
  have hN : vx_Zq Bundle.tN "SUPPRESSED_SENTINEL" Bundle.listD (fun q : Nat => s.heap.size ≤ q) s s.heap := vx_Zqof (hts _ qn_l10) (hts _ qn_i3) (at_before (T := Jvm.Cond.and given_1 narrow_1) [false, true, true, true, true, false, false, false, true, true] hgv : (Jvm.Cond.isRef (Jvm.Term.static "java/lang/Throwable" "SUPPRESSED_SENTINEL" "Ljava/util/List;")).before #[Value.ref b] s = true) (fun a h => Nat.not_le.mpr h)
  obtain ⟨L9, hL9e⟩ : ∃ n : Nat, n = L := ⟨_, rfl⟩
  rw [← hL9e] at hX hL
  have hT : TH G ttC (fun q : Nat => s.heap.size ≤ q) s (fun _ => 0) [] (fun _ => .inr (0, [])) s.heap [] := ⟨fun k q h => by simp [va_pl] at h, ⟨fun i j p q h => by simp [va_pl] at h, fun k q h => by simp [va_pl] at h⟩, va_S.rf, fun a h => absurd h List.not_mem_nil⟩
  have hl := lv_entry ([.ref b]) (n := 7) (Nat.le_of_ble_eq_true rfl)
  rw [lg_entry_eq]
  generalize (lg_sl ([.ref b]) ++ List.replicate (7 - (lg_sl ([.ref b])).length) Slot.unset).toArray = ls at hl ⊢
  have hl : lv_has ls 7 [(0, .ref b)] := hl
  generalize (fun _ => 0 : Nat → Nat) = tag at hT
  refine t_new (C := RX11) (T := TX11) (N := 16) (ci := 8) (fs := [.null, .int 0, .int 0, .null, .null, .null, .null, .null, .null, .null, .null, .null, .null, .int 0, .int 0, .int 0]) (t := 56) X hT tyX11 tyX11_ok inlX11 qw_0 qw_1 qw_2 rfl (by decide +kernel) (Nat.le_of_ble_eq_true rfl) (Nat.le_of_ble_eq_true rfl) dL_law_0 rfl rfl (by decide) (fun x0 tag L F H hT mx gx kx0 Fx0 hEx0 hxx0 => ?_)
  refine lv_dup hx hb dL_law_3 rfl ?_
  refine t_caI (n := 0) (As := []) (rest := [.ref x0]) X hT (ka_X11_init l G tag L F hT.2.2.2 x0 mx gx (by unfold fld; rw [Fx0]; rfl) (by unfold fld; rw [Fx0]; rfl) (by unfold fld; rw [Fx0]; rfl) (by unfold fld; rw [Fx0]; rfl) (by unfold fld; rw [Fx0]; rfl) (by unfold fld; rw [Fx0]; rfl) (by unfold fld; rw [Fx0]; rfl) (by unfold fld; rw [Fx0]; rfl) (by unfold fld; rw [Fx0]; rfl) (by unfold fld; rw [Fx0]; rfl) (by unfold fld; rw [Fx0]; rfl) (by unfold fld; rw [Fx0]; rfl) (by unfold fld; rw [Fx0]; rfl) (by unfold fld; rw [Fx0]; rfl) (by unfold fld; rw [Fx0]; rfl) (by unfold fld; rw [Fx0]; rfl)) qw_7 qw_8 qw_2 qw_9 rfl ⟨by decide +kernel, by decide +kernel, by decide +kernel⟩ ⟨(Nat.le_of_ble_eq_true rfl), (Nat.le_of_ble_eq_true rfl)⟩ hl rfl rfl (Nat.le_of_ble_eq_true rfl) dL_law_4 ⟨(Nat.le_of_ble_eq_true rfl), (Nat.le_of_ble_eq_true rfl)⟩ (fun u9 H locs hT hu => ?_)
  obtain ⟨tag, L, F⟩ := u9
  have hT : TH G ttC (fun q : Nat => s.heap.size ≤ q) s tag L F H locs := hT
  obtain ⟨hEu, mx, gx, ⟨rd, rs, rn, hrd, mrd, grd, hrs, hrn, mrs, mrn, grs, grn, hzs⟩, hf1⟩ := hu
  have mx : x0 ∈ L := mx
  have gx : tag x0 = 26 := gx
  have hrd : fld F x0 8 = .ref rd := hrd
  have mrd : rd ∈ L := mrd
  have grd : tag rd = 25 := grd
  have hrs : fld F rd 10 = .ref rs := hrs
  have hrn : fld F rd 11 = .ref rn := hrn
  have mrs : rs ∈ L := mrs
  have mrn : rn ∈ L := mrn
  have grs : tag rs = 14 := grs
  have grn : tag rn = 15 := grn
  have hf1 : fld F x0 1 = .int 0 := hf1
  have hns : NSR F rs rn := nsr_z hzs
  refine lv_astore_n (lv' := [(1, .ref x0), (0, .ref b)]) hx hb dL_law_7 rfl hl (by decide) rfl (fun ls hl => ?_)
  refine t_new (C := RX13) (T := TX13) (N := 37) (ci := 10) (fs := [.int 0, .int 0, .int 0, .null, .null, .null, .int 0, .int 0, .int 0, .int 0, .int 0, .int 0, .int 0, .int 0, .int 0, .long 0, .null, .null, .null, .null, .int 0, .int 0, .int 0, .int 0, .null, .null, .null, .null, .int 0, .null, .null, .null, .null, .null, .null, .null, .int 0]) (t := 58) X hT tyX13 tyX13_ok inlX13 qw_3 qw_4 qw_5 rfl (by decide +kernel) (Nat.le_of_ble_eq_true rfl) (Nat.le_of_ble_eq_true rfl) dL_law_8 rfl rfl (by decide) (fun m0 tag L F H hT mm gm km0 Fm0 hEm0 hxm0 => ?_)
  have hf1 := ((hxm0 _ mx).2 1).1.trans hf1
  have hrd := ((hxm0 _ mx).2 8).1.trans hrd
  have hrs := ((hxm0 _ mrd).2 10).1.trans hrs
  have hrn := ((hxm0 _ mrd).2 11).1.trans hrn
  have hns := nsr_of (fun j => ((hxm0 _ mrs).2 j).2.1) (fun j => ((hxm0 _ mrn).2 j).2.1) hns
  have gx := (hxm0 _ mx).1.trans gx
  have nm0_x0 : x0 ≠ m0 := fun h => km0 (h ▸ mx)
  have grd := (hxm0 _ mrd).1.trans grd
  have nm0_rd : rd ≠ m0 := fun h => km0 (h ▸ mrd)
  have grs := (hxm0 _ mrs).1.trans grs
  have nm0_rs : rs ≠ m0 := fun h => km0 (h ▸ mrs)
  have grn := (hxm0 _ mrn).1.trans grn
  have nm0_rn : rn ≠ m0 := fun h => km0 (h ▸ mrn)
  have mx := (hEm0.1 _ mx).1
  have mrd := (hEm0.1 _ mrd).1
  have mrs := (hEm0.1 _ mrs).1
  have mrn := (hEm0.1 _ mrn).1
  refine lv_dup hx hb dL_law_11 rfl ?_
  refine t_caI (n := 0) (As := []) (rest := [.ref m0]) X hT (ka_X13_init l G tag L F hT.2.2.2 m0 mm gm (by unfold fld; rw [Fm0]; rfl) (by unfold fld; rw [Fm0]; rfl) (by unfold fld; rw [Fm0]; rfl) (by unfold fld; rw [Fm0]; rfl) (by unfold fld; rw [Fm0]; rfl) (by unfold fld; rw [Fm0]; rfl) (by unfold fld; rw [Fm0]; rfl) (by unfold fld; rw [Fm0]; rfl) (by unfold fld; rw [Fm0]; rfl) (by unfold fld; rw [Fm0]; rfl) (by unfold fld; rw [Fm0]; rfl) (by unfold fld; rw [Fm0]; rfl) (by unfold fld; rw [Fm0]; rfl) (by unfold fld; rw [Fm0]; rfl) (by unfold fld; rw [Fm0]; rfl) (by unfold fld; rw [Fm0]; rfl) (by unfold fld; rw [Fm0]; rfl) (by unfold fld; rw [Fm0]; rfl) (by unfold fld; rw [Fm0]; rfl) (by unfold fld; rw [Fm0]; rfl) (by unfold fld; rw [Fm0]; rfl) (by unfold fld; rw [Fm0]; rfl) (by unfold fld; rw [Fm0]; rfl) (by unfold fld; rw [Fm0]; rfl) (by unfold fld; rw [Fm0]; rfl) (by unfold fld; rw [Fm0]; rfl) (by unfold fld; rw [Fm0]; rfl) (by unfold fld; rw [Fm0]; rfl) (by unfold fld; rw [Fm0]; rfl) (by unfold fld; rw [Fm0]; rfl) (by unfold fld; rw [Fm0]; rfl) (by unfold fld; rw [Fm0]; rfl) (by unfold fld; rw [Fm0]; rfl) (by unfold fld; rw [Fm0]; rfl) (by unfold fld; rw [Fm0]; rfl) (by unfold fld; rw [Fm0]; rfl) (by unfold fld; rw [Fm0]; rfl)) qw_105 qw_106 qw_5 qw_107 rfl ⟨by decide +kernel, by decide +kernel, by decide +kernel⟩ ⟨(Nat.le_of_ble_eq_true rfl), (Nat.le_of_ble_eq_true rfl)⟩ hl rfl rfl (Nat.le_of_ble_eq_true rfl) dL_law_12 ⟨(Nat.le_of_ble_eq_true rfl), (Nat.le_of_ble_eq_true rfl)⟩ (fun u9 H locs hT hu => ?_)
  obtain ⟨tag, L, F⟩ := u9
  have hT : TH G ttC (fun q : Nat => s.heap.size ≤ q) s tag L F H locs := hT
  obtain ⟨hEu, mm, gm, hf2⟩ := hu
  have mm : m0 ∈ L := mm
  have gm : tag m0 = 46 := gm
  have hf2 : fld F m0 6 = .int 0 := hf2
  have hf1 : fld F x0 1 = .int 0 := (hEu.2 _ 1 mx nm0_x0).1.trans hf1
  have hrd : fld F x0 8 = .ref rd := (hEu.2 _ 8 mx nm0_x0).1.trans hrd
  have hrs : fld F rd 10 = .ref rs := (hEu.2 _ 10 mrd nm0_rd).1.trans hrs
  have hrn : fld F rd 11 = .ref rn := (hEu.2 _ 11 mrd nm0_rd).1.trans hrn
  have hns : NSR F rs rn := nsr_of (fun j => (hEu.2 _ j mrs nm0_rs).2.1) (fun j => (hEu.2 _ j mrn nm0_rn).2.1) hns
  have gx : tag x0 = 26 := ((hEu.1 _ mx).2 nm0_x0).trans gx
  have grd : tag rd = 25 := ((hEu.1 _ mrd).2 nm0_rd).trans grd
  have grs : tag rs = 14 := ((hEu.1 _ mrs).2 nm0_rs).trans grs
  have grn : tag rn = 15 := ((hEu.1 _ mrn).2 nm0_rn).trans grn
  have mx : x0 ∈ L := (hEu.1 _ mx).1
  have mrd : rd ∈ L := (hEu.1 _ mrd).1
  have mrs : rs ∈ L := (hEu.1 _ mrs).1
  have mrn : rn ∈ L := (hEu.1 _ mrn).1
  refine lv_astore_n (lv' := [(2, .ref m0), (1, .ref x0), (0, .ref b)]) hx hb dL_law_15 rfl hl (by decide) rfl (fun ls hl => ?_)
  refine lv_iconst (v := 1) hx hb dL_law_16 (by decide) ?_
  refine t_newa (atype := .long) (a0 := (1, .inr (.inl (fun _ => 0)))) (t := 47) X hT 2 rfl qw_6 (fun _ => rfl) (by decide) (by decide) (Nat.le_of_ble_eq_true rfl) (Nat.le_of_ble_eq_true rfl) (Nat.le_of_ble_eq_true rfl) dL_law_17 (fun t9 l9 => (show okA G t9 l9 (2, 1, fun _ => (-2147483648, 2147483647)) (.inl (G.2 2, (1, .inr (.inl (fun _ => 0))))) from ⟨_, rfl⟩)) (fun o0 tag L F H hT mo go ko0 Fo0 hEo0 hxo0 => ?_)
  have hf1 := ((hxo0 _ mx).2 1).1.trans hf1
  have hrd := ((hxo0 _ mx).2 8).1.trans hrd
  have hrs := ((hxo0 _ mrd).2 10).1.trans hrs
  have hrn := ((hxo0 _ mrd).2 11).1.trans hrn
  have hf2 := ((hxo0 _ mm).2 6).1.trans hf2
  have hns := nsr_of (fun j => ((hxo0 _ mrs).2 j).2.1) (fun j => ((hxo0 _ mrn).2 j).2.1) hns
  have gx := (hxo0 _ mx).1.trans gx
  have no0_x0 : x0 ≠ o0 := fun h => ko0 (h ▸ mx)
  have grd := (hxo0 _ mrd).1.trans grd
  have no0_rd : rd ≠ o0 := fun h => ko0 (h ▸ mrd)
  have grs := (hxo0 _ mrs).1.trans grs
  have no0_rs : rs ≠ o0 := fun h => ko0 (h ▸ mrs)
  have grn := (hxo0 _ mrn).1.trans grn
  have no0_rn : rn ≠ o0 := fun h => ko0 (h ▸ mrn)
  have gm := (hxo0 _ mm).1.trans gm
  have no0_m0 : m0 ≠ o0 := fun h => ko0 (h ▸ mm)
  have mx := (hEo0.1 _ mx).1
  have mrd := (hEo0.1 _ mrd).1
  have mrs := (hEo0.1 _ mrs).1
  have mrn := (hEo0.1 _ mrn).1
  have mm := (hEo0.1 _ mm).1
  refine lv_astore_n (lv' := [(3, .ref o0), (2, .ref m0), (1, .ref x0), (0, .ref b)]) hx hb dL_law_19 rfl hl (by decide) rfl (fun ls hl => ?_)
  refine lv_iconst (v := 0) hx hb dL_law_20 (by decide) ?_
  refine lv_istore (lv' := [(4, .int 0), (3, .ref o0), (2, .ref m0), (1, .ref x0), (0, .ref b)]) hx hb dL_law_21 hl (by decide) rfl (fun ls hl => ?_)
  refine W.widen (k := 200) (n := 20000) (Nat.le_of_ble_eq_true rfl) (Nat.le_of_ble_eq_true rfl) ?_
  exact law_loop l G b xs hL hlt hEX hU hN X hX hbl 513 0 tag L F H _ ls 200 20000 x0 m0 o0 (by decide) (by decide) (by omega) (by omega) hT ⟨mx, gx, mm, gm, mo, go, 0, 0, hf1, hf2, rfl, by decide, by decide, rd, rs, rn, hrd, mrd, grd, hrs, hrn, mrs, mrn, grs, grn, hns⟩ hl
