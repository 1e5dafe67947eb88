set_option maxHeartbeats 4000000 in
set_option maxRecDepth 100000 in
theorem km181_X13_goesBy (l : Launch) (G : KG) (tag : Nat → Nat) (L : List Nat) (Fo : Nat → va_E) (ho : okT G ttC tag L Fo) (p0 : Nat) (p1 : Nat) (x0 : Nat) (m0 : p0 ∈ L) (g0 : tag p0 = 46) (m1 : p1 ∈ L) (g1 : tag p1 = 37) (mx0 : x0 ∈ L) (gx0 : tag x0 = 45) (pf0 : fld Fo p0 3 = .ref x0) : TMv l yX13_goesBy cX13_goesBy 3 { frames := 6, cells := 0, slots := 0, locals := 148 } G ttC tag L Fo [.ref p0, .ref p1] (fun F1 => ((∀ b j : Nat, (tag b ≠ 46 ∨ j ≠ 22) → (tag b ≠ 46 ∨ j ≠ 23) → fld F1 b j = fld Fo b j) ∧ (∀ b j : Nat, tag b ≠ 37 → elm F1 b j = elm Fo b j))) := by
  refine t_bodyv (y := yX13_goesBy) (cd := cX13_goesBy) (mL := 3) (rm := { frames := 6, cells := 0, slots := 0, locals := 148 }) (av := [.ref p0, .ref p1]) (by decide) (Nat.le_of_ble_eq_true rfl) ho ?_
  intro p e s m args below meth c ls A Q hQ X hT hl
  have hx := X.1.1
  have hb := X.1.2.1
  have hl : lv_has ls 3 [(0, .ref p0), (1, .ref p1)] := hl
  obtain ⟨F, hFo⟩ : ∃ F : Nat → va_E, F = Fo := ⟨_, rfl⟩
  rw [← hFo] at hT pf0
  have hfr : (∀ b j : Nat, (tag b ≠ 46 ∨ j ≠ 22) → (tag b ≠ 46 ∨ j ≠ 23) → fld F b j = fld Fo b j) ∧ (∀ b j : Nat, tag b ≠ 37 → elm F b j = elm Fo b j) := by
    rw [hFo]
    exact ⟨by intros; rfl, by intros; rfl⟩
  have K2 : ∀ (n : Nat) (z52302 : Int32) (F : Nat → va_E) (H : Heap) (locs : List Loc) (ls : Array Slot), (4 - z52302.toInt < (n : Int)) → (0 ≤ z52302.toInt ∧ z52302.toInt ≤ 4) → TH G ttC A s tag L F H locs → ((∀ b j : Nat, (tag b ≠ 46 ∨ j ≠ 22) → (tag b ≠ 46 ∨ j ≠ 23) → fld F b j = fld Fo b j) ∧ (∀ b j : Nat, tag b ≠ 37 → elm F b j = elm Fo b j)) → (fld F p0 3 = .ref x0) → lv_has ls 3 [(0, .ref p0), (1, .ref p1), (2, .int z52302)] → W p l e { frames := 6, cells := 0, slots := 0, locals := 148 } s m args below meth c H locs 0 0 Q (F0 m 2 ls []) := by
    intro n
    induction n with
    | zero =>
      intro z52302 F H locs ls hn rz52302 hT hfr pf0 hl
      exfalso
      omega
    | succ n ih2 =>
      intro z52302 F H locs ls hn rz52302 hT hfr pf0 hl
      refine lv_iload_n hx hb dX13_goesBy_2 rfl (lv_at hl 2 rfl) ?_
      refine lv_aload_n hx hb dX13_goesBy_3 rfl (lv_at hl 0 rfl) ?_
      refine t_get (C := RX13) (T := TX13) (N := 37) X hT m0 g0 rfl rfl 3 (by decide) qw_481 inlX13 rfl dX13_goesBy_4 (fun v52303 hv52303 ov52303 => ?_)
      obtain rfl : v52303 = .ref x0 := hv52303.symm.trans pf0
      refine t_getN (C := RX12) (T := TX12) (N := 31) X hT mx0 gx0 rfl rfl 8 (by decide) (List.mem_of_getElem? (i := 12) rfl) inlX12 rfl dX13_goesBy_7 (fun v52304 hv52304 ov52304 => ?_)
      obtain ⟨z52305, rfl, rz52305⟩ := okV_i ov52304
      refine lv_icmp_ge (tgt := 30) hx hb dX13_goesBy_10 (by decide) (fun c52306 => ?_) (fun c52306 => ?_)
      · have w52307 := cv_le (rfl : z52305.toInt = z52305.toInt) (rfl : z52302.toInt = z52302.toInt) c52306
        refine lv_aload_n hx hb dX13_goesBy_30 rfl (lv_at hl 1 rfl) ?_
        refine lv_sipush (v := 210) hx hb dX13_goesBy_31 (by decide) ?_
        refine lv_dup2_11 hx hb dX13_goesBy_34 rfl rfl ?_
        refine t_ild X hT m1 g1 rfl (by decide) dX13_goesBy_35 (fun z52308 vz52308 rz52308 => ?_)
        have oz52308 := rz52308
        have rz52308 := rg_all z52308
        refine lv_iconst (v := 1) hx hb dX13_goesBy_36 (by decide) ?_
        refine lv_iadd hx hb dX13_goesBy_37 ?_
        refine lv_topi (fun z52309 ez52309 => ?_)
        have rz52309 := rg_all z52309
        refine t_ist X hT m1 g1 rfl (by decide) (row_fv (by decide) (Or.inr (Or.inl (by decide)))) dX13_goesBy_38 (fun F H locs hT v52310 h1v52310 h2v52310 => ?_)
        have pf0 := (h2v52310 _ _).trans pf0
        have hv52304 := (h2v52310 _ _).trans hv52304
        have hfr : (∀ b j : Nat, (tag b ≠ 46 ∨ j ≠ 22) → (tag b ≠ 46 ∨ j ≠ 23) → fld F b j = fld Fo b j) ∧ (∀ b j : Nat, tag b ≠ 37 → elm F b j = elm Fo b j) := ⟨fun b j n46_22 n46_23 => (h2v52310 b j).trans (hfr.1 b j n46_22 n46_23), fun b j a37 => (h1v52310 b j (Or.inl (at_ne g1 a37))).trans (hfr.2 b j a37)⟩
        exact t_vret hQ X hT hfr (Nat.le_of_ble_eq_true rfl) (Nat.le_of_ble_eq_true rfl) dX13_goesBy_39
      · have w52311 := cv_nle (rfl : z52305.toInt = z52305.toInt) (rfl : z52302.toInt = z52302.toInt) c52306
        refine lv_aload_n hx hb dX13_goesBy_13 rfl (lv_at hl 0 rfl) ?_
        refine lv_aload_n hx hb dX13_goesBy_14 rfl (lv_at hl 1 rfl) ?_
        refine lv_aload_n hx hb dX13_goesBy_15 rfl (lv_at hl 0 rfl) ?_
        refine t_get (C := RX13) (T := TX13) (N := 37) X hT m0 g0 rfl rfl 24 (by decide) qw_116 inlX13 rfl dX13_goesBy_16 (fun v52312 hv52312 ov52312 => ?_)
        obtain ⟨b52313, rfl, mb52313, gb52313⟩ := okV_r ov52312
        have gb52313 : tag b52313 = 40 := tg_of gb52313
        refine lv_iload_n hx hb dX13_goesBy_19 rfl (lv_at hl 2 rfl) ?_
        refine t_ild X hT mb52313 gb52313 rfl (by omega) dX13_goesBy_20 (fun z52314 vz52314 rz52314 => ?_)
        have rz52314 : 0 ≤ z52314.toInt ∧ z52314.toInt ≤ 3 := rz52314
        refine t_cVv (n := 2) (C := RX13) (T := TX13) (N := 37) (As := [.ref p1, .int z52314]) (rest := []) X hT (km180_X13_yearOf l G tag L F hT.2.2.2 p0 p1 z52314 x0 m0 g0 m1 g1 (by omega) mx0 gx0 pf0) m0 g0 rfl rfl qw_1164 qw_1165 qw_1166 qw_5 qw_1167 ⟨rfl, by decide +kernel, by decide +kernel, by decide +kernel⟩ ⟨Nat.le_of_ble_eq_true rfl, Nat.le_of_ble_eq_true rfl⟩ hl rfl rfl (Nat.le_of_ble_eq_true rfl) dX13_goesBy_21 ⟨Nat.le_of_ble_eq_true rfl, Nat.le_of_ble_eq_true rfl⟩ (fun F H locs hT hz52315 => ?_)
        have yz52315 := hz52315
        have pf0 := (yz52315.1 _ 3 (Or.inr (by decide)) (Or.inr (by decide))).trans pf0
        have hv52304 := (yz52315.1 _ 8 (Or.inr (by decide)) (Or.inr (by decide))).trans hv52304
        have hv52312 := (yz52315.1 _ 24 (Or.inr (by decide)) (Or.inr (by decide))).trans hv52312
        have vz52314 := (yz52315.2 _ _ (by rw [gb52313]; decide)).trans vz52314
        have hfr : (∀ b j : Nat, (tag b ≠ 46 ∨ j ≠ 22) → (tag b ≠ 46 ∨ j ≠ 23) → fld F b j = fld Fo b j) ∧ (∀ b j : Nat, tag b ≠ 37 → elm F b j = elm Fo b j) := ⟨fun b j n46_22 n46_23 => (yz52315.1 b j n46_22 n46_23).trans (hfr.1 b j n46_22 n46_23), fun b j a37 => (yz52315.2 b j a37).trans (hfr.2 b j a37)⟩
        obtain ⟨z52316, ez52316⟩ : ∃ y : Int32, y = z52302 + 1 := ⟨_, rfl⟩
        have hz52316 : z52316.toInt = z52302.toInt + 1 := ar_add ez52316 rfl (by decide : (1 : Int32).toInt = 1) (by omega) (by omega)
        refine lv_iinc (v := z52316) (lv' := [(2, .int z52316), (0, .ref p0), (1, .ref p1)]) hx hb dX13_goesBy_24 hl (k := 2) rfl (by rw [ez52316]; rfl) (by decide) rfl (fun ls hl => ?_)
        refine lv_goto (tgt := 2) hx hb dX13_goesBy_27 (by decide) ?_
        exact ih2 z52316 _ _ _ _ (by omega) (by omega) hT hfr pf0 (lv_sub hl [1, 2, 0] rfl)
  refine lv_iconst (v := 0) hx hb dX13_goesBy_0 (by decide) ?_
  refine lv_istore_n (lv' := [(2, .int 0), (0, .ref p0), (1, .ref p1)]) hx hb dX13_goesBy_1 rfl hl (by decide) rfl (fun ls hl => ?_)
  have k52317 : (0 : Int32).toInt = 0 := by decide
  exact K2 5 0 _ _ _ _ (by omega) (by decide) hT hfr pf0 (lv_sub hl [1, 2, 0] rfl)
set_option maxHeartbeats 4000000 in
set_option maxRecDepth 100000 in
theorem km182_X13_inYears (l : Launch) (G : KG) (tag : Nat → Nat) (L : List Nat) (Fo : Nat → va_E) (ho : okT G ttC tag L Fo) (p0 : Nat) (p1 : Int32) (x0 : Nat) (m0 : p0 ∈ L) (g0 : tag p0 = 46) (h1 : 0 ≤ p1.toInt ∧ p1.toInt ≤ 60) (mx0 : x0 ∈ L) (gx0 : tag x0 = 45) (pf0 : fld Fo p0 3 = .ref x0) : TMv l yX13_inYears cX13_inYears 3 { frames := 7, cells := 0, slots := 0, locals := 170 } G ttC tag L Fo [.ref p0, .int p1] (fun F1 => ((∀ b j : Nat, (tag b ≠ 46 ∨ j ≠ 22) → (tag b ≠ 46 ∨ j ≠ 23) → fld F1 b j = fld Fo b j) ∧ (∀ b j : Nat, tag b ≠ 37 → tag b ≠ 40 → elm F1 b j = elm Fo b j))) := by
  refine t_bodyv (y := yX13_inYears) (cd := cX13_inYears) (mL := 3) (rm := { frames := 7, cells := 0, slots := 0, locals := 170 }) (av := [.ref p0, .int p1]) (by decide) (Nat.le_of_ble_eq_true rfl) ho ?_
  intro p e s m args below meth c ls A Q hQ X hT hl
  have hx := X.1.1
  have hb := X.1.2.1
  have hl : lv_has ls 3 [(0, .ref p0), (1, .int p1)] := hl
  obtain ⟨F, hFo⟩ : ∃ F : Nat → va_E, F = Fo := ⟨_, rfl⟩
  rw [← hFo] at hT pf0
  have hfr : (∀ b j : Nat, (tag b ≠ 46 ∨ j ≠ 22) → (tag b ≠ 46 ∨ j ≠ 23) → fld F b j = fld Fo b j) ∧ (∀ b j : Nat, tag b ≠ 37 → tag b ≠ 40 → elm F b j = elm Fo b j) := by
    rw [hFo]
    exact ⟨by intros; rfl, by intros; rfl⟩
  have K10 : ∀ (n : Nat) (z52567 : Int32) (F : Nat → va_E) (H : Heap) (locs : List Loc) (ls : Array Slot), (60 - z52567.toInt < (n : Int)) → (0 ≤ z52567.toInt ∧ z52567.toInt ≤ 60) → TH G ttC A s tag L F H locs → ((∀ b j : Nat, (tag b ≠ 46 ∨ j ≠ 22) → (tag b ≠ 46 ∨ j ≠ 23) → fld F b j = fld Fo b j) ∧ (∀ b j : Nat, tag b ≠ 37 → tag b ≠ 40 → elm F b j = elm Fo b j)) → (fld F p0 3 = .ref x0) → lv_has ls 3 [(0, .ref p0), (1, .int p1), (2, .int z52567)] → W p l e { frames := 7, cells := 0, slots := 0, locals := 170 } s m args below meth c H locs 0 0 Q (F0 m 10 ls []) := by
    intro n
    induction n with
    | zero =>
      intro z52567 F H locs ls hn rz52567 hT hfr pf0 hl
      exfalso
      omega
    | succ n ih10 =>
      intro z52567 F H locs ls hn rz52567 hT hfr pf0 hl
      refine lv_iload_n hx hb dX13_inYears_10 rfl (lv_at hl 2 rfl) ?_
      refine lv_iload_n hx hb dX13_inYears_11 rfl (lv_at hl 1 rfl) ?_
      refine lv_icmp_ge (tgt := 29) hx hb dX13_inYears_12 (by decide) (fun c52568 => ?_) (fun c52568 => ?_)
      · have w52569 := cv_le (rfl : p1.toInt = p1.toInt) (rfl : z52567.toInt = z52567.toInt) c52568
        exact t_vret hQ X hT hfr (Nat.le_of_ble_eq_true rfl) (Nat.le_of_ble_eq_true rfl) dX13_inYears_29
      · have w52570 := cv_nle (rfl : p1.toInt = p1.toInt) (rfl : z52567.toInt = z52567.toInt) c52568
        refine lv_aload_n hx hb dX13_inYears_15 rfl (lv_at hl 0 rfl) ?_
        refine lv_aload_n hx hb dX13_inYears_16 rfl (lv_at hl 0 rfl) ?_
        refine t_get (C := RX13) (T := TX13) (N := 37) X hT m0 g0 rfl rfl 17 (by decide) qw_113 inlX13 rfl dX13_inYears_17 (fun v52571 hv52571 ov52571 => ?_)
        obtain ⟨b52572, rfl, mb52572, gb52572⟩ := okV_r ov52571
        have gb52572 : tag b52572 = 37 := tg_of gb52572
        refine t_cVv (n := 1) (C := RX13) (T := TX13) (N := 37) (As := [.ref b52572]) (rest := []) X hT (km181_X13_goesBy l G tag L F hT.2.2.2 p0 b52572 x0 m0 g0 mb52572 gb52572 mx0 gx0 pf0) m0 g0 rfl rfl qw_1160 qw_1161 qw_1162 qw_5 qw_1163 ⟨rfl, by decide +kernel, by decide +kernel, by decide +kernel⟩ ⟨Nat.le_of_ble_eq_true rfl, Nat.le_of_ble_eq_true rfl⟩ hl rfl rfl (Nat.le_of_ble_eq_true rfl) dX13_inYears_20 ⟨Nat.le_of_ble_eq_true rfl, Nat.le_of_ble_eq_true rfl⟩ (fun F H locs hT hz52573 => ?_)
        have yz52573 := hz52573
        have pf0 := (yz52573.1 _ 3 (Or.inr (by decide)) (Or.inr (by decide))).trans pf0
        have hv52571 := (yz52573.1 _ 17 (Or.inr (by decide)) (Or.inr (by decide))).trans hv52571
        have hfr : (∀ b j : Nat, (tag b ≠ 46 ∨ j ≠ 22) → (tag b ≠ 46 ∨ j ≠ 23) → fld F b j = fld Fo b j) ∧ (∀ b j : Nat, tag b ≠ 37 → tag b ≠ 40 → elm F b j = elm Fo b j) := ⟨fun b j n46_22 n46_23 => (yz52573.1 b j n46_22 n46_23).trans (hfr.1 b j n46_22 n46_23), fun b j a37 a40 => (yz52573.2 b j a37).trans (hfr.2 b j a37 a40)⟩
        obtain ⟨z52574, ez52574⟩ : ∃ y : Int32, y = z52567 + 1 := ⟨_, rfl⟩
        have hz52574 : z52574.toInt = z52567.toInt + 1 := ar_add ez52574 rfl (by decide : (1 : Int32).toInt = 1) (by omega) (by omega)
        refine lv_iinc (v := z52574) (lv' := [(2, .int z52574), (0, .ref p0), (1, .int p1)]) hx hb dX13_inYears_23 hl (k := 2) rfl (by rw [ez52574]; rfl) (by decide) rfl (fun ls hl => ?_)
        refine lv_goto (tgt := 10) hx hb dX13_inYears_26 (by decide) ?_
        exact ih10 z52574 _ _ _ _ (by omega) (by omega) hT hfr pf0 (lv_sub hl [1, 2, 0] rfl)
  refine lv_aload_n hx hb dX13_inYears_0 rfl (lv_at hl 0 rfl) ?_
  refine t_cVv (n := 0) (C := RX13) (T := TX13) (N := 37) (As := []) (rest := []) X hT (km176_X13_copies l G tag L F hT.2.2.2 p0 m0 g0) m0 g0 rfl rfl qw_1152 qw_1153 qw_1154 qw_5 qw_1155 ⟨rfl, by decide +kernel, by decide +kernel, by decide +kernel⟩ ⟨Nat.le_of_ble_eq_true rfl, Nat.le_of_ble_eq_true rfl⟩ hl rfl rfl (Nat.le_of_ble_eq_true rfl) dX13_inYears_1 ⟨Nat.le_of_ble_eq_true rfl, Nat.le_of_ble_eq_true rfl⟩ (fun F H locs hT hz52575 => ?_)
  have yz52575 := hz52575
  have pf0 := (yz52575.1 _ 3 ).trans pf0
  have hfr : (∀ b j : Nat, (tag b ≠ 46 ∨ j ≠ 22) → (tag b ≠ 46 ∨ j ≠ 23) → fld F b j = fld Fo b j) ∧ (∀ b j : Nat, tag b ≠ 37 → tag b ≠ 40 → elm F b j = elm Fo b j) := ⟨fun b j n46_22 n46_23 => (yz52575.1 b j ).trans (hfr.1 b j n46_22 n46_23), fun b j a37 a40 => (yz52575.2 b j a37).trans (hfr.2 b j a37 a40)⟩
  refine lv_aload_n hx hb dX13_inYears_4 rfl (lv_at hl 0 rfl) ?_
  obtain ⟨z52576, qz52576, mz52576, gz52576⟩ := t_fldr hT m0 g0 rfl 24 rfl
  have gz52576 : tag z52576 = 40 := tg_of gz52576
  refine t_cVv (n := 0) (C := RX13) (T := TX13) (N := 37) (As := []) (rest := []) X hT (km177_X13_byNumbers l G tag L F hT.2.2.2 p0 z52576 m0 g0 mz52576 gz52576 qz52576) m0 g0 rfl rfl qw_1156 qw_1157 qw_1158 qw_5 qw_1159 ⟨rfl, by decide +kernel, by decide +kernel, by decide +kernel⟩ ⟨Nat.le_of_ble_eq_true rfl, Nat.le_of_ble_eq_true rfl⟩ hl rfl rfl (Nat.le_of_ble_eq_true rfl) dX13_inYears_5 ⟨Nat.le_of_ble_eq_true rfl, Nat.le_of_ble_eq_true rfl⟩ (fun F H locs hT hz52577 => ?_)
  obtain ⟨yz52577, xz52577_0⟩ := hz52577
  have pf0 := (yz52577.1 _ 3 ).trans pf0
  have qz52576 := (yz52577.1 _ 24 ).trans qz52576
  have hfr : (∀ b j : Nat, (tag b ≠ 46 ∨ j ≠ 22) → (tag b ≠ 46 ∨ j ≠ 23) → fld F b j = fld Fo b j) ∧ (∀ b j : Nat, tag b ≠ 37 → tag b ≠ 40 → elm F b j = elm Fo b j) := ⟨fun b j n46_22 n46_23 => (yz52577.1 b j ).trans (hfr.1 b j n46_22 n46_23), fun b j a37 a40 => (yz52577.2 b j a40).trans (hfr.2 b j a37 a40)⟩
  refine lv_iconst (v := 0) hx hb dX13_inYears_8 (by decide) ?_
  refine lv_istore_n (lv' := [(2, .int 0), (0, .ref p0), (1, .int p1)]) hx hb dX13_inYears_9 rfl hl (by decide) rfl (fun ls hl => ?_)
  have k52578 : (0 : Int32).toInt = 0 := by decide
  exact K10 61 0 _ _ _ _ (by omega) (by decide) hT hfr pf0 (lv_sub hl [1, 2, 0] rfl)
set_option maxHeartbeats 4000000 in
set_option maxRecDepth 100000 in
theorem km183_X13_in (l : Launch) (G : KG) (tag : Nat → Nat) (L : List Nat) (Fo : Nat → va_E) (ho : okT G ttC tag L Fo) (p0 : Nat) (p1 : Int32) (p2 : Int32) (p3 : Int32) (x0 : Nat) (m0 : p0 ∈ L) (g0 : tag p0 = 46) (mx0 : x0 ∈ L) (gx0 : tag x0 = 45) (pf0 : fld Fo p0 3 = .ref x0) : TMi l yX13_in cX13_in 7 (some .int) { frames := 8, cells := 0, slots := 0, locals := 192 } G ttC tag L Fo [.ref p0, .int p1, .int p2, .int p3] (fun r F1 => ((-2147483648) ≤ r.toInt ∧ r.toInt ≤ 2147483647) ∧ ((∀ b j : Nat, (tag b ≠ 46 ∨ j ≠ 0) → (tag b ≠ 46 ∨ j ≠ 1) → (tag b ≠ 46 ∨ j ≠ 2) → (tag b ≠ 46 ∨ j ≠ 22) → (tag b ≠ 46 ∨ j ≠ 23) → fld F1 b j = fld Fo b j) ∧ (∀ b j : Nat, tag b ≠ 37 → tag b ≠ 40 → elm F1 b j = elm Fo b j))) := by
  refine t_bodyi (y := yX13_in) (cd := cX13_in) (mL := 7) (rt := (some .int)) (rm := { frames := 8, cells := 0, slots := 0, locals := 192 }) (av := [.ref p0, .int p1, .int p2, .int p3]) (by decide) (Nat.le_of_ble_eq_true rfl) ho ?_
  intro p e s m args below meth c ls A Q hQ X hT hl
  have hx := X.1.1
  have hb := X.1.2.1
  have hl : lv_has ls 7 [(0, .ref p0), (1, .int p1), (2, .int p2), (3, .int p3)] := hl
  have rp1 := rg_all p1
  have rp2 := rg_all p2
  have rp3 := rg_all p3
  obtain ⟨F, hFo⟩ : ∃ F : Nat → va_E, F = Fo := ⟨_, rfl⟩
  rw [← hFo] at hT pf0
  have hfr : (∀ b j : Nat, (tag b ≠ 46 ∨ j ≠ 0) → (tag b ≠ 46 ∨ j ≠ 1) → (tag b ≠ 46 ∨ j ≠ 2) → (tag b ≠ 46 ∨ j ≠ 22) → (tag b ≠ 46 ∨ j ≠ 23) → fld F b j = fld Fo b j) ∧ (∀ b j : Nat, tag b ≠ 37 → tag b ≠ 40 → elm F b j = elm Fo b j) := by
    rw [hFo]
    exact ⟨by intros; rfl, by intros; rfl⟩
  have K59 : ∀ (n : Nat) (z53710 : Int32) (z53711 : Int32) (z53712 : Int32) (z53713 : Int32) (F : Nat → va_E) (H : Heap) (locs : List Loc) (ls : Array Slot), (7 - z53712.toInt < (n : Int)) → (0 ≤ z53710.toInt ∧ z53710.toInt ≤ 0) → (1 ≤ z53712.toInt ∧ z53712.toInt ≤ 7) → (0 ≤ z53713.toInt ∧ z53713.toInt ≤ 0) → (0 ≤ p1.toInt ∧ p1.toInt ≤ 3) → (0 ≤ p2.toInt ∧ p2.toInt ≤ 60) → (0 ≤ p3.toInt ∧ p3.toInt ≤ 4) → TH G ttC A s tag L F H locs → ((∀ b j : Nat, (tag b ≠ 46 ∨ j ≠ 0) → (tag b ≠ 46 ∨ j ≠ 1) → (tag b ≠ 46 ∨ j ≠ 2) → (tag b ≠ 46 ∨ j ≠ 22) → (tag b ≠ 46 ∨ j ≠ 23) → fld F b j = fld Fo b j) ∧ (∀ b j : Nat, tag b ≠ 37 → tag b ≠ 40 → elm F b j = elm Fo b j)) → (fld F p0 3 = .ref x0) → (fld F p0 0 = .int z53713) → lv_has ls 7 [(0, .ref p0), (1, .int p1), (2, .int p2), (3, .int p3), (4, .int z53710), (5, .int z53711), (6, .int z53712)] → W p l e { frames := 8, cells := 0, slots := 0, locals := 192 } s m args below meth c H locs 0 0 Q (F0 m 59 ls []) := by
    intro n
    induction n with
    | zero =>
      intro z53710 z53711 z53712 z53713 F H locs ls hn rz53710 rz53712 rz53713 r9s53707 r9s53708 r9s53709 hT hfr pf0 qz53713 hl
      have rz53711 := rg_all z53711
      exfalso
      omega
    | succ n ih59 =>
      intro z53710 z53711 z53712 z53713 F H locs ls hn rz53710 rz53712 rz53713 r9s53707 r9s53708 r9s53709 hT hfr pf0 qz53713 hl
      have rz53711 := rg_all z53711
      refine lv_iload hx hb dX13_in_59 (lv_at hl 6 rfl) ?_
      refine lv_aload_n hx hb dX13_in_61 rfl (lv_at hl 0 rfl) ?_
      refine t_get (C := RX13) (T := TX13) (N := 37) X hT m0 g0 rfl rfl 17 (by decide) qw_113 inlX13 rfl dX13_in_62 (fun v53714 hv53714 ov53714 => ?_)
      obtain ⟨b53715, rfl, mb53715, gb53715⟩ := okV_r ov53714
      have gb53715 : tag b53715 = 37 := tg_of gb53715
      refine lv_iconst (v := 0) hx hb dX13_in_65 (by decide) ?_
      refine lv_iload_n hx hb dX13_in_66 rfl (lv_at hl 1 rfl) ?_
      refine lv_iadd hx hb dX13_in_67 ?_
      refine lv_topi (fun z53716 ez53716 => ?_)
      obtain rfl : p1 = z53716 := (ar_zadd ez53716).symm
      refine t_ild X hT mb53715 gb53715 rfl (by omega) dX13_in_68 (fun z53717 vz53717 rz53717 => ?_)
      have rz53717 := row_ml (by omega) rz53717
      refine lv_icmp_gt (tgt := 95) hx hb dX13_in_69 (by decide) (fun c53718 => ?_) (fun c53718 => ?_)
      · have w53719 := cv_lt (rfl : z53717.toInt = z53717.toInt) (rfl : z53712.toInt = z53712.toInt) c53718
        refine lv_iload_n hx hb dX13_in_95 rfl (lv_at hl 3 rfl) ?_
        by_cases c53720 : p3 = 0
        · have w53721 := cv_eq (rfl : p3.toInt = p3.toInt) (by decide : (0 : Int32).toInt = 0) c53720
          refine lv_tableIn (off := 32) (tgt := 128) hx hb dX13_in_96 (by rw [c53720]; decide) (by rw [c53720]; decide) (by rw [c53720]; decide) (by decide) ?_
          refine lv_aload_n hx hb dX13_in_128 rfl (lv_at hl 0 rfl) ?_
          refine lv_aload_n hx hb dX13_in_129 rfl (lv_at hl 0 rfl) ?_
          refine t_get (C := RX13) (T := TX13) (N := 37) X hT m0 g0 rfl rfl 17 (by decide) qw_113 inlX13 rfl dX13_in_130 (fun v53722 hv53722 ov53722 => ?_)
          obtain rfl : v53722 = .ref b53715 := hv53722.symm.trans hv53714
          refine lv_iconst (v := 0) hx hb dX13_in_133 (by decide) ?_
          refine lv_iload_n hx hb dX13_in_134 rfl (lv_at hl 1 rfl) ?_
          refine lv_iadd hx hb dX13_in_135 ?_
          refine lv_topi (fun z53723 ez53723 => ?_)
          obtain rfl : p1 = z53723 := (ar_zadd ez53723).symm
          refine t_ild X hT mb53715 gb53715 rfl (by omega) dX13_in_136 (fun z53724 vz53724 rz53724 => ?_)
          obtain rfl : z53717 = z53724 := vz53717.symm.trans vz53724
          refine t_cVi (n := 1) (C := RX13) (T := TX13) (N := 37) (As := [.int z53717]) (rest := []) X hT (km93_X13_good l G tag L F hT.2.2.2 p0 z53717 m0 g0) m0 g0 rfl rfl qw_687 qw_688 qw_689 qw_5 qw_690 ⟨rfl, by decide +kernel, by decide +kernel, by decide +kernel⟩ ⟨Nat.le_of_ble_eq_true rfl, Nat.le_of_ble_eq_true rfl⟩ hl rfl rfl (Nat.le_of_ble_eq_true rfl) dX13_in_137 ⟨Nat.le_of_ble_eq_true rfl, Nat.le_of_ble_eq_true rfl⟩ (fun z53725 F H locs hT hz53725 => ?_)
          obtain ⟨hz53725, yz53725⟩ := hz53725
          have qz53713 := (yz53725.1 _ 0 (Or.inr (by decide)) (Or.inr (by decide))).trans qz53713
          have pf0 := (yz53725.1 _ 3 (Or.inr (by decide)) (Or.inr (by decide))).trans pf0
          have hv53714 := (yz53725.1 _ 17 (Or.inr (by decide)) (Or.inr (by decide))).trans hv53714
          have vz53717 := (yz53725.2 _ _ ).trans vz53717
          have hfr : (∀ b j : Nat, (tag b ≠ 46 ∨ j ≠ 0) → (tag b ≠ 46 ∨ j ≠ 1) → (tag b ≠ 46 ∨ j ≠ 2) → (tag b ≠ 46 ∨ j ≠ 22) → (tag b ≠ 46 ∨ j ≠ 23) → fld F b j = fld Fo b j) ∧ (∀ b j : Nat, tag b ≠ 37 → tag b ≠ 40 → elm F b j = elm Fo b j) := ⟨fun b j n46_0 n46_1 n46_2 n46_22 n46_23 => (yz53725.1 b j n46_1 n46_2).trans (hfr.1 b j n46_0 n46_1 n46_2 n46_22 n46_23), fun b j a37 a40 => (yz53725.2 b j ).trans (hfr.2 b j a37 a40)⟩
          exact t_iret hQ X hT (⟨rg_all _, hfr⟩) (Nat.le_of_ble_eq_true rfl) (Nat.le_of_ble_eq_true rfl) dX13_in_140
        have w53726 := cv_ne (rfl : p3.toInt = p3.toInt) (by decide : (0 : Int32).toInt = 0) c53720
        by_cases c53727 : p3 = 1
        · have w53728 := cv_eq (rfl : p3.toInt = p3.toInt) (by decide : (1 : Int32).toInt = 1) c53727
          refine lv_tableIn (off := 45) (tgt := 141) hx hb dX13_in_96 (by rw [c53727]; decide) (by rw [c53727]; decide) (by rw [c53727]; decide) (by decide) ?_
          refine lv_aload_n hx hb dX13_in_141 rfl (lv_at hl 0 rfl) ?_
          refine lv_aload_n hx hb dX13_in_142 rfl (lv_at hl 0 rfl) ?_
          refine t_get (C := RX13) (T := TX13) (N := 37) X hT m0 g0 rfl rfl 17 (by decide) qw_113 inlX13 rfl dX13_in_143 (fun v53729 hv53729 ov53729 => ?_)
          obtain rfl : v53729 = .ref b53715 := hv53729.symm.trans hv53714
          refine lv_iconst (v := 4) hx hb dX13_in_146 (by decide) ?_
          refine lv_iload_n hx hb dX13_in_147 rfl (lv_at hl 1 rfl) ?_
          refine lv_iadd hx hb dX13_in_148 ?_
          refine lv_topi (fun z53730 ez53730 => ?_)
          have hz53730 : z53730.toInt = 4 + p1.toInt := ar_add ez53730 (by decide : (4 : Int32).toInt = 4) (rfl : p1.toInt = p1.toInt) (by omega) (by omega)
          have rz53730 : 4 ≤ z53730.toInt ∧ z53730.toInt ≤ 7 := by omega
          refine t_ild X hT mb53715 gb53715 rfl (by omega) dX13_in_149 (fun z53731 vz53731 rz53731 => ?_)
          have oz53731 := rz53731
          have rz53731 := rg_all z53731
          refine t_cVi (n := 1) (C := RX13) (T := TX13) (N := 37) (As := [.int z53731]) (rest := []) X hT (km93_X13_good l G tag L F hT.2.2.2 p0 z53731 m0 g0) m0 g0 rfl rfl qw_687 qw_688 qw_689 qw_5 qw_690 ⟨rfl, by decide +kernel, by decide +kernel, by decide +kernel⟩ ⟨Nat.le_of_ble_eq_true rfl, Nat.le_of_ble_eq_true rfl⟩ hl rfl rfl (Nat.le_of_ble_eq_true rfl) dX13_in_150 ⟨Nat.le_of_ble_eq_true rfl, Nat.le_of_ble_eq_true rfl⟩ (fun z53732 F H locs hT hz53732 => ?_)
          obtain ⟨hz53732, yz53732⟩ := hz53732
          have qz53713 := (yz53732.1 _ 0 (Or.inr (by decide)) (Or.inr (by decide))).trans qz53713
          have pf0 := (yz53732.1 _ 3 (Or.inr (by decide)) (Or.inr (by decide))).trans pf0
          have hv53714 := (yz53732.1 _ 17 (Or.inr (by decide)) (Or.inr (by decide))).trans hv53714
          have vz53717 := (yz53732.2 _ _ ).trans vz53717
          have vz53731 := (yz53732.2 _ _ ).trans vz53731
          have hfr : (∀ b j : Nat, (tag b ≠ 46 ∨ j ≠ 0) → (tag b ≠ 46 ∨ j ≠ 1) → (tag b ≠ 46 ∨ j ≠ 2) → (tag b ≠ 46 ∨ j ≠ 22) → (tag b ≠ 46 ∨ j ≠ 23) → fld F b j = fld Fo b j) ∧ (∀ b j : Nat, tag b ≠ 37 → tag b ≠ 40 → elm F b j = elm Fo b j) := ⟨fun b j n46_0 n46_1 n46_2 n46_22 n46_23 => (yz53732.1 b j n46_1 n46_2).trans (hfr.1 b j n46_0 n46_1 n46_2 n46_22 n46_23), fun b j a37 a40 => (yz53732.2 b j ).trans (hfr.2 b j a37 a40)⟩
          exact t_iret hQ X hT (⟨rg_all _, hfr⟩) (Nat.le_of_ble_eq_true rfl) (Nat.le_of_ble_eq_true rfl) dX13_in_153
        have w53733 := cv_ne (rfl : p3.toInt = p3.toInt) (by decide : (1 : Int32).toInt = 1) c53727
        by_cases c53734 : p3 = 2
        · have w53735 := cv_eq (rfl : p3.toInt = p3.toInt) (by decide : (2 : Int32).toInt = 2) c53734
          refine lv_tableIn (off := 58) (tgt := 154) hx hb dX13_in_96 (by rw [c53734]; decide) (by rw [c53734]; decide) (by rw [c53734]; decide) (by decide) ?_
          refine lv_aload_n hx hb dX13_in_154 rfl (lv_at hl 0 rfl) ?_
          refine lv_aload_n hx hb dX13_in_155 rfl (lv_at hl 0 rfl) ?_
          refine t_get (C := RX13) (T := TX13) (N := 37) X hT m0 g0 rfl rfl 17 (by decide) qw_113 inlX13 rfl dX13_in_156 (fun v53736 hv53736 ov53736 => ?_)
          obtain rfl : v53736 = .ref b53715 := hv53736.symm.trans hv53714
          refine lv_bipush (v := 8) hx hb dX13_in_159 (by decide) ?_
          refine lv_iload_n hx hb dX13_in_161 rfl (lv_at hl 1 rfl) ?_
          refine lv_iadd hx hb dX13_in_162 ?_
          refine lv_topi (fun z53737 ez53737 => ?_)
          have hz53737 : z53737.toInt = 8 + p1.toInt := ar_add ez53737 (by decide : (8 : Int32).toInt = 8) (rfl : p1.toInt = p1.toInt) (by omega) (by omega)
          have rz53737 : 8 ≤ z53737.toInt ∧ z53737.toInt ≤ 11 := by omega
          refine t_ild X hT mb53715 gb53715 rfl (by omega) dX13_in_163 (fun z53738 vz53738 rz53738 => ?_)
          have oz53738 := rz53738
          have rz53738 := rg_all z53738
          refine t_cVi (n := 1) (C := RX13) (T := TX13) (N := 37) (As := [.int z53738]) (rest := []) X hT (km93_X13_good l G tag L F hT.2.2.2 p0 z53738 m0 g0) m0 g0 rfl rfl qw_687 qw_688 qw_689 qw_5 qw_690 ⟨rfl, by decide +kernel, by decide +kernel, by decide +kernel⟩ ⟨Nat.le_of_ble_eq_true rfl, Nat.le_of_ble_eq_true rfl⟩ hl rfl rfl (Nat.le_of_ble_eq_true rfl) dX13_in_164 ⟨Nat.le_of_ble_eq_true rfl, Nat.le_of_ble_eq_true rfl⟩ (fun z53739 F H locs hT hz53739 => ?_)
          obtain ⟨hz53739, yz53739⟩ := hz53739
          have qz53713 := (yz53739.1 _ 0 (Or.inr (by decide)) (Or.inr (by decide))).trans qz53713
          have pf0 := (yz53739.1 _ 3 (Or.inr (by decide)) (Or.inr (by decide))).trans pf0
          have hv53714 := (yz53739.1 _ 17 (Or.inr (by decide)) (Or.inr (by decide))).trans hv53714
          have vz53717 := (yz53739.2 _ _ ).trans vz53717
          have vz53738 := (yz53739.2 _ _ ).trans vz53738
          have hfr : (∀ b j : Nat, (tag b ≠ 46 ∨ j ≠ 0) → (tag b ≠ 46 ∨ j ≠ 1) → (tag b ≠ 46 ∨ j ≠ 2) → (tag b ≠ 46 ∨ j ≠ 22) → (tag b ≠ 46 ∨ j ≠ 23) → fld F b j = fld Fo b j) ∧ (∀ b j : Nat, tag b ≠ 37 → tag b ≠ 40 → elm F b j = elm Fo b j) := ⟨fun b j n46_0 n46_1 n46_2 n46_22 n46_23 => (yz53739.1 b j n46_1 n46_2).trans (hfr.1 b j n46_0 n46_1 n46_2 n46_22 n46_23), fun b j a37 a40 => (yz53739.2 b j ).trans (hfr.2 b j a37 a40)⟩
          exact t_iret hQ X hT (⟨rg_all _, hfr⟩) (Nat.le_of_ble_eq_true rfl) (Nat.le_of_ble_eq_true rfl) dX13_in_167
        have w53740 := cv_ne (rfl : p3.toInt = p3.toInt) (by decide : (2 : Int32).toInt = 2) c53734
        by_cases c53741 : p3 = 3
        · have w53742 := cv_eq (rfl : p3.toInt = p3.toInt) (by decide : (3 : Int32).toInt = 3) c53741
          refine lv_tableIn (off := 72) (tgt := 168) hx hb dX13_in_96 (by rw [c53741]; decide) (by rw [c53741]; decide) (by rw [c53741]; decide) (by decide) ?_
          refine lv_aload_n hx hb dX13_in_168 rfl (lv_at hl 0 rfl) ?_
          refine lv_iload hx hb dX13_in_169 (lv_at hl 5 rfl) ?_
          refine t_cVi (n := 1) (C := RX13) (T := TX13) (N := 37) (As := [.int z53711]) (rest := []) X hT (km93_X13_good l G tag L F hT.2.2.2 p0 z53711 m0 g0) m0 g0 rfl rfl qw_687 qw_688 qw_689 qw_5 qw_690 ⟨rfl, by decide +kernel, by decide +kernel, by decide +kernel⟩ ⟨Nat.le_of_ble_eq_true rfl, Nat.le_of_ble_eq_true rfl⟩ hl rfl rfl (Nat.le_of_ble_eq_true rfl) dX13_in_171 ⟨Nat.le_of_ble_eq_true rfl, Nat.le_of_ble_eq_true rfl⟩ (fun z53743 F H locs hT hz53743 => ?_)
          obtain ⟨hz53743, yz53743⟩ := hz53743
          have qz53713 := (yz53743.1 _ 0 (Or.inr (by decide)) (Or.inr (by decide))).trans qz53713
          have pf0 := (yz53743.1 _ 3 (Or.inr (by decide)) (Or.inr (by decide))).trans pf0
          have hv53714 := (yz53743.1 _ 17 (Or.inr (by decide)) (Or.inr (by decide))).trans hv53714
          have vz53717 := (yz53743.2 _ _ ).trans vz53717
          have hfr : (∀ b j : Nat, (tag b ≠ 46 ∨ j ≠ 0) → (tag b ≠ 46 ∨ j ≠ 1) → (tag b ≠ 46 ∨ j ≠ 2) → (tag b ≠ 46 ∨ j ≠ 22) → (tag b ≠ 46 ∨ j ≠ 23) → fld F b j = fld Fo b j) ∧ (∀ b j : Nat, tag b ≠ 37 → tag b ≠ 40 → elm F b j = elm Fo b j) := ⟨fun b j n46_0 n46_1 n46_2 n46_22 n46_23 => (yz53743.1 b j n46_1 n46_2).trans (hfr.1 b j n46_0 n46_1 n46_2 n46_22 n46_23), fun b j a37 a40 => (yz53743.2 b j ).trans (hfr.2 b j a37 a40)⟩
          exact t_iret hQ X hT (⟨rg_all _, hfr⟩) (Nat.le_of_ble_eq_true rfl) (Nat.le_of_ble_eq_true rfl) dX13_in_174
        have w53744 := cv_ne (rfl : p3.toInt = p3.toInt) (by decide : (3 : Int32).toInt = 3) c53741
        refine lv_tableOut (tgt := 175) hx hb dX13_in_96 (by omega) (by decide) ?_
        refine lv_aload_n hx hb dX13_in_175 rfl (lv_at hl 0 rfl) ?_
        refine lv_aload_n hx hb dX13_in_176 rfl (lv_at hl 0 rfl) ?_
        refine lv_aload_n hx hb dX13_in_177 rfl (lv_at hl 0 rfl) ?_
        refine t_get (C := RX13) (T := TX13) (N := 37) X hT m0 g0 rfl rfl 17 (by decide) qw_113 inlX13 rfl dX13_in_178 (fun v53745 hv53745 ov53745 => ?_)
        obtain rfl : v53745 = .ref b53715 := hv53745.symm.trans hv53714
        refine lv_iload_n hx hb dX13_in_181 rfl (lv_at hl 1 rfl) ?_
        refine t_cVi (n := 2) (C := RX13) (T := TX13) (N := 37) (As := [.ref b53715, .int p1]) (rest := [.ref p0]) X hT (km114_X13_isShut l G tag L F hT.2.2.2 p0 b53715 p1 x0 m0 g0 mb53715 gb53715 (by omega) mx0 gx0 pf0) m0 g0 rfl rfl qw_800 qw_801 qw_802 qw_5 qw_803 ⟨rfl, by decide +kernel, by decide +kernel, by decide +kernel⟩ ⟨Nat.le_of_ble_eq_true rfl, Nat.le_of_ble_eq_true rfl⟩ hl rfl rfl (Nat.le_of_ble_eq_true rfl) dX13_in_182 ⟨Nat.le_of_ble_eq_true rfl, Nat.le_of_ble_eq_true rfl⟩ (fun z53746 F9 H locs hT hz53746 => ?_)
        obtain ⟨fz53746, hz53746⟩ := hz53746
        rw [fz53746] at hT
        refine lv_if_eq (tgt := 192) hx hb dX13_in_185 (by decide) (fun c53747 => ?_) (fun c53747 => ?_)
        · have w53748 := cv_eq (rfl : z53746.toInt = z53746.toInt) (by decide : (0 : Int32).toInt = 0) c53747
          refine lv_iconst (v := 0) hx hb dX13_in_192 (by decide) ?_
          refine t_cVi (n := 1) (C := RX13) (T := TX13) (N := 37) (As := [.int 0]) (rest := []) X hT (km93_X13_good l G tag L F hT.2.2.2 p0 0 m0 g0) m0 g0 rfl rfl qw_687 qw_688 qw_689 qw_5 qw_690 ⟨rfl, by decide +kernel, by decide +kernel, by decide +kernel⟩ ⟨Nat.le_of_ble_eq_true rfl, Nat.le_of_ble_eq_true rfl⟩ hl rfl rfl (Nat.le_of_ble_eq_true rfl) dX13_in_193 ⟨Nat.le_of_ble_eq_true rfl, Nat.le_of_ble_eq_true rfl⟩ (fun z53749 F H locs hT hz53749 => ?_)
          obtain ⟨hz53749, yz53749⟩ := hz53749
          have qz53713 := (yz53749.1 _ 0 (Or.inr (by decide)) (Or.inr (by decide))).trans qz53713
          have pf0 := (yz53749.1 _ 3 (Or.inr (by decide)) (Or.inr (by decide))).trans pf0
          have hv53714 := (yz53749.1 _ 17 (Or.inr (by decide)) (Or.inr (by decide))).trans hv53714
          have vz53717 := (yz53749.2 _ _ ).trans vz53717
          have hfr : (∀ b j : Nat, (tag b ≠ 46 ∨ j ≠ 0) → (tag b ≠ 46 ∨ j ≠ 1) → (tag b ≠ 46 ∨ j ≠ 2) → (tag b ≠ 46 ∨ j ≠ 22) → (tag b ≠ 46 ∨ j ≠ 23) → fld F b j = fld Fo b j) ∧ (∀ b j : Nat, tag b ≠ 37 → tag b ≠ 40 → elm F b j = elm Fo b j) := ⟨fun b j n46_0 n46_1 n46_2 n46_22 n46_23 => (yz53749.1 b j n46_1 n46_2).trans (hfr.1 b j n46_0 n46_1 n46_2 n46_22 n46_23), fun b j a37 a40 => (yz53749.2 b j ).trans (hfr.2 b j a37 a40)⟩
          exact t_iret hQ X hT (⟨rg_all _, hfr⟩) (Nat.le_of_ble_eq_true rfl) (Nat.le_of_ble_eq_true rfl) dX13_in_196
        · have w53750 := cv_ne (rfl : z53746.toInt = z53746.toInt) (by decide : (0 : Int32).toInt = 0) c53747
          refine lv_iconst (v := 1) hx hb dX13_in_188 (by decide) ?_
          refine lv_goto (tgt := 193) hx hb dX13_in_189 (by decide) ?_
          refine t_cVi (n := 1) (C := RX13) (T := TX13) (N := 37) (As := [.int 1]) (rest := []) X hT (km93_X13_good l G tag L F hT.2.2.2 p0 1 m0 g0) m0 g0 rfl rfl qw_687 qw_688 qw_689 qw_5 qw_690 ⟨rfl, by decide +kernel, by decide +kernel, by decide +kernel⟩ ⟨Nat.le_of_ble_eq_true rfl, Nat.le_of_ble_eq_true rfl⟩ hl rfl rfl (Nat.le_of_ble_eq_true rfl) dX13_in_193 ⟨Nat.le_of_ble_eq_true rfl, Nat.le_of_ble_eq_true rfl⟩ (fun z53751 F H locs hT hz53751 => ?_)
          obtain ⟨hz53751, yz53751⟩ := hz53751
          have qz53713 := (yz53751.1 _ 0 (Or.inr (by decide)) (Or.inr (by decide))).trans qz53713
          have pf0 := (yz53751.1 _ 3 (Or.inr (by decide)) (Or.inr (by decide))).trans pf0
          have hv53714 := (yz53751.1 _ 17 (Or.inr (by decide)) (Or.inr (by decide))).trans hv53714
          have vz53717 := (yz53751.2 _ _ ).trans vz53717
          have hfr : (∀ b j : Nat, (tag b ≠ 46 ∨ j ≠ 0) → (tag b ≠ 46 ∨ j ≠ 1) → (tag b ≠ 46 ∨ j ≠ 2) → (tag b ≠ 46 ∨ j ≠ 22) → (tag b ≠ 46 ∨ j ≠ 23) → fld F b j = fld Fo b j) ∧ (∀ b j : Nat, tag b ≠ 37 → tag b ≠ 40 → elm F b j = elm Fo b j) := ⟨fun b j n46_0 n46_1 n46_2 n46_22 n46_23 => (yz53751.1 b j n46_1 n46_2).trans (hfr.1 b j n46_0 n46_1 n46_2 n46_22 n46_23), fun b j a37 a40 => (yz53751.2 b j ).trans (hfr.2 b j a37 a40)⟩
          exact t_iret hQ X hT (⟨rg_all _, hfr⟩) (Nat.le_of_ble_eq_true rfl) (Nat.le_of_ble_eq_true rfl) dX13_in_196
      · have w53752 := cv_nlt (rfl : z53717.toInt = z53717.toInt) (rfl : z53712.toInt = z53712.toInt) c53718
        refine lv_iload hx hb dX13_in_72 (lv_at hl 5 rfl) ?_
        refine lv_aload_n hx hb dX13_in_74 rfl (lv_at hl 0 rfl) ?_
        refine t_get (C := RX13) (T := TX13) (N := 37) X hT m0 g0 rfl rfl 17 (by decide) qw_113 inlX13 rfl dX13_in_75 (fun v53753 hv53753 ov53753 => ?_)
        obtain rfl : v53753 = .ref b53715 := hv53753.symm.trans hv53714
        refine lv_iload_n hx hb dX13_in_78 rfl (lv_at hl 1 rfl) ?_
        refine lv_iload hx hb dX13_in_79 (lv_at hl 6 rfl) ?_
        refine lv_iconst (v := 5) hx hb dX13_in_81 (by decide) ?_
        refine t_cSi (n := 3) (As := [.int p1, .int z53712, .int 5]) (rest := [.ref b53715, .int z53711]) X hT (km49_X13_part l G tag L F hT.2.2.2 p1 z53712 5 (by omega) (by omega) (by decide)) qw_661 qw_662 qw_5 qw_663 ⟨by decide +kernel, by decide +kernel, by decide +kernel⟩ ⟨Nat.le_of_ble_eq_true rfl, Nat.le_of_ble_eq_true rfl⟩ hl rfl rfl (Nat.le_of_ble_eq_true rfl) dX13_in_82 ⟨Nat.le_of_ble_eq_true rfl, Nat.le_of_ble_eq_true rfl⟩ (fun z53754 F9 H locs hT hz53754 => ?_)
        obtain ⟨fz53754, hz53754, xz53754_0⟩ := hz53754
        rw [fz53754] at hT
        have k53755 : (5 : Int32).toInt = 5 := by decide
        refine t_ild X hT mb53715 gb53715 rfl (by omega) dX13_in_85 (fun z53756 vz53756 rz53756 => ?_)
        have oz53756 := rz53756
        have rz53756 := rg_all z53756
        refine lv_iadd hx hb dX13_in_86 ?_
        refine lv_topi (fun z53757 ez53757 => ?_)
        have rz53757 := rg_all z53757
        refine lv_istore (lv' := [(5, .int z53757), (0, .ref p0), (1, .int p1), (2, .int p2), (3, .int p3), (4, .int z53710), (6, .int z53712)]) hx hb dX13_in_87 hl (by decide) rfl (fun ls hl => ?_)
        obtain ⟨z53758, ez53758⟩ : ∃ y : Int32, y = z53712 + 1 := ⟨_, rfl⟩
        have hz53758 : z53758.toInt = z53712.toInt + 1 := ar_add ez53758 rfl (by decide : (1 : Int32).toInt = 1) (by omega) (by omega)
        refine lv_iinc (v := z53758) (lv' := [(6, .int z53758), (5, .int z53757), (0, .ref p0), (1, .int p1), (2, .int p2), (3, .int p3), (4, .int z53710)]) hx hb dX13_in_89 hl (k := 6) rfl (by rw [ez53758]; rfl) (by decide) rfl (fun ls hl => ?_)
        refine lv_goto (tgt := 59) hx hb dX13_in_92 (by decide) ?_
        exact ih59 z53710 z53757 z53758 z53713 _ _ _ _ (by omega) (by omega) (by omega) (by omega) (by omega) (by omega) (by omega) hT hfr pf0 qz53713 (lv_sub hl [2, 3, 4, 5, 6, 1, 0] rfl)
  refine lv_aload_n hx hb dX13_in_0 rfl (lv_at hl 0 rfl) ?_
  refine lv_iconst (v := 0) hx hb dX13_in_1 (by decide) ?_
  refine t_put (C := RX13) (T := TX13) (N := 37) (v := .int 0) X hT m0 g0 rfl tyX13 tyX13_ok nmX13 rfl 0 (by decide) qw_140 inlX13 rfl (by first | rfl | decide) (by first | rfl | decide) rfl (⟨_, rfl, (show (-2147483648) ≤ (0 : Int32).toInt from (by decide)), (show (0 : Int32).toInt ≤ 2147483647 from (by decide))⟩) dX13_in_2 (fun F H locs hT v53759 h1v53759 h2v53759 => ?_)
  have pf0 := (h1v53759 _ _ (Or.inr (by decide))).trans pf0
  have hfr : (∀ b j : Nat, (tag b ≠ 46 ∨ j ≠ 0) → (tag b ≠ 46 ∨ j ≠ 1) → (tag b ≠ 46 ∨ j ≠ 2) → (tag b ≠ 46 ∨ j ≠ 22) → (tag b ≠ 46 ∨ j ≠ 23) → fld F b j = fld Fo b j) ∧ (∀ b j : Nat, tag b ≠ 37 → tag b ≠ 40 → elm F b j = elm Fo b j) := ⟨fun b j n46_0 n46_1 n46_2 n46_22 n46_23 => (h1v53759 b j (fr_ne g0 n46_0)).trans (hfr.1 b j n46_0 n46_1 n46_2 n46_22 n46_23), fun b j a37 a40 => (h2v53759 b j).trans (hfr.2 b j a37 a40)⟩
  refine lv_aload_n hx hb dX13_in_5 rfl (lv_at hl 0 rfl) ?_
  refine lv_aload_n hx hb dX13_in_6 rfl (lv_at hl 0 rfl) ?_
  refine lv_iload_n hx hb dX13_in_7 rfl (lv_at hl 1 rfl) ?_
  refine t_cVi (n := 1) (C := RX13) (T := TX13) (N := 37) (As := [.int p1]) (rest := [.ref p0]) X hT (km107_X13_isHouse l G tag L F hT.2.2.2 p0 p1 x0 m0 g0 mx0 gx0 pf0) m0 g0 rfl rfl qw_796 qw_797 qw_798 qw_5 qw_799 ⟨rfl, by decide +kernel, by decide +kernel, by decide +kernel⟩ ⟨Nat.le_of_ble_eq_true rfl, Nat.le_of_ble_eq_true rfl⟩ hl rfl rfl (Nat.le_of_ble_eq_true rfl) dX13_in_8 ⟨Nat.le_of_ble_eq_true rfl, Nat.le_of_ble_eq_true rfl⟩ (fun z53760 F9 H locs hT hz53760 => ?_)
  obtain ⟨fz53760, hz53760⟩ := hz53760
  rw [fz53760] at hT
  obtain ⟨hz53760, iz53760⟩ := hz53760
  refine lv_if_eq (tgt := 27) hx hb dX13_in_11 (by decide) (fun c53761 => ?_) (fun c53761 => ?_)
  · have w53762 := cv_eq (rfl : z53760.toInt = z53760.toInt) (by decide : (0 : Int32).toInt = 0) c53761
    refine lv_iconst (v := 0) hx hb dX13_in_27 (by decide) ?_
    refine lv_iload_n hx hb dX13_in_28 rfl (lv_at hl 2 rfl) ?_
    refine lv_bipush (v := 60) hx hb dX13_in_29 (by decide) ?_
    refine t_cVi (n := 3) (C := RX13) (T := TX13) (N := 37) (As := [.int 0, .int p2, .int 60]) (rest := []) X hT (km174_X13_refusesIn l G tag L F hT.2.2.2 p0 0 p2 60 x0 m0 g0 (by decide) mx0 gx0 pf0) m0 g0 rfl rfl qw_1144 qw_1145 qw_1146 qw_5 qw_1147 ⟨rfl, by decide +kernel, by decide +kernel, by decide +kernel⟩ ⟨Nat.le_of_ble_eq_true rfl, Nat.le_of_ble_eq_true rfl⟩ hl rfl rfl (Nat.le_of_ble_eq_true rfl) dX13_in_31 ⟨Nat.le_of_ble_eq_true rfl, Nat.le_of_ble_eq_true rfl⟩ (fun z53763 F9 H locs hT hz53763 => ?_)
    obtain ⟨fz53763, hz53763, xz53763_0⟩ := hz53763
    rw [fz53763] at hT
    have k53764 : (0 : Int32).toInt = 0 := by decide
    have k53765 : (60 : Int32).toInt = 60 := by decide
    refine lv_istore (lv' := [(4, .int z53763), (0, .ref p0), (1, .int p1), (2, .int p2), (3, .int p3)]) hx hb dX13_in_34 hl (by decide) rfl (fun ls hl => ?_)
    refine lv_iload hx hb dX13_in_36 (lv_at hl 0 rfl) ?_
    refine lv_if_le (tgt := 48) hx hb dX13_in_38 (by decide) (fun c53766 => ?_) (fun c53766 => ?_)
    · have w53767 := cv_le (rfl : z53763.toInt = z53763.toInt) (by decide : (0 : Int32).toInt = 0) c53766
      exfalso
      omega
    · have w53768 := cv_nle (rfl : z53763.toInt = z53763.toInt) (by decide : (0 : Int32).toInt = 0) c53766
      refine lv_aload_n hx hb dX13_in_41 rfl (lv_at hl 1 rfl) ?_
      refine lv_iload hx hb dX13_in_42 (lv_at hl 0 rfl) ?_
      refine t_cVi (n := 1) (C := RX13) (T := TX13) (N := 37) (As := [.int z53763]) (rest := []) X hT (km88_X13_refused l G tag L F hT.2.2.2 p0 z53763 m0 g0) m0 g0 rfl rfl qw_484 qw_485 qw_486 qw_5 qw_487 ⟨rfl, by decide +kernel, by decide +kernel, by decide +kernel⟩ ⟨Nat.le_of_ble_eq_true rfl, Nat.le_of_ble_eq_true rfl⟩ hl rfl rfl (Nat.le_of_ble_eq_true rfl) dX13_in_44 ⟨Nat.le_of_ble_eq_true rfl, Nat.le_of_ble_eq_true rfl⟩ (fun z53769 F H locs hT hz53769 => ?_)
      obtain ⟨hz53769, yz53769⟩ := hz53769
      have pf0 := (yz53769.1 _ 3 (Or.inr (by decide)) (Or.inr (by decide))).trans pf0
      have v53759 := (yz53769.1 _ 0 (Or.inr (by decide)) (Or.inr (by decide))).trans v53759
      have hfr : (∀ b j : Nat, (tag b ≠ 46 ∨ j ≠ 0) → (tag b ≠ 46 ∨ j ≠ 1) → (tag b ≠ 46 ∨ j ≠ 2) → (tag b ≠ 46 ∨ j ≠ 22) → (tag b ≠ 46 ∨ j ≠ 23) → fld F b j = fld Fo b j) ∧ (∀ b j : Nat, tag b ≠ 37 → tag b ≠ 40 → elm F b j = elm Fo b j) := ⟨fun b j n46_0 n46_1 n46_2 n46_22 n46_23 => (yz53769.1 b j n46_1 n46_2).trans (hfr.1 b j n46_0 n46_1 n46_2 n46_22 n46_23), fun b j a37 a40 => (yz53769.2 b j ).trans (hfr.2 b j a37 a40)⟩
      exact t_iret hQ X hT (⟨rg_all _, hfr⟩) (Nat.le_of_ble_eq_true rfl) (Nat.le_of_ble_eq_true rfl) dX13_in_47
  · have w53770 := cv_ne (rfl : z53760.toInt = z53760.toInt) (by decide : (0 : Int32).toInt = 0) c53761
    have w53771 := (fun h => (iz53760 h)) (by omega)
    refine lv_iload_n hx hb dX13_in_14 rfl (lv_at hl 3 rfl) ?_
    refine lv_iconst (v := 0) hx hb dX13_in_15 (by decide) ?_
    refine lv_iconst (v := 4) hx hb dX13_in_16 (by decide) ?_
    refine t_cSi (n := 3) (As := [.int p3, .int 0, .int 4]) (rest := [.ref p0]) X hT (km19_X13_within l G tag L F hT.2.2.2 p3 0 4 ) qw_568 qw_569 qw_5 qw_570 ⟨by decide +kernel, by decide +kernel, by decide +kernel⟩ ⟨Nat.le_of_ble_eq_true rfl, Nat.le_of_ble_eq_true rfl⟩ hl rfl rfl (Nat.le_of_ble_eq_true rfl) dX13_in_17 ⟨Nat.le_of_ble_eq_true rfl, Nat.le_of_ble_eq_true rfl⟩ (fun z53772 F9 H locs hT hz53772 => ?_)
    obtain ⟨fz53772, hz53772, xz53772_0⟩ := hz53772
    rw [fz53772] at hT
    have k53773 : (0 : Int32).toInt = 0 := by decide
    have k53774 : (4 : Int32).toInt = 4 := by decide
    refine lv_if_eq (tgt := 27) hx hb dX13_in_20 (by decide) (fun c53775 => ?_) (fun c53775 => ?_)
    · have w53776 := cv_eq (rfl : z53772.toInt = z53772.toInt) (by decide : (0 : Int32).toInt = 0) c53775
      refine lv_iconst (v := 0) hx hb dX13_in_27 (by decide) ?_
      refine lv_iload_n hx hb dX13_in_28 rfl (lv_at hl 2 rfl) ?_
      refine lv_bipush (v := 60) hx hb dX13_in_29 (by decide) ?_
      refine t_cVi (n := 3) (C := RX13) (T := TX13) (N := 37) (As := [.int 0, .int p2, .int 60]) (rest := []) X hT (km174_X13_refusesIn l G tag L F hT.2.2.2 p0 0 p2 60 x0 m0 g0 (by decide) mx0 gx0 pf0) m0 g0 rfl rfl qw_1144 qw_1145 qw_1146 qw_5 qw_1147 ⟨rfl, by decide +kernel, by decide +kernel, by decide +kernel⟩ ⟨Nat.le_of_ble_eq_true rfl, Nat.le_of_ble_eq_true rfl⟩ hl rfl rfl (Nat.le_of_ble_eq_true rfl) dX13_in_31 ⟨Nat.le_of_ble_eq_true rfl, Nat.le_of_ble_eq_true rfl⟩ (fun z53777 F9 H locs hT hz53777 => ?_)
      obtain ⟨fz53777, hz53777, xz53777_0⟩ := hz53777
      rw [fz53777] at hT
      have k53778 : (0 : Int32).toInt = 0 := by decide
      have k53779 : (60 : Int32).toInt = 60 := by decide
      refine lv_istore (lv' := [(4, .int z53777), (0, .ref p0), (1, .int p1), (2, .int p2), (3, .int p3)]) hx hb dX13_in_34 hl (by decide) rfl (fun ls hl => ?_)
      refine lv_iload hx hb dX13_in_36 (lv_at hl 0 rfl) ?_
      refine lv_if_le (tgt := 48) hx hb dX13_in_38 (by decide) (fun c53780 => ?_) (fun c53780 => ?_)
      · have w53781 := cv_le (rfl : z53777.toInt = z53777.toInt) (by decide : (0 : Int32).toInt = 0) c53780
        exfalso
        omega
      · have w53782 := cv_nle (rfl : z53777.toInt = z53777.toInt) (by decide : (0 : Int32).toInt = 0) c53780
        refine lv_aload_n hx hb dX13_in_41 rfl (lv_at hl 1 rfl) ?_
        refine lv_iload hx hb dX13_in_42 (lv_at hl 0 rfl) ?_
        refine t_cVi (n := 1) (C := RX13) (T := TX13) (N := 37) (As := [.int z53777]) (rest := []) X hT (km88_X13_refused l G tag L F hT.2.2.2 p0 z53777 m0 g0) m0 g0 rfl rfl qw_484 qw_485 qw_486 qw_5 qw_487 ⟨rfl, by decide +kernel, by decide +kernel, by decide +kernel⟩ ⟨Nat.le_of_ble_eq_true rfl, Nat.le_of_ble_eq_true rfl⟩ hl rfl rfl (Nat.le_of_ble_eq_true rfl) dX13_in_44 ⟨Nat.le_of_ble_eq_true rfl, Nat.le_of_ble_eq_true rfl⟩ (fun z53783 F H locs hT hz53783 => ?_)
        obtain ⟨hz53783, yz53783⟩ := hz53783
        have pf0 := (yz53783.1 _ 3 (Or.inr (by decide)) (Or.inr (by decide))).trans pf0
        have v53759 := (yz53783.1 _ 0 (Or.inr (by decide)) (Or.inr (by decide))).trans v53759
        have hfr : (∀ b j : Nat, (tag b ≠ 46 ∨ j ≠ 0) → (tag b ≠ 46 ∨ j ≠ 1) → (tag b ≠ 46 ∨ j ≠ 2) → (tag b ≠ 46 ∨ j ≠ 22) → (tag b ≠ 46 ∨ j ≠ 23) → fld F b j = fld Fo b j) ∧ (∀ b j : Nat, tag b ≠ 37 → tag b ≠ 40 → elm F b j = elm Fo b j) := ⟨fun b j n46_0 n46_1 n46_2 n46_22 n46_23 => (yz53783.1 b j n46_1 n46_2).trans (hfr.1 b j n46_0 n46_1 n46_2 n46_22 n46_23), fun b j a37 a40 => (yz53783.2 b j ).trans (hfr.2 b j a37 a40)⟩
        exact t_iret hQ X hT (⟨rg_all _, hfr⟩) (Nat.le_of_ble_eq_true rfl) (Nat.le_of_ble_eq_true rfl) dX13_in_47
    · have w53784 := cv_ne (rfl : z53772.toInt = z53772.toInt) (by decide : (0 : Int32).toInt = 0) c53775
      have w53785 := xz53772_0 (by omega)
      refine lv_iconst (v := 1) hx hb dX13_in_23 (by decide) ?_
      refine lv_goto (tgt := 28) hx hb dX13_in_24 (by decide) ?_
      refine lv_iload_n hx hb dX13_in_28 rfl (lv_at hl 2 rfl) ?_
      refine lv_bipush (v := 60) hx hb dX13_in_29 (by decide) ?_
      refine t_cVi (n := 3) (C := RX13) (T := TX13) (N := 37) (As := [.int 1, .int p2, .int 60]) (rest := []) X hT (km175_X13_refusesIn l G tag L F hT.2.2.2 p0 1 p2 60 x0 m0 g0 (by decide) mx0 gx0 pf0) m0 g0 rfl rfl qw_1144 qw_1145 qw_1146 qw_5 qw_1147 ⟨rfl, by decide +kernel, by decide +kernel, by decide +kernel⟩ ⟨Nat.le_of_ble_eq_true rfl, Nat.le_of_ble_eq_true rfl⟩ hl rfl rfl (Nat.le_of_ble_eq_true rfl) dX13_in_31 ⟨Nat.le_of_ble_eq_true rfl, Nat.le_of_ble_eq_true rfl⟩ (fun z53786 F9 H locs hT hz53786 => ?_)
      obtain ⟨fz53786, hz53786, xz53786_0⟩ := hz53786
      rw [fz53786] at hT
      have k53787 : (1 : Int32).toInt = 1 := by decide
      have k53788 : (60 : Int32).toInt = 60 := by decide
      refine lv_istore (lv' := [(4, .int z53786), (0, .ref p0), (1, .int p1), (2, .int p2), (3, .int p3)]) hx hb dX13_in_34 hl (by decide) rfl (fun ls hl => ?_)
      refine lv_iload hx hb dX13_in_36 (lv_at hl 0 rfl) ?_
      refine lv_if_le (tgt := 48) hx hb dX13_in_38 (by decide) (fun c53789 => ?_) (fun c53789 => ?_)
      · have w53790 := cv_le (rfl : z53786.toInt = z53786.toInt) (by decide : (0 : Int32).toInt = 0) c53789
        have w53791 := xz53786_0 (by omega)
        refine lv_aload_n hx hb dX13_in_48 rfl (lv_at hl 1 rfl) ?_
        refine lv_iload_n hx hb dX13_in_49 rfl (lv_at hl 3 rfl) ?_
        refine t_cVv (n := 1) (C := RX13) (T := TX13) (N := 37) (As := [.int p2]) (rest := []) X hT (km182_X13_inYears l G tag L F hT.2.2.2 p0 p2 x0 m0 g0 (by omega) mx0 gx0 pf0) m0 g0 rfl rfl qw_1148 qw_1149 qw_1150 qw_5 qw_1151 ⟨rfl, by decide +kernel, by decide +kernel, by decide +kernel⟩ ⟨Nat.le_of_ble_eq_true rfl, Nat.le_of_ble_eq_true rfl⟩ hl rfl rfl (Nat.le_of_ble_eq_true rfl) dX13_in_50 ⟨Nat.le_of_ble_eq_true rfl, Nat.le_of_ble_eq_true rfl⟩ (fun F H locs hT hz53792 => ?_)
        have yz53792 := hz53792
        have pf0 := (yz53792.1 _ 3 (Or.inr (by decide)) (Or.inr (by decide))).trans pf0
        have v53759 := (yz53792.1 _ 0 (Or.inr (by decide)) (Or.inr (by decide))).trans v53759
        have hfr : (∀ b j : Nat, (tag b ≠ 46 ∨ j ≠ 0) → (tag b ≠ 46 ∨ j ≠ 1) → (tag b ≠ 46 ∨ j ≠ 2) → (tag b ≠ 46 ∨ j ≠ 22) → (tag b ≠ 46 ∨ j ≠ 23) → fld F b j = fld Fo b j) ∧ (∀ b j : Nat, tag b ≠ 37 → tag b ≠ 40 → elm F b j = elm Fo b j) := ⟨fun b j n46_0 n46_1 n46_2 n46_22 n46_23 => (yz53792.1 b j n46_22 n46_23).trans (hfr.1 b j n46_0 n46_1 n46_2 n46_22 n46_23), fun b j a37 a40 => (yz53792.2 b j a37 a40).trans (hfr.2 b j a37 a40)⟩
        refine lv_iconst (v := 0) hx hb dX13_in_53 (by decide) ?_
        refine lv_istore (lv' := [(5, .int 0), (4, .int z53786), (0, .ref p0), (1, .int p1), (2, .int p2), (3, .int p3)]) hx hb dX13_in_54 hl (by decide) rfl (fun ls hl => ?_)
        refine lv_iconst (v := 1) hx hb dX13_in_56 (by decide) ?_
        refine lv_istore (lv' := [(6, .int 1), (5, .int 0), (4, .int z53786), (0, .ref p0), (1, .int p1), (2, .int p2), (3, .int p3)]) hx hb dX13_in_57 hl (by decide) rfl (fun ls hl => ?_)
        have k53793 : (0 : Int32).toInt = 0 := by decide
        have k53794 : (1 : Int32).toInt = 1 := by decide
        have k53795 : (0 : Int32).toInt = 0 := by decide
        exact K59 7 z53786 0 1 0 _ _ _ _ (by omega) (by omega) (by decide) (by decide) (by omega) (by omega) (by omega) hT hfr pf0 v53759 (lv_sub hl [3, 4, 5, 6, 2, 1, 0] rfl)
      · have w53796 := cv_nle (rfl : z53786.toInt = z53786.toInt) (by decide : (0 : Int32).toInt = 0) c53789
        refine lv_aload_n hx hb dX13_in_41 rfl (lv_at hl 1 rfl) ?_
        refine lv_iload hx hb dX13_in_42 (lv_at hl 0 rfl) ?_
        refine t_cVi (n := 1) (C := RX13) (T := TX13) (N := 37) (As := [.int z53786]) (rest := []) X hT (km88_X13_refused l G tag L F hT.2.2.2 p0 z53786 m0 g0) m0 g0 rfl rfl qw_484 qw_485 qw_486 qw_5 qw_487 ⟨rfl, by decide +kernel, by decide +kernel, by decide +kernel⟩ ⟨Nat.le_of_ble_eq_true rfl, Nat.le_of_ble_eq_true rfl⟩ hl rfl rfl (Nat.le_of_ble_eq_true rfl) dX13_in_44 ⟨Nat.le_of_ble_eq_true rfl, Nat.le_of_ble_eq_true rfl⟩ (fun z53797 F H locs hT hz53797 => ?_)
        obtain ⟨hz53797, yz53797⟩ := hz53797
        have pf0 := (yz53797.1 _ 3 (Or.inr (by decide)) (Or.inr (by decide))).trans pf0
        have v53759 := (yz53797.1 _ 0 (Or.inr (by decide)) (Or.inr (by decide))).trans v53759
        have hfr : (∀ b j : Nat, (tag b ≠ 46 ∨ j ≠ 0) → (tag b ≠ 46 ∨ j ≠ 1) → (tag b ≠ 46 ∨ j ≠ 2) → (tag b ≠ 46 ∨ j ≠ 22) → (tag b ≠ 46 ∨ j ≠ 23) → fld F b j = fld Fo b j) ∧ (∀ b j : Nat, tag b ≠ 37 → tag b ≠ 40 → elm F b j = elm Fo b j) := ⟨fun b j n46_0 n46_1 n46_2 n46_22 n46_23 => (yz53797.1 b j n46_1 n46_2).trans (hfr.1 b j n46_0 n46_1 n46_2 n46_22 n46_23), fun b j a37 a40 => (yz53797.2 b j ).trans (hfr.2 b j a37 a40)⟩
        exact t_iret hQ X hT (⟨rg_all _, hfr⟩) (Nat.le_of_ble_eq_true rfl) (Nat.le_of_ble_eq_true rfl) dX13_in_47
set_option maxHeartbeats 4000000 in
set_option maxRecDepth 100000 in
theorem km184_X13_refusesIn (l : Launch) (G : KG) (tag : Nat → Nat) (L : List Nat) (F : Nat → va_E) (ho : okT G ttC tag L F) (p0 : Nat) (p1 : Int32) (p2 : Int32) (p3 : Int32) (m0 : p0 ∈ L) (g0 : tag p0 = 46) (h1 : 0 ≤ p1.toInt ∧ p1.toInt ≤ 0) (pf0 : fld F p0 3 = .null) : TMi l yX13_refusesIn cX13_refusesIn 4 (some .int) { frames := 0, cells := 0, slots := 0, locals := 0 } G ttC tag L F [.ref p0, .int p1, .int p2, .int p3] (fun r F1 => F1 = F ∧ (1 ≤ r.toInt ∧ r.toInt ≤ 1)) := by
  refine t_bodyi (y := yX13_refusesIn) (cd := cX13_refusesIn) (mL := 4) (rt := (some .int)) (rm := { frames := 0, cells := 0, slots := 0, locals := 0 }) (av := [.ref p0, .int p1, .int p2, .int p3]) (by decide) (Nat.le_of_ble_eq_true rfl) ho ?_
  intro p e s m args below meth c ls A Q hQ X hT hl
  have hx := X.1.1
  have hb := X.1.2.1
  have hl : lv_has ls 4 [(0, .ref p0), (1, .int p1), (2, .int p2), (3, .int p3)] := hl
  have rp2 := rg_all p2
  have rp3 := rg_all p3
  refine lv_aload_n hx hb dX13_refusesIn_0 rfl (lv_at hl 0 rfl) ?_
  refine t_get (C := RX13) (T := TX13) (N := 37) X hT m0 g0 rfl rfl 3 (by decide) qw_481 inlX13 rfl dX13_refusesIn_1 (fun v53813 hv53813 ov53813 => ?_)
  obtain rfl : v53813 = .null := hv53813.symm.trans pf0
  refine lv_ifnullN (tgt := 11) hx hb dX13_refusesIn_4 (by decide) ?_
  refine lv_iconst (v := 1) hx hb dX13_refusesIn_11 (by decide) ?_
  refine lv_goto (tgt := 29) hx hb dX13_refusesIn_12 (by decide) ?_
  have k53814 : (1 : Int32).toInt = 1 := by decide
  exact t_iret hQ X hT (⟨rfl, (by decide)⟩) (Nat.le_of_ble_eq_true rfl) (Nat.le_of_ble_eq_true rfl) dX13_refusesIn_29
set_option maxHeartbeats 4000000 in
set_option maxRecDepth 100000 in
theorem km185_X13_in (l : Launch) (G : KG) (tag : Nat → Nat) (L : List Nat) (Fo : Nat → va_E) (ho : okT G ttC tag L Fo) (p0 : Nat) (p1 : Int32) (p2 : Int32) (p3 : Int32) (m0 : p0 ∈ L) (g0 : tag p0 = 46) (pf0 : fld Fo p0 3 = .null) : TMi l yX13_in cX13_in 7 (some .int) { frames := 8, cells := 0, slots := 0, locals := 192 } G ttC tag L Fo [.ref p0, .int p1, .int p2, .int p3] (fun r F1 => ((-2147483648) ≤ r.toInt ∧ r.toInt ≤ 2147483647) ∧ ((∀ b j : Nat, (tag b ≠ 46 ∨ j ≠ 0) → (tag b ≠ 46 ∨ j ≠ 1) → (tag b ≠ 46 ∨ j ≠ 2) → (tag b ≠ 46 ∨ j ≠ 22) → (tag b ≠ 46 ∨ j ≠ 23) → fld F1 b j = fld Fo b j) ∧ (∀ b j : Nat, tag b ≠ 37 → tag b ≠ 40 → elm F1 b j = elm Fo b j))) := by
  refine t_bodyi (y := yX13_in) (cd := cX13_in) (mL := 7) (rt := (some .int)) (rm := { frames := 8, cells := 0, slots := 0, locals := 192 }) (av := [.ref p0, .int p1, .int p2, .int p3]) (by decide) (Nat.le_of_ble_eq_true rfl) ho ?_
  intro p e s m args below meth c ls A Q hQ X hT hl
  have hx := X.1.1
  have hb := X.1.2.1
  have hl : lv_has ls 7 [(0, .ref p0), (1, .int p1), (2, .int p2), (3, .int p3)] := hl
  have rp1 := rg_all p1
  have rp2 := rg_all p2
  have rp3 := rg_all p3
  obtain ⟨F, hFo⟩ : ∃ F : Nat → va_E, F = Fo := ⟨_, rfl⟩
  rw [← hFo] at hT pf0
  have hfr : (∀ b j : Nat, (tag b ≠ 46 ∨ j ≠ 0) → (tag b ≠ 46 ∨ j ≠ 1) → (tag b ≠ 46 ∨ j ≠ 2) → (tag b ≠ 46 ∨ j ≠ 22) → (tag b ≠ 46 ∨ j ≠ 23) → fld F b j = fld Fo b j) ∧ (∀ b j : Nat, tag b ≠ 37 → tag b ≠ 40 → elm F b j = elm Fo b j) := by
    rw [hFo]
    exact ⟨by intros; rfl, by intros; rfl⟩
  refine lv_aload_n hx hb dX13_in_0 rfl (lv_at hl 0 rfl) ?_
  refine lv_iconst (v := 0) hx hb dX13_in_1 (by decide) ?_
  refine t_put (C := RX13) (T := TX13) (N := 37) (v := .int 0) X hT m0 g0 rfl tyX13 tyX13_ok nmX13 rfl 0 (by decide) qw_140 inlX13 rfl (by first | rfl | decide) (by first | rfl | decide) rfl (⟨_, rfl, (show (-2147483648) ≤ (0 : Int32).toInt from (by decide)), (show (0 : Int32).toInt ≤ 2147483647 from (by decide))⟩) dX13_in_2 (fun F H locs hT v53921 h1v53921 h2v53921 => ?_)
  have pf0 := (h1v53921 _ _ (Or.inr (by decide))).trans pf0
  have hfr : (∀ b j : Nat, (tag b ≠ 46 ∨ j ≠ 0) → (tag b ≠ 46 ∨ j ≠ 1) → (tag b ≠ 46 ∨ j ≠ 2) → (tag b ≠ 46 ∨ j ≠ 22) → (tag b ≠ 46 ∨ j ≠ 23) → fld F b j = fld Fo b j) ∧ (∀ b j : Nat, tag b ≠ 37 → tag b ≠ 40 → elm F b j = elm Fo b j) := ⟨fun b j n46_0 n46_1 n46_2 n46_22 n46_23 => (h1v53921 b j (fr_ne g0 n46_0)).trans (hfr.1 b j n46_0 n46_1 n46_2 n46_22 n46_23), fun b j a37 a40 => (h2v53921 b j).trans (hfr.2 b j a37 a40)⟩
  refine lv_aload_n hx hb dX13_in_5 rfl (lv_at hl 0 rfl) ?_
  refine lv_aload_n hx hb dX13_in_6 rfl (lv_at hl 0 rfl) ?_
  refine lv_iload_n hx hb dX13_in_7 rfl (lv_at hl 1 rfl) ?_
  refine t_cVi (n := 1) (C := RX13) (T := TX13) (N := 37) (As := [.int p1]) (rest := [.ref p0]) X hT (km116_X13_isHouse l G tag L F hT.2.2.2 p0 p1 m0 g0 pf0) m0 g0 rfl rfl qw_796 qw_797 qw_798 qw_5 qw_799 ⟨rfl, by decide +kernel, by decide +kernel, by decide +kernel⟩ ⟨Nat.le_of_ble_eq_true rfl, Nat.le_of_ble_eq_true rfl⟩ hl rfl rfl (Nat.le_of_ble_eq_true rfl) dX13_in_8 ⟨Nat.le_of_ble_eq_true rfl, Nat.le_of_ble_eq_true rfl⟩ (fun z53922 F9 H locs hT hz53922 => ?_)
  obtain ⟨fz53922, hz53922⟩ := hz53922
  rw [fz53922] at hT
  refine lv_if_eq (tgt := 27) hx hb dX13_in_11 (by decide) (fun c53923 => ?_) (fun c53923 => ?_)
  · have w53924 := cv_eq (rfl : z53922.toInt = z53922.toInt) (by decide : (0 : Int32).toInt = 0) c53923
    refine lv_iconst (v := 0) hx hb dX13_in_27 (by decide) ?_
    refine lv_iload_n hx hb dX13_in_28 rfl (lv_at hl 2 rfl) ?_
    refine lv_bipush (v := 60) hx hb dX13_in_29 (by decide) ?_
    refine t_cVi (n := 3) (C := RX13) (T := TX13) (N := 37) (As := [.int 0, .int p2, .int 60]) (rest := []) X hT (km184_X13_refusesIn l G tag L F hT.2.2.2 p0 0 p2 60 m0 g0 (by decide) pf0) m0 g0 rfl rfl qw_1144 qw_1145 qw_1146 qw_5 qw_1147 ⟨rfl, by decide +kernel, by decide +kernel, by decide +kernel⟩ ⟨Nat.le_of_ble_eq_true rfl, Nat.le_of_ble_eq_true rfl⟩ hl rfl rfl (Nat.le_of_ble_eq_true rfl) dX13_in_31 ⟨Nat.le_of_ble_eq_true rfl, Nat.le_of_ble_eq_true rfl⟩ (fun z53925 F9 H locs hT hz53925 => ?_)
    obtain ⟨fz53925, hz53925⟩ := hz53925
    rw [fz53925] at hT
    refine lv_istore (lv' := [(4, .int z53925), (0, .ref p0), (1, .int p1), (2, .int p2), (3, .int p3)]) hx hb dX13_in_34 hl (by decide) rfl (fun ls hl => ?_)
    refine lv_iload hx hb dX13_in_36 (lv_at hl 0 rfl) ?_
    refine lv_if_le (tgt := 48) hx hb dX13_in_38 (by decide) (fun c53926 => ?_) (fun c53926 => ?_)
    · have w53927 := cv_le (rfl : z53925.toInt = z53925.toInt) (by decide : (0 : Int32).toInt = 0) c53926
      exfalso
      omega
    · have w53928 := cv_nle (rfl : z53925.toInt = z53925.toInt) (by decide : (0 : Int32).toInt = 0) c53926
      refine lv_aload_n hx hb dX13_in_41 rfl (lv_at hl 1 rfl) ?_
      refine lv_iload hx hb dX13_in_42 (lv_at hl 0 rfl) ?_
      refine t_cVi (n := 1) (C := RX13) (T := TX13) (N := 37) (As := [.int z53925]) (rest := []) X hT (km88_X13_refused l G tag L F hT.2.2.2 p0 z53925 m0 g0) m0 g0 rfl rfl qw_484 qw_485 qw_486 qw_5 qw_487 ⟨rfl, by decide +kernel, by decide +kernel, by decide +kernel⟩ ⟨Nat.le_of_ble_eq_true rfl, Nat.le_of_ble_eq_true rfl⟩ hl rfl rfl (Nat.le_of_ble_eq_true rfl) dX13_in_44 ⟨Nat.le_of_ble_eq_true rfl, Nat.le_of_ble_eq_true rfl⟩ (fun z53929 F H locs hT hz53929 => ?_)
      obtain ⟨hz53929, yz53929⟩ := hz53929
      have pf0 := (yz53929.1 _ 3 (Or.inr (by decide)) (Or.inr (by decide))).trans pf0
      have v53921 := (yz53929.1 _ 0 (Or.inr (by decide)) (Or.inr (by decide))).trans v53921
      have hfr : (∀ b j : Nat, (tag b ≠ 46 ∨ j ≠ 0) → (tag b ≠ 46 ∨ j ≠ 1) → (tag b ≠ 46 ∨ j ≠ 2) → (tag b ≠ 46 ∨ j ≠ 22) → (tag b ≠ 46 ∨ j ≠ 23) → fld F b j = fld Fo b j) ∧ (∀ b j : Nat, tag b ≠ 37 → tag b ≠ 40 → elm F b j = elm Fo b j) := ⟨fun b j n46_0 n46_1 n46_2 n46_22 n46_23 => (yz53929.1 b j n46_1 n46_2).trans (hfr.1 b j n46_0 n46_1 n46_2 n46_22 n46_23), fun b j a37 a40 => (yz53929.2 b j ).trans (hfr.2 b j a37 a40)⟩
      exact t_iret hQ X hT (⟨rg_all _, hfr⟩) (Nat.le_of_ble_eq_true rfl) (Nat.le_of_ble_eq_true rfl) dX13_in_47
  · have w53930 := cv_ne (rfl : z53922.toInt = z53922.toInt) (by decide : (0 : Int32).toInt = 0) c53923
    exfalso
    omega
theorem kp_X13_in (l : Launch) (G : KG) (tag : Nat → Nat) (L : List Nat) (Fo : Nat → va_E) (ho : okT G ttC tag L Fo) (p0 : Nat) (p1 : Int32) (p2 : Int32) (p3 : Int32) (m0 : p0 ∈ L) (g0 : tag p0 = 46) : TMi l yX13_in cX13_in 7 (some .int) { frames := 8, cells := 0, slots := 0, locals := 192 } G ttC tag L Fo [.ref p0, .int p1, .int p2, .int p3] (fun r F1 => ((-2147483648) ≤ r.toInt ∧ r.toInt ≤ 2147483647) ∧ ((∀ b j : Nat, (tag b ≠ 46 ∨ j ≠ 0) → (tag b ≠ 46 ∨ j ≠ 1) → (tag b ≠ 46 ∨ j ≠ 2) → (tag b ≠ 46 ∨ j ≠ 22) → (tag b ≠ 46 ∨ j ≠ 23) → fld F1 b j = fld Fo b j) ∧ (∀ b j : Nat, tag b ≠ 37 → tag b ≠ 40 → elm F1 b j = elm Fo b j))) := by
  rcases t_fldn ho m0 g0 rfl 3 rfl with h9 | ⟨b9, h9, m9, t9⟩
  · exact km185_X13_in l G tag L Fo ho p0 p1 p2 p3  m0 g0 h9 
  · exact km183_X13_in l G tag L Fo ho p0 p1 p2 p3 b9  m0 g0 m9 (tg_of t9) h9 
set_option maxHeartbeats 4000000 in
set_option maxRecDepth 100000 in
theorem km187_X13_allSkins (l : Launch) (G : KG) (tag : Nat → Nat) (L : List Nat) (F : Nat → va_E) (ho : okT G ttC tag L F) (p0 : Nat) (m0 : p0 ∈ L) (g0 : tag p0 = 37) : TMi l yX13_allSkins cX13_allSkins 3 (some .int) { frames := 0, cells := 0, slots := 0, locals := 0 } G ttC tag L F [.ref p0] (fun r F1 => F1 = F ∧ ((-2147483648) ≤ r.toInt ∧ r.toInt ≤ 2147483647)) := by
  refine t_bodyi (y := yX13_allSkins) (cd := cX13_allSkins) (mL := 3) (rt := (some .int)) (rm := { frames := 0, cells := 0, slots := 0, locals := 0 }) (av := [.ref p0]) (by decide) (Nat.le_of_ble_eq_true rfl) ho ?_
  intro p e s m args below meth c ls A Q hQ X hT hl
  have hx := X.1.1
  have hb := X.1.2.1
  have hl : lv_has ls 3 [(0, .ref p0)] := hl
  have K4 : ∀ (n : Nat) (z54158 : Int32) (z54159 : Int32) (H : Heap) (locs : List Loc) (ls : Array Slot), (4 - z54159.toInt < (n : Int)) → (0 ≤ z54159.toInt ∧ z54159.toInt ≤ 4) → TH G ttC A s tag L F H locs → lv_has ls 3 [(0, .ref p0), (1, .int z54158), (2, .int z54159)] → W p l e { frames := 0, cells := 0, slots := 0, locals := 0 } s m args below meth c H locs 0 0 Q (F0 m 4 ls []) := by
    intro n
    induction n with
    | zero =>
      intro z54158 z54159 H locs ls hn rz54159 hT hl
      have rz54158 := rg_all z54158
      exfalso
      omega
    | succ n ih4 =>
      intro z54158 z54159 H locs ls hn rz54159 hT hl
      have rz54158 := rg_all z54158
      refine lv_iload_n hx hb dX13_allSkins_4 rfl (lv_at hl 2 rfl) ?_
      refine lv_iconst (v := 4) hx hb dX13_allSkins_5 (by decide) ?_
      refine lv_icmp_ge (tgt := 23) hx hb dX13_allSkins_6 (by decide) (fun c54160 => ?_) (fun c54160 => ?_)
      · have w54161 := cv_le (by decide : (4 : Int32).toInt = 4) (rfl : z54159.toInt = z54159.toInt) c54160
        refine lv_iload_n hx hb dX13_allSkins_23 rfl (lv_at hl 1 rfl) ?_
        exact t_iret hQ X hT (⟨rfl, rg_all _⟩) (Nat.le_of_ble_eq_true rfl) (Nat.le_of_ble_eq_true rfl) dX13_allSkins_24
      · have w54162 := cv_nle (by decide : (4 : Int32).toInt = 4) (rfl : z54159.toInt = z54159.toInt) c54160
        refine lv_iload_n hx hb dX13_allSkins_9 rfl (lv_at hl 1 rfl) ?_
        refine lv_aload_n hx hb dX13_allSkins_10 rfl (lv_at hl 0 rfl) ?_
        refine lv_iconst (v := 0) hx hb dX13_allSkins_11 (by decide) ?_
        refine lv_iload_n hx hb dX13_allSkins_12 rfl (lv_at hl 2 rfl) ?_
        refine lv_iadd hx hb dX13_allSkins_13 ?_
        refine lv_topi (fun z54163 ez54163 => ?_)
        obtain rfl : z54159 = z54163 := (ar_zadd ez54163).symm
        refine t_ild X hT m0 g0 rfl (by omega) dX13_allSkins_14 (fun z54164 vz54164 rz54164 => ?_)
        have rz54164 := row_ml (by omega) rz54164
        refine lv_iadd hx hb dX13_allSkins_15 ?_
        refine lv_topi (fun z54165 ez54165 => ?_)
        have rz54165 := rg_all z54165
        refine lv_istore_n (lv' := [(1, .int z54165), (0, .ref p0), (2, .int z54159)]) hx hb dX13_allSkins_16 rfl hl (by decide) rfl (fun ls hl => ?_)
        obtain ⟨z54166, ez54166⟩ : ∃ y : Int32, y = z54159 + 1 := ⟨_, rfl⟩
        have hz54166 : z54166.toInt = z54159.toInt + 1 := ar_add ez54166 rfl (by decide : (1 : Int32).toInt = 1) (by omega) (by omega)
        refine lv_iinc (v := z54166) (lv' := [(2, .int z54166), (1, .int z54165), (0, .ref p0)]) hx hb dX13_allSkins_17 hl (k := 2) rfl (by rw [ez54166]; rfl) (by decide) rfl (fun ls hl => ?_)
        refine lv_goto (tgt := 4) hx hb dX13_allSkins_20 (by decide) ?_
        exact ih4 z54165 z54166 _ _ _ (by omega) (by omega) hT  (lv_sub hl [2, 1, 0] rfl)
  refine lv_iconst (v := 0) hx hb dX13_allSkins_0 (by decide) ?_
  refine lv_istore_n (lv' := [(1, .int 0), (0, .ref p0)]) hx hb dX13_allSkins_1 rfl hl (by decide) rfl (fun ls hl => ?_)
  refine lv_iconst (v := 0) hx hb dX13_allSkins_2 (by decide) ?_
  refine lv_istore_n (lv' := [(2, .int 0), (1, .int 0), (0, .ref p0)]) hx hb dX13_allSkins_3 rfl hl (by decide) rfl (fun ls hl => ?_)
  have k54167 : (0 : Int32).toInt = 0 := by decide
  have k54168 : (0 : Int32).toInt = 0 := by decide
  exact K4 5 0 0 _ _ _ (by omega) (by decide) hT  (lv_sub hl [2, 1, 0] rfl)
