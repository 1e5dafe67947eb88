set_option maxHeartbeats 4000000 in
set_option maxRecDepth 100000 in
theorem km181_X13_goesBy (l : Launch) (G : KG) (tag : Nat → Nat) (L : List Nat) (Fo : Nat → va_E) (ho : okT G ttC tag L Fo) (p0 : Nat) (p1 : Nat) (x0 : Nat) (m0 : p0 ∈ L) (g0 : tag p0 = 46) (m1 : p1 ∈ L) (g1 : tag p1 = 37) (mx0 : x0 ∈ L) (gx0 : tag x0 = 45) (pf0 : fld Fo p0 3 = .ref x0) : TMv l yX13_goesBy cX13_goesBy 3 { frames := 6, cells := 0, slots := 0, locals := 148 } G ttC tag L Fo [.ref p0, .ref p1] (fun F1 => ((∀ b j : Nat, (tag b ≠ 46 ∨ j ≠ 22) → (tag b ≠ 46 ∨ j ≠ 23) → fld F1 b j = fld Fo b j) ∧ (∀ b j : Nat, tag b ≠ 37 → elm F1 b j = elm Fo b j))) := by
  refine t_bodyv (y := yX13_goesBy) (cd := cX13_goesBy) (mL := 3) (rm := { frames := 6, cells := 0, slots := 0, locals := 148 }) (av := [.ref p0, .ref p1]) (by decide) (Nat.le_of_ble_eq_true rfl) ho ?_
  intro p e s m args below meth c ls A Q hQ X hT hl
  have hx := X.1.1
  have hb := X.1.2.1
  have hl : lv_has ls 3 [(0, .ref p0), (1, .ref p1)] := hl
  obtain ⟨F, hFo⟩ : ∃ F : Nat → va_E, F = Fo := ⟨_, rfl⟩
  rw [← hFo] at hT pf0
  have hfr : (∀ b j : Nat, (tag b ≠ 46 ∨ j ≠ 22) → (tag b ≠ 46 ∨ j ≠ 23) → fld F b j = fld Fo b j) ∧ (∀ b j : Nat, tag b ≠ 37 → elm F b j = elm Fo b j) := by
    rw [hFo]
    exact ⟨by intros; rfl, by intros; rfl⟩
  have K2 : ∀ (n : Nat) (z52125 : Int32) (F : Nat → va_E) (H : Heap) (locs : List Loc) (ls : Array Slot), (4 - z52125.toInt < (n : Int)) → (0 ≤ z52125.toInt ∧ z52125.toInt ≤ 4) → TH G ttC A s tag L F H locs → ((∀ b j : Nat, (tag b ≠ 46 ∨ j ≠ 22) → (tag b ≠ 46 ∨ j ≠ 23) → fld F b j = fld Fo b j) ∧ (∀ b j : Nat, tag b ≠ 37 → elm F b j = elm Fo b j)) → (fld F p0 3 = .ref x0) → lv_has ls 3 [(0, .ref p0), (1, .ref p1), (2, .int z52125)] → W p l e { frames := 6, cells := 0, slots := 0, locals := 148 } s m args below meth c H locs 0 0 Q (F0 m 2 ls []) := by
    intro n
    induction n with
    | zero =>
      intro z52125 F H locs ls hn rz52125 hT hfr pf0 hl
      exfalso
      omega
    | succ n ih2 =>
      intro z52125 F H locs ls hn rz52125 hT hfr pf0 hl
      refine lv_iload_n hx hb dX13_goesBy_2 rfl (lv_at hl 2 rfl) ?_
      refine lv_aload_n hx hb dX13_goesBy_3 rfl (lv_at hl 0 rfl) ?_
      refine t_get (C := RX13) (T := TX13) (N := 37) X hT m0 g0 rfl rfl 3 (by decide) qw_481 inlX13 rfl dX13_goesBy_4 (fun v52126 hv52126 ov52126 => ?_)
      obtain rfl : v52126 = .ref x0 := hv52126.symm.trans pf0
      refine t_getN (C := RX12) (T := TX12) (N := 31) X hT mx0 gx0 rfl rfl 8 (by decide) (List.mem_of_getElem? (i := 12) rfl) inlX12 rfl dX13_goesBy_7 (fun v52127 hv52127 ov52127 => ?_)
      obtain ⟨z52128, rfl, rz52128⟩ := okV_i ov52127
      refine lv_icmp_ge (tgt := 30) hx hb dX13_goesBy_10 (by decide) (fun c52129 => ?_) (fun c52129 => ?_)
      · have w52130 := cv_le (rfl : z52128.toInt = z52128.toInt) (rfl : z52125.toInt = z52125.toInt) c52129
        refine lv_aload_n hx hb dX13_goesBy_30 rfl (lv_at hl 1 rfl) ?_
        refine lv_sipush (v := 210) hx hb dX13_goesBy_31 (by decide) ?_
        refine lv_dup2_11 hx hb dX13_goesBy_34 rfl rfl ?_
        refine t_ild X hT m1 g1 rfl (by decide) dX13_goesBy_35 (fun z52131 vz52131 rz52131 => ?_)
        have oz52131 := rz52131
        have rz52131 := rg_all z52131
        refine lv_iconst (v := 1) hx hb dX13_goesBy_36 (by decide) ?_
        refine lv_iadd hx hb dX13_goesBy_37 ?_
        refine lv_topi (fun z52132 ez52132 => ?_)
        have rz52132 := rg_all z52132
        refine t_ist X hT m1 g1 rfl (by decide) (row_fv (by decide) (Or.inr (Or.inl (by decide)))) dX13_goesBy_38 (fun F H locs hT v52133 h1v52133 h2v52133 => ?_)
        have pf0 := (h2v52133 _ _).trans pf0
        have hv52127 := (h2v52133 _ _).trans hv52127
        have hfr : (∀ b j : Nat, (tag b ≠ 46 ∨ j ≠ 22) → (tag b ≠ 46 ∨ j ≠ 23) → fld F b j = fld Fo b j) ∧ (∀ b j : Nat, tag b ≠ 37 → elm F b j = elm Fo b j) := ⟨fun b j n46_22 n46_23 => (h2v52133 b j).trans (hfr.1 b j n46_22 n46_23), fun b j a37 => (h1v52133 b j (Or.inl (at_ne g1 a37))).trans (hfr.2 b j a37)⟩
        exact t_vret hQ X hT hfr (Nat.le_of_ble_eq_true rfl) (Nat.le_of_ble_eq_true rfl) dX13_goesBy_39
      · have w52134 := cv_nle (rfl : z52128.toInt = z52128.toInt) (rfl : z52125.toInt = z52125.toInt) c52129
        refine lv_aload_n hx hb dX13_goesBy_13 rfl (lv_at hl 0 rfl) ?_
        refine lv_aload_n hx hb dX13_goesBy_14 rfl (lv_at hl 1 rfl) ?_
        refine lv_aload_n hx hb dX13_goesBy_15 rfl (lv_at hl 0 rfl) ?_
        refine t_get (C := RX13) (T := TX13) (N := 37) X hT m0 g0 rfl rfl 24 (by decide) qw_116 inlX13 rfl dX13_goesBy_16 (fun v52135 hv52135 ov52135 => ?_)
        obtain ⟨b52136, rfl, mb52136, gb52136⟩ := okV_r ov52135
        have gb52136 : tag b52136 = 40 := tg_of gb52136
        refine lv_iload_n hx hb dX13_goesBy_19 rfl (lv_at hl 2 rfl) ?_
        refine t_ild X hT mb52136 gb52136 rfl (by omega) dX13_goesBy_20 (fun z52137 vz52137 rz52137 => ?_)
        have rz52137 : 0 ≤ z52137.toInt ∧ z52137.toInt ≤ 3 := rz52137
        refine t_cVv (n := 2) (C := RX13) (T := TX13) (N := 37) (As := [.ref p1, .int z52137]) (rest := []) X hT (km180_X13_yearOf l G tag L F hT.2.2.2 p0 p1 z52137 x0 m0 g0 m1 g1 (by omega) mx0 gx0 pf0) m0 g0 rfl rfl qw_1164 qw_1165 qw_1166 qw_5 qw_1167 ⟨rfl, by decide +kernel, by decide +kernel, by decide +kernel⟩ ⟨Nat.le_of_ble_eq_true rfl, Nat.le_of_ble_eq_true rfl⟩ hl rfl rfl (Nat.le_of_ble_eq_true rfl) dX13_goesBy_21 ⟨Nat.le_of_ble_eq_true rfl, Nat.le_of_ble_eq_true rfl⟩ (fun F H locs hT hz52138 => ?_)
        have yz52138 := hz52138
        have pf0 := (yz52138.1 _ 3 (Or.inr (by decide)) (Or.inr (by decide))).trans pf0
        have hv52127 := (yz52138.1 _ 8 (Or.inr (by decide)) (Or.inr (by decide))).trans hv52127
        have hv52135 := (yz52138.1 _ 24 (Or.inr (by decide)) (Or.inr (by decide))).trans hv52135
        have vz52137 := (yz52138.2 _ _ (by rw [gb52136]; decide)).trans vz52137
        have hfr : (∀ b j : Nat, (tag b ≠ 46 ∨ j ≠ 22) → (tag b ≠ 46 ∨ j ≠ 23) → fld F b j = fld Fo b j) ∧ (∀ b j : Nat, tag b ≠ 37 → elm F b j = elm Fo b j) := ⟨fun b j n46_22 n46_23 => (yz52138.1 b j n46_22 n46_23).trans (hfr.1 b j n46_22 n46_23), fun b j a37 => (yz52138.2 b j a37).trans (hfr.2 b j a37)⟩
        obtain ⟨z52139, ez52139⟩ : ∃ y : Int32, y = z52125 + 1 := ⟨_, rfl⟩
        have hz52139 : z52139.toInt = z52125.toInt + 1 := ar_add ez52139 rfl (by decide : (1 : Int32).toInt = 1) (by omega) (by omega)
        refine lv_iinc (v := z52139) (lv' := [(2, .int z52139), (0, .ref p0), (1, .ref p1)]) hx hb dX13_goesBy_24 hl (k := 2) rfl (by rw [ez52139]; rfl) (by decide) rfl (fun ls hl => ?_)
        refine lv_goto (tgt := 2) hx hb dX13_goesBy_27 (by decide) ?_
        exact ih2 z52139 _ _ _ _ (by omega) (by omega) hT hfr pf0 (lv_sub hl [1, 2, 0] rfl)
  refine lv_iconst (v := 0) hx hb dX13_goesBy_0 (by decide) ?_
  refine lv_istore_n (lv' := [(2, .int 0), (0, .ref p0), (1, .ref p1)]) hx hb dX13_goesBy_1 rfl hl (by decide) rfl (fun ls hl => ?_)
  have k52140 : (0 : Int32).toInt = 0 := by decide
  exact K2 5 0 _ _ _ _ (by omega) (by decide) hT hfr pf0 (lv_sub hl [1, 2, 0] rfl)
set_option maxHeartbeats 4000000 in
set_option maxRecDepth 100000 in
theorem km182_X13_inYears (l : Launch) (G : KG) (tag : Nat → Nat) (L : List Nat) (Fo : Nat → va_E) (ho : okT G ttC tag L Fo) (p0 : Nat) (p1 : Int32) (x0 : Nat) (m0 : p0 ∈ L) (g0 : tag p0 = 46) (h1 : 0 ≤ p1.toInt ∧ p1.toInt ≤ 60) (mx0 : x0 ∈ L) (gx0 : tag x0 = 45) (pf0 : fld Fo p0 3 = .ref x0) : TMv l yX13_inYears cX13_inYears 3 { frames := 7, cells := 0, slots := 0, locals := 170 } G ttC tag L Fo [.ref p0, .int p1] (fun F1 => ((∀ b j : Nat, (tag b ≠ 46 ∨ j ≠ 22) → (tag b ≠ 46 ∨ j ≠ 23) → fld F1 b j = fld Fo b j) ∧ (∀ b j : Nat, tag b ≠ 37 → tag b ≠ 40 → elm F1 b j = elm Fo b j))) := by
  refine t_bodyv (y := yX13_inYears) (cd := cX13_inYears) (mL := 3) (rm := { frames := 7, cells := 0, slots := 0, locals := 170 }) (av := [.ref p0, .int p1]) (by decide) (Nat.le_of_ble_eq_true rfl) ho ?_
  intro p e s m args below meth c ls A Q hQ X hT hl
  have hx := X.1.1
  have hb := X.1.2.1
  have hl : lv_has ls 3 [(0, .ref p0), (1, .int p1)] := hl
  obtain ⟨F, hFo⟩ : ∃ F : Nat → va_E, F = Fo := ⟨_, rfl⟩
  rw [← hFo] at hT pf0
  have hfr : (∀ b j : Nat, (tag b ≠ 46 ∨ j ≠ 22) → (tag b ≠ 46 ∨ j ≠ 23) → fld F b j = fld Fo b j) ∧ (∀ b j : Nat, tag b ≠ 37 → tag b ≠ 40 → elm F b j = elm Fo b j) := by
    rw [hFo]
    exact ⟨by intros; rfl, by intros; rfl⟩
  have K10 : ∀ (n : Nat) (z52390 : Int32) (F : Nat → va_E) (H : Heap) (locs : List Loc) (ls : Array Slot), (60 - z52390.toInt < (n : Int)) → (0 ≤ z52390.toInt ∧ z52390.toInt ≤ 60) → TH G ttC A s tag L F H locs → ((∀ b j : Nat, (tag b ≠ 46 ∨ j ≠ 22) → (tag b ≠ 46 ∨ j ≠ 23) → fld F b j = fld Fo b j) ∧ (∀ b j : Nat, tag b ≠ 37 → tag b ≠ 40 → elm F b j = elm Fo b j)) → (fld F p0 3 = .ref x0) → lv_has ls 3 [(0, .ref p0), (1, .int p1), (2, .int z52390)] → W p l e { frames := 7, cells := 0, slots := 0, locals := 170 } s m args below meth c H locs 0 0 Q (F0 m 10 ls []) := by
    intro n
    induction n with
    | zero =>
      intro z52390 F H locs ls hn rz52390 hT hfr pf0 hl
      exfalso
      omega
    | succ n ih10 =>
      intro z52390 F H locs ls hn rz52390 hT hfr pf0 hl
      refine lv_iload_n hx hb dX13_inYears_10 rfl (lv_at hl 2 rfl) ?_
      refine lv_iload_n hx hb dX13_inYears_11 rfl (lv_at hl 1 rfl) ?_
      refine lv_icmp_ge (tgt := 29) hx hb dX13_inYears_12 (by decide) (fun c52391 => ?_) (fun c52391 => ?_)
      · have w52392 := cv_le (rfl : p1.toInt = p1.toInt) (rfl : z52390.toInt = z52390.toInt) c52391
        exact t_vret hQ X hT hfr (Nat.le_of_ble_eq_true rfl) (Nat.le_of_ble_eq_true rfl) dX13_inYears_29
      · have w52393 := cv_nle (rfl : p1.toInt = p1.toInt) (rfl : z52390.toInt = z52390.toInt) c52391
        refine lv_aload_n hx hb dX13_inYears_15 rfl (lv_at hl 0 rfl) ?_
        refine lv_aload_n hx hb dX13_inYears_16 rfl (lv_at hl 0 rfl) ?_
        refine t_get (C := RX13) (T := TX13) (N := 37) X hT m0 g0 rfl rfl 17 (by decide) qw_113 inlX13 rfl dX13_inYears_17 (fun v52394 hv52394 ov52394 => ?_)
        obtain ⟨b52395, rfl, mb52395, gb52395⟩ := okV_r ov52394
        have gb52395 : tag b52395 = 37 := tg_of gb52395
        refine t_cVv (n := 1) (C := RX13) (T := TX13) (N := 37) (As := [.ref b52395]) (rest := []) X hT (km181_X13_goesBy l G tag L F hT.2.2.2 p0 b52395 x0 m0 g0 mb52395 gb52395 mx0 gx0 pf0) m0 g0 rfl rfl qw_1160 qw_1161 qw_1162 qw_5 qw_1163 ⟨rfl, by decide +kernel, by decide +kernel, by decide +kernel⟩ ⟨Nat.le_of_ble_eq_true rfl, Nat.le_of_ble_eq_true rfl⟩ hl rfl rfl (Nat.le_of_ble_eq_true rfl) dX13_inYears_20 ⟨Nat.le_of_ble_eq_true rfl, Nat.le_of_ble_eq_true rfl⟩ (fun F H locs hT hz52396 => ?_)
        have yz52396 := hz52396
        have pf0 := (yz52396.1 _ 3 (Or.inr (by decide)) (Or.inr (by decide))).trans pf0
        have hv52394 := (yz52396.1 _ 17 (Or.inr (by decide)) (Or.inr (by decide))).trans hv52394
        have hfr : (∀ b j : Nat, (tag b ≠ 46 ∨ j ≠ 22) → (tag b ≠ 46 ∨ j ≠ 23) → fld F b j = fld Fo b j) ∧ (∀ b j : Nat, tag b ≠ 37 → tag b ≠ 40 → elm F b j = elm Fo b j) := ⟨fun b j n46_22 n46_23 => (yz52396.1 b j n46_22 n46_23).trans (hfr.1 b j n46_22 n46_23), fun b j a37 a40 => (yz52396.2 b j a37).trans (hfr.2 b j a37 a40)⟩
        obtain ⟨z52397, ez52397⟩ : ∃ y : Int32, y = z52390 + 1 := ⟨_, rfl⟩
        have hz52397 : z52397.toInt = z52390.toInt + 1 := ar_add ez52397 rfl (by decide : (1 : Int32).toInt = 1) (by omega) (by omega)
        refine lv_iinc (v := z52397) (lv' := [(2, .int z52397), (0, .ref p0), (1, .int p1)]) hx hb dX13_inYears_23 hl (k := 2) rfl (by rw [ez52397]; rfl) (by decide) rfl (fun ls hl => ?_)
        refine lv_goto (tgt := 10) hx hb dX13_inYears_26 (by decide) ?_
        exact ih10 z52397 _ _ _ _ (by omega) (by omega) hT hfr pf0 (lv_sub hl [1, 2, 0] rfl)
  refine lv_aload_n hx hb dX13_inYears_0 rfl (lv_at hl 0 rfl) ?_
  refine t_cVv (n := 0) (C := RX13) (T := TX13) (N := 37) (As := []) (rest := []) X hT (km176_X13_copies l G tag L F hT.2.2.2 p0 m0 g0) m0 g0 rfl rfl qw_1152 qw_1153 qw_1154 qw_5 qw_1155 ⟨rfl, by decide +kernel, by decide +kernel, by decide +kernel⟩ ⟨Nat.le_of_ble_eq_true rfl, Nat.le_of_ble_eq_true rfl⟩ hl rfl rfl (Nat.le_of_ble_eq_true rfl) dX13_inYears_1 ⟨Nat.le_of_ble_eq_true rfl, Nat.le_of_ble_eq_true rfl⟩ (fun F H locs hT hz52398 => ?_)
  have yz52398 := hz52398
  have pf0 := (yz52398.1 _ 3 ).trans pf0
  have hfr : (∀ b j : Nat, (tag b ≠ 46 ∨ j ≠ 22) → (tag b ≠ 46 ∨ j ≠ 23) → fld F b j = fld Fo b j) ∧ (∀ b j : Nat, tag b ≠ 37 → tag b ≠ 40 → elm F b j = elm Fo b j) := ⟨fun b j n46_22 n46_23 => (yz52398.1 b j ).trans (hfr.1 b j n46_22 n46_23), fun b j a37 a40 => (yz52398.2 b j a37).trans (hfr.2 b j a37 a40)⟩
  refine lv_aload_n hx hb dX13_inYears_4 rfl (lv_at hl 0 rfl) ?_
  obtain ⟨z52399, qz52399, mz52399, gz52399⟩ := t_fldr hT m0 g0 rfl 24 rfl
  have gz52399 : tag z52399 = 40 := tg_of gz52399
  refine t_cVv (n := 0) (C := RX13) (T := TX13) (N := 37) (As := []) (rest := []) X hT (km177_X13_byNumbers l G tag L F hT.2.2.2 p0 z52399 m0 g0 mz52399 gz52399 qz52399) m0 g0 rfl rfl qw_1156 qw_1157 qw_1158 qw_5 qw_1159 ⟨rfl, by decide +kernel, by decide +kernel, by decide +kernel⟩ ⟨Nat.le_of_ble_eq_true rfl, Nat.le_of_ble_eq_true rfl⟩ hl rfl rfl (Nat.le_of_ble_eq_true rfl) dX13_inYears_5 ⟨Nat.le_of_ble_eq_true rfl, Nat.le_of_ble_eq_true rfl⟩ (fun F H locs hT hz52400 => ?_)
  obtain ⟨yz52400, xz52400_0⟩ := hz52400
  have pf0 := (yz52400.1 _ 3 ).trans pf0
  have qz52399 := (yz52400.1 _ 24 ).trans qz52399
  have hfr : (∀ b j : Nat, (tag b ≠ 46 ∨ j ≠ 22) → (tag b ≠ 46 ∨ j ≠ 23) → fld F b j = fld Fo b j) ∧ (∀ b j : Nat, tag b ≠ 37 → tag b ≠ 40 → elm F b j = elm Fo b j) := ⟨fun b j n46_22 n46_23 => (yz52400.1 b j ).trans (hfr.1 b j n46_22 n46_23), fun b j a37 a40 => (yz52400.2 b j a40).trans (hfr.2 b j a37 a40)⟩
  refine lv_iconst (v := 0) hx hb dX13_inYears_8 (by decide) ?_
  refine lv_istore_n (lv' := [(2, .int 0), (0, .ref p0), (1, .int p1)]) hx hb dX13_inYears_9 rfl hl (by decide) rfl (fun ls hl => ?_)
  have k52401 : (0 : Int32).toInt = 0 := by decide
  exact K10 61 0 _ _ _ _ (by omega) (by decide) hT hfr pf0 (lv_sub hl [1, 2, 0] rfl)
set_option maxHeartbeats 4000000 in
set_option maxRecDepth 100000 in
theorem km183_X13_in (l : Launch) (G : KG) (tag : Nat → Nat) (L : List Nat) (Fo : Nat → va_E) (ho : okT G ttC tag L Fo) (p0 : Nat) (p1 : Int32) (p2 : Int32) (p3 : Int32) (x0 : Nat) (m0 : p0 ∈ L) (g0 : tag p0 = 46) (mx0 : x0 ∈ L) (gx0 : tag x0 = 45) (pf0 : fld Fo p0 3 = .ref x0) : TMi l yX13_in cX13_in 7 (some .int) { frames := 8, cells := 0, slots := 0, locals := 192 } G ttC tag L Fo [.ref p0, .int p1, .int p2, .int p3] (fun r F1 => ((-2147483648) ≤ r.toInt ∧ r.toInt ≤ 2147483647) ∧ ((∀ b j : Nat, (tag b ≠ 46 ∨ j ≠ 0) → (tag b ≠ 46 ∨ j ≠ 1) → (tag b ≠ 46 ∨ j ≠ 2) → (tag b ≠ 46 ∨ j ≠ 22) → (tag b ≠ 46 ∨ j ≠ 23) → fld F1 b j = fld Fo b j) ∧ (∀ b j : Nat, tag b ≠ 37 → tag b ≠ 40 → elm F1 b j = elm Fo b j))) := by
  refine t_bodyi (y := yX13_in) (cd := cX13_in) (mL := 7) (rt := (some .int)) (rm := { frames := 8, cells := 0, slots := 0, locals := 192 }) (av := [.ref p0, .int p1, .int p2, .int p3]) (by decide) (Nat.le_of_ble_eq_true rfl) ho ?_
  intro p e s m args below meth c ls A Q hQ X hT hl
  have hx := X.1.1
  have hb := X.1.2.1
  have hl : lv_has ls 7 [(0, .ref p0), (1, .int p1), (2, .int p2), (3, .int p3)] := hl
  have rp1 := rg_all p1
  have rp2 := rg_all p2
  have rp3 := rg_all p3
  obtain ⟨F, hFo⟩ : ∃ F : Nat → va_E, F = Fo := ⟨_, rfl⟩
  rw [← hFo] at hT pf0
  have hfr : (∀ b j : Nat, (tag b ≠ 46 ∨ j ≠ 0) → (tag b ≠ 46 ∨ j ≠ 1) → (tag b ≠ 46 ∨ j ≠ 2) → (tag b ≠ 46 ∨ j ≠ 22) → (tag b ≠ 46 ∨ j ≠ 23) → fld F b j = fld Fo b j) ∧ (∀ b j : Nat, tag b ≠ 37 → tag b ≠ 40 → elm F b j = elm Fo b j) := by
    rw [hFo]
    exact ⟨by intros; rfl, by intros; rfl⟩
  have K59 : ∀ (n : Nat) (z53533 : Int32) (z53534 : Int32) (z53535 : Int32) (z53536 : Int32) (F : Nat → va_E) (H : Heap) (locs : List Loc) (ls : Array Slot), (7 - z53535.toInt < (n : Int)) → (0 ≤ z53533.toInt ∧ z53533.toInt ≤ 0) → (1 ≤ z53535.toInt ∧ z53535.toInt ≤ 7) → (0 ≤ z53536.toInt ∧ z53536.toInt ≤ 0) → (0 ≤ p1.toInt ∧ p1.toInt ≤ 3) → (0 ≤ p2.toInt ∧ p2.toInt ≤ 60) → (0 ≤ p3.toInt ∧ p3.toInt ≤ 4) → TH G ttC A s tag L F H locs → ((∀ b j : Nat, (tag b ≠ 46 ∨ j ≠ 0) → (tag b ≠ 46 ∨ j ≠ 1) → (tag b ≠ 46 ∨ j ≠ 2) → (tag b ≠ 46 ∨ j ≠ 22) → (tag b ≠ 46 ∨ j ≠ 23) → fld F b j = fld Fo b j) ∧ (∀ b j : Nat, tag b ≠ 37 → tag b ≠ 40 → elm F b j = elm Fo b j)) → (fld F p0 3 = .ref x0) → (fld F p0 0 = .int z53536) → lv_has ls 7 [(0, .ref p0), (1, .int p1), (2, .int p2), (3, .int p3), (4, .int z53533), (5, .int z53534), (6, .int z53535)] → W p l e { frames := 8, cells := 0, slots := 0, locals := 192 } s m args below meth c H locs 0 0 Q (F0 m 59 ls []) := by
    intro n
    induction n with
    | zero =>
      intro z53533 z53534 z53535 z53536 F H locs ls hn rz53533 rz53535 rz53536 r9s53530 r9s53531 r9s53532 hT hfr pf0 qz53536 hl
      have rz53534 := rg_all z53534
      exfalso
      omega
    | succ n ih59 =>
      intro z53533 z53534 z53535 z53536 F H locs ls hn rz53533 rz53535 rz53536 r9s53530 r9s53531 r9s53532 hT hfr pf0 qz53536 hl
      have rz53534 := rg_all z53534
      refine lv_iload hx hb dX13_in_59 (lv_at hl 6 rfl) ?_
      refine lv_aload_n hx hb dX13_in_61 rfl (lv_at hl 0 rfl) ?_
      refine t_get (C := RX13) (T := TX13) (N := 37) X hT m0 g0 rfl rfl 17 (by decide) qw_113 inlX13 rfl dX13_in_62 (fun v53537 hv53537 ov53537 => ?_)
      obtain ⟨b53538, rfl, mb53538, gb53538⟩ := okV_r ov53537
      have gb53538 : tag b53538 = 37 := tg_of gb53538
      refine lv_iconst (v := 0) hx hb dX13_in_65 (by decide) ?_
      refine lv_iload_n hx hb dX13_in_66 rfl (lv_at hl 1 rfl) ?_
      refine lv_iadd hx hb dX13_in_67 ?_
      refine lv_topi (fun z53539 ez53539 => ?_)
      obtain rfl : p1 = z53539 := (ar_zadd ez53539).symm
      refine t_ild X hT mb53538 gb53538 rfl (by omega) dX13_in_68 (fun z53540 vz53540 rz53540 => ?_)
      have rz53540 := row_ml (by omega) rz53540
      refine lv_icmp_gt (tgt := 95) hx hb dX13_in_69 (by decide) (fun c53541 => ?_) (fun c53541 => ?_)
      · have w53542 := cv_lt (rfl : z53540.toInt = z53540.toInt) (rfl : z53535.toInt = z53535.toInt) c53541
        refine lv_iload_n hx hb dX13_in_95 rfl (lv_at hl 3 rfl) ?_
        by_cases c53543 : p3 = 0
        · have w53544 := cv_eq (rfl : p3.toInt = p3.toInt) (by decide : (0 : Int32).toInt = 0) c53543
          refine lv_tableIn (off := 32) (tgt := 128) hx hb dX13_in_96 (by rw [c53543]; decide) (by rw [c53543]; decide) (by rw [c53543]; decide) (by decide) ?_
          refine lv_aload_n hx hb dX13_in_128 rfl (lv_at hl 0 rfl) ?_
          refine lv_aload_n hx hb dX13_in_129 rfl (lv_at hl 0 rfl) ?_
          refine t_get (C := RX13) (T := TX13) (N := 37) X hT m0 g0 rfl rfl 17 (by decide) qw_113 inlX13 rfl dX13_in_130 (fun v53545 hv53545 ov53545 => ?_)
          obtain rfl : v53545 = .ref b53538 := hv53545.symm.trans hv53537
          refine lv_iconst (v := 0) hx hb dX13_in_133 (by decide) ?_
          refine lv_iload_n hx hb dX13_in_134 rfl (lv_at hl 1 rfl) ?_
          refine lv_iadd hx hb dX13_in_135 ?_
          refine lv_topi (fun z53546 ez53546 => ?_)
          obtain rfl : p1 = z53546 := (ar_zadd ez53546).symm
          refine t_ild X hT mb53538 gb53538 rfl (by omega) dX13_in_136 (fun z53547 vz53547 rz53547 => ?_)
          obtain rfl : z53540 = z53547 := vz53540.symm.trans vz53547
          refine t_cVi (n := 1) (C := RX13) (T := TX13) (N := 37) (As := [.int z53540]) (rest := []) X hT (km93_X13_good l G tag L F hT.2.2.2 p0 z53540 m0 g0) m0 g0 rfl rfl qw_687 qw_688 qw_689 qw_5 qw_690 ⟨rfl, by decide +kernel, by decide +kernel, by decide +kernel⟩ ⟨Nat.le_of_ble_eq_true rfl, Nat.le_of_ble_eq_true rfl⟩ hl rfl rfl (Nat.le_of_ble_eq_true rfl) dX13_in_137 ⟨Nat.le_of_ble_eq_true rfl, Nat.le_of_ble_eq_true rfl⟩ (fun z53548 F H locs hT hz53548 => ?_)
          obtain ⟨hz53548, yz53548⟩ := hz53548
          have qz53536 := (yz53548.1 _ 0 (Or.inr (by decide)) (Or.inr (by decide))).trans qz53536
          have pf0 := (yz53548.1 _ 3 (Or.inr (by decide)) (Or.inr (by decide))).trans pf0
          have hv53537 := (yz53548.1 _ 17 (Or.inr (by decide)) (Or.inr (by decide))).trans hv53537
          have vz53540 := (yz53548.2 _ _ ).trans vz53540
          have hfr : (∀ b j : Nat, (tag b ≠ 46 ∨ j ≠ 0) → (tag b ≠ 46 ∨ j ≠ 1) → (tag b ≠ 46 ∨ j ≠ 2) → (tag b ≠ 46 ∨ j ≠ 22) → (tag b ≠ 46 ∨ j ≠ 23) → fld F b j = fld Fo b j) ∧ (∀ b j : Nat, tag b ≠ 37 → tag b ≠ 40 → elm F b j = elm Fo b j) := ⟨fun b j n46_0 n46_1 n46_2 n46_22 n46_23 => (yz53548.1 b j n46_1 n46_2).trans (hfr.1 b j n46_0 n46_1 n46_2 n46_22 n46_23), fun b j a37 a40 => (yz53548.2 b j ).trans (hfr.2 b j a37 a40)⟩
          exact t_iret hQ X hT (⟨rg_all _, hfr⟩) (Nat.le_of_ble_eq_true rfl) (Nat.le_of_ble_eq_true rfl) dX13_in_140
        have w53549 := cv_ne (rfl : p3.toInt = p3.toInt) (by decide : (0 : Int32).toInt = 0) c53543
        by_cases c53550 : p3 = 1
        · have w53551 := cv_eq (rfl : p3.toInt = p3.toInt) (by decide : (1 : Int32).toInt = 1) c53550
          refine lv_tableIn (off := 45) (tgt := 141) hx hb dX13_in_96 (by rw [c53550]; decide) (by rw [c53550]; decide) (by rw [c53550]; decide) (by decide) ?_
          refine lv_aload_n hx hb dX13_in_141 rfl (lv_at hl 0 rfl) ?_
          refine lv_aload_n hx hb dX13_in_142 rfl (lv_at hl 0 rfl) ?_
          refine t_get (C := RX13) (T := TX13) (N := 37) X hT m0 g0 rfl rfl 17 (by decide) qw_113 inlX13 rfl dX13_in_143 (fun v53552 hv53552 ov53552 => ?_)
          obtain rfl : v53552 = .ref b53538 := hv53552.symm.trans hv53537
          refine lv_iconst (v := 4) hx hb dX13_in_146 (by decide) ?_
          refine lv_iload_n hx hb dX13_in_147 rfl (lv_at hl 1 rfl) ?_
          refine lv_iadd hx hb dX13_in_148 ?_
          refine lv_topi (fun z53553 ez53553 => ?_)
          have hz53553 : z53553.toInt = 4 + p1.toInt := ar_add ez53553 (by decide : (4 : Int32).toInt = 4) (rfl : p1.toInt = p1.toInt) (by omega) (by omega)
          have rz53553 : 4 ≤ z53553.toInt ∧ z53553.toInt ≤ 7 := by omega
          refine t_ild X hT mb53538 gb53538 rfl (by omega) dX13_in_149 (fun z53554 vz53554 rz53554 => ?_)
          have oz53554 := rz53554
          have rz53554 := rg_all z53554
          refine t_cVi (n := 1) (C := RX13) (T := TX13) (N := 37) (As := [.int z53554]) (rest := []) X hT (km93_X13_good l G tag L F hT.2.2.2 p0 z53554 m0 g0) m0 g0 rfl rfl qw_687 qw_688 qw_689 qw_5 qw_690 ⟨rfl, by decide +kernel, by decide +kernel, by decide +kernel⟩ ⟨Nat.le_of_ble_eq_true rfl, Nat.le_of_ble_eq_true rfl⟩ hl rfl rfl (Nat.le_of_ble_eq_true rfl) dX13_in_150 ⟨Nat.le_of_ble_eq_true rfl, Nat.le_of_ble_eq_true rfl⟩ (fun z53555 F H locs hT hz53555 => ?_)
          obtain ⟨hz53555, yz53555⟩ := hz53555
          have qz53536 := (yz53555.1 _ 0 (Or.inr (by decide)) (Or.inr (by decide))).trans qz53536
          have pf0 := (yz53555.1 _ 3 (Or.inr (by decide)) (Or.inr (by decide))).trans pf0
          have hv53537 := (yz53555.1 _ 17 (Or.inr (by decide)) (Or.inr (by decide))).trans hv53537
          have vz53540 := (yz53555.2 _ _ ).trans vz53540
          have vz53554 := (yz53555.2 _ _ ).trans vz53554
          have hfr : (∀ b j : Nat, (tag b ≠ 46 ∨ j ≠ 0) → (tag b ≠ 46 ∨ j ≠ 1) → (tag b ≠ 46 ∨ j ≠ 2) → (tag b ≠ 46 ∨ j ≠ 22) → (tag b ≠ 46 ∨ j ≠ 23) → fld F b j = fld Fo b j) ∧ (∀ b j : Nat, tag b ≠ 37 → tag b ≠ 40 → elm F b j = elm Fo b j) := ⟨fun b j n46_0 n46_1 n46_2 n46_22 n46_23 => (yz53555.1 b j n46_1 n46_2).trans (hfr.1 b j n46_0 n46_1 n46_2 n46_22 n46_23), fun b j a37 a40 => (yz53555.2 b j ).trans (hfr.2 b j a37 a40)⟩
          exact t_iret hQ X hT (⟨rg_all _, hfr⟩) (Nat.le_of_ble_eq_true rfl) (Nat.le_of_ble_eq_true rfl) dX13_in_153
        have w53556 := cv_ne (rfl : p3.toInt = p3.toInt) (by decide : (1 : Int32).toInt = 1) c53550
        by_cases c53557 : p3 = 2
        · have w53558 := cv_eq (rfl : p3.toInt = p3.toInt) (by decide : (2 : Int32).toInt = 2) c53557
          refine lv_tableIn (off := 58) (tgt := 154) hx hb dX13_in_96 (by rw [c53557]; decide) (by rw [c53557]; decide) (by rw [c53557]; decide) (by decide) ?_
          refine lv_aload_n hx hb dX13_in_154 rfl (lv_at hl 0 rfl) ?_
          refine lv_aload_n hx hb dX13_in_155 rfl (lv_at hl 0 rfl) ?_
          refine t_get (C := RX13) (T := TX13) (N := 37) X hT m0 g0 rfl rfl 17 (by decide) qw_113 inlX13 rfl dX13_in_156 (fun v53559 hv53559 ov53559 => ?_)
          obtain rfl : v53559 = .ref b53538 := hv53559.symm.trans hv53537
          refine lv_bipush (v := 8) hx hb dX13_in_159 (by decide) ?_
          refine lv_iload_n hx hb dX13_in_161 rfl (lv_at hl 1 rfl) ?_
          refine lv_iadd hx hb dX13_in_162 ?_
          refine lv_topi (fun z53560 ez53560 => ?_)
          have hz53560 : z53560.toInt = 8 + p1.toInt := ar_add ez53560 (by decide : (8 : Int32).toInt = 8) (rfl : p1.toInt = p1.toInt) (by omega) (by omega)
          have rz53560 : 8 ≤ z53560.toInt ∧ z53560.toInt ≤ 11 := by omega
          refine t_ild X hT mb53538 gb53538 rfl (by omega) dX13_in_163 (fun z53561 vz53561 rz53561 => ?_)
          have oz53561 := rz53561
          have rz53561 := rg_all z53561
          refine t_cVi (n := 1) (C := RX13) (T := TX13) (N := 37) (As := [.int z53561]) (rest := []) X hT (km93_X13_good l G tag L F hT.2.2.2 p0 z53561 m0 g0) m0 g0 rfl rfl qw_687 qw_688 qw_689 qw_5 qw_690 ⟨rfl, by decide +kernel, by decide +kernel, by decide +kernel⟩ ⟨Nat.le_of_ble_eq_true rfl, Nat.le_of_ble_eq_true rfl⟩ hl rfl rfl (Nat.le_of_ble_eq_true rfl) dX13_in_164 ⟨Nat.le_of_ble_eq_true rfl, Nat.le_of_ble_eq_true rfl⟩ (fun z53562 F H locs hT hz53562 => ?_)
          obtain ⟨hz53562, yz53562⟩ := hz53562
          have qz53536 := (yz53562.1 _ 0 (Or.inr (by decide)) (Or.inr (by decide))).trans qz53536
          have pf0 := (yz53562.1 _ 3 (Or.inr (by decide)) (Or.inr (by decide))).trans pf0
          have hv53537 := (yz53562.1 _ 17 (Or.inr (by decide)) (Or.inr (by decide))).trans hv53537
          have vz53540 := (yz53562.2 _ _ ).trans vz53540
          have vz53561 := (yz53562.2 _ _ ).trans vz53561
          have hfr : (∀ b j : Nat, (tag b ≠ 46 ∨ j ≠ 0) → (tag b ≠ 46 ∨ j ≠ 1) → (tag b ≠ 46 ∨ j ≠ 2) → (tag b ≠ 46 ∨ j ≠ 22) → (tag b ≠ 46 ∨ j ≠ 23) → fld F b j = fld Fo b j) ∧ (∀ b j : Nat, tag b ≠ 37 → tag b ≠ 40 → elm F b j = elm Fo b j) := ⟨fun b j n46_0 n46_1 n46_2 n46_22 n46_23 => (yz53562.1 b j n46_1 n46_2).trans (hfr.1 b j n46_0 n46_1 n46_2 n46_22 n46_23), fun b j a37 a40 => (yz53562.2 b j ).trans (hfr.2 b j a37 a40)⟩
          exact t_iret hQ X hT (⟨rg_all _, hfr⟩) (Nat.le_of_ble_eq_true rfl) (Nat.le_of_ble_eq_true rfl) dX13_in_167
        have w53563 := cv_ne (rfl : p3.toInt = p3.toInt) (by decide : (2 : Int32).toInt = 2) c53557
        by_cases c53564 : p3 = 3
        · have w53565 := cv_eq (rfl : p3.toInt = p3.toInt) (by decide : (3 : Int32).toInt = 3) c53564
          refine lv_tableIn (off := 72) (tgt := 168) hx hb dX13_in_96 (by rw [c53564]; decide) (by rw [c53564]; decide) (by rw [c53564]; decide) (by decide) ?_
          refine lv_aload_n hx hb dX13_in_168 rfl (lv_at hl 0 rfl) ?_
          refine lv_iload hx hb dX13_in_169 (lv_at hl 5 rfl) ?_
          refine t_cVi (n := 1) (C := RX13) (T := TX13) (N := 37) (As := [.int z53534]) (rest := []) X hT (km93_X13_good l G tag L F hT.2.2.2 p0 z53534 m0 g0) m0 g0 rfl rfl qw_687 qw_688 qw_689 qw_5 qw_690 ⟨rfl, by decide +kernel, by decide +kernel, by decide +kernel⟩ ⟨Nat.le_of_ble_eq_true rfl, Nat.le_of_ble_eq_true rfl⟩ hl rfl rfl (Nat.le_of_ble_eq_true rfl) dX13_in_171 ⟨Nat.le_of_ble_eq_true rfl, Nat.le_of_ble_eq_true rfl⟩ (fun z53566 F H locs hT hz53566 => ?_)
          obtain ⟨hz53566, yz53566⟩ := hz53566
          have qz53536 := (yz53566.1 _ 0 (Or.inr (by decide)) (Or.inr (by decide))).trans qz53536
          have pf0 := (yz53566.1 _ 3 (Or.inr (by decide)) (Or.inr (by decide))).trans pf0
          have hv53537 := (yz53566.1 _ 17 (Or.inr (by decide)) (Or.inr (by decide))).trans hv53537
          have vz53540 := (yz53566.2 _ _ ).trans vz53540
          have hfr : (∀ b j : Nat, (tag b ≠ 46 ∨ j ≠ 0) → (tag b ≠ 46 ∨ j ≠ 1) → (tag b ≠ 46 ∨ j ≠ 2) → (tag b ≠ 46 ∨ j ≠ 22) → (tag b ≠ 46 ∨ j ≠ 23) → fld F b j = fld Fo b j) ∧ (∀ b j : Nat, tag b ≠ 37 → tag b ≠ 40 → elm F b j = elm Fo b j) := ⟨fun b j n46_0 n46_1 n46_2 n46_22 n46_23 => (yz53566.1 b j n46_1 n46_2).trans (hfr.1 b j n46_0 n46_1 n46_2 n46_22 n46_23), fun b j a37 a40 => (yz53566.2 b j ).trans (hfr.2 b j a37 a40)⟩
          exact t_iret hQ X hT (⟨rg_all _, hfr⟩) (Nat.le_of_ble_eq_true rfl) (Nat.le_of_ble_eq_true rfl) dX13_in_174
        have w53567 := cv_ne (rfl : p3.toInt = p3.toInt) (by decide : (3 : Int32).toInt = 3) c53564
        refine lv_tableOut (tgt := 175) hx hb dX13_in_96 (by omega) (by decide) ?_
        refine lv_aload_n hx hb dX13_in_175 rfl (lv_at hl 0 rfl) ?_
        refine lv_aload_n hx hb dX13_in_176 rfl (lv_at hl 0 rfl) ?_
        refine lv_aload_n hx hb dX13_in_177 rfl (lv_at hl 0 rfl) ?_
        refine t_get (C := RX13) (T := TX13) (N := 37) X hT m0 g0 rfl rfl 17 (by decide) qw_113 inlX13 rfl dX13_in_178 (fun v53568 hv53568 ov53568 => ?_)
        obtain rfl : v53568 = .ref b53538 := hv53568.symm.trans hv53537
        refine lv_iload_n hx hb dX13_in_181 rfl (lv_at hl 1 rfl) ?_
        refine t_cVi (n := 2) (C := RX13) (T := TX13) (N := 37) (As := [.ref b53538, .int p1]) (rest := [.ref p0]) X hT (km114_X13_isShut l G tag L F hT.2.2.2 p0 b53538 p1 x0 m0 g0 mb53538 gb53538 (by omega) mx0 gx0 pf0) m0 g0 rfl rfl qw_800 qw_801 qw_802 qw_5 qw_803 ⟨rfl, by decide +kernel, by decide +kernel, by decide +kernel⟩ ⟨Nat.le_of_ble_eq_true rfl, Nat.le_of_ble_eq_true rfl⟩ hl rfl rfl (Nat.le_of_ble_eq_true rfl) dX13_in_182 ⟨Nat.le_of_ble_eq_true rfl, Nat.le_of_ble_eq_true rfl⟩ (fun z53569 F9 H locs hT hz53569 => ?_)
        obtain ⟨fz53569, hz53569⟩ := hz53569
        rw [fz53569] at hT
        refine lv_if_eq (tgt := 192) hx hb dX13_in_185 (by decide) (fun c53570 => ?_) (fun c53570 => ?_)
        · have w53571 := cv_eq (rfl : z53569.toInt = z53569.toInt) (by decide : (0 : Int32).toInt = 0) c53570
          refine lv_iconst (v := 0) hx hb dX13_in_192 (by decide) ?_
          refine t_cVi (n := 1) (C := RX13) (T := TX13) (N := 37) (As := [.int 0]) (rest := []) X hT (km93_X13_good l G tag L F hT.2.2.2 p0 0 m0 g0) m0 g0 rfl rfl qw_687 qw_688 qw_689 qw_5 qw_690 ⟨rfl, by decide +kernel, by decide +kernel, by decide +kernel⟩ ⟨Nat.le_of_ble_eq_true rfl, Nat.le_of_ble_eq_true rfl⟩ hl rfl rfl (Nat.le_of_ble_eq_true rfl) dX13_in_193 ⟨Nat.le_of_ble_eq_true rfl, Nat.le_of_ble_eq_true rfl⟩ (fun z53572 F H locs hT hz53572 => ?_)
          obtain ⟨hz53572, yz53572⟩ := hz53572
          have qz53536 := (yz53572.1 _ 0 (Or.inr (by decide)) (Or.inr (by decide))).trans qz53536
          have pf0 := (yz53572.1 _ 3 (Or.inr (by decide)) (Or.inr (by decide))).trans pf0
          have hv53537 := (yz53572.1 _ 17 (Or.inr (by decide)) (Or.inr (by decide))).trans hv53537
          have vz53540 := (yz53572.2 _ _ ).trans vz53540
          have hfr : (∀ b j : Nat, (tag b ≠ 46 ∨ j ≠ 0) → (tag b ≠ 46 ∨ j ≠ 1) → (tag b ≠ 46 ∨ j ≠ 2) → (tag b ≠ 46 ∨ j ≠ 22) → (tag b ≠ 46 ∨ j ≠ 23) → fld F b j = fld Fo b j) ∧ (∀ b j : Nat, tag b ≠ 37 → tag b ≠ 40 → elm F b j = elm Fo b j) := ⟨fun b j n46_0 n46_1 n46_2 n46_22 n46_23 => (yz53572.1 b j n46_1 n46_2).trans (hfr.1 b j n46_0 n46_1 n46_2 n46_22 n46_23), fun b j a37 a40 => (yz53572.2 b j ).trans (hfr.2 b j a37 a40)⟩
          exact t_iret hQ X hT (⟨rg_all _, hfr⟩) (Nat.le_of_ble_eq_true rfl) (Nat.le_of_ble_eq_true rfl) dX13_in_196
        · have w53573 := cv_ne (rfl : z53569.toInt = z53569.toInt) (by decide : (0 : Int32).toInt = 0) c53570
          refine lv_iconst (v := 1) hx hb dX13_in_188 (by decide) ?_
          refine lv_goto (tgt := 193) hx hb dX13_in_189 (by decide) ?_
          refine t_cVi (n := 1) (C := RX13) (T := TX13) (N := 37) (As := [.int 1]) (rest := []) X hT (km93_X13_good l G tag L F hT.2.2.2 p0 1 m0 g0) m0 g0 rfl rfl qw_687 qw_688 qw_689 qw_5 qw_690 ⟨rfl, by decide +kernel, by decide +kernel, by decide +kernel⟩ ⟨Nat.le_of_ble_eq_true rfl, Nat.le_of_ble_eq_true rfl⟩ hl rfl rfl (Nat.le_of_ble_eq_true rfl) dX13_in_193 ⟨Nat.le_of_ble_eq_true rfl, Nat.le_of_ble_eq_true rfl⟩ (fun z53574 F H locs hT hz53574 => ?_)
          obtain ⟨hz53574, yz53574⟩ := hz53574
          have qz53536 := (yz53574.1 _ 0 (Or.inr (by decide)) (Or.inr (by decide))).trans qz53536
          have pf0 := (yz53574.1 _ 3 (Or.inr (by decide)) (Or.inr (by decide))).trans pf0
          have hv53537 := (yz53574.1 _ 17 (Or.inr (by decide)) (Or.inr (by decide))).trans hv53537
          have vz53540 := (yz53574.2 _ _ ).trans vz53540
          have hfr : (∀ b j : Nat, (tag b ≠ 46 ∨ j ≠ 0) → (tag b ≠ 46 ∨ j ≠ 1) → (tag b ≠ 46 ∨ j ≠ 2) → (tag b ≠ 46 ∨ j ≠ 22) → (tag b ≠ 46 ∨ j ≠ 23) → fld F b j = fld Fo b j) ∧ (∀ b j : Nat, tag b ≠ 37 → tag b ≠ 40 → elm F b j = elm Fo b j) := ⟨fun b j n46_0 n46_1 n46_2 n46_22 n46_23 => (yz53574.1 b j n46_1 n46_2).trans (hfr.1 b j n46_0 n46_1 n46_2 n46_22 n46_23), fun b j a37 a40 => (yz53574.2 b j ).trans (hfr.2 b j a37 a40)⟩
          exact t_iret hQ X hT (⟨rg_all _, hfr⟩) (Nat.le_of_ble_eq_true rfl) (Nat.le_of_ble_eq_true rfl) dX13_in_196
      · have w53575 := cv_nlt (rfl : z53540.toInt = z53540.toInt) (rfl : z53535.toInt = z53535.toInt) c53541
        refine lv_iload hx hb dX13_in_72 (lv_at hl 5 rfl) ?_
        refine lv_aload_n hx hb dX13_in_74 rfl (lv_at hl 0 rfl) ?_
        refine t_get (C := RX13) (T := TX13) (N := 37) X hT m0 g0 rfl rfl 17 (by decide) qw_113 inlX13 rfl dX13_in_75 (fun v53576 hv53576 ov53576 => ?_)
        obtain rfl : v53576 = .ref b53538 := hv53576.symm.trans hv53537
        refine lv_iload_n hx hb dX13_in_78 rfl (lv_at hl 1 rfl) ?_
        refine lv_iload hx hb dX13_in_79 (lv_at hl 6 rfl) ?_
        refine lv_iconst (v := 5) hx hb dX13_in_81 (by decide) ?_
        refine t_cSi (n := 3) (As := [.int p1, .int z53535, .int 5]) (rest := [.ref b53538, .int z53534]) X hT (km49_X13_part l G tag L F hT.2.2.2 p1 z53535 5 (by omega) (by omega) (by decide)) qw_661 qw_662 qw_5 qw_663 ⟨by decide +kernel, by decide +kernel, by decide +kernel⟩ ⟨Nat.le_of_ble_eq_true rfl, Nat.le_of_ble_eq_true rfl⟩ hl rfl rfl (Nat.le_of_ble_eq_true rfl) dX13_in_82 ⟨Nat.le_of_ble_eq_true rfl, Nat.le_of_ble_eq_true rfl⟩ (fun z53577 F9 H locs hT hz53577 => ?_)
        obtain ⟨fz53577, hz53577, xz53577_0⟩ := hz53577
        rw [fz53577] at hT
        have k53578 : (5 : Int32).toInt = 5 := by decide
        refine t_ild X hT mb53538 gb53538 rfl (by omega) dX13_in_85 (fun z53579 vz53579 rz53579 => ?_)
        have oz53579 := rz53579
        have rz53579 := rg_all z53579
        refine lv_iadd hx hb dX13_in_86 ?_
        refine lv_topi (fun z53580 ez53580 => ?_)
        have rz53580 := rg_all z53580
        refine lv_istore (lv' := [(5, .int z53580), (0, .ref p0), (1, .int p1), (2, .int p2), (3, .int p3), (4, .int z53533), (6, .int z53535)]) hx hb dX13_in_87 hl (by decide) rfl (fun ls hl => ?_)
        obtain ⟨z53581, ez53581⟩ : ∃ y : Int32, y = z53535 + 1 := ⟨_, rfl⟩
        have hz53581 : z53581.toInt = z53535.toInt + 1 := ar_add ez53581 rfl (by decide : (1 : Int32).toInt = 1) (by omega) (by omega)
        refine lv_iinc (v := z53581) (lv' := [(6, .int z53581), (5, .int z53580), (0, .ref p0), (1, .int p1), (2, .int p2), (3, .int p3), (4, .int z53533)]) hx hb dX13_in_89 hl (k := 6) rfl (by rw [ez53581]; rfl) (by decide) rfl (fun ls hl => ?_)
        refine lv_goto (tgt := 59) hx hb dX13_in_92 (by decide) ?_
        exact ih59 z53533 z53580 z53581 z53536 _ _ _ _ (by omega) (by omega) (by omega) (by omega) (by omega) (by omega) (by omega) hT hfr pf0 qz53536 (lv_sub hl [2, 3, 4, 5, 6, 1, 0] rfl)
  refine lv_aload_n hx hb dX13_in_0 rfl (lv_at hl 0 rfl) ?_
  refine lv_iconst (v := 0) hx hb dX13_in_1 (by decide) ?_
  refine t_put (C := RX13) (T := TX13) (N := 37) (v := .int 0) X hT m0 g0 rfl tyX13 tyX13_ok nmX13 rfl 0 (by decide) qw_140 inlX13 rfl (by first | rfl | decide) (by first | rfl | decide) rfl (⟨_, rfl, (show (-2147483648) ≤ (0 : Int32).toInt from (by decide)), (show (0 : Int32).toInt ≤ 2147483647 from (by decide))⟩) dX13_in_2 (fun F H locs hT v53582 h1v53582 h2v53582 => ?_)
  have pf0 := (h1v53582 _ _ (Or.inr (by decide))).trans pf0
  have hfr : (∀ b j : Nat, (tag b ≠ 46 ∨ j ≠ 0) → (tag b ≠ 46 ∨ j ≠ 1) → (tag b ≠ 46 ∨ j ≠ 2) → (tag b ≠ 46 ∨ j ≠ 22) → (tag b ≠ 46 ∨ j ≠ 23) → fld F b j = fld Fo b j) ∧ (∀ b j : Nat, tag b ≠ 37 → tag b ≠ 40 → elm F b j = elm Fo b j) := ⟨fun b j n46_0 n46_1 n46_2 n46_22 n46_23 => (h1v53582 b j (fr_ne g0 n46_0)).trans (hfr.1 b j n46_0 n46_1 n46_2 n46_22 n46_23), fun b j a37 a40 => (h2v53582 b j).trans (hfr.2 b j a37 a40)⟩
  refine lv_aload_n hx hb dX13_in_5 rfl (lv_at hl 0 rfl) ?_
  refine lv_aload_n hx hb dX13_in_6 rfl (lv_at hl 0 rfl) ?_
  refine lv_iload_n hx hb dX13_in_7 rfl (lv_at hl 1 rfl) ?_
  refine t_cVi (n := 1) (C := RX13) (T := TX13) (N := 37) (As := [.int p1]) (rest := [.ref p0]) X hT (km107_X13_isHouse l G tag L F hT.2.2.2 p0 p1 x0 m0 g0 mx0 gx0 pf0) m0 g0 rfl rfl qw_796 qw_797 qw_798 qw_5 qw_799 ⟨rfl, by decide +kernel, by decide +kernel, by decide +kernel⟩ ⟨Nat.le_of_ble_eq_true rfl, Nat.le_of_ble_eq_true rfl⟩ hl rfl rfl (Nat.le_of_ble_eq_true rfl) dX13_in_8 ⟨Nat.le_of_ble_eq_true rfl, Nat.le_of_ble_eq_true rfl⟩ (fun z53583 F9 H locs hT hz53583 => ?_)
  obtain ⟨fz53583, hz53583⟩ := hz53583
  rw [fz53583] at hT
  obtain ⟨hz53583, iz53583⟩ := hz53583
  refine lv_if_eq (tgt := 27) hx hb dX13_in_11 (by decide) (fun c53584 => ?_) (fun c53584 => ?_)
  · have w53585 := cv_eq (rfl : z53583.toInt = z53583.toInt) (by decide : (0 : Int32).toInt = 0) c53584
    refine lv_iconst (v := 0) hx hb dX13_in_27 (by decide) ?_
    refine lv_iload_n hx hb dX13_in_28 rfl (lv_at hl 2 rfl) ?_
    refine lv_bipush (v := 60) hx hb dX13_in_29 (by decide) ?_
    refine t_cVi (n := 3) (C := RX13) (T := TX13) (N := 37) (As := [.int 0, .int p2, .int 60]) (rest := []) X hT (km174_X13_refusesIn l G tag L F hT.2.2.2 p0 0 p2 60 x0 m0 g0 (by decide) mx0 gx0 pf0) m0 g0 rfl rfl qw_1144 qw_1145 qw_1146 qw_5 qw_1147 ⟨rfl, by decide +kernel, by decide +kernel, by decide +kernel⟩ ⟨Nat.le_of_ble_eq_true rfl, Nat.le_of_ble_eq_true rfl⟩ hl rfl rfl (Nat.le_of_ble_eq_true rfl) dX13_in_31 ⟨Nat.le_of_ble_eq_true rfl, Nat.le_of_ble_eq_true rfl⟩ (fun z53586 F9 H locs hT hz53586 => ?_)
    obtain ⟨fz53586, hz53586, xz53586_0⟩ := hz53586
    rw [fz53586] at hT
    have k53587 : (0 : Int32).toInt = 0 := by decide
    have k53588 : (60 : Int32).toInt = 60 := by decide
    refine lv_istore (lv' := [(4, .int z53586), (0, .ref p0), (1, .int p1), (2, .int p2), (3, .int p3)]) hx hb dX13_in_34 hl (by decide) rfl (fun ls hl => ?_)
    refine lv_iload hx hb dX13_in_36 (lv_at hl 0 rfl) ?_
    refine lv_if_le (tgt := 48) hx hb dX13_in_38 (by decide) (fun c53589 => ?_) (fun c53589 => ?_)
    · have w53590 := cv_le (rfl : z53586.toInt = z53586.toInt) (by decide : (0 : Int32).toInt = 0) c53589
      exfalso
      omega
    · have w53591 := cv_nle (rfl : z53586.toInt = z53586.toInt) (by decide : (0 : Int32).toInt = 0) c53589
      refine lv_aload_n hx hb dX13_in_41 rfl (lv_at hl 1 rfl) ?_
      refine lv_iload hx hb dX13_in_42 (lv_at hl 0 rfl) ?_
      refine t_cVi (n := 1) (C := RX13) (T := TX13) (N := 37) (As := [.int z53586]) (rest := []) X hT (km88_X13_refused l G tag L F hT.2.2.2 p0 z53586 m0 g0) m0 g0 rfl rfl qw_484 qw_485 qw_486 qw_5 qw_487 ⟨rfl, by decide +kernel, by decide +kernel, by decide +kernel⟩ ⟨Nat.le_of_ble_eq_true rfl, Nat.le_of_ble_eq_true rfl⟩ hl rfl rfl (Nat.le_of_ble_eq_true rfl) dX13_in_44 ⟨Nat.le_of_ble_eq_true rfl, Nat.le_of_ble_eq_true rfl⟩ (fun z53592 F H locs hT hz53592 => ?_)
      obtain ⟨hz53592, yz53592⟩ := hz53592
      have pf0 := (yz53592.1 _ 3 (Or.inr (by decide)) (Or.inr (by decide))).trans pf0
      have v53582 := (yz53592.1 _ 0 (Or.inr (by decide)) (Or.inr (by decide))).trans v53582
      have hfr : (∀ b j : Nat, (tag b ≠ 46 ∨ j ≠ 0) → (tag b ≠ 46 ∨ j ≠ 1) → (tag b ≠ 46 ∨ j ≠ 2) → (tag b ≠ 46 ∨ j ≠ 22) → (tag b ≠ 46 ∨ j ≠ 23) → fld F b j = fld Fo b j) ∧ (∀ b j : Nat, tag b ≠ 37 → tag b ≠ 40 → elm F b j = elm Fo b j) := ⟨fun b j n46_0 n46_1 n46_2 n46_22 n46_23 => (yz53592.1 b j n46_1 n46_2).trans (hfr.1 b j n46_0 n46_1 n46_2 n46_22 n46_23), fun b j a37 a40 => (yz53592.2 b j ).trans (hfr.2 b j a37 a40)⟩
      exact t_iret hQ X hT (⟨rg_all _, hfr⟩) (Nat.le_of_ble_eq_true rfl) (Nat.le_of_ble_eq_true rfl) dX13_in_47
  · have w53593 := cv_ne (rfl : z53583.toInt = z53583.toInt) (by decide : (0 : Int32).toInt = 0) c53584
    have w53594 := (fun h => (iz53583 h)) (by omega)
    refine lv_iload_n hx hb dX13_in_14 rfl (lv_at hl 3 rfl) ?_
    refine lv_iconst (v := 0) hx hb dX13_in_15 (by decide) ?_
    refine lv_iconst (v := 4) hx hb dX13_in_16 (by decide) ?_
    refine t_cSi (n := 3) (As := [.int p3, .int 0, .int 4]) (rest := [.ref p0]) X hT (km19_X13_within l G tag L F hT.2.2.2 p3 0 4 ) qw_568 qw_569 qw_5 qw_570 ⟨by decide +kernel, by decide +kernel, by decide +kernel⟩ ⟨Nat.le_of_ble_eq_true rfl, Nat.le_of_ble_eq_true rfl⟩ hl rfl rfl (Nat.le_of_ble_eq_true rfl) dX13_in_17 ⟨Nat.le_of_ble_eq_true rfl, Nat.le_of_ble_eq_true rfl⟩ (fun z53595 F9 H locs hT hz53595 => ?_)
    obtain ⟨fz53595, hz53595, xz53595_0⟩ := hz53595
    rw [fz53595] at hT
    have k53596 : (0 : Int32).toInt = 0 := by decide
    have k53597 : (4 : Int32).toInt = 4 := by decide
    refine lv_if_eq (tgt := 27) hx hb dX13_in_20 (by decide) (fun c53598 => ?_) (fun c53598 => ?_)
    · have w53599 := cv_eq (rfl : z53595.toInt = z53595.toInt) (by decide : (0 : Int32).toInt = 0) c53598
      refine lv_iconst (v := 0) hx hb dX13_in_27 (by decide) ?_
      refine lv_iload_n hx hb dX13_in_28 rfl (lv_at hl 2 rfl) ?_
      refine lv_bipush (v := 60) hx hb dX13_in_29 (by decide) ?_
      refine t_cVi (n := 3) (C := RX13) (T := TX13) (N := 37) (As := [.int 0, .int p2, .int 60]) (rest := []) X hT (km174_X13_refusesIn l G tag L F hT.2.2.2 p0 0 p2 60 x0 m0 g0 (by decide) mx0 gx0 pf0) m0 g0 rfl rfl qw_1144 qw_1145 qw_1146 qw_5 qw_1147 ⟨rfl, by decide +kernel, by decide +kernel, by decide +kernel⟩ ⟨Nat.le_of_ble_eq_true rfl, Nat.le_of_ble_eq_true rfl⟩ hl rfl rfl (Nat.le_of_ble_eq_true rfl) dX13_in_31 ⟨Nat.le_of_ble_eq_true rfl, Nat.le_of_ble_eq_true rfl⟩ (fun z53600 F9 H locs hT hz53600 => ?_)
      obtain ⟨fz53600, hz53600, xz53600_0⟩ := hz53600
      rw [fz53600] at hT
      have k53601 : (0 : Int32).toInt = 0 := by decide
      have k53602 : (60 : Int32).toInt = 60 := by decide
      refine lv_istore (lv' := [(4, .int z53600), (0, .ref p0), (1, .int p1), (2, .int p2), (3, .int p3)]) hx hb dX13_in_34 hl (by decide) rfl (fun ls hl => ?_)
      refine lv_iload hx hb dX13_in_36 (lv_at hl 0 rfl) ?_
      refine lv_if_le (tgt := 48) hx hb dX13_in_38 (by decide) (fun c53603 => ?_) (fun c53603 => ?_)
      · have w53604 := cv_le (rfl : z53600.toInt = z53600.toInt) (by decide : (0 : Int32).toInt = 0) c53603
        exfalso
        omega
      · have w53605 := cv_nle (rfl : z53600.toInt = z53600.toInt) (by decide : (0 : Int32).toInt = 0) c53603
        refine lv_aload_n hx hb dX13_in_41 rfl (lv_at hl 1 rfl) ?_
        refine lv_iload hx hb dX13_in_42 (lv_at hl 0 rfl) ?_
        refine t_cVi (n := 1) (C := RX13) (T := TX13) (N := 37) (As := [.int z53600]) (rest := []) X hT (km88_X13_refused l G tag L F hT.2.2.2 p0 z53600 m0 g0) m0 g0 rfl rfl qw_484 qw_485 qw_486 qw_5 qw_487 ⟨rfl, by decide +kernel, by decide +kernel, by decide +kernel⟩ ⟨Nat.le_of_ble_eq_true rfl, Nat.le_of_ble_eq_true rfl⟩ hl rfl rfl (Nat.le_of_ble_eq_true rfl) dX13_in_44 ⟨Nat.le_of_ble_eq_true rfl, Nat.le_of_ble_eq_true rfl⟩ (fun z53606 F H locs hT hz53606 => ?_)
        obtain ⟨hz53606, yz53606⟩ := hz53606
        have pf0 := (yz53606.1 _ 3 (Or.inr (by decide)) (Or.inr (by decide))).trans pf0
        have v53582 := (yz53606.1 _ 0 (Or.inr (by decide)) (Or.inr (by decide))).trans v53582
        have hfr : (∀ b j : Nat, (tag b ≠ 46 ∨ j ≠ 0) → (tag b ≠ 46 ∨ j ≠ 1) → (tag b ≠ 46 ∨ j ≠ 2) → (tag b ≠ 46 ∨ j ≠ 22) → (tag b ≠ 46 ∨ j ≠ 23) → fld F b j = fld Fo b j) ∧ (∀ b j : Nat, tag b ≠ 37 → tag b ≠ 40 → elm F b j = elm Fo b j) := ⟨fun b j n46_0 n46_1 n46_2 n46_22 n46_23 => (yz53606.1 b j n46_1 n46_2).trans (hfr.1 b j n46_0 n46_1 n46_2 n46_22 n46_23), fun b j a37 a40 => (yz53606.2 b j ).trans (hfr.2 b j a37 a40)⟩
        exact t_iret hQ X hT (⟨rg_all _, hfr⟩) (Nat.le_of_ble_eq_true rfl) (Nat.le_of_ble_eq_true rfl) dX13_in_47
    · have w53607 := cv_ne (rfl : z53595.toInt = z53595.toInt) (by decide : (0 : Int32).toInt = 0) c53598
      have w53608 := xz53595_0 (by omega)
      refine lv_iconst (v := 1) hx hb dX13_in_23 (by decide) ?_
      refine lv_goto (tgt := 28) hx hb dX13_in_24 (by decide) ?_
      refine lv_iload_n hx hb dX13_in_28 rfl (lv_at hl 2 rfl) ?_
      refine lv_bipush (v := 60) hx hb dX13_in_29 (by decide) ?_
      refine t_cVi (n := 3) (C := RX13) (T := TX13) (N := 37) (As := [.int 1, .int p2, .int 60]) (rest := []) X hT (km175_X13_refusesIn l G tag L F hT.2.2.2 p0 1 p2 60 x0 m0 g0 (by decide) mx0 gx0 pf0) m0 g0 rfl rfl qw_1144 qw_1145 qw_1146 qw_5 qw_1147 ⟨rfl, by decide +kernel, by decide +kernel, by decide +kernel⟩ ⟨Nat.le_of_ble_eq_true rfl, Nat.le_of_ble_eq_true rfl⟩ hl rfl rfl (Nat.le_of_ble_eq_true rfl) dX13_in_31 ⟨Nat.le_of_ble_eq_true rfl, Nat.le_of_ble_eq_true rfl⟩ (fun z53609 F9 H locs hT hz53609 => ?_)
      obtain ⟨fz53609, hz53609, xz53609_0⟩ := hz53609
      rw [fz53609] at hT
      have k53610 : (1 : Int32).toInt = 1 := by decide
      have k53611 : (60 : Int32).toInt = 60 := by decide
      refine lv_istore (lv' := [(4, .int z53609), (0, .ref p0), (1, .int p1), (2, .int p2), (3, .int p3)]) hx hb dX13_in_34 hl (by decide) rfl (fun ls hl => ?_)
      refine lv_iload hx hb dX13_in_36 (lv_at hl 0 rfl) ?_
      refine lv_if_le (tgt := 48) hx hb dX13_in_38 (by decide) (fun c53612 => ?_) (fun c53612 => ?_)
      · have w53613 := cv_le (rfl : z53609.toInt = z53609.toInt) (by decide : (0 : Int32).toInt = 0) c53612
        have w53614 := xz53609_0 (by omega)
        refine lv_aload_n hx hb dX13_in_48 rfl (lv_at hl 1 rfl) ?_
        refine lv_iload_n hx hb dX13_in_49 rfl (lv_at hl 3 rfl) ?_
        refine t_cVv (n := 1) (C := RX13) (T := TX13) (N := 37) (As := [.int p2]) (rest := []) X hT (km182_X13_inYears l G tag L F hT.2.2.2 p0 p2 x0 m0 g0 (by omega) mx0 gx0 pf0) m0 g0 rfl rfl qw_1148 qw_1149 qw_1150 qw_5 qw_1151 ⟨rfl, by decide +kernel, by decide +kernel, by decide +kernel⟩ ⟨Nat.le_of_ble_eq_true rfl, Nat.le_of_ble_eq_true rfl⟩ hl rfl rfl (Nat.le_of_ble_eq_true rfl) dX13_in_50 ⟨Nat.le_of_ble_eq_true rfl, Nat.le_of_ble_eq_true rfl⟩ (fun F H locs hT hz53615 => ?_)
        have yz53615 := hz53615
        have pf0 := (yz53615.1 _ 3 (Or.inr (by decide)) (Or.inr (by decide))).trans pf0
        have v53582 := (yz53615.1 _ 0 (Or.inr (by decide)) (Or.inr (by decide))).trans v53582
        have hfr : (∀ b j : Nat, (tag b ≠ 46 ∨ j ≠ 0) → (tag b ≠ 46 ∨ j ≠ 1) → (tag b ≠ 46 ∨ j ≠ 2) → (tag b ≠ 46 ∨ j ≠ 22) → (tag b ≠ 46 ∨ j ≠ 23) → fld F b j = fld Fo b j) ∧ (∀ b j : Nat, tag b ≠ 37 → tag b ≠ 40 → elm F b j = elm Fo b j) := ⟨fun b j n46_0 n46_1 n46_2 n46_22 n46_23 => (yz53615.1 b j n46_22 n46_23).trans (hfr.1 b j n46_0 n46_1 n46_2 n46_22 n46_23), fun b j a37 a40 => (yz53615.2 b j a37 a40).trans (hfr.2 b j a37 a40)⟩
        refine lv_iconst (v := 0) hx hb dX13_in_53 (by decide) ?_
        refine lv_istore (lv' := [(5, .int 0), (4, .int z53609), (0, .ref p0), (1, .int p1), (2, .int p2), (3, .int p3)]) hx hb dX13_in_54 hl (by decide) rfl (fun ls hl => ?_)
        refine lv_iconst (v := 1) hx hb dX13_in_56 (by decide) ?_
        refine lv_istore (lv' := [(6, .int 1), (5, .int 0), (4, .int z53609), (0, .ref p0), (1, .int p1), (2, .int p2), (3, .int p3)]) hx hb dX13_in_57 hl (by decide) rfl (fun ls hl => ?_)
        have k53616 : (0 : Int32).toInt = 0 := by decide
        have k53617 : (1 : Int32).toInt = 1 := by decide
        have k53618 : (0 : Int32).toInt = 0 := by decide
        exact K59 7 z53609 0 1 0 _ _ _ _ (by omega) (by omega) (by decide) (by decide) (by omega) (by omega) (by omega) hT hfr pf0 v53582 (lv_sub hl [3, 4, 5, 6, 2, 1, 0] rfl)
      · have w53619 := cv_nle (rfl : z53609.toInt = z53609.toInt) (by decide : (0 : Int32).toInt = 0) c53612
        refine lv_aload_n hx hb dX13_in_41 rfl (lv_at hl 1 rfl) ?_
        refine lv_iload hx hb dX13_in_42 (lv_at hl 0 rfl) ?_
        refine t_cVi (n := 1) (C := RX13) (T := TX13) (N := 37) (As := [.int z53609]) (rest := []) X hT (km88_X13_refused l G tag L F hT.2.2.2 p0 z53609 m0 g0) m0 g0 rfl rfl qw_484 qw_485 qw_486 qw_5 qw_487 ⟨rfl, by decide +kernel, by decide +kernel, by decide +kernel⟩ ⟨Nat.le_of_ble_eq_true rfl, Nat.le_of_ble_eq_true rfl⟩ hl rfl rfl (Nat.le_of_ble_eq_true rfl) dX13_in_44 ⟨Nat.le_of_ble_eq_true rfl, Nat.le_of_ble_eq_true rfl⟩ (fun z53620 F H locs hT hz53620 => ?_)
        obtain ⟨hz53620, yz53620⟩ := hz53620
        have pf0 := (yz53620.1 _ 3 (Or.inr (by decide)) (Or.inr (by decide))).trans pf0
        have v53582 := (yz53620.1 _ 0 (Or.inr (by decide)) (Or.inr (by decide))).trans v53582
        have hfr : (∀ b j : Nat, (tag b ≠ 46 ∨ j ≠ 0) → (tag b ≠ 46 ∨ j ≠ 1) → (tag b ≠ 46 ∨ j ≠ 2) → (tag b ≠ 46 ∨ j ≠ 22) → (tag b ≠ 46 ∨ j ≠ 23) → fld F b j = fld Fo b j) ∧ (∀ b j : Nat, tag b ≠ 37 → tag b ≠ 40 → elm F b j = elm Fo b j) := ⟨fun b j n46_0 n46_1 n46_2 n46_22 n46_23 => (yz53620.1 b j n46_1 n46_2).trans (hfr.1 b j n46_0 n46_1 n46_2 n46_22 n46_23), fun b j a37 a40 => (yz53620.2 b j ).trans (hfr.2 b j a37 a40)⟩
        exact t_iret hQ X hT (⟨rg_all _, hfr⟩) (Nat.le_of_ble_eq_true rfl) (Nat.le_of_ble_eq_true rfl) dX13_in_47
set_option maxHeartbeats 4000000 in
set_option maxRecDepth 100000 in
theorem km184_X13_refusesIn (l : Launch) (G : KG) (tag : Nat → Nat) (L : List Nat) (F : Nat → va_E) (ho : okT G ttC tag L F) (p0 : Nat) (p1 : Int32) (p2 : Int32) (p3 : Int32) (m0 : p0 ∈ L) (g0 : tag p0 = 46) (h1 : 0 ≤ p1.toInt ∧ p1.toInt ≤ 0) (pf0 : fld F p0 3 = .null) : TMi l yX13_refusesIn cX13_refusesIn 4 (some .int) { frames := 0, cells := 0, slots := 0, locals := 0 } G ttC tag L F [.ref p0, .int p1, .int p2, .int p3] (fun r F1 => F1 = F ∧ (1 ≤ r.toInt ∧ r.toInt ≤ 1)) := by
  refine t_bodyi (y := yX13_refusesIn) (cd := cX13_refusesIn) (mL := 4) (rt := (some .int)) (rm := { frames := 0, cells := 0, slots := 0, locals := 0 }) (av := [.ref p0, .int p1, .int p2, .int p3]) (by decide) (Nat.le_of_ble_eq_true rfl) ho ?_
  intro p e s m args below meth c ls A Q hQ X hT hl
  have hx := X.1.1
  have hb := X.1.2.1
  have hl : lv_has ls 4 [(0, .ref p0), (1, .int p1), (2, .int p2), (3, .int p3)] := hl
  have rp2 := rg_all p2
  have rp3 := rg_all p3
  refine lv_aload_n hx hb dX13_refusesIn_0 rfl (lv_at hl 0 rfl) ?_
  refine t_get (C := RX13) (T := TX13) (N := 37) X hT m0 g0 rfl rfl 3 (by decide) qw_481 inlX13 rfl dX13_refusesIn_1 (fun v53636 hv53636 ov53636 => ?_)
  obtain rfl : v53636 = .null := hv53636.symm.trans pf0
  refine lv_ifnullN (tgt := 11) hx hb dX13_refusesIn_4 (by decide) ?_
  refine lv_iconst (v := 1) hx hb dX13_refusesIn_11 (by decide) ?_
  refine lv_goto (tgt := 29) hx hb dX13_refusesIn_12 (by decide) ?_
  have k53637 : (1 : Int32).toInt = 1 := by decide
  exact t_iret hQ X hT (⟨rfl, (by decide)⟩) (Nat.le_of_ble_eq_true rfl) (Nat.le_of_ble_eq_true rfl) dX13_refusesIn_29
set_option maxHeartbeats 4000000 in
set_option maxRecDepth 100000 in
theorem km185_X13_in (l : Launch) (G : KG) (tag : Nat → Nat) (L : List Nat) (Fo : Nat → va_E) (ho : okT G ttC tag L Fo) (p0 : Nat) (p1 : Int32) (p2 : Int32) (p3 : Int32) (m0 : p0 ∈ L) (g0 : tag p0 = 46) (pf0 : fld Fo p0 3 = .null) : TMi l yX13_in cX13_in 7 (some .int) { frames := 8, cells := 0, slots := 0, locals := 192 } G ttC tag L Fo [.ref p0, .int p1, .int p2, .int p3] (fun r F1 => ((-2147483648) ≤ r.toInt ∧ r.toInt ≤ 2147483647) ∧ ((∀ b j : Nat, (tag b ≠ 46 ∨ j ≠ 0) → (tag b ≠ 46 ∨ j ≠ 1) → (tag b ≠ 46 ∨ j ≠ 2) → (tag b ≠ 46 ∨ j ≠ 22) → (tag b ≠ 46 ∨ j ≠ 23) → fld F1 b j = fld Fo b j) ∧ (∀ b j : Nat, tag b ≠ 37 → tag b ≠ 40 → elm F1 b j = elm Fo b j))) := by
  refine t_bodyi (y := yX13_in) (cd := cX13_in) (mL := 7) (rt := (some .int)) (rm := { frames := 8, cells := 0, slots := 0, locals := 192 }) (av := [.ref p0, .int p1, .int p2, .int p3]) (by decide) (Nat.le_of_ble_eq_true rfl) ho ?_
  intro p e s m args below meth c ls A Q hQ X hT hl
  have hx := X.1.1
  have hb := X.1.2.1
  have hl : lv_has ls 7 [(0, .ref p0), (1, .int p1), (2, .int p2), (3, .int p3)] := hl
  have rp1 := rg_all p1
  have rp2 := rg_all p2
  have rp3 := rg_all p3
  obtain ⟨F, hFo⟩ : ∃ F : Nat → va_E, F = Fo := ⟨_, rfl⟩
  rw [← hFo] at hT pf0
  have hfr : (∀ b j : Nat, (tag b ≠ 46 ∨ j ≠ 0) → (tag b ≠ 46 ∨ j ≠ 1) → (tag b ≠ 46 ∨ j ≠ 2) → (tag b ≠ 46 ∨ j ≠ 22) → (tag b ≠ 46 ∨ j ≠ 23) → fld F b j = fld Fo b j) ∧ (∀ b j : Nat, tag b ≠ 37 → tag b ≠ 40 → elm F b j = elm Fo b j) := by
    rw [hFo]
    exact ⟨by intros; rfl, by intros; rfl⟩
  refine lv_aload_n hx hb dX13_in_0 rfl (lv_at hl 0 rfl) ?_
  refine lv_iconst (v := 0) hx hb dX13_in_1 (by decide) ?_
  refine t_put (C := RX13) (T := TX13) (N := 37) (v := .int 0) X hT m0 g0 rfl tyX13 tyX13_ok nmX13 rfl 0 (by decide) qw_140 inlX13 rfl (by first | rfl | decide) (by first | rfl | decide) rfl (⟨_, rfl, (show (-2147483648) ≤ (0 : Int32).toInt from (by decide)), (show (0 : Int32).toInt ≤ 2147483647 from (by decide))⟩) dX13_in_2 (fun F H locs hT v53744 h1v53744 h2v53744 => ?_)
  have pf0 := (h1v53744 _ _ (Or.inr (by decide))).trans pf0
  have hfr : (∀ b j : Nat, (tag b ≠ 46 ∨ j ≠ 0) → (tag b ≠ 46 ∨ j ≠ 1) → (tag b ≠ 46 ∨ j ≠ 2) → (tag b ≠ 46 ∨ j ≠ 22) → (tag b ≠ 46 ∨ j ≠ 23) → fld F b j = fld Fo b j) ∧ (∀ b j : Nat, tag b ≠ 37 → tag b ≠ 40 → elm F b j = elm Fo b j) := ⟨fun b j n46_0 n46_1 n46_2 n46_22 n46_23 => (h1v53744 b j (fr_ne g0 n46_0)).trans (hfr.1 b j n46_0 n46_1 n46_2 n46_22 n46_23), fun b j a37 a40 => (h2v53744 b j).trans (hfr.2 b j a37 a40)⟩
  refine lv_aload_n hx hb dX13_in_5 rfl (lv_at hl 0 rfl) ?_
  refine lv_aload_n hx hb dX13_in_6 rfl (lv_at hl 0 rfl) ?_
  refine lv_iload_n hx hb dX13_in_7 rfl (lv_at hl 1 rfl) ?_
  refine t_cVi (n := 1) (C := RX13) (T := TX13) (N := 37) (As := [.int p1]) (rest := [.ref p0]) X hT (km116_X13_isHouse l G tag L F hT.2.2.2 p0 p1 m0 g0 pf0) m0 g0 rfl rfl qw_796 qw_797 qw_798 qw_5 qw_799 ⟨rfl, by decide +kernel, by decide +kernel, by decide +kernel⟩ ⟨Nat.le_of_ble_eq_true rfl, Nat.le_of_ble_eq_true rfl⟩ hl rfl rfl (Nat.le_of_ble_eq_true rfl) dX13_in_8 ⟨Nat.le_of_ble_eq_true rfl, Nat.le_of_ble_eq_true rfl⟩ (fun z53745 F9 H locs hT hz53745 => ?_)
  obtain ⟨fz53745, hz53745⟩ := hz53745
  rw [fz53745] at hT
  refine lv_if_eq (tgt := 27) hx hb dX13_in_11 (by decide) (fun c53746 => ?_) (fun c53746 => ?_)
  · have w53747 := cv_eq (rfl : z53745.toInt = z53745.toInt) (by decide : (0 : Int32).toInt = 0) c53746
    refine lv_iconst (v := 0) hx hb dX13_in_27 (by decide) ?_
    refine lv_iload_n hx hb dX13_in_28 rfl (lv_at hl 2 rfl) ?_
    refine lv_bipush (v := 60) hx hb dX13_in_29 (by decide) ?_
    refine t_cVi (n := 3) (C := RX13) (T := TX13) (N := 37) (As := [.int 0, .int p2, .int 60]) (rest := []) X hT (km184_X13_refusesIn l G tag L F hT.2.2.2 p0 0 p2 60 m0 g0 (by decide) pf0) m0 g0 rfl rfl qw_1144 qw_1145 qw_1146 qw_5 qw_1147 ⟨rfl, by decide +kernel, by decide +kernel, by decide +kernel⟩ ⟨Nat.le_of_ble_eq_true rfl, Nat.le_of_ble_eq_true rfl⟩ hl rfl rfl (Nat.le_of_ble_eq_true rfl) dX13_in_31 ⟨Nat.le_of_ble_eq_true rfl, Nat.le_of_ble_eq_true rfl⟩ (fun z53748 F9 H locs hT hz53748 => ?_)
    obtain ⟨fz53748, hz53748⟩ := hz53748
    rw [fz53748] at hT
    refine lv_istore (lv' := [(4, .int z53748), (0, .ref p0), (1, .int p1), (2, .int p2), (3, .int p3)]) hx hb dX13_in_34 hl (by decide) rfl (fun ls hl => ?_)
    refine lv_iload hx hb dX13_in_36 (lv_at hl 0 rfl) ?_
    refine lv_if_le (tgt := 48) hx hb dX13_in_38 (by decide) (fun c53749 => ?_) (fun c53749 => ?_)
    · have w53750 := cv_le (rfl : z53748.toInt = z53748.toInt) (by decide : (0 : Int32).toInt = 0) c53749
      exfalso
      omega
    · have w53751 := cv_nle (rfl : z53748.toInt = z53748.toInt) (by decide : (0 : Int32).toInt = 0) c53749
      refine lv_aload_n hx hb dX13_in_41 rfl (lv_at hl 1 rfl) ?_
      refine lv_iload hx hb dX13_in_42 (lv_at hl 0 rfl) ?_
      refine t_cVi (n := 1) (C := RX13) (T := TX13) (N := 37) (As := [.int z53748]) (rest := []) X hT (km88_X13_refused l G tag L F hT.2.2.2 p0 z53748 m0 g0) m0 g0 rfl rfl qw_484 qw_485 qw_486 qw_5 qw_487 ⟨rfl, by decide +kernel, by decide +kernel, by decide +kernel⟩ ⟨Nat.le_of_ble_eq_true rfl, Nat.le_of_ble_eq_true rfl⟩ hl rfl rfl (Nat.le_of_ble_eq_true rfl) dX13_in_44 ⟨Nat.le_of_ble_eq_true rfl, Nat.le_of_ble_eq_true rfl⟩ (fun z53752 F H locs hT hz53752 => ?_)
      obtain ⟨hz53752, yz53752⟩ := hz53752
      have pf0 := (yz53752.1 _ 3 (Or.inr (by decide)) (Or.inr (by decide))).trans pf0
      have v53744 := (yz53752.1 _ 0 (Or.inr (by decide)) (Or.inr (by decide))).trans v53744
      have hfr : (∀ b j : Nat, (tag b ≠ 46 ∨ j ≠ 0) → (tag b ≠ 46 ∨ j ≠ 1) → (tag b ≠ 46 ∨ j ≠ 2) → (tag b ≠ 46 ∨ j ≠ 22) → (tag b ≠ 46 ∨ j ≠ 23) → fld F b j = fld Fo b j) ∧ (∀ b j : Nat, tag b ≠ 37 → tag b ≠ 40 → elm F b j = elm Fo b j) := ⟨fun b j n46_0 n46_1 n46_2 n46_22 n46_23 => (yz53752.1 b j n46_1 n46_2).trans (hfr.1 b j n46_0 n46_1 n46_2 n46_22 n46_23), fun b j a37 a40 => (yz53752.2 b j ).trans (hfr.2 b j a37 a40)⟩
      exact t_iret hQ X hT (⟨rg_all _, hfr⟩) (Nat.le_of_ble_eq_true rfl) (Nat.le_of_ble_eq_true rfl) dX13_in_47
  · have w53753 := cv_ne (rfl : z53745.toInt = z53745.toInt) (by decide : (0 : Int32).toInt = 0) c53746
    exfalso
    omega
theorem kp_X13_in (l : Launch) (G : KG) (tag : Nat → Nat) (L : List Nat) (Fo : Nat → va_E) (ho : okT G ttC tag L Fo) (p0 : Nat) (p1 : Int32) (p2 : Int32) (p3 : Int32) (m0 : p0 ∈ L) (g0 : tag p0 = 46) : TMi l yX13_in cX13_in 7 (some .int) { frames := 8, cells := 0, slots := 0, locals := 192 } G ttC tag L Fo [.ref p0, .int p1, .int p2, .int p3] (fun r F1 => ((-2147483648) ≤ r.toInt ∧ r.toInt ≤ 2147483647) ∧ ((∀ b j : Nat, (tag b ≠ 46 ∨ j ≠ 0) → (tag b ≠ 46 ∨ j ≠ 1) → (tag b ≠ 46 ∨ j ≠ 2) → (tag b ≠ 46 ∨ j ≠ 22) → (tag b ≠ 46 ∨ j ≠ 23) → fld F1 b j = fld Fo b j) ∧ (∀ b j : Nat, tag b ≠ 37 → tag b ≠ 40 → elm F1 b j = elm Fo b j))) := by
  rcases t_fldn ho m0 g0 rfl 3 rfl with h9 | ⟨b9, h9, m9, t9⟩
  · exact km185_X13_in l G tag L Fo ho p0 p1 p2 p3  m0 g0 h9 
  · exact km183_X13_in l G tag L Fo ho p0 p1 p2 p3 b9  m0 g0 m9 (tg_of t9) h9 
set_option maxHeartbeats 4000000 in
set_option maxRecDepth 100000 in
theorem km187_X13_allSkins (l : Launch) (G : KG) (tag : Nat → Nat) (L : List Nat) (F : Nat → va_E) (ho : okT G ttC tag L F) (p0 : Nat) (m0 : p0 ∈ L) (g0 : tag p0 = 37) : TMi l yX13_allSkins cX13_allSkins 3 (some .int) { frames := 0, cells := 0, slots := 0, locals := 0 } G ttC tag L F [.ref p0] (fun r F1 => F1 = F ∧ ((-2147483648) ≤ r.toInt ∧ r.toInt ≤ 2147483647)) := by
  refine t_bodyi (y := yX13_allSkins) (cd := cX13_allSkins) (mL := 3) (rt := (some .int)) (rm := { frames := 0, cells := 0, slots := 0, locals := 0 }) (av := [.ref p0]) (by decide) (Nat.le_of_ble_eq_true rfl) ho ?_
  intro p e s m args below meth c ls A Q hQ X hT hl
  have hx := X.1.1
  have hb := X.1.2.1
  have hl : lv_has ls 3 [(0, .ref p0)] := hl
  have K4 : ∀ (n : Nat) (z53981 : Int32) (z53982 : Int32) (H : Heap) (locs : List Loc) (ls : Array Slot), (4 - z53982.toInt < (n : Int)) → (0 ≤ z53982.toInt ∧ z53982.toInt ≤ 4) → TH G ttC A s tag L F H locs → lv_has ls 3 [(0, .ref p0), (1, .int z53981), (2, .int z53982)] → W p l e { frames := 0, cells := 0, slots := 0, locals := 0 } s m args below meth c H locs 0 0 Q (F0 m 4 ls []) := by
    intro n
    induction n with
    | zero =>
      intro z53981 z53982 H locs ls hn rz53982 hT hl
      have rz53981 := rg_all z53981
      exfalso
      omega
    | succ n ih4 =>
      intro z53981 z53982 H locs ls hn rz53982 hT hl
      have rz53981 := rg_all z53981
      refine lv_iload_n hx hb dX13_allSkins_4 rfl (lv_at hl 2 rfl) ?_
      refine lv_iconst (v := 4) hx hb dX13_allSkins_5 (by decide) ?_
      refine lv_icmp_ge (tgt := 23) hx hb dX13_allSkins_6 (by decide) (fun c53983 => ?_) (fun c53983 => ?_)
      · have w53984 := cv_le (by decide : (4 : Int32).toInt = 4) (rfl : z53982.toInt = z53982.toInt) c53983
        refine lv_iload_n hx hb dX13_allSkins_23 rfl (lv_at hl 1 rfl) ?_
        exact t_iret hQ X hT (⟨rfl, rg_all _⟩) (Nat.le_of_ble_eq_true rfl) (Nat.le_of_ble_eq_true rfl) dX13_allSkins_24
      · have w53985 := cv_nle (by decide : (4 : Int32).toInt = 4) (rfl : z53982.toInt = z53982.toInt) c53983
        refine lv_iload_n hx hb dX13_allSkins_9 rfl (lv_at hl 1 rfl) ?_
        refine lv_aload_n hx hb dX13_allSkins_10 rfl (lv_at hl 0 rfl) ?_
        refine lv_iconst (v := 0) hx hb dX13_allSkins_11 (by decide) ?_
        refine lv_iload_n hx hb dX13_allSkins_12 rfl (lv_at hl 2 rfl) ?_
        refine lv_iadd hx hb dX13_allSkins_13 ?_
        refine lv_topi (fun z53986 ez53986 => ?_)
        obtain rfl : z53982 = z53986 := (ar_zadd ez53986).symm
        refine t_ild X hT m0 g0 rfl (by omega) dX13_allSkins_14 (fun z53987 vz53987 rz53987 => ?_)
        have rz53987 := row_ml (by omega) rz53987
        refine lv_iadd hx hb dX13_allSkins_15 ?_
        refine lv_topi (fun z53988 ez53988 => ?_)
        have rz53988 := rg_all z53988
        refine lv_istore_n (lv' := [(1, .int z53988), (0, .ref p0), (2, .int z53982)]) hx hb dX13_allSkins_16 rfl hl (by decide) rfl (fun ls hl => ?_)
        obtain ⟨z53989, ez53989⟩ : ∃ y : Int32, y = z53982 + 1 := ⟨_, rfl⟩
        have hz53989 : z53989.toInt = z53982.toInt + 1 := ar_add ez53989 rfl (by decide : (1 : Int32).toInt = 1) (by omega) (by omega)
        refine lv_iinc (v := z53989) (lv' := [(2, .int z53989), (1, .int z53988), (0, .ref p0)]) hx hb dX13_allSkins_17 hl (k := 2) rfl (by rw [ez53989]; rfl) (by decide) rfl (fun ls hl => ?_)
        refine lv_goto (tgt := 4) hx hb dX13_allSkins_20 (by decide) ?_
        exact ih4 z53988 z53989 _ _ _ (by omega) (by omega) hT  (lv_sub hl [2, 1, 0] rfl)
  refine lv_iconst (v := 0) hx hb dX13_allSkins_0 (by decide) ?_
  refine lv_istore_n (lv' := [(1, .int 0), (0, .ref p0)]) hx hb dX13_allSkins_1 rfl hl (by decide) rfl (fun ls hl => ?_)
  refine lv_iconst (v := 0) hx hb dX13_allSkins_2 (by decide) ?_
  refine lv_istore_n (lv' := [(2, .int 0), (1, .int 0), (0, .ref p0)]) hx hb dX13_allSkins_3 rfl hl (by decide) rfl (fun ls hl => ?_)
  have k53990 : (0 : Int32).toInt = 0 := by decide
  have k53991 : (0 : Int32).toInt = 0 := by decide
  exact K4 5 0 0 _ _ _ (by omega) (by decide) hT  (lv_sub hl [2, 1, 0] rfl)
