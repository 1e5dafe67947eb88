set_option maxHeartbeats 4000000 in
set_option maxRecDepth 100000 in
theorem kt146_X3_findName (l : Launch) (G : KG) (tag : Nat → Nat) (L : List Nat) (F : Nat → va_E) (ho : okT G ttC tag L F) (p0 : Nat) (x0 : Nat) (x1 : Nat) (x2 : Nat) (x3 : Nat) (m0 : p0 ∈ L) (g0 : tag p0 = 25) (mx0 : x0 ∈ L) (gx0 : tag x0 = 24) (pf0 : fld F p0 0 = .ref x0) (mx1 : x1 ∈ L) (gx1 : tag x1 = 18) (pf1 : fld F p0 1 = .ref x1) (mx2 : x2 ∈ L) (gx2 : tag x2 = 19) (pf2 : fld F p0 2 = .ref x2) (mx3 : x3 ∈ L) (gx3 : tag x3 = 1) (pf3 : fld F x0 0 = .ref x3) : TMi l yX3_findName cX3_findName 2 (some .int) { frames := 0, cells := 0, slots := 0, locals := 0 } G ttC tag L F [.ref p0] (fun r F1 => F1 = F ∧ ((-1) ≤ r.toInt ∧ r.toInt ≤ 19)) := by
  refine t_bodyi (y := yX3_findName) (cd := cX3_findName) (mL := 2) (rt := (some .int)) (rm := { frames := 0, cells := 0, slots := 0, locals := 0 }) (av := [.ref p0]) (by decide) (Nat.le_of_ble_eq_true rfl) ho ?_
  intro p e s m args below meth c ls A Q hQ X hT hl
  have hx := X.1.1
  have hb := X.1.2.1
  have hl : lv_has ls 2 [(0, .ref p0)] := hl
  have K2 : ∀ (n : Nat) (z54177 : Int32) (H : Heap) (locs : List Loc) (ls : Array Slot), (20 - z54177.toInt < (n : Int)) → (0 ≤ z54177.toInt ∧ z54177.toInt ≤ 20) → TH G ttC A s tag L F H locs → lv_has ls 2 [(0, .ref p0), (1, .int z54177)] → W p l e { frames := 0, cells := 0, slots := 0, locals := 0 } s m args below meth c H locs 0 0 Q (F0 m 2 ls []) := by
    intro n
    induction n with
    | zero =>
      intro z54177 H locs ls hn rz54177 hT hl
      exfalso
      omega
    | succ n ih2 =>
      intro z54177 H locs ls hn rz54177 hT hl
      have K40 : ∀ (z54179 : Int32) (H : Heap) (locs : List Loc) (ls : Array Slot), (1 ≤ z54179.toInt ∧ z54179.toInt ≤ 20) → (0 ≤ z54177.toInt ∧ z54177.toInt ≤ 19) → TH G ttC A s tag L F H locs → fld F p0 12 = .int z54179 → lv_has ls 2 [(0, .ref p0), (1, .int z54177)] → W p l e { frames := 0, cells := 0, slots := 0, locals := 0 } s m args below meth c H locs 0 0 Q (F0 m 40 ls []) := by
        intro z54179 H locs ls rz54179 r9s54178 hT qz54179 hl
        obtain ⟨z54180, ez54180⟩ : ∃ y : Int32, y = z54177 + 1 := ⟨_, rfl⟩
        have hz54180 : z54180.toInt = z54177.toInt + 1 := ar_add ez54180 rfl (by decide : (1 : Int32).toInt = 1) (by omega) (by omega)
        refine lv_iinc (v := z54180) (lv' := [(1, .int z54180), (0, .ref p0)]) hx hb dX3_findName_40 hl (k := 1) rfl (by rw [ez54180]; rfl) (by decide) rfl (fun ls hl => ?_)
        refine lv_goto (tgt := 2) hx hb dX3_findName_43 (by decide) ?_
        exact ih2 z54180 _ _ _ (by omega) (by omega) hT  (lv_sub hl [1, 0] rfl)
      refine lv_iload_n hx hb dX3_findName_2 rfl (lv_at hl 1 rfl) ?_
      refine lv_aload_n hx hb dX3_findName_3 rfl (lv_at hl 0 rfl) ?_
      refine t_get (C := RX3) (T := TX3) (N := 13) X hT m0 g0 rfl rfl 12 (by decide) qw_169 inlX3 rfl dX3_findName_4 (fun v54181 hv54181 ov54181 => ?_)
      obtain ⟨z54182, rfl, rz54182⟩ := okV_i ov54181
      refine lv_icmp_ge (tgt := 46) hx hb dX3_findName_7 (by decide) (fun c54183 => ?_) (fun c54183 => ?_)
      · have w54184 := cv_le (rfl : z54182.toInt = z54182.toInt) (rfl : z54177.toInt = z54177.toInt) c54183
        refine lv_iconst (v := (-1)) hx hb dX3_findName_46 (by decide) ?_
        exact t_iret hQ X hT (⟨rfl, (by decide)⟩) (Nat.le_of_ble_eq_true rfl) (Nat.le_of_ble_eq_true rfl) dX3_findName_47
      · have w54185 := cv_nle (rfl : z54182.toInt = z54182.toInt) (rfl : z54177.toInt = z54177.toInt) c54183
        refine lv_aload_n hx hb dX3_findName_10 rfl (lv_at hl 0 rfl) ?_
        refine t_get (C := RX3) (T := TX3) (N := 13) X hT m0 g0 rfl rfl 0 (by decide) qw_73 inlX3 rfl dX3_findName_11 (fun v54186 hv54186 ov54186 => ?_)
        obtain rfl : v54186 = .ref x0 := hv54186.symm.trans pf0
        refine t_get (C := RX8) (T := TX8) (N := 8) X hT mx0 gx0 rfl rfl 3 (by decide) qw_170 inlX8 rfl dX3_findName_14 (fun v54187 hv54187 ov54187 => ?_)
        obtain ⟨z54188, rfl, rz54188⟩ := okV_i ov54187
        refine lv_iconst (v := 1) hx hb dX3_findName_17 (by decide) ?_
        refine lv_icmp_ne (tgt := 40) hx hb dX3_findName_18 (by decide) (fun c54189 => ?_) (fun c54189 => ?_)
        · have w54190 := cv_ne (rfl : z54188.toInt = z54188.toInt) (by decide : (1 : Int32).toInt = 1) c54189
          exact K40 z54182 _ _ _ (by omega) (by omega) hT hv54181 (lv_sub hl [0, 1] rfl)
        · have w54191 := cv_eq (rfl : z54188.toInt = z54188.toInt) (by decide : (1 : Int32).toInt = 1) c54189
          refine lv_aload_n hx hb dX3_findName_21 rfl (lv_at hl 0 rfl) ?_
          refine t_get (C := RX3) (T := TX3) (N := 13) X hT m0 g0 rfl rfl 9 (by decide) qw_74 inlX3 rfl dX3_findName_22 (fun v54192 hv54192 ov54192 => ?_)
          obtain ⟨b54193, rfl, mb54193, gb54193⟩ := okV_r ov54192
          have gb54193 : tag b54193 = 13 := tg_of gb54193
          refine lv_iload_n hx hb dX3_findName_25 rfl (lv_at hl 1 rfl) ?_
          refine t_lld X hT mb54193 gb54193 rfl (by omega) dX3_findName_26 (fun z54194 => ?_)
          refine lv_aload_n hx hb dX3_findName_27 rfl (lv_at hl 0 rfl) ?_
          refine t_get (C := RX3) (T := TX3) (N := 13) X hT m0 g0 rfl rfl 0 (by decide) qw_73 inlX3 rfl dX3_findName_28 (fun v54195 hv54195 ov54195 => ?_)
          obtain rfl : v54195 = .ref x0 := hv54195.symm.trans pf0
          refine t_get (C := RX8) (T := TX8) (N := 8) X hT mx0 gx0 rfl rfl 7 (by decide) qw_360 inlX8 rfl dX3_findName_31 (fun v54196 hv54196 ov54196 => ?_)
          obtain ⟨z54197, rfl⟩ := ov54196
          refine m_lcmp X dX3_findName_34 (fun z54198 rz54198 => ?_)
          refine lv_if_ne (tgt := 40) hx hb dX3_findName_35 (by decide) (fun c54199 => ?_) (fun c54199 => ?_)
          · have w54200 := cv_ne (rfl : z54198.toInt = z54198.toInt) (by decide : (0 : Int32).toInt = 0) c54199
            exact K40 z54182 _ _ _ (by omega) (by omega) hT hv54181 (lv_sub hl [0, 1] rfl)
          · have w54201 := cv_eq (rfl : z54198.toInt = z54198.toInt) (by decide : (0 : Int32).toInt = 0) c54199
            refine lv_iload_n hx hb dX3_findName_38 rfl (lv_at hl 1 rfl) ?_
            exact t_iret hQ X hT (⟨rfl, (by omega)⟩) (Nat.le_of_ble_eq_true rfl) (Nat.le_of_ble_eq_true rfl) dX3_findName_39
  refine lv_iconst (v := 0) hx hb dX3_findName_0 (by decide) ?_
  refine lv_istore_n (lv' := [(1, .int 0), (0, .ref p0)]) hx hb dX3_findName_1 rfl hl (by decide) rfl (fun ls hl => ?_)
  have kk54202 : (0 : Int32).toInt = 0 := by decide
  exact K2 21 0 _ _ _ (by omega) (by decide) hT  (lv_sub hl [1, 0] rfl)
set_option maxHeartbeats 4000000 in
set_option maxRecDepth 100000 in
theorem kt147_X3_whole (l : Launch) (G : KG) (tag : Nat → Nat) (L : List Nat) (Fo : Nat → va_E) (ho : okT G ttC tag L Fo) (p0 : Nat) (p1 : Int32) (p2 : Int32) (x0 : Nat) (x1 : Nat) (x2 : Nat) (x3 : Nat) (m0 : p0 ∈ L) (g0 : tag p0 = 25) (mx0 : x0 ∈ L) (gx0 : tag x0 = 24) (pf0 : fld Fo p0 0 = .ref x0) (mx1 : x1 ∈ L) (gx1 : tag x1 = 18) (pf1 : fld Fo p0 1 = .ref x1) (mx2 : x2 ∈ L) (gx2 : tag x2 = 19) (pf2 : fld Fo p0 2 = .ref x2) (mx3 : x3 ∈ L) (gx3 : tag x3 = 1) (pf3 : fld Fo x0 0 = .ref x3) : TMi l yX3_whole cX3_whole 4 (some .int) { frames := 3, cells := 0, slots := 0, locals := 62 } G ttC tag L Fo [.ref p0, .int p1, .int p2] (fun r F1 => ((-2147483648) ≤ r.toInt ∧ r.toInt ≤ 2147483647) ∧ (∀ b j : Nat, (tag b ≠ 24 ∨ j ≠ 2) → (tag b ≠ 24 ∨ j ≠ 3) → (tag b ≠ 24 ∨ j ≠ 4) → (tag b ≠ 24 ∨ j ≠ 5) → (tag b ≠ 24 ∨ j ≠ 6) → (tag b ≠ 24 ∨ j ≠ 7) → (tag b ≠ 25 ∨ j ≠ 3) → (tag b ≠ 25 ∨ j ≠ 4) → fld F1 b j = fld Fo b j)) := by
  refine t_bodyi (y := yX3_whole) (cd := cX3_whole) (mL := 4) (rt := (some .int)) (rm := { frames := 3, cells := 0, slots := 0, locals := 62 }) (av := [.ref p0, .int p1, .int p2]) (by decide) (Nat.le_of_ble_eq_true rfl) ho ?_
  intro p e s m args below meth c ls A Q hQ X hT hl
  have hx := X.1.1
  have hb := X.1.2.1
  have hl : lv_has ls 4 [(0, .ref p0), (1, .int p1), (2, .int p2)] := hl
  have rp1 := rg_all p1
  have rp2 := rg_all p2
  obtain ⟨F, hFo⟩ : ∃ F : Nat → va_E, F = Fo := ⟨_, rfl⟩
  rw [← hFo] at hT
  have hfr : ∀ b j : Nat, (tag b ≠ 24 ∨ j ≠ 2) → (tag b ≠ 24 ∨ j ≠ 3) → (tag b ≠ 24 ∨ j ≠ 4) → (tag b ≠ 24 ∨ j ≠ 5) → (tag b ≠ 24 ∨ j ≠ 6) → (tag b ≠ 24 ∨ j ≠ 7) → (tag b ≠ 25 ∨ j ≠ 3) → (tag b ≠ 25 ∨ j ≠ 4) → fld F b j = fld Fo b j := by
    rw [hFo]
    intros
    rfl
  have K60 : ∀  (F : Nat → va_E) (H : Heap) (locs : List Loc) (ls : Array Slot), TH G ttC A s tag L F H locs → (∀ b j : Nat, (tag b ≠ 24 ∨ j ≠ 2) → (tag b ≠ 24 ∨ j ≠ 3) → (tag b ≠ 24 ∨ j ≠ 4) → (tag b ≠ 24 ∨ j ≠ 5) → (tag b ≠ 24 ∨ j ≠ 6) → (tag b ≠ 24 ∨ j ≠ 7) → (tag b ≠ 25 ∨ j ≠ 3) → (tag b ≠ 25 ∨ j ≠ 4) → fld F b j = fld Fo b j) → fld F p0 0 = .ref x0 → fld F p0 1 = .ref x1 → fld F p0 2 = .ref x2 → fld F x0 0 = .ref x3 → lv_has ls 4 [(0, .ref p0), (1, .int p1), (2, .int p2)] → W p l e { frames := 3, cells := 0, slots := 0, locals := 62 } s m args below meth c H locs 0 0 Q (F0 m 60 ls []) := by
    intro F H locs ls hT hfr pf0 pf1 pf2 pf3 hl
    refine lv_aload_n hx hb dX3_whole_60 rfl (lv_at hl 0 rfl) ?_
    refine t_get (C := RX3) (T := TX3) (N := 13) X hT m0 g0 rfl rfl 3 (by decide) qw_163 inlX3 rfl dX3_whole_61 (fun v54772 hv54772 ov54772 => ?_)
    obtain ⟨z54773, rfl, rz54773⟩ := okV_i ov54772
    refine lv_if_eq (tgt := 69) hx hb dX3_whole_64 (by decide) (fun c54774 => ?_) (fun c54774 => ?_)
    · have w54775 := cv_eq (rfl : z54773.toInt = z54773.toInt) (by decide : (0 : Int32).toInt = 0) c54774
      refine lv_aload_n hx hb dX3_whole_69 rfl (lv_at hl 0 rfl) ?_
      refine t_get (C := RX3) (T := TX3) (N := 13) X hT m0 g0 rfl rfl 0 (by decide) qw_73 inlX3 rfl dX3_whole_70 (fun v54776 hv54776 ov54776 => ?_)
      obtain rfl : v54776 = .ref x0 := hv54776.symm.trans pf0
      refine t_get (C := RX8) (T := TX8) (N := 8) X hT mx0 gx0 rfl rfl 6 (by decide) qw_322 inlX8 rfl dX3_whole_73 (fun v54777 hv54777 ov54777 => ?_)
      obtain ⟨z54778, rfl, rz54778⟩ := okV_i ov54777
      refine lv_istore_n (lv' := [(3, .int z54778), (0, .ref p0), (1, .int p1), (2, .int p2)]) hx hb dX3_whole_76 rfl hl (by decide) rfl (fun ls hl => ?_)
      refine lv_aload_n hx hb dX3_whole_77 rfl (lv_at hl 1 rfl) ?_
      refine t_get (C := RX3) (T := TX3) (N := 13) X hT m0 g0 rfl rfl 0 (by decide) qw_73 inlX3 rfl dX3_whole_78 (fun v54779 hv54779 ov54779 => ?_)
      obtain rfl : v54779 = .ref x0 := hv54779.symm.trans pf0
      refine t_cVv (n := 0) (C := RX8) (T := TX8) (N := 8) (As := []) (rest := []) X hT (kt98_X8_advance l G tag L F hT.2.2.2 x0 x3 mx0 gx0 mx3 gx3 pf3) mx0 gx0 rfl rfl qw_305 qw_197 qw_198 qw_72 qw_199 ⟨rfl, by decide +kernel, by decide +kernel, by decide +kernel⟩ ⟨Nat.le_of_ble_eq_true rfl, Nat.le_of_ble_eq_true rfl⟩ hl rfl rfl (Nat.le_of_ble_eq_true rfl) dX3_whole_81 ⟨Nat.le_of_ble_eq_true rfl, Nat.le_of_ble_eq_true rfl⟩ (fun F H locs hT hz54780 => ?_)
      have yz54780 := hz54780
      have pf0 := (yz54780 _ 0 (Or.inr (by decide)) (Or.inr (by decide)) (Or.inr (by decide)) (Or.inr (by decide)) (Or.inr (by decide)) (Or.inr (by decide))).trans pf0
      have pf1 := (yz54780 _ 1 (Or.inr (by decide)) (Or.inr (by decide)) (Or.inr (by decide)) (Or.inr (by decide)) (Or.inr (by decide)) (Or.inr (by decide))).trans pf1
      have pf2 := (yz54780 _ 2 (Or.inl (by rw [g0]; decide)) (Or.inr (by decide)) (Or.inr (by decide)) (Or.inr (by decide)) (Or.inr (by decide)) (Or.inr (by decide))).trans pf2
      have pf3 := (yz54780 _ 0 (Or.inr (by decide)) (Or.inr (by decide)) (Or.inr (by decide)) (Or.inr (by decide)) (Or.inr (by decide)) (Or.inr (by decide))).trans pf3
      have hv54772 := (yz54780 _ 3 (Or.inr (by decide)) (Or.inl (by rw [g0]; decide)) (Or.inr (by decide)) (Or.inr (by decide)) (Or.inr (by decide)) (Or.inr (by decide))).trans hv54772
      have hfr : ∀ b j : Nat, (tag b ≠ 24 ∨ j ≠ 2) → (tag b ≠ 24 ∨ j ≠ 3) → (tag b ≠ 24 ∨ j ≠ 4) → (tag b ≠ 24 ∨ j ≠ 5) → (tag b ≠ 24 ∨ j ≠ 6) → (tag b ≠ 24 ∨ j ≠ 7) → (tag b ≠ 25 ∨ j ≠ 3) → (tag b ≠ 25 ∨ j ≠ 4) → fld F b j = fld Fo b j := fun b j n24_2 n24_3 n24_4 n24_5 n24_6 n24_7 n25_3 n25_4 => (yz54780 b j n24_2 n24_3 n24_4 n24_5 n24_6 n24_7).trans (hfr b j n24_2 n24_3 n24_4 n24_5 n24_6 n24_7 n25_3 n25_4)
      refine lv_iload_n hx hb dX3_whole_84 rfl (lv_at hl 0 rfl) ?_
      exact t_iret hQ X hT (⟨rg_all _, hfr⟩) (Nat.le_of_ble_eq_true rfl) (Nat.le_of_ble_eq_true rfl) dX3_whole_85
    · have w54781 := cv_ne (rfl : z54773.toInt = z54773.toInt) (by decide : (0 : Int32).toInt = 0) c54774
      refine lv_iload_n hx hb dX3_whole_67 rfl (lv_at hl 1 rfl) ?_
      exact t_iret hQ X hT (⟨rg_all _, hfr⟩) (Nat.le_of_ble_eq_true rfl) (Nat.le_of_ble_eq_true rfl) dX3_whole_68
  have K48 : ∀  (F : Nat → va_E) (H : Heap) (locs : List Loc) (ls : Array Slot), TH G ttC A s tag L F H locs → (∀ b j : Nat, (tag b ≠ 24 ∨ j ≠ 2) → (tag b ≠ 24 ∨ j ≠ 3) → (tag b ≠ 24 ∨ j ≠ 4) → (tag b ≠ 24 ∨ j ≠ 5) → (tag b ≠ 24 ∨ j ≠ 6) → (tag b ≠ 24 ∨ j ≠ 7) → (tag b ≠ 25 ∨ j ≠ 3) → (tag b ≠ 25 ∨ j ≠ 4) → fld F b j = fld Fo b j) → fld F p0 0 = .ref x0 → fld F p0 1 = .ref x1 → fld F p0 2 = .ref x2 → fld F x0 0 = .ref x3 → lv_has ls 4 [(0, .ref p0), (1, .int p1), (2, .int p2)] → W p l e { frames := 3, cells := 0, slots := 0, locals := 62 } s m args below meth c H locs 0 0 Q (F0 m 48 ls []) := by
    intro F H locs ls hT hfr pf0 pf1 pf2 pf3 hl
    refine lv_aload_n hx hb dX3_whole_48 rfl (lv_at hl 0 rfl) ?_
    refine lv_iconst (v := 4) hx hb dX3_whole_49 (by decide) ?_
    refine lv_aload_n hx hb dX3_whole_50 rfl (lv_at hl 0 rfl) ?_
    refine t_get (C := RX3) (T := TX3) (N := 13) X hT m0 g0 rfl rfl 0 (by decide) qw_73 inlX3 rfl dX3_whole_51 (fun v54782 hv54782 ov54782 => ?_)
    obtain rfl : v54782 = .ref x0 := hv54782.symm.trans pf0
    refine t_get (C := RX8) (T := TX8) (N := 8) X hT mx0 gx0 rfl rfl 4 (by decide) qw_227 inlX8 rfl dX3_whole_54 (fun v54783 hv54783 ov54783 => ?_)
    obtain ⟨z54784, rfl, rz54784⟩ := okV_i ov54783
    refine t_cVv (n := 2) (C := RX3) (T := TX3) (N := 13) (As := [.int 4, .int z54784]) (rest := []) X hT (kt144_X3_fail l G tag L F hT.2.2.2 p0 4 z54784 m0 g0) m0 g0 rfl rfl qw_287 qw_288 qw_289 qw_28 qw_290 ⟨rfl, by decide +kernel, by decide +kernel, by decide +kernel⟩ ⟨Nat.le_of_ble_eq_true rfl, Nat.le_of_ble_eq_true rfl⟩ hl rfl rfl (Nat.le_of_ble_eq_true rfl) dX3_whole_57 ⟨Nat.le_of_ble_eq_true rfl, Nat.le_of_ble_eq_true rfl⟩ (fun F H locs hT hz54785 => ?_)
    have yz54785 := hz54785
    have pf0 := (yz54785 _ 0 (Or.inr (by decide)) (Or.inr (by decide))).trans pf0
    have pf1 := (yz54785 _ 1 (Or.inr (by decide)) (Or.inr (by decide))).trans pf1
    have pf2 := (yz54785 _ 2 (Or.inr (by decide)) (Or.inr (by decide))).trans pf2
    have pf3 := (yz54785 _ 0 (Or.inr (by decide)) (Or.inr (by decide))).trans pf3
    have hv54783 := (yz54785 _ 4 (Or.inr (by decide)) (Or.inl (by rw [gx0]; decide))).trans hv54783
    have hfr : ∀ b j : Nat, (tag b ≠ 24 ∨ j ≠ 2) → (tag b ≠ 24 ∨ j ≠ 3) → (tag b ≠ 24 ∨ j ≠ 4) → (tag b ≠ 24 ∨ j ≠ 5) → (tag b ≠ 24 ∨ j ≠ 6) → (tag b ≠ 24 ∨ j ≠ 7) → (tag b ≠ 25 ∨ j ≠ 3) → (tag b ≠ 25 ∨ j ≠ 4) → fld F b j = fld Fo b j := fun b j n24_2 n24_3 n24_4 n24_5 n24_6 n24_7 n25_3 n25_4 => (yz54785 b j n25_3 n25_4).trans (hfr b j n24_2 n24_3 n24_4 n24_5 n24_6 n24_7 n25_3 n25_4)
    exact K60  _ _ _ _  hT hfr pf0 pf1 pf2 pf3 (lv_sub hl [0, 1, 2] rfl)
  refine lv_aload_n hx hb dX3_whole_0 rfl (lv_at hl 0 rfl) ?_
  refine t_get (C := RX3) (T := TX3) (N := 13) X hT m0 g0 rfl rfl 0 (by decide) qw_73 inlX3 rfl dX3_whole_1 (fun v54786 hv54786 ov54786 => ?_)
  obtain rfl : v54786 = .ref x0 := hv54786.symm.trans pf0
  refine t_get (C := RX8) (T := TX8) (N := 8) X hT mx0 gx0 rfl rfl 3 (by decide) qw_170 inlX8 rfl dX3_whole_4 (fun v54787 hv54787 ov54787 => ?_)
  obtain ⟨z54788, rfl, rz54788⟩ := okV_i ov54787
  refine lv_iconst (v := 2) hx hb dX3_whole_7 (by decide) ?_
  refine lv_icmp_eq (tgt := 26) hx hb dX3_whole_8 (by decide) (fun c54789 => ?_) (fun c54789 => ?_)
  · have w54790 := cv_eq (rfl : z54788.toInt = z54788.toInt) (by decide : (2 : Int32).toInt = 2) c54789
    refine lv_aload_n hx hb dX3_whole_26 rfl (lv_at hl 0 rfl) ?_
    refine t_get (C := RX3) (T := TX3) (N := 13) X hT m0 g0 rfl rfl 0 (by decide) qw_73 inlX3 rfl dX3_whole_27 (fun v54791 hv54791 ov54791 => ?_)
    obtain rfl : v54791 = .ref x0 := hv54791.symm.trans pf0
    refine t_get (C := RX8) (T := TX8) (N := 8) X hT mx0 gx0 rfl rfl 6 (by decide) qw_322 inlX8 rfl dX3_whole_30 (fun v54792 hv54792 ov54792 => ?_)
    obtain ⟨z54793, rfl, rz54793⟩ := okV_i ov54792
    refine lv_iload_n hx hb dX3_whole_33 rfl (lv_at hl 1 rfl) ?_
    refine lv_icmp_lt (tgt := 48) hx hb dX3_whole_34 (by decide) (fun c54794 => ?_) (fun c54794 => ?_)
    · have w54795 := cv_lt (rfl : z54793.toInt = z54793.toInt) (rfl : p1.toInt = p1.toInt) c54794
      exact K48  _ _ _ _  hT hfr pf0 pf1 pf2 pf3 (lv_sub hl [0, 1, 2] rfl)
    · have w54796 := cv_nlt (rfl : z54793.toInt = z54793.toInt) (rfl : p1.toInt = p1.toInt) c54794
      refine lv_aload_n hx hb dX3_whole_37 rfl (lv_at hl 0 rfl) ?_
      refine t_get (C := RX3) (T := TX3) (N := 13) X hT m0 g0 rfl rfl 0 (by decide) qw_73 inlX3 rfl dX3_whole_38 (fun v54797 hv54797 ov54797 => ?_)
      obtain rfl : v54797 = .ref x0 := hv54797.symm.trans pf0
      refine t_get (C := RX8) (T := TX8) (N := 8) X hT mx0 gx0 rfl rfl 6 (by decide) qw_322 inlX8 rfl dX3_whole_41 (fun v54798 hv54798 ov54798 => ?_)
      obtain rfl : v54798 = .int z54793 := hv54798.symm.trans hv54792
      refine lv_iload_n hx hb dX3_whole_44 rfl (lv_at hl 2 rfl) ?_
      refine lv_icmp_le (tgt := 60) hx hb dX3_whole_45 (by decide) (fun c54799 => ?_) (fun c54799 => ?_)
      · have w54800 := cv_le (rfl : z54793.toInt = z54793.toInt) (rfl : p2.toInt = p2.toInt) c54799
        exact K60  _ _ _ _  hT hfr pf0 pf1 pf2 pf3 (lv_sub hl [0, 1, 2] rfl)
      · have w54801 := cv_nle (rfl : z54793.toInt = z54793.toInt) (rfl : p2.toInt = p2.toInt) c54799
        exact K48  _ _ _ _  hT hfr pf0 pf1 pf2 pf3 (lv_sub hl [0, 1, 2] rfl)
  · have w54802 := cv_ne (rfl : z54788.toInt = z54788.toInt) (by decide : (2 : Int32).toInt = 2) c54789
    refine lv_aload_n hx hb dX3_whole_11 rfl (lv_at hl 0 rfl) ?_
    refine lv_iconst (v := 1) hx hb dX3_whole_12 (by decide) ?_
    refine lv_aload_n hx hb dX3_whole_13 rfl (lv_at hl 0 rfl) ?_
    refine t_get (C := RX3) (T := TX3) (N := 13) X hT m0 g0 rfl rfl 0 (by decide) qw_73 inlX3 rfl dX3_whole_14 (fun v54803 hv54803 ov54803 => ?_)
    obtain rfl : v54803 = .ref x0 := hv54803.symm.trans pf0
    refine t_get (C := RX8) (T := TX8) (N := 8) X hT mx0 gx0 rfl rfl 4 (by decide) qw_227 inlX8 rfl dX3_whole_17 (fun v54804 hv54804 ov54804 => ?_)
    obtain ⟨z54805, rfl, rz54805⟩ := okV_i ov54804
    refine t_cVv (n := 2) (C := RX3) (T := TX3) (N := 13) (As := [.int 1, .int z54805]) (rest := []) X hT (kt144_X3_fail l G tag L F hT.2.2.2 p0 1 z54805 m0 g0) m0 g0 rfl rfl qw_287 qw_288 qw_289 qw_28 qw_290 ⟨rfl, by decide +kernel, by decide +kernel, by decide +kernel⟩ ⟨Nat.le_of_ble_eq_true rfl, Nat.le_of_ble_eq_true rfl⟩ hl rfl rfl (Nat.le_of_ble_eq_true rfl) dX3_whole_20 ⟨Nat.le_of_ble_eq_true rfl, Nat.le_of_ble_eq_true rfl⟩ (fun F H locs hT hz54806 => ?_)
    have yz54806 := hz54806
    have pf0 := (yz54806 _ 0 (Or.inr (by decide)) (Or.inr (by decide))).trans pf0
    have pf1 := (yz54806 _ 1 (Or.inr (by decide)) (Or.inr (by decide))).trans pf1
    have pf2 := (yz54806 _ 2 (Or.inr (by decide)) (Or.inr (by decide))).trans pf2
    have pf3 := (yz54806 _ 0 (Or.inr (by decide)) (Or.inr (by decide))).trans pf3
    have hv54787 := (yz54806 _ 3 (Or.inl (by rw [gx0]; decide)) (Or.inr (by decide))).trans hv54787
    have hv54804 := (yz54806 _ 4 (Or.inr (by decide)) (Or.inl (by rw [gx0]; decide))).trans hv54804
    have hfr : ∀ b j : Nat, (tag b ≠ 24 ∨ j ≠ 2) → (tag b ≠ 24 ∨ j ≠ 3) → (tag b ≠ 24 ∨ j ≠ 4) → (tag b ≠ 24 ∨ j ≠ 5) → (tag b ≠ 24 ∨ j ≠ 6) → (tag b ≠ 24 ∨ j ≠ 7) → (tag b ≠ 25 ∨ j ≠ 3) → (tag b ≠ 25 ∨ j ≠ 4) → fld F b j = fld Fo b j := fun b j n24_2 n24_3 n24_4 n24_5 n24_6 n24_7 n25_3 n25_4 => (yz54806 b j n25_3 n25_4).trans (hfr b j n24_2 n24_3 n24_4 n24_5 n24_6 n24_7 n25_3 n25_4)
    refine lv_goto (tgt := 60) hx hb dX3_whole_23 (by decide) ?_
    exact K60  _ _ _ _  hT hfr pf0 pf1 pf2 pf3 (lv_sub hl [0, 1, 2] rfl)
set_option maxHeartbeats 4000000 in
set_option maxRecDepth 100000 in
theorem kt148_X3_sign (l : Launch) (G : KG) (tag : Nat → Nat) (L : List Nat) (Fo : Nat → va_E) (ho : okT G ttC tag L Fo) (p0 : Nat) (p1 : Int32) (x0 : Nat) (x1 : Nat) (x2 : Nat) (x3 : Nat) (m0 : p0 ∈ L) (g0 : tag p0 = 25) (mx0 : x0 ∈ L) (gx0 : tag x0 = 24) (pf0 : fld Fo p0 0 = .ref x0) (mx1 : x1 ∈ L) (gx1 : tag x1 = 18) (pf1 : fld Fo p0 1 = .ref x1) (mx2 : x2 ∈ L) (gx2 : tag x2 = 19) (pf2 : fld Fo p0 2 = .ref x2) (mx3 : x3 ∈ L) (gx3 : tag x3 = 1) (pf3 : fld Fo x0 0 = .ref x3) : TMv l yX3_sign cX3_sign 2 { frames := 3, cells := 0, slots := 0, locals := 62 } G ttC tag L Fo [.ref p0, .int p1] (fun F1 => ∀ b j : Nat, (tag b ≠ 24 ∨ j ≠ 2) → (tag b ≠ 24 ∨ j ≠ 3) → (tag b ≠ 24 ∨ j ≠ 4) → (tag b ≠ 24 ∨ j ≠ 5) → (tag b ≠ 24 ∨ j ≠ 6) → (tag b ≠ 24 ∨ j ≠ 7) → (tag b ≠ 25 ∨ j ≠ 3) → (tag b ≠ 25 ∨ j ≠ 4) → fld F1 b j = fld Fo b j) := by
  refine t_bodyv (y := yX3_sign) (cd := cX3_sign) (mL := 2) (rm := { frames := 3, cells := 0, slots := 0, locals := 62 }) (av := [.ref p0, .int p1]) (by decide) (Nat.le_of_ble_eq_true rfl) ho ?_
  intro p e s m args below meth c ls A Q hQ X hT hl
  have hx := X.1.1
  have hb := X.1.2.1
  have hl : lv_has ls 2 [(0, .ref p0), (1, .int p1)] := hl
  have rp1 := rg_all p1
  obtain ⟨F, hFo⟩ : ∃ F : Nat → va_E, F = Fo := ⟨_, rfl⟩
  rw [← hFo] at hT
  have hfr : ∀ b j : Nat, (tag b ≠ 24 ∨ j ≠ 2) → (tag b ≠ 24 ∨ j ≠ 3) → (tag b ≠ 24 ∨ j ≠ 4) → (tag b ≠ 24 ∨ j ≠ 5) → (tag b ≠ 24 ∨ j ≠ 6) → (tag b ≠ 24 ∨ j ≠ 7) → (tag b ≠ 25 ∨ j ≠ 3) → (tag b ≠ 25 ∨ j ≠ 4) → fld F b j = fld Fo b j := by
    rw [hFo]
    intros
    rfl
  have K40 : ∀ (z55116 : Int32) (F : Nat → va_E) (H : Heap) (locs : List Loc) (ls : Array Slot), (0 ≤ z55116.toInt ∧ z55116.toInt ≤ 0) → TH G ttC A s tag L F H locs → (∀ b j : Nat, (tag b ≠ 24 ∨ j ≠ 2) → (tag b ≠ 24 ∨ j ≠ 3) → (tag b ≠ 24 ∨ j ≠ 4) → (tag b ≠ 24 ∨ j ≠ 5) → (tag b ≠ 24 ∨ j ≠ 6) → (tag b ≠ 24 ∨ j ≠ 7) → (tag b ≠ 25 ∨ j ≠ 3) → (tag b ≠ 25 ∨ j ≠ 4) → fld F b j = fld Fo b j) → fld F p0 0 = .ref x0 → fld F p0 1 = .ref x1 → fld F p0 2 = .ref x2 → fld F x0 0 = .ref x3 → fld F p0 3 = .int z55116 → lv_has ls 2 [(0, .ref p0), (1, .int p1)] → W p l e { frames := 3, cells := 0, slots := 0, locals := 62 } s m args below meth c H locs 0 0 Q (F0 m 40 ls []) := by
    intro z55116 F H locs ls rz55116 hT hfr pf0 pf1 pf2 pf3 qz55116 hl
    refine lv_aload_n hx hb dX3_sign_40 rfl (lv_at hl 0 rfl) ?_
    refine lv_iconst (v := 1) hx hb dX3_sign_41 (by decide) ?_
    refine lv_aload_n hx hb dX3_sign_42 rfl (lv_at hl 0 rfl) ?_
    refine t_get (C := RX3) (T := TX3) (N := 13) X hT m0 g0 rfl rfl 0 (by decide) qw_73 inlX3 rfl dX3_sign_43 (fun v55117 hv55117 ov55117 => ?_)
    obtain rfl : v55117 = .ref x0 := hv55117.symm.trans pf0
    refine t_get (C := RX8) (T := TX8) (N := 8) X hT mx0 gx0 rfl rfl 4 (by decide) qw_227 inlX8 rfl dX3_sign_46 (fun v55118 hv55118 ov55118 => ?_)
    obtain ⟨z55119, rfl, rz55119⟩ := okV_i ov55118
    refine t_cVv (n := 2) (C := RX3) (T := TX3) (N := 13) (As := [.int 1, .int z55119]) (rest := []) X hT (kt144_X3_fail l G tag L F hT.2.2.2 p0 1 z55119 m0 g0) m0 g0 rfl rfl qw_287 qw_288 qw_289 qw_28 qw_290 ⟨rfl, by decide +kernel, by decide +kernel, by decide +kernel⟩ ⟨Nat.le_of_ble_eq_true rfl, Nat.le_of_ble_eq_true rfl⟩ hl rfl rfl (Nat.le_of_ble_eq_true rfl) dX3_sign_49 ⟨Nat.le_of_ble_eq_true rfl, Nat.le_of_ble_eq_true rfl⟩ (fun F H locs hT hz55120 => ?_)
    have yz55120 := hz55120
    have pf0 := (yz55120 _ 0 (Or.inr (by decide)) (Or.inr (by decide))).trans pf0
    have pf1 := (yz55120 _ 1 (Or.inr (by decide)) (Or.inr (by decide))).trans pf1
    have pf2 := (yz55120 _ 2 (Or.inr (by decide)) (Or.inr (by decide))).trans pf2
    have pf3 := (yz55120 _ 0 (Or.inr (by decide)) (Or.inr (by decide))).trans pf3
    have hv55118 := (yz55120 _ 4 (Or.inr (by decide)) (Or.inl (by rw [gx0]; decide))).trans hv55118
    have hfr : ∀ b j : Nat, (tag b ≠ 24 ∨ j ≠ 2) → (tag b ≠ 24 ∨ j ≠ 3) → (tag b ≠ 24 ∨ j ≠ 4) → (tag b ≠ 24 ∨ j ≠ 5) → (tag b ≠ 24 ∨ j ≠ 6) → (tag b ≠ 24 ∨ j ≠ 7) → (tag b ≠ 25 ∨ j ≠ 3) → (tag b ≠ 25 ∨ j ≠ 4) → fld F b j = fld Fo b j := fun b j n24_2 n24_3 n24_4 n24_5 n24_6 n24_7 n25_3 n25_4 => (yz55120 b j n25_3 n25_4).trans (hfr b j n24_2 n24_3 n24_4 n24_5 n24_6 n24_7 n25_3 n25_4)
    exact t_vret hQ X hT hfr (Nat.le_of_ble_eq_true rfl) (Nat.le_of_ble_eq_true rfl) dX3_sign_52
  refine lv_aload_n hx hb dX3_sign_0 rfl (lv_at hl 0 rfl) ?_
  refine t_get (C := RX3) (T := TX3) (N := 13) X hT m0 g0 rfl rfl 3 (by decide) qw_163 inlX3 rfl dX3_sign_1 (fun v55121 hv55121 ov55121 => ?_)
  obtain ⟨z55122, rfl, rz55122⟩ := okV_i ov55121
  refine lv_if_eq (tgt := 8) hx hb dX3_sign_4 (by decide) (fun c55123 => ?_) (fun c55123 => ?_)
  · have w55124 := cv_eq (rfl : z55122.toInt = z55122.toInt) (by decide : (0 : Int32).toInt = 0) c55123
    refine lv_aload_n hx hb dX3_sign_8 rfl (lv_at hl 0 rfl) ?_
    refine t_get (C := RX3) (T := TX3) (N := 13) X hT m0 g0 rfl rfl 0 (by decide) qw_73 inlX3 rfl dX3_sign_9 (fun v55125 hv55125 ov55125 => ?_)
    obtain rfl : v55125 = .ref x0 := hv55125.symm.trans pf0
    refine t_get (C := RX8) (T := TX8) (N := 8) X hT mx0 gx0 rfl rfl 3 (by decide) qw_170 inlX8 rfl dX3_sign_12 (fun v55126 hv55126 ov55126 => ?_)
    obtain ⟨z55127, rfl, rz55127⟩ := okV_i ov55126
    refine lv_iconst (v := 3) hx hb dX3_sign_15 (by decide) ?_
    refine lv_icmp_ne (tgt := 40) hx hb dX3_sign_16 (by decide) (fun c55128 => ?_) (fun c55128 => ?_)
    · have w55129 := cv_ne (rfl : z55127.toInt = z55127.toInt) (by decide : (3 : Int32).toInt = 3) c55128
      exact K40 z55122 _ _ _ _ (by omega) hT hfr pf0 pf1 pf2 pf3 hv55121 (lv_sub hl [0, 1] rfl)
    · have w55130 := cv_eq (rfl : z55127.toInt = z55127.toInt) (by decide : (3 : Int32).toInt = 3) c55128
      refine lv_aload_n hx hb dX3_sign_19 rfl (lv_at hl 0 rfl) ?_
      refine t_get (C := RX3) (T := TX3) (N := 13) X hT m0 g0 rfl rfl 0 (by decide) qw_73 inlX3 rfl dX3_sign_20 (fun v55131 hv55131 ov55131 => ?_)
      obtain rfl : v55131 = .ref x0 := hv55131.symm.trans pf0
      refine t_get (C := RX8) (T := TX8) (N := 8) X hT mx0 gx0 rfl rfl 6 (by decide) qw_322 inlX8 rfl dX3_sign_23 (fun v55132 hv55132 ov55132 => ?_)
      obtain ⟨z55133, rfl, rz55133⟩ := okV_i ov55132
      refine lv_iload_n hx hb dX3_sign_26 rfl (lv_at hl 1 rfl) ?_
      refine lv_icmp_ne (tgt := 40) hx hb dX3_sign_27 (by decide) (fun c55134 => ?_) (fun c55134 => ?_)
      · have w55135 := cv_ne (rfl : z55133.toInt = z55133.toInt) (rfl : p1.toInt = p1.toInt) c55134
        exact K40 z55122 _ _ _ _ (by omega) hT hfr pf0 pf1 pf2 pf3 hv55121 (lv_sub hl [0, 1] rfl)
      · have w55136 := cv_eq (rfl : z55133.toInt = z55133.toInt) (rfl : p1.toInt = p1.toInt) c55134
        refine lv_aload_n hx hb dX3_sign_30 rfl (lv_at hl 0 rfl) ?_
        refine t_get (C := RX3) (T := TX3) (N := 13) X hT m0 g0 rfl rfl 0 (by decide) qw_73 inlX3 rfl dX3_sign_31 (fun v55137 hv55137 ov55137 => ?_)
        obtain rfl : v55137 = .ref x0 := hv55137.symm.trans pf0
        refine t_cVv (n := 0) (C := RX8) (T := TX8) (N := 8) (As := []) (rest := []) X hT (kt98_X8_advance l G tag L F hT.2.2.2 x0 x3 mx0 gx0 mx3 gx3 pf3) mx0 gx0 rfl rfl qw_305 qw_197 qw_198 qw_72 qw_199 ⟨rfl, by decide +kernel, by decide +kernel, by decide +kernel⟩ ⟨Nat.le_of_ble_eq_true rfl, Nat.le_of_ble_eq_true rfl⟩ hl rfl rfl (Nat.le_of_ble_eq_true rfl) dX3_sign_34 ⟨Nat.le_of_ble_eq_true rfl, Nat.le_of_ble_eq_true rfl⟩ (fun F H locs hT hz55138 => ?_)
        have yz55138 := hz55138
        have pf0 := (yz55138 _ 0 (Or.inr (by decide)) (Or.inr (by decide)) (Or.inr (by decide)) (Or.inr (by decide)) (Or.inr (by decide)) (Or.inr (by decide))).trans pf0
        have pf1 := (yz55138 _ 1 (Or.inr (by decide)) (Or.inr (by decide)) (Or.inr (by decide)) (Or.inr (by decide)) (Or.inr (by decide)) (Or.inr (by decide))).trans pf1
        have pf2 := (yz55138 _ 2 (Or.inl (by rw [g0]; decide)) (Or.inr (by decide)) (Or.inr (by decide)) (Or.inr (by decide)) (Or.inr (by decide)) (Or.inr (by decide))).trans pf2
        have pf3 := (yz55138 _ 0 (Or.inr (by decide)) (Or.inr (by decide)) (Or.inr (by decide)) (Or.inr (by decide)) (Or.inr (by decide)) (Or.inr (by decide))).trans pf3
        have hv55121 := (yz55138 _ 3 (Or.inr (by decide)) (Or.inl (by rw [g0]; decide)) (Or.inr (by decide)) (Or.inr (by decide)) (Or.inr (by decide)) (Or.inr (by decide))).trans hv55121
        have hfr : ∀ b j : Nat, (tag b ≠ 24 ∨ j ≠ 2) → (tag b ≠ 24 ∨ j ≠ 3) → (tag b ≠ 24 ∨ j ≠ 4) → (tag b ≠ 24 ∨ j ≠ 5) → (tag b ≠ 24 ∨ j ≠ 6) → (tag b ≠ 24 ∨ j ≠ 7) → (tag b ≠ 25 ∨ j ≠ 3) → (tag b ≠ 25 ∨ j ≠ 4) → fld F b j = fld Fo b j := fun b j n24_2 n24_3 n24_4 n24_5 n24_6 n24_7 n25_3 n25_4 => (yz55138 b j n24_2 n24_3 n24_4 n24_5 n24_6 n24_7).trans (hfr b j n24_2 n24_3 n24_4 n24_5 n24_6 n24_7 n25_3 n25_4)
        refine lv_goto (tgt := 52) hx hb dX3_sign_37 (by decide) ?_
        exact t_vret hQ X hT hfr (Nat.le_of_ble_eq_true rfl) (Nat.le_of_ble_eq_true rfl) dX3_sign_52
  · have w55139 := cv_ne (rfl : z55122.toInt = z55122.toInt) (by decide : (0 : Int32).toInt = 0) c55123
    exact t_vret hQ X hT hfr (Nat.le_of_ble_eq_true rfl) (Nat.le_of_ble_eq_true rfl) dX3_sign_7
set_option maxHeartbeats 4000000 in
set_option maxRecDepth 100000 in
theorem kt149_X3_readWater (l : Launch) (G : KG) (tag : Nat → Nat) (L : List Nat) (Fo : Nat → va_E) (ho : okT G ttC tag L Fo) (p0 : Nat) (x0 : Nat) (x1 : Nat) (x2 : Nat) (x3 : Nat) (m0 : p0 ∈ L) (g0 : tag p0 = 25) (mx0 : x0 ∈ L) (gx0 : tag x0 = 24) (pf0 : fld Fo p0 0 = .ref x0) (mx1 : x1 ∈ L) (gx1 : tag x1 = 18) (pf1 : fld Fo p0 1 = .ref x1) (mx2 : x2 ∈ L) (gx2 : tag x2 = 19) (pf2 : fld Fo p0 2 = .ref x2) (mx3 : x3 ∈ L) (gx3 : tag x3 = 1) (pf3 : fld Fo x0 0 = .ref x3) : TMv l yX3_readWater cX3_readWater 3 { frames := 4, cells := 0, slots := 0, locals := 85 } G ttC tag L Fo [.ref p0] (fun F1 => ∀ b j : Nat, (tag b ≠ 24 ∨ j ≠ 2) → (tag b ≠ 24 ∨ j ≠ 3) → (tag b ≠ 24 ∨ j ≠ 4) → (tag b ≠ 24 ∨ j ≠ 5) → (tag b ≠ 24 ∨ j ≠ 6) → (tag b ≠ 24 ∨ j ≠ 7) → (tag b ≠ 25 ∨ j ≠ 3) → (tag b ≠ 25 ∨ j ≠ 4) → (tag b ≠ 25 ∨ j ≠ 7) → fld F1 b j = fld Fo b j) := by
  refine t_bodyv (y := yX3_readWater) (cd := cX3_readWater) (mL := 3) (rm := { frames := 4, cells := 0, slots := 0, locals := 85 }) (av := [.ref p0]) (by decide) (Nat.le_of_ble_eq_true rfl) ho ?_
  intro p e s m args below meth c ls A Q hQ X hT hl
  have hx := X.1.1
  have hb := X.1.2.1
  have hl : lv_has ls 3 [(0, .ref p0)] := hl
  obtain ⟨F, hFo⟩ : ∃ F : Nat → va_E, F = Fo := ⟨_, rfl⟩
  rw [← hFo] at hT
  have hfr : ∀ b j : Nat, (tag b ≠ 24 ∨ j ≠ 2) → (tag b ≠ 24 ∨ j ≠ 3) → (tag b ≠ 24 ∨ j ≠ 4) → (tag b ≠ 24 ∨ j ≠ 5) → (tag b ≠ 24 ∨ j ≠ 6) → (tag b ≠ 24 ∨ j ≠ 7) → (tag b ≠ 25 ∨ j ≠ 3) → (tag b ≠ 25 ∨ j ≠ 4) → (tag b ≠ 25 ∨ j ≠ 7) → fld F b j = fld Fo b j := by
    rw [hFo]
    intros
    rfl
  have K60 : ∀ (z55476 : Int32) (z55477 : Int32) (F : Nat → va_E) (H : Heap) (locs : List Loc) (ls : Array Slot), TH G ttC A s tag L F H locs → (∀ b j : Nat, (tag b ≠ 24 ∨ j ≠ 2) → (tag b ≠ 24 ∨ j ≠ 3) → (tag b ≠ 24 ∨ j ≠ 4) → (tag b ≠ 24 ∨ j ≠ 5) → (tag b ≠ 24 ∨ j ≠ 6) → (tag b ≠ 24 ∨ j ≠ 7) → (tag b ≠ 25 ∨ j ≠ 3) → (tag b ≠ 25 ∨ j ≠ 4) → (tag b ≠ 25 ∨ j ≠ 7) → fld F b j = fld Fo b j) → fld F p0 0 = .ref x0 → fld F p0 1 = .ref x1 → fld F p0 2 = .ref x2 → fld F x0 0 = .ref x3 → lv_has ls 3 [(0, .ref p0), (1, .int z55476), (2, .int z55477)] → W p l e { frames := 4, cells := 0, slots := 0, locals := 85 } s m args below meth c H locs 0 0 Q (F0 m 60 ls []) := by
    intro z55476 z55477 F H locs ls hT hfr pf0 pf1 pf2 pf3 hl
    have rz55476 := rg_all z55476
    have rz55477 := rg_all z55477
    refine lv_aload_n hx hb dX3_readWater_60 rfl (lv_at hl 0 rfl) ?_
    refine t_get (C := RX3) (T := TX3) (N := 13) X hT m0 g0 rfl rfl 1 (by decide) qw_161 inlX3 rfl dX3_readWater_61 (fun v55478 hv55478 ov55478 => ?_)
    obtain rfl : v55478 = .ref x1 := hv55478.symm.trans pf1
    refine lv_iload_n hx hb dX3_readWater_64 rfl (lv_at hl 1 rfl) ?_
    refine lv_iload_n hx hb dX3_readWater_65 rfl (lv_at hl 2 rfl) ?_
    refine t_cVv (n := 2) (C := RX1) (T := TX1) (N := 20) (As := [.int z55476, .int z55477]) (rest := []) X hT (kt8_X1_addWater l G tag L F hT.2.2.2 x1 z55476 z55477 mx1 gx1) mx1 gx1 rfl rfl qw_348 qw_349 qw_350 qw_17 qw_351 ⟨rfl, by decide +kernel, by decide +kernel, by decide +kernel⟩ ⟨Nat.le_of_ble_eq_true rfl, Nat.le_of_ble_eq_true rfl⟩ hl rfl rfl (Nat.le_of_ble_eq_true rfl) dX3_readWater_66 ⟨Nat.le_of_ble_eq_true rfl, Nat.le_of_ble_eq_true rfl⟩ (fun F H locs hT hz55479 => ?_)
    have yz55479 := hz55479
    have pf0 := (yz55479 _ 0 ).trans pf0
    have pf1 := (yz55479 _ 1 ).trans pf1
    have pf2 := (yz55479 _ 2 ).trans pf2
    have pf3 := (yz55479 _ 0 ).trans pf3
    have hfr : ∀ b j : Nat, (tag b ≠ 24 ∨ j ≠ 2) → (tag b ≠ 24 ∨ j ≠ 3) → (tag b ≠ 24 ∨ j ≠ 4) → (tag b ≠ 24 ∨ j ≠ 5) → (tag b ≠ 24 ∨ j ≠ 6) → (tag b ≠ 24 ∨ j ≠ 7) → (tag b ≠ 25 ∨ j ≠ 3) → (tag b ≠ 25 ∨ j ≠ 4) → (tag b ≠ 25 ∨ j ≠ 7) → fld F b j = fld Fo b j := fun b j n24_2 n24_3 n24_4 n24_5 n24_6 n24_7 n25_3 n25_4 n25_7 => (yz55479 b j ).trans (hfr b j n24_2 n24_3 n24_4 n24_5 n24_6 n24_7 n25_3 n25_4 n25_7)
    refine lv_aload_n hx hb dX3_readWater_69 rfl (lv_at hl 0 rfl) ?_
    refine lv_dup hx hb dX3_readWater_70 rfl ?_
    refine t_get (C := RX3) (T := TX3) (N := 13) X hT m0 g0 rfl rfl 7 (by decide) qw_167 inlX3 rfl dX3_readWater_71 (fun v55480 hv55480 ov55480 => ?_)
    obtain ⟨z55481, rfl, rz55481⟩ := okV_i ov55480
    refine lv_iconst (v := 1) hx hb dX3_readWater_74 (by decide) ?_
    refine lv_iadd hx hb dX3_readWater_75 ?_
    refine lv_topi (fun z55482 ez55482 => ?_)
    have rz55482 := rg_all z55482
    refine t_put (C := RX3) (T := TX3) (N := 13) (v := .int z55482) X hT m0 g0 rfl tyX3 tyX3_ok nmX3 rfl 7 (by decide) qw_167 inlX3 rfl (by first | rfl | decide) (by first | rfl | decide) rfl (⟨_, rfl, (by omega), (by omega)⟩) dX3_readWater_76 (fun F H locs hT v55483 h1v55483 h2v55483 => ?_)
    have pf0 := (h1v55483 _ _ (Or.inr (by decide))).trans pf0
    have pf1 := (h1v55483 _ _ (Or.inr (by decide))).trans pf1
    have pf2 := (h1v55483 _ _ (Or.inr (by decide))).trans pf2
    have pf3 := (h1v55483 _ _ (Or.inr (by decide))).trans pf3
    have hfr : ∀ b j : Nat, (tag b ≠ 24 ∨ j ≠ 2) → (tag b ≠ 24 ∨ j ≠ 3) → (tag b ≠ 24 ∨ j ≠ 4) → (tag b ≠ 24 ∨ j ≠ 5) → (tag b ≠ 24 ∨ j ≠ 6) → (tag b ≠ 24 ∨ j ≠ 7) → (tag b ≠ 25 ∨ j ≠ 3) → (tag b ≠ 25 ∨ j ≠ 4) → (tag b ≠ 25 ∨ j ≠ 7) → fld F b j = fld Fo b j := fun b j n24_2 n24_3 n24_4 n24_5 n24_6 n24_7 n25_3 n25_4 n25_7 => (h1v55483 b j (fr_ne g0 n25_7)).trans (hfr b j n24_2 n24_3 n24_4 n24_5 n24_6 n24_7 n25_3 n25_4 n25_7)
    exact t_vret hQ X hT hfr (Nat.le_of_ble_eq_true rfl) (Nat.le_of_ble_eq_true rfl) dX3_readWater_79
  refine lv_aload_n hx hb dX3_readWater_0 rfl (lv_at hl 0 rfl) ?_
  refine lv_iconst (v := 0) hx hb dX3_readWater_1 (by decide) ?_
  refine lv_aload_n hx hb dX3_readWater_2 rfl (lv_at hl 0 rfl) ?_
  refine t_get (C := RX3) (T := TX3) (N := 13) X hT m0 g0 rfl rfl 1 (by decide) qw_161 inlX3 rfl dX3_readWater_3 (fun v55484 hv55484 ov55484 => ?_)
  obtain rfl : v55484 = .ref x1 := hv55484.symm.trans pf1
  refine t_get (C := RX1) (T := TX1) (N := 20) X hT mx1 gx1 rfl rfl 0 (by decide) qw_310 inlX1 rfl dX3_readWater_6 (fun v55485 hv55485 ov55485 => ?_)
  obtain ⟨z55486, rfl, rz55486⟩ := okV_i ov55485
  refine lv_iconst (v := 1) hx hb dX3_readWater_9 (by decide) ?_
  refine lv_isub hx hb dX3_readWater_10 ?_
  refine lv_topi (fun z55487 ez55487 => ?_)
  have hz55487 : z55487.toInt = z55486.toInt - 1 := ar_sub ez55487 (rfl : z55486.toInt = z55486.toInt) (by decide : (1 : Int32).toInt = 1) (by omega) (by omega)
  have rz55487 : (-1) ≤ z55487.toInt ∧ z55487.toInt ≤ 11 := by omega
  refine t_cVi (n := 2) (C := RX3) (T := TX3) (N := 13) (As := [.int 0, .int z55487]) (rest := []) X hT (kt147_X3_whole l G tag L F hT.2.2.2 p0 0 z55487 x0 x1 x2 x3 m0 g0 mx0 gx0 pf0 mx1 gx1 pf1 mx2 gx2 pf2 mx3 gx3 pf3) m0 g0 rfl rfl qw_318 qw_319 qw_320 qw_28 qw_321 ⟨rfl, by decide +kernel, by decide +kernel, by decide +kernel⟩ ⟨Nat.le_of_ble_eq_true rfl, Nat.le_of_ble_eq_true rfl⟩ hl rfl rfl (Nat.le_of_ble_eq_true rfl) dX3_readWater_11 ⟨Nat.le_of_ble_eq_true rfl, Nat.le_of_ble_eq_true rfl⟩ (fun z55488 F H locs hT hz55488 => ?_)
  obtain ⟨hz55488, yz55488⟩ := hz55488
  have pf0 := (yz55488 _ 0 (Or.inr (by decide)) (Or.inr (by decide)) (Or.inr (by decide)) (Or.inr (by decide)) (Or.inr (by decide)) (Or.inr (by decide)) (Or.inr (by decide)) (Or.inr (by decide))).trans pf0
  have pf1 := (yz55488 _ 1 (Or.inr (by decide)) (Or.inr (by decide)) (Or.inr (by decide)) (Or.inr (by decide)) (Or.inr (by decide)) (Or.inr (by decide)) (Or.inr (by decide)) (Or.inr (by decide))).trans pf1
  have pf2 := (yz55488 _ 2 (Or.inl (by rw [g0]; decide)) (Or.inr (by decide)) (Or.inr (by decide)) (Or.inr (by decide)) (Or.inr (by decide)) (Or.inr (by decide)) (Or.inr (by decide)) (Or.inr (by decide))).trans pf2
  have pf3 := (yz55488 _ 0 (Or.inr (by decide)) (Or.inr (by decide)) (Or.inr (by decide)) (Or.inr (by decide)) (Or.inr (by decide)) (Or.inr (by decide)) (Or.inr (by decide)) (Or.inr (by decide))).trans pf3
  have hv55485 := (yz55488 _ 0 (Or.inr (by decide)) (Or.inr (by decide)) (Or.inr (by decide)) (Or.inr (by decide)) (Or.inr (by decide)) (Or.inr (by decide)) (Or.inr (by decide)) (Or.inr (by decide))).trans hv55485
  have hfr : ∀ b j : Nat, (tag b ≠ 24 ∨ j ≠ 2) → (tag b ≠ 24 ∨ j ≠ 3) → (tag b ≠ 24 ∨ j ≠ 4) → (tag b ≠ 24 ∨ j ≠ 5) → (tag b ≠ 24 ∨ j ≠ 6) → (tag b ≠ 24 ∨ j ≠ 7) → (tag b ≠ 25 ∨ j ≠ 3) → (tag b ≠ 25 ∨ j ≠ 4) → (tag b ≠ 25 ∨ j ≠ 7) → fld F b j = fld Fo b j := fun b j n24_2 n24_3 n24_4 n24_5 n24_6 n24_7 n25_3 n25_4 n25_7 => (yz55488 b j n24_2 n24_3 n24_4 n24_5 n24_6 n24_7 n25_3 n25_4).trans (hfr b j n24_2 n24_3 n24_4 n24_5 n24_6 n24_7 n25_3 n25_4 n25_7)
  refine lv_istore_n (lv' := [(1, .int z55488), (0, .ref p0)]) hx hb dX3_readWater_14 rfl hl (by decide) rfl (fun ls hl => ?_)
  refine lv_aload_n hx hb dX3_readWater_15 rfl (lv_at hl 1 rfl) ?_
  refine lv_bipush (v := 44) hx hb dX3_readWater_16 (by decide) ?_
  refine t_cVv (n := 1) (C := RX3) (T := TX3) (N := 13) (As := [.int 44]) (rest := []) X hT (kt148_X3_sign l G tag L F hT.2.2.2 p0 44 x0 x1 x2 x3 m0 g0 mx0 gx0 pf0 mx1 gx1 pf1 mx2 gx2 pf2 mx3 gx3 pf3) m0 g0 rfl rfl qw_340 qw_341 qw_342 qw_28 qw_343 ⟨rfl, by decide +kernel, by decide +kernel, by decide +kernel⟩ ⟨Nat.le_of_ble_eq_true rfl, Nat.le_of_ble_eq_true rfl⟩ hl rfl rfl (Nat.le_of_ble_eq_true rfl) dX3_readWater_18 ⟨Nat.le_of_ble_eq_true rfl, Nat.le_of_ble_eq_true rfl⟩ (fun F H locs hT hz55489 => ?_)
  have yz55489 := hz55489
  have pf0 := (yz55489 _ 0 (Or.inr (by decide)) (Or.inr (by decide)) (Or.inr (by decide)) (Or.inr (by decide)) (Or.inr (by decide)) (Or.inr (by decide)) (Or.inr (by decide)) (Or.inr (by decide))).trans pf0
  have pf1 := (yz55489 _ 1 (Or.inr (by decide)) (Or.inr (by decide)) (Or.inr (by decide)) (Or.inr (by decide)) (Or.inr (by decide)) (Or.inr (by decide)) (Or.inr (by decide)) (Or.inr (by decide))).trans pf1
  have pf2 := (yz55489 _ 2 (Or.inl (by rw [g0]; decide)) (Or.inr (by decide)) (Or.inr (by decide)) (Or.inr (by decide)) (Or.inr (by decide)) (Or.inr (by decide)) (Or.inr (by decide)) (Or.inr (by decide))).trans pf2
  have pf3 := (yz55489 _ 0 (Or.inr (by decide)) (Or.inr (by decide)) (Or.inr (by decide)) (Or.inr (by decide)) (Or.inr (by decide)) (Or.inr (by decide)) (Or.inr (by decide)) (Or.inr (by decide))).trans pf3
  have hv55485 := (yz55489 _ 0 (Or.inr (by decide)) (Or.inr (by decide)) (Or.inr (by decide)) (Or.inr (by decide)) (Or.inr (by decide)) (Or.inr (by decide)) (Or.inr (by decide)) (Or.inr (by decide))).trans hv55485
  have hfr : ∀ b j : Nat, (tag b ≠ 24 ∨ j ≠ 2) → (tag b ≠ 24 ∨ j ≠ 3) → (tag b ≠ 24 ∨ j ≠ 4) → (tag b ≠ 24 ∨ j ≠ 5) → (tag b ≠ 24 ∨ j ≠ 6) → (tag b ≠ 24 ∨ j ≠ 7) → (tag b ≠ 25 ∨ j ≠ 3) → (tag b ≠ 25 ∨ j ≠ 4) → (tag b ≠ 25 ∨ j ≠ 7) → fld F b j = fld Fo b j := fun b j n24_2 n24_3 n24_4 n24_5 n24_6 n24_7 n25_3 n25_4 n25_7 => (yz55489 b j n24_2 n24_3 n24_4 n24_5 n24_6 n24_7 n25_3 n25_4).trans (hfr b j n24_2 n24_3 n24_4 n24_5 n24_6 n24_7 n25_3 n25_4 n25_7)
  refine lv_aload_n hx hb dX3_readWater_21 rfl (lv_at hl 1 rfl) ?_
  refine lv_iconst (v := 0) hx hb dX3_readWater_22 (by decide) ?_
  refine lv_aload_n hx hb dX3_readWater_23 rfl (lv_at hl 1 rfl) ?_
  refine t_get (C := RX3) (T := TX3) (N := 13) X hT m0 g0 rfl rfl 1 (by decide) qw_161 inlX3 rfl dX3_readWater_24 (fun v55490 hv55490 ov55490 => ?_)
  obtain rfl : v55490 = .ref x1 := hv55490.symm.trans pf1
  refine t_get (C := RX1) (T := TX1) (N := 20) X hT mx1 gx1 rfl rfl 1 (by decide) qw_311 inlX1 rfl dX3_readWater_27 (fun v55491 hv55491 ov55491 => ?_)
  obtain ⟨z55492, rfl, rz55492⟩ := okV_i ov55491
  refine lv_iconst (v := 1) hx hb dX3_readWater_30 (by decide) ?_
  refine lv_isub hx hb dX3_readWater_31 ?_
  refine lv_topi (fun z55493 ez55493 => ?_)
  have hz55493 : z55493.toInt = z55492.toInt - 1 := ar_sub ez55493 (rfl : z55492.toInt = z55492.toInt) (by decide : (1 : Int32).toInt = 1) (by omega) (by omega)
  have rz55493 : (-1) ≤ z55493.toInt ∧ z55493.toInt ≤ 11 := by omega
  refine t_cVi (n := 2) (C := RX3) (T := TX3) (N := 13) (As := [.int 0, .int z55493]) (rest := []) X hT (kt147_X3_whole l G tag L F hT.2.2.2 p0 0 z55493 x0 x1 x2 x3 m0 g0 mx0 gx0 pf0 mx1 gx1 pf1 mx2 gx2 pf2 mx3 gx3 pf3) m0 g0 rfl rfl qw_318 qw_319 qw_320 qw_28 qw_321 ⟨rfl, by decide +kernel, by decide +kernel, by decide +kernel⟩ ⟨Nat.le_of_ble_eq_true rfl, Nat.le_of_ble_eq_true rfl⟩ hl rfl rfl (Nat.le_of_ble_eq_true rfl) dX3_readWater_32 ⟨Nat.le_of_ble_eq_true rfl, Nat.le_of_ble_eq_true rfl⟩ (fun z55494 F H locs hT hz55494 => ?_)
  obtain ⟨hz55494, yz55494⟩ := hz55494
  have pf0 := (yz55494 _ 0 (Or.inr (by decide)) (Or.inr (by decide)) (Or.inr (by decide)) (Or.inr (by decide)) (Or.inr (by decide)) (Or.inr (by decide)) (Or.inr (by decide)) (Or.inr (by decide))).trans pf0
  have pf1 := (yz55494 _ 1 (Or.inr (by decide)) (Or.inr (by decide)) (Or.inr (by decide)) (Or.inr (by decide)) (Or.inr (by decide)) (Or.inr (by decide)) (Or.inr (by decide)) (Or.inr (by decide))).trans pf1
  have pf2 := (yz55494 _ 2 (Or.inl (by rw [g0]; decide)) (Or.inr (by decide)) (Or.inr (by decide)) (Or.inr (by decide)) (Or.inr (by decide)) (Or.inr (by decide)) (Or.inr (by decide)) (Or.inr (by decide))).trans pf2
  have pf3 := (yz55494 _ 0 (Or.inr (by decide)) (Or.inr (by decide)) (Or.inr (by decide)) (Or.inr (by decide)) (Or.inr (by decide)) (Or.inr (by decide)) (Or.inr (by decide)) (Or.inr (by decide))).trans pf3
  have hv55485 := (yz55494 _ 0 (Or.inr (by decide)) (Or.inr (by decide)) (Or.inr (by decide)) (Or.inr (by decide)) (Or.inr (by decide)) (Or.inr (by decide)) (Or.inr (by decide)) (Or.inr (by decide))).trans hv55485
  have hv55491 := (yz55494 _ 1 (Or.inr (by decide)) (Or.inr (by decide)) (Or.inr (by decide)) (Or.inr (by decide)) (Or.inr (by decide)) (Or.inr (by decide)) (Or.inr (by decide)) (Or.inr (by decide))).trans hv55491
  have hfr : ∀ b j : Nat, (tag b ≠ 24 ∨ j ≠ 2) → (tag b ≠ 24 ∨ j ≠ 3) → (tag b ≠ 24 ∨ j ≠ 4) → (tag b ≠ 24 ∨ j ≠ 5) → (tag b ≠ 24 ∨ j ≠ 6) → (tag b ≠ 24 ∨ j ≠ 7) → (tag b ≠ 25 ∨ j ≠ 3) → (tag b ≠ 25 ∨ j ≠ 4) → (tag b ≠ 25 ∨ j ≠ 7) → fld F b j = fld Fo b j := fun b j n24_2 n24_3 n24_4 n24_5 n24_6 n24_7 n25_3 n25_4 n25_7 => (yz55494 b j n24_2 n24_3 n24_4 n24_5 n24_6 n24_7 n25_3 n25_4).trans (hfr b j n24_2 n24_3 n24_4 n24_5 n24_6 n24_7 n25_3 n25_4 n25_7)
  refine lv_istore_n (lv' := [(2, .int z55494), (1, .int z55488), (0, .ref p0)]) hx hb dX3_readWater_35 rfl hl (by decide) rfl (fun ls hl => ?_)
  refine lv_aload_n hx hb dX3_readWater_36 rfl (lv_at hl 2 rfl) ?_
  refine t_get (C := RX3) (T := TX3) (N := 13) X hT m0 g0 rfl rfl 1 (by decide) qw_161 inlX3 rfl dX3_readWater_37 (fun v55495 hv55495 ov55495 => ?_)
  obtain rfl : v55495 = .ref x1 := hv55495.symm.trans pf1
  refine lv_iload_n hx hb dX3_readWater_40 rfl (lv_at hl 1 rfl) ?_
  refine lv_iload_n hx hb dX3_readWater_41 rfl (lv_at hl 0 rfl) ?_
  refine t_cVi (n := 2) (C := RX1) (T := TX1) (N := 20) (As := [.int z55488, .int z55494]) (rest := []) X hT (kt7_X1_isWet l G tag L F hT.2.2.2 x1 z55488 z55494 mx1 gx1) mx1 gx1 rfl rfl qw_344 qw_345 qw_346 qw_17 qw_347 ⟨rfl, by decide +kernel, by decide +kernel, by decide +kernel⟩ ⟨Nat.le_of_ble_eq_true rfl, Nat.le_of_ble_eq_true rfl⟩ hl rfl rfl (Nat.le_of_ble_eq_true rfl) dX3_readWater_42 ⟨Nat.le_of_ble_eq_true rfl, Nat.le_of_ble_eq_true rfl⟩ (fun z55496 F9 H locs hT hz55496 => ?_)
  obtain ⟨fz55496, hz55496⟩ := hz55496
  rw [fz55496] at hT
  refine lv_if_eq (tgt := 60) hx hb dX3_readWater_45 (by decide) (fun c55497 => ?_) (fun c55497 => ?_)
  · have w55498 := cv_eq (rfl : z55496.toInt = z55496.toInt) (by decide : (0 : Int32).toInt = 0) c55497
    exact K60 z55488 z55494 _ _ _ _  hT hfr pf0 pf1 pf2 pf3 (lv_sub hl [2, 1, 0] rfl)
  · have w55499 := cv_ne (rfl : z55496.toInt = z55496.toInt) (by decide : (0 : Int32).toInt = 0) c55497
    refine lv_aload_n hx hb dX3_readWater_48 rfl (lv_at hl 2 rfl) ?_
    refine lv_iconst (v := 3) hx hb dX3_readWater_49 (by decide) ?_
    refine lv_aload_n hx hb dX3_readWater_50 rfl (lv_at hl 2 rfl) ?_
    refine t_get (C := RX3) (T := TX3) (N := 13) X hT m0 g0 rfl rfl 0 (by decide) qw_73 inlX3 rfl dX3_readWater_51 (fun v55500 hv55500 ov55500 => ?_)
    obtain rfl : v55500 = .ref x0 := hv55500.symm.trans pf0
    refine t_get (C := RX8) (T := TX8) (N := 8) X hT mx0 gx0 rfl rfl 5 (by decide) qw_339 inlX8 rfl dX3_readWater_54 (fun v55501 hv55501 ov55501 => ?_)
    obtain ⟨z55502, rfl, rz55502⟩ := okV_i ov55501
    refine t_cVv (n := 2) (C := RX3) (T := TX3) (N := 13) (As := [.int 3, .int z55502]) (rest := []) X hT (kt144_X3_fail l G tag L F hT.2.2.2 p0 3 z55502 m0 g0) m0 g0 rfl rfl qw_287 qw_288 qw_289 qw_28 qw_290 ⟨rfl, by decide +kernel, by decide +kernel, by decide +kernel⟩ ⟨Nat.le_of_ble_eq_true rfl, Nat.le_of_ble_eq_true rfl⟩ hl rfl rfl (Nat.le_of_ble_eq_true rfl) dX3_readWater_57 ⟨Nat.le_of_ble_eq_true rfl, Nat.le_of_ble_eq_true rfl⟩ (fun F H locs hT hz55503 => ?_)
    have yz55503 := hz55503
    have pf0 := (yz55503 _ 0 (Or.inr (by decide)) (Or.inr (by decide))).trans pf0
    have pf1 := (yz55503 _ 1 (Or.inr (by decide)) (Or.inr (by decide))).trans pf1
    have pf2 := (yz55503 _ 2 (Or.inr (by decide)) (Or.inr (by decide))).trans pf2
    have pf3 := (yz55503 _ 0 (Or.inr (by decide)) (Or.inr (by decide))).trans pf3
    have hv55485 := (yz55503 _ 0 (Or.inr (by decide)) (Or.inr (by decide))).trans hv55485
    have hv55491 := (yz55503 _ 1 (Or.inr (by decide)) (Or.inr (by decide))).trans hv55491
    have hv55501 := (yz55503 _ 5 (Or.inr (by decide)) (Or.inr (by decide))).trans hv55501
    have hfr : ∀ b j : Nat, (tag b ≠ 24 ∨ j ≠ 2) → (tag b ≠ 24 ∨ j ≠ 3) → (tag b ≠ 24 ∨ j ≠ 4) → (tag b ≠ 24 ∨ j ≠ 5) → (tag b ≠ 24 ∨ j ≠ 6) → (tag b ≠ 24 ∨ j ≠ 7) → (tag b ≠ 25 ∨ j ≠ 3) → (tag b ≠ 25 ∨ j ≠ 4) → (tag b ≠ 25 ∨ j ≠ 7) → fld F b j = fld Fo b j := fun b j n24_2 n24_3 n24_4 n24_5 n24_6 n24_7 n25_3 n25_4 n25_7 => (yz55503 b j n25_3 n25_4).trans (hfr b j n24_2 n24_3 n24_4 n24_5 n24_6 n24_7 n25_3 n25_4 n25_7)
    exact K60 z55488 z55494 _ _ _ _  hT hfr pf0 pf1 pf2 pf3 (lv_sub hl [2, 1, 0] rfl)
