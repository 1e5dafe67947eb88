set_option maxHeartbeats 4000000 in
set_option maxRecDepth 100000 in
theorem kt23_X7_skinsOfAll (l : Launch) (G : KG) (tag : Nat → Nat) (L : List Nat) (F : Nat → va_E) (ho : okT G ttC tag L F) (p0 : Nat) (m0 : p0 ∈ L) (g0 : tag p0 = 19) : TMi l yX7_skinsOfAll cX7_skinsOfAll 3 (some .int) { frames := 0, cells := 0, slots := 0, locals := 0 } G ttC tag L F [.ref p0] (fun r F1 => F1 = F ∧ ((-2147483648) ≤ r.toInt ∧ r.toInt ≤ 2147483647)) := by
  refine t_bodyi (y := yX7_skinsOfAll) (cd := cX7_skinsOfAll) (mL := 3) (rt := (some .int)) (rm := { frames := 0, cells := 0, slots := 0, locals := 0 }) (av := [.ref p0]) (by decide) (Nat.le_of_ble_eq_true rfl) ho ?_
  intro p e s m args below meth c ls A Q hQ X hT hl
  have hx := X.1.1
  have hb := X.1.2.1
  have hl : lv_has ls 3 [(0, .ref p0)] := hl
  have K4 : ∀ (n : Nat) (z5340 : Int32) (z5341 : Int32) (H : Heap) (locs : List Loc) (ls : Array Slot), (4 - z5341.toInt < (n : Int)) → (0 ≤ z5341.toInt ∧ z5341.toInt ≤ 4) → TH G ttC A s tag L F H locs → lv_has ls 3 [(0, .ref p0), (1, .int z5340), (2, .int z5341)] → W p l e { frames := 0, cells := 0, slots := 0, locals := 0 } s m args below meth c H locs 0 0 Q (F0 m 4 ls []) := by
    intro n
    induction n with
    | zero =>
      intro z5340 z5341 H locs ls hn rz5341 hT hl
      have rz5340 := rg_all z5340
      exfalso
      omega
    | succ n ih4 =>
      intro z5340 z5341 H locs ls hn rz5341 hT hl
      have rz5340 := rg_all z5340
      refine lv_iload_n hx hb dX7_skinsOfAll_4 rfl (lv_at hl 2 rfl) ?_
      refine lv_iconst (v := 4) hx hb dX7_skinsOfAll_5 (by decide) ?_
      refine lv_icmp_ge (tgt := 24) hx hb dX7_skinsOfAll_6 (by decide) (fun c5342 => ?_) (fun c5342 => ?_)
      · have w5343 := cv_le (by decide : (4 : Int32).toInt = 4) (rfl : z5341.toInt = z5341.toInt) c5342
        refine lv_iload_n hx hb dX7_skinsOfAll_24 rfl (lv_at hl 1 rfl) ?_
        exact t_iret hQ X hT (⟨rfl, rg_all _⟩) (Nat.le_of_ble_eq_true rfl) (Nat.le_of_ble_eq_true rfl) dX7_skinsOfAll_25
      · have w5344 := cv_nle (by decide : (4 : Int32).toInt = 4) (rfl : z5341.toInt = z5341.toInt) c5342
        refine lv_iload_n hx hb dX7_skinsOfAll_9 rfl (lv_at hl 1 rfl) ?_
        refine lv_aload_n hx hb dX7_skinsOfAll_10 rfl (lv_at hl 0 rfl) ?_
        refine t_get (C := RX7) (T := TX7) (N := 7) X hT m0 g0 rfl rfl 2 (by decide) qw_62 inlX7 rfl dX7_skinsOfAll_11 (fun v5345 hv5345 ov5345 => ?_)
        obtain ⟨b5346, rfl, mb5346, gb5346⟩ := okV_r ov5345
        have gb5346 : tag b5346 = 8 := tg_of gb5346
        refine lv_iload_n hx hb dX7_skinsOfAll_14 rfl (lv_at hl 2 rfl) ?_
        refine t_ild X hT mb5346 gb5346 rfl (by omega) dX7_skinsOfAll_15 (fun z5347 vz5347 rz5347 => ?_)
        have rz5347 : 0 ≤ z5347.toInt ∧ z5347.toInt ≤ 6 := rz5347
        refine lv_iadd hx hb dX7_skinsOfAll_16 ?_
        refine lv_topi (fun z5348 ez5348 => ?_)
        have rz5348 := rg_all z5348
        refine lv_istore_n (lv' := [(1, .int z5348), (0, .ref p0), (2, .int z5341)]) hx hb dX7_skinsOfAll_17 rfl hl (by decide) rfl (fun ls hl => ?_)
        obtain ⟨z5349, ez5349⟩ : ∃ y : Int32, y = z5341 + 1 := ⟨_, rfl⟩
        have hz5349 : z5349.toInt = z5341.toInt + 1 := ar_add ez5349 rfl (by decide : (1 : Int32).toInt = 1) (by omega) (by omega)
        refine lv_iinc (v := z5349) (lv' := [(2, .int z5349), (1, .int z5348), (0, .ref p0)]) hx hb dX7_skinsOfAll_18 hl (k := 2) rfl (by rw [ez5349]; rfl) (by decide) rfl (fun ls hl => ?_)
        refine lv_goto (tgt := 4) hx hb dX7_skinsOfAll_21 (by decide) ?_
        exact ih4 z5348 z5349 _ _ _ (by omega) (by omega) hT  (lv_sub hl [2, 1, 0] rfl)
  refine lv_iconst (v := 0) hx hb dX7_skinsOfAll_0 (by decide) ?_
  refine lv_istore_n (lv' := [(1, .int 0), (0, .ref p0)]) hx hb dX7_skinsOfAll_1 rfl hl (by decide) rfl (fun ls hl => ?_)
  refine lv_iconst (v := 0) hx hb dX7_skinsOfAll_2 (by decide) ?_
  refine lv_istore_n (lv' := [(2, .int 0), (1, .int 0), (0, .ref p0)]) hx hb dX7_skinsOfAll_3 rfl hl (by decide) rfl (fun ls hl => ?_)
  have kk5350 : (0 : Int32).toInt = 0 := by decide
  have kk5351 : (0 : Int32).toInt = 0 := by decide
  exact K4 5 0 0 _ _ _ (by omega) (by decide) hT  (lv_sub hl [2, 1, 0] rfl)
set_option maxHeartbeats 4000000 in
set_option maxRecDepth 100000 in
theorem kt24_X7_doorOf (l : Launch) (G : KG) (tag : Nat → Nat) (L : List Nat) (F : Nat → va_E) (ho : okT G ttC tag L F) (p0 : Nat) (p1 : Int32) (p2 : Int32) (m0 : p0 ∈ L) (g0 : tag p0 = 19) : TMi l yX7_doorOf cX7_doorOf 3 (some .int) { frames := 1, cells := 0, slots := 0, locals := 24 } G ttC tag L F [.ref p0, .int p1, .int p2] (fun r F1 => F1 = F ∧ ((-2147483648) ≤ r.toInt ∧ r.toInt ≤ 2147483647)) := by
  refine t_bodyi (y := yX7_doorOf) (cd := cX7_doorOf) (mL := 3) (rt := (some .int)) (rm := { frames := 1, cells := 0, slots := 0, locals := 24 }) (av := [.ref p0, .int p1, .int p2]) (by decide) (Nat.le_of_ble_eq_true rfl) ho ?_
  intro p e s m args below meth c ls A Q hQ X hT hl
  have hx := X.1.1
  have hb := X.1.2.1
  have hl : lv_has ls 3 [(0, .ref p0), (1, .int p1), (2, .int p2)] := hl
  have rp1 := rg_all p1
  have rp2 := rg_all p2
  refine lv_iload_n hx hb dX7_doorOf_0 rfl (lv_at hl 2 rfl) ?_
  refine lv_aload_n hx hb dX7_doorOf_1 rfl (lv_at hl 0 rfl) ?_
  refine lv_iload_n hx hb dX7_doorOf_2 rfl (lv_at hl 1 rfl) ?_
  refine lv_iload_n hx hb dX7_doorOf_3 rfl (lv_at hl 2 rfl) ?_
  refine lv_iconst (v := 1) hx hb dX7_doorOf_4 (by decide) ?_
  refine t_cVi (n := 3) (C := RX7) (T := TX7) (N := 7) (As := [.int p1, .int p2, .int 1]) (rest := [.int p2]) X hT (kt15_X7_partOf l G tag L F hT.2.2.2 p0 p1 p2 1 m0 g0) m0 g0 rfl rfl qw_856 qw_778 qw_779 qw_22 qw_780 ⟨rfl, by decide +kernel, by decide +kernel, by decide +kernel⟩ ⟨Nat.le_of_ble_eq_true rfl, Nat.le_of_ble_eq_true rfl⟩ hl rfl rfl (Nat.le_of_ble_eq_true rfl) dX7_doorOf_5 ⟨Nat.le_of_ble_eq_true rfl, Nat.le_of_ble_eq_true rfl⟩ (fun z5385 F9 H locs hT hz5385 => ?_)
  obtain ⟨fz5385, hz5385⟩ := hz5385
  rw [fz5385] at hT
  refine lv_aload_n hx hb dX7_doorOf_8 rfl (lv_at hl 0 rfl) ?_
  refine lv_iload_n hx hb dX7_doorOf_9 rfl (lv_at hl 1 rfl) ?_
  refine lv_iload_n hx hb dX7_doorOf_10 rfl (lv_at hl 2 rfl) ?_
  refine lv_iconst (v := 2) hx hb dX7_doorOf_11 (by decide) ?_
  refine t_cVi (n := 3) (C := RX7) (T := TX7) (N := 7) (As := [.int p1, .int p2, .int 2]) (rest := [.int z5385, .int p2]) X hT (kt15_X7_partOf l G tag L F hT.2.2.2 p0 p1 p2 2 m0 g0) m0 g0 rfl rfl qw_856 qw_778 qw_779 qw_22 qw_780 ⟨rfl, by decide +kernel, by decide +kernel, by decide +kernel⟩ ⟨Nat.le_of_ble_eq_true rfl, Nat.le_of_ble_eq_true rfl⟩ hl rfl rfl (Nat.le_of_ble_eq_true rfl) dX7_doorOf_12 ⟨Nat.le_of_ble_eq_true rfl, Nat.le_of_ble_eq_true rfl⟩ (fun z5386 F9 H locs hT hz5386 => ?_)
  obtain ⟨fz5386, hz5386⟩ := hz5386
  rw [fz5386] at hT
  refine t_cSi (n := 3) (As := [.int p2, .int z5385, .int z5386]) (rest := []) X hT (kt2_X4_doorPlace l G tag L F hT.2.2.2 p2 z5385 z5386 ) qw_921 qw_785 qw_409 qw_786 ⟨by decide +kernel, by decide +kernel, by decide +kernel⟩ ⟨Nat.le_of_ble_eq_true rfl, Nat.le_of_ble_eq_true rfl⟩ hl rfl rfl (Nat.le_of_ble_eq_true rfl) dX7_doorOf_15 ⟨Nat.le_of_ble_eq_true rfl, Nat.le_of_ble_eq_true rfl⟩ (fun z5387 F9 H locs hT hz5387 => ?_)
  obtain ⟨fz5387, hz5387⟩ := hz5387
  rw [fz5387] at hT
  exact t_iret hQ X hT (⟨rfl, rg_all _⟩) (Nat.le_of_ble_eq_true rfl) (Nat.le_of_ble_eq_true rfl) dX7_doorOf_18
set_option maxHeartbeats 4000000 in
set_option maxRecDepth 100000 in
theorem kt25_X7_roundIn (l : Launch) (G : KG) (tag : Nat → Nat) (L : List Nat) (F : Nat → va_E) (ho : okT G ttC tag L F) (p0 : Nat) (p1 : Int32) (p2 : Int32) (m0 : p0 ∈ L) (g0 : tag p0 = 19) : TMi l yX7_roundIn cX7_roundIn 3 (some .int) { frames := 2, cells := 0, slots := 0, locals := 46 } G ttC tag L F [.ref p0, .int p1, .int p2] (fun r F1 => F1 = F ∧ ((-2147483648) ≤ r.toInt ∧ r.toInt ≤ 2147483647)) := by
  refine t_bodyi (y := yX7_roundIn) (cd := cX7_roundIn) (mL := 3) (rt := (some .int)) (rm := { frames := 2, cells := 0, slots := 0, locals := 46 }) (av := [.ref p0, .int p1, .int p2]) (by decide) (Nat.le_of_ble_eq_true rfl) ho ?_
  intro p e s m args below meth c ls A Q hQ X hT hl
  have hx := X.1.1
  have hb := X.1.2.1
  have hl : lv_has ls 3 [(0, .ref p0), (1, .int p1), (2, .int p2)] := hl
  have rp1 := rg_all p1
  have rp2 := rg_all p2
  refine lv_iload_n hx hb dX7_roundIn_0 rfl (lv_at hl 2 rfl) ?_
  refine lv_aload_n hx hb dX7_roundIn_1 rfl (lv_at hl 0 rfl) ?_
  refine lv_iload_n hx hb dX7_roundIn_2 rfl (lv_at hl 1 rfl) ?_
  refine lv_iload_n hx hb dX7_roundIn_3 rfl (lv_at hl 2 rfl) ?_
  refine t_cVi (n := 2) (C := RX7) (T := TX7) (N := 7) (As := [.int p1, .int p2]) (rest := [.int p2]) X hT (kt24_X7_doorOf l G tag L F hT.2.2.2 p0 p1 p2 m0 g0) m0 g0 rfl rfl qw_992 qw_918 qw_919 qw_22 qw_920 ⟨rfl, by decide +kernel, by decide +kernel, by decide +kernel⟩ ⟨Nat.le_of_ble_eq_true rfl, Nat.le_of_ble_eq_true rfl⟩ hl rfl rfl (Nat.le_of_ble_eq_true rfl) dX7_roundIn_4 ⟨Nat.le_of_ble_eq_true rfl, Nat.le_of_ble_eq_true rfl⟩ (fun z5454 F9 H locs hT hz5454 => ?_)
  obtain ⟨fz5454, hz5454⟩ := hz5454
  rw [fz5454] at hT
  refine lv_iload_n hx hb dX7_roundIn_7 rfl (lv_at hl 2 rfl) ?_
  refine lv_iconst (v := 1) hx hb dX7_roundIn_8 (by decide) ?_
  refine lv_isub hx hb dX7_roundIn_9 ?_
  refine lv_topi (fun z5455 ez5455 => ?_)
  have rz5455 := rg_all z5455
  refine lv_aload_n hx hb dX7_roundIn_10 rfl (lv_at hl 0 rfl) ?_
  refine lv_iload_n hx hb dX7_roundIn_11 rfl (lv_at hl 1 rfl) ?_
  refine lv_iload_n hx hb dX7_roundIn_12 rfl (lv_at hl 2 rfl) ?_
  refine lv_iconst (v := 1) hx hb dX7_roundIn_13 (by decide) ?_
  refine lv_isub hx hb dX7_roundIn_14 ?_
  refine lv_topi (fun z5456 ez5456 => ?_)
  have rz5456 := rg_all z5456
  refine t_cVi (n := 2) (C := RX7) (T := TX7) (N := 7) (As := [.int p1, .int z5456]) (rest := [.int z5455, .int z5454, .int p2]) X hT (kt24_X7_doorOf l G tag L F hT.2.2.2 p0 p1 z5456 m0 g0) m0 g0 rfl rfl qw_992 qw_918 qw_919 qw_22 qw_920 ⟨rfl, by decide +kernel, by decide +kernel, by decide +kernel⟩ ⟨Nat.le_of_ble_eq_true rfl, Nat.le_of_ble_eq_true rfl⟩ hl rfl rfl (Nat.le_of_ble_eq_true rfl) dX7_roundIn_15 ⟨Nat.le_of_ble_eq_true rfl, Nat.le_of_ble_eq_true rfl⟩ (fun z5457 F9 H locs hT hz5457 => ?_)
  obtain ⟨fz5457, hz5457⟩ := hz5457
  rw [fz5457] at hT
  refine t_cSi (n := 2) (As := [.int z5455, .int z5457]) (rest := [.int z5454, .int p2]) X hT (kt4_X4_inFront l G tag L F hT.2.2.2 z5455 z5457 ) qw_993 qw_923 qw_409 qw_924 ⟨by decide +kernel, by decide +kernel, by decide +kernel⟩ ⟨Nat.le_of_ble_eq_true rfl, Nat.le_of_ble_eq_true rfl⟩ hl rfl rfl (Nat.le_of_ble_eq_true rfl) dX7_roundIn_18 ⟨Nat.le_of_ble_eq_true rfl, Nat.le_of_ble_eq_true rfl⟩ (fun z5458 F9 H locs hT hz5458 => ?_)
  obtain ⟨fz5458, hz5458⟩ := hz5458
  rw [fz5458] at hT
  refine t_cSi (n := 3) (As := [.int p2, .int z5454, .int z5458]) (rest := []) X hT (kt5_X4_between l G tag L F hT.2.2.2 p2 z5454 z5458 ) qw_994 qw_926 qw_409 qw_927 ⟨by decide +kernel, by decide +kernel, by decide +kernel⟩ ⟨Nat.le_of_ble_eq_true rfl, Nat.le_of_ble_eq_true rfl⟩ hl rfl rfl (Nat.le_of_ble_eq_true rfl) dX7_roundIn_21 ⟨Nat.le_of_ble_eq_true rfl, Nat.le_of_ble_eq_true rfl⟩ (fun z5459 F9 H locs hT hz5459 => ?_)
  obtain ⟨fz5459, hz5459⟩ := hz5459
  rw [fz5459] at hT
  exact t_iret hQ X hT (⟨rfl, rg_all _⟩) (Nat.le_of_ble_eq_true rfl) (Nat.le_of_ble_eq_true rfl) dX7_roundIn_24
set_option maxHeartbeats 4000000 in
set_option maxRecDepth 100000 in
theorem kt26_X7_wayTo (l : Launch) (G : KG) (tag : Nat → Nat) (L : List Nat) (F : Nat → va_E) (ho : okT G ttC tag L F) (p0 : Nat) (p1 : Int32) (p2 : Int32) (m0 : p0 ∈ L) (g0 : tag p0 = 19) (h1 : 0 ≤ p1.toInt ∧ p1.toInt ≤ 3) : TMi l yX7_wayTo cX7_wayTo 6 (some .int) { frames := 3, cells := 0, slots := 0, locals := 68 } G ttC tag L F [.ref p0, .int p1, .int p2] (fun r F1 => F1 = F ∧ ((-2147483648) ≤ r.toInt ∧ r.toInt ≤ 2147483647)) := by
  refine t_bodyi (y := yX7_wayTo) (cd := cX7_wayTo) (mL := 6) (rt := (some .int)) (rm := { frames := 3, cells := 0, slots := 0, locals := 68 }) (av := [.ref p0, .int p1, .int p2]) (by decide) (Nat.le_of_ble_eq_true rfl) ho ?_
  intro p e s m args below meth c ls A Q hQ X hT hl
  have hx := X.1.1
  have hb := X.1.2.1
  have hl : lv_has ls 6 [(0, .ref p0), (1, .int p1), (2, .int p2)] := hl
  have rp2 := rg_all p2
  have K42 : ∀ (n : Nat) (z5881 : Int32) (z5882 : Int32) (z5883 : Int32) (H : Heap) (locs : List Loc) (ls : Array Slot), (z5883.toInt - 0 < (n : Int)) → (1 ≤ z5881.toInt ∧ z5881.toInt ≤ 2147483647) → (0 ≤ z5883.toInt ∧ z5883.toInt ≤ 6) → TH G ttC A s tag L F H locs → lv_has ls 6 [(0, .ref p0), (1, .int p1), (2, .int p2), (3, .int z5881), (4, .int z5882), (5, .int z5883)] → W p l e { frames := 3, cells := 0, slots := 0, locals := 68 } s m args below meth c H locs 0 0 Q (F0 m 42 ls []) := by
    intro n
    induction n with
    | zero =>
      intro z5881 z5882 z5883 H locs ls hn rz5881 rz5883 hT hl
      have rz5882 := rg_all z5882
      exfalso
      omega
    | succ n ih42 =>
      intro z5881 z5882 z5883 H locs ls hn rz5881 rz5883 hT hl
      have rz5882 := rg_all z5882
      have K82 : ∀ (z5885 : Int32) (H : Heap) (locs : List Loc) (ls : Array Slot), (1 ≤ z5881.toInt ∧ z5881.toInt ≤ 6) → (1 ≤ z5883.toInt ∧ z5883.toInt ≤ 6) → TH G ttC A s tag L F H locs → lv_has ls 6 [(0, .ref p0), (1, .int p1), (2, .int p2), (3, .int z5881), (4, .int z5885), (5, .int z5883)] → W p l e { frames := 3, cells := 0, slots := 0, locals := 68 } s m args below meth c H locs 0 0 Q (F0 m 82 ls []) := by
        intro z5885 H locs ls r9s5884 r9s5886 hT hl
        have rz5885 := rg_all z5885
        obtain ⟨z5887, ez5887⟩ : ∃ y : Int32, y = z5883 + (-1) := ⟨_, rfl⟩
        have hz5887 : z5887.toInt = z5883.toInt + (-1) := ar_add ez5887 rfl (by decide : ((-1) : Int32).toInt = (-1)) (by omega) (by omega)
        refine lv_iinc (v := z5887) (lv' := [(5, .int z5887), (0, .ref p0), (1, .int p1), (2, .int p2), (3, .int z5881), (4, .int z5885)]) hx hb dX7_wayTo_82 hl (k := 5) rfl (by rw [ez5887]; rfl) (by decide) rfl (fun ls hl => ?_)
        refine lv_goto (tgt := 42) hx hb dX7_wayTo_85 (by decide) ?_
        exact ih42 z5881 z5885 z5887 _ _ _ (by omega) (by omega) (by omega) hT  (lv_sub hl [1, 2, 3, 4, 5, 0] rfl)
      refine lv_iload hx hb dX7_wayTo_42 (lv_at hl 5 rfl) ?_
      refine lv_iload_n hx hb dX7_wayTo_44 rfl (lv_at hl 3 rfl) ?_
      refine lv_icmp_lt (tgt := 88) hx hb dX7_wayTo_45 (by decide) (fun c5888 => ?_) (fun c5888 => ?_)
      · have w5889 := cv_lt (rfl : z5883.toInt = z5883.toInt) (rfl : z5881.toInt = z5881.toInt) c5888
        refine lv_iload hx hb dX7_wayTo_88 (lv_at hl 4 rfl) ?_
        exact t_iret hQ X hT (⟨rfl, rg_all _⟩) (Nat.le_of_ble_eq_true rfl) (Nat.le_of_ble_eq_true rfl) dX7_wayTo_90
      · have w5890 := cv_nlt (rfl : z5883.toInt = z5883.toInt) (rfl : z5881.toInt = z5881.toInt) c5888
        refine lv_aload_n hx hb dX7_wayTo_48 rfl (lv_at hl 0 rfl) ?_
        refine lv_iload_n hx hb dX7_wayTo_49 rfl (lv_at hl 1 rfl) ?_
        refine lv_iload hx hb dX7_wayTo_50 (lv_at hl 5 rfl) ?_
        refine t_cVi (n := 2) (C := RX7) (T := TX7) (N := 7) (As := [.int p1, .int z5883]) (rest := []) X hT (kt19_X7_isOpen l G tag L F hT.2.2.2 p0 p1 z5883 m0 g0) m0 g0 rfl rfl qw_983 qw_984 qw_985 qw_22 qw_986 ⟨rfl, by decide +kernel, by decide +kernel, by decide +kernel⟩ ⟨Nat.le_of_ble_eq_true rfl, Nat.le_of_ble_eq_true rfl⟩ hl rfl rfl (Nat.le_of_ble_eq_true rfl) dX7_wayTo_52 ⟨Nat.le_of_ble_eq_true rfl, Nat.le_of_ble_eq_true rfl⟩ (fun z5891 F9 H locs hT hz5891 => ?_)
        obtain ⟨fz5891, hz5891⟩ := hz5891
        rw [fz5891] at hT
        refine lv_if_ne (tgt := 61) hx hb dX7_wayTo_55 (by decide) (fun c5892 => ?_) (fun c5892 => ?_)
        · have w5893 := cv_ne (rfl : z5891.toInt = z5891.toInt) (by decide : (0 : Int32).toInt = 0) c5892
          obtain ⟨z5894, ez5894⟩ : ∃ y : Int32, y = z5882 + 1 := ⟨_, rfl⟩
          have rz5894 := rg_all z5894
          refine lv_iinc (v := z5894) (lv' := [(4, .int z5894), (0, .ref p0), (1, .int p1), (2, .int p2), (3, .int z5881), (5, .int z5883)]) hx hb dX7_wayTo_61 hl (k := 4) rfl (by rw [ez5894]; rfl) (by decide) rfl (fun ls hl => ?_)
          refine lv_iload hx hb dX7_wayTo_64 (lv_at hl 5 rfl) ?_
          refine lv_iload_n hx hb dX7_wayTo_66 rfl (lv_at hl 4 rfl) ?_
          refine lv_icmp_le (tgt := 82) hx hb dX7_wayTo_67 (by decide) (fun c5895 => ?_) (fun c5895 => ?_)
          · have w5896 := cv_le (rfl : z5883.toInt = z5883.toInt) (rfl : z5881.toInt = z5881.toInt) c5895
            exact K82 z5894 _ _ _ (by omega) (by omega) hT  (lv_sub hl [1, 2, 3, 4, 0, 5] rfl)
          · have w5897 := cv_nle (rfl : z5883.toInt = z5883.toInt) (rfl : z5881.toInt = z5881.toInt) c5895
            refine lv_iload hx hb dX7_wayTo_70 (lv_at hl 0 rfl) ?_
            refine lv_aload_n hx hb dX7_wayTo_72 rfl (lv_at hl 1 rfl) ?_
            refine lv_iload_n hx hb dX7_wayTo_73 rfl (lv_at hl 2 rfl) ?_
            refine lv_iload hx hb dX7_wayTo_74 (lv_at hl 5 rfl) ?_
            refine t_cVi (n := 2) (C := RX7) (T := TX7) (N := 7) (As := [.int p1, .int z5883]) (rest := [.int z5894]) X hT (kt25_X7_roundIn l G tag L F hT.2.2.2 p0 p1 z5883 m0 g0) m0 g0 rfl rfl qw_988 qw_989 qw_990 qw_22 qw_991 ⟨rfl, by decide +kernel, by decide +kernel, by decide +kernel⟩ ⟨Nat.le_of_ble_eq_true rfl, Nat.le_of_ble_eq_true rfl⟩ hl rfl rfl (Nat.le_of_ble_eq_true rfl) dX7_wayTo_76 ⟨Nat.le_of_ble_eq_true rfl, Nat.le_of_ble_eq_true rfl⟩ (fun z5898 F9 H locs hT hz5898 => ?_)
            obtain ⟨fz5898, hz5898⟩ := hz5898
            rw [fz5898] at hT
            refine lv_iadd hx hb dX7_wayTo_79 ?_
            refine lv_topi (fun z5899 ez5899 => ?_)
            have rz5899 := rg_all z5899
            refine lv_istore (lv' := [(4, .int z5899), (0, .ref p0), (1, .int p1), (2, .int p2), (3, .int z5881), (5, .int z5883)]) hx hb dX7_wayTo_80 hl (by decide) rfl (fun ls hl => ?_)
            exact K82 z5899 _ _ _ (by omega) (by omega) hT  (lv_sub hl [1, 2, 3, 4, 0, 5] rfl)
        · have w5900 := cv_eq (rfl : z5891.toInt = z5891.toInt) (by decide : (0 : Int32).toInt = 0) c5892
          refine lv_bipush (v := (-2)) hx hb dX7_wayTo_58 (by decide) ?_
          exact t_iret hQ X hT (⟨rfl, rg_all _⟩) (Nat.le_of_ble_eq_true rfl) (Nat.le_of_ble_eq_true rfl) dX7_wayTo_60
  have K32 : ∀ (z5901 : Int32) (z5902 : Int32) (H : Heap) (locs : List Loc) (ls : Array Slot), (1 ≤ z5901.toInt ∧ z5901.toInt ≤ 2147483647) → (0 ≤ z5902.toInt ∧ z5902.toInt ≤ 1) → TH G ttC A s tag L F H locs → lv_has ls 6 [(0, .ref p0), (1, .int p1), (2, .int p2), (3, .int z5901)] → W p l e { frames := 3, cells := 0, slots := 0, locals := 68 } s m args below meth c H locs 0 0 Q (F0 m 32 ls [.int z5902]) := by
    intro z5901 z5902 H locs ls rz5901 rz5902 hT hl
    refine lv_istore (lv' := [(4, .int z5902), (0, .ref p0), (1, .int p1), (2, .int p2), (3, .int z5901)]) hx hb dX7_wayTo_32 hl (by decide) rfl (fun ls hl => ?_)
    refine lv_aload_n hx hb dX7_wayTo_34 rfl (lv_at hl 1 rfl) ?_
    refine t_get (C := RX7) (T := TX7) (N := 7) X hT m0 g0 rfl rfl 2 (by decide) qw_62 inlX7 rfl dX7_wayTo_35 (fun v5903 hv5903 ov5903 => ?_)
    obtain ⟨b5904, rfl, mb5904, gb5904⟩ := okV_r ov5903
    have gb5904 : tag b5904 = 8 := tg_of gb5904
    refine lv_iload_n hx hb dX7_wayTo_38 rfl (lv_at hl 2 rfl) ?_
    refine t_ild X hT mb5904 gb5904 rfl (by omega) dX7_wayTo_39 (fun z5905 vz5905 rz5905 => ?_)
    have rz5905 : 0 ≤ z5905.toInt ∧ z5905.toInt ≤ 6 := rz5905
    refine lv_istore (lv' := [(5, .int z5905), (4, .int z5902), (0, .ref p0), (1, .int p1), (2, .int p2), (3, .int z5901)]) hx hb dX7_wayTo_40 hl (by decide) rfl (fun ls hl => ?_)
    exact K42 7 z5901 z5902 z5905 _ _ _ (by omega) (by omega) (by omega) hT  (lv_sub hl [2, 3, 4, 5, 1, 0] rfl)
  have K21 : ∀ (z5906 : Int32) (H : Heap) (locs : List Loc) (ls : Array Slot), (1 ≤ z5906.toInt ∧ z5906.toInt ≤ 2147483647) → TH G ttC A s tag L F H locs → lv_has ls 6 [(0, .ref p0), (1, .int p1), (2, .int p2)] → W p l e { frames := 3, cells := 0, slots := 0, locals := 68 } s m args below meth c H locs 0 0 Q (F0 m 21 ls [.int z5906]) := by
    intro z5906 H locs ls rz5906 hT hl
    refine lv_istore_n (lv' := [(3, .int z5906), (0, .ref p0), (1, .int p1), (2, .int p2)]) hx hb dX7_wayTo_21 rfl hl (by decide) rfl (fun ls hl => ?_)
    refine lv_iload_n hx hb dX7_wayTo_22 rfl (lv_at hl 3 rfl) ?_
    refine lv_iconst (v := 1) hx hb dX7_wayTo_23 (by decide) ?_
    refine lv_icmp_ge (tgt := 31) hx hb dX7_wayTo_24 (by decide) (fun c5907 => ?_) (fun c5907 => ?_)
    · have w5908 := cv_le (by decide : (1 : Int32).toInt = 1) (rfl : p2.toInt = p2.toInt) c5907
      refine lv_iconst (v := 0) hx hb dX7_wayTo_31 (by decide) ?_
      exact K32 z5906 0 _ _ _ (by omega) (by decide) hT  (lv_sub hl [1, 2, 3, 0] rfl)
    · have w5909 := cv_nle (by decide : (1 : Int32).toInt = 1) (rfl : p2.toInt = p2.toInt) c5907
      refine lv_iconst (v := 1) hx hb dX7_wayTo_27 (by decide) ?_
      refine lv_goto (tgt := 32) hx hb dX7_wayTo_28 (by decide) ?_
      exact K32 z5906 1 _ _ _ (by omega) (by decide) hT  (lv_sub hl [1, 2, 3, 0] rfl)
  refine lv_aload_n hx hb dX7_wayTo_0 rfl (lv_at hl 0 rfl) ?_
  refine t_get (C := RX7) (T := TX7) (N := 7) X hT m0 g0 rfl rfl 2 (by decide) qw_62 inlX7 rfl dX7_wayTo_1 (fun v5910 hv5910 ov5910 => ?_)
  obtain ⟨b5911, rfl, mb5911, gb5911⟩ := okV_r ov5910
  have gb5911 : tag b5911 = 8 := tg_of gb5911
  refine lv_iload_n hx hb dX7_wayTo_4 rfl (lv_at hl 1 rfl) ?_
  refine t_ild X hT mb5911 gb5911 rfl (by omega) dX7_wayTo_5 (fun z5912 vz5912 rz5912 => ?_)
  have rz5912 : 0 ≤ z5912.toInt ∧ z5912.toInt ≤ 6 := rz5912
  refine lv_if_ne (tgt := 11) hx hb dX7_wayTo_6 (by decide) (fun c5913 => ?_) (fun c5913 => ?_)
  · have w5914 := cv_ne (rfl : z5912.toInt = z5912.toInt) (by decide : (0 : Int32).toInt = 0) c5913
    refine lv_iload_n hx hb dX7_wayTo_11 rfl (lv_at hl 2 rfl) ?_
    refine lv_iconst (v := 1) hx hb dX7_wayTo_12 (by decide) ?_
    refine lv_icmp_ge (tgt := 20) hx hb dX7_wayTo_13 (by decide) (fun c5915 => ?_) (fun c5915 => ?_)
    · have w5916 := cv_le (by decide : (1 : Int32).toInt = 1) (rfl : p2.toInt = p2.toInt) c5915
      refine lv_iload_n hx hb dX7_wayTo_20 rfl (lv_at hl 2 rfl) ?_
      exact K21 p2 _ _ _ (by omega) hT  (lv_sub hl [0, 1, 2] rfl)
    · have w5917 := cv_nle (by decide : (1 : Int32).toInt = 1) (rfl : p2.toInt = p2.toInt) c5915
      refine lv_iconst (v := 1) hx hb dX7_wayTo_16 (by decide) ?_
      refine lv_goto (tgt := 21) hx hb dX7_wayTo_17 (by decide) ?_
      exact K21 1 _ _ _ (by decide) hT  (lv_sub hl [0, 1, 2] rfl)
  · have w5918 := cv_eq (rfl : z5912.toInt = z5912.toInt) (by decide : (0 : Int32).toInt = 0) c5913
    refine lv_iconst (v := 0) hx hb dX7_wayTo_9 (by decide) ?_
    exact t_iret hQ X hT (⟨rfl, rg_all _⟩) (Nat.le_of_ble_eq_true rfl) (Nat.le_of_ble_eq_true rfl) dX7_wayTo_10
set_option maxHeartbeats 4000000 in
set_option maxRecDepth 100000 in
theorem kt27_X7_draw (l : Launch) (G : KG) (tag : Nat → Nat) (L : List Nat) (Fo : Nat → va_E) (ho : okT G ttC tag L Fo) (p0 : Nat) (m0 : p0 ∈ L) (g0 : tag p0 = 19) : TMi l yX7_draw cX7_draw 1 (some .int) { frames := 0, cells := 0, slots := 0, locals := 0 } G ttC tag L Fo [.ref p0] (fun r F1 => ((-2147483648) ≤ r.toInt ∧ r.toInt ≤ 2147483647) ∧ ((∀ b j : Nat, (tag b ≠ 19 ∨ j ≠ 1) → fld F1 b j = fld Fo b j) ∧ EF tag F1 Fo)) := by
  refine t_bodyi (y := yX7_draw) (cd := cX7_draw) (mL := 1) (rt := (some .int)) (rm := { frames := 0, cells := 0, slots := 0, locals := 0 }) (av := [.ref p0]) (by decide) (Nat.le_of_ble_eq_true rfl) ho ?_
  intro p e s m args below meth c ls A Q hQ X hT hl
  have hx := X.1.1
  have hb := X.1.2.1
  have hl : lv_has ls 1 [(0, .ref p0)] := hl
  obtain ⟨F, hFo⟩ : ∃ F : Nat → va_E, F = Fo := ⟨_, rfl⟩
  rw [← hFo] at hT
  have hfr : (∀ b j : Nat, (tag b ≠ 19 ∨ j ≠ 1) → fld F b j = fld Fo b j) ∧ EF tag F Fo := by
    rw [hFo]
    exact ⟨by intros; rfl, fun _ _ _ => rfl⟩
  refine lv_aload_n hx hb dX7_draw_0 rfl (lv_at hl 0 rfl) ?_
  refine lv_bipush (v := 75) hx hb dX7_draw_1 (by decide) ?_
  refine lv_aload_n hx hb dX7_draw_3 rfl (lv_at hl 0 rfl) ?_
  refine t_get (C := RX7) (T := TX7) (N := 7) X hT m0 g0 rfl rfl 1 (by decide) qw_188 inlX7 rfl dX7_draw_4 (fun v5996 hv5996 ov5996 => ?_)
  obtain ⟨z5997, rfl, rz5997⟩ := okV_i ov5996
  refine lv_imul hx hb dX7_draw_7 ?_
  refine lv_topi (fun z5998 ez5998 => ?_)
  have rz5998 := rg_all z5998
  refine lv_bipush (v := 74) hx hb dX7_draw_8 (by decide) ?_
  refine lv_iadd hx hb dX7_draw_10 ?_
  refine lv_topi (fun z5999 ez5999 => ?_)
  have rz5999 := rg_all z5999
  refine m_ldc X qw_1115 dX7_draw_11 ?_
  refine lv_irem hx hb dX7_draw_13 (by decide) ?_
  refine lv_topi (fun z6000 ez6000 => ?_)
  have rz6000 := rg_all z6000
  refine t_put (C := RX7) (T := TX7) (N := 7) (v := .int z6000) X hT m0 g0 rfl tyX7 tyX7_ok nmX7 rfl 1 (by decide) qw_188 inlX7 rfl (by first | rfl | decide) (by first | rfl | decide) rfl (⟨_, rfl, (show (-2147483648) ≤ (z6000 : Int32).toInt from (by omega)), (show (z6000 : Int32).toInt ≤ 2147483647 from (by omega))⟩) dX7_draw_14 (fun F H locs hT v6001 h1v6001 h2v6001 => ?_)
  have hfr : (∀ b j : Nat, (tag b ≠ 19 ∨ j ≠ 1) → fld F b j = fld Fo b j) ∧ EF tag F Fo := ⟨fun b j n19_1 => (h1v6001 b j (fr_ne g0 n19_1)).trans (hfr.1 b j n19_1), fun b j hb => (h2v6001 b j).trans (hfr.2 b j hb)⟩
  refine lv_aload_n hx hb dX7_draw_17 rfl (lv_at hl 0 rfl) ?_
  refine t_get (C := RX7) (T := TX7) (N := 7) X hT m0 g0 rfl rfl 1 (by decide) qw_188 inlX7 rfl dX7_draw_18 (fun v6002 hv6002 ov6002 => ?_)
  obtain rfl : v6002 = .int z6000 := hv6002.symm.trans v6001
  exact t_iret hQ X hT (⟨rg_all _, hfr⟩) (Nat.le_of_ble_eq_true rfl) (Nat.le_of_ble_eq_true rfl) dX7_draw_21
set_option maxHeartbeats 4000000 in
set_option maxRecDepth 100000 in
theorem kt28_X6_ownersOf (l : Launch) (G : KG) (tag : Nat → Nat) (L : List Nat) (F : Nat → va_E) (ho : okT G ttC tag L F) (p0 : Nat) (p1 : Nat) (p2 : Int32) (p3 : Int32) (m0 : p0 ∈ L) (g0 : tag p0 = 18) (m1 : p1 ∈ L) (g1 : tag p1 = 19) : TMi l yX6_ownersOf cX6_ownersOf 6 (some .int) { frames := 1, cells := 0, slots := 0, locals := 25 } G ttC tag L F [.ref p0, .ref p1, .int p2, .int p3] (fun r F1 => F1 = F ∧ ((-2147483648) ≤ r.toInt ∧ r.toInt ≤ 2147483647)) := by
  refine t_bodyi (y := yX6_ownersOf) (cd := cX6_ownersOf) (mL := 6) (rt := (some .int)) (rm := { frames := 1, cells := 0, slots := 0, locals := 25 }) (av := [.ref p0, .ref p1, .int p2, .int p3]) (by decide) (Nat.le_of_ble_eq_true rfl) ho ?_
  intro p e s m args below meth c ls A Q hQ X hT hl
  have hx := X.1.1
  have hb := X.1.2.1
  have hl : lv_has ls 6 [(0, .ref p0), (1, .ref p1), (2, .int p2), (3, .int p3)] := hl
  have rp2 := rg_all p2
  have rp3 := rg_all p3
  have K6 : ∀ (n : Nat) (z6304 : Int32) (z6305 : Int32) (H : Heap) (locs : List Loc) (ls : Array Slot), (4 - z6305.toInt < (n : Int)) → (0 ≤ z6305.toInt ∧ z6305.toInt ≤ 4) → TH G ttC A s tag L F H locs → lv_has ls 6 [(0, .ref p0), (1, .ref p1), (2, .int p2), (3, .int p3), (4, .int z6304), (5, .int z6305)] → W p l e { frames := 1, cells := 0, slots := 0, locals := 25 } s m args below meth c H locs 0 0 Q (F0 m 6 ls []) := by
    intro n
    induction n with
    | zero =>
      intro z6304 z6305 H locs ls hn rz6305 hT hl
      have rz6304 := rg_all z6304
      exfalso
      omega
    | succ n ih6 =>
      intro z6304 z6305 H locs ls hn rz6305 hT hl
      have rz6304 := rg_all z6304
      have K42 : ∀ (z6306 : Int32) (z6308 : Int32) (H : Heap) (locs : List Loc) (ls : Array Slot), (1 ≤ z6308.toInt ∧ z6308.toInt ≤ 4) → (0 ≤ z6305.toInt ∧ z6305.toInt ≤ 3) → TH G ttC A s tag L F H locs → fld F p0 10 = .int z6308 → lv_has ls 6 [(0, .ref p0), (1, .ref p1), (2, .int p2), (3, .int p3), (4, .int z6306), (5, .int z6305)] → W p l e { frames := 1, cells := 0, slots := 0, locals := 25 } s m args below meth c H locs 0 0 Q (F0 m 42 ls []) := by
        intro z6306 z6308 H locs ls rz6308 r9s6307 hT qz6308 hl
        have rz6306 := rg_all z6306
        obtain ⟨z6309, ez6309⟩ : ∃ y : Int32, y = z6305 + 1 := ⟨_, rfl⟩
        have hz6309 : z6309.toInt = z6305.toInt + 1 := ar_add ez6309 rfl (by decide : (1 : Int32).toInt = 1) (by omega) (by omega)
        refine lv_iinc (v := z6309) (lv' := [(5, .int z6309), (0, .ref p0), (1, .ref p1), (2, .int p2), (3, .int p3), (4, .int z6306)]) hx hb dX6_ownersOf_42 hl (k := 5) rfl (by rw [ez6309]; rfl) (by decide) rfl (fun ls hl => ?_)
        refine lv_goto (tgt := 6) hx hb dX6_ownersOf_45 (by decide) ?_
        exact ih6 z6306 z6309 _ _ _ (by omega) (by omega) hT  (lv_sub hl [1, 2, 3, 4, 5, 0] rfl)
      refine lv_iload hx hb dX6_ownersOf_6 (lv_at hl 5 rfl) ?_
      refine lv_aload_n hx hb dX6_ownersOf_8 rfl (lv_at hl 0 rfl) ?_
      refine t_get (C := RX1) (T := TX1) (N := 20) X hT m0 g0 rfl rfl 10 (by decide) qw_382 inlX1 rfl dX6_ownersOf_9 (fun v6310 hv6310 ov6310 => ?_)
      obtain ⟨z6311, rfl, rz6311⟩ := okV_i ov6310
      refine lv_icmp_ge (tgt := 48) hx hb dX6_ownersOf_12 (by decide) (fun c6312 => ?_) (fun c6312 => ?_)
      · have w6313 := cv_le (rfl : z6311.toInt = z6311.toInt) (rfl : z6305.toInt = z6305.toInt) c6312
        refine lv_iload hx hb dX6_ownersOf_48 (lv_at hl 4 rfl) ?_
        exact t_iret hQ X hT (⟨rfl, rg_all _⟩) (Nat.le_of_ble_eq_true rfl) (Nat.le_of_ble_eq_true rfl) dX6_ownersOf_50
      · have w6314 := cv_nle (rfl : z6311.toInt = z6311.toInt) (rfl : z6305.toInt = z6305.toInt) c6312
        refine lv_aload_n hx hb dX6_ownersOf_15 rfl (lv_at hl 0 rfl) ?_
        refine lv_iload hx hb dX6_ownersOf_16 (lv_at hl 5 rfl) ?_
        refine lv_iload_n hx hb dX6_ownersOf_18 rfl (lv_at hl 2 rfl) ?_
        refine lv_iload_n hx hb dX6_ownersOf_19 rfl (lv_at hl 3 rfl) ?_
        refine t_cVi (n := 3) (C := RX1) (T := TX1) (N := 20) (As := [.int z6305, .int p2, .int p3]) (rest := []) X hT (kt12_X1_apart l G tag L F hT.2.2.2 p0 z6305 p2 p3 m0 g0 (by omega)) m0 g0 rfl rfl qw_389 qw_390 qw_391 qw_17 qw_392 ⟨rfl, by decide +kernel, by decide +kernel, by decide +kernel⟩ ⟨Nat.le_of_ble_eq_true rfl, Nat.le_of_ble_eq_true rfl⟩ hl rfl rfl (Nat.le_of_ble_eq_true rfl) dX6_ownersOf_20 ⟨Nat.le_of_ble_eq_true rfl, Nat.le_of_ble_eq_true rfl⟩ (fun z6315 F9 H locs hT hz6315 => ?_)
        obtain ⟨fz6315, hz6315⟩ := hz6315
        rw [fz6315] at hT
        refine lv_aload_n hx hb dX6_ownersOf_23 rfl (lv_at hl 1 rfl) ?_
        refine t_get (C := RX7) (T := TX7) (N := 7) X hT m1 g1 rfl rfl 2 (by decide) qw_383 inlX7 rfl dX6_ownersOf_24 (fun v6316 hv6316 ov6316 => ?_)
        obtain ⟨b6317, rfl, mb6317, gb6317⟩ := okV_r ov6316
        have gb6317 : tag b6317 = 8 := tg_of gb6317
        refine lv_iload hx hb dX6_ownersOf_27 (lv_at hl 5 rfl) ?_
        refine t_ild X hT mb6317 gb6317 rfl (by omega) dX6_ownersOf_29 (fun z6318 vz6318 rz6318 => ?_)
        have rz6318 : 0 ≤ z6318.toInt ∧ z6318.toInt ≤ 6 := rz6318
        refine lv_icmp_gt (tgt := 42) hx hb dX6_ownersOf_30 (by decide) (fun c6319 => ?_) (fun c6319 => ?_)
        · have w6320 := cv_lt (rfl : z6318.toInt = z6318.toInt) (rfl : z6315.toInt = z6315.toInt) c6319
          exact K42 z6304 z6311 _ _ _ (by omega) (by omega) hT hv6310 (lv_sub hl [0, 1, 2, 3, 4, 5] rfl)
        · have w6321 := cv_nlt (rfl : z6318.toInt = z6318.toInt) (rfl : z6315.toInt = z6315.toInt) c6319
          refine lv_iload hx hb dX6_ownersOf_33 (lv_at hl 4 rfl) ?_
          refine lv_iconst (v := 1) hx hb dX6_ownersOf_35 (by decide) ?_
          refine lv_iload hx hb dX6_ownersOf_36 (lv_at hl 5 rfl) ?_
          refine lv_ishl hx hb dX6_ownersOf_38 ?_
          refine lv_topi (fun z6322 ez6322 => ?_)
          have rz6322 := rg_all z6322
          refine lv_ior hx hb dX6_ownersOf_39 ?_
          refine lv_topi (fun z6323 ez6323 => ?_)
          have rz6323 := rg_all z6323
          refine lv_istore (lv' := [(4, .int z6323), (0, .ref p0), (1, .ref p1), (2, .int p2), (3, .int p3), (5, .int z6305)]) hx hb dX6_ownersOf_40 hl (by decide) rfl (fun ls hl => ?_)
          exact K42 z6323 z6311 _ _ _ (by omega) (by omega) hT hv6310 (lv_sub hl [1, 2, 3, 4, 0, 5] rfl)
  refine lv_iconst (v := 0) hx hb dX6_ownersOf_0 (by decide) ?_
  refine lv_istore (lv' := [(4, .int 0), (0, .ref p0), (1, .ref p1), (2, .int p2), (3, .int p3)]) hx hb dX6_ownersOf_1 hl (by decide) rfl (fun ls hl => ?_)
  refine lv_iconst (v := 0) hx hb dX6_ownersOf_3 (by decide) ?_
  refine lv_istore (lv' := [(5, .int 0), (4, .int 0), (0, .ref p0), (1, .ref p1), (2, .int p2), (3, .int p3)]) hx hb dX6_ownersOf_4 hl (by decide) rfl (fun ls hl => ?_)
  have kk6324 : (0 : Int32).toInt = 0 := by decide
  have kk6325 : (0 : Int32).toInt = 0 := by decide
  exact K6 5 0 0 _ _ _ (by omega) (by decide) hT  (lv_sub hl [2, 3, 4, 5, 1, 0] rfl)
set_option maxHeartbeats 4000000 in
set_option maxRecDepth 100000 in
theorem kt29_X6_isFree (l : Launch) (G : KG) (tag : Nat → Nat) (L : List Nat) (F : Nat → va_E) (ho : okT G ttC tag L F) (p0 : Nat) (p1 : Nat) (p2 : Int32) (p3 : Int32) (m0 : p0 ∈ L) (g0 : tag p0 = 18) (m1 : p1 ∈ L) (g1 : tag p1 = 19) : TMi l yX6_isFree cX6_isFree 5 (some .boolean) { frames := 1, cells := 0, slots := 0, locals := 25 } G ttC tag L F [.ref p0, .ref p1, .int p2, .int p3] (fun r F1 => F1 = F ∧ (0 ≤ r.toInt ∧ r.toInt ≤ 1)) := by
  refine t_bodyi (y := yX6_isFree) (cd := cX6_isFree) (mL := 5) (rt := (some .boolean)) (rm := { frames := 1, cells := 0, slots := 0, locals := 25 }) (av := [.ref p0, .ref p1, .int p2, .int p3]) (by decide) (Nat.le_of_ble_eq_true rfl) ho ?_
  intro p e s m args below meth c ls A Q hQ X hT hl
  have hx := X.1.1
  have hb := X.1.2.1
  have hl : lv_has ls 5 [(0, .ref p0), (1, .ref p1), (2, .int p2), (3, .int p3)] := hl
  have rp2 := rg_all p2
  have rp3 := rg_all p3
  have K23 : ∀ (n : Nat) (z6639 : Int32) (H : Heap) (locs : List Loc) (ls : Array Slot), (4 - z6639.toInt < (n : Int)) → (0 ≤ z6639.toInt ∧ z6639.toInt ≤ 4) → TH G ttC A s tag L F H locs → lv_has ls 5 [(0, .ref p0), (1, .ref p1), (2, .int p2), (3, .int p3), (4, .int z6639)] → W p l e { frames := 1, cells := 0, slots := 0, locals := 25 } s m args below meth c H locs 0 0 Q (F0 m 23 ls []) := by
    intro n
    induction n with
    | zero =>
      intro z6639 H locs ls hn rz6639 hT hl
      exfalso
      omega
    | succ n ih23 =>
      intro z6639 H locs ls hn rz6639 hT hl
      refine lv_iload hx hb dX6_isFree_23 (lv_at hl 4 rfl) ?_
      refine lv_aload_n hx hb dX6_isFree_25 rfl (lv_at hl 0 rfl) ?_
      refine t_get (C := RX1) (T := TX1) (N := 20) X hT m0 g0 rfl rfl 10 (by decide) qw_382 inlX1 rfl dX6_isFree_26 (fun v6640 hv6640 ov6640 => ?_)
      obtain ⟨z6641, rfl, rz6641⟩ := okV_i ov6640
      refine lv_icmp_ge (tgt := 58) hx hb dX6_isFree_29 (by decide) (fun c6642 => ?_) (fun c6642 => ?_)
      · have w6643 := cv_le (rfl : z6641.toInt = z6641.toInt) (rfl : z6639.toInt = z6639.toInt) c6642
        refine lv_iconst (v := 1) hx hb dX6_isFree_58 (by decide) ?_
        exact t_zret hQ X hT (by decide) (⟨rfl, (by decide)⟩) (Nat.le_of_ble_eq_true rfl) (Nat.le_of_ble_eq_true rfl) dX6_isFree_59
      · have w6644 := cv_nle (rfl : z6641.toInt = z6641.toInt) (rfl : z6639.toInt = z6639.toInt) c6642
        refine lv_aload_n hx hb dX6_isFree_32 rfl (lv_at hl 0 rfl) ?_
        refine lv_iload hx hb dX6_isFree_33 (lv_at hl 4 rfl) ?_
        refine lv_iload_n hx hb dX6_isFree_35 rfl (lv_at hl 2 rfl) ?_
        refine lv_iload_n hx hb dX6_isFree_36 rfl (lv_at hl 3 rfl) ?_
        refine t_cVi (n := 3) (C := RX1) (T := TX1) (N := 20) (As := [.int z6639, .int p2, .int p3]) (rest := []) X hT (kt12_X1_apart l G tag L F hT.2.2.2 p0 z6639 p2 p3 m0 g0 (by omega)) m0 g0 rfl rfl qw_389 qw_390 qw_391 qw_17 qw_392 ⟨rfl, by decide +kernel, by decide +kernel, by decide +kernel⟩ ⟨Nat.le_of_ble_eq_true rfl, Nat.le_of_ble_eq_true rfl⟩ hl rfl rfl (Nat.le_of_ble_eq_true rfl) dX6_isFree_37 ⟨Nat.le_of_ble_eq_true rfl, Nat.le_of_ble_eq_true rfl⟩ (fun z6645 F9 H locs hT hz6645 => ?_)
        obtain ⟨fz6645, hz6645⟩ := hz6645
        rw [fz6645] at hT
        refine lv_aload_n hx hb dX6_isFree_40 rfl (lv_at hl 1 rfl) ?_
        refine t_get (C := RX7) (T := TX7) (N := 7) X hT m1 g1 rfl rfl 2 (by decide) qw_383 inlX7 rfl dX6_isFree_41 (fun v6646 hv6646 ov6646 => ?_)
        obtain ⟨b6647, rfl, mb6647, gb6647⟩ := okV_r ov6646
        have gb6647 : tag b6647 = 8 := tg_of gb6647
        refine lv_iload hx hb dX6_isFree_44 (lv_at hl 4 rfl) ?_
        refine t_ild X hT mb6647 gb6647 rfl (by omega) dX6_isFree_46 (fun z6648 vz6648 rz6648 => ?_)
        have rz6648 : 0 ≤ z6648.toInt ∧ z6648.toInt ≤ 6 := rz6648
        refine lv_icmp_gt (tgt := 52) hx hb dX6_isFree_47 (by decide) (fun c6649 => ?_) (fun c6649 => ?_)
        · have w6650 := cv_lt (rfl : z6648.toInt = z6648.toInt) (rfl : z6645.toInt = z6645.toInt) c6649
          obtain ⟨z6651, ez6651⟩ : ∃ y : Int32, y = z6639 + 1 := ⟨_, rfl⟩
          have hz6651 : z6651.toInt = z6639.toInt + 1 := ar_add ez6651 rfl (by decide : (1 : Int32).toInt = 1) (by omega) (by omega)
          refine lv_iinc (v := z6651) (lv' := [(4, .int z6651), (0, .ref p0), (1, .ref p1), (2, .int p2), (3, .int p3)]) hx hb dX6_isFree_52 hl (k := 4) rfl (by rw [ez6651]; rfl) (by decide) rfl (fun ls hl => ?_)
          refine lv_goto (tgt := 23) hx hb dX6_isFree_55 (by decide) ?_
          exact ih23 z6651 _ _ _ (by omega) (by omega) hT  (lv_sub hl [1, 2, 3, 4, 0] rfl)
        · have w6652 := cv_nlt (rfl : z6648.toInt = z6648.toInt) (rfl : z6645.toInt = z6645.toInt) c6649
          refine lv_iconst (v := 0) hx hb dX6_isFree_50 (by decide) ?_
          exact t_zret hQ X hT (by decide) (⟨rfl, (by decide)⟩) (Nat.le_of_ble_eq_true rfl) (Nat.le_of_ble_eq_true rfl) dX6_isFree_51
  refine lv_aload_n hx hb dX6_isFree_0 rfl (lv_at hl 0 rfl) ?_
  refine lv_iload_n hx hb dX6_isFree_1 rfl (lv_at hl 2 rfl) ?_
  refine lv_iload_n hx hb dX6_isFree_2 rfl (lv_at hl 3 rfl) ?_
  refine t_cVi (n := 2) (C := RX1) (T := TX1) (N := 20) (As := [.int p2, .int p3]) (rest := []) X hT (kt6_X1_isOn l G tag L F hT.2.2.2 p0 p2 p3 m0 g0) m0 g0 rfl rfl qw_384 qw_385 qw_386 qw_17 qw_387 ⟨rfl, by decide +kernel, by decide +kernel, by decide +kernel⟩ ⟨Nat.le_of_ble_eq_true rfl, Nat.le_of_ble_eq_true rfl⟩ hl rfl rfl (Nat.le_of_ble_eq_true rfl) dX6_isFree_3 ⟨Nat.le_of_ble_eq_true rfl, Nat.le_of_ble_eq_true rfl⟩ (fun z6653 F9 H locs hT hz6653 => ?_)
  obtain ⟨fz6653, hz6653⟩ := hz6653
  rw [fz6653] at hT
  refine lv_if_eq (tgt := 18) hx hb dX6_isFree_6 (by decide) (fun c6654 => ?_) (fun c6654 => ?_)
  · have w6655 := cv_eq (rfl : z6653.toInt = z6653.toInt) (by decide : (0 : Int32).toInt = 0) c6654
    refine lv_iconst (v := 0) hx hb dX6_isFree_18 (by decide) ?_
    exact t_zret hQ X hT (by decide) (⟨rfl, (by decide)⟩) (Nat.le_of_ble_eq_true rfl) (Nat.le_of_ble_eq_true rfl) dX6_isFree_19
  · have w6656 := cv_ne (rfl : z6653.toInt = z6653.toInt) (by decide : (0 : Int32).toInt = 0) c6654
    refine lv_aload_n hx hb dX6_isFree_9 rfl (lv_at hl 0 rfl) ?_
    refine lv_iload_n hx hb dX6_isFree_10 rfl (lv_at hl 2 rfl) ?_
    refine lv_iload_n hx hb dX6_isFree_11 rfl (lv_at hl 3 rfl) ?_
    refine t_cVi (n := 2) (C := RX1) (T := TX1) (N := 20) (As := [.int p2, .int p3]) (rest := []) X hT (kt7_X1_isWet l G tag L F hT.2.2.2 p0 p2 p3 m0 g0) m0 g0 rfl rfl qw_388 qw_345 qw_346 qw_17 qw_347 ⟨rfl, by decide +kernel, by decide +kernel, by decide +kernel⟩ ⟨Nat.le_of_ble_eq_true rfl, Nat.le_of_ble_eq_true rfl⟩ hl rfl rfl (Nat.le_of_ble_eq_true rfl) dX6_isFree_12 ⟨Nat.le_of_ble_eq_true rfl, Nat.le_of_ble_eq_true rfl⟩ (fun z6657 F9 H locs hT hz6657 => ?_)
    obtain ⟨fz6657, hz6657⟩ := hz6657
    rw [fz6657] at hT
    refine lv_if_eq (tgt := 20) hx hb dX6_isFree_15 (by decide) (fun c6658 => ?_) (fun c6658 => ?_)
    · have w6659 := cv_eq (rfl : z6657.toInt = z6657.toInt) (by decide : (0 : Int32).toInt = 0) c6658
      refine lv_iconst (v := 0) hx hb dX6_isFree_20 (by decide) ?_
      refine lv_istore (lv' := [(4, .int 0), (0, .ref p0), (1, .ref p1), (2, .int p2), (3, .int p3)]) hx hb dX6_isFree_21 hl (by decide) rfl (fun ls hl => ?_)
      have kk6660 : (0 : Int32).toInt = 0 := by decide
      exact K23 5 0 _ _ _ (by omega) (by decide) hT  (lv_sub hl [1, 2, 3, 4, 0] rfl)
    · have w6661 := cv_ne (rfl : z6657.toInt = z6657.toInt) (by decide : (0 : Int32).toInt = 0) c6658
      refine lv_iconst (v := 0) hx hb dX6_isFree_18 (by decide) ?_
      exact t_zret hQ X hT (by decide) (⟨rfl, (by decide)⟩) (Nat.le_of_ble_eq_true rfl) (Nat.le_of_ble_eq_true rfl) dX6_isFree_19
set_option maxHeartbeats 4000000 in
set_option maxRecDepth 100000 in
theorem kt30_X6_isLeftTo (l : Launch) (G : KG) (tag : Nat → Nat) (L : List Nat) (F : Nat → va_E) (ho : okT G ttC tag L F) (p0 : Nat) (p1 : Nat) (p2 : Int32) (p3 : Int32) (p4 : Int32) (m0 : p0 ∈ L) (g0 : tag p0 = 18) (m1 : p1 ∈ L) (g1 : tag p1 = 19) : TMi l yX6_isLeftTo cX6_isLeftTo 8 (some .boolean) { frames := 1, cells := 0, slots := 0, locals := 25 } G ttC tag L F [.ref p0, .ref p1, .int p2, .int p3, .int p4] (fun r F1 => F1 = F ∧ (0 ≤ r.toInt ∧ r.toInt ≤ 1)) := by
  refine t_bodyi (y := yX6_isLeftTo) (cd := cX6_isLeftTo) (mL := 8) (rt := (some .boolean)) (rm := { frames := 1, cells := 0, slots := 0, locals := 25 }) (av := [.ref p0, .ref p1, .int p2, .int p3, .int p4]) (by decide) (Nat.le_of_ble_eq_true rfl) ho ?_
  intro p e s m args below meth c ls A Q hQ X hT hl
  have hx := X.1.1
  have hb := X.1.2.1
  have hl : lv_has ls 8 [(0, .ref p0), (1, .ref p1), (2, .int p2), (3, .int p3), (4, .int p4)] := hl
  have rp2 := rg_all p2
  have rp3 := rg_all p3
  have rp4 := rg_all p4
  have K3 : ∀ (n : Nat) (z7260 : Int32) (H : Heap) (locs : List Loc) (ls : Array Slot), (4 - z7260.toInt < (n : Int)) → (0 ≤ z7260.toInt ∧ z7260.toInt ≤ 4) → TH G ttC A s tag L F H locs → lv_has ls 8 [(0, .ref p0), (1, .ref p1), (2, .int p2), (3, .int p3), (4, .int p4), (5, .int z7260)] → W p l e { frames := 1, cells := 0, slots := 0, locals := 25 } s m args below meth c H locs 0 0 Q (F0 m 3 ls []) := by
    intro n
    induction n with
    | zero =>
      intro z7260 H locs ls hn rz7260 hT hl
      exfalso
      omega
    | succ n ih3 =>
      intro z7260 H locs ls hn rz7260 hT hl
      have K82 : ∀ (z7262 : Int32) (z7263 : Int32) (z7264 : Int32) (z7265 : Int32) (H : Heap) (locs : List Loc) (ls : Array Slot), (0 ≤ z7263.toInt ∧ z7263.toInt ≤ 1) → (1 ≤ z7264.toInt ∧ z7264.toInt ≤ 4) → (0 ≤ z7265.toInt ∧ z7265.toInt ≤ 1) → (0 ≤ z7260.toInt ∧ z7260.toInt ≤ 3) → TH G ttC A s tag L F H locs → fld F p0 10 = .int z7264 → fld F p0 3 = .int z7265 → lv_has ls 8 [(0, .ref p0), (1, .ref p1), (2, .int p2), (3, .int p3), (4, .int p4), (5, .int z7260), (6, .int z7262), (7, .int z7263)] → W p l e { frames := 1, cells := 0, slots := 0, locals := 25 } s m args below meth c H locs 0 0 Q (F0 m 82 ls []) := by
        intro z7262 z7263 z7264 z7265 H locs ls rz7263 rz7264 rz7265 r9s7261 hT qz7264 qz7265 hl
        have rz7262 := rg_all z7262
        obtain ⟨z7266, ez7266⟩ : ∃ y : Int32, y = z7260 + 1 := ⟨_, rfl⟩
        have hz7266 : z7266.toInt = z7260.toInt + 1 := ar_add ez7266 rfl (by decide : (1 : Int32).toInt = 1) (by omega) (by omega)
        refine lv_iinc (v := z7266) (lv' := [(5, .int z7266), (0, .ref p0), (1, .ref p1), (2, .int p2), (3, .int p3), (4, .int p4), (6, .int z7262), (7, .int z7263)]) hx hb dX6_isLeftTo_82 hl (k := 5) rfl (by rw [ez7266]; rfl) (by decide) rfl (fun ls hl => ?_)
        refine lv_goto (tgt := 3) hx hb dX6_isLeftTo_85 (by decide) ?_
        exact ih3 z7266 _ _ _ (by omega) (by omega) hT  (lv_sub hl [1, 2, 3, 4, 5, 0] rfl)
      have K67 : ∀ (z7268 : Int32) (z7269 : Int32) (z7270 : Int32) (z7271 : Int32) (H : Heap) (locs : List Loc) (ls : Array Slot), (0 ≤ z7269.toInt ∧ z7269.toInt ≤ 1) → (1 ≤ z7270.toInt ∧ z7270.toInt ≤ 4) → (0 ≤ z7271.toInt ∧ z7271.toInt ≤ 1) → (0 ≤ z7260.toInt ∧ z7260.toInt ≤ 3) → TH G ttC A s tag L F H locs → fld F p0 10 = .int z7270 → fld F p0 3 = .int z7271 → lv_has ls 8 [(0, .ref p0), (1, .ref p1), (2, .int p2), (3, .int p3), (4, .int p4), (5, .int z7260), (6, .int z7268)] → W p l e { frames := 1, cells := 0, slots := 0, locals := 25 } s m args below meth c H locs 0 0 Q (F0 m 67 ls [.int z7269]) := by
        intro z7268 z7269 z7270 z7271 H locs ls rz7269 rz7270 rz7271 r9s7267 hT qz7270 qz7271 hl
        have rz7268 := rg_all z7268
        refine lv_istore (lv' := [(7, .int z7269), (0, .ref p0), (1, .ref p1), (2, .int p2), (3, .int p3), (4, .int p4), (5, .int z7260), (6, .int z7268)]) hx hb dX6_isLeftTo_67 hl (by decide) rfl (fun ls hl => ?_)
        refine lv_iload hx hb dX6_isLeftTo_69 (lv_at hl 6 rfl) ?_
        refine lv_iload_n hx hb dX6_isLeftTo_71 rfl (lv_at hl 3 rfl) ?_
        refine lv_icmp_eq (tgt := 82) hx hb dX6_isLeftTo_72 (by decide) (fun c7272 => ?_) (fun c7272 => ?_)
        · have w7273 := cv_eq (rfl : z7260.toInt = z7260.toInt) (rfl : p2.toInt = p2.toInt) c7272
          exact K82 z7268 z7269 z7270 z7271 _ _ _ (by omega) (by omega) (by omega) (by omega) hT qz7270 qz7271 (lv_sub hl [1, 2, 3, 4, 5, 6, 7, 0] rfl)
        · have w7274 := cv_ne (rfl : z7260.toInt = z7260.toInt) (rfl : p2.toInt = p2.toInt) c7272
          refine lv_iload hx hb dX6_isLeftTo_75 (lv_at hl 0 rfl) ?_
          refine lv_if_eq (tgt := 82) hx hb dX6_isLeftTo_77 (by decide) (fun c7275 => ?_) (fun c7275 => ?_)
          · have w7276 := cv_eq (rfl : z7269.toInt = z7269.toInt) (by decide : (0 : Int32).toInt = 0) c7275
            exact K82 z7268 z7269 z7270 z7271 _ _ _ (by omega) (by omega) (by omega) (by omega) hT qz7270 qz7271 (lv_sub hl [1, 2, 3, 4, 5, 6, 7, 0] rfl)
          · have w7277 := cv_ne (rfl : z7269.toInt = z7269.toInt) (by decide : (0 : Int32).toInt = 0) c7275
            refine lv_iconst (v := 0) hx hb dX6_isLeftTo_80 (by decide) ?_
            exact t_zret hQ X hT (by decide) (⟨rfl, (by decide)⟩) (Nat.le_of_ble_eq_true rfl) (Nat.le_of_ble_eq_true rfl) dX6_isLeftTo_81
      refine lv_iload hx hb dX6_isLeftTo_3 (lv_at hl 5 rfl) ?_
      refine lv_aload_n hx hb dX6_isLeftTo_5 rfl (lv_at hl 0 rfl) ?_
      refine t_get (C := RX1) (T := TX1) (N := 20) X hT m0 g0 rfl rfl 10 (by decide) qw_382 inlX1 rfl dX6_isLeftTo_6 (fun v7278 hv7278 ov7278 => ?_)
      obtain ⟨z7279, rfl, rz7279⟩ := okV_i ov7278
      refine lv_icmp_ge (tgt := 88) hx hb dX6_isLeftTo_9 (by decide) (fun c7280 => ?_) (fun c7280 => ?_)
      · have w7281 := cv_le (rfl : z7279.toInt = z7279.toInt) (rfl : z7260.toInt = z7260.toInt) c7280
        refine lv_iconst (v := 1) hx hb dX6_isLeftTo_88 (by decide) ?_
        exact t_zret hQ X hT (by decide) (⟨rfl, (by decide)⟩) (Nat.le_of_ble_eq_true rfl) (Nat.le_of_ble_eq_true rfl) dX6_isLeftTo_89
      · have w7282 := cv_nle (rfl : z7279.toInt = z7279.toInt) (rfl : z7260.toInt = z7260.toInt) c7280
        refine lv_aload_n hx hb dX6_isLeftTo_12 rfl (lv_at hl 0 rfl) ?_
        refine lv_iload hx hb dX6_isLeftTo_13 (lv_at hl 5 rfl) ?_
        refine lv_iload_n hx hb dX6_isLeftTo_15 rfl (lv_at hl 3 rfl) ?_
        refine lv_iload hx hb dX6_isLeftTo_16 (lv_at hl 4 rfl) ?_
        refine t_cVi (n := 3) (C := RX1) (T := TX1) (N := 20) (As := [.int z7260, .int p3, .int p4]) (rest := []) X hT (kt12_X1_apart l G tag L F hT.2.2.2 p0 z7260 p3 p4 m0 g0 (by omega)) m0 g0 rfl rfl qw_389 qw_390 qw_391 qw_17 qw_392 ⟨rfl, by decide +kernel, by decide +kernel, by decide +kernel⟩ ⟨Nat.le_of_ble_eq_true rfl, Nat.le_of_ble_eq_true rfl⟩ hl rfl rfl (Nat.le_of_ble_eq_true rfl) dX6_isLeftTo_18 ⟨Nat.le_of_ble_eq_true rfl, Nat.le_of_ble_eq_true rfl⟩ (fun z7283 F9 H locs hT hz7283 => ?_)
        obtain ⟨fz7283, hz7283⟩ := hz7283
        rw [fz7283] at hT
        refine lv_istore (lv' := [(6, .int z7283), (0, .ref p0), (1, .ref p1), (2, .int p2), (3, .int p3), (4, .int p4), (5, .int z7260)]) hx hb dX6_isLeftTo_21 hl (by decide) rfl (fun ls hl => ?_)
        refine lv_aload_n hx hb dX6_isLeftTo_23 rfl (lv_at hl 1 rfl) ?_
        refine t_get (C := RX1) (T := TX1) (N := 20) X hT m0 g0 rfl rfl 3 (by decide) qw_417 inlX1 rfl dX6_isLeftTo_24 (fun v7284 hv7284 ov7284 => ?_)
        obtain ⟨z7285, rfl, rz7285⟩ := okV_i ov7284
        refine lv_if_eq (tgt := 50) hx hb dX6_isLeftTo_27 (by decide) (fun c7286 => ?_) (fun c7286 => ?_)
        · have w7287 := cv_eq (rfl : z7285.toInt = z7285.toInt) (by decide : (0 : Int32).toInt = 0) c7286
          refine lv_iload hx hb dX6_isLeftTo_50 (lv_at hl 0 rfl) ?_
          refine lv_aload_n hx hb dX6_isLeftTo_52 rfl (lv_at hl 2 rfl) ?_
          refine t_get (C := RX7) (T := TX7) (N := 7) X hT m1 g1 rfl rfl 2 (by decide) qw_383 inlX7 rfl dX6_isLeftTo_53 (fun v7288 hv7288 ov7288 => ?_)
          obtain ⟨b7289, rfl, mb7289, gb7289⟩ := okV_r ov7288
          have gb7289 : tag b7289 = 8 := tg_of gb7289
          refine lv_iload hx hb dX6_isLeftTo_56 (lv_at hl 6 rfl) ?_
          refine t_ild X hT mb7289 gb7289 rfl (by omega) dX6_isLeftTo_58 (fun z7290 vz7290 rz7290 => ?_)
          have rz7290 : 0 ≤ z7290.toInt ∧ z7290.toInt ≤ 6 := rz7290
          refine lv_icmp_gt (tgt := 66) hx hb dX6_isLeftTo_59 (by decide) (fun c7291 => ?_) (fun c7291 => ?_)
          · have w7292 := cv_lt (rfl : z7290.toInt = z7290.toInt) (rfl : z7283.toInt = z7283.toInt) c7291
            refine lv_iconst (v := 0) hx hb dX6_isLeftTo_66 (by decide) ?_
            exact K67 z7283 0 z7279 z7285 _ _ _ (by decide) (by omega) (by omega) (by omega) hT hv7278 hv7284 (lv_sub hl [1, 2, 3, 4, 5, 6, 0] rfl)
          · have w7293 := cv_nlt (rfl : z7290.toInt = z7290.toInt) (rfl : z7283.toInt = z7283.toInt) c7291
            refine lv_iconst (v := 1) hx hb dX6_isLeftTo_62 (by decide) ?_
            refine lv_goto (tgt := 67) hx hb dX6_isLeftTo_63 (by decide) ?_
            exact K67 z7283 1 z7279 z7285 _ _ _ (by decide) (by omega) (by omega) (by omega) hT hv7278 hv7284 (lv_sub hl [1, 2, 3, 4, 5, 6, 0] rfl)
        · have w7294 := cv_ne (rfl : z7285.toInt = z7285.toInt) (by decide : (0 : Int32).toInt = 0) c7286
          refine lv_iload hx hb dX6_isLeftTo_30 (lv_at hl 0 rfl) ?_
          refine lv_aload_n hx hb dX6_isLeftTo_32 rfl (lv_at hl 2 rfl) ?_
          refine t_get (C := RX7) (T := TX7) (N := 7) X hT m1 g1 rfl rfl 2 (by decide) qw_383 inlX7 rfl dX6_isLeftTo_33 (fun v7295 hv7295 ov7295 => ?_)
          obtain ⟨b7296, rfl, mb7296, gb7296⟩ := okV_r ov7295
          have gb7296 : tag b7296 = 8 := tg_of gb7296
          refine lv_iload hx hb dX6_isLeftTo_36 (lv_at hl 6 rfl) ?_
          refine t_ild X hT mb7296 gb7296 rfl (by omega) dX6_isLeftTo_38 (fun z7297 vz7297 rz7297 => ?_)
          have rz7297 : 0 ≤ z7297.toInt ∧ z7297.toInt ≤ 6 := rz7297
          refine lv_icmp_ge (tgt := 46) hx hb dX6_isLeftTo_39 (by decide) (fun c7298 => ?_) (fun c7298 => ?_)
          · have w7299 := cv_le (rfl : z7297.toInt = z7297.toInt) (rfl : z7283.toInt = z7283.toInt) c7298
            refine lv_iconst (v := 0) hx hb dX6_isLeftTo_46 (by decide) ?_
            refine lv_goto (tgt := 67) hx hb dX6_isLeftTo_47 (by decide) ?_
            exact K67 z7283 0 z7279 z7285 _ _ _ (by decide) (by omega) (by omega) (by omega) hT hv7278 hv7284 (lv_sub hl [1, 2, 3, 4, 5, 6, 0] rfl)
          · have w7300 := cv_nle (rfl : z7297.toInt = z7297.toInt) (rfl : z7283.toInt = z7283.toInt) c7298
            refine lv_iconst (v := 1) hx hb dX6_isLeftTo_42 (by decide) ?_
            refine lv_goto (tgt := 67) hx hb dX6_isLeftTo_43 (by decide) ?_
            exact K67 z7283 1 z7279 z7285 _ _ _ (by decide) (by omega) (by omega) (by omega) hT hv7278 hv7284 (lv_sub hl [1, 2, 3, 4, 5, 6, 0] rfl)
  refine lv_iconst (v := 0) hx hb dX6_isLeftTo_0 (by decide) ?_
  refine lv_istore (lv' := [(5, .int 0), (0, .ref p0), (1, .ref p1), (2, .int p2), (3, .int p3), (4, .int p4)]) hx hb dX6_isLeftTo_1 hl (by decide) rfl (fun ls hl => ?_)
  have kk7301 : (0 : Int32).toInt = 0 := by decide
  exact K3 5 0 _ _ _ (by omega) (by decide) hT  (lv_sub hl [1, 2, 3, 4, 5, 0] rfl)
set_option maxHeartbeats 4000000 in
set_option maxRecDepth 100000 in
theorem kt31_X6_isFit (l : Launch) (G : KG) (tag : Nat → Nat) (L : List Nat) (F : Nat → va_E) (ho : okT G ttC tag L F) (p0 : Nat) (p1 : Nat) (p2 : Int32) (m0 : p0 ∈ L) (g0 : tag p0 = 18) (m1 : p1 ∈ L) (g1 : tag p1 = 19) (h2 : 0 ≤ p2.toInt ∧ p2.toInt ≤ 3) : TMi l yX6_isFit cX6_isFit 9 (some .boolean) { frames := 2, cells := 0, slots := 0, locals := 52 } G ttC tag L F [.ref p0, .ref p1, .int p2] (fun r F1 => F1 = F ∧ (0 ≤ r.toInt ∧ r.toInt ≤ 1)) := by
  refine t_bodyi (y := yX6_isFit) (cd := cX6_isFit) (mL := 9) (rt := (some .boolean)) (rm := { frames := 2, cells := 0, slots := 0, locals := 52 }) (av := [.ref p0, .ref p1, .int p2]) (by decide) (Nat.le_of_ble_eq_true rfl) ho ?_
  intro p e s m args below meth c ls A Q hQ X hT hl
  have hx := X.1.1
  have hb := X.1.2.1
  have hl : lv_has ls 9 [(0, .ref p0), (1, .ref p1), (2, .int p2)] := hl
  have K66 : ∀ (n : Nat) (z8052 : Int32) (z8053 : Int32) (z8054 : Int32) (z8055 : Int32) (H : Heap) (locs : List Loc) (ls : Array Slot), (48 - z8055.toInt < (n : Int)) → (1 ≤ z8052.toInt ∧ z8052.toInt ≤ 6) → (0 ≤ z8053.toInt ∧ z8053.toInt ≤ 11) → (0 ≤ z8054.toInt ∧ z8054.toInt ≤ 11) → (0 ≤ z8055.toInt ∧ z8055.toInt ≤ 48) → TH G ttC A s tag L F H locs → lv_has ls 9 [(0, .ref p0), (1, .ref p1), (2, .int p2), (3, .int z8052), (4, .int z8053), (5, .int z8054), (6, .int z8055)] → W p l e { frames := 2, cells := 0, slots := 0, locals := 52 } s m args below meth c H locs 0 0 Q (F0 m 66 ls []) := by
    intro n
    induction n with
    | zero =>
      intro z8052 z8053 z8054 z8055 H locs ls hn rz8052 rz8053 rz8054 rz8055 hT hl
      exfalso
      omega
    | succ n ih66 =>
      intro z8052 z8053 z8054 z8055 H locs ls hn rz8052 rz8053 rz8054 rz8055 hT hl
      refine lv_iload hx hb dX6_isFit_66 (lv_at hl 6 rfl) ?_
      refine lv_bipush (v := 8) hx hb dX6_isFit_68 (by decide) ?_
      refine lv_iload_n hx hb dX6_isFit_70 rfl (lv_at hl 3 rfl) ?_
      refine lv_imul hx hb dX6_isFit_71 ?_
      refine lv_topi (fun z8056 ez8056 => ?_)
      have hz8056 : z8056.toInt = 8 * z8052.toInt := ar_mul ez8056 (by decide : (8 : Int32).toInt = 8) (rfl : z8052.toInt = z8052.toInt) (by omega) (by omega)
      have rz8056 : 8 ≤ z8056.toInt ∧ z8056.toInt ≤ 48 := by omega
      refine lv_icmp_ge (tgt := 129) hx hb dX6_isFit_72 (by decide) (fun c8057 => ?_) (fun c8057 => ?_)
      · have w8058 := cv_le (rfl : z8056.toInt = z8056.toInt) (rfl : z8055.toInt = z8055.toInt) c8057
        refine lv_iconst (v := 1) hx hb dX6_isFit_129 (by decide) ?_
        exact t_zret hQ X hT (by decide) (⟨rfl, (by decide)⟩) (Nat.le_of_ble_eq_true rfl) (Nat.le_of_ble_eq_true rfl) dX6_isFit_130
      · have w8059 := cv_nle (rfl : z8056.toInt = z8056.toInt) (rfl : z8055.toInt = z8055.toInt) c8057
        refine lv_iload hx hb dX6_isFit_75 (lv_at hl 4 rfl) ?_
        refine lv_iload_n hx hb dX6_isFit_77 rfl (lv_at hl 3 rfl) ?_
        refine lv_iload hx hb dX6_isFit_78 (lv_at hl 6 rfl) ?_
        refine t_cSi (n := 2) (As := [.int z8052, .int z8055]) (rest := [.int z8053]) X hT (kt0_X4_eastOf l G tag L F hT.2.2.2 z8052 z8055 ) qw_407 qw_408 qw_409 qw_410 ⟨by decide +kernel, by decide +kernel, by decide +kernel⟩ ⟨Nat.le_of_ble_eq_true rfl, Nat.le_of_ble_eq_true rfl⟩ hl rfl rfl (Nat.le_of_ble_eq_true rfl) dX6_isFit_80 ⟨Nat.le_of_ble_eq_true rfl, Nat.le_of_ble_eq_true rfl⟩ (fun z8060 F9 H locs hT hz8060 => ?_)
        obtain ⟨fz8060, hz8060⟩ := hz8060
        rw [fz8060] at hT
        refine lv_iadd hx hb dX6_isFit_83 ?_
        refine lv_topi (fun z8061 ez8061 => ?_)
        have rz8061 := rg_all z8061
        refine lv_istore (lv' := [(7, .int z8061), (0, .ref p0), (1, .ref p1), (2, .int p2), (3, .int z8052), (4, .int z8053), (5, .int z8054), (6, .int z8055)]) hx hb dX6_isFit_84 hl (by decide) rfl (fun ls hl => ?_)
        refine lv_iload hx hb dX6_isFit_86 (lv_at hl 6 rfl) ?_
        refine lv_iload_n hx hb dX6_isFit_88 rfl (lv_at hl 4 rfl) ?_
        refine lv_iload hx hb dX6_isFit_89 (lv_at hl 7 rfl) ?_
        refine t_cSi (n := 2) (As := [.int z8052, .int z8055]) (rest := [.int z8054]) X hT (kt1_X4_southOf l G tag L F hT.2.2.2 z8052 z8055 ) qw_411 qw_412 qw_409 qw_413 ⟨by decide +kernel, by decide +kernel, by decide +kernel⟩ ⟨Nat.le_of_ble_eq_true rfl, Nat.le_of_ble_eq_true rfl⟩ hl rfl rfl (Nat.le_of_ble_eq_true rfl) dX6_isFit_91 ⟨Nat.le_of_ble_eq_true rfl, Nat.le_of_ble_eq_true rfl⟩ (fun z8062 F9 H locs hT hz8062 => ?_)
        obtain ⟨fz8062, hz8062⟩ := hz8062
        rw [fz8062] at hT
        refine lv_iadd hx hb dX6_isFit_94 ?_
        refine lv_topi (fun z8063 ez8063 => ?_)
        have rz8063 := rg_all z8063
        refine lv_istore (lv' := [(8, .int z8063), (7, .int z8061), (0, .ref p0), (1, .ref p1), (2, .int p2), (3, .int z8052), (4, .int z8053), (5, .int z8054), (6, .int z8055)]) hx hb dX6_isFit_95 hl (by decide) rfl (fun ls hl => ?_)
        refine lv_aload_n hx hb dX6_isFit_97 rfl (lv_at hl 2 rfl) ?_
        refine lv_iload hx hb dX6_isFit_98 (lv_at hl 1 rfl) ?_
        refine lv_iload hx hb dX6_isFit_100 (lv_at hl 0 rfl) ?_
        refine t_cVi (n := 2) (C := RX1) (T := TX1) (N := 20) (As := [.int z8061, .int z8063]) (rest := []) X hT (kt7_X1_isWet l G tag L F hT.2.2.2 p0 z8061 z8063 m0 g0) m0 g0 rfl rfl qw_388 qw_345 qw_346 qw_17 qw_347 ⟨rfl, by decide +kernel, by decide +kernel, by decide +kernel⟩ ⟨Nat.le_of_ble_eq_true rfl, Nat.le_of_ble_eq_true rfl⟩ hl rfl rfl (Nat.le_of_ble_eq_true rfl) dX6_isFit_102 ⟨Nat.le_of_ble_eq_true rfl, Nat.le_of_ble_eq_true rfl⟩ (fun z8064 F9 H locs hT hz8064 => ?_)
        obtain ⟨fz8064, hz8064⟩ := hz8064
        rw [fz8064] at hT
        refine lv_if_ne (tgt := 121) hx hb dX6_isFit_105 (by decide) (fun c8065 => ?_) (fun c8065 => ?_)
        · have w8066 := cv_ne (rfl : z8064.toInt = z8064.toInt) (by decide : (0 : Int32).toInt = 0) c8065
          refine lv_iconst (v := 0) hx hb dX6_isFit_121 (by decide) ?_
          exact t_zret hQ X hT (by decide) (⟨rfl, (by decide)⟩) (Nat.le_of_ble_eq_true rfl) (Nat.le_of_ble_eq_true rfl) dX6_isFit_122
        · have w8067 := cv_eq (rfl : z8064.toInt = z8064.toInt) (by decide : (0 : Int32).toInt = 0) c8065
          refine lv_aload_n hx hb dX6_isFit_108 rfl (lv_at hl 2 rfl) ?_
          refine lv_aload_n hx hb dX6_isFit_109 rfl (lv_at hl 3 rfl) ?_
          refine lv_iload_n hx hb dX6_isFit_110 rfl (lv_at hl 4 rfl) ?_
          refine lv_iload hx hb dX6_isFit_111 (lv_at hl 1 rfl) ?_
          refine lv_iload hx hb dX6_isFit_113 (lv_at hl 0 rfl) ?_
          refine t_cSi (n := 5) (As := [.ref p0, .ref p1, .int p2, .int z8061, .int z8063]) (rest := []) X hT (kt30_X6_isLeftTo l G tag L F hT.2.2.2 p0 p1 p2 z8061 z8063 m0 g0 m1 g1) qw_414 qw_415 qw_380 qw_416 ⟨by decide +kernel, by decide +kernel, by decide +kernel⟩ ⟨Nat.le_of_ble_eq_true rfl, Nat.le_of_ble_eq_true rfl⟩ hl rfl rfl (Nat.le_of_ble_eq_true rfl) dX6_isFit_115 ⟨Nat.le_of_ble_eq_true rfl, Nat.le_of_ble_eq_true rfl⟩ (fun z8068 F9 H locs hT hz8068 => ?_)
          obtain ⟨fz8068, hz8068⟩ := hz8068
          rw [fz8068] at hT
          refine lv_if_ne (tgt := 123) hx hb dX6_isFit_118 (by decide) (fun c8069 => ?_) (fun c8069 => ?_)
          · have w8070 := cv_ne (rfl : z8068.toInt = z8068.toInt) (by decide : (0 : Int32).toInt = 0) c8069
            obtain ⟨z8071, ez8071⟩ : ∃ y : Int32, y = z8055 + 1 := ⟨_, rfl⟩
            have hz8071 : z8071.toInt = z8055.toInt + 1 := ar_add ez8071 rfl (by decide : (1 : Int32).toInt = 1) (by omega) (by omega)
            refine lv_iinc (v := z8071) (lv' := [(6, .int z8071), (8, .int z8063), (7, .int z8061), (0, .ref p0), (1, .ref p1), (2, .int p2), (3, .int z8052), (4, .int z8053), (5, .int z8054)]) hx hb dX6_isFit_123 hl (k := 8) rfl (by rw [ez8071]; rfl) (by decide) rfl (fun ls hl => ?_)
            refine lv_goto (tgt := 66) hx hb dX6_isFit_126 (by decide) ?_
            exact ih66 z8052 z8053 z8054 z8071 _ _ _ (by omega) (by omega) (by omega) (by omega) (by omega) hT  (lv_sub hl [3, 4, 5, 6, 7, 8, 0] rfl)
          · have w8072 := cv_eq (rfl : z8068.toInt = z8068.toInt) (by decide : (0 : Int32).toInt = 0) c8069
            refine lv_iconst (v := 0) hx hb dX6_isFit_121 (by decide) ?_
            exact t_zret hQ X hT (by decide) (⟨rfl, (by decide)⟩) (Nat.le_of_ble_eq_true rfl) (Nat.le_of_ble_eq_true rfl) dX6_isFit_122
  refine lv_aload_n hx hb dX6_isFit_0 rfl (lv_at hl 1 rfl) ?_
  refine t_get (C := RX7) (T := TX7) (N := 7) X hT m1 g1 rfl rfl 2 (by decide) qw_383 inlX7 rfl dX6_isFit_1 (fun v8073 hv8073 ov8073 => ?_)
  obtain ⟨b8074, rfl, mb8074, gb8074⟩ := okV_r ov8073
  have gb8074 : tag b8074 = 8 := tg_of gb8074
  refine lv_iload_n hx hb dX6_isFit_4 rfl (lv_at hl 2 rfl) ?_
  refine t_ild X hT mb8074 gb8074 rfl (by omega) dX6_isFit_5 (fun z8075 vz8075 rz8075 => ?_)
  have rz8075 : 0 ≤ z8075.toInt ∧ z8075.toInt ≤ 6 := rz8075
  refine lv_iconst (v := 1) hx hb dX6_isFit_6 (by decide) ?_
  refine lv_iadd hx hb dX6_isFit_7 ?_
  refine lv_topi (fun z8076 ez8076 => ?_)
  have hz8076 : z8076.toInt = z8075.toInt + 1 := ar_add ez8076 (rfl : z8075.toInt = z8075.toInt) (by decide : (1 : Int32).toInt = 1) (by omega) (by omega)
  have rz8076 : 1 ≤ z8076.toInt ∧ z8076.toInt ≤ 7 := by omega
  refine lv_istore_n (lv' := [(3, .int z8076), (0, .ref p0), (1, .ref p1), (2, .int p2)]) hx hb dX6_isFit_8 rfl hl (by decide) rfl (fun ls hl => ?_)
  refine lv_aload_n hx hb dX6_isFit_9 rfl (lv_at hl 1 rfl) ?_
  refine t_get (C := RX1) (T := TX1) (N := 20) X hT m0 g0 rfl rfl 11 (by decide) qw_405 inlX1 rfl dX6_isFit_10 (fun v8077 hv8077 ov8077 => ?_)
  obtain ⟨b8078, rfl, mb8078, gb8078⟩ := okV_r ov8077
  have gb8078 : tag b8078 = 4 := tg_of gb8078
  refine lv_iload_n hx hb dX6_isFit_13 rfl (lv_at hl 3 rfl) ?_
  refine t_ild X hT mb8078 gb8078 rfl (by omega) dX6_isFit_14 (fun z8079 vz8079 rz8079 => ?_)
  have rz8079 : 0 ≤ z8079.toInt ∧ z8079.toInt ≤ 11 := rz8079
  refine lv_istore (lv' := [(4, .int z8079), (3, .int z8076), (0, .ref p0), (1, .ref p1), (2, .int p2)]) hx hb dX6_isFit_15 hl (by decide) rfl (fun ls hl => ?_)
  refine lv_aload_n hx hb dX6_isFit_17 rfl (lv_at hl 2 rfl) ?_
  refine t_get (C := RX1) (T := TX1) (N := 20) X hT m0 g0 rfl rfl 12 (by decide) qw_406 inlX1 rfl dX6_isFit_18 (fun v8080 hv8080 ov8080 => ?_)
  obtain ⟨b8081, rfl, mb8081, gb8081⟩ := okV_r ov8080
  have gb8081 : tag b8081 = 4 := tg_of gb8081
  refine lv_iload_n hx hb dX6_isFit_21 rfl (lv_at hl 4 rfl) ?_
  refine t_ild X hT mb8081 gb8081 rfl (by omega) dX6_isFit_22 (fun z8082 vz8082 rz8082 => ?_)
  have rz8082 : 0 ≤ z8082.toInt ∧ z8082.toInt ≤ 11 := rz8082
  refine lv_istore (lv' := [(5, .int z8082), (4, .int z8079), (3, .int z8076), (0, .ref p0), (1, .ref p1), (2, .int p2)]) hx hb dX6_isFit_23 hl (by decide) rfl (fun ls hl => ?_)
  refine lv_iload_n hx hb dX6_isFit_25 rfl (lv_at hl 2 rfl) ?_
  refine lv_bipush (v := 6) hx hb dX6_isFit_26 (by decide) ?_
  refine lv_icmp_gt (tgt := 61) hx hb dX6_isFit_28 (by decide) (fun c8083 => ?_) (fun c8083 => ?_)
  · have w8084 := cv_lt (by decide : (6 : Int32).toInt = 6) (rfl : z8076.toInt = z8076.toInt) c8083
    refine lv_iconst (v := 0) hx hb dX6_isFit_61 (by decide) ?_
    exact t_zret hQ X hT (by decide) (⟨rfl, (by decide)⟩) (Nat.le_of_ble_eq_true rfl) (Nat.le_of_ble_eq_true rfl) dX6_isFit_62
  · have w8085 := cv_nlt (by decide : (6 : Int32).toInt = 6) (rfl : z8076.toInt = z8076.toInt) c8083
    refine lv_aload_n hx hb dX6_isFit_31 rfl (lv_at hl 3 rfl) ?_
    refine lv_iload hx hb dX6_isFit_32 (lv_at hl 1 rfl) ?_
    refine lv_iload_n hx hb dX6_isFit_34 rfl (lv_at hl 2 rfl) ?_
    refine lv_isub hx hb dX6_isFit_35 ?_
    refine lv_topi (fun z8086 ez8086 => ?_)
    have hz8086 : z8086.toInt = z8079.toInt - z8076.toInt := ar_sub ez8086 (rfl : z8079.toInt = z8079.toInt) (rfl : z8076.toInt = z8076.toInt) (by omega) (by omega)
    have rz8086 : (-6) ≤ z8086.toInt ∧ z8086.toInt ≤ 10 := by omega
    refine lv_iload hx hb dX6_isFit_36 (lv_at hl 0 rfl) ?_
    refine lv_iload_n hx hb dX6_isFit_38 rfl (lv_at hl 2 rfl) ?_
    refine lv_isub hx hb dX6_isFit_39 ?_
    refine lv_topi (fun z8087 ez8087 => ?_)
    have hz8087 : z8087.toInt = z8082.toInt - z8076.toInt := ar_sub ez8087 (rfl : z8082.toInt = z8082.toInt) (rfl : z8076.toInt = z8076.toInt) (by omega) (by omega)
    have rz8087 : (-6) ≤ z8087.toInt ∧ z8087.toInt ≤ 10 := by omega
    refine t_cVi (n := 2) (C := RX1) (T := TX1) (N := 20) (As := [.int z8086, .int z8087]) (rest := []) X hT (kt6_X1_isOn l G tag L F hT.2.2.2 p0 z8086 z8087 m0 g0) m0 g0 rfl rfl qw_384 qw_385 qw_386 qw_17 qw_387 ⟨rfl, by decide +kernel, by decide +kernel, by decide +kernel⟩ ⟨Nat.le_of_ble_eq_true rfl, Nat.le_of_ble_eq_true rfl⟩ hl rfl rfl (Nat.le_of_ble_eq_true rfl) dX6_isFit_40 ⟨Nat.le_of_ble_eq_true rfl, Nat.le_of_ble_eq_true rfl⟩ (fun z8088 F9 H locs hT hz8088 => ?_)
    obtain ⟨fz8088, hz8088⟩ := hz8088
    rw [fz8088] at hT
    refine lv_if_eq (tgt := 61) hx hb dX6_isFit_43 (by decide) (fun c8089 => ?_) (fun c8089 => ?_)
    · have w8090 := cv_eq (rfl : z8088.toInt = z8088.toInt) (by decide : (0 : Int32).toInt = 0) c8089
      refine lv_iconst (v := 0) hx hb dX6_isFit_61 (by decide) ?_
      exact t_zret hQ X hT (by decide) (⟨rfl, (by decide)⟩) (Nat.le_of_ble_eq_true rfl) (Nat.le_of_ble_eq_true rfl) dX6_isFit_62
    · have w8091 := cv_ne (rfl : z8088.toInt = z8088.toInt) (by decide : (0 : Int32).toInt = 0) c8089
      refine lv_aload_n hx hb dX6_isFit_46 rfl (lv_at hl 3 rfl) ?_
      refine lv_iload hx hb dX6_isFit_47 (lv_at hl 1 rfl) ?_
      refine lv_iload_n hx hb dX6_isFit_49 rfl (lv_at hl 2 rfl) ?_
      refine lv_iadd hx hb dX6_isFit_50 ?_
      refine lv_topi (fun z8092 ez8092 => ?_)
      have hz8092 : z8092.toInt = z8079.toInt + z8076.toInt := ar_add ez8092 (rfl : z8079.toInt = z8079.toInt) (rfl : z8076.toInt = z8076.toInt) (by omega) (by omega)
      have rz8092 : 1 ≤ z8092.toInt ∧ z8092.toInt ≤ 17 := by omega
      refine lv_iload hx hb dX6_isFit_51 (lv_at hl 0 rfl) ?_
      refine lv_iload_n hx hb dX6_isFit_53 rfl (lv_at hl 2 rfl) ?_
      refine lv_iadd hx hb dX6_isFit_54 ?_
      refine lv_topi (fun z8093 ez8093 => ?_)
      have hz8093 : z8093.toInt = z8082.toInt + z8076.toInt := ar_add ez8093 (rfl : z8082.toInt = z8082.toInt) (rfl : z8076.toInt = z8076.toInt) (by omega) (by omega)
      have rz8093 : 1 ≤ z8093.toInt ∧ z8093.toInt ≤ 17 := by omega
      refine t_cVi (n := 2) (C := RX1) (T := TX1) (N := 20) (As := [.int z8092, .int z8093]) (rest := []) X hT (kt6_X1_isOn l G tag L F hT.2.2.2 p0 z8092 z8093 m0 g0) m0 g0 rfl rfl qw_384 qw_385 qw_386 qw_17 qw_387 ⟨rfl, by decide +kernel, by decide +kernel, by decide +kernel⟩ ⟨Nat.le_of_ble_eq_true rfl, Nat.le_of_ble_eq_true rfl⟩ hl rfl rfl (Nat.le_of_ble_eq_true rfl) dX6_isFit_55 ⟨Nat.le_of_ble_eq_true rfl, Nat.le_of_ble_eq_true rfl⟩ (fun z8094 F9 H locs hT hz8094 => ?_)
      obtain ⟨fz8094, hz8094⟩ := hz8094
      rw [fz8094] at hT
      refine lv_if_ne (tgt := 63) hx hb dX6_isFit_58 (by decide) (fun c8095 => ?_) (fun c8095 => ?_)
      · have w8096 := cv_ne (rfl : z8094.toInt = z8094.toInt) (by decide : (0 : Int32).toInt = 0) c8095
        refine lv_iconst (v := 0) hx hb dX6_isFit_63 (by decide) ?_
        refine lv_istore (lv' := [(6, .int 0), (5, .int z8082), (4, .int z8079), (3, .int z8076), (0, .ref p0), (1, .ref p1), (2, .int p2)]) hx hb dX6_isFit_64 hl (by decide) rfl (fun ls hl => ?_)
        have kk8097 : (0 : Int32).toInt = 0 := by decide
        exact K66 49 z8076 z8079 z8082 0 _ _ _ (by omega) (by omega) (by omega) (by omega) (by decide) hT  (lv_sub hl [4, 5, 6, 3, 2, 1, 0] rfl)
      · have w8098 := cv_eq (rfl : z8094.toInt = z8094.toInt) (by decide : (0 : Int32).toInt = 0) c8095
        refine lv_iconst (v := 0) hx hb dX6_isFit_61 (by decide) ?_
        exact t_zret hQ X hT (by decide) (⟨rfl, (by decide)⟩) (Nat.le_of_ble_eq_true rfl) (Nat.le_of_ble_eq_true rfl) dX6_isFit_62
