set_option maxHeartbeats 4000000 in
set_option maxRecDepth 100000 in
theorem kt113_X11_first (l : Launch) (G : KG) (tag : Nat → Nat) (L : List Nat) (Fo : Nat → va_E) (ho : okT G ttC tag L Fo) (p0 : Nat) (p1 : Int32) (m0 : p0 ∈ L) (g0 : tag p0 = 26) : TMi l yX11_first cX11_first 2 (some .int) { frames := 7, cells := 0, slots := 0, locals := 184 } G ttC tag L Fo [.ref p0, .int p1] (fun r F1 => ((-2147483648) ≤ r.toInt ∧ r.toInt ≤ 2147483647) ∧ (∀ b j : Nat, (tag b ≠ 19 ∨ j ≠ 0) → (tag b ≠ 19 ∨ j ≠ 1) → (tag b ≠ 26 ∨ j ≠ 13) → fld F1 b j = fld Fo b j)) := by
  refine t_bodyi (y := yX11_first) (cd := cX11_first) (mL := 2) (rt := (some .int)) (rm := { frames := 7, cells := 0, slots := 0, locals := 184 }) (av := [.ref p0, .int p1]) (by decide) (Nat.le_of_ble_eq_true rfl) ho ?_
  intro p e s m args below meth c ls A Q hQ X hT hl
  have hx := X.1.1
  have hb := X.1.2.1
  have hl : lv_has ls 2 [(0, .ref p0), (1, .int p1)] := hl
  have rp1 := rg_all p1
  obtain ⟨F, hFo⟩ : ∃ F : Nat → va_E, F = Fo := ⟨_, rfl⟩
  rw [← hFo] at hT
  have hfr : ∀ b j : Nat, (tag b ≠ 19 ∨ j ≠ 0) → (tag b ≠ 19 ∨ j ≠ 1) → (tag b ≠ 26 ∨ j ≠ 13) → fld F b j = fld Fo b j := by
    rw [hFo]
    intros
    rfl
  have K23 : ∀ (z37939 : Int32) (F : Nat → va_E) (H : Heap) (locs : List Loc) (ls : Array Slot), (1 ≤ z37939.toInt ∧ z37939.toInt ≤ 1) → TH G ttC A s tag L F H locs → (∀ b j : Nat, (tag b ≠ 19 ∨ j ≠ 0) → (tag b ≠ 19 ∨ j ≠ 1) → (tag b ≠ 26 ∨ j ≠ 13) → fld F b j = fld Fo b j) → fld F p0 2 = .int z37939 → lv_has ls 2 [(0, .ref p0), (1, .int p1)] → W p l e { frames := 7, cells := 0, slots := 0, locals := 184 } s m args below meth c H locs 0 0 Q (F0 m 23 ls []) := by
    intro z37939 F H locs ls rz37939 hT hfr qz37939 hl
    refine lv_aload_n hx hb dX11_first_23 rfl (lv_at hl 0 rfl) ?_
    refine lv_iconst (v := 2) hx hb dX11_first_24 (by decide) ?_
    refine t_cVi (n := 1) (C := RX11) (T := TX11) (N := 16) (As := [.int 2]) (rest := []) X hT (kt97_X11_refuse l G tag L F hT.2.2.2 p0 2 m0 g0) m0 g0 rfl rfl qw_152 qw_153 qw_154 qw_2 qw_155 ⟨rfl, by decide +kernel, by decide +kernel, by decide +kernel⟩ ⟨Nat.le_of_ble_eq_true rfl, Nat.le_of_ble_eq_true rfl⟩ hl rfl rfl (Nat.le_of_ble_eq_true rfl) dX11_first_25 ⟨Nat.le_of_ble_eq_true rfl, Nat.le_of_ble_eq_true rfl⟩ (fun z37940 F H locs hT hz37940 => ?_)
    obtain ⟨hz37940, yz37940⟩ := hz37940
    have qz37939 := (yz37940 _ 2 (Or.inr (by decide))).trans qz37939
    have hfr : ∀ b j : Nat, (tag b ≠ 19 ∨ j ≠ 0) → (tag b ≠ 19 ∨ j ≠ 1) → (tag b ≠ 26 ∨ j ≠ 13) → fld F b j = fld Fo b j := fun b j n19_0 n19_1 n26_13 => (yz37940 b j n26_13).trans (hfr b j n19_0 n19_1 n26_13)
    exact t_iret hQ X hT (⟨rg_all _, hfr⟩) (Nat.le_of_ble_eq_true rfl) (Nat.le_of_ble_eq_true rfl) dX11_first_28
  refine lv_aload_n hx hb dX11_first_0 rfl (lv_at hl 0 rfl) ?_
  refine t_get (C := RX11) (T := TX11) (N := 16) X hT m0 g0 rfl rfl 2 (by decide) qw_150 inlX11 rfl dX11_first_1 (fun v37941 hv37941 ov37941 => ?_)
  obtain ⟨z37942, rfl, rz37942⟩ := okV_i ov37941
  refine lv_if_ne (tgt := 13) hx hb dX11_first_4 (by decide) (fun c37943 => ?_) (fun c37943 => ?_)
  · have w37944 := cv_ne (rfl : z37942.toInt = z37942.toInt) (by decide : (0 : Int32).toInt = 0) c37943
    refine lv_iload_n hx hb dX11_first_13 rfl (lv_at hl 1 rfl) ?_
    refine lv_if_lt (tgt := 23) hx hb dX11_first_14 (by decide) (fun c37945 => ?_) (fun c37945 => ?_)
    · have w37946 := cv_lt (rfl : p1.toInt = p1.toInt) (by decide : (0 : Int32).toInt = 0) c37945
      exact K23 z37942 _ _ _ _ (by omega) hT hfr hv37941 (lv_sub hl [0, 1] rfl)
    · have w37947 := cv_nlt (rfl : p1.toInt = p1.toInt) (by decide : (0 : Int32).toInt = 0) c37945
      refine lv_iload_n hx hb dX11_first_17 rfl (lv_at hl 1 rfl) ?_
      refine lv_bipush (v := 30) hx hb dX11_first_18 (by decide) ?_
      refine lv_icmp_le (tgt := 29) hx hb dX11_first_20 (by decide) (fun c37948 => ?_) (fun c37948 => ?_)
      · have w37949 := cv_le (rfl : p1.toInt = p1.toInt) (by decide : (30 : Int32).toInt = 30) c37948
        refine lv_aload_n hx hb dX11_first_29 rfl (lv_at hl 0 rfl) ?_
        refine lv_aload_n hx hb dX11_first_30 rfl (lv_at hl 0 rfl) ?_
        refine t_get (C := RX11) (T := TX11) (N := 16) X hT m0 g0 rfl rfl 9 (by decide) qw_33 inlX11 rfl dX11_first_31 (fun v37950 hv37950 ov37950 => ?_)
        obtain ⟨b37951, rfl, mb37951, gb37951⟩ := okV_r ov37950
        have gb37951 : tag b37951 = 20 := tg_of gb37951
        refine lv_aload_n hx hb dX11_first_34 rfl (lv_at hl 0 rfl) ?_
        refine t_get (C := RX11) (T := TX11) (N := 16) X hT m0 g0 rfl rfl 3 (by decide) qw_18 inlX11 rfl dX11_first_35 (fun v37952 hv37952 ov37952 => ?_)
        obtain ⟨b37953, rfl, mb37953, gb37953⟩ := okV_r ov37952
        have gb37953 : tag b37953 = 18 := tg_of gb37953
        refine lv_aload_n hx hb dX11_first_38 rfl (lv_at hl 0 rfl) ?_
        refine t_get (C := RX11) (T := TX11) (N := 16) X hT m0 g0 rfl rfl 5 (by decide) qw_23 inlX11 rfl dX11_first_39 (fun v37954 hv37954 ov37954 => ?_)
        obtain ⟨b37955, rfl, mb37955, gb37955⟩ := okV_r ov37954
        have gb37955 : tag b37955 = 19 := tg_of gb37955
        refine lv_aload_n hx hb dX11_first_42 rfl (lv_at hl 0 rfl) ?_
        refine t_get (C := RX11) (T := TX11) (N := 16) X hT m0 g0 rfl rfl 7 (by decide) qw_25 inlX11 rfl dX11_first_43 (fun v37956 hv37956 ov37956 => ?_)
        obtain ⟨b37957, rfl, mb37957, gb37957⟩ := okV_r ov37956
        have gb37957 : tag b37957 = 19 := tg_of gb37957
        refine lv_iload_n hx hb dX11_first_46 rfl (lv_at hl 1 rfl) ?_
        refine t_cVi (n := 4) (C := RX10) (T := TX10) (N := 2) (As := [.ref b37953, .ref b37955, .ref b37957, .int p1]) (rest := [.ref p0]) X hT (kt112_X10_mostSkins l G tag L F hT.2.2.2 b37951 b37953 b37955 b37957 p1 mb37951 gb37951 mb37953 gb37953 mb37955 gb37955 mb37957 gb37957 (by omega)) mb37951 gb37951 rfl rfl qw_1235 qw_1236 qw_1237 qw_32 qw_1238 ⟨rfl, by decide +kernel, by decide +kernel, by decide +kernel⟩ ⟨Nat.le_of_ble_eq_true rfl, Nat.le_of_ble_eq_true rfl⟩ hl rfl rfl (Nat.le_of_ble_eq_true rfl) dX11_first_47 ⟨Nat.le_of_ble_eq_true rfl, Nat.le_of_ble_eq_true rfl⟩ (fun z37958 F H locs hT hz37958 => ?_)
        obtain ⟨hz37958, yz37958⟩ := hz37958
        have hv37941 := (yz37958 _ 2 (Or.inr (by decide)) (Or.inr (by decide))).trans hv37941
        have hv37950 := (yz37958 _ 9 (Or.inr (by decide)) (Or.inr (by decide))).trans hv37950
        have hv37952 := (yz37958 _ 3 (Or.inr (by decide)) (Or.inr (by decide))).trans hv37952
        have hv37954 := (yz37958 _ 5 (Or.inr (by decide)) (Or.inr (by decide))).trans hv37954
        have hv37956 := (yz37958 _ 7 (Or.inr (by decide)) (Or.inr (by decide))).trans hv37956
        have hfr : ∀ b j : Nat, (tag b ≠ 19 ∨ j ≠ 0) → (tag b ≠ 19 ∨ j ≠ 1) → (tag b ≠ 26 ∨ j ≠ 13) → fld F b j = fld Fo b j := fun b j n19_0 n19_1 n26_13 => (yz37958 b j n19_0 n19_1).trans (hfr b j n19_0 n19_1 n26_13)
        refine t_cVi (n := 1) (C := RX11) (T := TX11) (N := 16) (As := [.int z37958]) (rest := []) X hT (kt96_X11_answer l G tag L F hT.2.2.2 p0 z37958 m0 g0) m0 g0 rfl rfl qw_463 qw_464 qw_465 qw_2 qw_466 ⟨rfl, by decide +kernel, by decide +kernel, by decide +kernel⟩ ⟨Nat.le_of_ble_eq_true rfl, Nat.le_of_ble_eq_true rfl⟩ hl rfl rfl (Nat.le_of_ble_eq_true rfl) dX11_first_50 ⟨Nat.le_of_ble_eq_true rfl, Nat.le_of_ble_eq_true rfl⟩ (fun z37959 F H locs hT hz37959 => ?_)
        obtain ⟨hz37959, yz37959⟩ := hz37959
        have hv37941 := (yz37959 _ 2 (Or.inr (by decide))).trans hv37941
        have hv37950 := (yz37959 _ 9 (Or.inr (by decide))).trans hv37950
        have hv37952 := (yz37959 _ 3 (Or.inr (by decide))).trans hv37952
        have hv37954 := (yz37959 _ 5 (Or.inr (by decide))).trans hv37954
        have hv37956 := (yz37959 _ 7 (Or.inr (by decide))).trans hv37956
        have hfr : ∀ b j : Nat, (tag b ≠ 19 ∨ j ≠ 0) → (tag b ≠ 19 ∨ j ≠ 1) → (tag b ≠ 26 ∨ j ≠ 13) → fld F b j = fld Fo b j := fun b j n19_0 n19_1 n26_13 => (yz37959 b j n26_13).trans (hfr b j n19_0 n19_1 n26_13)
        exact t_iret hQ X hT (⟨rg_all _, hfr⟩) (Nat.le_of_ble_eq_true rfl) (Nat.le_of_ble_eq_true rfl) dX11_first_53
      · have w37960 := cv_nle (rfl : p1.toInt = p1.toInt) (by decide : (30 : Int32).toInt = 30) c37948
        exact K23 z37942 _ _ _ _ (by omega) hT hfr hv37941 (lv_sub hl [0, 1] rfl)
  · have w37961 := cv_eq (rfl : z37942.toInt = z37942.toInt) (by decide : (0 : Int32).toInt = 0) c37943
    refine lv_aload_n hx hb dX11_first_7 rfl (lv_at hl 0 rfl) ?_
    refine lv_iconst (v := 1) hx hb dX11_first_8 (by decide) ?_
    refine t_cVi (n := 1) (C := RX11) (T := TX11) (N := 16) (As := [.int 1]) (rest := []) X hT (kt97_X11_refuse l G tag L F hT.2.2.2 p0 1 m0 g0) m0 g0 rfl rfl qw_152 qw_153 qw_154 qw_2 qw_155 ⟨rfl, by decide +kernel, by decide +kernel, by decide +kernel⟩ ⟨Nat.le_of_ble_eq_true rfl, Nat.le_of_ble_eq_true rfl⟩ hl rfl rfl (Nat.le_of_ble_eq_true rfl) dX11_first_9 ⟨Nat.le_of_ble_eq_true rfl, Nat.le_of_ble_eq_true rfl⟩ (fun z37962 F H locs hT hz37962 => ?_)
    obtain ⟨hz37962, yz37962⟩ := hz37962
    have hv37941 := (yz37962 _ 2 (Or.inr (by decide))).trans hv37941
    have hfr : ∀ b j : Nat, (tag b ≠ 19 ∨ j ≠ 0) → (tag b ≠ 19 ∨ j ≠ 1) → (tag b ≠ 26 ∨ j ≠ 13) → fld F b j = fld Fo b j := fun b j n19_0 n19_1 n26_13 => (yz37962 b j n26_13).trans (hfr b j n19_0 n19_1 n26_13)
    exact t_iret hQ X hT (⟨rg_all _, hfr⟩) (Nat.le_of_ble_eq_true rfl) (Nat.le_of_ble_eq_true rfl) dX11_first_12
set_option maxHeartbeats 4000000 in
set_option maxRecDepth 100000 in
theorem kt114_X11_firstAt (l : Launch) (G : KG) (tag : Nat → Nat) (L : List Nat) (Fo : Nat → va_E) (ho : okT G ttC tag L Fo) (p0 : Nat) (p1 : Int32) (p2 : Int32) (m0 : p0 ∈ L) (g0 : tag p0 = 26) : TMi l yX11_firstAt cX11_firstAt 3 (some .int) { frames := 7, cells := 0, slots := 0, locals := 184 } G ttC tag L Fo [.ref p0, .int p1, .int p2] (fun r F1 => ((-2147483648) ≤ r.toInt ∧ r.toInt ≤ 2147483647) ∧ (∀ b j : Nat, (tag b ≠ 19 ∨ j ≠ 0) → (tag b ≠ 19 ∨ j ≠ 1) → (tag b ≠ 26 ∨ j ≠ 13) → fld F1 b j = fld Fo b j)) := by
  refine t_bodyi (y := yX11_firstAt) (cd := cX11_firstAt) (mL := 3) (rt := (some .int)) (rm := { frames := 7, cells := 0, slots := 0, locals := 184 }) (av := [.ref p0, .int p1, .int p2]) (by decide) (Nat.le_of_ble_eq_true rfl) ho ?_
  intro p e s m args below meth c ls A Q hQ X hT hl
  have hx := X.1.1
  have hb := X.1.2.1
  have hl : lv_has ls 3 [(0, .ref p0), (1, .int p1), (2, .int p2)] := hl
  have rp1 := rg_all p1
  have rp2 := rg_all p2
  obtain ⟨F, hFo⟩ : ∃ F : Nat → va_E, F = Fo := ⟨_, rfl⟩
  rw [← hFo] at hT
  have hfr : ∀ b j : Nat, (tag b ≠ 19 ∨ j ≠ 0) → (tag b ≠ 19 ∨ j ≠ 1) → (tag b ≠ 26 ∨ j ≠ 13) → fld F b j = fld Fo b j := by
    rw [hFo]
    intros
    rfl
  have K24 : ∀  (F : Nat → va_E) (H : Heap) (locs : List Loc) (ls : Array Slot), (0 ≤ p2.toInt ∧ p2.toInt ≤ 3) → TH G ttC A s tag L F H locs → (∀ b j : Nat, (tag b ≠ 19 ∨ j ≠ 0) → (tag b ≠ 19 ∨ j ≠ 1) → (tag b ≠ 26 ∨ j ≠ 13) → fld F b j = fld Fo b j) → lv_has ls 3 [(0, .ref p0), (1, .int p1), (2, .int p2)] → W p l e { frames := 7, cells := 0, slots := 0, locals := 184 } s m args below meth c H locs 0 0 Q (F0 m 24 ls []) := by
    intro F H locs ls r9s38271 hT hfr hl
    refine lv_aload_n hx hb dX11_firstAt_24 rfl (lv_at hl 0 rfl) ?_
    refine lv_iconst (v := 2) hx hb dX11_firstAt_25 (by decide) ?_
    refine t_cVi (n := 1) (C := RX11) (T := TX11) (N := 16) (As := [.int 2]) (rest := []) X hT (kt97_X11_refuse l G tag L F hT.2.2.2 p0 2 m0 g0) m0 g0 rfl rfl qw_152 qw_153 qw_154 qw_2 qw_155 ⟨rfl, by decide +kernel, by decide +kernel, by decide +kernel⟩ ⟨Nat.le_of_ble_eq_true rfl, Nat.le_of_ble_eq_true rfl⟩ hl rfl rfl (Nat.le_of_ble_eq_true rfl) dX11_firstAt_26 ⟨Nat.le_of_ble_eq_true rfl, Nat.le_of_ble_eq_true rfl⟩ (fun z38272 F H locs hT hz38272 => ?_)
    obtain ⟨hz38272, yz38272⟩ := hz38272
    have hfr : ∀ b j : Nat, (tag b ≠ 19 ∨ j ≠ 0) → (tag b ≠ 19 ∨ j ≠ 1) → (tag b ≠ 26 ∨ j ≠ 13) → fld F b j = fld Fo b j := fun b j n19_0 n19_1 n26_13 => (yz38272 b j n26_13).trans (hfr b j n19_0 n19_1 n26_13)
    exact t_iret hQ X hT (⟨rg_all _, hfr⟩) (Nat.le_of_ble_eq_true rfl) (Nat.le_of_ble_eq_true rfl) dX11_firstAt_29
  refine lv_aload_n hx hb dX11_firstAt_0 rfl (lv_at hl 0 rfl) ?_
  refine lv_iload_n hx hb dX11_firstAt_1 rfl (lv_at hl 2 rfl) ?_
  refine t_cVi (n := 1) (C := RX11) (T := TX11) (N := 16) (As := [.int p2]) (rest := []) X hT (kt93_X11_isHouse l G tag L F hT.2.2.2 p0 p2 m0 g0) m0 g0 rfl rfl qw_770 qw_771 qw_772 qw_2 qw_773 ⟨rfl, by decide +kernel, by decide +kernel, by decide +kernel⟩ ⟨Nat.le_of_ble_eq_true rfl, Nat.le_of_ble_eq_true rfl⟩ hl rfl rfl (Nat.le_of_ble_eq_true rfl) dX11_firstAt_2 ⟨Nat.le_of_ble_eq_true rfl, Nat.le_of_ble_eq_true rfl⟩ (fun z38273 F9 H locs hT hz38273 => ?_)
  obtain ⟨fz38273, hz38273⟩ := hz38273
  rw [fz38273] at hT
  obtain ⟨hz38273, iz38273⟩ := hz38273
  refine lv_if_ne (tgt := 14) hx hb dX11_firstAt_5 (by decide) (fun c38274 => ?_) (fun c38274 => ?_)
  · have w38275 := cv_ne (rfl : z38273.toInt = z38273.toInt) (by decide : (0 : Int32).toInt = 0) c38274
    have w38276 := (fun h => (iz38273 h)) (by omega)
    refine lv_iload_n hx hb dX11_firstAt_14 rfl (lv_at hl 1 rfl) ?_
    refine lv_if_lt (tgt := 24) hx hb dX11_firstAt_15 (by decide) (fun c38277 => ?_) (fun c38277 => ?_)
    · have w38278 := cv_lt (rfl : p1.toInt = p1.toInt) (by decide : (0 : Int32).toInt = 0) c38277
      exact K24  _ _ _ _ (by omega) hT hfr  (lv_sub hl [0, 1, 2] rfl)
    · have w38279 := cv_nlt (rfl : p1.toInt = p1.toInt) (by decide : (0 : Int32).toInt = 0) c38277
      refine lv_iload_n hx hb dX11_firstAt_18 rfl (lv_at hl 1 rfl) ?_
      refine lv_bipush (v := 30) hx hb dX11_firstAt_19 (by decide) ?_
      refine lv_icmp_le (tgt := 30) hx hb dX11_firstAt_21 (by decide) (fun c38280 => ?_) (fun c38280 => ?_)
      · have w38281 := cv_le (rfl : p1.toInt = p1.toInt) (by decide : (30 : Int32).toInt = 30) c38280
        refine lv_aload_n hx hb dX11_firstAt_30 rfl (lv_at hl 0 rfl) ?_
        refine t_get (C := RX11) (T := TX11) (N := 16) X hT m0 g0 rfl rfl 9 (by decide) qw_33 inlX11 rfl dX11_firstAt_31 (fun v38282 hv38282 ov38282 => ?_)
        obtain ⟨b38283, rfl, mb38283, gb38283⟩ := okV_r ov38282
        have gb38283 : tag b38283 = 20 := tg_of gb38283
        refine lv_aload_n hx hb dX11_firstAt_34 rfl (lv_at hl 0 rfl) ?_
        refine t_get (C := RX11) (T := TX11) (N := 16) X hT m0 g0 rfl rfl 3 (by decide) qw_18 inlX11 rfl dX11_firstAt_35 (fun v38284 hv38284 ov38284 => ?_)
        obtain ⟨b38285, rfl, mb38285, gb38285⟩ := okV_r ov38284
        have gb38285 : tag b38285 = 18 := tg_of gb38285
        refine lv_aload_n hx hb dX11_firstAt_38 rfl (lv_at hl 0 rfl) ?_
        refine t_get (C := RX11) (T := TX11) (N := 16) X hT m0 g0 rfl rfl 5 (by decide) qw_23 inlX11 rfl dX11_firstAt_39 (fun v38286 hv38286 ov38286 => ?_)
        obtain ⟨b38287, rfl, mb38287, gb38287⟩ := okV_r ov38286
        have gb38287 : tag b38287 = 19 := tg_of gb38287
        refine lv_aload_n hx hb dX11_firstAt_42 rfl (lv_at hl 0 rfl) ?_
        refine t_get (C := RX11) (T := TX11) (N := 16) X hT m0 g0 rfl rfl 7 (by decide) qw_25 inlX11 rfl dX11_firstAt_43 (fun v38288 hv38288 ov38288 => ?_)
        obtain ⟨b38289, rfl, mb38289, gb38289⟩ := okV_r ov38288
        have gb38289 : tag b38289 = 19 := tg_of gb38289
        refine lv_iload_n hx hb dX11_firstAt_46 rfl (lv_at hl 1 rfl) ?_
        refine t_cVi (n := 4) (C := RX10) (T := TX10) (N := 2) (As := [.ref b38285, .ref b38287, .ref b38289, .int p1]) (rest := []) X hT (kt112_X10_mostSkins l G tag L F hT.2.2.2 b38283 b38285 b38287 b38289 p1 mb38283 gb38283 mb38285 gb38285 mb38287 gb38287 mb38289 gb38289 (by omega)) mb38283 gb38283 rfl rfl qw_1235 qw_1236 qw_1237 qw_32 qw_1238 ⟨rfl, by decide +kernel, by decide +kernel, by decide +kernel⟩ ⟨Nat.le_of_ble_eq_true rfl, Nat.le_of_ble_eq_true rfl⟩ hl rfl rfl (Nat.le_of_ble_eq_true rfl) dX11_firstAt_47 ⟨Nat.le_of_ble_eq_true rfl, Nat.le_of_ble_eq_true rfl⟩ (fun z38290 F H locs hT hz38290 => ?_)
        obtain ⟨hz38290, yz38290⟩ := hz38290
        have hv38282 := (yz38290 _ 9 (Or.inr (by decide)) (Or.inr (by decide))).trans hv38282
        have hv38284 := (yz38290 _ 3 (Or.inr (by decide)) (Or.inr (by decide))).trans hv38284
        have hv38286 := (yz38290 _ 5 (Or.inr (by decide)) (Or.inr (by decide))).trans hv38286
        have hv38288 := (yz38290 _ 7 (Or.inr (by decide)) (Or.inr (by decide))).trans hv38288
        have hfr : ∀ b j : Nat, (tag b ≠ 19 ∨ j ≠ 0) → (tag b ≠ 19 ∨ j ≠ 1) → (tag b ≠ 26 ∨ j ≠ 13) → fld F b j = fld Fo b j := fun b j n19_0 n19_1 n26_13 => (yz38290 b j n19_0 n19_1).trans (hfr b j n19_0 n19_1 n26_13)
        refine lv_pop hx hb dX11_firstAt_50 rfl ?_
        refine lv_aload_n hx hb dX11_firstAt_51 rfl (lv_at hl 0 rfl) ?_
        refine lv_aload_n hx hb dX11_firstAt_52 rfl (lv_at hl 0 rfl) ?_
        refine t_get (C := RX11) (T := TX11) (N := 16) X hT m0 g0 rfl rfl 9 (by decide) qw_33 inlX11 rfl dX11_firstAt_53 (fun v38291 hv38291 ov38291 => ?_)
        obtain rfl : v38291 = .ref b38283 := hv38291.symm.trans hv38282
        refine t_get (C := RX10) (T := TX10) (N := 2) X hT mb38283 gb38283 rfl rfl 1 (by decide) qw_1272 inlX10 rfl dX11_firstAt_56 (fun v38292 hv38292 ov38292 => ?_)
        obtain ⟨b38293, rfl, mb38293, gb38293⟩ := okV_r ov38292
        have gb38293 : tag b38293 = 5 := tg_of gb38293
        refine lv_iload_n hx hb dX11_firstAt_59 rfl (lv_at hl 2 rfl) ?_
        refine t_ild X hT mb38293 gb38293 rfl (by omega) dX11_firstAt_60 (fun z38294 vz38294 rz38294 => ?_)
        have rz38294 : (-2147483648) ≤ z38294.toInt ∧ z38294.toInt ≤ 2147483647 := rz38294
        refine t_cVi (n := 1) (C := RX11) (T := TX11) (N := 16) (As := [.int z38294]) (rest := []) X hT (kt96_X11_answer l G tag L F hT.2.2.2 p0 z38294 m0 g0) m0 g0 rfl rfl qw_463 qw_464 qw_465 qw_2 qw_466 ⟨rfl, by decide +kernel, by decide +kernel, by decide +kernel⟩ ⟨Nat.le_of_ble_eq_true rfl, Nat.le_of_ble_eq_true rfl⟩ hl rfl rfl (Nat.le_of_ble_eq_true rfl) dX11_firstAt_61 ⟨Nat.le_of_ble_eq_true rfl, Nat.le_of_ble_eq_true rfl⟩ (fun z38295 F H locs hT hz38295 => ?_)
        obtain ⟨hz38295, yz38295⟩ := hz38295
        have hv38282 := (yz38295 _ 9 (Or.inr (by decide))).trans hv38282
        have hv38284 := (yz38295 _ 3 (Or.inr (by decide))).trans hv38284
        have hv38286 := (yz38295 _ 5 (Or.inr (by decide))).trans hv38286
        have hv38288 := (yz38295 _ 7 (Or.inr (by decide))).trans hv38288
        have hv38292 := (yz38295 _ 1 (Or.inr (by decide))).trans hv38292
        have hfr : ∀ b j : Nat, (tag b ≠ 19 ∨ j ≠ 0) → (tag b ≠ 19 ∨ j ≠ 1) → (tag b ≠ 26 ∨ j ≠ 13) → fld F b j = fld Fo b j := fun b j n19_0 n19_1 n26_13 => (yz38295 b j n26_13).trans (hfr b j n19_0 n19_1 n26_13)
        exact t_iret hQ X hT (⟨rg_all _, hfr⟩) (Nat.le_of_ble_eq_true rfl) (Nat.le_of_ble_eq_true rfl) dX11_firstAt_64
      · have w38296 := cv_nle (rfl : p1.toInt = p1.toInt) (by decide : (30 : Int32).toInt = 30) c38280
        exact K24  _ _ _ _ (by omega) hT hfr  (lv_sub hl [0, 1, 2] rfl)
  · have w38297 := cv_eq (rfl : z38273.toInt = z38273.toInt) (by decide : (0 : Int32).toInt = 0) c38274
    refine lv_aload_n hx hb dX11_firstAt_8 rfl (lv_at hl 0 rfl) ?_
    refine lv_iconst (v := 1) hx hb dX11_firstAt_9 (by decide) ?_
    refine t_cVi (n := 1) (C := RX11) (T := TX11) (N := 16) (As := [.int 1]) (rest := []) X hT (kt97_X11_refuse l G tag L F hT.2.2.2 p0 1 m0 g0) m0 g0 rfl rfl qw_152 qw_153 qw_154 qw_2 qw_155 ⟨rfl, by decide +kernel, by decide +kernel, by decide +kernel⟩ ⟨Nat.le_of_ble_eq_true rfl, Nat.le_of_ble_eq_true rfl⟩ hl rfl rfl (Nat.le_of_ble_eq_true rfl) dX11_firstAt_10 ⟨Nat.le_of_ble_eq_true rfl, Nat.le_of_ble_eq_true rfl⟩ (fun z38298 F H locs hT hz38298 => ?_)
    obtain ⟨hz38298, yz38298⟩ := hz38298
    have hfr : ∀ b j : Nat, (tag b ≠ 19 ∨ j ≠ 0) → (tag b ≠ 19 ∨ j ≠ 1) → (tag b ≠ 26 ∨ j ≠ 13) → fld F b j = fld Fo b j := fun b j n19_0 n19_1 n26_13 => (yz38298 b j n26_13).trans (hfr b j n19_0 n19_1 n26_13)
    exact t_iret hQ X hT (⟨rg_all _, hfr⟩) (Nat.le_of_ble_eq_true rfl) (Nat.le_of_ble_eq_true rfl) dX11_firstAt_13
set_option maxHeartbeats 4000000 in
set_option maxRecDepth 100000 in
theorem kt115_X11_fits (l : Launch) (G : KG) (tag : Nat → Nat) (L : List Nat) (Fo : Nat → va_E) (ho : okT G ttC tag L Fo) (p0 : Nat) (p1 : Int32) (m0 : p0 ∈ L) (g0 : tag p0 = 26) : TMi l yX11_fits cX11_fits 2 (some .int) { frames := 3, cells := 0, slots := 0, locals := 80 } G ttC tag L Fo [.ref p0, .int p1] (fun r F1 => ((-2147483648) ≤ r.toInt ∧ r.toInt ≤ 2147483647) ∧ (∀ b j : Nat, (tag b ≠ 26 ∨ j ≠ 13) → fld F1 b j = fld Fo b j)) := by
  refine t_bodyi (y := yX11_fits) (cd := cX11_fits) (mL := 2) (rt := (some .int)) (rm := { frames := 3, cells := 0, slots := 0, locals := 80 }) (av := [.ref p0, .int p1]) (by decide) (Nat.le_of_ble_eq_true rfl) ho ?_
  intro p e s m args below meth c ls A Q hQ X hT hl
  have hx := X.1.1
  have hb := X.1.2.1
  have hl : lv_has ls 2 [(0, .ref p0), (1, .int p1)] := hl
  have rp1 := rg_all p1
  obtain ⟨F, hFo⟩ : ∃ F : Nat → va_E, F = Fo := ⟨_, rfl⟩
  rw [← hFo] at hT
  have hfr : ∀ b j : Nat, (tag b ≠ 26 ∨ j ≠ 13) → fld F b j = fld Fo b j := by
    rw [hFo]
    intros
    rfl
  have K35 : ∀ (z38487 : Int32) (b38488 : Nat) (F : Nat → va_E) (H : Heap) (locs : List Loc) (ls : Array Slot), (0 ≤ z38487.toInt ∧ z38487.toInt ≤ 1) → (b38488 ∈ L) → (tag b38488 = 26) → (0 ≤ p1.toInt ∧ p1.toInt ≤ 3) → TH G ttC A s tag L F H locs → (∀ b j : Nat, (tag b ≠ 26 ∨ j ≠ 13) → fld F b j = fld Fo b j) → lv_has ls 2 [(0, .ref p0), (1, .int p1)] → W p l e { frames := 3, cells := 0, slots := 0, locals := 80 } s m args below meth c H locs 0 0 Q (F0 m 35 ls [.int z38487, .ref b38488]) := by
    intro z38487 b38488 F H locs ls rz38487 mb38488 gb38488 r9s38486 hT hfr hl
    refine t_cVi (n := 1) (C := RX11) (T := TX11) (N := 16) (As := [.int z38487]) (rest := []) X hT (kt96_X11_answer l G tag L F hT.2.2.2 b38488 z38487 mb38488 gb38488) mb38488 gb38488 rfl rfl qw_463 qw_464 qw_465 qw_2 qw_466 ⟨rfl, by decide +kernel, by decide +kernel, by decide +kernel⟩ ⟨Nat.le_of_ble_eq_true rfl, Nat.le_of_ble_eq_true rfl⟩ hl rfl rfl (Nat.le_of_ble_eq_true rfl) dX11_fits_35 ⟨Nat.le_of_ble_eq_true rfl, Nat.le_of_ble_eq_true rfl⟩ (fun z38489 F H locs hT hz38489 => ?_)
    obtain ⟨hz38489, yz38489⟩ := hz38489
    have hfr : ∀ b j : Nat, (tag b ≠ 26 ∨ j ≠ 13) → fld F b j = fld Fo b j := fun b j n26_13 => (yz38489 b j n26_13).trans (hfr b j n26_13)
    exact t_iret hQ X hT (⟨rg_all _, hfr⟩) (Nat.le_of_ble_eq_true rfl) (Nat.le_of_ble_eq_true rfl) dX11_fits_38
  refine lv_aload_n hx hb dX11_fits_0 rfl (lv_at hl 0 rfl) ?_
  refine lv_iload_n hx hb dX11_fits_1 rfl (lv_at hl 1 rfl) ?_
  refine t_cVi (n := 1) (C := RX11) (T := TX11) (N := 16) (As := [.int p1]) (rest := []) X hT (kt93_X11_isHouse l G tag L F hT.2.2.2 p0 p1 m0 g0) m0 g0 rfl rfl qw_770 qw_771 qw_772 qw_2 qw_773 ⟨rfl, by decide +kernel, by decide +kernel, by decide +kernel⟩ ⟨Nat.le_of_ble_eq_true rfl, Nat.le_of_ble_eq_true rfl⟩ hl rfl rfl (Nat.le_of_ble_eq_true rfl) dX11_fits_2 ⟨Nat.le_of_ble_eq_true rfl, Nat.le_of_ble_eq_true rfl⟩ (fun z38490 F9 H locs hT hz38490 => ?_)
  obtain ⟨fz38490, hz38490⟩ := hz38490
  rw [fz38490] at hT
  obtain ⟨hz38490, iz38490⟩ := hz38490
  refine lv_if_ne (tgt := 14) hx hb dX11_fits_5 (by decide) (fun c38491 => ?_) (fun c38491 => ?_)
  · have w38492 := cv_ne (rfl : z38490.toInt = z38490.toInt) (by decide : (0 : Int32).toInt = 0) c38491
    have w38493 := (fun h => (iz38490 h)) (by omega)
    refine lv_aload_n hx hb dX11_fits_14 rfl (lv_at hl 0 rfl) ?_
    refine lv_aload_n hx hb dX11_fits_15 rfl (lv_at hl 0 rfl) ?_
    refine t_get (C := RX11) (T := TX11) (N := 16) X hT m0 g0 rfl rfl 3 (by decide) qw_18 inlX11 rfl dX11_fits_16 (fun v38494 hv38494 ov38494 => ?_)
    obtain ⟨b38495, rfl, mb38495, gb38495⟩ := okV_r ov38494
    have gb38495 : tag b38495 = 18 := tg_of gb38495
    refine lv_aload_n hx hb dX11_fits_19 rfl (lv_at hl 0 rfl) ?_
    refine t_get (C := RX11) (T := TX11) (N := 16) X hT m0 g0 rfl rfl 5 (by decide) qw_23 inlX11 rfl dX11_fits_20 (fun v38496 hv38496 ov38496 => ?_)
    obtain ⟨b38497, rfl, mb38497, gb38497⟩ := okV_r ov38496
    have gb38497 : tag b38497 = 19 := tg_of gb38497
    refine lv_iload_n hx hb dX11_fits_23 rfl (lv_at hl 1 rfl) ?_
    refine t_cSi (n := 3) (As := [.ref b38495, .ref b38497, .int p1]) (rest := [.ref p0]) X hT (kt66_X6_isFit l G tag L F hT.2.2.2 b38495 b38497 p1 mb38495 gb38495 mb38497 gb38497 (by omega)) qw_904 qw_403 qw_380 qw_404 ⟨by decide +kernel, by decide +kernel, by decide +kernel⟩ ⟨Nat.le_of_ble_eq_true rfl, Nat.le_of_ble_eq_true rfl⟩ hl rfl rfl (Nat.le_of_ble_eq_true rfl) dX11_fits_24 ⟨Nat.le_of_ble_eq_true rfl, Nat.le_of_ble_eq_true rfl⟩ (fun z38498 F9 H locs hT hz38498 => ?_)
    obtain ⟨fz38498, hz38498⟩ := hz38498
    rw [fz38498] at hT
    refine lv_if_eq (tgt := 34) hx hb dX11_fits_27 (by decide) (fun c38499 => ?_) (fun c38499 => ?_)
    · have w38500 := cv_eq (rfl : z38498.toInt = z38498.toInt) (by decide : (0 : Int32).toInt = 0) c38499
      refine lv_iconst (v := 0) hx hb dX11_fits_34 (by decide) ?_
      exact K35 0 p0 _ _ _ _ (by decide) m0 g0 (by omega) hT hfr  (lv_sub hl [0, 1] rfl)
    · have w38501 := cv_ne (rfl : z38498.toInt = z38498.toInt) (by decide : (0 : Int32).toInt = 0) c38499
      refine lv_iconst (v := 1) hx hb dX11_fits_30 (by decide) ?_
      refine lv_goto (tgt := 35) hx hb dX11_fits_31 (by decide) ?_
      exact K35 1 p0 _ _ _ _ (by decide) m0 g0 (by omega) hT hfr  (lv_sub hl [0, 1] rfl)
  · have w38502 := cv_eq (rfl : z38490.toInt = z38490.toInt) (by decide : (0 : Int32).toInt = 0) c38491
    refine lv_aload_n hx hb dX11_fits_8 rfl (lv_at hl 0 rfl) ?_
    refine lv_iconst (v := 1) hx hb dX11_fits_9 (by decide) ?_
    refine t_cVi (n := 1) (C := RX11) (T := TX11) (N := 16) (As := [.int 1]) (rest := []) X hT (kt97_X11_refuse l G tag L F hT.2.2.2 p0 1 m0 g0) m0 g0 rfl rfl qw_152 qw_153 qw_154 qw_2 qw_155 ⟨rfl, by decide +kernel, by decide +kernel, by decide +kernel⟩ ⟨Nat.le_of_ble_eq_true rfl, Nat.le_of_ble_eq_true rfl⟩ hl rfl rfl (Nat.le_of_ble_eq_true rfl) dX11_fits_10 ⟨Nat.le_of_ble_eq_true rfl, Nat.le_of_ble_eq_true rfl⟩ (fun z38503 F H locs hT hz38503 => ?_)
    obtain ⟨hz38503, yz38503⟩ := hz38503
    have hfr : ∀ b j : Nat, (tag b ≠ 26 ∨ j ≠ 13) → fld F b j = fld Fo b j := fun b j n26_13 => (yz38503 b j n26_13).trans (hfr b j n26_13)
    exact t_iret hQ X hT (⟨rg_all _, hfr⟩) (Nat.le_of_ble_eq_true rfl) (Nat.le_of_ble_eq_true rfl) dX11_fits_13
set_option maxHeartbeats 4000000 in
set_option maxRecDepth 100000 in
theorem kt116_X11_free (l : Launch) (G : KG) (tag : Nat → Nat) (L : List Nat) (Fo : Nat → va_E) (ho : okT G ttC tag L Fo) (p0 : Nat) (m0 : p0 ∈ L) (g0 : tag p0 = 26) : TMi l yX11_free cX11_free 4 (some .int) { frames := 2, cells := 0, slots := 0, locals := 49 } G ttC tag L Fo [.ref p0] (fun r F1 => ((-2147483648) ≤ r.toInt ∧ r.toInt ≤ 2147483647) ∧ (∀ b j : Nat, (tag b ≠ 26 ∨ j ≠ 13) → fld F1 b j = fld Fo b j)) := by
  refine t_bodyi (y := yX11_free) (cd := cX11_free) (mL := 4) (rt := (some .int)) (rm := { frames := 2, cells := 0, slots := 0, locals := 49 }) (av := [.ref p0]) (by decide) (Nat.le_of_ble_eq_true rfl) ho ?_
  intro p e s m args below meth c ls A Q hQ X hT hl
  have hx := X.1.1
  have hb := X.1.2.1
  have hl : lv_has ls 4 [(0, .ref p0)] := hl
  obtain ⟨F, hFo⟩ : ∃ F : Nat → va_E, F = Fo := ⟨_, rfl⟩
  rw [← hFo] at hT
  have hfr : ∀ b j : Nat, (tag b ≠ 26 ∨ j ≠ 13) → fld F b j = fld Fo b j := by
    rw [hFo]
    intros
    rfl
  have K17 : ∀ (n : Nat) (z39725 : Int32) (z39726 : Int32) (z39727 : Int32) (F : Nat → va_E) (H : Heap) (locs : List Loc) (ls : Array Slot), (12 - z39726.toInt < (n : Int)) → (0 ≤ z39726.toInt ∧ z39726.toInt ≤ 12) → (1 ≤ z39727.toInt ∧ z39727.toInt ≤ 1) → TH G ttC A s tag L F H locs → (∀ b j : Nat, (tag b ≠ 26 ∨ j ≠ 13) → fld F b j = fld Fo b j) → fld F p0 2 = .int z39727 → lv_has ls 4 [(0, .ref p0), (1, .int z39725), (2, .int z39726)] → W p l e { frames := 2, cells := 0, slots := 0, locals := 49 } s m args below meth c H locs 0 0 Q (F0 m 17 ls []) := by
    intro n
    induction n with
    | zero =>
      intro z39725 z39726 z39727 F H locs ls hn rz39726 rz39727 hT hfr qz39727 hl
      have rz39725 := rg_all z39725
      exfalso
      omega
    | succ n ih17 =>
      intro z39725 z39726 z39727 F H locs ls hn rz39726 rz39727 hT hfr qz39727 hl
      have rz39725 := rg_all z39725
      have K30 : ∀ (n : Nat) (z39728 : Int32) (z39730 : Int32) (z39731 : Int32) (F : Nat → va_E) (H : Heap) (locs : List Loc) (ls : Array Slot), (12 - z39730.toInt < (n : Int)) → (0 ≤ z39730.toInt ∧ z39730.toInt ≤ 12) → (1 ≤ z39731.toInt ∧ z39731.toInt ≤ 1) → (0 ≤ z39726.toInt ∧ z39726.toInt ≤ 11) → TH G ttC A s tag L F H locs → (∀ b j : Nat, (tag b ≠ 26 ∨ j ≠ 13) → fld F b j = fld Fo b j) → fld F p0 2 = .int z39731 → lv_has ls 4 [(0, .ref p0), (1, .int z39728), (2, .int z39726), (3, .int z39730)] → W p l e { frames := 2, cells := 0, slots := 0, locals := 49 } s m args below meth c H locs 0 0 Q (F0 m 30 ls []) := by
        intro n
        induction n with
        | zero =>
          intro z39728 z39730 z39731 F H locs ls hn rz39730 rz39731 r9s39729 hT hfr qz39731 hl
          have rz39728 := rg_all z39728
          exfalso
          omega
        | succ n ih30 =>
          intro z39728 z39730 z39731 F H locs ls hn rz39730 rz39731 r9s39729 hT hfr qz39731 hl
          have rz39728 := rg_all z39728
          have K60 : ∀ (z39732 : Int32) (z39734 : Int32) (F : Nat → va_E) (H : Heap) (locs : List Loc) (ls : Array Slot), (1 ≤ z39734.toInt ∧ z39734.toInt ≤ 1) → (0 ≤ z39730.toInt ∧ z39730.toInt ≤ 11) → TH G ttC A s tag L F H locs → (∀ b j : Nat, (tag b ≠ 26 ∨ j ≠ 13) → fld F b j = fld Fo b j) → fld F p0 2 = .int z39734 → lv_has ls 4 [(0, .ref p0), (1, .int z39732), (2, .int z39726), (3, .int z39730)] → W p l e { frames := 2, cells := 0, slots := 0, locals := 49 } s m args below meth c H locs 0 0 Q (F0 m 60 ls []) := by
            intro z39732 z39734 F H locs ls rz39734 r9s39733 hT hfr qz39734 hl
            have rz39732 := rg_all z39732
            obtain ⟨z39735, ez39735⟩ : ∃ y : Int32, y = z39730 + 1 := ⟨_, rfl⟩
            have hz39735 : z39735.toInt = z39730.toInt + 1 := ar_add ez39735 rfl (by decide : (1 : Int32).toInt = 1) (by omega) (by omega)
            refine lv_iinc (v := z39735) (lv' := [(3, .int z39735), (0, .ref p0), (1, .int z39732), (2, .int z39726)]) hx hb dX11_free_60 hl (k := 3) rfl (by rw [ez39735]; rfl) (by decide) rfl (fun ls hl => ?_)
            refine lv_goto (tgt := 30) hx hb dX11_free_63 (by decide) ?_
            exact ih30 z39732 z39735 z39734 _ _ _ _ (by omega) (by omega) (by omega) (by omega) hT hfr qz39734 (lv_sub hl [1, 2, 3, 0] rfl)
          refine lv_iload_n hx hb dX11_free_30 rfl (lv_at hl 3 rfl) ?_
          refine lv_aload_n hx hb dX11_free_31 rfl (lv_at hl 0 rfl) ?_
          refine t_get (C := RX11) (T := TX11) (N := 16) X hT m0 g0 rfl rfl 3 (by decide) qw_18 inlX11 rfl dX11_free_32 (fun v39736 hv39736 ov39736 => ?_)
          obtain ⟨b39737, rfl, mb39737, gb39737⟩ := okV_r ov39736
          have gb39737 : tag b39737 = 18 := tg_of gb39737
          refine t_get (C := RX1) (T := TX1) (N := 20) X hT mb39737 gb39737 rfl rfl 0 (by decide) qw_728 inlX1 rfl dX11_free_35 (fun v39738 hv39738 ov39738 => ?_)
          obtain ⟨z39739, rfl, rz39739⟩ := okV_i ov39738
          refine lv_icmp_ge (tgt := 66) hx hb dX11_free_38 (by decide) (fun c39740 => ?_) (fun c39740 => ?_)
          · have w39741 := cv_le (rfl : z39739.toInt = z39739.toInt) (rfl : z39730.toInt = z39730.toInt) c39740
            obtain ⟨z39742, ez39742⟩ : ∃ y : Int32, y = z39726 + 1 := ⟨_, rfl⟩
            have hz39742 : z39742.toInt = z39726.toInt + 1 := ar_add ez39742 rfl (by decide : (1 : Int32).toInt = 1) (by omega) (by omega)
            refine lv_iinc (v := z39742) (lv' := [(2, .int z39742), (0, .ref p0), (1, .int z39728), (3, .int z39730)]) hx hb dX11_free_66 hl (k := 2) rfl (by rw [ez39742]; rfl) (by decide) rfl (fun ls hl => ?_)
            refine lv_goto (tgt := 17) hx hb dX11_free_69 (by decide) ?_
            exact ih17 z39728 z39742 z39731 _ _ _ _ (by omega) (by omega) (by omega) hT hfr qz39731 (lv_sub hl [1, 2, 0] rfl)
          · have w39743 := cv_nle (rfl : z39739.toInt = z39739.toInt) (rfl : z39730.toInt = z39730.toInt) c39740
            refine lv_aload_n hx hb dX11_free_41 rfl (lv_at hl 0 rfl) ?_
            refine t_get (C := RX11) (T := TX11) (N := 16) X hT m0 g0 rfl rfl 3 (by decide) qw_18 inlX11 rfl dX11_free_42 (fun v39744 hv39744 ov39744 => ?_)
            obtain rfl : v39744 = .ref b39737 := hv39744.symm.trans hv39736
            refine lv_aload_n hx hb dX11_free_45 rfl (lv_at hl 0 rfl) ?_
            refine t_get (C := RX11) (T := TX11) (N := 16) X hT m0 g0 rfl rfl 5 (by decide) qw_23 inlX11 rfl dX11_free_46 (fun v39745 hv39745 ov39745 => ?_)
            obtain ⟨b39746, rfl, mb39746, gb39746⟩ := okV_r ov39745
            have gb39746 : tag b39746 = 19 := tg_of gb39746
            refine lv_iload_n hx hb dX11_free_49 rfl (lv_at hl 3 rfl) ?_
            refine lv_iload_n hx hb dX11_free_50 rfl (lv_at hl 2 rfl) ?_
            refine t_cSi (n := 4) (As := [.ref b39737, .ref b39746, .int z39730, .int z39726]) (rest := []) X hT (kt67_X6_isFree l G tag L F hT.2.2.2 b39737 b39746 z39730 z39726 mb39737 gb39737 mb39746 gb39746) qw_755 qw_379 qw_380 qw_381 ⟨by decide +kernel, by decide +kernel, by decide +kernel⟩ ⟨Nat.le_of_ble_eq_true rfl, Nat.le_of_ble_eq_true rfl⟩ hl rfl rfl (Nat.le_of_ble_eq_true rfl) dX11_free_51 ⟨Nat.le_of_ble_eq_true rfl, Nat.le_of_ble_eq_true rfl⟩ (fun z39747 F9 H locs hT hz39747 => ?_)
            obtain ⟨fz39747, hz39747⟩ := hz39747
            rw [fz39747] at hT
            refine lv_if_eq (tgt := 60) hx hb dX11_free_54 (by decide) (fun c39748 => ?_) (fun c39748 => ?_)
            · have w39749 := cv_eq (rfl : z39747.toInt = z39747.toInt) (by decide : (0 : Int32).toInt = 0) c39748
              exact K60 z39728 z39731 _ _ _ _ (by omega) (by omega) hT hfr qz39731 (lv_sub hl [0, 1, 2, 3] rfl)
            · have w39750 := cv_ne (rfl : z39747.toInt = z39747.toInt) (by decide : (0 : Int32).toInt = 0) c39748
              obtain ⟨z39751, ez39751⟩ : ∃ y : Int32, y = z39728 + 1 := ⟨_, rfl⟩
              have rz39751 := rg_all z39751
              refine lv_iinc (v := z39751) (lv' := [(1, .int z39751), (0, .ref p0), (2, .int z39726), (3, .int z39730)]) hx hb dX11_free_57 hl (k := 1) rfl (by rw [ez39751]; rfl) (by decide) rfl (fun ls hl => ?_)
              exact K60 z39751 z39731 _ _ _ _ (by omega) (by omega) hT hfr qz39731 (lv_sub hl [1, 0, 2, 3] rfl)
      refine lv_iload_n hx hb dX11_free_17 rfl (lv_at hl 2 rfl) ?_
      refine lv_aload_n hx hb dX11_free_18 rfl (lv_at hl 0 rfl) ?_
      refine t_get (C := RX11) (T := TX11) (N := 16) X hT m0 g0 rfl rfl 3 (by decide) qw_18 inlX11 rfl dX11_free_19 (fun v39752 hv39752 ov39752 => ?_)
      obtain ⟨b39753, rfl, mb39753, gb39753⟩ := okV_r ov39752
      have gb39753 : tag b39753 = 18 := tg_of gb39753
      refine t_get (C := RX1) (T := TX1) (N := 20) X hT mb39753 gb39753 rfl rfl 1 (by decide) qw_727 inlX1 rfl dX11_free_22 (fun v39754 hv39754 ov39754 => ?_)
      obtain ⟨z39755, rfl, rz39755⟩ := okV_i ov39754
      refine lv_icmp_ge (tgt := 72) hx hb dX11_free_25 (by decide) (fun c39756 => ?_) (fun c39756 => ?_)
      · have w39757 := cv_le (rfl : z39755.toInt = z39755.toInt) (rfl : z39726.toInt = z39726.toInt) c39756
        refine lv_aload_n hx hb dX11_free_72 rfl (lv_at hl 0 rfl) ?_
        refine lv_iload_n hx hb dX11_free_73 rfl (lv_at hl 1 rfl) ?_
        refine t_cVi (n := 1) (C := RX11) (T := TX11) (N := 16) (As := [.int z39725]) (rest := []) X hT (kt96_X11_answer l G tag L F hT.2.2.2 p0 z39725 m0 g0) m0 g0 rfl rfl qw_463 qw_464 qw_465 qw_2 qw_466 ⟨rfl, by decide +kernel, by decide +kernel, by decide +kernel⟩ ⟨Nat.le_of_ble_eq_true rfl, Nat.le_of_ble_eq_true rfl⟩ hl rfl rfl (Nat.le_of_ble_eq_true rfl) dX11_free_74 ⟨Nat.le_of_ble_eq_true rfl, Nat.le_of_ble_eq_true rfl⟩ (fun z39758 F H locs hT hz39758 => ?_)
        obtain ⟨hz39758, yz39758⟩ := hz39758
        have qz39727 := (yz39758 _ 2 (Or.inr (by decide))).trans qz39727
        have hv39752 := (yz39758 _ 3 (Or.inr (by decide))).trans hv39752
        have hv39754 := (yz39758 _ 1 (Or.inr (by decide))).trans hv39754
        have hfr : ∀ b j : Nat, (tag b ≠ 26 ∨ j ≠ 13) → fld F b j = fld Fo b j := fun b j n26_13 => (yz39758 b j n26_13).trans (hfr b j n26_13)
        exact t_iret hQ X hT (⟨rg_all _, hfr⟩) (Nat.le_of_ble_eq_true rfl) (Nat.le_of_ble_eq_true rfl) dX11_free_77
      · have w39759 := cv_nle (rfl : z39755.toInt = z39755.toInt) (rfl : z39726.toInt = z39726.toInt) c39756
        refine lv_iconst (v := 0) hx hb dX11_free_28 (by decide) ?_
        refine lv_istore_n (lv' := [(3, .int 0), (0, .ref p0), (1, .int z39725), (2, .int z39726)]) hx hb dX11_free_29 rfl hl (by decide) rfl (fun ls hl => ?_)
        have kk39760 : (0 : Int32).toInt = 0 := by decide
        exact K30 13 z39725 0 z39727 _ _ _ _ (by omega) (by decide) (by omega) (by omega) hT hfr qz39727 (lv_sub hl [1, 2, 3, 0] rfl)
  refine lv_aload_n hx hb dX11_free_0 rfl (lv_at hl 0 rfl) ?_
  refine t_get (C := RX11) (T := TX11) (N := 16) X hT m0 g0 rfl rfl 2 (by decide) qw_150 inlX11 rfl dX11_free_1 (fun v39761 hv39761 ov39761 => ?_)
  obtain ⟨z39762, rfl, rz39762⟩ := okV_i ov39761
  refine lv_if_ne (tgt := 13) hx hb dX11_free_4 (by decide) (fun c39763 => ?_) (fun c39763 => ?_)
  · have w39764 := cv_ne (rfl : z39762.toInt = z39762.toInt) (by decide : (0 : Int32).toInt = 0) c39763
    refine lv_iconst (v := 0) hx hb dX11_free_13 (by decide) ?_
    refine lv_istore_n (lv' := [(1, .int 0), (0, .ref p0)]) hx hb dX11_free_14 rfl hl (by decide) rfl (fun ls hl => ?_)
    refine lv_iconst (v := 0) hx hb dX11_free_15 (by decide) ?_
    refine lv_istore_n (lv' := [(2, .int 0), (1, .int 0), (0, .ref p0)]) hx hb dX11_free_16 rfl hl (by decide) rfl (fun ls hl => ?_)
    have kk39765 : (0 : Int32).toInt = 0 := by decide
    have kk39766 : (0 : Int32).toInt = 0 := by decide
    exact K17 13 0 0 z39762 _ _ _ _ (by omega) (by decide) (by omega) hT hfr hv39761 (lv_sub hl [2, 1, 0] rfl)
  · have w39767 := cv_eq (rfl : z39762.toInt = z39762.toInt) (by decide : (0 : Int32).toInt = 0) c39763
    refine lv_aload_n hx hb dX11_free_7 rfl (lv_at hl 0 rfl) ?_
    refine lv_iconst (v := 1) hx hb dX11_free_8 (by decide) ?_
    refine t_cVi (n := 1) (C := RX11) (T := TX11) (N := 16) (As := [.int 1]) (rest := []) X hT (kt97_X11_refuse l G tag L F hT.2.2.2 p0 1 m0 g0) m0 g0 rfl rfl qw_152 qw_153 qw_154 qw_2 qw_155 ⟨rfl, by decide +kernel, by decide +kernel, by decide +kernel⟩ ⟨Nat.le_of_ble_eq_true rfl, Nat.le_of_ble_eq_true rfl⟩ hl rfl rfl (Nat.le_of_ble_eq_true rfl) dX11_free_9 ⟨Nat.le_of_ble_eq_true rfl, Nat.le_of_ble_eq_true rfl⟩ (fun z39768 F H locs hT hz39768 => ?_)
    obtain ⟨hz39768, yz39768⟩ := hz39768
    have hv39761 := (yz39768 _ 2 (Or.inr (by decide))).trans hv39761
    have hfr : ∀ b j : Nat, (tag b ≠ 26 ∨ j ≠ 13) → fld F b j = fld Fo b j := fun b j n26_13 => (yz39768 b j n26_13).trans (hfr b j n26_13)
    exact t_iret hQ X hT (⟨rg_all _, hfr⟩) (Nat.le_of_ble_eq_true rfl) (Nat.le_of_ble_eq_true rfl) dX11_free_12
set_option maxHeartbeats 4000000 in
set_option maxRecDepth 100000 in
theorem kt117_X11_give (l : Launch) (G : KG) (tag : Nat → Nat) (L : List Nat) (Fo : Nat → va_E) (ho : okT G ttC tag L Fo) (p0 : Nat) (p1 : Int32) (p2 : Int32) (p3 : Int32) (m0 : p0 ∈ L) (g0 : tag p0 = 26) : TMi l yX11_give cX11_give 4 (some .boolean) { frames := 3, cells := 0, slots := 0, locals := 66 } G ttC tag L Fo [.ref p0, .int p1, .int p2, .int p3] (fun r F1 => (0 ≤ r.toInt ∧ r.toInt ≤ 1) ∧ (∀ b j : Nat, (tag b ≠ 19 ∨ j ≠ 0) → (tag b ≠ 19 ∨ j ≠ 1) → (tag b ≠ 23 ∨ j ≠ 2) → (tag b ≠ 23 ∨ j ≠ 3) → (tag b ≠ 26 ∨ j ≠ 13) → fld F1 b j = fld Fo b j)) := by
  refine t_bodyi (y := yX11_give) (cd := cX11_give) (mL := 4) (rt := (some .boolean)) (rm := { frames := 3, cells := 0, slots := 0, locals := 66 }) (av := [.ref p0, .int p1, .int p2, .int p3]) (by decide) (Nat.le_of_ble_eq_true rfl) ho ?_
  intro p e s m args below meth c ls A Q hQ X hT hl
  have hx := X.1.1
  have hb := X.1.2.1
  have hl : lv_has ls 4 [(0, .ref p0), (1, .int p1), (2, .int p2), (3, .int p3)] := hl
  have rp1 := rg_all p1
  have rp2 := rg_all p2
  have rp3 := rg_all p3
  obtain ⟨F, hFo⟩ : ∃ F : Nat → va_E, F = Fo := ⟨_, rfl⟩
  rw [← hFo] at hT
  have hfr : ∀ b j : Nat, (tag b ≠ 19 ∨ j ≠ 0) → (tag b ≠ 19 ∨ j ≠ 1) → (tag b ≠ 23 ∨ j ≠ 2) → (tag b ≠ 23 ∨ j ≠ 3) → (tag b ≠ 26 ∨ j ≠ 13) → fld F b j = fld Fo b j := by
    rw [hFo]
    intros
    rfl
  have K21 : ∀  (F : Nat → va_E) (H : Heap) (locs : List Loc) (ls : Array Slot), TH G ttC A s tag L F H locs → (∀ b j : Nat, (tag b ≠ 19 ∨ j ≠ 0) → (tag b ≠ 19 ∨ j ≠ 1) → (tag b ≠ 23 ∨ j ≠ 2) → (tag b ≠ 23 ∨ j ≠ 3) → (tag b ≠ 26 ∨ j ≠ 13) → fld F b j = fld Fo b j) → lv_has ls 4 [(0, .ref p0), (1, .int p1), (2, .int p2), (3, .int p3)] → W p l e { frames := 3, cells := 0, slots := 0, locals := 66 } s m args below meth c H locs 0 0 Q (F0 m 21 ls []) := by
    intro F H locs ls hT hfr hl
    refine lv_aload_n hx hb dX11_give_21 rfl (lv_at hl 0 rfl) ?_
    refine lv_iconst (v := 1) hx hb dX11_give_22 (by decide) ?_
    refine t_cVi (n := 1) (C := RX11) (T := TX11) (N := 16) (As := [.int 1]) (rest := []) X hT (kt90_X11_no l G tag L F hT.2.2.2 p0 1 m0 g0) m0 g0 rfl rfl qw_1454 qw_1455 qw_1456 qw_2 qw_1457 ⟨rfl, by decide +kernel, by decide +kernel, by decide +kernel⟩ ⟨Nat.le_of_ble_eq_true rfl, Nat.le_of_ble_eq_true rfl⟩ hl rfl rfl (Nat.le_of_ble_eq_true rfl) dX11_give_23 ⟨Nat.le_of_ble_eq_true rfl, Nat.le_of_ble_eq_true rfl⟩ (fun z40319 F H locs hT hz40319 => ?_)
    obtain ⟨hz40319, yz40319⟩ := hz40319
    have hfr : ∀ b j : Nat, (tag b ≠ 19 ∨ j ≠ 0) → (tag b ≠ 19 ∨ j ≠ 1) → (tag b ≠ 23 ∨ j ≠ 2) → (tag b ≠ 23 ∨ j ≠ 3) → (tag b ≠ 26 ∨ j ≠ 13) → fld F b j = fld Fo b j := fun b j n19_0 n19_1 n23_2 n23_3 n26_13 => (yz40319 b j n26_13).trans (hfr b j n19_0 n19_1 n23_2 n23_3 n26_13)
    exact t_zret hQ X hT (nar_z (by omega)) (⟨(by omega), hfr⟩) (Nat.le_of_ble_eq_true rfl) (Nat.le_of_ble_eq_true rfl) dX11_give_26
  have K62 : ∀  (F : Nat → va_E) (H : Heap) (locs : List Loc) (ls : Array Slot), (0 ≤ p1.toInt ∧ p1.toInt ≤ 3) → (0 ≤ p2.toInt ∧ p2.toInt ≤ 3) → TH G ttC A s tag L F H locs → (∀ b j : Nat, (tag b ≠ 19 ∨ j ≠ 0) → (tag b ≠ 19 ∨ j ≠ 1) → (tag b ≠ 23 ∨ j ≠ 2) → (tag b ≠ 23 ∨ j ≠ 3) → (tag b ≠ 26 ∨ j ≠ 13) → fld F b j = fld Fo b j) → lv_has ls 4 [(0, .ref p0), (1, .int p1), (2, .int p2), (3, .int p3)] → W p l e { frames := 3, cells := 0, slots := 0, locals := 66 } s m args below meth c H locs 0 0 Q (F0 m 62 ls []) := by
    intro F H locs ls r9s40320 r9s40321 hT hfr hl
    refine lv_aload_n hx hb dX11_give_62 rfl (lv_at hl 0 rfl) ?_
    refine lv_iconst (v := 2) hx hb dX11_give_63 (by decide) ?_
    refine t_cVi (n := 1) (C := RX11) (T := TX11) (N := 16) (As := [.int 2]) (rest := []) X hT (kt90_X11_no l G tag L F hT.2.2.2 p0 2 m0 g0) m0 g0 rfl rfl qw_1454 qw_1455 qw_1456 qw_2 qw_1457 ⟨rfl, by decide +kernel, by decide +kernel, by decide +kernel⟩ ⟨Nat.le_of_ble_eq_true rfl, Nat.le_of_ble_eq_true rfl⟩ hl rfl rfl (Nat.le_of_ble_eq_true rfl) dX11_give_64 ⟨Nat.le_of_ble_eq_true rfl, Nat.le_of_ble_eq_true rfl⟩ (fun z40322 F H locs hT hz40322 => ?_)
    obtain ⟨hz40322, yz40322⟩ := hz40322
    have hfr : ∀ b j : Nat, (tag b ≠ 19 ∨ j ≠ 0) → (tag b ≠ 19 ∨ j ≠ 1) → (tag b ≠ 23 ∨ j ≠ 2) → (tag b ≠ 23 ∨ j ≠ 3) → (tag b ≠ 26 ∨ j ≠ 13) → fld F b j = fld Fo b j := fun b j n19_0 n19_1 n23_2 n23_3 n26_13 => (yz40322 b j n26_13).trans (hfr b j n19_0 n19_1 n23_2 n23_3 n26_13)
    exact t_zret hQ X hT (nar_z (by omega)) (⟨(by omega), hfr⟩) (Nat.le_of_ble_eq_true rfl) (Nat.le_of_ble_eq_true rfl) dX11_give_67
  refine lv_aload_n hx hb dX11_give_0 rfl (lv_at hl 0 rfl) ?_
  refine lv_iload_n hx hb dX11_give_1 rfl (lv_at hl 1 rfl) ?_
  refine t_cVi (n := 1) (C := RX11) (T := TX11) (N := 16) (As := [.int p1]) (rest := []) X hT (kt93_X11_isHouse l G tag L F hT.2.2.2 p0 p1 m0 g0) m0 g0 rfl rfl qw_770 qw_771 qw_772 qw_2 qw_773 ⟨rfl, by decide +kernel, by decide +kernel, by decide +kernel⟩ ⟨Nat.le_of_ble_eq_true rfl, Nat.le_of_ble_eq_true rfl⟩ hl rfl rfl (Nat.le_of_ble_eq_true rfl) dX11_give_2 ⟨Nat.le_of_ble_eq_true rfl, Nat.le_of_ble_eq_true rfl⟩ (fun z40323 F9 H locs hT hz40323 => ?_)
  obtain ⟨fz40323, hz40323⟩ := hz40323
  rw [fz40323] at hT
  obtain ⟨hz40323, iz40323⟩ := hz40323
  refine lv_if_eq (tgt := 21) hx hb dX11_give_5 (by decide) (fun c40324 => ?_) (fun c40324 => ?_)
  · have w40325 := cv_eq (rfl : z40323.toInt = z40323.toInt) (by decide : (0 : Int32).toInt = 0) c40324
    exact K21  _ _ _ _  hT hfr  (lv_sub hl [0, 1, 2, 3] rfl)
  · have w40326 := cv_ne (rfl : z40323.toInt = z40323.toInt) (by decide : (0 : Int32).toInt = 0) c40324
    have w40327 := (fun h => (iz40323 h)) (by omega)
    refine lv_aload_n hx hb dX11_give_8 rfl (lv_at hl 0 rfl) ?_
    refine lv_iload_n hx hb dX11_give_9 rfl (lv_at hl 2 rfl) ?_
    refine t_cVi (n := 1) (C := RX11) (T := TX11) (N := 16) (As := [.int p2]) (rest := []) X hT (kt93_X11_isHouse l G tag L F hT.2.2.2 p0 p2 m0 g0) m0 g0 rfl rfl qw_770 qw_771 qw_772 qw_2 qw_773 ⟨rfl, by decide +kernel, by decide +kernel, by decide +kernel⟩ ⟨Nat.le_of_ble_eq_true rfl, Nat.le_of_ble_eq_true rfl⟩ hl rfl rfl (Nat.le_of_ble_eq_true rfl) dX11_give_10 ⟨Nat.le_of_ble_eq_true rfl, Nat.le_of_ble_eq_true rfl⟩ (fun z40328 F9 H locs hT hz40328 => ?_)
    obtain ⟨fz40328, hz40328⟩ := hz40328
    rw [fz40328] at hT
    obtain ⟨hz40328, iz40328⟩ := hz40328
    refine lv_if_eq (tgt := 21) hx hb dX11_give_13 (by decide) (fun c40329 => ?_) (fun c40329 => ?_)
    · have w40330 := cv_eq (rfl : z40328.toInt = z40328.toInt) (by decide : (0 : Int32).toInt = 0) c40329
      exact K21  _ _ _ _  hT hfr  (lv_sub hl [0, 1, 2, 3] rfl)
    · have w40331 := cv_ne (rfl : z40328.toInt = z40328.toInt) (by decide : (0 : Int32).toInt = 0) c40329
      have w40332 := (fun h => (iz40328 h)) (by omega)
      refine lv_iload_n hx hb dX11_give_16 rfl (lv_at hl 1 rfl) ?_
      refine lv_iload_n hx hb dX11_give_17 rfl (lv_at hl 2 rfl) ?_
      refine lv_icmp_ne (tgt := 27) hx hb dX11_give_18 (by decide) (fun c40333 => ?_) (fun c40333 => ?_)
      · have w40334 := cv_ne (rfl : p1.toInt = p1.toInt) (rfl : p2.toInt = p2.toInt) c40333
        refine lv_iload_n hx hb dX11_give_27 rfl (lv_at hl 3 rfl) ?_
        refine lv_iconst (v := 1) hx hb dX11_give_28 (by decide) ?_
        refine lv_icmp_lt (tgt := 62) hx hb dX11_give_29 (by decide) (fun c40335 => ?_) (fun c40335 => ?_)
        · have w40336 := cv_lt (rfl : p3.toInt = p3.toInt) (by decide : (1 : Int32).toInt = 1) c40335
          exact K62  _ _ _ _ (by omega) (by omega) hT hfr  (lv_sub hl [0, 1, 2, 3] rfl)
        · have w40337 := cv_nlt (rfl : p3.toInt = p3.toInt) (by decide : (1 : Int32).toInt = 1) c40335
          refine lv_iload_n hx hb dX11_give_32 rfl (lv_at hl 3 rfl) ?_
          refine lv_aload_n hx hb dX11_give_33 rfl (lv_at hl 0 rfl) ?_
          refine t_get (C := RX11) (T := TX11) (N := 16) X hT m0 g0 rfl rfl 5 (by decide) qw_23 inlX11 rfl dX11_give_34 (fun v40338 hv40338 ov40338 => ?_)
          obtain ⟨b40339, rfl, mb40339, gb40339⟩ := okV_r ov40338
          have gb40339 : tag b40339 = 19 := tg_of gb40339
          refine t_get (C := RX7) (T := TX7) (N := 7) X hT mb40339 gb40339 rfl rfl 4 (by decide) qw_768 inlX7 rfl dX11_give_37 (fun v40340 hv40340 ov40340 => ?_)
          obtain ⟨b40341, rfl, mb40341, gb40341⟩ := okV_r ov40340
          have gb40341 : tag b40341 = 5 := tg_of gb40341
          refine lv_iload_n hx hb dX11_give_40 rfl (lv_at hl 1 rfl) ?_
          refine t_ild X hT mb40341 gb40341 rfl (by omega) dX11_give_41 (fun z40342 vz40342 rz40342 => ?_)
          have rz40342 : (-2147483648) ≤ z40342.toInt ∧ z40342.toInt ≤ 2147483647 := rz40342
          refine lv_icmp_gt (tgt := 62) hx hb dX11_give_42 (by decide) (fun c40343 => ?_) (fun c40343 => ?_)
          · have w40344 := cv_lt (rfl : z40342.toInt = z40342.toInt) (rfl : p3.toInt = p3.toInt) c40343
            exact K62  _ _ _ _ (by omega) (by omega) hT hfr  (lv_sub hl [0, 1, 2, 3] rfl)
          · have w40345 := cv_nlt (rfl : z40342.toInt = z40342.toInt) (rfl : p3.toInt = p3.toInt) c40343
            refine lv_aload_n hx hb dX11_give_45 rfl (lv_at hl 0 rfl) ?_
            refine t_get (C := RX11) (T := TX11) (N := 16) X hT m0 g0 rfl rfl 5 (by decide) qw_23 inlX11 rfl dX11_give_46 (fun v40346 hv40346 ov40346 => ?_)
            obtain rfl : v40346 = .ref b40339 := hv40346.symm.trans hv40338
            refine t_get (C := RX7) (T := TX7) (N := 7) X hT mb40339 gb40339 rfl rfl 4 (by decide) qw_768 inlX7 rfl dX11_give_49 (fun v40347 hv40347 ov40347 => ?_)
            obtain rfl : v40347 = .ref b40341 := hv40347.symm.trans hv40340
            refine lv_iload_n hx hb dX11_give_52 rfl (lv_at hl 2 rfl) ?_
            refine t_ild X hT mb40341 gb40341 rfl (by omega) dX11_give_53 (fun z40348 vz40348 rz40348 => ?_)
            have rz40348 : (-2147483648) ≤ z40348.toInt ∧ z40348.toInt ≤ 2147483647 := rz40348
            refine lv_iload_n hx hb dX11_give_54 rfl (lv_at hl 3 rfl) ?_
            refine lv_iadd hx hb dX11_give_55 ?_
            refine lv_topi (fun z40349 ez40349 => ?_)
            have rz40349 := rg_all z40349
            refine lv_sipush (v := 999) hx hb dX11_give_56 (by decide) ?_
            refine lv_icmp_le (tgt := 68) hx hb dX11_give_59 (by decide) (fun c40350 => ?_) (fun c40350 => ?_)
            · have w40351 := cv_le (rfl : z40349.toInt = z40349.toInt) (by decide : (999 : Int32).toInt = 999) c40350
              refine lv_aload_n hx hb dX11_give_68 rfl (lv_at hl 0 rfl) ?_
              refine t_get (C := RX11) (T := TX11) (N := 16) X hT m0 g0 rfl rfl 12 (by decide) qw_45 inlX11 rfl dX11_give_69 (fun v40352 hv40352 ov40352 => ?_)
              obtain ⟨b40353, rfl, mb40353, gb40353⟩ := okV_r ov40352
              have gb40353 : tag b40353 = 23 := tg_of gb40353
              refine lv_aload_n hx hb dX11_give_72 rfl (lv_at hl 0 rfl) ?_
              refine t_get (C := RX11) (T := TX11) (N := 16) X hT m0 g0 rfl rfl 5 (by decide) qw_23 inlX11 rfl dX11_give_73 (fun v40354 hv40354 ov40354 => ?_)
              obtain rfl : v40354 = .ref b40339 := hv40354.symm.trans hv40338
              refine t_cVv (n := 1) (C := RX2) (T := TX2) (N := 5) (As := [.ref b40339]) (rest := []) X hT (kt100_X2_keep l G tag L F hT.2.2.2 b40353 b40339 mb40353 gb40353 mb40339 gb40339) mb40353 gb40353 rfl rfl qw_1427 qw_1428 qw_1429 qw_44 qw_1430 ⟨rfl, by decide +kernel, by decide +kernel, by decide +kernel⟩ ⟨Nat.le_of_ble_eq_true rfl, Nat.le_of_ble_eq_true rfl⟩ hl rfl rfl (Nat.le_of_ble_eq_true rfl) dX11_give_76 ⟨Nat.le_of_ble_eq_true rfl, Nat.le_of_ble_eq_true rfl⟩ (fun F H locs hT hz40355 => ?_)
              have yz40355 := hz40355
              have hv40338 := (yz40355 _ 5 (Or.inr (by decide)) (Or.inr (by decide)) (Or.inr (by decide)) (Or.inr (by decide))).trans hv40338
              have hv40340 := (yz40355 _ 4 (Or.inr (by decide)) (Or.inr (by decide)) (Or.inr (by decide)) (Or.inr (by decide))).trans hv40340
              have hv40352 := (yz40355 _ 12 (Or.inr (by decide)) (Or.inr (by decide)) (Or.inr (by decide)) (Or.inr (by decide))).trans hv40352
              have hfr : ∀ b j : Nat, (tag b ≠ 19 ∨ j ≠ 0) → (tag b ≠ 19 ∨ j ≠ 1) → (tag b ≠ 23 ∨ j ≠ 2) → (tag b ≠ 23 ∨ j ≠ 3) → (tag b ≠ 26 ∨ j ≠ 13) → fld F b j = fld Fo b j := fun b j n19_0 n19_1 n23_2 n23_3 n26_13 => (yz40355 b j n19_0 n19_1 n23_2 n23_3).trans (hfr b j n19_0 n19_1 n23_2 n23_3 n26_13)
              refine lv_aload_n hx hb dX11_give_79 rfl (lv_at hl 0 rfl) ?_
              refine t_get (C := RX11) (T := TX11) (N := 16) X hT m0 g0 rfl rfl 5 (by decide) qw_23 inlX11 rfl dX11_give_80 (fun v40356 hv40356 ov40356 => ?_)
              obtain rfl : v40356 = .ref b40339 := hv40356.symm.trans hv40338
              refine t_get (C := RX7) (T := TX7) (N := 7) X hT mb40339 gb40339 rfl rfl 4 (by decide) qw_768 inlX7 rfl dX11_give_83 (fun v40357 hv40357 ov40357 => ?_)
              obtain rfl : v40357 = .ref b40341 := hv40357.symm.trans hv40340
              refine lv_iload_n hx hb dX11_give_86 rfl (lv_at hl 1 rfl) ?_
              refine lv_dup2_11 hx hb dX11_give_87 rfl rfl ?_
              refine t_ild X hT mb40341 gb40341 rfl (by omega) dX11_give_88 (fun z40358 vz40358 rz40358 => ?_)
              have rz40358 : (-2147483648) ≤ z40358.toInt ∧ z40358.toInt ≤ 2147483647 := rz40358
              refine lv_iload_n hx hb dX11_give_89 rfl (lv_at hl 3 rfl) ?_
              refine lv_isub hx hb dX11_give_90 ?_
              refine lv_topi (fun z40359 ez40359 => ?_)
              have rz40359 := rg_all z40359
              refine t_ist X hT mb40341 gb40341 rfl (by omega) (show (-2147483648) ≤ (z40359 : Int32).toInt ∧ (z40359 : Int32).toInt ≤ 2147483647 from (by omega)) dX11_give_91 (fun F H locs hT v40360 h1v40360 h2v40360 => ?_)
              have hv40338 := (h2v40360 _ _).trans hv40338
              have hv40340 := (h2v40360 _ _).trans hv40340
              have hv40352 := (h2v40360 _ _).trans hv40352
              have hfr : ∀ b j : Nat, (tag b ≠ 19 ∨ j ≠ 0) → (tag b ≠ 19 ∨ j ≠ 1) → (tag b ≠ 23 ∨ j ≠ 2) → (tag b ≠ 23 ∨ j ≠ 3) → (tag b ≠ 26 ∨ j ≠ 13) → fld F b j = fld Fo b j := fun b j n19_0 n19_1 n23_2 n23_3 n26_13 => (h2v40360 b j).trans (hfr b j n19_0 n19_1 n23_2 n23_3 n26_13)
              refine lv_aload_n hx hb dX11_give_92 rfl (lv_at hl 0 rfl) ?_
              refine t_get (C := RX11) (T := TX11) (N := 16) X hT m0 g0 rfl rfl 5 (by decide) qw_23 inlX11 rfl dX11_give_93 (fun v40361 hv40361 ov40361 => ?_)
              obtain rfl : v40361 = .ref b40339 := hv40361.symm.trans hv40338
              refine t_get (C := RX7) (T := TX7) (N := 7) X hT mb40339 gb40339 rfl rfl 4 (by decide) qw_768 inlX7 rfl dX11_give_96 (fun v40362 hv40362 ov40362 => ?_)
              obtain rfl : v40362 = .ref b40341 := hv40362.symm.trans hv40340
              refine lv_iload_n hx hb dX11_give_99 rfl (lv_at hl 2 rfl) ?_
              refine lv_dup2_11 hx hb dX11_give_100 rfl rfl ?_
              refine t_ild X hT mb40341 gb40341 rfl (by omega) dX11_give_101 (fun z40363 vz40363 rz40363 => ?_)
              have rz40363 : (-2147483648) ≤ z40363.toInt ∧ z40363.toInt ≤ 2147483647 := rz40363
              refine lv_iload_n hx hb dX11_give_102 rfl (lv_at hl 3 rfl) ?_
              refine lv_iadd hx hb dX11_give_103 ?_
              refine lv_topi (fun z40364 ez40364 => ?_)
              have rz40364 := rg_all z40364
              refine t_ist X hT mb40341 gb40341 rfl (by omega) (show (-2147483648) ≤ (z40364 : Int32).toInt ∧ (z40364 : Int32).toInt ≤ 2147483647 from (by omega)) dX11_give_104 (fun F H locs hT v40365 h1v40365 h2v40365 => ?_)
              have hv40338 := (h2v40365 _ _).trans hv40338
              have hv40340 := (h2v40365 _ _).trans hv40340
              have hv40352 := (h2v40365 _ _).trans hv40352
              have hfr : ∀ b j : Nat, (tag b ≠ 19 ∨ j ≠ 0) → (tag b ≠ 19 ∨ j ≠ 1) → (tag b ≠ 23 ∨ j ≠ 2) → (tag b ≠ 23 ∨ j ≠ 3) → (tag b ≠ 26 ∨ j ≠ 13) → fld F b j = fld Fo b j := fun b j n19_0 n19_1 n23_2 n23_3 n26_13 => (h2v40365 b j).trans (hfr b j n19_0 n19_1 n23_2 n23_3 n26_13)
              refine lv_aload_n hx hb dX11_give_105 rfl (lv_at hl 0 rfl) ?_
              refine t_cVi (n := 0) (C := RX11) (T := TX11) (N := 16) (As := []) (rest := []) X hT (kt91_X11_yes l G tag L F hT.2.2.2 p0 m0 g0) m0 g0 rfl rfl qw_1460 qw_1461 qw_1462 qw_2 qw_1463 ⟨rfl, by decide +kernel, by decide +kernel, by decide +kernel⟩ ⟨Nat.le_of_ble_eq_true rfl, Nat.le_of_ble_eq_true rfl⟩ hl rfl rfl (Nat.le_of_ble_eq_true rfl) dX11_give_106 ⟨Nat.le_of_ble_eq_true rfl, Nat.le_of_ble_eq_true rfl⟩ (fun z40366 F H locs hT hz40366 => ?_)
              obtain ⟨hz40366, yz40366⟩ := hz40366
              have hv40338 := (yz40366 _ 5 (Or.inr (by decide))).trans hv40338
              have hv40340 := (yz40366 _ 4 (Or.inr (by decide))).trans hv40340
              have hv40352 := (yz40366 _ 12 (Or.inr (by decide))).trans hv40352
              have hfr : ∀ b j : Nat, (tag b ≠ 19 ∨ j ≠ 0) → (tag b ≠ 19 ∨ j ≠ 1) → (tag b ≠ 23 ∨ j ≠ 2) → (tag b ≠ 23 ∨ j ≠ 3) → (tag b ≠ 26 ∨ j ≠ 13) → fld F b j = fld Fo b j := fun b j n19_0 n19_1 n23_2 n23_3 n26_13 => (yz40366 b j n26_13).trans (hfr b j n19_0 n19_1 n23_2 n23_3 n26_13)
              exact t_zret hQ X hT (nar_z (by omega)) (⟨(by omega), hfr⟩) (Nat.le_of_ble_eq_true rfl) (Nat.le_of_ble_eq_true rfl) dX11_give_109
            · have w40367 := cv_nle (rfl : z40349.toInt = z40349.toInt) (by decide : (999 : Int32).toInt = 999) c40350
              exact K62  _ _ _ _ (by omega) (by omega) hT hfr  (lv_sub hl [0, 1, 2, 3] rfl)
      · have w40368 := cv_eq (rfl : p1.toInt = p1.toInt) (rfl : p2.toInt = p2.toInt) c40333
        exact K21  _ _ _ _  hT hfr  (lv_sub hl [0, 1, 2, 3] rfl)
set_option maxHeartbeats 4000000 in
set_option maxRecDepth 100000 in
theorem kt118_X11_goTo (l : Launch) (G : KG) (tag : Nat → Nat) (L : List Nat) (Fo : Nat → va_E) (ho : okT G ttC tag L Fo) (p0 : Nat) (p1 : Int32) (m0 : p0 ∈ L) (g0 : tag p0 = 26) (h1 : 0 ≤ p1.toInt ∧ p1.toInt ≤ 60) : TMv l yX11_goTo cX11_goTo 3 { frames := 6, cells := 0, slots := 0, locals := 157 } G ttC tag L Fo [.ref p0, .int p1] (fun F1 => ∀ b j : Nat, (tag b ≠ 19 ∨ j ≠ 0) → (tag b ≠ 19 ∨ j ≠ 1) → fld F1 b j = fld Fo b j) := by
  refine t_bodyv (y := yX11_goTo) (cd := cX11_goTo) (mL := 3) (rm := { frames := 6, cells := 0, slots := 0, locals := 157 }) (av := [.ref p0, .int p1]) (by decide) (Nat.le_of_ble_eq_true rfl) ho ?_
  intro p e s m args below meth c ls A Q hQ X hT hl
  have hx := X.1.1
  have hb := X.1.2.1
  have hl : lv_has ls 3 [(0, .ref p0), (1, .int p1)] := hl
  obtain ⟨F, hFo⟩ : ∃ F : Nat → va_E, F = Fo := ⟨_, rfl⟩
  rw [← hFo] at hT
  have hfr : ∀ b j : Nat, (tag b ≠ 19 ∨ j ≠ 0) → (tag b ≠ 19 ∨ j ≠ 1) → fld F b j = fld Fo b j := by
    rw [hFo]
    intros
    rfl
  have K13 : ∀ (n : Nat) (z40684 : Int32) (F : Nat → va_E) (H : Heap) (locs : List Loc) (ls : Array Slot), (60 - z40684.toInt < (n : Int)) → (0 ≤ z40684.toInt ∧ z40684.toInt ≤ 60) → TH G ttC A s tag L F H locs → (∀ b j : Nat, (tag b ≠ 19 ∨ j ≠ 0) → (tag b ≠ 19 ∨ j ≠ 1) → fld F b j = fld Fo b j) → lv_has ls 3 [(0, .ref p0), (1, .int p1), (2, .int z40684)] → W p l e { frames := 6, cells := 0, slots := 0, locals := 157 } s m args below meth c H locs 0 0 Q (F0 m 13 ls []) := by
    intro n
    induction n with
    | zero =>
      intro z40684 F H locs ls hn rz40684 hT hfr hl
      exfalso
      omega
    | succ n ih13 =>
      intro z40684 F H locs ls hn rz40684 hT hfr hl
      refine lv_iload_n hx hb dX11_goTo_13 rfl (lv_at hl 2 rfl) ?_
      refine lv_iload_n hx hb dX11_goTo_14 rfl (lv_at hl 1 rfl) ?_
      refine lv_icmp_ge (tgt := 38) hx hb dX11_goTo_15 (by decide) (fun c40685 => ?_) (fun c40685 => ?_)
      · have w40686 := cv_le (rfl : p1.toInt = p1.toInt) (rfl : z40684.toInt = z40684.toInt) c40685
        exact t_vret hQ X hT hfr (Nat.le_of_ble_eq_true rfl) (Nat.le_of_ble_eq_true rfl) dX11_goTo_38
      · have w40687 := cv_nle (rfl : p1.toInt = p1.toInt) (rfl : z40684.toInt = z40684.toInt) c40685
        refine lv_aload_n hx hb dX11_goTo_18 rfl (lv_at hl 0 rfl) ?_
        refine t_get (C := RX11) (T := TX11) (N := 16) X hT m0 g0 rfl rfl 3 (by decide) qw_18 inlX11 rfl dX11_goTo_19 (fun v40688 hv40688 ov40688 => ?_)
        obtain ⟨b40689, rfl, mb40689, gb40689⟩ := okV_r ov40688
        have gb40689 : tag b40689 = 18 := tg_of gb40689
        refine lv_aload_n hx hb dX11_goTo_22 rfl (lv_at hl 0 rfl) ?_
        refine t_get (C := RX11) (T := TX11) (N := 16) X hT m0 g0 rfl rfl 7 (by decide) qw_25 inlX11 rfl dX11_goTo_23 (fun v40690 hv40690 ov40690 => ?_)
        obtain ⟨b40691, rfl, mb40691, gb40691⟩ := okV_r ov40690
        have gb40691 : tag b40691 = 19 := tg_of gb40691
        refine t_gets X hT X.2.2.2.1.2.2.2.2 qw_1096 dX11_goTo_26 ?_
        refine t_cSv (n := 3) (As := [.ref b40689, .ref b40691, .ref (G.2 13)]) (rest := []) X hT (kt105_X10_pass l G tag L F hT.2.2.2 b40689 b40691 mb40689 gb40689 mb40691 gb40691) qw_1097 qw_1098 qw_32 qw_1099 ⟨by decide +kernel, by decide +kernel, by decide +kernel⟩ ⟨Nat.le_of_ble_eq_true rfl, Nat.le_of_ble_eq_true rfl⟩ hl rfl rfl (Nat.le_of_ble_eq_true rfl) dX11_goTo_29 ⟨Nat.le_of_ble_eq_true rfl, Nat.le_of_ble_eq_true rfl⟩ (fun F H locs hT hz40692 => ?_)
        have yz40692 := hz40692
        have hv40688 := (yz40692 _ 3 (Or.inr (by decide)) (Or.inr (by decide))).trans hv40688
        have hv40690 := (yz40692 _ 7 (Or.inr (by decide)) (Or.inr (by decide))).trans hv40690
        have hfr : ∀ b j : Nat, (tag b ≠ 19 ∨ j ≠ 0) → (tag b ≠ 19 ∨ j ≠ 1) → fld F b j = fld Fo b j := fun b j n19_0 n19_1 => (yz40692 b j n19_0 n19_1).trans (hfr b j n19_0 n19_1)
        obtain ⟨z40693, ez40693⟩ : ∃ y : Int32, y = z40684 + 1 := ⟨_, rfl⟩
        have hz40693 : z40693.toInt = z40684.toInt + 1 := ar_add ez40693 rfl (by decide : (1 : Int32).toInt = 1) (by omega) (by omega)
        refine lv_iinc (v := z40693) (lv' := [(2, .int z40693), (0, .ref p0), (1, .int p1)]) hx hb dX11_goTo_32 hl (k := 2) rfl (by rw [ez40693]; rfl) (by decide) rfl (fun ls hl => ?_)
        refine lv_goto (tgt := 13) hx hb dX11_goTo_35 (by decide) ?_
        exact ih13 z40693 _ _ _ _ (by omega) (by omega) hT hfr  (lv_sub hl [1, 2, 0] rfl)
  refine lv_aload_n hx hb dX11_goTo_0 rfl (lv_at hl 0 rfl) ?_
  refine t_get (C := RX11) (T := TX11) (N := 16) X hT m0 g0 rfl rfl 7 (by decide) qw_25 inlX11 rfl dX11_goTo_1 (fun v40694 hv40694 ov40694 => ?_)
  obtain ⟨b40695, rfl, mb40695, gb40695⟩ := okV_r ov40694
  have gb40695 : tag b40695 = 19 := tg_of gb40695
  refine lv_aload_n hx hb dX11_goTo_4 rfl (lv_at hl 0 rfl) ?_
  refine t_get (C := RX11) (T := TX11) (N := 16) X hT m0 g0 rfl rfl 5 (by decide) qw_23 inlX11 rfl dX11_goTo_5 (fun v40696 hv40696 ov40696 => ?_)
  obtain ⟨b40697, rfl, mb40697, gb40697⟩ := okV_r ov40696
  have gb40697 : tag b40697 = 19 := tg_of gb40697
  refine t_cVv (n := 1) (C := RX7) (T := TX7) (N := 7) (As := [.ref b40697]) (rest := []) X hT (kt77_X7_copyFrom l G tag L F hT.2.2.2 b40695 b40697 mb40695 gb40695 mb40697 gb40697) mb40695 gb40695 rfl rfl qw_449 qw_450 qw_451 qw_22 qw_452 ⟨rfl, by decide +kernel, by decide +kernel, by decide +kernel⟩ ⟨Nat.le_of_ble_eq_true rfl, Nat.le_of_ble_eq_true rfl⟩ hl rfl rfl (Nat.le_of_ble_eq_true rfl) dX11_goTo_8 ⟨Nat.le_of_ble_eq_true rfl, Nat.le_of_ble_eq_true rfl⟩ (fun F H locs hT hz40698 => ?_)
  have yz40698 := hz40698
  have hv40694 := (yz40698 _ 7 (Or.inr (by decide)) (Or.inr (by decide))).trans hv40694
  have hv40696 := (yz40698 _ 5 (Or.inr (by decide)) (Or.inr (by decide))).trans hv40696
  have hfr : ∀ b j : Nat, (tag b ≠ 19 ∨ j ≠ 0) → (tag b ≠ 19 ∨ j ≠ 1) → fld F b j = fld Fo b j := fun b j n19_0 n19_1 => (yz40698 b j n19_0 n19_1).trans (hfr b j n19_0 n19_1)
  refine lv_iconst (v := 0) hx hb dX11_goTo_11 (by decide) ?_
  refine lv_istore_n (lv' := [(2, .int 0), (0, .ref p0), (1, .int p1)]) hx hb dX11_goTo_12 rfl hl (by decide) rfl (fun ls hl => ?_)
  have kk40699 : (0 : Int32).toInt = 0 := by decide
  exact K13 61 0 _ _ _ _ (by omega) (by decide) hT hfr  (lv_sub hl [1, 2, 0] rfl)
