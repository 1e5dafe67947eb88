set_option maxHeartbeats 4000000 in
set_option maxRecDepth 100000 in
theorem kt317_X7_skinsOfAll (l : Launch) (G : KG) (tag : Nat → Nat) (L : List Nat) (F : Nat → va_E) (ho : okT G ttC tag L F) (p0 : Nat) (m0 : p0 ∈ L) (g0 : tag p0 = 19) : TMi l yX7_skinsOfAll cX7_skinsOfAll 3 (some .int) { frames := 0, cells := 0, slots := 0, locals := 0 } G ttC tag L F [.ref p0] (fun r F1 => F1 = F ∧ ((-2147483648) ≤ r.toInt ∧ r.toInt ≤ 2147483647)) := by
  refine t_bodyi (y := yX7_skinsOfAll) (cd := cX7_skinsOfAll) (mL := 3) (rt := (some .int)) (rm := { frames := 0, cells := 0, slots := 0, locals := 0 }) (av := [.ref p0]) (by decide) (Nat.le_of_ble_eq_true rfl) ho ?_
  intro p e s m args below meth c ls A Q hQ X hT hl
  have hx := X.1.1
  have hb := X.1.2.1
  have hl : lv_has ls 3 [(0, .ref p0)] := hl
  have K4 : ∀ (n : Nat) (z91328 : Int32) (z91329 : Int32) (H : Heap) (locs : List Loc) (ls : Array Slot), (4 - z91329.toInt < (n : Int)) → (0 ≤ z91329.toInt ∧ z91329.toInt ≤ 4) → TH G ttC A s tag L F H locs → lv_has ls 3 [(0, .ref p0), (1, .int z91328), (2, .int z91329)] → W p l e { frames := 0, cells := 0, slots := 0, locals := 0 } s m args below meth c H locs 0 0 Q (F0 m 4 ls []) := by
    intro n
    induction n with
    | zero =>
      intro z91328 z91329 H locs ls hn rz91329 hT hl
      have rz91328 := rg_all z91328
      exfalso
      omega
    | succ n ih4 =>
      intro z91328 z91329 H locs ls hn rz91329 hT hl
      have rz91328 := rg_all z91328
      refine lv_iload_n hx hb dX7_skinsOfAll_4 rfl (lv_at hl 2 rfl) ?_
      refine lv_iconst (v := 4) hx hb dX7_skinsOfAll_5 (by decide) ?_
      refine lv_icmp_ge (tgt := 24) hx hb dX7_skinsOfAll_6 (by decide) (fun c91330 => ?_) (fun c91330 => ?_)
      · have w91331 := cv_le (by decide : (4 : Int32).toInt = 4) (rfl : z91329.toInt = z91329.toInt) c91330
        refine lv_iload_n hx hb dX7_skinsOfAll_24 rfl (lv_at hl 1 rfl) ?_
        exact t_iret hQ X hT (⟨rfl, rg_all _⟩) (Nat.le_of_ble_eq_true rfl) (Nat.le_of_ble_eq_true rfl) dX7_skinsOfAll_25
      · have w91332 := cv_nle (by decide : (4 : Int32).toInt = 4) (rfl : z91329.toInt = z91329.toInt) c91330
        refine lv_iload_n hx hb dX7_skinsOfAll_9 rfl (lv_at hl 1 rfl) ?_
        refine lv_aload_n hx hb dX7_skinsOfAll_10 rfl (lv_at hl 0 rfl) ?_
        refine t_get (C := RX7) (T := TX7) (N := 7) X hT m0 g0 rfl rfl 2 (by decide) qw_62 inlX7 rfl dX7_skinsOfAll_11 (fun v91333 hv91333 ov91333 => ?_)
        obtain ⟨b91334, rfl, mb91334, gb91334⟩ := okV_r ov91333
        have gb91334 : tag b91334 = 8 := tg_of gb91334
        refine lv_iload_n hx hb dX7_skinsOfAll_14 rfl (lv_at hl 2 rfl) ?_
        refine t_ild X hT mb91334 gb91334 rfl (by omega) dX7_skinsOfAll_15 (fun z91335 vz91335 rz91335 => ?_)
        have rz91335 : 0 ≤ z91335.toInt ∧ z91335.toInt ≤ 6 := rz91335
        refine lv_iadd hx hb dX7_skinsOfAll_16 ?_
        refine lv_topi (fun z91336 ez91336 => ?_)
        have rz91336 := rg_all z91336
        refine lv_istore_n (lv' := [(1, .int z91336), (0, .ref p0), (2, .int z91329)]) hx hb dX7_skinsOfAll_17 rfl hl (by decide) rfl (fun ls hl => ?_)
        obtain ⟨z91337, ez91337⟩ : ∃ y : Int32, y = z91329 + 1 := ⟨_, rfl⟩
        have hz91337 : z91337.toInt = z91329.toInt + 1 := ar_add ez91337 rfl (by decide : (1 : Int32).toInt = 1) (by omega) (by omega)
        refine lv_iinc (v := z91337) (lv' := [(2, .int z91337), (1, .int z91336), (0, .ref p0)]) hx hb dX7_skinsOfAll_18 hl (k := 2) rfl (by rw [ez91337]; rfl) (by decide) rfl (fun ls hl => ?_)
        refine lv_goto (tgt := 4) hx hb dX7_skinsOfAll_21 (by decide) ?_
        exact ih4 z91336 z91337 _ _ _ (by omega) (by omega) hT  (lv_sub hl [2, 1, 0] rfl)
  refine lv_iconst (v := 0) hx hb dX7_skinsOfAll_0 (by decide) ?_
  refine lv_istore_n (lv' := [(1, .int 0), (0, .ref p0)]) hx hb dX7_skinsOfAll_1 rfl hl (by decide) rfl (fun ls hl => ?_)
  refine lv_iconst (v := 0) hx hb dX7_skinsOfAll_2 (by decide) ?_
  refine lv_istore_n (lv' := [(2, .int 0), (1, .int 0), (0, .ref p0)]) hx hb dX7_skinsOfAll_3 rfl hl (by decide) rfl (fun ls hl => ?_)
  have kk91338 : (0 : Int32).toInt = 0 := by decide
  have kk91339 : (0 : Int32).toInt = 0 := by decide
  exact K4 5 0 0 _ _ _ (by omega) (by decide) hT  (lv_sub hl [2, 1, 0] rfl)
set_option maxHeartbeats 4000000 in
set_option maxRecDepth 100000 in
theorem kt318_X7_doorOf (l : Launch) (G : KG) (tag : Nat → Nat) (L : List Nat) (F : Nat → va_E) (ho : okT G ttC tag L F) (p0 : Nat) (p1 : Int32) (p2 : Int32) (m0 : p0 ∈ L) (g0 : tag p0 = 19) : TMi l yX7_doorOf cX7_doorOf 3 (some .int) { frames := 1, cells := 0, slots := 0, locals := 24 } G ttC tag L F [.ref p0, .int p1, .int p2] (fun r F1 => F1 = F ∧ ((-2147483648) ≤ r.toInt ∧ r.toInt ≤ 2147483647)) := by
  refine t_bodyi (y := yX7_doorOf) (cd := cX7_doorOf) (mL := 3) (rt := (some .int)) (rm := { frames := 1, cells := 0, slots := 0, locals := 24 }) (av := [.ref p0, .int p1, .int p2]) (by decide) (Nat.le_of_ble_eq_true rfl) ho ?_
  intro p e s m args below meth c ls A Q hQ X hT hl
  have hx := X.1.1
  have hb := X.1.2.1
  have hl : lv_has ls 3 [(0, .ref p0), (1, .int p1), (2, .int p2)] := hl
  have rp1 := rg_all p1
  have rp2 := rg_all p2
  refine lv_iload_n hx hb dX7_doorOf_0 rfl (lv_at hl 2 rfl) ?_
  refine lv_aload_n hx hb dX7_doorOf_1 rfl (lv_at hl 0 rfl) ?_
  refine lv_iload_n hx hb dX7_doorOf_2 rfl (lv_at hl 1 rfl) ?_
  refine lv_iload_n hx hb dX7_doorOf_3 rfl (lv_at hl 2 rfl) ?_
  refine lv_iconst (v := 1) hx hb dX7_doorOf_4 (by decide) ?_
  refine t_cVi (n := 3) (C := RX7) (T := TX7) (N := 7) (As := [.int p1, .int p2, .int 1]) (rest := [.int p2]) X hT (kt309_X7_partOf l G tag L F hT.2.2.2 p0 p1 p2 1 m0 g0) m0 g0 rfl rfl qw_856 qw_778 qw_779 qw_22 qw_780 ⟨rfl, by decide +kernel, by decide +kernel, by decide +kernel⟩ ⟨Nat.le_of_ble_eq_true rfl, Nat.le_of_ble_eq_true rfl⟩ hl rfl rfl (Nat.le_of_ble_eq_true rfl) dX7_doorOf_5 ⟨Nat.le_of_ble_eq_true rfl, Nat.le_of_ble_eq_true rfl⟩ (fun z91373 F9 H locs hT hz91373 => ?_)
  obtain ⟨fz91373, hz91373⟩ := hz91373
  rw [fz91373] at hT
  refine lv_aload_n hx hb dX7_doorOf_8 rfl (lv_at hl 0 rfl) ?_
  refine lv_iload_n hx hb dX7_doorOf_9 rfl (lv_at hl 1 rfl) ?_
  refine lv_iload_n hx hb dX7_doorOf_10 rfl (lv_at hl 2 rfl) ?_
  refine lv_iconst (v := 2) hx hb dX7_doorOf_11 (by decide) ?_
  refine t_cVi (n := 3) (C := RX7) (T := TX7) (N := 7) (As := [.int p1, .int p2, .int 2]) (rest := [.int z91373, .int p2]) X hT (kt309_X7_partOf l G tag L F hT.2.2.2 p0 p1 p2 2 m0 g0) m0 g0 rfl rfl qw_856 qw_778 qw_779 qw_22 qw_780 ⟨rfl, by decide +kernel, by decide +kernel, by decide +kernel⟩ ⟨Nat.le_of_ble_eq_true rfl, Nat.le_of_ble_eq_true rfl⟩ hl rfl rfl (Nat.le_of_ble_eq_true rfl) dX7_doorOf_12 ⟨Nat.le_of_ble_eq_true rfl, Nat.le_of_ble_eq_true rfl⟩ (fun z91374 F9 H locs hT hz91374 => ?_)
  obtain ⟨fz91374, hz91374⟩ := hz91374
  rw [fz91374] at hT
  refine t_cSi (n := 3) (As := [.int p2, .int z91373, .int z91374]) (rest := []) X hT (kt296_X4_doorPlace l G tag L F hT.2.2.2 p2 z91373 z91374 ) qw_921 qw_785 qw_409 qw_786 ⟨by decide +kernel, by decide +kernel, by decide +kernel⟩ ⟨Nat.le_of_ble_eq_true rfl, Nat.le_of_ble_eq_true rfl⟩ hl rfl rfl (Nat.le_of_ble_eq_true rfl) dX7_doorOf_15 ⟨Nat.le_of_ble_eq_true rfl, Nat.le_of_ble_eq_true rfl⟩ (fun z91375 F9 H locs hT hz91375 => ?_)
  obtain ⟨fz91375, hz91375⟩ := hz91375
  rw [fz91375] at hT
  exact t_iret hQ X hT (⟨rfl, rg_all _⟩) (Nat.le_of_ble_eq_true rfl) (Nat.le_of_ble_eq_true rfl) dX7_doorOf_18
set_option maxHeartbeats 4000000 in
set_option maxRecDepth 100000 in
theorem kt319_X7_roundIn (l : Launch) (G : KG) (tag : Nat → Nat) (L : List Nat) (F : Nat → va_E) (ho : okT G ttC tag L F) (p0 : Nat) (p1 : Int32) (p2 : Int32) (m0 : p0 ∈ L) (g0 : tag p0 = 19) : TMi l yX7_roundIn cX7_roundIn 3 (some .int) { frames := 2, cells := 0, slots := 0, locals := 46 } G ttC tag L F [.ref p0, .int p1, .int p2] (fun r F1 => F1 = F ∧ ((-2147483648) ≤ r.toInt ∧ r.toInt ≤ 2147483647)) := by
  refine t_bodyi (y := yX7_roundIn) (cd := cX7_roundIn) (mL := 3) (rt := (some .int)) (rm := { frames := 2, cells := 0, slots := 0, locals := 46 }) (av := [.ref p0, .int p1, .int p2]) (by decide) (Nat.le_of_ble_eq_true rfl) ho ?_
  intro p e s m args below meth c ls A Q hQ X hT hl
  have hx := X.1.1
  have hb := X.1.2.1
  have hl : lv_has ls 3 [(0, .ref p0), (1, .int p1), (2, .int p2)] := hl
  have rp1 := rg_all p1
  have rp2 := rg_all p2
  refine lv_iload_n hx hb dX7_roundIn_0 rfl (lv_at hl 2 rfl) ?_
  refine lv_aload_n hx hb dX7_roundIn_1 rfl (lv_at hl 0 rfl) ?_
  refine lv_iload_n hx hb dX7_roundIn_2 rfl (lv_at hl 1 rfl) ?_
  refine lv_iload_n hx hb dX7_roundIn_3 rfl (lv_at hl 2 rfl) ?_
  refine t_cVi (n := 2) (C := RX7) (T := TX7) (N := 7) (As := [.int p1, .int p2]) (rest := [.int p2]) X hT (kt318_X7_doorOf l G tag L F hT.2.2.2 p0 p1 p2 m0 g0) m0 g0 rfl rfl qw_992 qw_918 qw_919 qw_22 qw_920 ⟨rfl, by decide +kernel, by decide +kernel, by decide +kernel⟩ ⟨Nat.le_of_ble_eq_true rfl, Nat.le_of_ble_eq_true rfl⟩ hl rfl rfl (Nat.le_of_ble_eq_true rfl) dX7_roundIn_4 ⟨Nat.le_of_ble_eq_true rfl, Nat.le_of_ble_eq_true rfl⟩ (fun z91442 F9 H locs hT hz91442 => ?_)
  obtain ⟨fz91442, hz91442⟩ := hz91442
  rw [fz91442] at hT
  refine lv_iload_n hx hb dX7_roundIn_7 rfl (lv_at hl 2 rfl) ?_
  refine lv_iconst (v := 1) hx hb dX7_roundIn_8 (by decide) ?_
  refine lv_isub hx hb dX7_roundIn_9 ?_
  refine lv_topi (fun z91443 ez91443 => ?_)
  have rz91443 := rg_all z91443
  refine lv_aload_n hx hb dX7_roundIn_10 rfl (lv_at hl 0 rfl) ?_
  refine lv_iload_n hx hb dX7_roundIn_11 rfl (lv_at hl 1 rfl) ?_
  refine lv_iload_n hx hb dX7_roundIn_12 rfl (lv_at hl 2 rfl) ?_
  refine lv_iconst (v := 1) hx hb dX7_roundIn_13 (by decide) ?_
  refine lv_isub hx hb dX7_roundIn_14 ?_
  refine lv_topi (fun z91444 ez91444 => ?_)
  have rz91444 := rg_all z91444
  refine t_cVi (n := 2) (C := RX7) (T := TX7) (N := 7) (As := [.int p1, .int z91444]) (rest := [.int z91443, .int z91442, .int p2]) X hT (kt318_X7_doorOf l G tag L F hT.2.2.2 p0 p1 z91444 m0 g0) m0 g0 rfl rfl qw_992 qw_918 qw_919 qw_22 qw_920 ⟨rfl, by decide +kernel, by decide +kernel, by decide +kernel⟩ ⟨Nat.le_of_ble_eq_true rfl, Nat.le_of_ble_eq_true rfl⟩ hl rfl rfl (Nat.le_of_ble_eq_true rfl) dX7_roundIn_15 ⟨Nat.le_of_ble_eq_true rfl, Nat.le_of_ble_eq_true rfl⟩ (fun z91445 F9 H locs hT hz91445 => ?_)
  obtain ⟨fz91445, hz91445⟩ := hz91445
  rw [fz91445] at hT
  refine t_cSi (n := 2) (As := [.int z91443, .int z91445]) (rest := [.int z91442, .int p2]) X hT (kt298_X4_inFront l G tag L F hT.2.2.2 z91443 z91445 ) qw_993 qw_923 qw_409 qw_924 ⟨by decide +kernel, by decide +kernel, by decide +kernel⟩ ⟨Nat.le_of_ble_eq_true rfl, Nat.le_of_ble_eq_true rfl⟩ hl rfl rfl (Nat.le_of_ble_eq_true rfl) dX7_roundIn_18 ⟨Nat.le_of_ble_eq_true rfl, Nat.le_of_ble_eq_true rfl⟩ (fun z91446 F9 H locs hT hz91446 => ?_)
  obtain ⟨fz91446, hz91446⟩ := hz91446
  rw [fz91446] at hT
  refine t_cSi (n := 3) (As := [.int p2, .int z91442, .int z91446]) (rest := []) X hT (kt299_X4_between l G tag L F hT.2.2.2 p2 z91442 z91446 ) qw_994 qw_926 qw_409 qw_927 ⟨by decide +kernel, by decide +kernel, by decide +kernel⟩ ⟨Nat.le_of_ble_eq_true rfl, Nat.le_of_ble_eq_true rfl⟩ hl rfl rfl (Nat.le_of_ble_eq_true rfl) dX7_roundIn_21 ⟨Nat.le_of_ble_eq_true rfl, Nat.le_of_ble_eq_true rfl⟩ (fun z91447 F9 H locs hT hz91447 => ?_)
  obtain ⟨fz91447, hz91447⟩ := hz91447
  rw [fz91447] at hT
  exact t_iret hQ X hT (⟨rfl, rg_all _⟩) (Nat.le_of_ble_eq_true rfl) (Nat.le_of_ble_eq_true rfl) dX7_roundIn_24
set_option maxHeartbeats 4000000 in
set_option maxRecDepth 100000 in
theorem kt320_X7_wayTo (l : Launch) (G : KG) (tag : Nat → Nat) (L : List Nat) (F : Nat → va_E) (ho : okT G ttC tag L F) (p0 : Nat) (p1 : Int32) (p2 : Int32) (m0 : p0 ∈ L) (g0 : tag p0 = 19) (h1 : 0 ≤ p1.toInt ∧ p1.toInt ≤ 3) : TMi l yX7_wayTo cX7_wayTo 6 (some .int) { frames := 3, cells := 0, slots := 0, locals := 68 } G ttC tag L F [.ref p0, .int p1, .int p2] (fun r F1 => F1 = F ∧ ((-2147483648) ≤ r.toInt ∧ r.toInt ≤ 2147483647)) := by
  refine t_bodyi (y := yX7_wayTo) (cd := cX7_wayTo) (mL := 6) (rt := (some .int)) (rm := { frames := 3, cells := 0, slots := 0, locals := 68 }) (av := [.ref p0, .int p1, .int p2]) (by decide) (Nat.le_of_ble_eq_true rfl) ho ?_
  intro p e s m args below meth c ls A Q hQ X hT hl
  have hx := X.1.1
  have hb := X.1.2.1
  have hl : lv_has ls 6 [(0, .ref p0), (1, .int p1), (2, .int p2)] := hl
  have rp2 := rg_all p2
  have K42 : ∀ (n : Nat) (z91869 : Int32) (z91870 : Int32) (z91871 : Int32) (H : Heap) (locs : List Loc) (ls : Array Slot), (z91871.toInt - 0 < (n : Int)) → (1 ≤ z91869.toInt ∧ z91869.toInt ≤ 2147483647) → (0 ≤ z91871.toInt ∧ z91871.toInt ≤ 6) → TH G ttC A s tag L F H locs → lv_has ls 6 [(0, .ref p0), (1, .int p1), (2, .int p2), (3, .int z91869), (4, .int z91870), (5, .int z91871)] → W p l e { frames := 3, cells := 0, slots := 0, locals := 68 } s m args below meth c H locs 0 0 Q (F0 m 42 ls []) := by
    intro n
    induction n with
    | zero =>
      intro z91869 z91870 z91871 H locs ls hn rz91869 rz91871 hT hl
      have rz91870 := rg_all z91870
      exfalso
      omega
    | succ n ih42 =>
      intro z91869 z91870 z91871 H locs ls hn rz91869 rz91871 hT hl
      have rz91870 := rg_all z91870
      have K82 : ∀ (z91873 : Int32) (H : Heap) (locs : List Loc) (ls : Array Slot), (1 ≤ z91869.toInt ∧ z91869.toInt ≤ 6) → (1 ≤ z91871.toInt ∧ z91871.toInt ≤ 6) → TH G ttC A s tag L F H locs → lv_has ls 6 [(0, .ref p0), (1, .int p1), (2, .int p2), (3, .int z91869), (4, .int z91873), (5, .int z91871)] → W p l e { frames := 3, cells := 0, slots := 0, locals := 68 } s m args below meth c H locs 0 0 Q (F0 m 82 ls []) := by
        intro z91873 H locs ls r9s91872 r9s91874 hT hl
        have rz91873 := rg_all z91873
        obtain ⟨z91875, ez91875⟩ : ∃ y : Int32, y = z91871 + (-1) := ⟨_, rfl⟩
        have hz91875 : z91875.toInt = z91871.toInt + (-1) := ar_add ez91875 rfl (by decide : ((-1) : Int32).toInt = (-1)) (by omega) (by omega)
        refine lv_iinc (v := z91875) (lv' := [(5, .int z91875), (0, .ref p0), (1, .int p1), (2, .int p2), (3, .int z91869), (4, .int z91873)]) hx hb dX7_wayTo_82 hl (k := 5) rfl (by rw [ez91875]; rfl) (by decide) rfl (fun ls hl => ?_)
        refine lv_goto (tgt := 42) hx hb dX7_wayTo_85 (by decide) ?_
        exact ih42 z91869 z91873 z91875 _ _ _ (by omega) (by omega) (by omega) hT  (lv_sub hl [1, 2, 3, 4, 5, 0] rfl)
      refine lv_iload hx hb dX7_wayTo_42 (lv_at hl 5 rfl) ?_
      refine lv_iload_n hx hb dX7_wayTo_44 rfl (lv_at hl 3 rfl) ?_
      refine lv_icmp_lt (tgt := 88) hx hb dX7_wayTo_45 (by decide) (fun c91876 => ?_) (fun c91876 => ?_)
      · have w91877 := cv_lt (rfl : z91871.toInt = z91871.toInt) (rfl : z91869.toInt = z91869.toInt) c91876
        refine lv_iload hx hb dX7_wayTo_88 (lv_at hl 4 rfl) ?_
        exact t_iret hQ X hT (⟨rfl, rg_all _⟩) (Nat.le_of_ble_eq_true rfl) (Nat.le_of_ble_eq_true rfl) dX7_wayTo_90
      · have w91878 := cv_nlt (rfl : z91871.toInt = z91871.toInt) (rfl : z91869.toInt = z91869.toInt) c91876
        refine lv_aload_n hx hb dX7_wayTo_48 rfl (lv_at hl 0 rfl) ?_
        refine lv_iload_n hx hb dX7_wayTo_49 rfl (lv_at hl 1 rfl) ?_
        refine lv_iload hx hb dX7_wayTo_50 (lv_at hl 5 rfl) ?_
        refine t_cVi (n := 2) (C := RX7) (T := TX7) (N := 7) (As := [.int p1, .int z91871]) (rest := []) X hT (kt313_X7_isOpen l G tag L F hT.2.2.2 p0 p1 z91871 m0 g0) m0 g0 rfl rfl qw_983 qw_984 qw_985 qw_22 qw_986 ⟨rfl, by decide +kernel, by decide +kernel, by decide +kernel⟩ ⟨Nat.le_of_ble_eq_true rfl, Nat.le_of_ble_eq_true rfl⟩ hl rfl rfl (Nat.le_of_ble_eq_true rfl) dX7_wayTo_52 ⟨Nat.le_of_ble_eq_true rfl, Nat.le_of_ble_eq_true rfl⟩ (fun z91879 F9 H locs hT hz91879 => ?_)
        obtain ⟨fz91879, hz91879⟩ := hz91879
        rw [fz91879] at hT
        refine lv_if_ne (tgt := 61) hx hb dX7_wayTo_55 (by decide) (fun c91880 => ?_) (fun c91880 => ?_)
        · have w91881 := cv_ne (rfl : z91879.toInt = z91879.toInt) (by decide : (0 : Int32).toInt = 0) c91880
          obtain ⟨z91882, ez91882⟩ : ∃ y : Int32, y = z91870 + 1 := ⟨_, rfl⟩
          have rz91882 := rg_all z91882
          refine lv_iinc (v := z91882) (lv' := [(4, .int z91882), (0, .ref p0), (1, .int p1), (2, .int p2), (3, .int z91869), (5, .int z91871)]) hx hb dX7_wayTo_61 hl (k := 4) rfl (by rw [ez91882]; rfl) (by decide) rfl (fun ls hl => ?_)
          refine lv_iload hx hb dX7_wayTo_64 (lv_at hl 5 rfl) ?_
          refine lv_iload_n hx hb dX7_wayTo_66 rfl (lv_at hl 4 rfl) ?_
          refine lv_icmp_le (tgt := 82) hx hb dX7_wayTo_67 (by decide) (fun c91883 => ?_) (fun c91883 => ?_)
          · have w91884 := cv_le (rfl : z91871.toInt = z91871.toInt) (rfl : z91869.toInt = z91869.toInt) c91883
            exact K82 z91882 _ _ _ (by omega) (by omega) hT  (lv_sub hl [1, 2, 3, 4, 0, 5] rfl)
          · have w91885 := cv_nle (rfl : z91871.toInt = z91871.toInt) (rfl : z91869.toInt = z91869.toInt) c91883
            refine lv_iload hx hb dX7_wayTo_70 (lv_at hl 0 rfl) ?_
            refine lv_aload_n hx hb dX7_wayTo_72 rfl (lv_at hl 1 rfl) ?_
            refine lv_iload_n hx hb dX7_wayTo_73 rfl (lv_at hl 2 rfl) ?_
            refine lv_iload hx hb dX7_wayTo_74 (lv_at hl 5 rfl) ?_
            refine t_cVi (n := 2) (C := RX7) (T := TX7) (N := 7) (As := [.int p1, .int z91871]) (rest := [.int z91882]) X hT (kt319_X7_roundIn l G tag L F hT.2.2.2 p0 p1 z91871 m0 g0) m0 g0 rfl rfl qw_988 qw_989 qw_990 qw_22 qw_991 ⟨rfl, by decide +kernel, by decide +kernel, by decide +kernel⟩ ⟨Nat.le_of_ble_eq_true rfl, Nat.le_of_ble_eq_true rfl⟩ hl rfl rfl (Nat.le_of_ble_eq_true rfl) dX7_wayTo_76 ⟨Nat.le_of_ble_eq_true rfl, Nat.le_of_ble_eq_true rfl⟩ (fun z91886 F9 H locs hT hz91886 => ?_)
            obtain ⟨fz91886, hz91886⟩ := hz91886
            rw [fz91886] at hT
            refine lv_iadd hx hb dX7_wayTo_79 ?_
            refine lv_topi (fun z91887 ez91887 => ?_)
            have rz91887 := rg_all z91887
            refine lv_istore (lv' := [(4, .int z91887), (0, .ref p0), (1, .int p1), (2, .int p2), (3, .int z91869), (5, .int z91871)]) hx hb dX7_wayTo_80 hl (by decide) rfl (fun ls hl => ?_)
            exact K82 z91887 _ _ _ (by omega) (by omega) hT  (lv_sub hl [1, 2, 3, 4, 0, 5] rfl)
        · have w91888 := cv_eq (rfl : z91879.toInt = z91879.toInt) (by decide : (0 : Int32).toInt = 0) c91880
          refine lv_bipush (v := (-2)) hx hb dX7_wayTo_58 (by decide) ?_
          exact t_iret hQ X hT (⟨rfl, rg_all _⟩) (Nat.le_of_ble_eq_true rfl) (Nat.le_of_ble_eq_true rfl) dX7_wayTo_60
  have K32 : ∀ (z91889 : Int32) (z91890 : Int32) (H : Heap) (locs : List Loc) (ls : Array Slot), (1 ≤ z91889.toInt ∧ z91889.toInt ≤ 2147483647) → (0 ≤ z91890.toInt ∧ z91890.toInt ≤ 1) → TH G ttC A s tag L F H locs → lv_has ls 6 [(0, .ref p0), (1, .int p1), (2, .int p2), (3, .int z91889)] → W p l e { frames := 3, cells := 0, slots := 0, locals := 68 } s m args below meth c H locs 0 0 Q (F0 m 32 ls [.int z91890]) := by
    intro z91889 z91890 H locs ls rz91889 rz91890 hT hl
    refine lv_istore (lv' := [(4, .int z91890), (0, .ref p0), (1, .int p1), (2, .int p2), (3, .int z91889)]) hx hb dX7_wayTo_32 hl (by decide) rfl (fun ls hl => ?_)
    refine lv_aload_n hx hb dX7_wayTo_34 rfl (lv_at hl 1 rfl) ?_
    refine t_get (C := RX7) (T := TX7) (N := 7) X hT m0 g0 rfl rfl 2 (by decide) qw_62 inlX7 rfl dX7_wayTo_35 (fun v91891 hv91891 ov91891 => ?_)
    obtain ⟨b91892, rfl, mb91892, gb91892⟩ := okV_r ov91891
    have gb91892 : tag b91892 = 8 := tg_of gb91892
    refine lv_iload_n hx hb dX7_wayTo_38 rfl (lv_at hl 2 rfl) ?_
    refine t_ild X hT mb91892 gb91892 rfl (by omega) dX7_wayTo_39 (fun z91893 vz91893 rz91893 => ?_)
    have rz91893 : 0 ≤ z91893.toInt ∧ z91893.toInt ≤ 6 := rz91893
    refine lv_istore (lv' := [(5, .int z91893), (4, .int z91890), (0, .ref p0), (1, .int p1), (2, .int p2), (3, .int z91889)]) hx hb dX7_wayTo_40 hl (by decide) rfl (fun ls hl => ?_)
    exact K42 7 z91889 z91890 z91893 _ _ _ (by omega) (by omega) (by omega) hT  (lv_sub hl [2, 3, 4, 5, 1, 0] rfl)
  have K21 : ∀ (z91894 : Int32) (H : Heap) (locs : List Loc) (ls : Array Slot), (1 ≤ z91894.toInt ∧ z91894.toInt ≤ 2147483647) → TH G ttC A s tag L F H locs → lv_has ls 6 [(0, .ref p0), (1, .int p1), (2, .int p2)] → W p l e { frames := 3, cells := 0, slots := 0, locals := 68 } s m args below meth c H locs 0 0 Q (F0 m 21 ls [.int z91894]) := by
    intro z91894 H locs ls rz91894 hT hl
    refine lv_istore_n (lv' := [(3, .int z91894), (0, .ref p0), (1, .int p1), (2, .int p2)]) hx hb dX7_wayTo_21 rfl hl (by decide) rfl (fun ls hl => ?_)
    refine lv_iload_n hx hb dX7_wayTo_22 rfl (lv_at hl 3 rfl) ?_
    refine lv_iconst (v := 1) hx hb dX7_wayTo_23 (by decide) ?_
    refine lv_icmp_ge (tgt := 31) hx hb dX7_wayTo_24 (by decide) (fun c91895 => ?_) (fun c91895 => ?_)
    · have w91896 := cv_le (by decide : (1 : Int32).toInt = 1) (rfl : p2.toInt = p2.toInt) c91895
      refine lv_iconst (v := 0) hx hb dX7_wayTo_31 (by decide) ?_
      exact K32 z91894 0 _ _ _ (by omega) (by decide) hT  (lv_sub hl [1, 2, 3, 0] rfl)
    · have w91897 := cv_nle (by decide : (1 : Int32).toInt = 1) (rfl : p2.toInt = p2.toInt) c91895
      refine lv_iconst (v := 1) hx hb dX7_wayTo_27 (by decide) ?_
      refine lv_goto (tgt := 32) hx hb dX7_wayTo_28 (by decide) ?_
      exact K32 z91894 1 _ _ _ (by omega) (by decide) hT  (lv_sub hl [1, 2, 3, 0] rfl)
  refine lv_aload_n hx hb dX7_wayTo_0 rfl (lv_at hl 0 rfl) ?_
  refine t_get (C := RX7) (T := TX7) (N := 7) X hT m0 g0 rfl rfl 2 (by decide) qw_62 inlX7 rfl dX7_wayTo_1 (fun v91898 hv91898 ov91898 => ?_)
  obtain ⟨b91899, rfl, mb91899, gb91899⟩ := okV_r ov91898
  have gb91899 : tag b91899 = 8 := tg_of gb91899
  refine lv_iload_n hx hb dX7_wayTo_4 rfl (lv_at hl 1 rfl) ?_
  refine t_ild X hT mb91899 gb91899 rfl (by omega) dX7_wayTo_5 (fun z91900 vz91900 rz91900 => ?_)
  have rz91900 : 0 ≤ z91900.toInt ∧ z91900.toInt ≤ 6 := rz91900
  refine lv_if_ne (tgt := 11) hx hb dX7_wayTo_6 (by decide) (fun c91901 => ?_) (fun c91901 => ?_)
  · have w91902 := cv_ne (rfl : z91900.toInt = z91900.toInt) (by decide : (0 : Int32).toInt = 0) c91901
    refine lv_iload_n hx hb dX7_wayTo_11 rfl (lv_at hl 2 rfl) ?_
    refine lv_iconst (v := 1) hx hb dX7_wayTo_12 (by decide) ?_
    refine lv_icmp_ge (tgt := 20) hx hb dX7_wayTo_13 (by decide) (fun c91903 => ?_) (fun c91903 => ?_)
    · have w91904 := cv_le (by decide : (1 : Int32).toInt = 1) (rfl : p2.toInt = p2.toInt) c91903
      refine lv_iload_n hx hb dX7_wayTo_20 rfl (lv_at hl 2 rfl) ?_
      exact K21 p2 _ _ _ (by omega) hT  (lv_sub hl [0, 1, 2] rfl)
    · have w91905 := cv_nle (by decide : (1 : Int32).toInt = 1) (rfl : p2.toInt = p2.toInt) c91903
      refine lv_iconst (v := 1) hx hb dX7_wayTo_16 (by decide) ?_
      refine lv_goto (tgt := 21) hx hb dX7_wayTo_17 (by decide) ?_
      exact K21 1 _ _ _ (by decide) hT  (lv_sub hl [0, 1, 2] rfl)
  · have w91906 := cv_eq (rfl : z91900.toInt = z91900.toInt) (by decide : (0 : Int32).toInt = 0) c91901
    refine lv_iconst (v := 0) hx hb dX7_wayTo_9 (by decide) ?_
    exact t_iret hQ X hT (⟨rfl, rg_all _⟩) (Nat.le_of_ble_eq_true rfl) (Nat.le_of_ble_eq_true rfl) dX7_wayTo_10
set_option maxHeartbeats 4000000 in
set_option maxRecDepth 100000 in
theorem kt321_X7_draw (l : Launch) (G : KG) (tag : Nat → Nat) (L : List Nat) (Fo : Nat → va_E) (ho : okT G ttC tag L Fo) (p0 : Nat) (m0 : p0 ∈ L) (g0 : tag p0 = 19) : TMi l yX7_draw cX7_draw 1 (some .int) { frames := 0, cells := 0, slots := 0, locals := 0 } G ttC tag L Fo [.ref p0] (fun r F1 => ((-2147483648) ≤ r.toInt ∧ r.toInt ≤ 2147483647) ∧ ((∀ b j : Nat, (tag b ≠ 19 ∨ j ≠ 1) → fld F1 b j = fld Fo b j) ∧ EF tag F1 Fo)) := by
  refine t_bodyi (y := yX7_draw) (cd := cX7_draw) (mL := 1) (rt := (some .int)) (rm := { frames := 0, cells := 0, slots := 0, locals := 0 }) (av := [.ref p0]) (by decide) (Nat.le_of_ble_eq_true rfl) ho ?_
  intro p e s m args below meth c ls A Q hQ X hT hl
  have hx := X.1.1
  have hb := X.1.2.1
  have hl : lv_has ls 1 [(0, .ref p0)] := hl
  obtain ⟨F, hFo⟩ : ∃ F : Nat → va_E, F = Fo := ⟨_, rfl⟩
  rw [← hFo] at hT
  have hfr : (∀ b j : Nat, (tag b ≠ 19 ∨ j ≠ 1) → fld F b j = fld Fo b j) ∧ EF tag F Fo := by
    rw [hFo]
    exact ⟨by intros; rfl, fun _ _ _ => rfl⟩
  refine lv_aload_n hx hb dX7_draw_0 rfl (lv_at hl 0 rfl) ?_
  refine lv_bipush (v := 75) hx hb dX7_draw_1 (by decide) ?_
  refine lv_aload_n hx hb dX7_draw_3 rfl (lv_at hl 0 rfl) ?_
  refine t_get (C := RX7) (T := TX7) (N := 7) X hT m0 g0 rfl rfl 1 (by decide) qw_188 inlX7 rfl dX7_draw_4 (fun v91984 hv91984 ov91984 => ?_)
  obtain ⟨z91985, rfl, rz91985⟩ := okV_i ov91984
  refine lv_imul hx hb dX7_draw_7 ?_
  refine lv_topi (fun z91986 ez91986 => ?_)
  have rz91986 := rg_all z91986
  refine lv_bipush (v := 74) hx hb dX7_draw_8 (by decide) ?_
  refine lv_iadd hx hb dX7_draw_10 ?_
  refine lv_topi (fun z91987 ez91987 => ?_)
  have rz91987 := rg_all z91987
  refine m_ldc X qw_1115 dX7_draw_11 ?_
  refine lv_irem hx hb dX7_draw_13 (by decide) ?_
  refine lv_topi (fun z91988 ez91988 => ?_)
  have rz91988 := rg_all z91988
  refine t_put (C := RX7) (T := TX7) (N := 7) (v := .int z91988) X hT m0 g0 rfl tyX7 tyX7_ok nmX7 rfl 1 (by decide) qw_188 inlX7 rfl (by first | rfl | decide) (by first | rfl | decide) rfl (⟨_, rfl, (show (-2147483648) ≤ (z91988 : Int32).toInt from (by omega)), (show (z91988 : Int32).toInt ≤ 2147483647 from (by omega))⟩) dX7_draw_14 (fun F H locs hT v91989 h1v91989 h2v91989 => ?_)
  have hfr : (∀ b j : Nat, (tag b ≠ 19 ∨ j ≠ 1) → fld F b j = fld Fo b j) ∧ EF tag F Fo := ⟨fun b j n19_1 => (h1v91989 b j (fr_ne g0 n19_1)).trans (hfr.1 b j n19_1), fun b j hb => (h2v91989 b j).trans (hfr.2 b j hb)⟩
  refine lv_aload_n hx hb dX7_draw_17 rfl (lv_at hl 0 rfl) ?_
  refine t_get (C := RX7) (T := TX7) (N := 7) X hT m0 g0 rfl rfl 1 (by decide) qw_188 inlX7 rfl dX7_draw_18 (fun v91990 hv91990 ov91990 => ?_)
  obtain rfl : v91990 = .int z91988 := hv91990.symm.trans v91989
  exact t_iret hQ X hT (⟨rg_all _, hfr⟩) (Nat.le_of_ble_eq_true rfl) (Nat.le_of_ble_eq_true rfl) dX7_draw_21
set_option maxHeartbeats 4000000 in
set_option maxRecDepth 100000 in
theorem kt322_X6_ownersOf (l : Launch) (G : KG) (tag : Nat → Nat) (L : List Nat) (F : Nat → va_E) (ho : okT G ttC tag L F) (p0 : Nat) (p1 : Nat) (p2 : Int32) (p3 : Int32) (m0 : p0 ∈ L) (g0 : tag p0 = 18) (m1 : p1 ∈ L) (g1 : tag p1 = 19) : TMi l yX6_ownersOf cX6_ownersOf 6 (some .int) { frames := 1, cells := 0, slots := 0, locals := 25 } G ttC tag L F [.ref p0, .ref p1, .int p2, .int p3] (fun r F1 => F1 = F ∧ ((-2147483648) ≤ r.toInt ∧ r.toInt ≤ 2147483647)) := by
  refine t_bodyi (y := yX6_ownersOf) (cd := cX6_ownersOf) (mL := 6) (rt := (some .int)) (rm := { frames := 1, cells := 0, slots := 0, locals := 25 }) (av := [.ref p0, .ref p1, .int p2, .int p3]) (by decide) (Nat.le_of_ble_eq_true rfl) ho ?_
  intro p e s m args below meth c ls A Q hQ X hT hl
  have hx := X.1.1
  have hb := X.1.2.1
  have hl : lv_has ls 6 [(0, .ref p0), (1, .ref p1), (2, .int p2), (3, .int p3)] := hl
  have rp2 := rg_all p2
  have rp3 := rg_all p3
  have K6 : ∀ (n : Nat) (z92292 : Int32) (z92293 : Int32) (H : Heap) (locs : List Loc) (ls : Array Slot), (4 - z92293.toInt < (n : Int)) → (0 ≤ z92293.toInt ∧ z92293.toInt ≤ 4) → TH G ttC A s tag L F H locs → lv_has ls 6 [(0, .ref p0), (1, .ref p1), (2, .int p2), (3, .int p3), (4, .int z92292), (5, .int z92293)] → W p l e { frames := 1, cells := 0, slots := 0, locals := 25 } s m args below meth c H locs 0 0 Q (F0 m 6 ls []) := by
    intro n
    induction n with
    | zero =>
      intro z92292 z92293 H locs ls hn rz92293 hT hl
      have rz92292 := rg_all z92292
      exfalso
      omega
    | succ n ih6 =>
      intro z92292 z92293 H locs ls hn rz92293 hT hl
      have rz92292 := rg_all z92292
      have K42 : ∀ (z92294 : Int32) (z92296 : Int32) (H : Heap) (locs : List Loc) (ls : Array Slot), (1 ≤ z92296.toInt ∧ z92296.toInt ≤ 4) → (0 ≤ z92293.toInt ∧ z92293.toInt ≤ 3) → TH G ttC A s tag L F H locs → fld F p0 10 = .int z92296 → lv_has ls 6 [(0, .ref p0), (1, .ref p1), (2, .int p2), (3, .int p3), (4, .int z92294), (5, .int z92293)] → W p l e { frames := 1, cells := 0, slots := 0, locals := 25 } s m args below meth c H locs 0 0 Q (F0 m 42 ls []) := by
        intro z92294 z92296 H locs ls rz92296 r9s92295 hT qz92296 hl
        have rz92294 := rg_all z92294
        obtain ⟨z92297, ez92297⟩ : ∃ y : Int32, y = z92293 + 1 := ⟨_, rfl⟩
        have hz92297 : z92297.toInt = z92293.toInt + 1 := ar_add ez92297 rfl (by decide : (1 : Int32).toInt = 1) (by omega) (by omega)
        refine lv_iinc (v := z92297) (lv' := [(5, .int z92297), (0, .ref p0), (1, .ref p1), (2, .int p2), (3, .int p3), (4, .int z92294)]) hx hb dX6_ownersOf_42 hl (k := 5) rfl (by rw [ez92297]; rfl) (by decide) rfl (fun ls hl => ?_)
        refine lv_goto (tgt := 6) hx hb dX6_ownersOf_45 (by decide) ?_
        exact ih6 z92294 z92297 _ _ _ (by omega) (by omega) hT  (lv_sub hl [1, 2, 3, 4, 5, 0] rfl)
      refine lv_iload hx hb dX6_ownersOf_6 (lv_at hl 5 rfl) ?_
      refine lv_aload_n hx hb dX6_ownersOf_8 rfl (lv_at hl 0 rfl) ?_
      refine t_get (C := RX1) (T := TX1) (N := 20) X hT m0 g0 rfl rfl 10 (by decide) qw_382 inlX1 rfl dX6_ownersOf_9 (fun v92298 hv92298 ov92298 => ?_)
      obtain ⟨z92299, rfl, rz92299⟩ := okV_i ov92298
      refine lv_icmp_ge (tgt := 48) hx hb dX6_ownersOf_12 (by decide) (fun c92300 => ?_) (fun c92300 => ?_)
      · have w92301 := cv_le (rfl : z92299.toInt = z92299.toInt) (rfl : z92293.toInt = z92293.toInt) c92300
        refine lv_iload hx hb dX6_ownersOf_48 (lv_at hl 4 rfl) ?_
        exact t_iret hQ X hT (⟨rfl, rg_all _⟩) (Nat.le_of_ble_eq_true rfl) (Nat.le_of_ble_eq_true rfl) dX6_ownersOf_50
      · have w92302 := cv_nle (rfl : z92299.toInt = z92299.toInt) (rfl : z92293.toInt = z92293.toInt) c92300
        refine lv_aload_n hx hb dX6_ownersOf_15 rfl (lv_at hl 0 rfl) ?_
        refine lv_iload hx hb dX6_ownersOf_16 (lv_at hl 5 rfl) ?_
        refine lv_iload_n hx hb dX6_ownersOf_18 rfl (lv_at hl 2 rfl) ?_
        refine lv_iload_n hx hb dX6_ownersOf_19 rfl (lv_at hl 3 rfl) ?_
        refine t_cVi (n := 3) (C := RX1) (T := TX1) (N := 20) (As := [.int z92293, .int p2, .int p3]) (rest := []) X hT (kt306_X1_apart l G tag L F hT.2.2.2 p0 z92293 p2 p3 m0 g0 (by omega)) m0 g0 rfl rfl qw_389 qw_390 qw_391 qw_17 qw_392 ⟨rfl, by decide +kernel, by decide +kernel, by decide +kernel⟩ ⟨Nat.le_of_ble_eq_true rfl, Nat.le_of_ble_eq_true rfl⟩ hl rfl rfl (Nat.le_of_ble_eq_true rfl) dX6_ownersOf_20 ⟨Nat.le_of_ble_eq_true rfl, Nat.le_of_ble_eq_true rfl⟩ (fun z92303 F9 H locs hT hz92303 => ?_)
        obtain ⟨fz92303, hz92303⟩ := hz92303
        rw [fz92303] at hT
        refine lv_aload_n hx hb dX6_ownersOf_23 rfl (lv_at hl 1 rfl) ?_
        refine t_get (C := RX7) (T := TX7) (N := 7) X hT m1 g1 rfl rfl 2 (by decide) qw_383 inlX7 rfl dX6_ownersOf_24 (fun v92304 hv92304 ov92304 => ?_)
        obtain ⟨b92305, rfl, mb92305, gb92305⟩ := okV_r ov92304
        have gb92305 : tag b92305 = 8 := tg_of gb92305
        refine lv_iload hx hb dX6_ownersOf_27 (lv_at hl 5 rfl) ?_
        refine t_ild X hT mb92305 gb92305 rfl (by omega) dX6_ownersOf_29 (fun z92306 vz92306 rz92306 => ?_)
        have rz92306 : 0 ≤ z92306.toInt ∧ z92306.toInt ≤ 6 := rz92306
        refine lv_icmp_gt (tgt := 42) hx hb dX6_ownersOf_30 (by decide) (fun c92307 => ?_) (fun c92307 => ?_)
        · have w92308 := cv_lt (rfl : z92306.toInt = z92306.toInt) (rfl : z92303.toInt = z92303.toInt) c92307
          exact K42 z92292 z92299 _ _ _ (by omega) (by omega) hT hv92298 (lv_sub hl [0, 1, 2, 3, 4, 5] rfl)
        · have w92309 := cv_nlt (rfl : z92306.toInt = z92306.toInt) (rfl : z92303.toInt = z92303.toInt) c92307
          refine lv_iload hx hb dX6_ownersOf_33 (lv_at hl 4 rfl) ?_
          refine lv_iconst (v := 1) hx hb dX6_ownersOf_35 (by decide) ?_
          refine lv_iload hx hb dX6_ownersOf_36 (lv_at hl 5 rfl) ?_
          refine lv_ishl hx hb dX6_ownersOf_38 ?_
          refine lv_topi (fun z92310 ez92310 => ?_)
          have rz92310 := rg_all z92310
          refine lv_ior hx hb dX6_ownersOf_39 ?_
          refine lv_topi (fun z92311 ez92311 => ?_)
          have rz92311 := rg_all z92311
          refine lv_istore (lv' := [(4, .int z92311), (0, .ref p0), (1, .ref p1), (2, .int p2), (3, .int p3), (5, .int z92293)]) hx hb dX6_ownersOf_40 hl (by decide) rfl (fun ls hl => ?_)
          exact K42 z92311 z92299 _ _ _ (by omega) (by omega) hT hv92298 (lv_sub hl [1, 2, 3, 4, 0, 5] rfl)
  refine lv_iconst (v := 0) hx hb dX6_ownersOf_0 (by decide) ?_
  refine lv_istore (lv' := [(4, .int 0), (0, .ref p0), (1, .ref p1), (2, .int p2), (3, .int p3)]) hx hb dX6_ownersOf_1 hl (by decide) rfl (fun ls hl => ?_)
  refine lv_iconst (v := 0) hx hb dX6_ownersOf_3 (by decide) ?_
  refine lv_istore (lv' := [(5, .int 0), (4, .int 0), (0, .ref p0), (1, .ref p1), (2, .int p2), (3, .int p3)]) hx hb dX6_ownersOf_4 hl (by decide) rfl (fun ls hl => ?_)
  have kk92312 : (0 : Int32).toInt = 0 := by decide
  have kk92313 : (0 : Int32).toInt = 0 := by decide
  exact K6 5 0 0 _ _ _ (by omega) (by decide) hT  (lv_sub hl [2, 3, 4, 5, 1, 0] rfl)
set_option maxHeartbeats 4000000 in
set_option maxRecDepth 100000 in
theorem kt323_X6_isFree (l : Launch) (G : KG) (tag : Nat → Nat) (L : List Nat) (F : Nat → va_E) (ho : okT G ttC tag L F) (p0 : Nat) (p1 : Nat) (p2 : Int32) (p3 : Int32) (m0 : p0 ∈ L) (g0 : tag p0 = 18) (m1 : p1 ∈ L) (g1 : tag p1 = 19) : TMi l yX6_isFree cX6_isFree 5 (some .boolean) { frames := 1, cells := 0, slots := 0, locals := 25 } G ttC tag L F [.ref p0, .ref p1, .int p2, .int p3] (fun r F1 => F1 = F ∧ (0 ≤ r.toInt ∧ r.toInt ≤ 1)) := by
  refine t_bodyi (y := yX6_isFree) (cd := cX6_isFree) (mL := 5) (rt := (some .boolean)) (rm := { frames := 1, cells := 0, slots := 0, locals := 25 }) (av := [.ref p0, .ref p1, .int p2, .int p3]) (by decide) (Nat.le_of_ble_eq_true rfl) ho ?_
  intro p e s m args below meth c ls A Q hQ X hT hl
  have hx := X.1.1
  have hb := X.1.2.1
  have hl : lv_has ls 5 [(0, .ref p0), (1, .ref p1), (2, .int p2), (3, .int p3)] := hl
  have rp2 := rg_all p2
  have rp3 := rg_all p3
  have K23 : ∀ (n : Nat) (z92627 : Int32) (H : Heap) (locs : List Loc) (ls : Array Slot), (4 - z92627.toInt < (n : Int)) → (0 ≤ z92627.toInt ∧ z92627.toInt ≤ 4) → TH G ttC A s tag L F H locs → lv_has ls 5 [(0, .ref p0), (1, .ref p1), (2, .int p2), (3, .int p3), (4, .int z92627)] → W p l e { frames := 1, cells := 0, slots := 0, locals := 25 } s m args below meth c H locs 0 0 Q (F0 m 23 ls []) := by
    intro n
    induction n with
    | zero =>
      intro z92627 H locs ls hn rz92627 hT hl
      exfalso
      omega
    | succ n ih23 =>
      intro z92627 H locs ls hn rz92627 hT hl
      refine lv_iload hx hb dX6_isFree_23 (lv_at hl 4 rfl) ?_
      refine lv_aload_n hx hb dX6_isFree_25 rfl (lv_at hl 0 rfl) ?_
      refine t_get (C := RX1) (T := TX1) (N := 20) X hT m0 g0 rfl rfl 10 (by decide) qw_382 inlX1 rfl dX6_isFree_26 (fun v92628 hv92628 ov92628 => ?_)
      obtain ⟨z92629, rfl, rz92629⟩ := okV_i ov92628
      refine lv_icmp_ge (tgt := 58) hx hb dX6_isFree_29 (by decide) (fun c92630 => ?_) (fun c92630 => ?_)
      · have w92631 := cv_le (rfl : z92629.toInt = z92629.toInt) (rfl : z92627.toInt = z92627.toInt) c92630
        refine lv_iconst (v := 1) hx hb dX6_isFree_58 (by decide) ?_
        exact t_zret hQ X hT (by decide) (⟨rfl, (by decide)⟩) (Nat.le_of_ble_eq_true rfl) (Nat.le_of_ble_eq_true rfl) dX6_isFree_59
      · have w92632 := cv_nle (rfl : z92629.toInt = z92629.toInt) (rfl : z92627.toInt = z92627.toInt) c92630
        refine lv_aload_n hx hb dX6_isFree_32 rfl (lv_at hl 0 rfl) ?_
        refine lv_iload hx hb dX6_isFree_33 (lv_at hl 4 rfl) ?_
        refine lv_iload_n hx hb dX6_isFree_35 rfl (lv_at hl 2 rfl) ?_
        refine lv_iload_n hx hb dX6_isFree_36 rfl (lv_at hl 3 rfl) ?_
        refine t_cVi (n := 3) (C := RX1) (T := TX1) (N := 20) (As := [.int z92627, .int p2, .int p3]) (rest := []) X hT (kt306_X1_apart l G tag L F hT.2.2.2 p0 z92627 p2 p3 m0 g0 (by omega)) m0 g0 rfl rfl qw_389 qw_390 qw_391 qw_17 qw_392 ⟨rfl, by decide +kernel, by decide +kernel, by decide +kernel⟩ ⟨Nat.le_of_ble_eq_true rfl, Nat.le_of_ble_eq_true rfl⟩ hl rfl rfl (Nat.le_of_ble_eq_true rfl) dX6_isFree_37 ⟨Nat.le_of_ble_eq_true rfl, Nat.le_of_ble_eq_true rfl⟩ (fun z92633 F9 H locs hT hz92633 => ?_)
        obtain ⟨fz92633, hz92633⟩ := hz92633
        rw [fz92633] at hT
        refine lv_aload_n hx hb dX6_isFree_40 rfl (lv_at hl 1 rfl) ?_
        refine t_get (C := RX7) (T := TX7) (N := 7) X hT m1 g1 rfl rfl 2 (by decide) qw_383 inlX7 rfl dX6_isFree_41 (fun v92634 hv92634 ov92634 => ?_)
        obtain ⟨b92635, rfl, mb92635, gb92635⟩ := okV_r ov92634
        have gb92635 : tag b92635 = 8 := tg_of gb92635
        refine lv_iload hx hb dX6_isFree_44 (lv_at hl 4 rfl) ?_
        refine t_ild X hT mb92635 gb92635 rfl (by omega) dX6_isFree_46 (fun z92636 vz92636 rz92636 => ?_)
        have rz92636 : 0 ≤ z92636.toInt ∧ z92636.toInt ≤ 6 := rz92636
        refine lv_icmp_gt (tgt := 52) hx hb dX6_isFree_47 (by decide) (fun c92637 => ?_) (fun c92637 => ?_)
        · have w92638 := cv_lt (rfl : z92636.toInt = z92636.toInt) (rfl : z92633.toInt = z92633.toInt) c92637
          obtain ⟨z92639, ez92639⟩ : ∃ y : Int32, y = z92627 + 1 := ⟨_, rfl⟩
          have hz92639 : z92639.toInt = z92627.toInt + 1 := ar_add ez92639 rfl (by decide : (1 : Int32).toInt = 1) (by omega) (by omega)
          refine lv_iinc (v := z92639) (lv' := [(4, .int z92639), (0, .ref p0), (1, .ref p1), (2, .int p2), (3, .int p3)]) hx hb dX6_isFree_52 hl (k := 4) rfl (by rw [ez92639]; rfl) (by decide) rfl (fun ls hl => ?_)
          refine lv_goto (tgt := 23) hx hb dX6_isFree_55 (by decide) ?_
          exact ih23 z92639 _ _ _ (by omega) (by omega) hT  (lv_sub hl [1, 2, 3, 4, 0] rfl)
        · have w92640 := cv_nlt (rfl : z92636.toInt = z92636.toInt) (rfl : z92633.toInt = z92633.toInt) c92637
          refine lv_iconst (v := 0) hx hb dX6_isFree_50 (by decide) ?_
          exact t_zret hQ X hT (by decide) (⟨rfl, (by decide)⟩) (Nat.le_of_ble_eq_true rfl) (Nat.le_of_ble_eq_true rfl) dX6_isFree_51
  refine lv_aload_n hx hb dX6_isFree_0 rfl (lv_at hl 0 rfl) ?_
  refine lv_iload_n hx hb dX6_isFree_1 rfl (lv_at hl 2 rfl) ?_
  refine lv_iload_n hx hb dX6_isFree_2 rfl (lv_at hl 3 rfl) ?_
  refine t_cVi (n := 2) (C := RX1) (T := TX1) (N := 20) (As := [.int p2, .int p3]) (rest := []) X hT (kt300_X1_isOn l G tag L F hT.2.2.2 p0 p2 p3 m0 g0) m0 g0 rfl rfl qw_384 qw_385 qw_386 qw_17 qw_387 ⟨rfl, by decide +kernel, by decide +kernel, by decide +kernel⟩ ⟨Nat.le_of_ble_eq_true rfl, Nat.le_of_ble_eq_true rfl⟩ hl rfl rfl (Nat.le_of_ble_eq_true rfl) dX6_isFree_3 ⟨Nat.le_of_ble_eq_true rfl, Nat.le_of_ble_eq_true rfl⟩ (fun z92641 F9 H locs hT hz92641 => ?_)
  obtain ⟨fz92641, hz92641⟩ := hz92641
  rw [fz92641] at hT
  refine lv_if_eq (tgt := 18) hx hb dX6_isFree_6 (by decide) (fun c92642 => ?_) (fun c92642 => ?_)
  · have w92643 := cv_eq (rfl : z92641.toInt = z92641.toInt) (by decide : (0 : Int32).toInt = 0) c92642
    refine lv_iconst (v := 0) hx hb dX6_isFree_18 (by decide) ?_
    exact t_zret hQ X hT (by decide) (⟨rfl, (by decide)⟩) (Nat.le_of_ble_eq_true rfl) (Nat.le_of_ble_eq_true rfl) dX6_isFree_19
  · have w92644 := cv_ne (rfl : z92641.toInt = z92641.toInt) (by decide : (0 : Int32).toInt = 0) c92642
    refine lv_aload_n hx hb dX6_isFree_9 rfl (lv_at hl 0 rfl) ?_
    refine lv_iload_n hx hb dX6_isFree_10 rfl (lv_at hl 2 rfl) ?_
    refine lv_iload_n hx hb dX6_isFree_11 rfl (lv_at hl 3 rfl) ?_
    refine t_cVi (n := 2) (C := RX1) (T := TX1) (N := 20) (As := [.int p2, .int p3]) (rest := []) X hT (kt301_X1_isWet l G tag L F hT.2.2.2 p0 p2 p3 m0 g0) m0 g0 rfl rfl qw_388 qw_345 qw_346 qw_17 qw_347 ⟨rfl, by decide +kernel, by decide +kernel, by decide +kernel⟩ ⟨Nat.le_of_ble_eq_true rfl, Nat.le_of_ble_eq_true rfl⟩ hl rfl rfl (Nat.le_of_ble_eq_true rfl) dX6_isFree_12 ⟨Nat.le_of_ble_eq_true rfl, Nat.le_of_ble_eq_true rfl⟩ (fun z92645 F9 H locs hT hz92645 => ?_)
    obtain ⟨fz92645, hz92645⟩ := hz92645
    rw [fz92645] at hT
    refine lv_if_eq (tgt := 20) hx hb dX6_isFree_15 (by decide) (fun c92646 => ?_) (fun c92646 => ?_)
    · have w92647 := cv_eq (rfl : z92645.toInt = z92645.toInt) (by decide : (0 : Int32).toInt = 0) c92646
      refine lv_iconst (v := 0) hx hb dX6_isFree_20 (by decide) ?_
      refine lv_istore (lv' := [(4, .int 0), (0, .ref p0), (1, .ref p1), (2, .int p2), (3, .int p3)]) hx hb dX6_isFree_21 hl (by decide) rfl (fun ls hl => ?_)
      have kk92648 : (0 : Int32).toInt = 0 := by decide
      exact K23 5 0 _ _ _ (by omega) (by decide) hT  (lv_sub hl [1, 2, 3, 4, 0] rfl)
    · have w92649 := cv_ne (rfl : z92645.toInt = z92645.toInt) (by decide : (0 : Int32).toInt = 0) c92646
      refine lv_iconst (v := 0) hx hb dX6_isFree_18 (by decide) ?_
      exact t_zret hQ X hT (by decide) (⟨rfl, (by decide)⟩) (Nat.le_of_ble_eq_true rfl) (Nat.le_of_ble_eq_true rfl) dX6_isFree_19
set_option maxHeartbeats 4000000 in
set_option maxRecDepth 100000 in
theorem kt324_X6_isLeftTo (l : Launch) (G : KG) (tag : Nat → Nat) (L : List Nat) (F : Nat → va_E) (ho : okT G ttC tag L F) (p0 : Nat) (p1 : Nat) (p2 : Int32) (p3 : Int32) (p4 : Int32) (m0 : p0 ∈ L) (g0 : tag p0 = 18) (m1 : p1 ∈ L) (g1 : tag p1 = 19) : TMi l yX6_isLeftTo cX6_isLeftTo 8 (some .boolean) { frames := 1, cells := 0, slots := 0, locals := 25 } G ttC tag L F [.ref p0, .ref p1, .int p2, .int p3, .int p4] (fun r F1 => F1 = F ∧ (0 ≤ r.toInt ∧ r.toInt ≤ 1)) := by
  refine t_bodyi (y := yX6_isLeftTo) (cd := cX6_isLeftTo) (mL := 8) (rt := (some .boolean)) (rm := { frames := 1, cells := 0, slots := 0, locals := 25 }) (av := [.ref p0, .ref p1, .int p2, .int p3, .int p4]) (by decide) (Nat.le_of_ble_eq_true rfl) ho ?_
  intro p e s m args below meth c ls A Q hQ X hT hl
  have hx := X.1.1
  have hb := X.1.2.1
  have hl : lv_has ls 8 [(0, .ref p0), (1, .ref p1), (2, .int p2), (3, .int p3), (4, .int p4)] := hl
  have rp2 := rg_all p2
  have rp3 := rg_all p3
  have rp4 := rg_all p4
  have K3 : ∀ (n : Nat) (z93248 : Int32) (H : Heap) (locs : List Loc) (ls : Array Slot), (4 - z93248.toInt < (n : Int)) → (0 ≤ z93248.toInt ∧ z93248.toInt ≤ 4) → TH G ttC A s tag L F H locs → lv_has ls 8 [(0, .ref p0), (1, .ref p1), (2, .int p2), (3, .int p3), (4, .int p4), (5, .int z93248)] → W p l e { frames := 1, cells := 0, slots := 0, locals := 25 } s m args below meth c H locs 0 0 Q (F0 m 3 ls []) := by
    intro n
    induction n with
    | zero =>
      intro z93248 H locs ls hn rz93248 hT hl
      exfalso
      omega
    | succ n ih3 =>
      intro z93248 H locs ls hn rz93248 hT hl
      have K82 : ∀ (z93250 : Int32) (z93251 : Int32) (z93252 : Int32) (z93253 : Int32) (H : Heap) (locs : List Loc) (ls : Array Slot), (0 ≤ z93251.toInt ∧ z93251.toInt ≤ 1) → (1 ≤ z93252.toInt ∧ z93252.toInt ≤ 4) → (0 ≤ z93253.toInt ∧ z93253.toInt ≤ 1) → (0 ≤ z93248.toInt ∧ z93248.toInt ≤ 3) → TH G ttC A s tag L F H locs → fld F p0 10 = .int z93252 → fld F p0 3 = .int z93253 → lv_has ls 8 [(0, .ref p0), (1, .ref p1), (2, .int p2), (3, .int p3), (4, .int p4), (5, .int z93248), (6, .int z93250), (7, .int z93251)] → W p l e { frames := 1, cells := 0, slots := 0, locals := 25 } s m args below meth c H locs 0 0 Q (F0 m 82 ls []) := by
        intro z93250 z93251 z93252 z93253 H locs ls rz93251 rz93252 rz93253 r9s93249 hT qz93252 qz93253 hl
        have rz93250 := rg_all z93250
        obtain ⟨z93254, ez93254⟩ : ∃ y : Int32, y = z93248 + 1 := ⟨_, rfl⟩
        have hz93254 : z93254.toInt = z93248.toInt + 1 := ar_add ez93254 rfl (by decide : (1 : Int32).toInt = 1) (by omega) (by omega)
        refine lv_iinc (v := z93254) (lv' := [(5, .int z93254), (0, .ref p0), (1, .ref p1), (2, .int p2), (3, .int p3), (4, .int p4), (6, .int z93250), (7, .int z93251)]) hx hb dX6_isLeftTo_82 hl (k := 5) rfl (by rw [ez93254]; rfl) (by decide) rfl (fun ls hl => ?_)
        refine lv_goto (tgt := 3) hx hb dX6_isLeftTo_85 (by decide) ?_
        exact ih3 z93254 _ _ _ (by omega) (by omega) hT  (lv_sub hl [1, 2, 3, 4, 5, 0] rfl)
      have K67 : ∀ (z93256 : Int32) (z93257 : Int32) (z93258 : Int32) (z93259 : Int32) (H : Heap) (locs : List Loc) (ls : Array Slot), (0 ≤ z93257.toInt ∧ z93257.toInt ≤ 1) → (1 ≤ z93258.toInt ∧ z93258.toInt ≤ 4) → (0 ≤ z93259.toInt ∧ z93259.toInt ≤ 1) → (0 ≤ z93248.toInt ∧ z93248.toInt ≤ 3) → TH G ttC A s tag L F H locs → fld F p0 10 = .int z93258 → fld F p0 3 = .int z93259 → lv_has ls 8 [(0, .ref p0), (1, .ref p1), (2, .int p2), (3, .int p3), (4, .int p4), (5, .int z93248), (6, .int z93256)] → W p l e { frames := 1, cells := 0, slots := 0, locals := 25 } s m args below meth c H locs 0 0 Q (F0 m 67 ls [.int z93257]) := by
        intro z93256 z93257 z93258 z93259 H locs ls rz93257 rz93258 rz93259 r9s93255 hT qz93258 qz93259 hl
        have rz93256 := rg_all z93256
        refine lv_istore (lv' := [(7, .int z93257), (0, .ref p0), (1, .ref p1), (2, .int p2), (3, .int p3), (4, .int p4), (5, .int z93248), (6, .int z93256)]) hx hb dX6_isLeftTo_67 hl (by decide) rfl (fun ls hl => ?_)
        refine lv_iload hx hb dX6_isLeftTo_69 (lv_at hl 6 rfl) ?_
        refine lv_iload_n hx hb dX6_isLeftTo_71 rfl (lv_at hl 3 rfl) ?_
        refine lv_icmp_eq (tgt := 82) hx hb dX6_isLeftTo_72 (by decide) (fun c93260 => ?_) (fun c93260 => ?_)
        · have w93261 := cv_eq (rfl : z93248.toInt = z93248.toInt) (rfl : p2.toInt = p2.toInt) c93260
          exact K82 z93256 z93257 z93258 z93259 _ _ _ (by omega) (by omega) (by omega) (by omega) hT qz93258 qz93259 (lv_sub hl [1, 2, 3, 4, 5, 6, 7, 0] rfl)
        · have w93262 := cv_ne (rfl : z93248.toInt = z93248.toInt) (rfl : p2.toInt = p2.toInt) c93260
          refine lv_iload hx hb dX6_isLeftTo_75 (lv_at hl 0 rfl) ?_
          refine lv_if_eq (tgt := 82) hx hb dX6_isLeftTo_77 (by decide) (fun c93263 => ?_) (fun c93263 => ?_)
          · have w93264 := cv_eq (rfl : z93257.toInt = z93257.toInt) (by decide : (0 : Int32).toInt = 0) c93263
            exact K82 z93256 z93257 z93258 z93259 _ _ _ (by omega) (by omega) (by omega) (by omega) hT qz93258 qz93259 (lv_sub hl [1, 2, 3, 4, 5, 6, 7, 0] rfl)
          · have w93265 := cv_ne (rfl : z93257.toInt = z93257.toInt) (by decide : (0 : Int32).toInt = 0) c93263
            refine lv_iconst (v := 0) hx hb dX6_isLeftTo_80 (by decide) ?_
            exact t_zret hQ X hT (by decide) (⟨rfl, (by decide)⟩) (Nat.le_of_ble_eq_true rfl) (Nat.le_of_ble_eq_true rfl) dX6_isLeftTo_81
      refine lv_iload hx hb dX6_isLeftTo_3 (lv_at hl 5 rfl) ?_
      refine lv_aload_n hx hb dX6_isLeftTo_5 rfl (lv_at hl 0 rfl) ?_
      refine t_get (C := RX1) (T := TX1) (N := 20) X hT m0 g0 rfl rfl 10 (by decide) qw_382 inlX1 rfl dX6_isLeftTo_6 (fun v93266 hv93266 ov93266 => ?_)
      obtain ⟨z93267, rfl, rz93267⟩ := okV_i ov93266
      refine lv_icmp_ge (tgt := 88) hx hb dX6_isLeftTo_9 (by decide) (fun c93268 => ?_) (fun c93268 => ?_)
      · have w93269 := cv_le (rfl : z93267.toInt = z93267.toInt) (rfl : z93248.toInt = z93248.toInt) c93268
        refine lv_iconst (v := 1) hx hb dX6_isLeftTo_88 (by decide) ?_
        exact t_zret hQ X hT (by decide) (⟨rfl, (by decide)⟩) (Nat.le_of_ble_eq_true rfl) (Nat.le_of_ble_eq_true rfl) dX6_isLeftTo_89
      · have w93270 := cv_nle (rfl : z93267.toInt = z93267.toInt) (rfl : z93248.toInt = z93248.toInt) c93268
        refine lv_aload_n hx hb dX6_isLeftTo_12 rfl (lv_at hl 0 rfl) ?_
        refine lv_iload hx hb dX6_isLeftTo_13 (lv_at hl 5 rfl) ?_
        refine lv_iload_n hx hb dX6_isLeftTo_15 rfl (lv_at hl 3 rfl) ?_
        refine lv_iload hx hb dX6_isLeftTo_16 (lv_at hl 4 rfl) ?_
        refine t_cVi (n := 3) (C := RX1) (T := TX1) (N := 20) (As := [.int z93248, .int p3, .int p4]) (rest := []) X hT (kt306_X1_apart l G tag L F hT.2.2.2 p0 z93248 p3 p4 m0 g0 (by omega)) m0 g0 rfl rfl qw_389 qw_390 qw_391 qw_17 qw_392 ⟨rfl, by decide +kernel, by decide +kernel, by decide +kernel⟩ ⟨Nat.le_of_ble_eq_true rfl, Nat.le_of_ble_eq_true rfl⟩ hl rfl rfl (Nat.le_of_ble_eq_true rfl) dX6_isLeftTo_18 ⟨Nat.le_of_ble_eq_true rfl, Nat.le_of_ble_eq_true rfl⟩ (fun z93271 F9 H locs hT hz93271 => ?_)
        obtain ⟨fz93271, hz93271⟩ := hz93271
        rw [fz93271] at hT
        refine lv_istore (lv' := [(6, .int z93271), (0, .ref p0), (1, .ref p1), (2, .int p2), (3, .int p3), (4, .int p4), (5, .int z93248)]) hx hb dX6_isLeftTo_21 hl (by decide) rfl (fun ls hl => ?_)
        refine lv_aload_n hx hb dX6_isLeftTo_23 rfl (lv_at hl 1 rfl) ?_
        refine t_get (C := RX1) (T := TX1) (N := 20) X hT m0 g0 rfl rfl 3 (by decide) qw_417 inlX1 rfl dX6_isLeftTo_24 (fun v93272 hv93272 ov93272 => ?_)
        obtain ⟨z93273, rfl, rz93273⟩ := okV_i ov93272
        refine lv_if_eq (tgt := 50) hx hb dX6_isLeftTo_27 (by decide) (fun c93274 => ?_) (fun c93274 => ?_)
        · have w93275 := cv_eq (rfl : z93273.toInt = z93273.toInt) (by decide : (0 : Int32).toInt = 0) c93274
          refine lv_iload hx hb dX6_isLeftTo_50 (lv_at hl 0 rfl) ?_
          refine lv_aload_n hx hb dX6_isLeftTo_52 rfl (lv_at hl 2 rfl) ?_
          refine t_get (C := RX7) (T := TX7) (N := 7) X hT m1 g1 rfl rfl 2 (by decide) qw_383 inlX7 rfl dX6_isLeftTo_53 (fun v93276 hv93276 ov93276 => ?_)
          obtain ⟨b93277, rfl, mb93277, gb93277⟩ := okV_r ov93276
          have gb93277 : tag b93277 = 8 := tg_of gb93277
          refine lv_iload hx hb dX6_isLeftTo_56 (lv_at hl 6 rfl) ?_
          refine t_ild X hT mb93277 gb93277 rfl (by omega) dX6_isLeftTo_58 (fun z93278 vz93278 rz93278 => ?_)
          have rz93278 : 0 ≤ z93278.toInt ∧ z93278.toInt ≤ 6 := rz93278
          refine lv_icmp_gt (tgt := 66) hx hb dX6_isLeftTo_59 (by decide) (fun c93279 => ?_) (fun c93279 => ?_)
          · have w93280 := cv_lt (rfl : z93278.toInt = z93278.toInt) (rfl : z93271.toInt = z93271.toInt) c93279
            refine lv_iconst (v := 0) hx hb dX6_isLeftTo_66 (by decide) ?_
            exact K67 z93271 0 z93267 z93273 _ _ _ (by decide) (by omega) (by omega) (by omega) hT hv93266 hv93272 (lv_sub hl [1, 2, 3, 4, 5, 6, 0] rfl)
          · have w93281 := cv_nlt (rfl : z93278.toInt = z93278.toInt) (rfl : z93271.toInt = z93271.toInt) c93279
            refine lv_iconst (v := 1) hx hb dX6_isLeftTo_62 (by decide) ?_
            refine lv_goto (tgt := 67) hx hb dX6_isLeftTo_63 (by decide) ?_
            exact K67 z93271 1 z93267 z93273 _ _ _ (by decide) (by omega) (by omega) (by omega) hT hv93266 hv93272 (lv_sub hl [1, 2, 3, 4, 5, 6, 0] rfl)
        · have w93282 := cv_ne (rfl : z93273.toInt = z93273.toInt) (by decide : (0 : Int32).toInt = 0) c93274
          refine lv_iload hx hb dX6_isLeftTo_30 (lv_at hl 0 rfl) ?_
          refine lv_aload_n hx hb dX6_isLeftTo_32 rfl (lv_at hl 2 rfl) ?_
          refine t_get (C := RX7) (T := TX7) (N := 7) X hT m1 g1 rfl rfl 2 (by decide) qw_383 inlX7 rfl dX6_isLeftTo_33 (fun v93283 hv93283 ov93283 => ?_)
          obtain ⟨b93284, rfl, mb93284, gb93284⟩ := okV_r ov93283
          have gb93284 : tag b93284 = 8 := tg_of gb93284
          refine lv_iload hx hb dX6_isLeftTo_36 (lv_at hl 6 rfl) ?_
          refine t_ild X hT mb93284 gb93284 rfl (by omega) dX6_isLeftTo_38 (fun z93285 vz93285 rz93285 => ?_)
          have rz93285 : 0 ≤ z93285.toInt ∧ z93285.toInt ≤ 6 := rz93285
          refine lv_icmp_ge (tgt := 46) hx hb dX6_isLeftTo_39 (by decide) (fun c93286 => ?_) (fun c93286 => ?_)
          · have w93287 := cv_le (rfl : z93285.toInt = z93285.toInt) (rfl : z93271.toInt = z93271.toInt) c93286
            refine lv_iconst (v := 0) hx hb dX6_isLeftTo_46 (by decide) ?_
            refine lv_goto (tgt := 67) hx hb dX6_isLeftTo_47 (by decide) ?_
            exact K67 z93271 0 z93267 z93273 _ _ _ (by decide) (by omega) (by omega) (by omega) hT hv93266 hv93272 (lv_sub hl [1, 2, 3, 4, 5, 6, 0] rfl)
          · have w93288 := cv_nle (rfl : z93285.toInt = z93285.toInt) (rfl : z93271.toInt = z93271.toInt) c93286
            refine lv_iconst (v := 1) hx hb dX6_isLeftTo_42 (by decide) ?_
            refine lv_goto (tgt := 67) hx hb dX6_isLeftTo_43 (by decide) ?_
            exact K67 z93271 1 z93267 z93273 _ _ _ (by decide) (by omega) (by omega) (by omega) hT hv93266 hv93272 (lv_sub hl [1, 2, 3, 4, 5, 6, 0] rfl)
  refine lv_iconst (v := 0) hx hb dX6_isLeftTo_0 (by decide) ?_
  refine lv_istore (lv' := [(5, .int 0), (0, .ref p0), (1, .ref p1), (2, .int p2), (3, .int p3), (4, .int p4)]) hx hb dX6_isLeftTo_1 hl (by decide) rfl (fun ls hl => ?_)
  have kk93289 : (0 : Int32).toInt = 0 := by decide
  exact K3 5 0 _ _ _ (by omega) (by decide) hT  (lv_sub hl [1, 2, 3, 4, 5, 0] rfl)
set_option maxHeartbeats 4000000 in
set_option maxRecDepth 100000 in
theorem kt325_X6_isFit (l : Launch) (G : KG) (tag : Nat → Nat) (L : List Nat) (F : Nat → va_E) (ho : okT G ttC tag L F) (p0 : Nat) (p1 : Nat) (p2 : Int32) (m0 : p0 ∈ L) (g0 : tag p0 = 18) (m1 : p1 ∈ L) (g1 : tag p1 = 19) (h2 : 0 ≤ p2.toInt ∧ p2.toInt ≤ 3) : TMi l yX6_isFit cX6_isFit 9 (some .boolean) { frames := 2, cells := 0, slots := 0, locals := 52 } G ttC tag L F [.ref p0, .ref p1, .int p2] (fun r F1 => F1 = F ∧ (0 ≤ r.toInt ∧ r.toInt ≤ 1)) := by
  refine t_bodyi (y := yX6_isFit) (cd := cX6_isFit) (mL := 9) (rt := (some .boolean)) (rm := { frames := 2, cells := 0, slots := 0, locals := 52 }) (av := [.ref p0, .ref p1, .int p2]) (by decide) (Nat.le_of_ble_eq_true rfl) ho ?_
  intro p e s m args below meth c ls A Q hQ X hT hl
  have hx := X.1.1
  have hb := X.1.2.1
  have hl : lv_has ls 9 [(0, .ref p0), (1, .ref p1), (2, .int p2)] := hl
  have K66 : ∀ (n : Nat) (z94040 : Int32) (z94041 : Int32) (z94042 : Int32) (z94043 : Int32) (H : Heap) (locs : List Loc) (ls : Array Slot), (48 - z94043.toInt < (n : Int)) → (1 ≤ z94040.toInt ∧ z94040.toInt ≤ 6) → (0 ≤ z94041.toInt ∧ z94041.toInt ≤ 11) → (0 ≤ z94042.toInt ∧ z94042.toInt ≤ 11) → (0 ≤ z94043.toInt ∧ z94043.toInt ≤ 48) → TH G ttC A s tag L F H locs → lv_has ls 9 [(0, .ref p0), (1, .ref p1), (2, .int p2), (3, .int z94040), (4, .int z94041), (5, .int z94042), (6, .int z94043)] → W p l e { frames := 2, cells := 0, slots := 0, locals := 52 } s m args below meth c H locs 0 0 Q (F0 m 66 ls []) := by
    intro n
    induction n with
    | zero =>
      intro z94040 z94041 z94042 z94043 H locs ls hn rz94040 rz94041 rz94042 rz94043 hT hl
      exfalso
      omega
    | succ n ih66 =>
      intro z94040 z94041 z94042 z94043 H locs ls hn rz94040 rz94041 rz94042 rz94043 hT hl
      refine lv_iload hx hb dX6_isFit_66 (lv_at hl 6 rfl) ?_
      refine lv_bipush (v := 8) hx hb dX6_isFit_68 (by decide) ?_
      refine lv_iload_n hx hb dX6_isFit_70 rfl (lv_at hl 3 rfl) ?_
      refine lv_imul hx hb dX6_isFit_71 ?_
      refine lv_topi (fun z94044 ez94044 => ?_)
      have hz94044 : z94044.toInt = 8 * z94040.toInt := ar_mul ez94044 (by decide : (8 : Int32).toInt = 8) (rfl : z94040.toInt = z94040.toInt) (by omega) (by omega)
      have rz94044 : 8 ≤ z94044.toInt ∧ z94044.toInt ≤ 48 := by omega
      refine lv_icmp_ge (tgt := 129) hx hb dX6_isFit_72 (by decide) (fun c94045 => ?_) (fun c94045 => ?_)
      · have w94046 := cv_le (rfl : z94044.toInt = z94044.toInt) (rfl : z94043.toInt = z94043.toInt) c94045
        refine lv_iconst (v := 1) hx hb dX6_isFit_129 (by decide) ?_
        exact t_zret hQ X hT (by decide) (⟨rfl, (by decide)⟩) (Nat.le_of_ble_eq_true rfl) (Nat.le_of_ble_eq_true rfl) dX6_isFit_130
      · have w94047 := cv_nle (rfl : z94044.toInt = z94044.toInt) (rfl : z94043.toInt = z94043.toInt) c94045
        refine lv_iload hx hb dX6_isFit_75 (lv_at hl 4 rfl) ?_
        refine lv_iload_n hx hb dX6_isFit_77 rfl (lv_at hl 3 rfl) ?_
        refine lv_iload hx hb dX6_isFit_78 (lv_at hl 6 rfl) ?_
        refine t_cSi (n := 2) (As := [.int z94040, .int z94043]) (rest := [.int z94041]) X hT (kt294_X4_eastOf l G tag L F hT.2.2.2 z94040 z94043 ) qw_407 qw_408 qw_409 qw_410 ⟨by decide +kernel, by decide +kernel, by decide +kernel⟩ ⟨Nat.le_of_ble_eq_true rfl, Nat.le_of_ble_eq_true rfl⟩ hl rfl rfl (Nat.le_of_ble_eq_true rfl) dX6_isFit_80 ⟨Nat.le_of_ble_eq_true rfl, Nat.le_of_ble_eq_true rfl⟩ (fun z94048 F9 H locs hT hz94048 => ?_)
        obtain ⟨fz94048, hz94048⟩ := hz94048
        rw [fz94048] at hT
        refine lv_iadd hx hb dX6_isFit_83 ?_
        refine lv_topi (fun z94049 ez94049 => ?_)
        have rz94049 := rg_all z94049
        refine lv_istore (lv' := [(7, .int z94049), (0, .ref p0), (1, .ref p1), (2, .int p2), (3, .int z94040), (4, .int z94041), (5, .int z94042), (6, .int z94043)]) hx hb dX6_isFit_84 hl (by decide) rfl (fun ls hl => ?_)
        refine lv_iload hx hb dX6_isFit_86 (lv_at hl 6 rfl) ?_
        refine lv_iload_n hx hb dX6_isFit_88 rfl (lv_at hl 4 rfl) ?_
        refine lv_iload hx hb dX6_isFit_89 (lv_at hl 7 rfl) ?_
        refine t_cSi (n := 2) (As := [.int z94040, .int z94043]) (rest := [.int z94042]) X hT (kt295_X4_southOf l G tag L F hT.2.2.2 z94040 z94043 ) qw_411 qw_412 qw_409 qw_413 ⟨by decide +kernel, by decide +kernel, by decide +kernel⟩ ⟨Nat.le_of_ble_eq_true rfl, Nat.le_of_ble_eq_true rfl⟩ hl rfl rfl (Nat.le_of_ble_eq_true rfl) dX6_isFit_91 ⟨Nat.le_of_ble_eq_true rfl, Nat.le_of_ble_eq_true rfl⟩ (fun z94050 F9 H locs hT hz94050 => ?_)
        obtain ⟨fz94050, hz94050⟩ := hz94050
        rw [fz94050] at hT
        refine lv_iadd hx hb dX6_isFit_94 ?_
        refine lv_topi (fun z94051 ez94051 => ?_)
        have rz94051 := rg_all z94051
        refine lv_istore (lv' := [(8, .int z94051), (7, .int z94049), (0, .ref p0), (1, .ref p1), (2, .int p2), (3, .int z94040), (4, .int z94041), (5, .int z94042), (6, .int z94043)]) hx hb dX6_isFit_95 hl (by decide) rfl (fun ls hl => ?_)
        refine lv_aload_n hx hb dX6_isFit_97 rfl (lv_at hl 2 rfl) ?_
        refine lv_iload hx hb dX6_isFit_98 (lv_at hl 1 rfl) ?_
        refine lv_iload hx hb dX6_isFit_100 (lv_at hl 0 rfl) ?_
        refine t_cVi (n := 2) (C := RX1) (T := TX1) (N := 20) (As := [.int z94049, .int z94051]) (rest := []) X hT (kt301_X1_isWet l G tag L F hT.2.2.2 p0 z94049 z94051 m0 g0) m0 g0 rfl rfl qw_388 qw_345 qw_346 qw_17 qw_347 ⟨rfl, by decide +kernel, by decide +kernel, by decide +kernel⟩ ⟨Nat.le_of_ble_eq_true rfl, Nat.le_of_ble_eq_true rfl⟩ hl rfl rfl (Nat.le_of_ble_eq_true rfl) dX6_isFit_102 ⟨Nat.le_of_ble_eq_true rfl, Nat.le_of_ble_eq_true rfl⟩ (fun z94052 F9 H locs hT hz94052 => ?_)
        obtain ⟨fz94052, hz94052⟩ := hz94052
        rw [fz94052] at hT
        refine lv_if_ne (tgt := 121) hx hb dX6_isFit_105 (by decide) (fun c94053 => ?_) (fun c94053 => ?_)
        · have w94054 := cv_ne (rfl : z94052.toInt = z94052.toInt) (by decide : (0 : Int32).toInt = 0) c94053
          refine lv_iconst (v := 0) hx hb dX6_isFit_121 (by decide) ?_
          exact t_zret hQ X hT (by decide) (⟨rfl, (by decide)⟩) (Nat.le_of_ble_eq_true rfl) (Nat.le_of_ble_eq_true rfl) dX6_isFit_122
        · have w94055 := cv_eq (rfl : z94052.toInt = z94052.toInt) (by decide : (0 : Int32).toInt = 0) c94053
          refine lv_aload_n hx hb dX6_isFit_108 rfl (lv_at hl 2 rfl) ?_
          refine lv_aload_n hx hb dX6_isFit_109 rfl (lv_at hl 3 rfl) ?_
          refine lv_iload_n hx hb dX6_isFit_110 rfl (lv_at hl 4 rfl) ?_
          refine lv_iload hx hb dX6_isFit_111 (lv_at hl 1 rfl) ?_
          refine lv_iload hx hb dX6_isFit_113 (lv_at hl 0 rfl) ?_
          refine t_cSi (n := 5) (As := [.ref p0, .ref p1, .int p2, .int z94049, .int z94051]) (rest := []) X hT (kt324_X6_isLeftTo l G tag L F hT.2.2.2 p0 p1 p2 z94049 z94051 m0 g0 m1 g1) qw_414 qw_415 qw_380 qw_416 ⟨by decide +kernel, by decide +kernel, by decide +kernel⟩ ⟨Nat.le_of_ble_eq_true rfl, Nat.le_of_ble_eq_true rfl⟩ hl rfl rfl (Nat.le_of_ble_eq_true rfl) dX6_isFit_115 ⟨Nat.le_of_ble_eq_true rfl, Nat.le_of_ble_eq_true rfl⟩ (fun z94056 F9 H locs hT hz94056 => ?_)
          obtain ⟨fz94056, hz94056⟩ := hz94056
          rw [fz94056] at hT
          refine lv_if_ne (tgt := 123) hx hb dX6_isFit_118 (by decide) (fun c94057 => ?_) (fun c94057 => ?_)
          · have w94058 := cv_ne (rfl : z94056.toInt = z94056.toInt) (by decide : (0 : Int32).toInt = 0) c94057
            obtain ⟨z94059, ez94059⟩ : ∃ y : Int32, y = z94043 + 1 := ⟨_, rfl⟩
            have hz94059 : z94059.toInt = z94043.toInt + 1 := ar_add ez94059 rfl (by decide : (1 : Int32).toInt = 1) (by omega) (by omega)
            refine lv_iinc (v := z94059) (lv' := [(6, .int z94059), (8, .int z94051), (7, .int z94049), (0, .ref p0), (1, .ref p1), (2, .int p2), (3, .int z94040), (4, .int z94041), (5, .int z94042)]) hx hb dX6_isFit_123 hl (k := 8) rfl (by rw [ez94059]; rfl) (by decide) rfl (fun ls hl => ?_)
            refine lv_goto (tgt := 66) hx hb dX6_isFit_126 (by decide) ?_
            exact ih66 z94040 z94041 z94042 z94059 _ _ _ (by omega) (by omega) (by omega) (by omega) (by omega) hT  (lv_sub hl [3, 4, 5, 6, 7, 8, 0] rfl)
          · have w94060 := cv_eq (rfl : z94056.toInt = z94056.toInt) (by decide : (0 : Int32).toInt = 0) c94057
            refine lv_iconst (v := 0) hx hb dX6_isFit_121 (by decide) ?_
            exact t_zret hQ X hT (by decide) (⟨rfl, (by decide)⟩) (Nat.le_of_ble_eq_true rfl) (Nat.le_of_ble_eq_true rfl) dX6_isFit_122
  refine lv_aload_n hx hb dX6_isFit_0 rfl (lv_at hl 1 rfl) ?_
  refine t_get (C := RX7) (T := TX7) (N := 7) X hT m1 g1 rfl rfl 2 (by decide) qw_383 inlX7 rfl dX6_isFit_1 (fun v94061 hv94061 ov94061 => ?_)
  obtain ⟨b94062, rfl, mb94062, gb94062⟩ := okV_r ov94061
  have gb94062 : tag b94062 = 8 := tg_of gb94062
  refine lv_iload_n hx hb dX6_isFit_4 rfl (lv_at hl 2 rfl) ?_
  refine t_ild X hT mb94062 gb94062 rfl (by omega) dX6_isFit_5 (fun z94063 vz94063 rz94063 => ?_)
  have rz94063 : 0 ≤ z94063.toInt ∧ z94063.toInt ≤ 6 := rz94063
  refine lv_iconst (v := 1) hx hb dX6_isFit_6 (by decide) ?_
  refine lv_iadd hx hb dX6_isFit_7 ?_
  refine lv_topi (fun z94064 ez94064 => ?_)
  have hz94064 : z94064.toInt = z94063.toInt + 1 := ar_add ez94064 (rfl : z94063.toInt = z94063.toInt) (by decide : (1 : Int32).toInt = 1) (by omega) (by omega)
  have rz94064 : 1 ≤ z94064.toInt ∧ z94064.toInt ≤ 7 := by omega
  refine lv_istore_n (lv' := [(3, .int z94064), (0, .ref p0), (1, .ref p1), (2, .int p2)]) hx hb dX6_isFit_8 rfl hl (by decide) rfl (fun ls hl => ?_)
  refine lv_aload_n hx hb dX6_isFit_9 rfl (lv_at hl 1 rfl) ?_
  refine t_get (C := RX1) (T := TX1) (N := 20) X hT m0 g0 rfl rfl 11 (by decide) qw_405 inlX1 rfl dX6_isFit_10 (fun v94065 hv94065 ov94065 => ?_)
  obtain ⟨b94066, rfl, mb94066, gb94066⟩ := okV_r ov94065
  have gb94066 : tag b94066 = 4 := tg_of gb94066
  refine lv_iload_n hx hb dX6_isFit_13 rfl (lv_at hl 3 rfl) ?_
  refine t_ild X hT mb94066 gb94066 rfl (by omega) dX6_isFit_14 (fun z94067 vz94067 rz94067 => ?_)
  have rz94067 : 0 ≤ z94067.toInt ∧ z94067.toInt ≤ 11 := rz94067
  refine lv_istore (lv' := [(4, .int z94067), (3, .int z94064), (0, .ref p0), (1, .ref p1), (2, .int p2)]) hx hb dX6_isFit_15 hl (by decide) rfl (fun ls hl => ?_)
  refine lv_aload_n hx hb dX6_isFit_17 rfl (lv_at hl 2 rfl) ?_
  refine t_get (C := RX1) (T := TX1) (N := 20) X hT m0 g0 rfl rfl 12 (by decide) qw_406 inlX1 rfl dX6_isFit_18 (fun v94068 hv94068 ov94068 => ?_)
  obtain ⟨b94069, rfl, mb94069, gb94069⟩ := okV_r ov94068
  have gb94069 : tag b94069 = 4 := tg_of gb94069
  refine lv_iload_n hx hb dX6_isFit_21 rfl (lv_at hl 4 rfl) ?_
  refine t_ild X hT mb94069 gb94069 rfl (by omega) dX6_isFit_22 (fun z94070 vz94070 rz94070 => ?_)
  have rz94070 : 0 ≤ z94070.toInt ∧ z94070.toInt ≤ 11 := rz94070
  refine lv_istore (lv' := [(5, .int z94070), (4, .int z94067), (3, .int z94064), (0, .ref p0), (1, .ref p1), (2, .int p2)]) hx hb dX6_isFit_23 hl (by decide) rfl (fun ls hl => ?_)
  refine lv_iload_n hx hb dX6_isFit_25 rfl (lv_at hl 2 rfl) ?_
  refine lv_bipush (v := 6) hx hb dX6_isFit_26 (by decide) ?_
  refine lv_icmp_gt (tgt := 61) hx hb dX6_isFit_28 (by decide) (fun c94071 => ?_) (fun c94071 => ?_)
  · have w94072 := cv_lt (by decide : (6 : Int32).toInt = 6) (rfl : z94064.toInt = z94064.toInt) c94071
    refine lv_iconst (v := 0) hx hb dX6_isFit_61 (by decide) ?_
    exact t_zret hQ X hT (by decide) (⟨rfl, (by decide)⟩) (Nat.le_of_ble_eq_true rfl) (Nat.le_of_ble_eq_true rfl) dX6_isFit_62
  · have w94073 := cv_nlt (by decide : (6 : Int32).toInt = 6) (rfl : z94064.toInt = z94064.toInt) c94071
    refine lv_aload_n hx hb dX6_isFit_31 rfl (lv_at hl 3 rfl) ?_
    refine lv_iload hx hb dX6_isFit_32 (lv_at hl 1 rfl) ?_
    refine lv_iload_n hx hb dX6_isFit_34 rfl (lv_at hl 2 rfl) ?_
    refine lv_isub hx hb dX6_isFit_35 ?_
    refine lv_topi (fun z94074 ez94074 => ?_)
    have hz94074 : z94074.toInt = z94067.toInt - z94064.toInt := ar_sub ez94074 (rfl : z94067.toInt = z94067.toInt) (rfl : z94064.toInt = z94064.toInt) (by omega) (by omega)
    have rz94074 : (-6) ≤ z94074.toInt ∧ z94074.toInt ≤ 10 := by omega
    refine lv_iload hx hb dX6_isFit_36 (lv_at hl 0 rfl) ?_
    refine lv_iload_n hx hb dX6_isFit_38 rfl (lv_at hl 2 rfl) ?_
    refine lv_isub hx hb dX6_isFit_39 ?_
    refine lv_topi (fun z94075 ez94075 => ?_)
    have hz94075 : z94075.toInt = z94070.toInt - z94064.toInt := ar_sub ez94075 (rfl : z94070.toInt = z94070.toInt) (rfl : z94064.toInt = z94064.toInt) (by omega) (by omega)
    have rz94075 : (-6) ≤ z94075.toInt ∧ z94075.toInt ≤ 10 := by omega
    refine t_cVi (n := 2) (C := RX1) (T := TX1) (N := 20) (As := [.int z94074, .int z94075]) (rest := []) X hT (kt300_X1_isOn l G tag L F hT.2.2.2 p0 z94074 z94075 m0 g0) m0 g0 rfl rfl qw_384 qw_385 qw_386 qw_17 qw_387 ⟨rfl, by decide +kernel, by decide +kernel, by decide +kernel⟩ ⟨Nat.le_of_ble_eq_true rfl, Nat.le_of_ble_eq_true rfl⟩ hl rfl rfl (Nat.le_of_ble_eq_true rfl) dX6_isFit_40 ⟨Nat.le_of_ble_eq_true rfl, Nat.le_of_ble_eq_true rfl⟩ (fun z94076 F9 H locs hT hz94076 => ?_)
    obtain ⟨fz94076, hz94076⟩ := hz94076
    rw [fz94076] at hT
    refine lv_if_eq (tgt := 61) hx hb dX6_isFit_43 (by decide) (fun c94077 => ?_) (fun c94077 => ?_)
    · have w94078 := cv_eq (rfl : z94076.toInt = z94076.toInt) (by decide : (0 : Int32).toInt = 0) c94077
      refine lv_iconst (v := 0) hx hb dX6_isFit_61 (by decide) ?_
      exact t_zret hQ X hT (by decide) (⟨rfl, (by decide)⟩) (Nat.le_of_ble_eq_true rfl) (Nat.le_of_ble_eq_true rfl) dX6_isFit_62
    · have w94079 := cv_ne (rfl : z94076.toInt = z94076.toInt) (by decide : (0 : Int32).toInt = 0) c94077
      refine lv_aload_n hx hb dX6_isFit_46 rfl (lv_at hl 3 rfl) ?_
      refine lv_iload hx hb dX6_isFit_47 (lv_at hl 1 rfl) ?_
      refine lv_iload_n hx hb dX6_isFit_49 rfl (lv_at hl 2 rfl) ?_
      refine lv_iadd hx hb dX6_isFit_50 ?_
      refine lv_topi (fun z94080 ez94080 => ?_)
      have hz94080 : z94080.toInt = z94067.toInt + z94064.toInt := ar_add ez94080 (rfl : z94067.toInt = z94067.toInt) (rfl : z94064.toInt = z94064.toInt) (by omega) (by omega)
      have rz94080 : 1 ≤ z94080.toInt ∧ z94080.toInt ≤ 17 := by omega
      refine lv_iload hx hb dX6_isFit_51 (lv_at hl 0 rfl) ?_
      refine lv_iload_n hx hb dX6_isFit_53 rfl (lv_at hl 2 rfl) ?_
      refine lv_iadd hx hb dX6_isFit_54 ?_
      refine lv_topi (fun z94081 ez94081 => ?_)
      have hz94081 : z94081.toInt = z94070.toInt + z94064.toInt := ar_add ez94081 (rfl : z94070.toInt = z94070.toInt) (rfl : z94064.toInt = z94064.toInt) (by omega) (by omega)
      have rz94081 : 1 ≤ z94081.toInt ∧ z94081.toInt ≤ 17 := by omega
      refine t_cVi (n := 2) (C := RX1) (T := TX1) (N := 20) (As := [.int z94080, .int z94081]) (rest := []) X hT (kt300_X1_isOn l G tag L F hT.2.2.2 p0 z94080 z94081 m0 g0) m0 g0 rfl rfl qw_384 qw_385 qw_386 qw_17 qw_387 ⟨rfl, by decide +kernel, by decide +kernel, by decide +kernel⟩ ⟨Nat.le_of_ble_eq_true rfl, Nat.le_of_ble_eq_true rfl⟩ hl rfl rfl (Nat.le_of_ble_eq_true rfl) dX6_isFit_55 ⟨Nat.le_of_ble_eq_true rfl, Nat.le_of_ble_eq_true rfl⟩ (fun z94082 F9 H locs hT hz94082 => ?_)
      obtain ⟨fz94082, hz94082⟩ := hz94082
      rw [fz94082] at hT
      refine lv_if_ne (tgt := 63) hx hb dX6_isFit_58 (by decide) (fun c94083 => ?_) (fun c94083 => ?_)
      · have w94084 := cv_ne (rfl : z94082.toInt = z94082.toInt) (by decide : (0 : Int32).toInt = 0) c94083
        refine lv_iconst (v := 0) hx hb dX6_isFit_63 (by decide) ?_
        refine lv_istore (lv' := [(6, .int 0), (5, .int z94070), (4, .int z94067), (3, .int z94064), (0, .ref p0), (1, .ref p1), (2, .int p2)]) hx hb dX6_isFit_64 hl (by decide) rfl (fun ls hl => ?_)
        have kk94085 : (0 : Int32).toInt = 0 := by decide
        exact K66 49 z94064 z94067 z94070 0 _ _ _ (by omega) (by omega) (by omega) (by omega) (by decide) hT  (lv_sub hl [4, 5, 6, 3, 2, 1, 0] rfl)
      · have w94086 := cv_eq (rfl : z94082.toInt = z94082.toInt) (by decide : (0 : Int32).toInt = 0) c94083
        refine lv_iconst (v := 0) hx hb dX6_isFit_61 (by decide) ?_
        exact t_zret hQ X hT (by decide) (⟨rfl, (by decide)⟩) (Nat.le_of_ble_eq_true rfl) (Nat.le_of_ble_eq_true rfl) dX6_isFit_62
