set_option maxHeartbeats 4000000 in
set_option maxRecDepth 100000 in
theorem kt48_X1_stonePart (l : Launch) (G : KG) (tag : Nat → Nat) (L : List Nat) (F : Nat → va_E) (ho : okT G ttC tag L F) (p0 : Nat) (p1 : Int32) (p2 : Int32) (m0 : p0 ∈ L) (g0 : tag p0 = 18) : TMi l yX1_stonePart cX1_stonePart 4 (some .int) { frames := 0, cells := 0, slots := 0, locals := 0 } G ttC tag L F [.ref p0, .int p1, .int p2] (fun r F1 => F1 = F ∧ ((-2147483648) ≤ r.toInt ∧ r.toInt ≤ 2147483647)) := by
  refine t_bodyi (y := yX1_stonePart) (cd := cX1_stonePart) (mL := 4) (rt := (some .int)) (rm := { frames := 0, cells := 0, slots := 0, locals := 0 }) (av := [.ref p0, .int p1, .int p2]) (by decide) (Nat.le_of_ble_eq_true rfl) ho ?_
  intro p e s m args below meth c ls A Q hQ X hT hl
  have hx := X.1.1
  have hb := X.1.2.1
  have hl : lv_has ls 4 [(0, .ref p0), (1, .int p1), (2, .int p2)] := hl
  refine lv_iload_n hx hb dX1_stonePart_0 rfl (lv_at hl 1 rfl) ?_
  refine lv_iconst (v := 5) hx hb dX1_stonePart_1 (by decide) ?_
  refine lv_imul hx hb dX1_stonePart_2 ?_
  refine lv_topi (fun z5935 ez5935 => ?_)
  have rz5935 := rg_all z5935
  refine lv_iload_n hx hb dX1_stonePart_3 rfl (lv_at hl 2 rfl) ?_
  refine lv_iadd hx hb dX1_stonePart_4 ?_
  refine lv_topi (fun z5936 ez5936 => ?_)
  have rz5936 := rg_all z5936
  refine lv_istore_n (lv' := [(3, .int z5936), (0, .ref p0), (1, .int p1), (2, .int p2)]) hx hb dX1_stonePart_5 rfl hl (by decide) rfl (fun ls hl => ?_)
  refine lv_iload_n hx hb dX1_stonePart_6 rfl (lv_at hl 0 rfl) ?_
  refine lv_if_lt (tgt := 28) hx hb dX1_stonePart_7 (by decide) (fun c5937 => ?_) (fun c5937 => ?_)
  · have w5938 := cv_lt (rfl : z5936.toInt = z5936.toInt) (by decide : (0 : Int32).toInt = 0) c5937
    refine lv_iconst (v := 0) hx hb dX1_stonePart_28 (by decide) ?_
    exact t_iret hQ X hT (⟨rfl, rg_all _⟩) (Nat.le_of_ble_eq_true rfl) (Nat.le_of_ble_eq_true rfl) dX1_stonePart_29
  · have w5939 := cv_nlt (rfl : z5936.toInt = z5936.toInt) (by decide : (0 : Int32).toInt = 0) c5937
    refine lv_iload_n hx hb dX1_stonePart_10 rfl (lv_at hl 0 rfl) ?_
    refine lv_aload_n hx hb dX1_stonePart_11 rfl (lv_at hl 1 rfl) ?_
    refine t_get (C := RX1) (T := TX1) (N := 20) X hT m0 g0 rfl rfl 9 (by decide) qw_51 inlX1 rfl dX1_stonePart_12 (fun v5940 hv5940 ov5940 => ?_)
    obtain ⟨b5941, rfl, mb5941, gb5941⟩ := okV_r ov5940
    have gb5941 : tag b5941 = 3 := by simpa using gb5941
    refine t_alen X hT mb5941 gb5941 rfl (by decide) dX1_stonePart_15 ?_
    refine lv_topi (fun z5942 ez5942 => ?_)
    obtain rfl : z5942 = 20 := ez5942.trans (by rfl)
    refine lv_icmp_ge (tgt := 28) hx hb dX1_stonePart_16 (by decide) (fun c5943 => ?_) (fun c5943 => ?_)
    · have w5944 := cv_le (by decide : (20 : Int32).toInt = 20) (rfl : z5936.toInt = z5936.toInt) c5943
      refine lv_iconst (v := 0) hx hb dX1_stonePart_28 (by decide) ?_
      exact t_iret hQ X hT (⟨rfl, rg_all _⟩) (Nat.le_of_ble_eq_true rfl) (Nat.le_of_ble_eq_true rfl) dX1_stonePart_29
    · have w5945 := cv_nle (by decide : (20 : Int32).toInt = 20) (rfl : z5936.toInt = z5936.toInt) c5943
      refine lv_aload_n hx hb dX1_stonePart_19 rfl (lv_at hl 1 rfl) ?_
      refine t_get (C := RX1) (T := TX1) (N := 20) X hT m0 g0 rfl rfl 9 (by decide) qw_51 inlX1 rfl dX1_stonePart_20 (fun v5946 hv5946 ov5946 => ?_)
      obtain rfl : v5946 = .ref b5941 := hv5946.symm.trans hv5940
      refine lv_iload_n hx hb dX1_stonePart_23 rfl (lv_at hl 0 rfl) ?_
      refine t_ild X hT mb5941 gb5941 rfl (by omega) dX1_stonePart_24 (fun z5947 vz5947 rz5947 => ?_)
      have rz5947 : (-2147483648) ≤ z5947.toInt ∧ z5947.toInt ≤ 2147483647 := rz5947
      refine lv_goto (tgt := 29) hx hb dX1_stonePart_25 (by decide) ?_
      exact t_iret hQ X hT (⟨rfl, rg_all _⟩) (Nat.le_of_ble_eq_true rfl) (Nat.le_of_ble_eq_true rfl) dX1_stonePart_29
set_option maxHeartbeats 4000000 in
set_option maxRecDepth 100000 in
theorem kt49_X6_priceOf (l : Launch) (G : KG) (tag : Nat → Nat) (L : List Nat) (F : Nat → va_E) (ho : okT G ttC tag L F) (p0 : Nat) (p1 : Nat) (p2 : Int32) (p3 : Int32) (m0 : p0 ∈ L) (g0 : tag p0 = 18) (m1 : p1 ∈ L) (g1 : tag p1 = 19) (h2 : 0 ≤ p2.toInt ∧ p2.toInt ≤ 3) : TMi l yX6_priceOf cX6_priceOf 4 (some .int) { frames := 1, cells := 0, slots := 0, locals := 23 } G ttC tag L F [.ref p0, .ref p1, .int p2, .int p3] (fun r F1 => F1 = F ∧ ((-2147483648) ≤ r.toInt ∧ r.toInt ≤ 2147483647)) := by
  refine t_bodyi (y := yX6_priceOf) (cd := cX6_priceOf) (mL := 4) (rt := (some .int)) (rm := { frames := 1, cells := 0, slots := 0, locals := 23 }) (av := [.ref p0, .ref p1, .int p2, .int p3]) (by decide) (Nat.le_of_ble_eq_true rfl) ho ?_
  intro p e s m args below meth c ls A Q hQ X hT hl
  have hx := X.1.1
  have hb := X.1.2.1
  have hl : lv_has ls 4 [(0, .ref p0), (1, .ref p1), (2, .int p2), (3, .int p3)] := hl
  refine lv_aload_n hx hb dX6_priceOf_0 rfl (lv_at hl 0 rfl) ?_
  refine lv_iload_n hx hb dX6_priceOf_1 rfl (lv_at hl 3 rfl) ?_
  refine lv_iconst (v := 1) hx hb dX6_priceOf_2 (by decide) ?_
  refine t_cVi (n := 2) (C := RX1) (T := TX1) (N := 20) (As := [.int p3, .int 1]) (rest := []) X hT (kt48_X1_stonePart l G tag L F hT.2.2.2 p0 p3 1 m0 g0) m0 g0 rfl rfl qw_962 qw_858 qw_859 qw_17 qw_860 ⟨rfl, by decide +kernel, by decide +kernel, by decide +kernel⟩ ⟨Nat.le_of_ble_eq_true rfl, Nat.le_of_ble_eq_true rfl⟩ hl rfl rfl (Nat.le_of_ble_eq_true rfl) dX6_priceOf_3 ⟨Nat.le_of_ble_eq_true rfl, Nat.le_of_ble_eq_true rfl⟩ (fun z5976 F9 H locs hT hz5976 => ?_)
  obtain ⟨fz5976, hz5976⟩ := hz5976
  rw [fz5976] at hT
  refine lv_bipush (v := 8) hx hb dX6_priceOf_6 (by decide) ?_
  refine lv_imul hx hb dX6_priceOf_8 ?_
  refine lv_topi (fun z5977 ez5977 => ?_)
  have rz5977 := rg_all z5977
  refine lv_aload_n hx hb dX6_priceOf_9 rfl (lv_at hl 1 rfl) ?_
  refine t_get (C := RX7) (T := TX7) (N := 7) X hT m1 g1 rfl rfl 2 (by decide) qw_383 inlX7 rfl dX6_priceOf_10 (fun v5978 hv5978 ov5978 => ?_)
  obtain ⟨b5979, rfl, mb5979, gb5979⟩ := okV_r ov5978
  have gb5979 : tag b5979 = 8 := by simpa using gb5979
  refine lv_iload_n hx hb dX6_priceOf_13 rfl (lv_at hl 2 rfl) ?_
  refine t_ild X hT mb5979 gb5979 rfl (by omega) dX6_priceOf_14 (fun z5980 vz5980 rz5980 => ?_)
  have rz5980 : 0 ≤ z5980.toInt ∧ z5980.toInt ≤ 6 := rz5980
  refine lv_iconst (v := 1) hx hb dX6_priceOf_15 (by decide) ?_
  refine lv_iadd hx hb dX6_priceOf_16 ?_
  refine lv_topi (fun z5981 ez5981 => ?_)
  have hz5981 : z5981.toInt = z5980.toInt + 1 := ar_add ez5981 (rfl : z5980.toInt = z5980.toInt) (by decide : (1 : Int32).toInt = 1) (by omega) (by omega)
  have rz5981 : 1 ≤ z5981.toInt ∧ z5981.toInt ≤ 7 := by omega
  refine lv_imul hx hb dX6_priceOf_17 ?_
  refine lv_topi (fun z5982 ez5982 => ?_)
  have rz5982 := rg_all z5982
  exact t_iret hQ X hT (⟨rfl, rg_all _⟩) (Nat.le_of_ble_eq_true rfl) (Nat.le_of_ble_eq_true rfl) dX6_priceOf_18
