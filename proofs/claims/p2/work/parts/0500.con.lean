set_option maxHeartbeats 4000000 in
set_option maxRecDepth 100000 in
theorem kt0_X4_eastOf (l : Launch) (G : KG) (tag : Nat → Nat) (L : List Nat) (F : Nat → va_E) (ho : okT G ttC tag L F) (p0 : Int32) (p1 : Int32)  : TMi l yX4_eastOf cX4_eastOf 3 (some .int) { frames := 0, cells := 0, slots := 0, locals := 0 } G ttC tag L F [.int p0, .int p1] (fun r F1 => F1 = F ∧ ((-2147483648) ≤ r.toInt ∧ r.toInt ≤ 2147483647)) := by
  refine t_bodyi (y := yX4_eastOf) (cd := cX4_eastOf) (mL := 3) (rt := (some .int)) (rm := { frames := 0, cells := 0, slots := 0, locals := 0 }) (av := [.int p0, .int p1]) (by decide) (Nat.le_of_ble_eq_true rfl) ho ?_
  intro p e s m args below meth c ls A Q hQ X hT hl
  have hx := X.1.1
  have hb := X.1.2.1
  have hl : lv_has ls 3 [(0, .int p0), (1, .int p1)] := hl
  have rp0 := rg_all p0
  have rp1 := rg_all p1
  refine lv_iload_n hx hb dX4_eastOf_0 rfl (lv_at hl 0 rfl) ?_
  refine lv_iconst (v := 1) hx hb dX4_eastOf_1 (by decide) ?_
  refine lv_icmp_ge (tgt := 7) hx hb dX4_eastOf_2 (by decide) (fun c210 => ?_) (fun c210 => ?_)
  · have w211 := cv_le (by decide : (1 : Int32).toInt = 1) (rfl : p0.toInt = p0.toInt) c210
    refine lv_iload_n hx hb dX4_eastOf_7 rfl (lv_at hl 1 rfl) ?_
    refine lv_iconst (v := 2) hx hb dX4_eastOf_8 (by decide) ?_
    refine lv_iload_n hx hb dX4_eastOf_9 rfl (lv_at hl 0 rfl) ?_
    refine lv_imul hx hb dX4_eastOf_10 ?_
    refine lv_topi (fun z212 ez212 => ?_)
    have rz212 := rg_all z212
    refine lv_irem hx hb dX4_eastOf_11 (mul2_ne ez212 (by omega)) ?_
    refine lv_topi (fun z213 ez213 => ?_)
    have rz213 := rg_all z213
    refine lv_istore_n (lv' := [(2, .int z213), (0, .int p0), (1, .int p1)]) hx hb dX4_eastOf_12 rfl hl (by decide) rfl (fun ls hl => ?_)
    refine lv_iload_n hx hb dX4_eastOf_13 rfl (lv_at hl 2 rfl) ?_
    refine lv_iconst (v := 2) hx hb dX4_eastOf_14 (by decide) ?_
    refine lv_iload_n hx hb dX4_eastOf_15 rfl (lv_at hl 1 rfl) ?_
    refine lv_imul hx hb dX4_eastOf_16 ?_
    refine lv_topi (fun z214 ez214 => ?_)
    have rz214 := rg_all z214
    refine lv_idiv hx hb dX4_eastOf_17 (mul2_ne ez214 (by omega)) ?_
    refine lv_topi (fun z215 ez215 => ?_)
    have rz215 := rg_all z215
    by_cases c216 : z215 = 0
    · have w217 := cv_eq (rfl : z215.toInt = z215.toInt) (by decide : (0 : Int32).toInt = 0) c216
      refine lv_tableIn (off := 26) (tgt := 44) hx hb dX4_eastOf_18 (by rw [c216]; decide) (by rw [c216]; decide) (by rw [c216]; decide) (by decide) ?_
      refine lv_iload_n hx hb dX4_eastOf_44 rfl (lv_at hl 0 rfl) ?_
      refine lv_iload_n hx hb dX4_eastOf_45 rfl (lv_at hl 1 rfl) ?_
      refine lv_isub hx hb dX4_eastOf_46 ?_
      refine lv_topi (fun z218 ez218 => ?_)
      have rz218 := rg_all z218
      exact t_iret hQ X hT (⟨rfl, rg_all _⟩) (Nat.le_of_ble_eq_true rfl) (Nat.le_of_ble_eq_true rfl) dX4_eastOf_47
    have w219 := cv_ne (rfl : z215.toInt = z215.toInt) (by decide : (0 : Int32).toInt = 0) c216
    by_cases c220 : z215 = 1
    · have w221 := cv_eq (rfl : z215.toInt = z215.toInt) (by decide : (1 : Int32).toInt = 1) c220
      refine lv_tableIn (off := 30) (tgt := 48) hx hb dX4_eastOf_18 (by rw [c220]; decide) (by rw [c220]; decide) (by rw [c220]; decide) (by decide) ?_
      refine lv_iload_n hx hb dX4_eastOf_48 rfl (lv_at hl 1 rfl) ?_
      exact t_iret hQ X hT (⟨rfl, rg_all _⟩) (Nat.le_of_ble_eq_true rfl) (Nat.le_of_ble_eq_true rfl) dX4_eastOf_49
    have w222 := cv_ne (rfl : z215.toInt = z215.toInt) (by decide : (1 : Int32).toInt = 1) c220
    by_cases c223 : z215 = 2
    · have w224 := cv_eq (rfl : z215.toInt = z215.toInt) (by decide : (2 : Int32).toInt = 2) c223
      refine lv_tableIn (off := 32) (tgt := 50) hx hb dX4_eastOf_18 (by rw [c223]; decide) (by rw [c223]; decide) (by rw [c223]; decide) (by decide) ?_
      refine lv_iload_n hx hb dX4_eastOf_50 rfl (lv_at hl 1 rfl) ?_
      refine lv_iload_n hx hb dX4_eastOf_51 rfl (lv_at hl 0 rfl) ?_
      refine lv_isub hx hb dX4_eastOf_52 ?_
      refine lv_topi (fun z225 ez225 => ?_)
      have rz225 := rg_all z225
      exact t_iret hQ X hT (⟨rfl, rg_all _⟩) (Nat.le_of_ble_eq_true rfl) (Nat.le_of_ble_eq_true rfl) dX4_eastOf_53
    have w226 := cv_ne (rfl : z215.toInt = z215.toInt) (by decide : (2 : Int32).toInt = 2) c223
    refine lv_tableOut (tgt := 54) hx hb dX4_eastOf_18 (by omega) (by decide) ?_
    refine lv_iload_n hx hb dX4_eastOf_54 rfl (lv_at hl 1 rfl) ?_
    refine lv_ineg hx hb dX4_eastOf_55 ?_
    refine lv_topi (fun z227 ez227 => ?_)
    have hz227 : z227.toInt = - p0.toInt := ar_neg ez227 (rfl : p0.toInt = p0.toInt) (by omega)
    exact t_iret hQ X hT (⟨rfl, rg_all _⟩) (Nat.le_of_ble_eq_true rfl) (Nat.le_of_ble_eq_true rfl) dX4_eastOf_56
  · have w228 := cv_nle (by decide : (1 : Int32).toInt = 1) (rfl : p0.toInt = p0.toInt) c210
    refine lv_iconst (v := 0) hx hb dX4_eastOf_5 (by decide) ?_
    exact t_iret hQ X hT (⟨rfl, rg_all _⟩) (Nat.le_of_ble_eq_true rfl) (Nat.le_of_ble_eq_true rfl) dX4_eastOf_6
set_option maxHeartbeats 4000000 in
set_option maxRecDepth 100000 in
theorem kt1_X4_southOf (l : Launch) (G : KG) (tag : Nat → Nat) (L : List Nat) (F : Nat → va_E) (ho : okT G ttC tag L F) (p0 : Int32) (p1 : Int32)  : TMi l yX4_southOf cX4_southOf 3 (some .int) { frames := 0, cells := 0, slots := 0, locals := 0 } G ttC tag L F [.int p0, .int p1] (fun r F1 => F1 = F ∧ ((-2147483648) ≤ r.toInt ∧ r.toInt ≤ 2147483647)) := by
  refine t_bodyi (y := yX4_southOf) (cd := cX4_southOf) (mL := 3) (rt := (some .int)) (rm := { frames := 0, cells := 0, slots := 0, locals := 0 }) (av := [.int p0, .int p1]) (by decide) (Nat.le_of_ble_eq_true rfl) ho ?_
  intro p e s m args below meth c ls A Q hQ X hT hl
  have hx := X.1.1
  have hb := X.1.2.1
  have hl : lv_has ls 3 [(0, .int p0), (1, .int p1)] := hl
  have rp0 := rg_all p0
  have rp1 := rg_all p1
  refine lv_iload_n hx hb dX4_southOf_0 rfl (lv_at hl 0 rfl) ?_
  refine lv_iconst (v := 1) hx hb dX4_southOf_1 (by decide) ?_
  refine lv_icmp_ge (tgt := 7) hx hb dX4_southOf_2 (by decide) (fun c438 => ?_) (fun c438 => ?_)
  · have w439 := cv_le (by decide : (1 : Int32).toInt = 1) (rfl : p0.toInt = p0.toInt) c438
    refine lv_iload_n hx hb dX4_southOf_7 rfl (lv_at hl 1 rfl) ?_
    refine lv_iconst (v := 2) hx hb dX4_southOf_8 (by decide) ?_
    refine lv_iload_n hx hb dX4_southOf_9 rfl (lv_at hl 0 rfl) ?_
    refine lv_imul hx hb dX4_southOf_10 ?_
    refine lv_topi (fun z440 ez440 => ?_)
    have rz440 := rg_all z440
    refine lv_irem hx hb dX4_southOf_11 (mul2_ne ez440 (by omega)) ?_
    refine lv_topi (fun z441 ez441 => ?_)
    have rz441 := rg_all z441
    refine lv_istore_n (lv' := [(2, .int z441), (0, .int p0), (1, .int p1)]) hx hb dX4_southOf_12 rfl hl (by decide) rfl (fun ls hl => ?_)
    refine lv_iload_n hx hb dX4_southOf_13 rfl (lv_at hl 2 rfl) ?_
    refine lv_iconst (v := 2) hx hb dX4_southOf_14 (by decide) ?_
    refine lv_iload_n hx hb dX4_southOf_15 rfl (lv_at hl 1 rfl) ?_
    refine lv_imul hx hb dX4_southOf_16 ?_
    refine lv_topi (fun z442 ez442 => ?_)
    have rz442 := rg_all z442
    refine lv_idiv hx hb dX4_southOf_17 (mul2_ne ez442 (by omega)) ?_
    refine lv_topi (fun z443 ez443 => ?_)
    have rz443 := rg_all z443
    by_cases c444 : z443 = 0
    · have w445 := cv_eq (rfl : z443.toInt = z443.toInt) (by decide : (0 : Int32).toInt = 0) c444
      refine lv_tableIn (off := 26) (tgt := 44) hx hb dX4_southOf_18 (by rw [c444]; decide) (by rw [c444]; decide) (by rw [c444]; decide) (by decide) ?_
      refine lv_iload_n hx hb dX4_southOf_44 rfl (lv_at hl 1 rfl) ?_
      refine lv_ineg hx hb dX4_southOf_45 ?_
      refine lv_topi (fun z446 ez446 => ?_)
      have hz446 : z446.toInt = - p0.toInt := ar_neg ez446 (rfl : p0.toInt = p0.toInt) (by omega)
      exact t_iret hQ X hT (⟨rfl, rg_all _⟩) (Nat.le_of_ble_eq_true rfl) (Nat.le_of_ble_eq_true rfl) dX4_southOf_46
    have w447 := cv_ne (rfl : z443.toInt = z443.toInt) (by decide : (0 : Int32).toInt = 0) c444
    by_cases c448 : z443 = 1
    · have w449 := cv_eq (rfl : z443.toInt = z443.toInt) (by decide : (1 : Int32).toInt = 1) c448
      refine lv_tableIn (off := 29) (tgt := 47) hx hb dX4_southOf_18 (by rw [c448]; decide) (by rw [c448]; decide) (by rw [c448]; decide) (by decide) ?_
      refine lv_iload_n hx hb dX4_southOf_47 rfl (lv_at hl 0 rfl) ?_
      refine lv_iload_n hx hb dX4_southOf_48 rfl (lv_at hl 1 rfl) ?_
      refine lv_isub hx hb dX4_southOf_49 ?_
      refine lv_topi (fun z450 ez450 => ?_)
      have rz450 := rg_all z450
      exact t_iret hQ X hT (⟨rfl, rg_all _⟩) (Nat.le_of_ble_eq_true rfl) (Nat.le_of_ble_eq_true rfl) dX4_southOf_50
    have w451 := cv_ne (rfl : z443.toInt = z443.toInt) (by decide : (1 : Int32).toInt = 1) c448
    by_cases c452 : z443 = 2
    · have w453 := cv_eq (rfl : z443.toInt = z443.toInt) (by decide : (2 : Int32).toInt = 2) c452
      refine lv_tableIn (off := 33) (tgt := 51) hx hb dX4_southOf_18 (by rw [c452]; decide) (by rw [c452]; decide) (by rw [c452]; decide) (by decide) ?_
      refine lv_iload_n hx hb dX4_southOf_51 rfl (lv_at hl 1 rfl) ?_
      exact t_iret hQ X hT (⟨rfl, rg_all _⟩) (Nat.le_of_ble_eq_true rfl) (Nat.le_of_ble_eq_true rfl) dX4_southOf_52
    have w454 := cv_ne (rfl : z443.toInt = z443.toInt) (by decide : (2 : Int32).toInt = 2) c452
    refine lv_tableOut (tgt := 53) hx hb dX4_southOf_18 (by omega) (by decide) ?_
    refine lv_iload_n hx hb dX4_southOf_53 rfl (lv_at hl 1 rfl) ?_
    refine lv_iload_n hx hb dX4_southOf_54 rfl (lv_at hl 0 rfl) ?_
    refine lv_isub hx hb dX4_southOf_55 ?_
    refine lv_topi (fun z455 ez455 => ?_)
    have rz455 := rg_all z455
    exact t_iret hQ X hT (⟨rfl, rg_all _⟩) (Nat.le_of_ble_eq_true rfl) (Nat.le_of_ble_eq_true rfl) dX4_southOf_56
  · have w456 := cv_nle (by decide : (1 : Int32).toInt = 1) (rfl : p0.toInt = p0.toInt) c438
    refine lv_iconst (v := 0) hx hb dX4_southOf_5 (by decide) ?_
    exact t_iret hQ X hT (⟨rfl, rg_all _⟩) (Nat.le_of_ble_eq_true rfl) (Nat.le_of_ble_eq_true rfl) dX4_southOf_6
set_option maxHeartbeats 4000000 in
set_option maxRecDepth 100000 in
theorem kt2_X4_doorPlace (l : Launch) (G : KG) (tag : Nat → Nat) (L : List Nat) (F : Nat → va_E) (ho : okT G ttC tag L F) (p0 : Int32) (p1 : Int32) (p2 : Int32)  : TMi l yX4_doorPlace cX4_doorPlace 3 (some .int) { frames := 0, cells := 0, slots := 0, locals := 0 } G ttC tag L F [.int p0, .int p1, .int p2] (fun r F1 => F1 = F ∧ ((-2147483648) ≤ r.toInt ∧ r.toInt ≤ 2147483647)) := by
  refine t_bodyi (y := yX4_doorPlace) (cd := cX4_doorPlace) (mL := 3) (rt := (some .int)) (rm := { frames := 0, cells := 0, slots := 0, locals := 0 }) (av := [.int p0, .int p1, .int p2]) (by decide) (Nat.le_of_ble_eq_true rfl) ho ?_
  intro p e s m args below meth c ls A Q hQ X hT hl
  have hx := X.1.1
  have hb := X.1.2.1
  have hl : lv_has ls 3 [(0, .int p0), (1, .int p1), (2, .int p2)] := hl
  have rp0 := rg_all p0
  have rp1 := rg_all p1
  have rp2 := rg_all p2
  refine lv_iload_n hx hb dX4_doorPlace_0 rfl (lv_at hl 1 rfl) ?_
  by_cases c666 : p1 = 0
  · have w667 := cv_eq (rfl : p1.toInt = p1.toInt) (by decide : (0 : Int32).toInt = 0) c666
    refine lv_tableIn (off := 27) (tgt := 28) hx hb dX4_doorPlace_1 (by rw [c666]; decide) (by rw [c666]; decide) (by rw [c666]; decide) (by decide) ?_
    refine lv_iconst (v := 1) hx hb dX4_doorPlace_28 (by decide) ?_
    refine lv_iload_n hx hb dX4_doorPlace_29 rfl (lv_at hl 2 rfl) ?_
    refine lv_iadd hx hb dX4_doorPlace_30 ?_
    refine lv_topi (fun z668 ez668 => ?_)
    have rz668 := rg_all z668
    exact t_iret hQ X hT (⟨rfl, rg_all _⟩) (Nat.le_of_ble_eq_true rfl) (Nat.le_of_ble_eq_true rfl) dX4_doorPlace_31
  have w669 := cv_ne (rfl : p1.toInt = p1.toInt) (by decide : (0 : Int32).toInt = 0) c666
  by_cases c670 : p1 = 1
  · have w671 := cv_eq (rfl : p1.toInt = p1.toInt) (by decide : (1 : Int32).toInt = 1) c670
    refine lv_tableIn (off := 31) (tgt := 32) hx hb dX4_doorPlace_1 (by rw [c670]; decide) (by rw [c670]; decide) (by rw [c670]; decide) (by decide) ?_
    refine lv_iconst (v := 2) hx hb dX4_doorPlace_32 (by decide) ?_
    refine lv_iload_n hx hb dX4_doorPlace_33 rfl (lv_at hl 0 rfl) ?_
    refine lv_imul hx hb dX4_doorPlace_34 ?_
    refine lv_topi (fun z672 ez672 => ?_)
    have rz672 := rg_all z672
    refine lv_iconst (v := 1) hx hb dX4_doorPlace_35 (by decide) ?_
    refine lv_iadd hx hb dX4_doorPlace_36 ?_
    refine lv_topi (fun z673 ez673 => ?_)
    have rz673 := rg_all z673
    refine lv_iload_n hx hb dX4_doorPlace_37 rfl (lv_at hl 2 rfl) ?_
    refine lv_iadd hx hb dX4_doorPlace_38 ?_
    refine lv_topi (fun z674 ez674 => ?_)
    have rz674 := rg_all z674
    exact t_iret hQ X hT (⟨rfl, rg_all _⟩) (Nat.le_of_ble_eq_true rfl) (Nat.le_of_ble_eq_true rfl) dX4_doorPlace_39
  have w675 := cv_ne (rfl : p1.toInt = p1.toInt) (by decide : (1 : Int32).toInt = 1) c670
  by_cases c676 : p1 = 2
  · have w677 := cv_eq (rfl : p1.toInt = p1.toInt) (by decide : (2 : Int32).toInt = 2) c676
    refine lv_tableIn (off := 39) (tgt := 40) hx hb dX4_doorPlace_1 (by rw [c676]; decide) (by rw [c676]; decide) (by rw [c676]; decide) (by decide) ?_
    refine lv_bipush (v := 6) hx hb dX4_doorPlace_40 (by decide) ?_
    refine lv_iload_n hx hb dX4_doorPlace_42 rfl (lv_at hl 0 rfl) ?_
    refine lv_imul hx hb dX4_doorPlace_43 ?_
    refine lv_topi (fun z678 ez678 => ?_)
    have rz678 := rg_all z678
    refine lv_iconst (v := 1) hx hb dX4_doorPlace_44 (by decide) ?_
    refine lv_isub hx hb dX4_doorPlace_45 ?_
    refine lv_topi (fun z679 ez679 => ?_)
    have rz679 := rg_all z679
    refine lv_iload_n hx hb dX4_doorPlace_46 rfl (lv_at hl 2 rfl) ?_
    refine lv_isub hx hb dX4_doorPlace_47 ?_
    refine lv_topi (fun z680 ez680 => ?_)
    have rz680 := rg_all z680
    exact t_iret hQ X hT (⟨rfl, rg_all _⟩) (Nat.le_of_ble_eq_true rfl) (Nat.le_of_ble_eq_true rfl) dX4_doorPlace_48
  have w681 := cv_ne (rfl : p1.toInt = p1.toInt) (by decide : (2 : Int32).toInt = 2) c676
  refine lv_tableOut (tgt := 49) hx hb dX4_doorPlace_1 (by omega) (by decide) ?_
  refine lv_bipush (v := 8) hx hb dX4_doorPlace_49 (by decide) ?_
  refine lv_iload_n hx hb dX4_doorPlace_51 rfl (lv_at hl 0 rfl) ?_
  refine lv_imul hx hb dX4_doorPlace_52 ?_
  refine lv_topi (fun z682 ez682 => ?_)
  have rz682 := rg_all z682
  refine lv_iconst (v := 1) hx hb dX4_doorPlace_53 (by decide) ?_
  refine lv_isub hx hb dX4_doorPlace_54 ?_
  refine lv_topi (fun z683 ez683 => ?_)
  have rz683 := rg_all z683
  refine lv_iload_n hx hb dX4_doorPlace_55 rfl (lv_at hl 2 rfl) ?_
  refine lv_isub hx hb dX4_doorPlace_56 ?_
  refine lv_topi (fun z684 ez684 => ?_)
  have rz684 := rg_all z684
  exact t_iret hQ X hT (⟨rfl, rg_all _⟩) (Nat.le_of_ble_eq_true rfl) (Nat.le_of_ble_eq_true rfl) dX4_doorPlace_57
set_option maxHeartbeats 4000000 in
set_option maxRecDepth 100000 in
theorem kt3_X4_isCorner (l : Launch) (G : KG) (tag : Nat → Nat) (L : List Nat) (F : Nat → va_E) (ho : okT G ttC tag L F) (p0 : Int32) (p1 : Int32)  : TMi l yX4_isCorner cX4_isCorner 2 (some .boolean) { frames := 0, cells := 0, slots := 0, locals := 0 } G ttC tag L F [.int p0, .int p1] (fun r F1 => F1 = F ∧ (0 ≤ r.toInt ∧ r.toInt ≤ 1)) := by
  refine t_bodyi (y := yX4_isCorner) (cd := cX4_isCorner) (mL := 2) (rt := (some .boolean)) (rm := { frames := 0, cells := 0, slots := 0, locals := 0 }) (av := [.int p0, .int p1]) (by decide) (Nat.le_of_ble_eq_true rfl) ho ?_
  intro p e s m args below meth c ls A Q hQ X hT hl
  have hx := X.1.1
  have hb := X.1.2.1
  have hl : lv_has ls 2 [(0, .int p0), (1, .int p1)] := hl
  have rp0 := rg_all p0
  have rp1 := rg_all p1
  have K13 : ∀  (H : Heap) (locs : List Loc) (ls : Array Slot), TH G ttC A s tag L F H locs → lv_has ls 2 [(0, .int p0), (1, .int p1)] → W p l e { frames := 0, cells := 0, slots := 0, locals := 0 } s m args below meth c H locs 0 0 Q (F0 m 13 ls []) := by
    intro H locs ls hT hl
    refine lv_iconst (v := 1) hx hb dX4_isCorner_13 (by decide) ?_
    refine lv_goto (tgt := 18) hx hb dX4_isCorner_14 (by decide) ?_
    exact t_zret hQ X hT (by decide) (⟨rfl, (by decide)⟩) (Nat.le_of_ble_eq_true rfl) (Nat.le_of_ble_eq_true rfl) dX4_isCorner_18
  refine lv_iload_n hx hb dX4_isCorner_0 rfl (lv_at hl 0 rfl) ?_
  refine lv_iconst (v := 1) hx hb dX4_isCorner_1 (by decide) ?_
  refine lv_icmp_lt (tgt := 13) hx hb dX4_isCorner_2 (by decide) (fun c773 => ?_) (fun c773 => ?_)
  · have w774 := cv_lt (rfl : p0.toInt = p0.toInt) (by decide : (1 : Int32).toInt = 1) c773
    exact K13  _ _ _  hT  (lv_sub hl [0, 1] rfl)
  · have w775 := cv_nlt (rfl : p0.toInt = p0.toInt) (by decide : (1 : Int32).toInt = 1) c773
    refine lv_iload_n hx hb dX4_isCorner_5 rfl (lv_at hl 1 rfl) ?_
    refine lv_iconst (v := 2) hx hb dX4_isCorner_6 (by decide) ?_
    refine lv_iload_n hx hb dX4_isCorner_7 rfl (lv_at hl 0 rfl) ?_
    refine lv_imul hx hb dX4_isCorner_8 ?_
    refine lv_topi (fun z776 ez776 => ?_)
    have rz776 := rg_all z776
    refine lv_irem hx hb dX4_isCorner_9 (mul2_ne ez776 (by omega)) ?_
    refine lv_topi (fun z777 ez777 => ?_)
    have rz777 := rg_all z777
    refine lv_if_ne (tgt := 17) hx hb dX4_isCorner_10 (by decide) (fun c778 => ?_) (fun c778 => ?_)
    · have w779 := cv_ne (rfl : z777.toInt = z777.toInt) (by decide : (0 : Int32).toInt = 0) c778
      refine lv_iconst (v := 0) hx hb dX4_isCorner_17 (by decide) ?_
      exact t_zret hQ X hT (by decide) (⟨rfl, (by decide)⟩) (Nat.le_of_ble_eq_true rfl) (Nat.le_of_ble_eq_true rfl) dX4_isCorner_18
    · have w780 := cv_eq (rfl : z777.toInt = z777.toInt) (by decide : (0 : Int32).toInt = 0) c778
      exact K13  _ _ _  hT  (lv_sub hl [0, 1] rfl)
set_option maxHeartbeats 4000000 in
set_option maxRecDepth 100000 in
theorem kt4_X4_inFront (l : Launch) (G : KG) (tag : Nat → Nat) (L : List Nat) (F : Nat → va_E) (ho : okT G ttC tag L F) (p0 : Int32) (p1 : Int32)  : TMi l yX4_inFront cX4_inFront 4 (some .int) { frames := 0, cells := 0, slots := 0, locals := 0 } G ttC tag L F [.int p0, .int p1] (fun r F1 => F1 = F ∧ ((-2147483648) ≤ r.toInt ∧ r.toInt ≤ 2147483647)) := by
  refine t_bodyi (y := yX4_inFront) (cd := cX4_inFront) (mL := 4) (rt := (some .int)) (rm := { frames := 0, cells := 0, slots := 0, locals := 0 }) (av := [.int p0, .int p1]) (by decide) (Nat.le_of_ble_eq_true rfl) ho ?_
  intro p e s m args below meth c ls A Q hQ X hT hl
  have hx := X.1.1
  have hb := X.1.2.1
  have hl : lv_has ls 4 [(0, .int p0), (1, .int p1)] := hl
  have rp0 := rg_all p0
  have rp1 := rg_all p1
  refine lv_iload_n hx hb dX4_inFront_0 rfl (lv_at hl 0 rfl) ?_
  refine lv_iconst (v := 1) hx hb dX4_inFront_1 (by decide) ?_
  refine lv_icmp_ge (tgt := 7) hx hb dX4_inFront_2 (by decide) (fun c913 => ?_) (fun c913 => ?_)
  · have w914 := cv_le (by decide : (1 : Int32).toInt = 1) (rfl : p0.toInt = p0.toInt) c913
    refine lv_iload_n hx hb dX4_inFront_7 rfl (lv_at hl 1 rfl) ?_
    refine lv_iconst (v := 2) hx hb dX4_inFront_8 (by decide) ?_
    refine lv_iload_n hx hb dX4_inFront_9 rfl (lv_at hl 0 rfl) ?_
    refine lv_imul hx hb dX4_inFront_10 ?_
    refine lv_topi (fun z915 ez915 => ?_)
    have rz915 := rg_all z915
    refine lv_idiv hx hb dX4_inFront_11 (mul2_ne ez915 (by omega)) ?_
    refine lv_topi (fun z916 ez916 => ?_)
    have rz916 := rg_all z916
    refine lv_istore_n (lv' := [(2, .int z916), (0, .int p0), (1, .int p1)]) hx hb dX4_inFront_12 rfl hl (by decide) rfl (fun ls hl => ?_)
    refine lv_iload_n hx hb dX4_inFront_13 rfl (lv_at hl 2 rfl) ?_
    refine lv_iconst (v := 2) hx hb dX4_inFront_14 (by decide) ?_
    refine lv_iload_n hx hb dX4_inFront_15 rfl (lv_at hl 1 rfl) ?_
    refine lv_imul hx hb dX4_inFront_16 ?_
    refine lv_topi (fun z917 ez917 => ?_)
    have rz917 := rg_all z917
    refine lv_irem hx hb dX4_inFront_17 (mul2_ne ez917 (by omega)) ?_
    refine lv_topi (fun z918 ez918 => ?_)
    have rz918 := rg_all z918
    refine lv_istore_n (lv' := [(3, .int z918), (2, .int z916), (0, .int p0), (1, .int p1)]) hx hb dX4_inFront_18 rfl hl (by decide) rfl (fun ls hl => ?_)
    refine lv_iload_n hx hb dX4_inFront_19 rfl (lv_at hl 1 rfl) ?_
    refine lv_iconst (v := 2) hx hb dX4_inFront_20 (by decide) ?_
    refine lv_iload_n hx hb dX4_inFront_21 rfl (lv_at hl 2 rfl) ?_
    refine lv_imul hx hb dX4_inFront_22 ?_
    refine lv_topi (fun z919 ez919 => ?_)
    have rz919 := rg_all z919
    refine lv_iconst (v := 2) hx hb dX4_inFront_23 (by decide) ?_
    refine lv_iadd hx hb dX4_inFront_24 ?_
    refine lv_topi (fun z920 ez920 => ?_)
    have rz920 := rg_all z920
    refine lv_imul hx hb dX4_inFront_25 ?_
    refine lv_topi (fun z921 ez921 => ?_)
    have rz921 := rg_all z921
    refine lv_iload_n hx hb dX4_inFront_26 rfl (lv_at hl 0 rfl) ?_
    refine lv_iadd hx hb dX4_inFront_27 ?_
    refine lv_topi (fun z922 ez922 => ?_)
    have rz922 := rg_all z922
    refine lv_iconst (v := 1) hx hb dX4_inFront_28 (by decide) ?_
    refine lv_iadd hx hb dX4_inFront_29 ?_
    refine lv_topi (fun z923 ez923 => ?_)
    have rz923 := rg_all z923
    exact t_iret hQ X hT (⟨rfl, rg_all _⟩) (Nat.le_of_ble_eq_true rfl) (Nat.le_of_ble_eq_true rfl) dX4_inFront_30
  · have w924 := cv_nle (by decide : (1 : Int32).toInt = 1) (rfl : p0.toInt = p0.toInt) c913
    refine lv_iconst (v := 0) hx hb dX4_inFront_5 (by decide) ?_
    exact t_iret hQ X hT (⟨rfl, rg_all _⟩) (Nat.le_of_ble_eq_true rfl) (Nat.le_of_ble_eq_true rfl) dX4_inFront_6
set_option maxHeartbeats 4000000 in
set_option maxRecDepth 100000 in
theorem kt5_X4_between (l : Launch) (G : KG) (tag : Nat → Nat) (L : List Nat) (F : Nat → va_E) (ho : okT G ttC tag L F) (p0 : Int32) (p1 : Int32) (p2 : Int32)  : TMi l yX4_between cX4_between 5 (some .int) { frames := 0, cells := 0, slots := 0, locals := 0 } G ttC tag L F [.int p0, .int p1, .int p2] (fun r F1 => F1 = F ∧ ((-2147483648) ≤ r.toInt ∧ r.toInt ≤ 2147483647)) := by
  refine t_bodyi (y := yX4_between) (cd := cX4_between) (mL := 5) (rt := (some .int)) (rm := { frames := 0, cells := 0, slots := 0, locals := 0 }) (av := [.int p0, .int p1, .int p2]) (by decide) (Nat.le_of_ble_eq_true rfl) ho ?_
  intro p e s m args below meth c ls A Q hQ X hT hl
  have hx := X.1.1
  have hb := X.1.2.1
  have hl : lv_has ls 5 [(0, .int p0), (1, .int p1), (2, .int p2)] := hl
  have rp0 := rg_all p0
  have rp1 := rg_all p1
  have rp2 := rg_all p2
  have K14 : ∀ (z1035 : Int32) (H : Heap) (locs : List Loc) (ls : Array Slot), TH G ttC A s tag L F H locs → lv_has ls 5 [(0, .int p0), (1, .int p1), (2, .int p2)] → W p l e { frames := 0, cells := 0, slots := 0, locals := 0 } s m args below meth c H locs 0 0 Q (F0 m 14 ls [.int z1035]) := by
    intro z1035 H locs ls hT hl
    have rz1035 := rg_all z1035
    refine lv_istore_n (lv' := [(3, .int z1035), (0, .int p0), (1, .int p1), (2, .int p2)]) hx hb dX4_between_14 rfl hl (by decide) rfl (fun ls hl => ?_)
    refine lv_bipush (v := 8) hx hb dX4_between_15 (by decide) ?_
    refine lv_iload_n hx hb dX4_between_17 rfl (lv_at hl 1 rfl) ?_
    refine lv_imul hx hb dX4_between_18 ?_
    refine lv_topi (fun z1036 ez1036 => ?_)
    have rz1036 := rg_all z1036
    refine lv_iload_n hx hb dX4_between_19 rfl (lv_at hl 0 rfl) ?_
    refine lv_isub hx hb dX4_between_20 ?_
    refine lv_topi (fun z1037 ez1037 => ?_)
    have rz1037 := rg_all z1037
    refine lv_istore (lv' := [(4, .int z1037), (3, .int z1035), (0, .int p0), (1, .int p1), (2, .int p2)]) hx hb dX4_between_21 hl (by decide) rfl (fun ls hl => ?_)
    refine lv_iload_n hx hb dX4_between_23 rfl (lv_at hl 1 rfl) ?_
    refine lv_iload hx hb dX4_between_24 (lv_at hl 0 rfl) ?_
    refine lv_icmp_ge (tgt := 33) hx hb dX4_between_26 (by decide) (fun c1038 => ?_) (fun c1038 => ?_)
    · have w1039 := cv_le (rfl : z1037.toInt = z1037.toInt) (rfl : z1035.toInt = z1035.toInt) c1038
      refine lv_iload hx hb dX4_between_33 (lv_at hl 0 rfl) ?_
      exact t_iret hQ X hT (⟨rfl, rg_all _⟩) (Nat.le_of_ble_eq_true rfl) (Nat.le_of_ble_eq_true rfl) dX4_between_35
    · have w1040 := cv_nle (rfl : z1037.toInt = z1037.toInt) (rfl : z1035.toInt = z1035.toInt) c1038
      refine lv_iload_n hx hb dX4_between_29 rfl (lv_at hl 1 rfl) ?_
      refine lv_goto (tgt := 35) hx hb dX4_between_30 (by decide) ?_
      exact t_iret hQ X hT (⟨rfl, rg_all _⟩) (Nat.le_of_ble_eq_true rfl) (Nat.le_of_ble_eq_true rfl) dX4_between_35
  refine lv_iload_n hx hb dX4_between_0 rfl (lv_at hl 1 rfl) ?_
  refine lv_iload_n hx hb dX4_between_1 rfl (lv_at hl 2 rfl) ?_
  refine lv_icmp_ge (tgt := 11) hx hb dX4_between_2 (by decide) (fun c1041 => ?_) (fun c1041 => ?_)
  · have w1042 := cv_le (rfl : p2.toInt = p2.toInt) (rfl : p1.toInt = p1.toInt) c1041
    refine lv_iload_n hx hb dX4_between_11 rfl (lv_at hl 1 rfl) ?_
    refine lv_iload_n hx hb dX4_between_12 rfl (lv_at hl 2 rfl) ?_
    refine lv_isub hx hb dX4_between_13 ?_
    refine lv_topi (fun z1043 ez1043 => ?_)
    have rz1043 := rg_all z1043
    exact K14 z1043 _ _ _  hT  (lv_sub hl [0, 1, 2] rfl)
  · have w1044 := cv_nle (rfl : p2.toInt = p2.toInt) (rfl : p1.toInt = p1.toInt) c1041
    refine lv_iload_n hx hb dX4_between_5 rfl (lv_at hl 2 rfl) ?_
    refine lv_iload_n hx hb dX4_between_6 rfl (lv_at hl 1 rfl) ?_
    refine lv_isub hx hb dX4_between_7 ?_
    refine lv_topi (fun z1045 ez1045 => ?_)
    have rz1045 := rg_all z1045
    refine lv_goto (tgt := 14) hx hb dX4_between_8 (by decide) ?_
    exact K14 z1045 _ _ _  hT  (lv_sub hl [0, 1, 2] rfl)
set_option maxHeartbeats 4000000 in
set_option maxRecDepth 100000 in
theorem kt6_X1_isOn (l : Launch) (G : KG) (tag : Nat → Nat) (L : List Nat) (F : Nat → va_E) (ho : okT G ttC tag L F) (p0 : Nat) (p1 : Int32) (p2 : Int32) (m0 : p0 ∈ L) (g0 : tag p0 = 18) : TMi l yX1_isOn cX1_isOn 3 (some .boolean) { frames := 0, cells := 0, slots := 0, locals := 0 } G ttC tag L F [.ref p0, .int p1, .int p2] (fun r F1 => F1 = F ∧ (0 ≤ r.toInt ∧ r.toInt ≤ 1)) := by
  refine t_bodyi (y := yX1_isOn) (cd := cX1_isOn) (mL := 3) (rt := (some .boolean)) (rm := { frames := 0, cells := 0, slots := 0, locals := 0 }) (av := [.ref p0, .int p1, .int p2]) (by decide) (Nat.le_of_ble_eq_true rfl) ho ?_
  intro p e s m args below meth c ls A Q hQ X hT hl
  have hx := X.1.1
  have hb := X.1.2.1
  have hl : lv_has ls 3 [(0, .ref p0), (1, .int p1), (2, .int p2)] := hl
  have rp1 := rg_all p1
  have rp2 := rg_all p2
  refine lv_iload_n hx hb dX1_isOn_0 rfl (lv_at hl 1 rfl) ?_
  refine lv_if_lt (tgt := 28) hx hb dX1_isOn_1 (by decide) (fun c1222 => ?_) (fun c1222 => ?_)
  · have w1223 := cv_lt (rfl : p1.toInt = p1.toInt) (by decide : (0 : Int32).toInt = 0) c1222
    refine lv_iconst (v := 0) hx hb dX1_isOn_28 (by decide) ?_
    exact t_zret hQ X hT (by decide) (⟨rfl, (by decide)⟩) (Nat.le_of_ble_eq_true rfl) (Nat.le_of_ble_eq_true rfl) dX1_isOn_29
  · have w1224 := cv_nlt (rfl : p1.toInt = p1.toInt) (by decide : (0 : Int32).toInt = 0) c1222
    refine lv_iload_n hx hb dX1_isOn_4 rfl (lv_at hl 1 rfl) ?_
    refine lv_aload_n hx hb dX1_isOn_5 rfl (lv_at hl 0 rfl) ?_
    refine t_get (C := RX1) (T := TX1) (N := 20) X hT m0 g0 rfl rfl 0 (by decide) qw_177 inlX1 rfl dX1_isOn_6 (fun v1225 hv1225 ov1225 => ?_)
    obtain ⟨z1226, rfl, rz1226⟩ := okV_i ov1225
    refine lv_icmp_ge (tgt := 28) hx hb dX1_isOn_9 (by decide) (fun c1227 => ?_) (fun c1227 => ?_)
    · have w1228 := cv_le (rfl : z1226.toInt = z1226.toInt) (rfl : p1.toInt = p1.toInt) c1227
      refine lv_iconst (v := 0) hx hb dX1_isOn_28 (by decide) ?_
      exact t_zret hQ X hT (by decide) (⟨rfl, (by decide)⟩) (Nat.le_of_ble_eq_true rfl) (Nat.le_of_ble_eq_true rfl) dX1_isOn_29
    · have w1229 := cv_nle (rfl : z1226.toInt = z1226.toInt) (rfl : p1.toInt = p1.toInt) c1227
      refine lv_iload_n hx hb dX1_isOn_12 rfl (lv_at hl 2 rfl) ?_
      refine lv_if_lt (tgt := 28) hx hb dX1_isOn_13 (by decide) (fun c1230 => ?_) (fun c1230 => ?_)
      · have w1231 := cv_lt (rfl : p2.toInt = p2.toInt) (by decide : (0 : Int32).toInt = 0) c1230
        refine lv_iconst (v := 0) hx hb dX1_isOn_28 (by decide) ?_
        exact t_zret hQ X hT (by decide) (⟨rfl, (by decide)⟩) (Nat.le_of_ble_eq_true rfl) (Nat.le_of_ble_eq_true rfl) dX1_isOn_29
      · have w1232 := cv_nlt (rfl : p2.toInt = p2.toInt) (by decide : (0 : Int32).toInt = 0) c1230
        refine lv_iload_n hx hb dX1_isOn_16 rfl (lv_at hl 2 rfl) ?_
        refine lv_aload_n hx hb dX1_isOn_17 rfl (lv_at hl 0 rfl) ?_
        refine t_get (C := RX1) (T := TX1) (N := 20) X hT m0 g0 rfl rfl 1 (by decide) qw_178 inlX1 rfl dX1_isOn_18 (fun v1233 hv1233 ov1233 => ?_)
        obtain ⟨z1234, rfl, rz1234⟩ := okV_i ov1233
        refine lv_icmp_ge (tgt := 28) hx hb dX1_isOn_21 (by decide) (fun c1235 => ?_) (fun c1235 => ?_)
        · have w1236 := cv_le (rfl : z1234.toInt = z1234.toInt) (rfl : p2.toInt = p2.toInt) c1235
          refine lv_iconst (v := 0) hx hb dX1_isOn_28 (by decide) ?_
          exact t_zret hQ X hT (by decide) (⟨rfl, (by decide)⟩) (Nat.le_of_ble_eq_true rfl) (Nat.le_of_ble_eq_true rfl) dX1_isOn_29
        · have w1237 := cv_nle (rfl : z1234.toInt = z1234.toInt) (rfl : p2.toInt = p2.toInt) c1235
          refine lv_iconst (v := 1) hx hb dX1_isOn_24 (by decide) ?_
          refine lv_goto (tgt := 29) hx hb dX1_isOn_25 (by decide) ?_
          exact t_zret hQ X hT (by decide) (⟨rfl, (by decide)⟩) (Nat.le_of_ble_eq_true rfl) (Nat.le_of_ble_eq_true rfl) dX1_isOn_29
set_option maxHeartbeats 4000000 in
set_option maxRecDepth 100000 in
theorem kt7_X1_isWet (l : Launch) (G : KG) (tag : Nat → Nat) (L : List Nat) (F : Nat → va_E) (ho : okT G ttC tag L F) (p0 : Nat) (p1 : Int32) (p2 : Int32) (m0 : p0 ∈ L) (g0 : tag p0 = 18) : TMi l yX1_isWet cX1_isWet 4 (some .boolean) { frames := 0, cells := 0, slots := 0, locals := 0 } G ttC tag L F [.ref p0, .int p1, .int p2] (fun r F1 => F1 = F ∧ (0 ≤ r.toInt ∧ r.toInt ≤ 1)) := by
  refine t_bodyi (y := yX1_isWet) (cd := cX1_isWet) (mL := 4) (rt := (some .boolean)) (rm := { frames := 0, cells := 0, slots := 0, locals := 0 }) (av := [.ref p0, .int p1, .int p2]) (by decide) (Nat.le_of_ble_eq_true rfl) ho ?_
  intro p e s m args below meth c ls A Q hQ X hT hl
  have hx := X.1.1
  have hb := X.1.2.1
  have hl : lv_has ls 4 [(0, .ref p0), (1, .int p1), (2, .int p2)] := hl
  have rp1 := rg_all p1
  have rp2 := rg_all p2
  refine lv_iload_n hx hb dX1_isWet_0 rfl (lv_at hl 2 rfl) ?_
  refine lv_aload_n hx hb dX1_isWet_1 rfl (lv_at hl 0 rfl) ?_
  refine t_get (C := RX1) (T := TX1) (N := 20) X hT m0 g0 rfl rfl 0 (by decide) qw_177 inlX1 rfl dX1_isWet_2 (fun v1436 hv1436 ov1436 => ?_)
  obtain ⟨z1437, rfl, rz1437⟩ := okV_i ov1436
  refine lv_imul hx hb dX1_isWet_5 ?_
  refine lv_topi (fun z1438 ez1438 => ?_)
  have rz1438 := rg_all z1438
  refine lv_iload_n hx hb dX1_isWet_6 rfl (lv_at hl 1 rfl) ?_
  refine lv_iadd hx hb dX1_isWet_7 ?_
  refine lv_topi (fun z1439 ez1439 => ?_)
  have rz1439 := rg_all z1439
  refine lv_istore_n (lv' := [(3, .int z1439), (0, .ref p0), (1, .int p1), (2, .int p2)]) hx hb dX1_isWet_8 rfl hl (by decide) rfl (fun ls hl => ?_)
  refine lv_iload_n hx hb dX1_isWet_9 rfl (lv_at hl 0 rfl) ?_
  refine lv_if_lt (tgt := 35) hx hb dX1_isWet_10 (by decide) (fun c1440 => ?_) (fun c1440 => ?_)
  · have w1441 := cv_lt (rfl : z1439.toInt = z1439.toInt) (by decide : (0 : Int32).toInt = 0) c1440
    refine lv_iconst (v := 0) hx hb dX1_isWet_35 (by decide) ?_
    exact t_zret hQ X hT (by decide) (⟨rfl, (by decide)⟩) (Nat.le_of_ble_eq_true rfl) (Nat.le_of_ble_eq_true rfl) dX1_isWet_36
  · have w1442 := cv_nlt (rfl : z1439.toInt = z1439.toInt) (by decide : (0 : Int32).toInt = 0) c1440
    refine lv_iload_n hx hb dX1_isWet_13 rfl (lv_at hl 0 rfl) ?_
    refine lv_aload_n hx hb dX1_isWet_14 rfl (lv_at hl 1 rfl) ?_
    refine t_get (C := RX1) (T := TX1) (N := 20) X hT m0 g0 rfl rfl 7 (by decide) qw_50 inlX1 rfl dX1_isWet_15 (fun v1443 hv1443 ov1443 => ?_)
    obtain ⟨b1444, rfl, mb1444, gb1444⟩ := okV_r ov1443
    have gb1444 : tag b1444 = 2 := tg_of gb1444
    refine t_alen X hT mb1444 gb1444 rfl (by decide) dX1_isWet_18 ?_
    refine lv_topi (fun z1445 ez1445 => ?_)
    obtain rfl : z1445 = 144 := ez1445.trans (by rfl)
    refine lv_icmp_ge (tgt := 35) hx hb dX1_isWet_19 (by decide) (fun c1446 => ?_) (fun c1446 => ?_)
    · have w1447 := cv_le (by decide : (144 : Int32).toInt = 144) (rfl : z1439.toInt = z1439.toInt) c1446
      refine lv_iconst (v := 0) hx hb dX1_isWet_35 (by decide) ?_
      exact t_zret hQ X hT (by decide) (⟨rfl, (by decide)⟩) (Nat.le_of_ble_eq_true rfl) (Nat.le_of_ble_eq_true rfl) dX1_isWet_36
    · have w1448 := cv_nle (by decide : (144 : Int32).toInt = 144) (rfl : z1439.toInt = z1439.toInt) c1446
      refine lv_aload_n hx hb dX1_isWet_22 rfl (lv_at hl 1 rfl) ?_
      refine t_get (C := RX1) (T := TX1) (N := 20) X hT m0 g0 rfl rfl 7 (by decide) qw_50 inlX1 rfl dX1_isWet_23 (fun v1449 hv1449 ov1449 => ?_)
      obtain rfl : v1449 = .ref b1444 := hv1449.symm.trans hv1443
      refine lv_iload_n hx hb dX1_isWet_26 rfl (lv_at hl 0 rfl) ?_
      refine t_zld X hT mb1444 gb1444 rfl (by omega) dX1_isWet_27 (fun z1450 vz1450 rz1450 => ?_)
      have rz1450 : 0 ≤ z1450.toInt ∧ z1450.toInt ≤ 1 := rz1450
      refine lv_if_eq (tgt := 35) hx hb dX1_isWet_28 (by decide) (fun c1451 => ?_) (fun c1451 => ?_)
      · have w1452 := cv_eq (rfl : z1450.toInt = z1450.toInt) (by decide : (0 : Int32).toInt = 0) c1451
        refine lv_iconst (v := 0) hx hb dX1_isWet_35 (by decide) ?_
        exact t_zret hQ X hT (by decide) (⟨rfl, (by decide)⟩) (Nat.le_of_ble_eq_true rfl) (Nat.le_of_ble_eq_true rfl) dX1_isWet_36
      · have w1453 := cv_ne (rfl : z1450.toInt = z1450.toInt) (by decide : (0 : Int32).toInt = 0) c1451
        refine lv_iconst (v := 1) hx hb dX1_isWet_31 (by decide) ?_
        refine lv_goto (tgt := 36) hx hb dX1_isWet_32 (by decide) ?_
        exact t_zret hQ X hT (by decide) (⟨rfl, (by decide)⟩) (Nat.le_of_ble_eq_true rfl) (Nat.le_of_ble_eq_true rfl) dX1_isWet_36
set_option maxHeartbeats 4000000 in
set_option maxRecDepth 100000 in
theorem kt8_X1_addWater (l : Launch) (G : KG) (tag : Nat → Nat) (L : List Nat) (Fo : Nat → va_E) (ho : okT G ttC tag L Fo) (p0 : Nat) (p1 : Int32) (p2 : Int32) (m0 : p0 ∈ L) (g0 : tag p0 = 18) : TMv l yX1_addWater cX1_addWater 4 { frames := 0, cells := 0, slots := 0, locals := 0 } G ttC tag L Fo [.ref p0, .int p1, .int p2] (fun F1 => ((∀ b j : Nat, fld F1 b j = fld Fo b j) ∧ EF tag F1 Fo)) := by
  refine t_bodyv (y := yX1_addWater) (cd := cX1_addWater) (mL := 4) (rm := { frames := 0, cells := 0, slots := 0, locals := 0 }) (av := [.ref p0, .int p1, .int p2]) (by decide) (Nat.le_of_ble_eq_true rfl) ho ?_
  intro p e s m args below meth c ls A Q hQ X hT hl
  have hx := X.1.1
  have hb := X.1.2.1
  have hl : lv_has ls 4 [(0, .ref p0), (1, .int p1), (2, .int p2)] := hl
  have rp1 := rg_all p1
  have rp2 := rg_all p2
  obtain ⟨F, hFo⟩ : ∃ F : Nat → va_E, F = Fo := ⟨_, rfl⟩
  rw [← hFo] at hT
  have hfr : (∀ b j : Nat, fld F b j = fld Fo b j) ∧ EF tag F Fo := by
    rw [hFo]
    exact ⟨by intros; rfl, fun _ _ _ => rfl⟩
  refine lv_iload_n hx hb dX1_addWater_0 rfl (lv_at hl 2 rfl) ?_
  refine lv_aload_n hx hb dX1_addWater_1 rfl (lv_at hl 0 rfl) ?_
  refine t_get (C := RX1) (T := TX1) (N := 20) X hT m0 g0 rfl rfl 0 (by decide) qw_177 inlX1 rfl dX1_addWater_2 (fun v1619 hv1619 ov1619 => ?_)
  obtain ⟨z1620, rfl, rz1620⟩ := okV_i ov1619
  refine lv_imul hx hb dX1_addWater_5 ?_
  refine lv_topi (fun z1621 ez1621 => ?_)
  have rz1621 := rg_all z1621
  refine lv_iload_n hx hb dX1_addWater_6 rfl (lv_at hl 1 rfl) ?_
  refine lv_iadd hx hb dX1_addWater_7 ?_
  refine lv_topi (fun z1622 ez1622 => ?_)
  have rz1622 := rg_all z1622
  refine lv_istore_n (lv' := [(3, .int z1622), (0, .ref p0), (1, .int p1), (2, .int p2)]) hx hb dX1_addWater_8 rfl hl (by decide) rfl (fun ls hl => ?_)
  refine lv_iload_n hx hb dX1_addWater_9 rfl (lv_at hl 0 rfl) ?_
  refine lv_if_lt (tgt := 29) hx hb dX1_addWater_10 (by decide) (fun c1623 => ?_) (fun c1623 => ?_)
  · have w1624 := cv_lt (rfl : z1622.toInt = z1622.toInt) (by decide : (0 : Int32).toInt = 0) c1623
    exact t_vret hQ X hT hfr (Nat.le_of_ble_eq_true rfl) (Nat.le_of_ble_eq_true rfl) dX1_addWater_29
  · have w1625 := cv_nlt (rfl : z1622.toInt = z1622.toInt) (by decide : (0 : Int32).toInt = 0) c1623
    refine lv_iload_n hx hb dX1_addWater_13 rfl (lv_at hl 0 rfl) ?_
    refine lv_aload_n hx hb dX1_addWater_14 rfl (lv_at hl 1 rfl) ?_
    refine t_get (C := RX1) (T := TX1) (N := 20) X hT m0 g0 rfl rfl 7 (by decide) qw_50 inlX1 rfl dX1_addWater_15 (fun v1626 hv1626 ov1626 => ?_)
    obtain ⟨b1627, rfl, mb1627, gb1627⟩ := okV_r ov1626
    have gb1627 : tag b1627 = 2 := tg_of gb1627
    refine t_alen X hT mb1627 gb1627 rfl (by decide) dX1_addWater_18 ?_
    refine lv_topi (fun z1628 ez1628 => ?_)
    obtain rfl : z1628 = 144 := ez1628.trans (by rfl)
    refine lv_icmp_ge (tgt := 29) hx hb dX1_addWater_19 (by decide) (fun c1629 => ?_) (fun c1629 => ?_)
    · have w1630 := cv_le (by decide : (144 : Int32).toInt = 144) (rfl : z1622.toInt = z1622.toInt) c1629
      exact t_vret hQ X hT hfr (Nat.le_of_ble_eq_true rfl) (Nat.le_of_ble_eq_true rfl) dX1_addWater_29
    · have w1631 := cv_nle (by decide : (144 : Int32).toInt = 144) (rfl : z1622.toInt = z1622.toInt) c1629
      refine lv_aload_n hx hb dX1_addWater_22 rfl (lv_at hl 1 rfl) ?_
      refine t_get (C := RX1) (T := TX1) (N := 20) X hT m0 g0 rfl rfl 7 (by decide) qw_50 inlX1 rfl dX1_addWater_23 (fun v1632 hv1632 ov1632 => ?_)
      obtain rfl : v1632 = .ref b1627 := hv1632.symm.trans hv1626
      refine lv_iload_n hx hb dX1_addWater_26 rfl (lv_at hl 0 rfl) ?_
      refine lv_iconst (v := 1) hx hb dX1_addWater_27 (by decide) ?_
      refine t_zst X hT mb1627 gb1627 rfl (by omega) (show 0 ≤ (vp_nar .boolean 1).toInt ∧ (vp_nar .boolean 1).toInt ≤ 1 from (by decide)) dX1_addWater_28 (fun F H locs hT v1633 h1v1633 h2v1633 => ?_)
      have hv1619 := (h2v1633 _ _).trans hv1619
      have hv1626 := (h2v1633 _ _).trans hv1626
      have hfr : (∀ b j : Nat, fld F b j = fld Fo b j) ∧ EF tag F Fo := ⟨fun b j  => (h2v1633 b j).trans (hfr.1 b j ), fun b j hb => (h1v1633 b j (Or.inl (ns_ne hb gb1627 (by decide)))).trans (hfr.2 b j hb)⟩
      exact t_vret hQ X hT hfr (Nat.le_of_ble_eq_true rfl) (Nat.le_of_ble_eq_true rfl) dX1_addWater_29
set_option maxHeartbeats 4000000 in
set_option maxRecDepth 100000 in
theorem kt9_X1_stonePart (l : Launch) (G : KG) (tag : Nat → Nat) (L : List Nat) (F : Nat → va_E) (ho : okT G ttC tag L F) (p0 : Nat) (p1 : Int32) (p2 : Int32) (m0 : p0 ∈ L) (g0 : tag p0 = 18) : TMi l yX1_stonePart cX1_stonePart 4 (some .int) { frames := 0, cells := 0, slots := 0, locals := 0 } G ttC tag L F [.ref p0, .int p1, .int p2] (fun r F1 => F1 = F ∧ ((-2147483648) ≤ r.toInt ∧ r.toInt ≤ 2147483647)) := by
  refine t_bodyi (y := yX1_stonePart) (cd := cX1_stonePart) (mL := 4) (rt := (some .int)) (rm := { frames := 0, cells := 0, slots := 0, locals := 0 }) (av := [.ref p0, .int p1, .int p2]) (by decide) (Nat.le_of_ble_eq_true rfl) ho ?_
  intro p e s m args below meth c ls A Q hQ X hT hl
  have hx := X.1.1
  have hb := X.1.2.1
  have hl : lv_has ls 4 [(0, .ref p0), (1, .int p1), (2, .int p2)] := hl
  have rp1 := rg_all p1
  have rp2 := rg_all p2
  refine lv_iload_n hx hb dX1_stonePart_0 rfl (lv_at hl 1 rfl) ?_
  refine lv_iconst (v := 5) hx hb dX1_stonePart_1 (by decide) ?_
  refine lv_imul hx hb dX1_stonePart_2 ?_
  refine lv_topi (fun z1777 ez1777 => ?_)
  have rz1777 := rg_all z1777
  refine lv_iload_n hx hb dX1_stonePart_3 rfl (lv_at hl 2 rfl) ?_
  refine lv_iadd hx hb dX1_stonePart_4 ?_
  refine lv_topi (fun z1778 ez1778 => ?_)
  have rz1778 := rg_all z1778
  refine lv_istore_n (lv' := [(3, .int z1778), (0, .ref p0), (1, .int p1), (2, .int p2)]) hx hb dX1_stonePart_5 rfl hl (by decide) rfl (fun ls hl => ?_)
  refine lv_iload_n hx hb dX1_stonePart_6 rfl (lv_at hl 0 rfl) ?_
  refine lv_if_lt (tgt := 28) hx hb dX1_stonePart_7 (by decide) (fun c1779 => ?_) (fun c1779 => ?_)
  · have w1780 := cv_lt (rfl : z1778.toInt = z1778.toInt) (by decide : (0 : Int32).toInt = 0) c1779
    refine lv_iconst (v := 0) hx hb dX1_stonePart_28 (by decide) ?_
    exact t_iret hQ X hT (⟨rfl, rg_all _⟩) (Nat.le_of_ble_eq_true rfl) (Nat.le_of_ble_eq_true rfl) dX1_stonePart_29
  · have w1781 := cv_nlt (rfl : z1778.toInt = z1778.toInt) (by decide : (0 : Int32).toInt = 0) c1779
    refine lv_iload_n hx hb dX1_stonePart_10 rfl (lv_at hl 0 rfl) ?_
    refine lv_aload_n hx hb dX1_stonePart_11 rfl (lv_at hl 1 rfl) ?_
    refine t_get (C := RX1) (T := TX1) (N := 20) X hT m0 g0 rfl rfl 9 (by decide) qw_51 inlX1 rfl dX1_stonePart_12 (fun v1782 hv1782 ov1782 => ?_)
    obtain ⟨b1783, rfl, mb1783, gb1783⟩ := okV_r ov1782
    have gb1783 : tag b1783 = 3 := tg_of gb1783
    refine t_alen X hT mb1783 gb1783 rfl (by decide) dX1_stonePart_15 ?_
    refine lv_topi (fun z1784 ez1784 => ?_)
    obtain rfl : z1784 = 20 := ez1784.trans (by rfl)
    refine lv_icmp_ge (tgt := 28) hx hb dX1_stonePart_16 (by decide) (fun c1785 => ?_) (fun c1785 => ?_)
    · have w1786 := cv_le (by decide : (20 : Int32).toInt = 20) (rfl : z1778.toInt = z1778.toInt) c1785
      refine lv_iconst (v := 0) hx hb dX1_stonePart_28 (by decide) ?_
      exact t_iret hQ X hT (⟨rfl, rg_all _⟩) (Nat.le_of_ble_eq_true rfl) (Nat.le_of_ble_eq_true rfl) dX1_stonePart_29
    · have w1787 := cv_nle (by decide : (20 : Int32).toInt = 20) (rfl : z1778.toInt = z1778.toInt) c1785
      refine lv_aload_n hx hb dX1_stonePart_19 rfl (lv_at hl 1 rfl) ?_
      refine t_get (C := RX1) (T := TX1) (N := 20) X hT m0 g0 rfl rfl 9 (by decide) qw_51 inlX1 rfl dX1_stonePart_20 (fun v1788 hv1788 ov1788 => ?_)
      obtain rfl : v1788 = .ref b1783 := hv1788.symm.trans hv1782
      refine lv_iload_n hx hb dX1_stonePart_23 rfl (lv_at hl 0 rfl) ?_
      refine t_ild X hT mb1783 gb1783 rfl (by omega) dX1_stonePart_24 (fun z1789 vz1789 rz1789 => ?_)
      have rz1789 : (-2147483648) ≤ z1789.toInt ∧ z1789.toInt ≤ 2147483647 := rz1789
      refine lv_goto (tgt := 29) hx hb dX1_stonePart_25 (by decide) ?_
      exact t_iret hQ X hT (⟨rfl, rg_all _⟩) (Nat.le_of_ble_eq_true rfl) (Nat.le_of_ble_eq_true rfl) dX1_stonePart_29
set_option maxHeartbeats 4000000 in
set_option maxRecDepth 100000 in
theorem kt10_X1_setStonePart (l : Launch) (G : KG) (tag : Nat → Nat) (L : List Nat) (Fo : Nat → va_E) (ho : okT G ttC tag L Fo) (p0 : Nat) (p1 : Int32) (p2 : Int32) (p3 : Int32) (m0 : p0 ∈ L) (g0 : tag p0 = 18) : TMv l yX1_setStonePart cX1_setStonePart 5 { frames := 0, cells := 0, slots := 0, locals := 0 } G ttC tag L Fo [.ref p0, .int p1, .int p2, .int p3] (fun F1 => ((∀ b j : Nat, fld F1 b j = fld Fo b j) ∧ EF tag F1 Fo)) := by
  refine t_bodyv (y := yX1_setStonePart) (cd := cX1_setStonePart) (mL := 5) (rm := { frames := 0, cells := 0, slots := 0, locals := 0 }) (av := [.ref p0, .int p1, .int p2, .int p3]) (by decide) (Nat.le_of_ble_eq_true rfl) ho ?_
  intro p e s m args below meth c ls A Q hQ X hT hl
  have hx := X.1.1
  have hb := X.1.2.1
  have hl : lv_has ls 5 [(0, .ref p0), (1, .int p1), (2, .int p2), (3, .int p3)] := hl
  have rp1 := rg_all p1
  have rp2 := rg_all p2
  have rp3 := rg_all p3
  obtain ⟨F, hFo⟩ : ∃ F : Nat → va_E, F = Fo := ⟨_, rfl⟩
  rw [← hFo] at hT
  have hfr : (∀ b j : Nat, fld F b j = fld Fo b j) ∧ EF tag F Fo := by
    rw [hFo]
    exact ⟨by intros; rfl, fun _ _ _ => rfl⟩
  refine lv_iload_n hx hb dX1_setStonePart_0 rfl (lv_at hl 1 rfl) ?_
  refine lv_iconst (v := 5) hx hb dX1_setStonePart_1 (by decide) ?_
  refine lv_imul hx hb dX1_setStonePart_2 ?_
  refine lv_topi (fun z1933 ez1933 => ?_)
  have rz1933 := rg_all z1933
  refine lv_iload_n hx hb dX1_setStonePart_3 rfl (lv_at hl 2 rfl) ?_
  refine lv_iadd hx hb dX1_setStonePart_4 ?_
  refine lv_topi (fun z1934 ez1934 => ?_)
  have rz1934 := rg_all z1934
  refine lv_istore (lv' := [(4, .int z1934), (0, .ref p0), (1, .int p1), (2, .int p2), (3, .int p3)]) hx hb dX1_setStonePart_5 hl (by decide) rfl (fun ls hl => ?_)
  refine lv_iload hx hb dX1_setStonePart_7 (lv_at hl 0 rfl) ?_
  refine lv_if_lt (tgt := 30) hx hb dX1_setStonePart_9 (by decide) (fun c1935 => ?_) (fun c1935 => ?_)
  · have w1936 := cv_lt (rfl : z1934.toInt = z1934.toInt) (by decide : (0 : Int32).toInt = 0) c1935
    exact t_vret hQ X hT hfr (Nat.le_of_ble_eq_true rfl) (Nat.le_of_ble_eq_true rfl) dX1_setStonePart_30
  · have w1937 := cv_nlt (rfl : z1934.toInt = z1934.toInt) (by decide : (0 : Int32).toInt = 0) c1935
    refine lv_iload hx hb dX1_setStonePart_12 (lv_at hl 0 rfl) ?_
    refine lv_aload_n hx hb dX1_setStonePart_14 rfl (lv_at hl 1 rfl) ?_
    refine t_get (C := RX1) (T := TX1) (N := 20) X hT m0 g0 rfl rfl 9 (by decide) qw_51 inlX1 rfl dX1_setStonePart_15 (fun v1938 hv1938 ov1938 => ?_)
    obtain ⟨b1939, rfl, mb1939, gb1939⟩ := okV_r ov1938
    have gb1939 : tag b1939 = 3 := tg_of gb1939
    refine t_alen X hT mb1939 gb1939 rfl (by decide) dX1_setStonePart_18 ?_
    refine lv_topi (fun z1940 ez1940 => ?_)
    obtain rfl : z1940 = 20 := ez1940.trans (by rfl)
    refine lv_icmp_ge (tgt := 30) hx hb dX1_setStonePart_19 (by decide) (fun c1941 => ?_) (fun c1941 => ?_)
    · have w1942 := cv_le (by decide : (20 : Int32).toInt = 20) (rfl : z1934.toInt = z1934.toInt) c1941
      exact t_vret hQ X hT hfr (Nat.le_of_ble_eq_true rfl) (Nat.le_of_ble_eq_true rfl) dX1_setStonePart_30
    · have w1943 := cv_nle (by decide : (20 : Int32).toInt = 20) (rfl : z1934.toInt = z1934.toInt) c1941
      refine lv_aload_n hx hb dX1_setStonePart_22 rfl (lv_at hl 1 rfl) ?_
      refine t_get (C := RX1) (T := TX1) (N := 20) X hT m0 g0 rfl rfl 9 (by decide) qw_51 inlX1 rfl dX1_setStonePart_23 (fun v1944 hv1944 ov1944 => ?_)
      obtain rfl : v1944 = .ref b1939 := hv1944.symm.trans hv1938
      refine lv_iload hx hb dX1_setStonePart_26 (lv_at hl 0 rfl) ?_
      refine lv_iload_n hx hb dX1_setStonePart_28 rfl (lv_at hl 4 rfl) ?_
      refine t_ist X hT mb1939 gb1939 rfl (by omega) (show (-2147483648) ≤ (p3 : Int32).toInt ∧ (p3 : Int32).toInt ≤ 2147483647 from (by omega)) dX1_setStonePart_29 (fun F H locs hT v1945 h1v1945 h2v1945 => ?_)
      have hv1938 := (h2v1945 _ _).trans hv1938
      have hfr : (∀ b j : Nat, fld F b j = fld Fo b j) ∧ EF tag F Fo := ⟨fun b j  => (h2v1945 b j).trans (hfr.1 b j ), fun b j hb => (h1v1945 b j (Or.inl (ns_ne hb gb1939 (by decide)))).trans (hfr.2 b j hb)⟩
      exact t_vret hQ X hT hfr (Nat.le_of_ble_eq_true rfl) (Nat.le_of_ble_eq_true rfl) dX1_setStonePart_30
set_option maxHeartbeats 4000000 in
set_option maxRecDepth 100000 in
theorem kt11_X1_clear (l : Launch) (G : KG) (tag : Nat → Nat) (L : List Nat) (Fo : Nat → va_E) (ho : okT G ttC tag L Fo) (p0 : Nat) (m0 : p0 ∈ L) (g0 : tag p0 = 18) : TMv l yX1_clear cX1_clear 2 { frames := 0, cells := 0, slots := 0, locals := 0 } G ttC tag L Fo [.ref p0] (fun F1 => ((∀ b j : Nat, (tag b ≠ 18 ∨ j ≠ 0) → (tag b ≠ 18 ∨ j ≠ 1) → (tag b ≠ 18 ∨ j ≠ 8) → (tag b ≠ 18 ∨ j ≠ 10) → (tag b ≠ 18 ∨ j ≠ 14) → (tag b ≠ 18 ∨ j ≠ 16) → fld F1 b j = fld Fo b j) ∧ EF tag F1 Fo)) := by
  refine t_bodyv (y := yX1_clear) (cd := cX1_clear) (mL := 2) (rm := { frames := 0, cells := 0, slots := 0, locals := 0 }) (av := [.ref p0]) (by decide) (Nat.le_of_ble_eq_true rfl) ho ?_
  intro p e s m args below meth c ls A Q hQ X hT hl
  have hx := X.1.1
  have hb := X.1.2.1
  have hl : lv_has ls 2 [(0, .ref p0)] := hl
  obtain ⟨F, hFo⟩ : ∃ F : Nat → va_E, F = Fo := ⟨_, rfl⟩
  rw [← hFo] at hT
  have hfr : (∀ b j : Nat, (tag b ≠ 18 ∨ j ≠ 0) → (tag b ≠ 18 ∨ j ≠ 1) → (tag b ≠ 18 ∨ j ≠ 8) → (tag b ≠ 18 ∨ j ≠ 10) → (tag b ≠ 18 ∨ j ≠ 14) → (tag b ≠ 18 ∨ j ≠ 16) → fld F b j = fld Fo b j) ∧ EF tag F Fo := by
    rw [hFo]
    exact ⟨by intros; rfl, fun _ _ _ => rfl⟩
  have K56 : ∀ (n : Nat) (z2610 : Int32) (z2611 : Int32) (z2612 : Int32) (z2613 : Int32) (z2614 : Int32) (z2615 : Int32) (z2616 : Int32) (F : Nat → va_E) (H : Heap) (locs : List Loc) (ls : Array Slot), (6 - z2610.toInt < (n : Int)) → (0 ≤ z2610.toInt ∧ z2610.toInt ≤ 6) → (0 ≤ z2611.toInt ∧ z2611.toInt ≤ 0) → (0 ≤ z2612.toInt ∧ z2612.toInt ≤ 0) → (0 ≤ z2613.toInt ∧ z2613.toInt ≤ 0) → (0 ≤ z2614.toInt ∧ z2614.toInt ≤ 0) → (0 ≤ z2615.toInt ∧ z2615.toInt ≤ 0) → (0 ≤ z2616.toInt ∧ z2616.toInt ≤ 0) → TH G ttC A s tag L F H locs → ((∀ b j : Nat, (tag b ≠ 18 ∨ j ≠ 0) → (tag b ≠ 18 ∨ j ≠ 1) → (tag b ≠ 18 ∨ j ≠ 8) → (tag b ≠ 18 ∨ j ≠ 10) → (tag b ≠ 18 ∨ j ≠ 14) → (tag b ≠ 18 ∨ j ≠ 16) → fld F b j = fld Fo b j) ∧ EF tag F Fo) → fld F p0 0 = .int z2611 → fld F p0 1 = .int z2612 → fld F p0 8 = .int z2613 → fld F p0 10 = .int z2614 → fld F p0 14 = .int z2615 → fld F p0 16 = .int z2616 → lv_has ls 2 [(0, .ref p0), (1, .int z2610)] → W p l e { frames := 0, cells := 0, slots := 0, locals := 0 } s m args below meth c H locs 0 0 Q (F0 m 56 ls []) := by
    intro n
    induction n with
    | zero =>
      intro z2610 z2611 z2612 z2613 z2614 z2615 z2616 F H locs ls hn rz2610 rz2611 rz2612 rz2613 rz2614 rz2615 rz2616 hT hfr qz2611 qz2612 qz2613 qz2614 qz2615 qz2616 hl
      exfalso
      omega
    | succ n ih56 =>
      intro z2610 z2611 z2612 z2613 z2614 z2615 z2616 F H locs ls hn rz2610 rz2611 rz2612 rz2613 rz2614 rz2615 rz2616 hT hfr qz2611 qz2612 qz2613 qz2614 qz2615 qz2616 hl
      refine lv_iload_n hx hb dX1_clear_56 rfl (lv_at hl 1 rfl) ?_
      refine lv_bipush (v := 6) hx hb dX1_clear_57 (by decide) ?_
      refine lv_icmp_ge (tgt := 89) hx hb dX1_clear_59 (by decide) (fun c2617 => ?_) (fun c2617 => ?_)
      · have w2618 := cv_le (by decide : (6 : Int32).toInt = 6) (rfl : z2610.toInt = z2610.toInt) c2617
        exact t_vret hQ X hT hfr (Nat.le_of_ble_eq_true rfl) (Nat.le_of_ble_eq_true rfl) dX1_clear_89
      · have w2619 := cv_nle (by decide : (6 : Int32).toInt = 6) (rfl : z2610.toInt = z2610.toInt) c2617
        refine lv_aload_n hx hb dX1_clear_62 rfl (lv_at hl 0 rfl) ?_
        refine t_get (C := RX1) (T := TX1) (N := 20) X hT m0 g0 rfl rfl 17 (by decide) qw_56 inlX1 rfl dX1_clear_63 (fun v2620 hv2620 ov2620 => ?_)
        obtain ⟨b2621, rfl, mb2621, gb2621⟩ := okV_r ov2620
        have gb2621 : tag b2621 = 7 := tg_of gb2621
        refine lv_iload_n hx hb dX1_clear_66 rfl (lv_at hl 1 rfl) ?_
        refine lv_iconst (v := 0) hx hb dX1_clear_67 (by decide) ?_
        refine t_ist X hT mb2621 gb2621 rfl (by omega) (show (-2147483648) ≤ (0 : Int32).toInt ∧ (0 : Int32).toInt ≤ 2147483647 from (by decide)) dX1_clear_68 (fun F H locs hT v2622 h1v2622 h2v2622 => ?_)
        have qz2611 := (h2v2622 _ _).trans qz2611
        have qz2612 := (h2v2622 _ _).trans qz2612
        have qz2613 := (h2v2622 _ _).trans qz2613
        have qz2614 := (h2v2622 _ _).trans qz2614
        have qz2615 := (h2v2622 _ _).trans qz2615
        have qz2616 := (h2v2622 _ _).trans qz2616
        have hv2620 := (h2v2622 _ _).trans hv2620
        have hfr : (∀ b j : Nat, (tag b ≠ 18 ∨ j ≠ 0) → (tag b ≠ 18 ∨ j ≠ 1) → (tag b ≠ 18 ∨ j ≠ 8) → (tag b ≠ 18 ∨ j ≠ 10) → (tag b ≠ 18 ∨ j ≠ 14) → (tag b ≠ 18 ∨ j ≠ 16) → fld F b j = fld Fo b j) ∧ EF tag F Fo := ⟨fun b j n18_0 n18_1 n18_8 n18_10 n18_14 n18_16 => (h2v2622 b j).trans (hfr.1 b j n18_0 n18_1 n18_8 n18_10 n18_14 n18_16), fun b j hb => (h1v2622 b j (Or.inl (ns_ne hb gb2621 (by decide)))).trans (hfr.2 b j hb)⟩
        refine lv_aload_n hx hb dX1_clear_69 rfl (lv_at hl 0 rfl) ?_
        refine t_get (C := RX1) (T := TX1) (N := 20) X hT m0 g0 rfl rfl 18 (by decide) qw_57 inlX1 rfl dX1_clear_70 (fun v2623 hv2623 ov2623 => ?_)
        obtain ⟨b2624, rfl, mb2624, gb2624⟩ := okV_r ov2623
        have gb2624 : tag b2624 = 7 := tg_of gb2624
        refine lv_iload_n hx hb dX1_clear_73 rfl (lv_at hl 1 rfl) ?_
        refine lv_iconst (v := (-1)) hx hb dX1_clear_74 (by decide) ?_
        refine t_ist X hT mb2624 gb2624 rfl (by omega) (show (-2147483648) ≤ ((-1) : Int32).toInt ∧ ((-1) : Int32).toInt ≤ 2147483647 from (by decide)) dX1_clear_75 (fun F H locs hT v2625 h1v2625 h2v2625 => ?_)
        have qz2611 := (h2v2625 _ _).trans qz2611
        have qz2612 := (h2v2625 _ _).trans qz2612
        have qz2613 := (h2v2625 _ _).trans qz2613
        have qz2614 := (h2v2625 _ _).trans qz2614
        have qz2615 := (h2v2625 _ _).trans qz2615
        have qz2616 := (h2v2625 _ _).trans qz2616
        have hv2620 := (h2v2625 _ _).trans hv2620
        have hv2623 := (h2v2625 _ _).trans hv2623
        have hfr : (∀ b j : Nat, (tag b ≠ 18 ∨ j ≠ 0) → (tag b ≠ 18 ∨ j ≠ 1) → (tag b ≠ 18 ∨ j ≠ 8) → (tag b ≠ 18 ∨ j ≠ 10) → (tag b ≠ 18 ∨ j ≠ 14) → (tag b ≠ 18 ∨ j ≠ 16) → fld F b j = fld Fo b j) ∧ EF tag F Fo := ⟨fun b j n18_0 n18_1 n18_8 n18_10 n18_14 n18_16 => (h2v2625 b j).trans (hfr.1 b j n18_0 n18_1 n18_8 n18_10 n18_14 n18_16), fun b j hb => (h1v2625 b j (Or.inl (ns_ne hb gb2624 (by decide)))).trans (hfr.2 b j hb)⟩
        refine lv_aload_n hx hb dX1_clear_76 rfl (lv_at hl 0 rfl) ?_
        refine t_get (C := RX1) (T := TX1) (N := 20) X hT m0 g0 rfl rfl 19 (by decide) qw_58 inlX1 rfl dX1_clear_77 (fun v2626 hv2626 ov2626 => ?_)
        obtain ⟨b2627, rfl, mb2627, gb2627⟩ := okV_r ov2626
        have gb2627 : tag b2627 = 7 := tg_of gb2627
        refine lv_iload_n hx hb dX1_clear_80 rfl (lv_at hl 1 rfl) ?_
        refine lv_iconst (v := (-1)) hx hb dX1_clear_81 (by decide) ?_
        refine t_ist X hT mb2627 gb2627 rfl (by omega) (show (-2147483648) ≤ ((-1) : Int32).toInt ∧ ((-1) : Int32).toInt ≤ 2147483647 from (by decide)) dX1_clear_82 (fun F H locs hT v2628 h1v2628 h2v2628 => ?_)
        have qz2611 := (h2v2628 _ _).trans qz2611
        have qz2612 := (h2v2628 _ _).trans qz2612
        have qz2613 := (h2v2628 _ _).trans qz2613
        have qz2614 := (h2v2628 _ _).trans qz2614
        have qz2615 := (h2v2628 _ _).trans qz2615
        have qz2616 := (h2v2628 _ _).trans qz2616
        have hv2620 := (h2v2628 _ _).trans hv2620
        have hv2623 := (h2v2628 _ _).trans hv2623
        have hv2626 := (h2v2628 _ _).trans hv2626
        have hfr : (∀ b j : Nat, (tag b ≠ 18 ∨ j ≠ 0) → (tag b ≠ 18 ∨ j ≠ 1) → (tag b ≠ 18 ∨ j ≠ 8) → (tag b ≠ 18 ∨ j ≠ 10) → (tag b ≠ 18 ∨ j ≠ 14) → (tag b ≠ 18 ∨ j ≠ 16) → fld F b j = fld Fo b j) ∧ EF tag F Fo := ⟨fun b j n18_0 n18_1 n18_8 n18_10 n18_14 n18_16 => (h2v2628 b j).trans (hfr.1 b j n18_0 n18_1 n18_8 n18_10 n18_14 n18_16), fun b j hb => (h1v2628 b j (Or.inl (ns_ne hb gb2627 (by decide)))).trans (hfr.2 b j hb)⟩
        obtain ⟨z2629, ez2629⟩ : ∃ y : Int32, y = z2610 + 1 := ⟨_, rfl⟩
        have hz2629 : z2629.toInt = z2610.toInt + 1 := ar_add ez2629 rfl (by decide : (1 : Int32).toInt = 1) (by omega) (by omega)
        refine lv_iinc (v := z2629) (lv' := [(1, .int z2629), (0, .ref p0)]) hx hb dX1_clear_83 hl (k := 1) rfl (by rw [ez2629]; rfl) (by decide) rfl (fun ls hl => ?_)
        refine lv_goto (tgt := 56) hx hb dX1_clear_86 (by decide) ?_
        exact ih56 z2629 z2611 z2612 z2613 z2614 z2615 z2616 _ _ _ _ (by omega) (by omega) (by omega) (by omega) (by omega) (by omega) (by omega) (by omega) hT hfr qz2611 qz2612 qz2613 qz2614 qz2615 qz2616 (lv_sub hl [1, 0] rfl)
  have K32 : ∀ (n : Nat) (z2630 : Int32) (z2631 : Int32) (z2632 : Int32) (z2633 : Int32) (z2634 : Int32) (z2635 : Int32) (z2636 : Int32) (F : Nat → va_E) (H : Heap) (locs : List Loc) (ls : Array Slot), (144 - z2630.toInt < (n : Int)) → (0 ≤ z2630.toInt ∧ z2630.toInt ≤ 144) → (0 ≤ z2631.toInt ∧ z2631.toInt ≤ 0) → (0 ≤ z2632.toInt ∧ z2632.toInt ≤ 0) → (0 ≤ z2633.toInt ∧ z2633.toInt ≤ 0) → (0 ≤ z2634.toInt ∧ z2634.toInt ≤ 0) → (0 ≤ z2635.toInt ∧ z2635.toInt ≤ 0) → (0 ≤ z2636.toInt ∧ z2636.toInt ≤ 0) → TH G ttC A s tag L F H locs → ((∀ b j : Nat, (tag b ≠ 18 ∨ j ≠ 0) → (tag b ≠ 18 ∨ j ≠ 1) → (tag b ≠ 18 ∨ j ≠ 8) → (tag b ≠ 18 ∨ j ≠ 10) → (tag b ≠ 18 ∨ j ≠ 14) → (tag b ≠ 18 ∨ j ≠ 16) → fld F b j = fld Fo b j) ∧ EF tag F Fo) → fld F p0 0 = .int z2631 → fld F p0 1 = .int z2632 → fld F p0 8 = .int z2633 → fld F p0 10 = .int z2634 → fld F p0 14 = .int z2635 → fld F p0 16 = .int z2636 → lv_has ls 2 [(0, .ref p0), (1, .int z2630)] → W p l e { frames := 0, cells := 0, slots := 0, locals := 0 } s m args below meth c H locs 0 0 Q (F0 m 32 ls []) := by
    intro n
    induction n with
    | zero =>
      intro z2630 z2631 z2632 z2633 z2634 z2635 z2636 F H locs ls hn rz2630 rz2631 rz2632 rz2633 rz2634 rz2635 rz2636 hT hfr qz2631 qz2632 qz2633 qz2634 qz2635 qz2636 hl
      exfalso
      omega
    | succ n ih32 =>
      intro z2630 z2631 z2632 z2633 z2634 z2635 z2636 F H locs ls hn rz2630 rz2631 rz2632 rz2633 rz2634 rz2635 rz2636 hT hfr qz2631 qz2632 qz2633 qz2634 qz2635 qz2636 hl
      refine lv_iload_n hx hb dX1_clear_32 rfl (lv_at hl 1 rfl) ?_
      refine lv_aload_n hx hb dX1_clear_33 rfl (lv_at hl 0 rfl) ?_
      refine t_get (C := RX1) (T := TX1) (N := 20) X hT m0 g0 rfl rfl 7 (by decide) qw_50 inlX1 rfl dX1_clear_34 (fun v2637 hv2637 ov2637 => ?_)
      obtain ⟨b2638, rfl, mb2638, gb2638⟩ := okV_r ov2637
      have gb2638 : tag b2638 = 2 := tg_of gb2638
      refine t_alen X hT mb2638 gb2638 rfl (by decide) dX1_clear_37 ?_
      refine lv_topi (fun z2639 ez2639 => ?_)
      obtain rfl : z2639 = 144 := ez2639.trans (by rfl)
      refine lv_icmp_ge (tgt := 54) hx hb dX1_clear_38 (by decide) (fun c2640 => ?_) (fun c2640 => ?_)
      · have w2641 := cv_le (by decide : (144 : Int32).toInt = 144) (rfl : z2630.toInt = z2630.toInt) c2640
        refine lv_iconst (v := 0) hx hb dX1_clear_54 (by decide) ?_
        refine lv_istore_n (lv' := [(1, .int 0), (0, .ref p0)]) hx hb dX1_clear_55 rfl hl (by decide) rfl (fun ls hl => ?_)
        have kk2642 : (0 : Int32).toInt = 0 := by decide
        exact K56 7 0 z2631 z2632 z2633 z2634 z2635 z2636 _ _ _ _ (by omega) (by decide) (by omega) (by omega) (by omega) (by omega) (by omega) (by omega) hT hfr qz2631 qz2632 qz2633 qz2634 qz2635 qz2636 (lv_sub hl [1, 0] rfl)
      · have w2643 := cv_nle (by decide : (144 : Int32).toInt = 144) (rfl : z2630.toInt = z2630.toInt) c2640
        refine lv_aload_n hx hb dX1_clear_41 rfl (lv_at hl 0 rfl) ?_
        refine t_get (C := RX1) (T := TX1) (N := 20) X hT m0 g0 rfl rfl 7 (by decide) qw_50 inlX1 rfl dX1_clear_42 (fun v2644 hv2644 ov2644 => ?_)
        obtain rfl : v2644 = .ref b2638 := hv2644.symm.trans hv2637
        refine lv_iload_n hx hb dX1_clear_45 rfl (lv_at hl 1 rfl) ?_
        refine lv_iconst (v := 0) hx hb dX1_clear_46 (by decide) ?_
        refine t_zst X hT mb2638 gb2638 rfl (by omega) (show 0 ≤ (vp_nar .boolean 0).toInt ∧ (vp_nar .boolean 0).toInt ≤ 1 from (by decide)) dX1_clear_47 (fun F H locs hT v2645 h1v2645 h2v2645 => ?_)
        have qz2631 := (h2v2645 _ _).trans qz2631
        have qz2632 := (h2v2645 _ _).trans qz2632
        have qz2633 := (h2v2645 _ _).trans qz2633
        have qz2634 := (h2v2645 _ _).trans qz2634
        have qz2635 := (h2v2645 _ _).trans qz2635
        have qz2636 := (h2v2645 _ _).trans qz2636
        have hv2637 := (h2v2645 _ _).trans hv2637
        have hfr : (∀ b j : Nat, (tag b ≠ 18 ∨ j ≠ 0) → (tag b ≠ 18 ∨ j ≠ 1) → (tag b ≠ 18 ∨ j ≠ 8) → (tag b ≠ 18 ∨ j ≠ 10) → (tag b ≠ 18 ∨ j ≠ 14) → (tag b ≠ 18 ∨ j ≠ 16) → fld F b j = fld Fo b j) ∧ EF tag F Fo := ⟨fun b j n18_0 n18_1 n18_8 n18_10 n18_14 n18_16 => (h2v2645 b j).trans (hfr.1 b j n18_0 n18_1 n18_8 n18_10 n18_14 n18_16), fun b j hb => (h1v2645 b j (Or.inl (ns_ne hb gb2638 (by decide)))).trans (hfr.2 b j hb)⟩
        obtain ⟨z2646, ez2646⟩ : ∃ y : Int32, y = z2630 + 1 := ⟨_, rfl⟩
        have hz2646 : z2646.toInt = z2630.toInt + 1 := ar_add ez2646 rfl (by decide : (1 : Int32).toInt = 1) (by omega) (by omega)
        refine lv_iinc (v := z2646) (lv' := [(1, .int z2646), (0, .ref p0)]) hx hb dX1_clear_48 hl (k := 1) rfl (by rw [ez2646]; rfl) (by decide) rfl (fun ls hl => ?_)
        refine lv_goto (tgt := 32) hx hb dX1_clear_51 (by decide) ?_
        exact ih32 z2646 z2631 z2632 z2633 z2634 z2635 z2636 _ _ _ _ (by omega) (by omega) (by omega) (by omega) (by omega) (by omega) (by omega) (by omega) hT hfr qz2631 qz2632 qz2633 qz2634 qz2635 qz2636 (lv_sub hl [1, 0] rfl)
  refine lv_aload_n hx hb dX1_clear_0 rfl (lv_at hl 0 rfl) ?_
  refine lv_iconst (v := 0) hx hb dX1_clear_1 (by decide) ?_
  refine t_put (C := RX1) (T := TX1) (N := 20) (v := .int 0) X hT m0 g0 rfl tyX1 tyX1_ok nmX1 rfl 0 (by decide) qw_177 inlX1 rfl (by first | rfl | decide) (by first | rfl | decide) rfl (⟨_, rfl, (show 0 ≤ (0 : Int32).toInt from (by decide)), (show (0 : Int32).toInt ≤ 12 from (by decide))⟩) dX1_clear_2 (fun F H locs hT v2647 h1v2647 h2v2647 => ?_)
  have hfr : (∀ b j : Nat, (tag b ≠ 18 ∨ j ≠ 0) → (tag b ≠ 18 ∨ j ≠ 1) → (tag b ≠ 18 ∨ j ≠ 8) → (tag b ≠ 18 ∨ j ≠ 10) → (tag b ≠ 18 ∨ j ≠ 14) → (tag b ≠ 18 ∨ j ≠ 16) → fld F b j = fld Fo b j) ∧ EF tag F Fo := ⟨fun b j n18_0 n18_1 n18_8 n18_10 n18_14 n18_16 => (h1v2647 b j (fr_ne g0 n18_0)).trans (hfr.1 b j n18_0 n18_1 n18_8 n18_10 n18_14 n18_16), fun b j hb => (h2v2647 b j).trans (hfr.2 b j hb)⟩
  refine lv_aload_n hx hb dX1_clear_5 rfl (lv_at hl 0 rfl) ?_
  refine lv_iconst (v := 0) hx hb dX1_clear_6 (by decide) ?_
  refine t_put (C := RX1) (T := TX1) (N := 20) (v := .int 0) X hT m0 g0 rfl tyX1 tyX1_ok nmX1 rfl 1 (by decide) qw_178 inlX1 rfl (by first | rfl | decide) (by first | rfl | decide) rfl (⟨_, rfl, (show 0 ≤ (0 : Int32).toInt from (by decide)), (show (0 : Int32).toInt ≤ 12 from (by decide))⟩) dX1_clear_7 (fun F H locs hT v2648 h1v2648 h2v2648 => ?_)
  have v2647 := (h1v2648 _ _ (Or.inr (by decide))).trans v2647
  have hfr : (∀ b j : Nat, (tag b ≠ 18 ∨ j ≠ 0) → (tag b ≠ 18 ∨ j ≠ 1) → (tag b ≠ 18 ∨ j ≠ 8) → (tag b ≠ 18 ∨ j ≠ 10) → (tag b ≠ 18 ∨ j ≠ 14) → (tag b ≠ 18 ∨ j ≠ 16) → fld F b j = fld Fo b j) ∧ EF tag F Fo := ⟨fun b j n18_0 n18_1 n18_8 n18_10 n18_14 n18_16 => (h1v2648 b j (fr_ne g0 n18_1)).trans (hfr.1 b j n18_0 n18_1 n18_8 n18_10 n18_14 n18_16), fun b j hb => (h2v2648 b j).trans (hfr.2 b j hb)⟩
  refine lv_aload_n hx hb dX1_clear_10 rfl (lv_at hl 0 rfl) ?_
  refine lv_iconst (v := 0) hx hb dX1_clear_11 (by decide) ?_
  refine t_put (C := RX1) (T := TX1) (N := 20) (v := .int 0) X hT m0 g0 rfl tyX1 tyX1_ok nmX1 rfl 8 (by decide) qw_179 inlX1 rfl (by first | rfl | decide) (by first | rfl | decide) rfl (⟨_, rfl, (show (-2147483648) ≤ (0 : Int32).toInt from (by decide)), (show (0 : Int32).toInt ≤ 2147483647 from (by decide))⟩) dX1_clear_12 (fun F H locs hT v2649 h1v2649 h2v2649 => ?_)
  have v2647 := (h1v2649 _ _ (Or.inr (by decide))).trans v2647
  have v2648 := (h1v2649 _ _ (Or.inr (by decide))).trans v2648
  have hfr : (∀ b j : Nat, (tag b ≠ 18 ∨ j ≠ 0) → (tag b ≠ 18 ∨ j ≠ 1) → (tag b ≠ 18 ∨ j ≠ 8) → (tag b ≠ 18 ∨ j ≠ 10) → (tag b ≠ 18 ∨ j ≠ 14) → (tag b ≠ 18 ∨ j ≠ 16) → fld F b j = fld Fo b j) ∧ EF tag F Fo := ⟨fun b j n18_0 n18_1 n18_8 n18_10 n18_14 n18_16 => (h1v2649 b j (fr_ne g0 n18_8)).trans (hfr.1 b j n18_0 n18_1 n18_8 n18_10 n18_14 n18_16), fun b j hb => (h2v2649 b j).trans (hfr.2 b j hb)⟩
  refine lv_aload_n hx hb dX1_clear_15 rfl (lv_at hl 0 rfl) ?_
  refine lv_iconst (v := 0) hx hb dX1_clear_16 (by decide) ?_
  refine t_put (C := RX1) (T := TX1) (N := 20) (v := .int 0) X hT m0 g0 rfl tyX1 tyX1_ok nmX1 rfl 10 (by decide) qw_180 inlX1 rfl (by first | rfl | decide) (by first | rfl | decide) rfl (⟨_, rfl, (show 0 ≤ (0 : Int32).toInt from (by decide)), (show (0 : Int32).toInt ≤ 4 from (by decide))⟩) dX1_clear_17 (fun F H locs hT v2650 h1v2650 h2v2650 => ?_)
  have v2647 := (h1v2650 _ _ (Or.inr (by decide))).trans v2647
  have v2648 := (h1v2650 _ _ (Or.inr (by decide))).trans v2648
  have v2649 := (h1v2650 _ _ (Or.inr (by decide))).trans v2649
  have hfr : (∀ b j : Nat, (tag b ≠ 18 ∨ j ≠ 0) → (tag b ≠ 18 ∨ j ≠ 1) → (tag b ≠ 18 ∨ j ≠ 8) → (tag b ≠ 18 ∨ j ≠ 10) → (tag b ≠ 18 ∨ j ≠ 14) → (tag b ≠ 18 ∨ j ≠ 16) → fld F b j = fld Fo b j) ∧ EF tag F Fo := ⟨fun b j n18_0 n18_1 n18_8 n18_10 n18_14 n18_16 => (h1v2650 b j (fr_ne g0 n18_10)).trans (hfr.1 b j n18_0 n18_1 n18_8 n18_10 n18_14 n18_16), fun b j hb => (h2v2650 b j).trans (hfr.2 b j hb)⟩
  refine lv_aload_n hx hb dX1_clear_20 rfl (lv_at hl 0 rfl) ?_
  refine lv_iconst (v := 0) hx hb dX1_clear_21 (by decide) ?_
  refine t_put (C := RX1) (T := TX1) (N := 20) (v := .int 0) X hT m0 g0 rfl tyX1 tyX1_ok nmX1 rfl 14 (by decide) qw_181 inlX1 rfl (by first | rfl | decide) (by first | rfl | decide) rfl (⟨_, rfl, (show 0 ≤ (0 : Int32).toInt from (by decide)), (show (0 : Int32).toInt ≤ 6 from (by decide))⟩) dX1_clear_22 (fun F H locs hT v2651 h1v2651 h2v2651 => ?_)
  have v2647 := (h1v2651 _ _ (Or.inr (by decide))).trans v2647
  have v2648 := (h1v2651 _ _ (Or.inr (by decide))).trans v2648
  have v2649 := (h1v2651 _ _ (Or.inr (by decide))).trans v2649
  have v2650 := (h1v2651 _ _ (Or.inr (by decide))).trans v2650
  have hfr : (∀ b j : Nat, (tag b ≠ 18 ∨ j ≠ 0) → (tag b ≠ 18 ∨ j ≠ 1) → (tag b ≠ 18 ∨ j ≠ 8) → (tag b ≠ 18 ∨ j ≠ 10) → (tag b ≠ 18 ∨ j ≠ 14) → (tag b ≠ 18 ∨ j ≠ 16) → fld F b j = fld Fo b j) ∧ EF tag F Fo := ⟨fun b j n18_0 n18_1 n18_8 n18_10 n18_14 n18_16 => (h1v2651 b j (fr_ne g0 n18_14)).trans (hfr.1 b j n18_0 n18_1 n18_8 n18_10 n18_14 n18_16), fun b j hb => (h2v2651 b j).trans (hfr.2 b j hb)⟩
  refine lv_aload_n hx hb dX1_clear_25 rfl (lv_at hl 0 rfl) ?_
  refine lv_iconst (v := 0) hx hb dX1_clear_26 (by decide) ?_
  refine t_put (C := RX1) (T := TX1) (N := 20) (v := .int 0) X hT m0 g0 rfl tyX1 tyX1_ok nmX1 rfl 16 (by decide) qw_182 inlX1 rfl (by first | rfl | decide) (by first | rfl | decide) rfl (⟨_, rfl, (show 0 ≤ (0 : Int32).toInt from (by decide)), (show (0 : Int32).toInt ≤ 6 from (by decide))⟩) dX1_clear_27 (fun F H locs hT v2652 h1v2652 h2v2652 => ?_)
  have v2647 := (h1v2652 _ _ (Or.inr (by decide))).trans v2647
  have v2648 := (h1v2652 _ _ (Or.inr (by decide))).trans v2648
  have v2649 := (h1v2652 _ _ (Or.inr (by decide))).trans v2649
  have v2650 := (h1v2652 _ _ (Or.inr (by decide))).trans v2650
  have v2651 := (h1v2652 _ _ (Or.inr (by decide))).trans v2651
  have hfr : (∀ b j : Nat, (tag b ≠ 18 ∨ j ≠ 0) → (tag b ≠ 18 ∨ j ≠ 1) → (tag b ≠ 18 ∨ j ≠ 8) → (tag b ≠ 18 ∨ j ≠ 10) → (tag b ≠ 18 ∨ j ≠ 14) → (tag b ≠ 18 ∨ j ≠ 16) → fld F b j = fld Fo b j) ∧ EF tag F Fo := ⟨fun b j n18_0 n18_1 n18_8 n18_10 n18_14 n18_16 => (h1v2652 b j (fr_ne g0 n18_16)).trans (hfr.1 b j n18_0 n18_1 n18_8 n18_10 n18_14 n18_16), fun b j hb => (h2v2652 b j).trans (hfr.2 b j hb)⟩
  refine lv_iconst (v := 0) hx hb dX1_clear_30 (by decide) ?_
  refine lv_istore_n (lv' := [(1, .int 0), (0, .ref p0)]) hx hb dX1_clear_31 rfl hl (by decide) rfl (fun ls hl => ?_)
  have kk2653 : (0 : Int32).toInt = 0 := by decide
  exact K32 145 0 0 0 0 0 0 0 _ _ _ _ (by omega) (by decide) (by decide) (by decide) (by decide) (by decide) (by decide) (by decide) hT hfr v2647 v2648 v2649 v2650 v2651 v2652 (lv_sub hl [1, 0] rfl)
