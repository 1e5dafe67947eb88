set_option maxHeartbeats 4000000 in
set_option maxRecDepth 100000 in
theorem kt294_X4_eastOf (l : Launch) (G : KG) (tag : Nat → Nat) (L : List Nat) (F : Nat → va_E) (ho : okT G ttC tag L F) (p0 : Int32) (p1 : Int32)  : TMi l yX4_eastOf cX4_eastOf 3 (some .int) { frames := 0, cells := 0, slots := 0, locals := 0 } G ttC tag L F [.int p0, .int p1] (fun r F1 => F1 = F ∧ ((-2147483648) ≤ r.toInt ∧ r.toInt ≤ 2147483647)) := by
  refine t_bodyi (y := yX4_eastOf) (cd := cX4_eastOf) (mL := 3) (rt := (some .int)) (rm := { frames := 0, cells := 0, slots := 0, locals := 0 }) (av := [.int p0, .int p1]) (by decide) (Nat.le_of_ble_eq_true rfl) ho ?_
  intro p e s m args below meth c ls A Q hQ X hT hl
  have hx := X.1.1
  have hb := X.1.2.1
  have hl : lv_has ls 3 [(0, .int p0), (1, .int p1)] := hl
  have rp0 := rg_all p0
  have rp1 := rg_all p1
  refine lv_iload_n hx hb dX4_eastOf_0 rfl (lv_at hl 0 rfl) ?_
  refine lv_iconst (v := 1) hx hb dX4_eastOf_1 (by decide) ?_
  refine lv_icmp_ge (tgt := 7) hx hb dX4_eastOf_2 (by decide) (fun c86198 => ?_) (fun c86198 => ?_)
  · have w86199 := cv_le (by decide : (1 : Int32).toInt = 1) (rfl : p0.toInt = p0.toInt) c86198
    refine lv_iload_n hx hb dX4_eastOf_7 rfl (lv_at hl 1 rfl) ?_
    refine lv_iconst (v := 2) hx hb dX4_eastOf_8 (by decide) ?_
    refine lv_iload_n hx hb dX4_eastOf_9 rfl (lv_at hl 0 rfl) ?_
    refine lv_imul hx hb dX4_eastOf_10 ?_
    refine lv_topi (fun z86200 ez86200 => ?_)
    have rz86200 := rg_all z86200
    refine lv_irem hx hb dX4_eastOf_11 (mul2_ne ez86200 (by omega)) ?_
    refine lv_topi (fun z86201 ez86201 => ?_)
    have rz86201 := rg_all z86201
    refine lv_istore_n (lv' := [(2, .int z86201), (0, .int p0), (1, .int p1)]) hx hb dX4_eastOf_12 rfl hl (by decide) rfl (fun ls hl => ?_)
    refine lv_iload_n hx hb dX4_eastOf_13 rfl (lv_at hl 2 rfl) ?_
    refine lv_iconst (v := 2) hx hb dX4_eastOf_14 (by decide) ?_
    refine lv_iload_n hx hb dX4_eastOf_15 rfl (lv_at hl 1 rfl) ?_
    refine lv_imul hx hb dX4_eastOf_16 ?_
    refine lv_topi (fun z86202 ez86202 => ?_)
    have rz86202 := rg_all z86202
    refine lv_idiv hx hb dX4_eastOf_17 (mul2_ne ez86202 (by omega)) ?_
    refine lv_topi (fun z86203 ez86203 => ?_)
    have rz86203 := rg_all z86203
    by_cases c86204 : z86203 = 0
    · have w86205 := cv_eq (rfl : z86203.toInt = z86203.toInt) (by decide : (0 : Int32).toInt = 0) c86204
      refine lv_tableIn (off := 26) (tgt := 44) hx hb dX4_eastOf_18 (by rw [c86204]; decide) (by rw [c86204]; decide) (by rw [c86204]; decide) (by decide) ?_
      refine lv_iload_n hx hb dX4_eastOf_44 rfl (lv_at hl 0 rfl) ?_
      refine lv_iload_n hx hb dX4_eastOf_45 rfl (lv_at hl 1 rfl) ?_
      refine lv_isub hx hb dX4_eastOf_46 ?_
      refine lv_topi (fun z86206 ez86206 => ?_)
      have rz86206 := rg_all z86206
      exact t_iret hQ X hT (⟨rfl, rg_all _⟩) (Nat.le_of_ble_eq_true rfl) (Nat.le_of_ble_eq_true rfl) dX4_eastOf_47
    have w86207 := cv_ne (rfl : z86203.toInt = z86203.toInt) (by decide : (0 : Int32).toInt = 0) c86204
    by_cases c86208 : z86203 = 1
    · have w86209 := cv_eq (rfl : z86203.toInt = z86203.toInt) (by decide : (1 : Int32).toInt = 1) c86208
      refine lv_tableIn (off := 30) (tgt := 48) hx hb dX4_eastOf_18 (by rw [c86208]; decide) (by rw [c86208]; decide) (by rw [c86208]; decide) (by decide) ?_
      refine lv_iload_n hx hb dX4_eastOf_48 rfl (lv_at hl 1 rfl) ?_
      exact t_iret hQ X hT (⟨rfl, rg_all _⟩) (Nat.le_of_ble_eq_true rfl) (Nat.le_of_ble_eq_true rfl) dX4_eastOf_49
    have w86210 := cv_ne (rfl : z86203.toInt = z86203.toInt) (by decide : (1 : Int32).toInt = 1) c86208
    by_cases c86211 : z86203 = 2
    · have w86212 := cv_eq (rfl : z86203.toInt = z86203.toInt) (by decide : (2 : Int32).toInt = 2) c86211
      refine lv_tableIn (off := 32) (tgt := 50) hx hb dX4_eastOf_18 (by rw [c86211]; decide) (by rw [c86211]; decide) (by rw [c86211]; decide) (by decide) ?_
      refine lv_iload_n hx hb dX4_eastOf_50 rfl (lv_at hl 1 rfl) ?_
      refine lv_iload_n hx hb dX4_eastOf_51 rfl (lv_at hl 0 rfl) ?_
      refine lv_isub hx hb dX4_eastOf_52 ?_
      refine lv_topi (fun z86213 ez86213 => ?_)
      have rz86213 := rg_all z86213
      exact t_iret hQ X hT (⟨rfl, rg_all _⟩) (Nat.le_of_ble_eq_true rfl) (Nat.le_of_ble_eq_true rfl) dX4_eastOf_53
    have w86214 := cv_ne (rfl : z86203.toInt = z86203.toInt) (by decide : (2 : Int32).toInt = 2) c86211
    refine lv_tableOut (tgt := 54) hx hb dX4_eastOf_18 (by omega) (by decide) ?_
    refine lv_iload_n hx hb dX4_eastOf_54 rfl (lv_at hl 1 rfl) ?_
    refine lv_ineg hx hb dX4_eastOf_55 ?_
    refine lv_topi (fun z86215 ez86215 => ?_)
    have hz86215 : z86215.toInt = - p0.toInt := ar_neg ez86215 (rfl : p0.toInt = p0.toInt) (by omega)
    exact t_iret hQ X hT (⟨rfl, rg_all _⟩) (Nat.le_of_ble_eq_true rfl) (Nat.le_of_ble_eq_true rfl) dX4_eastOf_56
  · have w86216 := cv_nle (by decide : (1 : Int32).toInt = 1) (rfl : p0.toInt = p0.toInt) c86198
    refine lv_iconst (v := 0) hx hb dX4_eastOf_5 (by decide) ?_
    exact t_iret hQ X hT (⟨rfl, rg_all _⟩) (Nat.le_of_ble_eq_true rfl) (Nat.le_of_ble_eq_true rfl) dX4_eastOf_6
set_option maxHeartbeats 4000000 in
set_option maxRecDepth 100000 in
theorem kt295_X4_southOf (l : Launch) (G : KG) (tag : Nat → Nat) (L : List Nat) (F : Nat → va_E) (ho : okT G ttC tag L F) (p0 : Int32) (p1 : Int32)  : TMi l yX4_southOf cX4_southOf 3 (some .int) { frames := 0, cells := 0, slots := 0, locals := 0 } G ttC tag L F [.int p0, .int p1] (fun r F1 => F1 = F ∧ ((-2147483648) ≤ r.toInt ∧ r.toInt ≤ 2147483647)) := by
  refine t_bodyi (y := yX4_southOf) (cd := cX4_southOf) (mL := 3) (rt := (some .int)) (rm := { frames := 0, cells := 0, slots := 0, locals := 0 }) (av := [.int p0, .int p1]) (by decide) (Nat.le_of_ble_eq_true rfl) ho ?_
  intro p e s m args below meth c ls A Q hQ X hT hl
  have hx := X.1.1
  have hb := X.1.2.1
  have hl : lv_has ls 3 [(0, .int p0), (1, .int p1)] := hl
  have rp0 := rg_all p0
  have rp1 := rg_all p1
  refine lv_iload_n hx hb dX4_southOf_0 rfl (lv_at hl 0 rfl) ?_
  refine lv_iconst (v := 1) hx hb dX4_southOf_1 (by decide) ?_
  refine lv_icmp_ge (tgt := 7) hx hb dX4_southOf_2 (by decide) (fun c86426 => ?_) (fun c86426 => ?_)
  · have w86427 := cv_le (by decide : (1 : Int32).toInt = 1) (rfl : p0.toInt = p0.toInt) c86426
    refine lv_iload_n hx hb dX4_southOf_7 rfl (lv_at hl 1 rfl) ?_
    refine lv_iconst (v := 2) hx hb dX4_southOf_8 (by decide) ?_
    refine lv_iload_n hx hb dX4_southOf_9 rfl (lv_at hl 0 rfl) ?_
    refine lv_imul hx hb dX4_southOf_10 ?_
    refine lv_topi (fun z86428 ez86428 => ?_)
    have rz86428 := rg_all z86428
    refine lv_irem hx hb dX4_southOf_11 (mul2_ne ez86428 (by omega)) ?_
    refine lv_topi (fun z86429 ez86429 => ?_)
    have rz86429 := rg_all z86429
    refine lv_istore_n (lv' := [(2, .int z86429), (0, .int p0), (1, .int p1)]) hx hb dX4_southOf_12 rfl hl (by decide) rfl (fun ls hl => ?_)
    refine lv_iload_n hx hb dX4_southOf_13 rfl (lv_at hl 2 rfl) ?_
    refine lv_iconst (v := 2) hx hb dX4_southOf_14 (by decide) ?_
    refine lv_iload_n hx hb dX4_southOf_15 rfl (lv_at hl 1 rfl) ?_
    refine lv_imul hx hb dX4_southOf_16 ?_
    refine lv_topi (fun z86430 ez86430 => ?_)
    have rz86430 := rg_all z86430
    refine lv_idiv hx hb dX4_southOf_17 (mul2_ne ez86430 (by omega)) ?_
    refine lv_topi (fun z86431 ez86431 => ?_)
    have rz86431 := rg_all z86431
    by_cases c86432 : z86431 = 0
    · have w86433 := cv_eq (rfl : z86431.toInt = z86431.toInt) (by decide : (0 : Int32).toInt = 0) c86432
      refine lv_tableIn (off := 26) (tgt := 44) hx hb dX4_southOf_18 (by rw [c86432]; decide) (by rw [c86432]; decide) (by rw [c86432]; decide) (by decide) ?_
      refine lv_iload_n hx hb dX4_southOf_44 rfl (lv_at hl 1 rfl) ?_
      refine lv_ineg hx hb dX4_southOf_45 ?_
      refine lv_topi (fun z86434 ez86434 => ?_)
      have hz86434 : z86434.toInt = - p0.toInt := ar_neg ez86434 (rfl : p0.toInt = p0.toInt) (by omega)
      exact t_iret hQ X hT (⟨rfl, rg_all _⟩) (Nat.le_of_ble_eq_true rfl) (Nat.le_of_ble_eq_true rfl) dX4_southOf_46
    have w86435 := cv_ne (rfl : z86431.toInt = z86431.toInt) (by decide : (0 : Int32).toInt = 0) c86432
    by_cases c86436 : z86431 = 1
    · have w86437 := cv_eq (rfl : z86431.toInt = z86431.toInt) (by decide : (1 : Int32).toInt = 1) c86436
      refine lv_tableIn (off := 29) (tgt := 47) hx hb dX4_southOf_18 (by rw [c86436]; decide) (by rw [c86436]; decide) (by rw [c86436]; decide) (by decide) ?_
      refine lv_iload_n hx hb dX4_southOf_47 rfl (lv_at hl 0 rfl) ?_
      refine lv_iload_n hx hb dX4_southOf_48 rfl (lv_at hl 1 rfl) ?_
      refine lv_isub hx hb dX4_southOf_49 ?_
      refine lv_topi (fun z86438 ez86438 => ?_)
      have rz86438 := rg_all z86438
      exact t_iret hQ X hT (⟨rfl, rg_all _⟩) (Nat.le_of_ble_eq_true rfl) (Nat.le_of_ble_eq_true rfl) dX4_southOf_50
    have w86439 := cv_ne (rfl : z86431.toInt = z86431.toInt) (by decide : (1 : Int32).toInt = 1) c86436
    by_cases c86440 : z86431 = 2
    · have w86441 := cv_eq (rfl : z86431.toInt = z86431.toInt) (by decide : (2 : Int32).toInt = 2) c86440
      refine lv_tableIn (off := 33) (tgt := 51) hx hb dX4_southOf_18 (by rw [c86440]; decide) (by rw [c86440]; decide) (by rw [c86440]; decide) (by decide) ?_
      refine lv_iload_n hx hb dX4_southOf_51 rfl (lv_at hl 1 rfl) ?_
      exact t_iret hQ X hT (⟨rfl, rg_all _⟩) (Nat.le_of_ble_eq_true rfl) (Nat.le_of_ble_eq_true rfl) dX4_southOf_52
    have w86442 := cv_ne (rfl : z86431.toInt = z86431.toInt) (by decide : (2 : Int32).toInt = 2) c86440
    refine lv_tableOut (tgt := 53) hx hb dX4_southOf_18 (by omega) (by decide) ?_
    refine lv_iload_n hx hb dX4_southOf_53 rfl (lv_at hl 1 rfl) ?_
    refine lv_iload_n hx hb dX4_southOf_54 rfl (lv_at hl 0 rfl) ?_
    refine lv_isub hx hb dX4_southOf_55 ?_
    refine lv_topi (fun z86443 ez86443 => ?_)
    have rz86443 := rg_all z86443
    exact t_iret hQ X hT (⟨rfl, rg_all _⟩) (Nat.le_of_ble_eq_true rfl) (Nat.le_of_ble_eq_true rfl) dX4_southOf_56
  · have w86444 := cv_nle (by decide : (1 : Int32).toInt = 1) (rfl : p0.toInt = p0.toInt) c86426
    refine lv_iconst (v := 0) hx hb dX4_southOf_5 (by decide) ?_
    exact t_iret hQ X hT (⟨rfl, rg_all _⟩) (Nat.le_of_ble_eq_true rfl) (Nat.le_of_ble_eq_true rfl) dX4_southOf_6
set_option maxHeartbeats 4000000 in
set_option maxRecDepth 100000 in
theorem kt296_X4_doorPlace (l : Launch) (G : KG) (tag : Nat → Nat) (L : List Nat) (F : Nat → va_E) (ho : okT G ttC tag L F) (p0 : Int32) (p1 : Int32) (p2 : Int32)  : TMi l yX4_doorPlace cX4_doorPlace 3 (some .int) { frames := 0, cells := 0, slots := 0, locals := 0 } G ttC tag L F [.int p0, .int p1, .int p2] (fun r F1 => F1 = F ∧ ((-2147483648) ≤ r.toInt ∧ r.toInt ≤ 2147483647)) := by
  refine t_bodyi (y := yX4_doorPlace) (cd := cX4_doorPlace) (mL := 3) (rt := (some .int)) (rm := { frames := 0, cells := 0, slots := 0, locals := 0 }) (av := [.int p0, .int p1, .int p2]) (by decide) (Nat.le_of_ble_eq_true rfl) ho ?_
  intro p e s m args below meth c ls A Q hQ X hT hl
  have hx := X.1.1
  have hb := X.1.2.1
  have hl : lv_has ls 3 [(0, .int p0), (1, .int p1), (2, .int p2)] := hl
  have rp0 := rg_all p0
  have rp1 := rg_all p1
  have rp2 := rg_all p2
  refine lv_iload_n hx hb dX4_doorPlace_0 rfl (lv_at hl 1 rfl) ?_
  by_cases c86654 : p1 = 0
  · have w86655 := cv_eq (rfl : p1.toInt = p1.toInt) (by decide : (0 : Int32).toInt = 0) c86654
    refine lv_tableIn (off := 27) (tgt := 28) hx hb dX4_doorPlace_1 (by rw [c86654]; decide) (by rw [c86654]; decide) (by rw [c86654]; decide) (by decide) ?_
    refine lv_iconst (v := 1) hx hb dX4_doorPlace_28 (by decide) ?_
    refine lv_iload_n hx hb dX4_doorPlace_29 rfl (lv_at hl 2 rfl) ?_
    refine lv_iadd hx hb dX4_doorPlace_30 ?_
    refine lv_topi (fun z86656 ez86656 => ?_)
    have rz86656 := rg_all z86656
    exact t_iret hQ X hT (⟨rfl, rg_all _⟩) (Nat.le_of_ble_eq_true rfl) (Nat.le_of_ble_eq_true rfl) dX4_doorPlace_31
  have w86657 := cv_ne (rfl : p1.toInt = p1.toInt) (by decide : (0 : Int32).toInt = 0) c86654
  by_cases c86658 : p1 = 1
  · have w86659 := cv_eq (rfl : p1.toInt = p1.toInt) (by decide : (1 : Int32).toInt = 1) c86658
    refine lv_tableIn (off := 31) (tgt := 32) hx hb dX4_doorPlace_1 (by rw [c86658]; decide) (by rw [c86658]; decide) (by rw [c86658]; decide) (by decide) ?_
    refine lv_iconst (v := 2) hx hb dX4_doorPlace_32 (by decide) ?_
    refine lv_iload_n hx hb dX4_doorPlace_33 rfl (lv_at hl 0 rfl) ?_
    refine lv_imul hx hb dX4_doorPlace_34 ?_
    refine lv_topi (fun z86660 ez86660 => ?_)
    have rz86660 := rg_all z86660
    refine lv_iconst (v := 1) hx hb dX4_doorPlace_35 (by decide) ?_
    refine lv_iadd hx hb dX4_doorPlace_36 ?_
    refine lv_topi (fun z86661 ez86661 => ?_)
    have rz86661 := rg_all z86661
    refine lv_iload_n hx hb dX4_doorPlace_37 rfl (lv_at hl 2 rfl) ?_
    refine lv_iadd hx hb dX4_doorPlace_38 ?_
    refine lv_topi (fun z86662 ez86662 => ?_)
    have rz86662 := rg_all z86662
    exact t_iret hQ X hT (⟨rfl, rg_all _⟩) (Nat.le_of_ble_eq_true rfl) (Nat.le_of_ble_eq_true rfl) dX4_doorPlace_39
  have w86663 := cv_ne (rfl : p1.toInt = p1.toInt) (by decide : (1 : Int32).toInt = 1) c86658
  by_cases c86664 : p1 = 2
  · have w86665 := cv_eq (rfl : p1.toInt = p1.toInt) (by decide : (2 : Int32).toInt = 2) c86664
    refine lv_tableIn (off := 39) (tgt := 40) hx hb dX4_doorPlace_1 (by rw [c86664]; decide) (by rw [c86664]; decide) (by rw [c86664]; decide) (by decide) ?_
    refine lv_bipush (v := 6) hx hb dX4_doorPlace_40 (by decide) ?_
    refine lv_iload_n hx hb dX4_doorPlace_42 rfl (lv_at hl 0 rfl) ?_
    refine lv_imul hx hb dX4_doorPlace_43 ?_
    refine lv_topi (fun z86666 ez86666 => ?_)
    have rz86666 := rg_all z86666
    refine lv_iconst (v := 1) hx hb dX4_doorPlace_44 (by decide) ?_
    refine lv_isub hx hb dX4_doorPlace_45 ?_
    refine lv_topi (fun z86667 ez86667 => ?_)
    have rz86667 := rg_all z86667
    refine lv_iload_n hx hb dX4_doorPlace_46 rfl (lv_at hl 2 rfl) ?_
    refine lv_isub hx hb dX4_doorPlace_47 ?_
    refine lv_topi (fun z86668 ez86668 => ?_)
    have rz86668 := rg_all z86668
    exact t_iret hQ X hT (⟨rfl, rg_all _⟩) (Nat.le_of_ble_eq_true rfl) (Nat.le_of_ble_eq_true rfl) dX4_doorPlace_48
  have w86669 := cv_ne (rfl : p1.toInt = p1.toInt) (by decide : (2 : Int32).toInt = 2) c86664
  refine lv_tableOut (tgt := 49) hx hb dX4_doorPlace_1 (by omega) (by decide) ?_
  refine lv_bipush (v := 8) hx hb dX4_doorPlace_49 (by decide) ?_
  refine lv_iload_n hx hb dX4_doorPlace_51 rfl (lv_at hl 0 rfl) ?_
  refine lv_imul hx hb dX4_doorPlace_52 ?_
  refine lv_topi (fun z86670 ez86670 => ?_)
  have rz86670 := rg_all z86670
  refine lv_iconst (v := 1) hx hb dX4_doorPlace_53 (by decide) ?_
  refine lv_isub hx hb dX4_doorPlace_54 ?_
  refine lv_topi (fun z86671 ez86671 => ?_)
  have rz86671 := rg_all z86671
  refine lv_iload_n hx hb dX4_doorPlace_55 rfl (lv_at hl 2 rfl) ?_
  refine lv_isub hx hb dX4_doorPlace_56 ?_
  refine lv_topi (fun z86672 ez86672 => ?_)
  have rz86672 := rg_all z86672
  exact t_iret hQ X hT (⟨rfl, rg_all _⟩) (Nat.le_of_ble_eq_true rfl) (Nat.le_of_ble_eq_true rfl) dX4_doorPlace_57
set_option maxHeartbeats 4000000 in
set_option maxRecDepth 100000 in
theorem kt297_X4_isCorner (l : Launch) (G : KG) (tag : Nat → Nat) (L : List Nat) (F : Nat → va_E) (ho : okT G ttC tag L F) (p0 : Int32) (p1 : Int32)  : TMi l yX4_isCorner cX4_isCorner 2 (some .boolean) { frames := 0, cells := 0, slots := 0, locals := 0 } G ttC tag L F [.int p0, .int p1] (fun r F1 => F1 = F ∧ (0 ≤ r.toInt ∧ r.toInt ≤ 1)) := by
  refine t_bodyi (y := yX4_isCorner) (cd := cX4_isCorner) (mL := 2) (rt := (some .boolean)) (rm := { frames := 0, cells := 0, slots := 0, locals := 0 }) (av := [.int p0, .int p1]) (by decide) (Nat.le_of_ble_eq_true rfl) ho ?_
  intro p e s m args below meth c ls A Q hQ X hT hl
  have hx := X.1.1
  have hb := X.1.2.1
  have hl : lv_has ls 2 [(0, .int p0), (1, .int p1)] := hl
  have rp0 := rg_all p0
  have rp1 := rg_all p1
  have K13 : ∀  (H : Heap) (locs : List Loc) (ls : Array Slot), TH G ttC A s tag L F H locs → lv_has ls 2 [(0, .int p0), (1, .int p1)] → W p l e { frames := 0, cells := 0, slots := 0, locals := 0 } s m args below meth c H locs 0 0 Q (F0 m 13 ls []) := by
    intro H locs ls hT hl
    refine lv_iconst (v := 1) hx hb dX4_isCorner_13 (by decide) ?_
    refine lv_goto (tgt := 18) hx hb dX4_isCorner_14 (by decide) ?_
    exact t_zret hQ X hT (by decide) (⟨rfl, (by decide)⟩) (Nat.le_of_ble_eq_true rfl) (Nat.le_of_ble_eq_true rfl) dX4_isCorner_18
  refine lv_iload_n hx hb dX4_isCorner_0 rfl (lv_at hl 0 rfl) ?_
  refine lv_iconst (v := 1) hx hb dX4_isCorner_1 (by decide) ?_
  refine lv_icmp_lt (tgt := 13) hx hb dX4_isCorner_2 (by decide) (fun c86761 => ?_) (fun c86761 => ?_)
  · have w86762 := cv_lt (rfl : p0.toInt = p0.toInt) (by decide : (1 : Int32).toInt = 1) c86761
    exact K13  _ _ _  hT  (lv_sub hl [0, 1] rfl)
  · have w86763 := cv_nlt (rfl : p0.toInt = p0.toInt) (by decide : (1 : Int32).toInt = 1) c86761
    refine lv_iload_n hx hb dX4_isCorner_5 rfl (lv_at hl 1 rfl) ?_
    refine lv_iconst (v := 2) hx hb dX4_isCorner_6 (by decide) ?_
    refine lv_iload_n hx hb dX4_isCorner_7 rfl (lv_at hl 0 rfl) ?_
    refine lv_imul hx hb dX4_isCorner_8 ?_
    refine lv_topi (fun z86764 ez86764 => ?_)
    have rz86764 := rg_all z86764
    refine lv_irem hx hb dX4_isCorner_9 (mul2_ne ez86764 (by omega)) ?_
    refine lv_topi (fun z86765 ez86765 => ?_)
    have rz86765 := rg_all z86765
    refine lv_if_ne (tgt := 17) hx hb dX4_isCorner_10 (by decide) (fun c86766 => ?_) (fun c86766 => ?_)
    · have w86767 := cv_ne (rfl : z86765.toInt = z86765.toInt) (by decide : (0 : Int32).toInt = 0) c86766
      refine lv_iconst (v := 0) hx hb dX4_isCorner_17 (by decide) ?_
      exact t_zret hQ X hT (by decide) (⟨rfl, (by decide)⟩) (Nat.le_of_ble_eq_true rfl) (Nat.le_of_ble_eq_true rfl) dX4_isCorner_18
    · have w86768 := cv_eq (rfl : z86765.toInt = z86765.toInt) (by decide : (0 : Int32).toInt = 0) c86766
      exact K13  _ _ _  hT  (lv_sub hl [0, 1] rfl)
set_option maxHeartbeats 4000000 in
set_option maxRecDepth 100000 in
theorem kt298_X4_inFront (l : Launch) (G : KG) (tag : Nat → Nat) (L : List Nat) (F : Nat → va_E) (ho : okT G ttC tag L F) (p0 : Int32) (p1 : Int32)  : TMi l yX4_inFront cX4_inFront 4 (some .int) { frames := 0, cells := 0, slots := 0, locals := 0 } G ttC tag L F [.int p0, .int p1] (fun r F1 => F1 = F ∧ ((-2147483648) ≤ r.toInt ∧ r.toInt ≤ 2147483647)) := by
  refine t_bodyi (y := yX4_inFront) (cd := cX4_inFront) (mL := 4) (rt := (some .int)) (rm := { frames := 0, cells := 0, slots := 0, locals := 0 }) (av := [.int p0, .int p1]) (by decide) (Nat.le_of_ble_eq_true rfl) ho ?_
  intro p e s m args below meth c ls A Q hQ X hT hl
  have hx := X.1.1
  have hb := X.1.2.1
  have hl : lv_has ls 4 [(0, .int p0), (1, .int p1)] := hl
  have rp0 := rg_all p0
  have rp1 := rg_all p1
  refine lv_iload_n hx hb dX4_inFront_0 rfl (lv_at hl 0 rfl) ?_
  refine lv_iconst (v := 1) hx hb dX4_inFront_1 (by decide) ?_
  refine lv_icmp_ge (tgt := 7) hx hb dX4_inFront_2 (by decide) (fun c86901 => ?_) (fun c86901 => ?_)
  · have w86902 := cv_le (by decide : (1 : Int32).toInt = 1) (rfl : p0.toInt = p0.toInt) c86901
    refine lv_iload_n hx hb dX4_inFront_7 rfl (lv_at hl 1 rfl) ?_
    refine lv_iconst (v := 2) hx hb dX4_inFront_8 (by decide) ?_
    refine lv_iload_n hx hb dX4_inFront_9 rfl (lv_at hl 0 rfl) ?_
    refine lv_imul hx hb dX4_inFront_10 ?_
    refine lv_topi (fun z86903 ez86903 => ?_)
    have rz86903 := rg_all z86903
    refine lv_idiv hx hb dX4_inFront_11 (mul2_ne ez86903 (by omega)) ?_
    refine lv_topi (fun z86904 ez86904 => ?_)
    have rz86904 := rg_all z86904
    refine lv_istore_n (lv' := [(2, .int z86904), (0, .int p0), (1, .int p1)]) hx hb dX4_inFront_12 rfl hl (by decide) rfl (fun ls hl => ?_)
    refine lv_iload_n hx hb dX4_inFront_13 rfl (lv_at hl 2 rfl) ?_
    refine lv_iconst (v := 2) hx hb dX4_inFront_14 (by decide) ?_
    refine lv_iload_n hx hb dX4_inFront_15 rfl (lv_at hl 1 rfl) ?_
    refine lv_imul hx hb dX4_inFront_16 ?_
    refine lv_topi (fun z86905 ez86905 => ?_)
    have rz86905 := rg_all z86905
    refine lv_irem hx hb dX4_inFront_17 (mul2_ne ez86905 (by omega)) ?_
    refine lv_topi (fun z86906 ez86906 => ?_)
    have rz86906 := rg_all z86906
    refine lv_istore_n (lv' := [(3, .int z86906), (2, .int z86904), (0, .int p0), (1, .int p1)]) hx hb dX4_inFront_18 rfl hl (by decide) rfl (fun ls hl => ?_)
    refine lv_iload_n hx hb dX4_inFront_19 rfl (lv_at hl 1 rfl) ?_
    refine lv_iconst (v := 2) hx hb dX4_inFront_20 (by decide) ?_
    refine lv_iload_n hx hb dX4_inFront_21 rfl (lv_at hl 2 rfl) ?_
    refine lv_imul hx hb dX4_inFront_22 ?_
    refine lv_topi (fun z86907 ez86907 => ?_)
    have rz86907 := rg_all z86907
    refine lv_iconst (v := 2) hx hb dX4_inFront_23 (by decide) ?_
    refine lv_iadd hx hb dX4_inFront_24 ?_
    refine lv_topi (fun z86908 ez86908 => ?_)
    have rz86908 := rg_all z86908
    refine lv_imul hx hb dX4_inFront_25 ?_
    refine lv_topi (fun z86909 ez86909 => ?_)
    have rz86909 := rg_all z86909
    refine lv_iload_n hx hb dX4_inFront_26 rfl (lv_at hl 0 rfl) ?_
    refine lv_iadd hx hb dX4_inFront_27 ?_
    refine lv_topi (fun z86910 ez86910 => ?_)
    have rz86910 := rg_all z86910
    refine lv_iconst (v := 1) hx hb dX4_inFront_28 (by decide) ?_
    refine lv_iadd hx hb dX4_inFront_29 ?_
    refine lv_topi (fun z86911 ez86911 => ?_)
    have rz86911 := rg_all z86911
    exact t_iret hQ X hT (⟨rfl, rg_all _⟩) (Nat.le_of_ble_eq_true rfl) (Nat.le_of_ble_eq_true rfl) dX4_inFront_30
  · have w86912 := cv_nle (by decide : (1 : Int32).toInt = 1) (rfl : p0.toInt = p0.toInt) c86901
    refine lv_iconst (v := 0) hx hb dX4_inFront_5 (by decide) ?_
    exact t_iret hQ X hT (⟨rfl, rg_all _⟩) (Nat.le_of_ble_eq_true rfl) (Nat.le_of_ble_eq_true rfl) dX4_inFront_6
set_option maxHeartbeats 4000000 in
set_option maxRecDepth 100000 in
theorem kt299_X4_between (l : Launch) (G : KG) (tag : Nat → Nat) (L : List Nat) (F : Nat → va_E) (ho : okT G ttC tag L F) (p0 : Int32) (p1 : Int32) (p2 : Int32)  : TMi l yX4_between cX4_between 5 (some .int) { frames := 0, cells := 0, slots := 0, locals := 0 } G ttC tag L F [.int p0, .int p1, .int p2] (fun r F1 => F1 = F ∧ ((-2147483648) ≤ r.toInt ∧ r.toInt ≤ 2147483647)) := by
  refine t_bodyi (y := yX4_between) (cd := cX4_between) (mL := 5) (rt := (some .int)) (rm := { frames := 0, cells := 0, slots := 0, locals := 0 }) (av := [.int p0, .int p1, .int p2]) (by decide) (Nat.le_of_ble_eq_true rfl) ho ?_
  intro p e s m args below meth c ls A Q hQ X hT hl
  have hx := X.1.1
  have hb := X.1.2.1
  have hl : lv_has ls 5 [(0, .int p0), (1, .int p1), (2, .int p2)] := hl
  have rp0 := rg_all p0
  have rp1 := rg_all p1
  have rp2 := rg_all p2
  have K14 : ∀ (z87023 : Int32) (H : Heap) (locs : List Loc) (ls : Array Slot), TH G ttC A s tag L F H locs → lv_has ls 5 [(0, .int p0), (1, .int p1), (2, .int p2)] → W p l e { frames := 0, cells := 0, slots := 0, locals := 0 } s m args below meth c H locs 0 0 Q (F0 m 14 ls [.int z87023]) := by
    intro z87023 H locs ls hT hl
    have rz87023 := rg_all z87023
    refine lv_istore_n (lv' := [(3, .int z87023), (0, .int p0), (1, .int p1), (2, .int p2)]) hx hb dX4_between_14 rfl hl (by decide) rfl (fun ls hl => ?_)
    refine lv_bipush (v := 8) hx hb dX4_between_15 (by decide) ?_
    refine lv_iload_n hx hb dX4_between_17 rfl (lv_at hl 1 rfl) ?_
    refine lv_imul hx hb dX4_between_18 ?_
    refine lv_topi (fun z87024 ez87024 => ?_)
    have rz87024 := rg_all z87024
    refine lv_iload_n hx hb dX4_between_19 rfl (lv_at hl 0 rfl) ?_
    refine lv_isub hx hb dX4_between_20 ?_
    refine lv_topi (fun z87025 ez87025 => ?_)
    have rz87025 := rg_all z87025
    refine lv_istore (lv' := [(4, .int z87025), (3, .int z87023), (0, .int p0), (1, .int p1), (2, .int p2)]) hx hb dX4_between_21 hl (by decide) rfl (fun ls hl => ?_)
    refine lv_iload_n hx hb dX4_between_23 rfl (lv_at hl 1 rfl) ?_
    refine lv_iload hx hb dX4_between_24 (lv_at hl 0 rfl) ?_
    refine lv_icmp_ge (tgt := 33) hx hb dX4_between_26 (by decide) (fun c87026 => ?_) (fun c87026 => ?_)
    · have w87027 := cv_le (rfl : z87025.toInt = z87025.toInt) (rfl : z87023.toInt = z87023.toInt) c87026
      refine lv_iload hx hb dX4_between_33 (lv_at hl 0 rfl) ?_
      exact t_iret hQ X hT (⟨rfl, rg_all _⟩) (Nat.le_of_ble_eq_true rfl) (Nat.le_of_ble_eq_true rfl) dX4_between_35
    · have w87028 := cv_nle (rfl : z87025.toInt = z87025.toInt) (rfl : z87023.toInt = z87023.toInt) c87026
      refine lv_iload_n hx hb dX4_between_29 rfl (lv_at hl 1 rfl) ?_
      refine lv_goto (tgt := 35) hx hb dX4_between_30 (by decide) ?_
      exact t_iret hQ X hT (⟨rfl, rg_all _⟩) (Nat.le_of_ble_eq_true rfl) (Nat.le_of_ble_eq_true rfl) dX4_between_35
  refine lv_iload_n hx hb dX4_between_0 rfl (lv_at hl 1 rfl) ?_
  refine lv_iload_n hx hb dX4_between_1 rfl (lv_at hl 2 rfl) ?_
  refine lv_icmp_ge (tgt := 11) hx hb dX4_between_2 (by decide) (fun c87029 => ?_) (fun c87029 => ?_)
  · have w87030 := cv_le (rfl : p2.toInt = p2.toInt) (rfl : p1.toInt = p1.toInt) c87029
    refine lv_iload_n hx hb dX4_between_11 rfl (lv_at hl 1 rfl) ?_
    refine lv_iload_n hx hb dX4_between_12 rfl (lv_at hl 2 rfl) ?_
    refine lv_isub hx hb dX4_between_13 ?_
    refine lv_topi (fun z87031 ez87031 => ?_)
    have rz87031 := rg_all z87031
    exact K14 z87031 _ _ _  hT  (lv_sub hl [0, 1, 2] rfl)
  · have w87032 := cv_nle (rfl : p2.toInt = p2.toInt) (rfl : p1.toInt = p1.toInt) c87029
    refine lv_iload_n hx hb dX4_between_5 rfl (lv_at hl 2 rfl) ?_
    refine lv_iload_n hx hb dX4_between_6 rfl (lv_at hl 1 rfl) ?_
    refine lv_isub hx hb dX4_between_7 ?_
    refine lv_topi (fun z87033 ez87033 => ?_)
    have rz87033 := rg_all z87033
    refine lv_goto (tgt := 14) hx hb dX4_between_8 (by decide) ?_
    exact K14 z87033 _ _ _  hT  (lv_sub hl [0, 1, 2] rfl)
set_option maxHeartbeats 4000000 in
set_option maxRecDepth 100000 in
theorem kt300_X1_isOn (l : Launch) (G : KG) (tag : Nat → Nat) (L : List Nat) (F : Nat → va_E) (ho : okT G ttC tag L F) (p0 : Nat) (p1 : Int32) (p2 : Int32) (m0 : p0 ∈ L) (g0 : tag p0 = 18) : TMi l yX1_isOn cX1_isOn 3 (some .boolean) { frames := 0, cells := 0, slots := 0, locals := 0 } G ttC tag L F [.ref p0, .int p1, .int p2] (fun r F1 => F1 = F ∧ (0 ≤ r.toInt ∧ r.toInt ≤ 1)) := by
  refine t_bodyi (y := yX1_isOn) (cd := cX1_isOn) (mL := 3) (rt := (some .boolean)) (rm := { frames := 0, cells := 0, slots := 0, locals := 0 }) (av := [.ref p0, .int p1, .int p2]) (by decide) (Nat.le_of_ble_eq_true rfl) ho ?_
  intro p e s m args below meth c ls A Q hQ X hT hl
  have hx := X.1.1
  have hb := X.1.2.1
  have hl : lv_has ls 3 [(0, .ref p0), (1, .int p1), (2, .int p2)] := hl
  have rp1 := rg_all p1
  have rp2 := rg_all p2
  refine lv_iload_n hx hb dX1_isOn_0 rfl (lv_at hl 1 rfl) ?_
  refine lv_if_lt (tgt := 28) hx hb dX1_isOn_1 (by decide) (fun c87210 => ?_) (fun c87210 => ?_)
  · have w87211 := cv_lt (rfl : p1.toInt = p1.toInt) (by decide : (0 : Int32).toInt = 0) c87210
    refine lv_iconst (v := 0) hx hb dX1_isOn_28 (by decide) ?_
    exact t_zret hQ X hT (by decide) (⟨rfl, (by decide)⟩) (Nat.le_of_ble_eq_true rfl) (Nat.le_of_ble_eq_true rfl) dX1_isOn_29
  · have w87212 := cv_nlt (rfl : p1.toInt = p1.toInt) (by decide : (0 : Int32).toInt = 0) c87210
    refine lv_iload_n hx hb dX1_isOn_4 rfl (lv_at hl 1 rfl) ?_
    refine lv_aload_n hx hb dX1_isOn_5 rfl (lv_at hl 0 rfl) ?_
    refine t_get (C := RX1) (T := TX1) (N := 20) X hT m0 g0 rfl rfl 0 (by decide) qw_177 inlX1 rfl dX1_isOn_6 (fun v87213 hv87213 ov87213 => ?_)
    obtain ⟨z87214, rfl, rz87214⟩ := okV_i ov87213
    refine lv_icmp_ge (tgt := 28) hx hb dX1_isOn_9 (by decide) (fun c87215 => ?_) (fun c87215 => ?_)
    · have w87216 := cv_le (rfl : z87214.toInt = z87214.toInt) (rfl : p1.toInt = p1.toInt) c87215
      refine lv_iconst (v := 0) hx hb dX1_isOn_28 (by decide) ?_
      exact t_zret hQ X hT (by decide) (⟨rfl, (by decide)⟩) (Nat.le_of_ble_eq_true rfl) (Nat.le_of_ble_eq_true rfl) dX1_isOn_29
    · have w87217 := cv_nle (rfl : z87214.toInt = z87214.toInt) (rfl : p1.toInt = p1.toInt) c87215
      refine lv_iload_n hx hb dX1_isOn_12 rfl (lv_at hl 2 rfl) ?_
      refine lv_if_lt (tgt := 28) hx hb dX1_isOn_13 (by decide) (fun c87218 => ?_) (fun c87218 => ?_)
      · have w87219 := cv_lt (rfl : p2.toInt = p2.toInt) (by decide : (0 : Int32).toInt = 0) c87218
        refine lv_iconst (v := 0) hx hb dX1_isOn_28 (by decide) ?_
        exact t_zret hQ X hT (by decide) (⟨rfl, (by decide)⟩) (Nat.le_of_ble_eq_true rfl) (Nat.le_of_ble_eq_true rfl) dX1_isOn_29
      · have w87220 := cv_nlt (rfl : p2.toInt = p2.toInt) (by decide : (0 : Int32).toInt = 0) c87218
        refine lv_iload_n hx hb dX1_isOn_16 rfl (lv_at hl 2 rfl) ?_
        refine lv_aload_n hx hb dX1_isOn_17 rfl (lv_at hl 0 rfl) ?_
        refine t_get (C := RX1) (T := TX1) (N := 20) X hT m0 g0 rfl rfl 1 (by decide) qw_178 inlX1 rfl dX1_isOn_18 (fun v87221 hv87221 ov87221 => ?_)
        obtain ⟨z87222, rfl, rz87222⟩ := okV_i ov87221
        refine lv_icmp_ge (tgt := 28) hx hb dX1_isOn_21 (by decide) (fun c87223 => ?_) (fun c87223 => ?_)
        · have w87224 := cv_le (rfl : z87222.toInt = z87222.toInt) (rfl : p2.toInt = p2.toInt) c87223
          refine lv_iconst (v := 0) hx hb dX1_isOn_28 (by decide) ?_
          exact t_zret hQ X hT (by decide) (⟨rfl, (by decide)⟩) (Nat.le_of_ble_eq_true rfl) (Nat.le_of_ble_eq_true rfl) dX1_isOn_29
        · have w87225 := cv_nle (rfl : z87222.toInt = z87222.toInt) (rfl : p2.toInt = p2.toInt) c87223
          refine lv_iconst (v := 1) hx hb dX1_isOn_24 (by decide) ?_
          refine lv_goto (tgt := 29) hx hb dX1_isOn_25 (by decide) ?_
          exact t_zret hQ X hT (by decide) (⟨rfl, (by decide)⟩) (Nat.le_of_ble_eq_true rfl) (Nat.le_of_ble_eq_true rfl) dX1_isOn_29
set_option maxHeartbeats 4000000 in
set_option maxRecDepth 100000 in
theorem kt301_X1_isWet (l : Launch) (G : KG) (tag : Nat → Nat) (L : List Nat) (F : Nat → va_E) (ho : okT G ttC tag L F) (p0 : Nat) (p1 : Int32) (p2 : Int32) (m0 : p0 ∈ L) (g0 : tag p0 = 18) : TMi l yX1_isWet cX1_isWet 4 (some .boolean) { frames := 0, cells := 0, slots := 0, locals := 0 } G ttC tag L F [.ref p0, .int p1, .int p2] (fun r F1 => F1 = F ∧ (0 ≤ r.toInt ∧ r.toInt ≤ 1)) := by
  refine t_bodyi (y := yX1_isWet) (cd := cX1_isWet) (mL := 4) (rt := (some .boolean)) (rm := { frames := 0, cells := 0, slots := 0, locals := 0 }) (av := [.ref p0, .int p1, .int p2]) (by decide) (Nat.le_of_ble_eq_true rfl) ho ?_
  intro p e s m args below meth c ls A Q hQ X hT hl
  have hx := X.1.1
  have hb := X.1.2.1
  have hl : lv_has ls 4 [(0, .ref p0), (1, .int p1), (2, .int p2)] := hl
  have rp1 := rg_all p1
  have rp2 := rg_all p2
  refine lv_iload_n hx hb dX1_isWet_0 rfl (lv_at hl 2 rfl) ?_
  refine lv_aload_n hx hb dX1_isWet_1 rfl (lv_at hl 0 rfl) ?_
  refine t_get (C := RX1) (T := TX1) (N := 20) X hT m0 g0 rfl rfl 0 (by decide) qw_177 inlX1 rfl dX1_isWet_2 (fun v87424 hv87424 ov87424 => ?_)
  obtain ⟨z87425, rfl, rz87425⟩ := okV_i ov87424
  refine lv_imul hx hb dX1_isWet_5 ?_
  refine lv_topi (fun z87426 ez87426 => ?_)
  have rz87426 := rg_all z87426
  refine lv_iload_n hx hb dX1_isWet_6 rfl (lv_at hl 1 rfl) ?_
  refine lv_iadd hx hb dX1_isWet_7 ?_
  refine lv_topi (fun z87427 ez87427 => ?_)
  have rz87427 := rg_all z87427
  refine lv_istore_n (lv' := [(3, .int z87427), (0, .ref p0), (1, .int p1), (2, .int p2)]) hx hb dX1_isWet_8 rfl hl (by decide) rfl (fun ls hl => ?_)
  refine lv_iload_n hx hb dX1_isWet_9 rfl (lv_at hl 0 rfl) ?_
  refine lv_if_lt (tgt := 35) hx hb dX1_isWet_10 (by decide) (fun c87428 => ?_) (fun c87428 => ?_)
  · have w87429 := cv_lt (rfl : z87427.toInt = z87427.toInt) (by decide : (0 : Int32).toInt = 0) c87428
    refine lv_iconst (v := 0) hx hb dX1_isWet_35 (by decide) ?_
    exact t_zret hQ X hT (by decide) (⟨rfl, (by decide)⟩) (Nat.le_of_ble_eq_true rfl) (Nat.le_of_ble_eq_true rfl) dX1_isWet_36
  · have w87430 := cv_nlt (rfl : z87427.toInt = z87427.toInt) (by decide : (0 : Int32).toInt = 0) c87428
    refine lv_iload_n hx hb dX1_isWet_13 rfl (lv_at hl 0 rfl) ?_
    refine lv_aload_n hx hb dX1_isWet_14 rfl (lv_at hl 1 rfl) ?_
    refine t_get (C := RX1) (T := TX1) (N := 20) X hT m0 g0 rfl rfl 7 (by decide) qw_50 inlX1 rfl dX1_isWet_15 (fun v87431 hv87431 ov87431 => ?_)
    obtain ⟨b87432, rfl, mb87432, gb87432⟩ := okV_r ov87431
    have gb87432 : tag b87432 = 2 := tg_of gb87432
    refine t_alen X hT mb87432 gb87432 rfl (by decide) dX1_isWet_18 ?_
    refine lv_topi (fun z87433 ez87433 => ?_)
    obtain rfl : z87433 = 144 := ez87433.trans (by rfl)
    refine lv_icmp_ge (tgt := 35) hx hb dX1_isWet_19 (by decide) (fun c87434 => ?_) (fun c87434 => ?_)
    · have w87435 := cv_le (by decide : (144 : Int32).toInt = 144) (rfl : z87427.toInt = z87427.toInt) c87434
      refine lv_iconst (v := 0) hx hb dX1_isWet_35 (by decide) ?_
      exact t_zret hQ X hT (by decide) (⟨rfl, (by decide)⟩) (Nat.le_of_ble_eq_true rfl) (Nat.le_of_ble_eq_true rfl) dX1_isWet_36
    · have w87436 := cv_nle (by decide : (144 : Int32).toInt = 144) (rfl : z87427.toInt = z87427.toInt) c87434
      refine lv_aload_n hx hb dX1_isWet_22 rfl (lv_at hl 1 rfl) ?_
      refine t_get (C := RX1) (T := TX1) (N := 20) X hT m0 g0 rfl rfl 7 (by decide) qw_50 inlX1 rfl dX1_isWet_23 (fun v87437 hv87437 ov87437 => ?_)
      obtain rfl : v87437 = .ref b87432 := hv87437.symm.trans hv87431
      refine lv_iload_n hx hb dX1_isWet_26 rfl (lv_at hl 0 rfl) ?_
      refine t_zld X hT mb87432 gb87432 rfl (by omega) dX1_isWet_27 (fun z87438 vz87438 rz87438 => ?_)
      have rz87438 : 0 ≤ z87438.toInt ∧ z87438.toInt ≤ 1 := rz87438
      refine lv_if_eq (tgt := 35) hx hb dX1_isWet_28 (by decide) (fun c87439 => ?_) (fun c87439 => ?_)
      · have w87440 := cv_eq (rfl : z87438.toInt = z87438.toInt) (by decide : (0 : Int32).toInt = 0) c87439
        refine lv_iconst (v := 0) hx hb dX1_isWet_35 (by decide) ?_
        exact t_zret hQ X hT (by decide) (⟨rfl, (by decide)⟩) (Nat.le_of_ble_eq_true rfl) (Nat.le_of_ble_eq_true rfl) dX1_isWet_36
      · have w87441 := cv_ne (rfl : z87438.toInt = z87438.toInt) (by decide : (0 : Int32).toInt = 0) c87439
        refine lv_iconst (v := 1) hx hb dX1_isWet_31 (by decide) ?_
        refine lv_goto (tgt := 36) hx hb dX1_isWet_32 (by decide) ?_
        exact t_zret hQ X hT (by decide) (⟨rfl, (by decide)⟩) (Nat.le_of_ble_eq_true rfl) (Nat.le_of_ble_eq_true rfl) dX1_isWet_36
set_option maxHeartbeats 4000000 in
set_option maxRecDepth 100000 in
theorem kt302_X1_addWater (l : Launch) (G : KG) (tag : Nat → Nat) (L : List Nat) (Fo : Nat → va_E) (ho : okT G ttC tag L Fo) (p0 : Nat) (p1 : Int32) (p2 : Int32) (m0 : p0 ∈ L) (g0 : tag p0 = 18) : TMv l yX1_addWater cX1_addWater 4 { frames := 0, cells := 0, slots := 0, locals := 0 } G ttC tag L Fo [.ref p0, .int p1, .int p2] (fun F1 => ((∀ b j : Nat, fld F1 b j = fld Fo b j) ∧ EF tag F1 Fo)) := by
  refine t_bodyv (y := yX1_addWater) (cd := cX1_addWater) (mL := 4) (rm := { frames := 0, cells := 0, slots := 0, locals := 0 }) (av := [.ref p0, .int p1, .int p2]) (by decide) (Nat.le_of_ble_eq_true rfl) ho ?_
  intro p e s m args below meth c ls A Q hQ X hT hl
  have hx := X.1.1
  have hb := X.1.2.1
  have hl : lv_has ls 4 [(0, .ref p0), (1, .int p1), (2, .int p2)] := hl
  have rp1 := rg_all p1
  have rp2 := rg_all p2
  obtain ⟨F, hFo⟩ : ∃ F : Nat → va_E, F = Fo := ⟨_, rfl⟩
  rw [← hFo] at hT
  have hfr : (∀ b j : Nat, fld F b j = fld Fo b j) ∧ EF tag F Fo := by
    rw [hFo]
    exact ⟨by intros; rfl, fun _ _ _ => rfl⟩
  refine lv_iload_n hx hb dX1_addWater_0 rfl (lv_at hl 2 rfl) ?_
  refine lv_aload_n hx hb dX1_addWater_1 rfl (lv_at hl 0 rfl) ?_
  refine t_get (C := RX1) (T := TX1) (N := 20) X hT m0 g0 rfl rfl 0 (by decide) qw_177 inlX1 rfl dX1_addWater_2 (fun v87607 hv87607 ov87607 => ?_)
  obtain ⟨z87608, rfl, rz87608⟩ := okV_i ov87607
  refine lv_imul hx hb dX1_addWater_5 ?_
  refine lv_topi (fun z87609 ez87609 => ?_)
  have rz87609 := rg_all z87609
  refine lv_iload_n hx hb dX1_addWater_6 rfl (lv_at hl 1 rfl) ?_
  refine lv_iadd hx hb dX1_addWater_7 ?_
  refine lv_topi (fun z87610 ez87610 => ?_)
  have rz87610 := rg_all z87610
  refine lv_istore_n (lv' := [(3, .int z87610), (0, .ref p0), (1, .int p1), (2, .int p2)]) hx hb dX1_addWater_8 rfl hl (by decide) rfl (fun ls hl => ?_)
  refine lv_iload_n hx hb dX1_addWater_9 rfl (lv_at hl 0 rfl) ?_
  refine lv_if_lt (tgt := 29) hx hb dX1_addWater_10 (by decide) (fun c87611 => ?_) (fun c87611 => ?_)
  · have w87612 := cv_lt (rfl : z87610.toInt = z87610.toInt) (by decide : (0 : Int32).toInt = 0) c87611
    exact t_vret hQ X hT hfr (Nat.le_of_ble_eq_true rfl) (Nat.le_of_ble_eq_true rfl) dX1_addWater_29
  · have w87613 := cv_nlt (rfl : z87610.toInt = z87610.toInt) (by decide : (0 : Int32).toInt = 0) c87611
    refine lv_iload_n hx hb dX1_addWater_13 rfl (lv_at hl 0 rfl) ?_
    refine lv_aload_n hx hb dX1_addWater_14 rfl (lv_at hl 1 rfl) ?_
    refine t_get (C := RX1) (T := TX1) (N := 20) X hT m0 g0 rfl rfl 7 (by decide) qw_50 inlX1 rfl dX1_addWater_15 (fun v87614 hv87614 ov87614 => ?_)
    obtain ⟨b87615, rfl, mb87615, gb87615⟩ := okV_r ov87614
    have gb87615 : tag b87615 = 2 := tg_of gb87615
    refine t_alen X hT mb87615 gb87615 rfl (by decide) dX1_addWater_18 ?_
    refine lv_topi (fun z87616 ez87616 => ?_)
    obtain rfl : z87616 = 144 := ez87616.trans (by rfl)
    refine lv_icmp_ge (tgt := 29) hx hb dX1_addWater_19 (by decide) (fun c87617 => ?_) (fun c87617 => ?_)
    · have w87618 := cv_le (by decide : (144 : Int32).toInt = 144) (rfl : z87610.toInt = z87610.toInt) c87617
      exact t_vret hQ X hT hfr (Nat.le_of_ble_eq_true rfl) (Nat.le_of_ble_eq_true rfl) dX1_addWater_29
    · have w87619 := cv_nle (by decide : (144 : Int32).toInt = 144) (rfl : z87610.toInt = z87610.toInt) c87617
      refine lv_aload_n hx hb dX1_addWater_22 rfl (lv_at hl 1 rfl) ?_
      refine t_get (C := RX1) (T := TX1) (N := 20) X hT m0 g0 rfl rfl 7 (by decide) qw_50 inlX1 rfl dX1_addWater_23 (fun v87620 hv87620 ov87620 => ?_)
      obtain rfl : v87620 = .ref b87615 := hv87620.symm.trans hv87614
      refine lv_iload_n hx hb dX1_addWater_26 rfl (lv_at hl 0 rfl) ?_
      refine lv_iconst (v := 1) hx hb dX1_addWater_27 (by decide) ?_
      refine t_zst X hT mb87615 gb87615 rfl (by omega) (show 0 ≤ (vp_nar .boolean 1).toInt ∧ (vp_nar .boolean 1).toInt ≤ 1 from (by decide)) dX1_addWater_28 (fun F H locs hT v87621 h1v87621 h2v87621 => ?_)
      have hv87607 := (h2v87621 _ _).trans hv87607
      have hv87614 := (h2v87621 _ _).trans hv87614
      have hfr : (∀ b j : Nat, fld F b j = fld Fo b j) ∧ EF tag F Fo := ⟨fun b j  => (h2v87621 b j).trans (hfr.1 b j ), fun b j hb => (h1v87621 b j (Or.inl (ns_ne hb gb87615 (by decide)))).trans (hfr.2 b j hb)⟩
      exact t_vret hQ X hT hfr (Nat.le_of_ble_eq_true rfl) (Nat.le_of_ble_eq_true rfl) dX1_addWater_29
set_option maxHeartbeats 4000000 in
set_option maxRecDepth 100000 in
theorem kt303_X1_stonePart (l : Launch) (G : KG) (tag : Nat → Nat) (L : List Nat) (F : Nat → va_E) (ho : okT G ttC tag L F) (p0 : Nat) (p1 : Int32) (p2 : Int32) (m0 : p0 ∈ L) (g0 : tag p0 = 18) : TMi l yX1_stonePart cX1_stonePart 4 (some .int) { frames := 0, cells := 0, slots := 0, locals := 0 } G ttC tag L F [.ref p0, .int p1, .int p2] (fun r F1 => F1 = F ∧ ((-2147483648) ≤ r.toInt ∧ r.toInt ≤ 2147483647)) := by
  refine t_bodyi (y := yX1_stonePart) (cd := cX1_stonePart) (mL := 4) (rt := (some .int)) (rm := { frames := 0, cells := 0, slots := 0, locals := 0 }) (av := [.ref p0, .int p1, .int p2]) (by decide) (Nat.le_of_ble_eq_true rfl) ho ?_
  intro p e s m args below meth c ls A Q hQ X hT hl
  have hx := X.1.1
  have hb := X.1.2.1
  have hl : lv_has ls 4 [(0, .ref p0), (1, .int p1), (2, .int p2)] := hl
  have rp1 := rg_all p1
  have rp2 := rg_all p2
  refine lv_iload_n hx hb dX1_stonePart_0 rfl (lv_at hl 1 rfl) ?_
  refine lv_iconst (v := 5) hx hb dX1_stonePart_1 (by decide) ?_
  refine lv_imul hx hb dX1_stonePart_2 ?_
  refine lv_topi (fun z87765 ez87765 => ?_)
  have rz87765 := rg_all z87765
  refine lv_iload_n hx hb dX1_stonePart_3 rfl (lv_at hl 2 rfl) ?_
  refine lv_iadd hx hb dX1_stonePart_4 ?_
  refine lv_topi (fun z87766 ez87766 => ?_)
  have rz87766 := rg_all z87766
  refine lv_istore_n (lv' := [(3, .int z87766), (0, .ref p0), (1, .int p1), (2, .int p2)]) hx hb dX1_stonePart_5 rfl hl (by decide) rfl (fun ls hl => ?_)
  refine lv_iload_n hx hb dX1_stonePart_6 rfl (lv_at hl 0 rfl) ?_
  refine lv_if_lt (tgt := 28) hx hb dX1_stonePart_7 (by decide) (fun c87767 => ?_) (fun c87767 => ?_)
  · have w87768 := cv_lt (rfl : z87766.toInt = z87766.toInt) (by decide : (0 : Int32).toInt = 0) c87767
    refine lv_iconst (v := 0) hx hb dX1_stonePart_28 (by decide) ?_
    exact t_iret hQ X hT (⟨rfl, rg_all _⟩) (Nat.le_of_ble_eq_true rfl) (Nat.le_of_ble_eq_true rfl) dX1_stonePart_29
  · have w87769 := cv_nlt (rfl : z87766.toInt = z87766.toInt) (by decide : (0 : Int32).toInt = 0) c87767
    refine lv_iload_n hx hb dX1_stonePart_10 rfl (lv_at hl 0 rfl) ?_
    refine lv_aload_n hx hb dX1_stonePart_11 rfl (lv_at hl 1 rfl) ?_
    refine t_get (C := RX1) (T := TX1) (N := 20) X hT m0 g0 rfl rfl 9 (by decide) qw_51 inlX1 rfl dX1_stonePart_12 (fun v87770 hv87770 ov87770 => ?_)
    obtain ⟨b87771, rfl, mb87771, gb87771⟩ := okV_r ov87770
    have gb87771 : tag b87771 = 3 := tg_of gb87771
    refine t_alen X hT mb87771 gb87771 rfl (by decide) dX1_stonePart_15 ?_
    refine lv_topi (fun z87772 ez87772 => ?_)
    obtain rfl : z87772 = 20 := ez87772.trans (by rfl)
    refine lv_icmp_ge (tgt := 28) hx hb dX1_stonePart_16 (by decide) (fun c87773 => ?_) (fun c87773 => ?_)
    · have w87774 := cv_le (by decide : (20 : Int32).toInt = 20) (rfl : z87766.toInt = z87766.toInt) c87773
      refine lv_iconst (v := 0) hx hb dX1_stonePart_28 (by decide) ?_
      exact t_iret hQ X hT (⟨rfl, rg_all _⟩) (Nat.le_of_ble_eq_true rfl) (Nat.le_of_ble_eq_true rfl) dX1_stonePart_29
    · have w87775 := cv_nle (by decide : (20 : Int32).toInt = 20) (rfl : z87766.toInt = z87766.toInt) c87773
      refine lv_aload_n hx hb dX1_stonePart_19 rfl (lv_at hl 1 rfl) ?_
      refine t_get (C := RX1) (T := TX1) (N := 20) X hT m0 g0 rfl rfl 9 (by decide) qw_51 inlX1 rfl dX1_stonePart_20 (fun v87776 hv87776 ov87776 => ?_)
      obtain rfl : v87776 = .ref b87771 := hv87776.symm.trans hv87770
      refine lv_iload_n hx hb dX1_stonePart_23 rfl (lv_at hl 0 rfl) ?_
      refine t_ild X hT mb87771 gb87771 rfl (by omega) dX1_stonePart_24 (fun z87777 vz87777 rz87777 => ?_)
      have rz87777 : (-2147483648) ≤ z87777.toInt ∧ z87777.toInt ≤ 2147483647 := rz87777
      refine lv_goto (tgt := 29) hx hb dX1_stonePart_25 (by decide) ?_
      exact t_iret hQ X hT (⟨rfl, rg_all _⟩) (Nat.le_of_ble_eq_true rfl) (Nat.le_of_ble_eq_true rfl) dX1_stonePart_29
set_option maxHeartbeats 4000000 in
set_option maxRecDepth 100000 in
theorem kt304_X1_setStonePart (l : Launch) (G : KG) (tag : Nat → Nat) (L : List Nat) (Fo : Nat → va_E) (ho : okT G ttC tag L Fo) (p0 : Nat) (p1 : Int32) (p2 : Int32) (p3 : Int32) (m0 : p0 ∈ L) (g0 : tag p0 = 18) : TMv l yX1_setStonePart cX1_setStonePart 5 { frames := 0, cells := 0, slots := 0, locals := 0 } G ttC tag L Fo [.ref p0, .int p1, .int p2, .int p3] (fun F1 => ((∀ b j : Nat, fld F1 b j = fld Fo b j) ∧ EF tag F1 Fo)) := by
  refine t_bodyv (y := yX1_setStonePart) (cd := cX1_setStonePart) (mL := 5) (rm := { frames := 0, cells := 0, slots := 0, locals := 0 }) (av := [.ref p0, .int p1, .int p2, .int p3]) (by decide) (Nat.le_of_ble_eq_true rfl) ho ?_
  intro p e s m args below meth c ls A Q hQ X hT hl
  have hx := X.1.1
  have hb := X.1.2.1
  have hl : lv_has ls 5 [(0, .ref p0), (1, .int p1), (2, .int p2), (3, .int p3)] := hl
  have rp1 := rg_all p1
  have rp2 := rg_all p2
  have rp3 := rg_all p3
  obtain ⟨F, hFo⟩ : ∃ F : Nat → va_E, F = Fo := ⟨_, rfl⟩
  rw [← hFo] at hT
  have hfr : (∀ b j : Nat, fld F b j = fld Fo b j) ∧ EF tag F Fo := by
    rw [hFo]
    exact ⟨by intros; rfl, fun _ _ _ => rfl⟩
  refine lv_iload_n hx hb dX1_setStonePart_0 rfl (lv_at hl 1 rfl) ?_
  refine lv_iconst (v := 5) hx hb dX1_setStonePart_1 (by decide) ?_
  refine lv_imul hx hb dX1_setStonePart_2 ?_
  refine lv_topi (fun z87921 ez87921 => ?_)
  have rz87921 := rg_all z87921
  refine lv_iload_n hx hb dX1_setStonePart_3 rfl (lv_at hl 2 rfl) ?_
  refine lv_iadd hx hb dX1_setStonePart_4 ?_
  refine lv_topi (fun z87922 ez87922 => ?_)
  have rz87922 := rg_all z87922
  refine lv_istore (lv' := [(4, .int z87922), (0, .ref p0), (1, .int p1), (2, .int p2), (3, .int p3)]) hx hb dX1_setStonePart_5 hl (by decide) rfl (fun ls hl => ?_)
  refine lv_iload hx hb dX1_setStonePart_7 (lv_at hl 0 rfl) ?_
  refine lv_if_lt (tgt := 30) hx hb dX1_setStonePart_9 (by decide) (fun c87923 => ?_) (fun c87923 => ?_)
  · have w87924 := cv_lt (rfl : z87922.toInt = z87922.toInt) (by decide : (0 : Int32).toInt = 0) c87923
    exact t_vret hQ X hT hfr (Nat.le_of_ble_eq_true rfl) (Nat.le_of_ble_eq_true rfl) dX1_setStonePart_30
  · have w87925 := cv_nlt (rfl : z87922.toInt = z87922.toInt) (by decide : (0 : Int32).toInt = 0) c87923
    refine lv_iload hx hb dX1_setStonePart_12 (lv_at hl 0 rfl) ?_
    refine lv_aload_n hx hb dX1_setStonePart_14 rfl (lv_at hl 1 rfl) ?_
    refine t_get (C := RX1) (T := TX1) (N := 20) X hT m0 g0 rfl rfl 9 (by decide) qw_51 inlX1 rfl dX1_setStonePart_15 (fun v87926 hv87926 ov87926 => ?_)
    obtain ⟨b87927, rfl, mb87927, gb87927⟩ := okV_r ov87926
    have gb87927 : tag b87927 = 3 := tg_of gb87927
    refine t_alen X hT mb87927 gb87927 rfl (by decide) dX1_setStonePart_18 ?_
    refine lv_topi (fun z87928 ez87928 => ?_)
    obtain rfl : z87928 = 20 := ez87928.trans (by rfl)
    refine lv_icmp_ge (tgt := 30) hx hb dX1_setStonePart_19 (by decide) (fun c87929 => ?_) (fun c87929 => ?_)
    · have w87930 := cv_le (by decide : (20 : Int32).toInt = 20) (rfl : z87922.toInt = z87922.toInt) c87929
      exact t_vret hQ X hT hfr (Nat.le_of_ble_eq_true rfl) (Nat.le_of_ble_eq_true rfl) dX1_setStonePart_30
    · have w87931 := cv_nle (by decide : (20 : Int32).toInt = 20) (rfl : z87922.toInt = z87922.toInt) c87929
      refine lv_aload_n hx hb dX1_setStonePart_22 rfl (lv_at hl 1 rfl) ?_
      refine t_get (C := RX1) (T := TX1) (N := 20) X hT m0 g0 rfl rfl 9 (by decide) qw_51 inlX1 rfl dX1_setStonePart_23 (fun v87932 hv87932 ov87932 => ?_)
      obtain rfl : v87932 = .ref b87927 := hv87932.symm.trans hv87926
      refine lv_iload hx hb dX1_setStonePart_26 (lv_at hl 0 rfl) ?_
      refine lv_iload_n hx hb dX1_setStonePart_28 rfl (lv_at hl 4 rfl) ?_
      refine t_ist X hT mb87927 gb87927 rfl (by omega) (show (-2147483648) ≤ (p3 : Int32).toInt ∧ (p3 : Int32).toInt ≤ 2147483647 from (by omega)) dX1_setStonePart_29 (fun F H locs hT v87933 h1v87933 h2v87933 => ?_)
      have hv87926 := (h2v87933 _ _).trans hv87926
      have hfr : (∀ b j : Nat, fld F b j = fld Fo b j) ∧ EF tag F Fo := ⟨fun b j  => (h2v87933 b j).trans (hfr.1 b j ), fun b j hb => (h1v87933 b j (Or.inl (ns_ne hb gb87927 (by decide)))).trans (hfr.2 b j hb)⟩
      exact t_vret hQ X hT hfr (Nat.le_of_ble_eq_true rfl) (Nat.le_of_ble_eq_true rfl) dX1_setStonePart_30
set_option maxHeartbeats 4000000 in
set_option maxRecDepth 100000 in
theorem kt305_X1_clear (l : Launch) (G : KG) (tag : Nat → Nat) (L : List Nat) (Fo : Nat → va_E) (ho : okT G ttC tag L Fo) (p0 : Nat) (m0 : p0 ∈ L) (g0 : tag p0 = 18) : TMv l yX1_clear cX1_clear 2 { frames := 0, cells := 0, slots := 0, locals := 0 } G ttC tag L Fo [.ref p0] (fun F1 => ((∀ b j : Nat, (tag b ≠ 18 ∨ j ≠ 0) → (tag b ≠ 18 ∨ j ≠ 1) → (tag b ≠ 18 ∨ j ≠ 8) → (tag b ≠ 18 ∨ j ≠ 10) → (tag b ≠ 18 ∨ j ≠ 14) → (tag b ≠ 18 ∨ j ≠ 16) → fld F1 b j = fld Fo b j) ∧ EF tag F1 Fo)) := by
  refine t_bodyv (y := yX1_clear) (cd := cX1_clear) (mL := 2) (rm := { frames := 0, cells := 0, slots := 0, locals := 0 }) (av := [.ref p0]) (by decide) (Nat.le_of_ble_eq_true rfl) ho ?_
  intro p e s m args below meth c ls A Q hQ X hT hl
  have hx := X.1.1
  have hb := X.1.2.1
  have hl : lv_has ls 2 [(0, .ref p0)] := hl
  obtain ⟨F, hFo⟩ : ∃ F : Nat → va_E, F = Fo := ⟨_, rfl⟩
  rw [← hFo] at hT
  have hfr : (∀ b j : Nat, (tag b ≠ 18 ∨ j ≠ 0) → (tag b ≠ 18 ∨ j ≠ 1) → (tag b ≠ 18 ∨ j ≠ 8) → (tag b ≠ 18 ∨ j ≠ 10) → (tag b ≠ 18 ∨ j ≠ 14) → (tag b ≠ 18 ∨ j ≠ 16) → fld F b j = fld Fo b j) ∧ EF tag F Fo := by
    rw [hFo]
    exact ⟨by intros; rfl, fun _ _ _ => rfl⟩
  have K56 : ∀ (n : Nat) (z88598 : Int32) (z88599 : Int32) (z88600 : Int32) (z88601 : Int32) (z88602 : Int32) (z88603 : Int32) (z88604 : Int32) (F : Nat → va_E) (H : Heap) (locs : List Loc) (ls : Array Slot), (6 - z88598.toInt < (n : Int)) → (0 ≤ z88598.toInt ∧ z88598.toInt ≤ 6) → (0 ≤ z88599.toInt ∧ z88599.toInt ≤ 0) → (0 ≤ z88600.toInt ∧ z88600.toInt ≤ 0) → (0 ≤ z88601.toInt ∧ z88601.toInt ≤ 0) → (0 ≤ z88602.toInt ∧ z88602.toInt ≤ 0) → (0 ≤ z88603.toInt ∧ z88603.toInt ≤ 0) → (0 ≤ z88604.toInt ∧ z88604.toInt ≤ 0) → TH G ttC A s tag L F H locs → ((∀ b j : Nat, (tag b ≠ 18 ∨ j ≠ 0) → (tag b ≠ 18 ∨ j ≠ 1) → (tag b ≠ 18 ∨ j ≠ 8) → (tag b ≠ 18 ∨ j ≠ 10) → (tag b ≠ 18 ∨ j ≠ 14) → (tag b ≠ 18 ∨ j ≠ 16) → fld F b j = fld Fo b j) ∧ EF tag F Fo) → fld F p0 0 = .int z88599 → fld F p0 1 = .int z88600 → fld F p0 8 = .int z88601 → fld F p0 10 = .int z88602 → fld F p0 14 = .int z88603 → fld F p0 16 = .int z88604 → lv_has ls 2 [(0, .ref p0), (1, .int z88598)] → W p l e { frames := 0, cells := 0, slots := 0, locals := 0 } s m args below meth c H locs 0 0 Q (F0 m 56 ls []) := by
    intro n
    induction n with
    | zero =>
      intro z88598 z88599 z88600 z88601 z88602 z88603 z88604 F H locs ls hn rz88598 rz88599 rz88600 rz88601 rz88602 rz88603 rz88604 hT hfr qz88599 qz88600 qz88601 qz88602 qz88603 qz88604 hl
      exfalso
      omega
    | succ n ih56 =>
      intro z88598 z88599 z88600 z88601 z88602 z88603 z88604 F H locs ls hn rz88598 rz88599 rz88600 rz88601 rz88602 rz88603 rz88604 hT hfr qz88599 qz88600 qz88601 qz88602 qz88603 qz88604 hl
      refine lv_iload_n hx hb dX1_clear_56 rfl (lv_at hl 1 rfl) ?_
      refine lv_bipush (v := 6) hx hb dX1_clear_57 (by decide) ?_
      refine lv_icmp_ge (tgt := 89) hx hb dX1_clear_59 (by decide) (fun c88605 => ?_) (fun c88605 => ?_)
      · have w88606 := cv_le (by decide : (6 : Int32).toInt = 6) (rfl : z88598.toInt = z88598.toInt) c88605
        exact t_vret hQ X hT hfr (Nat.le_of_ble_eq_true rfl) (Nat.le_of_ble_eq_true rfl) dX1_clear_89
      · have w88607 := cv_nle (by decide : (6 : Int32).toInt = 6) (rfl : z88598.toInt = z88598.toInt) c88605
        refine lv_aload_n hx hb dX1_clear_62 rfl (lv_at hl 0 rfl) ?_
        refine t_get (C := RX1) (T := TX1) (N := 20) X hT m0 g0 rfl rfl 17 (by decide) qw_56 inlX1 rfl dX1_clear_63 (fun v88608 hv88608 ov88608 => ?_)
        obtain ⟨b88609, rfl, mb88609, gb88609⟩ := okV_r ov88608
        have gb88609 : tag b88609 = 7 := tg_of gb88609
        refine lv_iload_n hx hb dX1_clear_66 rfl (lv_at hl 1 rfl) ?_
        refine lv_iconst (v := 0) hx hb dX1_clear_67 (by decide) ?_
        refine t_ist X hT mb88609 gb88609 rfl (by omega) (show (-2147483648) ≤ (0 : Int32).toInt ∧ (0 : Int32).toInt ≤ 2147483647 from (by decide)) dX1_clear_68 (fun F H locs hT v88610 h1v88610 h2v88610 => ?_)
        have qz88599 := (h2v88610 _ _).trans qz88599
        have qz88600 := (h2v88610 _ _).trans qz88600
        have qz88601 := (h2v88610 _ _).trans qz88601
        have qz88602 := (h2v88610 _ _).trans qz88602
        have qz88603 := (h2v88610 _ _).trans qz88603
        have qz88604 := (h2v88610 _ _).trans qz88604
        have hv88608 := (h2v88610 _ _).trans hv88608
        have hfr : (∀ b j : Nat, (tag b ≠ 18 ∨ j ≠ 0) → (tag b ≠ 18 ∨ j ≠ 1) → (tag b ≠ 18 ∨ j ≠ 8) → (tag b ≠ 18 ∨ j ≠ 10) → (tag b ≠ 18 ∨ j ≠ 14) → (tag b ≠ 18 ∨ j ≠ 16) → fld F b j = fld Fo b j) ∧ EF tag F Fo := ⟨fun b j n18_0 n18_1 n18_8 n18_10 n18_14 n18_16 => (h2v88610 b j).trans (hfr.1 b j n18_0 n18_1 n18_8 n18_10 n18_14 n18_16), fun b j hb => (h1v88610 b j (Or.inl (ns_ne hb gb88609 (by decide)))).trans (hfr.2 b j hb)⟩
        refine lv_aload_n hx hb dX1_clear_69 rfl (lv_at hl 0 rfl) ?_
        refine t_get (C := RX1) (T := TX1) (N := 20) X hT m0 g0 rfl rfl 18 (by decide) qw_57 inlX1 rfl dX1_clear_70 (fun v88611 hv88611 ov88611 => ?_)
        obtain ⟨b88612, rfl, mb88612, gb88612⟩ := okV_r ov88611
        have gb88612 : tag b88612 = 7 := tg_of gb88612
        refine lv_iload_n hx hb dX1_clear_73 rfl (lv_at hl 1 rfl) ?_
        refine lv_iconst (v := (-1)) hx hb dX1_clear_74 (by decide) ?_
        refine t_ist X hT mb88612 gb88612 rfl (by omega) (show (-2147483648) ≤ ((-1) : Int32).toInt ∧ ((-1) : Int32).toInt ≤ 2147483647 from (by decide)) dX1_clear_75 (fun F H locs hT v88613 h1v88613 h2v88613 => ?_)
        have qz88599 := (h2v88613 _ _).trans qz88599
        have qz88600 := (h2v88613 _ _).trans qz88600
        have qz88601 := (h2v88613 _ _).trans qz88601
        have qz88602 := (h2v88613 _ _).trans qz88602
        have qz88603 := (h2v88613 _ _).trans qz88603
        have qz88604 := (h2v88613 _ _).trans qz88604
        have hv88608 := (h2v88613 _ _).trans hv88608
        have hv88611 := (h2v88613 _ _).trans hv88611
        have hfr : (∀ b j : Nat, (tag b ≠ 18 ∨ j ≠ 0) → (tag b ≠ 18 ∨ j ≠ 1) → (tag b ≠ 18 ∨ j ≠ 8) → (tag b ≠ 18 ∨ j ≠ 10) → (tag b ≠ 18 ∨ j ≠ 14) → (tag b ≠ 18 ∨ j ≠ 16) → fld F b j = fld Fo b j) ∧ EF tag F Fo := ⟨fun b j n18_0 n18_1 n18_8 n18_10 n18_14 n18_16 => (h2v88613 b j).trans (hfr.1 b j n18_0 n18_1 n18_8 n18_10 n18_14 n18_16), fun b j hb => (h1v88613 b j (Or.inl (ns_ne hb gb88612 (by decide)))).trans (hfr.2 b j hb)⟩
        refine lv_aload_n hx hb dX1_clear_76 rfl (lv_at hl 0 rfl) ?_
        refine t_get (C := RX1) (T := TX1) (N := 20) X hT m0 g0 rfl rfl 19 (by decide) qw_58 inlX1 rfl dX1_clear_77 (fun v88614 hv88614 ov88614 => ?_)
        obtain ⟨b88615, rfl, mb88615, gb88615⟩ := okV_r ov88614
        have gb88615 : tag b88615 = 7 := tg_of gb88615
        refine lv_iload_n hx hb dX1_clear_80 rfl (lv_at hl 1 rfl) ?_
        refine lv_iconst (v := (-1)) hx hb dX1_clear_81 (by decide) ?_
        refine t_ist X hT mb88615 gb88615 rfl (by omega) (show (-2147483648) ≤ ((-1) : Int32).toInt ∧ ((-1) : Int32).toInt ≤ 2147483647 from (by decide)) dX1_clear_82 (fun F H locs hT v88616 h1v88616 h2v88616 => ?_)
        have qz88599 := (h2v88616 _ _).trans qz88599
        have qz88600 := (h2v88616 _ _).trans qz88600
        have qz88601 := (h2v88616 _ _).trans qz88601
        have qz88602 := (h2v88616 _ _).trans qz88602
        have qz88603 := (h2v88616 _ _).trans qz88603
        have qz88604 := (h2v88616 _ _).trans qz88604
        have hv88608 := (h2v88616 _ _).trans hv88608
        have hv88611 := (h2v88616 _ _).trans hv88611
        have hv88614 := (h2v88616 _ _).trans hv88614
        have hfr : (∀ b j : Nat, (tag b ≠ 18 ∨ j ≠ 0) → (tag b ≠ 18 ∨ j ≠ 1) → (tag b ≠ 18 ∨ j ≠ 8) → (tag b ≠ 18 ∨ j ≠ 10) → (tag b ≠ 18 ∨ j ≠ 14) → (tag b ≠ 18 ∨ j ≠ 16) → fld F b j = fld Fo b j) ∧ EF tag F Fo := ⟨fun b j n18_0 n18_1 n18_8 n18_10 n18_14 n18_16 => (h2v88616 b j).trans (hfr.1 b j n18_0 n18_1 n18_8 n18_10 n18_14 n18_16), fun b j hb => (h1v88616 b j (Or.inl (ns_ne hb gb88615 (by decide)))).trans (hfr.2 b j hb)⟩
        obtain ⟨z88617, ez88617⟩ : ∃ y : Int32, y = z88598 + 1 := ⟨_, rfl⟩
        have hz88617 : z88617.toInt = z88598.toInt + 1 := ar_add ez88617 rfl (by decide : (1 : Int32).toInt = 1) (by omega) (by omega)
        refine lv_iinc (v := z88617) (lv' := [(1, .int z88617), (0, .ref p0)]) hx hb dX1_clear_83 hl (k := 1) rfl (by rw [ez88617]; rfl) (by decide) rfl (fun ls hl => ?_)
        refine lv_goto (tgt := 56) hx hb dX1_clear_86 (by decide) ?_
        exact ih56 z88617 z88599 z88600 z88601 z88602 z88603 z88604 _ _ _ _ (by omega) (by omega) (by omega) (by omega) (by omega) (by omega) (by omega) (by omega) hT hfr qz88599 qz88600 qz88601 qz88602 qz88603 qz88604 (lv_sub hl [1, 0] rfl)
  have K32 : ∀ (n : Nat) (z88618 : Int32) (z88619 : Int32) (z88620 : Int32) (z88621 : Int32) (z88622 : Int32) (z88623 : Int32) (z88624 : Int32) (F : Nat → va_E) (H : Heap) (locs : List Loc) (ls : Array Slot), (144 - z88618.toInt < (n : Int)) → (0 ≤ z88618.toInt ∧ z88618.toInt ≤ 144) → (0 ≤ z88619.toInt ∧ z88619.toInt ≤ 0) → (0 ≤ z88620.toInt ∧ z88620.toInt ≤ 0) → (0 ≤ z88621.toInt ∧ z88621.toInt ≤ 0) → (0 ≤ z88622.toInt ∧ z88622.toInt ≤ 0) → (0 ≤ z88623.toInt ∧ z88623.toInt ≤ 0) → (0 ≤ z88624.toInt ∧ z88624.toInt ≤ 0) → TH G ttC A s tag L F H locs → ((∀ b j : Nat, (tag b ≠ 18 ∨ j ≠ 0) → (tag b ≠ 18 ∨ j ≠ 1) → (tag b ≠ 18 ∨ j ≠ 8) → (tag b ≠ 18 ∨ j ≠ 10) → (tag b ≠ 18 ∨ j ≠ 14) → (tag b ≠ 18 ∨ j ≠ 16) → fld F b j = fld Fo b j) ∧ EF tag F Fo) → fld F p0 0 = .int z88619 → fld F p0 1 = .int z88620 → fld F p0 8 = .int z88621 → fld F p0 10 = .int z88622 → fld F p0 14 = .int z88623 → fld F p0 16 = .int z88624 → lv_has ls 2 [(0, .ref p0), (1, .int z88618)] → W p l e { frames := 0, cells := 0, slots := 0, locals := 0 } s m args below meth c H locs 0 0 Q (F0 m 32 ls []) := by
    intro n
    induction n with
    | zero =>
      intro z88618 z88619 z88620 z88621 z88622 z88623 z88624 F H locs ls hn rz88618 rz88619 rz88620 rz88621 rz88622 rz88623 rz88624 hT hfr qz88619 qz88620 qz88621 qz88622 qz88623 qz88624 hl
      exfalso
      omega
    | succ n ih32 =>
      intro z88618 z88619 z88620 z88621 z88622 z88623 z88624 F H locs ls hn rz88618 rz88619 rz88620 rz88621 rz88622 rz88623 rz88624 hT hfr qz88619 qz88620 qz88621 qz88622 qz88623 qz88624 hl
      refine lv_iload_n hx hb dX1_clear_32 rfl (lv_at hl 1 rfl) ?_
      refine lv_aload_n hx hb dX1_clear_33 rfl (lv_at hl 0 rfl) ?_
      refine t_get (C := RX1) (T := TX1) (N := 20) X hT m0 g0 rfl rfl 7 (by decide) qw_50 inlX1 rfl dX1_clear_34 (fun v88625 hv88625 ov88625 => ?_)
      obtain ⟨b88626, rfl, mb88626, gb88626⟩ := okV_r ov88625
      have gb88626 : tag b88626 = 2 := tg_of gb88626
      refine t_alen X hT mb88626 gb88626 rfl (by decide) dX1_clear_37 ?_
      refine lv_topi (fun z88627 ez88627 => ?_)
      obtain rfl : z88627 = 144 := ez88627.trans (by rfl)
      refine lv_icmp_ge (tgt := 54) hx hb dX1_clear_38 (by decide) (fun c88628 => ?_) (fun c88628 => ?_)
      · have w88629 := cv_le (by decide : (144 : Int32).toInt = 144) (rfl : z88618.toInt = z88618.toInt) c88628
        refine lv_iconst (v := 0) hx hb dX1_clear_54 (by decide) ?_
        refine lv_istore_n (lv' := [(1, .int 0), (0, .ref p0)]) hx hb dX1_clear_55 rfl hl (by decide) rfl (fun ls hl => ?_)
        have kk88630 : (0 : Int32).toInt = 0 := by decide
        exact K56 7 0 z88619 z88620 z88621 z88622 z88623 z88624 _ _ _ _ (by omega) (by decide) (by omega) (by omega) (by omega) (by omega) (by omega) (by omega) hT hfr qz88619 qz88620 qz88621 qz88622 qz88623 qz88624 (lv_sub hl [1, 0] rfl)
      · have w88631 := cv_nle (by decide : (144 : Int32).toInt = 144) (rfl : z88618.toInt = z88618.toInt) c88628
        refine lv_aload_n hx hb dX1_clear_41 rfl (lv_at hl 0 rfl) ?_
        refine t_get (C := RX1) (T := TX1) (N := 20) X hT m0 g0 rfl rfl 7 (by decide) qw_50 inlX1 rfl dX1_clear_42 (fun v88632 hv88632 ov88632 => ?_)
        obtain rfl : v88632 = .ref b88626 := hv88632.symm.trans hv88625
        refine lv_iload_n hx hb dX1_clear_45 rfl (lv_at hl 1 rfl) ?_
        refine lv_iconst (v := 0) hx hb dX1_clear_46 (by decide) ?_
        refine t_zst X hT mb88626 gb88626 rfl (by omega) (show 0 ≤ (vp_nar .boolean 0).toInt ∧ (vp_nar .boolean 0).toInt ≤ 1 from (by decide)) dX1_clear_47 (fun F H locs hT v88633 h1v88633 h2v88633 => ?_)
        have qz88619 := (h2v88633 _ _).trans qz88619
        have qz88620 := (h2v88633 _ _).trans qz88620
        have qz88621 := (h2v88633 _ _).trans qz88621
        have qz88622 := (h2v88633 _ _).trans qz88622
        have qz88623 := (h2v88633 _ _).trans qz88623
        have qz88624 := (h2v88633 _ _).trans qz88624
        have hv88625 := (h2v88633 _ _).trans hv88625
        have hfr : (∀ b j : Nat, (tag b ≠ 18 ∨ j ≠ 0) → (tag b ≠ 18 ∨ j ≠ 1) → (tag b ≠ 18 ∨ j ≠ 8) → (tag b ≠ 18 ∨ j ≠ 10) → (tag b ≠ 18 ∨ j ≠ 14) → (tag b ≠ 18 ∨ j ≠ 16) → fld F b j = fld Fo b j) ∧ EF tag F Fo := ⟨fun b j n18_0 n18_1 n18_8 n18_10 n18_14 n18_16 => (h2v88633 b j).trans (hfr.1 b j n18_0 n18_1 n18_8 n18_10 n18_14 n18_16), fun b j hb => (h1v88633 b j (Or.inl (ns_ne hb gb88626 (by decide)))).trans (hfr.2 b j hb)⟩
        obtain ⟨z88634, ez88634⟩ : ∃ y : Int32, y = z88618 + 1 := ⟨_, rfl⟩
        have hz88634 : z88634.toInt = z88618.toInt + 1 := ar_add ez88634 rfl (by decide : (1 : Int32).toInt = 1) (by omega) (by omega)
        refine lv_iinc (v := z88634) (lv' := [(1, .int z88634), (0, .ref p0)]) hx hb dX1_clear_48 hl (k := 1) rfl (by rw [ez88634]; rfl) (by decide) rfl (fun ls hl => ?_)
        refine lv_goto (tgt := 32) hx hb dX1_clear_51 (by decide) ?_
        exact ih32 z88634 z88619 z88620 z88621 z88622 z88623 z88624 _ _ _ _ (by omega) (by omega) (by omega) (by omega) (by omega) (by omega) (by omega) (by omega) hT hfr qz88619 qz88620 qz88621 qz88622 qz88623 qz88624 (lv_sub hl [1, 0] rfl)
  refine lv_aload_n hx hb dX1_clear_0 rfl (lv_at hl 0 rfl) ?_
  refine lv_iconst (v := 0) hx hb dX1_clear_1 (by decide) ?_
  refine t_put (C := RX1) (T := TX1) (N := 20) (v := .int 0) X hT m0 g0 rfl tyX1 tyX1_ok nmX1 rfl 0 (by decide) qw_177 inlX1 rfl (by first | rfl | decide) (by first | rfl | decide) rfl (⟨_, rfl, (show 0 ≤ (0 : Int32).toInt from (by decide)), (show (0 : Int32).toInt ≤ 12 from (by decide))⟩) dX1_clear_2 (fun F H locs hT v88635 h1v88635 h2v88635 => ?_)
  have hfr : (∀ b j : Nat, (tag b ≠ 18 ∨ j ≠ 0) → (tag b ≠ 18 ∨ j ≠ 1) → (tag b ≠ 18 ∨ j ≠ 8) → (tag b ≠ 18 ∨ j ≠ 10) → (tag b ≠ 18 ∨ j ≠ 14) → (tag b ≠ 18 ∨ j ≠ 16) → fld F b j = fld Fo b j) ∧ EF tag F Fo := ⟨fun b j n18_0 n18_1 n18_8 n18_10 n18_14 n18_16 => (h1v88635 b j (fr_ne g0 n18_0)).trans (hfr.1 b j n18_0 n18_1 n18_8 n18_10 n18_14 n18_16), fun b j hb => (h2v88635 b j).trans (hfr.2 b j hb)⟩
  refine lv_aload_n hx hb dX1_clear_5 rfl (lv_at hl 0 rfl) ?_
  refine lv_iconst (v := 0) hx hb dX1_clear_6 (by decide) ?_
  refine t_put (C := RX1) (T := TX1) (N := 20) (v := .int 0) X hT m0 g0 rfl tyX1 tyX1_ok nmX1 rfl 1 (by decide) qw_178 inlX1 rfl (by first | rfl | decide) (by first | rfl | decide) rfl (⟨_, rfl, (show 0 ≤ (0 : Int32).toInt from (by decide)), (show (0 : Int32).toInt ≤ 12 from (by decide))⟩) dX1_clear_7 (fun F H locs hT v88636 h1v88636 h2v88636 => ?_)
  have v88635 := (h1v88636 _ _ (Or.inr (by decide))).trans v88635
  have hfr : (∀ b j : Nat, (tag b ≠ 18 ∨ j ≠ 0) → (tag b ≠ 18 ∨ j ≠ 1) → (tag b ≠ 18 ∨ j ≠ 8) → (tag b ≠ 18 ∨ j ≠ 10) → (tag b ≠ 18 ∨ j ≠ 14) → (tag b ≠ 18 ∨ j ≠ 16) → fld F b j = fld Fo b j) ∧ EF tag F Fo := ⟨fun b j n18_0 n18_1 n18_8 n18_10 n18_14 n18_16 => (h1v88636 b j (fr_ne g0 n18_1)).trans (hfr.1 b j n18_0 n18_1 n18_8 n18_10 n18_14 n18_16), fun b j hb => (h2v88636 b j).trans (hfr.2 b j hb)⟩
  refine lv_aload_n hx hb dX1_clear_10 rfl (lv_at hl 0 rfl) ?_
  refine lv_iconst (v := 0) hx hb dX1_clear_11 (by decide) ?_
  refine t_put (C := RX1) (T := TX1) (N := 20) (v := .int 0) X hT m0 g0 rfl tyX1 tyX1_ok nmX1 rfl 8 (by decide) qw_179 inlX1 rfl (by first | rfl | decide) (by first | rfl | decide) rfl (⟨_, rfl, (show (-2147483648) ≤ (0 : Int32).toInt from (by decide)), (show (0 : Int32).toInt ≤ 2147483647 from (by decide))⟩) dX1_clear_12 (fun F H locs hT v88637 h1v88637 h2v88637 => ?_)
  have v88635 := (h1v88637 _ _ (Or.inr (by decide))).trans v88635
  have v88636 := (h1v88637 _ _ (Or.inr (by decide))).trans v88636
  have hfr : (∀ b j : Nat, (tag b ≠ 18 ∨ j ≠ 0) → (tag b ≠ 18 ∨ j ≠ 1) → (tag b ≠ 18 ∨ j ≠ 8) → (tag b ≠ 18 ∨ j ≠ 10) → (tag b ≠ 18 ∨ j ≠ 14) → (tag b ≠ 18 ∨ j ≠ 16) → fld F b j = fld Fo b j) ∧ EF tag F Fo := ⟨fun b j n18_0 n18_1 n18_8 n18_10 n18_14 n18_16 => (h1v88637 b j (fr_ne g0 n18_8)).trans (hfr.1 b j n18_0 n18_1 n18_8 n18_10 n18_14 n18_16), fun b j hb => (h2v88637 b j).trans (hfr.2 b j hb)⟩
  refine lv_aload_n hx hb dX1_clear_15 rfl (lv_at hl 0 rfl) ?_
  refine lv_iconst (v := 0) hx hb dX1_clear_16 (by decide) ?_
  refine t_put (C := RX1) (T := TX1) (N := 20) (v := .int 0) X hT m0 g0 rfl tyX1 tyX1_ok nmX1 rfl 10 (by decide) qw_180 inlX1 rfl (by first | rfl | decide) (by first | rfl | decide) rfl (⟨_, rfl, (show 0 ≤ (0 : Int32).toInt from (by decide)), (show (0 : Int32).toInt ≤ 4 from (by decide))⟩) dX1_clear_17 (fun F H locs hT v88638 h1v88638 h2v88638 => ?_)
  have v88635 := (h1v88638 _ _ (Or.inr (by decide))).trans v88635
  have v88636 := (h1v88638 _ _ (Or.inr (by decide))).trans v88636
  have v88637 := (h1v88638 _ _ (Or.inr (by decide))).trans v88637
  have hfr : (∀ b j : Nat, (tag b ≠ 18 ∨ j ≠ 0) → (tag b ≠ 18 ∨ j ≠ 1) → (tag b ≠ 18 ∨ j ≠ 8) → (tag b ≠ 18 ∨ j ≠ 10) → (tag b ≠ 18 ∨ j ≠ 14) → (tag b ≠ 18 ∨ j ≠ 16) → fld F b j = fld Fo b j) ∧ EF tag F Fo := ⟨fun b j n18_0 n18_1 n18_8 n18_10 n18_14 n18_16 => (h1v88638 b j (fr_ne g0 n18_10)).trans (hfr.1 b j n18_0 n18_1 n18_8 n18_10 n18_14 n18_16), fun b j hb => (h2v88638 b j).trans (hfr.2 b j hb)⟩
  refine lv_aload_n hx hb dX1_clear_20 rfl (lv_at hl 0 rfl) ?_
  refine lv_iconst (v := 0) hx hb dX1_clear_21 (by decide) ?_
  refine t_put (C := RX1) (T := TX1) (N := 20) (v := .int 0) X hT m0 g0 rfl tyX1 tyX1_ok nmX1 rfl 14 (by decide) qw_181 inlX1 rfl (by first | rfl | decide) (by first | rfl | decide) rfl (⟨_, rfl, (show 0 ≤ (0 : Int32).toInt from (by decide)), (show (0 : Int32).toInt ≤ 6 from (by decide))⟩) dX1_clear_22 (fun F H locs hT v88639 h1v88639 h2v88639 => ?_)
  have v88635 := (h1v88639 _ _ (Or.inr (by decide))).trans v88635
  have v88636 := (h1v88639 _ _ (Or.inr (by decide))).trans v88636
  have v88637 := (h1v88639 _ _ (Or.inr (by decide))).trans v88637
  have v88638 := (h1v88639 _ _ (Or.inr (by decide))).trans v88638
  have hfr : (∀ b j : Nat, (tag b ≠ 18 ∨ j ≠ 0) → (tag b ≠ 18 ∨ j ≠ 1) → (tag b ≠ 18 ∨ j ≠ 8) → (tag b ≠ 18 ∨ j ≠ 10) → (tag b ≠ 18 ∨ j ≠ 14) → (tag b ≠ 18 ∨ j ≠ 16) → fld F b j = fld Fo b j) ∧ EF tag F Fo := ⟨fun b j n18_0 n18_1 n18_8 n18_10 n18_14 n18_16 => (h1v88639 b j (fr_ne g0 n18_14)).trans (hfr.1 b j n18_0 n18_1 n18_8 n18_10 n18_14 n18_16), fun b j hb => (h2v88639 b j).trans (hfr.2 b j hb)⟩
  refine lv_aload_n hx hb dX1_clear_25 rfl (lv_at hl 0 rfl) ?_
  refine lv_iconst (v := 0) hx hb dX1_clear_26 (by decide) ?_
  refine t_put (C := RX1) (T := TX1) (N := 20) (v := .int 0) X hT m0 g0 rfl tyX1 tyX1_ok nmX1 rfl 16 (by decide) qw_182 inlX1 rfl (by first | rfl | decide) (by first | rfl | decide) rfl (⟨_, rfl, (show 0 ≤ (0 : Int32).toInt from (by decide)), (show (0 : Int32).toInt ≤ 6 from (by decide))⟩) dX1_clear_27 (fun F H locs hT v88640 h1v88640 h2v88640 => ?_)
  have v88635 := (h1v88640 _ _ (Or.inr (by decide))).trans v88635
  have v88636 := (h1v88640 _ _ (Or.inr (by decide))).trans v88636
  have v88637 := (h1v88640 _ _ (Or.inr (by decide))).trans v88637
  have v88638 := (h1v88640 _ _ (Or.inr (by decide))).trans v88638
  have v88639 := (h1v88640 _ _ (Or.inr (by decide))).trans v88639
  have hfr : (∀ b j : Nat, (tag b ≠ 18 ∨ j ≠ 0) → (tag b ≠ 18 ∨ j ≠ 1) → (tag b ≠ 18 ∨ j ≠ 8) → (tag b ≠ 18 ∨ j ≠ 10) → (tag b ≠ 18 ∨ j ≠ 14) → (tag b ≠ 18 ∨ j ≠ 16) → fld F b j = fld Fo b j) ∧ EF tag F Fo := ⟨fun b j n18_0 n18_1 n18_8 n18_10 n18_14 n18_16 => (h1v88640 b j (fr_ne g0 n18_16)).trans (hfr.1 b j n18_0 n18_1 n18_8 n18_10 n18_14 n18_16), fun b j hb => (h2v88640 b j).trans (hfr.2 b j hb)⟩
  refine lv_iconst (v := 0) hx hb dX1_clear_30 (by decide) ?_
  refine lv_istore_n (lv' := [(1, .int 0), (0, .ref p0)]) hx hb dX1_clear_31 rfl hl (by decide) rfl (fun ls hl => ?_)
  have kk88641 : (0 : Int32).toInt = 0 := by decide
  exact K32 145 0 0 0 0 0 0 0 _ _ _ _ (by omega) (by decide) (by decide) (by decide) (by decide) (by decide) (by decide) (by decide) hT hfr v88635 v88636 v88637 v88638 v88639 v88640 (lv_sub hl [1, 0] rfl)
