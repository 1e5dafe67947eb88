set_option maxHeartbeats 4000000 in
set_option maxRecDepth 100000 in
theorem kt434_X8_isWord (l : Launch) (G : KG) (tag : Nat → Nat) (L : List Nat) (F : Nat → va_E) (ho : okT G ttC tag L F) (p0 : Nat) (p1 : Nat) (x0 : Nat) (m0 : p0 ∈ L) (g0 : tag p0 = 24) (h1 : p1 < 77) (mx0 : x0 ∈ L) (gx0 : tag x0 = 1) (pf0 : fld F p0 0 = .ref x0) : TMi l yX8_isWord cX8_isWord 4 (some .boolean) { frames := 4, cells := 0, slots := 0, locals := 85 } G ttC tag L F [.ref p0, .ref (G.2 (100 + p1))] (fun r F1 => F1 = F ∧ (0 ≤ r.toInt ∧ r.toInt ≤ 1)) := by
  refine t_bodyi (y := yX8_isWord) (cd := cX8_isWord) (mL := 4) (rt := (some .boolean)) (rm := { frames := 4, cells := 0, slots := 0, locals := 85 }) (av := [.ref p0, .ref (G.2 (100 + p1))]) (by decide) (Nat.le_of_ble_eq_true rfl) ho ?_
  intro p e s m args below meth c ls A Q hQ X hT hl
  have hx := X.1.1
  have hb := X.1.2.1
  have hl : lv_has ls 4 [(0, .ref p0), (1, .ref (G.2 (100 + p1)))] := hl
  have K28 : ∀ (n : Nat) (z138296 : Int32) (z138297 : Int32) (z138298 : Int32) (z138299 : Int32) (H : Heap) (locs : List Loc) (ls : Array Slot), (8 - z138296.toInt < (n : Int)) → (0 ≤ z138296.toInt ∧ z138296.toInt ≤ 8) → (1 ≤ z138297.toInt ∧ z138297.toInt ≤ 1) → (0 ≤ z138298.toInt ∧ z138298.toInt ≤ 1000) → (0 ≤ z138299.toInt ∧ z138299.toInt ≤ 1000) → TH G ttC A s tag L F H locs → fld F p0 3 = .int z138297 → fld F p0 2 = .int z138298 → fld F p0 4 = .int z138299 → lv_has ls 4 [(0, .ref p0), (1, .ref (G.2 (100 + p1))), (2, .int z138296)] → W p l e { frames := 4, cells := 0, slots := 0, locals := 85 } s m args below meth c H locs 0 0 Q (F0 m 28 ls []) := by
    intro n
    induction n with
    | zero =>
      intro z138296 z138297 z138298 z138299 H locs ls hn rz138296 rz138297 rz138298 rz138299 hT qz138297 qz138298 qz138299 hl
      exfalso
      omega
    | succ n ih28 =>
      intro z138296 z138297 z138298 z138299 H locs ls hn rz138296 rz138297 rz138298 rz138299 hT qz138297 qz138298 qz138299 hl
      refine lv_iload_n hx hb dX8_isWord_28 rfl (lv_at hl 2 rfl) ?_
      refine lv_aload_n hx hb dX8_isWord_29 rfl (lv_at hl 1 rfl) ?_
      refine t_cKi (n := 0) (As := []) (rest := [.int z138296]) X hT (kt1_J0_length_8abf5 l G tag L F hT.2.2.2 p1 h1) h1 qw_238 qw_239 qw_240 qw_241 qw_242 ⟨rfl, by decide +kernel, by decide +kernel, by decide +kernel⟩ ⟨Nat.le_of_ble_eq_true rfl, Nat.le_of_ble_eq_true rfl⟩ hl rfl rfl (Nat.le_of_ble_eq_true rfl) dX8_isWord_30 ⟨Nat.le_of_ble_eq_true rfl, Nat.le_of_ble_eq_true rfl⟩ (fun z138300 F9 H locs hT hz138300 => ?_)
      obtain ⟨fz138300, hz138300, xz138300_0⟩ := hz138300
      rw [fz138300] at hT
      refine lv_icmp_ge (tgt := 74) hx hb dX8_isWord_33 (by decide) (fun c138301 => ?_) (fun c138301 => ?_)
      · have w138302 := cv_le (rfl : z138300.toInt = z138300.toInt) (rfl : z138296.toInt = z138296.toInt) c138301
        refine lv_iconst (v := 1) hx hb dX8_isWord_74 (by decide) ?_
        exact t_zret hQ X hT (by decide) (⟨rfl, (by decide)⟩) (Nat.le_of_ble_eq_true rfl) (Nat.le_of_ble_eq_true rfl) dX8_isWord_75
      · have w138303 := cv_nle (rfl : z138300.toInt = z138300.toInt) (rfl : z138296.toInt = z138296.toInt) c138301
        refine lv_aload_n hx hb dX8_isWord_36 rfl (lv_at hl 0 rfl) ?_
        refine t_get (C := RX8) (T := TX8) (N := 8) X hT m0 g0 rfl rfl 4 (by decide) qw_200 inlX8 rfl dX8_isWord_37 (fun v138304 hv138304 ov138304 => ?_)
        obtain rfl : v138304 = .int z138299 := hv138304.symm.trans qz138299
        refine lv_iload_n hx hb dX8_isWord_40 rfl (lv_at hl 2 rfl) ?_
        refine lv_iadd hx hb dX8_isWord_41 ?_
        refine lv_topi (fun z138305 ez138305 => ?_)
        have hz138305 : z138305.toInt = z138299.toInt + z138296.toInt := ar_add ez138305 (rfl : z138299.toInt = z138299.toInt) (rfl : z138296.toInt = z138296.toInt) (by omega) (by omega)
        have rz138305 : 0 ≤ z138305.toInt ∧ z138305.toInt ≤ 1007 := by omega
        refine lv_istore_n (lv' := [(3, .int z138305), (0, .ref p0), (1, .ref (G.2 (100 + p1))), (2, .int z138296)]) hx hb dX8_isWord_42 rfl hl (by decide) rfl (fun ls hl => ?_)
        refine lv_iload_n hx hb dX8_isWord_43 rfl (lv_at hl 0 rfl) ?_
        refine lv_aload_n hx hb dX8_isWord_44 rfl (lv_at hl 1 rfl) ?_
        refine t_get (C := RX8) (T := TX8) (N := 8) X hT m0 g0 rfl rfl 0 (by decide) qw_193 inlX8 rfl dX8_isWord_45 (fun v138306 hv138306 ov138306 => ?_)
        obtain rfl : v138306 = .ref x0 := hv138306.symm.trans pf0
        refine t_alen X hT mx0 gx0 rfl (by decide) dX8_isWord_48 ?_
        refine lv_topi (fun z138307 ez138307 => ?_)
        obtain rfl : z138307 = 1000 := ez138307.trans (by rfl)
        refine lv_icmp_ge (tgt := 66) hx hb dX8_isWord_49 (by decide) (fun c138308 => ?_) (fun c138308 => ?_)
        · have w138309 := cv_le (by decide : (1000 : Int32).toInt = 1000) (rfl : z138305.toInt = z138305.toInt) c138308
          refine lv_iconst (v := 0) hx hb dX8_isWord_66 (by decide) ?_
          exact t_zret hQ X hT (by decide) (⟨rfl, (by decide)⟩) (Nat.le_of_ble_eq_true rfl) (Nat.le_of_ble_eq_true rfl) dX8_isWord_67
        · have w138310 := cv_nle (by decide : (1000 : Int32).toInt = 1000) (rfl : z138305.toInt = z138305.toInt) c138308
          refine lv_aload_n hx hb dX8_isWord_52 rfl (lv_at hl 1 rfl) ?_
          refine t_get (C := RX8) (T := TX8) (N := 8) X hT m0 g0 rfl rfl 0 (by decide) qw_193 inlX8 rfl dX8_isWord_53 (fun v138311 hv138311 ov138311 => ?_)
          obtain rfl : v138311 = .ref x0 := hv138311.symm.trans pf0
          refine lv_iload_n hx hb dX8_isWord_56 rfl (lv_at hl 0 rfl) ?_
          refine t_ild X hT mx0 gx0 rfl (by omega) dX8_isWord_57 (fun z138312 vz138312 rz138312 => ?_)
          have rz138312 : 0 ≤ z138312.toInt ∧ z138312.toInt ≤ 255 := rz138312
          refine lv_aload_n hx hb dX8_isWord_58 rfl (lv_at hl 2 rfl) ?_
          refine lv_iload_n hx hb dX8_isWord_59 rfl (lv_at hl 3 rfl) ?_
          refine t_cKi (n := 1) (As := [.int z138296]) (rest := [.int z138312]) X hT (kt7_J0_charAt_5068e l G tag L F hT.2.2.2 p1 z138296 h1 (by omega) (by omega)) h1 qw_250 qw_251 qw_252 qw_241 qw_253 ⟨rfl, by decide +kernel, by decide +kernel, by decide +kernel⟩ ⟨Nat.le_of_ble_eq_true rfl, Nat.le_of_ble_eq_true rfl⟩ hl rfl rfl (Nat.le_of_ble_eq_true rfl) dX8_isWord_60 ⟨Nat.le_of_ble_eq_true rfl, Nat.le_of_ble_eq_true rfl⟩ (fun z138313 F9 H locs hT hz138313 => ?_)
          obtain ⟨fz138313, hz138313, xz138313_0⟩ := hz138313
          rw [fz138313] at hT
          refine lv_icmp_eq (tgt := 68) hx hb dX8_isWord_63 (by decide) (fun c138314 => ?_) (fun c138314 => ?_)
          · have w138315 := cv_eq (rfl : z138312.toInt = z138312.toInt) (rfl : z138313.toInt = z138313.toInt) c138314
            obtain ⟨z138316, ez138316⟩ : ∃ y : Int32, y = z138296 + 1 := ⟨_, rfl⟩
            have hz138316 : z138316.toInt = z138296.toInt + 1 := ar_add ez138316 rfl (by decide : (1 : Int32).toInt = 1) (by omega) (by omega)
            refine lv_iinc (v := z138316) (lv' := [(2, .int z138316), (3, .int z138305), (0, .ref p0), (1, .ref (G.2 (100 + p1)))]) hx hb dX8_isWord_68 hl (k := 3) rfl (by rw [ez138316]; rfl) (by decide) rfl (fun ls hl => ?_)
            refine lv_goto (tgt := 28) hx hb dX8_isWord_71 (by decide) ?_
            exact ih28 z138316 z138297 z138298 z138299 _ _ _ (by omega) (by omega) (by omega) (by omega) (by omega) hT qz138297 qz138298 qz138299 (lv_sub hl [2, 3, 0] rfl)
          · have w138317 := cv_ne (rfl : z138312.toInt = z138312.toInt) (rfl : z138313.toInt = z138313.toInt) c138314
            refine lv_iconst (v := 0) hx hb dX8_isWord_66 (by decide) ?_
            exact t_zret hQ X hT (by decide) (⟨rfl, (by decide)⟩) (Nat.le_of_ble_eq_true rfl) (Nat.le_of_ble_eq_true rfl) dX8_isWord_67
  refine lv_aload_n hx hb dX8_isWord_0 rfl (lv_at hl 0 rfl) ?_
  refine t_get (C := RX8) (T := TX8) (N := 8) X hT m0 g0 rfl rfl 3 (by decide) qw_202 inlX8 rfl dX8_isWord_1 (fun v138318 hv138318 ov138318 => ?_)
  obtain ⟨z138319, rfl, rz138319⟩ := okV_i ov138318
  refine lv_iconst (v := 1) hx hb dX8_isWord_4 (by decide) ?_
  refine lv_icmp_ne (tgt := 24) hx hb dX8_isWord_5 (by decide) (fun c138320 => ?_) (fun c138320 => ?_)
  · have w138321 := cv_ne (rfl : z138319.toInt = z138319.toInt) (by decide : (1 : Int32).toInt = 1) c138320
    refine lv_iconst (v := 0) hx hb dX8_isWord_24 (by decide) ?_
    exact t_zret hQ X hT (by decide) (⟨rfl, (by decide)⟩) (Nat.le_of_ble_eq_true rfl) (Nat.le_of_ble_eq_true rfl) dX8_isWord_25
  · have w138322 := cv_eq (rfl : z138319.toInt = z138319.toInt) (by decide : (1 : Int32).toInt = 1) c138320
    refine lv_aload_n hx hb dX8_isWord_8 rfl (lv_at hl 0 rfl) ?_
    refine t_get (C := RX8) (T := TX8) (N := 8) X hT m0 g0 rfl rfl 2 (by decide) qw_195 inlX8 rfl dX8_isWord_9 (fun v138323 hv138323 ov138323 => ?_)
    obtain ⟨z138324, rfl, rz138324⟩ := okV_i ov138323
    refine lv_aload_n hx hb dX8_isWord_12 rfl (lv_at hl 0 rfl) ?_
    refine t_get (C := RX8) (T := TX8) (N := 8) X hT m0 g0 rfl rfl 4 (by decide) qw_200 inlX8 rfl dX8_isWord_13 (fun v138325 hv138325 ov138325 => ?_)
    obtain ⟨z138326, rfl, rz138326⟩ := okV_i ov138325
    refine lv_isub hx hb dX8_isWord_16 ?_
    refine lv_topi (fun z138327 ez138327 => ?_)
    have hz138327 : z138327.toInt = z138324.toInt - z138326.toInt := ar_sub ez138327 (rfl : z138324.toInt = z138324.toInt) (rfl : z138326.toInt = z138326.toInt) (by omega) (by omega)
    have rz138327 : (-1000) ≤ z138327.toInt ∧ z138327.toInt ≤ 1000 := by omega
    refine lv_aload_n hx hb dX8_isWord_17 rfl (lv_at hl 1 rfl) ?_
    refine t_cKi (n := 0) (As := []) (rest := [.int z138327]) X hT (kt1_J0_length_8abf5 l G tag L F hT.2.2.2 p1 h1) h1 qw_238 qw_239 qw_240 qw_241 qw_242 ⟨rfl, by decide +kernel, by decide +kernel, by decide +kernel⟩ ⟨Nat.le_of_ble_eq_true rfl, Nat.le_of_ble_eq_true rfl⟩ hl rfl rfl (Nat.le_of_ble_eq_true rfl) dX8_isWord_18 ⟨Nat.le_of_ble_eq_true rfl, Nat.le_of_ble_eq_true rfl⟩ (fun z138328 F9 H locs hT hz138328 => ?_)
    obtain ⟨fz138328, hz138328, xz138328_0⟩ := hz138328
    rw [fz138328] at hT
    refine lv_icmp_eq (tgt := 26) hx hb dX8_isWord_21 (by decide) (fun c138329 => ?_) (fun c138329 => ?_)
    · have w138330 := cv_eq (rfl : z138327.toInt = z138327.toInt) (rfl : z138328.toInt = z138328.toInt) c138329
      refine lv_iconst (v := 0) hx hb dX8_isWord_26 (by decide) ?_
      refine lv_istore_n (lv' := [(2, .int 0), (0, .ref p0), (1, .ref (G.2 (100 + p1)))]) hx hb dX8_isWord_27 rfl hl (by decide) rfl (fun ls hl => ?_)
      have kk138331 : (0 : Int32).toInt = 0 := by decide
      exact K28 9 0 z138319 z138324 z138326 _ _ _ (by omega) (by decide) (by omega) (by omega) (by omega) hT hv138318 hv138323 hv138325 (lv_sub hl [1, 2, 0] rfl)
    · have w138332 := cv_ne (rfl : z138327.toInt = z138327.toInt) (rfl : z138328.toInt = z138328.toInt) c138329
      refine lv_iconst (v := 0) hx hb dX8_isWord_24 (by decide) ?_
      exact t_zret hQ X hT (by decide) (⟨rfl, (by decide)⟩) (Nat.le_of_ble_eq_true rfl) (Nat.le_of_ble_eq_true rfl) dX8_isWord_25
set_option maxHeartbeats 4000000 in
set_option maxRecDepth 100000 in
theorem kt435_X8_byteAt (l : Launch) (G : KG) (tag : Nat → Nat) (L : List Nat) (F : Nat → va_E) (ho : okT G ttC tag L F) (p0 : Nat) (p1 : Int32) (x0 : Nat) (m0 : p0 ∈ L) (g0 : tag p0 = 24) (mx0 : x0 ∈ L) (gx0 : tag x0 = 1) (pf0 : fld F p0 0 = .ref x0) : TMi l yX8_byteAt cX8_byteAt 2 (some .int) { frames := 0, cells := 0, slots := 0, locals := 0 } G ttC tag L F [.ref p0, .int p1] (fun r F1 => F1 = F ∧ (((-1) ≤ r.toInt ∧ r.toInt ≤ 255) ∧ (r.toInt ≠ (-1) → (0 ≤ p1.toInt ∧ p1.toInt ≤ 999)))) := by
  refine t_bodyi (y := yX8_byteAt) (cd := cX8_byteAt) (mL := 2) (rt := (some .int)) (rm := { frames := 0, cells := 0, slots := 0, locals := 0 }) (av := [.ref p0, .int p1]) (by decide) (Nat.le_of_ble_eq_true rfl) ho ?_
  intro p e s m args below meth c ls A Q hQ X hT hl
  have hx := X.1.1
  have hb := X.1.2.1
  have hl : lv_has ls 2 [(0, .ref p0), (1, .int p1)] := hl
  have rp1 := rg_all p1
  refine lv_iload_n hx hb dX8_byteAt_0 rfl (lv_at hl 1 rfl) ?_
  refine lv_if_lt (tgt := 30) hx hb dX8_byteAt_1 (by decide) (fun c138571 => ?_) (fun c138571 => ?_)
  · have w138572 := cv_lt (rfl : p1.toInt = p1.toInt) (by decide : (0 : Int32).toInt = 0) c138571
    refine lv_iconst (v := (-1)) hx hb dX8_byteAt_30 (by decide) ?_
    exact t_iret hQ X hT (⟨rfl, ⟨(by decide), fun h => absurd (by decide) h⟩⟩) (Nat.le_of_ble_eq_true rfl) (Nat.le_of_ble_eq_true rfl) dX8_byteAt_31
  · have w138573 := cv_nlt (rfl : p1.toInt = p1.toInt) (by decide : (0 : Int32).toInt = 0) c138571
    refine lv_iload_n hx hb dX8_byteAt_4 rfl (lv_at hl 1 rfl) ?_
    refine lv_aload_n hx hb dX8_byteAt_5 rfl (lv_at hl 0 rfl) ?_
    refine t_get (C := RX8) (T := TX8) (N := 8) X hT m0 g0 rfl rfl 1 (by decide) qw_194 inlX8 rfl dX8_byteAt_6 (fun v138574 hv138574 ov138574 => ?_)
    obtain ⟨z138575, rfl, rz138575⟩ := okV_i ov138574
    refine lv_icmp_ge (tgt := 30) hx hb dX8_byteAt_9 (by decide) (fun c138576 => ?_) (fun c138576 => ?_)
    · have w138577 := cv_le (rfl : z138575.toInt = z138575.toInt) (rfl : p1.toInt = p1.toInt) c138576
      refine lv_iconst (v := (-1)) hx hb dX8_byteAt_30 (by decide) ?_
      exact t_iret hQ X hT (⟨rfl, ⟨(by decide), fun h => absurd (by decide) h⟩⟩) (Nat.le_of_ble_eq_true rfl) (Nat.le_of_ble_eq_true rfl) dX8_byteAt_31
    · have w138578 := cv_nle (rfl : z138575.toInt = z138575.toInt) (rfl : p1.toInt = p1.toInt) c138576
      refine lv_iload_n hx hb dX8_byteAt_12 rfl (lv_at hl 1 rfl) ?_
      refine lv_aload_n hx hb dX8_byteAt_13 rfl (lv_at hl 0 rfl) ?_
      refine t_get (C := RX8) (T := TX8) (N := 8) X hT m0 g0 rfl rfl 0 (by decide) qw_193 inlX8 rfl dX8_byteAt_14 (fun v138579 hv138579 ov138579 => ?_)
      obtain rfl : v138579 = .ref x0 := hv138579.symm.trans pf0
      refine t_alen X hT mx0 gx0 rfl (by decide) dX8_byteAt_17 ?_
      refine lv_topi (fun z138580 ez138580 => ?_)
      obtain rfl : z138580 = 1000 := ez138580.trans (by rfl)
      refine lv_icmp_ge (tgt := 30) hx hb dX8_byteAt_18 (by decide) (fun c138581 => ?_) (fun c138581 => ?_)
      · have w138582 := cv_le (by decide : (1000 : Int32).toInt = 1000) (rfl : p1.toInt = p1.toInt) c138581
        exfalso
        omega
      · have w138583 := cv_nle (by decide : (1000 : Int32).toInt = 1000) (rfl : p1.toInt = p1.toInt) c138581
        refine lv_aload_n hx hb dX8_byteAt_21 rfl (lv_at hl 0 rfl) ?_
        refine t_get (C := RX8) (T := TX8) (N := 8) X hT m0 g0 rfl rfl 0 (by decide) qw_193 inlX8 rfl dX8_byteAt_22 (fun v138584 hv138584 ov138584 => ?_)
        obtain rfl : v138584 = .ref x0 := hv138584.symm.trans pf0
        refine lv_iload_n hx hb dX8_byteAt_25 rfl (lv_at hl 1 rfl) ?_
        refine t_ild X hT mx0 gx0 rfl (by omega) dX8_byteAt_26 (fun z138585 vz138585 rz138585 => ?_)
        have rz138585 : 0 ≤ z138585.toInt ∧ z138585.toInt ≤ 255 := rz138585
        refine lv_goto (tgt := 31) hx hb dX8_byteAt_27 (by decide) ?_
        exact t_iret hQ X hT (⟨rfl, ⟨(by omega), fun _ => by omega⟩⟩) (Nat.le_of_ble_eq_true rfl) (Nat.le_of_ble_eq_true rfl) dX8_byteAt_31
set_option maxHeartbeats 4000000 in
set_option maxRecDepth 100000 in
theorem kt436_X8_isLetter (l : Launch) (G : KG) (tag : Nat → Nat) (L : List Nat) (F : Nat → va_E) (ho : okT G ttC tag L F) (p0 : Int32)  : TMi l yX8_isLetter cX8_isLetter 1 (some .boolean) { frames := 0, cells := 0, slots := 0, locals := 0 } G ttC tag L F [.int p0] (fun r F1 => F1 = F ∧ (0 ≤ r.toInt ∧ r.toInt ≤ 1)) := by
  refine t_bodyi (y := yX8_isLetter) (cd := cX8_isLetter) (mL := 1) (rt := (some .boolean)) (rm := { frames := 0, cells := 0, slots := 0, locals := 0 }) (av := [.int p0]) (by decide) (Nat.le_of_ble_eq_true rfl) ho ?_
  intro p e s m args below meth c ls A Q hQ X hT hl
  have hx := X.1.1
  have hb := X.1.2.1
  have hl : lv_has ls 1 [(0, .int p0)] := hl
  have rp0 := rg_all p0
  refine lv_iload_n hx hb dX8_isLetter_0 rfl (lv_at hl 0 rfl) ?_
  refine lv_bipush (v := 97) hx hb dX8_isLetter_1 (by decide) ?_
  refine lv_icmp_lt (tgt := 16) hx hb dX8_isLetter_3 (by decide) (fun c138686 => ?_) (fun c138686 => ?_)
  · have w138687 := cv_lt (rfl : p0.toInt = p0.toInt) (by decide : (97 : Int32).toInt = 97) c138686
    refine lv_iconst (v := 0) hx hb dX8_isLetter_16 (by decide) ?_
    exact t_zret hQ X hT (by decide) (⟨rfl, (by decide)⟩) (Nat.le_of_ble_eq_true rfl) (Nat.le_of_ble_eq_true rfl) dX8_isLetter_17
  · have w138688 := cv_nlt (rfl : p0.toInt = p0.toInt) (by decide : (97 : Int32).toInt = 97) c138686
    refine lv_iload_n hx hb dX8_isLetter_6 rfl (lv_at hl 0 rfl) ?_
    refine lv_bipush (v := 122) hx hb dX8_isLetter_7 (by decide) ?_
    refine lv_icmp_gt (tgt := 16) hx hb dX8_isLetter_9 (by decide) (fun c138689 => ?_) (fun c138689 => ?_)
    · have w138690 := cv_lt (by decide : (122 : Int32).toInt = 122) (rfl : p0.toInt = p0.toInt) c138689
      refine lv_iconst (v := 0) hx hb dX8_isLetter_16 (by decide) ?_
      exact t_zret hQ X hT (by decide) (⟨rfl, (by decide)⟩) (Nat.le_of_ble_eq_true rfl) (Nat.le_of_ble_eq_true rfl) dX8_isLetter_17
    · have w138691 := cv_nlt (by decide : (122 : Int32).toInt = 122) (rfl : p0.toInt = p0.toInt) c138689
      refine lv_iconst (v := 1) hx hb dX8_isLetter_12 (by decide) ?_
      refine lv_goto (tgt := 17) hx hb dX8_isLetter_13 (by decide) ?_
      exact t_zret hQ X hT (by decide) (⟨rfl, (by decide)⟩) (Nat.le_of_ble_eq_true rfl) (Nat.le_of_ble_eq_true rfl) dX8_isLetter_17
set_option maxHeartbeats 4000000 in
set_option maxRecDepth 100000 in
theorem kt437_X8_isDigit (l : Launch) (G : KG) (tag : Nat → Nat) (L : List Nat) (F : Nat → va_E) (ho : okT G ttC tag L F) (p0 : Int32)  : TMi l yX8_isDigit cX8_isDigit 1 (some .boolean) { frames := 0, cells := 0, slots := 0, locals := 0 } G ttC tag L F [.int p0] (fun r F1 => F1 = F ∧ (0 ≤ r.toInt ∧ r.toInt ≤ 1)) := by
  refine t_bodyi (y := yX8_isDigit) (cd := cX8_isDigit) (mL := 1) (rt := (some .boolean)) (rm := { frames := 0, cells := 0, slots := 0, locals := 0 }) (av := [.int p0]) (by decide) (Nat.le_of_ble_eq_true rfl) ho ?_
  intro p e s m args below meth c ls A Q hQ X hT hl
  have hx := X.1.1
  have hb := X.1.2.1
  have hl : lv_has ls 1 [(0, .int p0)] := hl
  have rp0 := rg_all p0
  refine lv_iload_n hx hb dX8_isDigit_0 rfl (lv_at hl 0 rfl) ?_
  refine lv_bipush (v := 48) hx hb dX8_isDigit_1 (by decide) ?_
  refine lv_icmp_lt (tgt := 16) hx hb dX8_isDigit_3 (by decide) (fun c138761 => ?_) (fun c138761 => ?_)
  · have w138762 := cv_lt (rfl : p0.toInt = p0.toInt) (by decide : (48 : Int32).toInt = 48) c138761
    refine lv_iconst (v := 0) hx hb dX8_isDigit_16 (by decide) ?_
    exact t_zret hQ X hT (by decide) (⟨rfl, (by decide)⟩) (Nat.le_of_ble_eq_true rfl) (Nat.le_of_ble_eq_true rfl) dX8_isDigit_17
  · have w138763 := cv_nlt (rfl : p0.toInt = p0.toInt) (by decide : (48 : Int32).toInt = 48) c138761
    refine lv_iload_n hx hb dX8_isDigit_6 rfl (lv_at hl 0 rfl) ?_
    refine lv_bipush (v := 57) hx hb dX8_isDigit_7 (by decide) ?_
    refine lv_icmp_gt (tgt := 16) hx hb dX8_isDigit_9 (by decide) (fun c138764 => ?_) (fun c138764 => ?_)
    · have w138765 := cv_lt (by decide : (57 : Int32).toInt = 57) (rfl : p0.toInt = p0.toInt) c138764
      refine lv_iconst (v := 0) hx hb dX8_isDigit_16 (by decide) ?_
      exact t_zret hQ X hT (by decide) (⟨rfl, (by decide)⟩) (Nat.le_of_ble_eq_true rfl) (Nat.le_of_ble_eq_true rfl) dX8_isDigit_17
    · have w138766 := cv_nlt (by decide : (57 : Int32).toInt = 57) (rfl : p0.toInt = p0.toInt) c138764
      refine lv_iconst (v := 1) hx hb dX8_isDigit_12 (by decide) ?_
      refine lv_goto (tgt := 17) hx hb dX8_isDigit_13 (by decide) ?_
      exact t_zret hQ X hT (by decide) (⟨rfl, (by decide)⟩) (Nat.le_of_ble_eq_true rfl) (Nat.le_of_ble_eq_true rfl) dX8_isDigit_17
set_option maxHeartbeats 4000000 in
set_option maxRecDepth 100000 in
theorem kt438_X8_takeWhole (l : Launch) (G : KG) (tag : Nat → Nat) (L : List Nat) (Fo : Nat → va_E) (ho : okT G ttC tag L Fo) (p0 : Nat) (x0 : Nat) (m0 : p0 ∈ L) (g0 : tag p0 = 24) (mx0 : x0 ∈ L) (gx0 : tag x0 = 1) (pf0 : fld Fo p0 0 = .ref x0) : TMv l yX8_takeWhole cX8_takeWhole 1 { frames := 1, cells := 0, slots := 0, locals := 21 } G ttC tag L Fo [.ref p0] (fun F1 => ((∀ b j : Nat, (tag b ≠ 24 ∨ j ≠ 2) → (tag b ≠ 24 ∨ j ≠ 3) → (tag b ≠ 24 ∨ j ≠ 6) → fld F1 b j = fld Fo b j) ∧ EF tag F1 Fo)) := by
  refine t_bodyv (y := yX8_takeWhole) (cd := cX8_takeWhole) (mL := 1) (rm := { frames := 1, cells := 0, slots := 0, locals := 21 }) (av := [.ref p0]) (by decide) (Nat.le_of_ble_eq_true rfl) ho ?_
  intro p e s m args below meth c ls A Q hQ X hT hl
  have hx := X.1.1
  have hb := X.1.2.1
  have hl : lv_has ls 1 [(0, .ref p0)] := hl
  obtain ⟨F, hFo⟩ : ∃ F : Nat → va_E, F = Fo := ⟨_, rfl⟩
  rw [← hFo] at hT pf0
  have hfr : (∀ b j : Nat, (tag b ≠ 24 ∨ j ≠ 2) → (tag b ≠ 24 ∨ j ≠ 3) → (tag b ≠ 24 ∨ j ≠ 6) → fld F b j = fld Fo b j) ∧ EF tag F Fo := by
    rw [hFo]
    exact ⟨by intros; rfl, fun _ _ _ => rfl⟩
  have K85 : ∀ (z139404 : Int32) (b139405 : Nat) (z139406 : Int32) (z139407 : Int32) (z139408 : Int32) (z139409 : Int32) (F : Nat → va_E) (H : Heap) (locs : List Loc) (ls : Array Slot), (2 ≤ z139404.toInt ∧ z139404.toInt ≤ 4) → (b139405 ∈ L) → (tag b139405 = 24) → (0 ≤ z139407.toInt ∧ z139407.toInt ≤ 1000) → (0 ≤ z139408.toInt ∧ z139408.toInt ≤ 1000) → (0 ≤ z139409.toInt ∧ z139409.toInt ≤ 1000) → TH G ttC A s tag L F H locs → ((∀ b j : Nat, (tag b ≠ 24 ∨ j ≠ 2) → (tag b ≠ 24 ∨ j ≠ 3) → (tag b ≠ 24 ∨ j ≠ 6) → fld F b j = fld Fo b j) ∧ EF tag F Fo) → fld F p0 0 = .ref x0 → fld F p0 6 = .int z139406 → fld F p0 2 = .int z139407 → fld F p0 1 = .int z139408 → fld F p0 4 = .int z139409 → lv_has ls 1 [(0, .ref p0)] → W p l e { frames := 1, cells := 0, slots := 0, locals := 21 } s m args below meth c H locs 0 0 Q (F0 m 85 ls [.int z139404, .ref b139405]) := by
    intro z139404 b139405 z139406 z139407 z139408 z139409 F H locs ls rz139404 mb139405 gb139405 rz139407 rz139408 rz139409 hT hfr pf0 qz139406 qz139407 qz139408 qz139409 hl
    have rz139406 := rg_all z139406
    refine t_put (C := RX8) (T := TX8) (N := 8) (v := .int z139404) X hT mb139405 gb139405 rfl tyX8 tyX8_ok nmX8 rfl 3 (by decide) qw_202 inlX8 rfl (by first | rfl | decide) (by first | rfl | decide) rfl (⟨_, rfl, (show (-2147483648) ≤ (z139404 : Int32).toInt from (by omega)), (show (z139404 : Int32).toInt ≤ 2147483647 from (by omega))⟩) dX8_takeWhole_85 (fun F H locs hT v139410 h1v139410 h2v139410 => ?_)
    have qz139406 := (h1v139410 _ _ (Or.inr (by decide))).trans qz139406
    have qz139407 := (h1v139410 _ _ (Or.inr (by decide))).trans qz139407
    have qz139408 := (h1v139410 _ _ (Or.inr (by decide))).trans qz139408
    have qz139409 := (h1v139410 _ _ (Or.inr (by decide))).trans qz139409
    have pf0 := (h1v139410 _ _ (Or.inr (by decide))).trans pf0
    have hfr : (∀ b j : Nat, (tag b ≠ 24 ∨ j ≠ 2) → (tag b ≠ 24 ∨ j ≠ 3) → (tag b ≠ 24 ∨ j ≠ 6) → fld F b j = fld Fo b j) ∧ EF tag F Fo := ⟨fun b j n24_2 n24_3 n24_6 => (h1v139410 b j (fr_ne gb139405 n24_3)).trans (hfr.1 b j n24_2 n24_3 n24_6), fun b j hb => (h2v139410 b j).trans (hfr.2 b j hb)⟩
    exact t_vret hQ X hT hfr (Nat.le_of_ble_eq_true rfl) (Nat.le_of_ble_eq_true rfl) dX8_takeWhole_88
  have K66 : ∀ (z139411 : Int32) (z139412 : Int32) (z139413 : Int32) (F : Nat → va_E) (H : Heap) (locs : List Loc) (ls : Array Slot), (0 ≤ z139412.toInt ∧ z139412.toInt ≤ 1000) → (0 ≤ z139413.toInt ∧ z139413.toInt ≤ 1000) → TH G ttC A s tag L F H locs → ((∀ b j : Nat, (tag b ≠ 24 ∨ j ≠ 2) → (tag b ≠ 24 ∨ j ≠ 3) → (tag b ≠ 24 ∨ j ≠ 6) → fld F b j = fld Fo b j) ∧ EF tag F Fo) → fld F p0 0 = .ref x0 → fld F p0 6 = .int z139411 → fld F p0 2 = .int z139412 → fld F p0 1 = .int z139413 → lv_has ls 1 [(0, .ref p0)] → W p l e { frames := 1, cells := 0, slots := 0, locals := 21 } s m args below meth c H locs 0 0 Q (F0 m 66 ls []) := by
    intro z139411 z139412 z139413 F H locs ls rz139412 rz139413 hT hfr pf0 qz139411 qz139412 qz139413 hl
    have rz139411 := rg_all z139411
    refine lv_aload_n hx hb dX8_takeWhole_66 rfl (lv_at hl 0 rfl) ?_
    refine lv_aload_n hx hb dX8_takeWhole_67 rfl (lv_at hl 0 rfl) ?_
    refine t_get (C := RX8) (T := TX8) (N := 8) X hT m0 g0 rfl rfl 2 (by decide) qw_195 inlX8 rfl dX8_takeWhole_68 (fun v139414 hv139414 ov139414 => ?_)
    obtain rfl : v139414 = .int z139412 := hv139414.symm.trans qz139412
    refine lv_aload_n hx hb dX8_takeWhole_71 rfl (lv_at hl 0 rfl) ?_
    refine t_get (C := RX8) (T := TX8) (N := 8) X hT m0 g0 rfl rfl 4 (by decide) qw_200 inlX8 rfl dX8_takeWhole_72 (fun v139415 hv139415 ov139415 => ?_)
    obtain ⟨z139416, rfl, rz139416⟩ := okV_i ov139415
    refine lv_isub hx hb dX8_takeWhole_75 ?_
    refine lv_topi (fun z139417 ez139417 => ?_)
    have hz139417 : z139417.toInt = z139412.toInt - z139416.toInt := ar_sub ez139417 (rfl : z139412.toInt = z139412.toInt) (rfl : z139416.toInt = z139416.toInt) (by omega) (by omega)
    have rz139417 : (-1000) ≤ z139417.toInt ∧ z139417.toInt ≤ 1000 := by omega
    refine lv_iconst (v := 3) hx hb dX8_takeWhole_76 (by decide) ?_
    refine lv_icmp_le (tgt := 84) hx hb dX8_takeWhole_77 (by decide) (fun c139418 => ?_) (fun c139418 => ?_)
    · have w139419 := cv_le (rfl : z139417.toInt = z139417.toInt) (by decide : (3 : Int32).toInt = 3) c139418
      refine lv_iconst (v := 2) hx hb dX8_takeWhole_84 (by decide) ?_
      exact K85 2 p0 z139411 z139412 z139413 z139416 _ _ _ _ (by decide) m0 g0 (by omega) (by omega) (by omega) hT hfr pf0 qz139411 qz139412 qz139413 hv139415 (lv_sub hl [0] rfl)
    · have w139420 := cv_nle (rfl : z139417.toInt = z139417.toInt) (by decide : (3 : Int32).toInt = 3) c139418
      refine lv_iconst (v := 4) hx hb dX8_takeWhole_80 (by decide) ?_
      refine lv_goto (tgt := 85) hx hb dX8_takeWhole_81 (by decide) ?_
      exact K85 4 p0 z139411 z139412 z139413 z139416 _ _ _ _ (by decide) m0 g0 (by omega) (by omega) (by omega) hT hfr pf0 qz139411 qz139412 qz139413 hv139415 (lv_sub hl [0] rfl)
  have K5 : ∀ (n : Nat) (z139421 : Int32) (z139422 : Int32) (F : Nat → va_E) (H : Heap) (locs : List Loc) (ls : Array Slot), (1000 - z139422.toInt < (n : Int)) → (0 ≤ z139422.toInt ∧ z139422.toInt ≤ 1000) → TH G ttC A s tag L F H locs → ((∀ b j : Nat, (tag b ≠ 24 ∨ j ≠ 2) → (tag b ≠ 24 ∨ j ≠ 3) → (tag b ≠ 24 ∨ j ≠ 6) → fld F b j = fld Fo b j) ∧ EF tag F Fo) → fld F p0 0 = .ref x0 → fld F p0 6 = .int z139421 → fld F p0 2 = .int z139422 → lv_has ls 1 [(0, .ref p0)] → W p l e { frames := 1, cells := 0, slots := 0, locals := 21 } s m args below meth c H locs 0 0 Q (F0 m 5 ls []) := by
    intro n
    induction n with
    | zero =>
      intro z139421 z139422 F H locs ls hn rz139422 hT hfr pf0 qz139421 qz139422 hl
      have rz139421 := rg_all z139421
      exfalso
      omega
    | succ n ih5 =>
      intro z139421 z139422 F H locs ls hn rz139422 hT hfr pf0 qz139421 qz139422 hl
      have rz139421 := rg_all z139421
      refine lv_aload_n hx hb dX8_takeWhole_5 rfl (lv_at hl 0 rfl) ?_
      refine t_get (C := RX8) (T := TX8) (N := 8) X hT m0 g0 rfl rfl 2 (by decide) qw_195 inlX8 rfl dX8_takeWhole_6 (fun v139423 hv139423 ov139423 => ?_)
      obtain rfl : v139423 = .int z139422 := hv139423.symm.trans qz139422
      refine lv_aload_n hx hb dX8_takeWhole_9 rfl (lv_at hl 0 rfl) ?_
      refine t_get (C := RX8) (T := TX8) (N := 8) X hT m0 g0 rfl rfl 1 (by decide) qw_194 inlX8 rfl dX8_takeWhole_10 (fun v139424 hv139424 ov139424 => ?_)
      obtain ⟨z139425, rfl, rz139425⟩ := okV_i ov139424
      refine lv_icmp_ge (tgt := 66) hx hb dX8_takeWhole_13 (by decide) (fun c139426 => ?_) (fun c139426 => ?_)
      · have w139427 := cv_le (rfl : z139425.toInt = z139425.toInt) (rfl : z139422.toInt = z139422.toInt) c139426
        exact K66 z139421 z139422 z139425 _ _ _ _ (by omega) (by omega) hT hfr pf0 qz139421 qz139422 hv139424 (lv_sub hl [0] rfl)
      · have w139428 := cv_nle (rfl : z139425.toInt = z139425.toInt) (rfl : z139422.toInt = z139422.toInt) c139426
        refine lv_aload_n hx hb dX8_takeWhole_16 rfl (lv_at hl 0 rfl) ?_
        refine lv_aload_n hx hb dX8_takeWhole_17 rfl (lv_at hl 0 rfl) ?_
        refine t_get (C := RX8) (T := TX8) (N := 8) X hT m0 g0 rfl rfl 2 (by decide) qw_195 inlX8 rfl dX8_takeWhole_18 (fun v139429 hv139429 ov139429 => ?_)
        obtain rfl : v139429 = .int z139422 := hv139429.symm.trans qz139422
        refine t_cVi (n := 1) (C := RX8) (T := TX8) (N := 8) (As := [.int z139422]) (rest := []) X hT (kt435_X8_byteAt l G tag L F hT.2.2.2 p0 z139422 x0 m0 g0 mx0 gx0 pf0) m0 g0 rfl rfl qw_204 qw_205 qw_206 qw_72 qw_207 ⟨rfl, by decide +kernel, by decide +kernel, by decide +kernel⟩ ⟨Nat.le_of_ble_eq_true rfl, Nat.le_of_ble_eq_true rfl⟩ hl rfl rfl (Nat.le_of_ble_eq_true rfl) dX8_takeWhole_21 ⟨Nat.le_of_ble_eq_true rfl, Nat.le_of_ble_eq_true rfl⟩ (fun z139430 F9 H locs hT hz139430 => ?_)
        obtain ⟨fz139430, hz139430⟩ := hz139430
        rw [fz139430] at hT
        obtain ⟨hz139430, iz139430⟩ := hz139430
        refine t_cSi (n := 1) (As := [.int z139430]) (rest := []) X hT (kt437_X8_isDigit l G tag L F hT.2.2.2 z139430 ) qw_216 qw_217 qw_72 qw_218 ⟨by decide +kernel, by decide +kernel, by decide +kernel⟩ ⟨Nat.le_of_ble_eq_true rfl, Nat.le_of_ble_eq_true rfl⟩ hl rfl rfl (Nat.le_of_ble_eq_true rfl) dX8_takeWhole_24 ⟨Nat.le_of_ble_eq_true rfl, Nat.le_of_ble_eq_true rfl⟩ (fun z139431 F9 H locs hT hz139431 => ?_)
        obtain ⟨fz139431, hz139431⟩ := hz139431
        rw [fz139431] at hT
        refine lv_if_eq (tgt := 66) hx hb dX8_takeWhole_27 (by decide) (fun c139432 => ?_) (fun c139432 => ?_)
        · have w139433 := cv_eq (rfl : z139431.toInt = z139431.toInt) (by decide : (0 : Int32).toInt = 0) c139432
          exact K66 z139421 z139422 z139425 _ _ _ _ (by omega) (by omega) hT hfr pf0 qz139421 qz139422 hv139424 (lv_sub hl [0] rfl)
        · have w139434 := cv_ne (rfl : z139431.toInt = z139431.toInt) (by decide : (0 : Int32).toInt = 0) c139432
          refine lv_aload_n hx hb dX8_takeWhole_30 rfl (lv_at hl 0 rfl) ?_
          refine lv_aload_n hx hb dX8_takeWhole_31 rfl (lv_at hl 0 rfl) ?_
          refine t_get (C := RX8) (T := TX8) (N := 8) X hT m0 g0 rfl rfl 6 (by decide) qw_203 inlX8 rfl dX8_takeWhole_32 (fun v139435 hv139435 ov139435 => ?_)
          obtain rfl : v139435 = .int z139421 := hv139435.symm.trans qz139421
          refine lv_bipush (v := 10) hx hb dX8_takeWhole_35 (by decide) ?_
          refine lv_imul hx hb dX8_takeWhole_37 ?_
          refine lv_topi (fun z139436 ez139436 => ?_)
          have rz139436 := rg_all z139436
          refine lv_aload_n hx hb dX8_takeWhole_38 rfl (lv_at hl 0 rfl) ?_
          refine lv_aload_n hx hb dX8_takeWhole_39 rfl (lv_at hl 0 rfl) ?_
          refine t_get (C := RX8) (T := TX8) (N := 8) X hT m0 g0 rfl rfl 2 (by decide) qw_195 inlX8 rfl dX8_takeWhole_40 (fun v139437 hv139437 ov139437 => ?_)
          obtain rfl : v139437 = .int z139422 := hv139437.symm.trans qz139422
          refine t_cVi (n := 1) (C := RX8) (T := TX8) (N := 8) (As := [.int z139422]) (rest := [.int z139436, .ref p0]) X hT (kt435_X8_byteAt l G tag L F hT.2.2.2 p0 z139422 x0 m0 g0 mx0 gx0 pf0) m0 g0 rfl rfl qw_204 qw_205 qw_206 qw_72 qw_207 ⟨rfl, by decide +kernel, by decide +kernel, by decide +kernel⟩ ⟨Nat.le_of_ble_eq_true rfl, Nat.le_of_ble_eq_true rfl⟩ hl rfl rfl (Nat.le_of_ble_eq_true rfl) dX8_takeWhole_43 ⟨Nat.le_of_ble_eq_true rfl, Nat.le_of_ble_eq_true rfl⟩ (fun z139438 F9 H locs hT hz139438 => ?_)
          obtain ⟨fz139438, hz139438⟩ := hz139438
          rw [fz139438] at hT
          obtain ⟨hz139438, iz139438⟩ := hz139438
          refine lv_iadd hx hb dX8_takeWhole_46 ?_
          refine lv_topi (fun z139439 ez139439 => ?_)
          have rz139439 := rg_all z139439
          refine lv_bipush (v := 48) hx hb dX8_takeWhole_47 (by decide) ?_
          refine lv_isub hx hb dX8_takeWhole_49 ?_
          refine lv_topi (fun z139440 ez139440 => ?_)
          have rz139440 := rg_all z139440
          refine t_put (C := RX8) (T := TX8) (N := 8) (v := .int z139440) X hT m0 g0 rfl tyX8 tyX8_ok nmX8 rfl 6 (by decide) qw_203 inlX8 rfl (by first | rfl | decide) (by first | rfl | decide) rfl (⟨_, rfl, (show (-2147483648) ≤ (z139440 : Int32).toInt from (by omega)), (show (z139440 : Int32).toInt ≤ 2147483647 from (by omega))⟩) dX8_takeWhole_50 (fun F H locs hT v139441 h1v139441 h2v139441 => ?_)
          have qz139422 := (h1v139441 _ _ (Or.inr (by decide))).trans qz139422
          have pf0 := (h1v139441 _ _ (Or.inr (by decide))).trans pf0
          have hv139424 := (h1v139441 _ _ (Or.inr (by decide))).trans hv139424
          have hfr : (∀ b j : Nat, (tag b ≠ 24 ∨ j ≠ 2) → (tag b ≠ 24 ∨ j ≠ 3) → (tag b ≠ 24 ∨ j ≠ 6) → fld F b j = fld Fo b j) ∧ EF tag F Fo := ⟨fun b j n24_2 n24_3 n24_6 => (h1v139441 b j (fr_ne g0 n24_6)).trans (hfr.1 b j n24_2 n24_3 n24_6), fun b j hb => (h2v139441 b j).trans (hfr.2 b j hb)⟩
          refine lv_aload_n hx hb dX8_takeWhole_53 rfl (lv_at hl 0 rfl) ?_
          refine lv_dup hx hb dX8_takeWhole_54 rfl ?_
          refine t_get (C := RX8) (T := TX8) (N := 8) X hT m0 g0 rfl rfl 2 (by decide) qw_195 inlX8 rfl dX8_takeWhole_55 (fun v139442 hv139442 ov139442 => ?_)
          obtain rfl : v139442 = .int z139422 := hv139442.symm.trans qz139422
          refine lv_iconst (v := 1) hx hb dX8_takeWhole_58 (by decide) ?_
          refine lv_iadd hx hb dX8_takeWhole_59 ?_
          refine lv_topi (fun z139443 ez139443 => ?_)
          have hz139443 : z139443.toInt = z139422.toInt + 1 := ar_add ez139443 (rfl : z139422.toInt = z139422.toInt) (by decide : (1 : Int32).toInt = 1) (by omega) (by omega)
          have rz139443 : 1 ≤ z139443.toInt ∧ z139443.toInt ≤ 1000 := by omega
          refine t_put (C := RX8) (T := TX8) (N := 8) (v := .int z139443) X hT m0 g0 rfl tyX8 tyX8_ok nmX8 rfl 2 (by decide) qw_195 inlX8 rfl (by first | rfl | decide) (by first | rfl | decide) rfl (⟨_, rfl, (show 0 ≤ (z139443 : Int32).toInt from (by omega)), (show (z139443 : Int32).toInt ≤ 1000 from (by omega))⟩) dX8_takeWhole_60 (fun F H locs hT v139444 h1v139444 h2v139444 => ?_)
          have pf0 := (h1v139444 _ _ (Or.inr (by decide))).trans pf0
          have hv139424 := (h1v139444 _ _ (Or.inr (by decide))).trans hv139424
          have v139441 := (h1v139444 _ _ (Or.inr (by decide))).trans v139441
          have hfr : (∀ b j : Nat, (tag b ≠ 24 ∨ j ≠ 2) → (tag b ≠ 24 ∨ j ≠ 3) → (tag b ≠ 24 ∨ j ≠ 6) → fld F b j = fld Fo b j) ∧ EF tag F Fo := ⟨fun b j n24_2 n24_3 n24_6 => (h1v139444 b j (fr_ne g0 n24_2)).trans (hfr.1 b j n24_2 n24_3 n24_6), fun b j hb => (h2v139444 b j).trans (hfr.2 b j hb)⟩
          refine lv_goto (tgt := 5) hx hb dX8_takeWhole_63 (by decide) ?_
          exact ih5 z139440 z139443 _ _ _ _ (by omega) (by omega) hT hfr pf0 v139441 v139444 (lv_sub hl [0] rfl)
  refine lv_aload_n hx hb dX8_takeWhole_0 rfl (lv_at hl 0 rfl) ?_
  refine lv_iconst (v := 0) hx hb dX8_takeWhole_1 (by decide) ?_
  refine t_put (C := RX8) (T := TX8) (N := 8) (v := .int 0) X hT m0 g0 rfl tyX8 tyX8_ok nmX8 rfl 6 (by decide) qw_203 inlX8 rfl (by first | rfl | decide) (by first | rfl | decide) rfl (⟨_, rfl, (show (-2147483648) ≤ (0 : Int32).toInt from (by decide)), (show (0 : Int32).toInt ≤ 2147483647 from (by decide))⟩) dX8_takeWhole_2 (fun F H locs hT v139445 h1v139445 h2v139445 => ?_)
  have pf0 := (h1v139445 _ _ (Or.inr (by decide))).trans pf0
  have hfr : (∀ b j : Nat, (tag b ≠ 24 ∨ j ≠ 2) → (tag b ≠ 24 ∨ j ≠ 3) → (tag b ≠ 24 ∨ j ≠ 6) → fld F b j = fld Fo b j) ∧ EF tag F Fo := ⟨fun b j n24_2 n24_3 n24_6 => (h1v139445 b j (fr_ne g0 n24_6)).trans (hfr.1 b j n24_2 n24_3 n24_6), fun b j hb => (h2v139445 b j).trans (hfr.2 b j hb)⟩
  obtain ⟨z139446, qz139446, rz139446⟩ := t_fld hT m0 g0 rfl 2 rfl
  have rz139446 : 0 ≤ z139446.toInt ∧ z139446.toInt ≤ 1000 := rz139446
  exact K5 1001 0 z139446 _ _ _ _ (by omega) (by omega) hT hfr pf0 v139445 qz139446 (lv_sub hl [0] rfl)
set_option maxHeartbeats 4000000 in
set_option maxRecDepth 100000 in
theorem kt439_X8_takeWord (l : Launch) (G : KG) (tag : Nat → Nat) (L : List Nat) (Fo : Nat → va_E) (ho : okT G ttC tag L Fo) (p0 : Nat) (x0 : Nat) (m0 : p0 ∈ L) (g0 : tag p0 = 24) (mx0 : x0 ∈ L) (gx0 : tag x0 = 1) (pf0 : fld Fo p0 0 = .ref x0) : TMv l yX8_takeWord cX8_takeWord 1 { frames := 1, cells := 0, slots := 0, locals := 21 } G ttC tag L Fo [.ref p0] (fun F1 => ((∀ b j : Nat, (tag b ≠ 24 ∨ j ≠ 2) → (tag b ≠ 24 ∨ j ≠ 3) → (tag b ≠ 24 ∨ j ≠ 7) → fld F1 b j = fld Fo b j) ∧ EF tag F1 Fo)) := by
  refine t_bodyv (y := yX8_takeWord) (cd := cX8_takeWord) (mL := 1) (rm := { frames := 1, cells := 0, slots := 0, locals := 21 }) (av := [.ref p0]) (by decide) (Nat.le_of_ble_eq_true rfl) ho ?_
  intro p e s m args below meth c ls A Q hQ X hT hl
  have hx := X.1.1
  have hb := X.1.2.1
  have hl : lv_has ls 1 [(0, .ref p0)] := hl
  obtain ⟨F, hFo⟩ : ∃ F : Nat → va_E, F = Fo := ⟨_, rfl⟩
  rw [← hFo] at hT pf0
  have hfr : (∀ b j : Nat, (tag b ≠ 24 ∨ j ≠ 2) → (tag b ≠ 24 ∨ j ≠ 3) → (tag b ≠ 24 ∨ j ≠ 7) → fld F b j = fld Fo b j) ∧ EF tag F Fo := by
    rw [hFo]
    exact ⟨by intros; rfl, fun _ _ _ => rfl⟩
  have K88 : ∀ (z139963 : Int32) (b139964 : Nat) (z139965 : Int32) (z139966 : Int32) (z139967 : Int32) (F : Nat → va_E) (H : Heap) (locs : List Loc) (ls : Array Slot), (1 ≤ z139963.toInt ∧ z139963.toInt ≤ 4) → (b139964 ∈ L) → (tag b139964 = 24) → (0 ≤ z139965.toInt ∧ z139965.toInt ≤ 1000) → (0 ≤ z139966.toInt ∧ z139966.toInt ≤ 1000) → (0 ≤ z139967.toInt ∧ z139967.toInt ≤ 1000) → TH G ttC A s tag L F H locs → ((∀ b j : Nat, (tag b ≠ 24 ∨ j ≠ 2) → (tag b ≠ 24 ∨ j ≠ 3) → (tag b ≠ 24 ∨ j ≠ 7) → fld F b j = fld Fo b j) ∧ EF tag F Fo) → fld F p0 0 = .ref x0 → fld F p0 2 = .int z139965 → fld F p0 1 = .int z139966 → fld F p0 4 = .int z139967 → lv_has ls 1 [(0, .ref p0)] → W p l e { frames := 1, cells := 0, slots := 0, locals := 21 } s m args below meth c H locs 0 0 Q (F0 m 88 ls [.int z139963, .ref b139964]) := by
    intro z139963 b139964 z139965 z139966 z139967 F H locs ls rz139963 mb139964 gb139964 rz139965 rz139966 rz139967 hT hfr pf0 qz139965 qz139966 qz139967 hl
    refine t_put (C := RX8) (T := TX8) (N := 8) (v := .int z139963) X hT mb139964 gb139964 rfl tyX8 tyX8_ok nmX8 rfl 3 (by decide) qw_202 inlX8 rfl (by first | rfl | decide) (by first | rfl | decide) rfl (⟨_, rfl, (show (-2147483648) ≤ (z139963 : Int32).toInt from (by omega)), (show (z139963 : Int32).toInt ≤ 2147483647 from (by omega))⟩) dX8_takeWord_88 (fun F H locs hT v139968 h1v139968 h2v139968 => ?_)
    have qz139965 := (h1v139968 _ _ (Or.inr (by decide))).trans qz139965
    have qz139966 := (h1v139968 _ _ (Or.inr (by decide))).trans qz139966
    have qz139967 := (h1v139968 _ _ (Or.inr (by decide))).trans qz139967
    have pf0 := (h1v139968 _ _ (Or.inr (by decide))).trans pf0
    have hfr : (∀ b j : Nat, (tag b ≠ 24 ∨ j ≠ 2) → (tag b ≠ 24 ∨ j ≠ 3) → (tag b ≠ 24 ∨ j ≠ 7) → fld F b j = fld Fo b j) ∧ EF tag F Fo := ⟨fun b j n24_2 n24_3 n24_7 => (h1v139968 b j (fr_ne gb139964 n24_3)).trans (hfr.1 b j n24_2 n24_3 n24_7), fun b j hb => (h2v139968 b j).trans (hfr.2 b j hb)⟩
    exact t_vret hQ X hT hfr (Nat.le_of_ble_eq_true rfl) (Nat.le_of_ble_eq_true rfl) dX8_takeWord_91
  have K68 : ∀ (z139969 : Int32) (z139970 : Int32) (F : Nat → va_E) (H : Heap) (locs : List Loc) (ls : Array Slot), (0 ≤ z139969.toInt ∧ z139969.toInt ≤ 1000) → (0 ≤ z139970.toInt ∧ z139970.toInt ≤ 1000) → TH G ttC A s tag L F H locs → ((∀ b j : Nat, (tag b ≠ 24 ∨ j ≠ 2) → (tag b ≠ 24 ∨ j ≠ 3) → (tag b ≠ 24 ∨ j ≠ 7) → fld F b j = fld Fo b j) ∧ EF tag F Fo) → fld F p0 0 = .ref x0 → fld F p0 2 = .int z139969 → fld F p0 1 = .int z139970 → lv_has ls 1 [(0, .ref p0)] → W p l e { frames := 1, cells := 0, slots := 0, locals := 21 } s m args below meth c H locs 0 0 Q (F0 m 68 ls []) := by
    intro z139969 z139970 F H locs ls rz139969 rz139970 hT hfr pf0 qz139969 qz139970 hl
    refine lv_aload_n hx hb dX8_takeWord_68 rfl (lv_at hl 0 rfl) ?_
    refine lv_aload_n hx hb dX8_takeWord_69 rfl (lv_at hl 0 rfl) ?_
    refine t_get (C := RX8) (T := TX8) (N := 8) X hT m0 g0 rfl rfl 2 (by decide) qw_195 inlX8 rfl dX8_takeWord_70 (fun v139971 hv139971 ov139971 => ?_)
    obtain rfl : v139971 = .int z139969 := hv139971.symm.trans qz139969
    refine lv_aload_n hx hb dX8_takeWord_73 rfl (lv_at hl 0 rfl) ?_
    refine t_get (C := RX8) (T := TX8) (N := 8) X hT m0 g0 rfl rfl 4 (by decide) qw_200 inlX8 rfl dX8_takeWord_74 (fun v139972 hv139972 ov139972 => ?_)
    obtain ⟨z139973, rfl, rz139973⟩ := okV_i ov139972
    refine lv_isub hx hb dX8_takeWord_77 ?_
    refine lv_topi (fun z139974 ez139974 => ?_)
    have hz139974 : z139974.toInt = z139969.toInt - z139973.toInt := ar_sub ez139974 (rfl : z139969.toInt = z139969.toInt) (rfl : z139973.toInt = z139973.toInt) (by omega) (by omega)
    have rz139974 : (-1000) ≤ z139974.toInt ∧ z139974.toInt ≤ 1000 := by omega
    refine lv_bipush (v := 8) hx hb dX8_takeWord_78 (by decide) ?_
    refine lv_icmp_le (tgt := 87) hx hb dX8_takeWord_80 (by decide) (fun c139975 => ?_) (fun c139975 => ?_)
    · have w139976 := cv_le (rfl : z139974.toInt = z139974.toInt) (by decide : (8 : Int32).toInt = 8) c139975
      refine lv_iconst (v := 1) hx hb dX8_takeWord_87 (by decide) ?_
      exact K88 1 p0 z139969 z139970 z139973 _ _ _ _ (by decide) m0 g0 (by omega) (by omega) (by omega) hT hfr pf0 qz139969 qz139970 hv139972 (lv_sub hl [0] rfl)
    · have w139977 := cv_nle (rfl : z139974.toInt = z139974.toInt) (by decide : (8 : Int32).toInt = 8) c139975
      refine lv_iconst (v := 4) hx hb dX8_takeWord_83 (by decide) ?_
      refine lv_goto (tgt := 88) hx hb dX8_takeWord_84 (by decide) ?_
      exact K88 4 p0 z139969 z139970 z139973 _ _ _ _ (by decide) m0 g0 (by omega) (by omega) (by omega) hT hfr pf0 qz139969 qz139970 hv139972 (lv_sub hl [0] rfl)
  have K5 : ∀ (n : Nat) (z139978 : Int32) (F : Nat → va_E) (H : Heap) (locs : List Loc) (ls : Array Slot), (1000 - z139978.toInt < (n : Int)) → (0 ≤ z139978.toInt ∧ z139978.toInt ≤ 1000) → TH G ttC A s tag L F H locs → ((∀ b j : Nat, (tag b ≠ 24 ∨ j ≠ 2) → (tag b ≠ 24 ∨ j ≠ 3) → (tag b ≠ 24 ∨ j ≠ 7) → fld F b j = fld Fo b j) ∧ EF tag F Fo) → fld F p0 0 = .ref x0 → fld F p0 2 = .int z139978 → lv_has ls 1 [(0, .ref p0)] → W p l e { frames := 1, cells := 0, slots := 0, locals := 21 } s m args below meth c H locs 0 0 Q (F0 m 5 ls []) := by
    intro n
    induction n with
    | zero =>
      intro z139978 F H locs ls hn rz139978 hT hfr pf0 qz139978 hl
      exfalso
      omega
    | succ n ih5 =>
      intro z139978 F H locs ls hn rz139978 hT hfr pf0 qz139978 hl
      refine lv_aload_n hx hb dX8_takeWord_5 rfl (lv_at hl 0 rfl) ?_
      refine t_get (C := RX8) (T := TX8) (N := 8) X hT m0 g0 rfl rfl 2 (by decide) qw_195 inlX8 rfl dX8_takeWord_6 (fun v139979 hv139979 ov139979 => ?_)
      obtain rfl : v139979 = .int z139978 := hv139979.symm.trans qz139978
      refine lv_aload_n hx hb dX8_takeWord_9 rfl (lv_at hl 0 rfl) ?_
      refine t_get (C := RX8) (T := TX8) (N := 8) X hT m0 g0 rfl rfl 1 (by decide) qw_194 inlX8 rfl dX8_takeWord_10 (fun v139980 hv139980 ov139980 => ?_)
      obtain ⟨z139981, rfl, rz139981⟩ := okV_i ov139980
      refine lv_icmp_ge (tgt := 68) hx hb dX8_takeWord_13 (by decide) (fun c139982 => ?_) (fun c139982 => ?_)
      · have w139983 := cv_le (rfl : z139981.toInt = z139981.toInt) (rfl : z139978.toInt = z139978.toInt) c139982
        exact K68 z139978 z139981 _ _ _ _ (by omega) (by omega) hT hfr pf0 qz139978 hv139980 (lv_sub hl [0] rfl)
      · have w139984 := cv_nle (rfl : z139981.toInt = z139981.toInt) (rfl : z139978.toInt = z139978.toInt) c139982
        refine lv_aload_n hx hb dX8_takeWord_16 rfl (lv_at hl 0 rfl) ?_
        refine lv_aload_n hx hb dX8_takeWord_17 rfl (lv_at hl 0 rfl) ?_
        refine t_get (C := RX8) (T := TX8) (N := 8) X hT m0 g0 rfl rfl 2 (by decide) qw_195 inlX8 rfl dX8_takeWord_18 (fun v139985 hv139985 ov139985 => ?_)
        obtain rfl : v139985 = .int z139978 := hv139985.symm.trans qz139978
        refine t_cVi (n := 1) (C := RX8) (T := TX8) (N := 8) (As := [.int z139978]) (rest := []) X hT (kt435_X8_byteAt l G tag L F hT.2.2.2 p0 z139978 x0 m0 g0 mx0 gx0 pf0) m0 g0 rfl rfl qw_204 qw_205 qw_206 qw_72 qw_207 ⟨rfl, by decide +kernel, by decide +kernel, by decide +kernel⟩ ⟨Nat.le_of_ble_eq_true rfl, Nat.le_of_ble_eq_true rfl⟩ hl rfl rfl (Nat.le_of_ble_eq_true rfl) dX8_takeWord_21 ⟨Nat.le_of_ble_eq_true rfl, Nat.le_of_ble_eq_true rfl⟩ (fun z139986 F9 H locs hT hz139986 => ?_)
        obtain ⟨fz139986, hz139986⟩ := hz139986
        rw [fz139986] at hT
        obtain ⟨hz139986, iz139986⟩ := hz139986
        refine t_cSi (n := 1) (As := [.int z139986]) (rest := []) X hT (kt436_X8_isLetter l G tag L F hT.2.2.2 z139986 ) qw_208 qw_209 qw_72 qw_210 ⟨by decide +kernel, by decide +kernel, by decide +kernel⟩ ⟨Nat.le_of_ble_eq_true rfl, Nat.le_of_ble_eq_true rfl⟩ hl rfl rfl (Nat.le_of_ble_eq_true rfl) dX8_takeWord_24 ⟨Nat.le_of_ble_eq_true rfl, Nat.le_of_ble_eq_true rfl⟩ (fun z139987 F9 H locs hT hz139987 => ?_)
        obtain ⟨fz139987, hz139987⟩ := hz139987
        rw [fz139987] at hT
        refine lv_if_eq (tgt := 68) hx hb dX8_takeWord_27 (by decide) (fun c139988 => ?_) (fun c139988 => ?_)
        · have w139989 := cv_eq (rfl : z139987.toInt = z139987.toInt) (by decide : (0 : Int32).toInt = 0) c139988
          exact K68 z139978 z139981 _ _ _ _ (by omega) (by omega) hT hfr pf0 qz139978 hv139980 (lv_sub hl [0] rfl)
        · have w139990 := cv_ne (rfl : z139987.toInt = z139987.toInt) (by decide : (0 : Int32).toInt = 0) c139988
          refine lv_aload_n hx hb dX8_takeWord_30 rfl (lv_at hl 0 rfl) ?_
          refine lv_aload_n hx hb dX8_takeWord_31 rfl (lv_at hl 0 rfl) ?_
          refine t_get (C := RX8) (T := TX8) (N := 8) X hT m0 g0 rfl rfl 7 (by decide) qw_215 inlX8 rfl dX8_takeWord_32 (fun v139991 hv139991 ov139991 => ?_)
          obtain ⟨z139992, rfl⟩ := ov139991
          refine lv_iconst (v := 5) hx hb dX8_takeWord_35 (by decide) ?_
          refine lv_lshl hx hb dX8_takeWord_36 rfl ?_
          refine lv_topl (fun z139993 ez139993 => ?_)
          refine lv_aload_n hx hb dX8_takeWord_37 rfl (lv_at hl 0 rfl) ?_
          refine lv_aload_n hx hb dX8_takeWord_38 rfl (lv_at hl 0 rfl) ?_
          refine t_get (C := RX8) (T := TX8) (N := 8) X hT m0 g0 rfl rfl 2 (by decide) qw_195 inlX8 rfl dX8_takeWord_39 (fun v139994 hv139994 ov139994 => ?_)
          obtain rfl : v139994 = .int z139978 := hv139994.symm.trans qz139978
          refine t_cVi (n := 1) (C := RX8) (T := TX8) (N := 8) (As := [.int z139978]) (rest := [.long z139993, .ref p0]) X hT (kt435_X8_byteAt l G tag L F hT.2.2.2 p0 z139978 x0 m0 g0 mx0 gx0 pf0) m0 g0 rfl rfl qw_204 qw_205 qw_206 qw_72 qw_207 ⟨rfl, by decide +kernel, by decide +kernel, by decide +kernel⟩ ⟨Nat.le_of_ble_eq_true rfl, Nat.le_of_ble_eq_true rfl⟩ hl rfl rfl (Nat.le_of_ble_eq_true rfl) dX8_takeWord_42 ⟨Nat.le_of_ble_eq_true rfl, Nat.le_of_ble_eq_true rfl⟩ (fun z139995 F9 H locs hT hz139995 => ?_)
          obtain ⟨fz139995, hz139995⟩ := hz139995
          rw [fz139995] at hT
          obtain ⟨hz139995, iz139995⟩ := hz139995
          refine lv_bipush (v := 97) hx hb dX8_takeWord_45 (by decide) ?_
          refine lv_isub hx hb dX8_takeWord_47 ?_
          refine lv_topi (fun z139996 ez139996 => ?_)
          have hz139996 : z139996.toInt = z139995.toInt - 97 := ar_sub ez139996 (rfl : z139995.toInt = z139995.toInt) (by decide : (97 : Int32).toInt = 97) (by omega) (by omega)
          have rz139996 : (-98) ≤ z139996.toInt ∧ z139996.toInt ≤ 158 := by omega
          refine lv_iconst (v := 1) hx hb dX8_takeWord_48 (by decide) ?_
          refine lv_iadd hx hb dX8_takeWord_49 ?_
          refine lv_topi (fun z139997 ez139997 => ?_)
          have hz139997 : z139997.toInt = z139996.toInt + 1 := ar_add ez139997 (rfl : z139996.toInt = z139996.toInt) (by decide : (1 : Int32).toInt = 1) (by omega) (by omega)
          have rz139997 : (-97) ≤ z139997.toInt ∧ z139997.toInt ≤ 159 := by omega
          refine lv_i2l hx hb dX8_takeWord_50 rfl ?_
          refine lv_topl (fun z139998 ez139998 => ?_)
          refine lv_lor hx hb dX8_takeWord_51 ?_
          refine lv_topl (fun z139999 ez139999 => ?_)
          refine t_put (C := RX8) (T := TX8) (N := 8) (v := .long z139999) X hT m0 g0 rfl tyX8 tyX8_ok nmX8 rfl 7 (by decide) qw_215 inlX8 rfl (by first | rfl | decide) (by first | rfl | decide) rfl (⟨_, rfl⟩) dX8_takeWord_52 (fun F H locs hT v140000 h1v140000 h2v140000 => ?_)
          have qz139978 := (h1v140000 _ _ (Or.inr (by decide))).trans qz139978
          have pf0 := (h1v140000 _ _ (Or.inr (by decide))).trans pf0
          have hv139980 := (h1v140000 _ _ (Or.inr (by decide))).trans hv139980
          have hfr : (∀ b j : Nat, (tag b ≠ 24 ∨ j ≠ 2) → (tag b ≠ 24 ∨ j ≠ 3) → (tag b ≠ 24 ∨ j ≠ 7) → fld F b j = fld Fo b j) ∧ EF tag F Fo := ⟨fun b j n24_2 n24_3 n24_7 => (h1v140000 b j (fr_ne g0 n24_7)).trans (hfr.1 b j n24_2 n24_3 n24_7), fun b j hb => (h2v140000 b j).trans (hfr.2 b j hb)⟩
          refine lv_aload_n hx hb dX8_takeWord_55 rfl (lv_at hl 0 rfl) ?_
          refine lv_dup hx hb dX8_takeWord_56 rfl ?_
          refine t_get (C := RX8) (T := TX8) (N := 8) X hT m0 g0 rfl rfl 2 (by decide) qw_195 inlX8 rfl dX8_takeWord_57 (fun v140001 hv140001 ov140001 => ?_)
          obtain rfl : v140001 = .int z139978 := hv140001.symm.trans qz139978
          refine lv_iconst (v := 1) hx hb dX8_takeWord_60 (by decide) ?_
          refine lv_iadd hx hb dX8_takeWord_61 ?_
          refine lv_topi (fun z140002 ez140002 => ?_)
          have hz140002 : z140002.toInt = z139978.toInt + 1 := ar_add ez140002 (rfl : z139978.toInt = z139978.toInt) (by decide : (1 : Int32).toInt = 1) (by omega) (by omega)
          have rz140002 : 1 ≤ z140002.toInt ∧ z140002.toInt ≤ 1000 := by omega
          refine t_put (C := RX8) (T := TX8) (N := 8) (v := .int z140002) X hT m0 g0 rfl tyX8 tyX8_ok nmX8 rfl 2 (by decide) qw_195 inlX8 rfl (by first | rfl | decide) (by first | rfl | decide) rfl (⟨_, rfl, (show 0 ≤ (z140002 : Int32).toInt from (by omega)), (show (z140002 : Int32).toInt ≤ 1000 from (by omega))⟩) dX8_takeWord_62 (fun F H locs hT v140003 h1v140003 h2v140003 => ?_)
          have pf0 := (h1v140003 _ _ (Or.inr (by decide))).trans pf0
          have hv139980 := (h1v140003 _ _ (Or.inr (by decide))).trans hv139980
          have hfr : (∀ b j : Nat, (tag b ≠ 24 ∨ j ≠ 2) → (tag b ≠ 24 ∨ j ≠ 3) → (tag b ≠ 24 ∨ j ≠ 7) → fld F b j = fld Fo b j) ∧ EF tag F Fo := ⟨fun b j n24_2 n24_3 n24_7 => (h1v140003 b j (fr_ne g0 n24_2)).trans (hfr.1 b j n24_2 n24_3 n24_7), fun b j hb => (h2v140003 b j).trans (hfr.2 b j hb)⟩
          refine lv_goto (tgt := 5) hx hb dX8_takeWord_65 (by decide) ?_
          exact ih5 z140002 _ _ _ _ (by omega) (by omega) hT hfr pf0 v140003 (lv_sub hl [0] rfl)
  refine lv_aload_n hx hb dX8_takeWord_0 rfl (lv_at hl 0 rfl) ?_
  refine lv_lconst (v := 0) hx hb dX8_takeWord_1 (by decide) ?_
  refine t_put (C := RX8) (T := TX8) (N := 8) (v := .long (0 : Int64)) X hT m0 g0 rfl tyX8 tyX8_ok nmX8 rfl 7 (by decide) qw_215 inlX8 rfl (by first | rfl | decide) (by first | rfl | decide) rfl (⟨_, rfl⟩) dX8_takeWord_2 (fun F H locs hT v140004 h1v140004 h2v140004 => ?_)
  have pf0 := (h1v140004 _ _ (Or.inr (by decide))).trans pf0
  have hfr : (∀ b j : Nat, (tag b ≠ 24 ∨ j ≠ 2) → (tag b ≠ 24 ∨ j ≠ 3) → (tag b ≠ 24 ∨ j ≠ 7) → fld F b j = fld Fo b j) ∧ EF tag F Fo := ⟨fun b j n24_2 n24_3 n24_7 => (h1v140004 b j (fr_ne g0 n24_7)).trans (hfr.1 b j n24_2 n24_3 n24_7), fun b j hb => (h2v140004 b j).trans (hfr.2 b j hb)⟩
  obtain ⟨z140005, qz140005, rz140005⟩ := t_fld hT m0 g0 rfl 2 rfl
  have rz140005 : 0 ≤ z140005.toInt ∧ z140005.toInt ≤ 1000 := rz140005
  exact K5 1001 z140005 _ _ _ _ (by omega) (by omega) hT hfr pf0 qz140005 (lv_sub hl [0] rfl)
set_option maxHeartbeats 4000000 in
set_option maxRecDepth 100000 in
theorem kt440_X8_advance (l : Launch) (G : KG) (tag : Nat → Nat) (L : List Nat) (Fo : Nat → va_E) (ho : okT G ttC tag L Fo) (p0 : Nat) (x0 : Nat) (m0 : p0 ∈ L) (g0 : tag p0 = 24) (mx0 : x0 ∈ L) (gx0 : tag x0 = 1) (pf0 : fld Fo p0 0 = .ref x0) : TMv l yX8_advance cX8_advance 2 { frames := 2, cells := 0, slots := 0, locals := 41 } G ttC tag L Fo [.ref p0] (fun F1 => ((∀ b j : Nat, (tag b ≠ 24 ∨ j ≠ 2) → (tag b ≠ 24 ∨ j ≠ 3) → (tag b ≠ 24 ∨ j ≠ 4) → (tag b ≠ 24 ∨ j ≠ 5) → (tag b ≠ 24 ∨ j ≠ 6) → (tag b ≠ 24 ∨ j ≠ 7) → fld F1 b j = fld Fo b j) ∧ EF tag F1 Fo)) := by
  refine t_bodyv (y := yX8_advance) (cd := cX8_advance) (mL := 2) (rm := { frames := 2, cells := 0, slots := 0, locals := 41 }) (av := [.ref p0]) (by decide) (Nat.le_of_ble_eq_true rfl) ho ?_
  intro p e s m args below meth c ls A Q hQ X hT hl
  have hx := X.1.1
  have hb := X.1.2.1
  have hl : lv_has ls 2 [(0, .ref p0)] := hl
  obtain ⟨F, hFo⟩ : ∃ F : Nat → va_E, F = Fo := ⟨_, rfl⟩
  rw [← hFo] at hT pf0
  have hfr : (∀ b j : Nat, (tag b ≠ 24 ∨ j ≠ 2) → (tag b ≠ 24 ∨ j ≠ 3) → (tag b ≠ 24 ∨ j ≠ 4) → (tag b ≠ 24 ∨ j ≠ 5) → (tag b ≠ 24 ∨ j ≠ 6) → (tag b ≠ 24 ∨ j ≠ 7) → fld F b j = fld Fo b j) ∧ EF tag F Fo := by
    rw [hFo]
    exact ⟨by intros; rfl, fun _ _ _ => rfl⟩
  have K121 : ∀ (z140747 : Int32) (z140748 : Int32) (b140749 : Nat) (z140750 : Int32) (z140751 : Int32) (z140752 : Int32) (z140753 : Int32) (F : Nat → va_E) (H : Heap) (locs : List Loc) (ls : Array Slot), (0 ≤ z140747.toInt ∧ z140747.toInt ≤ 255) → (3 ≤ z140748.toInt ∧ z140748.toInt ≤ 4) → (b140749 ∈ L) → (tag b140749 = 24) → (0 ≤ z140750.toInt ∧ z140750.toInt ≤ 1000) → (0 ≤ z140751.toInt ∧ z140751.toInt ≤ 999) → (0 ≤ z140752.toInt ∧ z140752.toInt ≤ 1000) → (0 ≤ z140753.toInt ∧ z140753.toInt ≤ 999) → TH G ttC A s tag L F H locs → ((∀ b j : Nat, (tag b ≠ 24 ∨ j ≠ 2) → (tag b ≠ 24 ∨ j ≠ 3) → (tag b ≠ 24 ∨ j ≠ 4) → (tag b ≠ 24 ∨ j ≠ 5) → (tag b ≠ 24 ∨ j ≠ 6) → (tag b ≠ 24 ∨ j ≠ 7) → fld F b j = fld Fo b j) ∧ EF tag F Fo) → fld F p0 0 = .ref x0 → fld F p0 5 = .int z140750 → fld F p0 2 = .int z140751 → fld F p0 1 = .int z140752 → fld F p0 4 = .int z140753 → lv_has ls 2 [(0, .ref p0), (1, .int z140747)] → W p l e { frames := 2, cells := 0, slots := 0, locals := 41 } s m args below meth c H locs 0 0 Q (F0 m 121 ls [.int z140748, .ref b140749]) := by
    intro z140747 z140748 b140749 z140750 z140751 z140752 z140753 F H locs ls rz140747 rz140748 mb140749 gb140749 rz140750 rz140751 rz140752 rz140753 hT hfr pf0 qz140750 qz140751 qz140752 qz140753 hl
    refine t_put (C := RX8) (T := TX8) (N := 8) (v := .int z140748) X hT mb140749 gb140749 rfl tyX8 tyX8_ok nmX8 rfl 3 (by decide) qw_202 inlX8 rfl (by first | rfl | decide) (by first | rfl | decide) rfl (⟨_, rfl, (show (-2147483648) ≤ (z140748 : Int32).toInt from (by omega)), (show (z140748 : Int32).toInt ≤ 2147483647 from (by omega))⟩) dX8_advance_121 (fun F H locs hT v140754 h1v140754 h2v140754 => ?_)
    have qz140750 := (h1v140754 _ _ (Or.inr (by decide))).trans qz140750
    have qz140751 := (h1v140754 _ _ (Or.inr (by decide))).trans qz140751
    have qz140752 := (h1v140754 _ _ (Or.inr (by decide))).trans qz140752
    have qz140753 := (h1v140754 _ _ (Or.inr (by decide))).trans qz140753
    have pf0 := (h1v140754 _ _ (Or.inr (by decide))).trans pf0
    have hfr : (∀ b j : Nat, (tag b ≠ 24 ∨ j ≠ 2) → (tag b ≠ 24 ∨ j ≠ 3) → (tag b ≠ 24 ∨ j ≠ 4) → (tag b ≠ 24 ∨ j ≠ 5) → (tag b ≠ 24 ∨ j ≠ 6) → (tag b ≠ 24 ∨ j ≠ 7) → fld F b j = fld Fo b j) ∧ EF tag F Fo := ⟨fun b j n24_2 n24_3 n24_4 n24_5 n24_6 n24_7 => (h1v140754 b j (fr_ne gb140749 n24_3)).trans (hfr.1 b j n24_2 n24_3 n24_4 n24_5 n24_6 n24_7), fun b j hb => (h2v140754 b j).trans (hfr.2 b j hb)⟩
    refine lv_aload_n hx hb dX8_advance_124 rfl (lv_at hl 0 rfl) ?_
    refine lv_iload_n hx hb dX8_advance_125 rfl (lv_at hl 1 rfl) ?_
    refine t_put (C := RX8) (T := TX8) (N := 8) (v := .int z140747) X hT m0 g0 rfl tyX8 tyX8_ok nmX8 rfl 6 (by decide) qw_203 inlX8 rfl (by first | rfl | decide) (by first | rfl | decide) rfl (⟨_, rfl, (show (-2147483648) ≤ (z140747 : Int32).toInt from (by omega)), (show (z140747 : Int32).toInt ≤ 2147483647 from (by omega))⟩) dX8_advance_126 (fun F H locs hT v140755 h1v140755 h2v140755 => ?_)
    have qz140750 := (h1v140755 _ _ (Or.inr (by decide))).trans qz140750
    have qz140751 := (h1v140755 _ _ (Or.inr (by decide))).trans qz140751
    have qz140752 := (h1v140755 _ _ (Or.inr (by decide))).trans qz140752
    have qz140753 := (h1v140755 _ _ (Or.inr (by decide))).trans qz140753
    have pf0 := (h1v140755 _ _ (Or.inr (by decide))).trans pf0
    have v140754 := (h1v140755 _ _ (Or.inr (by decide))).trans v140754
    have hfr : (∀ b j : Nat, (tag b ≠ 24 ∨ j ≠ 2) → (tag b ≠ 24 ∨ j ≠ 3) → (tag b ≠ 24 ∨ j ≠ 4) → (tag b ≠ 24 ∨ j ≠ 5) → (tag b ≠ 24 ∨ j ≠ 6) → (tag b ≠ 24 ∨ j ≠ 7) → fld F b j = fld Fo b j) ∧ EF tag F Fo := ⟨fun b j n24_2 n24_3 n24_4 n24_5 n24_6 n24_7 => (h1v140755 b j (fr_ne g0 n24_6)).trans (hfr.1 b j n24_2 n24_3 n24_4 n24_5 n24_6 n24_7), fun b j hb => (h2v140755 b j).trans (hfr.2 b j hb)⟩
    refine lv_aload_n hx hb dX8_advance_129 rfl (lv_at hl 0 rfl) ?_
    refine lv_dup hx hb dX8_advance_130 rfl ?_
    refine t_get (C := RX8) (T := TX8) (N := 8) X hT m0 g0 rfl rfl 2 (by decide) qw_195 inlX8 rfl dX8_advance_131 (fun v140756 hv140756 ov140756 => ?_)
    obtain rfl : v140756 = .int z140751 := hv140756.symm.trans qz140751
    refine lv_iconst (v := 1) hx hb dX8_advance_134 (by decide) ?_
    refine lv_iadd hx hb dX8_advance_135 ?_
    refine lv_topi (fun z140757 ez140757 => ?_)
    have hz140757 : z140757.toInt = z140751.toInt + 1 := ar_add ez140757 (rfl : z140751.toInt = z140751.toInt) (by decide : (1 : Int32).toInt = 1) (by omega) (by omega)
    have rz140757 : 1 ≤ z140757.toInt ∧ z140757.toInt ≤ 1000 := by omega
    refine t_put (C := RX8) (T := TX8) (N := 8) (v := .int z140757) X hT m0 g0 rfl tyX8 tyX8_ok nmX8 rfl 2 (by decide) qw_195 inlX8 rfl (by first | rfl | decide) (by first | rfl | decide) rfl (⟨_, rfl, (show 0 ≤ (z140757 : Int32).toInt from (by omega)), (show (z140757 : Int32).toInt ≤ 1000 from (by omega))⟩) dX8_advance_136 (fun F H locs hT v140758 h1v140758 h2v140758 => ?_)
    have qz140750 := (h1v140758 _ _ (Or.inr (by decide))).trans qz140750
    have qz140752 := (h1v140758 _ _ (Or.inr (by decide))).trans qz140752
    have qz140753 := (h1v140758 _ _ (Or.inr (by decide))).trans qz140753
    have pf0 := (h1v140758 _ _ (Or.inr (by decide))).trans pf0
    have v140754 := (h1v140758 _ _ (Or.inr (by decide))).trans v140754
    have v140755 := (h1v140758 _ _ (Or.inr (by decide))).trans v140755
    have hfr : (∀ b j : Nat, (tag b ≠ 24 ∨ j ≠ 2) → (tag b ≠ 24 ∨ j ≠ 3) → (tag b ≠ 24 ∨ j ≠ 4) → (tag b ≠ 24 ∨ j ≠ 5) → (tag b ≠ 24 ∨ j ≠ 6) → (tag b ≠ 24 ∨ j ≠ 7) → fld F b j = fld Fo b j) ∧ EF tag F Fo := ⟨fun b j n24_2 n24_3 n24_4 n24_5 n24_6 n24_7 => (h1v140758 b j (fr_ne g0 n24_2)).trans (hfr.1 b j n24_2 n24_3 n24_4 n24_5 n24_6 n24_7), fun b j hb => (h2v140758 b j).trans (hfr.2 b j hb)⟩
    exact t_vret hQ X hT hfr (Nat.le_of_ble_eq_true rfl) (Nat.le_of_ble_eq_true rfl) dX8_advance_139
  have K116 : ∀ (z140759 : Int32) (b140760 : Nat) (z140761 : Int32) (z140762 : Int32) (z140763 : Int32) (z140764 : Int32) (F : Nat → va_E) (H : Heap) (locs : List Loc) (ls : Array Slot), (44 ≤ z140759.toInt ∧ z140759.toInt ≤ 59) → (b140760 ∈ L) → (tag b140760 = 24) → (0 ≤ z140761.toInt ∧ z140761.toInt ≤ 1000) → (0 ≤ z140762.toInt ∧ z140762.toInt ≤ 999) → (0 ≤ z140763.toInt ∧ z140763.toInt ≤ 1000) → (0 ≤ z140764.toInt ∧ z140764.toInt ≤ 999) → TH G ttC A s tag L F H locs → ((∀ b j : Nat, (tag b ≠ 24 ∨ j ≠ 2) → (tag b ≠ 24 ∨ j ≠ 3) → (tag b ≠ 24 ∨ j ≠ 4) → (tag b ≠ 24 ∨ j ≠ 5) → (tag b ≠ 24 ∨ j ≠ 6) → (tag b ≠ 24 ∨ j ≠ 7) → fld F b j = fld Fo b j) ∧ EF tag F Fo) → fld F p0 0 = .ref x0 → fld F p0 5 = .int z140761 → fld F p0 2 = .int z140762 → fld F p0 1 = .int z140763 → fld F p0 4 = .int z140764 → lv_has ls 2 [(0, .ref p0), (1, .int z140759)] → W p l e { frames := 2, cells := 0, slots := 0, locals := 41 } s m args below meth c H locs 0 0 Q (F0 m 116 ls [.ref b140760]) := by
    intro z140759 b140760 z140761 z140762 z140763 z140764 F H locs ls rz140759 mb140760 gb140760 rz140761 rz140762 rz140763 rz140764 hT hfr pf0 qz140761 qz140762 qz140763 qz140764 hl
    refine lv_iconst (v := 3) hx hb dX8_advance_116 (by decide) ?_
    refine lv_goto (tgt := 121) hx hb dX8_advance_117 (by decide) ?_
    exact K121 z140759 3 b140760 z140761 z140762 z140763 z140764 _ _ _ _ (by omega) (by decide) mb140760 gb140760 (by omega) (by omega) (by omega) (by omega) hT hfr pf0 qz140761 qz140762 qz140763 qz140764 (lv_sub hl [0, 1] rfl)
  have K45 : ∀ (z140765 : Int32) (z140766 : Int32) (z140767 : Int32) (z140768 : Int32) (F : Nat → va_E) (H : Heap) (locs : List Loc) (ls : Array Slot), (0 ≤ z140765.toInt ∧ z140765.toInt ≤ 1000) → (0 ≤ z140766.toInt ∧ z140766.toInt ≤ 1000) → (0 ≤ z140767.toInt ∧ z140767.toInt ≤ 1000) → (0 ≤ z140768.toInt ∧ z140768.toInt ≤ 1000) → TH G ttC A s tag L F H locs → ((∀ b j : Nat, (tag b ≠ 24 ∨ j ≠ 2) → (tag b ≠ 24 ∨ j ≠ 3) → (tag b ≠ 24 ∨ j ≠ 4) → (tag b ≠ 24 ∨ j ≠ 5) → (tag b ≠ 24 ∨ j ≠ 6) → (tag b ≠ 24 ∨ j ≠ 7) → fld F b j = fld Fo b j) ∧ EF tag F Fo) → fld F p0 0 = .ref x0 → fld F p0 4 = .int z140765 → fld F p0 5 = .int z140766 → fld F p0 2 = .int z140767 → fld F p0 1 = .int z140768 → lv_has ls 2 [(0, .ref p0)] → W p l e { frames := 2, cells := 0, slots := 0, locals := 41 } s m args below meth c H locs 0 0 Q (F0 m 45 ls []) := by
    intro z140765 z140766 z140767 z140768 F H locs ls rz140765 rz140766 rz140767 rz140768 hT hfr pf0 qz140765 qz140766 qz140767 qz140768 hl
    refine lv_aload_n hx hb dX8_advance_45 rfl (lv_at hl 0 rfl) ?_
    refine lv_aload_n hx hb dX8_advance_46 rfl (lv_at hl 0 rfl) ?_
    refine t_get (C := RX8) (T := TX8) (N := 8) X hT m0 g0 rfl rfl 2 (by decide) qw_195 inlX8 rfl dX8_advance_47 (fun v140769 hv140769 ov140769 => ?_)
    obtain rfl : v140769 = .int z140767 := hv140769.symm.trans qz140767
    refine t_put (C := RX8) (T := TX8) (N := 8) (v := .int z140767) X hT m0 g0 rfl tyX8 tyX8_ok nmX8 rfl 4 (by decide) qw_200 inlX8 rfl (by first | rfl | decide) (by first | rfl | decide) rfl (⟨_, rfl, (show 0 ≤ (z140767 : Int32).toInt from (by omega)), (show (z140767 : Int32).toInt ≤ 1000 from (by omega))⟩) dX8_advance_50 (fun F H locs hT v140770 h1v140770 h2v140770 => ?_)
    have qz140766 := (h1v140770 _ _ (Or.inr (by decide))).trans qz140766
    have qz140767 := (h1v140770 _ _ (Or.inr (by decide))).trans qz140767
    have qz140768 := (h1v140770 _ _ (Or.inr (by decide))).trans qz140768
    have pf0 := (h1v140770 _ _ (Or.inr (by decide))).trans pf0
    have hfr : (∀ b j : Nat, (tag b ≠ 24 ∨ j ≠ 2) → (tag b ≠ 24 ∨ j ≠ 3) → (tag b ≠ 24 ∨ j ≠ 4) → (tag b ≠ 24 ∨ j ≠ 5) → (tag b ≠ 24 ∨ j ≠ 6) → (tag b ≠ 24 ∨ j ≠ 7) → fld F b j = fld Fo b j) ∧ EF tag F Fo := ⟨fun b j n24_2 n24_3 n24_4 n24_5 n24_6 n24_7 => (h1v140770 b j (fr_ne g0 n24_4)).trans (hfr.1 b j n24_2 n24_3 n24_4 n24_5 n24_6 n24_7), fun b j hb => (h2v140770 b j).trans (hfr.2 b j hb)⟩
    refine lv_aload_n hx hb dX8_advance_53 rfl (lv_at hl 0 rfl) ?_
    refine lv_aload_n hx hb dX8_advance_54 rfl (lv_at hl 0 rfl) ?_
    refine t_get (C := RX8) (T := TX8) (N := 8) X hT m0 g0 rfl rfl 2 (by decide) qw_195 inlX8 rfl dX8_advance_55 (fun v140771 hv140771 ov140771 => ?_)
    obtain rfl : v140771 = .int z140767 := hv140771.symm.trans qz140767
    refine t_cVi (n := 1) (C := RX8) (T := TX8) (N := 8) (As := [.int z140767]) (rest := []) X hT (kt435_X8_byteAt l G tag L F hT.2.2.2 p0 z140767 x0 m0 g0 mx0 gx0 pf0) m0 g0 rfl rfl qw_204 qw_205 qw_206 qw_72 qw_207 ⟨rfl, by decide +kernel, by decide +kernel, by decide +kernel⟩ ⟨Nat.le_of_ble_eq_true rfl, Nat.le_of_ble_eq_true rfl⟩ hl rfl rfl (Nat.le_of_ble_eq_true rfl) dX8_advance_58 ⟨Nat.le_of_ble_eq_true rfl, Nat.le_of_ble_eq_true rfl⟩ (fun z140772 F9 H locs hT hz140772 => ?_)
    obtain ⟨fz140772, hz140772⟩ := hz140772
    rw [fz140772] at hT
    obtain ⟨hz140772, iz140772⟩ := hz140772
    refine lv_istore_n (lv' := [(1, .int z140772), (0, .ref p0)]) hx hb dX8_advance_61 rfl hl (by decide) rfl (fun ls hl => ?_)
    refine lv_iload_n hx hb dX8_advance_62 rfl (lv_at hl 0 rfl) ?_
    refine lv_iconst (v := (-1)) hx hb dX8_advance_63 (by decide) ?_
    refine lv_icmp_ne (tgt := 75) hx hb dX8_advance_64 (by decide) (fun c140773 => ?_) (fun c140773 => ?_)
    · have w140774 := cv_ne (rfl : z140772.toInt = z140772.toInt) (by decide : ((-1) : Int32).toInt = (-1)) c140773
      have w140775 := (fun h => (iz140772 h)) (by omega)
      refine lv_iload_n hx hb dX8_advance_75 rfl (lv_at hl 0 rfl) ?_
      refine t_cSi (n := 1) (As := [.int z140772]) (rest := []) X hT (kt436_X8_isLetter l G tag L F hT.2.2.2 z140772 ) qw_208 qw_209 qw_72 qw_210 ⟨by decide +kernel, by decide +kernel, by decide +kernel⟩ ⟨Nat.le_of_ble_eq_true rfl, Nat.le_of_ble_eq_true rfl⟩ hl rfl rfl (Nat.le_of_ble_eq_true rfl) dX8_advance_76 ⟨Nat.le_of_ble_eq_true rfl, Nat.le_of_ble_eq_true rfl⟩ (fun z140776 F9 H locs hT hz140776 => ?_)
      obtain ⟨fz140776, hz140776⟩ := hz140776
      rw [fz140776] at hT
      refine lv_if_eq (tgt := 89) hx hb dX8_advance_79 (by decide) (fun c140777 => ?_) (fun c140777 => ?_)
      · have w140778 := cv_eq (rfl : z140776.toInt = z140776.toInt) (by decide : (0 : Int32).toInt = 0) c140777
        refine lv_iload_n hx hb dX8_advance_89 rfl (lv_at hl 0 rfl) ?_
        refine t_cSi (n := 1) (As := [.int z140772]) (rest := []) X hT (kt437_X8_isDigit l G tag L F hT.2.2.2 z140772 ) qw_216 qw_217 qw_72 qw_218 ⟨by decide +kernel, by decide +kernel, by decide +kernel⟩ ⟨Nat.le_of_ble_eq_true rfl, Nat.le_of_ble_eq_true rfl⟩ hl rfl rfl (Nat.le_of_ble_eq_true rfl) dX8_advance_90 ⟨Nat.le_of_ble_eq_true rfl, Nat.le_of_ble_eq_true rfl⟩ (fun z140779 F9 H locs hT hz140779 => ?_)
        obtain ⟨fz140779, hz140779⟩ := hz140779
        rw [fz140779] at hT
        refine lv_if_eq (tgt := 103) hx hb dX8_advance_93 (by decide) (fun c140780 => ?_) (fun c140780 => ?_)
        · have w140781 := cv_eq (rfl : z140779.toInt = z140779.toInt) (by decide : (0 : Int32).toInt = 0) c140780
          refine lv_aload_n hx hb dX8_advance_103 rfl (lv_at hl 1 rfl) ?_
          refine lv_iload_n hx hb dX8_advance_104 rfl (lv_at hl 0 rfl) ?_
          refine lv_bipush (v := 59) hx hb dX8_advance_105 (by decide) ?_
          refine lv_icmp_eq (tgt := 116) hx hb dX8_advance_107 (by decide) (fun c140782 => ?_) (fun c140782 => ?_)
          · have w140783 := cv_eq (rfl : z140772.toInt = z140772.toInt) (by decide : (59 : Int32).toInt = 59) c140782
            have w140784 := (fun h => (iz140772 h)) (by omega)
            exact K116 z140772 p0 z140766 z140767 z140768 z140767 _ _ _ _ (by omega) m0 g0 (by omega) (by omega) (by omega) (by omega) hT hfr pf0 qz140766 qz140767 qz140768 v140770 (lv_sub hl [1, 0] rfl)
          · have w140785 := cv_ne (rfl : z140772.toInt = z140772.toInt) (by decide : (59 : Int32).toInt = 59) c140782
            have w140786 := (fun h => (iz140772 h)) (by omega)
            refine lv_iload_n hx hb dX8_advance_110 rfl (lv_at hl 0 rfl) ?_
            refine lv_bipush (v := 44) hx hb dX8_advance_111 (by decide) ?_
            refine lv_icmp_ne (tgt := 120) hx hb dX8_advance_113 (by decide) (fun c140787 => ?_) (fun c140787 => ?_)
            · have w140788 := cv_ne (rfl : z140772.toInt = z140772.toInt) (by decide : (44 : Int32).toInt = 44) c140787
              have w140789 := (fun h => (iz140772 h)) (by omega)
              refine lv_iconst (v := 4) hx hb dX8_advance_120 (by decide) ?_
              exact K121 z140772 4 p0 z140766 z140767 z140768 z140767 _ _ _ _ (by omega) (by decide) m0 g0 (by omega) (by omega) (by omega) (by omega) hT hfr pf0 qz140766 qz140767 qz140768 v140770 (lv_sub hl [1, 0] rfl)
            · have w140790 := cv_eq (rfl : z140772.toInt = z140772.toInt) (by decide : (44 : Int32).toInt = 44) c140787
              have w140791 := (fun h => (iz140772 h)) (by omega)
              exact K116 z140772 p0 z140766 z140767 z140768 z140767 _ _ _ _ (by omega) m0 g0 (by omega) (by omega) (by omega) (by omega) hT hfr pf0 qz140766 qz140767 qz140768 v140770 (lv_sub hl [1, 0] rfl)
        · have w140792 := cv_ne (rfl : z140779.toInt = z140779.toInt) (by decide : (0 : Int32).toInt = 0) c140780
          refine lv_aload_n hx hb dX8_advance_96 rfl (lv_at hl 1 rfl) ?_
          refine t_cVv (n := 0) (C := RX8) (T := TX8) (N := 8) (As := []) (rest := []) X hT (kt438_X8_takeWhole l G tag L F hT.2.2.2 p0 x0 m0 g0 mx0 gx0 pf0) m0 g0 rfl rfl qw_219 qw_220 qw_221 qw_72 qw_222 ⟨rfl, by decide +kernel, by decide +kernel, by decide +kernel⟩ ⟨Nat.le_of_ble_eq_true rfl, Nat.le_of_ble_eq_true rfl⟩ hl rfl rfl (Nat.le_of_ble_eq_true rfl) dX8_advance_97 ⟨Nat.le_of_ble_eq_true rfl, Nat.le_of_ble_eq_true rfl⟩ (fun F H locs hT hz140793 => ?_)
          have yz140793 := hz140793
          have qz140766 := (yz140793.1 _ 5 (Or.inr (by decide)) (Or.inr (by decide)) (Or.inr (by decide))).trans qz140766
          have qz140768 := (yz140793.1 _ 1 (Or.inr (by decide)) (Or.inr (by decide)) (Or.inr (by decide))).trans qz140768
          have pf0 := (yz140793.1 _ 0 (Or.inr (by decide)) (Or.inr (by decide)) (Or.inr (by decide))).trans pf0
          have v140770 := (yz140793.1 _ 4 (Or.inr (by decide)) (Or.inr (by decide)) (Or.inr (by decide))).trans v140770
          have hfr : (∀ b j : Nat, (tag b ≠ 24 ∨ j ≠ 2) → (tag b ≠ 24 ∨ j ≠ 3) → (tag b ≠ 24 ∨ j ≠ 4) → (tag b ≠ 24 ∨ j ≠ 5) → (tag b ≠ 24 ∨ j ≠ 6) → (tag b ≠ 24 ∨ j ≠ 7) → fld F b j = fld Fo b j) ∧ EF tag F Fo := ⟨fun b j n24_2 n24_3 n24_4 n24_5 n24_6 n24_7 => (yz140793.1 b j n24_2 n24_3 n24_6).trans (hfr.1 b j n24_2 n24_3 n24_4 n24_5 n24_6 n24_7), fun b j hb => (yz140793.2 b j hb).trans (hfr.2 b j hb)⟩
          refine lv_goto (tgt := 139) hx hb dX8_advance_100 (by decide) ?_
          exact t_vret hQ X hT hfr (Nat.le_of_ble_eq_true rfl) (Nat.le_of_ble_eq_true rfl) dX8_advance_139
      · have w140794 := cv_ne (rfl : z140776.toInt = z140776.toInt) (by decide : (0 : Int32).toInt = 0) c140777
        refine lv_aload_n hx hb dX8_advance_82 rfl (lv_at hl 1 rfl) ?_
        refine t_cVv (n := 0) (C := RX8) (T := TX8) (N := 8) (As := []) (rest := []) X hT (kt439_X8_takeWord l G tag L F hT.2.2.2 p0 x0 m0 g0 mx0 gx0 pf0) m0 g0 rfl rfl qw_211 qw_212 qw_213 qw_72 qw_214 ⟨rfl, by decide +kernel, by decide +kernel, by decide +kernel⟩ ⟨Nat.le_of_ble_eq_true rfl, Nat.le_of_ble_eq_true rfl⟩ hl rfl rfl (Nat.le_of_ble_eq_true rfl) dX8_advance_83 ⟨Nat.le_of_ble_eq_true rfl, Nat.le_of_ble_eq_true rfl⟩ (fun F H locs hT hz140795 => ?_)
        have yz140795 := hz140795
        have qz140766 := (yz140795.1 _ 5 (Or.inr (by decide)) (Or.inr (by decide)) (Or.inr (by decide))).trans qz140766
        have qz140768 := (yz140795.1 _ 1 (Or.inr (by decide)) (Or.inr (by decide)) (Or.inr (by decide))).trans qz140768
        have pf0 := (yz140795.1 _ 0 (Or.inr (by decide)) (Or.inr (by decide)) (Or.inr (by decide))).trans pf0
        have v140770 := (yz140795.1 _ 4 (Or.inr (by decide)) (Or.inr (by decide)) (Or.inr (by decide))).trans v140770
        have hfr : (∀ b j : Nat, (tag b ≠ 24 ∨ j ≠ 2) → (tag b ≠ 24 ∨ j ≠ 3) → (tag b ≠ 24 ∨ j ≠ 4) → (tag b ≠ 24 ∨ j ≠ 5) → (tag b ≠ 24 ∨ j ≠ 6) → (tag b ≠ 24 ∨ j ≠ 7) → fld F b j = fld Fo b j) ∧ EF tag F Fo := ⟨fun b j n24_2 n24_3 n24_4 n24_5 n24_6 n24_7 => (yz140795.1 b j n24_2 n24_3 n24_7).trans (hfr.1 b j n24_2 n24_3 n24_4 n24_5 n24_6 n24_7), fun b j hb => (yz140795.2 b j hb).trans (hfr.2 b j hb)⟩
        refine lv_goto (tgt := 139) hx hb dX8_advance_86 (by decide) ?_
        exact t_vret hQ X hT hfr (Nat.le_of_ble_eq_true rfl) (Nat.le_of_ble_eq_true rfl) dX8_advance_139
    · have w140796 := cv_eq (rfl : z140772.toInt = z140772.toInt) (by decide : ((-1) : Int32).toInt = (-1)) c140773
      refine lv_aload_n hx hb dX8_advance_67 rfl (lv_at hl 1 rfl) ?_
      refine lv_iconst (v := 0) hx hb dX8_advance_68 (by decide) ?_
      refine t_put (C := RX8) (T := TX8) (N := 8) (v := .int 0) X hT m0 g0 rfl tyX8 tyX8_ok nmX8 rfl 3 (by decide) qw_202 inlX8 rfl (by first | rfl | decide) (by first | rfl | decide) rfl (⟨_, rfl, (show (-2147483648) ≤ (0 : Int32).toInt from (by decide)), (show (0 : Int32).toInt ≤ 2147483647 from (by decide))⟩) dX8_advance_69 (fun F H locs hT v140797 h1v140797 h2v140797 => ?_)
      have qz140766 := (h1v140797 _ _ (Or.inr (by decide))).trans qz140766
      have qz140767 := (h1v140797 _ _ (Or.inr (by decide))).trans qz140767
      have qz140768 := (h1v140797 _ _ (Or.inr (by decide))).trans qz140768
      have pf0 := (h1v140797 _ _ (Or.inr (by decide))).trans pf0
      have v140770 := (h1v140797 _ _ (Or.inr (by decide))).trans v140770
      have hfr : (∀ b j : Nat, (tag b ≠ 24 ∨ j ≠ 2) → (tag b ≠ 24 ∨ j ≠ 3) → (tag b ≠ 24 ∨ j ≠ 4) → (tag b ≠ 24 ∨ j ≠ 5) → (tag b ≠ 24 ∨ j ≠ 6) → (tag b ≠ 24 ∨ j ≠ 7) → fld F b j = fld Fo b j) ∧ EF tag F Fo := ⟨fun b j n24_2 n24_3 n24_4 n24_5 n24_6 n24_7 => (h1v140797 b j (fr_ne g0 n24_3)).trans (hfr.1 b j n24_2 n24_3 n24_4 n24_5 n24_6 n24_7), fun b j hb => (h2v140797 b j).trans (hfr.2 b j hb)⟩
      refine lv_goto (tgt := 139) hx hb dX8_advance_72 (by decide) ?_
      exact t_vret hQ X hT hfr (Nat.le_of_ble_eq_true rfl) (Nat.le_of_ble_eq_true rfl) dX8_advance_139
  have K8 : ∀ (n : Nat) (z140798 : Int32) (z140799 : Int32) (z140800 : Int32) (F : Nat → va_E) (H : Heap) (locs : List Loc) (ls : Array Slot), (1000 - z140800.toInt < (n : Int)) → (0 ≤ z140798.toInt ∧ z140798.toInt ≤ 1000) → (0 ≤ z140799.toInt ∧ z140799.toInt ≤ 1000) → (0 ≤ z140800.toInt ∧ z140800.toInt ≤ 1000) → TH G ttC A s tag L F H locs → ((∀ b j : Nat, (tag b ≠ 24 ∨ j ≠ 2) → (tag b ≠ 24 ∨ j ≠ 3) → (tag b ≠ 24 ∨ j ≠ 4) → (tag b ≠ 24 ∨ j ≠ 5) → (tag b ≠ 24 ∨ j ≠ 6) → (tag b ≠ 24 ∨ j ≠ 7) → fld F b j = fld Fo b j) ∧ EF tag F Fo) → fld F p0 0 = .ref x0 → fld F p0 4 = .int z140798 → fld F p0 5 = .int z140799 → fld F p0 2 = .int z140800 → lv_has ls 2 [(0, .ref p0)] → W p l e { frames := 2, cells := 0, slots := 0, locals := 41 } s m args below meth c H locs 0 0 Q (F0 m 8 ls []) := by
    intro n
    induction n with
    | zero =>
      intro z140798 z140799 z140800 F H locs ls hn rz140798 rz140799 rz140800 hT hfr pf0 qz140798 qz140799 qz140800 hl
      exfalso
      omega
    | succ n ih8 =>
      intro z140798 z140799 z140800 F H locs ls hn rz140798 rz140799 rz140800 hT hfr pf0 qz140798 qz140799 qz140800 hl
      refine lv_aload_n hx hb dX8_advance_8 rfl (lv_at hl 0 rfl) ?_
      refine t_get (C := RX8) (T := TX8) (N := 8) X hT m0 g0 rfl rfl 2 (by decide) qw_195 inlX8 rfl dX8_advance_9 (fun v140801 hv140801 ov140801 => ?_)
      obtain rfl : v140801 = .int z140800 := hv140801.symm.trans qz140800
      refine lv_aload_n hx hb dX8_advance_12 rfl (lv_at hl 0 rfl) ?_
      refine t_get (C := RX8) (T := TX8) (N := 8) X hT m0 g0 rfl rfl 1 (by decide) qw_194 inlX8 rfl dX8_advance_13 (fun v140802 hv140802 ov140802 => ?_)
      obtain ⟨z140803, rfl, rz140803⟩ := okV_i ov140802
      refine lv_icmp_ge (tgt := 45) hx hb dX8_advance_16 (by decide) (fun c140804 => ?_) (fun c140804 => ?_)
      · have w140805 := cv_le (rfl : z140803.toInt = z140803.toInt) (rfl : z140800.toInt = z140800.toInt) c140804
        exact K45 z140798 z140799 z140800 z140803 _ _ _ _ (by omega) (by omega) (by omega) (by omega) hT hfr pf0 qz140798 qz140799 qz140800 hv140802 (lv_sub hl [0] rfl)
      · have w140806 := cv_nle (rfl : z140803.toInt = z140803.toInt) (rfl : z140800.toInt = z140800.toInt) c140804
        refine lv_aload_n hx hb dX8_advance_19 rfl (lv_at hl 0 rfl) ?_
        refine lv_aload_n hx hb dX8_advance_20 rfl (lv_at hl 0 rfl) ?_
        refine t_get (C := RX8) (T := TX8) (N := 8) X hT m0 g0 rfl rfl 2 (by decide) qw_195 inlX8 rfl dX8_advance_21 (fun v140807 hv140807 ov140807 => ?_)
        obtain rfl : v140807 = .int z140800 := hv140807.symm.trans qz140800
        refine t_cVi (n := 1) (C := RX8) (T := TX8) (N := 8) (As := [.int z140800]) (rest := []) X hT (kt435_X8_byteAt l G tag L F hT.2.2.2 p0 z140800 x0 m0 g0 mx0 gx0 pf0) m0 g0 rfl rfl qw_204 qw_205 qw_206 qw_72 qw_207 ⟨rfl, by decide +kernel, by decide +kernel, by decide +kernel⟩ ⟨Nat.le_of_ble_eq_true rfl, Nat.le_of_ble_eq_true rfl⟩ hl rfl rfl (Nat.le_of_ble_eq_true rfl) dX8_advance_24 ⟨Nat.le_of_ble_eq_true rfl, Nat.le_of_ble_eq_true rfl⟩ (fun z140808 F9 H locs hT hz140808 => ?_)
        obtain ⟨fz140808, hz140808⟩ := hz140808
        rw [fz140808] at hT
        obtain ⟨hz140808, iz140808⟩ := hz140808
        refine lv_bipush (v := 32) hx hb dX8_advance_27 (by decide) ?_
        refine lv_icmp_ne (tgt := 45) hx hb dX8_advance_29 (by decide) (fun c140809 => ?_) (fun c140809 => ?_)
        · have w140810 := cv_ne (rfl : z140808.toInt = z140808.toInt) (by decide : (32 : Int32).toInt = 32) c140809
          exact K45 z140798 z140799 z140800 z140803 _ _ _ _ (by omega) (by omega) (by omega) (by omega) hT hfr pf0 qz140798 qz140799 qz140800 hv140802 (lv_sub hl [0] rfl)
        · have w140811 := cv_eq (rfl : z140808.toInt = z140808.toInt) (by decide : (32 : Int32).toInt = 32) c140809
          have w140812 := (fun h => (iz140808 h)) (by omega)
          refine lv_aload_n hx hb dX8_advance_32 rfl (lv_at hl 0 rfl) ?_
          refine lv_dup hx hb dX8_advance_33 rfl ?_
          refine t_get (C := RX8) (T := TX8) (N := 8) X hT m0 g0 rfl rfl 2 (by decide) qw_195 inlX8 rfl dX8_advance_34 (fun v140813 hv140813 ov140813 => ?_)
          obtain rfl : v140813 = .int z140800 := hv140813.symm.trans qz140800
          refine lv_iconst (v := 1) hx hb dX8_advance_37 (by decide) ?_
          refine lv_iadd hx hb dX8_advance_38 ?_
          refine lv_topi (fun z140814 ez140814 => ?_)
          have hz140814 : z140814.toInt = z140800.toInt + 1 := ar_add ez140814 (rfl : z140800.toInt = z140800.toInt) (by decide : (1 : Int32).toInt = 1) (by omega) (by omega)
          have rz140814 : 1 ≤ z140814.toInt ∧ z140814.toInt ≤ 1000 := by omega
          refine t_put (C := RX8) (T := TX8) (N := 8) (v := .int z140814) X hT m0 g0 rfl tyX8 tyX8_ok nmX8 rfl 2 (by decide) qw_195 inlX8 rfl (by first | rfl | decide) (by first | rfl | decide) rfl (⟨_, rfl, (show 0 ≤ (z140814 : Int32).toInt from (by omega)), (show (z140814 : Int32).toInt ≤ 1000 from (by omega))⟩) dX8_advance_39 (fun F H locs hT v140815 h1v140815 h2v140815 => ?_)
          have qz140798 := (h1v140815 _ _ (Or.inr (by decide))).trans qz140798
          have qz140799 := (h1v140815 _ _ (Or.inr (by decide))).trans qz140799
          have pf0 := (h1v140815 _ _ (Or.inr (by decide))).trans pf0
          have hv140802 := (h1v140815 _ _ (Or.inr (by decide))).trans hv140802
          have hfr : (∀ b j : Nat, (tag b ≠ 24 ∨ j ≠ 2) → (tag b ≠ 24 ∨ j ≠ 3) → (tag b ≠ 24 ∨ j ≠ 4) → (tag b ≠ 24 ∨ j ≠ 5) → (tag b ≠ 24 ∨ j ≠ 6) → (tag b ≠ 24 ∨ j ≠ 7) → fld F b j = fld Fo b j) ∧ EF tag F Fo := ⟨fun b j n24_2 n24_3 n24_4 n24_5 n24_6 n24_7 => (h1v140815 b j (fr_ne g0 n24_2)).trans (hfr.1 b j n24_2 n24_3 n24_4 n24_5 n24_6 n24_7), fun b j hb => (h2v140815 b j).trans (hfr.2 b j hb)⟩
          refine lv_goto (tgt := 8) hx hb dX8_advance_42 (by decide) ?_
          exact ih8 z140798 z140799 z140814 _ _ _ _ (by omega) (by omega) (by omega) (by omega) hT hfr pf0 qz140798 qz140799 v140815 (lv_sub hl [0] rfl)
  refine lv_aload_n hx hb dX8_advance_0 rfl (lv_at hl 0 rfl) ?_
  refine lv_aload_n hx hb dX8_advance_1 rfl (lv_at hl 0 rfl) ?_
  refine t_get (C := RX8) (T := TX8) (N := 8) X hT m0 g0 rfl rfl 4 (by decide) qw_200 inlX8 rfl dX8_advance_2 (fun v140816 hv140816 ov140816 => ?_)
  obtain ⟨z140817, rfl, rz140817⟩ := okV_i ov140816
  refine t_put (C := RX8) (T := TX8) (N := 8) (v := .int z140817) X hT m0 g0 rfl tyX8 tyX8_ok nmX8 rfl 5 (by decide) qw_201 inlX8 rfl (by first | rfl | decide) (by first | rfl | decide) rfl (⟨_, rfl, (show (-2147483648) ≤ (z140817 : Int32).toInt from (by omega)), (show (z140817 : Int32).toInt ≤ 2147483647 from (by omega))⟩) dX8_advance_5 (fun F H locs hT v140818 h1v140818 h2v140818 => ?_)
  have pf0 := (h1v140818 _ _ (Or.inr (by decide))).trans pf0
  have hv140816 := (h1v140818 _ _ (Or.inr (by decide))).trans hv140816
  have hfr : (∀ b j : Nat, (tag b ≠ 24 ∨ j ≠ 2) → (tag b ≠ 24 ∨ j ≠ 3) → (tag b ≠ 24 ∨ j ≠ 4) → (tag b ≠ 24 ∨ j ≠ 5) → (tag b ≠ 24 ∨ j ≠ 6) → (tag b ≠ 24 ∨ j ≠ 7) → fld F b j = fld Fo b j) ∧ EF tag F Fo := ⟨fun b j n24_2 n24_3 n24_4 n24_5 n24_6 n24_7 => (h1v140818 b j (fr_ne g0 n24_5)).trans (hfr.1 b j n24_2 n24_3 n24_4 n24_5 n24_6 n24_7), fun b j hb => (h2v140818 b j).trans (hfr.2 b j hb)⟩
  obtain ⟨z140819, qz140819, rz140819⟩ := t_fld hT m0 g0 rfl 2 rfl
  have rz140819 : 0 ≤ z140819.toInt ∧ z140819.toInt ≤ 1000 := rz140819
  exact K8 1001 z140817 z140817 z140819 _ _ _ _ (by omega) (by omega) (by omega) (by omega) hT hfr pf0 hv140816 v140818 qz140819 (lv_sub hl [0] rfl)
