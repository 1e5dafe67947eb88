set_option maxHeartbeats 4000000 in
set_option maxRecDepth 100000 in
theorem k9_X13_init (l : Launch) (G : KG) (a0 : Nat) (sz : Nat) : Met l yX13_init (.code yX13_init cX13_init 1 none :: wsL_law) { frames := 1, cells := 16, slots := 4326, locals := 12 } (va_Pc [.ref a0] (Pw G [(a0, .inr (10, [.int 0, .int 0, .int 0, .null, .null, .null, .int 0, .int 0, .int 0, .int 0, .int 0, .int 0, .int 0, .int 0, .int 0, .long 0, .null, .null, .null, .null, .int 0, .int 0, .int 0, .int 0, .null, .null, .null, .null, .int 0, .null, .null, .null, .null, .null, .null, .null, .int 0]))] sz)) (va_Qv (fun _ => True) (fun (u9 : KS) t => Bw G (va_A [(a0, .inr (10, [.int 0, .int 0, .int 0, .null, .null, .null, .int 0, .int 0, .int 0, .int 0, .int 0, .int 0, .int 0, .int 0, .int 0, .long 0, .null, .null, .null, .null, .int 0, .int 0, .int 0, .int 0, .null, .null, .null, .null, .int 0, .null, .null, .null, .null, .null, .null, .null, .int 0]))] sz) [(a0, .inr (10, [.int 0, .int 0, .int (-1), .null, .null, .ref (u9.1 0), .int 0, .int 0, .int 0, .int 0, .int 0, .int 0, .int 0, .int 0, .int 0, .long 0, .ref (u9.1 1), .ref (u9.1 2), .ref (u9.1 3), .ref (u9.1 4), .int 0, .int 0, .int 0, .int 0, .ref (u9.1 5), .ref (u9.1 6), .ref (u9.1 7), .ref (u9.1 8), .int 0, .ref (u9.1 9), .ref (u9.1 10), .ref (u9.1 11), .ref (u9.1 12), .ref (u9.1 13), .ref (u9.1 14), .ref (u9.1 15), .int 0])), ((u9.1 0), .inl (G.2 3, 1000, .inl (fun _ => 0)))] t) (va_A [(a0, .inr (10, [.int 0, .int 0, .int 0, .null, .null, .null, .int 0, .int 0, .int 0, .int 0, .int 0, .int 0, .int 0, .int 0, .int 0, .long 0, .null, .null, .null, .null, .int 0, .int 0, .int 0, .int 0, .null, .null, .null, .null, .int 0, .null, .null, .null, .null, .null, .null, .null, .int 0]))] sz)) 16 4326 (va_A [(a0, .inr (10, [.int 0, .int 0, .int 0, .null, .null, .null, .int 0, .int 0, .int 0, .int 0, .int 0, .int 0, .int 0, .int 0, .int 0, .long 0, .null, .null, .null, .null, .int 0, .int 0, .int 0, .int 0, .null, .null, .null, .null, .int 0, .null, .null, .null, .null, .null, .null, .null, .int 0]))] sz) := by
  refine m_body (y := yX13_init) (cd := cX13_init) (mL := 1) (rt := none) (rm := { frames := 1, cells := 16, slots := 4326, locals := 12 }) (av := [.ref a0]) (wc := [(a0, .inr (10, [.int 0, .int 0, .int 0, .null, .null, .null, .int 0, .int 0, .int 0, .int 0, .int 0, .int 0, .int 0, .int 0, .int 0, .long 0, .null, .null, .null, .null, .int 0, .int 0, .int 0, .int 0, .null, .null, .null, .null, .int 0, .null, .null, .null, .null, .null, .null, .null, .int 0]))]) (G := G) (sz := sz) (Qf := fun A => va_Qv (fun _ => True) (fun (u9 : KS) t => Bw G A [(a0, .inr (10, [.int 0, .int 0, .int (-1), .null, .null, .ref (u9.1 0), .int 0, .int 0, .int 0, .int 0, .int 0, .int 0, .int 0, .int 0, .int 0, .long 0, .ref (u9.1 1), .ref (u9.1 2), .ref (u9.1 3), .ref (u9.1 4), .int 0, .int 0, .int 0, .int 0, .ref (u9.1 5), .ref (u9.1 6), .ref (u9.1 7), .ref (u9.1 8), .int 0, .ref (u9.1 9), .ref (u9.1 10), .ref (u9.1 11), .ref (u9.1 12), .ref (u9.1 13), .ref (u9.1 14), .ref (u9.1 15), .int 0])), ((u9.1 0), .inl (G.2 3, 1000, .inl (fun _ => 0)))] t) A) (by decide) (Nat.le_of_ble_eq_true rfl) ?_
  intro p e s m args below meth c ls A X hi hP hD hS hl
  have hx := X.1.1
  have hb := X.1.2.1
  have hi : meth.name = "<init>" := hi
  have hl : lv_has ls 1 [(0, .ref a0)] := hl
  refine lv_aload_n hx hb dX13_init_0 rfl (lv_at hl 0 rfl) ?_
  refine m_objI X hl qw_108 qw_11 qw_12 dX13_init_1 (Nat.le_of_ble_eq_true rfl) (Nat.le_of_ble_eq_true rfl) ?_
  refine lv_aload_n hx hb dX13_init_4 rfl (lv_at hl 0 rfl) ?_
  refine lv_iconst (v := (-1)) hx hb dX13_init_5 (by decide) ?_
  refine m_put (C := RX13) (T := TX13) (N := 37) (ci := 10) (v := .int (-1)) (ws' := [(a0, .inr (10, [.int 0, .int 0, .int (-1), .null, .null, .null, .int 0, .int 0, .int 0, .int 0, .int 0, .int 0, .int 0, .int 0, .int 0, .long 0, .null, .null, .null, .null, .int 0, .int 0, .int 0, .int 0, .null, .null, .null, .null, .int 0, .null, .null, .null, .null, .null, .null, .null, .int 0]))]) X hP hD hS tyX13 tyX13_ok nmX13 0 rfl rfl 2 (by decide) qw_109 inlX13 rfl (by first | rfl | decide) (by first | rfl | decide) (Nat.le_of_ble_eq_true rfl) rfl dX13_init_6 (fun H locs hP hD hS => ?_)
  refine lv_aload_n hx hb dX13_init_9 rfl (lv_at hl 0 rfl) ?_
  refine lv_sipush (v := 1000) hx hb dX13_init_10 (by decide) ?_
  refine m_newa (atype := .byte) (a0 := (1000, .inl (fun _ => 0))) X hP hD hS 3 rfl qw_110 (fun _ => rfl) (by decide) (by decide) (Nat.le_of_ble_eq_true rfl) (Nat.le_of_ble_eq_true rfl) (Nat.le_of_ble_eq_true rfl) dX13_init_13 (fun q94 H hP hD hS => ?_)
  have hP : va_P G.1 vwCl [(a0, .inr (10, [.int 0, .int 0, .int (-1), .null, .null, .null, .int 0, .int 0, .int 0, .int 0, .int 0, .int 0, .int 0, .int 0, .int 0, .long 0, .null, .null, .null, .null, .int 0, .int 0, .int 0, .int 0, .null, .null, .null, .null, .int 0, .null, .null, .null, .null, .null, .null, .null, .int 0])), (q94, .inl (G.2 3, 1000, .inl (fun _ => 0)))] H := hP
  have hD : va_D A [(a0, .inr (10, [.int 0, .int 0, .int (-1), .null, .null, .null, .int 0, .int 0, .int 0, .int 0, .int 0, .int 0, .int 0, .int 0, .int 0, .long 0, .null, .null, .null, .null, .int 0, .int 0, .int 0, .int 0, .null, .null, .null, .null, .int 0, .null, .null, .null, .null, .null, .null, .null, .int 0])), (q94, .inl (G.2 3, 1000, .inl (fun _ => 0)))] := hD
  refine W.widen (k := 1) (n := 1000) (Nat.le_of_ble_eq_true rfl) (Nat.le_of_ble_eq_true rfl) ?_
  refine m_putF (C := RX13) (T := TX13) (N := 37) (ci := 10) (v := .ref q94) (ws' := [(a0, .inr (10, [.int 0, .int 0, .int (-1), .null, .null, .ref q94, .int 0, .int 0, .int 0, .int 0, .int 0, .int 0, .int 0, .int 0, .int 0, .long 0, .null, .null, .null, .null, .int 0, .int 0, .int 0, .int 0, .null, .null, .null, .null, .int 0, .null, .null, .null, .null, .null, .null, .null, .int 0])), (q94, .inl (G.2 3, 1000, .inl (fun _ => 0)))]) X hi hP hD hS tyX13 tyX13_ok nmX13 0 rfl rfl 5 (by decide) qw_111 inlX13 rfl rfl (by first | rfl | decide) (by first | rfl | decide) (Nat.le_of_ble_eq_true rfl) rfl dX13_init_15 (fun H locs hP hD hS => ?_)
  refine lv_aload_n hx hb dX13_init_18 rfl (lv_at hl 0 rfl) ?_
  refine lv_sipush (v := 212) hx hb dX13_init_19 (by decide) ?_
  refine m_newa (atype := .int) (a0 := (212, .inl (fun _ => 0))) X hP hD hS 0 rfl qw_13 (fun _ => rfl) (by decide) (by decide) (Nat.le_of_ble_eq_true rfl) (Nat.le_of_ble_eq_true rfl) (Nat.le_of_ble_eq_true rfl) dX13_init_22 (fun q95 H hP hD hS => ?_)
  have hP : va_P G.1 vwCl [(a0, .inr (10, [.int 0, .int 0, .int (-1), .null, .null, .ref q94, .int 0, .int 0, .int 0, .int 0, .int 0, .int 0, .int 0, .int 0, .int 0, .long 0, .null, .null, .null, .null, .int 0, .int 0, .int 0, .int 0, .null, .null, .null, .null, .int 0, .null, .null, .null, .null, .null, .null, .null, .int 0])), (q94, .inl (G.2 3, 1000, .inl (fun _ => 0))), (q95, .inl (G.2 0, 212, .inl (fun _ => 0)))] H := hP
  have hD : va_D A [(a0, .inr (10, [.int 0, .int 0, .int (-1), .null, .null, .ref q94, .int 0, .int 0, .int 0, .int 0, .int 0, .int 0, .int 0, .int 0, .int 0, .long 0, .null, .null, .null, .null, .int 0, .int 0, .int 0, .int 0, .null, .null, .null, .null, .int 0, .null, .null, .null, .null, .null, .null, .null, .int 0])), (q94, .inl (G.2 3, 1000, .inl (fun _ => 0))), (q95, .inl (G.2 0, 212, .inl (fun _ => 0)))] := hD
  refine W.widen (k := 2) (n := 1212) (Nat.le_of_ble_eq_true rfl) (Nat.le_of_ble_eq_true rfl) ?_
  refine m_putF (C := RX13) (T := TX13) (N := 37) (ci := 10) (v := .ref q95) (ws' := [(a0, .inr (10, [.int 0, .int 0, .int (-1), .null, .null, .ref q94, .int 0, .int 0, .int 0, .int 0, .int 0, .int 0, .int 0, .int 0, .int 0, .long 0, .ref q95, .null, .null, .null, .int 0, .int 0, .int 0, .int 0, .null, .null, .null, .null, .int 0, .null, .null, .null, .null, .null, .null, .null, .int 0])), (q94, .inl (G.2 3, 1000, .inl (fun _ => 0))), (q95, .inl (G.2 0, 212, .inl (fun _ => 0)))]) X hi hP hD hS tyX13 tyX13_ok nmX13 0 rfl rfl 16 (by decide) qw_112 inlX13 rfl rfl (by first | rfl | decide) (by first | rfl | decide) (Nat.le_of_ble_eq_true rfl) rfl dX13_init_24 (fun H locs hP hD hS => ?_)
  have hP := hP.sub (ws' := [(a0, .inr (10, [.int 0, .int 0, .int (-1), .null, .null, .ref q94, .int 0, .int 0, .int 0, .int 0, .int 0, .int 0, .int 0, .int 0, .int 0, .long 0, .ref q95, .null, .null, .null, .int 0, .int 0, .int 0, .int 0, .null, .null, .null, .null, .int 0, .null, .null, .null, .null, .null, .null, .null, .int 0])), (q94, .inl (G.2 3, 1000, .inl (fun _ => 0)))]) [0, 1] rfl
  have hD := hD.sub (ws' := [(a0, .inr (10, [.int 0, .int 0, .int (-1), .null, .null, .ref q94, .int 0, .int 0, .int 0, .int 0, .int 0, .int 0, .int 0, .int 0, .int 0, .long 0, .ref q95, .null, .null, .null, .int 0, .int 0, .int 0, .int 0, .null, .null, .null, .null, .int 0, .null, .null, .null, .null, .null, .null, .null, .int 0])), (q94, .inl (G.2 3, 1000, .inl (fun _ => 0)))]) [0, 1] (by decide) rfl
  refine lv_aload_n hx hb dX13_init_27 rfl (lv_at hl 0 rfl) ?_
  refine lv_sipush (v := 212) hx hb dX13_init_28 (by decide) ?_
  refine m_newa (atype := .int) (a0 := (212, .inl (fun _ => 0))) X hP hD hS 0 rfl qw_13 (fun _ => rfl) (by decide) (by decide) (Nat.le_of_ble_eq_true rfl) (Nat.le_of_ble_eq_true rfl) (Nat.le_of_ble_eq_true rfl) dX13_init_31 (fun q96 H hP hD hS => ?_)
  have hP : va_P G.1 vwCl [(a0, .inr (10, [.int 0, .int 0, .int (-1), .null, .null, .ref q94, .int 0, .int 0, .int 0, .int 0, .int 0, .int 0, .int 0, .int 0, .int 0, .long 0, .ref q95, .null, .null, .null, .int 0, .int 0, .int 0, .int 0, .null, .null, .null, .null, .int 0, .null, .null, .null, .null, .null, .null, .null, .int 0])), (q94, .inl (G.2 3, 1000, .inl (fun _ => 0))), (q96, .inl (G.2 0, 212, .inl (fun _ => 0)))] H := hP
  have hD : va_D A [(a0, .inr (10, [.int 0, .int 0, .int (-1), .null, .null, .ref q94, .int 0, .int 0, .int 0, .int 0, .int 0, .int 0, .int 0, .int 0, .int 0, .long 0, .ref q95, .null, .null, .null, .int 0, .int 0, .int 0, .int 0, .null, .null, .null, .null, .int 0, .null, .null, .null, .null, .null, .null, .null, .int 0])), (q94, .inl (G.2 3, 1000, .inl (fun _ => 0))), (q96, .inl (G.2 0, 212, .inl (fun _ => 0)))] := hD
  refine W.widen (k := 3) (n := 1424) (Nat.le_of_ble_eq_true rfl) (Nat.le_of_ble_eq_true rfl) ?_
  refine m_putF (C := RX13) (T := TX13) (N := 37) (ci := 10) (v := .ref q96) (ws' := [(a0, .inr (10, [.int 0, .int 0, .int (-1), .null, .null, .ref q94, .int 0, .int 0, .int 0, .int 0, .int 0, .int 0, .int 0, .int 0, .int 0, .long 0, .ref q95, .ref q96, .null, .null, .int 0, .int 0, .int 0, .int 0, .null, .null, .null, .null, .int 0, .null, .null, .null, .null, .null, .null, .null, .int 0])), (q94, .inl (G.2 3, 1000, .inl (fun _ => 0))), (q96, .inl (G.2 0, 212, .inl (fun _ => 0)))]) X hi hP hD hS tyX13 tyX13_ok nmX13 0 rfl rfl 17 (by decide) qw_113 inlX13 rfl rfl (by first | rfl | decide) (by first | rfl | decide) (Nat.le_of_ble_eq_true rfl) rfl dX13_init_33 (fun H locs hP hD hS => ?_)
  have hP := hP.sub (ws' := [(a0, .inr (10, [.int 0, .int 0, .int (-1), .null, .null, .ref q94, .int 0, .int 0, .int 0, .int 0, .int 0, .int 0, .int 0, .int 0, .int 0, .long 0, .ref q95, .ref q96, .null, .null, .int 0, .int 0, .int 0, .int 0, .null, .null, .null, .null, .int 0, .null, .null, .null, .null, .null, .null, .null, .int 0])), (q94, .inl (G.2 3, 1000, .inl (fun _ => 0)))]) [0, 1] rfl
  have hD := hD.sub (ws' := [(a0, .inr (10, [.int 0, .int 0, .int (-1), .null, .null, .ref q94, .int 0, .int 0, .int 0, .int 0, .int 0, .int 0, .int 0, .int 0, .int 0, .long 0, .ref q95, .ref q96, .null, .null, .int 0, .int 0, .int 0, .int 0, .null, .null, .null, .null, .int 0, .null, .null, .null, .null, .null, .null, .null, .int 0])), (q94, .inl (G.2 3, 1000, .inl (fun _ => 0)))]) [0, 1] (by decide) rfl
  refine lv_aload_n hx hb dX13_init_36 rfl (lv_at hl 0 rfl) ?_
  refine lv_sipush (v := 2120) hx hb dX13_init_37 (by decide) ?_
  refine m_newa (atype := .int) (a0 := (2120, .inl (fun _ => 0))) X hP hD hS 0 rfl qw_13 (fun _ => rfl) (by decide) (by decide) (Nat.le_of_ble_eq_true rfl) (Nat.le_of_ble_eq_true rfl) (Nat.le_of_ble_eq_true rfl) dX13_init_40 (fun q97 H hP hD hS => ?_)
  have hP : va_P G.1 vwCl [(a0, .inr (10, [.int 0, .int 0, .int (-1), .null, .null, .ref q94, .int 0, .int 0, .int 0, .int 0, .int 0, .int 0, .int 0, .int 0, .int 0, .long 0, .ref q95, .ref q96, .null, .null, .int 0, .int 0, .int 0, .int 0, .null, .null, .null, .null, .int 0, .null, .null, .null, .null, .null, .null, .null, .int 0])), (q94, .inl (G.2 3, 1000, .inl (fun _ => 0))), (q97, .inl (G.2 0, 2120, .inl (fun _ => 0)))] H := hP
  have hD : va_D A [(a0, .inr (10, [.int 0, .int 0, .int (-1), .null, .null, .ref q94, .int 0, .int 0, .int 0, .int 0, .int 0, .int 0, .int 0, .int 0, .int 0, .long 0, .ref q95, .ref q96, .null, .null, .int 0, .int 0, .int 0, .int 0, .null, .null, .null, .null, .int 0, .null, .null, .null, .null, .null, .null, .null, .int 0])), (q94, .inl (G.2 3, 1000, .inl (fun _ => 0))), (q97, .inl (G.2 0, 2120, .inl (fun _ => 0)))] := hD
  refine W.widen (k := 4) (n := 3544) (Nat.le_of_ble_eq_true rfl) (Nat.le_of_ble_eq_true rfl) ?_
  refine m_putF (C := RX13) (T := TX13) (N := 37) (ci := 10) (v := .ref q97) (ws' := [(a0, .inr (10, [.int 0, .int 0, .int (-1), .null, .null, .ref q94, .int 0, .int 0, .int 0, .int 0, .int 0, .int 0, .int 0, .int 0, .int 0, .long 0, .ref q95, .ref q96, .ref q97, .null, .int 0, .int 0, .int 0, .int 0, .null, .null, .null, .null, .int 0, .null, .null, .null, .null, .null, .null, .null, .int 0])), (q94, .inl (G.2 3, 1000, .inl (fun _ => 0))), (q97, .inl (G.2 0, 2120, .inl (fun _ => 0)))]) X hi hP hD hS tyX13 tyX13_ok nmX13 0 rfl rfl 18 (by decide) qw_114 inlX13 rfl rfl (by first | rfl | decide) (by first | rfl | decide) (Nat.le_of_ble_eq_true rfl) rfl dX13_init_42 (fun H locs hP hD hS => ?_)
  have hP := hP.sub (ws' := [(a0, .inr (10, [.int 0, .int 0, .int (-1), .null, .null, .ref q94, .int 0, .int 0, .int 0, .int 0, .int 0, .int 0, .int 0, .int 0, .int 0, .long 0, .ref q95, .ref q96, .ref q97, .null, .int 0, .int 0, .int 0, .int 0, .null, .null, .null, .null, .int 0, .null, .null, .null, .null, .null, .null, .null, .int 0])), (q94, .inl (G.2 3, 1000, .inl (fun _ => 0)))]) [0, 1] rfl
  have hD := hD.sub (ws' := [(a0, .inr (10, [.int 0, .int 0, .int (-1), .null, .null, .ref q94, .int 0, .int 0, .int 0, .int 0, .int 0, .int 0, .int 0, .int 0, .int 0, .long 0, .ref q95, .ref q96, .ref q97, .null, .int 0, .int 0, .int 0, .int 0, .null, .null, .null, .null, .int 0, .null, .null, .null, .null, .null, .null, .null, .int 0])), (q94, .inl (G.2 3, 1000, .inl (fun _ => 0)))]) [0, 1] (by decide) rfl
  refine lv_aload_n hx hb dX13_init_45 rfl (lv_at hl 0 rfl) ?_
  refine lv_sipush (v := 636) hx hb dX13_init_46 (by decide) ?_
  refine m_newa (atype := .int) (a0 := (636, .inl (fun _ => 0))) X hP hD hS 0 rfl qw_13 (fun _ => rfl) (by decide) (by decide) (Nat.le_of_ble_eq_true rfl) (Nat.le_of_ble_eq_true rfl) (Nat.le_of_ble_eq_true rfl) dX13_init_49 (fun q98 H hP hD hS => ?_)
  have hP : va_P G.1 vwCl [(a0, .inr (10, [.int 0, .int 0, .int (-1), .null, .null, .ref q94, .int 0, .int 0, .int 0, .int 0, .int 0, .int 0, .int 0, .int 0, .int 0, .long 0, .ref q95, .ref q96, .ref q97, .null, .int 0, .int 0, .int 0, .int 0, .null, .null, .null, .null, .int 0, .null, .null, .null, .null, .null, .null, .null, .int 0])), (q94, .inl (G.2 3, 1000, .inl (fun _ => 0))), (q98, .inl (G.2 0, 636, .inl (fun _ => 0)))] H := hP
  have hD : va_D A [(a0, .inr (10, [.int 0, .int 0, .int (-1), .null, .null, .ref q94, .int 0, .int 0, .int 0, .int 0, .int 0, .int 0, .int 0, .int 0, .int 0, .long 0, .ref q95, .ref q96, .ref q97, .null, .int 0, .int 0, .int 0, .int 0, .null, .null, .null, .null, .int 0, .null, .null, .null, .null, .null, .null, .null, .int 0])), (q94, .inl (G.2 3, 1000, .inl (fun _ => 0))), (q98, .inl (G.2 0, 636, .inl (fun _ => 0)))] := hD
  refine W.widen (k := 5) (n := 4180) (Nat.le_of_ble_eq_true rfl) (Nat.le_of_ble_eq_true rfl) ?_
  refine m_putF (C := RX13) (T := TX13) (N := 37) (ci := 10) (v := .ref q98) (ws' := [(a0, .inr (10, [.int 0, .int 0, .int (-1), .null, .null, .ref q94, .int 0, .int 0, .int 0, .int 0, .int 0, .int 0, .int 0, .int 0, .int 0, .long 0, .ref q95, .ref q96, .ref q97, .ref q98, .int 0, .int 0, .int 0, .int 0, .null, .null, .null, .null, .int 0, .null, .null, .null, .null, .null, .null, .null, .int 0])), (q94, .inl (G.2 3, 1000, .inl (fun _ => 0))), (q98, .inl (G.2 0, 636, .inl (fun _ => 0)))]) X hi hP hD hS tyX13 tyX13_ok nmX13 0 rfl rfl 19 (by decide) qw_115 inlX13 rfl rfl (by first | rfl | decide) (by first | rfl | decide) (Nat.le_of_ble_eq_true rfl) rfl dX13_init_51 (fun H locs hP hD hS => ?_)
  have hP := hP.sub (ws' := [(a0, .inr (10, [.int 0, .int 0, .int (-1), .null, .null, .ref q94, .int 0, .int 0, .int 0, .int 0, .int 0, .int 0, .int 0, .int 0, .int 0, .long 0, .ref q95, .ref q96, .ref q97, .ref q98, .int 0, .int 0, .int 0, .int 0, .null, .null, .null, .null, .int 0, .null, .null, .null, .null, .null, .null, .null, .int 0])), (q94, .inl (G.2 3, 1000, .inl (fun _ => 0)))]) [0, 1] rfl
  have hD := hD.sub (ws' := [(a0, .inr (10, [.int 0, .int 0, .int (-1), .null, .null, .ref q94, .int 0, .int 0, .int 0, .int 0, .int 0, .int 0, .int 0, .int 0, .int 0, .long 0, .ref q95, .ref q96, .ref q97, .ref q98, .int 0, .int 0, .int 0, .int 0, .null, .null, .null, .null, .int 0, .null, .null, .null, .null, .null, .null, .null, .int 0])), (q94, .inl (G.2 3, 1000, .inl (fun _ => 0)))]) [0, 1] (by decide) rfl
  refine lv_aload_n hx hb dX13_init_54 rfl (lv_at hl 0 rfl) ?_
  refine lv_iconst (v := 4) hx hb dX13_init_55 (by decide) ?_
  refine m_newa (atype := .int) (a0 := (4, .inl (fun _ => 0))) X hP hD hS 0 rfl qw_13 (fun _ => rfl) (by decide) (by decide) (Nat.le_of_ble_eq_true rfl) (Nat.le_of_ble_eq_true rfl) (Nat.le_of_ble_eq_true rfl) dX13_init_56 (fun q99 H hP hD hS => ?_)
  have hP : va_P G.1 vwCl [(a0, .inr (10, [.int 0, .int 0, .int (-1), .null, .null, .ref q94, .int 0, .int 0, .int 0, .int 0, .int 0, .int 0, .int 0, .int 0, .int 0, .long 0, .ref q95, .ref q96, .ref q97, .ref q98, .int 0, .int 0, .int 0, .int 0, .null, .null, .null, .null, .int 0, .null, .null, .null, .null, .null, .null, .null, .int 0])), (q94, .inl (G.2 3, 1000, .inl (fun _ => 0))), (q99, .inl (G.2 0, 4, .inl (fun _ => 0)))] H := hP
  have hD : va_D A [(a0, .inr (10, [.int 0, .int 0, .int (-1), .null, .null, .ref q94, .int 0, .int 0, .int 0, .int 0, .int 0, .int 0, .int 0, .int 0, .int 0, .long 0, .ref q95, .ref q96, .ref q97, .ref q98, .int 0, .int 0, .int 0, .int 0, .null, .null, .null, .null, .int 0, .null, .null, .null, .null, .null, .null, .null, .int 0])), (q94, .inl (G.2 3, 1000, .inl (fun _ => 0))), (q99, .inl (G.2 0, 4, .inl (fun _ => 0)))] := hD
  refine W.widen (k := 6) (n := 4184) (Nat.le_of_ble_eq_true rfl) (Nat.le_of_ble_eq_true rfl) ?_
  refine m_putF (C := RX13) (T := TX13) (N := 37) (ci := 10) (v := .ref q99) (ws' := [(a0, .inr (10, [.int 0, .int 0, .int (-1), .null, .null, .ref q94, .int 0, .int 0, .int 0, .int 0, .int 0, .int 0, .int 0, .int 0, .int 0, .long 0, .ref q95, .ref q96, .ref q97, .ref q98, .int 0, .int 0, .int 0, .int 0, .ref q99, .null, .null, .null, .int 0, .null, .null, .null, .null, .null, .null, .null, .int 0])), (q94, .inl (G.2 3, 1000, .inl (fun _ => 0))), (q99, .inl (G.2 0, 4, .inl (fun _ => 0)))]) X hi hP hD hS tyX13 tyX13_ok nmX13 0 rfl rfl 24 (by decide) qw_116 inlX13 rfl rfl (by first | rfl | decide) (by first | rfl | decide) (Nat.le_of_ble_eq_true rfl) rfl dX13_init_58 (fun H locs hP hD hS => ?_)
  have hP := hP.sub (ws' := [(a0, .inr (10, [.int 0, .int 0, .int (-1), .null, .null, .ref q94, .int 0, .int 0, .int 0, .int 0, .int 0, .int 0, .int 0, .int 0, .int 0, .long 0, .ref q95, .ref q96, .ref q97, .ref q98, .int 0, .int 0, .int 0, .int 0, .ref q99, .null, .null, .null, .int 0, .null, .null, .null, .null, .null, .null, .null, .int 0])), (q94, .inl (G.2 3, 1000, .inl (fun _ => 0)))]) [0, 1] rfl
  have hD := hD.sub (ws' := [(a0, .inr (10, [.int 0, .int 0, .int (-1), .null, .null, .ref q94, .int 0, .int 0, .int 0, .int 0, .int 0, .int 0, .int 0, .int 0, .int 0, .long 0, .ref q95, .ref q96, .ref q97, .ref q98, .int 0, .int 0, .int 0, .int 0, .ref q99, .null, .null, .null, .int 0, .null, .null, .null, .null, .null, .null, .null, .int 0])), (q94, .inl (G.2 3, 1000, .inl (fun _ => 0)))]) [0, 1] (by decide) rfl
  refine lv_aload_n hx hb dX13_init_61 rfl (lv_at hl 0 rfl) ?_
  refine lv_iconst (v := 4) hx hb dX13_init_62 (by decide) ?_
  refine m_newa (atype := .int) (a0 := (4, .inl (fun _ => 0))) X hP hD hS 0 rfl qw_13 (fun _ => rfl) (by decide) (by decide) (Nat.le_of_ble_eq_true rfl) (Nat.le_of_ble_eq_true rfl) (Nat.le_of_ble_eq_true rfl) dX13_init_63 (fun q100 H hP hD hS => ?_)
  have hP : va_P G.1 vwCl [(a0, .inr (10, [.int 0, .int 0, .int (-1), .null, .null, .ref q94, .int 0, .int 0, .int 0, .int 0, .int 0, .int 0, .int 0, .int 0, .int 0, .long 0, .ref q95, .ref q96, .ref q97, .ref q98, .int 0, .int 0, .int 0, .int 0, .ref q99, .null, .null, .null, .int 0, .null, .null, .null, .null, .null, .null, .null, .int 0])), (q94, .inl (G.2 3, 1000, .inl (fun _ => 0))), (q100, .inl (G.2 0, 4, .inl (fun _ => 0)))] H := hP
  have hD : va_D A [(a0, .inr (10, [.int 0, .int 0, .int (-1), .null, .null, .ref q94, .int 0, .int 0, .int 0, .int 0, .int 0, .int 0, .int 0, .int 0, .int 0, .long 0, .ref q95, .ref q96, .ref q97, .ref q98, .int 0, .int 0, .int 0, .int 0, .ref q99, .null, .null, .null, .int 0, .null, .null, .null, .null, .null, .null, .null, .int 0])), (q94, .inl (G.2 3, 1000, .inl (fun _ => 0))), (q100, .inl (G.2 0, 4, .inl (fun _ => 0)))] := hD
  refine W.widen (k := 7) (n := 4188) (Nat.le_of_ble_eq_true rfl) (Nat.le_of_ble_eq_true rfl) ?_
  refine m_putF (C := RX13) (T := TX13) (N := 37) (ci := 10) (v := .ref q100) (ws' := [(a0, .inr (10, [.int 0, .int 0, .int (-1), .null, .null, .ref q94, .int 0, .int 0, .int 0, .int 0, .int 0, .int 0, .int 0, .int 0, .int 0, .long 0, .ref q95, .ref q96, .ref q97, .ref q98, .int 0, .int 0, .int 0, .int 0, .ref q99, .ref q100, .null, .null, .int 0, .null, .null, .null, .null, .null, .null, .null, .int 0])), (q94, .inl (G.2 3, 1000, .inl (fun _ => 0))), (q100, .inl (G.2 0, 4, .inl (fun _ => 0)))]) X hi hP hD hS tyX13 tyX13_ok nmX13 0 rfl rfl 25 (by decide) qw_117 inlX13 rfl rfl (by first | rfl | decide) (by first | rfl | decide) (Nat.le_of_ble_eq_true rfl) rfl dX13_init_65 (fun H locs hP hD hS => ?_)
  have hP := hP.sub (ws' := [(a0, .inr (10, [.int 0, .int 0, .int (-1), .null, .null, .ref q94, .int 0, .int 0, .int 0, .int 0, .int 0, .int 0, .int 0, .int 0, .int 0, .long 0, .ref q95, .ref q96, .ref q97, .ref q98, .int 0, .int 0, .int 0, .int 0, .ref q99, .ref q100, .null, .null, .int 0, .null, .null, .null, .null, .null, .null, .null, .int 0])), (q94, .inl (G.2 3, 1000, .inl (fun _ => 0)))]) [0, 1] rfl
  have hD := hD.sub (ws' := [(a0, .inr (10, [.int 0, .int 0, .int (-1), .null, .null, .ref q94, .int 0, .int 0, .int 0, .int 0, .int 0, .int 0, .int 0, .int 0, .int 0, .long 0, .ref q95, .ref q96, .ref q97, .ref q98, .int 0, .int 0, .int 0, .int 0, .ref q99, .ref q100, .null, .null, .int 0, .null, .null, .null, .null, .null, .null, .null, .int 0])), (q94, .inl (G.2 3, 1000, .inl (fun _ => 0)))]) [0, 1] (by decide) rfl
  refine lv_aload_n hx hb dX13_init_68 rfl (lv_at hl 0 rfl) ?_
  refine lv_bipush (v := 48) hx hb dX13_init_69 (by decide) ?_
  refine m_newa (atype := .int) (a0 := (48, .inl (fun _ => 0))) X hP hD hS 0 rfl qw_13 (fun _ => rfl) (by decide) (by decide) (Nat.le_of_ble_eq_true rfl) (Nat.le_of_ble_eq_true rfl) (Nat.le_of_ble_eq_true rfl) dX13_init_71 (fun q101 H hP hD hS => ?_)
  have hP : va_P G.1 vwCl [(a0, .inr (10, [.int 0, .int 0, .int (-1), .null, .null, .ref q94, .int 0, .int 0, .int 0, .int 0, .int 0, .int 0, .int 0, .int 0, .int 0, .long 0, .ref q95, .ref q96, .ref q97, .ref q98, .int 0, .int 0, .int 0, .int 0, .ref q99, .ref q100, .null, .null, .int 0, .null, .null, .null, .null, .null, .null, .null, .int 0])), (q94, .inl (G.2 3, 1000, .inl (fun _ => 0))), (q101, .inl (G.2 0, 48, .inl (fun _ => 0)))] H := hP
  have hD : va_D A [(a0, .inr (10, [.int 0, .int 0, .int (-1), .null, .null, .ref q94, .int 0, .int 0, .int 0, .int 0, .int 0, .int 0, .int 0, .int 0, .int 0, .long 0, .ref q95, .ref q96, .ref q97, .ref q98, .int 0, .int 0, .int 0, .int 0, .ref q99, .ref q100, .null, .null, .int 0, .null, .null, .null, .null, .null, .null, .null, .int 0])), (q94, .inl (G.2 3, 1000, .inl (fun _ => 0))), (q101, .inl (G.2 0, 48, .inl (fun _ => 0)))] := hD
  refine W.widen (k := 8) (n := 4236) (Nat.le_of_ble_eq_true rfl) (Nat.le_of_ble_eq_true rfl) ?_
  refine m_putF (C := RX13) (T := TX13) (N := 37) (ci := 10) (v := .ref q101) (ws' := [(a0, .inr (10, [.int 0, .int 0, .int (-1), .null, .null, .ref q94, .int 0, .int 0, .int 0, .int 0, .int 0, .int 0, .int 0, .int 0, .int 0, .long 0, .ref q95, .ref q96, .ref q97, .ref q98, .int 0, .int 0, .int 0, .int 0, .ref q99, .ref q100, .ref q101, .null, .int 0, .null, .null, .null, .null, .null, .null, .null, .int 0])), (q94, .inl (G.2 3, 1000, .inl (fun _ => 0))), (q101, .inl (G.2 0, 48, .inl (fun _ => 0)))]) X hi hP hD hS tyX13 tyX13_ok nmX13 0 rfl rfl 26 (by decide) qw_118 inlX13 rfl rfl (by first | rfl | decide) (by first | rfl | decide) (Nat.le_of_ble_eq_true rfl) rfl dX13_init_73 (fun H locs hP hD hS => ?_)
  have hP := hP.sub (ws' := [(a0, .inr (10, [.int 0, .int 0, .int (-1), .null, .null, .ref q94, .int 0, .int 0, .int 0, .int 0, .int 0, .int 0, .int 0, .int 0, .int 0, .long 0, .ref q95, .ref q96, .ref q97, .ref q98, .int 0, .int 0, .int 0, .int 0, .ref q99, .ref q100, .ref q101, .null, .int 0, .null, .null, .null, .null, .null, .null, .null, .int 0])), (q94, .inl (G.2 3, 1000, .inl (fun _ => 0)))]) [0, 1] rfl
  have hD := hD.sub (ws' := [(a0, .inr (10, [.int 0, .int 0, .int (-1), .null, .null, .ref q94, .int 0, .int 0, .int 0, .int 0, .int 0, .int 0, .int 0, .int 0, .int 0, .long 0, .ref q95, .ref q96, .ref q97, .ref q98, .int 0, .int 0, .int 0, .int 0, .ref q99, .ref q100, .ref q101, .null, .int 0, .null, .null, .null, .null, .null, .null, .null, .int 0])), (q94, .inl (G.2 3, 1000, .inl (fun _ => 0)))]) [0, 1] (by decide) rfl
  refine lv_aload_n hx hb dX13_init_76 rfl (lv_at hl 0 rfl) ?_
  refine lv_bipush (v := 48) hx hb dX13_init_77 (by decide) ?_
  refine m_newa (atype := .int) (a0 := (48, .inl (fun _ => 0))) X hP hD hS 0 rfl qw_13 (fun _ => rfl) (by decide) (by decide) (Nat.le_of_ble_eq_true rfl) (Nat.le_of_ble_eq_true rfl) (Nat.le_of_ble_eq_true rfl) dX13_init_79 (fun q102 H hP hD hS => ?_)
  have hP : va_P G.1 vwCl [(a0, .inr (10, [.int 0, .int 0, .int (-1), .null, .null, .ref q94, .int 0, .int 0, .int 0, .int 0, .int 0, .int 0, .int 0, .int 0, .int 0, .long 0, .ref q95, .ref q96, .ref q97, .ref q98, .int 0, .int 0, .int 0, .int 0, .ref q99, .ref q100, .ref q101, .null, .int 0, .null, .null, .null, .null, .null, .null, .null, .int 0])), (q94, .inl (G.2 3, 1000, .inl (fun _ => 0))), (q102, .inl (G.2 0, 48, .inl (fun _ => 0)))] H := hP
  have hD : va_D A [(a0, .inr (10, [.int 0, .int 0, .int (-1), .null, .null, .ref q94, .int 0, .int 0, .int 0, .int 0, .int 0, .int 0, .int 0, .int 0, .int 0, .long 0, .ref q95, .ref q96, .ref q97, .ref q98, .int 0, .int 0, .int 0, .int 0, .ref q99, .ref q100, .ref q101, .null, .int 0, .null, .null, .null, .null, .null, .null, .null, .int 0])), (q94, .inl (G.2 3, 1000, .inl (fun _ => 0))), (q102, .inl (G.2 0, 48, .inl (fun _ => 0)))] := hD
  refine W.widen (k := 9) (n := 4284) (Nat.le_of_ble_eq_true rfl) (Nat.le_of_ble_eq_true rfl) ?_
  refine m_putF (C := RX13) (T := TX13) (N := 37) (ci := 10) (v := .ref q102) (ws' := [(a0, .inr (10, [.int 0, .int 0, .int (-1), .null, .null, .ref q94, .int 0, .int 0, .int 0, .int 0, .int 0, .int 0, .int 0, .int 0, .int 0, .long 0, .ref q95, .ref q96, .ref q97, .ref q98, .int 0, .int 0, .int 0, .int 0, .ref q99, .ref q100, .ref q101, .ref q102, .int 0, .null, .null, .null, .null, .null, .null, .null, .int 0])), (q94, .inl (G.2 3, 1000, .inl (fun _ => 0))), (q102, .inl (G.2 0, 48, .inl (fun _ => 0)))]) X hi hP hD hS tyX13 tyX13_ok nmX13 0 rfl rfl 27 (by decide) qw_119 inlX13 rfl rfl (by first | rfl | decide) (by first | rfl | decide) (Nat.le_of_ble_eq_true rfl) rfl dX13_init_81 (fun H locs hP hD hS => ?_)
  have hP := hP.sub (ws' := [(a0, .inr (10, [.int 0, .int 0, .int (-1), .null, .null, .ref q94, .int 0, .int 0, .int 0, .int 0, .int 0, .int 0, .int 0, .int 0, .int 0, .long 0, .ref q95, .ref q96, .ref q97, .ref q98, .int 0, .int 0, .int 0, .int 0, .ref q99, .ref q100, .ref q101, .ref q102, .int 0, .null, .null, .null, .null, .null, .null, .null, .int 0])), (q94, .inl (G.2 3, 1000, .inl (fun _ => 0)))]) [0, 1] rfl
  have hD := hD.sub (ws' := [(a0, .inr (10, [.int 0, .int 0, .int (-1), .null, .null, .ref q94, .int 0, .int 0, .int 0, .int 0, .int 0, .int 0, .int 0, .int 0, .int 0, .long 0, .ref q95, .ref q96, .ref q97, .ref q98, .int 0, .int 0, .int 0, .int 0, .ref q99, .ref q100, .ref q101, .ref q102, .int 0, .null, .null, .null, .null, .null, .null, .null, .int 0])), (q94, .inl (G.2 3, 1000, .inl (fun _ => 0)))]) [0, 1] (by decide) rfl
  refine lv_aload_n hx hb dX13_init_84 rfl (lv_at hl 0 rfl) ?_
  refine lv_bipush (v := 6) hx hb dX13_init_85 (by decide) ?_
  refine m_newa (atype := .int) (a0 := (6, .inl (fun _ => 0))) X hP hD hS 0 rfl qw_13 (fun _ => rfl) (by decide) (by decide) (Nat.le_of_ble_eq_true rfl) (Nat.le_of_ble_eq_true rfl) (Nat.le_of_ble_eq_true rfl) dX13_init_87 (fun q103 H hP hD hS => ?_)
  have hP : va_P G.1 vwCl [(a0, .inr (10, [.int 0, .int 0, .int (-1), .null, .null, .ref q94, .int 0, .int 0, .int 0, .int 0, .int 0, .int 0, .int 0, .int 0, .int 0, .long 0, .ref q95, .ref q96, .ref q97, .ref q98, .int 0, .int 0, .int 0, .int 0, .ref q99, .ref q100, .ref q101, .ref q102, .int 0, .null, .null, .null, .null, .null, .null, .null, .int 0])), (q94, .inl (G.2 3, 1000, .inl (fun _ => 0))), (q103, .inl (G.2 0, 6, .inl (fun _ => 0)))] H := hP
  have hD : va_D A [(a0, .inr (10, [.int 0, .int 0, .int (-1), .null, .null, .ref q94, .int 0, .int 0, .int 0, .int 0, .int 0, .int 0, .int 0, .int 0, .int 0, .long 0, .ref q95, .ref q96, .ref q97, .ref q98, .int 0, .int 0, .int 0, .int 0, .ref q99, .ref q100, .ref q101, .ref q102, .int 0, .null, .null, .null, .null, .null, .null, .null, .int 0])), (q94, .inl (G.2 3, 1000, .inl (fun _ => 0))), (q103, .inl (G.2 0, 6, .inl (fun _ => 0)))] := hD
  refine W.widen (k := 10) (n := 4290) (Nat.le_of_ble_eq_true rfl) (Nat.le_of_ble_eq_true rfl) ?_
  refine m_putF (C := RX13) (T := TX13) (N := 37) (ci := 10) (v := .ref q103) (ws' := [(a0, .inr (10, [.int 0, .int 0, .int (-1), .null, .null, .ref q94, .int 0, .int 0, .int 0, .int 0, .int 0, .int 0, .int 0, .int 0, .int 0, .long 0, .ref q95, .ref q96, .ref q97, .ref q98, .int 0, .int 0, .int 0, .int 0, .ref q99, .ref q100, .ref q101, .ref q102, .int 0, .ref q103, .null, .null, .null, .null, .null, .null, .int 0])), (q94, .inl (G.2 3, 1000, .inl (fun _ => 0))), (q103, .inl (G.2 0, 6, .inl (fun _ => 0)))]) X hi hP hD hS tyX13 tyX13_ok nmX13 0 rfl rfl 29 (by decide) qw_120 inlX13 rfl rfl (by first | rfl | decide) (by first | rfl | decide) (Nat.le_of_ble_eq_true rfl) rfl dX13_init_89 (fun H locs hP hD hS => ?_)
  have hP := hP.sub (ws' := [(a0, .inr (10, [.int 0, .int 0, .int (-1), .null, .null, .ref q94, .int 0, .int 0, .int 0, .int 0, .int 0, .int 0, .int 0, .int 0, .int 0, .long 0, .ref q95, .ref q96, .ref q97, .ref q98, .int 0, .int 0, .int 0, .int 0, .ref q99, .ref q100, .ref q101, .ref q102, .int 0, .ref q103, .null, .null, .null, .null, .null, .null, .int 0])), (q94, .inl (G.2 3, 1000, .inl (fun _ => 0)))]) [0, 1] rfl
  have hD := hD.sub (ws' := [(a0, .inr (10, [.int 0, .int 0, .int (-1), .null, .null, .ref q94, .int 0, .int 0, .int 0, .int 0, .int 0, .int 0, .int 0, .int 0, .int 0, .long 0, .ref q95, .ref q96, .ref q97, .ref q98, .int 0, .int 0, .int 0, .int 0, .ref q99, .ref q100, .ref q101, .ref q102, .int 0, .ref q103, .null, .null, .null, .null, .null, .null, .int 0])), (q94, .inl (G.2 3, 1000, .inl (fun _ => 0)))]) [0, 1] (by decide) rfl
  refine lv_aload_n hx hb dX13_init_92 rfl (lv_at hl 0 rfl) ?_
  refine lv_bipush (v := 6) hx hb dX13_init_93 (by decide) ?_
  refine m_newa (atype := .int) (a0 := (6, .inl (fun _ => 0))) X hP hD hS 0 rfl qw_13 (fun _ => rfl) (by decide) (by decide) (Nat.le_of_ble_eq_true rfl) (Nat.le_of_ble_eq_true rfl) (Nat.le_of_ble_eq_true rfl) dX13_init_95 (fun q104 H hP hD hS => ?_)
  have hP : va_P G.1 vwCl [(a0, .inr (10, [.int 0, .int 0, .int (-1), .null, .null, .ref q94, .int 0, .int 0, .int 0, .int 0, .int 0, .int 0, .int 0, .int 0, .int 0, .long 0, .ref q95, .ref q96, .ref q97, .ref q98, .int 0, .int 0, .int 0, .int 0, .ref q99, .ref q100, .ref q101, .ref q102, .int 0, .ref q103, .null, .null, .null, .null, .null, .null, .int 0])), (q94, .inl (G.2 3, 1000, .inl (fun _ => 0))), (q104, .inl (G.2 0, 6, .inl (fun _ => 0)))] H := hP
  have hD : va_D A [(a0, .inr (10, [.int 0, .int 0, .int (-1), .null, .null, .ref q94, .int 0, .int 0, .int 0, .int 0, .int 0, .int 0, .int 0, .int 0, .int 0, .long 0, .ref q95, .ref q96, .ref q97, .ref q98, .int 0, .int 0, .int 0, .int 0, .ref q99, .ref q100, .ref q101, .ref q102, .int 0, .ref q103, .null, .null, .null, .null, .null, .null, .int 0])), (q94, .inl (G.2 3, 1000, .inl (fun _ => 0))), (q104, .inl (G.2 0, 6, .inl (fun _ => 0)))] := hD
  refine W.widen (k := 11) (n := 4296) (Nat.le_of_ble_eq_true rfl) (Nat.le_of_ble_eq_true rfl) ?_
  refine m_putF (C := RX13) (T := TX13) (N := 37) (ci := 10) (v := .ref q104) (ws' := [(a0, .inr (10, [.int 0, .int 0, .int (-1), .null, .null, .ref q94, .int 0, .int 0, .int 0, .int 0, .int 0, .int 0, .int 0, .int 0, .int 0, .long 0, .ref q95, .ref q96, .ref q97, .ref q98, .int 0, .int 0, .int 0, .int 0, .ref q99, .ref q100, .ref q101, .ref q102, .int 0, .ref q103, .ref q104, .null, .null, .null, .null, .null, .int 0])), (q94, .inl (G.2 3, 1000, .inl (fun _ => 0))), (q104, .inl (G.2 0, 6, .inl (fun _ => 0)))]) X hi hP hD hS tyX13 tyX13_ok nmX13 0 rfl rfl 30 (by decide) qw_121 inlX13 rfl rfl (by first | rfl | decide) (by first | rfl | decide) (Nat.le_of_ble_eq_true rfl) rfl dX13_init_97 (fun H locs hP hD hS => ?_)
  have hP := hP.sub (ws' := [(a0, .inr (10, [.int 0, .int 0, .int (-1), .null, .null, .ref q94, .int 0, .int 0, .int 0, .int 0, .int 0, .int 0, .int 0, .int 0, .int 0, .long 0, .ref q95, .ref q96, .ref q97, .ref q98, .int 0, .int 0, .int 0, .int 0, .ref q99, .ref q100, .ref q101, .ref q102, .int 0, .ref q103, .ref q104, .null, .null, .null, .null, .null, .int 0])), (q94, .inl (G.2 3, 1000, .inl (fun _ => 0)))]) [0, 1] rfl
  have hD := hD.sub (ws' := [(a0, .inr (10, [.int 0, .int 0, .int (-1), .null, .null, .ref q94, .int 0, .int 0, .int 0, .int 0, .int 0, .int 0, .int 0, .int 0, .int 0, .long 0, .ref q95, .ref q96, .ref q97, .ref q98, .int 0, .int 0, .int 0, .int 0, .ref q99, .ref q100, .ref q101, .ref q102, .int 0, .ref q103, .ref q104, .null, .null, .null, .null, .null, .int 0])), (q94, .inl (G.2 3, 1000, .inl (fun _ => 0)))]) [0, 1] (by decide) rfl
  refine lv_aload_n hx hb dX13_init_100 rfl (lv_at hl 0 rfl) ?_
  refine lv_bipush (v := 6) hx hb dX13_init_101 (by decide) ?_
  refine m_newa (atype := .int) (a0 := (6, .inl (fun _ => 0))) X hP hD hS 0 rfl qw_13 (fun _ => rfl) (by decide) (by decide) (Nat.le_of_ble_eq_true rfl) (Nat.le_of_ble_eq_true rfl) (Nat.le_of_ble_eq_true rfl) dX13_init_103 (fun q105 H hP hD hS => ?_)
  have hP : va_P G.1 vwCl [(a0, .inr (10, [.int 0, .int 0, .int (-1), .null, .null, .ref q94, .int 0, .int 0, .int 0, .int 0, .int 0, .int 0, .int 0, .int 0, .int 0, .long 0, .ref q95, .ref q96, .ref q97, .ref q98, .int 0, .int 0, .int 0, .int 0, .ref q99, .ref q100, .ref q101, .ref q102, .int 0, .ref q103, .ref q104, .null, .null, .null, .null, .null, .int 0])), (q94, .inl (G.2 3, 1000, .inl (fun _ => 0))), (q105, .inl (G.2 0, 6, .inl (fun _ => 0)))] H := hP
  have hD : va_D A [(a0, .inr (10, [.int 0, .int 0, .int (-1), .null, .null, .ref q94, .int 0, .int 0, .int 0, .int 0, .int 0, .int 0, .int 0, .int 0, .int 0, .long 0, .ref q95, .ref q96, .ref q97, .ref q98, .int 0, .int 0, .int 0, .int 0, .ref q99, .ref q100, .ref q101, .ref q102, .int 0, .ref q103, .ref q104, .null, .null, .null, .null, .null, .int 0])), (q94, .inl (G.2 3, 1000, .inl (fun _ => 0))), (q105, .inl (G.2 0, 6, .inl (fun _ => 0)))] := hD
  refine W.widen (k := 12) (n := 4302) (Nat.le_of_ble_eq_true rfl) (Nat.le_of_ble_eq_true rfl) ?_
  refine m_putF (C := RX13) (T := TX13) (N := 37) (ci := 10) (v := .ref q105) (ws' := [(a0, .inr (10, [.int 0, .int 0, .int (-1), .null, .null, .ref q94, .int 0, .int 0, .int 0, .int 0, .int 0, .int 0, .int 0, .int 0, .int 0, .long 0, .ref q95, .ref q96, .ref q97, .ref q98, .int 0, .int 0, .int 0, .int 0, .ref q99, .ref q100, .ref q101, .ref q102, .int 0, .ref q103, .ref q104, .ref q105, .null, .null, .null, .null, .int 0])), (q94, .inl (G.2 3, 1000, .inl (fun _ => 0))), (q105, .inl (G.2 0, 6, .inl (fun _ => 0)))]) X hi hP hD hS tyX13 tyX13_ok nmX13 0 rfl rfl 31 (by decide) qw_122 inlX13 rfl rfl (by first | rfl | decide) (by first | rfl | decide) (Nat.le_of_ble_eq_true rfl) rfl dX13_init_105 (fun H locs hP hD hS => ?_)
  have hP := hP.sub (ws' := [(a0, .inr (10, [.int 0, .int 0, .int (-1), .null, .null, .ref q94, .int 0, .int 0, .int 0, .int 0, .int 0, .int 0, .int 0, .int 0, .int 0, .long 0, .ref q95, .ref q96, .ref q97, .ref q98, .int 0, .int 0, .int 0, .int 0, .ref q99, .ref q100, .ref q101, .ref q102, .int 0, .ref q103, .ref q104, .ref q105, .null, .null, .null, .null, .int 0])), (q94, .inl (G.2 3, 1000, .inl (fun _ => 0)))]) [0, 1] rfl
  have hD := hD.sub (ws' := [(a0, .inr (10, [.int 0, .int 0, .int (-1), .null, .null, .ref q94, .int 0, .int 0, .int 0, .int 0, .int 0, .int 0, .int 0, .int 0, .int 0, .long 0, .ref q95, .ref q96, .ref q97, .ref q98, .int 0, .int 0, .int 0, .int 0, .ref q99, .ref q100, .ref q101, .ref q102, .int 0, .ref q103, .ref q104, .ref q105, .null, .null, .null, .null, .int 0])), (q94, .inl (G.2 3, 1000, .inl (fun _ => 0)))]) [0, 1] (by decide) rfl
  refine lv_aload_n hx hb dX13_init_108 rfl (lv_at hl 0 rfl) ?_
  refine lv_bipush (v := 6) hx hb dX13_init_109 (by decide) ?_
  refine m_newa (atype := .int) (a0 := (6, .inl (fun _ => 0))) X hP hD hS 0 rfl qw_13 (fun _ => rfl) (by decide) (by decide) (Nat.le_of_ble_eq_true rfl) (Nat.le_of_ble_eq_true rfl) (Nat.le_of_ble_eq_true rfl) dX13_init_111 (fun q106 H hP hD hS => ?_)
  have hP : va_P G.1 vwCl [(a0, .inr (10, [.int 0, .int 0, .int (-1), .null, .null, .ref q94, .int 0, .int 0, .int 0, .int 0, .int 0, .int 0, .int 0, .int 0, .int 0, .long 0, .ref q95, .ref q96, .ref q97, .ref q98, .int 0, .int 0, .int 0, .int 0, .ref q99, .ref q100, .ref q101, .ref q102, .int 0, .ref q103, .ref q104, .ref q105, .null, .null, .null, .null, .int 0])), (q94, .inl (G.2 3, 1000, .inl (fun _ => 0))), (q106, .inl (G.2 0, 6, .inl (fun _ => 0)))] H := hP
  have hD : va_D A [(a0, .inr (10, [.int 0, .int 0, .int (-1), .null, .null, .ref q94, .int 0, .int 0, .int 0, .int 0, .int 0, .int 0, .int 0, .int 0, .int 0, .long 0, .ref q95, .ref q96, .ref q97, .ref q98, .int 0, .int 0, .int 0, .int 0, .ref q99, .ref q100, .ref q101, .ref q102, .int 0, .ref q103, .ref q104, .ref q105, .null, .null, .null, .null, .int 0])), (q94, .inl (G.2 3, 1000, .inl (fun _ => 0))), (q106, .inl (G.2 0, 6, .inl (fun _ => 0)))] := hD
  refine W.widen (k := 13) (n := 4308) (Nat.le_of_ble_eq_true rfl) (Nat.le_of_ble_eq_true rfl) ?_
  refine m_putF (C := RX13) (T := TX13) (N := 37) (ci := 10) (v := .ref q106) (ws' := [(a0, .inr (10, [.int 0, .int 0, .int (-1), .null, .null, .ref q94, .int 0, .int 0, .int 0, .int 0, .int 0, .int 0, .int 0, .int 0, .int 0, .long 0, .ref q95, .ref q96, .ref q97, .ref q98, .int 0, .int 0, .int 0, .int 0, .ref q99, .ref q100, .ref q101, .ref q102, .int 0, .ref q103, .ref q104, .ref q105, .ref q106, .null, .null, .null, .int 0])), (q94, .inl (G.2 3, 1000, .inl (fun _ => 0))), (q106, .inl (G.2 0, 6, .inl (fun _ => 0)))]) X hi hP hD hS tyX13 tyX13_ok nmX13 0 rfl rfl 32 (by decide) qw_123 inlX13 rfl rfl (by first | rfl | decide) (by first | rfl | decide) (Nat.le_of_ble_eq_true rfl) rfl dX13_init_113 (fun H locs hP hD hS => ?_)
  have hP := hP.sub (ws' := [(a0, .inr (10, [.int 0, .int 0, .int (-1), .null, .null, .ref q94, .int 0, .int 0, .int 0, .int 0, .int 0, .int 0, .int 0, .int 0, .int 0, .long 0, .ref q95, .ref q96, .ref q97, .ref q98, .int 0, .int 0, .int 0, .int 0, .ref q99, .ref q100, .ref q101, .ref q102, .int 0, .ref q103, .ref q104, .ref q105, .ref q106, .null, .null, .null, .int 0])), (q94, .inl (G.2 3, 1000, .inl (fun _ => 0)))]) [0, 1] rfl
  have hD := hD.sub (ws' := [(a0, .inr (10, [.int 0, .int 0, .int (-1), .null, .null, .ref q94, .int 0, .int 0, .int 0, .int 0, .int 0, .int 0, .int 0, .int 0, .int 0, .long 0, .ref q95, .ref q96, .ref q97, .ref q98, .int 0, .int 0, .int 0, .int 0, .ref q99, .ref q100, .ref q101, .ref q102, .int 0, .ref q103, .ref q104, .ref q105, .ref q106, .null, .null, .null, .int 0])), (q94, .inl (G.2 3, 1000, .inl (fun _ => 0)))]) [0, 1] (by decide) rfl
  refine lv_aload_n hx hb dX13_init_116 rfl (lv_at hl 0 rfl) ?_
  refine lv_bipush (v := 6) hx hb dX13_init_117 (by decide) ?_
  refine m_newa (atype := .int) (a0 := (6, .inl (fun _ => 0))) X hP hD hS 0 rfl qw_13 (fun _ => rfl) (by decide) (by decide) (Nat.le_of_ble_eq_true rfl) (Nat.le_of_ble_eq_true rfl) (Nat.le_of_ble_eq_true rfl) dX13_init_119 (fun q107 H hP hD hS => ?_)
  have hP : va_P G.1 vwCl [(a0, .inr (10, [.int 0, .int 0, .int (-1), .null, .null, .ref q94, .int 0, .int 0, .int 0, .int 0, .int 0, .int 0, .int 0, .int 0, .int 0, .long 0, .ref q95, .ref q96, .ref q97, .ref q98, .int 0, .int 0, .int 0, .int 0, .ref q99, .ref q100, .ref q101, .ref q102, .int 0, .ref q103, .ref q104, .ref q105, .ref q106, .null, .null, .null, .int 0])), (q94, .inl (G.2 3, 1000, .inl (fun _ => 0))), (q107, .inl (G.2 0, 6, .inl (fun _ => 0)))] H := hP
  have hD : va_D A [(a0, .inr (10, [.int 0, .int 0, .int (-1), .null, .null, .ref q94, .int 0, .int 0, .int 0, .int 0, .int 0, .int 0, .int 0, .int 0, .int 0, .long 0, .ref q95, .ref q96, .ref q97, .ref q98, .int 0, .int 0, .int 0, .int 0, .ref q99, .ref q100, .ref q101, .ref q102, .int 0, .ref q103, .ref q104, .ref q105, .ref q106, .null, .null, .null, .int 0])), (q94, .inl (G.2 3, 1000, .inl (fun _ => 0))), (q107, .inl (G.2 0, 6, .inl (fun _ => 0)))] := hD
  refine W.widen (k := 14) (n := 4314) (Nat.le_of_ble_eq_true rfl) (Nat.le_of_ble_eq_true rfl) ?_
  refine m_putF (C := RX13) (T := TX13) (N := 37) (ci := 10) (v := .ref q107) (ws' := [(a0, .inr (10, [.int 0, .int 0, .int (-1), .null, .null, .ref q94, .int 0, .int 0, .int 0, .int 0, .int 0, .int 0, .int 0, .int 0, .int 0, .long 0, .ref q95, .ref q96, .ref q97, .ref q98, .int 0, .int 0, .int 0, .int 0, .ref q99, .ref q100, .ref q101, .ref q102, .int 0, .ref q103, .ref q104, .ref q105, .ref q106, .ref q107, .null, .null, .int 0])), (q94, .inl (G.2 3, 1000, .inl (fun _ => 0))), (q107, .inl (G.2 0, 6, .inl (fun _ => 0)))]) X hi hP hD hS tyX13 tyX13_ok nmX13 0 rfl rfl 33 (by decide) qw_124 inlX13 rfl rfl (by first | rfl | decide) (by first | rfl | decide) (Nat.le_of_ble_eq_true rfl) rfl dX13_init_121 (fun H locs hP hD hS => ?_)
  have hP := hP.sub (ws' := [(a0, .inr (10, [.int 0, .int 0, .int (-1), .null, .null, .ref q94, .int 0, .int 0, .int 0, .int 0, .int 0, .int 0, .int 0, .int 0, .int 0, .long 0, .ref q95, .ref q96, .ref q97, .ref q98, .int 0, .int 0, .int 0, .int 0, .ref q99, .ref q100, .ref q101, .ref q102, .int 0, .ref q103, .ref q104, .ref q105, .ref q106, .ref q107, .null, .null, .int 0])), (q94, .inl (G.2 3, 1000, .inl (fun _ => 0)))]) [0, 1] rfl
  have hD := hD.sub (ws' := [(a0, .inr (10, [.int 0, .int 0, .int (-1), .null, .null, .ref q94, .int 0, .int 0, .int 0, .int 0, .int 0, .int 0, .int 0, .int 0, .int 0, .long 0, .ref q95, .ref q96, .ref q97, .ref q98, .int 0, .int 0, .int 0, .int 0, .ref q99, .ref q100, .ref q101, .ref q102, .int 0, .ref q103, .ref q104, .ref q105, .ref q106, .ref q107, .null, .null, .int 0])), (q94, .inl (G.2 3, 1000, .inl (fun _ => 0)))]) [0, 1] (by decide) rfl
  refine lv_aload_n hx hb dX13_init_124 rfl (lv_at hl 0 rfl) ?_
  refine lv_bipush (v := 6) hx hb dX13_init_125 (by decide) ?_
  refine m_newa (atype := .int) (a0 := (6, .inl (fun _ => 0))) X hP hD hS 0 rfl qw_13 (fun _ => rfl) (by decide) (by decide) (Nat.le_of_ble_eq_true rfl) (Nat.le_of_ble_eq_true rfl) (Nat.le_of_ble_eq_true rfl) dX13_init_127 (fun q108 H hP hD hS => ?_)
  have hP : va_P G.1 vwCl [(a0, .inr (10, [.int 0, .int 0, .int (-1), .null, .null, .ref q94, .int 0, .int 0, .int 0, .int 0, .int 0, .int 0, .int 0, .int 0, .int 0, .long 0, .ref q95, .ref q96, .ref q97, .ref q98, .int 0, .int 0, .int 0, .int 0, .ref q99, .ref q100, .ref q101, .ref q102, .int 0, .ref q103, .ref q104, .ref q105, .ref q106, .ref q107, .null, .null, .int 0])), (q94, .inl (G.2 3, 1000, .inl (fun _ => 0))), (q108, .inl (G.2 0, 6, .inl (fun _ => 0)))] H := hP
  have hD : va_D A [(a0, .inr (10, [.int 0, .int 0, .int (-1), .null, .null, .ref q94, .int 0, .int 0, .int 0, .int 0, .int 0, .int 0, .int 0, .int 0, .int 0, .long 0, .ref q95, .ref q96, .ref q97, .ref q98, .int 0, .int 0, .int 0, .int 0, .ref q99, .ref q100, .ref q101, .ref q102, .int 0, .ref q103, .ref q104, .ref q105, .ref q106, .ref q107, .null, .null, .int 0])), (q94, .inl (G.2 3, 1000, .inl (fun _ => 0))), (q108, .inl (G.2 0, 6, .inl (fun _ => 0)))] := hD
  refine W.widen (k := 15) (n := 4320) (Nat.le_of_ble_eq_true rfl) (Nat.le_of_ble_eq_true rfl) ?_
  refine m_putF (C := RX13) (T := TX13) (N := 37) (ci := 10) (v := .ref q108) (ws' := [(a0, .inr (10, [.int 0, .int 0, .int (-1), .null, .null, .ref q94, .int 0, .int 0, .int 0, .int 0, .int 0, .int 0, .int 0, .int 0, .int 0, .long 0, .ref q95, .ref q96, .ref q97, .ref q98, .int 0, .int 0, .int 0, .int 0, .ref q99, .ref q100, .ref q101, .ref q102, .int 0, .ref q103, .ref q104, .ref q105, .ref q106, .ref q107, .ref q108, .null, .int 0])), (q94, .inl (G.2 3, 1000, .inl (fun _ => 0))), (q108, .inl (G.2 0, 6, .inl (fun _ => 0)))]) X hi hP hD hS tyX13 tyX13_ok nmX13 0 rfl rfl 34 (by decide) qw_125 inlX13 rfl rfl (by first | rfl | decide) (by first | rfl | decide) (Nat.le_of_ble_eq_true rfl) rfl dX13_init_129 (fun H locs hP hD hS => ?_)
  have hP := hP.sub (ws' := [(a0, .inr (10, [.int 0, .int 0, .int (-1), .null, .null, .ref q94, .int 0, .int 0, .int 0, .int 0, .int 0, .int 0, .int 0, .int 0, .int 0, .long 0, .ref q95, .ref q96, .ref q97, .ref q98, .int 0, .int 0, .int 0, .int 0, .ref q99, .ref q100, .ref q101, .ref q102, .int 0, .ref q103, .ref q104, .ref q105, .ref q106, .ref q107, .ref q108, .null, .int 0])), (q94, .inl (G.2 3, 1000, .inl (fun _ => 0)))]) [0, 1] rfl
  have hD := hD.sub (ws' := [(a0, .inr (10, [.int 0, .int 0, .int (-1), .null, .null, .ref q94, .int 0, .int 0, .int 0, .int 0, .int 0, .int 0, .int 0, .int 0, .int 0, .long 0, .ref q95, .ref q96, .ref q97, .ref q98, .int 0, .int 0, .int 0, .int 0, .ref q99, .ref q100, .ref q101, .ref q102, .int 0, .ref q103, .ref q104, .ref q105, .ref q106, .ref q107, .ref q108, .null, .int 0])), (q94, .inl (G.2 3, 1000, .inl (fun _ => 0)))]) [0, 1] (by decide) rfl
  refine lv_aload_n hx hb dX13_init_132 rfl (lv_at hl 0 rfl) ?_
  refine lv_bipush (v := 6) hx hb dX13_init_133 (by decide) ?_
  refine m_newa (atype := .int) (a0 := (6, .inl (fun _ => 0))) X hP hD hS 0 rfl qw_13 (fun _ => rfl) (by decide) (by decide) (Nat.le_of_ble_eq_true rfl) (Nat.le_of_ble_eq_true rfl) (Nat.le_of_ble_eq_true rfl) dX13_init_135 (fun q109 H hP hD hS => ?_)
  have hP : va_P G.1 vwCl [(a0, .inr (10, [.int 0, .int 0, .int (-1), .null, .null, .ref q94, .int 0, .int 0, .int 0, .int 0, .int 0, .int 0, .int 0, .int 0, .int 0, .long 0, .ref q95, .ref q96, .ref q97, .ref q98, .int 0, .int 0, .int 0, .int 0, .ref q99, .ref q100, .ref q101, .ref q102, .int 0, .ref q103, .ref q104, .ref q105, .ref q106, .ref q107, .ref q108, .null, .int 0])), (q94, .inl (G.2 3, 1000, .inl (fun _ => 0))), (q109, .inl (G.2 0, 6, .inl (fun _ => 0)))] H := hP
  have hD : va_D A [(a0, .inr (10, [.int 0, .int 0, .int (-1), .null, .null, .ref q94, .int 0, .int 0, .int 0, .int 0, .int 0, .int 0, .int 0, .int 0, .int 0, .long 0, .ref q95, .ref q96, .ref q97, .ref q98, .int 0, .int 0, .int 0, .int 0, .ref q99, .ref q100, .ref q101, .ref q102, .int 0, .ref q103, .ref q104, .ref q105, .ref q106, .ref q107, .ref q108, .null, .int 0])), (q94, .inl (G.2 3, 1000, .inl (fun _ => 0))), (q109, .inl (G.2 0, 6, .inl (fun _ => 0)))] := hD
  refine W.widen (k := 16) (n := 4326) (Nat.le_of_ble_eq_true rfl) (Nat.le_of_ble_eq_true rfl) ?_
  refine m_putF (C := RX13) (T := TX13) (N := 37) (ci := 10) (v := .ref q109) (ws' := [(a0, .inr (10, [.int 0, .int 0, .int (-1), .null, .null, .ref q94, .int 0, .int 0, .int 0, .int 0, .int 0, .int 0, .int 0, .int 0, .int 0, .long 0, .ref q95, .ref q96, .ref q97, .ref q98, .int 0, .int 0, .int 0, .int 0, .ref q99, .ref q100, .ref q101, .ref q102, .int 0, .ref q103, .ref q104, .ref q105, .ref q106, .ref q107, .ref q108, .ref q109, .int 0])), (q94, .inl (G.2 3, 1000, .inl (fun _ => 0))), (q109, .inl (G.2 0, 6, .inl (fun _ => 0)))]) X hi hP hD hS tyX13 tyX13_ok nmX13 0 rfl rfl 35 (by decide) qw_126 inlX13 rfl rfl (by first | rfl | decide) (by first | rfl | decide) (Nat.le_of_ble_eq_true rfl) rfl dX13_init_137 (fun H locs hP hD hS => ?_)
  have hP := hP.sub (ws' := [(a0, .inr (10, [.int 0, .int 0, .int (-1), .null, .null, .ref q94, .int 0, .int 0, .int 0, .int 0, .int 0, .int 0, .int 0, .int 0, .int 0, .long 0, .ref q95, .ref q96, .ref q97, .ref q98, .int 0, .int 0, .int 0, .int 0, .ref q99, .ref q100, .ref q101, .ref q102, .int 0, .ref q103, .ref q104, .ref q105, .ref q106, .ref q107, .ref q108, .ref q109, .int 0])), (q94, .inl (G.2 3, 1000, .inl (fun _ => 0)))]) [0, 1] rfl
  have hD := hD.sub (ws' := [(a0, .inr (10, [.int 0, .int 0, .int (-1), .null, .null, .ref q94, .int 0, .int 0, .int 0, .int 0, .int 0, .int 0, .int 0, .int 0, .int 0, .long 0, .ref q95, .ref q96, .ref q97, .ref q98, .int 0, .int 0, .int 0, .int 0, .ref q99, .ref q100, .ref q101, .ref q102, .int 0, .ref q103, .ref q104, .ref q105, .ref q106, .ref q107, .ref q108, .ref q109, .int 0])), (q94, .inl (G.2 3, 1000, .inl (fun _ => 0)))]) [0, 1] (by decide) rfl
  exact m_vret X hP hD hS ((fun k => match k with | 0 => q94 | 1 => q95 | 2 => q96 | 3 => q97 | 4 => q98 | 5 => q99 | 6 => q100 | 7 => q101 | 8 => q102 | 9 => q103 | 10 => q104 | 11 => q105 | 12 => q106 | 13 => q107 | 14 => q108 | 15 => q109 | _ => 0), (fun _ _ => 0)) [0, 1] (by decide) rfl trivial (Nat.le_of_ble_eq_true rfl) (Nat.le_of_ble_eq_true rfl) dX13_init_140
set_option maxHeartbeats 4000000 in
set_option maxRecDepth 100000 in
theorem k10_X11_putNumber (l : Launch) (G : KG) (a0 : Nat) (i0 : Int32) (a1 : Nat) (a2 : Nat) (a3 : Nat) (a4 : Nat) (a5 : Nat) (a6 : Nat) (a7 : Nat) (a8 : Nat) (a9 : Nat) (a10 : Nat) (a11 : Nat) (sz : Nat) : Met l yX11_putNumber (.code yX11_putNumber cX11_putNumber 3 none :: wsL_law) { frames := 0, cells := 0, slots := 0, locals := 0 } (va_Pc [.ref a0, .int i0] (Pw G [(a0, .inr (8, [.ref a1, .int 0, .int 0, .ref a2, .ref a3, .ref a4, .ref a5, .ref a6, .ref a7, .ref a8, .ref a9, .ref a10, .ref a11, .int 0, .int 0, .int 0])), (a1, .inl (G.2 0, 1000, .inl (fun _ => 0)))] sz)) (va_Qv (fun _ => True) (fun (u9 : KS) t => Bw G (va_A [(a0, .inr (8, [.ref a1, .int 0, .int 0, .ref a2, .ref a3, .ref a4, .ref a5, .ref a6, .ref a7, .ref a8, .ref a9, .ref a10, .ref a11, .int 0, .int 0, .int 0])), (a1, .inl (G.2 0, 1000, .inl (fun _ => 0)))] sz) [(a0, .inr (8, [.ref a1, .int 4, .int 0, .ref a2, .ref a3, .ref a4, .ref a5, .ref a6, .ref a7, .ref a8, .ref a9, .ref a10, .ref a11, .int 0, .int 0, .int 0])), (a1, .inl (G.2 0, 1000, .inl (u9.2 0)))] t) (va_A [(a0, .inr (8, [.ref a1, .int 0, .int 0, .ref a2, .ref a3, .ref a4, .ref a5, .ref a6, .ref a7, .ref a8, .ref a9, .ref a10, .ref a11, .int 0, .int 0, .int 0])), (a1, .inl (G.2 0, 1000, .inl (fun _ => 0)))] sz)) 0 0 (va_A [(a0, .inr (8, [.ref a1, .int 0, .int 0, .ref a2, .ref a3, .ref a4, .ref a5, .ref a6, .ref a7, .ref a8, .ref a9, .ref a10, .ref a11, .int 0, .int 0, .int 0])), (a1, .inl (G.2 0, 1000, .inl (fun _ => 0)))] sz) := by
  refine m_body (y := yX11_putNumber) (cd := cX11_putNumber) (mL := 3) (rt := none) (rm := { frames := 0, cells := 0, slots := 0, locals := 0 }) (av := [.ref a0, .int i0]) (wc := [(a0, .inr (8, [.ref a1, .int 0, .int 0, .ref a2, .ref a3, .ref a4, .ref a5, .ref a6, .ref a7, .ref a8, .ref a9, .ref a10, .ref a11, .int 0, .int 0, .int 0])), (a1, .inl (G.2 0, 1000, .inl (fun _ => 0)))]) (G := G) (sz := sz) (Qf := fun A => va_Qv (fun _ => True) (fun (u9 : KS) t => Bw G A [(a0, .inr (8, [.ref a1, .int 4, .int 0, .ref a2, .ref a3, .ref a4, .ref a5, .ref a6, .ref a7, .ref a8, .ref a9, .ref a10, .ref a11, .int 0, .int 0, .int 0])), (a1, .inl (G.2 0, 1000, .inl (u9.2 0)))] t) A) (by decide) (Nat.le_of_ble_eq_true rfl) ?_
  intro p e s m args below meth c ls A X hi hP hD hS hl
  have hx := X.1.1
  have hb := X.1.2.1
  have hi : meth.name = "putNumber" := hi
  have hl : lv_has ls 3 [(0, .ref a0), (1, .int i0)] := hl
  refine lv_bipush (v := 24) hx hb dX11_putNumber_0 (by decide) ?_
  refine lv_istore_n (lv' := [(2, .int 24), (0, .ref a0), (1, .int i0)]) hx hb dX11_putNumber_2 rfl hl (by decide) rfl (fun ls hl => ?_)
  refine lv_iload_n hx hb dX11_putNumber_3 rfl (lv_at hl 0 rfl) ?_
  refine lv_if_lt (tgt := 49) hx hb dX11_putNumber_4 (by decide) (fun c9 => absurd c9 (by decide)) (fun _ => ?_)
  refine lv_aload_n hx hb dX11_putNumber_7 rfl (lv_at hl 1 rfl) ?_
  refine m_get (C := RX11) (T := TX11) (N := 16) (ci := 8) (v := .int 0) X hP 0 rfl rfl 1 (by decide) qw_131 inlX11 rfl dX11_putNumber_8 ?_
  refine lv_sipush (v := 1000) hx hb dX11_putNumber_11 (by decide) ?_
  refine lv_icmp_ge (tgt := 43) hx hb dX11_putNumber_14 (by decide) (fun c9 => absurd c9 (by decide)) (fun _ => ?_)
  refine lv_aload_n hx hb dX11_putNumber_17 rfl (lv_at hl 1 rfl) ?_
  refine m_get (C := RX11) (T := TX11) (N := 16) (ci := 8) (v := .ref a1) X hP 0 rfl rfl 0 (by decide) qw_14 inlX11 rfl dX11_putNumber_18 ?_
  refine lv_aload_n hx hb dX11_putNumber_21 rfl (lv_at hl 1 rfl) ?_
  refine m_get (C := RX11) (T := TX11) (N := 16) (ci := 8) (v := .int 0) X hP 0 rfl rfl 1 (by decide) qw_131 inlX11 rfl dX11_putNumber_22 ?_
  refine lv_iload_n hx hb dX11_putNumber_25 rfl (lv_at hl 2 rfl) ?_
  refine lv_iload_n hx hb dX11_putNumber_26 rfl (lv_at hl 0 rfl) ?_
  refine lv_ishr hx hb dX11_putNumber_27 ?_
  refine lv_topi (fun z123 ez123 => ?_)
  refine lv_sipush (v := 255) hx hb dX11_putNumber_28 (by decide) ?_
  refine lv_iand hx hb dX11_putNumber_31 ?_
  refine lv_topi (fun z124 ez124 => ?_)
  refine m_iast (ws' := fun f125 => [(a0, .inr (8, [.ref a1, .int 0, .int 0, .ref a2, .ref a3, .ref a4, .ref a5, .ref a6, .ref a7, .ref a8, .ref a9, .ref a10, .ref a11, .int 0, .int 0, .int 0])), (a1, .inl (G.2 0, 1000, .inl f125))]) X hP hD hS 1 rfl (vin (by decide)) (fun _ => rfl) dX11_putNumber_32 (fun f125 H locs hP hD hS => ?_)
  refine lv_aload_n hx hb dX11_putNumber_33 rfl (lv_at hl 1 rfl) ?_
  refine lv_dup hx hb dX11_putNumber_34 rfl ?_
  refine m_get (C := RX11) (T := TX11) (N := 16) (ci := 8) (v := .int 0) X hP 0 rfl rfl 1 (by decide) qw_131 inlX11 rfl dX11_putNumber_35 ?_
  refine lv_iconst (v := 1) hx hb dX11_putNumber_38 (by decide) ?_
  refine lv_iadd hx hb dX11_putNumber_39 ?_
  refine lv_topi (fun z126 ez126 => ?_)
  obtain rfl : z126 = 1 := ez126.trans (by decide)
  refine m_put (C := RX11) (T := TX11) (N := 16) (ci := 8) (v := .int 1) (ws' := [(a0, .inr (8, [.ref a1, .int 1, .int 0, .ref a2, .ref a3, .ref a4, .ref a5, .ref a6, .ref a7, .ref a8, .ref a9, .ref a10, .ref a11, .int 0, .int 0, .int 0])), (a1, .inl (G.2 0, 1000, .inl f125))]) X hP hD hS tyX11 tyX11_ok nmX11 0 rfl rfl 1 (by decide) qw_131 inlX11 rfl (by first | rfl | decide) (by first | rfl | decide) (Nat.le_of_ble_eq_true rfl) rfl dX11_putNumber_40 (fun H locs hP hD hS => ?_)
  refine lv_iinc (v := 16) (lv' := [(2, .int 16), (0, .ref a0), (1, .int i0)]) hx hb dX11_putNumber_43 hl (k := 0) rfl (by decide) (by decide) rfl (fun ls hl => ?_)
  refine lv_goto (tgt := 3) hx hb dX11_putNumber_46 (by decide) ?_
  refine lv_iload_n hx hb dX11_putNumber_3 rfl (lv_at hl 0 rfl) ?_
  refine lv_if_lt (tgt := 49) hx hb dX11_putNumber_4 (by decide) (fun c9 => absurd c9 (by decide)) (fun _ => ?_)
  refine lv_aload_n hx hb dX11_putNumber_7 rfl (lv_at hl 1 rfl) ?_
  refine m_get (C := RX11) (T := TX11) (N := 16) (ci := 8) (v := .int 1) X hP 0 rfl rfl 1 (by decide) qw_131 inlX11 rfl dX11_putNumber_8 ?_
  refine lv_sipush (v := 1000) hx hb dX11_putNumber_11 (by decide) ?_
  refine lv_icmp_ge (tgt := 43) hx hb dX11_putNumber_14 (by decide) (fun c9 => absurd c9 (by decide)) (fun _ => ?_)
  refine lv_aload_n hx hb dX11_putNumber_17 rfl (lv_at hl 1 rfl) ?_
  refine m_get (C := RX11) (T := TX11) (N := 16) (ci := 8) (v := .ref a1) X hP 0 rfl rfl 0 (by decide) qw_14 inlX11 rfl dX11_putNumber_18 ?_
  refine lv_aload_n hx hb dX11_putNumber_21 rfl (lv_at hl 1 rfl) ?_
  refine m_get (C := RX11) (T := TX11) (N := 16) (ci := 8) (v := .int 1) X hP 0 rfl rfl 1 (by decide) qw_131 inlX11 rfl dX11_putNumber_22 ?_
  refine lv_iload_n hx hb dX11_putNumber_25 rfl (lv_at hl 2 rfl) ?_
  refine lv_iload_n hx hb dX11_putNumber_26 rfl (lv_at hl 0 rfl) ?_
  refine lv_ishr hx hb dX11_putNumber_27 ?_
  refine lv_topi (fun z127 ez127 => ?_)
  refine lv_sipush (v := 255) hx hb dX11_putNumber_28 (by decide) ?_
  refine lv_iand hx hb dX11_putNumber_31 ?_
  refine lv_topi (fun z128 ez128 => ?_)
  refine m_iast (ws' := fun f129 => [(a0, .inr (8, [.ref a1, .int 1, .int 0, .ref a2, .ref a3, .ref a4, .ref a5, .ref a6, .ref a7, .ref a8, .ref a9, .ref a10, .ref a11, .int 0, .int 0, .int 0])), (a1, .inl (G.2 0, 1000, .inl f129))]) X hP hD hS 1 rfl (vin (by decide)) (fun _ => rfl) dX11_putNumber_32 (fun f129 H locs hP hD hS => ?_)
  refine lv_aload_n hx hb dX11_putNumber_33 rfl (lv_at hl 1 rfl) ?_
  refine lv_dup hx hb dX11_putNumber_34 rfl ?_
  refine m_get (C := RX11) (T := TX11) (N := 16) (ci := 8) (v := .int 1) X hP 0 rfl rfl 1 (by decide) qw_131 inlX11 rfl dX11_putNumber_35 ?_
  refine lv_iconst (v := 1) hx hb dX11_putNumber_38 (by decide) ?_
  refine lv_iadd hx hb dX11_putNumber_39 ?_
  refine lv_topi (fun z130 ez130 => ?_)
  obtain rfl : z130 = 2 := ez130.trans (by decide)
  refine m_put (C := RX11) (T := TX11) (N := 16) (ci := 8) (v := .int 2) (ws' := [(a0, .inr (8, [.ref a1, .int 2, .int 0, .ref a2, .ref a3, .ref a4, .ref a5, .ref a6, .ref a7, .ref a8, .ref a9, .ref a10, .ref a11, .int 0, .int 0, .int 0])), (a1, .inl (G.2 0, 1000, .inl f129))]) X hP hD hS tyX11 tyX11_ok nmX11 0 rfl rfl 1 (by decide) qw_131 inlX11 rfl (by first | rfl | decide) (by first | rfl | decide) (Nat.le_of_ble_eq_true rfl) rfl dX11_putNumber_40 (fun H locs hP hD hS => ?_)
  refine lv_iinc (v := 8) (lv' := [(2, .int 8), (0, .ref a0), (1, .int i0)]) hx hb dX11_putNumber_43 hl (k := 0) rfl (by decide) (by decide) rfl (fun ls hl => ?_)
  refine lv_goto (tgt := 3) hx hb dX11_putNumber_46 (by decide) ?_
  refine lv_iload_n hx hb dX11_putNumber_3 rfl (lv_at hl 0 rfl) ?_
  refine lv_if_lt (tgt := 49) hx hb dX11_putNumber_4 (by decide) (fun c9 => absurd c9 (by decide)) (fun _ => ?_)
  refine lv_aload_n hx hb dX11_putNumber_7 rfl (lv_at hl 1 rfl) ?_
  refine m_get (C := RX11) (T := TX11) (N := 16) (ci := 8) (v := .int 2) X hP 0 rfl rfl 1 (by decide) qw_131 inlX11 rfl dX11_putNumber_8 ?_
  refine lv_sipush (v := 1000) hx hb dX11_putNumber_11 (by decide) ?_
  refine lv_icmp_ge (tgt := 43) hx hb dX11_putNumber_14 (by decide) (fun c9 => absurd c9 (by decide)) (fun _ => ?_)
  refine lv_aload_n hx hb dX11_putNumber_17 rfl (lv_at hl 1 rfl) ?_
  refine m_get (C := RX11) (T := TX11) (N := 16) (ci := 8) (v := .ref a1) X hP 0 rfl rfl 0 (by decide) qw_14 inlX11 rfl dX11_putNumber_18 ?_
  refine lv_aload_n hx hb dX11_putNumber_21 rfl (lv_at hl 1 rfl) ?_
  refine m_get (C := RX11) (T := TX11) (N := 16) (ci := 8) (v := .int 2) X hP 0 rfl rfl 1 (by decide) qw_131 inlX11 rfl dX11_putNumber_22 ?_
  refine lv_iload_n hx hb dX11_putNumber_25 rfl (lv_at hl 2 rfl) ?_
  refine lv_iload_n hx hb dX11_putNumber_26 rfl (lv_at hl 0 rfl) ?_
  refine lv_ishr hx hb dX11_putNumber_27 ?_
  refine lv_topi (fun z131 ez131 => ?_)
  refine lv_sipush (v := 255) hx hb dX11_putNumber_28 (by decide) ?_
  refine lv_iand hx hb dX11_putNumber_31 ?_
  refine lv_topi (fun z132 ez132 => ?_)
  refine m_iast (ws' := fun f133 => [(a0, .inr (8, [.ref a1, .int 2, .int 0, .ref a2, .ref a3, .ref a4, .ref a5, .ref a6, .ref a7, .ref a8, .ref a9, .ref a10, .ref a11, .int 0, .int 0, .int 0])), (a1, .inl (G.2 0, 1000, .inl f133))]) X hP hD hS 1 rfl (vin (by decide)) (fun _ => rfl) dX11_putNumber_32 (fun f133 H locs hP hD hS => ?_)
  refine lv_aload_n hx hb dX11_putNumber_33 rfl (lv_at hl 1 rfl) ?_
  refine lv_dup hx hb dX11_putNumber_34 rfl ?_
  refine m_get (C := RX11) (T := TX11) (N := 16) (ci := 8) (v := .int 2) X hP 0 rfl rfl 1 (by decide) qw_131 inlX11 rfl dX11_putNumber_35 ?_
  refine lv_iconst (v := 1) hx hb dX11_putNumber_38 (by decide) ?_
  refine lv_iadd hx hb dX11_putNumber_39 ?_
  refine lv_topi (fun z134 ez134 => ?_)
  obtain rfl : z134 = 3 := ez134.trans (by decide)
  refine m_put (C := RX11) (T := TX11) (N := 16) (ci := 8) (v := .int 3) (ws' := [(a0, .inr (8, [.ref a1, .int 3, .int 0, .ref a2, .ref a3, .ref a4, .ref a5, .ref a6, .ref a7, .ref a8, .ref a9, .ref a10, .ref a11, .int 0, .int 0, .int 0])), (a1, .inl (G.2 0, 1000, .inl f133))]) X hP hD hS tyX11 tyX11_ok nmX11 0 rfl rfl 1 (by decide) qw_131 inlX11 rfl (by first | rfl | decide) (by first | rfl | decide) (Nat.le_of_ble_eq_true rfl) rfl dX11_putNumber_40 (fun H locs hP hD hS => ?_)
  refine lv_iinc (v := 0) (lv' := [(2, .int 0), (0, .ref a0), (1, .int i0)]) hx hb dX11_putNumber_43 hl (k := 0) rfl (by decide) (by decide) rfl (fun ls hl => ?_)
  refine lv_goto (tgt := 3) hx hb dX11_putNumber_46 (by decide) ?_
  refine lv_iload_n hx hb dX11_putNumber_3 rfl (lv_at hl 0 rfl) ?_
  refine lv_if_lt (tgt := 49) hx hb dX11_putNumber_4 (by decide) (fun c9 => absurd c9 (by decide)) (fun _ => ?_)
  refine lv_aload_n hx hb dX11_putNumber_7 rfl (lv_at hl 1 rfl) ?_
  refine m_get (C := RX11) (T := TX11) (N := 16) (ci := 8) (v := .int 3) X hP 0 rfl rfl 1 (by decide) qw_131 inlX11 rfl dX11_putNumber_8 ?_
  refine lv_sipush (v := 1000) hx hb dX11_putNumber_11 (by decide) ?_
  refine lv_icmp_ge (tgt := 43) hx hb dX11_putNumber_14 (by decide) (fun c9 => absurd c9 (by decide)) (fun _ => ?_)
  refine lv_aload_n hx hb dX11_putNumber_17 rfl (lv_at hl 1 rfl) ?_
  refine m_get (C := RX11) (T := TX11) (N := 16) (ci := 8) (v := .ref a1) X hP 0 rfl rfl 0 (by decide) qw_14 inlX11 rfl dX11_putNumber_18 ?_
  refine lv_aload_n hx hb dX11_putNumber_21 rfl (lv_at hl 1 rfl) ?_
  refine m_get (C := RX11) (T := TX11) (N := 16) (ci := 8) (v := .int 3) X hP 0 rfl rfl 1 (by decide) qw_131 inlX11 rfl dX11_putNumber_22 ?_
  refine lv_iload_n hx hb dX11_putNumber_25 rfl (lv_at hl 2 rfl) ?_
  refine lv_iload_n hx hb dX11_putNumber_26 rfl (lv_at hl 0 rfl) ?_
  refine lv_ishr hx hb dX11_putNumber_27 ?_
  refine lv_topi (fun z135 ez135 => ?_)
  refine lv_sipush (v := 255) hx hb dX11_putNumber_28 (by decide) ?_
  refine lv_iand hx hb dX11_putNumber_31 ?_
  refine lv_topi (fun z136 ez136 => ?_)
  refine m_iast (ws' := fun f137 => [(a0, .inr (8, [.ref a1, .int 3, .int 0, .ref a2, .ref a3, .ref a4, .ref a5, .ref a6, .ref a7, .ref a8, .ref a9, .ref a10, .ref a11, .int 0, .int 0, .int 0])), (a1, .inl (G.2 0, 1000, .inl f137))]) X hP hD hS 1 rfl (vin (by decide)) (fun _ => rfl) dX11_putNumber_32 (fun f137 H locs hP hD hS => ?_)
  refine lv_aload_n hx hb dX11_putNumber_33 rfl (lv_at hl 1 rfl) ?_
  refine lv_dup hx hb dX11_putNumber_34 rfl ?_
  refine m_get (C := RX11) (T := TX11) (N := 16) (ci := 8) (v := .int 3) X hP 0 rfl rfl 1 (by decide) qw_131 inlX11 rfl dX11_putNumber_35 ?_
  refine lv_iconst (v := 1) hx hb dX11_putNumber_38 (by decide) ?_
  refine lv_iadd hx hb dX11_putNumber_39 ?_
  refine lv_topi (fun z138 ez138 => ?_)
  obtain rfl : z138 = 4 := ez138.trans (by decide)
  refine m_put (C := RX11) (T := TX11) (N := 16) (ci := 8) (v := .int 4) (ws' := [(a0, .inr (8, [.ref a1, .int 4, .int 0, .ref a2, .ref a3, .ref a4, .ref a5, .ref a6, .ref a7, .ref a8, .ref a9, .ref a10, .ref a11, .int 0, .int 0, .int 0])), (a1, .inl (G.2 0, 1000, .inl f137))]) X hP hD hS tyX11 tyX11_ok nmX11 0 rfl rfl 1 (by decide) qw_131 inlX11 rfl (by first | rfl | decide) (by first | rfl | decide) (Nat.le_of_ble_eq_true rfl) rfl dX11_putNumber_40 (fun H locs hP hD hS => ?_)
  refine lv_iinc (v := (-8)) (lv' := [(2, .int (-8)), (0, .ref a0), (1, .int i0)]) hx hb dX11_putNumber_43 hl (k := 0) rfl (by decide) (by decide) rfl (fun ls hl => ?_)
  refine lv_goto (tgt := 3) hx hb dX11_putNumber_46 (by decide) ?_
  refine lv_iload_n hx hb dX11_putNumber_3 rfl (lv_at hl 0 rfl) ?_
  refine lv_if_lt (tgt := 49) hx hb dX11_putNumber_4 (by decide) (fun _ => ?_) (fun c9 => absurd c9 (by decide))
  exact m_vret X hP hD hS ((fun _ => 0), (fun k => match k with | 0 => f137 | _ => fun _ => 0)) [0, 1] (by decide) rfl trivial (Nat.le_of_ble_eq_true rfl) (Nat.le_of_ble_eq_true rfl) dX11_putNumber_49
set_option maxHeartbeats 4000000 in
set_option maxRecDepth 100000 in
theorem k11_X11_putNumber (l : Launch) (G : KG) (a0 : Nat) (i0 : Int32) (a1 : Nat) (a2 : Nat) (a3 : Nat) (a4 : Nat) (a5 : Nat) (a6 : Nat) (a7 : Nat) (a8 : Nat) (a9 : Nat) (a10 : Nat) (a11 : Nat) (g0 : Nat → Int32) (sz : Nat) : Met l yX11_putNumber (.code yX11_putNumber cX11_putNumber 3 none :: wsL_law) { frames := 0, cells := 0, slots := 0, locals := 0 } (va_Pc [.ref a0, .int i0] (Pw G [(a0, .inr (8, [.ref a1, .int 4, .int 0, .ref a2, .ref a3, .ref a4, .ref a5, .ref a6, .ref a7, .ref a8, .ref a9, .ref a10, .ref a11, .int 0, .int 0, .int 0])), (a1, .inl (G.2 0, 1000, .inl g0))] sz)) (va_Qv (fun _ => True) (fun (u9 : KS) t => Bw G (va_A [(a0, .inr (8, [.ref a1, .int 4, .int 0, .ref a2, .ref a3, .ref a4, .ref a5, .ref a6, .ref a7, .ref a8, .ref a9, .ref a10, .ref a11, .int 0, .int 0, .int 0])), (a1, .inl (G.2 0, 1000, .inl g0))] sz) [(a0, .inr (8, [.ref a1, .int 8, .int 0, .ref a2, .ref a3, .ref a4, .ref a5, .ref a6, .ref a7, .ref a8, .ref a9, .ref a10, .ref a11, .int 0, .int 0, .int 0])), (a1, .inl (G.2 0, 1000, .inl (u9.2 0)))] t) (va_A [(a0, .inr (8, [.ref a1, .int 4, .int 0, .ref a2, .ref a3, .ref a4, .ref a5, .ref a6, .ref a7, .ref a8, .ref a9, .ref a10, .ref a11, .int 0, .int 0, .int 0])), (a1, .inl (G.2 0, 1000, .inl g0))] sz)) 0 0 (va_A [(a0, .inr (8, [.ref a1, .int 4, .int 0, .ref a2, .ref a3, .ref a4, .ref a5, .ref a6, .ref a7, .ref a8, .ref a9, .ref a10, .ref a11, .int 0, .int 0, .int 0])), (a1, .inl (G.2 0, 1000, .inl g0))] sz) := by
  refine m_body (y := yX11_putNumber) (cd := cX11_putNumber) (mL := 3) (rt := none) (rm := { frames := 0, cells := 0, slots := 0, locals := 0 }) (av := [.ref a0, .int i0]) (wc := [(a0, .inr (8, [.ref a1, .int 4, .int 0, .ref a2, .ref a3, .ref a4, .ref a5, .ref a6, .ref a7, .ref a8, .ref a9, .ref a10, .ref a11, .int 0, .int 0, .int 0])), (a1, .inl (G.2 0, 1000, .inl g0))]) (G := G) (sz := sz) (Qf := fun A => va_Qv (fun _ => True) (fun (u9 : KS) t => Bw G A [(a0, .inr (8, [.ref a1, .int 8, .int 0, .ref a2, .ref a3, .ref a4, .ref a5, .ref a6, .ref a7, .ref a8, .ref a9, .ref a10, .ref a11, .int 0, .int 0, .int 0])), (a1, .inl (G.2 0, 1000, .inl (u9.2 0)))] t) A) (by decide) (Nat.le_of_ble_eq_true rfl) ?_
  intro p e s m args below meth c ls A X hi hP hD hS hl
  have hx := X.1.1
  have hb := X.1.2.1
  have hi : meth.name = "putNumber" := hi
  have hl : lv_has ls 3 [(0, .ref a0), (1, .int i0)] := hl
  refine lv_bipush (v := 24) hx hb dX11_putNumber_0 (by decide) ?_
  refine lv_istore_n (lv' := [(2, .int 24), (0, .ref a0), (1, .int i0)]) hx hb dX11_putNumber_2 rfl hl (by decide) rfl (fun ls hl => ?_)
  refine lv_iload_n hx hb dX11_putNumber_3 rfl (lv_at hl 0 rfl) ?_
  refine lv_if_lt (tgt := 49) hx hb dX11_putNumber_4 (by decide) (fun c9 => absurd c9 (by decide)) (fun _ => ?_)
  refine lv_aload_n hx hb dX11_putNumber_7 rfl (lv_at hl 1 rfl) ?_
  refine m_get (C := RX11) (T := TX11) (N := 16) (ci := 8) (v := .int 4) X hP 0 rfl rfl 1 (by decide) qw_131 inlX11 rfl dX11_putNumber_8 ?_
  refine lv_sipush (v := 1000) hx hb dX11_putNumber_11 (by decide) ?_
  refine lv_icmp_ge (tgt := 43) hx hb dX11_putNumber_14 (by decide) (fun c9 => absurd c9 (by decide)) (fun _ => ?_)
  refine lv_aload_n hx hb dX11_putNumber_17 rfl (lv_at hl 1 rfl) ?_
  refine m_get (C := RX11) (T := TX11) (N := 16) (ci := 8) (v := .ref a1) X hP 0 rfl rfl 0 (by decide) qw_14 inlX11 rfl dX11_putNumber_18 ?_
  refine lv_aload_n hx hb dX11_putNumber_21 rfl (lv_at hl 1 rfl) ?_
  refine m_get (C := RX11) (T := TX11) (N := 16) (ci := 8) (v := .int 4) X hP 0 rfl rfl 1 (by decide) qw_131 inlX11 rfl dX11_putNumber_22 ?_
  refine lv_iload_n hx hb dX11_putNumber_25 rfl (lv_at hl 2 rfl) ?_
  refine lv_iload_n hx hb dX11_putNumber_26 rfl (lv_at hl 0 rfl) ?_
  refine lv_ishr hx hb dX11_putNumber_27 ?_
  refine lv_topi (fun z140 ez140 => ?_)
  refine lv_sipush (v := 255) hx hb dX11_putNumber_28 (by decide) ?_
  refine lv_iand hx hb dX11_putNumber_31 ?_
  refine lv_topi (fun z141 ez141 => ?_)
  refine m_iast (ws' := fun f142 => [(a0, .inr (8, [.ref a1, .int 4, .int 0, .ref a2, .ref a3, .ref a4, .ref a5, .ref a6, .ref a7, .ref a8, .ref a9, .ref a10, .ref a11, .int 0, .int 0, .int 0])), (a1, .inl (G.2 0, 1000, .inl f142))]) X hP hD hS 1 rfl (vin (by decide)) (fun _ => rfl) dX11_putNumber_32 (fun f142 H locs hP hD hS => ?_)
  refine lv_aload_n hx hb dX11_putNumber_33 rfl (lv_at hl 1 rfl) ?_
  refine lv_dup hx hb dX11_putNumber_34 rfl ?_
  refine m_get (C := RX11) (T := TX11) (N := 16) (ci := 8) (v := .int 4) X hP 0 rfl rfl 1 (by decide) qw_131 inlX11 rfl dX11_putNumber_35 ?_
  refine lv_iconst (v := 1) hx hb dX11_putNumber_38 (by decide) ?_
  refine lv_iadd hx hb dX11_putNumber_39 ?_
  refine lv_topi (fun z143 ez143 => ?_)
  obtain rfl : z143 = 5 := ez143.trans (by decide)
  refine m_put (C := RX11) (T := TX11) (N := 16) (ci := 8) (v := .int 5) (ws' := [(a0, .inr (8, [.ref a1, .int 5, .int 0, .ref a2, .ref a3, .ref a4, .ref a5, .ref a6, .ref a7, .ref a8, .ref a9, .ref a10, .ref a11, .int 0, .int 0, .int 0])), (a1, .inl (G.2 0, 1000, .inl f142))]) X hP hD hS tyX11 tyX11_ok nmX11 0 rfl rfl 1 (by decide) qw_131 inlX11 rfl (by first | rfl | decide) (by first | rfl | decide) (Nat.le_of_ble_eq_true rfl) rfl dX11_putNumber_40 (fun H locs hP hD hS => ?_)
  refine lv_iinc (v := 16) (lv' := [(2, .int 16), (0, .ref a0), (1, .int i0)]) hx hb dX11_putNumber_43 hl (k := 0) rfl (by decide) (by decide) rfl (fun ls hl => ?_)
  refine lv_goto (tgt := 3) hx hb dX11_putNumber_46 (by decide) ?_
  refine lv_iload_n hx hb dX11_putNumber_3 rfl (lv_at hl 0 rfl) ?_
  refine lv_if_lt (tgt := 49) hx hb dX11_putNumber_4 (by decide) (fun c9 => absurd c9 (by decide)) (fun _ => ?_)
  refine lv_aload_n hx hb dX11_putNumber_7 rfl (lv_at hl 1 rfl) ?_
  refine m_get (C := RX11) (T := TX11) (N := 16) (ci := 8) (v := .int 5) X hP 0 rfl rfl 1 (by decide) qw_131 inlX11 rfl dX11_putNumber_8 ?_
  refine lv_sipush (v := 1000) hx hb dX11_putNumber_11 (by decide) ?_
  refine lv_icmp_ge (tgt := 43) hx hb dX11_putNumber_14 (by decide) (fun c9 => absurd c9 (by decide)) (fun _ => ?_)
  refine lv_aload_n hx hb dX11_putNumber_17 rfl (lv_at hl 1 rfl) ?_
  refine m_get (C := RX11) (T := TX11) (N := 16) (ci := 8) (v := .ref a1) X hP 0 rfl rfl 0 (by decide) qw_14 inlX11 rfl dX11_putNumber_18 ?_
  refine lv_aload_n hx hb dX11_putNumber_21 rfl (lv_at hl 1 rfl) ?_
  refine m_get (C := RX11) (T := TX11) (N := 16) (ci := 8) (v := .int 5) X hP 0 rfl rfl 1 (by decide) qw_131 inlX11 rfl dX11_putNumber_22 ?_
  refine lv_iload_n hx hb dX11_putNumber_25 rfl (lv_at hl 2 rfl) ?_
  refine lv_iload_n hx hb dX11_putNumber_26 rfl (lv_at hl 0 rfl) ?_
  refine lv_ishr hx hb dX11_putNumber_27 ?_
  refine lv_topi (fun z144 ez144 => ?_)
  refine lv_sipush (v := 255) hx hb dX11_putNumber_28 (by decide) ?_
  refine lv_iand hx hb dX11_putNumber_31 ?_
  refine lv_topi (fun z145 ez145 => ?_)
  refine m_iast (ws' := fun f146 => [(a0, .inr (8, [.ref a1, .int 5, .int 0, .ref a2, .ref a3, .ref a4, .ref a5, .ref a6, .ref a7, .ref a8, .ref a9, .ref a10, .ref a11, .int 0, .int 0, .int 0])), (a1, .inl (G.2 0, 1000, .inl f146))]) X hP hD hS 1 rfl (vin (by decide)) (fun _ => rfl) dX11_putNumber_32 (fun f146 H locs hP hD hS => ?_)
  refine lv_aload_n hx hb dX11_putNumber_33 rfl (lv_at hl 1 rfl) ?_
  refine lv_dup hx hb dX11_putNumber_34 rfl ?_
  refine m_get (C := RX11) (T := TX11) (N := 16) (ci := 8) (v := .int 5) X hP 0 rfl rfl 1 (by decide) qw_131 inlX11 rfl dX11_putNumber_35 ?_
  refine lv_iconst (v := 1) hx hb dX11_putNumber_38 (by decide) ?_
  refine lv_iadd hx hb dX11_putNumber_39 ?_
  refine lv_topi (fun z147 ez147 => ?_)
  obtain rfl : z147 = 6 := ez147.trans (by decide)
  refine m_put (C := RX11) (T := TX11) (N := 16) (ci := 8) (v := .int 6) (ws' := [(a0, .inr (8, [.ref a1, .int 6, .int 0, .ref a2, .ref a3, .ref a4, .ref a5, .ref a6, .ref a7, .ref a8, .ref a9, .ref a10, .ref a11, .int 0, .int 0, .int 0])), (a1, .inl (G.2 0, 1000, .inl f146))]) X hP hD hS tyX11 tyX11_ok nmX11 0 rfl rfl 1 (by decide) qw_131 inlX11 rfl (by first | rfl | decide) (by first | rfl | decide) (Nat.le_of_ble_eq_true rfl) rfl dX11_putNumber_40 (fun H locs hP hD hS => ?_)
  refine lv_iinc (v := 8) (lv' := [(2, .int 8), (0, .ref a0), (1, .int i0)]) hx hb dX11_putNumber_43 hl (k := 0) rfl (by decide) (by decide) rfl (fun ls hl => ?_)
  refine lv_goto (tgt := 3) hx hb dX11_putNumber_46 (by decide) ?_
  refine lv_iload_n hx hb dX11_putNumber_3 rfl (lv_at hl 0 rfl) ?_
  refine lv_if_lt (tgt := 49) hx hb dX11_putNumber_4 (by decide) (fun c9 => absurd c9 (by decide)) (fun _ => ?_)
  refine lv_aload_n hx hb dX11_putNumber_7 rfl (lv_at hl 1 rfl) ?_
  refine m_get (C := RX11) (T := TX11) (N := 16) (ci := 8) (v := .int 6) X hP 0 rfl rfl 1 (by decide) qw_131 inlX11 rfl dX11_putNumber_8 ?_
  refine lv_sipush (v := 1000) hx hb dX11_putNumber_11 (by decide) ?_
  refine lv_icmp_ge (tgt := 43) hx hb dX11_putNumber_14 (by decide) (fun c9 => absurd c9 (by decide)) (fun _ => ?_)
  refine lv_aload_n hx hb dX11_putNumber_17 rfl (lv_at hl 1 rfl) ?_
  refine m_get (C := RX11) (T := TX11) (N := 16) (ci := 8) (v := .ref a1) X hP 0 rfl rfl 0 (by decide) qw_14 inlX11 rfl dX11_putNumber_18 ?_
  refine lv_aload_n hx hb dX11_putNumber_21 rfl (lv_at hl 1 rfl) ?_
  refine m_get (C := RX11) (T := TX11) (N := 16) (ci := 8) (v := .int 6) X hP 0 rfl rfl 1 (by decide) qw_131 inlX11 rfl dX11_putNumber_22 ?_
  refine lv_iload_n hx hb dX11_putNumber_25 rfl (lv_at hl 2 rfl) ?_
  refine lv_iload_n hx hb dX11_putNumber_26 rfl (lv_at hl 0 rfl) ?_
  refine lv_ishr hx hb dX11_putNumber_27 ?_
  refine lv_topi (fun z148 ez148 => ?_)
  refine lv_sipush (v := 255) hx hb dX11_putNumber_28 (by decide) ?_
  refine lv_iand hx hb dX11_putNumber_31 ?_
  refine lv_topi (fun z149 ez149 => ?_)
  refine m_iast (ws' := fun f150 => [(a0, .inr (8, [.ref a1, .int 6, .int 0, .ref a2, .ref a3, .ref a4, .ref a5, .ref a6, .ref a7, .ref a8, .ref a9, .ref a10, .ref a11, .int 0, .int 0, .int 0])), (a1, .inl (G.2 0, 1000, .inl f150))]) X hP hD hS 1 rfl (vin (by decide)) (fun _ => rfl) dX11_putNumber_32 (fun f150 H locs hP hD hS => ?_)
  refine lv_aload_n hx hb dX11_putNumber_33 rfl (lv_at hl 1 rfl) ?_
  refine lv_dup hx hb dX11_putNumber_34 rfl ?_
  refine m_get (C := RX11) (T := TX11) (N := 16) (ci := 8) (v := .int 6) X hP 0 rfl rfl 1 (by decide) qw_131 inlX11 rfl dX11_putNumber_35 ?_
  refine lv_iconst (v := 1) hx hb dX11_putNumber_38 (by decide) ?_
  refine lv_iadd hx hb dX11_putNumber_39 ?_
  refine lv_topi (fun z151 ez151 => ?_)
  obtain rfl : z151 = 7 := ez151.trans (by decide)
  refine m_put (C := RX11) (T := TX11) (N := 16) (ci := 8) (v := .int 7) (ws' := [(a0, .inr (8, [.ref a1, .int 7, .int 0, .ref a2, .ref a3, .ref a4, .ref a5, .ref a6, .ref a7, .ref a8, .ref a9, .ref a10, .ref a11, .int 0, .int 0, .int 0])), (a1, .inl (G.2 0, 1000, .inl f150))]) X hP hD hS tyX11 tyX11_ok nmX11 0 rfl rfl 1 (by decide) qw_131 inlX11 rfl (by first | rfl | decide) (by first | rfl | decide) (Nat.le_of_ble_eq_true rfl) rfl dX11_putNumber_40 (fun H locs hP hD hS => ?_)
  refine lv_iinc (v := 0) (lv' := [(2, .int 0), (0, .ref a0), (1, .int i0)]) hx hb dX11_putNumber_43 hl (k := 0) rfl (by decide) (by decide) rfl (fun ls hl => ?_)
  refine lv_goto (tgt := 3) hx hb dX11_putNumber_46 (by decide) ?_
  refine lv_iload_n hx hb dX11_putNumber_3 rfl (lv_at hl 0 rfl) ?_
  refine lv_if_lt (tgt := 49) hx hb dX11_putNumber_4 (by decide) (fun c9 => absurd c9 (by decide)) (fun _ => ?_)
  refine lv_aload_n hx hb dX11_putNumber_7 rfl (lv_at hl 1 rfl) ?_
  refine m_get (C := RX11) (T := TX11) (N := 16) (ci := 8) (v := .int 7) X hP 0 rfl rfl 1 (by decide) qw_131 inlX11 rfl dX11_putNumber_8 ?_
  refine lv_sipush (v := 1000) hx hb dX11_putNumber_11 (by decide) ?_
  refine lv_icmp_ge (tgt := 43) hx hb dX11_putNumber_14 (by decide) (fun c9 => absurd c9 (by decide)) (fun _ => ?_)
  refine lv_aload_n hx hb dX11_putNumber_17 rfl (lv_at hl 1 rfl) ?_
  refine m_get (C := RX11) (T := TX11) (N := 16) (ci := 8) (v := .ref a1) X hP 0 rfl rfl 0 (by decide) qw_14 inlX11 rfl dX11_putNumber_18 ?_
  refine lv_aload_n hx hb dX11_putNumber_21 rfl (lv_at hl 1 rfl) ?_
  refine m_get (C := RX11) (T := TX11) (N := 16) (ci := 8) (v := .int 7) X hP 0 rfl rfl 1 (by decide) qw_131 inlX11 rfl dX11_putNumber_22 ?_
  refine lv_iload_n hx hb dX11_putNumber_25 rfl (lv_at hl 2 rfl) ?_
  refine lv_iload_n hx hb dX11_putNumber_26 rfl (lv_at hl 0 rfl) ?_
  refine lv_ishr hx hb dX11_putNumber_27 ?_
  refine lv_topi (fun z152 ez152 => ?_)
  refine lv_sipush (v := 255) hx hb dX11_putNumber_28 (by decide) ?_
  refine lv_iand hx hb dX11_putNumber_31 ?_
  refine lv_topi (fun z153 ez153 => ?_)
  refine m_iast (ws' := fun f154 => [(a0, .inr (8, [.ref a1, .int 7, .int 0, .ref a2, .ref a3, .ref a4, .ref a5, .ref a6, .ref a7, .ref a8, .ref a9, .ref a10, .ref a11, .int 0, .int 0, .int 0])), (a1, .inl (G.2 0, 1000, .inl f154))]) X hP hD hS 1 rfl (vin (by decide)) (fun _ => rfl) dX11_putNumber_32 (fun f154 H locs hP hD hS => ?_)
  refine lv_aload_n hx hb dX11_putNumber_33 rfl (lv_at hl 1 rfl) ?_
  refine lv_dup hx hb dX11_putNumber_34 rfl ?_
  refine m_get (C := RX11) (T := TX11) (N := 16) (ci := 8) (v := .int 7) X hP 0 rfl rfl 1 (by decide) qw_131 inlX11 rfl dX11_putNumber_35 ?_
  refine lv_iconst (v := 1) hx hb dX11_putNumber_38 (by decide) ?_
  refine lv_iadd hx hb dX11_putNumber_39 ?_
  refine lv_topi (fun z155 ez155 => ?_)
  obtain rfl : z155 = 8 := ez155.trans (by decide)
  refine m_put (C := RX11) (T := TX11) (N := 16) (ci := 8) (v := .int 8) (ws' := [(a0, .inr (8, [.ref a1, .int 8, .int 0, .ref a2, .ref a3, .ref a4, .ref a5, .ref a6, .ref a7, .ref a8, .ref a9, .ref a10, .ref a11, .int 0, .int 0, .int 0])), (a1, .inl (G.2 0, 1000, .inl f154))]) X hP hD hS tyX11 tyX11_ok nmX11 0 rfl rfl 1 (by decide) qw_131 inlX11 rfl (by first | rfl | decide) (by first | rfl | decide) (Nat.le_of_ble_eq_true rfl) rfl dX11_putNumber_40 (fun H locs hP hD hS => ?_)
  refine lv_iinc (v := (-8)) (lv' := [(2, .int (-8)), (0, .ref a0), (1, .int i0)]) hx hb dX11_putNumber_43 hl (k := 0) rfl (by decide) (by decide) rfl (fun ls hl => ?_)
  refine lv_goto (tgt := 3) hx hb dX11_putNumber_46 (by decide) ?_
  refine lv_iload_n hx hb dX11_putNumber_3 rfl (lv_at hl 0 rfl) ?_
  refine lv_if_lt (tgt := 49) hx hb dX11_putNumber_4 (by decide) (fun _ => ?_) (fun c9 => absurd c9 (by decide))
  exact m_vret X hP hD hS ((fun _ => 0), (fun k => match k with | 0 => f154 | _ => fun _ => 0)) [0, 1] (by decide) rfl trivial (Nat.le_of_ble_eq_true rfl) (Nat.le_of_ble_eq_true rfl) dX11_putNumber_49
set_option maxHeartbeats 4000000 in
set_option maxRecDepth 100000 in
theorem k12_X11_putNumber (l : Launch) (G : KG) (a0 : Nat) (i0 : Int32) (a1 : Nat) (a2 : Nat) (a3 : Nat) (a4 : Nat) (a5 : Nat) (a6 : Nat) (a7 : Nat) (a8 : Nat) (a9 : Nat) (a10 : Nat) (a11 : Nat) (g0 : Nat → Int32) (sz : Nat) : Met l yX11_putNumber (.code yX11_putNumber cX11_putNumber 3 none :: wsL_law) { frames := 0, cells := 0, slots := 0, locals := 0 } (va_Pc [.ref a0, .int i0] (Pw G [(a0, .inr (8, [.ref a1, .int 8, .int 0, .ref a2, .ref a3, .ref a4, .ref a5, .ref a6, .ref a7, .ref a8, .ref a9, .ref a10, .ref a11, .int 0, .int 0, .int 0])), (a1, .inl (G.2 0, 1000, .inl g0))] sz)) (va_Qv (fun _ => True) (fun (u9 : KS) t => Bw G (va_A [(a0, .inr (8, [.ref a1, .int 8, .int 0, .ref a2, .ref a3, .ref a4, .ref a5, .ref a6, .ref a7, .ref a8, .ref a9, .ref a10, .ref a11, .int 0, .int 0, .int 0])), (a1, .inl (G.2 0, 1000, .inl g0))] sz) [(a0, .inr (8, [.ref a1, .int 12, .int 0, .ref a2, .ref a3, .ref a4, .ref a5, .ref a6, .ref a7, .ref a8, .ref a9, .ref a10, .ref a11, .int 0, .int 0, .int 0])), (a1, .inl (G.2 0, 1000, .inl (u9.2 0)))] t) (va_A [(a0, .inr (8, [.ref a1, .int 8, .int 0, .ref a2, .ref a3, .ref a4, .ref a5, .ref a6, .ref a7, .ref a8, .ref a9, .ref a10, .ref a11, .int 0, .int 0, .int 0])), (a1, .inl (G.2 0, 1000, .inl g0))] sz)) 0 0 (va_A [(a0, .inr (8, [.ref a1, .int 8, .int 0, .ref a2, .ref a3, .ref a4, .ref a5, .ref a6, .ref a7, .ref a8, .ref a9, .ref a10, .ref a11, .int 0, .int 0, .int 0])), (a1, .inl (G.2 0, 1000, .inl g0))] sz) := by
  refine m_body (y := yX11_putNumber) (cd := cX11_putNumber) (mL := 3) (rt := none) (rm := { frames := 0, cells := 0, slots := 0, locals := 0 }) (av := [.ref a0, .int i0]) (wc := [(a0, .inr (8, [.ref a1, .int 8, .int 0, .ref a2, .ref a3, .ref a4, .ref a5, .ref a6, .ref a7, .ref a8, .ref a9, .ref a10, .ref a11, .int 0, .int 0, .int 0])), (a1, .inl (G.2 0, 1000, .inl g0))]) (G := G) (sz := sz) (Qf := fun A => va_Qv (fun _ => True) (fun (u9 : KS) t => Bw G A [(a0, .inr (8, [.ref a1, .int 12, .int 0, .ref a2, .ref a3, .ref a4, .ref a5, .ref a6, .ref a7, .ref a8, .ref a9, .ref a10, .ref a11, .int 0, .int 0, .int 0])), (a1, .inl (G.2 0, 1000, .inl (u9.2 0)))] t) A) (by decide) (Nat.le_of_ble_eq_true rfl) ?_
  intro p e s m args below meth c ls A X hi hP hD hS hl
  have hx := X.1.1
  have hb := X.1.2.1
  have hi : meth.name = "putNumber" := hi
  have hl : lv_has ls 3 [(0, .ref a0), (1, .int i0)] := hl
  refine lv_bipush (v := 24) hx hb dX11_putNumber_0 (by decide) ?_
  refine lv_istore_n (lv' := [(2, .int 24), (0, .ref a0), (1, .int i0)]) hx hb dX11_putNumber_2 rfl hl (by decide) rfl (fun ls hl => ?_)
  refine lv_iload_n hx hb dX11_putNumber_3 rfl (lv_at hl 0 rfl) ?_
  refine lv_if_lt (tgt := 49) hx hb dX11_putNumber_4 (by decide) (fun c9 => absurd c9 (by decide)) (fun _ => ?_)
  refine lv_aload_n hx hb dX11_putNumber_7 rfl (lv_at hl 1 rfl) ?_
  refine m_get (C := RX11) (T := TX11) (N := 16) (ci := 8) (v := .int 8) X hP 0 rfl rfl 1 (by decide) qw_131 inlX11 rfl dX11_putNumber_8 ?_
  refine lv_sipush (v := 1000) hx hb dX11_putNumber_11 (by decide) ?_
  refine lv_icmp_ge (tgt := 43) hx hb dX11_putNumber_14 (by decide) (fun c9 => absurd c9 (by decide)) (fun _ => ?_)
  refine lv_aload_n hx hb dX11_putNumber_17 rfl (lv_at hl 1 rfl) ?_
  refine m_get (C := RX11) (T := TX11) (N := 16) (ci := 8) (v := .ref a1) X hP 0 rfl rfl 0 (by decide) qw_14 inlX11 rfl dX11_putNumber_18 ?_
  refine lv_aload_n hx hb dX11_putNumber_21 rfl (lv_at hl 1 rfl) ?_
  refine m_get (C := RX11) (T := TX11) (N := 16) (ci := 8) (v := .int 8) X hP 0 rfl rfl 1 (by decide) qw_131 inlX11 rfl dX11_putNumber_22 ?_
  refine lv_iload_n hx hb dX11_putNumber_25 rfl (lv_at hl 2 rfl) ?_
  refine lv_iload_n hx hb dX11_putNumber_26 rfl (lv_at hl 0 rfl) ?_
  refine lv_ishr hx hb dX11_putNumber_27 ?_
  refine lv_topi (fun z157 ez157 => ?_)
  refine lv_sipush (v := 255) hx hb dX11_putNumber_28 (by decide) ?_
  refine lv_iand hx hb dX11_putNumber_31 ?_
  refine lv_topi (fun z158 ez158 => ?_)
  refine m_iast (ws' := fun f159 => [(a0, .inr (8, [.ref a1, .int 8, .int 0, .ref a2, .ref a3, .ref a4, .ref a5, .ref a6, .ref a7, .ref a8, .ref a9, .ref a10, .ref a11, .int 0, .int 0, .int 0])), (a1, .inl (G.2 0, 1000, .inl f159))]) X hP hD hS 1 rfl (vin (by decide)) (fun _ => rfl) dX11_putNumber_32 (fun f159 H locs hP hD hS => ?_)
  refine lv_aload_n hx hb dX11_putNumber_33 rfl (lv_at hl 1 rfl) ?_
  refine lv_dup hx hb dX11_putNumber_34 rfl ?_
  refine m_get (C := RX11) (T := TX11) (N := 16) (ci := 8) (v := .int 8) X hP 0 rfl rfl 1 (by decide) qw_131 inlX11 rfl dX11_putNumber_35 ?_
  refine lv_iconst (v := 1) hx hb dX11_putNumber_38 (by decide) ?_
  refine lv_iadd hx hb dX11_putNumber_39 ?_
  refine lv_topi (fun z160 ez160 => ?_)
  obtain rfl : z160 = 9 := ez160.trans (by decide)
  refine m_put (C := RX11) (T := TX11) (N := 16) (ci := 8) (v := .int 9) (ws' := [(a0, .inr (8, [.ref a1, .int 9, .int 0, .ref a2, .ref a3, .ref a4, .ref a5, .ref a6, .ref a7, .ref a8, .ref a9, .ref a10, .ref a11, .int 0, .int 0, .int 0])), (a1, .inl (G.2 0, 1000, .inl f159))]) X hP hD hS tyX11 tyX11_ok nmX11 0 rfl rfl 1 (by decide) qw_131 inlX11 rfl (by first | rfl | decide) (by first | rfl | decide) (Nat.le_of_ble_eq_true rfl) rfl dX11_putNumber_40 (fun H locs hP hD hS => ?_)
  refine lv_iinc (v := 16) (lv' := [(2, .int 16), (0, .ref a0), (1, .int i0)]) hx hb dX11_putNumber_43 hl (k := 0) rfl (by decide) (by decide) rfl (fun ls hl => ?_)
  refine lv_goto (tgt := 3) hx hb dX11_putNumber_46 (by decide) ?_
  refine lv_iload_n hx hb dX11_putNumber_3 rfl (lv_at hl 0 rfl) ?_
  refine lv_if_lt (tgt := 49) hx hb dX11_putNumber_4 (by decide) (fun c9 => absurd c9 (by decide)) (fun _ => ?_)
  refine lv_aload_n hx hb dX11_putNumber_7 rfl (lv_at hl 1 rfl) ?_
  refine m_get (C := RX11) (T := TX11) (N := 16) (ci := 8) (v := .int 9) X hP 0 rfl rfl 1 (by decide) qw_131 inlX11 rfl dX11_putNumber_8 ?_
  refine lv_sipush (v := 1000) hx hb dX11_putNumber_11 (by decide) ?_
  refine lv_icmp_ge (tgt := 43) hx hb dX11_putNumber_14 (by decide) (fun c9 => absurd c9 (by decide)) (fun _ => ?_)
  refine lv_aload_n hx hb dX11_putNumber_17 rfl (lv_at hl 1 rfl) ?_
  refine m_get (C := RX11) (T := TX11) (N := 16) (ci := 8) (v := .ref a1) X hP 0 rfl rfl 0 (by decide) qw_14 inlX11 rfl dX11_putNumber_18 ?_
  refine lv_aload_n hx hb dX11_putNumber_21 rfl (lv_at hl 1 rfl) ?_
  refine m_get (C := RX11) (T := TX11) (N := 16) (ci := 8) (v := .int 9) X hP 0 rfl rfl 1 (by decide) qw_131 inlX11 rfl dX11_putNumber_22 ?_
  refine lv_iload_n hx hb dX11_putNumber_25 rfl (lv_at hl 2 rfl) ?_
  refine lv_iload_n hx hb dX11_putNumber_26 rfl (lv_at hl 0 rfl) ?_
  refine lv_ishr hx hb dX11_putNumber_27 ?_
  refine lv_topi (fun z161 ez161 => ?_)
  refine lv_sipush (v := 255) hx hb dX11_putNumber_28 (by decide) ?_
  refine lv_iand hx hb dX11_putNumber_31 ?_
  refine lv_topi (fun z162 ez162 => ?_)
  refine m_iast (ws' := fun f163 => [(a0, .inr (8, [.ref a1, .int 9, .int 0, .ref a2, .ref a3, .ref a4, .ref a5, .ref a6, .ref a7, .ref a8, .ref a9, .ref a10, .ref a11, .int 0, .int 0, .int 0])), (a1, .inl (G.2 0, 1000, .inl f163))]) X hP hD hS 1 rfl (vin (by decide)) (fun _ => rfl) dX11_putNumber_32 (fun f163 H locs hP hD hS => ?_)
  refine lv_aload_n hx hb dX11_putNumber_33 rfl (lv_at hl 1 rfl) ?_
  refine lv_dup hx hb dX11_putNumber_34 rfl ?_
  refine m_get (C := RX11) (T := TX11) (N := 16) (ci := 8) (v := .int 9) X hP 0 rfl rfl 1 (by decide) qw_131 inlX11 rfl dX11_putNumber_35 ?_
  refine lv_iconst (v := 1) hx hb dX11_putNumber_38 (by decide) ?_
  refine lv_iadd hx hb dX11_putNumber_39 ?_
  refine lv_topi (fun z164 ez164 => ?_)
  obtain rfl : z164 = 10 := ez164.trans (by decide)
  refine m_put (C := RX11) (T := TX11) (N := 16) (ci := 8) (v := .int 10) (ws' := [(a0, .inr (8, [.ref a1, .int 10, .int 0, .ref a2, .ref a3, .ref a4, .ref a5, .ref a6, .ref a7, .ref a8, .ref a9, .ref a10, .ref a11, .int 0, .int 0, .int 0])), (a1, .inl (G.2 0, 1000, .inl f163))]) X hP hD hS tyX11 tyX11_ok nmX11 0 rfl rfl 1 (by decide) qw_131 inlX11 rfl (by first | rfl | decide) (by first | rfl | decide) (Nat.le_of_ble_eq_true rfl) rfl dX11_putNumber_40 (fun H locs hP hD hS => ?_)
  refine lv_iinc (v := 8) (lv' := [(2, .int 8), (0, .ref a0), (1, .int i0)]) hx hb dX11_putNumber_43 hl (k := 0) rfl (by decide) (by decide) rfl (fun ls hl => ?_)
  refine lv_goto (tgt := 3) hx hb dX11_putNumber_46 (by decide) ?_
  refine lv_iload_n hx hb dX11_putNumber_3 rfl (lv_at hl 0 rfl) ?_
  refine lv_if_lt (tgt := 49) hx hb dX11_putNumber_4 (by decide) (fun c9 => absurd c9 (by decide)) (fun _ => ?_)
  refine lv_aload_n hx hb dX11_putNumber_7 rfl (lv_at hl 1 rfl) ?_
  refine m_get (C := RX11) (T := TX11) (N := 16) (ci := 8) (v := .int 10) X hP 0 rfl rfl 1 (by decide) qw_131 inlX11 rfl dX11_putNumber_8 ?_
  refine lv_sipush (v := 1000) hx hb dX11_putNumber_11 (by decide) ?_
  refine lv_icmp_ge (tgt := 43) hx hb dX11_putNumber_14 (by decide) (fun c9 => absurd c9 (by decide)) (fun _ => ?_)
  refine lv_aload_n hx hb dX11_putNumber_17 rfl (lv_at hl 1 rfl) ?_
  refine m_get (C := RX11) (T := TX11) (N := 16) (ci := 8) (v := .ref a1) X hP 0 rfl rfl 0 (by decide) qw_14 inlX11 rfl dX11_putNumber_18 ?_
  refine lv_aload_n hx hb dX11_putNumber_21 rfl (lv_at hl 1 rfl) ?_
  refine m_get (C := RX11) (T := TX11) (N := 16) (ci := 8) (v := .int 10) X hP 0 rfl rfl 1 (by decide) qw_131 inlX11 rfl dX11_putNumber_22 ?_
  refine lv_iload_n hx hb dX11_putNumber_25 rfl (lv_at hl 2 rfl) ?_
  refine lv_iload_n hx hb dX11_putNumber_26 rfl (lv_at hl 0 rfl) ?_
  refine lv_ishr hx hb dX11_putNumber_27 ?_
  refine lv_topi (fun z165 ez165 => ?_)
  refine lv_sipush (v := 255) hx hb dX11_putNumber_28 (by decide) ?_
  refine lv_iand hx hb dX11_putNumber_31 ?_
  refine lv_topi (fun z166 ez166 => ?_)
  refine m_iast (ws' := fun f167 => [(a0, .inr (8, [.ref a1, .int 10, .int 0, .ref a2, .ref a3, .ref a4, .ref a5, .ref a6, .ref a7, .ref a8, .ref a9, .ref a10, .ref a11, .int 0, .int 0, .int 0])), (a1, .inl (G.2 0, 1000, .inl f167))]) X hP hD hS 1 rfl (vin (by decide)) (fun _ => rfl) dX11_putNumber_32 (fun f167 H locs hP hD hS => ?_)
  refine lv_aload_n hx hb dX11_putNumber_33 rfl (lv_at hl 1 rfl) ?_
  refine lv_dup hx hb dX11_putNumber_34 rfl ?_
  refine m_get (C := RX11) (T := TX11) (N := 16) (ci := 8) (v := .int 10) X hP 0 rfl rfl 1 (by decide) qw_131 inlX11 rfl dX11_putNumber_35 ?_
  refine lv_iconst (v := 1) hx hb dX11_putNumber_38 (by decide) ?_
  refine lv_iadd hx hb dX11_putNumber_39 ?_
  refine lv_topi (fun z168 ez168 => ?_)
  obtain rfl : z168 = 11 := ez168.trans (by decide)
  refine m_put (C := RX11) (T := TX11) (N := 16) (ci := 8) (v := .int 11) (ws' := [(a0, .inr (8, [.ref a1, .int 11, .int 0, .ref a2, .ref a3, .ref a4, .ref a5, .ref a6, .ref a7, .ref a8, .ref a9, .ref a10, .ref a11, .int 0, .int 0, .int 0])), (a1, .inl (G.2 0, 1000, .inl f167))]) X hP hD hS tyX11 tyX11_ok nmX11 0 rfl rfl 1 (by decide) qw_131 inlX11 rfl (by first | rfl | decide) (by first | rfl | decide) (Nat.le_of_ble_eq_true rfl) rfl dX11_putNumber_40 (fun H locs hP hD hS => ?_)
  refine lv_iinc (v := 0) (lv' := [(2, .int 0), (0, .ref a0), (1, .int i0)]) hx hb dX11_putNumber_43 hl (k := 0) rfl (by decide) (by decide) rfl (fun ls hl => ?_)
  refine lv_goto (tgt := 3) hx hb dX11_putNumber_46 (by decide) ?_
  refine lv_iload_n hx hb dX11_putNumber_3 rfl (lv_at hl 0 rfl) ?_
  refine lv_if_lt (tgt := 49) hx hb dX11_putNumber_4 (by decide) (fun c9 => absurd c9 (by decide)) (fun _ => ?_)
  refine lv_aload_n hx hb dX11_putNumber_7 rfl (lv_at hl 1 rfl) ?_
  refine m_get (C := RX11) (T := TX11) (N := 16) (ci := 8) (v := .int 11) X hP 0 rfl rfl 1 (by decide) qw_131 inlX11 rfl dX11_putNumber_8 ?_
  refine lv_sipush (v := 1000) hx hb dX11_putNumber_11 (by decide) ?_
  refine lv_icmp_ge (tgt := 43) hx hb dX11_putNumber_14 (by decide) (fun c9 => absurd c9 (by decide)) (fun _ => ?_)
  refine lv_aload_n hx hb dX11_putNumber_17 rfl (lv_at hl 1 rfl) ?_
  refine m_get (C := RX11) (T := TX11) (N := 16) (ci := 8) (v := .ref a1) X hP 0 rfl rfl 0 (by decide) qw_14 inlX11 rfl dX11_putNumber_18 ?_
  refine lv_aload_n hx hb dX11_putNumber_21 rfl (lv_at hl 1 rfl) ?_
  refine m_get (C := RX11) (T := TX11) (N := 16) (ci := 8) (v := .int 11) X hP 0 rfl rfl 1 (by decide) qw_131 inlX11 rfl dX11_putNumber_22 ?_
  refine lv_iload_n hx hb dX11_putNumber_25 rfl (lv_at hl 2 rfl) ?_
  refine lv_iload_n hx hb dX11_putNumber_26 rfl (lv_at hl 0 rfl) ?_
  refine lv_ishr hx hb dX11_putNumber_27 ?_
  refine lv_topi (fun z169 ez169 => ?_)
  refine lv_sipush (v := 255) hx hb dX11_putNumber_28 (by decide) ?_
  refine lv_iand hx hb dX11_putNumber_31 ?_
  refine lv_topi (fun z170 ez170 => ?_)
  refine m_iast (ws' := fun f171 => [(a0, .inr (8, [.ref a1, .int 11, .int 0, .ref a2, .ref a3, .ref a4, .ref a5, .ref a6, .ref a7, .ref a8, .ref a9, .ref a10, .ref a11, .int 0, .int 0, .int 0])), (a1, .inl (G.2 0, 1000, .inl f171))]) X hP hD hS 1 rfl (vin (by decide)) (fun _ => rfl) dX11_putNumber_32 (fun f171 H locs hP hD hS => ?_)
  refine lv_aload_n hx hb dX11_putNumber_33 rfl (lv_at hl 1 rfl) ?_
  refine lv_dup hx hb dX11_putNumber_34 rfl ?_
  refine m_get (C := RX11) (T := TX11) (N := 16) (ci := 8) (v := .int 11) X hP 0 rfl rfl 1 (by decide) qw_131 inlX11 rfl dX11_putNumber_35 ?_
  refine lv_iconst (v := 1) hx hb dX11_putNumber_38 (by decide) ?_
  refine lv_iadd hx hb dX11_putNumber_39 ?_
  refine lv_topi (fun z172 ez172 => ?_)
  obtain rfl : z172 = 12 := ez172.trans (by decide)
  refine m_put (C := RX11) (T := TX11) (N := 16) (ci := 8) (v := .int 12) (ws' := [(a0, .inr (8, [.ref a1, .int 12, .int 0, .ref a2, .ref a3, .ref a4, .ref a5, .ref a6, .ref a7, .ref a8, .ref a9, .ref a10, .ref a11, .int 0, .int 0, .int 0])), (a1, .inl (G.2 0, 1000, .inl f171))]) X hP hD hS tyX11 tyX11_ok nmX11 0 rfl rfl 1 (by decide) qw_131 inlX11 rfl (by first | rfl | decide) (by first | rfl | decide) (Nat.le_of_ble_eq_true rfl) rfl dX11_putNumber_40 (fun H locs hP hD hS => ?_)
  refine lv_iinc (v := (-8)) (lv' := [(2, .int (-8)), (0, .ref a0), (1, .int i0)]) hx hb dX11_putNumber_43 hl (k := 0) rfl (by decide) (by decide) rfl (fun ls hl => ?_)
  refine lv_goto (tgt := 3) hx hb dX11_putNumber_46 (by decide) ?_
  refine lv_iload_n hx hb dX11_putNumber_3 rfl (lv_at hl 0 rfl) ?_
  refine lv_if_lt (tgt := 49) hx hb dX11_putNumber_4 (by decide) (fun _ => ?_) (fun c9 => absurd c9 (by decide))
  exact m_vret X hP hD hS ((fun _ => 0), (fun k => match k with | 0 => f171 | _ => fun _ => 0)) [0, 1] (by decide) rfl trivial (Nat.le_of_ble_eq_true rfl) (Nat.le_of_ble_eq_true rfl) dX11_putNumber_49
set_option maxHeartbeats 4000000 in
set_option maxRecDepth 100000 in
theorem k13_X11_putNumber (l : Launch) (G : KG) (a0 : Nat) (i0 : Int32) (a1 : Nat) (a2 : Nat) (a3 : Nat) (a4 : Nat) (a5 : Nat) (a6 : Nat) (a7 : Nat) (a8 : Nat) (a9 : Nat) (a10 : Nat) (a11 : Nat) (g0 : Nat → Int32) (sz : Nat) : Met l yX11_putNumber (.code yX11_putNumber cX11_putNumber 3 none :: wsL_law) { frames := 0, cells := 0, slots := 0, locals := 0 } (va_Pc [.ref a0, .int i0] (Pw G [(a0, .inr (8, [.ref a1, .int 12, .int 0, .ref a2, .ref a3, .ref a4, .ref a5, .ref a6, .ref a7, .ref a8, .ref a9, .ref a10, .ref a11, .int 0, .int 0, .int 0])), (a1, .inl (G.2 0, 1000, .inl g0))] sz)) (va_Qv (fun _ => True) (fun (u9 : KS) t => Bw G (va_A [(a0, .inr (8, [.ref a1, .int 12, .int 0, .ref a2, .ref a3, .ref a4, .ref a5, .ref a6, .ref a7, .ref a8, .ref a9, .ref a10, .ref a11, .int 0, .int 0, .int 0])), (a1, .inl (G.2 0, 1000, .inl g0))] sz) [(a0, .inr (8, [.ref a1, .int 16, .int 0, .ref a2, .ref a3, .ref a4, .ref a5, .ref a6, .ref a7, .ref a8, .ref a9, .ref a10, .ref a11, .int 0, .int 0, .int 0])), (a1, .inl (G.2 0, 1000, .inl (u9.2 0)))] t) (va_A [(a0, .inr (8, [.ref a1, .int 12, .int 0, .ref a2, .ref a3, .ref a4, .ref a5, .ref a6, .ref a7, .ref a8, .ref a9, .ref a10, .ref a11, .int 0, .int 0, .int 0])), (a1, .inl (G.2 0, 1000, .inl g0))] sz)) 0 0 (va_A [(a0, .inr (8, [.ref a1, .int 12, .int 0, .ref a2, .ref a3, .ref a4, .ref a5, .ref a6, .ref a7, .ref a8, .ref a9, .ref a10, .ref a11, .int 0, .int 0, .int 0])), (a1, .inl (G.2 0, 1000, .inl g0))] sz) := by
  refine m_body (y := yX11_putNumber) (cd := cX11_putNumber) (mL := 3) (rt := none) (rm := { frames := 0, cells := 0, slots := 0, locals := 0 }) (av := [.ref a0, .int i0]) (wc := [(a0, .inr (8, [.ref a1, .int 12, .int 0, .ref a2, .ref a3, .ref a4, .ref a5, .ref a6, .ref a7, .ref a8, .ref a9, .ref a10, .ref a11, .int 0, .int 0, .int 0])), (a1, .inl (G.2 0, 1000, .inl g0))]) (G := G) (sz := sz) (Qf := fun A => va_Qv (fun _ => True) (fun (u9 : KS) t => Bw G A [(a0, .inr (8, [.ref a1, .int 16, .int 0, .ref a2, .ref a3, .ref a4, .ref a5, .ref a6, .ref a7, .ref a8, .ref a9, .ref a10, .ref a11, .int 0, .int 0, .int 0])), (a1, .inl (G.2 0, 1000, .inl (u9.2 0)))] t) A) (by decide) (Nat.le_of_ble_eq_true rfl) ?_
  intro p e s m args below meth c ls A X hi hP hD hS hl
  have hx := X.1.1
  have hb := X.1.2.1
  have hi : meth.name = "putNumber" := hi
  have hl : lv_has ls 3 [(0, .ref a0), (1, .int i0)] := hl
  refine lv_bipush (v := 24) hx hb dX11_putNumber_0 (by decide) ?_
  refine lv_istore_n (lv' := [(2, .int 24), (0, .ref a0), (1, .int i0)]) hx hb dX11_putNumber_2 rfl hl (by decide) rfl (fun ls hl => ?_)
  refine lv_iload_n hx hb dX11_putNumber_3 rfl (lv_at hl 0 rfl) ?_
  refine lv_if_lt (tgt := 49) hx hb dX11_putNumber_4 (by decide) (fun c9 => absurd c9 (by decide)) (fun _ => ?_)
  refine lv_aload_n hx hb dX11_putNumber_7 rfl (lv_at hl 1 rfl) ?_
  refine m_get (C := RX11) (T := TX11) (N := 16) (ci := 8) (v := .int 12) X hP 0 rfl rfl 1 (by decide) qw_131 inlX11 rfl dX11_putNumber_8 ?_
  refine lv_sipush (v := 1000) hx hb dX11_putNumber_11 (by decide) ?_
  refine lv_icmp_ge (tgt := 43) hx hb dX11_putNumber_14 (by decide) (fun c9 => absurd c9 (by decide)) (fun _ => ?_)
  refine lv_aload_n hx hb dX11_putNumber_17 rfl (lv_at hl 1 rfl) ?_
  refine m_get (C := RX11) (T := TX11) (N := 16) (ci := 8) (v := .ref a1) X hP 0 rfl rfl 0 (by decide) qw_14 inlX11 rfl dX11_putNumber_18 ?_
  refine lv_aload_n hx hb dX11_putNumber_21 rfl (lv_at hl 1 rfl) ?_
  refine m_get (C := RX11) (T := TX11) (N := 16) (ci := 8) (v := .int 12) X hP 0 rfl rfl 1 (by decide) qw_131 inlX11 rfl dX11_putNumber_22 ?_
  refine lv_iload_n hx hb dX11_putNumber_25 rfl (lv_at hl 2 rfl) ?_
  refine lv_iload_n hx hb dX11_putNumber_26 rfl (lv_at hl 0 rfl) ?_
  refine lv_ishr hx hb dX11_putNumber_27 ?_
  refine lv_topi (fun z174 ez174 => ?_)
  refine lv_sipush (v := 255) hx hb dX11_putNumber_28 (by decide) ?_
  refine lv_iand hx hb dX11_putNumber_31 ?_
  refine lv_topi (fun z175 ez175 => ?_)
  refine m_iast (ws' := fun f176 => [(a0, .inr (8, [.ref a1, .int 12, .int 0, .ref a2, .ref a3, .ref a4, .ref a5, .ref a6, .ref a7, .ref a8, .ref a9, .ref a10, .ref a11, .int 0, .int 0, .int 0])), (a1, .inl (G.2 0, 1000, .inl f176))]) X hP hD hS 1 rfl (vin (by decide)) (fun _ => rfl) dX11_putNumber_32 (fun f176 H locs hP hD hS => ?_)
  refine lv_aload_n hx hb dX11_putNumber_33 rfl (lv_at hl 1 rfl) ?_
  refine lv_dup hx hb dX11_putNumber_34 rfl ?_
  refine m_get (C := RX11) (T := TX11) (N := 16) (ci := 8) (v := .int 12) X hP 0 rfl rfl 1 (by decide) qw_131 inlX11 rfl dX11_putNumber_35 ?_
  refine lv_iconst (v := 1) hx hb dX11_putNumber_38 (by decide) ?_
  refine lv_iadd hx hb dX11_putNumber_39 ?_
  refine lv_topi (fun z177 ez177 => ?_)
  obtain rfl : z177 = 13 := ez177.trans (by decide)
  refine m_put (C := RX11) (T := TX11) (N := 16) (ci := 8) (v := .int 13) (ws' := [(a0, .inr (8, [.ref a1, .int 13, .int 0, .ref a2, .ref a3, .ref a4, .ref a5, .ref a6, .ref a7, .ref a8, .ref a9, .ref a10, .ref a11, .int 0, .int 0, .int 0])), (a1, .inl (G.2 0, 1000, .inl f176))]) X hP hD hS tyX11 tyX11_ok nmX11 0 rfl rfl 1 (by decide) qw_131 inlX11 rfl (by first | rfl | decide) (by first | rfl | decide) (Nat.le_of_ble_eq_true rfl) rfl dX11_putNumber_40 (fun H locs hP hD hS => ?_)
  refine lv_iinc (v := 16) (lv' := [(2, .int 16), (0, .ref a0), (1, .int i0)]) hx hb dX11_putNumber_43 hl (k := 0) rfl (by decide) (by decide) rfl (fun ls hl => ?_)
  refine lv_goto (tgt := 3) hx hb dX11_putNumber_46 (by decide) ?_
  refine lv_iload_n hx hb dX11_putNumber_3 rfl (lv_at hl 0 rfl) ?_
  refine lv_if_lt (tgt := 49) hx hb dX11_putNumber_4 (by decide) (fun c9 => absurd c9 (by decide)) (fun _ => ?_)
  refine lv_aload_n hx hb dX11_putNumber_7 rfl (lv_at hl 1 rfl) ?_
  refine m_get (C := RX11) (T := TX11) (N := 16) (ci := 8) (v := .int 13) X hP 0 rfl rfl 1 (by decide) qw_131 inlX11 rfl dX11_putNumber_8 ?_
  refine lv_sipush (v := 1000) hx hb dX11_putNumber_11 (by decide) ?_
  refine lv_icmp_ge (tgt := 43) hx hb dX11_putNumber_14 (by decide) (fun c9 => absurd c9 (by decide)) (fun _ => ?_)
  refine lv_aload_n hx hb dX11_putNumber_17 rfl (lv_at hl 1 rfl) ?_
  refine m_get (C := RX11) (T := TX11) (N := 16) (ci := 8) (v := .ref a1) X hP 0 rfl rfl 0 (by decide) qw_14 inlX11 rfl dX11_putNumber_18 ?_
  refine lv_aload_n hx hb dX11_putNumber_21 rfl (lv_at hl 1 rfl) ?_
  refine m_get (C := RX11) (T := TX11) (N := 16) (ci := 8) (v := .int 13) X hP 0 rfl rfl 1 (by decide) qw_131 inlX11 rfl dX11_putNumber_22 ?_
  refine lv_iload_n hx hb dX11_putNumber_25 rfl (lv_at hl 2 rfl) ?_
  refine lv_iload_n hx hb dX11_putNumber_26 rfl (lv_at hl 0 rfl) ?_
  refine lv_ishr hx hb dX11_putNumber_27 ?_
  refine lv_topi (fun z178 ez178 => ?_)
  refine lv_sipush (v := 255) hx hb dX11_putNumber_28 (by decide) ?_
  refine lv_iand hx hb dX11_putNumber_31 ?_
  refine lv_topi (fun z179 ez179 => ?_)
  refine m_iast (ws' := fun f180 => [(a0, .inr (8, [.ref a1, .int 13, .int 0, .ref a2, .ref a3, .ref a4, .ref a5, .ref a6, .ref a7, .ref a8, .ref a9, .ref a10, .ref a11, .int 0, .int 0, .int 0])), (a1, .inl (G.2 0, 1000, .inl f180))]) X hP hD hS 1 rfl (vin (by decide)) (fun _ => rfl) dX11_putNumber_32 (fun f180 H locs hP hD hS => ?_)
  refine lv_aload_n hx hb dX11_putNumber_33 rfl (lv_at hl 1 rfl) ?_
  refine lv_dup hx hb dX11_putNumber_34 rfl ?_
  refine m_get (C := RX11) (T := TX11) (N := 16) (ci := 8) (v := .int 13) X hP 0 rfl rfl 1 (by decide) qw_131 inlX11 rfl dX11_putNumber_35 ?_
  refine lv_iconst (v := 1) hx hb dX11_putNumber_38 (by decide) ?_
  refine lv_iadd hx hb dX11_putNumber_39 ?_
  refine lv_topi (fun z181 ez181 => ?_)
  obtain rfl : z181 = 14 := ez181.trans (by decide)
  refine m_put (C := RX11) (T := TX11) (N := 16) (ci := 8) (v := .int 14) (ws' := [(a0, .inr (8, [.ref a1, .int 14, .int 0, .ref a2, .ref a3, .ref a4, .ref a5, .ref a6, .ref a7, .ref a8, .ref a9, .ref a10, .ref a11, .int 0, .int 0, .int 0])), (a1, .inl (G.2 0, 1000, .inl f180))]) X hP hD hS tyX11 tyX11_ok nmX11 0 rfl rfl 1 (by decide) qw_131 inlX11 rfl (by first | rfl | decide) (by first | rfl | decide) (Nat.le_of_ble_eq_true rfl) rfl dX11_putNumber_40 (fun H locs hP hD hS => ?_)
  refine lv_iinc (v := 8) (lv' := [(2, .int 8), (0, .ref a0), (1, .int i0)]) hx hb dX11_putNumber_43 hl (k := 0) rfl (by decide) (by decide) rfl (fun ls hl => ?_)
  refine lv_goto (tgt := 3) hx hb dX11_putNumber_46 (by decide) ?_
  refine lv_iload_n hx hb dX11_putNumber_3 rfl (lv_at hl 0 rfl) ?_
  refine lv_if_lt (tgt := 49) hx hb dX11_putNumber_4 (by decide) (fun c9 => absurd c9 (by decide)) (fun _ => ?_)
  refine lv_aload_n hx hb dX11_putNumber_7 rfl (lv_at hl 1 rfl) ?_
  refine m_get (C := RX11) (T := TX11) (N := 16) (ci := 8) (v := .int 14) X hP 0 rfl rfl 1 (by decide) qw_131 inlX11 rfl dX11_putNumber_8 ?_
  refine lv_sipush (v := 1000) hx hb dX11_putNumber_11 (by decide) ?_
  refine lv_icmp_ge (tgt := 43) hx hb dX11_putNumber_14 (by decide) (fun c9 => absurd c9 (by decide)) (fun _ => ?_)
  refine lv_aload_n hx hb dX11_putNumber_17 rfl (lv_at hl 1 rfl) ?_
  refine m_get (C := RX11) (T := TX11) (N := 16) (ci := 8) (v := .ref a1) X hP 0 rfl rfl 0 (by decide) qw_14 inlX11 rfl dX11_putNumber_18 ?_
  refine lv_aload_n hx hb dX11_putNumber_21 rfl (lv_at hl 1 rfl) ?_
  refine m_get (C := RX11) (T := TX11) (N := 16) (ci := 8) (v := .int 14) X hP 0 rfl rfl 1 (by decide) qw_131 inlX11 rfl dX11_putNumber_22 ?_
  refine lv_iload_n hx hb dX11_putNumber_25 rfl (lv_at hl 2 rfl) ?_
  refine lv_iload_n hx hb dX11_putNumber_26 rfl (lv_at hl 0 rfl) ?_
  refine lv_ishr hx hb dX11_putNumber_27 ?_
  refine lv_topi (fun z182 ez182 => ?_)
  refine lv_sipush (v := 255) hx hb dX11_putNumber_28 (by decide) ?_
  refine lv_iand hx hb dX11_putNumber_31 ?_
  refine lv_topi (fun z183 ez183 => ?_)
  refine m_iast (ws' := fun f184 => [(a0, .inr (8, [.ref a1, .int 14, .int 0, .ref a2, .ref a3, .ref a4, .ref a5, .ref a6, .ref a7, .ref a8, .ref a9, .ref a10, .ref a11, .int 0, .int 0, .int 0])), (a1, .inl (G.2 0, 1000, .inl f184))]) X hP hD hS 1 rfl (vin (by decide)) (fun _ => rfl) dX11_putNumber_32 (fun f184 H locs hP hD hS => ?_)
  refine lv_aload_n hx hb dX11_putNumber_33 rfl (lv_at hl 1 rfl) ?_
  refine lv_dup hx hb dX11_putNumber_34 rfl ?_
  refine m_get (C := RX11) (T := TX11) (N := 16) (ci := 8) (v := .int 14) X hP 0 rfl rfl 1 (by decide) qw_131 inlX11 rfl dX11_putNumber_35 ?_
  refine lv_iconst (v := 1) hx hb dX11_putNumber_38 (by decide) ?_
  refine lv_iadd hx hb dX11_putNumber_39 ?_
  refine lv_topi (fun z185 ez185 => ?_)
  obtain rfl : z185 = 15 := ez185.trans (by decide)
  refine m_put (C := RX11) (T := TX11) (N := 16) (ci := 8) (v := .int 15) (ws' := [(a0, .inr (8, [.ref a1, .int 15, .int 0, .ref a2, .ref a3, .ref a4, .ref a5, .ref a6, .ref a7, .ref a8, .ref a9, .ref a10, .ref a11, .int 0, .int 0, .int 0])), (a1, .inl (G.2 0, 1000, .inl f184))]) X hP hD hS tyX11 tyX11_ok nmX11 0 rfl rfl 1 (by decide) qw_131 inlX11 rfl (by first | rfl | decide) (by first | rfl | decide) (Nat.le_of_ble_eq_true rfl) rfl dX11_putNumber_40 (fun H locs hP hD hS => ?_)
  refine lv_iinc (v := 0) (lv' := [(2, .int 0), (0, .ref a0), (1, .int i0)]) hx hb dX11_putNumber_43 hl (k := 0) rfl (by decide) (by decide) rfl (fun ls hl => ?_)
  refine lv_goto (tgt := 3) hx hb dX11_putNumber_46 (by decide) ?_
  refine lv_iload_n hx hb dX11_putNumber_3 rfl (lv_at hl 0 rfl) ?_
  refine lv_if_lt (tgt := 49) hx hb dX11_putNumber_4 (by decide) (fun c9 => absurd c9 (by decide)) (fun _ => ?_)
  refine lv_aload_n hx hb dX11_putNumber_7 rfl (lv_at hl 1 rfl) ?_
  refine m_get (C := RX11) (T := TX11) (N := 16) (ci := 8) (v := .int 15) X hP 0 rfl rfl 1 (by decide) qw_131 inlX11 rfl dX11_putNumber_8 ?_
  refine lv_sipush (v := 1000) hx hb dX11_putNumber_11 (by decide) ?_
  refine lv_icmp_ge (tgt := 43) hx hb dX11_putNumber_14 (by decide) (fun c9 => absurd c9 (by decide)) (fun _ => ?_)
  refine lv_aload_n hx hb dX11_putNumber_17 rfl (lv_at hl 1 rfl) ?_
  refine m_get (C := RX11) (T := TX11) (N := 16) (ci := 8) (v := .ref a1) X hP 0 rfl rfl 0 (by decide) qw_14 inlX11 rfl dX11_putNumber_18 ?_
  refine lv_aload_n hx hb dX11_putNumber_21 rfl (lv_at hl 1 rfl) ?_
  refine m_get (C := RX11) (T := TX11) (N := 16) (ci := 8) (v := .int 15) X hP 0 rfl rfl 1 (by decide) qw_131 inlX11 rfl dX11_putNumber_22 ?_
  refine lv_iload_n hx hb dX11_putNumber_25 rfl (lv_at hl 2 rfl) ?_
  refine lv_iload_n hx hb dX11_putNumber_26 rfl (lv_at hl 0 rfl) ?_
  refine lv_ishr hx hb dX11_putNumber_27 ?_
  refine lv_topi (fun z186 ez186 => ?_)
  refine lv_sipush (v := 255) hx hb dX11_putNumber_28 (by decide) ?_
  refine lv_iand hx hb dX11_putNumber_31 ?_
  refine lv_topi (fun z187 ez187 => ?_)
  refine m_iast (ws' := fun f188 => [(a0, .inr (8, [.ref a1, .int 15, .int 0, .ref a2, .ref a3, .ref a4, .ref a5, .ref a6, .ref a7, .ref a8, .ref a9, .ref a10, .ref a11, .int 0, .int 0, .int 0])), (a1, .inl (G.2 0, 1000, .inl f188))]) X hP hD hS 1 rfl (vin (by decide)) (fun _ => rfl) dX11_putNumber_32 (fun f188 H locs hP hD hS => ?_)
  refine lv_aload_n hx hb dX11_putNumber_33 rfl (lv_at hl 1 rfl) ?_
  refine lv_dup hx hb dX11_putNumber_34 rfl ?_
  refine m_get (C := RX11) (T := TX11) (N := 16) (ci := 8) (v := .int 15) X hP 0 rfl rfl 1 (by decide) qw_131 inlX11 rfl dX11_putNumber_35 ?_
  refine lv_iconst (v := 1) hx hb dX11_putNumber_38 (by decide) ?_
  refine lv_iadd hx hb dX11_putNumber_39 ?_
  refine lv_topi (fun z189 ez189 => ?_)
  obtain rfl : z189 = 16 := ez189.trans (by decide)
  refine m_put (C := RX11) (T := TX11) (N := 16) (ci := 8) (v := .int 16) (ws' := [(a0, .inr (8, [.ref a1, .int 16, .int 0, .ref a2, .ref a3, .ref a4, .ref a5, .ref a6, .ref a7, .ref a8, .ref a9, .ref a10, .ref a11, .int 0, .int 0, .int 0])), (a1, .inl (G.2 0, 1000, .inl f188))]) X hP hD hS tyX11 tyX11_ok nmX11 0 rfl rfl 1 (by decide) qw_131 inlX11 rfl (by first | rfl | decide) (by first | rfl | decide) (Nat.le_of_ble_eq_true rfl) rfl dX11_putNumber_40 (fun H locs hP hD hS => ?_)
  refine lv_iinc (v := (-8)) (lv' := [(2, .int (-8)), (0, .ref a0), (1, .int i0)]) hx hb dX11_putNumber_43 hl (k := 0) rfl (by decide) (by decide) rfl (fun ls hl => ?_)
  refine lv_goto (tgt := 3) hx hb dX11_putNumber_46 (by decide) ?_
  refine lv_iload_n hx hb dX11_putNumber_3 rfl (lv_at hl 0 rfl) ?_
  refine lv_if_lt (tgt := 49) hx hb dX11_putNumber_4 (by decide) (fun _ => ?_) (fun c9 => absurd c9 (by decide))
  exact m_vret X hP hD hS ((fun _ => 0), (fun k => match k with | 0 => f188 | _ => fun _ => 0)) [0, 1] (by decide) rfl trivial (Nat.le_of_ble_eq_true rfl) (Nat.le_of_ble_eq_true rfl) dX11_putNumber_49
set_option maxHeartbeats 4000000 in
set_option maxRecDepth 100000 in
theorem k14_X11_putNumber (l : Launch) (G : KG) (a0 : Nat) (i0 : Int32) (a1 : Nat) (a2 : Nat) (a3 : Nat) (a4 : Nat) (a5 : Nat) (a6 : Nat) (a7 : Nat) (a8 : Nat) (a9 : Nat) (a10 : Nat) (a11 : Nat) (g0 : Nat → Int32) (sz : Nat) : Met l yX11_putNumber (.code yX11_putNumber cX11_putNumber 3 none :: wsL_law) { frames := 0, cells := 0, slots := 0, locals := 0 } (va_Pc [.ref a0, .int i0] (Pw G [(a0, .inr (8, [.ref a1, .int 16, .int 0, .ref a2, .ref a3, .ref a4, .ref a5, .ref a6, .ref a7, .ref a8, .ref a9, .ref a10, .ref a11, .int 0, .int 0, .int 0])), (a1, .inl (G.2 0, 1000, .inl g0))] sz)) (va_Qv (fun _ => True) (fun (u9 : KS) t => Bw G (va_A [(a0, .inr (8, [.ref a1, .int 16, .int 0, .ref a2, .ref a3, .ref a4, .ref a5, .ref a6, .ref a7, .ref a8, .ref a9, .ref a10, .ref a11, .int 0, .int 0, .int 0])), (a1, .inl (G.2 0, 1000, .inl g0))] sz) [(a0, .inr (8, [.ref a1, .int 20, .int 0, .ref a2, .ref a3, .ref a4, .ref a5, .ref a6, .ref a7, .ref a8, .ref a9, .ref a10, .ref a11, .int 0, .int 0, .int 0])), (a1, .inl (G.2 0, 1000, .inl (u9.2 0)))] t) (va_A [(a0, .inr (8, [.ref a1, .int 16, .int 0, .ref a2, .ref a3, .ref a4, .ref a5, .ref a6, .ref a7, .ref a8, .ref a9, .ref a10, .ref a11, .int 0, .int 0, .int 0])), (a1, .inl (G.2 0, 1000, .inl g0))] sz)) 0 0 (va_A [(a0, .inr (8, [.ref a1, .int 16, .int 0, .ref a2, .ref a3, .ref a4, .ref a5, .ref a6, .ref a7, .ref a8, .ref a9, .ref a10, .ref a11, .int 0, .int 0, .int 0])), (a1, .inl (G.2 0, 1000, .inl g0))] sz) := by
  refine m_body (y := yX11_putNumber) (cd := cX11_putNumber) (mL := 3) (rt := none) (rm := { frames := 0, cells := 0, slots := 0, locals := 0 }) (av := [.ref a0, .int i0]) (wc := [(a0, .inr (8, [.ref a1, .int 16, .int 0, .ref a2, .ref a3, .ref a4, .ref a5, .ref a6, .ref a7, .ref a8, .ref a9, .ref a10, .ref a11, .int 0, .int 0, .int 0])), (a1, .inl (G.2 0, 1000, .inl g0))]) (G := G) (sz := sz) (Qf := fun A => va_Qv (fun _ => True) (fun (u9 : KS) t => Bw G A [(a0, .inr (8, [.ref a1, .int 20, .int 0, .ref a2, .ref a3, .ref a4, .ref a5, .ref a6, .ref a7, .ref a8, .ref a9, .ref a10, .ref a11, .int 0, .int 0, .int 0])), (a1, .inl (G.2 0, 1000, .inl (u9.2 0)))] t) A) (by decide) (Nat.le_of_ble_eq_true rfl) ?_
  intro p e s m args below meth c ls A X hi hP hD hS hl
  have hx := X.1.1
  have hb := X.1.2.1
  have hi : meth.name = "putNumber" := hi
  have hl : lv_has ls 3 [(0, .ref a0), (1, .int i0)] := hl
  refine lv_bipush (v := 24) hx hb dX11_putNumber_0 (by decide) ?_
  refine lv_istore_n (lv' := [(2, .int 24), (0, .ref a0), (1, .int i0)]) hx hb dX11_putNumber_2 rfl hl (by decide) rfl (fun ls hl => ?_)
  refine lv_iload_n hx hb dX11_putNumber_3 rfl (lv_at hl 0 rfl) ?_
  refine lv_if_lt (tgt := 49) hx hb dX11_putNumber_4 (by decide) (fun c9 => absurd c9 (by decide)) (fun _ => ?_)
  refine lv_aload_n hx hb dX11_putNumber_7 rfl (lv_at hl 1 rfl) ?_
  refine m_get (C := RX11) (T := TX11) (N := 16) (ci := 8) (v := .int 16) X hP 0 rfl rfl 1 (by decide) qw_131 inlX11 rfl dX11_putNumber_8 ?_
  refine lv_sipush (v := 1000) hx hb dX11_putNumber_11 (by decide) ?_
  refine lv_icmp_ge (tgt := 43) hx hb dX11_putNumber_14 (by decide) (fun c9 => absurd c9 (by decide)) (fun _ => ?_)
  refine lv_aload_n hx hb dX11_putNumber_17 rfl (lv_at hl 1 rfl) ?_
  refine m_get (C := RX11) (T := TX11) (N := 16) (ci := 8) (v := .ref a1) X hP 0 rfl rfl 0 (by decide) qw_14 inlX11 rfl dX11_putNumber_18 ?_
  refine lv_aload_n hx hb dX11_putNumber_21 rfl (lv_at hl 1 rfl) ?_
  refine m_get (C := RX11) (T := TX11) (N := 16) (ci := 8) (v := .int 16) X hP 0 rfl rfl 1 (by decide) qw_131 inlX11 rfl dX11_putNumber_22 ?_
  refine lv_iload_n hx hb dX11_putNumber_25 rfl (lv_at hl 2 rfl) ?_
  refine lv_iload_n hx hb dX11_putNumber_26 rfl (lv_at hl 0 rfl) ?_
  refine lv_ishr hx hb dX11_putNumber_27 ?_
  refine lv_topi (fun z191 ez191 => ?_)
  refine lv_sipush (v := 255) hx hb dX11_putNumber_28 (by decide) ?_
  refine lv_iand hx hb dX11_putNumber_31 ?_
  refine lv_topi (fun z192 ez192 => ?_)
  refine m_iast (ws' := fun f193 => [(a0, .inr (8, [.ref a1, .int 16, .int 0, .ref a2, .ref a3, .ref a4, .ref a5, .ref a6, .ref a7, .ref a8, .ref a9, .ref a10, .ref a11, .int 0, .int 0, .int 0])), (a1, .inl (G.2 0, 1000, .inl f193))]) X hP hD hS 1 rfl (vin (by decide)) (fun _ => rfl) dX11_putNumber_32 (fun f193 H locs hP hD hS => ?_)
  refine lv_aload_n hx hb dX11_putNumber_33 rfl (lv_at hl 1 rfl) ?_
  refine lv_dup hx hb dX11_putNumber_34 rfl ?_
  refine m_get (C := RX11) (T := TX11) (N := 16) (ci := 8) (v := .int 16) X hP 0 rfl rfl 1 (by decide) qw_131 inlX11 rfl dX11_putNumber_35 ?_
  refine lv_iconst (v := 1) hx hb dX11_putNumber_38 (by decide) ?_
  refine lv_iadd hx hb dX11_putNumber_39 ?_
  refine lv_topi (fun z194 ez194 => ?_)
  obtain rfl : z194 = 17 := ez194.trans (by decide)
  refine m_put (C := RX11) (T := TX11) (N := 16) (ci := 8) (v := .int 17) (ws' := [(a0, .inr (8, [.ref a1, .int 17, .int 0, .ref a2, .ref a3, .ref a4, .ref a5, .ref a6, .ref a7, .ref a8, .ref a9, .ref a10, .ref a11, .int 0, .int 0, .int 0])), (a1, .inl (G.2 0, 1000, .inl f193))]) X hP hD hS tyX11 tyX11_ok nmX11 0 rfl rfl 1 (by decide) qw_131 inlX11 rfl (by first | rfl | decide) (by first | rfl | decide) (Nat.le_of_ble_eq_true rfl) rfl dX11_putNumber_40 (fun H locs hP hD hS => ?_)
  refine lv_iinc (v := 16) (lv' := [(2, .int 16), (0, .ref a0), (1, .int i0)]) hx hb dX11_putNumber_43 hl (k := 0) rfl (by decide) (by decide) rfl (fun ls hl => ?_)
  refine lv_goto (tgt := 3) hx hb dX11_putNumber_46 (by decide) ?_
  refine lv_iload_n hx hb dX11_putNumber_3 rfl (lv_at hl 0 rfl) ?_
  refine lv_if_lt (tgt := 49) hx hb dX11_putNumber_4 (by decide) (fun c9 => absurd c9 (by decide)) (fun _ => ?_)
  refine lv_aload_n hx hb dX11_putNumber_7 rfl (lv_at hl 1 rfl) ?_
  refine m_get (C := RX11) (T := TX11) (N := 16) (ci := 8) (v := .int 17) X hP 0 rfl rfl 1 (by decide) qw_131 inlX11 rfl dX11_putNumber_8 ?_
  refine lv_sipush (v := 1000) hx hb dX11_putNumber_11 (by decide) ?_
  refine lv_icmp_ge (tgt := 43) hx hb dX11_putNumber_14 (by decide) (fun c9 => absurd c9 (by decide)) (fun _ => ?_)
  refine lv_aload_n hx hb dX11_putNumber_17 rfl (lv_at hl 1 rfl) ?_
  refine m_get (C := RX11) (T := TX11) (N := 16) (ci := 8) (v := .ref a1) X hP 0 rfl rfl 0 (by decide) qw_14 inlX11 rfl dX11_putNumber_18 ?_
  refine lv_aload_n hx hb dX11_putNumber_21 rfl (lv_at hl 1 rfl) ?_
  refine m_get (C := RX11) (T := TX11) (N := 16) (ci := 8) (v := .int 17) X hP 0 rfl rfl 1 (by decide) qw_131 inlX11 rfl dX11_putNumber_22 ?_
  refine lv_iload_n hx hb dX11_putNumber_25 rfl (lv_at hl 2 rfl) ?_
  refine lv_iload_n hx hb dX11_putNumber_26 rfl (lv_at hl 0 rfl) ?_
  refine lv_ishr hx hb dX11_putNumber_27 ?_
  refine lv_topi (fun z195 ez195 => ?_)
  refine lv_sipush (v := 255) hx hb dX11_putNumber_28 (by decide) ?_
  refine lv_iand hx hb dX11_putNumber_31 ?_
  refine lv_topi (fun z196 ez196 => ?_)
  refine m_iast (ws' := fun f197 => [(a0, .inr (8, [.ref a1, .int 17, .int 0, .ref a2, .ref a3, .ref a4, .ref a5, .ref a6, .ref a7, .ref a8, .ref a9, .ref a10, .ref a11, .int 0, .int 0, .int 0])), (a1, .inl (G.2 0, 1000, .inl f197))]) X hP hD hS 1 rfl (vin (by decide)) (fun _ => rfl) dX11_putNumber_32 (fun f197 H locs hP hD hS => ?_)
  refine lv_aload_n hx hb dX11_putNumber_33 rfl (lv_at hl 1 rfl) ?_
  refine lv_dup hx hb dX11_putNumber_34 rfl ?_
  refine m_get (C := RX11) (T := TX11) (N := 16) (ci := 8) (v := .int 17) X hP 0 rfl rfl 1 (by decide) qw_131 inlX11 rfl dX11_putNumber_35 ?_
  refine lv_iconst (v := 1) hx hb dX11_putNumber_38 (by decide) ?_
  refine lv_iadd hx hb dX11_putNumber_39 ?_
  refine lv_topi (fun z198 ez198 => ?_)
  obtain rfl : z198 = 18 := ez198.trans (by decide)
  refine m_put (C := RX11) (T := TX11) (N := 16) (ci := 8) (v := .int 18) (ws' := [(a0, .inr (8, [.ref a1, .int 18, .int 0, .ref a2, .ref a3, .ref a4, .ref a5, .ref a6, .ref a7, .ref a8, .ref a9, .ref a10, .ref a11, .int 0, .int 0, .int 0])), (a1, .inl (G.2 0, 1000, .inl f197))]) X hP hD hS tyX11 tyX11_ok nmX11 0 rfl rfl 1 (by decide) qw_131 inlX11 rfl (by first | rfl | decide) (by first | rfl | decide) (Nat.le_of_ble_eq_true rfl) rfl dX11_putNumber_40 (fun H locs hP hD hS => ?_)
  refine lv_iinc (v := 8) (lv' := [(2, .int 8), (0, .ref a0), (1, .int i0)]) hx hb dX11_putNumber_43 hl (k := 0) rfl (by decide) (by decide) rfl (fun ls hl => ?_)
  refine lv_goto (tgt := 3) hx hb dX11_putNumber_46 (by decide) ?_
  refine lv_iload_n hx hb dX11_putNumber_3 rfl (lv_at hl 0 rfl) ?_
  refine lv_if_lt (tgt := 49) hx hb dX11_putNumber_4 (by decide) (fun c9 => absurd c9 (by decide)) (fun _ => ?_)
  refine lv_aload_n hx hb dX11_putNumber_7 rfl (lv_at hl 1 rfl) ?_
  refine m_get (C := RX11) (T := TX11) (N := 16) (ci := 8) (v := .int 18) X hP 0 rfl rfl 1 (by decide) qw_131 inlX11 rfl dX11_putNumber_8 ?_
  refine lv_sipush (v := 1000) hx hb dX11_putNumber_11 (by decide) ?_
  refine lv_icmp_ge (tgt := 43) hx hb dX11_putNumber_14 (by decide) (fun c9 => absurd c9 (by decide)) (fun _ => ?_)
  refine lv_aload_n hx hb dX11_putNumber_17 rfl (lv_at hl 1 rfl) ?_
  refine m_get (C := RX11) (T := TX11) (N := 16) (ci := 8) (v := .ref a1) X hP 0 rfl rfl 0 (by decide) qw_14 inlX11 rfl dX11_putNumber_18 ?_
  refine lv_aload_n hx hb dX11_putNumber_21 rfl (lv_at hl 1 rfl) ?_
  refine m_get (C := RX11) (T := TX11) (N := 16) (ci := 8) (v := .int 18) X hP 0 rfl rfl 1 (by decide) qw_131 inlX11 rfl dX11_putNumber_22 ?_
  refine lv_iload_n hx hb dX11_putNumber_25 rfl (lv_at hl 2 rfl) ?_
  refine lv_iload_n hx hb dX11_putNumber_26 rfl (lv_at hl 0 rfl) ?_
  refine lv_ishr hx hb dX11_putNumber_27 ?_
  refine lv_topi (fun z199 ez199 => ?_)
  refine lv_sipush (v := 255) hx hb dX11_putNumber_28 (by decide) ?_
  refine lv_iand hx hb dX11_putNumber_31 ?_
  refine lv_topi (fun z200 ez200 => ?_)
  refine m_iast (ws' := fun f201 => [(a0, .inr (8, [.ref a1, .int 18, .int 0, .ref a2, .ref a3, .ref a4, .ref a5, .ref a6, .ref a7, .ref a8, .ref a9, .ref a10, .ref a11, .int 0, .int 0, .int 0])), (a1, .inl (G.2 0, 1000, .inl f201))]) X hP hD hS 1 rfl (vin (by decide)) (fun _ => rfl) dX11_putNumber_32 (fun f201 H locs hP hD hS => ?_)
  refine lv_aload_n hx hb dX11_putNumber_33 rfl (lv_at hl 1 rfl) ?_
  refine lv_dup hx hb dX11_putNumber_34 rfl ?_
  refine m_get (C := RX11) (T := TX11) (N := 16) (ci := 8) (v := .int 18) X hP 0 rfl rfl 1 (by decide) qw_131 inlX11 rfl dX11_putNumber_35 ?_
  refine lv_iconst (v := 1) hx hb dX11_putNumber_38 (by decide) ?_
  refine lv_iadd hx hb dX11_putNumber_39 ?_
  refine lv_topi (fun z202 ez202 => ?_)
  obtain rfl : z202 = 19 := ez202.trans (by decide)
  refine m_put (C := RX11) (T := TX11) (N := 16) (ci := 8) (v := .int 19) (ws' := [(a0, .inr (8, [.ref a1, .int 19, .int 0, .ref a2, .ref a3, .ref a4, .ref a5, .ref a6, .ref a7, .ref a8, .ref a9, .ref a10, .ref a11, .int 0, .int 0, .int 0])), (a1, .inl (G.2 0, 1000, .inl f201))]) X hP hD hS tyX11 tyX11_ok nmX11 0 rfl rfl 1 (by decide) qw_131 inlX11 rfl (by first | rfl | decide) (by first | rfl | decide) (Nat.le_of_ble_eq_true rfl) rfl dX11_putNumber_40 (fun H locs hP hD hS => ?_)
  refine lv_iinc (v := 0) (lv' := [(2, .int 0), (0, .ref a0), (1, .int i0)]) hx hb dX11_putNumber_43 hl (k := 0) rfl (by decide) (by decide) rfl (fun ls hl => ?_)
  refine lv_goto (tgt := 3) hx hb dX11_putNumber_46 (by decide) ?_
  refine lv_iload_n hx hb dX11_putNumber_3 rfl (lv_at hl 0 rfl) ?_
  refine lv_if_lt (tgt := 49) hx hb dX11_putNumber_4 (by decide) (fun c9 => absurd c9 (by decide)) (fun _ => ?_)
  refine lv_aload_n hx hb dX11_putNumber_7 rfl (lv_at hl 1 rfl) ?_
  refine m_get (C := RX11) (T := TX11) (N := 16) (ci := 8) (v := .int 19) X hP 0 rfl rfl 1 (by decide) qw_131 inlX11 rfl dX11_putNumber_8 ?_
  refine lv_sipush (v := 1000) hx hb dX11_putNumber_11 (by decide) ?_
  refine lv_icmp_ge (tgt := 43) hx hb dX11_putNumber_14 (by decide) (fun c9 => absurd c9 (by decide)) (fun _ => ?_)
  refine lv_aload_n hx hb dX11_putNumber_17 rfl (lv_at hl 1 rfl) ?_
  refine m_get (C := RX11) (T := TX11) (N := 16) (ci := 8) (v := .ref a1) X hP 0 rfl rfl 0 (by decide) qw_14 inlX11 rfl dX11_putNumber_18 ?_
  refine lv_aload_n hx hb dX11_putNumber_21 rfl (lv_at hl 1 rfl) ?_
  refine m_get (C := RX11) (T := TX11) (N := 16) (ci := 8) (v := .int 19) X hP 0 rfl rfl 1 (by decide) qw_131 inlX11 rfl dX11_putNumber_22 ?_
  refine lv_iload_n hx hb dX11_putNumber_25 rfl (lv_at hl 2 rfl) ?_
  refine lv_iload_n hx hb dX11_putNumber_26 rfl (lv_at hl 0 rfl) ?_
  refine lv_ishr hx hb dX11_putNumber_27 ?_
  refine lv_topi (fun z203 ez203 => ?_)
  refine lv_sipush (v := 255) hx hb dX11_putNumber_28 (by decide) ?_
  refine lv_iand hx hb dX11_putNumber_31 ?_
  refine lv_topi (fun z204 ez204 => ?_)
  refine m_iast (ws' := fun f205 => [(a0, .inr (8, [.ref a1, .int 19, .int 0, .ref a2, .ref a3, .ref a4, .ref a5, .ref a6, .ref a7, .ref a8, .ref a9, .ref a10, .ref a11, .int 0, .int 0, .int 0])), (a1, .inl (G.2 0, 1000, .inl f205))]) X hP hD hS 1 rfl (vin (by decide)) (fun _ => rfl) dX11_putNumber_32 (fun f205 H locs hP hD hS => ?_)
  refine lv_aload_n hx hb dX11_putNumber_33 rfl (lv_at hl 1 rfl) ?_
  refine lv_dup hx hb dX11_putNumber_34 rfl ?_
  refine m_get (C := RX11) (T := TX11) (N := 16) (ci := 8) (v := .int 19) X hP 0 rfl rfl 1 (by decide) qw_131 inlX11 rfl dX11_putNumber_35 ?_
  refine lv_iconst (v := 1) hx hb dX11_putNumber_38 (by decide) ?_
  refine lv_iadd hx hb dX11_putNumber_39 ?_
  refine lv_topi (fun z206 ez206 => ?_)
  obtain rfl : z206 = 20 := ez206.trans (by decide)
  refine m_put (C := RX11) (T := TX11) (N := 16) (ci := 8) (v := .int 20) (ws' := [(a0, .inr (8, [.ref a1, .int 20, .int 0, .ref a2, .ref a3, .ref a4, .ref a5, .ref a6, .ref a7, .ref a8, .ref a9, .ref a10, .ref a11, .int 0, .int 0, .int 0])), (a1, .inl (G.2 0, 1000, .inl f205))]) X hP hD hS tyX11 tyX11_ok nmX11 0 rfl rfl 1 (by decide) qw_131 inlX11 rfl (by first | rfl | decide) (by first | rfl | decide) (Nat.le_of_ble_eq_true rfl) rfl dX11_putNumber_40 (fun H locs hP hD hS => ?_)
  refine lv_iinc (v := (-8)) (lv' := [(2, .int (-8)), (0, .ref a0), (1, .int i0)]) hx hb dX11_putNumber_43 hl (k := 0) rfl (by decide) (by decide) rfl (fun ls hl => ?_)
  refine lv_goto (tgt := 3) hx hb dX11_putNumber_46 (by decide) ?_
  refine lv_iload_n hx hb dX11_putNumber_3 rfl (lv_at hl 0 rfl) ?_
  refine lv_if_lt (tgt := 49) hx hb dX11_putNumber_4 (by decide) (fun _ => ?_) (fun c9 => absurd c9 (by decide))
  exact m_vret X hP hD hS ((fun _ => 0), (fun k => match k with | 0 => f205 | _ => fun _ => 0)) [0, 1] (by decide) rfl trivial (Nat.le_of_ble_eq_true rfl) (Nat.le_of_ble_eq_true rfl) dX11_putNumber_49
