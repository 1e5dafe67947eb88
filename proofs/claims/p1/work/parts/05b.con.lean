set_option maxHeartbeats 4000000 in
set_option maxRecDepth 100000 in
theorem k9_X11_putNumber (l : Launch) (G : KG) (a0 : Nat) (i0 : Int32) (a1 : Nat) (a2 : Nat) (a3 : Nat) (a4 : Nat) (a5 : Nat) (a6 : Nat) (a7 : Nat) (a8 : Nat) (a9 : Nat) (a10 : Nat) (a11 : Nat) (sz : Nat) : Met l yX11_putNumber (.code yX11_putNumber cX11_putNumber 3 none :: wsL_law) { frames := 0, cells := 0, slots := 0, locals := 0 } (va_Pc [.ref a0, .int i0] (Pw G [(a0, .inr (8, [.ref a1, .int 0, .int 0, .ref a2, .ref a3, .ref a4, .ref a5, .ref a6, .ref a7, .ref a8, .ref a9, .ref a10, .ref a11, .int 0, .int 0, .int 0])), (a1, .inl (G.2 0, 1000, .inl (fun _ => 0)))] sz)) (va_Qv (fun _ => True) (fun (u9 : KS) t => Bw G (va_A [(a0, .inr (8, [.ref a1, .int 0, .int 0, .ref a2, .ref a3, .ref a4, .ref a5, .ref a6, .ref a7, .ref a8, .ref a9, .ref a10, .ref a11, .int 0, .int 0, .int 0])), (a1, .inl (G.2 0, 1000, .inl (fun _ => 0)))] sz) [(a0, .inr (8, [.ref a1, .int 4, .int 0, .ref a2, .ref a3, .ref a4, .ref a5, .ref a6, .ref a7, .ref a8, .ref a9, .ref a10, .ref a11, .int 0, .int 0, .int 0])), (a1, .inl (G.2 0, 1000, .inl (u9.2 0)))] t) (va_A [(a0, .inr (8, [.ref a1, .int 0, .int 0, .ref a2, .ref a3, .ref a4, .ref a5, .ref a6, .ref a7, .ref a8, .ref a9, .ref a10, .ref a11, .int 0, .int 0, .int 0])), (a1, .inl (G.2 0, 1000, .inl (fun _ => 0)))] sz)) 0 0 (va_A [(a0, .inr (8, [.ref a1, .int 0, .int 0, .ref a2, .ref a3, .ref a4, .ref a5, .ref a6, .ref a7, .ref a8, .ref a9, .ref a10, .ref a11, .int 0, .int 0, .int 0])), (a1, .inl (G.2 0, 1000, .inl (fun _ => 0)))] sz) := by
  refine m_body (y := yX11_putNumber) (cd := cX11_putNumber) (mL := 3) (rt := none) (rm := { frames := 0, cells := 0, slots := 0, locals := 0 }) (av := [.ref a0, .int i0]) (wc := [(a0, .inr (8, [.ref a1, .int 0, .int 0, .ref a2, .ref a3, .ref a4, .ref a5, .ref a6, .ref a7, .ref a8, .ref a9, .ref a10, .ref a11, .int 0, .int 0, .int 0])), (a1, .inl (G.2 0, 1000, .inl (fun _ => 0)))]) (G := G) (sz := sz) (Qf := fun A => va_Qv (fun _ => True) (fun (u9 : KS) t => Bw G A [(a0, .inr (8, [.ref a1, .int 4, .int 0, .ref a2, .ref a3, .ref a4, .ref a5, .ref a6, .ref a7, .ref a8, .ref a9, .ref a10, .ref a11, .int 0, .int 0, .int 0])), (a1, .inl (G.2 0, 1000, .inl (u9.2 0)))] t) A) (by decide) (Nat.le_of_ble_eq_true rfl) ?_
  intro p e s m args below meth c ls A X hi hP hD hS hl
  have hx := X.1.1
  have hb := X.1.2.1
  have hi : meth.name = "putNumber" := hi
  have hl : lv_has ls 3 [(0, .ref a0), (1, .int i0)] := hl
  refine lv_bipush (v := 24) hx hb dX11_putNumber_0 (by decide) ?_
  refine lv_istore_n (lv' := [(2, .int 24), (0, .ref a0), (1, .int i0)]) hx hb dX11_putNumber_2 rfl hl (by decide) rfl (fun ls hl => ?_)
  refine lv_iload_n hx hb dX11_putNumber_3 rfl (lv_at hl 0 rfl) ?_
  refine lv_if_lt (tgt := 49) hx hb dX11_putNumber_4 (by decide) (fun c9 => absurd c9 (by decide)) (fun _ => ?_)
  refine lv_aload_n hx hb dX11_putNumber_7 rfl (lv_at hl 1 rfl) ?_
  refine m_get (C := RX11) (T := TX11) (N := 16) (ci := 8) (v := .int 0) X hP 0 rfl rfl 1 (by decide) qw_131 inlX11 rfl dX11_putNumber_8 ?_
  refine lv_sipush (v := 1000) hx hb dX11_putNumber_11 (by decide) ?_
  refine lv_icmp_ge (tgt := 43) hx hb dX11_putNumber_14 (by decide) (fun c9 => absurd c9 (by decide)) (fun _ => ?_)
  refine lv_aload_n hx hb dX11_putNumber_17 rfl (lv_at hl 1 rfl) ?_
  refine m_get (C := RX11) (T := TX11) (N := 16) (ci := 8) (v := .ref a1) X hP 0 rfl rfl 0 (by decide) qw_14 inlX11 rfl dX11_putNumber_18 ?_
  refine lv_aload_n hx hb dX11_putNumber_21 rfl (lv_at hl 1 rfl) ?_
  refine m_get (C := RX11) (T := TX11) (N := 16) (ci := 8) (v := .int 0) X hP 0 rfl rfl 1 (by decide) qw_131 inlX11 rfl dX11_putNumber_22 ?_
  refine lv_iload_n hx hb dX11_putNumber_25 rfl (lv_at hl 2 rfl) ?_
  refine lv_iload_n hx hb dX11_putNumber_26 rfl (lv_at hl 0 rfl) ?_
  refine lv_ishr hx hb dX11_putNumber_27 ?_
  refine lv_topi (fun z92 ez92 => ?_)
  refine lv_sipush (v := 255) hx hb dX11_putNumber_28 (by decide) ?_
  refine lv_iand hx hb dX11_putNumber_31 ?_
  refine lv_topi (fun z93 ez93 => ?_)
  refine m_iast (ws' := fun f94 => [(a0, .inr (8, [.ref a1, .int 0, .int 0, .ref a2, .ref a3, .ref a4, .ref a5, .ref a6, .ref a7, .ref a8, .ref a9, .ref a10, .ref a11, .int 0, .int 0, .int 0])), (a1, .inl (G.2 0, 1000, .inl f94))]) X hP hD hS 1 rfl (vin (by decide)) (fun _ => rfl) dX11_putNumber_32 (fun f94 H locs hP hD hS => ?_)
  refine lv_aload_n hx hb dX11_putNumber_33 rfl (lv_at hl 1 rfl) ?_
  refine lv_dup hx hb dX11_putNumber_34 rfl ?_
  refine m_get (C := RX11) (T := TX11) (N := 16) (ci := 8) (v := .int 0) X hP 0 rfl rfl 1 (by decide) qw_131 inlX11 rfl dX11_putNumber_35 ?_
  refine lv_iconst (v := 1) hx hb dX11_putNumber_38 (by decide) ?_
  refine lv_iadd hx hb dX11_putNumber_39 ?_
  refine lv_topi (fun z95 ez95 => ?_)
  obtain rfl : z95 = 1 := ez95.trans (by decide)
  refine m_put (C := RX11) (T := TX11) (N := 16) (ci := 8) (v := .int 1) (ws' := [(a0, .inr (8, [.ref a1, .int 1, .int 0, .ref a2, .ref a3, .ref a4, .ref a5, .ref a6, .ref a7, .ref a8, .ref a9, .ref a10, .ref a11, .int 0, .int 0, .int 0])), (a1, .inl (G.2 0, 1000, .inl f94))]) X hP hD hS tyX11 tyX11_ok nmX11 0 rfl rfl 1 (by decide) qw_131 inlX11 rfl (by first | rfl | decide) (by first | rfl | decide) (Nat.le_of_ble_eq_true rfl) rfl dX11_putNumber_40 (fun H locs hP hD hS => ?_)
  refine lv_iinc (v := 16) (lv' := [(2, .int 16), (0, .ref a0), (1, .int i0)]) hx hb dX11_putNumber_43 hl (k := 0) rfl (by decide) (by decide) rfl (fun ls hl => ?_)
  refine lv_goto (tgt := 3) hx hb dX11_putNumber_46 (by decide) ?_
  refine lv_iload_n hx hb dX11_putNumber_3 rfl (lv_at hl 0 rfl) ?_
  refine lv_if_lt (tgt := 49) hx hb dX11_putNumber_4 (by decide) (fun c9 => absurd c9 (by decide)) (fun _ => ?_)
  refine lv_aload_n hx hb dX11_putNumber_7 rfl (lv_at hl 1 rfl) ?_
  refine m_get (C := RX11) (T := TX11) (N := 16) (ci := 8) (v := .int 1) X hP 0 rfl rfl 1 (by decide) qw_131 inlX11 rfl dX11_putNumber_8 ?_
  refine lv_sipush (v := 1000) hx hb dX11_putNumber_11 (by decide) ?_
  refine lv_icmp_ge (tgt := 43) hx hb dX11_putNumber_14 (by decide) (fun c9 => absurd c9 (by decide)) (fun _ => ?_)
  refine lv_aload_n hx hb dX11_putNumber_17 rfl (lv_at hl 1 rfl) ?_
  refine m_get (C := RX11) (T := TX11) (N := 16) (ci := 8) (v := .ref a1) X hP 0 rfl rfl 0 (by decide) qw_14 inlX11 rfl dX11_putNumber_18 ?_
  refine lv_aload_n hx hb dX11_putNumber_21 rfl (lv_at hl 1 rfl) ?_
  refine m_get (C := RX11) (T := TX11) (N := 16) (ci := 8) (v := .int 1) X hP 0 rfl rfl 1 (by decide) qw_131 inlX11 rfl dX11_putNumber_22 ?_
  refine lv_iload_n hx hb dX11_putNumber_25 rfl (lv_at hl 2 rfl) ?_
  refine lv_iload_n hx hb dX11_putNumber_26 rfl (lv_at hl 0 rfl) ?_
  refine lv_ishr hx hb dX11_putNumber_27 ?_
  refine lv_topi (fun z96 ez96 => ?_)
  refine lv_sipush (v := 255) hx hb dX11_putNumber_28 (by decide) ?_
  refine lv_iand hx hb dX11_putNumber_31 ?_
  refine lv_topi (fun z97 ez97 => ?_)
  refine m_iast (ws' := fun f98 => [(a0, .inr (8, [.ref a1, .int 1, .int 0, .ref a2, .ref a3, .ref a4, .ref a5, .ref a6, .ref a7, .ref a8, .ref a9, .ref a10, .ref a11, .int 0, .int 0, .int 0])), (a1, .inl (G.2 0, 1000, .inl f98))]) X hP hD hS 1 rfl (vin (by decide)) (fun _ => rfl) dX11_putNumber_32 (fun f98 H locs hP hD hS => ?_)
  refine lv_aload_n hx hb dX11_putNumber_33 rfl (lv_at hl 1 rfl) ?_
  refine lv_dup hx hb dX11_putNumber_34 rfl ?_
  refine m_get (C := RX11) (T := TX11) (N := 16) (ci := 8) (v := .int 1) X hP 0 rfl rfl 1 (by decide) qw_131 inlX11 rfl dX11_putNumber_35 ?_
  refine lv_iconst (v := 1) hx hb dX11_putNumber_38 (by decide) ?_
  refine lv_iadd hx hb dX11_putNumber_39 ?_
  refine lv_topi (fun z99 ez99 => ?_)
  obtain rfl : z99 = 2 := ez99.trans (by decide)
  refine m_put (C := RX11) (T := TX11) (N := 16) (ci := 8) (v := .int 2) (ws' := [(a0, .inr (8, [.ref a1, .int 2, .int 0, .ref a2, .ref a3, .ref a4, .ref a5, .ref a6, .ref a7, .ref a8, .ref a9, .ref a10, .ref a11, .int 0, .int 0, .int 0])), (a1, .inl (G.2 0, 1000, .inl f98))]) X hP hD hS tyX11 tyX11_ok nmX11 0 rfl rfl 1 (by decide) qw_131 inlX11 rfl (by first | rfl | decide) (by first | rfl | decide) (Nat.le_of_ble_eq_true rfl) rfl dX11_putNumber_40 (fun H locs hP hD hS => ?_)
  refine lv_iinc (v := 8) (lv' := [(2, .int 8), (0, .ref a0), (1, .int i0)]) hx hb dX11_putNumber_43 hl (k := 0) rfl (by decide) (by decide) rfl (fun ls hl => ?_)
  refine lv_goto (tgt := 3) hx hb dX11_putNumber_46 (by decide) ?_
  refine lv_iload_n hx hb dX11_putNumber_3 rfl (lv_at hl 0 rfl) ?_
  refine lv_if_lt (tgt := 49) hx hb dX11_putNumber_4 (by decide) (fun c9 => absurd c9 (by decide)) (fun _ => ?_)
  refine lv_aload_n hx hb dX11_putNumber_7 rfl (lv_at hl 1 rfl) ?_
  refine m_get (C := RX11) (T := TX11) (N := 16) (ci := 8) (v := .int 2) X hP 0 rfl rfl 1 (by decide) qw_131 inlX11 rfl dX11_putNumber_8 ?_
  refine lv_sipush (v := 1000) hx hb dX11_putNumber_11 (by decide) ?_
  refine lv_icmp_ge (tgt := 43) hx hb dX11_putNumber_14 (by decide) (fun c9 => absurd c9 (by decide)) (fun _ => ?_)
  refine lv_aload_n hx hb dX11_putNumber_17 rfl (lv_at hl 1 rfl) ?_
  refine m_get (C := RX11) (T := TX11) (N := 16) (ci := 8) (v := .ref a1) X hP 0 rfl rfl 0 (by decide) qw_14 inlX11 rfl dX11_putNumber_18 ?_
  refine lv_aload_n hx hb dX11_putNumber_21 rfl (lv_at hl 1 rfl) ?_
  refine m_get (C := RX11) (T := TX11) (N := 16) (ci := 8) (v := .int 2) X hP 0 rfl rfl 1 (by decide) qw_131 inlX11 rfl dX11_putNumber_22 ?_
  refine lv_iload_n hx hb dX11_putNumber_25 rfl (lv_at hl 2 rfl) ?_
  refine lv_iload_n hx hb dX11_putNumber_26 rfl (lv_at hl 0 rfl) ?_
  refine lv_ishr hx hb dX11_putNumber_27 ?_
  refine lv_topi (fun z100 ez100 => ?_)
  refine lv_sipush (v := 255) hx hb dX11_putNumber_28 (by decide) ?_
  refine lv_iand hx hb dX11_putNumber_31 ?_
  refine lv_topi (fun z101 ez101 => ?_)
  refine m_iast (ws' := fun f102 => [(a0, .inr (8, [.ref a1, .int 2, .int 0, .ref a2, .ref a3, .ref a4, .ref a5, .ref a6, .ref a7, .ref a8, .ref a9, .ref a10, .ref a11, .int 0, .int 0, .int 0])), (a1, .inl (G.2 0, 1000, .inl f102))]) X hP hD hS 1 rfl (vin (by decide)) (fun _ => rfl) dX11_putNumber_32 (fun f102 H locs hP hD hS => ?_)
  refine lv_aload_n hx hb dX11_putNumber_33 rfl (lv_at hl 1 rfl) ?_
  refine lv_dup hx hb dX11_putNumber_34 rfl ?_
  refine m_get (C := RX11) (T := TX11) (N := 16) (ci := 8) (v := .int 2) X hP 0 rfl rfl 1 (by decide) qw_131 inlX11 rfl dX11_putNumber_35 ?_
  refine lv_iconst (v := 1) hx hb dX11_putNumber_38 (by decide) ?_
  refine lv_iadd hx hb dX11_putNumber_39 ?_
  refine lv_topi (fun z103 ez103 => ?_)
  obtain rfl : z103 = 3 := ez103.trans (by decide)
  refine m_put (C := RX11) (T := TX11) (N := 16) (ci := 8) (v := .int 3) (ws' := [(a0, .inr (8, [.ref a1, .int 3, .int 0, .ref a2, .ref a3, .ref a4, .ref a5, .ref a6, .ref a7, .ref a8, .ref a9, .ref a10, .ref a11, .int 0, .int 0, .int 0])), (a1, .inl (G.2 0, 1000, .inl f102))]) X hP hD hS tyX11 tyX11_ok nmX11 0 rfl rfl 1 (by decide) qw_131 inlX11 rfl (by first | rfl | decide) (by first | rfl | decide) (Nat.le_of_ble_eq_true rfl) rfl dX11_putNumber_40 (fun H locs hP hD hS => ?_)
  refine lv_iinc (v := 0) (lv' := [(2, .int 0), (0, .ref a0), (1, .int i0)]) hx hb dX11_putNumber_43 hl (k := 0) rfl (by decide) (by decide) rfl (fun ls hl => ?_)
  refine lv_goto (tgt := 3) hx hb dX11_putNumber_46 (by decide) ?_
  refine lv_iload_n hx hb dX11_putNumber_3 rfl (lv_at hl 0 rfl) ?_
  refine lv_if_lt (tgt := 49) hx hb dX11_putNumber_4 (by decide) (fun c9 => absurd c9 (by decide)) (fun _ => ?_)
  refine lv_aload_n hx hb dX11_putNumber_7 rfl (lv_at hl 1 rfl) ?_
  refine m_get (C := RX11) (T := TX11) (N := 16) (ci := 8) (v := .int 3) X hP 0 rfl rfl 1 (by decide) qw_131 inlX11 rfl dX11_putNumber_8 ?_
  refine lv_sipush (v := 1000) hx hb dX11_putNumber_11 (by decide) ?_
  refine lv_icmp_ge (tgt := 43) hx hb dX11_putNumber_14 (by decide) (fun c9 => absurd c9 (by decide)) (fun _ => ?_)
  refine lv_aload_n hx hb dX11_putNumber_17 rfl (lv_at hl 1 rfl) ?_
  refine m_get (C := RX11) (T := TX11) (N := 16) (ci := 8) (v := .ref a1) X hP 0 rfl rfl 0 (by decide) qw_14 inlX11 rfl dX11_putNumber_18 ?_
  refine lv_aload_n hx hb dX11_putNumber_21 rfl (lv_at hl 1 rfl) ?_
  refine m_get (C := RX11) (T := TX11) (N := 16) (ci := 8) (v := .int 3) X hP 0 rfl rfl 1 (by decide) qw_131 inlX11 rfl dX11_putNumber_22 ?_
  refine lv_iload_n hx hb dX11_putNumber_25 rfl (lv_at hl 2 rfl) ?_
  refine lv_iload_n hx hb dX11_putNumber_26 rfl (lv_at hl 0 rfl) ?_
  refine lv_ishr hx hb dX11_putNumber_27 ?_
  refine lv_topi (fun z104 ez104 => ?_)
  refine lv_sipush (v := 255) hx hb dX11_putNumber_28 (by decide) ?_
  refine lv_iand hx hb dX11_putNumber_31 ?_
  refine lv_topi (fun z105 ez105 => ?_)
  refine m_iast (ws' := fun f106 => [(a0, .inr (8, [.ref a1, .int 3, .int 0, .ref a2, .ref a3, .ref a4, .ref a5, .ref a6, .ref a7, .ref a8, .ref a9, .ref a10, .ref a11, .int 0, .int 0, .int 0])), (a1, .inl (G.2 0, 1000, .inl f106))]) X hP hD hS 1 rfl (vin (by decide)) (fun _ => rfl) dX11_putNumber_32 (fun f106 H locs hP hD hS => ?_)
  refine lv_aload_n hx hb dX11_putNumber_33 rfl (lv_at hl 1 rfl) ?_
  refine lv_dup hx hb dX11_putNumber_34 rfl ?_
  refine m_get (C := RX11) (T := TX11) (N := 16) (ci := 8) (v := .int 3) X hP 0 rfl rfl 1 (by decide) qw_131 inlX11 rfl dX11_putNumber_35 ?_
  refine lv_iconst (v := 1) hx hb dX11_putNumber_38 (by decide) ?_
  refine lv_iadd hx hb dX11_putNumber_39 ?_
  refine lv_topi (fun z107 ez107 => ?_)
  obtain rfl : z107 = 4 := ez107.trans (by decide)
  refine m_put (C := RX11) (T := TX11) (N := 16) (ci := 8) (v := .int 4) (ws' := [(a0, .inr (8, [.ref a1, .int 4, .int 0, .ref a2, .ref a3, .ref a4, .ref a5, .ref a6, .ref a7, .ref a8, .ref a9, .ref a10, .ref a11, .int 0, .int 0, .int 0])), (a1, .inl (G.2 0, 1000, .inl f106))]) X hP hD hS tyX11 tyX11_ok nmX11 0 rfl rfl 1 (by decide) qw_131 inlX11 rfl (by first | rfl | decide) (by first | rfl | decide) (Nat.le_of_ble_eq_true rfl) rfl dX11_putNumber_40 (fun H locs hP hD hS => ?_)
  refine lv_iinc (v := (-8)) (lv' := [(2, .int (-8)), (0, .ref a0), (1, .int i0)]) hx hb dX11_putNumber_43 hl (k := 0) rfl (by decide) (by decide) rfl (fun ls hl => ?_)
  refine lv_goto (tgt := 3) hx hb dX11_putNumber_46 (by decide) ?_
  refine lv_iload_n hx hb dX11_putNumber_3 rfl (lv_at hl 0 rfl) ?_
  refine lv_if_lt (tgt := 49) hx hb dX11_putNumber_4 (by decide) (fun _ => ?_) (fun c9 => absurd c9 (by decide))
  exact m_vret X hP hD hS ((fun _ => 0), (fun k => match k with | 0 => f106 | _ => fun _ => 0)) [0, 1] (by decide) rfl trivial (Nat.le_of_ble_eq_true rfl) (Nat.le_of_ble_eq_true rfl) dX11_putNumber_49
set_option maxHeartbeats 4000000 in
set_option maxRecDepth 100000 in
theorem k10_X11_putNumber (l : Launch) (G : KG) (a0 : Nat) (i0 : Int32) (a1 : Nat) (a2 : Nat) (a3 : Nat) (a4 : Nat) (a5 : Nat) (a6 : Nat) (a7 : Nat) (a8 : Nat) (a9 : Nat) (a10 : Nat) (a11 : Nat) (g0 : Nat → Int32) (sz : Nat) : Met l yX11_putNumber (.code yX11_putNumber cX11_putNumber 3 none :: wsL_law) { frames := 0, cells := 0, slots := 0, locals := 0 } (va_Pc [.ref a0, .int i0] (Pw G [(a0, .inr (8, [.ref a1, .int 4, .int 0, .ref a2, .ref a3, .ref a4, .ref a5, .ref a6, .ref a7, .ref a8, .ref a9, .ref a10, .ref a11, .int 0, .int 0, .int 0])), (a1, .inl (G.2 0, 1000, .inl g0))] sz)) (va_Qv (fun _ => True) (fun (u9 : KS) t => Bw G (va_A [(a0, .inr (8, [.ref a1, .int 4, .int 0, .ref a2, .ref a3, .ref a4, .ref a5, .ref a6, .ref a7, .ref a8, .ref a9, .ref a10, .ref a11, .int 0, .int 0, .int 0])), (a1, .inl (G.2 0, 1000, .inl g0))] sz) [(a0, .inr (8, [.ref a1, .int 8, .int 0, .ref a2, .ref a3, .ref a4, .ref a5, .ref a6, .ref a7, .ref a8, .ref a9, .ref a10, .ref a11, .int 0, .int 0, .int 0])), (a1, .inl (G.2 0, 1000, .inl (u9.2 0)))] t) (va_A [(a0, .inr (8, [.ref a1, .int 4, .int 0, .ref a2, .ref a3, .ref a4, .ref a5, .ref a6, .ref a7, .ref a8, .ref a9, .ref a10, .ref a11, .int 0, .int 0, .int 0])), (a1, .inl (G.2 0, 1000, .inl g0))] sz)) 0 0 (va_A [(a0, .inr (8, [.ref a1, .int 4, .int 0, .ref a2, .ref a3, .ref a4, .ref a5, .ref a6, .ref a7, .ref a8, .ref a9, .ref a10, .ref a11, .int 0, .int 0, .int 0])), (a1, .inl (G.2 0, 1000, .inl g0))] sz) := by
  refine m_body (y := yX11_putNumber) (cd := cX11_putNumber) (mL := 3) (rt := none) (rm := { frames := 0, cells := 0, slots := 0, locals := 0 }) (av := [.ref a0, .int i0]) (wc := [(a0, .inr (8, [.ref a1, .int 4, .int 0, .ref a2, .ref a3, .ref a4, .ref a5, .ref a6, .ref a7, .ref a8, .ref a9, .ref a10, .ref a11, .int 0, .int 0, .int 0])), (a1, .inl (G.2 0, 1000, .inl g0))]) (G := G) (sz := sz) (Qf := fun A => va_Qv (fun _ => True) (fun (u9 : KS) t => Bw G A [(a0, .inr (8, [.ref a1, .int 8, .int 0, .ref a2, .ref a3, .ref a4, .ref a5, .ref a6, .ref a7, .ref a8, .ref a9, .ref a10, .ref a11, .int 0, .int 0, .int 0])), (a1, .inl (G.2 0, 1000, .inl (u9.2 0)))] t) A) (by decide) (Nat.le_of_ble_eq_true rfl) ?_
  intro p e s m args below meth c ls A X hi hP hD hS hl
  have hx := X.1.1
  have hb := X.1.2.1
  have hi : meth.name = "putNumber" := hi
  have hl : lv_has ls 3 [(0, .ref a0), (1, .int i0)] := hl
  refine lv_bipush (v := 24) hx hb dX11_putNumber_0 (by decide) ?_
  refine lv_istore_n (lv' := [(2, .int 24), (0, .ref a0), (1, .int i0)]) hx hb dX11_putNumber_2 rfl hl (by decide) rfl (fun ls hl => ?_)
  refine lv_iload_n hx hb dX11_putNumber_3 rfl (lv_at hl 0 rfl) ?_
  refine lv_if_lt (tgt := 49) hx hb dX11_putNumber_4 (by decide) (fun c9 => absurd c9 (by decide)) (fun _ => ?_)
  refine lv_aload_n hx hb dX11_putNumber_7 rfl (lv_at hl 1 rfl) ?_
  refine m_get (C := RX11) (T := TX11) (N := 16) (ci := 8) (v := .int 4) X hP 0 rfl rfl 1 (by decide) qw_131 inlX11 rfl dX11_putNumber_8 ?_
  refine lv_sipush (v := 1000) hx hb dX11_putNumber_11 (by decide) ?_
  refine lv_icmp_ge (tgt := 43) hx hb dX11_putNumber_14 (by decide) (fun c9 => absurd c9 (by decide)) (fun _ => ?_)
  refine lv_aload_n hx hb dX11_putNumber_17 rfl (lv_at hl 1 rfl) ?_
  refine m_get (C := RX11) (T := TX11) (N := 16) (ci := 8) (v := .ref a1) X hP 0 rfl rfl 0 (by decide) qw_14 inlX11 rfl dX11_putNumber_18 ?_
  refine lv_aload_n hx hb dX11_putNumber_21 rfl (lv_at hl 1 rfl) ?_
  refine m_get (C := RX11) (T := TX11) (N := 16) (ci := 8) (v := .int 4) X hP 0 rfl rfl 1 (by decide) qw_131 inlX11 rfl dX11_putNumber_22 ?_
  refine lv_iload_n hx hb dX11_putNumber_25 rfl (lv_at hl 2 rfl) ?_
  refine lv_iload_n hx hb dX11_putNumber_26 rfl (lv_at hl 0 rfl) ?_
  refine lv_ishr hx hb dX11_putNumber_27 ?_
  refine lv_topi (fun z109 ez109 => ?_)
  refine lv_sipush (v := 255) hx hb dX11_putNumber_28 (by decide) ?_
  refine lv_iand hx hb dX11_putNumber_31 ?_
  refine lv_topi (fun z110 ez110 => ?_)
  refine m_iast (ws' := fun f111 => [(a0, .inr (8, [.ref a1, .int 4, .int 0, .ref a2, .ref a3, .ref a4, .ref a5, .ref a6, .ref a7, .ref a8, .ref a9, .ref a10, .ref a11, .int 0, .int 0, .int 0])), (a1, .inl (G.2 0, 1000, .inl f111))]) X hP hD hS 1 rfl (vin (by decide)) (fun _ => rfl) dX11_putNumber_32 (fun f111 H locs hP hD hS => ?_)
  refine lv_aload_n hx hb dX11_putNumber_33 rfl (lv_at hl 1 rfl) ?_
  refine lv_dup hx hb dX11_putNumber_34 rfl ?_
  refine m_get (C := RX11) (T := TX11) (N := 16) (ci := 8) (v := .int 4) X hP 0 rfl rfl 1 (by decide) qw_131 inlX11 rfl dX11_putNumber_35 ?_
  refine lv_iconst (v := 1) hx hb dX11_putNumber_38 (by decide) ?_
  refine lv_iadd hx hb dX11_putNumber_39 ?_
  refine lv_topi (fun z112 ez112 => ?_)
  obtain rfl : z112 = 5 := ez112.trans (by decide)
  refine m_put (C := RX11) (T := TX11) (N := 16) (ci := 8) (v := .int 5) (ws' := [(a0, .inr (8, [.ref a1, .int 5, .int 0, .ref a2, .ref a3, .ref a4, .ref a5, .ref a6, .ref a7, .ref a8, .ref a9, .ref a10, .ref a11, .int 0, .int 0, .int 0])), (a1, .inl (G.2 0, 1000, .inl f111))]) X hP hD hS tyX11 tyX11_ok nmX11 0 rfl rfl 1 (by decide) qw_131 inlX11 rfl (by first | rfl | decide) (by first | rfl | decide) (Nat.le_of_ble_eq_true rfl) rfl dX11_putNumber_40 (fun H locs hP hD hS => ?_)
  refine lv_iinc (v := 16) (lv' := [(2, .int 16), (0, .ref a0), (1, .int i0)]) hx hb dX11_putNumber_43 hl (k := 0) rfl (by decide) (by decide) rfl (fun ls hl => ?_)
  refine lv_goto (tgt := 3) hx hb dX11_putNumber_46 (by decide) ?_
  refine lv_iload_n hx hb dX11_putNumber_3 rfl (lv_at hl 0 rfl) ?_
  refine lv_if_lt (tgt := 49) hx hb dX11_putNumber_4 (by decide) (fun c9 => absurd c9 (by decide)) (fun _ => ?_)
  refine lv_aload_n hx hb dX11_putNumber_7 rfl (lv_at hl 1 rfl) ?_
  refine m_get (C := RX11) (T := TX11) (N := 16) (ci := 8) (v := .int 5) X hP 0 rfl rfl 1 (by decide) qw_131 inlX11 rfl dX11_putNumber_8 ?_
  refine lv_sipush (v := 1000) hx hb dX11_putNumber_11 (by decide) ?_
  refine lv_icmp_ge (tgt := 43) hx hb dX11_putNumber_14 (by decide) (fun c9 => absurd c9 (by decide)) (fun _ => ?_)
  refine lv_aload_n hx hb dX11_putNumber_17 rfl (lv_at hl 1 rfl) ?_
  refine m_get (C := RX11) (T := TX11) (N := 16) (ci := 8) (v := .ref a1) X hP 0 rfl rfl 0 (by decide) qw_14 inlX11 rfl dX11_putNumber_18 ?_
  refine lv_aload_n hx hb dX11_putNumber_21 rfl (lv_at hl 1 rfl) ?_
  refine m_get (C := RX11) (T := TX11) (N := 16) (ci := 8) (v := .int 5) X hP 0 rfl rfl 1 (by decide) qw_131 inlX11 rfl dX11_putNumber_22 ?_
  refine lv_iload_n hx hb dX11_putNumber_25 rfl (lv_at hl 2 rfl) ?_
  refine lv_iload_n hx hb dX11_putNumber_26 rfl (lv_at hl 0 rfl) ?_
  refine lv_ishr hx hb dX11_putNumber_27 ?_
  refine lv_topi (fun z113 ez113 => ?_)
  refine lv_sipush (v := 255) hx hb dX11_putNumber_28 (by decide) ?_
  refine lv_iand hx hb dX11_putNumber_31 ?_
  refine lv_topi (fun z114 ez114 => ?_)
  refine m_iast (ws' := fun f115 => [(a0, .inr (8, [.ref a1, .int 5, .int 0, .ref a2, .ref a3, .ref a4, .ref a5, .ref a6, .ref a7, .ref a8, .ref a9, .ref a10, .ref a11, .int 0, .int 0, .int 0])), (a1, .inl (G.2 0, 1000, .inl f115))]) X hP hD hS 1 rfl (vin (by decide)) (fun _ => rfl) dX11_putNumber_32 (fun f115 H locs hP hD hS => ?_)
  refine lv_aload_n hx hb dX11_putNumber_33 rfl (lv_at hl 1 rfl) ?_
  refine lv_dup hx hb dX11_putNumber_34 rfl ?_
  refine m_get (C := RX11) (T := TX11) (N := 16) (ci := 8) (v := .int 5) X hP 0 rfl rfl 1 (by decide) qw_131 inlX11 rfl dX11_putNumber_35 ?_
  refine lv_iconst (v := 1) hx hb dX11_putNumber_38 (by decide) ?_
  refine lv_iadd hx hb dX11_putNumber_39 ?_
  refine lv_topi (fun z116 ez116 => ?_)
  obtain rfl : z116 = 6 := ez116.trans (by decide)
  refine m_put (C := RX11) (T := TX11) (N := 16) (ci := 8) (v := .int 6) (ws' := [(a0, .inr (8, [.ref a1, .int 6, .int 0, .ref a2, .ref a3, .ref a4, .ref a5, .ref a6, .ref a7, .ref a8, .ref a9, .ref a10, .ref a11, .int 0, .int 0, .int 0])), (a1, .inl (G.2 0, 1000, .inl f115))]) X hP hD hS tyX11 tyX11_ok nmX11 0 rfl rfl 1 (by decide) qw_131 inlX11 rfl (by first | rfl | decide) (by first | rfl | decide) (Nat.le_of_ble_eq_true rfl) rfl dX11_putNumber_40 (fun H locs hP hD hS => ?_)
  refine lv_iinc (v := 8) (lv' := [(2, .int 8), (0, .ref a0), (1, .int i0)]) hx hb dX11_putNumber_43 hl (k := 0) rfl (by decide) (by decide) rfl (fun ls hl => ?_)
  refine lv_goto (tgt := 3) hx hb dX11_putNumber_46 (by decide) ?_
  refine lv_iload_n hx hb dX11_putNumber_3 rfl (lv_at hl 0 rfl) ?_
  refine lv_if_lt (tgt := 49) hx hb dX11_putNumber_4 (by decide) (fun c9 => absurd c9 (by decide)) (fun _ => ?_)
  refine lv_aload_n hx hb dX11_putNumber_7 rfl (lv_at hl 1 rfl) ?_
  refine m_get (C := RX11) (T := TX11) (N := 16) (ci := 8) (v := .int 6) X hP 0 rfl rfl 1 (by decide) qw_131 inlX11 rfl dX11_putNumber_8 ?_
  refine lv_sipush (v := 1000) hx hb dX11_putNumber_11 (by decide) ?_
  refine lv_icmp_ge (tgt := 43) hx hb dX11_putNumber_14 (by decide) (fun c9 => absurd c9 (by decide)) (fun _ => ?_)
  refine lv_aload_n hx hb dX11_putNumber_17 rfl (lv_at hl 1 rfl) ?_
  refine m_get (C := RX11) (T := TX11) (N := 16) (ci := 8) (v := .ref a1) X hP 0 rfl rfl 0 (by decide) qw_14 inlX11 rfl dX11_putNumber_18 ?_
  refine lv_aload_n hx hb dX11_putNumber_21 rfl (lv_at hl 1 rfl) ?_
  refine m_get (C := RX11) (T := TX11) (N := 16) (ci := 8) (v := .int 6) X hP 0 rfl rfl 1 (by decide) qw_131 inlX11 rfl dX11_putNumber_22 ?_
  refine lv_iload_n hx hb dX11_putNumber_25 rfl (lv_at hl 2 rfl) ?_
  refine lv_iload_n hx hb dX11_putNumber_26 rfl (lv_at hl 0 rfl) ?_
  refine lv_ishr hx hb dX11_putNumber_27 ?_
  refine lv_topi (fun z117 ez117 => ?_)
  refine lv_sipush (v := 255) hx hb dX11_putNumber_28 (by decide) ?_
  refine lv_iand hx hb dX11_putNumber_31 ?_
  refine lv_topi (fun z118 ez118 => ?_)
  refine m_iast (ws' := fun f119 => [(a0, .inr (8, [.ref a1, .int 6, .int 0, .ref a2, .ref a3, .ref a4, .ref a5, .ref a6, .ref a7, .ref a8, .ref a9, .ref a10, .ref a11, .int 0, .int 0, .int 0])), (a1, .inl (G.2 0, 1000, .inl f119))]) X hP hD hS 1 rfl (vin (by decide)) (fun _ => rfl) dX11_putNumber_32 (fun f119 H locs hP hD hS => ?_)
  refine lv_aload_n hx hb dX11_putNumber_33 rfl (lv_at hl 1 rfl) ?_
  refine lv_dup hx hb dX11_putNumber_34 rfl ?_
  refine m_get (C := RX11) (T := TX11) (N := 16) (ci := 8) (v := .int 6) X hP 0 rfl rfl 1 (by decide) qw_131 inlX11 rfl dX11_putNumber_35 ?_
  refine lv_iconst (v := 1) hx hb dX11_putNumber_38 (by decide) ?_
  refine lv_iadd hx hb dX11_putNumber_39 ?_
  refine lv_topi (fun z120 ez120 => ?_)
  obtain rfl : z120 = 7 := ez120.trans (by decide)
  refine m_put (C := RX11) (T := TX11) (N := 16) (ci := 8) (v := .int 7) (ws' := [(a0, .inr (8, [.ref a1, .int 7, .int 0, .ref a2, .ref a3, .ref a4, .ref a5, .ref a6, .ref a7, .ref a8, .ref a9, .ref a10, .ref a11, .int 0, .int 0, .int 0])), (a1, .inl (G.2 0, 1000, .inl f119))]) X hP hD hS tyX11 tyX11_ok nmX11 0 rfl rfl 1 (by decide) qw_131 inlX11 rfl (by first | rfl | decide) (by first | rfl | decide) (Nat.le_of_ble_eq_true rfl) rfl dX11_putNumber_40 (fun H locs hP hD hS => ?_)
  refine lv_iinc (v := 0) (lv' := [(2, .int 0), (0, .ref a0), (1, .int i0)]) hx hb dX11_putNumber_43 hl (k := 0) rfl (by decide) (by decide) rfl (fun ls hl => ?_)
  refine lv_goto (tgt := 3) hx hb dX11_putNumber_46 (by decide) ?_
  refine lv_iload_n hx hb dX11_putNumber_3 rfl (lv_at hl 0 rfl) ?_
  refine lv_if_lt (tgt := 49) hx hb dX11_putNumber_4 (by decide) (fun c9 => absurd c9 (by decide)) (fun _ => ?_)
  refine lv_aload_n hx hb dX11_putNumber_7 rfl (lv_at hl 1 rfl) ?_
  refine m_get (C := RX11) (T := TX11) (N := 16) (ci := 8) (v := .int 7) X hP 0 rfl rfl 1 (by decide) qw_131 inlX11 rfl dX11_putNumber_8 ?_
  refine lv_sipush (v := 1000) hx hb dX11_putNumber_11 (by decide) ?_
  refine lv_icmp_ge (tgt := 43) hx hb dX11_putNumber_14 (by decide) (fun c9 => absurd c9 (by decide)) (fun _ => ?_)
  refine lv_aload_n hx hb dX11_putNumber_17 rfl (lv_at hl 1 rfl) ?_
  refine m_get (C := RX11) (T := TX11) (N := 16) (ci := 8) (v := .ref a1) X hP 0 rfl rfl 0 (by decide) qw_14 inlX11 rfl dX11_putNumber_18 ?_
  refine lv_aload_n hx hb dX11_putNumber_21 rfl (lv_at hl 1 rfl) ?_
  refine m_get (C := RX11) (T := TX11) (N := 16) (ci := 8) (v := .int 7) X hP 0 rfl rfl 1 (by decide) qw_131 inlX11 rfl dX11_putNumber_22 ?_
  refine lv_iload_n hx hb dX11_putNumber_25 rfl (lv_at hl 2 rfl) ?_
  refine lv_iload_n hx hb dX11_putNumber_26 rfl (lv_at hl 0 rfl) ?_
  refine lv_ishr hx hb dX11_putNumber_27 ?_
  refine lv_topi (fun z121 ez121 => ?_)
  refine lv_sipush (v := 255) hx hb dX11_putNumber_28 (by decide) ?_
  refine lv_iand hx hb dX11_putNumber_31 ?_
  refine lv_topi (fun z122 ez122 => ?_)
  refine m_iast (ws' := fun f123 => [(a0, .inr (8, [.ref a1, .int 7, .int 0, .ref a2, .ref a3, .ref a4, .ref a5, .ref a6, .ref a7, .ref a8, .ref a9, .ref a10, .ref a11, .int 0, .int 0, .int 0])), (a1, .inl (G.2 0, 1000, .inl f123))]) X hP hD hS 1 rfl (vin (by decide)) (fun _ => rfl) dX11_putNumber_32 (fun f123 H locs hP hD hS => ?_)
  refine lv_aload_n hx hb dX11_putNumber_33 rfl (lv_at hl 1 rfl) ?_
  refine lv_dup hx hb dX11_putNumber_34 rfl ?_
  refine m_get (C := RX11) (T := TX11) (N := 16) (ci := 8) (v := .int 7) X hP 0 rfl rfl 1 (by decide) qw_131 inlX11 rfl dX11_putNumber_35 ?_
  refine lv_iconst (v := 1) hx hb dX11_putNumber_38 (by decide) ?_
  refine lv_iadd hx hb dX11_putNumber_39 ?_
  refine lv_topi (fun z124 ez124 => ?_)
  obtain rfl : z124 = 8 := ez124.trans (by decide)
  refine m_put (C := RX11) (T := TX11) (N := 16) (ci := 8) (v := .int 8) (ws' := [(a0, .inr (8, [.ref a1, .int 8, .int 0, .ref a2, .ref a3, .ref a4, .ref a5, .ref a6, .ref a7, .ref a8, .ref a9, .ref a10, .ref a11, .int 0, .int 0, .int 0])), (a1, .inl (G.2 0, 1000, .inl f123))]) X hP hD hS tyX11 tyX11_ok nmX11 0 rfl rfl 1 (by decide) qw_131 inlX11 rfl (by first | rfl | decide) (by first | rfl | decide) (Nat.le_of_ble_eq_true rfl) rfl dX11_putNumber_40 (fun H locs hP hD hS => ?_)
  refine lv_iinc (v := (-8)) (lv' := [(2, .int (-8)), (0, .ref a0), (1, .int i0)]) hx hb dX11_putNumber_43 hl (k := 0) rfl (by decide) (by decide) rfl (fun ls hl => ?_)
  refine lv_goto (tgt := 3) hx hb dX11_putNumber_46 (by decide) ?_
  refine lv_iload_n hx hb dX11_putNumber_3 rfl (lv_at hl 0 rfl) ?_
  refine lv_if_lt (tgt := 49) hx hb dX11_putNumber_4 (by decide) (fun _ => ?_) (fun c9 => absurd c9 (by decide))
  exact m_vret X hP hD hS ((fun _ => 0), (fun k => match k with | 0 => f123 | _ => fun _ => 0)) [0, 1] (by decide) rfl trivial (Nat.le_of_ble_eq_true rfl) (Nat.le_of_ble_eq_true rfl) dX11_putNumber_49
set_option maxHeartbeats 4000000 in
set_option maxRecDepth 100000 in
theorem k11_X11_putNumber (l : Launch) (G : KG) (a0 : Nat) (i0 : Int32) (a1 : Nat) (a2 : Nat) (a3 : Nat) (a4 : Nat) (a5 : Nat) (a6 : Nat) (a7 : Nat) (a8 : Nat) (a9 : Nat) (a10 : Nat) (a11 : Nat) (g0 : Nat → Int32) (sz : Nat) : Met l yX11_putNumber (.code yX11_putNumber cX11_putNumber 3 none :: wsL_law) { frames := 0, cells := 0, slots := 0, locals := 0 } (va_Pc [.ref a0, .int i0] (Pw G [(a0, .inr (8, [.ref a1, .int 8, .int 0, .ref a2, .ref a3, .ref a4, .ref a5, .ref a6, .ref a7, .ref a8, .ref a9, .ref a10, .ref a11, .int 0, .int 0, .int 0])), (a1, .inl (G.2 0, 1000, .inl g0))] sz)) (va_Qv (fun _ => True) (fun (u9 : KS) t => Bw G (va_A [(a0, .inr (8, [.ref a1, .int 8, .int 0, .ref a2, .ref a3, .ref a4, .ref a5, .ref a6, .ref a7, .ref a8, .ref a9, .ref a10, .ref a11, .int 0, .int 0, .int 0])), (a1, .inl (G.2 0, 1000, .inl g0))] sz) [(a0, .inr (8, [.ref a1, .int 12, .int 0, .ref a2, .ref a3, .ref a4, .ref a5, .ref a6, .ref a7, .ref a8, .ref a9, .ref a10, .ref a11, .int 0, .int 0, .int 0])), (a1, .inl (G.2 0, 1000, .inl (u9.2 0)))] t) (va_A [(a0, .inr (8, [.ref a1, .int 8, .int 0, .ref a2, .ref a3, .ref a4, .ref a5, .ref a6, .ref a7, .ref a8, .ref a9, .ref a10, .ref a11, .int 0, .int 0, .int 0])), (a1, .inl (G.2 0, 1000, .inl g0))] sz)) 0 0 (va_A [(a0, .inr (8, [.ref a1, .int 8, .int 0, .ref a2, .ref a3, .ref a4, .ref a5, .ref a6, .ref a7, .ref a8, .ref a9, .ref a10, .ref a11, .int 0, .int 0, .int 0])), (a1, .inl (G.2 0, 1000, .inl g0))] sz) := by
  refine m_body (y := yX11_putNumber) (cd := cX11_putNumber) (mL := 3) (rt := none) (rm := { frames := 0, cells := 0, slots := 0, locals := 0 }) (av := [.ref a0, .int i0]) (wc := [(a0, .inr (8, [.ref a1, .int 8, .int 0, .ref a2, .ref a3, .ref a4, .ref a5, .ref a6, .ref a7, .ref a8, .ref a9, .ref a10, .ref a11, .int 0, .int 0, .int 0])), (a1, .inl (G.2 0, 1000, .inl g0))]) (G := G) (sz := sz) (Qf := fun A => va_Qv (fun _ => True) (fun (u9 : KS) t => Bw G A [(a0, .inr (8, [.ref a1, .int 12, .int 0, .ref a2, .ref a3, .ref a4, .ref a5, .ref a6, .ref a7, .ref a8, .ref a9, .ref a10, .ref a11, .int 0, .int 0, .int 0])), (a1, .inl (G.2 0, 1000, .inl (u9.2 0)))] t) A) (by decide) (Nat.le_of_ble_eq_true rfl) ?_
  intro p e s m args below meth c ls A X hi hP hD hS hl
  have hx := X.1.1
  have hb := X.1.2.1
  have hi : meth.name = "putNumber" := hi
  have hl : lv_has ls 3 [(0, .ref a0), (1, .int i0)] := hl
  refine lv_bipush (v := 24) hx hb dX11_putNumber_0 (by decide) ?_
  refine lv_istore_n (lv' := [(2, .int 24), (0, .ref a0), (1, .int i0)]) hx hb dX11_putNumber_2 rfl hl (by decide) rfl (fun ls hl => ?_)
  refine lv_iload_n hx hb dX11_putNumber_3 rfl (lv_at hl 0 rfl) ?_
  refine lv_if_lt (tgt := 49) hx hb dX11_putNumber_4 (by decide) (fun c9 => absurd c9 (by decide)) (fun _ => ?_)
  refine lv_aload_n hx hb dX11_putNumber_7 rfl (lv_at hl 1 rfl) ?_
  refine m_get (C := RX11) (T := TX11) (N := 16) (ci := 8) (v := .int 8) X hP 0 rfl rfl 1 (by decide) qw_131 inlX11 rfl dX11_putNumber_8 ?_
  refine lv_sipush (v := 1000) hx hb dX11_putNumber_11 (by decide) ?_
  refine lv_icmp_ge (tgt := 43) hx hb dX11_putNumber_14 (by decide) (fun c9 => absurd c9 (by decide)) (fun _ => ?_)
  refine lv_aload_n hx hb dX11_putNumber_17 rfl (lv_at hl 1 rfl) ?_
  refine m_get (C := RX11) (T := TX11) (N := 16) (ci := 8) (v := .ref a1) X hP 0 rfl rfl 0 (by decide) qw_14 inlX11 rfl dX11_putNumber_18 ?_
  refine lv_aload_n hx hb dX11_putNumber_21 rfl (lv_at hl 1 rfl) ?_
  refine m_get (C := RX11) (T := TX11) (N := 16) (ci := 8) (v := .int 8) X hP 0 rfl rfl 1 (by decide) qw_131 inlX11 rfl dX11_putNumber_22 ?_
  refine lv_iload_n hx hb dX11_putNumber_25 rfl (lv_at hl 2 rfl) ?_
  refine lv_iload_n hx hb dX11_putNumber_26 rfl (lv_at hl 0 rfl) ?_
  refine lv_ishr hx hb dX11_putNumber_27 ?_
  refine lv_topi (fun z126 ez126 => ?_)
  refine lv_sipush (v := 255) hx hb dX11_putNumber_28 (by decide) ?_
  refine lv_iand hx hb dX11_putNumber_31 ?_
  refine lv_topi (fun z127 ez127 => ?_)
  refine m_iast (ws' := fun f128 => [(a0, .inr (8, [.ref a1, .int 8, .int 0, .ref a2, .ref a3, .ref a4, .ref a5, .ref a6, .ref a7, .ref a8, .ref a9, .ref a10, .ref a11, .int 0, .int 0, .int 0])), (a1, .inl (G.2 0, 1000, .inl f128))]) X hP hD hS 1 rfl (vin (by decide)) (fun _ => rfl) dX11_putNumber_32 (fun f128 H locs hP hD hS => ?_)
  refine lv_aload_n hx hb dX11_putNumber_33 rfl (lv_at hl 1 rfl) ?_
  refine lv_dup hx hb dX11_putNumber_34 rfl ?_
  refine m_get (C := RX11) (T := TX11) (N := 16) (ci := 8) (v := .int 8) X hP 0 rfl rfl 1 (by decide) qw_131 inlX11 rfl dX11_putNumber_35 ?_
  refine lv_iconst (v := 1) hx hb dX11_putNumber_38 (by decide) ?_
  refine lv_iadd hx hb dX11_putNumber_39 ?_
  refine lv_topi (fun z129 ez129 => ?_)
  obtain rfl : z129 = 9 := ez129.trans (by decide)
  refine m_put (C := RX11) (T := TX11) (N := 16) (ci := 8) (v := .int 9) (ws' := [(a0, .inr (8, [.ref a1, .int 9, .int 0, .ref a2, .ref a3, .ref a4, .ref a5, .ref a6, .ref a7, .ref a8, .ref a9, .ref a10, .ref a11, .int 0, .int 0, .int 0])), (a1, .inl (G.2 0, 1000, .inl f128))]) X hP hD hS tyX11 tyX11_ok nmX11 0 rfl rfl 1 (by decide) qw_131 inlX11 rfl (by first | rfl | decide) (by first | rfl | decide) (Nat.le_of_ble_eq_true rfl) rfl dX11_putNumber_40 (fun H locs hP hD hS => ?_)
  refine lv_iinc (v := 16) (lv' := [(2, .int 16), (0, .ref a0), (1, .int i0)]) hx hb dX11_putNumber_43 hl (k := 0) rfl (by decide) (by decide) rfl (fun ls hl => ?_)
  refine lv_goto (tgt := 3) hx hb dX11_putNumber_46 (by decide) ?_
  refine lv_iload_n hx hb dX11_putNumber_3 rfl (lv_at hl 0 rfl) ?_
  refine lv_if_lt (tgt := 49) hx hb dX11_putNumber_4 (by decide) (fun c9 => absurd c9 (by decide)) (fun _ => ?_)
  refine lv_aload_n hx hb dX11_putNumber_7 rfl (lv_at hl 1 rfl) ?_
  refine m_get (C := RX11) (T := TX11) (N := 16) (ci := 8) (v := .int 9) X hP 0 rfl rfl 1 (by decide) qw_131 inlX11 rfl dX11_putNumber_8 ?_
  refine lv_sipush (v := 1000) hx hb dX11_putNumber_11 (by decide) ?_
  refine lv_icmp_ge (tgt := 43) hx hb dX11_putNumber_14 (by decide) (fun c9 => absurd c9 (by decide)) (fun _ => ?_)
  refine lv_aload_n hx hb dX11_putNumber_17 rfl (lv_at hl 1 rfl) ?_
  refine m_get (C := RX11) (T := TX11) (N := 16) (ci := 8) (v := .ref a1) X hP 0 rfl rfl 0 (by decide) qw_14 inlX11 rfl dX11_putNumber_18 ?_
  refine lv_aload_n hx hb dX11_putNumber_21 rfl (lv_at hl 1 rfl) ?_
  refine m_get (C := RX11) (T := TX11) (N := 16) (ci := 8) (v := .int 9) X hP 0 rfl rfl 1 (by decide) qw_131 inlX11 rfl dX11_putNumber_22 ?_
  refine lv_iload_n hx hb dX11_putNumber_25 rfl (lv_at hl 2 rfl) ?_
  refine lv_iload_n hx hb dX11_putNumber_26 rfl (lv_at hl 0 rfl) ?_
  refine lv_ishr hx hb dX11_putNumber_27 ?_
  refine lv_topi (fun z130 ez130 => ?_)
  refine lv_sipush (v := 255) hx hb dX11_putNumber_28 (by decide) ?_
  refine lv_iand hx hb dX11_putNumber_31 ?_
  refine lv_topi (fun z131 ez131 => ?_)
  refine m_iast (ws' := fun f132 => [(a0, .inr (8, [.ref a1, .int 9, .int 0, .ref a2, .ref a3, .ref a4, .ref a5, .ref a6, .ref a7, .ref a8, .ref a9, .ref a10, .ref a11, .int 0, .int 0, .int 0])), (a1, .inl (G.2 0, 1000, .inl f132))]) X hP hD hS 1 rfl (vin (by decide)) (fun _ => rfl) dX11_putNumber_32 (fun f132 H locs hP hD hS => ?_)
  refine lv_aload_n hx hb dX11_putNumber_33 rfl (lv_at hl 1 rfl) ?_
  refine lv_dup hx hb dX11_putNumber_34 rfl ?_
  refine m_get (C := RX11) (T := TX11) (N := 16) (ci := 8) (v := .int 9) X hP 0 rfl rfl 1 (by decide) qw_131 inlX11 rfl dX11_putNumber_35 ?_
  refine lv_iconst (v := 1) hx hb dX11_putNumber_38 (by decide) ?_
  refine lv_iadd hx hb dX11_putNumber_39 ?_
  refine lv_topi (fun z133 ez133 => ?_)
  obtain rfl : z133 = 10 := ez133.trans (by decide)
  refine m_put (C := RX11) (T := TX11) (N := 16) (ci := 8) (v := .int 10) (ws' := [(a0, .inr (8, [.ref a1, .int 10, .int 0, .ref a2, .ref a3, .ref a4, .ref a5, .ref a6, .ref a7, .ref a8, .ref a9, .ref a10, .ref a11, .int 0, .int 0, .int 0])), (a1, .inl (G.2 0, 1000, .inl f132))]) X hP hD hS tyX11 tyX11_ok nmX11 0 rfl rfl 1 (by decide) qw_131 inlX11 rfl (by first | rfl | decide) (by first | rfl | decide) (Nat.le_of_ble_eq_true rfl) rfl dX11_putNumber_40 (fun H locs hP hD hS => ?_)
  refine lv_iinc (v := 8) (lv' := [(2, .int 8), (0, .ref a0), (1, .int i0)]) hx hb dX11_putNumber_43 hl (k := 0) rfl (by decide) (by decide) rfl (fun ls hl => ?_)
  refine lv_goto (tgt := 3) hx hb dX11_putNumber_46 (by decide) ?_
  refine lv_iload_n hx hb dX11_putNumber_3 rfl (lv_at hl 0 rfl) ?_
  refine lv_if_lt (tgt := 49) hx hb dX11_putNumber_4 (by decide) (fun c9 => absurd c9 (by decide)) (fun _ => ?_)
  refine lv_aload_n hx hb dX11_putNumber_7 rfl (lv_at hl 1 rfl) ?_
  refine m_get (C := RX11) (T := TX11) (N := 16) (ci := 8) (v := .int 10) X hP 0 rfl rfl 1 (by decide) qw_131 inlX11 rfl dX11_putNumber_8 ?_
  refine lv_sipush (v := 1000) hx hb dX11_putNumber_11 (by decide) ?_
  refine lv_icmp_ge (tgt := 43) hx hb dX11_putNumber_14 (by decide) (fun c9 => absurd c9 (by decide)) (fun _ => ?_)
  refine lv_aload_n hx hb dX11_putNumber_17 rfl (lv_at hl 1 rfl) ?_
  refine m_get (C := RX11) (T := TX11) (N := 16) (ci := 8) (v := .ref a1) X hP 0 rfl rfl 0 (by decide) qw_14 inlX11 rfl dX11_putNumber_18 ?_
  refine lv_aload_n hx hb dX11_putNumber_21 rfl (lv_at hl 1 rfl) ?_
  refine m_get (C := RX11) (T := TX11) (N := 16) (ci := 8) (v := .int 10) X hP 0 rfl rfl 1 (by decide) qw_131 inlX11 rfl dX11_putNumber_22 ?_
  refine lv_iload_n hx hb dX11_putNumber_25 rfl (lv_at hl 2 rfl) ?_
  refine lv_iload_n hx hb dX11_putNumber_26 rfl (lv_at hl 0 rfl) ?_
  refine lv_ishr hx hb dX11_putNumber_27 ?_
  refine lv_topi (fun z134 ez134 => ?_)
  refine lv_sipush (v := 255) hx hb dX11_putNumber_28 (by decide) ?_
  refine lv_iand hx hb dX11_putNumber_31 ?_
  refine lv_topi (fun z135 ez135 => ?_)
  refine m_iast (ws' := fun f136 => [(a0, .inr (8, [.ref a1, .int 10, .int 0, .ref a2, .ref a3, .ref a4, .ref a5, .ref a6, .ref a7, .ref a8, .ref a9, .ref a10, .ref a11, .int 0, .int 0, .int 0])), (a1, .inl (G.2 0, 1000, .inl f136))]) X hP hD hS 1 rfl (vin (by decide)) (fun _ => rfl) dX11_putNumber_32 (fun f136 H locs hP hD hS => ?_)
  refine lv_aload_n hx hb dX11_putNumber_33 rfl (lv_at hl 1 rfl) ?_
  refine lv_dup hx hb dX11_putNumber_34 rfl ?_
  refine m_get (C := RX11) (T := TX11) (N := 16) (ci := 8) (v := .int 10) X hP 0 rfl rfl 1 (by decide) qw_131 inlX11 rfl dX11_putNumber_35 ?_
  refine lv_iconst (v := 1) hx hb dX11_putNumber_38 (by decide) ?_
  refine lv_iadd hx hb dX11_putNumber_39 ?_
  refine lv_topi (fun z137 ez137 => ?_)
  obtain rfl : z137 = 11 := ez137.trans (by decide)
  refine m_put (C := RX11) (T := TX11) (N := 16) (ci := 8) (v := .int 11) (ws' := [(a0, .inr (8, [.ref a1, .int 11, .int 0, .ref a2, .ref a3, .ref a4, .ref a5, .ref a6, .ref a7, .ref a8, .ref a9, .ref a10, .ref a11, .int 0, .int 0, .int 0])), (a1, .inl (G.2 0, 1000, .inl f136))]) X hP hD hS tyX11 tyX11_ok nmX11 0 rfl rfl 1 (by decide) qw_131 inlX11 rfl (by first | rfl | decide) (by first | rfl | decide) (Nat.le_of_ble_eq_true rfl) rfl dX11_putNumber_40 (fun H locs hP hD hS => ?_)
  refine lv_iinc (v := 0) (lv' := [(2, .int 0), (0, .ref a0), (1, .int i0)]) hx hb dX11_putNumber_43 hl (k := 0) rfl (by decide) (by decide) rfl (fun ls hl => ?_)
  refine lv_goto (tgt := 3) hx hb dX11_putNumber_46 (by decide) ?_
  refine lv_iload_n hx hb dX11_putNumber_3 rfl (lv_at hl 0 rfl) ?_
  refine lv_if_lt (tgt := 49) hx hb dX11_putNumber_4 (by decide) (fun c9 => absurd c9 (by decide)) (fun _ => ?_)
  refine lv_aload_n hx hb dX11_putNumber_7 rfl (lv_at hl 1 rfl) ?_
  refine m_get (C := RX11) (T := TX11) (N := 16) (ci := 8) (v := .int 11) X hP 0 rfl rfl 1 (by decide) qw_131 inlX11 rfl dX11_putNumber_8 ?_
  refine lv_sipush (v := 1000) hx hb dX11_putNumber_11 (by decide) ?_
  refine lv_icmp_ge (tgt := 43) hx hb dX11_putNumber_14 (by decide) (fun c9 => absurd c9 (by decide)) (fun _ => ?_)
  refine lv_aload_n hx hb dX11_putNumber_17 rfl (lv_at hl 1 rfl) ?_
  refine m_get (C := RX11) (T := TX11) (N := 16) (ci := 8) (v := .ref a1) X hP 0 rfl rfl 0 (by decide) qw_14 inlX11 rfl dX11_putNumber_18 ?_
  refine lv_aload_n hx hb dX11_putNumber_21 rfl (lv_at hl 1 rfl) ?_
  refine m_get (C := RX11) (T := TX11) (N := 16) (ci := 8) (v := .int 11) X hP 0 rfl rfl 1 (by decide) qw_131 inlX11 rfl dX11_putNumber_22 ?_
  refine lv_iload_n hx hb dX11_putNumber_25 rfl (lv_at hl 2 rfl) ?_
  refine lv_iload_n hx hb dX11_putNumber_26 rfl (lv_at hl 0 rfl) ?_
  refine lv_ishr hx hb dX11_putNumber_27 ?_
  refine lv_topi (fun z138 ez138 => ?_)
  refine lv_sipush (v := 255) hx hb dX11_putNumber_28 (by decide) ?_
  refine lv_iand hx hb dX11_putNumber_31 ?_
  refine lv_topi (fun z139 ez139 => ?_)
  refine m_iast (ws' := fun f140 => [(a0, .inr (8, [.ref a1, .int 11, .int 0, .ref a2, .ref a3, .ref a4, .ref a5, .ref a6, .ref a7, .ref a8, .ref a9, .ref a10, .ref a11, .int 0, .int 0, .int 0])), (a1, .inl (G.2 0, 1000, .inl f140))]) X hP hD hS 1 rfl (vin (by decide)) (fun _ => rfl) dX11_putNumber_32 (fun f140 H locs hP hD hS => ?_)
  refine lv_aload_n hx hb dX11_putNumber_33 rfl (lv_at hl 1 rfl) ?_
  refine lv_dup hx hb dX11_putNumber_34 rfl ?_
  refine m_get (C := RX11) (T := TX11) (N := 16) (ci := 8) (v := .int 11) X hP 0 rfl rfl 1 (by decide) qw_131 inlX11 rfl dX11_putNumber_35 ?_
  refine lv_iconst (v := 1) hx hb dX11_putNumber_38 (by decide) ?_
  refine lv_iadd hx hb dX11_putNumber_39 ?_
  refine lv_topi (fun z141 ez141 => ?_)
  obtain rfl : z141 = 12 := ez141.trans (by decide)
  refine m_put (C := RX11) (T := TX11) (N := 16) (ci := 8) (v := .int 12) (ws' := [(a0, .inr (8, [.ref a1, .int 12, .int 0, .ref a2, .ref a3, .ref a4, .ref a5, .ref a6, .ref a7, .ref a8, .ref a9, .ref a10, .ref a11, .int 0, .int 0, .int 0])), (a1, .inl (G.2 0, 1000, .inl f140))]) X hP hD hS tyX11 tyX11_ok nmX11 0 rfl rfl 1 (by decide) qw_131 inlX11 rfl (by first | rfl | decide) (by first | rfl | decide) (Nat.le_of_ble_eq_true rfl) rfl dX11_putNumber_40 (fun H locs hP hD hS => ?_)
  refine lv_iinc (v := (-8)) (lv' := [(2, .int (-8)), (0, .ref a0), (1, .int i0)]) hx hb dX11_putNumber_43 hl (k := 0) rfl (by decide) (by decide) rfl (fun ls hl => ?_)
  refine lv_goto (tgt := 3) hx hb dX11_putNumber_46 (by decide) ?_
  refine lv_iload_n hx hb dX11_putNumber_3 rfl (lv_at hl 0 rfl) ?_
  refine lv_if_lt (tgt := 49) hx hb dX11_putNumber_4 (by decide) (fun _ => ?_) (fun c9 => absurd c9 (by decide))
  exact m_vret X hP hD hS ((fun _ => 0), (fun k => match k with | 0 => f140 | _ => fun _ => 0)) [0, 1] (by decide) rfl trivial (Nat.le_of_ble_eq_true rfl) (Nat.le_of_ble_eq_true rfl) dX11_putNumber_49
set_option maxHeartbeats 4000000 in
set_option maxRecDepth 100000 in
theorem k12_X11_putNumber (l : Launch) (G : KG) (a0 : Nat) (i0 : Int32) (a1 : Nat) (a2 : Nat) (a3 : Nat) (a4 : Nat) (a5 : Nat) (a6 : Nat) (a7 : Nat) (a8 : Nat) (a9 : Nat) (a10 : Nat) (a11 : Nat) (g0 : Nat → Int32) (sz : Nat) : Met l yX11_putNumber (.code yX11_putNumber cX11_putNumber 3 none :: wsL_law) { frames := 0, cells := 0, slots := 0, locals := 0 } (va_Pc [.ref a0, .int i0] (Pw G [(a0, .inr (8, [.ref a1, .int 12, .int 0, .ref a2, .ref a3, .ref a4, .ref a5, .ref a6, .ref a7, .ref a8, .ref a9, .ref a10, .ref a11, .int 0, .int 0, .int 0])), (a1, .inl (G.2 0, 1000, .inl g0))] sz)) (va_Qv (fun _ => True) (fun (u9 : KS) t => Bw G (va_A [(a0, .inr (8, [.ref a1, .int 12, .int 0, .ref a2, .ref a3, .ref a4, .ref a5, .ref a6, .ref a7, .ref a8, .ref a9, .ref a10, .ref a11, .int 0, .int 0, .int 0])), (a1, .inl (G.2 0, 1000, .inl g0))] sz) [(a0, .inr (8, [.ref a1, .int 16, .int 0, .ref a2, .ref a3, .ref a4, .ref a5, .ref a6, .ref a7, .ref a8, .ref a9, .ref a10, .ref a11, .int 0, .int 0, .int 0])), (a1, .inl (G.2 0, 1000, .inl (u9.2 0)))] t) (va_A [(a0, .inr (8, [.ref a1, .int 12, .int 0, .ref a2, .ref a3, .ref a4, .ref a5, .ref a6, .ref a7, .ref a8, .ref a9, .ref a10, .ref a11, .int 0, .int 0, .int 0])), (a1, .inl (G.2 0, 1000, .inl g0))] sz)) 0 0 (va_A [(a0, .inr (8, [.ref a1, .int 12, .int 0, .ref a2, .ref a3, .ref a4, .ref a5, .ref a6, .ref a7, .ref a8, .ref a9, .ref a10, .ref a11, .int 0, .int 0, .int 0])), (a1, .inl (G.2 0, 1000, .inl g0))] sz) := by
  refine m_body (y := yX11_putNumber) (cd := cX11_putNumber) (mL := 3) (rt := none) (rm := { frames := 0, cells := 0, slots := 0, locals := 0 }) (av := [.ref a0, .int i0]) (wc := [(a0, .inr (8, [.ref a1, .int 12, .int 0, .ref a2, .ref a3, .ref a4, .ref a5, .ref a6, .ref a7, .ref a8, .ref a9, .ref a10, .ref a11, .int 0, .int 0, .int 0])), (a1, .inl (G.2 0, 1000, .inl g0))]) (G := G) (sz := sz) (Qf := fun A => va_Qv (fun _ => True) (fun (u9 : KS) t => Bw G A [(a0, .inr (8, [.ref a1, .int 16, .int 0, .ref a2, .ref a3, .ref a4, .ref a5, .ref a6, .ref a7, .ref a8, .ref a9, .ref a10, .ref a11, .int 0, .int 0, .int 0])), (a1, .inl (G.2 0, 1000, .inl (u9.2 0)))] t) A) (by decide) (Nat.le_of_ble_eq_true rfl) ?_
  intro p e s m args below meth c ls A X hi hP hD hS hl
  have hx := X.1.1
  have hb := X.1.2.1
  have hi : meth.name = "putNumber" := hi
  have hl : lv_has ls 3 [(0, .ref a0), (1, .int i0)] := hl
  refine lv_bipush (v := 24) hx hb dX11_putNumber_0 (by decide) ?_
  refine lv_istore_n (lv' := [(2, .int 24), (0, .ref a0), (1, .int i0)]) hx hb dX11_putNumber_2 rfl hl (by decide) rfl (fun ls hl => ?_)
  refine lv_iload_n hx hb dX11_putNumber_3 rfl (lv_at hl 0 rfl) ?_
  refine lv_if_lt (tgt := 49) hx hb dX11_putNumber_4 (by decide) (fun c9 => absurd c9 (by decide)) (fun _ => ?_)
  refine lv_aload_n hx hb dX11_putNumber_7 rfl (lv_at hl 1 rfl) ?_
  refine m_get (C := RX11) (T := TX11) (N := 16) (ci := 8) (v := .int 12) X hP 0 rfl rfl 1 (by decide) qw_131 inlX11 rfl dX11_putNumber_8 ?_
  refine lv_sipush (v := 1000) hx hb dX11_putNumber_11 (by decide) ?_
  refine lv_icmp_ge (tgt := 43) hx hb dX11_putNumber_14 (by decide) (fun c9 => absurd c9 (by decide)) (fun _ => ?_)
  refine lv_aload_n hx hb dX11_putNumber_17 rfl (lv_at hl 1 rfl) ?_
  refine m_get (C := RX11) (T := TX11) (N := 16) (ci := 8) (v := .ref a1) X hP 0 rfl rfl 0 (by decide) qw_14 inlX11 rfl dX11_putNumber_18 ?_
  refine lv_aload_n hx hb dX11_putNumber_21 rfl (lv_at hl 1 rfl) ?_
  refine m_get (C := RX11) (T := TX11) (N := 16) (ci := 8) (v := .int 12) X hP 0 rfl rfl 1 (by decide) qw_131 inlX11 rfl dX11_putNumber_22 ?_
  refine lv_iload_n hx hb dX11_putNumber_25 rfl (lv_at hl 2 rfl) ?_
  refine lv_iload_n hx hb dX11_putNumber_26 rfl (lv_at hl 0 rfl) ?_
  refine lv_ishr hx hb dX11_putNumber_27 ?_
  refine lv_topi (fun z143 ez143 => ?_)
  refine lv_sipush (v := 255) hx hb dX11_putNumber_28 (by decide) ?_
  refine lv_iand hx hb dX11_putNumber_31 ?_
  refine lv_topi (fun z144 ez144 => ?_)
  refine m_iast (ws' := fun f145 => [(a0, .inr (8, [.ref a1, .int 12, .int 0, .ref a2, .ref a3, .ref a4, .ref a5, .ref a6, .ref a7, .ref a8, .ref a9, .ref a10, .ref a11, .int 0, .int 0, .int 0])), (a1, .inl (G.2 0, 1000, .inl f145))]) X hP hD hS 1 rfl (vin (by decide)) (fun _ => rfl) dX11_putNumber_32 (fun f145 H locs hP hD hS => ?_)
  refine lv_aload_n hx hb dX11_putNumber_33 rfl (lv_at hl 1 rfl) ?_
  refine lv_dup hx hb dX11_putNumber_34 rfl ?_
  refine m_get (C := RX11) (T := TX11) (N := 16) (ci := 8) (v := .int 12) X hP 0 rfl rfl 1 (by decide) qw_131 inlX11 rfl dX11_putNumber_35 ?_
  refine lv_iconst (v := 1) hx hb dX11_putNumber_38 (by decide) ?_
  refine lv_iadd hx hb dX11_putNumber_39 ?_
  refine lv_topi (fun z146 ez146 => ?_)
  obtain rfl : z146 = 13 := ez146.trans (by decide)
  refine m_put (C := RX11) (T := TX11) (N := 16) (ci := 8) (v := .int 13) (ws' := [(a0, .inr (8, [.ref a1, .int 13, .int 0, .ref a2, .ref a3, .ref a4, .ref a5, .ref a6, .ref a7, .ref a8, .ref a9, .ref a10, .ref a11, .int 0, .int 0, .int 0])), (a1, .inl (G.2 0, 1000, .inl f145))]) X hP hD hS tyX11 tyX11_ok nmX11 0 rfl rfl 1 (by decide) qw_131 inlX11 rfl (by first | rfl | decide) (by first | rfl | decide) (Nat.le_of_ble_eq_true rfl) rfl dX11_putNumber_40 (fun H locs hP hD hS => ?_)
  refine lv_iinc (v := 16) (lv' := [(2, .int 16), (0, .ref a0), (1, .int i0)]) hx hb dX11_putNumber_43 hl (k := 0) rfl (by decide) (by decide) rfl (fun ls hl => ?_)
  refine lv_goto (tgt := 3) hx hb dX11_putNumber_46 (by decide) ?_
  refine lv_iload_n hx hb dX11_putNumber_3 rfl (lv_at hl 0 rfl) ?_
  refine lv_if_lt (tgt := 49) hx hb dX11_putNumber_4 (by decide) (fun c9 => absurd c9 (by decide)) (fun _ => ?_)
  refine lv_aload_n hx hb dX11_putNumber_7 rfl (lv_at hl 1 rfl) ?_
  refine m_get (C := RX11) (T := TX11) (N := 16) (ci := 8) (v := .int 13) X hP 0 rfl rfl 1 (by decide) qw_131 inlX11 rfl dX11_putNumber_8 ?_
  refine lv_sipush (v := 1000) hx hb dX11_putNumber_11 (by decide) ?_
  refine lv_icmp_ge (tgt := 43) hx hb dX11_putNumber_14 (by decide) (fun c9 => absurd c9 (by decide)) (fun _ => ?_)
  refine lv_aload_n hx hb dX11_putNumber_17 rfl (lv_at hl 1 rfl) ?_
  refine m_get (C := RX11) (T := TX11) (N := 16) (ci := 8) (v := .ref a1) X hP 0 rfl rfl 0 (by decide) qw_14 inlX11 rfl dX11_putNumber_18 ?_
  refine lv_aload_n hx hb dX11_putNumber_21 rfl (lv_at hl 1 rfl) ?_
  refine m_get (C := RX11) (T := TX11) (N := 16) (ci := 8) (v := .int 13) X hP 0 rfl rfl 1 (by decide) qw_131 inlX11 rfl dX11_putNumber_22 ?_
  refine lv_iload_n hx hb dX11_putNumber_25 rfl (lv_at hl 2 rfl) ?_
  refine lv_iload_n hx hb dX11_putNumber_26 rfl (lv_at hl 0 rfl) ?_
  refine lv_ishr hx hb dX11_putNumber_27 ?_
  refine lv_topi (fun z147 ez147 => ?_)
  refine lv_sipush (v := 255) hx hb dX11_putNumber_28 (by decide) ?_
  refine lv_iand hx hb dX11_putNumber_31 ?_
  refine lv_topi (fun z148 ez148 => ?_)
  refine m_iast (ws' := fun f149 => [(a0, .inr (8, [.ref a1, .int 13, .int 0, .ref a2, .ref a3, .ref a4, .ref a5, .ref a6, .ref a7, .ref a8, .ref a9, .ref a10, .ref a11, .int 0, .int 0, .int 0])), (a1, .inl (G.2 0, 1000, .inl f149))]) X hP hD hS 1 rfl (vin (by decide)) (fun _ => rfl) dX11_putNumber_32 (fun f149 H locs hP hD hS => ?_)
  refine lv_aload_n hx hb dX11_putNumber_33 rfl (lv_at hl 1 rfl) ?_
  refine lv_dup hx hb dX11_putNumber_34 rfl ?_
  refine m_get (C := RX11) (T := TX11) (N := 16) (ci := 8) (v := .int 13) X hP 0 rfl rfl 1 (by decide) qw_131 inlX11 rfl dX11_putNumber_35 ?_
  refine lv_iconst (v := 1) hx hb dX11_putNumber_38 (by decide) ?_
  refine lv_iadd hx hb dX11_putNumber_39 ?_
  refine lv_topi (fun z150 ez150 => ?_)
  obtain rfl : z150 = 14 := ez150.trans (by decide)
  refine m_put (C := RX11) (T := TX11) (N := 16) (ci := 8) (v := .int 14) (ws' := [(a0, .inr (8, [.ref a1, .int 14, .int 0, .ref a2, .ref a3, .ref a4, .ref a5, .ref a6, .ref a7, .ref a8, .ref a9, .ref a10, .ref a11, .int 0, .int 0, .int 0])), (a1, .inl (G.2 0, 1000, .inl f149))]) X hP hD hS tyX11 tyX11_ok nmX11 0 rfl rfl 1 (by decide) qw_131 inlX11 rfl (by first | rfl | decide) (by first | rfl | decide) (Nat.le_of_ble_eq_true rfl) rfl dX11_putNumber_40 (fun H locs hP hD hS => ?_)
  refine lv_iinc (v := 8) (lv' := [(2, .int 8), (0, .ref a0), (1, .int i0)]) hx hb dX11_putNumber_43 hl (k := 0) rfl (by decide) (by decide) rfl (fun ls hl => ?_)
  refine lv_goto (tgt := 3) hx hb dX11_putNumber_46 (by decide) ?_
  refine lv_iload_n hx hb dX11_putNumber_3 rfl (lv_at hl 0 rfl) ?_
  refine lv_if_lt (tgt := 49) hx hb dX11_putNumber_4 (by decide) (fun c9 => absurd c9 (by decide)) (fun _ => ?_)
  refine lv_aload_n hx hb dX11_putNumber_7 rfl (lv_at hl 1 rfl) ?_
  refine m_get (C := RX11) (T := TX11) (N := 16) (ci := 8) (v := .int 14) X hP 0 rfl rfl 1 (by decide) qw_131 inlX11 rfl dX11_putNumber_8 ?_
  refine lv_sipush (v := 1000) hx hb dX11_putNumber_11 (by decide) ?_
  refine lv_icmp_ge (tgt := 43) hx hb dX11_putNumber_14 (by decide) (fun c9 => absurd c9 (by decide)) (fun _ => ?_)
  refine lv_aload_n hx hb dX11_putNumber_17 rfl (lv_at hl 1 rfl) ?_
  refine m_get (C := RX11) (T := TX11) (N := 16) (ci := 8) (v := .ref a1) X hP 0 rfl rfl 0 (by decide) qw_14 inlX11 rfl dX11_putNumber_18 ?_
  refine lv_aload_n hx hb dX11_putNumber_21 rfl (lv_at hl 1 rfl) ?_
  refine m_get (C := RX11) (T := TX11) (N := 16) (ci := 8) (v := .int 14) X hP 0 rfl rfl 1 (by decide) qw_131 inlX11 rfl dX11_putNumber_22 ?_
  refine lv_iload_n hx hb dX11_putNumber_25 rfl (lv_at hl 2 rfl) ?_
  refine lv_iload_n hx hb dX11_putNumber_26 rfl (lv_at hl 0 rfl) ?_
  refine lv_ishr hx hb dX11_putNumber_27 ?_
  refine lv_topi (fun z151 ez151 => ?_)
  refine lv_sipush (v := 255) hx hb dX11_putNumber_28 (by decide) ?_
  refine lv_iand hx hb dX11_putNumber_31 ?_
  refine lv_topi (fun z152 ez152 => ?_)
  refine m_iast (ws' := fun f153 => [(a0, .inr (8, [.ref a1, .int 14, .int 0, .ref a2, .ref a3, .ref a4, .ref a5, .ref a6, .ref a7, .ref a8, .ref a9, .ref a10, .ref a11, .int 0, .int 0, .int 0])), (a1, .inl (G.2 0, 1000, .inl f153))]) X hP hD hS 1 rfl (vin (by decide)) (fun _ => rfl) dX11_putNumber_32 (fun f153 H locs hP hD hS => ?_)
  refine lv_aload_n hx hb dX11_putNumber_33 rfl (lv_at hl 1 rfl) ?_
  refine lv_dup hx hb dX11_putNumber_34 rfl ?_
  refine m_get (C := RX11) (T := TX11) (N := 16) (ci := 8) (v := .int 14) X hP 0 rfl rfl 1 (by decide) qw_131 inlX11 rfl dX11_putNumber_35 ?_
  refine lv_iconst (v := 1) hx hb dX11_putNumber_38 (by decide) ?_
  refine lv_iadd hx hb dX11_putNumber_39 ?_
  refine lv_topi (fun z154 ez154 => ?_)
  obtain rfl : z154 = 15 := ez154.trans (by decide)
  refine m_put (C := RX11) (T := TX11) (N := 16) (ci := 8) (v := .int 15) (ws' := [(a0, .inr (8, [.ref a1, .int 15, .int 0, .ref a2, .ref a3, .ref a4, .ref a5, .ref a6, .ref a7, .ref a8, .ref a9, .ref a10, .ref a11, .int 0, .int 0, .int 0])), (a1, .inl (G.2 0, 1000, .inl f153))]) X hP hD hS tyX11 tyX11_ok nmX11 0 rfl rfl 1 (by decide) qw_131 inlX11 rfl (by first | rfl | decide) (by first | rfl | decide) (Nat.le_of_ble_eq_true rfl) rfl dX11_putNumber_40 (fun H locs hP hD hS => ?_)
  refine lv_iinc (v := 0) (lv' := [(2, .int 0), (0, .ref a0), (1, .int i0)]) hx hb dX11_putNumber_43 hl (k := 0) rfl (by decide) (by decide) rfl (fun ls hl => ?_)
  refine lv_goto (tgt := 3) hx hb dX11_putNumber_46 (by decide) ?_
  refine lv_iload_n hx hb dX11_putNumber_3 rfl (lv_at hl 0 rfl) ?_
  refine lv_if_lt (tgt := 49) hx hb dX11_putNumber_4 (by decide) (fun c9 => absurd c9 (by decide)) (fun _ => ?_)
  refine lv_aload_n hx hb dX11_putNumber_7 rfl (lv_at hl 1 rfl) ?_
  refine m_get (C := RX11) (T := TX11) (N := 16) (ci := 8) (v := .int 15) X hP 0 rfl rfl 1 (by decide) qw_131 inlX11 rfl dX11_putNumber_8 ?_
  refine lv_sipush (v := 1000) hx hb dX11_putNumber_11 (by decide) ?_
  refine lv_icmp_ge (tgt := 43) hx hb dX11_putNumber_14 (by decide) (fun c9 => absurd c9 (by decide)) (fun _ => ?_)
  refine lv_aload_n hx hb dX11_putNumber_17 rfl (lv_at hl 1 rfl) ?_
  refine m_get (C := RX11) (T := TX11) (N := 16) (ci := 8) (v := .ref a1) X hP 0 rfl rfl 0 (by decide) qw_14 inlX11 rfl dX11_putNumber_18 ?_
  refine lv_aload_n hx hb dX11_putNumber_21 rfl (lv_at hl 1 rfl) ?_
  refine m_get (C := RX11) (T := TX11) (N := 16) (ci := 8) (v := .int 15) X hP 0 rfl rfl 1 (by decide) qw_131 inlX11 rfl dX11_putNumber_22 ?_
  refine lv_iload_n hx hb dX11_putNumber_25 rfl (lv_at hl 2 rfl) ?_
  refine lv_iload_n hx hb dX11_putNumber_26 rfl (lv_at hl 0 rfl) ?_
  refine lv_ishr hx hb dX11_putNumber_27 ?_
  refine lv_topi (fun z155 ez155 => ?_)
  refine lv_sipush (v := 255) hx hb dX11_putNumber_28 (by decide) ?_
  refine lv_iand hx hb dX11_putNumber_31 ?_
  refine lv_topi (fun z156 ez156 => ?_)
  refine m_iast (ws' := fun f157 => [(a0, .inr (8, [.ref a1, .int 15, .int 0, .ref a2, .ref a3, .ref a4, .ref a5, .ref a6, .ref a7, .ref a8, .ref a9, .ref a10, .ref a11, .int 0, .int 0, .int 0])), (a1, .inl (G.2 0, 1000, .inl f157))]) X hP hD hS 1 rfl (vin (by decide)) (fun _ => rfl) dX11_putNumber_32 (fun f157 H locs hP hD hS => ?_)
  refine lv_aload_n hx hb dX11_putNumber_33 rfl (lv_at hl 1 rfl) ?_
  refine lv_dup hx hb dX11_putNumber_34 rfl ?_
  refine m_get (C := RX11) (T := TX11) (N := 16) (ci := 8) (v := .int 15) X hP 0 rfl rfl 1 (by decide) qw_131 inlX11 rfl dX11_putNumber_35 ?_
  refine lv_iconst (v := 1) hx hb dX11_putNumber_38 (by decide) ?_
  refine lv_iadd hx hb dX11_putNumber_39 ?_
  refine lv_topi (fun z158 ez158 => ?_)
  obtain rfl : z158 = 16 := ez158.trans (by decide)
  refine m_put (C := RX11) (T := TX11) (N := 16) (ci := 8) (v := .int 16) (ws' := [(a0, .inr (8, [.ref a1, .int 16, .int 0, .ref a2, .ref a3, .ref a4, .ref a5, .ref a6, .ref a7, .ref a8, .ref a9, .ref a10, .ref a11, .int 0, .int 0, .int 0])), (a1, .inl (G.2 0, 1000, .inl f157))]) X hP hD hS tyX11 tyX11_ok nmX11 0 rfl rfl 1 (by decide) qw_131 inlX11 rfl (by first | rfl | decide) (by first | rfl | decide) (Nat.le_of_ble_eq_true rfl) rfl dX11_putNumber_40 (fun H locs hP hD hS => ?_)
  refine lv_iinc (v := (-8)) (lv' := [(2, .int (-8)), (0, .ref a0), (1, .int i0)]) hx hb dX11_putNumber_43 hl (k := 0) rfl (by decide) (by decide) rfl (fun ls hl => ?_)
  refine lv_goto (tgt := 3) hx hb dX11_putNumber_46 (by decide) ?_
  refine lv_iload_n hx hb dX11_putNumber_3 rfl (lv_at hl 0 rfl) ?_
  refine lv_if_lt (tgt := 49) hx hb dX11_putNumber_4 (by decide) (fun _ => ?_) (fun c9 => absurd c9 (by decide))
  exact m_vret X hP hD hS ((fun _ => 0), (fun k => match k with | 0 => f157 | _ => fun _ => 0)) [0, 1] (by decide) rfl trivial (Nat.le_of_ble_eq_true rfl) (Nat.le_of_ble_eq_true rfl) dX11_putNumber_49
set_option maxHeartbeats 4000000 in
set_option maxRecDepth 100000 in
theorem k13_X11_putNumber (l : Launch) (G : KG) (a0 : Nat) (i0 : Int32) (a1 : Nat) (a2 : Nat) (a3 : Nat) (a4 : Nat) (a5 : Nat) (a6 : Nat) (a7 : Nat) (a8 : Nat) (a9 : Nat) (a10 : Nat) (a11 : Nat) (g0 : Nat → Int32) (sz : Nat) : Met l yX11_putNumber (.code yX11_putNumber cX11_putNumber 3 none :: wsL_law) { frames := 0, cells := 0, slots := 0, locals := 0 } (va_Pc [.ref a0, .int i0] (Pw G [(a0, .inr (8, [.ref a1, .int 16, .int 0, .ref a2, .ref a3, .ref a4, .ref a5, .ref a6, .ref a7, .ref a8, .ref a9, .ref a10, .ref a11, .int 0, .int 0, .int 0])), (a1, .inl (G.2 0, 1000, .inl g0))] sz)) (va_Qv (fun _ => True) (fun (u9 : KS) t => Bw G (va_A [(a0, .inr (8, [.ref a1, .int 16, .int 0, .ref a2, .ref a3, .ref a4, .ref a5, .ref a6, .ref a7, .ref a8, .ref a9, .ref a10, .ref a11, .int 0, .int 0, .int 0])), (a1, .inl (G.2 0, 1000, .inl g0))] sz) [(a0, .inr (8, [.ref a1, .int 20, .int 0, .ref a2, .ref a3, .ref a4, .ref a5, .ref a6, .ref a7, .ref a8, .ref a9, .ref a10, .ref a11, .int 0, .int 0, .int 0])), (a1, .inl (G.2 0, 1000, .inl (u9.2 0)))] t) (va_A [(a0, .inr (8, [.ref a1, .int 16, .int 0, .ref a2, .ref a3, .ref a4, .ref a5, .ref a6, .ref a7, .ref a8, .ref a9, .ref a10, .ref a11, .int 0, .int 0, .int 0])), (a1, .inl (G.2 0, 1000, .inl g0))] sz)) 0 0 (va_A [(a0, .inr (8, [.ref a1, .int 16, .int 0, .ref a2, .ref a3, .ref a4, .ref a5, .ref a6, .ref a7, .ref a8, .ref a9, .ref a10, .ref a11, .int 0, .int 0, .int 0])), (a1, .inl (G.2 0, 1000, .inl g0))] sz) := by
  refine m_body (y := yX11_putNumber) (cd := cX11_putNumber) (mL := 3) (rt := none) (rm := { frames := 0, cells := 0, slots := 0, locals := 0 }) (av := [.ref a0, .int i0]) (wc := [(a0, .inr (8, [.ref a1, .int 16, .int 0, .ref a2, .ref a3, .ref a4, .ref a5, .ref a6, .ref a7, .ref a8, .ref a9, .ref a10, .ref a11, .int 0, .int 0, .int 0])), (a1, .inl (G.2 0, 1000, .inl g0))]) (G := G) (sz := sz) (Qf := fun A => va_Qv (fun _ => True) (fun (u9 : KS) t => Bw G A [(a0, .inr (8, [.ref a1, .int 20, .int 0, .ref a2, .ref a3, .ref a4, .ref a5, .ref a6, .ref a7, .ref a8, .ref a9, .ref a10, .ref a11, .int 0, .int 0, .int 0])), (a1, .inl (G.2 0, 1000, .inl (u9.2 0)))] t) A) (by decide) (Nat.le_of_ble_eq_true rfl) ?_
  intro p e s m args below meth c ls A X hi hP hD hS hl
  have hx := X.1.1
  have hb := X.1.2.1
  have hi : meth.name = "putNumber" := hi
  have hl : lv_has ls 3 [(0, .ref a0), (1, .int i0)] := hl
  refine lv_bipush (v := 24) hx hb dX11_putNumber_0 (by decide) ?_
  refine lv_istore_n (lv' := [(2, .int 24), (0, .ref a0), (1, .int i0)]) hx hb dX11_putNumber_2 rfl hl (by decide) rfl (fun ls hl => ?_)
  refine lv_iload_n hx hb dX11_putNumber_3 rfl (lv_at hl 0 rfl) ?_
  refine lv_if_lt (tgt := 49) hx hb dX11_putNumber_4 (by decide) (fun c9 => absurd c9 (by decide)) (fun _ => ?_)
  refine lv_aload_n hx hb dX11_putNumber_7 rfl (lv_at hl 1 rfl) ?_
  refine m_get (C := RX11) (T := TX11) (N := 16) (ci := 8) (v := .int 16) X hP 0 rfl rfl 1 (by decide) qw_131 inlX11 rfl dX11_putNumber_8 ?_
  refine lv_sipush (v := 1000) hx hb dX11_putNumber_11 (by decide) ?_
  refine lv_icmp_ge (tgt := 43) hx hb dX11_putNumber_14 (by decide) (fun c9 => absurd c9 (by decide)) (fun _ => ?_)
  refine lv_aload_n hx hb dX11_putNumber_17 rfl (lv_at hl 1 rfl) ?_
  refine m_get (C := RX11) (T := TX11) (N := 16) (ci := 8) (v := .ref a1) X hP 0 rfl rfl 0 (by decide) qw_14 inlX11 rfl dX11_putNumber_18 ?_
  refine lv_aload_n hx hb dX11_putNumber_21 rfl (lv_at hl 1 rfl) ?_
  refine m_get (C := RX11) (T := TX11) (N := 16) (ci := 8) (v := .int 16) X hP 0 rfl rfl 1 (by decide) qw_131 inlX11 rfl dX11_putNumber_22 ?_
  refine lv_iload_n hx hb dX11_putNumber_25 rfl (lv_at hl 2 rfl) ?_
  refine lv_iload_n hx hb dX11_putNumber_26 rfl (lv_at hl 0 rfl) ?_
  refine lv_ishr hx hb dX11_putNumber_27 ?_
  refine lv_topi (fun z160 ez160 => ?_)
  refine lv_sipush (v := 255) hx hb dX11_putNumber_28 (by decide) ?_
  refine lv_iand hx hb dX11_putNumber_31 ?_
  refine lv_topi (fun z161 ez161 => ?_)
  refine m_iast (ws' := fun f162 => [(a0, .inr (8, [.ref a1, .int 16, .int 0, .ref a2, .ref a3, .ref a4, .ref a5, .ref a6, .ref a7, .ref a8, .ref a9, .ref a10, .ref a11, .int 0, .int 0, .int 0])), (a1, .inl (G.2 0, 1000, .inl f162))]) X hP hD hS 1 rfl (vin (by decide)) (fun _ => rfl) dX11_putNumber_32 (fun f162 H locs hP hD hS => ?_)
  refine lv_aload_n hx hb dX11_putNumber_33 rfl (lv_at hl 1 rfl) ?_
  refine lv_dup hx hb dX11_putNumber_34 rfl ?_
  refine m_get (C := RX11) (T := TX11) (N := 16) (ci := 8) (v := .int 16) X hP 0 rfl rfl 1 (by decide) qw_131 inlX11 rfl dX11_putNumber_35 ?_
  refine lv_iconst (v := 1) hx hb dX11_putNumber_38 (by decide) ?_
  refine lv_iadd hx hb dX11_putNumber_39 ?_
  refine lv_topi (fun z163 ez163 => ?_)
  obtain rfl : z163 = 17 := ez163.trans (by decide)
  refine m_put (C := RX11) (T := TX11) (N := 16) (ci := 8) (v := .int 17) (ws' := [(a0, .inr (8, [.ref a1, .int 17, .int 0, .ref a2, .ref a3, .ref a4, .ref a5, .ref a6, .ref a7, .ref a8, .ref a9, .ref a10, .ref a11, .int 0, .int 0, .int 0])), (a1, .inl (G.2 0, 1000, .inl f162))]) X hP hD hS tyX11 tyX11_ok nmX11 0 rfl rfl 1 (by decide) qw_131 inlX11 rfl (by first | rfl | decide) (by first | rfl | decide) (Nat.le_of_ble_eq_true rfl) rfl dX11_putNumber_40 (fun H locs hP hD hS => ?_)
  refine lv_iinc (v := 16) (lv' := [(2, .int 16), (0, .ref a0), (1, .int i0)]) hx hb dX11_putNumber_43 hl (k := 0) rfl (by decide) (by decide) rfl (fun ls hl => ?_)
  refine lv_goto (tgt := 3) hx hb dX11_putNumber_46 (by decide) ?_
  refine lv_iload_n hx hb dX11_putNumber_3 rfl (lv_at hl 0 rfl) ?_
  refine lv_if_lt (tgt := 49) hx hb dX11_putNumber_4 (by decide) (fun c9 => absurd c9 (by decide)) (fun _ => ?_)
  refine lv_aload_n hx hb dX11_putNumber_7 rfl (lv_at hl 1 rfl) ?_
  refine m_get (C := RX11) (T := TX11) (N := 16) (ci := 8) (v := .int 17) X hP 0 rfl rfl 1 (by decide) qw_131 inlX11 rfl dX11_putNumber_8 ?_
  refine lv_sipush (v := 1000) hx hb dX11_putNumber_11 (by decide) ?_
  refine lv_icmp_ge (tgt := 43) hx hb dX11_putNumber_14 (by decide) (fun c9 => absurd c9 (by decide)) (fun _ => ?_)
  refine lv_aload_n hx hb dX11_putNumber_17 rfl (lv_at hl 1 rfl) ?_
  refine m_get (C := RX11) (T := TX11) (N := 16) (ci := 8) (v := .ref a1) X hP 0 rfl rfl 0 (by decide) qw_14 inlX11 rfl dX11_putNumber_18 ?_
  refine lv_aload_n hx hb dX11_putNumber_21 rfl (lv_at hl 1 rfl) ?_
  refine m_get (C := RX11) (T := TX11) (N := 16) (ci := 8) (v := .int 17) X hP 0 rfl rfl 1 (by decide) qw_131 inlX11 rfl dX11_putNumber_22 ?_
  refine lv_iload_n hx hb dX11_putNumber_25 rfl (lv_at hl 2 rfl) ?_
  refine lv_iload_n hx hb dX11_putNumber_26 rfl (lv_at hl 0 rfl) ?_
  refine lv_ishr hx hb dX11_putNumber_27 ?_
  refine lv_topi (fun z164 ez164 => ?_)
  refine lv_sipush (v := 255) hx hb dX11_putNumber_28 (by decide) ?_
  refine lv_iand hx hb dX11_putNumber_31 ?_
  refine lv_topi (fun z165 ez165 => ?_)
  refine m_iast (ws' := fun f166 => [(a0, .inr (8, [.ref a1, .int 17, .int 0, .ref a2, .ref a3, .ref a4, .ref a5, .ref a6, .ref a7, .ref a8, .ref a9, .ref a10, .ref a11, .int 0, .int 0, .int 0])), (a1, .inl (G.2 0, 1000, .inl f166))]) X hP hD hS 1 rfl (vin (by decide)) (fun _ => rfl) dX11_putNumber_32 (fun f166 H locs hP hD hS => ?_)
  refine lv_aload_n hx hb dX11_putNumber_33 rfl (lv_at hl 1 rfl) ?_
  refine lv_dup hx hb dX11_putNumber_34 rfl ?_
  refine m_get (C := RX11) (T := TX11) (N := 16) (ci := 8) (v := .int 17) X hP 0 rfl rfl 1 (by decide) qw_131 inlX11 rfl dX11_putNumber_35 ?_
  refine lv_iconst (v := 1) hx hb dX11_putNumber_38 (by decide) ?_
  refine lv_iadd hx hb dX11_putNumber_39 ?_
  refine lv_topi (fun z167 ez167 => ?_)
  obtain rfl : z167 = 18 := ez167.trans (by decide)
  refine m_put (C := RX11) (T := TX11) (N := 16) (ci := 8) (v := .int 18) (ws' := [(a0, .inr (8, [.ref a1, .int 18, .int 0, .ref a2, .ref a3, .ref a4, .ref a5, .ref a6, .ref a7, .ref a8, .ref a9, .ref a10, .ref a11, .int 0, .int 0, .int 0])), (a1, .inl (G.2 0, 1000, .inl f166))]) X hP hD hS tyX11 tyX11_ok nmX11 0 rfl rfl 1 (by decide) qw_131 inlX11 rfl (by first | rfl | decide) (by first | rfl | decide) (Nat.le_of_ble_eq_true rfl) rfl dX11_putNumber_40 (fun H locs hP hD hS => ?_)
  refine lv_iinc (v := 8) (lv' := [(2, .int 8), (0, .ref a0), (1, .int i0)]) hx hb dX11_putNumber_43 hl (k := 0) rfl (by decide) (by decide) rfl (fun ls hl => ?_)
  refine lv_goto (tgt := 3) hx hb dX11_putNumber_46 (by decide) ?_
  refine lv_iload_n hx hb dX11_putNumber_3 rfl (lv_at hl 0 rfl) ?_
  refine lv_if_lt (tgt := 49) hx hb dX11_putNumber_4 (by decide) (fun c9 => absurd c9 (by decide)) (fun _ => ?_)
  refine lv_aload_n hx hb dX11_putNumber_7 rfl (lv_at hl 1 rfl) ?_
  refine m_get (C := RX11) (T := TX11) (N := 16) (ci := 8) (v := .int 18) X hP 0 rfl rfl 1 (by decide) qw_131 inlX11 rfl dX11_putNumber_8 ?_
  refine lv_sipush (v := 1000) hx hb dX11_putNumber_11 (by decide) ?_
  refine lv_icmp_ge (tgt := 43) hx hb dX11_putNumber_14 (by decide) (fun c9 => absurd c9 (by decide)) (fun _ => ?_)
  refine lv_aload_n hx hb dX11_putNumber_17 rfl (lv_at hl 1 rfl) ?_
  refine m_get (C := RX11) (T := TX11) (N := 16) (ci := 8) (v := .ref a1) X hP 0 rfl rfl 0 (by decide) qw_14 inlX11 rfl dX11_putNumber_18 ?_
  refine lv_aload_n hx hb dX11_putNumber_21 rfl (lv_at hl 1 rfl) ?_
  refine m_get (C := RX11) (T := TX11) (N := 16) (ci := 8) (v := .int 18) X hP 0 rfl rfl 1 (by decide) qw_131 inlX11 rfl dX11_putNumber_22 ?_
  refine lv_iload_n hx hb dX11_putNumber_25 rfl (lv_at hl 2 rfl) ?_
  refine lv_iload_n hx hb dX11_putNumber_26 rfl (lv_at hl 0 rfl) ?_
  refine lv_ishr hx hb dX11_putNumber_27 ?_
  refine lv_topi (fun z168 ez168 => ?_)
  refine lv_sipush (v := 255) hx hb dX11_putNumber_28 (by decide) ?_
  refine lv_iand hx hb dX11_putNumber_31 ?_
  refine lv_topi (fun z169 ez169 => ?_)
  refine m_iast (ws' := fun f170 => [(a0, .inr (8, [.ref a1, .int 18, .int 0, .ref a2, .ref a3, .ref a4, .ref a5, .ref a6, .ref a7, .ref a8, .ref a9, .ref a10, .ref a11, .int 0, .int 0, .int 0])), (a1, .inl (G.2 0, 1000, .inl f170))]) X hP hD hS 1 rfl (vin (by decide)) (fun _ => rfl) dX11_putNumber_32 (fun f170 H locs hP hD hS => ?_)
  refine lv_aload_n hx hb dX11_putNumber_33 rfl (lv_at hl 1 rfl) ?_
  refine lv_dup hx hb dX11_putNumber_34 rfl ?_
  refine m_get (C := RX11) (T := TX11) (N := 16) (ci := 8) (v := .int 18) X hP 0 rfl rfl 1 (by decide) qw_131 inlX11 rfl dX11_putNumber_35 ?_
  refine lv_iconst (v := 1) hx hb dX11_putNumber_38 (by decide) ?_
  refine lv_iadd hx hb dX11_putNumber_39 ?_
  refine lv_topi (fun z171 ez171 => ?_)
  obtain rfl : z171 = 19 := ez171.trans (by decide)
  refine m_put (C := RX11) (T := TX11) (N := 16) (ci := 8) (v := .int 19) (ws' := [(a0, .inr (8, [.ref a1, .int 19, .int 0, .ref a2, .ref a3, .ref a4, .ref a5, .ref a6, .ref a7, .ref a8, .ref a9, .ref a10, .ref a11, .int 0, .int 0, .int 0])), (a1, .inl (G.2 0, 1000, .inl f170))]) X hP hD hS tyX11 tyX11_ok nmX11 0 rfl rfl 1 (by decide) qw_131 inlX11 rfl (by first | rfl | decide) (by first | rfl | decide) (Nat.le_of_ble_eq_true rfl) rfl dX11_putNumber_40 (fun H locs hP hD hS => ?_)
  refine lv_iinc (v := 0) (lv' := [(2, .int 0), (0, .ref a0), (1, .int i0)]) hx hb dX11_putNumber_43 hl (k := 0) rfl (by decide) (by decide) rfl (fun ls hl => ?_)
  refine lv_goto (tgt := 3) hx hb dX11_putNumber_46 (by decide) ?_
  refine lv_iload_n hx hb dX11_putNumber_3 rfl (lv_at hl 0 rfl) ?_
  refine lv_if_lt (tgt := 49) hx hb dX11_putNumber_4 (by decide) (fun c9 => absurd c9 (by decide)) (fun _ => ?_)
  refine lv_aload_n hx hb dX11_putNumber_7 rfl (lv_at hl 1 rfl) ?_
  refine m_get (C := RX11) (T := TX11) (N := 16) (ci := 8) (v := .int 19) X hP 0 rfl rfl 1 (by decide) qw_131 inlX11 rfl dX11_putNumber_8 ?_
  refine lv_sipush (v := 1000) hx hb dX11_putNumber_11 (by decide) ?_
  refine lv_icmp_ge (tgt := 43) hx hb dX11_putNumber_14 (by decide) (fun c9 => absurd c9 (by decide)) (fun _ => ?_)
  refine lv_aload_n hx hb dX11_putNumber_17 rfl (lv_at hl 1 rfl) ?_
  refine m_get (C := RX11) (T := TX11) (N := 16) (ci := 8) (v := .ref a1) X hP 0 rfl rfl 0 (by decide) qw_14 inlX11 rfl dX11_putNumber_18 ?_
  refine lv_aload_n hx hb dX11_putNumber_21 rfl (lv_at hl 1 rfl) ?_
  refine m_get (C := RX11) (T := TX11) (N := 16) (ci := 8) (v := .int 19) X hP 0 rfl rfl 1 (by decide) qw_131 inlX11 rfl dX11_putNumber_22 ?_
  refine lv_iload_n hx hb dX11_putNumber_25 rfl (lv_at hl 2 rfl) ?_
  refine lv_iload_n hx hb dX11_putNumber_26 rfl (lv_at hl 0 rfl) ?_
  refine lv_ishr hx hb dX11_putNumber_27 ?_
  refine lv_topi (fun z172 ez172 => ?_)
  refine lv_sipush (v := 255) hx hb dX11_putNumber_28 (by decide) ?_
  refine lv_iand hx hb dX11_putNumber_31 ?_
  refine lv_topi (fun z173 ez173 => ?_)
  refine m_iast (ws' := fun f174 => [(a0, .inr (8, [.ref a1, .int 19, .int 0, .ref a2, .ref a3, .ref a4, .ref a5, .ref a6, .ref a7, .ref a8, .ref a9, .ref a10, .ref a11, .int 0, .int 0, .int 0])), (a1, .inl (G.2 0, 1000, .inl f174))]) X hP hD hS 1 rfl (vin (by decide)) (fun _ => rfl) dX11_putNumber_32 (fun f174 H locs hP hD hS => ?_)
  refine lv_aload_n hx hb dX11_putNumber_33 rfl (lv_at hl 1 rfl) ?_
  refine lv_dup hx hb dX11_putNumber_34 rfl ?_
  refine m_get (C := RX11) (T := TX11) (N := 16) (ci := 8) (v := .int 19) X hP 0 rfl rfl 1 (by decide) qw_131 inlX11 rfl dX11_putNumber_35 ?_
  refine lv_iconst (v := 1) hx hb dX11_putNumber_38 (by decide) ?_
  refine lv_iadd hx hb dX11_putNumber_39 ?_
  refine lv_topi (fun z175 ez175 => ?_)
  obtain rfl : z175 = 20 := ez175.trans (by decide)
  refine m_put (C := RX11) (T := TX11) (N := 16) (ci := 8) (v := .int 20) (ws' := [(a0, .inr (8, [.ref a1, .int 20, .int 0, .ref a2, .ref a3, .ref a4, .ref a5, .ref a6, .ref a7, .ref a8, .ref a9, .ref a10, .ref a11, .int 0, .int 0, .int 0])), (a1, .inl (G.2 0, 1000, .inl f174))]) X hP hD hS tyX11 tyX11_ok nmX11 0 rfl rfl 1 (by decide) qw_131 inlX11 rfl (by first | rfl | decide) (by first | rfl | decide) (Nat.le_of_ble_eq_true rfl) rfl dX11_putNumber_40 (fun H locs hP hD hS => ?_)
  refine lv_iinc (v := (-8)) (lv' := [(2, .int (-8)), (0, .ref a0), (1, .int i0)]) hx hb dX11_putNumber_43 hl (k := 0) rfl (by decide) (by decide) rfl (fun ls hl => ?_)
  refine lv_goto (tgt := 3) hx hb dX11_putNumber_46 (by decide) ?_
  refine lv_iload_n hx hb dX11_putNumber_3 rfl (lv_at hl 0 rfl) ?_
  refine lv_if_lt (tgt := 49) hx hb dX11_putNumber_4 (by decide) (fun _ => ?_) (fun c9 => absurd c9 (by decide))
  exact m_vret X hP hD hS ((fun _ => 0), (fun k => match k with | 0 => f174 | _ => fun _ => 0)) [0, 1] (by decide) rfl trivial (Nat.le_of_ble_eq_true rfl) (Nat.le_of_ble_eq_true rfl) dX11_putNumber_49
set_option maxHeartbeats 4000000 in
set_option maxRecDepth 100000 in
theorem k14_X11_feed (l : Launch) (G : KG) (a0 : Nat) (i0 : Int32) (i1 : Int32) (i2 : Int32) (i3 : Int32) (i4 : Int32) (a1 : Nat) (a2 : Nat) (a3 : Nat) (a4 : Nat) (a5 : Nat) (a6 : Nat) (a7 : Nat) (a8 : Nat) (a9 : Nat) (a10 : Nat) (a11 : Nat) (sz : Nat) : Met l yX11_feed (.code yX11_feed cX11_feed 6 (some .int) :: wsL_law) { frames := 1, cells := 0, slots := 0, locals := 22 } (va_Pc [.ref a0, .int i0, .int i1, .int i2, .int i3, .int i4] (Pw G [(a0, .inr (8, [.ref a1, .int 0, .int 0, .ref a2, .ref a3, .ref a4, .ref a5, .ref a6, .ref a7, .ref a8, .ref a9, .ref a10, .ref a11, .int 0, .int 0, .int 0])), (a1, .inl (G.2 0, 1000, .inl (fun _ => 0)))] sz)) (va_Qi (fun r _ => r = 20) (fun (u9 : KS) t => Bw G (va_A [(a0, .inr (8, [.ref a1, .int 0, .int 0, .ref a2, .ref a3, .ref a4, .ref a5, .ref a6, .ref a7, .ref a8, .ref a9, .ref a10, .ref a11, .int 0, .int 0, .int 0])), (a1, .inl (G.2 0, 1000, .inl (fun _ => 0)))] sz) [] t) (va_A [(a0, .inr (8, [.ref a1, .int 0, .int 0, .ref a2, .ref a3, .ref a4, .ref a5, .ref a6, .ref a7, .ref a8, .ref a9, .ref a10, .ref a11, .int 0, .int 0, .int 0])), (a1, .inl (G.2 0, 1000, .inl (fun _ => 0)))] sz)) 0 0 (va_A [(a0, .inr (8, [.ref a1, .int 0, .int 0, .ref a2, .ref a3, .ref a4, .ref a5, .ref a6, .ref a7, .ref a8, .ref a9, .ref a10, .ref a11, .int 0, .int 0, .int 0])), (a1, .inl (G.2 0, 1000, .inl (fun _ => 0)))] sz) := by
  refine m_body (y := yX11_feed) (cd := cX11_feed) (mL := 6) (rt := (some .int)) (rm := { frames := 1, cells := 0, slots := 0, locals := 22 }) (av := [.ref a0, .int i0, .int i1, .int i2, .int i3, .int i4]) (wc := [(a0, .inr (8, [.ref a1, .int 0, .int 0, .ref a2, .ref a3, .ref a4, .ref a5, .ref a6, .ref a7, .ref a8, .ref a9, .ref a10, .ref a11, .int 0, .int 0, .int 0])), (a1, .inl (G.2 0, 1000, .inl (fun _ => 0)))]) (G := G) (sz := sz) (Qf := fun A => va_Qi (fun r _ => r = 20) (fun (u9 : KS) t => Bw G A [] t) A) (by decide) (Nat.le_of_ble_eq_true rfl) ?_
  intro p e s m args below meth c ls A X hi hP hD hS hl
  have hx := X.1.1
  have hb := X.1.2.1
  have hi : meth.name = "feed" := hi
  have hl : lv_has ls 6 [(0, .ref a0), (1, .int i0), (2, .int i1), (3, .int i2), (4, .int i3), (5, .int i4)] := hl
  refine lv_aload_n hx hb dX11_feed_0 rfl (lv_at hl 0 rfl) ?_
  refine m_get (C := RX11) (T := TX11) (N := 16) (ci := 8) (v := .int 0) X hP 0 rfl rfl 1 (by decide) qw_131 inlX11 rfl dX11_feed_1 ?_
  refine lv_bipush (v := 20) hx hb dX11_feed_4 (by decide) ?_
  refine lv_iadd hx hb dX11_feed_6 ?_
  refine lv_topi (fun z91 ez91 => ?_)
  obtain rfl : z91 = 20 := ez91.trans (by decide)
  refine lv_sipush (v := 1000) hx hb dX11_feed_7 (by decide) ?_
  refine lv_icmp_le (tgt := 15) hx hb dX11_feed_10 (by decide) (fun _ => ?_) (fun c9 => absurd c9 (by decide))
  refine lv_aload_n hx hb dX11_feed_15 rfl (lv_at hl 0 rfl) ?_
  refine lv_iload_n hx hb dX11_feed_16 rfl (lv_at hl 1 rfl) ?_
  refine m_cVv (n := 1) (wr := []) (C := RX11) (T := TX11) (N := 16) (ci := 8) (As := [.int i0]) (rest := []) X hP hD hS (k9_X11_putNumber l G a0 i0 a1 a2 a3 a4 a5 a6 a7 a8 a9 a10 a11) [0, 1] [] rfl rfl (by decide) (by decide) (by decide) rfl rfl qw_132 qw_133 qw_134 qw_2 qw_135 ⟨rfl, by decide +kernel, by decide +kernel, by decide +kernel⟩ ⟨Nat.le_of_ble_eq_true rfl, Nat.le_of_ble_eq_true rfl⟩ hl rfl rfl (Nat.le_of_ble_eq_true rfl) dX11_feed_17 ⟨Nat.le_of_ble_eq_true rfl, Nat.le_of_ble_eq_true rfl⟩ (fun u108 H locs hw hP hD hS => ?_)
  have hP : va_P G.1 vwCl [(a0, .inr (8, [.ref a1, .int 4, .int 0, .ref a2, .ref a3, .ref a4, .ref a5, .ref a6, .ref a7, .ref a8, .ref a9, .ref a10, .ref a11, .int 0, .int 0, .int 0])), (a1, .inl (G.2 0, 1000, .inl (u108.2 0)))] H := hP
  have hD : va_D A [(a0, .inr (8, [.ref a1, .int 4, .int 0, .ref a2, .ref a3, .ref a4, .ref a5, .ref a6, .ref a7, .ref a8, .ref a9, .ref a10, .ref a11, .int 0, .int 0, .int 0])), (a1, .inl (G.2 0, 1000, .inl (u108.2 0)))] := hD
  refine lv_aload_n hx hb dX11_feed_20 rfl (lv_at hl 0 rfl) ?_
  refine lv_iload_n hx hb dX11_feed_21 rfl (lv_at hl 2 rfl) ?_
  refine m_cVv (n := 1) (wr := []) (C := RX11) (T := TX11) (N := 16) (ci := 8) (As := [.int i1]) (rest := []) X hP hD hS (k10_X11_putNumber l G a0 i1 a1 a2 a3 a4 a5 a6 a7 a8 a9 a10 a11 (u108.2 0)) [0, 1] [] rfl rfl (by decide) (by decide) (by decide) rfl rfl qw_132 qw_133 qw_134 qw_2 qw_135 ⟨rfl, by decide +kernel, by decide +kernel, by decide +kernel⟩ ⟨Nat.le_of_ble_eq_true rfl, Nat.le_of_ble_eq_true rfl⟩ hl rfl rfl (Nat.le_of_ble_eq_true rfl) dX11_feed_22 ⟨Nat.le_of_ble_eq_true rfl, Nat.le_of_ble_eq_true rfl⟩ (fun u125 H locs hw hP hD hS => ?_)
  have hP : va_P G.1 vwCl [(a0, .inr (8, [.ref a1, .int 8, .int 0, .ref a2, .ref a3, .ref a4, .ref a5, .ref a6, .ref a7, .ref a8, .ref a9, .ref a10, .ref a11, .int 0, .int 0, .int 0])), (a1, .inl (G.2 0, 1000, .inl (u125.2 0)))] H := hP
  have hD : va_D A [(a0, .inr (8, [.ref a1, .int 8, .int 0, .ref a2, .ref a3, .ref a4, .ref a5, .ref a6, .ref a7, .ref a8, .ref a9, .ref a10, .ref a11, .int 0, .int 0, .int 0])), (a1, .inl (G.2 0, 1000, .inl (u125.2 0)))] := hD
  refine lv_aload_n hx hb dX11_feed_25 rfl (lv_at hl 0 rfl) ?_
  refine lv_iload_n hx hb dX11_feed_26 rfl (lv_at hl 3 rfl) ?_
  refine m_cVv (n := 1) (wr := []) (C := RX11) (T := TX11) (N := 16) (ci := 8) (As := [.int i2]) (rest := []) X hP hD hS (k11_X11_putNumber l G a0 i2 a1 a2 a3 a4 a5 a6 a7 a8 a9 a10 a11 (u125.2 0)) [0, 1] [] rfl rfl (by decide) (by decide) (by decide) rfl rfl qw_132 qw_133 qw_134 qw_2 qw_135 ⟨rfl, by decide +kernel, by decide +kernel, by decide +kernel⟩ ⟨Nat.le_of_ble_eq_true rfl, Nat.le_of_ble_eq_true rfl⟩ hl rfl rfl (Nat.le_of_ble_eq_true rfl) dX11_feed_27 ⟨Nat.le_of_ble_eq_true rfl, Nat.le_of_ble_eq_true rfl⟩ (fun u142 H locs hw hP hD hS => ?_)
  have hP : va_P G.1 vwCl [(a0, .inr (8, [.ref a1, .int 12, .int 0, .ref a2, .ref a3, .ref a4, .ref a5, .ref a6, .ref a7, .ref a8, .ref a9, .ref a10, .ref a11, .int 0, .int 0, .int 0])), (a1, .inl (G.2 0, 1000, .inl (u142.2 0)))] H := hP
  have hD : va_D A [(a0, .inr (8, [.ref a1, .int 12, .int 0, .ref a2, .ref a3, .ref a4, .ref a5, .ref a6, .ref a7, .ref a8, .ref a9, .ref a10, .ref a11, .int 0, .int 0, .int 0])), (a1, .inl (G.2 0, 1000, .inl (u142.2 0)))] := hD
  refine lv_aload_n hx hb dX11_feed_30 rfl (lv_at hl 0 rfl) ?_
  refine lv_iload hx hb dX11_feed_31 (lv_at hl 4 rfl) ?_
  refine m_cVv (n := 1) (wr := []) (C := RX11) (T := TX11) (N := 16) (ci := 8) (As := [.int i3]) (rest := []) X hP hD hS (k12_X11_putNumber l G a0 i3 a1 a2 a3 a4 a5 a6 a7 a8 a9 a10 a11 (u142.2 0)) [0, 1] [] rfl rfl (by decide) (by decide) (by decide) rfl rfl qw_132 qw_133 qw_134 qw_2 qw_135 ⟨rfl, by decide +kernel, by decide +kernel, by decide +kernel⟩ ⟨Nat.le_of_ble_eq_true rfl, Nat.le_of_ble_eq_true rfl⟩ hl rfl rfl (Nat.le_of_ble_eq_true rfl) dX11_feed_33 ⟨Nat.le_of_ble_eq_true rfl, Nat.le_of_ble_eq_true rfl⟩ (fun u159 H locs hw hP hD hS => ?_)
  have hP : va_P G.1 vwCl [(a0, .inr (8, [.ref a1, .int 16, .int 0, .ref a2, .ref a3, .ref a4, .ref a5, .ref a6, .ref a7, .ref a8, .ref a9, .ref a10, .ref a11, .int 0, .int 0, .int 0])), (a1, .inl (G.2 0, 1000, .inl (u159.2 0)))] H := hP
  have hD : va_D A [(a0, .inr (8, [.ref a1, .int 16, .int 0, .ref a2, .ref a3, .ref a4, .ref a5, .ref a6, .ref a7, .ref a8, .ref a9, .ref a10, .ref a11, .int 0, .int 0, .int 0])), (a1, .inl (G.2 0, 1000, .inl (u159.2 0)))] := hD
  refine lv_aload_n hx hb dX11_feed_36 rfl (lv_at hl 0 rfl) ?_
  refine lv_iload hx hb dX11_feed_37 (lv_at hl 5 rfl) ?_
  refine m_cVv (n := 1) (wr := []) (C := RX11) (T := TX11) (N := 16) (ci := 8) (As := [.int i4]) (rest := []) X hP hD hS (k13_X11_putNumber l G a0 i4 a1 a2 a3 a4 a5 a6 a7 a8 a9 a10 a11 (u159.2 0)) [0, 1] [] rfl rfl (by decide) (by decide) (by decide) rfl rfl qw_132 qw_133 qw_134 qw_2 qw_135 ⟨rfl, by decide +kernel, by decide +kernel, by decide +kernel⟩ ⟨Nat.le_of_ble_eq_true rfl, Nat.le_of_ble_eq_true rfl⟩ hl rfl rfl (Nat.le_of_ble_eq_true rfl) dX11_feed_39 ⟨Nat.le_of_ble_eq_true rfl, Nat.le_of_ble_eq_true rfl⟩ (fun u176 H locs hw hP hD hS => ?_)
  have hP : va_P G.1 vwCl [(a0, .inr (8, [.ref a1, .int 20, .int 0, .ref a2, .ref a3, .ref a4, .ref a5, .ref a6, .ref a7, .ref a8, .ref a9, .ref a10, .ref a11, .int 0, .int 0, .int 0])), (a1, .inl (G.2 0, 1000, .inl (u176.2 0)))] H := hP
  have hD : va_D A [(a0, .inr (8, [.ref a1, .int 20, .int 0, .ref a2, .ref a3, .ref a4, .ref a5, .ref a6, .ref a7, .ref a8, .ref a9, .ref a10, .ref a11, .int 0, .int 0, .int 0])), (a1, .inl (G.2 0, 1000, .inl (u176.2 0)))] := hD
  refine lv_aload_n hx hb dX11_feed_42 rfl (lv_at hl 0 rfl) ?_
  refine m_get (C := RX11) (T := TX11) (N := 16) (ci := 8) (v := .int 20) X hP 0 rfl rfl 1 (by decide) qw_131 inlX11 rfl dX11_feed_43 ?_
  exact m_iret X hP hD hS ((fun _ => 0), (fun _ _ => 0)) [] (by decide) rfl rfl (Nat.le_of_ble_eq_true rfl) (Nat.le_of_ble_eq_true rfl) dX11_feed_46
set_option maxHeartbeats 4000000 in
set_option maxRecDepth 100000 in
theorem k15_X11_refuse (l : Launch) (G : KG) (a0 : Nat) (a1 : Nat) (a2 : Nat) (a3 : Nat) (a4 : Nat) (a5 : Nat) (a6 : Nat) (a7 : Nat) (a8 : Nat) (a9 : Nat) (a10 : Nat) (a11 : Nat) (sz : Nat) : Met l yX11_refuse (.code yX11_refuse cX11_refuse 2 (some .int) :: wsL_law) { frames := 0, cells := 0, slots := 0, locals := 0 } (va_Pc [.ref a0, .int 2] (Pw G [(a0, .inr (8, [.ref a1, .int 0, .int 0, .ref a2, .ref a3, .ref a4, .ref a5, .ref a6, .ref a7, .ref a8, .ref a9, .ref a10, .ref a11, .int 0, .int 0, .int 0]))] sz)) (va_Qi (fun r _ => r = (-1)) (fun (u9 : KS) t => Bw G (va_A [(a0, .inr (8, [.ref a1, .int 0, .int 0, .ref a2, .ref a3, .ref a4, .ref a5, .ref a6, .ref a7, .ref a8, .ref a9, .ref a10, .ref a11, .int 0, .int 0, .int 0]))] sz) [(a0, .inr (8, [.ref a1, .int 0, .int 0, .ref a2, .ref a3, .ref a4, .ref a5, .ref a6, .ref a7, .ref a8, .ref a9, .ref a10, .ref a11, .int 2, .int 0, .int 0]))] t) (va_A [(a0, .inr (8, [.ref a1, .int 0, .int 0, .ref a2, .ref a3, .ref a4, .ref a5, .ref a6, .ref a7, .ref a8, .ref a9, .ref a10, .ref a11, .int 0, .int 0, .int 0]))] sz)) 0 0 (va_A [(a0, .inr (8, [.ref a1, .int 0, .int 0, .ref a2, .ref a3, .ref a4, .ref a5, .ref a6, .ref a7, .ref a8, .ref a9, .ref a10, .ref a11, .int 0, .int 0, .int 0]))] sz) := by
  refine m_body (y := yX11_refuse) (cd := cX11_refuse) (mL := 2) (rt := (some .int)) (rm := { frames := 0, cells := 0, slots := 0, locals := 0 }) (av := [.ref a0, .int 2]) (wc := [(a0, .inr (8, [.ref a1, .int 0, .int 0, .ref a2, .ref a3, .ref a4, .ref a5, .ref a6, .ref a7, .ref a8, .ref a9, .ref a10, .ref a11, .int 0, .int 0, .int 0]))]) (G := G) (sz := sz) (Qf := fun A => va_Qi (fun r _ => r = (-1)) (fun (u9 : KS) t => Bw G A [(a0, .inr (8, [.ref a1, .int 0, .int 0, .ref a2, .ref a3, .ref a4, .ref a5, .ref a6, .ref a7, .ref a8, .ref a9, .ref a10, .ref a11, .int 2, .int 0, .int 0]))] t) A) (by decide) (Nat.le_of_ble_eq_true rfl) ?_
  intro p e s m args below meth c ls A X hi hP hD hS hl
  have hx := X.1.1
  have hb := X.1.2.1
  have hi : meth.name = "refuse" := hi
  have hl : lv_has ls 2 [(0, .ref a0), (1, .int 2)] := hl
  refine lv_aload_n hx hb dX11_refuse_0 rfl (lv_at hl 0 rfl) ?_
  refine lv_iload_n hx hb dX11_refuse_1 rfl (lv_at hl 1 rfl) ?_
  refine m_put (C := RX11) (T := TX11) (N := 16) (ci := 8) (v := .int 2) (ws' := [(a0, .inr (8, [.ref a1, .int 0, .int 0, .ref a2, .ref a3, .ref a4, .ref a5, .ref a6, .ref a7, .ref a8, .ref a9, .ref a10, .ref a11, .int 2, .int 0, .int 0]))]) X hP hD hS tyX11 tyX11_ok nmX11 0 rfl rfl 13 (by decide) qw_156 inlX11 rfl (by first | rfl | decide) (by first | rfl | decide) (Nat.le_of_ble_eq_true rfl) rfl dX11_refuse_2 (fun H locs hP hD hS => ?_)
  refine lv_iconst (v := (-1)) hx hb dX11_refuse_5 (by decide) ?_
  exact m_iret X hP hD hS ((fun _ => 0), (fun _ _ => 0)) [0] (by decide) rfl rfl (Nat.le_of_ble_eq_true rfl) (Nat.le_of_ble_eq_true rfl) dX11_refuse_6
set_option maxHeartbeats 4000000 in
set_option maxRecDepth 100000 in
theorem wet_loop0 (l : Launch) (G : KG) (a0 : Nat) (a1 : Nat) (a2 : Nat) (a3 : Nat) (a4 : Nat) (a5 : Nat) (a6 : Nat) (a7 : Nat) (a8 : Nat) (a9 : Nat)  {p : Program} {e : Env} {R : Room} {s : State} {m : MethodId} {args : Array Value} {below : List Frame} {meth : Method} {c : Code} {cells slots : Nat} {Q : State → Prop} {rt : Option FieldType} {A : Nat → Prop} {Ts : List Cond} (X : CX p s m args meth c cX1_clear 2 RX1 rt G A Ts)
    (exit : ∀ (f : Nat → Int32) (H : Heap) (locs : List Loc) (ls : Array Slot), va_P G.1 vwCl [(a0, .inr (1, [.int 0, .int 0, .int 0, .int 0, .int 0, .int 0, .int 0, .ref a1, .int 0, .ref a2, .int 0, .ref a3, .ref a4, .ref a5, .int 0, .ref a6, .int 0, .ref a7, .ref a8, .ref a9])), (a1, .inl (G.2 1, 144, .inl f)), (a7, .inl (G.2 0, 6, .inl (fun _ => 0))), (a8, .inl (G.2 0, 6, .inl (fun _ => 0))), (a9, .inl (G.2 0, 6, .inl (fun _ => 0)))] H → va_D A [(a0, .inr (1, [.int 0, .int 0, .int 0, .int 0, .int 0, .int 0, .int 0, .ref a1, .int 0, .ref a2, .int 0, .ref a3, .ref a4, .ref a5, .int 0, .ref a6, .int 0, .ref a7, .ref a8, .ref a9])), (a1, .inl (G.2 1, 144, .inl f)), (a7, .inl (G.2 0, 6, .inl (fun _ => 0))), (a8, .inl (G.2 0, 6, .inl (fun _ => 0))), (a9, .inl (G.2 0, 6, .inl (fun _ => 0)))] → va_S A s.heap H locs → lv_has ls 2 [(1, .int (nI 144)), (0, .ref a0)] → W p l e R s m args below meth c H locs cells slots Q (F0 m 54 ls [])) :
    ∀ (n k : Nat) (f : Nat → Int32) (H : Heap) (locs : List Loc) (ls : Array Slot), k + n = 144 → va_P G.1 vwCl [(a0, .inr (1, [.int 0, .int 0, .int 0, .int 0, .int 0, .int 0, .int 0, .ref a1, .int 0, .ref a2, .int 0, .ref a3, .ref a4, .ref a5, .int 0, .ref a6, .int 0, .ref a7, .ref a8, .ref a9])), (a1, .inl (G.2 1, 144, .inl f)), (a7, .inl (G.2 0, 6, .inl (fun _ => 0))), (a8, .inl (G.2 0, 6, .inl (fun _ => 0))), (a9, .inl (G.2 0, 6, .inl (fun _ => 0)))] H → va_D A [(a0, .inr (1, [.int 0, .int 0, .int 0, .int 0, .int 0, .int 0, .int 0, .ref a1, .int 0, .ref a2, .int 0, .ref a3, .ref a4, .ref a5, .int 0, .ref a6, .int 0, .ref a7, .ref a8, .ref a9])), (a1, .inl (G.2 1, 144, .inl f)), (a7, .inl (G.2 0, 6, .inl (fun _ => 0))), (a8, .inl (G.2 0, 6, .inl (fun _ => 0))), (a9, .inl (G.2 0, 6, .inl (fun _ => 0)))] → va_S A s.heap H locs → lv_has ls 2 [(1, .int (nI k)), (0, .ref a0)] → W p l e R s m args below meth c H locs cells slots Q (F0 m 32 ls []) := by
  have hx := X.1.1
  have hb := X.1.2.1
  intro n
  induction n with
  | zero =>
    intro k f H locs ls hk hP hD hS hl
    obtain rfl : k = 144 := by omega
    refine lv_iload_n hx hb dX1_clear_32 rfl (lv_at hl 0 rfl) ?_
    refine lv_aload_n hx hb dX1_clear_33 rfl (lv_at hl 1 rfl) ?_
    refine m_get (C := RX1) (T := TX1) (N := 20) (ci := 1) (v := .ref a1) X hP 0 rfl rfl 7 (by decide) qw_50 inlX1 rfl dX1_clear_34 ?_
    refine m_alen (v := 144) X hP 1 1 rfl rfl rfl dX1_clear_37 ?_
    refine lv_icmp_ge (tgt := 54) hx hb dX1_clear_38 (by decide) (fun _ => ?_) (fun c9 => absurd c9 (by decide))
    exact exit f H locs ls hP hD hS hl
  | succ n ih =>
    intro k f H locs ls hk hP hD hS hl
    have hk2 : k < 144 := by omega
    refine lv_iload_n hx hb dX1_clear_32 rfl (lv_at hl 0 rfl) ?_
    refine lv_aload_n hx hb dX1_clear_33 rfl (lv_at hl 1 rfl) ?_
    refine m_get (C := RX1) (T := TX1) (N := 20) (ci := 1) (v := .ref a1) X hP 0 rfl rfl 7 (by decide) qw_50 inlX1 rfl dX1_clear_34 ?_
    refine m_alen (v := 144) X hP 1 1 rfl rfl rfl dX1_clear_37 ?_
    refine lv_icmp_ge (tgt := 54) hx hb dX1_clear_38 (by decide) (fun c9 => absurd c9 (nI_ge (a := k) (b := 144) hk2 (by decide))) (fun _ => ?_)
    refine lv_aload_n hx hb dX1_clear_41 rfl (lv_at hl 1 rfl) ?_
    refine m_get (C := RX1) (T := TX1) (N := 20) (ci := 1) (v := .ref a1) X hP 0 rfl rfl 7 (by decide) qw_50 inlX1 rfl dX1_clear_42 ?_
    refine lv_iload_n hx hb dX1_clear_45 rfl (lv_at hl 0 rfl) ?_
    refine lv_iconst (v := 0) hx hb dX1_clear_46 (by decide) ?_
    refine m_zast (ws' := fun f => [(a0, .inr (1, [.int 0, .int 0, .int 0, .int 0, .int 0, .int 0, .int 0, .ref a1, .int 0, .ref a2, .int 0, .ref a3, .ref a4, .ref a5, .int 0, .ref a6, .int 0, .ref a7, .ref a8, .ref a9])), (a1, .inl (G.2 1, 144, .inl f)), (a7, .inl (G.2 0, 6, .inl (fun _ => 0))), (a8, .inl (G.2 0, 6, .inl (fun _ => 0))), (a9, .inl (G.2 0, 6, .inl (fun _ => 0)))]) X hP hD hS 1 rfl (vp_in_nI hk2 (by decide)) (fun _ => rfl) dX1_clear_47 (fun f H locs hP hD hS => ?_)
    refine lv_iinc (v := nI (k + 1)) (lv' := [(1, .int (nI (k + 1))), (0, .ref a0)]) hx hb dX1_clear_48 hl (k := 0) rfl (nI_succ k).symm (by decide) rfl (fun ls hl => ?_)
    refine lv_goto (tgt := 32) hx hb dX1_clear_51 (by decide) ?_
    exact ih (k + 1) f H locs ls (by omega) hP hD hS hl
set_option maxHeartbeats 4000000 in
set_option maxRecDepth 100000 in
theorem k17_X1_clear (l : Launch) (G : KG) (a0 : Nat) (a1 : Nat) (a2 : Nat) (a3 : Nat) (a4 : Nat) (a5 : Nat) (a6 : Nat) (a7 : Nat) (a8 : Nat) (a9 : Nat) (sz : Nat) : Met l yX1_clear (.code yX1_clear cX1_clear 2 none :: wsL_law) { frames := 0, cells := 0, slots := 0, locals := 0 } (va_Pc [.ref a0] (Pw G [(a0, .inr (1, [.int 0, .int 0, .int 0, .int 0, .int 0, .int 0, .int 0, .ref a1, .int 0, .ref a2, .int 0, .ref a3, .ref a4, .ref a5, .int 0, .ref a6, .int 0, .ref a7, .ref a8, .ref a9])), (a1, .inl (G.2 1, 144, .inl (fun _ => 0))), (a7, .inl (G.2 0, 6, .inl (fun _ => 0))), (a8, .inl (G.2 0, 6, .inl (fun _ => 0))), (a9, .inl (G.2 0, 6, .inl (fun _ => 0)))] sz)) (va_Qv (fun _ => True) (fun (u9 : KS) t => Bw G (va_A [(a0, .inr (1, [.int 0, .int 0, .int 0, .int 0, .int 0, .int 0, .int 0, .ref a1, .int 0, .ref a2, .int 0, .ref a3, .ref a4, .ref a5, .int 0, .ref a6, .int 0, .ref a7, .ref a8, .ref a9])), (a1, .inl (G.2 1, 144, .inl (fun _ => 0))), (a7, .inl (G.2 0, 6, .inl (fun _ => 0))), (a8, .inl (G.2 0, 6, .inl (fun _ => 0))), (a9, .inl (G.2 0, 6, .inl (fun _ => 0)))] sz) [(a0, .inr (1, [.int 0, .int 0, .int 0, .int 0, .int 0, .int 0, .int 0, .ref a1, .int 0, .ref a2, .int 0, .ref a3, .ref a4, .ref a5, .int 0, .ref a6, .int 0, .ref a7, .ref a8, .ref a9])), (a1, .inl (G.2 1, 144, .inl (u9.2 0))), (a7, .inl (G.2 0, 6, .inl (u9.2 1))), (a8, .inl (G.2 0, 6, .inl (u9.2 2))), (a9, .inl (G.2 0, 6, .inl (u9.2 3)))] t) (va_A [(a0, .inr (1, [.int 0, .int 0, .int 0, .int 0, .int 0, .int 0, .int 0, .ref a1, .int 0, .ref a2, .int 0, .ref a3, .ref a4, .ref a5, .int 0, .ref a6, .int 0, .ref a7, .ref a8, .ref a9])), (a1, .inl (G.2 1, 144, .inl (fun _ => 0))), (a7, .inl (G.2 0, 6, .inl (fun _ => 0))), (a8, .inl (G.2 0, 6, .inl (fun _ => 0))), (a9, .inl (G.2 0, 6, .inl (fun _ => 0)))] sz)) 0 0 (va_A [(a0, .inr (1, [.int 0, .int 0, .int 0, .int 0, .int 0, .int 0, .int 0, .ref a1, .int 0, .ref a2, .int 0, .ref a3, .ref a4, .ref a5, .int 0, .ref a6, .int 0, .ref a7, .ref a8, .ref a9])), (a1, .inl (G.2 1, 144, .inl (fun _ => 0))), (a7, .inl (G.2 0, 6, .inl (fun _ => 0))), (a8, .inl (G.2 0, 6, .inl (fun _ => 0))), (a9, .inl (G.2 0, 6, .inl (fun _ => 0)))] sz) := by
  refine m_body (y := yX1_clear) (cd := cX1_clear) (mL := 2) (rt := none) (rm := { frames := 0, cells := 0, slots := 0, locals := 0 }) (av := [.ref a0]) (wc := [(a0, .inr (1, [.int 0, .int 0, .int 0, .int 0, .int 0, .int 0, .int 0, .ref a1, .int 0, .ref a2, .int 0, .ref a3, .ref a4, .ref a5, .int 0, .ref a6, .int 0, .ref a7, .ref a8, .ref a9])), (a1, .inl (G.2 1, 144, .inl (fun _ => 0))), (a7, .inl (G.2 0, 6, .inl (fun _ => 0))), (a8, .inl (G.2 0, 6, .inl (fun _ => 0))), (a9, .inl (G.2 0, 6, .inl (fun _ => 0)))]) (G := G) (sz := sz) (Qf := fun A => va_Qv (fun _ => True) (fun (u9 : KS) t => Bw G A [(a0, .inr (1, [.int 0, .int 0, .int 0, .int 0, .int 0, .int 0, .int 0, .ref a1, .int 0, .ref a2, .int 0, .ref a3, .ref a4, .ref a5, .int 0, .ref a6, .int 0, .ref a7, .ref a8, .ref a9])), (a1, .inl (G.2 1, 144, .inl (u9.2 0))), (a7, .inl (G.2 0, 6, .inl (u9.2 1))), (a8, .inl (G.2 0, 6, .inl (u9.2 2))), (a9, .inl (G.2 0, 6, .inl (u9.2 3)))] t) A) (by decide) (Nat.le_of_ble_eq_true rfl) ?_
  intro p e s m args below meth c ls A X hi hP hD hS hl
  have hx := X.1.1
  have hb := X.1.2.1
  have hi : meth.name = "clear" := hi
  have hl : lv_has ls 2 [(0, .ref a0)] := hl
  refine lv_aload_n hx hb dX1_clear_0 rfl (lv_at hl 0 rfl) ?_
  refine lv_iconst (v := 0) hx hb dX1_clear_1 (by decide) ?_
  refine m_put (C := RX1) (T := TX1) (N := 20) (ci := 1) (v := .int 0) (ws' := [(a0, .inr (1, [.int 0, .int 0, .int 0, .int 0, .int 0, .int 0, .int 0, .ref a1, .int 0, .ref a2, .int 0, .ref a3, .ref a4, .ref a5, .int 0, .ref a6, .int 0, .ref a7, .ref a8, .ref a9])), (a1, .inl (G.2 1, 144, .inl (fun _ => 0))), (a7, .inl (G.2 0, 6, .inl (fun _ => 0))), (a8, .inl (G.2 0, 6, .inl (fun _ => 0))), (a9, .inl (G.2 0, 6, .inl (fun _ => 0)))]) X hP hD hS tyX1 tyX1_ok nmX1 0 rfl rfl 0 (by decide) qw_177 inlX1 rfl (by first | rfl | decide) (by first | rfl | decide) (Nat.le_of_ble_eq_true rfl) rfl dX1_clear_2 (fun H locs hP hD hS => ?_)
  refine lv_aload_n hx hb dX1_clear_5 rfl (lv_at hl 0 rfl) ?_
  refine lv_iconst (v := 0) hx hb dX1_clear_6 (by decide) ?_
  refine m_put (C := RX1) (T := TX1) (N := 20) (ci := 1) (v := .int 0) (ws' := [(a0, .inr (1, [.int 0, .int 0, .int 0, .int 0, .int 0, .int 0, .int 0, .ref a1, .int 0, .ref a2, .int 0, .ref a3, .ref a4, .ref a5, .int 0, .ref a6, .int 0, .ref a7, .ref a8, .ref a9])), (a1, .inl (G.2 1, 144, .inl (fun _ => 0))), (a7, .inl (G.2 0, 6, .inl (fun _ => 0))), (a8, .inl (G.2 0, 6, .inl (fun _ => 0))), (a9, .inl (G.2 0, 6, .inl (fun _ => 0)))]) X hP hD hS tyX1 tyX1_ok nmX1 0 rfl rfl 1 (by decide) qw_178 inlX1 rfl (by first | rfl | decide) (by first | rfl | decide) (Nat.le_of_ble_eq_true rfl) rfl dX1_clear_7 (fun H locs hP hD hS => ?_)
  refine lv_aload_n hx hb dX1_clear_10 rfl (lv_at hl 0 rfl) ?_
  refine lv_iconst (v := 0) hx hb dX1_clear_11 (by decide) ?_
  refine m_put (C := RX1) (T := TX1) (N := 20) (ci := 1) (v := .int 0) (ws' := [(a0, .inr (1, [.int 0, .int 0, .int 0, .int 0, .int 0, .int 0, .int 0, .ref a1, .int 0, .ref a2, .int 0, .ref a3, .ref a4, .ref a5, .int 0, .ref a6, .int 0, .ref a7, .ref a8, .ref a9])), (a1, .inl (G.2 1, 144, .inl (fun _ => 0))), (a7, .inl (G.2 0, 6, .inl (fun _ => 0))), (a8, .inl (G.2 0, 6, .inl (fun _ => 0))), (a9, .inl (G.2 0, 6, .inl (fun _ => 0)))]) X hP hD hS tyX1 tyX1_ok nmX1 0 rfl rfl 8 (by decide) qw_179 inlX1 rfl (by first | rfl | decide) (by first | rfl | decide) (Nat.le_of_ble_eq_true rfl) rfl dX1_clear_12 (fun H locs hP hD hS => ?_)
  refine lv_aload_n hx hb dX1_clear_15 rfl (lv_at hl 0 rfl) ?_
  refine lv_iconst (v := 0) hx hb dX1_clear_16 (by decide) ?_
  refine m_put (C := RX1) (T := TX1) (N := 20) (ci := 1) (v := .int 0) (ws' := [(a0, .inr (1, [.int 0, .int 0, .int 0, .int 0, .int 0, .int 0, .int 0, .ref a1, .int 0, .ref a2, .int 0, .ref a3, .ref a4, .ref a5, .int 0, .ref a6, .int 0, .ref a7, .ref a8, .ref a9])), (a1, .inl (G.2 1, 144, .inl (fun _ => 0))), (a7, .inl (G.2 0, 6, .inl (fun _ => 0))), (a8, .inl (G.2 0, 6, .inl (fun _ => 0))), (a9, .inl (G.2 0, 6, .inl (fun _ => 0)))]) X hP hD hS tyX1 tyX1_ok nmX1 0 rfl rfl 10 (by decide) qw_180 inlX1 rfl (by first | rfl | decide) (by first | rfl | decide) (Nat.le_of_ble_eq_true rfl) rfl dX1_clear_17 (fun H locs hP hD hS => ?_)
  refine lv_aload_n hx hb dX1_clear_20 rfl (lv_at hl 0 rfl) ?_
  refine lv_iconst (v := 0) hx hb dX1_clear_21 (by decide) ?_
  refine m_put (C := RX1) (T := TX1) (N := 20) (ci := 1) (v := .int 0) (ws' := [(a0, .inr (1, [.int 0, .int 0, .int 0, .int 0, .int 0, .int 0, .int 0, .ref a1, .int 0, .ref a2, .int 0, .ref a3, .ref a4, .ref a5, .int 0, .ref a6, .int 0, .ref a7, .ref a8, .ref a9])), (a1, .inl (G.2 1, 144, .inl (fun _ => 0))), (a7, .inl (G.2 0, 6, .inl (fun _ => 0))), (a8, .inl (G.2 0, 6, .inl (fun _ => 0))), (a9, .inl (G.2 0, 6, .inl (fun _ => 0)))]) X hP hD hS tyX1 tyX1_ok nmX1 0 rfl rfl 14 (by decide) qw_181 inlX1 rfl (by first | rfl | decide) (by first | rfl | decide) (Nat.le_of_ble_eq_true rfl) rfl dX1_clear_22 (fun H locs hP hD hS => ?_)
  refine lv_aload_n hx hb dX1_clear_25 rfl (lv_at hl 0 rfl) ?_
  refine lv_iconst (v := 0) hx hb dX1_clear_26 (by decide) ?_
  refine m_put (C := RX1) (T := TX1) (N := 20) (ci := 1) (v := .int 0) (ws' := [(a0, .inr (1, [.int 0, .int 0, .int 0, .int 0, .int 0, .int 0, .int 0, .ref a1, .int 0, .ref a2, .int 0, .ref a3, .ref a4, .ref a5, .int 0, .ref a6, .int 0, .ref a7, .ref a8, .ref a9])), (a1, .inl (G.2 1, 144, .inl (fun _ => 0))), (a7, .inl (G.2 0, 6, .inl (fun _ => 0))), (a8, .inl (G.2 0, 6, .inl (fun _ => 0))), (a9, .inl (G.2 0, 6, .inl (fun _ => 0)))]) X hP hD hS tyX1 tyX1_ok nmX1 0 rfl rfl 16 (by decide) qw_182 inlX1 rfl (by first | rfl | decide) (by first | rfl | decide) (Nat.le_of_ble_eq_true rfl) rfl dX1_clear_27 (fun H locs hP hD hS => ?_)
  refine lv_iconst (v := 0) hx hb dX1_clear_30 (by decide) ?_
  refine lv_istore_n (lv' := [(1, .int 0), (0, .ref a0)]) hx hb dX1_clear_31 rfl hl (by decide) rfl (fun ls hl => ?_)
  refine wet_loop0 l G a0 a1 a2 a3 a4 a5 a6 a7 a8 a9  X (fun f180 H locs ls hP hD hS hl => ?_) 144 0 _ _ _ _ rfl hP hD hS hl
  refine lv_iconst (v := 0) hx hb dX1_clear_54 (by decide) ?_
  refine lv_istore_n (lv' := [(1, .int 0), (0, .ref a0)]) hx hb dX1_clear_55 rfl hl (by decide) rfl (fun ls hl => ?_)
  refine lv_iload_n hx hb dX1_clear_56 rfl (lv_at hl 0 rfl) ?_
  refine lv_bipush (v := 6) hx hb dX1_clear_57 (by decide) ?_
  refine lv_icmp_ge (tgt := 89) hx hb dX1_clear_59 (by decide) (fun c9 => absurd c9 (by decide)) (fun _ => ?_)
  refine lv_aload_n hx hb dX1_clear_62 rfl (lv_at hl 1 rfl) ?_
  refine m_get (C := RX1) (T := TX1) (N := 20) (ci := 1) (v := .ref a7) X hP 0 rfl rfl 17 (by decide) qw_56 inlX1 rfl dX1_clear_63 ?_
  refine lv_iload_n hx hb dX1_clear_66 rfl (lv_at hl 0 rfl) ?_
  refine lv_iconst (v := 0) hx hb dX1_clear_67 (by decide) ?_
  refine m_iast (ws' := fun f181 => [(a0, .inr (1, [.int 0, .int 0, .int 0, .int 0, .int 0, .int 0, .int 0, .ref a1, .int 0, .ref a2, .int 0, .ref a3, .ref a4, .ref a5, .int 0, .ref a6, .int 0, .ref a7, .ref a8, .ref a9])), (a1, .inl (G.2 1, 144, .inl f180)), (a7, .inl (G.2 0, 6, .inl f181)), (a8, .inl (G.2 0, 6, .inl (fun _ => 0))), (a9, .inl (G.2 0, 6, .inl (fun _ => 0)))]) X hP hD hS 2 rfl (vin (by decide)) (fun _ => rfl) dX1_clear_68 (fun f181 H locs hP hD hS => ?_)
  refine lv_aload_n hx hb dX1_clear_69 rfl (lv_at hl 1 rfl) ?_
  refine m_get (C := RX1) (T := TX1) (N := 20) (ci := 1) (v := .ref a8) X hP 0 rfl rfl 18 (by decide) qw_57 inlX1 rfl dX1_clear_70 ?_
  refine lv_iload_n hx hb dX1_clear_73 rfl (lv_at hl 0 rfl) ?_
  refine lv_iconst (v := (-1)) hx hb dX1_clear_74 (by decide) ?_
  refine m_iast (ws' := fun f182 => [(a0, .inr (1, [.int 0, .int 0, .int 0, .int 0, .int 0, .int 0, .int 0, .ref a1, .int 0, .ref a2, .int 0, .ref a3, .ref a4, .ref a5, .int 0, .ref a6, .int 0, .ref a7, .ref a8, .ref a9])), (a1, .inl (G.2 1, 144, .inl f180)), (a7, .inl (G.2 0, 6, .inl f181)), (a8, .inl (G.2 0, 6, .inl f182)), (a9, .inl (G.2 0, 6, .inl (fun _ => 0)))]) X hP hD hS 3 rfl (vin (by decide)) (fun _ => rfl) dX1_clear_75 (fun f182 H locs hP hD hS => ?_)
  refine lv_aload_n hx hb dX1_clear_76 rfl (lv_at hl 1 rfl) ?_
  refine m_get (C := RX1) (T := TX1) (N := 20) (ci := 1) (v := .ref a9) X hP 0 rfl rfl 19 (by decide) qw_58 inlX1 rfl dX1_clear_77 ?_
  refine lv_iload_n hx hb dX1_clear_80 rfl (lv_at hl 0 rfl) ?_
  refine lv_iconst (v := (-1)) hx hb dX1_clear_81 (by decide) ?_
  refine m_iast (ws' := fun f183 => [(a0, .inr (1, [.int 0, .int 0, .int 0, .int 0, .int 0, .int 0, .int 0, .ref a1, .int 0, .ref a2, .int 0, .ref a3, .ref a4, .ref a5, .int 0, .ref a6, .int 0, .ref a7, .ref a8, .ref a9])), (a1, .inl (G.2 1, 144, .inl f180)), (a7, .inl (G.2 0, 6, .inl f181)), (a8, .inl (G.2 0, 6, .inl f182)), (a9, .inl (G.2 0, 6, .inl f183))]) X hP hD hS 4 rfl (vin (by decide)) (fun _ => rfl) dX1_clear_82 (fun f183 H locs hP hD hS => ?_)
  refine lv_iinc (v := 1) (lv' := [(1, .int 1), (0, .ref a0)]) hx hb dX1_clear_83 hl (k := 0) rfl (by decide) (by decide) rfl (fun ls hl => ?_)
  refine lv_goto (tgt := 56) hx hb dX1_clear_86 (by decide) ?_
  refine lv_iload_n hx hb dX1_clear_56 rfl (lv_at hl 0 rfl) ?_
  refine lv_bipush (v := 6) hx hb dX1_clear_57 (by decide) ?_
  refine lv_icmp_ge (tgt := 89) hx hb dX1_clear_59 (by decide) (fun c9 => absurd c9 (by decide)) (fun _ => ?_)
  refine lv_aload_n hx hb dX1_clear_62 rfl (lv_at hl 1 rfl) ?_
  refine m_get (C := RX1) (T := TX1) (N := 20) (ci := 1) (v := .ref a7) X hP 0 rfl rfl 17 (by decide) qw_56 inlX1 rfl dX1_clear_63 ?_
  refine lv_iload_n hx hb dX1_clear_66 rfl (lv_at hl 0 rfl) ?_
  refine lv_iconst (v := 0) hx hb dX1_clear_67 (by decide) ?_
  refine m_iast (ws' := fun f184 => [(a0, .inr (1, [.int 0, .int 0, .int 0, .int 0, .int 0, .int 0, .int 0, .ref a1, .int 0, .ref a2, .int 0, .ref a3, .ref a4, .ref a5, .int 0, .ref a6, .int 0, .ref a7, .ref a8, .ref a9])), (a1, .inl (G.2 1, 144, .inl f180)), (a7, .inl (G.2 0, 6, .inl f184)), (a8, .inl (G.2 0, 6, .inl f182)), (a9, .inl (G.2 0, 6, .inl f183))]) X hP hD hS 2 rfl (vin (by decide)) (fun _ => rfl) dX1_clear_68 (fun f184 H locs hP hD hS => ?_)
  refine lv_aload_n hx hb dX1_clear_69 rfl (lv_at hl 1 rfl) ?_
  refine m_get (C := RX1) (T := TX1) (N := 20) (ci := 1) (v := .ref a8) X hP 0 rfl rfl 18 (by decide) qw_57 inlX1 rfl dX1_clear_70 ?_
  refine lv_iload_n hx hb dX1_clear_73 rfl (lv_at hl 0 rfl) ?_
  refine lv_iconst (v := (-1)) hx hb dX1_clear_74 (by decide) ?_
  refine m_iast (ws' := fun f185 => [(a0, .inr (1, [.int 0, .int 0, .int 0, .int 0, .int 0, .int 0, .int 0, .ref a1, .int 0, .ref a2, .int 0, .ref a3, .ref a4, .ref a5, .int 0, .ref a6, .int 0, .ref a7, .ref a8, .ref a9])), (a1, .inl (G.2 1, 144, .inl f180)), (a7, .inl (G.2 0, 6, .inl f184)), (a8, .inl (G.2 0, 6, .inl f185)), (a9, .inl (G.2 0, 6, .inl f183))]) X hP hD hS 3 rfl (vin (by decide)) (fun _ => rfl) dX1_clear_75 (fun f185 H locs hP hD hS => ?_)
  refine lv_aload_n hx hb dX1_clear_76 rfl (lv_at hl 1 rfl) ?_
  refine m_get (C := RX1) (T := TX1) (N := 20) (ci := 1) (v := .ref a9) X hP 0 rfl rfl 19 (by decide) qw_58 inlX1 rfl dX1_clear_77 ?_
  refine lv_iload_n hx hb dX1_clear_80 rfl (lv_at hl 0 rfl) ?_
  refine lv_iconst (v := (-1)) hx hb dX1_clear_81 (by decide) ?_
  refine m_iast (ws' := fun f186 => [(a0, .inr (1, [.int 0, .int 0, .int 0, .int 0, .int 0, .int 0, .int 0, .ref a1, .int 0, .ref a2, .int 0, .ref a3, .ref a4, .ref a5, .int 0, .ref a6, .int 0, .ref a7, .ref a8, .ref a9])), (a1, .inl (G.2 1, 144, .inl f180)), (a7, .inl (G.2 0, 6, .inl f184)), (a8, .inl (G.2 0, 6, .inl f185)), (a9, .inl (G.2 0, 6, .inl f186))]) X hP hD hS 4 rfl (vin (by decide)) (fun _ => rfl) dX1_clear_82 (fun f186 H locs hP hD hS => ?_)
  refine lv_iinc (v := 2) (lv' := [(1, .int 2), (0, .ref a0)]) hx hb dX1_clear_83 hl (k := 0) rfl (by decide) (by decide) rfl (fun ls hl => ?_)
  refine lv_goto (tgt := 56) hx hb dX1_clear_86 (by decide) ?_
  refine lv_iload_n hx hb dX1_clear_56 rfl (lv_at hl 0 rfl) ?_
  refine lv_bipush (v := 6) hx hb dX1_clear_57 (by decide) ?_
  refine lv_icmp_ge (tgt := 89) hx hb dX1_clear_59 (by decide) (fun c9 => absurd c9 (by decide)) (fun _ => ?_)
  refine lv_aload_n hx hb dX1_clear_62 rfl (lv_at hl 1 rfl) ?_
  refine m_get (C := RX1) (T := TX1) (N := 20) (ci := 1) (v := .ref a7) X hP 0 rfl rfl 17 (by decide) qw_56 inlX1 rfl dX1_clear_63 ?_
  refine lv_iload_n hx hb dX1_clear_66 rfl (lv_at hl 0 rfl) ?_
  refine lv_iconst (v := 0) hx hb dX1_clear_67 (by decide) ?_
  refine m_iast (ws' := fun f187 => [(a0, .inr (1, [.int 0, .int 0, .int 0, .int 0, .int 0, .int 0, .int 0, .ref a1, .int 0, .ref a2, .int 0, .ref a3, .ref a4, .ref a5, .int 0, .ref a6, .int 0, .ref a7, .ref a8, .ref a9])), (a1, .inl (G.2 1, 144, .inl f180)), (a7, .inl (G.2 0, 6, .inl f187)), (a8, .inl (G.2 0, 6, .inl f185)), (a9, .inl (G.2 0, 6, .inl f186))]) X hP hD hS 2 rfl (vin (by decide)) (fun _ => rfl) dX1_clear_68 (fun f187 H locs hP hD hS => ?_)
  refine lv_aload_n hx hb dX1_clear_69 rfl (lv_at hl 1 rfl) ?_
  refine m_get (C := RX1) (T := TX1) (N := 20) (ci := 1) (v := .ref a8) X hP 0 rfl rfl 18 (by decide) qw_57 inlX1 rfl dX1_clear_70 ?_
  refine lv_iload_n hx hb dX1_clear_73 rfl (lv_at hl 0 rfl) ?_
  refine lv_iconst (v := (-1)) hx hb dX1_clear_74 (by decide) ?_
  refine m_iast (ws' := fun f188 => [(a0, .inr (1, [.int 0, .int 0, .int 0, .int 0, .int 0, .int 0, .int 0, .ref a1, .int 0, .ref a2, .int 0, .ref a3, .ref a4, .ref a5, .int 0, .ref a6, .int 0, .ref a7, .ref a8, .ref a9])), (a1, .inl (G.2 1, 144, .inl f180)), (a7, .inl (G.2 0, 6, .inl f187)), (a8, .inl (G.2 0, 6, .inl f188)), (a9, .inl (G.2 0, 6, .inl f186))]) X hP hD hS 3 rfl (vin (by decide)) (fun _ => rfl) dX1_clear_75 (fun f188 H locs hP hD hS => ?_)
  refine lv_aload_n hx hb dX1_clear_76 rfl (lv_at hl 1 rfl) ?_
  refine m_get (C := RX1) (T := TX1) (N := 20) (ci := 1) (v := .ref a9) X hP 0 rfl rfl 19 (by decide) qw_58 inlX1 rfl dX1_clear_77 ?_
  refine lv_iload_n hx hb dX1_clear_80 rfl (lv_at hl 0 rfl) ?_
  refine lv_iconst (v := (-1)) hx hb dX1_clear_81 (by decide) ?_
  refine m_iast (ws' := fun f189 => [(a0, .inr (1, [.int 0, .int 0, .int 0, .int 0, .int 0, .int 0, .int 0, .ref a1, .int 0, .ref a2, .int 0, .ref a3, .ref a4, .ref a5, .int 0, .ref a6, .int 0, .ref a7, .ref a8, .ref a9])), (a1, .inl (G.2 1, 144, .inl f180)), (a7, .inl (G.2 0, 6, .inl f187)), (a8, .inl (G.2 0, 6, .inl f188)), (a9, .inl (G.2 0, 6, .inl f189))]) X hP hD hS 4 rfl (vin (by decide)) (fun _ => rfl) dX1_clear_82 (fun f189 H locs hP hD hS => ?_)
  refine lv_iinc (v := 3) (lv' := [(1, .int 3), (0, .ref a0)]) hx hb dX1_clear_83 hl (k := 0) rfl (by decide) (by decide) rfl (fun ls hl => ?_)
  refine lv_goto (tgt := 56) hx hb dX1_clear_86 (by decide) ?_
  refine lv_iload_n hx hb dX1_clear_56 rfl (lv_at hl 0 rfl) ?_
  refine lv_bipush (v := 6) hx hb dX1_clear_57 (by decide) ?_
  refine lv_icmp_ge (tgt := 89) hx hb dX1_clear_59 (by decide) (fun c9 => absurd c9 (by decide)) (fun _ => ?_)
  refine lv_aload_n hx hb dX1_clear_62 rfl (lv_at hl 1 rfl) ?_
  refine m_get (C := RX1) (T := TX1) (N := 20) (ci := 1) (v := .ref a7) X hP 0 rfl rfl 17 (by decide) qw_56 inlX1 rfl dX1_clear_63 ?_
  refine lv_iload_n hx hb dX1_clear_66 rfl (lv_at hl 0 rfl) ?_
  refine lv_iconst (v := 0) hx hb dX1_clear_67 (by decide) ?_
  refine m_iast (ws' := fun f190 => [(a0, .inr (1, [.int 0, .int 0, .int 0, .int 0, .int 0, .int 0, .int 0, .ref a1, .int 0, .ref a2, .int 0, .ref a3, .ref a4, .ref a5, .int 0, .ref a6, .int 0, .ref a7, .ref a8, .ref a9])), (a1, .inl (G.2 1, 144, .inl f180)), (a7, .inl (G.2 0, 6, .inl f190)), (a8, .inl (G.2 0, 6, .inl f188)), (a9, .inl (G.2 0, 6, .inl f189))]) X hP hD hS 2 rfl (vin (by decide)) (fun _ => rfl) dX1_clear_68 (fun f190 H locs hP hD hS => ?_)
  refine lv_aload_n hx hb dX1_clear_69 rfl (lv_at hl 1 rfl) ?_
  refine m_get (C := RX1) (T := TX1) (N := 20) (ci := 1) (v := .ref a8) X hP 0 rfl rfl 18 (by decide) qw_57 inlX1 rfl dX1_clear_70 ?_
  refine lv_iload_n hx hb dX1_clear_73 rfl (lv_at hl 0 rfl) ?_
  refine lv_iconst (v := (-1)) hx hb dX1_clear_74 (by decide) ?_
  refine m_iast (ws' := fun f191 => [(a0, .inr (1, [.int 0, .int 0, .int 0, .int 0, .int 0, .int 0, .int 0, .ref a1, .int 0, .ref a2, .int 0, .ref a3, .ref a4, .ref a5, .int 0, .ref a6, .int 0, .ref a7, .ref a8, .ref a9])), (a1, .inl (G.2 1, 144, .inl f180)), (a7, .inl (G.2 0, 6, .inl f190)), (a8, .inl (G.2 0, 6, .inl f191)), (a9, .inl (G.2 0, 6, .inl f189))]) X hP hD hS 3 rfl (vin (by decide)) (fun _ => rfl) dX1_clear_75 (fun f191 H locs hP hD hS => ?_)
  refine lv_aload_n hx hb dX1_clear_76 rfl (lv_at hl 1 rfl) ?_
  refine m_get (C := RX1) (T := TX1) (N := 20) (ci := 1) (v := .ref a9) X hP 0 rfl rfl 19 (by decide) qw_58 inlX1 rfl dX1_clear_77 ?_
  refine lv_iload_n hx hb dX1_clear_80 rfl (lv_at hl 0 rfl) ?_
  refine lv_iconst (v := (-1)) hx hb dX1_clear_81 (by decide) ?_
  refine m_iast (ws' := fun f192 => [(a0, .inr (1, [.int 0, .int 0, .int 0, .int 0, .int 0, .int 0, .int 0, .ref a1, .int 0, .ref a2, .int 0, .ref a3, .ref a4, .ref a5, .int 0, .ref a6, .int 0, .ref a7, .ref a8, .ref a9])), (a1, .inl (G.2 1, 144, .inl f180)), (a7, .inl (G.2 0, 6, .inl f190)), (a8, .inl (G.2 0, 6, .inl f191)), (a9, .inl (G.2 0, 6, .inl f192))]) X hP hD hS 4 rfl (vin (by decide)) (fun _ => rfl) dX1_clear_82 (fun f192 H locs hP hD hS => ?_)
  refine lv_iinc (v := 4) (lv' := [(1, .int 4), (0, .ref a0)]) hx hb dX1_clear_83 hl (k := 0) rfl (by decide) (by decide) rfl (fun ls hl => ?_)
  refine lv_goto (tgt := 56) hx hb dX1_clear_86 (by decide) ?_
  refine lv_iload_n hx hb dX1_clear_56 rfl (lv_at hl 0 rfl) ?_
  refine lv_bipush (v := 6) hx hb dX1_clear_57 (by decide) ?_
  refine lv_icmp_ge (tgt := 89) hx hb dX1_clear_59 (by decide) (fun c9 => absurd c9 (by decide)) (fun _ => ?_)
  refine lv_aload_n hx hb dX1_clear_62 rfl (lv_at hl 1 rfl) ?_
  refine m_get (C := RX1) (T := TX1) (N := 20) (ci := 1) (v := .ref a7) X hP 0 rfl rfl 17 (by decide) qw_56 inlX1 rfl dX1_clear_63 ?_
  refine lv_iload_n hx hb dX1_clear_66 rfl (lv_at hl 0 rfl) ?_
  refine lv_iconst (v := 0) hx hb dX1_clear_67 (by decide) ?_
  refine m_iast (ws' := fun f193 => [(a0, .inr (1, [.int 0, .int 0, .int 0, .int 0, .int 0, .int 0, .int 0, .ref a1, .int 0, .ref a2, .int 0, .ref a3, .ref a4, .ref a5, .int 0, .ref a6, .int 0, .ref a7, .ref a8, .ref a9])), (a1, .inl (G.2 1, 144, .inl f180)), (a7, .inl (G.2 0, 6, .inl f193)), (a8, .inl (G.2 0, 6, .inl f191)), (a9, .inl (G.2 0, 6, .inl f192))]) X hP hD hS 2 rfl (vin (by decide)) (fun _ => rfl) dX1_clear_68 (fun f193 H locs hP hD hS => ?_)
  refine lv_aload_n hx hb dX1_clear_69 rfl (lv_at hl 1 rfl) ?_
  refine m_get (C := RX1) (T := TX1) (N := 20) (ci := 1) (v := .ref a8) X hP 0 rfl rfl 18 (by decide) qw_57 inlX1 rfl dX1_clear_70 ?_
  refine lv_iload_n hx hb dX1_clear_73 rfl (lv_at hl 0 rfl) ?_
  refine lv_iconst (v := (-1)) hx hb dX1_clear_74 (by decide) ?_
  refine m_iast (ws' := fun f194 => [(a0, .inr (1, [.int 0, .int 0, .int 0, .int 0, .int 0, .int 0, .int 0, .ref a1, .int 0, .ref a2, .int 0, .ref a3, .ref a4, .ref a5, .int 0, .ref a6, .int 0, .ref a7, .ref a8, .ref a9])), (a1, .inl (G.2 1, 144, .inl f180)), (a7, .inl (G.2 0, 6, .inl f193)), (a8, .inl (G.2 0, 6, .inl f194)), (a9, .inl (G.2 0, 6, .inl f192))]) X hP hD hS 3 rfl (vin (by decide)) (fun _ => rfl) dX1_clear_75 (fun f194 H locs hP hD hS => ?_)
  refine lv_aload_n hx hb dX1_clear_76 rfl (lv_at hl 1 rfl) ?_
  refine m_get (C := RX1) (T := TX1) (N := 20) (ci := 1) (v := .ref a9) X hP 0 rfl rfl 19 (by decide) qw_58 inlX1 rfl dX1_clear_77 ?_
  refine lv_iload_n hx hb dX1_clear_80 rfl (lv_at hl 0 rfl) ?_
  refine lv_iconst (v := (-1)) hx hb dX1_clear_81 (by decide) ?_
  refine m_iast (ws' := fun f195 => [(a0, .inr (1, [.int 0, .int 0, .int 0, .int 0, .int 0, .int 0, .int 0, .ref a1, .int 0, .ref a2, .int 0, .ref a3, .ref a4, .ref a5, .int 0, .ref a6, .int 0, .ref a7, .ref a8, .ref a9])), (a1, .inl (G.2 1, 144, .inl f180)), (a7, .inl (G.2 0, 6, .inl f193)), (a8, .inl (G.2 0, 6, .inl f194)), (a9, .inl (G.2 0, 6, .inl f195))]) X hP hD hS 4 rfl (vin (by decide)) (fun _ => rfl) dX1_clear_82 (fun f195 H locs hP hD hS => ?_)
  refine lv_iinc (v := 5) (lv' := [(1, .int 5), (0, .ref a0)]) hx hb dX1_clear_83 hl (k := 0) rfl (by decide) (by decide) rfl (fun ls hl => ?_)
  refine lv_goto (tgt := 56) hx hb dX1_clear_86 (by decide) ?_
  refine lv_iload_n hx hb dX1_clear_56 rfl (lv_at hl 0 rfl) ?_
  refine lv_bipush (v := 6) hx hb dX1_clear_57 (by decide) ?_
  refine lv_icmp_ge (tgt := 89) hx hb dX1_clear_59 (by decide) (fun c9 => absurd c9 (by decide)) (fun _ => ?_)
  refine lv_aload_n hx hb dX1_clear_62 rfl (lv_at hl 1 rfl) ?_
  refine m_get (C := RX1) (T := TX1) (N := 20) (ci := 1) (v := .ref a7) X hP 0 rfl rfl 17 (by decide) qw_56 inlX1 rfl dX1_clear_63 ?_
  refine lv_iload_n hx hb dX1_clear_66 rfl (lv_at hl 0 rfl) ?_
  refine lv_iconst (v := 0) hx hb dX1_clear_67 (by decide) ?_
  refine m_iast (ws' := fun f196 => [(a0, .inr (1, [.int 0, .int 0, .int 0, .int 0, .int 0, .int 0, .int 0, .ref a1, .int 0, .ref a2, .int 0, .ref a3, .ref a4, .ref a5, .int 0, .ref a6, .int 0, .ref a7, .ref a8, .ref a9])), (a1, .inl (G.2 1, 144, .inl f180)), (a7, .inl (G.2 0, 6, .inl f196)), (a8, .inl (G.2 0, 6, .inl f194)), (a9, .inl (G.2 0, 6, .inl f195))]) X hP hD hS 2 rfl (vin (by decide)) (fun _ => rfl) dX1_clear_68 (fun f196 H locs hP hD hS => ?_)
  refine lv_aload_n hx hb dX1_clear_69 rfl (lv_at hl 1 rfl) ?_
  refine m_get (C := RX1) (T := TX1) (N := 20) (ci := 1) (v := .ref a8) X hP 0 rfl rfl 18 (by decide) qw_57 inlX1 rfl dX1_clear_70 ?_
  refine lv_iload_n hx hb dX1_clear_73 rfl (lv_at hl 0 rfl) ?_
  refine lv_iconst (v := (-1)) hx hb dX1_clear_74 (by decide) ?_
  refine m_iast (ws' := fun f197 => [(a0, .inr (1, [.int 0, .int 0, .int 0, .int 0, .int 0, .int 0, .int 0, .ref a1, .int 0, .ref a2, .int 0, .ref a3, .ref a4, .ref a5, .int 0, .ref a6, .int 0, .ref a7, .ref a8, .ref a9])), (a1, .inl (G.2 1, 144, .inl f180)), (a7, .inl (G.2 0, 6, .inl f196)), (a8, .inl (G.2 0, 6, .inl f197)), (a9, .inl (G.2 0, 6, .inl f195))]) X hP hD hS 3 rfl (vin (by decide)) (fun _ => rfl) dX1_clear_75 (fun f197 H locs hP hD hS => ?_)
  refine lv_aload_n hx hb dX1_clear_76 rfl (lv_at hl 1 rfl) ?_
  refine m_get (C := RX1) (T := TX1) (N := 20) (ci := 1) (v := .ref a9) X hP 0 rfl rfl 19 (by decide) qw_58 inlX1 rfl dX1_clear_77 ?_
  refine lv_iload_n hx hb dX1_clear_80 rfl (lv_at hl 0 rfl) ?_
  refine lv_iconst (v := (-1)) hx hb dX1_clear_81 (by decide) ?_
  refine m_iast (ws' := fun f198 => [(a0, .inr (1, [.int 0, .int 0, .int 0, .int 0, .int 0, .int 0, .int 0, .ref a1, .int 0, .ref a2, .int 0, .ref a3, .ref a4, .ref a5, .int 0, .ref a6, .int 0, .ref a7, .ref a8, .ref a9])), (a1, .inl (G.2 1, 144, .inl f180)), (a7, .inl (G.2 0, 6, .inl f196)), (a8, .inl (G.2 0, 6, .inl f197)), (a9, .inl (G.2 0, 6, .inl f198))]) X hP hD hS 4 rfl (vin (by decide)) (fun _ => rfl) dX1_clear_82 (fun f198 H locs hP hD hS => ?_)
  refine lv_iinc (v := 6) (lv' := [(1, .int 6), (0, .ref a0)]) hx hb dX1_clear_83 hl (k := 0) rfl (by decide) (by decide) rfl (fun ls hl => ?_)
  refine lv_goto (tgt := 56) hx hb dX1_clear_86 (by decide) ?_
  refine lv_iload_n hx hb dX1_clear_56 rfl (lv_at hl 0 rfl) ?_
  refine lv_bipush (v := 6) hx hb dX1_clear_57 (by decide) ?_
  refine lv_icmp_ge (tgt := 89) hx hb dX1_clear_59 (by decide) (fun _ => ?_) (fun c9 => absurd c9 (by decide))
  exact m_vret X hP hD hS ((fun _ => 0), (fun k => match k with | 0 => f180 | 1 => f196 | 2 => f197 | 3 => f198 | _ => fun _ => 0)) [0, 1, 2, 3, 4] (by decide) rfl trivial (Nat.le_of_ble_eq_true rfl) (Nat.le_of_ble_eq_true rfl) dX1_clear_89
set_option maxHeartbeats 4000000 in
set_option maxRecDepth 100000 in
theorem k18_X7_clear (l : Launch) (G : KG) (a0 : Nat) (a1 : Nat) (a2 : Nat) (a3 : Nat) (a4 : Nat) (a5 : Nat) (sz : Nat) : Met l yX7_clear (.code yX7_clear cX7_clear 2 none :: wsL_law) { frames := 0, cells := 0, slots := 0, locals := 0 } (va_Pc [.ref a0] (Pw G [(a0, .inr (4, [.int 0, .int 0, .ref a1, .ref a2, .ref a3, .ref a4, .ref a5])), (a1, .inl (G.2 0, 4, .inl (fun _ => 0)))] sz)) (va_Qv (fun _ => True) (fun (u9 : KS) t => Bw G (va_A [(a0, .inr (4, [.int 0, .int 0, .ref a1, .ref a2, .ref a3, .ref a4, .ref a5])), (a1, .inl (G.2 0, 4, .inl (fun _ => 0)))] sz) [(a0, .inr (4, [.int 0, .int 0, .ref a1, .ref a2, .ref a3, .ref a4, .ref a5])), (a1, .inl (G.2 0, 4, .inl (u9.2 0)))] t) (va_A [(a0, .inr (4, [.int 0, .int 0, .ref a1, .ref a2, .ref a3, .ref a4, .ref a5])), (a1, .inl (G.2 0, 4, .inl (fun _ => 0)))] sz)) 0 0 (va_A [(a0, .inr (4, [.int 0, .int 0, .ref a1, .ref a2, .ref a3, .ref a4, .ref a5])), (a1, .inl (G.2 0, 4, .inl (fun _ => 0)))] sz) := by
  refine m_body (y := yX7_clear) (cd := cX7_clear) (mL := 2) (rt := none) (rm := { frames := 0, cells := 0, slots := 0, locals := 0 }) (av := [.ref a0]) (wc := [(a0, .inr (4, [.int 0, .int 0, .ref a1, .ref a2, .ref a3, .ref a4, .ref a5])), (a1, .inl (G.2 0, 4, .inl (fun _ => 0)))]) (G := G) (sz := sz) (Qf := fun A => va_Qv (fun _ => True) (fun (u9 : KS) t => Bw G A [(a0, .inr (4, [.int 0, .int 0, .ref a1, .ref a2, .ref a3, .ref a4, .ref a5])), (a1, .inl (G.2 0, 4, .inl (u9.2 0)))] t) A) (by decide) (Nat.le_of_ble_eq_true rfl) ?_
  intro p e s m args below meth c ls A X hi hP hD hS hl
  have hx := X.1.1
  have hb := X.1.2.1
  have hi : meth.name = "clear" := hi
  have hl : lv_has ls 2 [(0, .ref a0)] := hl
  refine lv_aload_n hx hb dX7_clear_0 rfl (lv_at hl 0 rfl) ?_
  refine lv_iconst (v := 0) hx hb dX7_clear_1 (by decide) ?_
  refine m_put (C := RX7) (T := TX7) (N := 7) (ci := 4) (v := .int 0) (ws' := [(a0, .inr (4, [.int 0, .int 0, .ref a1, .ref a2, .ref a3, .ref a4, .ref a5])), (a1, .inl (G.2 0, 4, .inl (fun _ => 0)))]) X hP hD hS tyX7 tyX7_ok nmX7 0 rfl rfl 0 (by decide) qw_187 inlX7 rfl (by first | rfl | decide) (by first | rfl | decide) (Nat.le_of_ble_eq_true rfl) rfl dX7_clear_2 (fun H locs hP hD hS => ?_)
  refine lv_aload_n hx hb dX7_clear_5 rfl (lv_at hl 0 rfl) ?_
  refine lv_iconst (v := 0) hx hb dX7_clear_6 (by decide) ?_
  refine m_put (C := RX7) (T := TX7) (N := 7) (ci := 4) (v := .int 0) (ws' := [(a0, .inr (4, [.int 0, .int 0, .ref a1, .ref a2, .ref a3, .ref a4, .ref a5])), (a1, .inl (G.2 0, 4, .inl (fun _ => 0)))]) X hP hD hS tyX7 tyX7_ok nmX7 0 rfl rfl 1 (by decide) qw_188 inlX7 rfl (by first | rfl | decide) (by first | rfl | decide) (Nat.le_of_ble_eq_true rfl) rfl dX7_clear_7 (fun H locs hP hD hS => ?_)
  refine lv_iconst (v := 0) hx hb dX7_clear_10 (by decide) ?_
  refine lv_istore_n (lv' := [(1, .int 0), (0, .ref a0)]) hx hb dX7_clear_11 rfl hl (by decide) rfl (fun ls hl => ?_)
  refine lv_iload_n hx hb dX7_clear_12 rfl (lv_at hl 0 rfl) ?_
  refine lv_iconst (v := 4) hx hb dX7_clear_13 (by decide) ?_
  refine lv_icmp_ge (tgt := 30) hx hb dX7_clear_14 (by decide) (fun c9 => absurd c9 (by decide)) (fun _ => ?_)
  refine lv_aload_n hx hb dX7_clear_17 rfl (lv_at hl 1 rfl) ?_
  refine m_get (C := RX7) (T := TX7) (N := 7) (ci := 4) (v := .ref a1) X hP 0 rfl rfl 2 (by decide) qw_62 inlX7 rfl dX7_clear_18 ?_
  refine lv_iload_n hx hb dX7_clear_21 rfl (lv_at hl 0 rfl) ?_
  refine lv_iconst (v := 0) hx hb dX7_clear_22 (by decide) ?_
  refine m_iast (ws' := fun f200 => [(a0, .inr (4, [.int 0, .int 0, .ref a1, .ref a2, .ref a3, .ref a4, .ref a5])), (a1, .inl (G.2 0, 4, .inl f200))]) X hP hD hS 1 rfl (vin (by decide)) (fun _ => rfl) dX7_clear_23 (fun f200 H locs hP hD hS => ?_)
  refine lv_iinc (v := 1) (lv' := [(1, .int 1), (0, .ref a0)]) hx hb dX7_clear_24 hl (k := 0) rfl (by decide) (by decide) rfl (fun ls hl => ?_)
  refine lv_goto (tgt := 12) hx hb dX7_clear_27 (by decide) ?_
  refine lv_iload_n hx hb dX7_clear_12 rfl (lv_at hl 0 rfl) ?_
  refine lv_iconst (v := 4) hx hb dX7_clear_13 (by decide) ?_
  refine lv_icmp_ge (tgt := 30) hx hb dX7_clear_14 (by decide) (fun c9 => absurd c9 (by decide)) (fun _ => ?_)
  refine lv_aload_n hx hb dX7_clear_17 rfl (lv_at hl 1 rfl) ?_
  refine m_get (C := RX7) (T := TX7) (N := 7) (ci := 4) (v := .ref a1) X hP 0 rfl rfl 2 (by decide) qw_62 inlX7 rfl dX7_clear_18 ?_
  refine lv_iload_n hx hb dX7_clear_21 rfl (lv_at hl 0 rfl) ?_
  refine lv_iconst (v := 0) hx hb dX7_clear_22 (by decide) ?_
  refine m_iast (ws' := fun f201 => [(a0, .inr (4, [.int 0, .int 0, .ref a1, .ref a2, .ref a3, .ref a4, .ref a5])), (a1, .inl (G.2 0, 4, .inl f201))]) X hP hD hS 1 rfl (vin (by decide)) (fun _ => rfl) dX7_clear_23 (fun f201 H locs hP hD hS => ?_)
  refine lv_iinc (v := 2) (lv' := [(1, .int 2), (0, .ref a0)]) hx hb dX7_clear_24 hl (k := 0) rfl (by decide) (by decide) rfl (fun ls hl => ?_)
  refine lv_goto (tgt := 12) hx hb dX7_clear_27 (by decide) ?_
  refine lv_iload_n hx hb dX7_clear_12 rfl (lv_at hl 0 rfl) ?_
  refine lv_iconst (v := 4) hx hb dX7_clear_13 (by decide) ?_
  refine lv_icmp_ge (tgt := 30) hx hb dX7_clear_14 (by decide) (fun c9 => absurd c9 (by decide)) (fun _ => ?_)
  refine lv_aload_n hx hb dX7_clear_17 rfl (lv_at hl 1 rfl) ?_
  refine m_get (C := RX7) (T := TX7) (N := 7) (ci := 4) (v := .ref a1) X hP 0 rfl rfl 2 (by decide) qw_62 inlX7 rfl dX7_clear_18 ?_
  refine lv_iload_n hx hb dX7_clear_21 rfl (lv_at hl 0 rfl) ?_
  refine lv_iconst (v := 0) hx hb dX7_clear_22 (by decide) ?_
  refine m_iast (ws' := fun f202 => [(a0, .inr (4, [.int 0, .int 0, .ref a1, .ref a2, .ref a3, .ref a4, .ref a5])), (a1, .inl (G.2 0, 4, .inl f202))]) X hP hD hS 1 rfl (vin (by decide)) (fun _ => rfl) dX7_clear_23 (fun f202 H locs hP hD hS => ?_)
  refine lv_iinc (v := 3) (lv' := [(1, .int 3), (0, .ref a0)]) hx hb dX7_clear_24 hl (k := 0) rfl (by decide) (by decide) rfl (fun ls hl => ?_)
  refine lv_goto (tgt := 12) hx hb dX7_clear_27 (by decide) ?_
  refine lv_iload_n hx hb dX7_clear_12 rfl (lv_at hl 0 rfl) ?_
  refine lv_iconst (v := 4) hx hb dX7_clear_13 (by decide) ?_
  refine lv_icmp_ge (tgt := 30) hx hb dX7_clear_14 (by decide) (fun c9 => absurd c9 (by decide)) (fun _ => ?_)
  refine lv_aload_n hx hb dX7_clear_17 rfl (lv_at hl 1 rfl) ?_
  refine m_get (C := RX7) (T := TX7) (N := 7) (ci := 4) (v := .ref a1) X hP 0 rfl rfl 2 (by decide) qw_62 inlX7 rfl dX7_clear_18 ?_
  refine lv_iload_n hx hb dX7_clear_21 rfl (lv_at hl 0 rfl) ?_
  refine lv_iconst (v := 0) hx hb dX7_clear_22 (by decide) ?_
  refine m_iast (ws' := fun f203 => [(a0, .inr (4, [.int 0, .int 0, .ref a1, .ref a2, .ref a3, .ref a4, .ref a5])), (a1, .inl (G.2 0, 4, .inl f203))]) X hP hD hS 1 rfl (vin (by decide)) (fun _ => rfl) dX7_clear_23 (fun f203 H locs hP hD hS => ?_)
  refine lv_iinc (v := 4) (lv' := [(1, .int 4), (0, .ref a0)]) hx hb dX7_clear_24 hl (k := 0) rfl (by decide) (by decide) rfl (fun ls hl => ?_)
  refine lv_goto (tgt := 12) hx hb dX7_clear_27 (by decide) ?_
  refine lv_iload_n hx hb dX7_clear_12 rfl (lv_at hl 0 rfl) ?_
  refine lv_iconst (v := 4) hx hb dX7_clear_13 (by decide) ?_
  refine lv_icmp_ge (tgt := 30) hx hb dX7_clear_14 (by decide) (fun _ => ?_) (fun c9 => absurd c9 (by decide))
  exact m_vret X hP hD hS ((fun _ => 0), (fun k => match k with | 0 => f203 | _ => fun _ => 0)) [0, 1] (by decide) rfl trivial (Nat.le_of_ble_eq_true rfl) (Nat.le_of_ble_eq_true rfl) dX7_clear_30
