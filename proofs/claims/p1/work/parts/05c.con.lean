set_option maxHeartbeats 4000000 in
set_option maxRecDepth 100000 in
theorem k15_X11_feed (l : Launch) (G : KG) (a0 : Nat) (i0 : Int32) (i1 : Int32) (i2 : Int32) (i3 : Int32) (i4 : Int32) (a1 : Nat) (a2 : Nat) (a3 : Nat) (a4 : Nat) (a5 : Nat) (a6 : Nat) (a7 : Nat) (a8 : Nat) (a9 : Nat) (a10 : Nat) (a11 : Nat) (sz : Nat) : Met l yX11_feed (.code yX11_feed cX11_feed 6 (some .int) :: wsL_law) { frames := 1, cells := 0, slots := 0, locals := 22 } (va_Pc [.ref a0, .int i0, .int i1, .int i2, .int i3, .int i4] (Pw G [(a0, .inr (8, [.ref a1, .int 0, .int 0, .ref a2, .ref a3, .ref a4, .ref a5, .ref a6, .ref a7, .ref a8, .ref a9, .ref a10, .ref a11, .int 0, .int 0, .int 0])), (a1, .inl (G.2 0, 1000, .inl (fun _ => 0)))] sz)) (va_Qi (fun r _ => r = 20) (fun (u9 : KS) t => Bw G (va_A [(a0, .inr (8, [.ref a1, .int 0, .int 0, .ref a2, .ref a3, .ref a4, .ref a5, .ref a6, .ref a7, .ref a8, .ref a9, .ref a10, .ref a11, .int 0, .int 0, .int 0])), (a1, .inl (G.2 0, 1000, .inl (fun _ => 0)))] sz) [] t) (va_A [(a0, .inr (8, [.ref a1, .int 0, .int 0, .ref a2, .ref a3, .ref a4, .ref a5, .ref a6, .ref a7, .ref a8, .ref a9, .ref a10, .ref a11, .int 0, .int 0, .int 0])), (a1, .inl (G.2 0, 1000, .inl (fun _ => 0)))] sz)) 0 0 (va_A [(a0, .inr (8, [.ref a1, .int 0, .int 0, .ref a2, .ref a3, .ref a4, .ref a5, .ref a6, .ref a7, .ref a8, .ref a9, .ref a10, .ref a11, .int 0, .int 0, .int 0])), (a1, .inl (G.2 0, 1000, .inl (fun _ => 0)))] sz) := by
  refine m_body (y := yX11_feed) (cd := cX11_feed) (mL := 6) (rt := (some .int)) (rm := { frames := 1, cells := 0, slots := 0, locals := 22 }) (av := [.ref a0, .int i0, .int i1, .int i2, .int i3, .int i4]) (wc := [(a0, .inr (8, [.ref a1, .int 0, .int 0, .ref a2, .ref a3, .ref a4, .ref a5, .ref a6, .ref a7, .ref a8, .ref a9, .ref a10, .ref a11, .int 0, .int 0, .int 0])), (a1, .inl (G.2 0, 1000, .inl (fun _ => 0)))]) (G := G) (sz := sz) (Qf := fun A => va_Qi (fun r _ => r = 20) (fun (u9 : KS) t => Bw G A [] t) A) (by decide) (Nat.le_of_ble_eq_true rfl) ?_
  intro p e s m args below meth c ls A X hi hP hD hS hl
  have hx := X.1.1
  have hb := X.1.2.1
  have hi : meth.name = "feed" := hi
  have hl : lv_has ls 6 [(0, .ref a0), (1, .int i0), (2, .int i1), (3, .int i2), (4, .int i3), (5, .int i4)] := hl
  refine lv_aload_n hx hb dX11_feed_0 rfl (lv_at hl 0 rfl) ?_
  refine m_get (C := RX11) (T := TX11) (N := 16) (ci := 8) (v := .int 0) X hP 0 rfl rfl 1 (by decide) qw_131 inlX11 rfl dX11_feed_1 ?_
  refine lv_bipush (v := 20) hx hb dX11_feed_4 (by decide) ?_
  refine lv_iadd hx hb dX11_feed_6 ?_
  refine lv_topi (fun z122 ez122 => ?_)
  obtain rfl : z122 = 20 := ez122.trans (by decide)
  refine lv_sipush (v := 1000) hx hb dX11_feed_7 (by decide) ?_
  refine lv_icmp_le (tgt := 15) hx hb dX11_feed_10 (by decide) (fun _ => ?_) (fun c9 => absurd c9 (by decide))
  refine lv_aload_n hx hb dX11_feed_15 rfl (lv_at hl 0 rfl) ?_
  refine lv_iload_n hx hb dX11_feed_16 rfl (lv_at hl 1 rfl) ?_
  refine m_cVv (n := 1) (wr := []) (C := RX11) (T := TX11) (N := 16) (ci := 8) (As := [.int i0]) (rest := []) X hP hD hS (k10_X11_putNumber l G a0 i0 a1 a2 a3 a4 a5 a6 a7 a8 a9 a10 a11) [0, 1] [] rfl rfl (by decide) (by decide) (by decide) rfl rfl qw_132 qw_133 qw_134 qw_2 qw_135 ⟨rfl, by decide +kernel, by decide +kernel, by decide +kernel⟩ ⟨Nat.le_of_ble_eq_true rfl, Nat.le_of_ble_eq_true rfl⟩ hl rfl rfl (Nat.le_of_ble_eq_true rfl) dX11_feed_17 ⟨Nat.le_of_ble_eq_true rfl, Nat.le_of_ble_eq_true rfl⟩ (fun u139 H locs hw hP hD hS => ?_)
  have hP : va_P G.1 vwCl [(a0, .inr (8, [.ref a1, .int 4, .int 0, .ref a2, .ref a3, .ref a4, .ref a5, .ref a6, .ref a7, .ref a8, .ref a9, .ref a10, .ref a11, .int 0, .int 0, .int 0])), (a1, .inl (G.2 0, 1000, .inl (u139.2 0)))] H := hP
  have hD : va_D A [(a0, .inr (8, [.ref a1, .int 4, .int 0, .ref a2, .ref a3, .ref a4, .ref a5, .ref a6, .ref a7, .ref a8, .ref a9, .ref a10, .ref a11, .int 0, .int 0, .int 0])), (a1, .inl (G.2 0, 1000, .inl (u139.2 0)))] := hD
  refine lv_aload_n hx hb dX11_feed_20 rfl (lv_at hl 0 rfl) ?_
  refine lv_iload_n hx hb dX11_feed_21 rfl (lv_at hl 2 rfl) ?_
  refine m_cVv (n := 1) (wr := []) (C := RX11) (T := TX11) (N := 16) (ci := 8) (As := [.int i1]) (rest := []) X hP hD hS (k11_X11_putNumber l G a0 i1 a1 a2 a3 a4 a5 a6 a7 a8 a9 a10 a11 (u139.2 0)) [0, 1] [] rfl rfl (by decide) (by decide) (by decide) rfl rfl qw_132 qw_133 qw_134 qw_2 qw_135 ⟨rfl, by decide +kernel, by decide +kernel, by decide +kernel⟩ ⟨Nat.le_of_ble_eq_true rfl, Nat.le_of_ble_eq_true rfl⟩ hl rfl rfl (Nat.le_of_ble_eq_true rfl) dX11_feed_22 ⟨Nat.le_of_ble_eq_true rfl, Nat.le_of_ble_eq_true rfl⟩ (fun u156 H locs hw hP hD hS => ?_)
  have hP : va_P G.1 vwCl [(a0, .inr (8, [.ref a1, .int 8, .int 0, .ref a2, .ref a3, .ref a4, .ref a5, .ref a6, .ref a7, .ref a8, .ref a9, .ref a10, .ref a11, .int 0, .int 0, .int 0])), (a1, .inl (G.2 0, 1000, .inl (u156.2 0)))] H := hP
  have hD : va_D A [(a0, .inr (8, [.ref a1, .int 8, .int 0, .ref a2, .ref a3, .ref a4, .ref a5, .ref a6, .ref a7, .ref a8, .ref a9, .ref a10, .ref a11, .int 0, .int 0, .int 0])), (a1, .inl (G.2 0, 1000, .inl (u156.2 0)))] := hD
  refine lv_aload_n hx hb dX11_feed_25 rfl (lv_at hl 0 rfl) ?_
  refine lv_iload_n hx hb dX11_feed_26 rfl (lv_at hl 3 rfl) ?_
  refine m_cVv (n := 1) (wr := []) (C := RX11) (T := TX11) (N := 16) (ci := 8) (As := [.int i2]) (rest := []) X hP hD hS (k12_X11_putNumber l G a0 i2 a1 a2 a3 a4 a5 a6 a7 a8 a9 a10 a11 (u156.2 0)) [0, 1] [] rfl rfl (by decide) (by decide) (by decide) rfl rfl qw_132 qw_133 qw_134 qw_2 qw_135 ⟨rfl, by decide +kernel, by decide +kernel, by decide +kernel⟩ ⟨Nat.le_of_ble_eq_true rfl, Nat.le_of_ble_eq_true rfl⟩ hl rfl rfl (Nat.le_of_ble_eq_true rfl) dX11_feed_27 ⟨Nat.le_of_ble_eq_true rfl, Nat.le_of_ble_eq_true rfl⟩ (fun u173 H locs hw hP hD hS => ?_)
  have hP : va_P G.1 vwCl [(a0, .inr (8, [.ref a1, .int 12, .int 0, .ref a2, .ref a3, .ref a4, .ref a5, .ref a6, .ref a7, .ref a8, .ref a9, .ref a10, .ref a11, .int 0, .int 0, .int 0])), (a1, .inl (G.2 0, 1000, .inl (u173.2 0)))] H := hP
  have hD : va_D A [(a0, .inr (8, [.ref a1, .int 12, .int 0, .ref a2, .ref a3, .ref a4, .ref a5, .ref a6, .ref a7, .ref a8, .ref a9, .ref a10, .ref a11, .int 0, .int 0, .int 0])), (a1, .inl (G.2 0, 1000, .inl (u173.2 0)))] := hD
  refine lv_aload_n hx hb dX11_feed_30 rfl (lv_at hl 0 rfl) ?_
  refine lv_iload hx hb dX11_feed_31 (lv_at hl 4 rfl) ?_
  refine m_cVv (n := 1) (wr := []) (C := RX11) (T := TX11) (N := 16) (ci := 8) (As := [.int i3]) (rest := []) X hP hD hS (k13_X11_putNumber l G a0 i3 a1 a2 a3 a4 a5 a6 a7 a8 a9 a10 a11 (u173.2 0)) [0, 1] [] rfl rfl (by decide) (by decide) (by decide) rfl rfl qw_132 qw_133 qw_134 qw_2 qw_135 ⟨rfl, by decide +kernel, by decide +kernel, by decide +kernel⟩ ⟨Nat.le_of_ble_eq_true rfl, Nat.le_of_ble_eq_true rfl⟩ hl rfl rfl (Nat.le_of_ble_eq_true rfl) dX11_feed_33 ⟨Nat.le_of_ble_eq_true rfl, Nat.le_of_ble_eq_true rfl⟩ (fun u190 H locs hw hP hD hS => ?_)
  have hP : va_P G.1 vwCl [(a0, .inr (8, [.ref a1, .int 16, .int 0, .ref a2, .ref a3, .ref a4, .ref a5, .ref a6, .ref a7, .ref a8, .ref a9, .ref a10, .ref a11, .int 0, .int 0, .int 0])), (a1, .inl (G.2 0, 1000, .inl (u190.2 0)))] H := hP
  have hD : va_D A [(a0, .inr (8, [.ref a1, .int 16, .int 0, .ref a2, .ref a3, .ref a4, .ref a5, .ref a6, .ref a7, .ref a8, .ref a9, .ref a10, .ref a11, .int 0, .int 0, .int 0])), (a1, .inl (G.2 0, 1000, .inl (u190.2 0)))] := hD
  refine lv_aload_n hx hb dX11_feed_36 rfl (lv_at hl 0 rfl) ?_
  refine lv_iload hx hb dX11_feed_37 (lv_at hl 5 rfl) ?_
  refine m_cVv (n := 1) (wr := []) (C := RX11) (T := TX11) (N := 16) (ci := 8) (As := [.int i4]) (rest := []) X hP hD hS (k14_X11_putNumber l G a0 i4 a1 a2 a3 a4 a5 a6 a7 a8 a9 a10 a11 (u190.2 0)) [0, 1] [] rfl rfl (by decide) (by decide) (by decide) rfl rfl qw_132 qw_133 qw_134 qw_2 qw_135 ⟨rfl, by decide +kernel, by decide +kernel, by decide +kernel⟩ ⟨Nat.le_of_ble_eq_true rfl, Nat.le_of_ble_eq_true rfl⟩ hl rfl rfl (Nat.le_of_ble_eq_true rfl) dX11_feed_39 ⟨Nat.le_of_ble_eq_true rfl, Nat.le_of_ble_eq_true rfl⟩ (fun u207 H locs hw hP hD hS => ?_)
  have hP : va_P G.1 vwCl [(a0, .inr (8, [.ref a1, .int 20, .int 0, .ref a2, .ref a3, .ref a4, .ref a5, .ref a6, .ref a7, .ref a8, .ref a9, .ref a10, .ref a11, .int 0, .int 0, .int 0])), (a1, .inl (G.2 0, 1000, .inl (u207.2 0)))] H := hP
  have hD : va_D A [(a0, .inr (8, [.ref a1, .int 20, .int 0, .ref a2, .ref a3, .ref a4, .ref a5, .ref a6, .ref a7, .ref a8, .ref a9, .ref a10, .ref a11, .int 0, .int 0, .int 0])), (a1, .inl (G.2 0, 1000, .inl (u207.2 0)))] := hD
  refine lv_aload_n hx hb dX11_feed_42 rfl (lv_at hl 0 rfl) ?_
  refine m_get (C := RX11) (T := TX11) (N := 16) (ci := 8) (v := .int 20) X hP 0 rfl rfl 1 (by decide) qw_131 inlX11 rfl dX11_feed_43 ?_
  exact m_iret X hP hD hS ((fun _ => 0), (fun _ _ => 0)) [] (by decide) rfl rfl (Nat.le_of_ble_eq_true rfl) (Nat.le_of_ble_eq_true rfl) dX11_feed_46
set_option maxHeartbeats 4000000 in
set_option maxRecDepth 100000 in
theorem k16_X13_feed (l : Launch) (G : KG) (a0 : Nat) (i0 : Int32) (i1 : Int32) (i2 : Int32) (i3 : Int32) (i4 : Int32) (a1 : Nat) (a2 : Nat) (a3 : Nat) (a4 : Nat) (a5 : Nat) (a6 : Nat) (a7 : Nat) (a8 : Nat) (a9 : Nat) (a10 : Nat) (a11 : Nat) (a12 : Nat) (a13 : Nat) (a14 : Nat) (a15 : Nat) (a16 : Nat) (sz : Nat) : Met l yX13_feed (.code yX13_feed cX13_feed 8 (some .int) :: wsL_law) { frames := 0, cells := 0, slots := 0, locals := 0 } (va_Pc [.ref a0, .int i0, .int i1, .int i2, .int i3, .int i4] (Pw G [(a0, .inr (10, [.int 0, .int 0, .int (-1), .null, .null, .ref a1, .int 0, .int 0, .int 0, .int 0, .int 0, .int 0, .int 0, .int 0, .int 0, .long 0, .ref a2, .ref a3, .ref a4, .ref a5, .int 0, .int 0, .int 0, .int 0, .ref a6, .ref a7, .ref a8, .ref a9, .int 0, .ref a10, .ref a11, .ref a12, .ref a13, .ref a14, .ref a15, .ref a16, .int 0])), (a1, .inl (G.2 3, 1000, .inl (fun _ => 0)))] sz)) (va_Qi (fun r _ => r = 20) (fun (u9 : KS) t => Bw G (va_A [(a0, .inr (10, [.int 0, .int 0, .int (-1), .null, .null, .ref a1, .int 0, .int 0, .int 0, .int 0, .int 0, .int 0, .int 0, .int 0, .int 0, .long 0, .ref a2, .ref a3, .ref a4, .ref a5, .int 0, .int 0, .int 0, .int 0, .ref a6, .ref a7, .ref a8, .ref a9, .int 0, .ref a10, .ref a11, .ref a12, .ref a13, .ref a14, .ref a15, .ref a16, .int 0])), (a1, .inl (G.2 3, 1000, .inl (fun _ => 0)))] sz) [] t) (va_A [(a0, .inr (10, [.int 0, .int 0, .int (-1), .null, .null, .ref a1, .int 0, .int 0, .int 0, .int 0, .int 0, .int 0, .int 0, .int 0, .int 0, .long 0, .ref a2, .ref a3, .ref a4, .ref a5, .int 0, .int 0, .int 0, .int 0, .ref a6, .ref a7, .ref a8, .ref a9, .int 0, .ref a10, .ref a11, .ref a12, .ref a13, .ref a14, .ref a15, .ref a16, .int 0])), (a1, .inl (G.2 3, 1000, .inl (fun _ => 0)))] sz)) 0 0 (va_A [(a0, .inr (10, [.int 0, .int 0, .int (-1), .null, .null, .ref a1, .int 0, .int 0, .int 0, .int 0, .int 0, .int 0, .int 0, .int 0, .int 0, .long 0, .ref a2, .ref a3, .ref a4, .ref a5, .int 0, .int 0, .int 0, .int 0, .ref a6, .ref a7, .ref a8, .ref a9, .int 0, .ref a10, .ref a11, .ref a12, .ref a13, .ref a14, .ref a15, .ref a16, .int 0])), (a1, .inl (G.2 3, 1000, .inl (fun _ => 0)))] sz) := by
  refine m_body (y := yX13_feed) (cd := cX13_feed) (mL := 8) (rt := (some .int)) (rm := { frames := 0, cells := 0, slots := 0, locals := 0 }) (av := [.ref a0, .int i0, .int i1, .int i2, .int i3, .int i4]) (wc := [(a0, .inr (10, [.int 0, .int 0, .int (-1), .null, .null, .ref a1, .int 0, .int 0, .int 0, .int 0, .int 0, .int 0, .int 0, .int 0, .int 0, .long 0, .ref a2, .ref a3, .ref a4, .ref a5, .int 0, .int 0, .int 0, .int 0, .ref a6, .ref a7, .ref a8, .ref a9, .int 0, .ref a10, .ref a11, .ref a12, .ref a13, .ref a14, .ref a15, .ref a16, .int 0])), (a1, .inl (G.2 3, 1000, .inl (fun _ => 0)))]) (G := G) (sz := sz) (Qf := fun A => va_Qi (fun r _ => r = 20) (fun (u9 : KS) t => Bw G A [] t) A) (by decide) (Nat.le_of_ble_eq_true rfl) ?_
  intro p e s m args below meth c ls A X hi hP hD hS hl
  have hx := X.1.1
  have hb := X.1.2.1
  have hi : meth.name = "feed" := hi
  have hl : lv_has ls 8 [(0, .ref a0), (1, .int i0), (2, .int i1), (3, .int i2), (4, .int i3), (5, .int i4)] := hl
  refine lv_aload_n hx hb dX13_feed_0 rfl (lv_at hl 0 rfl) ?_
  refine lv_iconst (v := 0) hx hb dX13_feed_1 (by decide) ?_
  refine m_put (C := RX13) (T := TX13) (N := 37) (ci := 10) (v := .int 0) (ws' := [(a0, .inr (10, [.int 0, .int 0, .int (-1), .null, .null, .ref a1, .int 0, .int 0, .int 0, .int 0, .int 0, .int 0, .int 0, .int 0, .int 0, .long 0, .ref a2, .ref a3, .ref a4, .ref a5, .int 0, .int 0, .int 0, .int 0, .ref a6, .ref a7, .ref a8, .ref a9, .int 0, .ref a10, .ref a11, .ref a12, .ref a13, .ref a14, .ref a15, .ref a16, .int 0])), (a1, .inl (G.2 3, 1000, .inl (fun _ => 0)))]) X hP hD hS tyX13 tyX13_ok nmX13 0 rfl rfl 0 (by decide) qw_140 inlX13 rfl (by first | rfl | decide) (by first | rfl | decide) (Nat.le_of_ble_eq_true rfl) rfl dX13_feed_2 (fun H locs hP hD hS => ?_)
  refine lv_aload_n hx hb dX13_feed_5 rfl (lv_at hl 0 rfl) ?_
  refine m_get (C := RX13) (T := TX13) (N := 37) (ci := 10) (v := .int 0) X hP 0 rfl rfl 6 (by decide) qw_141 inlX13 rfl dX13_feed_6 ?_
  refine lv_bipush (v := 20) hx hb dX13_feed_9 (by decide) ?_
  refine lv_iadd hx hb dX13_feed_11 ?_
  refine lv_topi (fun z219 ez219 => ?_)
  obtain rfl : z219 = 20 := ez219.trans (by decide)
  refine lv_sipush (v := 1000) hx hb dX13_feed_12 (by decide) ?_
  refine lv_icmp_le (tgt := 20) hx hb dX13_feed_15 (by decide) (fun _ => ?_) (fun c9 => absurd c9 (by decide))
  refine lv_iconst (v := 0) hx hb dX13_feed_20 (by decide) ?_
  refine lv_istore (lv' := [(6, .int 0), (0, .ref a0), (1, .int i0), (2, .int i1), (3, .int i2), (4, .int i3), (5, .int i4)]) hx hb dX13_feed_21 hl (by decide) rfl (fun ls hl => ?_)
  refine lv_iload hx hb dX13_feed_23 (lv_at hl 0 rfl) ?_
  refine lv_bipush (v := 20) hx hb dX13_feed_25 (by decide) ?_
  refine lv_icmp_ge (tgt := 117) hx hb dX13_feed_27 (by decide) (fun c9 => absurd c9 (by decide)) (fun _ => ?_)
  refine lv_iload hx hb dX13_feed_30 (lv_at hl 0 rfl) ?_
  refine lv_iconst (v := 4) hx hb dX13_feed_32 (by decide) ?_
  refine lv_icmp_ge (tgt := 40) hx hb dX13_feed_33 (by decide) (fun c9 => absurd c9 (by decide)) (fun _ => ?_)
  refine lv_iload_n hx hb dX13_feed_36 rfl (lv_at hl 2 rfl) ?_
  refine lv_goto (tgt := 76) hx hb dX13_feed_37 (by decide) ?_
  refine lv_istore (lv' := [(7, .int i0), (6, .int 0), (0, .ref a0), (1, .int i0), (2, .int i1), (3, .int i2), (4, .int i3), (5, .int i4)]) hx hb dX13_feed_76 hl (by decide) rfl (fun ls hl => ?_)
  refine lv_aload_n hx hb dX13_feed_78 rfl (lv_at hl 2 rfl) ?_
  refine m_get (C := RX13) (T := TX13) (N := 37) (ci := 10) (v := .ref a1) X hP 0 rfl rfl 5 (by decide) qw_111 inlX13 rfl dX13_feed_79 ?_
  refine lv_aload_n hx hb dX13_feed_82 rfl (lv_at hl 2 rfl) ?_
  refine m_get (C := RX13) (T := TX13) (N := 37) (ci := 10) (v := .int 0) X hP 0 rfl rfl 6 (by decide) qw_141 inlX13 rfl dX13_feed_83 ?_
  refine lv_iload hx hb dX13_feed_86 (lv_at hl 0 rfl) ?_
  refine lv_bipush (v := 24) hx hb dX13_feed_88 (by decide) ?_
  refine lv_bipush (v := 8) hx hb dX13_feed_90 (by decide) ?_
  refine lv_iload hx hb dX13_feed_92 (lv_at hl 1 rfl) ?_
  refine lv_iconst (v := 4) hx hb dX13_feed_94 (by decide) ?_
  refine lv_irem hx hb dX13_feed_95 (by decide) ?_
  refine lv_topi (fun z220 ez220 => ?_)
  obtain rfl : z220 = 0 := ez220.trans (by decide)
  refine lv_imul hx hb dX13_feed_96 ?_
  refine lv_topi (fun z221 ez221 => ?_)
  obtain rfl : z221 = 0 := ez221.trans (by decide)
  refine lv_isub hx hb dX13_feed_97 ?_
  refine lv_topi (fun z222 ez222 => ?_)
  obtain rfl : z222 = 24 := ez222.trans (by decide)
  refine lv_ishr hx hb dX13_feed_98 ?_
  refine lv_topi (fun z223 ez223 => ?_)
  refine lv_i2b hx hb dX13_feed_99 rfl ?_
  refine lv_topi (fun z224 ez224 => ?_)
  refine m_bast (ws' := fun f225 => [(a0, .inr (10, [.int 0, .int 0, .int (-1), .null, .null, .ref a1, .int 0, .int 0, .int 0, .int 0, .int 0, .int 0, .int 0, .int 0, .int 0, .long 0, .ref a2, .ref a3, .ref a4, .ref a5, .int 0, .int 0, .int 0, .int 0, .ref a6, .ref a7, .ref a8, .ref a9, .int 0, .ref a10, .ref a11, .ref a12, .ref a13, .ref a14, .ref a15, .ref a16, .int 0])), (a1, .inl (G.2 3, 1000, .inl f225))]) X hP hD hS 1 rfl (vin (by decide)) (fun _ => rfl) dX13_feed_100 (fun f225 H locs hP hD hS => ?_)
  refine lv_aload_n hx hb dX13_feed_101 rfl (lv_at hl 2 rfl) ?_
  refine lv_dup hx hb dX13_feed_102 rfl ?_
  refine m_get (C := RX13) (T := TX13) (N := 37) (ci := 10) (v := .int 0) X hP 0 rfl rfl 6 (by decide) qw_141 inlX13 rfl dX13_feed_103 ?_
  refine lv_iconst (v := 1) hx hb dX13_feed_106 (by decide) ?_
  refine lv_iadd hx hb dX13_feed_107 ?_
  refine lv_topi (fun z226 ez226 => ?_)
  obtain rfl : z226 = 1 := ez226.trans (by decide)
  refine m_put (C := RX13) (T := TX13) (N := 37) (ci := 10) (v := .int 1) (ws' := [(a0, .inr (10, [.int 0, .int 0, .int (-1), .null, .null, .ref a1, .int 1, .int 0, .int 0, .int 0, .int 0, .int 0, .int 0, .int 0, .int 0, .long 0, .ref a2, .ref a3, .ref a4, .ref a5, .int 0, .int 0, .int 0, .int 0, .ref a6, .ref a7, .ref a8, .ref a9, .int 0, .ref a10, .ref a11, .ref a12, .ref a13, .ref a14, .ref a15, .ref a16, .int 0])), (a1, .inl (G.2 3, 1000, .inl f225))]) X hP hD hS tyX13 tyX13_ok nmX13 0 rfl rfl 6 (by decide) qw_141 inlX13 rfl (by first | rfl | decide) (by first | rfl | decide) (Nat.le_of_ble_eq_true rfl) rfl dX13_feed_108 (fun H locs hP hD hS => ?_)
  refine lv_iinc (v := 1) (lv' := [(6, .int 1), (7, .int i0), (0, .ref a0), (1, .int i0), (2, .int i1), (3, .int i2), (4, .int i3), (5, .int i4)]) hx hb dX13_feed_111 hl (k := 1) rfl (by decide) (by decide) rfl (fun ls hl => ?_)
  refine lv_goto (tgt := 23) hx hb dX13_feed_114 (by decide) ?_
  refine lv_iload hx hb dX13_feed_23 (lv_at hl 0 rfl) ?_
  refine lv_bipush (v := 20) hx hb dX13_feed_25 (by decide) ?_
  refine lv_icmp_ge (tgt := 117) hx hb dX13_feed_27 (by decide) (fun c9 => absurd c9 (by decide)) (fun _ => ?_)
  refine lv_iload hx hb dX13_feed_30 (lv_at hl 0 rfl) ?_
  refine lv_iconst (v := 4) hx hb dX13_feed_32 (by decide) ?_
  refine lv_icmp_ge (tgt := 40) hx hb dX13_feed_33 (by decide) (fun c9 => absurd c9 (by decide)) (fun _ => ?_)
  refine lv_iload_n hx hb dX13_feed_36 rfl (lv_at hl 3 rfl) ?_
  refine lv_goto (tgt := 76) hx hb dX13_feed_37 (by decide) ?_
  refine lv_istore (lv' := [(7, .int i0), (6, .int 1), (0, .ref a0), (1, .int i0), (2, .int i1), (3, .int i2), (4, .int i3), (5, .int i4)]) hx hb dX13_feed_76 hl (by decide) rfl (fun ls hl => ?_)
  refine lv_aload_n hx hb dX13_feed_78 rfl (lv_at hl 2 rfl) ?_
  refine m_get (C := RX13) (T := TX13) (N := 37) (ci := 10) (v := .ref a1) X hP 0 rfl rfl 5 (by decide) qw_111 inlX13 rfl dX13_feed_79 ?_
  refine lv_aload_n hx hb dX13_feed_82 rfl (lv_at hl 2 rfl) ?_
  refine m_get (C := RX13) (T := TX13) (N := 37) (ci := 10) (v := .int 1) X hP 0 rfl rfl 6 (by decide) qw_141 inlX13 rfl dX13_feed_83 ?_
  refine lv_iload hx hb dX13_feed_86 (lv_at hl 0 rfl) ?_
  refine lv_bipush (v := 24) hx hb dX13_feed_88 (by decide) ?_
  refine lv_bipush (v := 8) hx hb dX13_feed_90 (by decide) ?_
  refine lv_iload hx hb dX13_feed_92 (lv_at hl 1 rfl) ?_
  refine lv_iconst (v := 4) hx hb dX13_feed_94 (by decide) ?_
  refine lv_irem hx hb dX13_feed_95 (by decide) ?_
  refine lv_topi (fun z227 ez227 => ?_)
  obtain rfl : z227 = 1 := ez227.trans (by decide)
  refine lv_imul hx hb dX13_feed_96 ?_
  refine lv_topi (fun z228 ez228 => ?_)
  obtain rfl : z228 = 8 := ez228.trans (by decide)
  refine lv_isub hx hb dX13_feed_97 ?_
  refine lv_topi (fun z229 ez229 => ?_)
  obtain rfl : z229 = 16 := ez229.trans (by decide)
  refine lv_ishr hx hb dX13_feed_98 ?_
  refine lv_topi (fun z230 ez230 => ?_)
  refine lv_i2b hx hb dX13_feed_99 rfl ?_
  refine lv_topi (fun z231 ez231 => ?_)
  refine m_bast (ws' := fun f232 => [(a0, .inr (10, [.int 0, .int 0, .int (-1), .null, .null, .ref a1, .int 1, .int 0, .int 0, .int 0, .int 0, .int 0, .int 0, .int 0, .int 0, .long 0, .ref a2, .ref a3, .ref a4, .ref a5, .int 0, .int 0, .int 0, .int 0, .ref a6, .ref a7, .ref a8, .ref a9, .int 0, .ref a10, .ref a11, .ref a12, .ref a13, .ref a14, .ref a15, .ref a16, .int 0])), (a1, .inl (G.2 3, 1000, .inl f232))]) X hP hD hS 1 rfl (vin (by decide)) (fun _ => rfl) dX13_feed_100 (fun f232 H locs hP hD hS => ?_)
  refine lv_aload_n hx hb dX13_feed_101 rfl (lv_at hl 2 rfl) ?_
  refine lv_dup hx hb dX13_feed_102 rfl ?_
  refine m_get (C := RX13) (T := TX13) (N := 37) (ci := 10) (v := .int 1) X hP 0 rfl rfl 6 (by decide) qw_141 inlX13 rfl dX13_feed_103 ?_
  refine lv_iconst (v := 1) hx hb dX13_feed_106 (by decide) ?_
  refine lv_iadd hx hb dX13_feed_107 ?_
  refine lv_topi (fun z233 ez233 => ?_)
  obtain rfl : z233 = 2 := ez233.trans (by decide)
  refine m_put (C := RX13) (T := TX13) (N := 37) (ci := 10) (v := .int 2) (ws' := [(a0, .inr (10, [.int 0, .int 0, .int (-1), .null, .null, .ref a1, .int 2, .int 0, .int 0, .int 0, .int 0, .int 0, .int 0, .int 0, .int 0, .long 0, .ref a2, .ref a3, .ref a4, .ref a5, .int 0, .int 0, .int 0, .int 0, .ref a6, .ref a7, .ref a8, .ref a9, .int 0, .ref a10, .ref a11, .ref a12, .ref a13, .ref a14, .ref a15, .ref a16, .int 0])), (a1, .inl (G.2 3, 1000, .inl f232))]) X hP hD hS tyX13 tyX13_ok nmX13 0 rfl rfl 6 (by decide) qw_141 inlX13 rfl (by first | rfl | decide) (by first | rfl | decide) (Nat.le_of_ble_eq_true rfl) rfl dX13_feed_108 (fun H locs hP hD hS => ?_)
  refine lv_iinc (v := 2) (lv' := [(6, .int 2), (7, .int i0), (0, .ref a0), (1, .int i0), (2, .int i1), (3, .int i2), (4, .int i3), (5, .int i4)]) hx hb dX13_feed_111 hl (k := 1) rfl (by decide) (by decide) rfl (fun ls hl => ?_)
  refine lv_goto (tgt := 23) hx hb dX13_feed_114 (by decide) ?_
  refine lv_iload hx hb dX13_feed_23 (lv_at hl 0 rfl) ?_
  refine lv_bipush (v := 20) hx hb dX13_feed_25 (by decide) ?_
  refine lv_icmp_ge (tgt := 117) hx hb dX13_feed_27 (by decide) (fun c9 => absurd c9 (by decide)) (fun _ => ?_)
  refine lv_iload hx hb dX13_feed_30 (lv_at hl 0 rfl) ?_
  refine lv_iconst (v := 4) hx hb dX13_feed_32 (by decide) ?_
  refine lv_icmp_ge (tgt := 40) hx hb dX13_feed_33 (by decide) (fun c9 => absurd c9 (by decide)) (fun _ => ?_)
  refine lv_iload_n hx hb dX13_feed_36 rfl (lv_at hl 3 rfl) ?_
  refine lv_goto (tgt := 76) hx hb dX13_feed_37 (by decide) ?_
  refine lv_istore (lv' := [(7, .int i0), (6, .int 2), (0, .ref a0), (1, .int i0), (2, .int i1), (3, .int i2), (4, .int i3), (5, .int i4)]) hx hb dX13_feed_76 hl (by decide) rfl (fun ls hl => ?_)
  refine lv_aload_n hx hb dX13_feed_78 rfl (lv_at hl 2 rfl) ?_
  refine m_get (C := RX13) (T := TX13) (N := 37) (ci := 10) (v := .ref a1) X hP 0 rfl rfl 5 (by decide) qw_111 inlX13 rfl dX13_feed_79 ?_
  refine lv_aload_n hx hb dX13_feed_82 rfl (lv_at hl 2 rfl) ?_
  refine m_get (C := RX13) (T := TX13) (N := 37) (ci := 10) (v := .int 2) X hP 0 rfl rfl 6 (by decide) qw_141 inlX13 rfl dX13_feed_83 ?_
  refine lv_iload hx hb dX13_feed_86 (lv_at hl 0 rfl) ?_
  refine lv_bipush (v := 24) hx hb dX13_feed_88 (by decide) ?_
  refine lv_bipush (v := 8) hx hb dX13_feed_90 (by decide) ?_
  refine lv_iload hx hb dX13_feed_92 (lv_at hl 1 rfl) ?_
  refine lv_iconst (v := 4) hx hb dX13_feed_94 (by decide) ?_
  refine lv_irem hx hb dX13_feed_95 (by decide) ?_
  refine lv_topi (fun z234 ez234 => ?_)
  obtain rfl : z234 = 2 := ez234.trans (by decide)
  refine lv_imul hx hb dX13_feed_96 ?_
  refine lv_topi (fun z235 ez235 => ?_)
  obtain rfl : z235 = 16 := ez235.trans (by decide)
  refine lv_isub hx hb dX13_feed_97 ?_
  refine lv_topi (fun z236 ez236 => ?_)
  obtain rfl : z236 = 8 := ez236.trans (by decide)
  refine lv_ishr hx hb dX13_feed_98 ?_
  refine lv_topi (fun z237 ez237 => ?_)
  refine lv_i2b hx hb dX13_feed_99 rfl ?_
  refine lv_topi (fun z238 ez238 => ?_)
  refine m_bast (ws' := fun f239 => [(a0, .inr (10, [.int 0, .int 0, .int (-1), .null, .null, .ref a1, .int 2, .int 0, .int 0, .int 0, .int 0, .int 0, .int 0, .int 0, .int 0, .long 0, .ref a2, .ref a3, .ref a4, .ref a5, .int 0, .int 0, .int 0, .int 0, .ref a6, .ref a7, .ref a8, .ref a9, .int 0, .ref a10, .ref a11, .ref a12, .ref a13, .ref a14, .ref a15, .ref a16, .int 0])), (a1, .inl (G.2 3, 1000, .inl f239))]) X hP hD hS 1 rfl (vin (by decide)) (fun _ => rfl) dX13_feed_100 (fun f239 H locs hP hD hS => ?_)
  refine lv_aload_n hx hb dX13_feed_101 rfl (lv_at hl 2 rfl) ?_
  refine lv_dup hx hb dX13_feed_102 rfl ?_
  refine m_get (C := RX13) (T := TX13) (N := 37) (ci := 10) (v := .int 2) X hP 0 rfl rfl 6 (by decide) qw_141 inlX13 rfl dX13_feed_103 ?_
  refine lv_iconst (v := 1) hx hb dX13_feed_106 (by decide) ?_
  refine lv_iadd hx hb dX13_feed_107 ?_
  refine lv_topi (fun z240 ez240 => ?_)
  obtain rfl : z240 = 3 := ez240.trans (by decide)
  refine m_put (C := RX13) (T := TX13) (N := 37) (ci := 10) (v := .int 3) (ws' := [(a0, .inr (10, [.int 0, .int 0, .int (-1), .null, .null, .ref a1, .int 3, .int 0, .int 0, .int 0, .int 0, .int 0, .int 0, .int 0, .int 0, .long 0, .ref a2, .ref a3, .ref a4, .ref a5, .int 0, .int 0, .int 0, .int 0, .ref a6, .ref a7, .ref a8, .ref a9, .int 0, .ref a10, .ref a11, .ref a12, .ref a13, .ref a14, .ref a15, .ref a16, .int 0])), (a1, .inl (G.2 3, 1000, .inl f239))]) X hP hD hS tyX13 tyX13_ok nmX13 0 rfl rfl 6 (by decide) qw_141 inlX13 rfl (by first | rfl | decide) (by first | rfl | decide) (Nat.le_of_ble_eq_true rfl) rfl dX13_feed_108 (fun H locs hP hD hS => ?_)
  refine lv_iinc (v := 3) (lv' := [(6, .int 3), (7, .int i0), (0, .ref a0), (1, .int i0), (2, .int i1), (3, .int i2), (4, .int i3), (5, .int i4)]) hx hb dX13_feed_111 hl (k := 1) rfl (by decide) (by decide) rfl (fun ls hl => ?_)
  refine lv_goto (tgt := 23) hx hb dX13_feed_114 (by decide) ?_
  refine lv_iload hx hb dX13_feed_23 (lv_at hl 0 rfl) ?_
  refine lv_bipush (v := 20) hx hb dX13_feed_25 (by decide) ?_
  refine lv_icmp_ge (tgt := 117) hx hb dX13_feed_27 (by decide) (fun c9 => absurd c9 (by decide)) (fun _ => ?_)
  refine lv_iload hx hb dX13_feed_30 (lv_at hl 0 rfl) ?_
  refine lv_iconst (v := 4) hx hb dX13_feed_32 (by decide) ?_
  refine lv_icmp_ge (tgt := 40) hx hb dX13_feed_33 (by decide) (fun c9 => absurd c9 (by decide)) (fun _ => ?_)
  refine lv_iload_n hx hb dX13_feed_36 rfl (lv_at hl 3 rfl) ?_
  refine lv_goto (tgt := 76) hx hb dX13_feed_37 (by decide) ?_
  refine lv_istore (lv' := [(7, .int i0), (6, .int 3), (0, .ref a0), (1, .int i0), (2, .int i1), (3, .int i2), (4, .int i3), (5, .int i4)]) hx hb dX13_feed_76 hl (by decide) rfl (fun ls hl => ?_)
  refine lv_aload_n hx hb dX13_feed_78 rfl (lv_at hl 2 rfl) ?_
  refine m_get (C := RX13) (T := TX13) (N := 37) (ci := 10) (v := .ref a1) X hP 0 rfl rfl 5 (by decide) qw_111 inlX13 rfl dX13_feed_79 ?_
  refine lv_aload_n hx hb dX13_feed_82 rfl (lv_at hl 2 rfl) ?_
  refine m_get (C := RX13) (T := TX13) (N := 37) (ci := 10) (v := .int 3) X hP 0 rfl rfl 6 (by decide) qw_141 inlX13 rfl dX13_feed_83 ?_
  refine lv_iload hx hb dX13_feed_86 (lv_at hl 0 rfl) ?_
  refine lv_bipush (v := 24) hx hb dX13_feed_88 (by decide) ?_
  refine lv_bipush (v := 8) hx hb dX13_feed_90 (by decide) ?_
  refine lv_iload hx hb dX13_feed_92 (lv_at hl 1 rfl) ?_
  refine lv_iconst (v := 4) hx hb dX13_feed_94 (by decide) ?_
  refine lv_irem hx hb dX13_feed_95 (by decide) ?_
  refine lv_topi (fun z241 ez241 => ?_)
  obtain rfl : z241 = 3 := ez241.trans (by decide)
  refine lv_imul hx hb dX13_feed_96 ?_
  refine lv_topi (fun z242 ez242 => ?_)
  obtain rfl : z242 = 24 := ez242.trans (by decide)
  refine lv_isub hx hb dX13_feed_97 ?_
  refine lv_topi (fun z243 ez243 => ?_)
  obtain rfl : z243 = 0 := ez243.trans (by decide)
  refine lv_ishr hx hb dX13_feed_98 ?_
  refine lv_topi (fun z244 ez244 => ?_)
  refine lv_i2b hx hb dX13_feed_99 rfl ?_
  refine lv_topi (fun z245 ez245 => ?_)
  refine m_bast (ws' := fun f246 => [(a0, .inr (10, [.int 0, .int 0, .int (-1), .null, .null, .ref a1, .int 3, .int 0, .int 0, .int 0, .int 0, .int 0, .int 0, .int 0, .int 0, .long 0, .ref a2, .ref a3, .ref a4, .ref a5, .int 0, .int 0, .int 0, .int 0, .ref a6, .ref a7, .ref a8, .ref a9, .int 0, .ref a10, .ref a11, .ref a12, .ref a13, .ref a14, .ref a15, .ref a16, .int 0])), (a1, .inl (G.2 3, 1000, .inl f246))]) X hP hD hS 1 rfl (vin (by decide)) (fun _ => rfl) dX13_feed_100 (fun f246 H locs hP hD hS => ?_)
  refine lv_aload_n hx hb dX13_feed_101 rfl (lv_at hl 2 rfl) ?_
  refine lv_dup hx hb dX13_feed_102 rfl ?_
  refine m_get (C := RX13) (T := TX13) (N := 37) (ci := 10) (v := .int 3) X hP 0 rfl rfl 6 (by decide) qw_141 inlX13 rfl dX13_feed_103 ?_
  refine lv_iconst (v := 1) hx hb dX13_feed_106 (by decide) ?_
  refine lv_iadd hx hb dX13_feed_107 ?_
  refine lv_topi (fun z247 ez247 => ?_)
  obtain rfl : z247 = 4 := ez247.trans (by decide)
  refine m_put (C := RX13) (T := TX13) (N := 37) (ci := 10) (v := .int 4) (ws' := [(a0, .inr (10, [.int 0, .int 0, .int (-1), .null, .null, .ref a1, .int 4, .int 0, .int 0, .int 0, .int 0, .int 0, .int 0, .int 0, .int 0, .long 0, .ref a2, .ref a3, .ref a4, .ref a5, .int 0, .int 0, .int 0, .int 0, .ref a6, .ref a7, .ref a8, .ref a9, .int 0, .ref a10, .ref a11, .ref a12, .ref a13, .ref a14, .ref a15, .ref a16, .int 0])), (a1, .inl (G.2 3, 1000, .inl f246))]) X hP hD hS tyX13 tyX13_ok nmX13 0 rfl rfl 6 (by decide) qw_141 inlX13 rfl (by first | rfl | decide) (by first | rfl | decide) (Nat.le_of_ble_eq_true rfl) rfl dX13_feed_108 (fun H locs hP hD hS => ?_)
  refine lv_iinc (v := 4) (lv' := [(6, .int 4), (7, .int i0), (0, .ref a0), (1, .int i0), (2, .int i1), (3, .int i2), (4, .int i3), (5, .int i4)]) hx hb dX13_feed_111 hl (k := 1) rfl (by decide) (by decide) rfl (fun ls hl => ?_)
  refine lv_goto (tgt := 23) hx hb dX13_feed_114 (by decide) ?_
  refine lv_iload hx hb dX13_feed_23 (lv_at hl 0 rfl) ?_
  refine lv_bipush (v := 20) hx hb dX13_feed_25 (by decide) ?_
  refine lv_icmp_ge (tgt := 117) hx hb dX13_feed_27 (by decide) (fun c9 => absurd c9 (by decide)) (fun _ => ?_)
  refine lv_iload hx hb dX13_feed_30 (lv_at hl 0 rfl) ?_
  refine lv_iconst (v := 4) hx hb dX13_feed_32 (by decide) ?_
  refine lv_icmp_ge (tgt := 40) hx hb dX13_feed_33 (by decide) (fun _ => ?_) (fun c9 => absurd c9 (by decide))
  refine lv_iload hx hb dX13_feed_40 (lv_at hl 0 rfl) ?_
  refine lv_bipush (v := 8) hx hb dX13_feed_42 (by decide) ?_
  refine lv_icmp_ge (tgt := 51) hx hb dX13_feed_44 (by decide) (fun c9 => absurd c9 (by decide)) (fun _ => ?_)
  refine lv_iload_n hx hb dX13_feed_47 rfl (lv_at hl 4 rfl) ?_
  refine lv_goto (tgt := 76) hx hb dX13_feed_48 (by decide) ?_
  refine lv_istore (lv' := [(7, .int i1), (6, .int 4), (0, .ref a0), (1, .int i0), (2, .int i1), (3, .int i2), (4, .int i3), (5, .int i4)]) hx hb dX13_feed_76 hl (by decide) rfl (fun ls hl => ?_)
  refine lv_aload_n hx hb dX13_feed_78 rfl (lv_at hl 2 rfl) ?_
  refine m_get (C := RX13) (T := TX13) (N := 37) (ci := 10) (v := .ref a1) X hP 0 rfl rfl 5 (by decide) qw_111 inlX13 rfl dX13_feed_79 ?_
  refine lv_aload_n hx hb dX13_feed_82 rfl (lv_at hl 2 rfl) ?_
  refine m_get (C := RX13) (T := TX13) (N := 37) (ci := 10) (v := .int 4) X hP 0 rfl rfl 6 (by decide) qw_141 inlX13 rfl dX13_feed_83 ?_
  refine lv_iload hx hb dX13_feed_86 (lv_at hl 0 rfl) ?_
  refine lv_bipush (v := 24) hx hb dX13_feed_88 (by decide) ?_
  refine lv_bipush (v := 8) hx hb dX13_feed_90 (by decide) ?_
  refine lv_iload hx hb dX13_feed_92 (lv_at hl 1 rfl) ?_
  refine lv_iconst (v := 4) hx hb dX13_feed_94 (by decide) ?_
  refine lv_irem hx hb dX13_feed_95 (by decide) ?_
  refine lv_topi (fun z248 ez248 => ?_)
  obtain rfl : z248 = 0 := ez248.trans (by decide)
  refine lv_imul hx hb dX13_feed_96 ?_
  refine lv_topi (fun z249 ez249 => ?_)
  obtain rfl : z249 = 0 := ez249.trans (by decide)
  refine lv_isub hx hb dX13_feed_97 ?_
  refine lv_topi (fun z250 ez250 => ?_)
  obtain rfl : z250 = 24 := ez250.trans (by decide)
  refine lv_ishr hx hb dX13_feed_98 ?_
  refine lv_topi (fun z251 ez251 => ?_)
  refine lv_i2b hx hb dX13_feed_99 rfl ?_
  refine lv_topi (fun z252 ez252 => ?_)
  refine m_bast (ws' := fun f253 => [(a0, .inr (10, [.int 0, .int 0, .int (-1), .null, .null, .ref a1, .int 4, .int 0, .int 0, .int 0, .int 0, .int 0, .int 0, .int 0, .int 0, .long 0, .ref a2, .ref a3, .ref a4, .ref a5, .int 0, .int 0, .int 0, .int 0, .ref a6, .ref a7, .ref a8, .ref a9, .int 0, .ref a10, .ref a11, .ref a12, .ref a13, .ref a14, .ref a15, .ref a16, .int 0])), (a1, .inl (G.2 3, 1000, .inl f253))]) X hP hD hS 1 rfl (vin (by decide)) (fun _ => rfl) dX13_feed_100 (fun f253 H locs hP hD hS => ?_)
  refine lv_aload_n hx hb dX13_feed_101 rfl (lv_at hl 2 rfl) ?_
  refine lv_dup hx hb dX13_feed_102 rfl ?_
  refine m_get (C := RX13) (T := TX13) (N := 37) (ci := 10) (v := .int 4) X hP 0 rfl rfl 6 (by decide) qw_141 inlX13 rfl dX13_feed_103 ?_
  refine lv_iconst (v := 1) hx hb dX13_feed_106 (by decide) ?_
  refine lv_iadd hx hb dX13_feed_107 ?_
  refine lv_topi (fun z254 ez254 => ?_)
  obtain rfl : z254 = 5 := ez254.trans (by decide)
  refine m_put (C := RX13) (T := TX13) (N := 37) (ci := 10) (v := .int 5) (ws' := [(a0, .inr (10, [.int 0, .int 0, .int (-1), .null, .null, .ref a1, .int 5, .int 0, .int 0, .int 0, .int 0, .int 0, .int 0, .int 0, .int 0, .long 0, .ref a2, .ref a3, .ref a4, .ref a5, .int 0, .int 0, .int 0, .int 0, .ref a6, .ref a7, .ref a8, .ref a9, .int 0, .ref a10, .ref a11, .ref a12, .ref a13, .ref a14, .ref a15, .ref a16, .int 0])), (a1, .inl (G.2 3, 1000, .inl f253))]) X hP hD hS tyX13 tyX13_ok nmX13 0 rfl rfl 6 (by decide) qw_141 inlX13 rfl (by first | rfl | decide) (by first | rfl | decide) (Nat.le_of_ble_eq_true rfl) rfl dX13_feed_108 (fun H locs hP hD hS => ?_)
  refine lv_iinc (v := 5) (lv' := [(6, .int 5), (7, .int i1), (0, .ref a0), (1, .int i0), (2, .int i1), (3, .int i2), (4, .int i3), (5, .int i4)]) hx hb dX13_feed_111 hl (k := 1) rfl (by decide) (by decide) rfl (fun ls hl => ?_)
  refine lv_goto (tgt := 23) hx hb dX13_feed_114 (by decide) ?_
  refine lv_iload hx hb dX13_feed_23 (lv_at hl 0 rfl) ?_
  refine lv_bipush (v := 20) hx hb dX13_feed_25 (by decide) ?_
  refine lv_icmp_ge (tgt := 117) hx hb dX13_feed_27 (by decide) (fun c9 => absurd c9 (by decide)) (fun _ => ?_)
  refine lv_iload hx hb dX13_feed_30 (lv_at hl 0 rfl) ?_
  refine lv_iconst (v := 4) hx hb dX13_feed_32 (by decide) ?_
  refine lv_icmp_ge (tgt := 40) hx hb dX13_feed_33 (by decide) (fun _ => ?_) (fun c9 => absurd c9 (by decide))
  refine lv_iload hx hb dX13_feed_40 (lv_at hl 0 rfl) ?_
  refine lv_bipush (v := 8) hx hb dX13_feed_42 (by decide) ?_
  refine lv_icmp_ge (tgt := 51) hx hb dX13_feed_44 (by decide) (fun c9 => absurd c9 (by decide)) (fun _ => ?_)
  refine lv_iload_n hx hb dX13_feed_47 rfl (lv_at hl 4 rfl) ?_
  refine lv_goto (tgt := 76) hx hb dX13_feed_48 (by decide) ?_
  refine lv_istore (lv' := [(7, .int i1), (6, .int 5), (0, .ref a0), (1, .int i0), (2, .int i1), (3, .int i2), (4, .int i3), (5, .int i4)]) hx hb dX13_feed_76 hl (by decide) rfl (fun ls hl => ?_)
  refine lv_aload_n hx hb dX13_feed_78 rfl (lv_at hl 2 rfl) ?_
  refine m_get (C := RX13) (T := TX13) (N := 37) (ci := 10) (v := .ref a1) X hP 0 rfl rfl 5 (by decide) qw_111 inlX13 rfl dX13_feed_79 ?_
  refine lv_aload_n hx hb dX13_feed_82 rfl (lv_at hl 2 rfl) ?_
  refine m_get (C := RX13) (T := TX13) (N := 37) (ci := 10) (v := .int 5) X hP 0 rfl rfl 6 (by decide) qw_141 inlX13 rfl dX13_feed_83 ?_
  refine lv_iload hx hb dX13_feed_86 (lv_at hl 0 rfl) ?_
  refine lv_bipush (v := 24) hx hb dX13_feed_88 (by decide) ?_
  refine lv_bipush (v := 8) hx hb dX13_feed_90 (by decide) ?_
  refine lv_iload hx hb dX13_feed_92 (lv_at hl 1 rfl) ?_
  refine lv_iconst (v := 4) hx hb dX13_feed_94 (by decide) ?_
  refine lv_irem hx hb dX13_feed_95 (by decide) ?_
  refine lv_topi (fun z255 ez255 => ?_)
  obtain rfl : z255 = 1 := ez255.trans (by decide)
  refine lv_imul hx hb dX13_feed_96 ?_
  refine lv_topi (fun z256 ez256 => ?_)
  obtain rfl : z256 = 8 := ez256.trans (by decide)
  refine lv_isub hx hb dX13_feed_97 ?_
  refine lv_topi (fun z257 ez257 => ?_)
  obtain rfl : z257 = 16 := ez257.trans (by decide)
  refine lv_ishr hx hb dX13_feed_98 ?_
  refine lv_topi (fun z258 ez258 => ?_)
  refine lv_i2b hx hb dX13_feed_99 rfl ?_
  refine lv_topi (fun z259 ez259 => ?_)
  refine m_bast (ws' := fun f260 => [(a0, .inr (10, [.int 0, .int 0, .int (-1), .null, .null, .ref a1, .int 5, .int 0, .int 0, .int 0, .int 0, .int 0, .int 0, .int 0, .int 0, .long 0, .ref a2, .ref a3, .ref a4, .ref a5, .int 0, .int 0, .int 0, .int 0, .ref a6, .ref a7, .ref a8, .ref a9, .int 0, .ref a10, .ref a11, .ref a12, .ref a13, .ref a14, .ref a15, .ref a16, .int 0])), (a1, .inl (G.2 3, 1000, .inl f260))]) X hP hD hS 1 rfl (vin (by decide)) (fun _ => rfl) dX13_feed_100 (fun f260 H locs hP hD hS => ?_)
  refine lv_aload_n hx hb dX13_feed_101 rfl (lv_at hl 2 rfl) ?_
  refine lv_dup hx hb dX13_feed_102 rfl ?_
  refine m_get (C := RX13) (T := TX13) (N := 37) (ci := 10) (v := .int 5) X hP 0 rfl rfl 6 (by decide) qw_141 inlX13 rfl dX13_feed_103 ?_
  refine lv_iconst (v := 1) hx hb dX13_feed_106 (by decide) ?_
  refine lv_iadd hx hb dX13_feed_107 ?_
  refine lv_topi (fun z261 ez261 => ?_)
  obtain rfl : z261 = 6 := ez261.trans (by decide)
  refine m_put (C := RX13) (T := TX13) (N := 37) (ci := 10) (v := .int 6) (ws' := [(a0, .inr (10, [.int 0, .int 0, .int (-1), .null, .null, .ref a1, .int 6, .int 0, .int 0, .int 0, .int 0, .int 0, .int 0, .int 0, .int 0, .long 0, .ref a2, .ref a3, .ref a4, .ref a5, .int 0, .int 0, .int 0, .int 0, .ref a6, .ref a7, .ref a8, .ref a9, .int 0, .ref a10, .ref a11, .ref a12, .ref a13, .ref a14, .ref a15, .ref a16, .int 0])), (a1, .inl (G.2 3, 1000, .inl f260))]) X hP hD hS tyX13 tyX13_ok nmX13 0 rfl rfl 6 (by decide) qw_141 inlX13 rfl (by first | rfl | decide) (by first | rfl | decide) (Nat.le_of_ble_eq_true rfl) rfl dX13_feed_108 (fun H locs hP hD hS => ?_)
  refine lv_iinc (v := 6) (lv' := [(6, .int 6), (7, .int i1), (0, .ref a0), (1, .int i0), (2, .int i1), (3, .int i2), (4, .int i3), (5, .int i4)]) hx hb dX13_feed_111 hl (k := 1) rfl (by decide) (by decide) rfl (fun ls hl => ?_)
  refine lv_goto (tgt := 23) hx hb dX13_feed_114 (by decide) ?_
  refine lv_iload hx hb dX13_feed_23 (lv_at hl 0 rfl) ?_
  refine lv_bipush (v := 20) hx hb dX13_feed_25 (by decide) ?_
  refine lv_icmp_ge (tgt := 117) hx hb dX13_feed_27 (by decide) (fun c9 => absurd c9 (by decide)) (fun _ => ?_)
  refine lv_iload hx hb dX13_feed_30 (lv_at hl 0 rfl) ?_
  refine lv_iconst (v := 4) hx hb dX13_feed_32 (by decide) ?_
  refine lv_icmp_ge (tgt := 40) hx hb dX13_feed_33 (by decide) (fun _ => ?_) (fun c9 => absurd c9 (by decide))
  refine lv_iload hx hb dX13_feed_40 (lv_at hl 0 rfl) ?_
  refine lv_bipush (v := 8) hx hb dX13_feed_42 (by decide) ?_
  refine lv_icmp_ge (tgt := 51) hx hb dX13_feed_44 (by decide) (fun c9 => absurd c9 (by decide)) (fun _ => ?_)
  refine lv_iload_n hx hb dX13_feed_47 rfl (lv_at hl 4 rfl) ?_
  refine lv_goto (tgt := 76) hx hb dX13_feed_48 (by decide) ?_
  refine lv_istore (lv' := [(7, .int i1), (6, .int 6), (0, .ref a0), (1, .int i0), (2, .int i1), (3, .int i2), (4, .int i3), (5, .int i4)]) hx hb dX13_feed_76 hl (by decide) rfl (fun ls hl => ?_)
  refine lv_aload_n hx hb dX13_feed_78 rfl (lv_at hl 2 rfl) ?_
  refine m_get (C := RX13) (T := TX13) (N := 37) (ci := 10) (v := .ref a1) X hP 0 rfl rfl 5 (by decide) qw_111 inlX13 rfl dX13_feed_79 ?_
  refine lv_aload_n hx hb dX13_feed_82 rfl (lv_at hl 2 rfl) ?_
  refine m_get (C := RX13) (T := TX13) (N := 37) (ci := 10) (v := .int 6) X hP 0 rfl rfl 6 (by decide) qw_141 inlX13 rfl dX13_feed_83 ?_
  refine lv_iload hx hb dX13_feed_86 (lv_at hl 0 rfl) ?_
  refine lv_bipush (v := 24) hx hb dX13_feed_88 (by decide) ?_
  refine lv_bipush (v := 8) hx hb dX13_feed_90 (by decide) ?_
  refine lv_iload hx hb dX13_feed_92 (lv_at hl 1 rfl) ?_
  refine lv_iconst (v := 4) hx hb dX13_feed_94 (by decide) ?_
  refine lv_irem hx hb dX13_feed_95 (by decide) ?_
  refine lv_topi (fun z262 ez262 => ?_)
  obtain rfl : z262 = 2 := ez262.trans (by decide)
  refine lv_imul hx hb dX13_feed_96 ?_
  refine lv_topi (fun z263 ez263 => ?_)
  obtain rfl : z263 = 16 := ez263.trans (by decide)
  refine lv_isub hx hb dX13_feed_97 ?_
  refine lv_topi (fun z264 ez264 => ?_)
  obtain rfl : z264 = 8 := ez264.trans (by decide)
  refine lv_ishr hx hb dX13_feed_98 ?_
  refine lv_topi (fun z265 ez265 => ?_)
  refine lv_i2b hx hb dX13_feed_99 rfl ?_
  refine lv_topi (fun z266 ez266 => ?_)
  refine m_bast (ws' := fun f267 => [(a0, .inr (10, [.int 0, .int 0, .int (-1), .null, .null, .ref a1, .int 6, .int 0, .int 0, .int 0, .int 0, .int 0, .int 0, .int 0, .int 0, .long 0, .ref a2, .ref a3, .ref a4, .ref a5, .int 0, .int 0, .int 0, .int 0, .ref a6, .ref a7, .ref a8, .ref a9, .int 0, .ref a10, .ref a11, .ref a12, .ref a13, .ref a14, .ref a15, .ref a16, .int 0])), (a1, .inl (G.2 3, 1000, .inl f267))]) X hP hD hS 1 rfl (vin (by decide)) (fun _ => rfl) dX13_feed_100 (fun f267 H locs hP hD hS => ?_)
  refine lv_aload_n hx hb dX13_feed_101 rfl (lv_at hl 2 rfl) ?_
  refine lv_dup hx hb dX13_feed_102 rfl ?_
  refine m_get (C := RX13) (T := TX13) (N := 37) (ci := 10) (v := .int 6) X hP 0 rfl rfl 6 (by decide) qw_141 inlX13 rfl dX13_feed_103 ?_
  refine lv_iconst (v := 1) hx hb dX13_feed_106 (by decide) ?_
  refine lv_iadd hx hb dX13_feed_107 ?_
  refine lv_topi (fun z268 ez268 => ?_)
  obtain rfl : z268 = 7 := ez268.trans (by decide)
  refine m_put (C := RX13) (T := TX13) (N := 37) (ci := 10) (v := .int 7) (ws' := [(a0, .inr (10, [.int 0, .int 0, .int (-1), .null, .null, .ref a1, .int 7, .int 0, .int 0, .int 0, .int 0, .int 0, .int 0, .int 0, .int 0, .long 0, .ref a2, .ref a3, .ref a4, .ref a5, .int 0, .int 0, .int 0, .int 0, .ref a6, .ref a7, .ref a8, .ref a9, .int 0, .ref a10, .ref a11, .ref a12, .ref a13, .ref a14, .ref a15, .ref a16, .int 0])), (a1, .inl (G.2 3, 1000, .inl f267))]) X hP hD hS tyX13 tyX13_ok nmX13 0 rfl rfl 6 (by decide) qw_141 inlX13 rfl (by first | rfl | decide) (by first | rfl | decide) (Nat.le_of_ble_eq_true rfl) rfl dX13_feed_108 (fun H locs hP hD hS => ?_)
  refine lv_iinc (v := 7) (lv' := [(6, .int 7), (7, .int i1), (0, .ref a0), (1, .int i0), (2, .int i1), (3, .int i2), (4, .int i3), (5, .int i4)]) hx hb dX13_feed_111 hl (k := 1) rfl (by decide) (by decide) rfl (fun ls hl => ?_)
  refine lv_goto (tgt := 23) hx hb dX13_feed_114 (by decide) ?_
  refine lv_iload hx hb dX13_feed_23 (lv_at hl 0 rfl) ?_
  refine lv_bipush (v := 20) hx hb dX13_feed_25 (by decide) ?_
  refine lv_icmp_ge (tgt := 117) hx hb dX13_feed_27 (by decide) (fun c9 => absurd c9 (by decide)) (fun _ => ?_)
  refine lv_iload hx hb dX13_feed_30 (lv_at hl 0 rfl) ?_
  refine lv_iconst (v := 4) hx hb dX13_feed_32 (by decide) ?_
  refine lv_icmp_ge (tgt := 40) hx hb dX13_feed_33 (by decide) (fun _ => ?_) (fun c9 => absurd c9 (by decide))
  refine lv_iload hx hb dX13_feed_40 (lv_at hl 0 rfl) ?_
  refine lv_bipush (v := 8) hx hb dX13_feed_42 (by decide) ?_
  refine lv_icmp_ge (tgt := 51) hx hb dX13_feed_44 (by decide) (fun c9 => absurd c9 (by decide)) (fun _ => ?_)
  refine lv_iload_n hx hb dX13_feed_47 rfl (lv_at hl 4 rfl) ?_
  refine lv_goto (tgt := 76) hx hb dX13_feed_48 (by decide) ?_
  refine lv_istore (lv' := [(7, .int i1), (6, .int 7), (0, .ref a0), (1, .int i0), (2, .int i1), (3, .int i2), (4, .int i3), (5, .int i4)]) hx hb dX13_feed_76 hl (by decide) rfl (fun ls hl => ?_)
  refine lv_aload_n hx hb dX13_feed_78 rfl (lv_at hl 2 rfl) ?_
  refine m_get (C := RX13) (T := TX13) (N := 37) (ci := 10) (v := .ref a1) X hP 0 rfl rfl 5 (by decide) qw_111 inlX13 rfl dX13_feed_79 ?_
  refine lv_aload_n hx hb dX13_feed_82 rfl (lv_at hl 2 rfl) ?_
  refine m_get (C := RX13) (T := TX13) (N := 37) (ci := 10) (v := .int 7) X hP 0 rfl rfl 6 (by decide) qw_141 inlX13 rfl dX13_feed_83 ?_
  refine lv_iload hx hb dX13_feed_86 (lv_at hl 0 rfl) ?_
  refine lv_bipush (v := 24) hx hb dX13_feed_88 (by decide) ?_
  refine lv_bipush (v := 8) hx hb dX13_feed_90 (by decide) ?_
  refine lv_iload hx hb dX13_feed_92 (lv_at hl 1 rfl) ?_
  refine lv_iconst (v := 4) hx hb dX13_feed_94 (by decide) ?_
  refine lv_irem hx hb dX13_feed_95 (by decide) ?_
  refine lv_topi (fun z269 ez269 => ?_)
  obtain rfl : z269 = 3 := ez269.trans (by decide)
  refine lv_imul hx hb dX13_feed_96 ?_
  refine lv_topi (fun z270 ez270 => ?_)
  obtain rfl : z270 = 24 := ez270.trans (by decide)
  refine lv_isub hx hb dX13_feed_97 ?_
  refine lv_topi (fun z271 ez271 => ?_)
  obtain rfl : z271 = 0 := ez271.trans (by decide)
  refine lv_ishr hx hb dX13_feed_98 ?_
  refine lv_topi (fun z272 ez272 => ?_)
  refine lv_i2b hx hb dX13_feed_99 rfl ?_
  refine lv_topi (fun z273 ez273 => ?_)
  refine m_bast (ws' := fun f274 => [(a0, .inr (10, [.int 0, .int 0, .int (-1), .null, .null, .ref a1, .int 7, .int 0, .int 0, .int 0, .int 0, .int 0, .int 0, .int 0, .int 0, .long 0, .ref a2, .ref a3, .ref a4, .ref a5, .int 0, .int 0, .int 0, .int 0, .ref a6, .ref a7, .ref a8, .ref a9, .int 0, .ref a10, .ref a11, .ref a12, .ref a13, .ref a14, .ref a15, .ref a16, .int 0])), (a1, .inl (G.2 3, 1000, .inl f274))]) X hP hD hS 1 rfl (vin (by decide)) (fun _ => rfl) dX13_feed_100 (fun f274 H locs hP hD hS => ?_)
  refine lv_aload_n hx hb dX13_feed_101 rfl (lv_at hl 2 rfl) ?_
  refine lv_dup hx hb dX13_feed_102 rfl ?_
  refine m_get (C := RX13) (T := TX13) (N := 37) (ci := 10) (v := .int 7) X hP 0 rfl rfl 6 (by decide) qw_141 inlX13 rfl dX13_feed_103 ?_
  refine lv_iconst (v := 1) hx hb dX13_feed_106 (by decide) ?_
  refine lv_iadd hx hb dX13_feed_107 ?_
  refine lv_topi (fun z275 ez275 => ?_)
  obtain rfl : z275 = 8 := ez275.trans (by decide)
  refine m_put (C := RX13) (T := TX13) (N := 37) (ci := 10) (v := .int 8) (ws' := [(a0, .inr (10, [.int 0, .int 0, .int (-1), .null, .null, .ref a1, .int 8, .int 0, .int 0, .int 0, .int 0, .int 0, .int 0, .int 0, .int 0, .long 0, .ref a2, .ref a3, .ref a4, .ref a5, .int 0, .int 0, .int 0, .int 0, .ref a6, .ref a7, .ref a8, .ref a9, .int 0, .ref a10, .ref a11, .ref a12, .ref a13, .ref a14, .ref a15, .ref a16, .int 0])), (a1, .inl (G.2 3, 1000, .inl f274))]) X hP hD hS tyX13 tyX13_ok nmX13 0 rfl rfl 6 (by decide) qw_141 inlX13 rfl (by first | rfl | decide) (by first | rfl | decide) (Nat.le_of_ble_eq_true rfl) rfl dX13_feed_108 (fun H locs hP hD hS => ?_)
  refine lv_iinc (v := 8) (lv' := [(6, .int 8), (7, .int i1), (0, .ref a0), (1, .int i0), (2, .int i1), (3, .int i2), (4, .int i3), (5, .int i4)]) hx hb dX13_feed_111 hl (k := 1) rfl (by decide) (by decide) rfl (fun ls hl => ?_)
  refine lv_goto (tgt := 23) hx hb dX13_feed_114 (by decide) ?_
  refine lv_iload hx hb dX13_feed_23 (lv_at hl 0 rfl) ?_
  refine lv_bipush (v := 20) hx hb dX13_feed_25 (by decide) ?_
  refine lv_icmp_ge (tgt := 117) hx hb dX13_feed_27 (by decide) (fun c9 => absurd c9 (by decide)) (fun _ => ?_)
  refine lv_iload hx hb dX13_feed_30 (lv_at hl 0 rfl) ?_
  refine lv_iconst (v := 4) hx hb dX13_feed_32 (by decide) ?_
  refine lv_icmp_ge (tgt := 40) hx hb dX13_feed_33 (by decide) (fun _ => ?_) (fun c9 => absurd c9 (by decide))
  refine lv_iload hx hb dX13_feed_40 (lv_at hl 0 rfl) ?_
  refine lv_bipush (v := 8) hx hb dX13_feed_42 (by decide) ?_
  refine lv_icmp_ge (tgt := 51) hx hb dX13_feed_44 (by decide) (fun _ => ?_) (fun c9 => absurd c9 (by decide))
  refine lv_iload hx hb dX13_feed_51 (lv_at hl 0 rfl) ?_
  refine lv_bipush (v := 12) hx hb dX13_feed_53 (by decide) ?_
  refine lv_icmp_ge (tgt := 62) hx hb dX13_feed_55 (by decide) (fun c9 => absurd c9 (by decide)) (fun _ => ?_)
  refine lv_iload_n hx hb dX13_feed_58 rfl (lv_at hl 5 rfl) ?_
  refine lv_goto (tgt := 76) hx hb dX13_feed_59 (by decide) ?_
  refine lv_istore (lv' := [(7, .int i2), (6, .int 8), (0, .ref a0), (1, .int i0), (2, .int i1), (3, .int i2), (4, .int i3), (5, .int i4)]) hx hb dX13_feed_76 hl (by decide) rfl (fun ls hl => ?_)
  refine lv_aload_n hx hb dX13_feed_78 rfl (lv_at hl 2 rfl) ?_
  refine m_get (C := RX13) (T := TX13) (N := 37) (ci := 10) (v := .ref a1) X hP 0 rfl rfl 5 (by decide) qw_111 inlX13 rfl dX13_feed_79 ?_
  refine lv_aload_n hx hb dX13_feed_82 rfl (lv_at hl 2 rfl) ?_
  refine m_get (C := RX13) (T := TX13) (N := 37) (ci := 10) (v := .int 8) X hP 0 rfl rfl 6 (by decide) qw_141 inlX13 rfl dX13_feed_83 ?_
  refine lv_iload hx hb dX13_feed_86 (lv_at hl 0 rfl) ?_
  refine lv_bipush (v := 24) hx hb dX13_feed_88 (by decide) ?_
  refine lv_bipush (v := 8) hx hb dX13_feed_90 (by decide) ?_
  refine lv_iload hx hb dX13_feed_92 (lv_at hl 1 rfl) ?_
  refine lv_iconst (v := 4) hx hb dX13_feed_94 (by decide) ?_
  refine lv_irem hx hb dX13_feed_95 (by decide) ?_
  refine lv_topi (fun z276 ez276 => ?_)
  obtain rfl : z276 = 0 := ez276.trans (by decide)
  refine lv_imul hx hb dX13_feed_96 ?_
  refine lv_topi (fun z277 ez277 => ?_)
  obtain rfl : z277 = 0 := ez277.trans (by decide)
  refine lv_isub hx hb dX13_feed_97 ?_
  refine lv_topi (fun z278 ez278 => ?_)
  obtain rfl : z278 = 24 := ez278.trans (by decide)
  refine lv_ishr hx hb dX13_feed_98 ?_
  refine lv_topi (fun z279 ez279 => ?_)
  refine lv_i2b hx hb dX13_feed_99 rfl ?_
  refine lv_topi (fun z280 ez280 => ?_)
  refine m_bast (ws' := fun f281 => [(a0, .inr (10, [.int 0, .int 0, .int (-1), .null, .null, .ref a1, .int 8, .int 0, .int 0, .int 0, .int 0, .int 0, .int 0, .int 0, .int 0, .long 0, .ref a2, .ref a3, .ref a4, .ref a5, .int 0, .int 0, .int 0, .int 0, .ref a6, .ref a7, .ref a8, .ref a9, .int 0, .ref a10, .ref a11, .ref a12, .ref a13, .ref a14, .ref a15, .ref a16, .int 0])), (a1, .inl (G.2 3, 1000, .inl f281))]) X hP hD hS 1 rfl (vin (by decide)) (fun _ => rfl) dX13_feed_100 (fun f281 H locs hP hD hS => ?_)
  refine lv_aload_n hx hb dX13_feed_101 rfl (lv_at hl 2 rfl) ?_
  refine lv_dup hx hb dX13_feed_102 rfl ?_
  refine m_get (C := RX13) (T := TX13) (N := 37) (ci := 10) (v := .int 8) X hP 0 rfl rfl 6 (by decide) qw_141 inlX13 rfl dX13_feed_103 ?_
  refine lv_iconst (v := 1) hx hb dX13_feed_106 (by decide) ?_
  refine lv_iadd hx hb dX13_feed_107 ?_
  refine lv_topi (fun z282 ez282 => ?_)
  obtain rfl : z282 = 9 := ez282.trans (by decide)
  refine m_put (C := RX13) (T := TX13) (N := 37) (ci := 10) (v := .int 9) (ws' := [(a0, .inr (10, [.int 0, .int 0, .int (-1), .null, .null, .ref a1, .int 9, .int 0, .int 0, .int 0, .int 0, .int 0, .int 0, .int 0, .int 0, .long 0, .ref a2, .ref a3, .ref a4, .ref a5, .int 0, .int 0, .int 0, .int 0, .ref a6, .ref a7, .ref a8, .ref a9, .int 0, .ref a10, .ref a11, .ref a12, .ref a13, .ref a14, .ref a15, .ref a16, .int 0])), (a1, .inl (G.2 3, 1000, .inl f281))]) X hP hD hS tyX13 tyX13_ok nmX13 0 rfl rfl 6 (by decide) qw_141 inlX13 rfl (by first | rfl | decide) (by first | rfl | decide) (Nat.le_of_ble_eq_true rfl) rfl dX13_feed_108 (fun H locs hP hD hS => ?_)
  refine lv_iinc (v := 9) (lv' := [(6, .int 9), (7, .int i2), (0, .ref a0), (1, .int i0), (2, .int i1), (3, .int i2), (4, .int i3), (5, .int i4)]) hx hb dX13_feed_111 hl (k := 1) rfl (by decide) (by decide) rfl (fun ls hl => ?_)
  refine lv_goto (tgt := 23) hx hb dX13_feed_114 (by decide) ?_
  refine lv_iload hx hb dX13_feed_23 (lv_at hl 0 rfl) ?_
  refine lv_bipush (v := 20) hx hb dX13_feed_25 (by decide) ?_
  refine lv_icmp_ge (tgt := 117) hx hb dX13_feed_27 (by decide) (fun c9 => absurd c9 (by decide)) (fun _ => ?_)
  refine lv_iload hx hb dX13_feed_30 (lv_at hl 0 rfl) ?_
  refine lv_iconst (v := 4) hx hb dX13_feed_32 (by decide) ?_
  refine lv_icmp_ge (tgt := 40) hx hb dX13_feed_33 (by decide) (fun _ => ?_) (fun c9 => absurd c9 (by decide))
  refine lv_iload hx hb dX13_feed_40 (lv_at hl 0 rfl) ?_
  refine lv_bipush (v := 8) hx hb dX13_feed_42 (by decide) ?_
  refine lv_icmp_ge (tgt := 51) hx hb dX13_feed_44 (by decide) (fun _ => ?_) (fun c9 => absurd c9 (by decide))
  refine lv_iload hx hb dX13_feed_51 (lv_at hl 0 rfl) ?_
  refine lv_bipush (v := 12) hx hb dX13_feed_53 (by decide) ?_
  refine lv_icmp_ge (tgt := 62) hx hb dX13_feed_55 (by decide) (fun c9 => absurd c9 (by decide)) (fun _ => ?_)
  refine lv_iload_n hx hb dX13_feed_58 rfl (lv_at hl 5 rfl) ?_
  refine lv_goto (tgt := 76) hx hb dX13_feed_59 (by decide) ?_
  refine lv_istore (lv' := [(7, .int i2), (6, .int 9), (0, .ref a0), (1, .int i0), (2, .int i1), (3, .int i2), (4, .int i3), (5, .int i4)]) hx hb dX13_feed_76 hl (by decide) rfl (fun ls hl => ?_)
  refine lv_aload_n hx hb dX13_feed_78 rfl (lv_at hl 2 rfl) ?_
  refine m_get (C := RX13) (T := TX13) (N := 37) (ci := 10) (v := .ref a1) X hP 0 rfl rfl 5 (by decide) qw_111 inlX13 rfl dX13_feed_79 ?_
  refine lv_aload_n hx hb dX13_feed_82 rfl (lv_at hl 2 rfl) ?_
  refine m_get (C := RX13) (T := TX13) (N := 37) (ci := 10) (v := .int 9) X hP 0 rfl rfl 6 (by decide) qw_141 inlX13 rfl dX13_feed_83 ?_
  refine lv_iload hx hb dX13_feed_86 (lv_at hl 0 rfl) ?_
  refine lv_bipush (v := 24) hx hb dX13_feed_88 (by decide) ?_
  refine lv_bipush (v := 8) hx hb dX13_feed_90 (by decide) ?_
  refine lv_iload hx hb dX13_feed_92 (lv_at hl 1 rfl) ?_
  refine lv_iconst (v := 4) hx hb dX13_feed_94 (by decide) ?_
  refine lv_irem hx hb dX13_feed_95 (by decide) ?_
  refine lv_topi (fun z283 ez283 => ?_)
  obtain rfl : z283 = 1 := ez283.trans (by decide)
  refine lv_imul hx hb dX13_feed_96 ?_
  refine lv_topi (fun z284 ez284 => ?_)
  obtain rfl : z284 = 8 := ez284.trans (by decide)
  refine lv_isub hx hb dX13_feed_97 ?_
  refine lv_topi (fun z285 ez285 => ?_)
  obtain rfl : z285 = 16 := ez285.trans (by decide)
  refine lv_ishr hx hb dX13_feed_98 ?_
  refine lv_topi (fun z286 ez286 => ?_)
  refine lv_i2b hx hb dX13_feed_99 rfl ?_
  refine lv_topi (fun z287 ez287 => ?_)
  refine m_bast (ws' := fun f288 => [(a0, .inr (10, [.int 0, .int 0, .int (-1), .null, .null, .ref a1, .int 9, .int 0, .int 0, .int 0, .int 0, .int 0, .int 0, .int 0, .int 0, .long 0, .ref a2, .ref a3, .ref a4, .ref a5, .int 0, .int 0, .int 0, .int 0, .ref a6, .ref a7, .ref a8, .ref a9, .int 0, .ref a10, .ref a11, .ref a12, .ref a13, .ref a14, .ref a15, .ref a16, .int 0])), (a1, .inl (G.2 3, 1000, .inl f288))]) X hP hD hS 1 rfl (vin (by decide)) (fun _ => rfl) dX13_feed_100 (fun f288 H locs hP hD hS => ?_)
  refine lv_aload_n hx hb dX13_feed_101 rfl (lv_at hl 2 rfl) ?_
  refine lv_dup hx hb dX13_feed_102 rfl ?_
  refine m_get (C := RX13) (T := TX13) (N := 37) (ci := 10) (v := .int 9) X hP 0 rfl rfl 6 (by decide) qw_141 inlX13 rfl dX13_feed_103 ?_
  refine lv_iconst (v := 1) hx hb dX13_feed_106 (by decide) ?_
  refine lv_iadd hx hb dX13_feed_107 ?_
  refine lv_topi (fun z289 ez289 => ?_)
  obtain rfl : z289 = 10 := ez289.trans (by decide)
  refine m_put (C := RX13) (T := TX13) (N := 37) (ci := 10) (v := .int 10) (ws' := [(a0, .inr (10, [.int 0, .int 0, .int (-1), .null, .null, .ref a1, .int 10, .int 0, .int 0, .int 0, .int 0, .int 0, .int 0, .int 0, .int 0, .long 0, .ref a2, .ref a3, .ref a4, .ref a5, .int 0, .int 0, .int 0, .int 0, .ref a6, .ref a7, .ref a8, .ref a9, .int 0, .ref a10, .ref a11, .ref a12, .ref a13, .ref a14, .ref a15, .ref a16, .int 0])), (a1, .inl (G.2 3, 1000, .inl f288))]) X hP hD hS tyX13 tyX13_ok nmX13 0 rfl rfl 6 (by decide) qw_141 inlX13 rfl (by first | rfl | decide) (by first | rfl | decide) (Nat.le_of_ble_eq_true rfl) rfl dX13_feed_108 (fun H locs hP hD hS => ?_)
  refine lv_iinc (v := 10) (lv' := [(6, .int 10), (7, .int i2), (0, .ref a0), (1, .int i0), (2, .int i1), (3, .int i2), (4, .int i3), (5, .int i4)]) hx hb dX13_feed_111 hl (k := 1) rfl (by decide) (by decide) rfl (fun ls hl => ?_)
  refine lv_goto (tgt := 23) hx hb dX13_feed_114 (by decide) ?_
  refine lv_iload hx hb dX13_feed_23 (lv_at hl 0 rfl) ?_
  refine lv_bipush (v := 20) hx hb dX13_feed_25 (by decide) ?_
  refine lv_icmp_ge (tgt := 117) hx hb dX13_feed_27 (by decide) (fun c9 => absurd c9 (by decide)) (fun _ => ?_)
  refine lv_iload hx hb dX13_feed_30 (lv_at hl 0 rfl) ?_
  refine lv_iconst (v := 4) hx hb dX13_feed_32 (by decide) ?_
  refine lv_icmp_ge (tgt := 40) hx hb dX13_feed_33 (by decide) (fun _ => ?_) (fun c9 => absurd c9 (by decide))
  refine lv_iload hx hb dX13_feed_40 (lv_at hl 0 rfl) ?_
  refine lv_bipush (v := 8) hx hb dX13_feed_42 (by decide) ?_
  refine lv_icmp_ge (tgt := 51) hx hb dX13_feed_44 (by decide) (fun _ => ?_) (fun c9 => absurd c9 (by decide))
  refine lv_iload hx hb dX13_feed_51 (lv_at hl 0 rfl) ?_
  refine lv_bipush (v := 12) hx hb dX13_feed_53 (by decide) ?_
  refine lv_icmp_ge (tgt := 62) hx hb dX13_feed_55 (by decide) (fun c9 => absurd c9 (by decide)) (fun _ => ?_)
  refine lv_iload_n hx hb dX13_feed_58 rfl (lv_at hl 5 rfl) ?_
  refine lv_goto (tgt := 76) hx hb dX13_feed_59 (by decide) ?_
  refine lv_istore (lv' := [(7, .int i2), (6, .int 10), (0, .ref a0), (1, .int i0), (2, .int i1), (3, .int i2), (4, .int i3), (5, .int i4)]) hx hb dX13_feed_76 hl (by decide) rfl (fun ls hl => ?_)
  refine lv_aload_n hx hb dX13_feed_78 rfl (lv_at hl 2 rfl) ?_
  refine m_get (C := RX13) (T := TX13) (N := 37) (ci := 10) (v := .ref a1) X hP 0 rfl rfl 5 (by decide) qw_111 inlX13 rfl dX13_feed_79 ?_
  refine lv_aload_n hx hb dX13_feed_82 rfl (lv_at hl 2 rfl) ?_
  refine m_get (C := RX13) (T := TX13) (N := 37) (ci := 10) (v := .int 10) X hP 0 rfl rfl 6 (by decide) qw_141 inlX13 rfl dX13_feed_83 ?_
  refine lv_iload hx hb dX13_feed_86 (lv_at hl 0 rfl) ?_
  refine lv_bipush (v := 24) hx hb dX13_feed_88 (by decide) ?_
  refine lv_bipush (v := 8) hx hb dX13_feed_90 (by decide) ?_
  refine lv_iload hx hb dX13_feed_92 (lv_at hl 1 rfl) ?_
  refine lv_iconst (v := 4) hx hb dX13_feed_94 (by decide) ?_
  refine lv_irem hx hb dX13_feed_95 (by decide) ?_
  refine lv_topi (fun z290 ez290 => ?_)
  obtain rfl : z290 = 2 := ez290.trans (by decide)
  refine lv_imul hx hb dX13_feed_96 ?_
  refine lv_topi (fun z291 ez291 => ?_)
  obtain rfl : z291 = 16 := ez291.trans (by decide)
  refine lv_isub hx hb dX13_feed_97 ?_
  refine lv_topi (fun z292 ez292 => ?_)
  obtain rfl : z292 = 8 := ez292.trans (by decide)
  refine lv_ishr hx hb dX13_feed_98 ?_
  refine lv_topi (fun z293 ez293 => ?_)
  refine lv_i2b hx hb dX13_feed_99 rfl ?_
  refine lv_topi (fun z294 ez294 => ?_)
  refine m_bast (ws' := fun f295 => [(a0, .inr (10, [.int 0, .int 0, .int (-1), .null, .null, .ref a1, .int 10, .int 0, .int 0, .int 0, .int 0, .int 0, .int 0, .int 0, .int 0, .long 0, .ref a2, .ref a3, .ref a4, .ref a5, .int 0, .int 0, .int 0, .int 0, .ref a6, .ref a7, .ref a8, .ref a9, .int 0, .ref a10, .ref a11, .ref a12, .ref a13, .ref a14, .ref a15, .ref a16, .int 0])), (a1, .inl (G.2 3, 1000, .inl f295))]) X hP hD hS 1 rfl (vin (by decide)) (fun _ => rfl) dX13_feed_100 (fun f295 H locs hP hD hS => ?_)
  refine lv_aload_n hx hb dX13_feed_101 rfl (lv_at hl 2 rfl) ?_
  refine lv_dup hx hb dX13_feed_102 rfl ?_
  refine m_get (C := RX13) (T := TX13) (N := 37) (ci := 10) (v := .int 10) X hP 0 rfl rfl 6 (by decide) qw_141 inlX13 rfl dX13_feed_103 ?_
  refine lv_iconst (v := 1) hx hb dX13_feed_106 (by decide) ?_
  refine lv_iadd hx hb dX13_feed_107 ?_
  refine lv_topi (fun z296 ez296 => ?_)
  obtain rfl : z296 = 11 := ez296.trans (by decide)
  refine m_put (C := RX13) (T := TX13) (N := 37) (ci := 10) (v := .int 11) (ws' := [(a0, .inr (10, [.int 0, .int 0, .int (-1), .null, .null, .ref a1, .int 11, .int 0, .int 0, .int 0, .int 0, .int 0, .int 0, .int 0, .int 0, .long 0, .ref a2, .ref a3, .ref a4, .ref a5, .int 0, .int 0, .int 0, .int 0, .ref a6, .ref a7, .ref a8, .ref a9, .int 0, .ref a10, .ref a11, .ref a12, .ref a13, .ref a14, .ref a15, .ref a16, .int 0])), (a1, .inl (G.2 3, 1000, .inl f295))]) X hP hD hS tyX13 tyX13_ok nmX13 0 rfl rfl 6 (by decide) qw_141 inlX13 rfl (by first | rfl | decide) (by first | rfl | decide) (Nat.le_of_ble_eq_true rfl) rfl dX13_feed_108 (fun H locs hP hD hS => ?_)
  refine lv_iinc (v := 11) (lv' := [(6, .int 11), (7, .int i2), (0, .ref a0), (1, .int i0), (2, .int i1), (3, .int i2), (4, .int i3), (5, .int i4)]) hx hb dX13_feed_111 hl (k := 1) rfl (by decide) (by decide) rfl (fun ls hl => ?_)
  refine lv_goto (tgt := 23) hx hb dX13_feed_114 (by decide) ?_
  refine lv_iload hx hb dX13_feed_23 (lv_at hl 0 rfl) ?_
  refine lv_bipush (v := 20) hx hb dX13_feed_25 (by decide) ?_
  refine lv_icmp_ge (tgt := 117) hx hb dX13_feed_27 (by decide) (fun c9 => absurd c9 (by decide)) (fun _ => ?_)
  refine lv_iload hx hb dX13_feed_30 (lv_at hl 0 rfl) ?_
  refine lv_iconst (v := 4) hx hb dX13_feed_32 (by decide) ?_
  refine lv_icmp_ge (tgt := 40) hx hb dX13_feed_33 (by decide) (fun _ => ?_) (fun c9 => absurd c9 (by decide))
  refine lv_iload hx hb dX13_feed_40 (lv_at hl 0 rfl) ?_
  refine lv_bipush (v := 8) hx hb dX13_feed_42 (by decide) ?_
  refine lv_icmp_ge (tgt := 51) hx hb dX13_feed_44 (by decide) (fun _ => ?_) (fun c9 => absurd c9 (by decide))
  refine lv_iload hx hb dX13_feed_51 (lv_at hl 0 rfl) ?_
  refine lv_bipush (v := 12) hx hb dX13_feed_53 (by decide) ?_
  refine lv_icmp_ge (tgt := 62) hx hb dX13_feed_55 (by decide) (fun c9 => absurd c9 (by decide)) (fun _ => ?_)
  refine lv_iload_n hx hb dX13_feed_58 rfl (lv_at hl 5 rfl) ?_
  refine lv_goto (tgt := 76) hx hb dX13_feed_59 (by decide) ?_
  refine lv_istore (lv' := [(7, .int i2), (6, .int 11), (0, .ref a0), (1, .int i0), (2, .int i1), (3, .int i2), (4, .int i3), (5, .int i4)]) hx hb dX13_feed_76 hl (by decide) rfl (fun ls hl => ?_)
  refine lv_aload_n hx hb dX13_feed_78 rfl (lv_at hl 2 rfl) ?_
  refine m_get (C := RX13) (T := TX13) (N := 37) (ci := 10) (v := .ref a1) X hP 0 rfl rfl 5 (by decide) qw_111 inlX13 rfl dX13_feed_79 ?_
  refine lv_aload_n hx hb dX13_feed_82 rfl (lv_at hl 2 rfl) ?_
  refine m_get (C := RX13) (T := TX13) (N := 37) (ci := 10) (v := .int 11) X hP 0 rfl rfl 6 (by decide) qw_141 inlX13 rfl dX13_feed_83 ?_
  refine lv_iload hx hb dX13_feed_86 (lv_at hl 0 rfl) ?_
  refine lv_bipush (v := 24) hx hb dX13_feed_88 (by decide) ?_
  refine lv_bipush (v := 8) hx hb dX13_feed_90 (by decide) ?_
  refine lv_iload hx hb dX13_feed_92 (lv_at hl 1 rfl) ?_
  refine lv_iconst (v := 4) hx hb dX13_feed_94 (by decide) ?_
  refine lv_irem hx hb dX13_feed_95 (by decide) ?_
  refine lv_topi (fun z297 ez297 => ?_)
  obtain rfl : z297 = 3 := ez297.trans (by decide)
  refine lv_imul hx hb dX13_feed_96 ?_
  refine lv_topi (fun z298 ez298 => ?_)
  obtain rfl : z298 = 24 := ez298.trans (by decide)
  refine lv_isub hx hb dX13_feed_97 ?_
  refine lv_topi (fun z299 ez299 => ?_)
  obtain rfl : z299 = 0 := ez299.trans (by decide)
  refine lv_ishr hx hb dX13_feed_98 ?_
  refine lv_topi (fun z300 ez300 => ?_)
  refine lv_i2b hx hb dX13_feed_99 rfl ?_
  refine lv_topi (fun z301 ez301 => ?_)
  refine m_bast (ws' := fun f302 => [(a0, .inr (10, [.int 0, .int 0, .int (-1), .null, .null, .ref a1, .int 11, .int 0, .int 0, .int 0, .int 0, .int 0, .int 0, .int 0, .int 0, .long 0, .ref a2, .ref a3, .ref a4, .ref a5, .int 0, .int 0, .int 0, .int 0, .ref a6, .ref a7, .ref a8, .ref a9, .int 0, .ref a10, .ref a11, .ref a12, .ref a13, .ref a14, .ref a15, .ref a16, .int 0])), (a1, .inl (G.2 3, 1000, .inl f302))]) X hP hD hS 1 rfl (vin (by decide)) (fun _ => rfl) dX13_feed_100 (fun f302 H locs hP hD hS => ?_)
  refine lv_aload_n hx hb dX13_feed_101 rfl (lv_at hl 2 rfl) ?_
  refine lv_dup hx hb dX13_feed_102 rfl ?_
  refine m_get (C := RX13) (T := TX13) (N := 37) (ci := 10) (v := .int 11) X hP 0 rfl rfl 6 (by decide) qw_141 inlX13 rfl dX13_feed_103 ?_
  refine lv_iconst (v := 1) hx hb dX13_feed_106 (by decide) ?_
  refine lv_iadd hx hb dX13_feed_107 ?_
  refine lv_topi (fun z303 ez303 => ?_)
  obtain rfl : z303 = 12 := ez303.trans (by decide)
  refine m_put (C := RX13) (T := TX13) (N := 37) (ci := 10) (v := .int 12) (ws' := [(a0, .inr (10, [.int 0, .int 0, .int (-1), .null, .null, .ref a1, .int 12, .int 0, .int 0, .int 0, .int 0, .int 0, .int 0, .int 0, .int 0, .long 0, .ref a2, .ref a3, .ref a4, .ref a5, .int 0, .int 0, .int 0, .int 0, .ref a6, .ref a7, .ref a8, .ref a9, .int 0, .ref a10, .ref a11, .ref a12, .ref a13, .ref a14, .ref a15, .ref a16, .int 0])), (a1, .inl (G.2 3, 1000, .inl f302))]) X hP hD hS tyX13 tyX13_ok nmX13 0 rfl rfl 6 (by decide) qw_141 inlX13 rfl (by first | rfl | decide) (by first | rfl | decide) (Nat.le_of_ble_eq_true rfl) rfl dX13_feed_108 (fun H locs hP hD hS => ?_)
  refine lv_iinc (v := 12) (lv' := [(6, .int 12), (7, .int i2), (0, .ref a0), (1, .int i0), (2, .int i1), (3, .int i2), (4, .int i3), (5, .int i4)]) hx hb dX13_feed_111 hl (k := 1) rfl (by decide) (by decide) rfl (fun ls hl => ?_)
  refine lv_goto (tgt := 23) hx hb dX13_feed_114 (by decide) ?_
  refine lv_iload hx hb dX13_feed_23 (lv_at hl 0 rfl) ?_
  refine lv_bipush (v := 20) hx hb dX13_feed_25 (by decide) ?_
  refine lv_icmp_ge (tgt := 117) hx hb dX13_feed_27 (by decide) (fun c9 => absurd c9 (by decide)) (fun _ => ?_)
  refine lv_iload hx hb dX13_feed_30 (lv_at hl 0 rfl) ?_
  refine lv_iconst (v := 4) hx hb dX13_feed_32 (by decide) ?_
  refine lv_icmp_ge (tgt := 40) hx hb dX13_feed_33 (by decide) (fun _ => ?_) (fun c9 => absurd c9 (by decide))
  refine lv_iload hx hb dX13_feed_40 (lv_at hl 0 rfl) ?_
  refine lv_bipush (v := 8) hx hb dX13_feed_42 (by decide) ?_
  refine lv_icmp_ge (tgt := 51) hx hb dX13_feed_44 (by decide) (fun _ => ?_) (fun c9 => absurd c9 (by decide))
  refine lv_iload hx hb dX13_feed_51 (lv_at hl 0 rfl) ?_
  refine lv_bipush (v := 12) hx hb dX13_feed_53 (by decide) ?_
  refine lv_icmp_ge (tgt := 62) hx hb dX13_feed_55 (by decide) (fun _ => ?_) (fun c9 => absurd c9 (by decide))
  refine lv_iload hx hb dX13_feed_62 (lv_at hl 0 rfl) ?_
  refine lv_bipush (v := 16) hx hb dX13_feed_64 (by decide) ?_
  refine lv_icmp_ge (tgt := 74) hx hb dX13_feed_66 (by decide) (fun c9 => absurd c9 (by decide)) (fun _ => ?_)
  refine lv_iload hx hb dX13_feed_69 (lv_at hl 6 rfl) ?_
  refine lv_goto (tgt := 76) hx hb dX13_feed_71 (by decide) ?_
  refine lv_istore (lv' := [(7, .int i3), (6, .int 12), (0, .ref a0), (1, .int i0), (2, .int i1), (3, .int i2), (4, .int i3), (5, .int i4)]) hx hb dX13_feed_76 hl (by decide) rfl (fun ls hl => ?_)
  refine lv_aload_n hx hb dX13_feed_78 rfl (lv_at hl 2 rfl) ?_
  refine m_get (C := RX13) (T := TX13) (N := 37) (ci := 10) (v := .ref a1) X hP 0 rfl rfl 5 (by decide) qw_111 inlX13 rfl dX13_feed_79 ?_
  refine lv_aload_n hx hb dX13_feed_82 rfl (lv_at hl 2 rfl) ?_
  refine m_get (C := RX13) (T := TX13) (N := 37) (ci := 10) (v := .int 12) X hP 0 rfl rfl 6 (by decide) qw_141 inlX13 rfl dX13_feed_83 ?_
  refine lv_iload hx hb dX13_feed_86 (lv_at hl 0 rfl) ?_
  refine lv_bipush (v := 24) hx hb dX13_feed_88 (by decide) ?_
  refine lv_bipush (v := 8) hx hb dX13_feed_90 (by decide) ?_
  refine lv_iload hx hb dX13_feed_92 (lv_at hl 1 rfl) ?_
  refine lv_iconst (v := 4) hx hb dX13_feed_94 (by decide) ?_
  refine lv_irem hx hb dX13_feed_95 (by decide) ?_
  refine lv_topi (fun z304 ez304 => ?_)
  obtain rfl : z304 = 0 := ez304.trans (by decide)
  refine lv_imul hx hb dX13_feed_96 ?_
  refine lv_topi (fun z305 ez305 => ?_)
  obtain rfl : z305 = 0 := ez305.trans (by decide)
  refine lv_isub hx hb dX13_feed_97 ?_
  refine lv_topi (fun z306 ez306 => ?_)
  obtain rfl : z306 = 24 := ez306.trans (by decide)
  refine lv_ishr hx hb dX13_feed_98 ?_
  refine lv_topi (fun z307 ez307 => ?_)
  refine lv_i2b hx hb dX13_feed_99 rfl ?_
  refine lv_topi (fun z308 ez308 => ?_)
  refine m_bast (ws' := fun f309 => [(a0, .inr (10, [.int 0, .int 0, .int (-1), .null, .null, .ref a1, .int 12, .int 0, .int 0, .int 0, .int 0, .int 0, .int 0, .int 0, .int 0, .long 0, .ref a2, .ref a3, .ref a4, .ref a5, .int 0, .int 0, .int 0, .int 0, .ref a6, .ref a7, .ref a8, .ref a9, .int 0, .ref a10, .ref a11, .ref a12, .ref a13, .ref a14, .ref a15, .ref a16, .int 0])), (a1, .inl (G.2 3, 1000, .inl f309))]) X hP hD hS 1 rfl (vin (by decide)) (fun _ => rfl) dX13_feed_100 (fun f309 H locs hP hD hS => ?_)
  refine lv_aload_n hx hb dX13_feed_101 rfl (lv_at hl 2 rfl) ?_
  refine lv_dup hx hb dX13_feed_102 rfl ?_
  refine m_get (C := RX13) (T := TX13) (N := 37) (ci := 10) (v := .int 12) X hP 0 rfl rfl 6 (by decide) qw_141 inlX13 rfl dX13_feed_103 ?_
  refine lv_iconst (v := 1) hx hb dX13_feed_106 (by decide) ?_
  refine lv_iadd hx hb dX13_feed_107 ?_
  refine lv_topi (fun z310 ez310 => ?_)
  obtain rfl : z310 = 13 := ez310.trans (by decide)
  refine m_put (C := RX13) (T := TX13) (N := 37) (ci := 10) (v := .int 13) (ws' := [(a0, .inr (10, [.int 0, .int 0, .int (-1), .null, .null, .ref a1, .int 13, .int 0, .int 0, .int 0, .int 0, .int 0, .int 0, .int 0, .int 0, .long 0, .ref a2, .ref a3, .ref a4, .ref a5, .int 0, .int 0, .int 0, .int 0, .ref a6, .ref a7, .ref a8, .ref a9, .int 0, .ref a10, .ref a11, .ref a12, .ref a13, .ref a14, .ref a15, .ref a16, .int 0])), (a1, .inl (G.2 3, 1000, .inl f309))]) X hP hD hS tyX13 tyX13_ok nmX13 0 rfl rfl 6 (by decide) qw_141 inlX13 rfl (by first | rfl | decide) (by first | rfl | decide) (Nat.le_of_ble_eq_true rfl) rfl dX13_feed_108 (fun H locs hP hD hS => ?_)
  refine lv_iinc (v := 13) (lv' := [(6, .int 13), (7, .int i3), (0, .ref a0), (1, .int i0), (2, .int i1), (3, .int i2), (4, .int i3), (5, .int i4)]) hx hb dX13_feed_111 hl (k := 1) rfl (by decide) (by decide) rfl (fun ls hl => ?_)
  refine lv_goto (tgt := 23) hx hb dX13_feed_114 (by decide) ?_
  refine lv_iload hx hb dX13_feed_23 (lv_at hl 0 rfl) ?_
  refine lv_bipush (v := 20) hx hb dX13_feed_25 (by decide) ?_
  refine lv_icmp_ge (tgt := 117) hx hb dX13_feed_27 (by decide) (fun c9 => absurd c9 (by decide)) (fun _ => ?_)
  refine lv_iload hx hb dX13_feed_30 (lv_at hl 0 rfl) ?_
  refine lv_iconst (v := 4) hx hb dX13_feed_32 (by decide) ?_
  refine lv_icmp_ge (tgt := 40) hx hb dX13_feed_33 (by decide) (fun _ => ?_) (fun c9 => absurd c9 (by decide))
  refine lv_iload hx hb dX13_feed_40 (lv_at hl 0 rfl) ?_
  refine lv_bipush (v := 8) hx hb dX13_feed_42 (by decide) ?_
  refine lv_icmp_ge (tgt := 51) hx hb dX13_feed_44 (by decide) (fun _ => ?_) (fun c9 => absurd c9 (by decide))
  refine lv_iload hx hb dX13_feed_51 (lv_at hl 0 rfl) ?_
  refine lv_bipush (v := 12) hx hb dX13_feed_53 (by decide) ?_
  refine lv_icmp_ge (tgt := 62) hx hb dX13_feed_55 (by decide) (fun _ => ?_) (fun c9 => absurd c9 (by decide))
  refine lv_iload hx hb dX13_feed_62 (lv_at hl 0 rfl) ?_
  refine lv_bipush (v := 16) hx hb dX13_feed_64 (by decide) ?_
  refine lv_icmp_ge (tgt := 74) hx hb dX13_feed_66 (by decide) (fun c9 => absurd c9 (by decide)) (fun _ => ?_)
  refine lv_iload hx hb dX13_feed_69 (lv_at hl 6 rfl) ?_
  refine lv_goto (tgt := 76) hx hb dX13_feed_71 (by decide) ?_
  refine lv_istore (lv' := [(7, .int i3), (6, .int 13), (0, .ref a0), (1, .int i0), (2, .int i1), (3, .int i2), (4, .int i3), (5, .int i4)]) hx hb dX13_feed_76 hl (by decide) rfl (fun ls hl => ?_)
  refine lv_aload_n hx hb dX13_feed_78 rfl (lv_at hl 2 rfl) ?_
  refine m_get (C := RX13) (T := TX13) (N := 37) (ci := 10) (v := .ref a1) X hP 0 rfl rfl 5 (by decide) qw_111 inlX13 rfl dX13_feed_79 ?_
  refine lv_aload_n hx hb dX13_feed_82 rfl (lv_at hl 2 rfl) ?_
  refine m_get (C := RX13) (T := TX13) (N := 37) (ci := 10) (v := .int 13) X hP 0 rfl rfl 6 (by decide) qw_141 inlX13 rfl dX13_feed_83 ?_
  refine lv_iload hx hb dX13_feed_86 (lv_at hl 0 rfl) ?_
  refine lv_bipush (v := 24) hx hb dX13_feed_88 (by decide) ?_
  refine lv_bipush (v := 8) hx hb dX13_feed_90 (by decide) ?_
  refine lv_iload hx hb dX13_feed_92 (lv_at hl 1 rfl) ?_
  refine lv_iconst (v := 4) hx hb dX13_feed_94 (by decide) ?_
  refine lv_irem hx hb dX13_feed_95 (by decide) ?_
  refine lv_topi (fun z311 ez311 => ?_)
  obtain rfl : z311 = 1 := ez311.trans (by decide)
  refine lv_imul hx hb dX13_feed_96 ?_
  refine lv_topi (fun z312 ez312 => ?_)
  obtain rfl : z312 = 8 := ez312.trans (by decide)
  refine lv_isub hx hb dX13_feed_97 ?_
  refine lv_topi (fun z313 ez313 => ?_)
  obtain rfl : z313 = 16 := ez313.trans (by decide)
  refine lv_ishr hx hb dX13_feed_98 ?_
  refine lv_topi (fun z314 ez314 => ?_)
  refine lv_i2b hx hb dX13_feed_99 rfl ?_
  refine lv_topi (fun z315 ez315 => ?_)
  refine m_bast (ws' := fun f316 => [(a0, .inr (10, [.int 0, .int 0, .int (-1), .null, .null, .ref a1, .int 13, .int 0, .int 0, .int 0, .int 0, .int 0, .int 0, .int 0, .int 0, .long 0, .ref a2, .ref a3, .ref a4, .ref a5, .int 0, .int 0, .int 0, .int 0, .ref a6, .ref a7, .ref a8, .ref a9, .int 0, .ref a10, .ref a11, .ref a12, .ref a13, .ref a14, .ref a15, .ref a16, .int 0])), (a1, .inl (G.2 3, 1000, .inl f316))]) X hP hD hS 1 rfl (vin (by decide)) (fun _ => rfl) dX13_feed_100 (fun f316 H locs hP hD hS => ?_)
  refine lv_aload_n hx hb dX13_feed_101 rfl (lv_at hl 2 rfl) ?_
  refine lv_dup hx hb dX13_feed_102 rfl ?_
  refine m_get (C := RX13) (T := TX13) (N := 37) (ci := 10) (v := .int 13) X hP 0 rfl rfl 6 (by decide) qw_141 inlX13 rfl dX13_feed_103 ?_
  refine lv_iconst (v := 1) hx hb dX13_feed_106 (by decide) ?_
  refine lv_iadd hx hb dX13_feed_107 ?_
  refine lv_topi (fun z317 ez317 => ?_)
  obtain rfl : z317 = 14 := ez317.trans (by decide)
  refine m_put (C := RX13) (T := TX13) (N := 37) (ci := 10) (v := .int 14) (ws' := [(a0, .inr (10, [.int 0, .int 0, .int (-1), .null, .null, .ref a1, .int 14, .int 0, .int 0, .int 0, .int 0, .int 0, .int 0, .int 0, .int 0, .long 0, .ref a2, .ref a3, .ref a4, .ref a5, .int 0, .int 0, .int 0, .int 0, .ref a6, .ref a7, .ref a8, .ref a9, .int 0, .ref a10, .ref a11, .ref a12, .ref a13, .ref a14, .ref a15, .ref a16, .int 0])), (a1, .inl (G.2 3, 1000, .inl f316))]) X hP hD hS tyX13 tyX13_ok nmX13 0 rfl rfl 6 (by decide) qw_141 inlX13 rfl (by first | rfl | decide) (by first | rfl | decide) (Nat.le_of_ble_eq_true rfl) rfl dX13_feed_108 (fun H locs hP hD hS => ?_)
  refine lv_iinc (v := 14) (lv' := [(6, .int 14), (7, .int i3), (0, .ref a0), (1, .int i0), (2, .int i1), (3, .int i2), (4, .int i3), (5, .int i4)]) hx hb dX13_feed_111 hl (k := 1) rfl (by decide) (by decide) rfl (fun ls hl => ?_)
  refine lv_goto (tgt := 23) hx hb dX13_feed_114 (by decide) ?_
  refine lv_iload hx hb dX13_feed_23 (lv_at hl 0 rfl) ?_
  refine lv_bipush (v := 20) hx hb dX13_feed_25 (by decide) ?_
  refine lv_icmp_ge (tgt := 117) hx hb dX13_feed_27 (by decide) (fun c9 => absurd c9 (by decide)) (fun _ => ?_)
  refine lv_iload hx hb dX13_feed_30 (lv_at hl 0 rfl) ?_
  refine lv_iconst (v := 4) hx hb dX13_feed_32 (by decide) ?_
  refine lv_icmp_ge (tgt := 40) hx hb dX13_feed_33 (by decide) (fun _ => ?_) (fun c9 => absurd c9 (by decide))
  refine lv_iload hx hb dX13_feed_40 (lv_at hl 0 rfl) ?_
  refine lv_bipush (v := 8) hx hb dX13_feed_42 (by decide) ?_
  refine lv_icmp_ge (tgt := 51) hx hb dX13_feed_44 (by decide) (fun _ => ?_) (fun c9 => absurd c9 (by decide))
  refine lv_iload hx hb dX13_feed_51 (lv_at hl 0 rfl) ?_
  refine lv_bipush (v := 12) hx hb dX13_feed_53 (by decide) ?_
  refine lv_icmp_ge (tgt := 62) hx hb dX13_feed_55 (by decide) (fun _ => ?_) (fun c9 => absurd c9 (by decide))
  refine lv_iload hx hb dX13_feed_62 (lv_at hl 0 rfl) ?_
  refine lv_bipush (v := 16) hx hb dX13_feed_64 (by decide) ?_
  refine lv_icmp_ge (tgt := 74) hx hb dX13_feed_66 (by decide) (fun c9 => absurd c9 (by decide)) (fun _ => ?_)
  refine lv_iload hx hb dX13_feed_69 (lv_at hl 6 rfl) ?_
  refine lv_goto (tgt := 76) hx hb dX13_feed_71 (by decide) ?_
  refine lv_istore (lv' := [(7, .int i3), (6, .int 14), (0, .ref a0), (1, .int i0), (2, .int i1), (3, .int i2), (4, .int i3), (5, .int i4)]) hx hb dX13_feed_76 hl (by decide) rfl (fun ls hl => ?_)
  refine lv_aload_n hx hb dX13_feed_78 rfl (lv_at hl 2 rfl) ?_
  refine m_get (C := RX13) (T := TX13) (N := 37) (ci := 10) (v := .ref a1) X hP 0 rfl rfl 5 (by decide) qw_111 inlX13 rfl dX13_feed_79 ?_
  refine lv_aload_n hx hb dX13_feed_82 rfl (lv_at hl 2 rfl) ?_
  refine m_get (C := RX13) (T := TX13) (N := 37) (ci := 10) (v := .int 14) X hP 0 rfl rfl 6 (by decide) qw_141 inlX13 rfl dX13_feed_83 ?_
  refine lv_iload hx hb dX13_feed_86 (lv_at hl 0 rfl) ?_
  refine lv_bipush (v := 24) hx hb dX13_feed_88 (by decide) ?_
  refine lv_bipush (v := 8) hx hb dX13_feed_90 (by decide) ?_
  refine lv_iload hx hb dX13_feed_92 (lv_at hl 1 rfl) ?_
  refine lv_iconst (v := 4) hx hb dX13_feed_94 (by decide) ?_
  refine lv_irem hx hb dX13_feed_95 (by decide) ?_
  refine lv_topi (fun z318 ez318 => ?_)
  obtain rfl : z318 = 2 := ez318.trans (by decide)
  refine lv_imul hx hb dX13_feed_96 ?_
  refine lv_topi (fun z319 ez319 => ?_)
  obtain rfl : z319 = 16 := ez319.trans (by decide)
  refine lv_isub hx hb dX13_feed_97 ?_
  refine lv_topi (fun z320 ez320 => ?_)
  obtain rfl : z320 = 8 := ez320.trans (by decide)
  refine lv_ishr hx hb dX13_feed_98 ?_
  refine lv_topi (fun z321 ez321 => ?_)
  refine lv_i2b hx hb dX13_feed_99 rfl ?_
  refine lv_topi (fun z322 ez322 => ?_)
  refine m_bast (ws' := fun f323 => [(a0, .inr (10, [.int 0, .int 0, .int (-1), .null, .null, .ref a1, .int 14, .int 0, .int 0, .int 0, .int 0, .int 0, .int 0, .int 0, .int 0, .long 0, .ref a2, .ref a3, .ref a4, .ref a5, .int 0, .int 0, .int 0, .int 0, .ref a6, .ref a7, .ref a8, .ref a9, .int 0, .ref a10, .ref a11, .ref a12, .ref a13, .ref a14, .ref a15, .ref a16, .int 0])), (a1, .inl (G.2 3, 1000, .inl f323))]) X hP hD hS 1 rfl (vin (by decide)) (fun _ => rfl) dX13_feed_100 (fun f323 H locs hP hD hS => ?_)
  refine lv_aload_n hx hb dX13_feed_101 rfl (lv_at hl 2 rfl) ?_
  refine lv_dup hx hb dX13_feed_102 rfl ?_
  refine m_get (C := RX13) (T := TX13) (N := 37) (ci := 10) (v := .int 14) X hP 0 rfl rfl 6 (by decide) qw_141 inlX13 rfl dX13_feed_103 ?_
  refine lv_iconst (v := 1) hx hb dX13_feed_106 (by decide) ?_
  refine lv_iadd hx hb dX13_feed_107 ?_
  refine lv_topi (fun z324 ez324 => ?_)
  obtain rfl : z324 = 15 := ez324.trans (by decide)
  refine m_put (C := RX13) (T := TX13) (N := 37) (ci := 10) (v := .int 15) (ws' := [(a0, .inr (10, [.int 0, .int 0, .int (-1), .null, .null, .ref a1, .int 15, .int 0, .int 0, .int 0, .int 0, .int 0, .int 0, .int 0, .int 0, .long 0, .ref a2, .ref a3, .ref a4, .ref a5, .int 0, .int 0, .int 0, .int 0, .ref a6, .ref a7, .ref a8, .ref a9, .int 0, .ref a10, .ref a11, .ref a12, .ref a13, .ref a14, .ref a15, .ref a16, .int 0])), (a1, .inl (G.2 3, 1000, .inl f323))]) X hP hD hS tyX13 tyX13_ok nmX13 0 rfl rfl 6 (by decide) qw_141 inlX13 rfl (by first | rfl | decide) (by first | rfl | decide) (Nat.le_of_ble_eq_true rfl) rfl dX13_feed_108 (fun H locs hP hD hS => ?_)
  refine lv_iinc (v := 15) (lv' := [(6, .int 15), (7, .int i3), (0, .ref a0), (1, .int i0), (2, .int i1), (3, .int i2), (4, .int i3), (5, .int i4)]) hx hb dX13_feed_111 hl (k := 1) rfl (by decide) (by decide) rfl (fun ls hl => ?_)
  refine lv_goto (tgt := 23) hx hb dX13_feed_114 (by decide) ?_
  refine lv_iload hx hb dX13_feed_23 (lv_at hl 0 rfl) ?_
  refine lv_bipush (v := 20) hx hb dX13_feed_25 (by decide) ?_
  refine lv_icmp_ge (tgt := 117) hx hb dX13_feed_27 (by decide) (fun c9 => absurd c9 (by decide)) (fun _ => ?_)
  refine lv_iload hx hb dX13_feed_30 (lv_at hl 0 rfl) ?_
  refine lv_iconst (v := 4) hx hb dX13_feed_32 (by decide) ?_
  refine lv_icmp_ge (tgt := 40) hx hb dX13_feed_33 (by decide) (fun _ => ?_) (fun c9 => absurd c9 (by decide))
  refine lv_iload hx hb dX13_feed_40 (lv_at hl 0 rfl) ?_
  refine lv_bipush (v := 8) hx hb dX13_feed_42 (by decide) ?_
  refine lv_icmp_ge (tgt := 51) hx hb dX13_feed_44 (by decide) (fun _ => ?_) (fun c9 => absurd c9 (by decide))
  refine lv_iload hx hb dX13_feed_51 (lv_at hl 0 rfl) ?_
  refine lv_bipush (v := 12) hx hb dX13_feed_53 (by decide) ?_
  refine lv_icmp_ge (tgt := 62) hx hb dX13_feed_55 (by decide) (fun _ => ?_) (fun c9 => absurd c9 (by decide))
  refine lv_iload hx hb dX13_feed_62 (lv_at hl 0 rfl) ?_
  refine lv_bipush (v := 16) hx hb dX13_feed_64 (by decide) ?_
  refine lv_icmp_ge (tgt := 74) hx hb dX13_feed_66 (by decide) (fun c9 => absurd c9 (by decide)) (fun _ => ?_)
  refine lv_iload hx hb dX13_feed_69 (lv_at hl 6 rfl) ?_
  refine lv_goto (tgt := 76) hx hb dX13_feed_71 (by decide) ?_
  refine lv_istore (lv' := [(7, .int i3), (6, .int 15), (0, .ref a0), (1, .int i0), (2, .int i1), (3, .int i2), (4, .int i3), (5, .int i4)]) hx hb dX13_feed_76 hl (by decide) rfl (fun ls hl => ?_)
  refine lv_aload_n hx hb dX13_feed_78 rfl (lv_at hl 2 rfl) ?_
  refine m_get (C := RX13) (T := TX13) (N := 37) (ci := 10) (v := .ref a1) X hP 0 rfl rfl 5 (by decide) qw_111 inlX13 rfl dX13_feed_79 ?_
  refine lv_aload_n hx hb dX13_feed_82 rfl (lv_at hl 2 rfl) ?_
  refine m_get (C := RX13) (T := TX13) (N := 37) (ci := 10) (v := .int 15) X hP 0 rfl rfl 6 (by decide) qw_141 inlX13 rfl dX13_feed_83 ?_
  refine lv_iload hx hb dX13_feed_86 (lv_at hl 0 rfl) ?_
  refine lv_bipush (v := 24) hx hb dX13_feed_88 (by decide) ?_
  refine lv_bipush (v := 8) hx hb dX13_feed_90 (by decide) ?_
  refine lv_iload hx hb dX13_feed_92 (lv_at hl 1 rfl) ?_
  refine lv_iconst (v := 4) hx hb dX13_feed_94 (by decide) ?_
  refine lv_irem hx hb dX13_feed_95 (by decide) ?_
  refine lv_topi (fun z325 ez325 => ?_)
  obtain rfl : z325 = 3 := ez325.trans (by decide)
  refine lv_imul hx hb dX13_feed_96 ?_
  refine lv_topi (fun z326 ez326 => ?_)
  obtain rfl : z326 = 24 := ez326.trans (by decide)
  refine lv_isub hx hb dX13_feed_97 ?_
  refine lv_topi (fun z327 ez327 => ?_)
  obtain rfl : z327 = 0 := ez327.trans (by decide)
  refine lv_ishr hx hb dX13_feed_98 ?_
  refine lv_topi (fun z328 ez328 => ?_)
  refine lv_i2b hx hb dX13_feed_99 rfl ?_
  refine lv_topi (fun z329 ez329 => ?_)
  refine m_bast (ws' := fun f330 => [(a0, .inr (10, [.int 0, .int 0, .int (-1), .null, .null, .ref a1, .int 15, .int 0, .int 0, .int 0, .int 0, .int 0, .int 0, .int 0, .int 0, .long 0, .ref a2, .ref a3, .ref a4, .ref a5, .int 0, .int 0, .int 0, .int 0, .ref a6, .ref a7, .ref a8, .ref a9, .int 0, .ref a10, .ref a11, .ref a12, .ref a13, .ref a14, .ref a15, .ref a16, .int 0])), (a1, .inl (G.2 3, 1000, .inl f330))]) X hP hD hS 1 rfl (vin (by decide)) (fun _ => rfl) dX13_feed_100 (fun f330 H locs hP hD hS => ?_)
  refine lv_aload_n hx hb dX13_feed_101 rfl (lv_at hl 2 rfl) ?_
  refine lv_dup hx hb dX13_feed_102 rfl ?_
  refine m_get (C := RX13) (T := TX13) (N := 37) (ci := 10) (v := .int 15) X hP 0 rfl rfl 6 (by decide) qw_141 inlX13 rfl dX13_feed_103 ?_
  refine lv_iconst (v := 1) hx hb dX13_feed_106 (by decide) ?_
  refine lv_iadd hx hb dX13_feed_107 ?_
  refine lv_topi (fun z331 ez331 => ?_)
  obtain rfl : z331 = 16 := ez331.trans (by decide)
  refine m_put (C := RX13) (T := TX13) (N := 37) (ci := 10) (v := .int 16) (ws' := [(a0, .inr (10, [.int 0, .int 0, .int (-1), .null, .null, .ref a1, .int 16, .int 0, .int 0, .int 0, .int 0, .int 0, .int 0, .int 0, .int 0, .long 0, .ref a2, .ref a3, .ref a4, .ref a5, .int 0, .int 0, .int 0, .int 0, .ref a6, .ref a7, .ref a8, .ref a9, .int 0, .ref a10, .ref a11, .ref a12, .ref a13, .ref a14, .ref a15, .ref a16, .int 0])), (a1, .inl (G.2 3, 1000, .inl f330))]) X hP hD hS tyX13 tyX13_ok nmX13 0 rfl rfl 6 (by decide) qw_141 inlX13 rfl (by first | rfl | decide) (by first | rfl | decide) (Nat.le_of_ble_eq_true rfl) rfl dX13_feed_108 (fun H locs hP hD hS => ?_)
  refine lv_iinc (v := 16) (lv' := [(6, .int 16), (7, .int i3), (0, .ref a0), (1, .int i0), (2, .int i1), (3, .int i2), (4, .int i3), (5, .int i4)]) hx hb dX13_feed_111 hl (k := 1) rfl (by decide) (by decide) rfl (fun ls hl => ?_)
  refine lv_goto (tgt := 23) hx hb dX13_feed_114 (by decide) ?_
  refine lv_iload hx hb dX13_feed_23 (lv_at hl 0 rfl) ?_
  refine lv_bipush (v := 20) hx hb dX13_feed_25 (by decide) ?_
  refine lv_icmp_ge (tgt := 117) hx hb dX13_feed_27 (by decide) (fun c9 => absurd c9 (by decide)) (fun _ => ?_)
  refine lv_iload hx hb dX13_feed_30 (lv_at hl 0 rfl) ?_
  refine lv_iconst (v := 4) hx hb dX13_feed_32 (by decide) ?_
  refine lv_icmp_ge (tgt := 40) hx hb dX13_feed_33 (by decide) (fun _ => ?_) (fun c9 => absurd c9 (by decide))
  refine lv_iload hx hb dX13_feed_40 (lv_at hl 0 rfl) ?_
  refine lv_bipush (v := 8) hx hb dX13_feed_42 (by decide) ?_
  refine lv_icmp_ge (tgt := 51) hx hb dX13_feed_44 (by decide) (fun _ => ?_) (fun c9 => absurd c9 (by decide))
  refine lv_iload hx hb dX13_feed_51 (lv_at hl 0 rfl) ?_
  refine lv_bipush (v := 12) hx hb dX13_feed_53 (by decide) ?_
  refine lv_icmp_ge (tgt := 62) hx hb dX13_feed_55 (by decide) (fun _ => ?_) (fun c9 => absurd c9 (by decide))
  refine lv_iload hx hb dX13_feed_62 (lv_at hl 0 rfl) ?_
  refine lv_bipush (v := 16) hx hb dX13_feed_64 (by decide) ?_
  refine lv_icmp_ge (tgt := 74) hx hb dX13_feed_66 (by decide) (fun _ => ?_) (fun c9 => absurd c9 (by decide))
  refine lv_iload hx hb dX13_feed_74 (lv_at hl 7 rfl) ?_
  refine lv_istore (lv' := [(7, .int i4), (6, .int 16), (0, .ref a0), (1, .int i0), (2, .int i1), (3, .int i2), (4, .int i3), (5, .int i4)]) hx hb dX13_feed_76 hl (by decide) rfl (fun ls hl => ?_)
  refine lv_aload_n hx hb dX13_feed_78 rfl (lv_at hl 2 rfl) ?_
  refine m_get (C := RX13) (T := TX13) (N := 37) (ci := 10) (v := .ref a1) X hP 0 rfl rfl 5 (by decide) qw_111 inlX13 rfl dX13_feed_79 ?_
  refine lv_aload_n hx hb dX13_feed_82 rfl (lv_at hl 2 rfl) ?_
  refine m_get (C := RX13) (T := TX13) (N := 37) (ci := 10) (v := .int 16) X hP 0 rfl rfl 6 (by decide) qw_141 inlX13 rfl dX13_feed_83 ?_
  refine lv_iload hx hb dX13_feed_86 (lv_at hl 0 rfl) ?_
  refine lv_bipush (v := 24) hx hb dX13_feed_88 (by decide) ?_
  refine lv_bipush (v := 8) hx hb dX13_feed_90 (by decide) ?_
  refine lv_iload hx hb dX13_feed_92 (lv_at hl 1 rfl) ?_
  refine lv_iconst (v := 4) hx hb dX13_feed_94 (by decide) ?_
  refine lv_irem hx hb dX13_feed_95 (by decide) ?_
  refine lv_topi (fun z332 ez332 => ?_)
  obtain rfl : z332 = 0 := ez332.trans (by decide)
  refine lv_imul hx hb dX13_feed_96 ?_
  refine lv_topi (fun z333 ez333 => ?_)
  obtain rfl : z333 = 0 := ez333.trans (by decide)
  refine lv_isub hx hb dX13_feed_97 ?_
  refine lv_topi (fun z334 ez334 => ?_)
  obtain rfl : z334 = 24 := ez334.trans (by decide)
  refine lv_ishr hx hb dX13_feed_98 ?_
  refine lv_topi (fun z335 ez335 => ?_)
  refine lv_i2b hx hb dX13_feed_99 rfl ?_
  refine lv_topi (fun z336 ez336 => ?_)
  refine m_bast (ws' := fun f337 => [(a0, .inr (10, [.int 0, .int 0, .int (-1), .null, .null, .ref a1, .int 16, .int 0, .int 0, .int 0, .int 0, .int 0, .int 0, .int 0, .int 0, .long 0, .ref a2, .ref a3, .ref a4, .ref a5, .int 0, .int 0, .int 0, .int 0, .ref a6, .ref a7, .ref a8, .ref a9, .int 0, .ref a10, .ref a11, .ref a12, .ref a13, .ref a14, .ref a15, .ref a16, .int 0])), (a1, .inl (G.2 3, 1000, .inl f337))]) X hP hD hS 1 rfl (vin (by decide)) (fun _ => rfl) dX13_feed_100 (fun f337 H locs hP hD hS => ?_)
  refine lv_aload_n hx hb dX13_feed_101 rfl (lv_at hl 2 rfl) ?_
  refine lv_dup hx hb dX13_feed_102 rfl ?_
  refine m_get (C := RX13) (T := TX13) (N := 37) (ci := 10) (v := .int 16) X hP 0 rfl rfl 6 (by decide) qw_141 inlX13 rfl dX13_feed_103 ?_
  refine lv_iconst (v := 1) hx hb dX13_feed_106 (by decide) ?_
  refine lv_iadd hx hb dX13_feed_107 ?_
  refine lv_topi (fun z338 ez338 => ?_)
  obtain rfl : z338 = 17 := ez338.trans (by decide)
  refine m_put (C := RX13) (T := TX13) (N := 37) (ci := 10) (v := .int 17) (ws' := [(a0, .inr (10, [.int 0, .int 0, .int (-1), .null, .null, .ref a1, .int 17, .int 0, .int 0, .int 0, .int 0, .int 0, .int 0, .int 0, .int 0, .long 0, .ref a2, .ref a3, .ref a4, .ref a5, .int 0, .int 0, .int 0, .int 0, .ref a6, .ref a7, .ref a8, .ref a9, .int 0, .ref a10, .ref a11, .ref a12, .ref a13, .ref a14, .ref a15, .ref a16, .int 0])), (a1, .inl (G.2 3, 1000, .inl f337))]) X hP hD hS tyX13 tyX13_ok nmX13 0 rfl rfl 6 (by decide) qw_141 inlX13 rfl (by first | rfl | decide) (by first | rfl | decide) (Nat.le_of_ble_eq_true rfl) rfl dX13_feed_108 (fun H locs hP hD hS => ?_)
  refine lv_iinc (v := 17) (lv' := [(6, .int 17), (7, .int i4), (0, .ref a0), (1, .int i0), (2, .int i1), (3, .int i2), (4, .int i3), (5, .int i4)]) hx hb dX13_feed_111 hl (k := 1) rfl (by decide) (by decide) rfl (fun ls hl => ?_)
  refine lv_goto (tgt := 23) hx hb dX13_feed_114 (by decide) ?_
  refine lv_iload hx hb dX13_feed_23 (lv_at hl 0 rfl) ?_
  refine lv_bipush (v := 20) hx hb dX13_feed_25 (by decide) ?_
  refine lv_icmp_ge (tgt := 117) hx hb dX13_feed_27 (by decide) (fun c9 => absurd c9 (by decide)) (fun _ => ?_)
  refine lv_iload hx hb dX13_feed_30 (lv_at hl 0 rfl) ?_
  refine lv_iconst (v := 4) hx hb dX13_feed_32 (by decide) ?_
  refine lv_icmp_ge (tgt := 40) hx hb dX13_feed_33 (by decide) (fun _ => ?_) (fun c9 => absurd c9 (by decide))
  refine lv_iload hx hb dX13_feed_40 (lv_at hl 0 rfl) ?_
  refine lv_bipush (v := 8) hx hb dX13_feed_42 (by decide) ?_
  refine lv_icmp_ge (tgt := 51) hx hb dX13_feed_44 (by decide) (fun _ => ?_) (fun c9 => absurd c9 (by decide))
  refine lv_iload hx hb dX13_feed_51 (lv_at hl 0 rfl) ?_
  refine lv_bipush (v := 12) hx hb dX13_feed_53 (by decide) ?_
  refine lv_icmp_ge (tgt := 62) hx hb dX13_feed_55 (by decide) (fun _ => ?_) (fun c9 => absurd c9 (by decide))
  refine lv_iload hx hb dX13_feed_62 (lv_at hl 0 rfl) ?_
  refine lv_bipush (v := 16) hx hb dX13_feed_64 (by decide) ?_
  refine lv_icmp_ge (tgt := 74) hx hb dX13_feed_66 (by decide) (fun _ => ?_) (fun c9 => absurd c9 (by decide))
  refine lv_iload hx hb dX13_feed_74 (lv_at hl 7 rfl) ?_
  refine lv_istore (lv' := [(7, .int i4), (6, .int 17), (0, .ref a0), (1, .int i0), (2, .int i1), (3, .int i2), (4, .int i3), (5, .int i4)]) hx hb dX13_feed_76 hl (by decide) rfl (fun ls hl => ?_)
  refine lv_aload_n hx hb dX13_feed_78 rfl (lv_at hl 2 rfl) ?_
  refine m_get (C := RX13) (T := TX13) (N := 37) (ci := 10) (v := .ref a1) X hP 0 rfl rfl 5 (by decide) qw_111 inlX13 rfl dX13_feed_79 ?_
  refine lv_aload_n hx hb dX13_feed_82 rfl (lv_at hl 2 rfl) ?_
  refine m_get (C := RX13) (T := TX13) (N := 37) (ci := 10) (v := .int 17) X hP 0 rfl rfl 6 (by decide) qw_141 inlX13 rfl dX13_feed_83 ?_
  refine lv_iload hx hb dX13_feed_86 (lv_at hl 0 rfl) ?_
  refine lv_bipush (v := 24) hx hb dX13_feed_88 (by decide) ?_
  refine lv_bipush (v := 8) hx hb dX13_feed_90 (by decide) ?_
  refine lv_iload hx hb dX13_feed_92 (lv_at hl 1 rfl) ?_
  refine lv_iconst (v := 4) hx hb dX13_feed_94 (by decide) ?_
  refine lv_irem hx hb dX13_feed_95 (by decide) ?_
  refine lv_topi (fun z339 ez339 => ?_)
  obtain rfl : z339 = 1 := ez339.trans (by decide)
  refine lv_imul hx hb dX13_feed_96 ?_
  refine lv_topi (fun z340 ez340 => ?_)
  obtain rfl : z340 = 8 := ez340.trans (by decide)
  refine lv_isub hx hb dX13_feed_97 ?_
  refine lv_topi (fun z341 ez341 => ?_)
  obtain rfl : z341 = 16 := ez341.trans (by decide)
  refine lv_ishr hx hb dX13_feed_98 ?_
  refine lv_topi (fun z342 ez342 => ?_)
  refine lv_i2b hx hb dX13_feed_99 rfl ?_
  refine lv_topi (fun z343 ez343 => ?_)
  refine m_bast (ws' := fun f344 => [(a0, .inr (10, [.int 0, .int 0, .int (-1), .null, .null, .ref a1, .int 17, .int 0, .int 0, .int 0, .int 0, .int 0, .int 0, .int 0, .int 0, .long 0, .ref a2, .ref a3, .ref a4, .ref a5, .int 0, .int 0, .int 0, .int 0, .ref a6, .ref a7, .ref a8, .ref a9, .int 0, .ref a10, .ref a11, .ref a12, .ref a13, .ref a14, .ref a15, .ref a16, .int 0])), (a1, .inl (G.2 3, 1000, .inl f344))]) X hP hD hS 1 rfl (vin (by decide)) (fun _ => rfl) dX13_feed_100 (fun f344 H locs hP hD hS => ?_)
  refine lv_aload_n hx hb dX13_feed_101 rfl (lv_at hl 2 rfl) ?_
  refine lv_dup hx hb dX13_feed_102 rfl ?_
  refine m_get (C := RX13) (T := TX13) (N := 37) (ci := 10) (v := .int 17) X hP 0 rfl rfl 6 (by decide) qw_141 inlX13 rfl dX13_feed_103 ?_
  refine lv_iconst (v := 1) hx hb dX13_feed_106 (by decide) ?_
  refine lv_iadd hx hb dX13_feed_107 ?_
  refine lv_topi (fun z345 ez345 => ?_)
  obtain rfl : z345 = 18 := ez345.trans (by decide)
  refine m_put (C := RX13) (T := TX13) (N := 37) (ci := 10) (v := .int 18) (ws' := [(a0, .inr (10, [.int 0, .int 0, .int (-1), .null, .null, .ref a1, .int 18, .int 0, .int 0, .int 0, .int 0, .int 0, .int 0, .int 0, .int 0, .long 0, .ref a2, .ref a3, .ref a4, .ref a5, .int 0, .int 0, .int 0, .int 0, .ref a6, .ref a7, .ref a8, .ref a9, .int 0, .ref a10, .ref a11, .ref a12, .ref a13, .ref a14, .ref a15, .ref a16, .int 0])), (a1, .inl (G.2 3, 1000, .inl f344))]) X hP hD hS tyX13 tyX13_ok nmX13 0 rfl rfl 6 (by decide) qw_141 inlX13 rfl (by first | rfl | decide) (by first | rfl | decide) (Nat.le_of_ble_eq_true rfl) rfl dX13_feed_108 (fun H locs hP hD hS => ?_)
  refine lv_iinc (v := 18) (lv' := [(6, .int 18), (7, .int i4), (0, .ref a0), (1, .int i0), (2, .int i1), (3, .int i2), (4, .int i3), (5, .int i4)]) hx hb dX13_feed_111 hl (k := 1) rfl (by decide) (by decide) rfl (fun ls hl => ?_)
  refine lv_goto (tgt := 23) hx hb dX13_feed_114 (by decide) ?_
  refine lv_iload hx hb dX13_feed_23 (lv_at hl 0 rfl) ?_
  refine lv_bipush (v := 20) hx hb dX13_feed_25 (by decide) ?_
  refine lv_icmp_ge (tgt := 117) hx hb dX13_feed_27 (by decide) (fun c9 => absurd c9 (by decide)) (fun _ => ?_)
  refine lv_iload hx hb dX13_feed_30 (lv_at hl 0 rfl) ?_
  refine lv_iconst (v := 4) hx hb dX13_feed_32 (by decide) ?_
  refine lv_icmp_ge (tgt := 40) hx hb dX13_feed_33 (by decide) (fun _ => ?_) (fun c9 => absurd c9 (by decide))
  refine lv_iload hx hb dX13_feed_40 (lv_at hl 0 rfl) ?_
  refine lv_bipush (v := 8) hx hb dX13_feed_42 (by decide) ?_
  refine lv_icmp_ge (tgt := 51) hx hb dX13_feed_44 (by decide) (fun _ => ?_) (fun c9 => absurd c9 (by decide))
  refine lv_iload hx hb dX13_feed_51 (lv_at hl 0 rfl) ?_
  refine lv_bipush (v := 12) hx hb dX13_feed_53 (by decide) ?_
  refine lv_icmp_ge (tgt := 62) hx hb dX13_feed_55 (by decide) (fun _ => ?_) (fun c9 => absurd c9 (by decide))
  refine lv_iload hx hb dX13_feed_62 (lv_at hl 0 rfl) ?_
  refine lv_bipush (v := 16) hx hb dX13_feed_64 (by decide) ?_
  refine lv_icmp_ge (tgt := 74) hx hb dX13_feed_66 (by decide) (fun _ => ?_) (fun c9 => absurd c9 (by decide))
  refine lv_iload hx hb dX13_feed_74 (lv_at hl 7 rfl) ?_
  refine lv_istore (lv' := [(7, .int i4), (6, .int 18), (0, .ref a0), (1, .int i0), (2, .int i1), (3, .int i2), (4, .int i3), (5, .int i4)]) hx hb dX13_feed_76 hl (by decide) rfl (fun ls hl => ?_)
  refine lv_aload_n hx hb dX13_feed_78 rfl (lv_at hl 2 rfl) ?_
  refine m_get (C := RX13) (T := TX13) (N := 37) (ci := 10) (v := .ref a1) X hP 0 rfl rfl 5 (by decide) qw_111 inlX13 rfl dX13_feed_79 ?_
  refine lv_aload_n hx hb dX13_feed_82 rfl (lv_at hl 2 rfl) ?_
  refine m_get (C := RX13) (T := TX13) (N := 37) (ci := 10) (v := .int 18) X hP 0 rfl rfl 6 (by decide) qw_141 inlX13 rfl dX13_feed_83 ?_
  refine lv_iload hx hb dX13_feed_86 (lv_at hl 0 rfl) ?_
  refine lv_bipush (v := 24) hx hb dX13_feed_88 (by decide) ?_
  refine lv_bipush (v := 8) hx hb dX13_feed_90 (by decide) ?_
  refine lv_iload hx hb dX13_feed_92 (lv_at hl 1 rfl) ?_
  refine lv_iconst (v := 4) hx hb dX13_feed_94 (by decide) ?_
  refine lv_irem hx hb dX13_feed_95 (by decide) ?_
  refine lv_topi (fun z346 ez346 => ?_)
  obtain rfl : z346 = 2 := ez346.trans (by decide)
  refine lv_imul hx hb dX13_feed_96 ?_
  refine lv_topi (fun z347 ez347 => ?_)
  obtain rfl : z347 = 16 := ez347.trans (by decide)
  refine lv_isub hx hb dX13_feed_97 ?_
  refine lv_topi (fun z348 ez348 => ?_)
  obtain rfl : z348 = 8 := ez348.trans (by decide)
  refine lv_ishr hx hb dX13_feed_98 ?_
  refine lv_topi (fun z349 ez349 => ?_)
  refine lv_i2b hx hb dX13_feed_99 rfl ?_
  refine lv_topi (fun z350 ez350 => ?_)
  refine m_bast (ws' := fun f351 => [(a0, .inr (10, [.int 0, .int 0, .int (-1), .null, .null, .ref a1, .int 18, .int 0, .int 0, .int 0, .int 0, .int 0, .int 0, .int 0, .int 0, .long 0, .ref a2, .ref a3, .ref a4, .ref a5, .int 0, .int 0, .int 0, .int 0, .ref a6, .ref a7, .ref a8, .ref a9, .int 0, .ref a10, .ref a11, .ref a12, .ref a13, .ref a14, .ref a15, .ref a16, .int 0])), (a1, .inl (G.2 3, 1000, .inl f351))]) X hP hD hS 1 rfl (vin (by decide)) (fun _ => rfl) dX13_feed_100 (fun f351 H locs hP hD hS => ?_)
  refine lv_aload_n hx hb dX13_feed_101 rfl (lv_at hl 2 rfl) ?_
  refine lv_dup hx hb dX13_feed_102 rfl ?_
  refine m_get (C := RX13) (T := TX13) (N := 37) (ci := 10) (v := .int 18) X hP 0 rfl rfl 6 (by decide) qw_141 inlX13 rfl dX13_feed_103 ?_
  refine lv_iconst (v := 1) hx hb dX13_feed_106 (by decide) ?_
  refine lv_iadd hx hb dX13_feed_107 ?_
  refine lv_topi (fun z352 ez352 => ?_)
  obtain rfl : z352 = 19 := ez352.trans (by decide)
  refine m_put (C := RX13) (T := TX13) (N := 37) (ci := 10) (v := .int 19) (ws' := [(a0, .inr (10, [.int 0, .int 0, .int (-1), .null, .null, .ref a1, .int 19, .int 0, .int 0, .int 0, .int 0, .int 0, .int 0, .int 0, .int 0, .long 0, .ref a2, .ref a3, .ref a4, .ref a5, .int 0, .int 0, .int 0, .int 0, .ref a6, .ref a7, .ref a8, .ref a9, .int 0, .ref a10, .ref a11, .ref a12, .ref a13, .ref a14, .ref a15, .ref a16, .int 0])), (a1, .inl (G.2 3, 1000, .inl f351))]) X hP hD hS tyX13 tyX13_ok nmX13 0 rfl rfl 6 (by decide) qw_141 inlX13 rfl (by first | rfl | decide) (by first | rfl | decide) (Nat.le_of_ble_eq_true rfl) rfl dX13_feed_108 (fun H locs hP hD hS => ?_)
  refine lv_iinc (v := 19) (lv' := [(6, .int 19), (7, .int i4), (0, .ref a0), (1, .int i0), (2, .int i1), (3, .int i2), (4, .int i3), (5, .int i4)]) hx hb dX13_feed_111 hl (k := 1) rfl (by decide) (by decide) rfl (fun ls hl => ?_)
  refine lv_goto (tgt := 23) hx hb dX13_feed_114 (by decide) ?_
  refine lv_iload hx hb dX13_feed_23 (lv_at hl 0 rfl) ?_
  refine lv_bipush (v := 20) hx hb dX13_feed_25 (by decide) ?_
  refine lv_icmp_ge (tgt := 117) hx hb dX13_feed_27 (by decide) (fun c9 => absurd c9 (by decide)) (fun _ => ?_)
  refine lv_iload hx hb dX13_feed_30 (lv_at hl 0 rfl) ?_
  refine lv_iconst (v := 4) hx hb dX13_feed_32 (by decide) ?_
  refine lv_icmp_ge (tgt := 40) hx hb dX13_feed_33 (by decide) (fun _ => ?_) (fun c9 => absurd c9 (by decide))
  refine lv_iload hx hb dX13_feed_40 (lv_at hl 0 rfl) ?_
  refine lv_bipush (v := 8) hx hb dX13_feed_42 (by decide) ?_
  refine lv_icmp_ge (tgt := 51) hx hb dX13_feed_44 (by decide) (fun _ => ?_) (fun c9 => absurd c9 (by decide))
  refine lv_iload hx hb dX13_feed_51 (lv_at hl 0 rfl) ?_
  refine lv_bipush (v := 12) hx hb dX13_feed_53 (by decide) ?_
  refine lv_icmp_ge (tgt := 62) hx hb dX13_feed_55 (by decide) (fun _ => ?_) (fun c9 => absurd c9 (by decide))
  refine lv_iload hx hb dX13_feed_62 (lv_at hl 0 rfl) ?_
  refine lv_bipush (v := 16) hx hb dX13_feed_64 (by decide) ?_
  refine lv_icmp_ge (tgt := 74) hx hb dX13_feed_66 (by decide) (fun _ => ?_) (fun c9 => absurd c9 (by decide))
  refine lv_iload hx hb dX13_feed_74 (lv_at hl 7 rfl) ?_
  refine lv_istore (lv' := [(7, .int i4), (6, .int 19), (0, .ref a0), (1, .int i0), (2, .int i1), (3, .int i2), (4, .int i3), (5, .int i4)]) hx hb dX13_feed_76 hl (by decide) rfl (fun ls hl => ?_)
  refine lv_aload_n hx hb dX13_feed_78 rfl (lv_at hl 2 rfl) ?_
  refine m_get (C := RX13) (T := TX13) (N := 37) (ci := 10) (v := .ref a1) X hP 0 rfl rfl 5 (by decide) qw_111 inlX13 rfl dX13_feed_79 ?_
  refine lv_aload_n hx hb dX13_feed_82 rfl (lv_at hl 2 rfl) ?_
  refine m_get (C := RX13) (T := TX13) (N := 37) (ci := 10) (v := .int 19) X hP 0 rfl rfl 6 (by decide) qw_141 inlX13 rfl dX13_feed_83 ?_
  refine lv_iload hx hb dX13_feed_86 (lv_at hl 0 rfl) ?_
  refine lv_bipush (v := 24) hx hb dX13_feed_88 (by decide) ?_
  refine lv_bipush (v := 8) hx hb dX13_feed_90 (by decide) ?_
  refine lv_iload hx hb dX13_feed_92 (lv_at hl 1 rfl) ?_
  refine lv_iconst (v := 4) hx hb dX13_feed_94 (by decide) ?_
  refine lv_irem hx hb dX13_feed_95 (by decide) ?_
  refine lv_topi (fun z353 ez353 => ?_)
  obtain rfl : z353 = 3 := ez353.trans (by decide)
  refine lv_imul hx hb dX13_feed_96 ?_
  refine lv_topi (fun z354 ez354 => ?_)
  obtain rfl : z354 = 24 := ez354.trans (by decide)
  refine lv_isub hx hb dX13_feed_97 ?_
  refine lv_topi (fun z355 ez355 => ?_)
  obtain rfl : z355 = 0 := ez355.trans (by decide)
  refine lv_ishr hx hb dX13_feed_98 ?_
  refine lv_topi (fun z356 ez356 => ?_)
  refine lv_i2b hx hb dX13_feed_99 rfl ?_
  refine lv_topi (fun z357 ez357 => ?_)
  refine m_bast (ws' := fun f358 => [(a0, .inr (10, [.int 0, .int 0, .int (-1), .null, .null, .ref a1, .int 19, .int 0, .int 0, .int 0, .int 0, .int 0, .int 0, .int 0, .int 0, .long 0, .ref a2, .ref a3, .ref a4, .ref a5, .int 0, .int 0, .int 0, .int 0, .ref a6, .ref a7, .ref a8, .ref a9, .int 0, .ref a10, .ref a11, .ref a12, .ref a13, .ref a14, .ref a15, .ref a16, .int 0])), (a1, .inl (G.2 3, 1000, .inl f358))]) X hP hD hS 1 rfl (vin (by decide)) (fun _ => rfl) dX13_feed_100 (fun f358 H locs hP hD hS => ?_)
  refine lv_aload_n hx hb dX13_feed_101 rfl (lv_at hl 2 rfl) ?_
  refine lv_dup hx hb dX13_feed_102 rfl ?_
  refine m_get (C := RX13) (T := TX13) (N := 37) (ci := 10) (v := .int 19) X hP 0 rfl rfl 6 (by decide) qw_141 inlX13 rfl dX13_feed_103 ?_
  refine lv_iconst (v := 1) hx hb dX13_feed_106 (by decide) ?_
  refine lv_iadd hx hb dX13_feed_107 ?_
  refine lv_topi (fun z359 ez359 => ?_)
  obtain rfl : z359 = 20 := ez359.trans (by decide)
  refine m_put (C := RX13) (T := TX13) (N := 37) (ci := 10) (v := .int 20) (ws' := [(a0, .inr (10, [.int 0, .int 0, .int (-1), .null, .null, .ref a1, .int 20, .int 0, .int 0, .int 0, .int 0, .int 0, .int 0, .int 0, .int 0, .long 0, .ref a2, .ref a3, .ref a4, .ref a5, .int 0, .int 0, .int 0, .int 0, .ref a6, .ref a7, .ref a8, .ref a9, .int 0, .ref a10, .ref a11, .ref a12, .ref a13, .ref a14, .ref a15, .ref a16, .int 0])), (a1, .inl (G.2 3, 1000, .inl f358))]) X hP hD hS tyX13 tyX13_ok nmX13 0 rfl rfl 6 (by decide) qw_141 inlX13 rfl (by first | rfl | decide) (by first | rfl | decide) (Nat.le_of_ble_eq_true rfl) rfl dX13_feed_108 (fun H locs hP hD hS => ?_)
  refine lv_iinc (v := 20) (lv' := [(6, .int 20), (7, .int i4), (0, .ref a0), (1, .int i0), (2, .int i1), (3, .int i2), (4, .int i3), (5, .int i4)]) hx hb dX13_feed_111 hl (k := 1) rfl (by decide) (by decide) rfl (fun ls hl => ?_)
  refine lv_goto (tgt := 23) hx hb dX13_feed_114 (by decide) ?_
  refine lv_iload hx hb dX13_feed_23 (lv_at hl 0 rfl) ?_
  refine lv_bipush (v := 20) hx hb dX13_feed_25 (by decide) ?_
  refine lv_icmp_ge (tgt := 117) hx hb dX13_feed_27 (by decide) (fun _ => ?_) (fun c9 => absurd c9 (by decide))
  refine lv_aload_n hx hb dX13_feed_117 rfl (lv_at hl 2 rfl) ?_
  refine m_get (C := RX13) (T := TX13) (N := 37) (ci := 10) (v := .int 20) X hP 0 rfl rfl 6 (by decide) qw_141 inlX13 rfl dX13_feed_118 ?_
  exact m_iret X hP hD hS ((fun _ => 0), (fun _ _ => 0)) [] (by decide) rfl rfl (Nat.le_of_ble_eq_true rfl) (Nat.le_of_ble_eq_true rfl) dX13_feed_121
set_option maxHeartbeats 4000000 in
set_option maxRecDepth 100000 in
theorem k17_X11_refuse (l : Launch) (G : KG) (a0 : Nat) (a1 : Nat) (a2 : Nat) (a3 : Nat) (a4 : Nat) (a5 : Nat) (a6 : Nat) (a7 : Nat) (a8 : Nat) (a9 : Nat) (a10 : Nat) (a11 : Nat) (sz : Nat) : Met l yX11_refuse (.code yX11_refuse cX11_refuse 2 (some .int) :: wsL_law) { frames := 0, cells := 0, slots := 0, locals := 0 } (va_Pc [.ref a0, .int 2] (Pw G [(a0, .inr (8, [.ref a1, .int 0, .int 0, .ref a2, .ref a3, .ref a4, .ref a5, .ref a6, .ref a7, .ref a8, .ref a9, .ref a10, .ref a11, .int 0, .int 0, .int 0]))] sz)) (va_Qi (fun r _ => r = (-1)) (fun (u9 : KS) t => Bw G (va_A [(a0, .inr (8, [.ref a1, .int 0, .int 0, .ref a2, .ref a3, .ref a4, .ref a5, .ref a6, .ref a7, .ref a8, .ref a9, .ref a10, .ref a11, .int 0, .int 0, .int 0]))] sz) [(a0, .inr (8, [.ref a1, .int 0, .int 0, .ref a2, .ref a3, .ref a4, .ref a5, .ref a6, .ref a7, .ref a8, .ref a9, .ref a10, .ref a11, .int 2, .int 0, .int 0]))] t) (va_A [(a0, .inr (8, [.ref a1, .int 0, .int 0, .ref a2, .ref a3, .ref a4, .ref a5, .ref a6, .ref a7, .ref a8, .ref a9, .ref a10, .ref a11, .int 0, .int 0, .int 0]))] sz)) 0 0 (va_A [(a0, .inr (8, [.ref a1, .int 0, .int 0, .ref a2, .ref a3, .ref a4, .ref a5, .ref a6, .ref a7, .ref a8, .ref a9, .ref a10, .ref a11, .int 0, .int 0, .int 0]))] sz) := by
  refine m_body (y := yX11_refuse) (cd := cX11_refuse) (mL := 2) (rt := (some .int)) (rm := { frames := 0, cells := 0, slots := 0, locals := 0 }) (av := [.ref a0, .int 2]) (wc := [(a0, .inr (8, [.ref a1, .int 0, .int 0, .ref a2, .ref a3, .ref a4, .ref a5, .ref a6, .ref a7, .ref a8, .ref a9, .ref a10, .ref a11, .int 0, .int 0, .int 0]))]) (G := G) (sz := sz) (Qf := fun A => va_Qi (fun r _ => r = (-1)) (fun (u9 : KS) t => Bw G A [(a0, .inr (8, [.ref a1, .int 0, .int 0, .ref a2, .ref a3, .ref a4, .ref a5, .ref a6, .ref a7, .ref a8, .ref a9, .ref a10, .ref a11, .int 2, .int 0, .int 0]))] t) A) (by decide) (Nat.le_of_ble_eq_true rfl) ?_
  intro p e s m args below meth c ls A X hi hP hD hS hl
  have hx := X.1.1
  have hb := X.1.2.1
  have hi : meth.name = "refuse" := hi
  have hl : lv_has ls 2 [(0, .ref a0), (1, .int 2)] := hl
  refine lv_aload_n hx hb dX11_refuse_0 rfl (lv_at hl 0 rfl) ?_
  refine lv_iload_n hx hb dX11_refuse_1 rfl (lv_at hl 1 rfl) ?_
  refine m_put (C := RX11) (T := TX11) (N := 16) (ci := 8) (v := .int 2) (ws' := [(a0, .inr (8, [.ref a1, .int 0, .int 0, .ref a2, .ref a3, .ref a4, .ref a5, .ref a6, .ref a7, .ref a8, .ref a9, .ref a10, .ref a11, .int 2, .int 0, .int 0]))]) X hP hD hS tyX11 tyX11_ok nmX11 0 rfl rfl 13 (by decide) qw_156 inlX11 rfl (by first | rfl | decide) (by first | rfl | decide) (Nat.le_of_ble_eq_true rfl) rfl dX11_refuse_2 (fun H locs hP hD hS => ?_)
  refine lv_iconst (v := (-1)) hx hb dX11_refuse_5 (by decide) ?_
  exact m_iret X hP hD hS ((fun _ => 0), (fun _ _ => 0)) [0] (by decide) rfl rfl (Nat.le_of_ble_eq_true rfl) (Nat.le_of_ble_eq_true rfl) dX11_refuse_6
set_option maxHeartbeats 4000000 in
set_option maxRecDepth 100000 in
theorem wet_loop0 (l : Launch) (G : KG) (a0 : Nat) (a1 : Nat) (a2 : Nat) (a3 : Nat) (a4 : Nat) (a5 : Nat) (a6 : Nat) (a7 : Nat) (a8 : Nat) (a9 : Nat)  {p : Program} {e : Env} {R : Room} {s : State} {m : MethodId} {args : Array Value} {below : List Frame} {meth : Method} {c : Code} {cells slots : Nat} {Q : State → Prop} {rt : Option FieldType} {A : Nat → Prop} {Ts : List Cond} (X : CX p s m args meth c cX1_clear 2 RX1 rt G A Ts)
    (exit : ∀ (f : Nat → Int32) (H : Heap) (locs : List Loc) (ls : Array Slot), va_P G.1 vwCl [(a0, .inr (1, [.int 0, .int 0, .int 0, .int 0, .int 0, .int 0, .int 0, .ref a1, .int 0, .ref a2, .int 0, .ref a3, .ref a4, .ref a5, .int 0, .ref a6, .int 0, .ref a7, .ref a8, .ref a9])), (a1, .inl (G.2 1, 144, .inl f)), (a7, .inl (G.2 0, 6, .inl (fun _ => 0))), (a8, .inl (G.2 0, 6, .inl (fun _ => 0))), (a9, .inl (G.2 0, 6, .inl (fun _ => 0)))] H → va_D A [(a0, .inr (1, [.int 0, .int 0, .int 0, .int 0, .int 0, .int 0, .int 0, .ref a1, .int 0, .ref a2, .int 0, .ref a3, .ref a4, .ref a5, .int 0, .ref a6, .int 0, .ref a7, .ref a8, .ref a9])), (a1, .inl (G.2 1, 144, .inl f)), (a7, .inl (G.2 0, 6, .inl (fun _ => 0))), (a8, .inl (G.2 0, 6, .inl (fun _ => 0))), (a9, .inl (G.2 0, 6, .inl (fun _ => 0)))] → va_S A s.heap H locs → lv_has ls 2 [(1, .int (nI 144)), (0, .ref a0)] → W p l e R s m args below meth c H locs cells slots Q (F0 m 54 ls [])) :
    ∀ (n k : Nat) (f : Nat → Int32) (H : Heap) (locs : List Loc) (ls : Array Slot), k + n = 144 → va_P G.1 vwCl [(a0, .inr (1, [.int 0, .int 0, .int 0, .int 0, .int 0, .int 0, .int 0, .ref a1, .int 0, .ref a2, .int 0, .ref a3, .ref a4, .ref a5, .int 0, .ref a6, .int 0, .ref a7, .ref a8, .ref a9])), (a1, .inl (G.2 1, 144, .inl f)), (a7, .inl (G.2 0, 6, .inl (fun _ => 0))), (a8, .inl (G.2 0, 6, .inl (fun _ => 0))), (a9, .inl (G.2 0, 6, .inl (fun _ => 0)))] H → va_D A [(a0, .inr (1, [.int 0, .int 0, .int 0, .int 0, .int 0, .int 0, .int 0, .ref a1, .int 0, .ref a2, .int 0, .ref a3, .ref a4, .ref a5, .int 0, .ref a6, .int 0, .ref a7, .ref a8, .ref a9])), (a1, .inl (G.2 1, 144, .inl f)), (a7, .inl (G.2 0, 6, .inl (fun _ => 0))), (a8, .inl (G.2 0, 6, .inl (fun _ => 0))), (a9, .inl (G.2 0, 6, .inl (fun _ => 0)))] → va_S A s.heap H locs → lv_has ls 2 [(1, .int (nI k)), (0, .ref a0)] → W p l e R s m args below meth c H locs cells slots Q (F0 m 32 ls []) := by
  have hx := X.1.1
  have hb := X.1.2.1
  intro n
  induction n with
  | zero =>
    intro k f H locs ls hk hP hD hS hl
    obtain rfl : k = 144 := by omega
    refine lv_iload_n hx hb dX1_clear_32 rfl (lv_at hl 0 rfl) ?_
    refine lv_aload_n hx hb dX1_clear_33 rfl (lv_at hl 1 rfl) ?_
    refine m_get (C := RX1) (T := TX1) (N := 20) (ci := 1) (v := .ref a1) X hP 0 rfl rfl 7 (by decide) qw_50 inlX1 rfl dX1_clear_34 ?_
    refine m_alen (v := 144) X hP 1 1 rfl rfl rfl dX1_clear_37 ?_
    refine lv_icmp_ge (tgt := 54) hx hb dX1_clear_38 (by decide) (fun _ => ?_) (fun c9 => absurd c9 (by decide))
    exact exit f H locs ls hP hD hS hl
  | succ n ih =>
    intro k f H locs ls hk hP hD hS hl
    have hk2 : k < 144 := by omega
    refine lv_iload_n hx hb dX1_clear_32 rfl (lv_at hl 0 rfl) ?_
    refine lv_aload_n hx hb dX1_clear_33 rfl (lv_at hl 1 rfl) ?_
    refine m_get (C := RX1) (T := TX1) (N := 20) (ci := 1) (v := .ref a1) X hP 0 rfl rfl 7 (by decide) qw_50 inlX1 rfl dX1_clear_34 ?_
    refine m_alen (v := 144) X hP 1 1 rfl rfl rfl dX1_clear_37 ?_
    refine lv_icmp_ge (tgt := 54) hx hb dX1_clear_38 (by decide) (fun c9 => absurd c9 (nI_ge (a := k) (b := 144) hk2 (by decide))) (fun _ => ?_)
    refine lv_aload_n hx hb dX1_clear_41 rfl (lv_at hl 1 rfl) ?_
    refine m_get (C := RX1) (T := TX1) (N := 20) (ci := 1) (v := .ref a1) X hP 0 rfl rfl 7 (by decide) qw_50 inlX1 rfl dX1_clear_42 ?_
    refine lv_iload_n hx hb dX1_clear_45 rfl (lv_at hl 0 rfl) ?_
    refine lv_iconst (v := 0) hx hb dX1_clear_46 (by decide) ?_
    refine m_zast (ws' := fun f => [(a0, .inr (1, [.int 0, .int 0, .int 0, .int 0, .int 0, .int 0, .int 0, .ref a1, .int 0, .ref a2, .int 0, .ref a3, .ref a4, .ref a5, .int 0, .ref a6, .int 0, .ref a7, .ref a8, .ref a9])), (a1, .inl (G.2 1, 144, .inl f)), (a7, .inl (G.2 0, 6, .inl (fun _ => 0))), (a8, .inl (G.2 0, 6, .inl (fun _ => 0))), (a9, .inl (G.2 0, 6, .inl (fun _ => 0)))]) X hP hD hS 1 rfl (vp_in_nI hk2 (by decide)) (fun _ => rfl) dX1_clear_47 (fun f H locs hP hD hS => ?_)
    refine lv_iinc (v := nI (k + 1)) (lv' := [(1, .int (nI (k + 1))), (0, .ref a0)]) hx hb dX1_clear_48 hl (k := 0) rfl (nI_succ k).symm (by decide) rfl (fun ls hl => ?_)
    refine lv_goto (tgt := 32) hx hb dX1_clear_51 (by decide) ?_
    exact ih (k + 1) f H locs ls (by omega) hP hD hS hl
set_option maxHeartbeats 4000000 in
set_option maxRecDepth 100000 in
theorem k19_X1_clear (l : Launch) (G : KG) (a0 : Nat) (a1 : Nat) (a2 : Nat) (a3 : Nat) (a4 : Nat) (a5 : Nat) (a6 : Nat) (a7 : Nat) (a8 : Nat) (a9 : Nat) (sz : Nat) : Met l yX1_clear (.code yX1_clear cX1_clear 2 none :: wsL_law) { frames := 0, cells := 0, slots := 0, locals := 0 } (va_Pc [.ref a0] (Pw G [(a0, .inr (1, [.int 0, .int 0, .int 0, .int 0, .int 0, .int 0, .int 0, .ref a1, .int 0, .ref a2, .int 0, .ref a3, .ref a4, .ref a5, .int 0, .ref a6, .int 0, .ref a7, .ref a8, .ref a9])), (a1, .inl (G.2 1, 144, .inl (fun _ => 0))), (a7, .inl (G.2 0, 6, .inl (fun _ => 0))), (a8, .inl (G.2 0, 6, .inl (fun _ => 0))), (a9, .inl (G.2 0, 6, .inl (fun _ => 0)))] sz)) (va_Qv (fun _ => True) (fun (u9 : KS) t => Bw G (va_A [(a0, .inr (1, [.int 0, .int 0, .int 0, .int 0, .int 0, .int 0, .int 0, .ref a1, .int 0, .ref a2, .int 0, .ref a3, .ref a4, .ref a5, .int 0, .ref a6, .int 0, .ref a7, .ref a8, .ref a9])), (a1, .inl (G.2 1, 144, .inl (fun _ => 0))), (a7, .inl (G.2 0, 6, .inl (fun _ => 0))), (a8, .inl (G.2 0, 6, .inl (fun _ => 0))), (a9, .inl (G.2 0, 6, .inl (fun _ => 0)))] sz) [(a0, .inr (1, [.int 0, .int 0, .int 0, .int 0, .int 0, .int 0, .int 0, .ref a1, .int 0, .ref a2, .int 0, .ref a3, .ref a4, .ref a5, .int 0, .ref a6, .int 0, .ref a7, .ref a8, .ref a9])), (a1, .inl (G.2 1, 144, .inl (u9.2 0))), (a7, .inl (G.2 0, 6, .inl (u9.2 1))), (a8, .inl (G.2 0, 6, .inl (u9.2 2))), (a9, .inl (G.2 0, 6, .inl (u9.2 3)))] t) (va_A [(a0, .inr (1, [.int 0, .int 0, .int 0, .int 0, .int 0, .int 0, .int 0, .ref a1, .int 0, .ref a2, .int 0, .ref a3, .ref a4, .ref a5, .int 0, .ref a6, .int 0, .ref a7, .ref a8, .ref a9])), (a1, .inl (G.2 1, 144, .inl (fun _ => 0))), (a7, .inl (G.2 0, 6, .inl (fun _ => 0))), (a8, .inl (G.2 0, 6, .inl (fun _ => 0))), (a9, .inl (G.2 0, 6, .inl (fun _ => 0)))] sz)) 0 0 (va_A [(a0, .inr (1, [.int 0, .int 0, .int 0, .int 0, .int 0, .int 0, .int 0, .ref a1, .int 0, .ref a2, .int 0, .ref a3, .ref a4, .ref a5, .int 0, .ref a6, .int 0, .ref a7, .ref a8, .ref a9])), (a1, .inl (G.2 1, 144, .inl (fun _ => 0))), (a7, .inl (G.2 0, 6, .inl (fun _ => 0))), (a8, .inl (G.2 0, 6, .inl (fun _ => 0))), (a9, .inl (G.2 0, 6, .inl (fun _ => 0)))] sz) := by
  refine m_body (y := yX1_clear) (cd := cX1_clear) (mL := 2) (rt := none) (rm := { frames := 0, cells := 0, slots := 0, locals := 0 }) (av := [.ref a0]) (wc := [(a0, .inr (1, [.int 0, .int 0, .int 0, .int 0, .int 0, .int 0, .int 0, .ref a1, .int 0, .ref a2, .int 0, .ref a3, .ref a4, .ref a5, .int 0, .ref a6, .int 0, .ref a7, .ref a8, .ref a9])), (a1, .inl (G.2 1, 144, .inl (fun _ => 0))), (a7, .inl (G.2 0, 6, .inl (fun _ => 0))), (a8, .inl (G.2 0, 6, .inl (fun _ => 0))), (a9, .inl (G.2 0, 6, .inl (fun _ => 0)))]) (G := G) (sz := sz) (Qf := fun A => va_Qv (fun _ => True) (fun (u9 : KS) t => Bw G A [(a0, .inr (1, [.int 0, .int 0, .int 0, .int 0, .int 0, .int 0, .int 0, .ref a1, .int 0, .ref a2, .int 0, .ref a3, .ref a4, .ref a5, .int 0, .ref a6, .int 0, .ref a7, .ref a8, .ref a9])), (a1, .inl (G.2 1, 144, .inl (u9.2 0))), (a7, .inl (G.2 0, 6, .inl (u9.2 1))), (a8, .inl (G.2 0, 6, .inl (u9.2 2))), (a9, .inl (G.2 0, 6, .inl (u9.2 3)))] t) A) (by decide) (Nat.le_of_ble_eq_true rfl) ?_
  intro p e s m args below meth c ls A X hi hP hD hS hl
  have hx := X.1.1
  have hb := X.1.2.1
  have hi : meth.name = "clear" := hi
  have hl : lv_has ls 2 [(0, .ref a0)] := hl
  refine lv_aload_n hx hb dX1_clear_0 rfl (lv_at hl 0 rfl) ?_
  refine lv_iconst (v := 0) hx hb dX1_clear_1 (by decide) ?_
  refine m_put (C := RX1) (T := TX1) (N := 20) (ci := 1) (v := .int 0) (ws' := [(a0, .inr (1, [.int 0, .int 0, .int 0, .int 0, .int 0, .int 0, .int 0, .ref a1, .int 0, .ref a2, .int 0, .ref a3, .ref a4, .ref a5, .int 0, .ref a6, .int 0, .ref a7, .ref a8, .ref a9])), (a1, .inl (G.2 1, 144, .inl (fun _ => 0))), (a7, .inl (G.2 0, 6, .inl (fun _ => 0))), (a8, .inl (G.2 0, 6, .inl (fun _ => 0))), (a9, .inl (G.2 0, 6, .inl (fun _ => 0)))]) X hP hD hS tyX1 tyX1_ok nmX1 0 rfl rfl 0 (by decide) qw_177 inlX1 rfl (by first | rfl | decide) (by first | rfl | decide) (Nat.le_of_ble_eq_true rfl) rfl dX1_clear_2 (fun H locs hP hD hS => ?_)
  refine lv_aload_n hx hb dX1_clear_5 rfl (lv_at hl 0 rfl) ?_
  refine lv_iconst (v := 0) hx hb dX1_clear_6 (by decide) ?_
  refine m_put (C := RX1) (T := TX1) (N := 20) (ci := 1) (v := .int 0) (ws' := [(a0, .inr (1, [.int 0, .int 0, .int 0, .int 0, .int 0, .int 0, .int 0, .ref a1, .int 0, .ref a2, .int 0, .ref a3, .ref a4, .ref a5, .int 0, .ref a6, .int 0, .ref a7, .ref a8, .ref a9])), (a1, .inl (G.2 1, 144, .inl (fun _ => 0))), (a7, .inl (G.2 0, 6, .inl (fun _ => 0))), (a8, .inl (G.2 0, 6, .inl (fun _ => 0))), (a9, .inl (G.2 0, 6, .inl (fun _ => 0)))]) X hP hD hS tyX1 tyX1_ok nmX1 0 rfl rfl 1 (by decide) qw_178 inlX1 rfl (by first | rfl | decide) (by first | rfl | decide) (Nat.le_of_ble_eq_true rfl) rfl dX1_clear_7 (fun H locs hP hD hS => ?_)
  refine lv_aload_n hx hb dX1_clear_10 rfl (lv_at hl 0 rfl) ?_
  refine lv_iconst (v := 0) hx hb dX1_clear_11 (by decide) ?_
  refine m_put (C := RX1) (T := TX1) (N := 20) (ci := 1) (v := .int 0) (ws' := [(a0, .inr (1, [.int 0, .int 0, .int 0, .int 0, .int 0, .int 0, .int 0, .ref a1, .int 0, .ref a2, .int 0, .ref a3, .ref a4, .ref a5, .int 0, .ref a6, .int 0, .ref a7, .ref a8, .ref a9])), (a1, .inl (G.2 1, 144, .inl (fun _ => 0))), (a7, .inl (G.2 0, 6, .inl (fun _ => 0))), (a8, .inl (G.2 0, 6, .inl (fun _ => 0))), (a9, .inl (G.2 0, 6, .inl (fun _ => 0)))]) X hP hD hS tyX1 tyX1_ok nmX1 0 rfl rfl 8 (by decide) qw_179 inlX1 rfl (by first | rfl | decide) (by first | rfl | decide) (Nat.le_of_ble_eq_true rfl) rfl dX1_clear_12 (fun H locs hP hD hS => ?_)
  refine lv_aload_n hx hb dX1_clear_15 rfl (lv_at hl 0 rfl) ?_
  refine lv_iconst (v := 0) hx hb dX1_clear_16 (by decide) ?_
  refine m_put (C := RX1) (T := TX1) (N := 20) (ci := 1) (v := .int 0) (ws' := [(a0, .inr (1, [.int 0, .int 0, .int 0, .int 0, .int 0, .int 0, .int 0, .ref a1, .int 0, .ref a2, .int 0, .ref a3, .ref a4, .ref a5, .int 0, .ref a6, .int 0, .ref a7, .ref a8, .ref a9])), (a1, .inl (G.2 1, 144, .inl (fun _ => 0))), (a7, .inl (G.2 0, 6, .inl (fun _ => 0))), (a8, .inl (G.2 0, 6, .inl (fun _ => 0))), (a9, .inl (G.2 0, 6, .inl (fun _ => 0)))]) X hP hD hS tyX1 tyX1_ok nmX1 0 rfl rfl 10 (by decide) qw_180 inlX1 rfl (by first | rfl | decide) (by first | rfl | decide) (Nat.le_of_ble_eq_true rfl) rfl dX1_clear_17 (fun H locs hP hD hS => ?_)
  refine lv_aload_n hx hb dX1_clear_20 rfl (lv_at hl 0 rfl) ?_
  refine lv_iconst (v := 0) hx hb dX1_clear_21 (by decide) ?_
  refine m_put (C := RX1) (T := TX1) (N := 20) (ci := 1) (v := .int 0) (ws' := [(a0, .inr (1, [.int 0, .int 0, .int 0, .int 0, .int 0, .int 0, .int 0, .ref a1, .int 0, .ref a2, .int 0, .ref a3, .ref a4, .ref a5, .int 0, .ref a6, .int 0, .ref a7, .ref a8, .ref a9])), (a1, .inl (G.2 1, 144, .inl (fun _ => 0))), (a7, .inl (G.2 0, 6, .inl (fun _ => 0))), (a8, .inl (G.2 0, 6, .inl (fun _ => 0))), (a9, .inl (G.2 0, 6, .inl (fun _ => 0)))]) X hP hD hS tyX1 tyX1_ok nmX1 0 rfl rfl 14 (by decide) qw_181 inlX1 rfl (by first | rfl | decide) (by first | rfl | decide) (Nat.le_of_ble_eq_true rfl) rfl dX1_clear_22 (fun H locs hP hD hS => ?_)
  refine lv_aload_n hx hb dX1_clear_25 rfl (lv_at hl 0 rfl) ?_
  refine lv_iconst (v := 0) hx hb dX1_clear_26 (by decide) ?_
  refine m_put (C := RX1) (T := TX1) (N := 20) (ci := 1) (v := .int 0) (ws' := [(a0, .inr (1, [.int 0, .int 0, .int 0, .int 0, .int 0, .int 0, .int 0, .ref a1, .int 0, .ref a2, .int 0, .ref a3, .ref a4, .ref a5, .int 0, .ref a6, .int 0, .ref a7, .ref a8, .ref a9])), (a1, .inl (G.2 1, 144, .inl (fun _ => 0))), (a7, .inl (G.2 0, 6, .inl (fun _ => 0))), (a8, .inl (G.2 0, 6, .inl (fun _ => 0))), (a9, .inl (G.2 0, 6, .inl (fun _ => 0)))]) X hP hD hS tyX1 tyX1_ok nmX1 0 rfl rfl 16 (by decide) qw_182 inlX1 rfl (by first | rfl | decide) (by first | rfl | decide) (Nat.le_of_ble_eq_true rfl) rfl dX1_clear_27 (fun H locs hP hD hS => ?_)
  refine lv_iconst (v := 0) hx hb dX1_clear_30 (by decide) ?_
  refine lv_istore_n (lv' := [(1, .int 0), (0, .ref a0)]) hx hb dX1_clear_31 rfl hl (by decide) rfl (fun ls hl => ?_)
  refine wet_loop0 l G a0 a1 a2 a3 a4 a5 a6 a7 a8 a9  X (fun f366 H locs ls hP hD hS hl => ?_) 144 0 _ _ _ _ rfl hP hD hS hl
  refine lv_iconst (v := 0) hx hb dX1_clear_54 (by decide) ?_
  refine lv_istore_n (lv' := [(1, .int 0), (0, .ref a0)]) hx hb dX1_clear_55 rfl hl (by decide) rfl (fun ls hl => ?_)
  refine lv_iload_n hx hb dX1_clear_56 rfl (lv_at hl 0 rfl) ?_
  refine lv_bipush (v := 6) hx hb dX1_clear_57 (by decide) ?_
  refine lv_icmp_ge (tgt := 89) hx hb dX1_clear_59 (by decide) (fun c9 => absurd c9 (by decide)) (fun _ => ?_)
  refine lv_aload_n hx hb dX1_clear_62 rfl (lv_at hl 1 rfl) ?_
  refine m_get (C := RX1) (T := TX1) (N := 20) (ci := 1) (v := .ref a7) X hP 0 rfl rfl 17 (by decide) qw_56 inlX1 rfl dX1_clear_63 ?_
  refine lv_iload_n hx hb dX1_clear_66 rfl (lv_at hl 0 rfl) ?_
  refine lv_iconst (v := 0) hx hb dX1_clear_67 (by decide) ?_
  refine m_iast (ws' := fun f367 => [(a0, .inr (1, [.int 0, .int 0, .int 0, .int 0, .int 0, .int 0, .int 0, .ref a1, .int 0, .ref a2, .int 0, .ref a3, .ref a4, .ref a5, .int 0, .ref a6, .int 0, .ref a7, .ref a8, .ref a9])), (a1, .inl (G.2 1, 144, .inl f366)), (a7, .inl (G.2 0, 6, .inl f367)), (a8, .inl (G.2 0, 6, .inl (fun _ => 0))), (a9, .inl (G.2 0, 6, .inl (fun _ => 0)))]) X hP hD hS 2 rfl (vin (by decide)) (fun _ => rfl) dX1_clear_68 (fun f367 H locs hP hD hS => ?_)
  refine lv_aload_n hx hb dX1_clear_69 rfl (lv_at hl 1 rfl) ?_
  refine m_get (C := RX1) (T := TX1) (N := 20) (ci := 1) (v := .ref a8) X hP 0 rfl rfl 18 (by decide) qw_57 inlX1 rfl dX1_clear_70 ?_
  refine lv_iload_n hx hb dX1_clear_73 rfl (lv_at hl 0 rfl) ?_
  refine lv_iconst (v := (-1)) hx hb dX1_clear_74 (by decide) ?_
  refine m_iast (ws' := fun f368 => [(a0, .inr (1, [.int 0, .int 0, .int 0, .int 0, .int 0, .int 0, .int 0, .ref a1, .int 0, .ref a2, .int 0, .ref a3, .ref a4, .ref a5, .int 0, .ref a6, .int 0, .ref a7, .ref a8, .ref a9])), (a1, .inl (G.2 1, 144, .inl f366)), (a7, .inl (G.2 0, 6, .inl f367)), (a8, .inl (G.2 0, 6, .inl f368)), (a9, .inl (G.2 0, 6, .inl (fun _ => 0)))]) X hP hD hS 3 rfl (vin (by decide)) (fun _ => rfl) dX1_clear_75 (fun f368 H locs hP hD hS => ?_)
  refine lv_aload_n hx hb dX1_clear_76 rfl (lv_at hl 1 rfl) ?_
  refine m_get (C := RX1) (T := TX1) (N := 20) (ci := 1) (v := .ref a9) X hP 0 rfl rfl 19 (by decide) qw_58 inlX1 rfl dX1_clear_77 ?_
  refine lv_iload_n hx hb dX1_clear_80 rfl (lv_at hl 0 rfl) ?_
  refine lv_iconst (v := (-1)) hx hb dX1_clear_81 (by decide) ?_
  refine m_iast (ws' := fun f369 => [(a0, .inr (1, [.int 0, .int 0, .int 0, .int 0, .int 0, .int 0, .int 0, .ref a1, .int 0, .ref a2, .int 0, .ref a3, .ref a4, .ref a5, .int 0, .ref a6, .int 0, .ref a7, .ref a8, .ref a9])), (a1, .inl (G.2 1, 144, .inl f366)), (a7, .inl (G.2 0, 6, .inl f367)), (a8, .inl (G.2 0, 6, .inl f368)), (a9, .inl (G.2 0, 6, .inl f369))]) X hP hD hS 4 rfl (vin (by decide)) (fun _ => rfl) dX1_clear_82 (fun f369 H locs hP hD hS => ?_)
  refine lv_iinc (v := 1) (lv' := [(1, .int 1), (0, .ref a0)]) hx hb dX1_clear_83 hl (k := 0) rfl (by decide) (by decide) rfl (fun ls hl => ?_)
  refine lv_goto (tgt := 56) hx hb dX1_clear_86 (by decide) ?_
  refine lv_iload_n hx hb dX1_clear_56 rfl (lv_at hl 0 rfl) ?_
  refine lv_bipush (v := 6) hx hb dX1_clear_57 (by decide) ?_
  refine lv_icmp_ge (tgt := 89) hx hb dX1_clear_59 (by decide) (fun c9 => absurd c9 (by decide)) (fun _ => ?_)
  refine lv_aload_n hx hb dX1_clear_62 rfl (lv_at hl 1 rfl) ?_
  refine m_get (C := RX1) (T := TX1) (N := 20) (ci := 1) (v := .ref a7) X hP 0 rfl rfl 17 (by decide) qw_56 inlX1 rfl dX1_clear_63 ?_
  refine lv_iload_n hx hb dX1_clear_66 rfl (lv_at hl 0 rfl) ?_
  refine lv_iconst (v := 0) hx hb dX1_clear_67 (by decide) ?_
  refine m_iast (ws' := fun f370 => [(a0, .inr (1, [.int 0, .int 0, .int 0, .int 0, .int 0, .int 0, .int 0, .ref a1, .int 0, .ref a2, .int 0, .ref a3, .ref a4, .ref a5, .int 0, .ref a6, .int 0, .ref a7, .ref a8, .ref a9])), (a1, .inl (G.2 1, 144, .inl f366)), (a7, .inl (G.2 0, 6, .inl f370)), (a8, .inl (G.2 0, 6, .inl f368)), (a9, .inl (G.2 0, 6, .inl f369))]) X hP hD hS 2 rfl (vin (by decide)) (fun _ => rfl) dX1_clear_68 (fun f370 H locs hP hD hS => ?_)
  refine lv_aload_n hx hb dX1_clear_69 rfl (lv_at hl 1 rfl) ?_
  refine m_get (C := RX1) (T := TX1) (N := 20) (ci := 1) (v := .ref a8) X hP 0 rfl rfl 18 (by decide) qw_57 inlX1 rfl dX1_clear_70 ?_
  refine lv_iload_n hx hb dX1_clear_73 rfl (lv_at hl 0 rfl) ?_
  refine lv_iconst (v := (-1)) hx hb dX1_clear_74 (by decide) ?_
  refine m_iast (ws' := fun f371 => [(a0, .inr (1, [.int 0, .int 0, .int 0, .int 0, .int 0, .int 0, .int 0, .ref a1, .int 0, .ref a2, .int 0, .ref a3, .ref a4, .ref a5, .int 0, .ref a6, .int 0, .ref a7, .ref a8, .ref a9])), (a1, .inl (G.2 1, 144, .inl f366)), (a7, .inl (G.2 0, 6, .inl f370)), (a8, .inl (G.2 0, 6, .inl f371)), (a9, .inl (G.2 0, 6, .inl f369))]) X hP hD hS 3 rfl (vin (by decide)) (fun _ => rfl) dX1_clear_75 (fun f371 H locs hP hD hS => ?_)
  refine lv_aload_n hx hb dX1_clear_76 rfl (lv_at hl 1 rfl) ?_
  refine m_get (C := RX1) (T := TX1) (N := 20) (ci := 1) (v := .ref a9) X hP 0 rfl rfl 19 (by decide) qw_58 inlX1 rfl dX1_clear_77 ?_
  refine lv_iload_n hx hb dX1_clear_80 rfl (lv_at hl 0 rfl) ?_
  refine lv_iconst (v := (-1)) hx hb dX1_clear_81 (by decide) ?_
  refine m_iast (ws' := fun f372 => [(a0, .inr (1, [.int 0, .int 0, .int 0, .int 0, .int 0, .int 0, .int 0, .ref a1, .int 0, .ref a2, .int 0, .ref a3, .ref a4, .ref a5, .int 0, .ref a6, .int 0, .ref a7, .ref a8, .ref a9])), (a1, .inl (G.2 1, 144, .inl f366)), (a7, .inl (G.2 0, 6, .inl f370)), (a8, .inl (G.2 0, 6, .inl f371)), (a9, .inl (G.2 0, 6, .inl f372))]) X hP hD hS 4 rfl (vin (by decide)) (fun _ => rfl) dX1_clear_82 (fun f372 H locs hP hD hS => ?_)
  refine lv_iinc (v := 2) (lv' := [(1, .int 2), (0, .ref a0)]) hx hb dX1_clear_83 hl (k := 0) rfl (by decide) (by decide) rfl (fun ls hl => ?_)
  refine lv_goto (tgt := 56) hx hb dX1_clear_86 (by decide) ?_
  refine lv_iload_n hx hb dX1_clear_56 rfl (lv_at hl 0 rfl) ?_
  refine lv_bipush (v := 6) hx hb dX1_clear_57 (by decide) ?_
  refine lv_icmp_ge (tgt := 89) hx hb dX1_clear_59 (by decide) (fun c9 => absurd c9 (by decide)) (fun _ => ?_)
  refine lv_aload_n hx hb dX1_clear_62 rfl (lv_at hl 1 rfl) ?_
  refine m_get (C := RX1) (T := TX1) (N := 20) (ci := 1) (v := .ref a7) X hP 0 rfl rfl 17 (by decide) qw_56 inlX1 rfl dX1_clear_63 ?_
  refine lv_iload_n hx hb dX1_clear_66 rfl (lv_at hl 0 rfl) ?_
  refine lv_iconst (v := 0) hx hb dX1_clear_67 (by decide) ?_
  refine m_iast (ws' := fun f373 => [(a0, .inr (1, [.int 0, .int 0, .int 0, .int 0, .int 0, .int 0, .int 0, .ref a1, .int 0, .ref a2, .int 0, .ref a3, .ref a4, .ref a5, .int 0, .ref a6, .int 0, .ref a7, .ref a8, .ref a9])), (a1, .inl (G.2 1, 144, .inl f366)), (a7, .inl (G.2 0, 6, .inl f373)), (a8, .inl (G.2 0, 6, .inl f371)), (a9, .inl (G.2 0, 6, .inl f372))]) X hP hD hS 2 rfl (vin (by decide)) (fun _ => rfl) dX1_clear_68 (fun f373 H locs hP hD hS => ?_)
  refine lv_aload_n hx hb dX1_clear_69 rfl (lv_at hl 1 rfl) ?_
  refine m_get (C := RX1) (T := TX1) (N := 20) (ci := 1) (v := .ref a8) X hP 0 rfl rfl 18 (by decide) qw_57 inlX1 rfl dX1_clear_70 ?_
  refine lv_iload_n hx hb dX1_clear_73 rfl (lv_at hl 0 rfl) ?_
  refine lv_iconst (v := (-1)) hx hb dX1_clear_74 (by decide) ?_
  refine m_iast (ws' := fun f374 => [(a0, .inr (1, [.int 0, .int 0, .int 0, .int 0, .int 0, .int 0, .int 0, .ref a1, .int 0, .ref a2, .int 0, .ref a3, .ref a4, .ref a5, .int 0, .ref a6, .int 0, .ref a7, .ref a8, .ref a9])), (a1, .inl (G.2 1, 144, .inl f366)), (a7, .inl (G.2 0, 6, .inl f373)), (a8, .inl (G.2 0, 6, .inl f374)), (a9, .inl (G.2 0, 6, .inl f372))]) X hP hD hS 3 rfl (vin (by decide)) (fun _ => rfl) dX1_clear_75 (fun f374 H locs hP hD hS => ?_)
  refine lv_aload_n hx hb dX1_clear_76 rfl (lv_at hl 1 rfl) ?_
  refine m_get (C := RX1) (T := TX1) (N := 20) (ci := 1) (v := .ref a9) X hP 0 rfl rfl 19 (by decide) qw_58 inlX1 rfl dX1_clear_77 ?_
  refine lv_iload_n hx hb dX1_clear_80 rfl (lv_at hl 0 rfl) ?_
  refine lv_iconst (v := (-1)) hx hb dX1_clear_81 (by decide) ?_
  refine m_iast (ws' := fun f375 => [(a0, .inr (1, [.int 0, .int 0, .int 0, .int 0, .int 0, .int 0, .int 0, .ref a1, .int 0, .ref a2, .int 0, .ref a3, .ref a4, .ref a5, .int 0, .ref a6, .int 0, .ref a7, .ref a8, .ref a9])), (a1, .inl (G.2 1, 144, .inl f366)), (a7, .inl (G.2 0, 6, .inl f373)), (a8, .inl (G.2 0, 6, .inl f374)), (a9, .inl (G.2 0, 6, .inl f375))]) X hP hD hS 4 rfl (vin (by decide)) (fun _ => rfl) dX1_clear_82 (fun f375 H locs hP hD hS => ?_)
  refine lv_iinc (v := 3) (lv' := [(1, .int 3), (0, .ref a0)]) hx hb dX1_clear_83 hl (k := 0) rfl (by decide) (by decide) rfl (fun ls hl => ?_)
  refine lv_goto (tgt := 56) hx hb dX1_clear_86 (by decide) ?_
  refine lv_iload_n hx hb dX1_clear_56 rfl (lv_at hl 0 rfl) ?_
  refine lv_bipush (v := 6) hx hb dX1_clear_57 (by decide) ?_
  refine lv_icmp_ge (tgt := 89) hx hb dX1_clear_59 (by decide) (fun c9 => absurd c9 (by decide)) (fun _ => ?_)
  refine lv_aload_n hx hb dX1_clear_62 rfl (lv_at hl 1 rfl) ?_
  refine m_get (C := RX1) (T := TX1) (N := 20) (ci := 1) (v := .ref a7) X hP 0 rfl rfl 17 (by decide) qw_56 inlX1 rfl dX1_clear_63 ?_
  refine lv_iload_n hx hb dX1_clear_66 rfl (lv_at hl 0 rfl) ?_
  refine lv_iconst (v := 0) hx hb dX1_clear_67 (by decide) ?_
  refine m_iast (ws' := fun f376 => [(a0, .inr (1, [.int 0, .int 0, .int 0, .int 0, .int 0, .int 0, .int 0, .ref a1, .int 0, .ref a2, .int 0, .ref a3, .ref a4, .ref a5, .int 0, .ref a6, .int 0, .ref a7, .ref a8, .ref a9])), (a1, .inl (G.2 1, 144, .inl f366)), (a7, .inl (G.2 0, 6, .inl f376)), (a8, .inl (G.2 0, 6, .inl f374)), (a9, .inl (G.2 0, 6, .inl f375))]) X hP hD hS 2 rfl (vin (by decide)) (fun _ => rfl) dX1_clear_68 (fun f376 H locs hP hD hS => ?_)
  refine lv_aload_n hx hb dX1_clear_69 rfl (lv_at hl 1 rfl) ?_
  refine m_get (C := RX1) (T := TX1) (N := 20) (ci := 1) (v := .ref a8) X hP 0 rfl rfl 18 (by decide) qw_57 inlX1 rfl dX1_clear_70 ?_
  refine lv_iload_n hx hb dX1_clear_73 rfl (lv_at hl 0 rfl) ?_
  refine lv_iconst (v := (-1)) hx hb dX1_clear_74 (by decide) ?_
  refine m_iast (ws' := fun f377 => [(a0, .inr (1, [.int 0, .int 0, .int 0, .int 0, .int 0, .int 0, .int 0, .ref a1, .int 0, .ref a2, .int 0, .ref a3, .ref a4, .ref a5, .int 0, .ref a6, .int 0, .ref a7, .ref a8, .ref a9])), (a1, .inl (G.2 1, 144, .inl f366)), (a7, .inl (G.2 0, 6, .inl f376)), (a8, .inl (G.2 0, 6, .inl f377)), (a9, .inl (G.2 0, 6, .inl f375))]) X hP hD hS 3 rfl (vin (by decide)) (fun _ => rfl) dX1_clear_75 (fun f377 H locs hP hD hS => ?_)
  refine lv_aload_n hx hb dX1_clear_76 rfl (lv_at hl 1 rfl) ?_
  refine m_get (C := RX1) (T := TX1) (N := 20) (ci := 1) (v := .ref a9) X hP 0 rfl rfl 19 (by decide) qw_58 inlX1 rfl dX1_clear_77 ?_
  refine lv_iload_n hx hb dX1_clear_80 rfl (lv_at hl 0 rfl) ?_
  refine lv_iconst (v := (-1)) hx hb dX1_clear_81 (by decide) ?_
  refine m_iast (ws' := fun f378 => [(a0, .inr (1, [.int 0, .int 0, .int 0, .int 0, .int 0, .int 0, .int 0, .ref a1, .int 0, .ref a2, .int 0, .ref a3, .ref a4, .ref a5, .int 0, .ref a6, .int 0, .ref a7, .ref a8, .ref a9])), (a1, .inl (G.2 1, 144, .inl f366)), (a7, .inl (G.2 0, 6, .inl f376)), (a8, .inl (G.2 0, 6, .inl f377)), (a9, .inl (G.2 0, 6, .inl f378))]) X hP hD hS 4 rfl (vin (by decide)) (fun _ => rfl) dX1_clear_82 (fun f378 H locs hP hD hS => ?_)
  refine lv_iinc (v := 4) (lv' := [(1, .int 4), (0, .ref a0)]) hx hb dX1_clear_83 hl (k := 0) rfl (by decide) (by decide) rfl (fun ls hl => ?_)
  refine lv_goto (tgt := 56) hx hb dX1_clear_86 (by decide) ?_
  refine lv_iload_n hx hb dX1_clear_56 rfl (lv_at hl 0 rfl) ?_
  refine lv_bipush (v := 6) hx hb dX1_clear_57 (by decide) ?_
  refine lv_icmp_ge (tgt := 89) hx hb dX1_clear_59 (by decide) (fun c9 => absurd c9 (by decide)) (fun _ => ?_)
  refine lv_aload_n hx hb dX1_clear_62 rfl (lv_at hl 1 rfl) ?_
  refine m_get (C := RX1) (T := TX1) (N := 20) (ci := 1) (v := .ref a7) X hP 0 rfl rfl 17 (by decide) qw_56 inlX1 rfl dX1_clear_63 ?_
  refine lv_iload_n hx hb dX1_clear_66 rfl (lv_at hl 0 rfl) ?_
  refine lv_iconst (v := 0) hx hb dX1_clear_67 (by decide) ?_
  refine m_iast (ws' := fun f379 => [(a0, .inr (1, [.int 0, .int 0, .int 0, .int 0, .int 0, .int 0, .int 0, .ref a1, .int 0, .ref a2, .int 0, .ref a3, .ref a4, .ref a5, .int 0, .ref a6, .int 0, .ref a7, .ref a8, .ref a9])), (a1, .inl (G.2 1, 144, .inl f366)), (a7, .inl (G.2 0, 6, .inl f379)), (a8, .inl (G.2 0, 6, .inl f377)), (a9, .inl (G.2 0, 6, .inl f378))]) X hP hD hS 2 rfl (vin (by decide)) (fun _ => rfl) dX1_clear_68 (fun f379 H locs hP hD hS => ?_)
  refine lv_aload_n hx hb dX1_clear_69 rfl (lv_at hl 1 rfl) ?_
  refine m_get (C := RX1) (T := TX1) (N := 20) (ci := 1) (v := .ref a8) X hP 0 rfl rfl 18 (by decide) qw_57 inlX1 rfl dX1_clear_70 ?_
  refine lv_iload_n hx hb dX1_clear_73 rfl (lv_at hl 0 rfl) ?_
  refine lv_iconst (v := (-1)) hx hb dX1_clear_74 (by decide) ?_
  refine m_iast (ws' := fun f380 => [(a0, .inr (1, [.int 0, .int 0, .int 0, .int 0, .int 0, .int 0, .int 0, .ref a1, .int 0, .ref a2, .int 0, .ref a3, .ref a4, .ref a5, .int 0, .ref a6, .int 0, .ref a7, .ref a8, .ref a9])), (a1, .inl (G.2 1, 144, .inl f366)), (a7, .inl (G.2 0, 6, .inl f379)), (a8, .inl (G.2 0, 6, .inl f380)), (a9, .inl (G.2 0, 6, .inl f378))]) X hP hD hS 3 rfl (vin (by decide)) (fun _ => rfl) dX1_clear_75 (fun f380 H locs hP hD hS => ?_)
  refine lv_aload_n hx hb dX1_clear_76 rfl (lv_at hl 1 rfl) ?_
  refine m_get (C := RX1) (T := TX1) (N := 20) (ci := 1) (v := .ref a9) X hP 0 rfl rfl 19 (by decide) qw_58 inlX1 rfl dX1_clear_77 ?_
  refine lv_iload_n hx hb dX1_clear_80 rfl (lv_at hl 0 rfl) ?_
  refine lv_iconst (v := (-1)) hx hb dX1_clear_81 (by decide) ?_
  refine m_iast (ws' := fun f381 => [(a0, .inr (1, [.int 0, .int 0, .int 0, .int 0, .int 0, .int 0, .int 0, .ref a1, .int 0, .ref a2, .int 0, .ref a3, .ref a4, .ref a5, .int 0, .ref a6, .int 0, .ref a7, .ref a8, .ref a9])), (a1, .inl (G.2 1, 144, .inl f366)), (a7, .inl (G.2 0, 6, .inl f379)), (a8, .inl (G.2 0, 6, .inl f380)), (a9, .inl (G.2 0, 6, .inl f381))]) X hP hD hS 4 rfl (vin (by decide)) (fun _ => rfl) dX1_clear_82 (fun f381 H locs hP hD hS => ?_)
  refine lv_iinc (v := 5) (lv' := [(1, .int 5), (0, .ref a0)]) hx hb dX1_clear_83 hl (k := 0) rfl (by decide) (by decide) rfl (fun ls hl => ?_)
  refine lv_goto (tgt := 56) hx hb dX1_clear_86 (by decide) ?_
  refine lv_iload_n hx hb dX1_clear_56 rfl (lv_at hl 0 rfl) ?_
  refine lv_bipush (v := 6) hx hb dX1_clear_57 (by decide) ?_
  refine lv_icmp_ge (tgt := 89) hx hb dX1_clear_59 (by decide) (fun c9 => absurd c9 (by decide)) (fun _ => ?_)
  refine lv_aload_n hx hb dX1_clear_62 rfl (lv_at hl 1 rfl) ?_
  refine m_get (C := RX1) (T := TX1) (N := 20) (ci := 1) (v := .ref a7) X hP 0 rfl rfl 17 (by decide) qw_56 inlX1 rfl dX1_clear_63 ?_
  refine lv_iload_n hx hb dX1_clear_66 rfl (lv_at hl 0 rfl) ?_
  refine lv_iconst (v := 0) hx hb dX1_clear_67 (by decide) ?_
  refine m_iast (ws' := fun f382 => [(a0, .inr (1, [.int 0, .int 0, .int 0, .int 0, .int 0, .int 0, .int 0, .ref a1, .int 0, .ref a2, .int 0, .ref a3, .ref a4, .ref a5, .int 0, .ref a6, .int 0, .ref a7, .ref a8, .ref a9])), (a1, .inl (G.2 1, 144, .inl f366)), (a7, .inl (G.2 0, 6, .inl f382)), (a8, .inl (G.2 0, 6, .inl f380)), (a9, .inl (G.2 0, 6, .inl f381))]) X hP hD hS 2 rfl (vin (by decide)) (fun _ => rfl) dX1_clear_68 (fun f382 H locs hP hD hS => ?_)
  refine lv_aload_n hx hb dX1_clear_69 rfl (lv_at hl 1 rfl) ?_
  refine m_get (C := RX1) (T := TX1) (N := 20) (ci := 1) (v := .ref a8) X hP 0 rfl rfl 18 (by decide) qw_57 inlX1 rfl dX1_clear_70 ?_
  refine lv_iload_n hx hb dX1_clear_73 rfl (lv_at hl 0 rfl) ?_
  refine lv_iconst (v := (-1)) hx hb dX1_clear_74 (by decide) ?_
  refine m_iast (ws' := fun f383 => [(a0, .inr (1, [.int 0, .int 0, .int 0, .int 0, .int 0, .int 0, .int 0, .ref a1, .int 0, .ref a2, .int 0, .ref a3, .ref a4, .ref a5, .int 0, .ref a6, .int 0, .ref a7, .ref a8, .ref a9])), (a1, .inl (G.2 1, 144, .inl f366)), (a7, .inl (G.2 0, 6, .inl f382)), (a8, .inl (G.2 0, 6, .inl f383)), (a9, .inl (G.2 0, 6, .inl f381))]) X hP hD hS 3 rfl (vin (by decide)) (fun _ => rfl) dX1_clear_75 (fun f383 H locs hP hD hS => ?_)
  refine lv_aload_n hx hb dX1_clear_76 rfl (lv_at hl 1 rfl) ?_
  refine m_get (C := RX1) (T := TX1) (N := 20) (ci := 1) (v := .ref a9) X hP 0 rfl rfl 19 (by decide) qw_58 inlX1 rfl dX1_clear_77 ?_
  refine lv_iload_n hx hb dX1_clear_80 rfl (lv_at hl 0 rfl) ?_
  refine lv_iconst (v := (-1)) hx hb dX1_clear_81 (by decide) ?_
  refine m_iast (ws' := fun f384 => [(a0, .inr (1, [.int 0, .int 0, .int 0, .int 0, .int 0, .int 0, .int 0, .ref a1, .int 0, .ref a2, .int 0, .ref a3, .ref a4, .ref a5, .int 0, .ref a6, .int 0, .ref a7, .ref a8, .ref a9])), (a1, .inl (G.2 1, 144, .inl f366)), (a7, .inl (G.2 0, 6, .inl f382)), (a8, .inl (G.2 0, 6, .inl f383)), (a9, .inl (G.2 0, 6, .inl f384))]) X hP hD hS 4 rfl (vin (by decide)) (fun _ => rfl) dX1_clear_82 (fun f384 H locs hP hD hS => ?_)
  refine lv_iinc (v := 6) (lv' := [(1, .int 6), (0, .ref a0)]) hx hb dX1_clear_83 hl (k := 0) rfl (by decide) (by decide) rfl (fun ls hl => ?_)
  refine lv_goto (tgt := 56) hx hb dX1_clear_86 (by decide) ?_
  refine lv_iload_n hx hb dX1_clear_56 rfl (lv_at hl 0 rfl) ?_
  refine lv_bipush (v := 6) hx hb dX1_clear_57 (by decide) ?_
  refine lv_icmp_ge (tgt := 89) hx hb dX1_clear_59 (by decide) (fun _ => ?_) (fun c9 => absurd c9 (by decide))
  exact m_vret X hP hD hS ((fun _ => 0), (fun k => match k with | 0 => f366 | 1 => f382 | 2 => f383 | 3 => f384 | _ => fun _ => 0)) [0, 1, 2, 3, 4] (by decide) rfl trivial (Nat.le_of_ble_eq_true rfl) (Nat.le_of_ble_eq_true rfl) dX1_clear_89
