set_option maxHeartbeats 4000000 in
set_option maxRecDepth 100000 in
theorem k88_X13_feed (l : Launch) (G : KG) (a0 : Nat) (i0 : Int32) (i1 : Int32) (i2 : Int32) (i3 : Int32) (i4 : Int32) (a1 : Nat) (a2 : Nat) (a3 : Nat) (a4 : Nat) (a5 : Nat) (a6 : Nat) (a7 : Nat) (a8 : Nat) (a9 : Nat) (a10 : Nat) (a11 : Nat) (a12 : Nat) (a13 : Nat) (a14 : Nat) (a15 : Nat) (a16 : Nat) (sz : Nat) : Met l yX13_feed (.code yX13_feed cX13_feed 8 (some .int) :: wsL_law) { frames := 0, cells := 0, slots := 0, locals := 0 } (va_Pc [.ref a0, .int i0, .int i1, .int i2, .int i3, .int i4] (Pw G [(a0, .inr (10, [.int 0, .int 0, .int (-1), .null, .null, .ref a1, .int 0, .int 0, .int 0, .int 0, .int 0, .int 0, .int 0, .int 0, .int 0, .long 0, .ref a2, .ref a3, .ref a4, .ref a5, .int 0, .int 0, .int 0, .int 0, .ref a6, .ref a7, .ref a8, .ref a9, .int 0, .ref a10, .ref a11, .ref a12, .ref a13, .ref a14, .ref a15, .ref a16, .int 0])), (a1, .inl (G.2 3, 1000, .inl (fun _ => 0)))] sz)) (va_Qi (fun r _ => r = 20) (fun (u9 : KS) t => Bw G (va_A [(a0, .inr (10, [.int 0, .int 0, .int (-1), .null, .null, .ref a1, .int 0, .int 0, .int 0, .int 0, .int 0, .int 0, .int 0, .int 0, .int 0, .long 0, .ref a2, .ref a3, .ref a4, .ref a5, .int 0, .int 0, .int 0, .int 0, .ref a6, .ref a7, .ref a8, .ref a9, .int 0, .ref a10, .ref a11, .ref a12, .ref a13, .ref a14, .ref a15, .ref a16, .int 0])), (a1, .inl (G.2 3, 1000, .inl (fun _ => 0)))] sz) [] t) (va_A [(a0, .inr (10, [.int 0, .int 0, .int (-1), .null, .null, .ref a1, .int 0, .int 0, .int 0, .int 0, .int 0, .int 0, .int 0, .int 0, .int 0, .long 0, .ref a2, .ref a3, .ref a4, .ref a5, .int 0, .int 0, .int 0, .int 0, .ref a6, .ref a7, .ref a8, .ref a9, .int 0, .ref a10, .ref a11, .ref a12, .ref a13, .ref a14, .ref a15, .ref a16, .int 0])), (a1, .inl (G.2 3, 1000, .inl (fun _ => 0)))] sz)) 0 0 (va_A [(a0, .inr (10, [.int 0, .int 0, .int (-1), .null, .null, .ref a1, .int 0, .int 0, .int 0, .int 0, .int 0, .int 0, .int 0, .int 0, .int 0, .long 0, .ref a2, .ref a3, .ref a4, .ref a5, .int 0, .int 0, .int 0, .int 0, .ref a6, .ref a7, .ref a8, .ref a9, .int 0, .ref a10, .ref a11, .ref a12, .ref a13, .ref a14, .ref a15, .ref a16, .int 0])), (a1, .inl (G.2 3, 1000, .inl (fun _ => 0)))] sz) := by
  refine m_body (y := yX13_feed) (cd := cX13_feed) (mL := 8) (rt := (some .int)) (rm := { frames := 0, cells := 0, slots := 0, locals := 0 }) (av := [.ref a0, .int i0, .int i1, .int i2, .int i3, .int i4]) (wc := [(a0, .inr (10, [.int 0, .int 0, .int (-1), .null, .null, .ref a1, .int 0, .int 0, .int 0, .int 0, .int 0, .int 0, .int 0, .int 0, .int 0, .long 0, .ref a2, .ref a3, .ref a4, .ref a5, .int 0, .int 0, .int 0, .int 0, .ref a6, .ref a7, .ref a8, .ref a9, .int 0, .ref a10, .ref a11, .ref a12, .ref a13, .ref a14, .ref a15, .ref a16, .int 0])), (a1, .inl (G.2 3, 1000, .inl (fun _ => 0)))]) (G := G) (sz := sz) (Qf := fun A => va_Qi (fun r _ => r = 20) (fun (u9 : KS) t => Bw G A [] t) A) (by decide) (Nat.le_of_ble_eq_true rfl) ?_
  intro p e s m args below meth c ls A X hi hP hD hS hl
  have hx := X.1.1
  have hb := X.1.2.1
  have hi : meth.name = "feed" := hi
  have hl : lv_has ls 8 [(0, .ref a0), (1, .int i0), (2, .int i1), (3, .int i2), (4, .int i3), (5, .int i4)] := hl
  refine lv_aload_n hx hb dX13_feed_0 rfl (lv_at hl 0 rfl) ?_
  refine lv_iconst (v := 0) hx hb dX13_feed_1 (by decide) ?_
  refine m_put (C := RX13) (T := TX13) (N := 37) (ci := 10) (v := .int 0) (ws' := [(a0, .inr (10, [.int 0, .int 0, .int (-1), .null, .null, .ref a1, .int 0, .int 0, .int 0, .int 0, .int 0, .int 0, .int 0, .int 0, .int 0, .long 0, .ref a2, .ref a3, .ref a4, .ref a5, .int 0, .int 0, .int 0, .int 0, .ref a6, .ref a7, .ref a8, .ref a9, .int 0, .ref a10, .ref a11, .ref a12, .ref a13, .ref a14, .ref a15, .ref a16, .int 0])), (a1, .inl (G.2 3, 1000, .inl (fun _ => 0)))]) X hP hD hS tyX13 tyX13_ok nmX13 0 rfl rfl 0 (by decide) qw_140 inlX13 rfl (by first | rfl | decide) (by first | rfl | decide) (Nat.le_of_ble_eq_true rfl) rfl dX13_feed_2 (fun H locs hP hD hS => ?_)
  refine lv_aload_n hx hb dX13_feed_5 rfl (lv_at hl 0 rfl) ?_
  refine m_get (C := RX13) (T := TX13) (N := 37) (ci := 10) (v := .int 0) X hP 0 rfl rfl 6 (by decide) qw_141 inlX13 rfl dX13_feed_6 ?_
  refine lv_bipush (v := 20) hx hb dX13_feed_9 (by decide) ?_
  refine lv_iadd hx hb dX13_feed_11 ?_
  refine lv_topi (fun z335 ez335 => ?_)
  obtain rfl : z335 = 20 := ez335.trans (by decide)
  refine lv_sipush (v := 1000) hx hb dX13_feed_12 (by decide) ?_
  refine lv_icmp_le (tgt := 20) hx hb dX13_feed_15 (by decide) (fun _ => ?_) (fun c9 => absurd c9 (by decide))
  refine lv_iconst (v := 0) hx hb dX13_feed_20 (by decide) ?_
  refine lv_istore (lv' := [(6, .int 0), (0, .ref a0), (1, .int i0), (2, .int i1), (3, .int i2), (4, .int i3), (5, .int i4)]) hx hb dX13_feed_21 hl (by decide) rfl (fun ls hl => ?_)
  refine lv_iload hx hb dX13_feed_23 (lv_at hl 0 rfl) ?_
  refine lv_bipush (v := 20) hx hb dX13_feed_25 (by decide) ?_
  refine lv_icmp_ge (tgt := 117) hx hb dX13_feed_27 (by decide) (fun c9 => absurd c9 (by decide)) (fun _ => ?_)
  refine lv_iload hx hb dX13_feed_30 (lv_at hl 0 rfl) ?_
  refine lv_iconst (v := 4) hx hb dX13_feed_32 (by decide) ?_
  refine lv_icmp_ge (tgt := 40) hx hb dX13_feed_33 (by decide) (fun c9 => absurd c9 (by decide)) (fun _ => ?_)
  refine lv_iload_n hx hb dX13_feed_36 rfl (lv_at hl 2 rfl) ?_
  refine lv_goto (tgt := 76) hx hb dX13_feed_37 (by decide) ?_
  refine lv_istore (lv' := [(7, .int i0), (6, .int 0), (0, .ref a0), (1, .int i0), (2, .int i1), (3, .int i2), (4, .int i3), (5, .int i4)]) hx hb dX13_feed_76 hl (by decide) rfl (fun ls hl => ?_)
  refine lv_aload_n hx hb dX13_feed_78 rfl (lv_at hl 2 rfl) ?_
  refine m_get (C := RX13) (T := TX13) (N := 37) (ci := 10) (v := .ref a1) X hP 0 rfl rfl 5 (by decide) qw_111 inlX13 rfl dX13_feed_79 ?_
  refine lv_aload_n hx hb dX13_feed_82 rfl (lv_at hl 2 rfl) ?_
  refine m_get (C := RX13) (T := TX13) (N := 37) (ci := 10) (v := .int 0) X hP 0 rfl rfl 6 (by decide) qw_141 inlX13 rfl dX13_feed_83 ?_
  refine lv_iload hx hb dX13_feed_86 (lv_at hl 0 rfl) ?_
  refine lv_bipush (v := 24) hx hb dX13_feed_88 (by decide) ?_
  refine lv_bipush (v := 8) hx hb dX13_feed_90 (by decide) ?_
  refine lv_iload hx hb dX13_feed_92 (lv_at hl 1 rfl) ?_
  refine lv_iconst (v := 4) hx hb dX13_feed_94 (by decide) ?_
  refine lv_irem hx hb dX13_feed_95 (by decide) ?_
  refine lv_topi (fun z336 ez336 => ?_)
  obtain rfl : z336 = 0 := ez336.trans (by decide)
  refine lv_imul hx hb dX13_feed_96 ?_
  refine lv_topi (fun z337 ez337 => ?_)
  obtain rfl : z337 = 0 := ez337.trans (by decide)
  refine lv_isub hx hb dX13_feed_97 ?_
  refine lv_topi (fun z338 ez338 => ?_)
  obtain rfl : z338 = 24 := ez338.trans (by decide)
  refine lv_ishr hx hb dX13_feed_98 ?_
  refine lv_topi (fun z339 ez339 => ?_)
  refine lv_i2b hx hb dX13_feed_99 rfl ?_
  refine lv_topi (fun z340 ez340 => ?_)
  refine m_bast (ws' := fun f341 => [(a0, .inr (10, [.int 0, .int 0, .int (-1), .null, .null, .ref a1, .int 0, .int 0, .int 0, .int 0, .int 0, .int 0, .int 0, .int 0, .int 0, .long 0, .ref a2, .ref a3, .ref a4, .ref a5, .int 0, .int 0, .int 0, .int 0, .ref a6, .ref a7, .ref a8, .ref a9, .int 0, .ref a10, .ref a11, .ref a12, .ref a13, .ref a14, .ref a15, .ref a16, .int 0])), (a1, .inl (G.2 3, 1000, .inl f341))]) X hP hD hS 1 rfl (vin (by decide)) (fun _ => rfl) dX13_feed_100 (fun f341 H locs hP hD hS => ?_)
  refine lv_aload_n hx hb dX13_feed_101 rfl (lv_at hl 2 rfl) ?_
  refine lv_dup hx hb dX13_feed_102 rfl ?_
  refine m_get (C := RX13) (T := TX13) (N := 37) (ci := 10) (v := .int 0) X hP 0 rfl rfl 6 (by decide) qw_141 inlX13 rfl dX13_feed_103 ?_
  refine lv_iconst (v := 1) hx hb dX13_feed_106 (by decide) ?_
  refine lv_iadd hx hb dX13_feed_107 ?_
  refine lv_topi (fun z342 ez342 => ?_)
  obtain rfl : z342 = 1 := ez342.trans (by decide)
  refine m_put (C := RX13) (T := TX13) (N := 37) (ci := 10) (v := .int 1) (ws' := [(a0, .inr (10, [.int 0, .int 0, .int (-1), .null, .null, .ref a1, .int 1, .int 0, .int 0, .int 0, .int 0, .int 0, .int 0, .int 0, .int 0, .long 0, .ref a2, .ref a3, .ref a4, .ref a5, .int 0, .int 0, .int 0, .int 0, .ref a6, .ref a7, .ref a8, .ref a9, .int 0, .ref a10, .ref a11, .ref a12, .ref a13, .ref a14, .ref a15, .ref a16, .int 0])), (a1, .inl (G.2 3, 1000, .inl f341))]) X hP hD hS tyX13 tyX13_ok nmX13 0 rfl rfl 6 (by decide) qw_141 inlX13 rfl (by first | rfl | decide) (by first | rfl | decide) (Nat.le_of_ble_eq_true rfl) rfl dX13_feed_108 (fun H locs hP hD hS => ?_)
  refine lv_iinc (v := 1) (lv' := [(6, .int 1), (7, .int i0), (0, .ref a0), (1, .int i0), (2, .int i1), (3, .int i2), (4, .int i3), (5, .int i4)]) hx hb dX13_feed_111 hl (k := 1) rfl (by decide) (by decide) rfl (fun ls hl => ?_)
  refine lv_goto (tgt := 23) hx hb dX13_feed_114 (by decide) ?_
  refine lv_iload hx hb dX13_feed_23 (lv_at hl 0 rfl) ?_
  refine lv_bipush (v := 20) hx hb dX13_feed_25 (by decide) ?_
  refine lv_icmp_ge (tgt := 117) hx hb dX13_feed_27 (by decide) (fun c9 => absurd c9 (by decide)) (fun _ => ?_)
  refine lv_iload hx hb dX13_feed_30 (lv_at hl 0 rfl) ?_
  refine lv_iconst (v := 4) hx hb dX13_feed_32 (by decide) ?_
  refine lv_icmp_ge (tgt := 40) hx hb dX13_feed_33 (by decide) (fun c9 => absurd c9 (by decide)) (fun _ => ?_)
  refine lv_iload_n hx hb dX13_feed_36 rfl (lv_at hl 3 rfl) ?_
  refine lv_goto (tgt := 76) hx hb dX13_feed_37 (by decide) ?_
  refine lv_istore (lv' := [(7, .int i0), (6, .int 1), (0, .ref a0), (1, .int i0), (2, .int i1), (3, .int i2), (4, .int i3), (5, .int i4)]) hx hb dX13_feed_76 hl (by decide) rfl (fun ls hl => ?_)
  refine lv_aload_n hx hb dX13_feed_78 rfl (lv_at hl 2 rfl) ?_
  refine m_get (C := RX13) (T := TX13) (N := 37) (ci := 10) (v := .ref a1) X hP 0 rfl rfl 5 (by decide) qw_111 inlX13 rfl dX13_feed_79 ?_
  refine lv_aload_n hx hb dX13_feed_82 rfl (lv_at hl 2 rfl) ?_
  refine m_get (C := RX13) (T := TX13) (N := 37) (ci := 10) (v := .int 1) X hP 0 rfl rfl 6 (by decide) qw_141 inlX13 rfl dX13_feed_83 ?_
  refine lv_iload hx hb dX13_feed_86 (lv_at hl 0 rfl) ?_
  refine lv_bipush (v := 24) hx hb dX13_feed_88 (by decide) ?_
  refine lv_bipush (v := 8) hx hb dX13_feed_90 (by decide) ?_
  refine lv_iload hx hb dX13_feed_92 (lv_at hl 1 rfl) ?_
  refine lv_iconst (v := 4) hx hb dX13_feed_94 (by decide) ?_
  refine lv_irem hx hb dX13_feed_95 (by decide) ?_
  refine lv_topi (fun z343 ez343 => ?_)
  obtain rfl : z343 = 1 := ez343.trans (by decide)
  refine lv_imul hx hb dX13_feed_96 ?_
  refine lv_topi (fun z344 ez344 => ?_)
  obtain rfl : z344 = 8 := ez344.trans (by decide)
  refine lv_isub hx hb dX13_feed_97 ?_
  refine lv_topi (fun z345 ez345 => ?_)
  obtain rfl : z345 = 16 := ez345.trans (by decide)
  refine lv_ishr hx hb dX13_feed_98 ?_
  refine lv_topi (fun z346 ez346 => ?_)
  refine lv_i2b hx hb dX13_feed_99 rfl ?_
  refine lv_topi (fun z347 ez347 => ?_)
  refine m_bast (ws' := fun f348 => [(a0, .inr (10, [.int 0, .int 0, .int (-1), .null, .null, .ref a1, .int 1, .int 0, .int 0, .int 0, .int 0, .int 0, .int 0, .int 0, .int 0, .long 0, .ref a2, .ref a3, .ref a4, .ref a5, .int 0, .int 0, .int 0, .int 0, .ref a6, .ref a7, .ref a8, .ref a9, .int 0, .ref a10, .ref a11, .ref a12, .ref a13, .ref a14, .ref a15, .ref a16, .int 0])), (a1, .inl (G.2 3, 1000, .inl f348))]) X hP hD hS 1 rfl (vin (by decide)) (fun _ => rfl) dX13_feed_100 (fun f348 H locs hP hD hS => ?_)
  refine lv_aload_n hx hb dX13_feed_101 rfl (lv_at hl 2 rfl) ?_
  refine lv_dup hx hb dX13_feed_102 rfl ?_
  refine m_get (C := RX13) (T := TX13) (N := 37) (ci := 10) (v := .int 1) X hP 0 rfl rfl 6 (by decide) qw_141 inlX13 rfl dX13_feed_103 ?_
  refine lv_iconst (v := 1) hx hb dX13_feed_106 (by decide) ?_
  refine lv_iadd hx hb dX13_feed_107 ?_
  refine lv_topi (fun z349 ez349 => ?_)
  obtain rfl : z349 = 2 := ez349.trans (by decide)
  refine m_put (C := RX13) (T := TX13) (N := 37) (ci := 10) (v := .int 2) (ws' := [(a0, .inr (10, [.int 0, .int 0, .int (-1), .null, .null, .ref a1, .int 2, .int 0, .int 0, .int 0, .int 0, .int 0, .int 0, .int 0, .int 0, .long 0, .ref a2, .ref a3, .ref a4, .ref a5, .int 0, .int 0, .int 0, .int 0, .ref a6, .ref a7, .ref a8, .ref a9, .int 0, .ref a10, .ref a11, .ref a12, .ref a13, .ref a14, .ref a15, .ref a16, .int 0])), (a1, .inl (G.2 3, 1000, .inl f348))]) X hP hD hS tyX13 tyX13_ok nmX13 0 rfl rfl 6 (by decide) qw_141 inlX13 rfl (by first | rfl | decide) (by first | rfl | decide) (Nat.le_of_ble_eq_true rfl) rfl dX13_feed_108 (fun H locs hP hD hS => ?_)
  refine lv_iinc (v := 2) (lv' := [(6, .int 2), (7, .int i0), (0, .ref a0), (1, .int i0), (2, .int i1), (3, .int i2), (4, .int i3), (5, .int i4)]) hx hb dX13_feed_111 hl (k := 1) rfl (by decide) (by decide) rfl (fun ls hl => ?_)
  refine lv_goto (tgt := 23) hx hb dX13_feed_114 (by decide) ?_
  refine lv_iload hx hb dX13_feed_23 (lv_at hl 0 rfl) ?_
  refine lv_bipush (v := 20) hx hb dX13_feed_25 (by decide) ?_
  refine lv_icmp_ge (tgt := 117) hx hb dX13_feed_27 (by decide) (fun c9 => absurd c9 (by decide)) (fun _ => ?_)
  refine lv_iload hx hb dX13_feed_30 (lv_at hl 0 rfl) ?_
  refine lv_iconst (v := 4) hx hb dX13_feed_32 (by decide) ?_
  refine lv_icmp_ge (tgt := 40) hx hb dX13_feed_33 (by decide) (fun c9 => absurd c9 (by decide)) (fun _ => ?_)
  refine lv_iload_n hx hb dX13_feed_36 rfl (lv_at hl 3 rfl) ?_
  refine lv_goto (tgt := 76) hx hb dX13_feed_37 (by decide) ?_
  refine lv_istore (lv' := [(7, .int i0), (6, .int 2), (0, .ref a0), (1, .int i0), (2, .int i1), (3, .int i2), (4, .int i3), (5, .int i4)]) hx hb dX13_feed_76 hl (by decide) rfl (fun ls hl => ?_)
  refine lv_aload_n hx hb dX13_feed_78 rfl (lv_at hl 2 rfl) ?_
  refine m_get (C := RX13) (T := TX13) (N := 37) (ci := 10) (v := .ref a1) X hP 0 rfl rfl 5 (by decide) qw_111 inlX13 rfl dX13_feed_79 ?_
  refine lv_aload_n hx hb dX13_feed_82 rfl (lv_at hl 2 rfl) ?_
  refine m_get (C := RX13) (T := TX13) (N := 37) (ci := 10) (v := .int 2) X hP 0 rfl rfl 6 (by decide) qw_141 inlX13 rfl dX13_feed_83 ?_
  refine lv_iload hx hb dX13_feed_86 (lv_at hl 0 rfl) ?_
  refine lv_bipush (v := 24) hx hb dX13_feed_88 (by decide) ?_
  refine lv_bipush (v := 8) hx hb dX13_feed_90 (by decide) ?_
  refine lv_iload hx hb dX13_feed_92 (lv_at hl 1 rfl) ?_
  refine lv_iconst (v := 4) hx hb dX13_feed_94 (by decide) ?_
  refine lv_irem hx hb dX13_feed_95 (by decide) ?_
  refine lv_topi (fun z350 ez350 => ?_)
  obtain rfl : z350 = 2 := ez350.trans (by decide)
  refine lv_imul hx hb dX13_feed_96 ?_
  refine lv_topi (fun z351 ez351 => ?_)
  obtain rfl : z351 = 16 := ez351.trans (by decide)
  refine lv_isub hx hb dX13_feed_97 ?_
  refine lv_topi (fun z352 ez352 => ?_)
  obtain rfl : z352 = 8 := ez352.trans (by decide)
  refine lv_ishr hx hb dX13_feed_98 ?_
  refine lv_topi (fun z353 ez353 => ?_)
  refine lv_i2b hx hb dX13_feed_99 rfl ?_
  refine lv_topi (fun z354 ez354 => ?_)
  refine m_bast (ws' := fun f355 => [(a0, .inr (10, [.int 0, .int 0, .int (-1), .null, .null, .ref a1, .int 2, .int 0, .int 0, .int 0, .int 0, .int 0, .int 0, .int 0, .int 0, .long 0, .ref a2, .ref a3, .ref a4, .ref a5, .int 0, .int 0, .int 0, .int 0, .ref a6, .ref a7, .ref a8, .ref a9, .int 0, .ref a10, .ref a11, .ref a12, .ref a13, .ref a14, .ref a15, .ref a16, .int 0])), (a1, .inl (G.2 3, 1000, .inl f355))]) X hP hD hS 1 rfl (vin (by decide)) (fun _ => rfl) dX13_feed_100 (fun f355 H locs hP hD hS => ?_)
  refine lv_aload_n hx hb dX13_feed_101 rfl (lv_at hl 2 rfl) ?_
  refine lv_dup hx hb dX13_feed_102 rfl ?_
  refine m_get (C := RX13) (T := TX13) (N := 37) (ci := 10) (v := .int 2) X hP 0 rfl rfl 6 (by decide) qw_141 inlX13 rfl dX13_feed_103 ?_
  refine lv_iconst (v := 1) hx hb dX13_feed_106 (by decide) ?_
  refine lv_iadd hx hb dX13_feed_107 ?_
  refine lv_topi (fun z356 ez356 => ?_)
  obtain rfl : z356 = 3 := ez356.trans (by decide)
  refine m_put (C := RX13) (T := TX13) (N := 37) (ci := 10) (v := .int 3) (ws' := [(a0, .inr (10, [.int 0, .int 0, .int (-1), .null, .null, .ref a1, .int 3, .int 0, .int 0, .int 0, .int 0, .int 0, .int 0, .int 0, .int 0, .long 0, .ref a2, .ref a3, .ref a4, .ref a5, .int 0, .int 0, .int 0, .int 0, .ref a6, .ref a7, .ref a8, .ref a9, .int 0, .ref a10, .ref a11, .ref a12, .ref a13, .ref a14, .ref a15, .ref a16, .int 0])), (a1, .inl (G.2 3, 1000, .inl f355))]) X hP hD hS tyX13 tyX13_ok nmX13 0 rfl rfl 6 (by decide) qw_141 inlX13 rfl (by first | rfl | decide) (by first | rfl | decide) (Nat.le_of_ble_eq_true rfl) rfl dX13_feed_108 (fun H locs hP hD hS => ?_)
  refine lv_iinc (v := 3) (lv' := [(6, .int 3), (7, .int i0), (0, .ref a0), (1, .int i0), (2, .int i1), (3, .int i2), (4, .int i3), (5, .int i4)]) hx hb dX13_feed_111 hl (k := 1) rfl (by decide) (by decide) rfl (fun ls hl => ?_)
  refine lv_goto (tgt := 23) hx hb dX13_feed_114 (by decide) ?_
  refine lv_iload hx hb dX13_feed_23 (lv_at hl 0 rfl) ?_
  refine lv_bipush (v := 20) hx hb dX13_feed_25 (by decide) ?_
  refine lv_icmp_ge (tgt := 117) hx hb dX13_feed_27 (by decide) (fun c9 => absurd c9 (by decide)) (fun _ => ?_)
  refine lv_iload hx hb dX13_feed_30 (lv_at hl 0 rfl) ?_
  refine lv_iconst (v := 4) hx hb dX13_feed_32 (by decide) ?_
  refine lv_icmp_ge (tgt := 40) hx hb dX13_feed_33 (by decide) (fun c9 => absurd c9 (by decide)) (fun _ => ?_)
  refine lv_iload_n hx hb dX13_feed_36 rfl (lv_at hl 3 rfl) ?_
  refine lv_goto (tgt := 76) hx hb dX13_feed_37 (by decide) ?_
  refine lv_istore (lv' := [(7, .int i0), (6, .int 3), (0, .ref a0), (1, .int i0), (2, .int i1), (3, .int i2), (4, .int i3), (5, .int i4)]) hx hb dX13_feed_76 hl (by decide) rfl (fun ls hl => ?_)
  refine lv_aload_n hx hb dX13_feed_78 rfl (lv_at hl 2 rfl) ?_
  refine m_get (C := RX13) (T := TX13) (N := 37) (ci := 10) (v := .ref a1) X hP 0 rfl rfl 5 (by decide) qw_111 inlX13 rfl dX13_feed_79 ?_
  refine lv_aload_n hx hb dX13_feed_82 rfl (lv_at hl 2 rfl) ?_
  refine m_get (C := RX13) (T := TX13) (N := 37) (ci := 10) (v := .int 3) X hP 0 rfl rfl 6 (by decide) qw_141 inlX13 rfl dX13_feed_83 ?_
  refine lv_iload hx hb dX13_feed_86 (lv_at hl 0 rfl) ?_
  refine lv_bipush (v := 24) hx hb dX13_feed_88 (by decide) ?_
  refine lv_bipush (v := 8) hx hb dX13_feed_90 (by decide) ?_
  refine lv_iload hx hb dX13_feed_92 (lv_at hl 1 rfl) ?_
  refine lv_iconst (v := 4) hx hb dX13_feed_94 (by decide) ?_
  refine lv_irem hx hb dX13_feed_95 (by decide) ?_
  refine lv_topi (fun z357 ez357 => ?_)
  obtain rfl : z357 = 3 := ez357.trans (by decide)
  refine lv_imul hx hb dX13_feed_96 ?_
  refine lv_topi (fun z358 ez358 => ?_)
  obtain rfl : z358 = 24 := ez358.trans (by decide)
  refine lv_isub hx hb dX13_feed_97 ?_
  refine lv_topi (fun z359 ez359 => ?_)
  obtain rfl : z359 = 0 := ez359.trans (by decide)
  refine lv_ishr hx hb dX13_feed_98 ?_
  refine lv_topi (fun z360 ez360 => ?_)
  refine lv_i2b hx hb dX13_feed_99 rfl ?_
  refine lv_topi (fun z361 ez361 => ?_)
  refine m_bast (ws' := fun f362 => [(a0, .inr (10, [.int 0, .int 0, .int (-1), .null, .null, .ref a1, .int 3, .int 0, .int 0, .int 0, .int 0, .int 0, .int 0, .int 0, .int 0, .long 0, .ref a2, .ref a3, .ref a4, .ref a5, .int 0, .int 0, .int 0, .int 0, .ref a6, .ref a7, .ref a8, .ref a9, .int 0, .ref a10, .ref a11, .ref a12, .ref a13, .ref a14, .ref a15, .ref a16, .int 0])), (a1, .inl (G.2 3, 1000, .inl f362))]) X hP hD hS 1 rfl (vin (by decide)) (fun _ => rfl) dX13_feed_100 (fun f362 H locs hP hD hS => ?_)
  refine lv_aload_n hx hb dX13_feed_101 rfl (lv_at hl 2 rfl) ?_
  refine lv_dup hx hb dX13_feed_102 rfl ?_
  refine m_get (C := RX13) (T := TX13) (N := 37) (ci := 10) (v := .int 3) X hP 0 rfl rfl 6 (by decide) qw_141 inlX13 rfl dX13_feed_103 ?_
  refine lv_iconst (v := 1) hx hb dX13_feed_106 (by decide) ?_
  refine lv_iadd hx hb dX13_feed_107 ?_
  refine lv_topi (fun z363 ez363 => ?_)
  obtain rfl : z363 = 4 := ez363.trans (by decide)
  refine m_put (C := RX13) (T := TX13) (N := 37) (ci := 10) (v := .int 4) (ws' := [(a0, .inr (10, [.int 0, .int 0, .int (-1), .null, .null, .ref a1, .int 4, .int 0, .int 0, .int 0, .int 0, .int 0, .int 0, .int 0, .int 0, .long 0, .ref a2, .ref a3, .ref a4, .ref a5, .int 0, .int 0, .int 0, .int 0, .ref a6, .ref a7, .ref a8, .ref a9, .int 0, .ref a10, .ref a11, .ref a12, .ref a13, .ref a14, .ref a15, .ref a16, .int 0])), (a1, .inl (G.2 3, 1000, .inl f362))]) X hP hD hS tyX13 tyX13_ok nmX13 0 rfl rfl 6 (by decide) qw_141 inlX13 rfl (by first | rfl | decide) (by first | rfl | decide) (Nat.le_of_ble_eq_true rfl) rfl dX13_feed_108 (fun H locs hP hD hS => ?_)
  refine lv_iinc (v := 4) (lv' := [(6, .int 4), (7, .int i0), (0, .ref a0), (1, .int i0), (2, .int i1), (3, .int i2), (4, .int i3), (5, .int i4)]) hx hb dX13_feed_111 hl (k := 1) rfl (by decide) (by decide) rfl (fun ls hl => ?_)
  refine lv_goto (tgt := 23) hx hb dX13_feed_114 (by decide) ?_
  refine lv_iload hx hb dX13_feed_23 (lv_at hl 0 rfl) ?_
  refine lv_bipush (v := 20) hx hb dX13_feed_25 (by decide) ?_
  refine lv_icmp_ge (tgt := 117) hx hb dX13_feed_27 (by decide) (fun c9 => absurd c9 (by decide)) (fun _ => ?_)
  refine lv_iload hx hb dX13_feed_30 (lv_at hl 0 rfl) ?_
  refine lv_iconst (v := 4) hx hb dX13_feed_32 (by decide) ?_
  refine lv_icmp_ge (tgt := 40) hx hb dX13_feed_33 (by decide) (fun _ => ?_) (fun c9 => absurd c9 (by decide))
  refine lv_iload hx hb dX13_feed_40 (lv_at hl 0 rfl) ?_
  refine lv_bipush (v := 8) hx hb dX13_feed_42 (by decide) ?_
  refine lv_icmp_ge (tgt := 51) hx hb dX13_feed_44 (by decide) (fun c9 => absurd c9 (by decide)) (fun _ => ?_)
  refine lv_iload_n hx hb dX13_feed_47 rfl (lv_at hl 4 rfl) ?_
  refine lv_goto (tgt := 76) hx hb dX13_feed_48 (by decide) ?_
  refine lv_istore (lv' := [(7, .int i1), (6, .int 4), (0, .ref a0), (1, .int i0), (2, .int i1), (3, .int i2), (4, .int i3), (5, .int i4)]) hx hb dX13_feed_76 hl (by decide) rfl (fun ls hl => ?_)
  refine lv_aload_n hx hb dX13_feed_78 rfl (lv_at hl 2 rfl) ?_
  refine m_get (C := RX13) (T := TX13) (N := 37) (ci := 10) (v := .ref a1) X hP 0 rfl rfl 5 (by decide) qw_111 inlX13 rfl dX13_feed_79 ?_
  refine lv_aload_n hx hb dX13_feed_82 rfl (lv_at hl 2 rfl) ?_
  refine m_get (C := RX13) (T := TX13) (N := 37) (ci := 10) (v := .int 4) X hP 0 rfl rfl 6 (by decide) qw_141 inlX13 rfl dX13_feed_83 ?_
  refine lv_iload hx hb dX13_feed_86 (lv_at hl 0 rfl) ?_
  refine lv_bipush (v := 24) hx hb dX13_feed_88 (by decide) ?_
  refine lv_bipush (v := 8) hx hb dX13_feed_90 (by decide) ?_
  refine lv_iload hx hb dX13_feed_92 (lv_at hl 1 rfl) ?_
  refine lv_iconst (v := 4) hx hb dX13_feed_94 (by decide) ?_
  refine lv_irem hx hb dX13_feed_95 (by decide) ?_
  refine lv_topi (fun z364 ez364 => ?_)
  obtain rfl : z364 = 0 := ez364.trans (by decide)
  refine lv_imul hx hb dX13_feed_96 ?_
  refine lv_topi (fun z365 ez365 => ?_)
  obtain rfl : z365 = 0 := ez365.trans (by decide)
  refine lv_isub hx hb dX13_feed_97 ?_
  refine lv_topi (fun z366 ez366 => ?_)
  obtain rfl : z366 = 24 := ez366.trans (by decide)
  refine lv_ishr hx hb dX13_feed_98 ?_
  refine lv_topi (fun z367 ez367 => ?_)
  refine lv_i2b hx hb dX13_feed_99 rfl ?_
  refine lv_topi (fun z368 ez368 => ?_)
  refine m_bast (ws' := fun f369 => [(a0, .inr (10, [.int 0, .int 0, .int (-1), .null, .null, .ref a1, .int 4, .int 0, .int 0, .int 0, .int 0, .int 0, .int 0, .int 0, .int 0, .long 0, .ref a2, .ref a3, .ref a4, .ref a5, .int 0, .int 0, .int 0, .int 0, .ref a6, .ref a7, .ref a8, .ref a9, .int 0, .ref a10, .ref a11, .ref a12, .ref a13, .ref a14, .ref a15, .ref a16, .int 0])), (a1, .inl (G.2 3, 1000, .inl f369))]) X hP hD hS 1 rfl (vin (by decide)) (fun _ => rfl) dX13_feed_100 (fun f369 H locs hP hD hS => ?_)
  refine lv_aload_n hx hb dX13_feed_101 rfl (lv_at hl 2 rfl) ?_
  refine lv_dup hx hb dX13_feed_102 rfl ?_
  refine m_get (C := RX13) (T := TX13) (N := 37) (ci := 10) (v := .int 4) X hP 0 rfl rfl 6 (by decide) qw_141 inlX13 rfl dX13_feed_103 ?_
  refine lv_iconst (v := 1) hx hb dX13_feed_106 (by decide) ?_
  refine lv_iadd hx hb dX13_feed_107 ?_
  refine lv_topi (fun z370 ez370 => ?_)
  obtain rfl : z370 = 5 := ez370.trans (by decide)
  refine m_put (C := RX13) (T := TX13) (N := 37) (ci := 10) (v := .int 5) (ws' := [(a0, .inr (10, [.int 0, .int 0, .int (-1), .null, .null, .ref a1, .int 5, .int 0, .int 0, .int 0, .int 0, .int 0, .int 0, .int 0, .int 0, .long 0, .ref a2, .ref a3, .ref a4, .ref a5, .int 0, .int 0, .int 0, .int 0, .ref a6, .ref a7, .ref a8, .ref a9, .int 0, .ref a10, .ref a11, .ref a12, .ref a13, .ref a14, .ref a15, .ref a16, .int 0])), (a1, .inl (G.2 3, 1000, .inl f369))]) X hP hD hS tyX13 tyX13_ok nmX13 0 rfl rfl 6 (by decide) qw_141 inlX13 rfl (by first | rfl | decide) (by first | rfl | decide) (Nat.le_of_ble_eq_true rfl) rfl dX13_feed_108 (fun H locs hP hD hS => ?_)
  refine lv_iinc (v := 5) (lv' := [(6, .int 5), (7, .int i1), (0, .ref a0), (1, .int i0), (2, .int i1), (3, .int i2), (4, .int i3), (5, .int i4)]) hx hb dX13_feed_111 hl (k := 1) rfl (by decide) (by decide) rfl (fun ls hl => ?_)
  refine lv_goto (tgt := 23) hx hb dX13_feed_114 (by decide) ?_
  refine lv_iload hx hb dX13_feed_23 (lv_at hl 0 rfl) ?_
  refine lv_bipush (v := 20) hx hb dX13_feed_25 (by decide) ?_
  refine lv_icmp_ge (tgt := 117) hx hb dX13_feed_27 (by decide) (fun c9 => absurd c9 (by decide)) (fun _ => ?_)
  refine lv_iload hx hb dX13_feed_30 (lv_at hl 0 rfl) ?_
  refine lv_iconst (v := 4) hx hb dX13_feed_32 (by decide) ?_
  refine lv_icmp_ge (tgt := 40) hx hb dX13_feed_33 (by decide) (fun _ => ?_) (fun c9 => absurd c9 (by decide))
  refine lv_iload hx hb dX13_feed_40 (lv_at hl 0 rfl) ?_
  refine lv_bipush (v := 8) hx hb dX13_feed_42 (by decide) ?_
  refine lv_icmp_ge (tgt := 51) hx hb dX13_feed_44 (by decide) (fun c9 => absurd c9 (by decide)) (fun _ => ?_)
  refine lv_iload_n hx hb dX13_feed_47 rfl (lv_at hl 4 rfl) ?_
  refine lv_goto (tgt := 76) hx hb dX13_feed_48 (by decide) ?_
  refine lv_istore (lv' := [(7, .int i1), (6, .int 5), (0, .ref a0), (1, .int i0), (2, .int i1), (3, .int i2), (4, .int i3), (5, .int i4)]) hx hb dX13_feed_76 hl (by decide) rfl (fun ls hl => ?_)
  refine lv_aload_n hx hb dX13_feed_78 rfl (lv_at hl 2 rfl) ?_
  refine m_get (C := RX13) (T := TX13) (N := 37) (ci := 10) (v := .ref a1) X hP 0 rfl rfl 5 (by decide) qw_111 inlX13 rfl dX13_feed_79 ?_
  refine lv_aload_n hx hb dX13_feed_82 rfl (lv_at hl 2 rfl) ?_
  refine m_get (C := RX13) (T := TX13) (N := 37) (ci := 10) (v := .int 5) X hP 0 rfl rfl 6 (by decide) qw_141 inlX13 rfl dX13_feed_83 ?_
  refine lv_iload hx hb dX13_feed_86 (lv_at hl 0 rfl) ?_
  refine lv_bipush (v := 24) hx hb dX13_feed_88 (by decide) ?_
  refine lv_bipush (v := 8) hx hb dX13_feed_90 (by decide) ?_
  refine lv_iload hx hb dX13_feed_92 (lv_at hl 1 rfl) ?_
  refine lv_iconst (v := 4) hx hb dX13_feed_94 (by decide) ?_
  refine lv_irem hx hb dX13_feed_95 (by decide) ?_
  refine lv_topi (fun z371 ez371 => ?_)
  obtain rfl : z371 = 1 := ez371.trans (by decide)
  refine lv_imul hx hb dX13_feed_96 ?_
  refine lv_topi (fun z372 ez372 => ?_)
  obtain rfl : z372 = 8 := ez372.trans (by decide)
  refine lv_isub hx hb dX13_feed_97 ?_
  refine lv_topi (fun z373 ez373 => ?_)
  obtain rfl : z373 = 16 := ez373.trans (by decide)
  refine lv_ishr hx hb dX13_feed_98 ?_
  refine lv_topi (fun z374 ez374 => ?_)
  refine lv_i2b hx hb dX13_feed_99 rfl ?_
  refine lv_topi (fun z375 ez375 => ?_)
  refine m_bast (ws' := fun f376 => [(a0, .inr (10, [.int 0, .int 0, .int (-1), .null, .null, .ref a1, .int 5, .int 0, .int 0, .int 0, .int 0, .int 0, .int 0, .int 0, .int 0, .long 0, .ref a2, .ref a3, .ref a4, .ref a5, .int 0, .int 0, .int 0, .int 0, .ref a6, .ref a7, .ref a8, .ref a9, .int 0, .ref a10, .ref a11, .ref a12, .ref a13, .ref a14, .ref a15, .ref a16, .int 0])), (a1, .inl (G.2 3, 1000, .inl f376))]) X hP hD hS 1 rfl (vin (by decide)) (fun _ => rfl) dX13_feed_100 (fun f376 H locs hP hD hS => ?_)
  refine lv_aload_n hx hb dX13_feed_101 rfl (lv_at hl 2 rfl) ?_
  refine lv_dup hx hb dX13_feed_102 rfl ?_
  refine m_get (C := RX13) (T := TX13) (N := 37) (ci := 10) (v := .int 5) X hP 0 rfl rfl 6 (by decide) qw_141 inlX13 rfl dX13_feed_103 ?_
  refine lv_iconst (v := 1) hx hb dX13_feed_106 (by decide) ?_
  refine lv_iadd hx hb dX13_feed_107 ?_
  refine lv_topi (fun z377 ez377 => ?_)
  obtain rfl : z377 = 6 := ez377.trans (by decide)
  refine m_put (C := RX13) (T := TX13) (N := 37) (ci := 10) (v := .int 6) (ws' := [(a0, .inr (10, [.int 0, .int 0, .int (-1), .null, .null, .ref a1, .int 6, .int 0, .int 0, .int 0, .int 0, .int 0, .int 0, .int 0, .int 0, .long 0, .ref a2, .ref a3, .ref a4, .ref a5, .int 0, .int 0, .int 0, .int 0, .ref a6, .ref a7, .ref a8, .ref a9, .int 0, .ref a10, .ref a11, .ref a12, .ref a13, .ref a14, .ref a15, .ref a16, .int 0])), (a1, .inl (G.2 3, 1000, .inl f376))]) X hP hD hS tyX13 tyX13_ok nmX13 0 rfl rfl 6 (by decide) qw_141 inlX13 rfl (by first | rfl | decide) (by first | rfl | decide) (Nat.le_of_ble_eq_true rfl) rfl dX13_feed_108 (fun H locs hP hD hS => ?_)
  refine lv_iinc (v := 6) (lv' := [(6, .int 6), (7, .int i1), (0, .ref a0), (1, .int i0), (2, .int i1), (3, .int i2), (4, .int i3), (5, .int i4)]) hx hb dX13_feed_111 hl (k := 1) rfl (by decide) (by decide) rfl (fun ls hl => ?_)
  refine lv_goto (tgt := 23) hx hb dX13_feed_114 (by decide) ?_
  refine lv_iload hx hb dX13_feed_23 (lv_at hl 0 rfl) ?_
  refine lv_bipush (v := 20) hx hb dX13_feed_25 (by decide) ?_
  refine lv_icmp_ge (tgt := 117) hx hb dX13_feed_27 (by decide) (fun c9 => absurd c9 (by decide)) (fun _ => ?_)
  refine lv_iload hx hb dX13_feed_30 (lv_at hl 0 rfl) ?_
  refine lv_iconst (v := 4) hx hb dX13_feed_32 (by decide) ?_
  refine lv_icmp_ge (tgt := 40) hx hb dX13_feed_33 (by decide) (fun _ => ?_) (fun c9 => absurd c9 (by decide))
  refine lv_iload hx hb dX13_feed_40 (lv_at hl 0 rfl) ?_
  refine lv_bipush (v := 8) hx hb dX13_feed_42 (by decide) ?_
  refine lv_icmp_ge (tgt := 51) hx hb dX13_feed_44 (by decide) (fun c9 => absurd c9 (by decide)) (fun _ => ?_)
  refine lv_iload_n hx hb dX13_feed_47 rfl (lv_at hl 4 rfl) ?_
  refine lv_goto (tgt := 76) hx hb dX13_feed_48 (by decide) ?_
  refine lv_istore (lv' := [(7, .int i1), (6, .int 6), (0, .ref a0), (1, .int i0), (2, .int i1), (3, .int i2), (4, .int i3), (5, .int i4)]) hx hb dX13_feed_76 hl (by decide) rfl (fun ls hl => ?_)
  refine lv_aload_n hx hb dX13_feed_78 rfl (lv_at hl 2 rfl) ?_
  refine m_get (C := RX13) (T := TX13) (N := 37) (ci := 10) (v := .ref a1) X hP 0 rfl rfl 5 (by decide) qw_111 inlX13 rfl dX13_feed_79 ?_
  refine lv_aload_n hx hb dX13_feed_82 rfl (lv_at hl 2 rfl) ?_
  refine m_get (C := RX13) (T := TX13) (N := 37) (ci := 10) (v := .int 6) X hP 0 rfl rfl 6 (by decide) qw_141 inlX13 rfl dX13_feed_83 ?_
  refine lv_iload hx hb dX13_feed_86 (lv_at hl 0 rfl) ?_
  refine lv_bipush (v := 24) hx hb dX13_feed_88 (by decide) ?_
  refine lv_bipush (v := 8) hx hb dX13_feed_90 (by decide) ?_
  refine lv_iload hx hb dX13_feed_92 (lv_at hl 1 rfl) ?_
  refine lv_iconst (v := 4) hx hb dX13_feed_94 (by decide) ?_
  refine lv_irem hx hb dX13_feed_95 (by decide) ?_
  refine lv_topi (fun z378 ez378 => ?_)
  obtain rfl : z378 = 2 := ez378.trans (by decide)
  refine lv_imul hx hb dX13_feed_96 ?_
  refine lv_topi (fun z379 ez379 => ?_)
  obtain rfl : z379 = 16 := ez379.trans (by decide)
  refine lv_isub hx hb dX13_feed_97 ?_
  refine lv_topi (fun z380 ez380 => ?_)
  obtain rfl : z380 = 8 := ez380.trans (by decide)
  refine lv_ishr hx hb dX13_feed_98 ?_
  refine lv_topi (fun z381 ez381 => ?_)
  refine lv_i2b hx hb dX13_feed_99 rfl ?_
  refine lv_topi (fun z382 ez382 => ?_)
  refine m_bast (ws' := fun f383 => [(a0, .inr (10, [.int 0, .int 0, .int (-1), .null, .null, .ref a1, .int 6, .int 0, .int 0, .int 0, .int 0, .int 0, .int 0, .int 0, .int 0, .long 0, .ref a2, .ref a3, .ref a4, .ref a5, .int 0, .int 0, .int 0, .int 0, .ref a6, .ref a7, .ref a8, .ref a9, .int 0, .ref a10, .ref a11, .ref a12, .ref a13, .ref a14, .ref a15, .ref a16, .int 0])), (a1, .inl (G.2 3, 1000, .inl f383))]) X hP hD hS 1 rfl (vin (by decide)) (fun _ => rfl) dX13_feed_100 (fun f383 H locs hP hD hS => ?_)
  refine lv_aload_n hx hb dX13_feed_101 rfl (lv_at hl 2 rfl) ?_
  refine lv_dup hx hb dX13_feed_102 rfl ?_
  refine m_get (C := RX13) (T := TX13) (N := 37) (ci := 10) (v := .int 6) X hP 0 rfl rfl 6 (by decide) qw_141 inlX13 rfl dX13_feed_103 ?_
  refine lv_iconst (v := 1) hx hb dX13_feed_106 (by decide) ?_
  refine lv_iadd hx hb dX13_feed_107 ?_
  refine lv_topi (fun z384 ez384 => ?_)
  obtain rfl : z384 = 7 := ez384.trans (by decide)
  refine m_put (C := RX13) (T := TX13) (N := 37) (ci := 10) (v := .int 7) (ws' := [(a0, .inr (10, [.int 0, .int 0, .int (-1), .null, .null, .ref a1, .int 7, .int 0, .int 0, .int 0, .int 0, .int 0, .int 0, .int 0, .int 0, .long 0, .ref a2, .ref a3, .ref a4, .ref a5, .int 0, .int 0, .int 0, .int 0, .ref a6, .ref a7, .ref a8, .ref a9, .int 0, .ref a10, .ref a11, .ref a12, .ref a13, .ref a14, .ref a15, .ref a16, .int 0])), (a1, .inl (G.2 3, 1000, .inl f383))]) X hP hD hS tyX13 tyX13_ok nmX13 0 rfl rfl 6 (by decide) qw_141 inlX13 rfl (by first | rfl | decide) (by first | rfl | decide) (Nat.le_of_ble_eq_true rfl) rfl dX13_feed_108 (fun H locs hP hD hS => ?_)
  refine lv_iinc (v := 7) (lv' := [(6, .int 7), (7, .int i1), (0, .ref a0), (1, .int i0), (2, .int i1), (3, .int i2), (4, .int i3), (5, .int i4)]) hx hb dX13_feed_111 hl (k := 1) rfl (by decide) (by decide) rfl (fun ls hl => ?_)
  refine lv_goto (tgt := 23) hx hb dX13_feed_114 (by decide) ?_
  refine lv_iload hx hb dX13_feed_23 (lv_at hl 0 rfl) ?_
  refine lv_bipush (v := 20) hx hb dX13_feed_25 (by decide) ?_
  refine lv_icmp_ge (tgt := 117) hx hb dX13_feed_27 (by decide) (fun c9 => absurd c9 (by decide)) (fun _ => ?_)
  refine lv_iload hx hb dX13_feed_30 (lv_at hl 0 rfl) ?_
  refine lv_iconst (v := 4) hx hb dX13_feed_32 (by decide) ?_
  refine lv_icmp_ge (tgt := 40) hx hb dX13_feed_33 (by decide) (fun _ => ?_) (fun c9 => absurd c9 (by decide))
  refine lv_iload hx hb dX13_feed_40 (lv_at hl 0 rfl) ?_
  refine lv_bipush (v := 8) hx hb dX13_feed_42 (by decide) ?_
  refine lv_icmp_ge (tgt := 51) hx hb dX13_feed_44 (by decide) (fun c9 => absurd c9 (by decide)) (fun _ => ?_)
  refine lv_iload_n hx hb dX13_feed_47 rfl (lv_at hl 4 rfl) ?_
  refine lv_goto (tgt := 76) hx hb dX13_feed_48 (by decide) ?_
  refine lv_istore (lv' := [(7, .int i1), (6, .int 7), (0, .ref a0), (1, .int i0), (2, .int i1), (3, .int i2), (4, .int i3), (5, .int i4)]) hx hb dX13_feed_76 hl (by decide) rfl (fun ls hl => ?_)
  refine lv_aload_n hx hb dX13_feed_78 rfl (lv_at hl 2 rfl) ?_
  refine m_get (C := RX13) (T := TX13) (N := 37) (ci := 10) (v := .ref a1) X hP 0 rfl rfl 5 (by decide) qw_111 inlX13 rfl dX13_feed_79 ?_
  refine lv_aload_n hx hb dX13_feed_82 rfl (lv_at hl 2 rfl) ?_
  refine m_get (C := RX13) (T := TX13) (N := 37) (ci := 10) (v := .int 7) X hP 0 rfl rfl 6 (by decide) qw_141 inlX13 rfl dX13_feed_83 ?_
  refine lv_iload hx hb dX13_feed_86 (lv_at hl 0 rfl) ?_
  refine lv_bipush (v := 24) hx hb dX13_feed_88 (by decide) ?_
  refine lv_bipush (v := 8) hx hb dX13_feed_90 (by decide) ?_
  refine lv_iload hx hb dX13_feed_92 (lv_at hl 1 rfl) ?_
  refine lv_iconst (v := 4) hx hb dX13_feed_94 (by decide) ?_
  refine lv_irem hx hb dX13_feed_95 (by decide) ?_
  refine lv_topi (fun z385 ez385 => ?_)
  obtain rfl : z385 = 3 := ez385.trans (by decide)
  refine lv_imul hx hb dX13_feed_96 ?_
  refine lv_topi (fun z386 ez386 => ?_)
  obtain rfl : z386 = 24 := ez386.trans (by decide)
  refine lv_isub hx hb dX13_feed_97 ?_
  refine lv_topi (fun z387 ez387 => ?_)
  obtain rfl : z387 = 0 := ez387.trans (by decide)
  refine lv_ishr hx hb dX13_feed_98 ?_
  refine lv_topi (fun z388 ez388 => ?_)
  refine lv_i2b hx hb dX13_feed_99 rfl ?_
  refine lv_topi (fun z389 ez389 => ?_)
  refine m_bast (ws' := fun f390 => [(a0, .inr (10, [.int 0, .int 0, .int (-1), .null, .null, .ref a1, .int 7, .int 0, .int 0, .int 0, .int 0, .int 0, .int 0, .int 0, .int 0, .long 0, .ref a2, .ref a3, .ref a4, .ref a5, .int 0, .int 0, .int 0, .int 0, .ref a6, .ref a7, .ref a8, .ref a9, .int 0, .ref a10, .ref a11, .ref a12, .ref a13, .ref a14, .ref a15, .ref a16, .int 0])), (a1, .inl (G.2 3, 1000, .inl f390))]) X hP hD hS 1 rfl (vin (by decide)) (fun _ => rfl) dX13_feed_100 (fun f390 H locs hP hD hS => ?_)
  refine lv_aload_n hx hb dX13_feed_101 rfl (lv_at hl 2 rfl) ?_
  refine lv_dup hx hb dX13_feed_102 rfl ?_
  refine m_get (C := RX13) (T := TX13) (N := 37) (ci := 10) (v := .int 7) X hP 0 rfl rfl 6 (by decide) qw_141 inlX13 rfl dX13_feed_103 ?_
  refine lv_iconst (v := 1) hx hb dX13_feed_106 (by decide) ?_
  refine lv_iadd hx hb dX13_feed_107 ?_
  refine lv_topi (fun z391 ez391 => ?_)
  obtain rfl : z391 = 8 := ez391.trans (by decide)
  refine m_put (C := RX13) (T := TX13) (N := 37) (ci := 10) (v := .int 8) (ws' := [(a0, .inr (10, [.int 0, .int 0, .int (-1), .null, .null, .ref a1, .int 8, .int 0, .int 0, .int 0, .int 0, .int 0, .int 0, .int 0, .int 0, .long 0, .ref a2, .ref a3, .ref a4, .ref a5, .int 0, .int 0, .int 0, .int 0, .ref a6, .ref a7, .ref a8, .ref a9, .int 0, .ref a10, .ref a11, .ref a12, .ref a13, .ref a14, .ref a15, .ref a16, .int 0])), (a1, .inl (G.2 3, 1000, .inl f390))]) X hP hD hS tyX13 tyX13_ok nmX13 0 rfl rfl 6 (by decide) qw_141 inlX13 rfl (by first | rfl | decide) (by first | rfl | decide) (Nat.le_of_ble_eq_true rfl) rfl dX13_feed_108 (fun H locs hP hD hS => ?_)
  refine lv_iinc (v := 8) (lv' := [(6, .int 8), (7, .int i1), (0, .ref a0), (1, .int i0), (2, .int i1), (3, .int i2), (4, .int i3), (5, .int i4)]) hx hb dX13_feed_111 hl (k := 1) rfl (by decide) (by decide) rfl (fun ls hl => ?_)
  refine lv_goto (tgt := 23) hx hb dX13_feed_114 (by decide) ?_
  refine lv_iload hx hb dX13_feed_23 (lv_at hl 0 rfl) ?_
  refine lv_bipush (v := 20) hx hb dX13_feed_25 (by decide) ?_
  refine lv_icmp_ge (tgt := 117) hx hb dX13_feed_27 (by decide) (fun c9 => absurd c9 (by decide)) (fun _ => ?_)
  refine lv_iload hx hb dX13_feed_30 (lv_at hl 0 rfl) ?_
  refine lv_iconst (v := 4) hx hb dX13_feed_32 (by decide) ?_
  refine lv_icmp_ge (tgt := 40) hx hb dX13_feed_33 (by decide) (fun _ => ?_) (fun c9 => absurd c9 (by decide))
  refine lv_iload hx hb dX13_feed_40 (lv_at hl 0 rfl) ?_
  refine lv_bipush (v := 8) hx hb dX13_feed_42 (by decide) ?_
  refine lv_icmp_ge (tgt := 51) hx hb dX13_feed_44 (by decide) (fun _ => ?_) (fun c9 => absurd c9 (by decide))
  refine lv_iload hx hb dX13_feed_51 (lv_at hl 0 rfl) ?_
  refine lv_bipush (v := 12) hx hb dX13_feed_53 (by decide) ?_
  refine lv_icmp_ge (tgt := 62) hx hb dX13_feed_55 (by decide) (fun c9 => absurd c9 (by decide)) (fun _ => ?_)
  refine lv_iload_n hx hb dX13_feed_58 rfl (lv_at hl 5 rfl) ?_
  refine lv_goto (tgt := 76) hx hb dX13_feed_59 (by decide) ?_
  refine lv_istore (lv' := [(7, .int i2), (6, .int 8), (0, .ref a0), (1, .int i0), (2, .int i1), (3, .int i2), (4, .int i3), (5, .int i4)]) hx hb dX13_feed_76 hl (by decide) rfl (fun ls hl => ?_)
  refine lv_aload_n hx hb dX13_feed_78 rfl (lv_at hl 2 rfl) ?_
  refine m_get (C := RX13) (T := TX13) (N := 37) (ci := 10) (v := .ref a1) X hP 0 rfl rfl 5 (by decide) qw_111 inlX13 rfl dX13_feed_79 ?_
  refine lv_aload_n hx hb dX13_feed_82 rfl (lv_at hl 2 rfl) ?_
  refine m_get (C := RX13) (T := TX13) (N := 37) (ci := 10) (v := .int 8) X hP 0 rfl rfl 6 (by decide) qw_141 inlX13 rfl dX13_feed_83 ?_
  refine lv_iload hx hb dX13_feed_86 (lv_at hl 0 rfl) ?_
  refine lv_bipush (v := 24) hx hb dX13_feed_88 (by decide) ?_
  refine lv_bipush (v := 8) hx hb dX13_feed_90 (by decide) ?_
  refine lv_iload hx hb dX13_feed_92 (lv_at hl 1 rfl) ?_
  refine lv_iconst (v := 4) hx hb dX13_feed_94 (by decide) ?_
  refine lv_irem hx hb dX13_feed_95 (by decide) ?_
  refine lv_topi (fun z392 ez392 => ?_)
  obtain rfl : z392 = 0 := ez392.trans (by decide)
  refine lv_imul hx hb dX13_feed_96 ?_
  refine lv_topi (fun z393 ez393 => ?_)
  obtain rfl : z393 = 0 := ez393.trans (by decide)
  refine lv_isub hx hb dX13_feed_97 ?_
  refine lv_topi (fun z394 ez394 => ?_)
  obtain rfl : z394 = 24 := ez394.trans (by decide)
  refine lv_ishr hx hb dX13_feed_98 ?_
  refine lv_topi (fun z395 ez395 => ?_)
  refine lv_i2b hx hb dX13_feed_99 rfl ?_
  refine lv_topi (fun z396 ez396 => ?_)
  refine m_bast (ws' := fun f397 => [(a0, .inr (10, [.int 0, .int 0, .int (-1), .null, .null, .ref a1, .int 8, .int 0, .int 0, .int 0, .int 0, .int 0, .int 0, .int 0, .int 0, .long 0, .ref a2, .ref a3, .ref a4, .ref a5, .int 0, .int 0, .int 0, .int 0, .ref a6, .ref a7, .ref a8, .ref a9, .int 0, .ref a10, .ref a11, .ref a12, .ref a13, .ref a14, .ref a15, .ref a16, .int 0])), (a1, .inl (G.2 3, 1000, .inl f397))]) X hP hD hS 1 rfl (vin (by decide)) (fun _ => rfl) dX13_feed_100 (fun f397 H locs hP hD hS => ?_)
  refine lv_aload_n hx hb dX13_feed_101 rfl (lv_at hl 2 rfl) ?_
  refine lv_dup hx hb dX13_feed_102 rfl ?_
  refine m_get (C := RX13) (T := TX13) (N := 37) (ci := 10) (v := .int 8) X hP 0 rfl rfl 6 (by decide) qw_141 inlX13 rfl dX13_feed_103 ?_
  refine lv_iconst (v := 1) hx hb dX13_feed_106 (by decide) ?_
  refine lv_iadd hx hb dX13_feed_107 ?_
  refine lv_topi (fun z398 ez398 => ?_)
  obtain rfl : z398 = 9 := ez398.trans (by decide)
  refine m_put (C := RX13) (T := TX13) (N := 37) (ci := 10) (v := .int 9) (ws' := [(a0, .inr (10, [.int 0, .int 0, .int (-1), .null, .null, .ref a1, .int 9, .int 0, .int 0, .int 0, .int 0, .int 0, .int 0, .int 0, .int 0, .long 0, .ref a2, .ref a3, .ref a4, .ref a5, .int 0, .int 0, .int 0, .int 0, .ref a6, .ref a7, .ref a8, .ref a9, .int 0, .ref a10, .ref a11, .ref a12, .ref a13, .ref a14, .ref a15, .ref a16, .int 0])), (a1, .inl (G.2 3, 1000, .inl f397))]) X hP hD hS tyX13 tyX13_ok nmX13 0 rfl rfl 6 (by decide) qw_141 inlX13 rfl (by first | rfl | decide) (by first | rfl | decide) (Nat.le_of_ble_eq_true rfl) rfl dX13_feed_108 (fun H locs hP hD hS => ?_)
  refine lv_iinc (v := 9) (lv' := [(6, .int 9), (7, .int i2), (0, .ref a0), (1, .int i0), (2, .int i1), (3, .int i2), (4, .int i3), (5, .int i4)]) hx hb dX13_feed_111 hl (k := 1) rfl (by decide) (by decide) rfl (fun ls hl => ?_)
  refine lv_goto (tgt := 23) hx hb dX13_feed_114 (by decide) ?_
  refine lv_iload hx hb dX13_feed_23 (lv_at hl 0 rfl) ?_
  refine lv_bipush (v := 20) hx hb dX13_feed_25 (by decide) ?_
  refine lv_icmp_ge (tgt := 117) hx hb dX13_feed_27 (by decide) (fun c9 => absurd c9 (by decide)) (fun _ => ?_)
  refine lv_iload hx hb dX13_feed_30 (lv_at hl 0 rfl) ?_
  refine lv_iconst (v := 4) hx hb dX13_feed_32 (by decide) ?_
  refine lv_icmp_ge (tgt := 40) hx hb dX13_feed_33 (by decide) (fun _ => ?_) (fun c9 => absurd c9 (by decide))
  refine lv_iload hx hb dX13_feed_40 (lv_at hl 0 rfl) ?_
  refine lv_bipush (v := 8) hx hb dX13_feed_42 (by decide) ?_
  refine lv_icmp_ge (tgt := 51) hx hb dX13_feed_44 (by decide) (fun _ => ?_) (fun c9 => absurd c9 (by decide))
  refine lv_iload hx hb dX13_feed_51 (lv_at hl 0 rfl) ?_
  refine lv_bipush (v := 12) hx hb dX13_feed_53 (by decide) ?_
  refine lv_icmp_ge (tgt := 62) hx hb dX13_feed_55 (by decide) (fun c9 => absurd c9 (by decide)) (fun _ => ?_)
  refine lv_iload_n hx hb dX13_feed_58 rfl (lv_at hl 5 rfl) ?_
  refine lv_goto (tgt := 76) hx hb dX13_feed_59 (by decide) ?_
  refine lv_istore (lv' := [(7, .int i2), (6, .int 9), (0, .ref a0), (1, .int i0), (2, .int i1), (3, .int i2), (4, .int i3), (5, .int i4)]) hx hb dX13_feed_76 hl (by decide) rfl (fun ls hl => ?_)
  refine lv_aload_n hx hb dX13_feed_78 rfl (lv_at hl 2 rfl) ?_
  refine m_get (C := RX13) (T := TX13) (N := 37) (ci := 10) (v := .ref a1) X hP 0 rfl rfl 5 (by decide) qw_111 inlX13 rfl dX13_feed_79 ?_
  refine lv_aload_n hx hb dX13_feed_82 rfl (lv_at hl 2 rfl) ?_
  refine m_get (C := RX13) (T := TX13) (N := 37) (ci := 10) (v := .int 9) X hP 0 rfl rfl 6 (by decide) qw_141 inlX13 rfl dX13_feed_83 ?_
  refine lv_iload hx hb dX13_feed_86 (lv_at hl 0 rfl) ?_
  refine lv_bipush (v := 24) hx hb dX13_feed_88 (by decide) ?_
  refine lv_bipush (v := 8) hx hb dX13_feed_90 (by decide) ?_
  refine lv_iload hx hb dX13_feed_92 (lv_at hl 1 rfl) ?_
  refine lv_iconst (v := 4) hx hb dX13_feed_94 (by decide) ?_
  refine lv_irem hx hb dX13_feed_95 (by decide) ?_
  refine lv_topi (fun z399 ez399 => ?_)
  obtain rfl : z399 = 1 := ez399.trans (by decide)
  refine lv_imul hx hb dX13_feed_96 ?_
  refine lv_topi (fun z400 ez400 => ?_)
  obtain rfl : z400 = 8 := ez400.trans (by decide)
  refine lv_isub hx hb dX13_feed_97 ?_
  refine lv_topi (fun z401 ez401 => ?_)
  obtain rfl : z401 = 16 := ez401.trans (by decide)
  refine lv_ishr hx hb dX13_feed_98 ?_
  refine lv_topi (fun z402 ez402 => ?_)
  refine lv_i2b hx hb dX13_feed_99 rfl ?_
  refine lv_topi (fun z403 ez403 => ?_)
  refine m_bast (ws' := fun f404 => [(a0, .inr (10, [.int 0, .int 0, .int (-1), .null, .null, .ref a1, .int 9, .int 0, .int 0, .int 0, .int 0, .int 0, .int 0, .int 0, .int 0, .long 0, .ref a2, .ref a3, .ref a4, .ref a5, .int 0, .int 0, .int 0, .int 0, .ref a6, .ref a7, .ref a8, .ref a9, .int 0, .ref a10, .ref a11, .ref a12, .ref a13, .ref a14, .ref a15, .ref a16, .int 0])), (a1, .inl (G.2 3, 1000, .inl f404))]) X hP hD hS 1 rfl (vin (by decide)) (fun _ => rfl) dX13_feed_100 (fun f404 H locs hP hD hS => ?_)
  refine lv_aload_n hx hb dX13_feed_101 rfl (lv_at hl 2 rfl) ?_
  refine lv_dup hx hb dX13_feed_102 rfl ?_
  refine m_get (C := RX13) (T := TX13) (N := 37) (ci := 10) (v := .int 9) X hP 0 rfl rfl 6 (by decide) qw_141 inlX13 rfl dX13_feed_103 ?_
  refine lv_iconst (v := 1) hx hb dX13_feed_106 (by decide) ?_
  refine lv_iadd hx hb dX13_feed_107 ?_
  refine lv_topi (fun z405 ez405 => ?_)
  obtain rfl : z405 = 10 := ez405.trans (by decide)
  refine m_put (C := RX13) (T := TX13) (N := 37) (ci := 10) (v := .int 10) (ws' := [(a0, .inr (10, [.int 0, .int 0, .int (-1), .null, .null, .ref a1, .int 10, .int 0, .int 0, .int 0, .int 0, .int 0, .int 0, .int 0, .int 0, .long 0, .ref a2, .ref a3, .ref a4, .ref a5, .int 0, .int 0, .int 0, .int 0, .ref a6, .ref a7, .ref a8, .ref a9, .int 0, .ref a10, .ref a11, .ref a12, .ref a13, .ref a14, .ref a15, .ref a16, .int 0])), (a1, .inl (G.2 3, 1000, .inl f404))]) X hP hD hS tyX13 tyX13_ok nmX13 0 rfl rfl 6 (by decide) qw_141 inlX13 rfl (by first | rfl | decide) (by first | rfl | decide) (Nat.le_of_ble_eq_true rfl) rfl dX13_feed_108 (fun H locs hP hD hS => ?_)
  refine lv_iinc (v := 10) (lv' := [(6, .int 10), (7, .int i2), (0, .ref a0), (1, .int i0), (2, .int i1), (3, .int i2), (4, .int i3), (5, .int i4)]) hx hb dX13_feed_111 hl (k := 1) rfl (by decide) (by decide) rfl (fun ls hl => ?_)
  refine lv_goto (tgt := 23) hx hb dX13_feed_114 (by decide) ?_
  refine lv_iload hx hb dX13_feed_23 (lv_at hl 0 rfl) ?_
  refine lv_bipush (v := 20) hx hb dX13_feed_25 (by decide) ?_
  refine lv_icmp_ge (tgt := 117) hx hb dX13_feed_27 (by decide) (fun c9 => absurd c9 (by decide)) (fun _ => ?_)
  refine lv_iload hx hb dX13_feed_30 (lv_at hl 0 rfl) ?_
  refine lv_iconst (v := 4) hx hb dX13_feed_32 (by decide) ?_
  refine lv_icmp_ge (tgt := 40) hx hb dX13_feed_33 (by decide) (fun _ => ?_) (fun c9 => absurd c9 (by decide))
  refine lv_iload hx hb dX13_feed_40 (lv_at hl 0 rfl) ?_
  refine lv_bipush (v := 8) hx hb dX13_feed_42 (by decide) ?_
  refine lv_icmp_ge (tgt := 51) hx hb dX13_feed_44 (by decide) (fun _ => ?_) (fun c9 => absurd c9 (by decide))
  refine lv_iload hx hb dX13_feed_51 (lv_at hl 0 rfl) ?_
  refine lv_bipush (v := 12) hx hb dX13_feed_53 (by decide) ?_
  refine lv_icmp_ge (tgt := 62) hx hb dX13_feed_55 (by decide) (fun c9 => absurd c9 (by decide)) (fun _ => ?_)
  refine lv_iload_n hx hb dX13_feed_58 rfl (lv_at hl 5 rfl) ?_
  refine lv_goto (tgt := 76) hx hb dX13_feed_59 (by decide) ?_
  refine lv_istore (lv' := [(7, .int i2), (6, .int 10), (0, .ref a0), (1, .int i0), (2, .int i1), (3, .int i2), (4, .int i3), (5, .int i4)]) hx hb dX13_feed_76 hl (by decide) rfl (fun ls hl => ?_)
  refine lv_aload_n hx hb dX13_feed_78 rfl (lv_at hl 2 rfl) ?_
  refine m_get (C := RX13) (T := TX13) (N := 37) (ci := 10) (v := .ref a1) X hP 0 rfl rfl 5 (by decide) qw_111 inlX13 rfl dX13_feed_79 ?_
  refine lv_aload_n hx hb dX13_feed_82 rfl (lv_at hl 2 rfl) ?_
  refine m_get (C := RX13) (T := TX13) (N := 37) (ci := 10) (v := .int 10) X hP 0 rfl rfl 6 (by decide) qw_141 inlX13 rfl dX13_feed_83 ?_
  refine lv_iload hx hb dX13_feed_86 (lv_at hl 0 rfl) ?_
  refine lv_bipush (v := 24) hx hb dX13_feed_88 (by decide) ?_
  refine lv_bipush (v := 8) hx hb dX13_feed_90 (by decide) ?_
  refine lv_iload hx hb dX13_feed_92 (lv_at hl 1 rfl) ?_
  refine lv_iconst (v := 4) hx hb dX13_feed_94 (by decide) ?_
  refine lv_irem hx hb dX13_feed_95 (by decide) ?_
  refine lv_topi (fun z406 ez406 => ?_)
  obtain rfl : z406 = 2 := ez406.trans (by decide)
  refine lv_imul hx hb dX13_feed_96 ?_
  refine lv_topi (fun z407 ez407 => ?_)
  obtain rfl : z407 = 16 := ez407.trans (by decide)
  refine lv_isub hx hb dX13_feed_97 ?_
  refine lv_topi (fun z408 ez408 => ?_)
  obtain rfl : z408 = 8 := ez408.trans (by decide)
  refine lv_ishr hx hb dX13_feed_98 ?_
  refine lv_topi (fun z409 ez409 => ?_)
  refine lv_i2b hx hb dX13_feed_99 rfl ?_
  refine lv_topi (fun z410 ez410 => ?_)
  refine m_bast (ws' := fun f411 => [(a0, .inr (10, [.int 0, .int 0, .int (-1), .null, .null, .ref a1, .int 10, .int 0, .int 0, .int 0, .int 0, .int 0, .int 0, .int 0, .int 0, .long 0, .ref a2, .ref a3, .ref a4, .ref a5, .int 0, .int 0, .int 0, .int 0, .ref a6, .ref a7, .ref a8, .ref a9, .int 0, .ref a10, .ref a11, .ref a12, .ref a13, .ref a14, .ref a15, .ref a16, .int 0])), (a1, .inl (G.2 3, 1000, .inl f411))]) X hP hD hS 1 rfl (vin (by decide)) (fun _ => rfl) dX13_feed_100 (fun f411 H locs hP hD hS => ?_)
  refine lv_aload_n hx hb dX13_feed_101 rfl (lv_at hl 2 rfl) ?_
  refine lv_dup hx hb dX13_feed_102 rfl ?_
  refine m_get (C := RX13) (T := TX13) (N := 37) (ci := 10) (v := .int 10) X hP 0 rfl rfl 6 (by decide) qw_141 inlX13 rfl dX13_feed_103 ?_
  refine lv_iconst (v := 1) hx hb dX13_feed_106 (by decide) ?_
  refine lv_iadd hx hb dX13_feed_107 ?_
  refine lv_topi (fun z412 ez412 => ?_)
  obtain rfl : z412 = 11 := ez412.trans (by decide)
  refine m_put (C := RX13) (T := TX13) (N := 37) (ci := 10) (v := .int 11) (ws' := [(a0, .inr (10, [.int 0, .int 0, .int (-1), .null, .null, .ref a1, .int 11, .int 0, .int 0, .int 0, .int 0, .int 0, .int 0, .int 0, .int 0, .long 0, .ref a2, .ref a3, .ref a4, .ref a5, .int 0, .int 0, .int 0, .int 0, .ref a6, .ref a7, .ref a8, .ref a9, .int 0, .ref a10, .ref a11, .ref a12, .ref a13, .ref a14, .ref a15, .ref a16, .int 0])), (a1, .inl (G.2 3, 1000, .inl f411))]) X hP hD hS tyX13 tyX13_ok nmX13 0 rfl rfl 6 (by decide) qw_141 inlX13 rfl (by first | rfl | decide) (by first | rfl | decide) (Nat.le_of_ble_eq_true rfl) rfl dX13_feed_108 (fun H locs hP hD hS => ?_)
  refine lv_iinc (v := 11) (lv' := [(6, .int 11), (7, .int i2), (0, .ref a0), (1, .int i0), (2, .int i1), (3, .int i2), (4, .int i3), (5, .int i4)]) hx hb dX13_feed_111 hl (k := 1) rfl (by decide) (by decide) rfl (fun ls hl => ?_)
  refine lv_goto (tgt := 23) hx hb dX13_feed_114 (by decide) ?_
  refine lv_iload hx hb dX13_feed_23 (lv_at hl 0 rfl) ?_
  refine lv_bipush (v := 20) hx hb dX13_feed_25 (by decide) ?_
  refine lv_icmp_ge (tgt := 117) hx hb dX13_feed_27 (by decide) (fun c9 => absurd c9 (by decide)) (fun _ => ?_)
  refine lv_iload hx hb dX13_feed_30 (lv_at hl 0 rfl) ?_
  refine lv_iconst (v := 4) hx hb dX13_feed_32 (by decide) ?_
  refine lv_icmp_ge (tgt := 40) hx hb dX13_feed_33 (by decide) (fun _ => ?_) (fun c9 => absurd c9 (by decide))
  refine lv_iload hx hb dX13_feed_40 (lv_at hl 0 rfl) ?_
  refine lv_bipush (v := 8) hx hb dX13_feed_42 (by decide) ?_
  refine lv_icmp_ge (tgt := 51) hx hb dX13_feed_44 (by decide) (fun _ => ?_) (fun c9 => absurd c9 (by decide))
  refine lv_iload hx hb dX13_feed_51 (lv_at hl 0 rfl) ?_
  refine lv_bipush (v := 12) hx hb dX13_feed_53 (by decide) ?_
  refine lv_icmp_ge (tgt := 62) hx hb dX13_feed_55 (by decide) (fun c9 => absurd c9 (by decide)) (fun _ => ?_)
  refine lv_iload_n hx hb dX13_feed_58 rfl (lv_at hl 5 rfl) ?_
  refine lv_goto (tgt := 76) hx hb dX13_feed_59 (by decide) ?_
  refine lv_istore (lv' := [(7, .int i2), (6, .int 11), (0, .ref a0), (1, .int i0), (2, .int i1), (3, .int i2), (4, .int i3), (5, .int i4)]) hx hb dX13_feed_76 hl (by decide) rfl (fun ls hl => ?_)
  refine lv_aload_n hx hb dX13_feed_78 rfl (lv_at hl 2 rfl) ?_
  refine m_get (C := RX13) (T := TX13) (N := 37) (ci := 10) (v := .ref a1) X hP 0 rfl rfl 5 (by decide) qw_111 inlX13 rfl dX13_feed_79 ?_
  refine lv_aload_n hx hb dX13_feed_82 rfl (lv_at hl 2 rfl) ?_
  refine m_get (C := RX13) (T := TX13) (N := 37) (ci := 10) (v := .int 11) X hP 0 rfl rfl 6 (by decide) qw_141 inlX13 rfl dX13_feed_83 ?_
  refine lv_iload hx hb dX13_feed_86 (lv_at hl 0 rfl) ?_
  refine lv_bipush (v := 24) hx hb dX13_feed_88 (by decide) ?_
  refine lv_bipush (v := 8) hx hb dX13_feed_90 (by decide) ?_
  refine lv_iload hx hb dX13_feed_92 (lv_at hl 1 rfl) ?_
  refine lv_iconst (v := 4) hx hb dX13_feed_94 (by decide) ?_
  refine lv_irem hx hb dX13_feed_95 (by decide) ?_
  refine lv_topi (fun z413 ez413 => ?_)
  obtain rfl : z413 = 3 := ez413.trans (by decide)
  refine lv_imul hx hb dX13_feed_96 ?_
  refine lv_topi (fun z414 ez414 => ?_)
  obtain rfl : z414 = 24 := ez414.trans (by decide)
  refine lv_isub hx hb dX13_feed_97 ?_
  refine lv_topi (fun z415 ez415 => ?_)
  obtain rfl : z415 = 0 := ez415.trans (by decide)
  refine lv_ishr hx hb dX13_feed_98 ?_
  refine lv_topi (fun z416 ez416 => ?_)
  refine lv_i2b hx hb dX13_feed_99 rfl ?_
  refine lv_topi (fun z417 ez417 => ?_)
  refine m_bast (ws' := fun f418 => [(a0, .inr (10, [.int 0, .int 0, .int (-1), .null, .null, .ref a1, .int 11, .int 0, .int 0, .int 0, .int 0, .int 0, .int 0, .int 0, .int 0, .long 0, .ref a2, .ref a3, .ref a4, .ref a5, .int 0, .int 0, .int 0, .int 0, .ref a6, .ref a7, .ref a8, .ref a9, .int 0, .ref a10, .ref a11, .ref a12, .ref a13, .ref a14, .ref a15, .ref a16, .int 0])), (a1, .inl (G.2 3, 1000, .inl f418))]) X hP hD hS 1 rfl (vin (by decide)) (fun _ => rfl) dX13_feed_100 (fun f418 H locs hP hD hS => ?_)
  refine lv_aload_n hx hb dX13_feed_101 rfl (lv_at hl 2 rfl) ?_
  refine lv_dup hx hb dX13_feed_102 rfl ?_
  refine m_get (C := RX13) (T := TX13) (N := 37) (ci := 10) (v := .int 11) X hP 0 rfl rfl 6 (by decide) qw_141 inlX13 rfl dX13_feed_103 ?_
  refine lv_iconst (v := 1) hx hb dX13_feed_106 (by decide) ?_
  refine lv_iadd hx hb dX13_feed_107 ?_
  refine lv_topi (fun z419 ez419 => ?_)
  obtain rfl : z419 = 12 := ez419.trans (by decide)
  refine m_put (C := RX13) (T := TX13) (N := 37) (ci := 10) (v := .int 12) (ws' := [(a0, .inr (10, [.int 0, .int 0, .int (-1), .null, .null, .ref a1, .int 12, .int 0, .int 0, .int 0, .int 0, .int 0, .int 0, .int 0, .int 0, .long 0, .ref a2, .ref a3, .ref a4, .ref a5, .int 0, .int 0, .int 0, .int 0, .ref a6, .ref a7, .ref a8, .ref a9, .int 0, .ref a10, .ref a11, .ref a12, .ref a13, .ref a14, .ref a15, .ref a16, .int 0])), (a1, .inl (G.2 3, 1000, .inl f418))]) X hP hD hS tyX13 tyX13_ok nmX13 0 rfl rfl 6 (by decide) qw_141 inlX13 rfl (by first | rfl | decide) (by first | rfl | decide) (Nat.le_of_ble_eq_true rfl) rfl dX13_feed_108 (fun H locs hP hD hS => ?_)
  refine lv_iinc (v := 12) (lv' := [(6, .int 12), (7, .int i2), (0, .ref a0), (1, .int i0), (2, .int i1), (3, .int i2), (4, .int i3), (5, .int i4)]) hx hb dX13_feed_111 hl (k := 1) rfl (by decide) (by decide) rfl (fun ls hl => ?_)
  refine lv_goto (tgt := 23) hx hb dX13_feed_114 (by decide) ?_
  refine lv_iload hx hb dX13_feed_23 (lv_at hl 0 rfl) ?_
  refine lv_bipush (v := 20) hx hb dX13_feed_25 (by decide) ?_
  refine lv_icmp_ge (tgt := 117) hx hb dX13_feed_27 (by decide) (fun c9 => absurd c9 (by decide)) (fun _ => ?_)
  refine lv_iload hx hb dX13_feed_30 (lv_at hl 0 rfl) ?_
  refine lv_iconst (v := 4) hx hb dX13_feed_32 (by decide) ?_
  refine lv_icmp_ge (tgt := 40) hx hb dX13_feed_33 (by decide) (fun _ => ?_) (fun c9 => absurd c9 (by decide))
  refine lv_iload hx hb dX13_feed_40 (lv_at hl 0 rfl) ?_
  refine lv_bipush (v := 8) hx hb dX13_feed_42 (by decide) ?_
  refine lv_icmp_ge (tgt := 51) hx hb dX13_feed_44 (by decide) (fun _ => ?_) (fun c9 => absurd c9 (by decide))
  refine lv_iload hx hb dX13_feed_51 (lv_at hl 0 rfl) ?_
  refine lv_bipush (v := 12) hx hb dX13_feed_53 (by decide) ?_
  refine lv_icmp_ge (tgt := 62) hx hb dX13_feed_55 (by decide) (fun _ => ?_) (fun c9 => absurd c9 (by decide))
  refine lv_iload hx hb dX13_feed_62 (lv_at hl 0 rfl) ?_
  refine lv_bipush (v := 16) hx hb dX13_feed_64 (by decide) ?_
  refine lv_icmp_ge (tgt := 74) hx hb dX13_feed_66 (by decide) (fun c9 => absurd c9 (by decide)) (fun _ => ?_)
  refine lv_iload hx hb dX13_feed_69 (lv_at hl 6 rfl) ?_
  refine lv_goto (tgt := 76) hx hb dX13_feed_71 (by decide) ?_
  refine lv_istore (lv' := [(7, .int i3), (6, .int 12), (0, .ref a0), (1, .int i0), (2, .int i1), (3, .int i2), (4, .int i3), (5, .int i4)]) hx hb dX13_feed_76 hl (by decide) rfl (fun ls hl => ?_)
  refine lv_aload_n hx hb dX13_feed_78 rfl (lv_at hl 2 rfl) ?_
  refine m_get (C := RX13) (T := TX13) (N := 37) (ci := 10) (v := .ref a1) X hP 0 rfl rfl 5 (by decide) qw_111 inlX13 rfl dX13_feed_79 ?_
  refine lv_aload_n hx hb dX13_feed_82 rfl (lv_at hl 2 rfl) ?_
  refine m_get (C := RX13) (T := TX13) (N := 37) (ci := 10) (v := .int 12) X hP 0 rfl rfl 6 (by decide) qw_141 inlX13 rfl dX13_feed_83 ?_
  refine lv_iload hx hb dX13_feed_86 (lv_at hl 0 rfl) ?_
  refine lv_bipush (v := 24) hx hb dX13_feed_88 (by decide) ?_
  refine lv_bipush (v := 8) hx hb dX13_feed_90 (by decide) ?_
  refine lv_iload hx hb dX13_feed_92 (lv_at hl 1 rfl) ?_
  refine lv_iconst (v := 4) hx hb dX13_feed_94 (by decide) ?_
  refine lv_irem hx hb dX13_feed_95 (by decide) ?_
  refine lv_topi (fun z420 ez420 => ?_)
  obtain rfl : z420 = 0 := ez420.trans (by decide)
  refine lv_imul hx hb dX13_feed_96 ?_
  refine lv_topi (fun z421 ez421 => ?_)
  obtain rfl : z421 = 0 := ez421.trans (by decide)
  refine lv_isub hx hb dX13_feed_97 ?_
  refine lv_topi (fun z422 ez422 => ?_)
  obtain rfl : z422 = 24 := ez422.trans (by decide)
  refine lv_ishr hx hb dX13_feed_98 ?_
  refine lv_topi (fun z423 ez423 => ?_)
  refine lv_i2b hx hb dX13_feed_99 rfl ?_
  refine lv_topi (fun z424 ez424 => ?_)
  refine m_bast (ws' := fun f425 => [(a0, .inr (10, [.int 0, .int 0, .int (-1), .null, .null, .ref a1, .int 12, .int 0, .int 0, .int 0, .int 0, .int 0, .int 0, .int 0, .int 0, .long 0, .ref a2, .ref a3, .ref a4, .ref a5, .int 0, .int 0, .int 0, .int 0, .ref a6, .ref a7, .ref a8, .ref a9, .int 0, .ref a10, .ref a11, .ref a12, .ref a13, .ref a14, .ref a15, .ref a16, .int 0])), (a1, .inl (G.2 3, 1000, .inl f425))]) X hP hD hS 1 rfl (vin (by decide)) (fun _ => rfl) dX13_feed_100 (fun f425 H locs hP hD hS => ?_)
  refine lv_aload_n hx hb dX13_feed_101 rfl (lv_at hl 2 rfl) ?_
  refine lv_dup hx hb dX13_feed_102 rfl ?_
  refine m_get (C := RX13) (T := TX13) (N := 37) (ci := 10) (v := .int 12) X hP 0 rfl rfl 6 (by decide) qw_141 inlX13 rfl dX13_feed_103 ?_
  refine lv_iconst (v := 1) hx hb dX13_feed_106 (by decide) ?_
  refine lv_iadd hx hb dX13_feed_107 ?_
  refine lv_topi (fun z426 ez426 => ?_)
  obtain rfl : z426 = 13 := ez426.trans (by decide)
  refine m_put (C := RX13) (T := TX13) (N := 37) (ci := 10) (v := .int 13) (ws' := [(a0, .inr (10, [.int 0, .int 0, .int (-1), .null, .null, .ref a1, .int 13, .int 0, .int 0, .int 0, .int 0, .int 0, .int 0, .int 0, .int 0, .long 0, .ref a2, .ref a3, .ref a4, .ref a5, .int 0, .int 0, .int 0, .int 0, .ref a6, .ref a7, .ref a8, .ref a9, .int 0, .ref a10, .ref a11, .ref a12, .ref a13, .ref a14, .ref a15, .ref a16, .int 0])), (a1, .inl (G.2 3, 1000, .inl f425))]) X hP hD hS tyX13 tyX13_ok nmX13 0 rfl rfl 6 (by decide) qw_141 inlX13 rfl (by first | rfl | decide) (by first | rfl | decide) (Nat.le_of_ble_eq_true rfl) rfl dX13_feed_108 (fun H locs hP hD hS => ?_)
  refine lv_iinc (v := 13) (lv' := [(6, .int 13), (7, .int i3), (0, .ref a0), (1, .int i0), (2, .int i1), (3, .int i2), (4, .int i3), (5, .int i4)]) hx hb dX13_feed_111 hl (k := 1) rfl (by decide) (by decide) rfl (fun ls hl => ?_)
  refine lv_goto (tgt := 23) hx hb dX13_feed_114 (by decide) ?_
  refine lv_iload hx hb dX13_feed_23 (lv_at hl 0 rfl) ?_
  refine lv_bipush (v := 20) hx hb dX13_feed_25 (by decide) ?_
  refine lv_icmp_ge (tgt := 117) hx hb dX13_feed_27 (by decide) (fun c9 => absurd c9 (by decide)) (fun _ => ?_)
  refine lv_iload hx hb dX13_feed_30 (lv_at hl 0 rfl) ?_
  refine lv_iconst (v := 4) hx hb dX13_feed_32 (by decide) ?_
  refine lv_icmp_ge (tgt := 40) hx hb dX13_feed_33 (by decide) (fun _ => ?_) (fun c9 => absurd c9 (by decide))
  refine lv_iload hx hb dX13_feed_40 (lv_at hl 0 rfl) ?_
  refine lv_bipush (v := 8) hx hb dX13_feed_42 (by decide) ?_
  refine lv_icmp_ge (tgt := 51) hx hb dX13_feed_44 (by decide) (fun _ => ?_) (fun c9 => absurd c9 (by decide))
  refine lv_iload hx hb dX13_feed_51 (lv_at hl 0 rfl) ?_
  refine lv_bipush (v := 12) hx hb dX13_feed_53 (by decide) ?_
  refine lv_icmp_ge (tgt := 62) hx hb dX13_feed_55 (by decide) (fun _ => ?_) (fun c9 => absurd c9 (by decide))
  refine lv_iload hx hb dX13_feed_62 (lv_at hl 0 rfl) ?_
  refine lv_bipush (v := 16) hx hb dX13_feed_64 (by decide) ?_
  refine lv_icmp_ge (tgt := 74) hx hb dX13_feed_66 (by decide) (fun c9 => absurd c9 (by decide)) (fun _ => ?_)
  refine lv_iload hx hb dX13_feed_69 (lv_at hl 6 rfl) ?_
  refine lv_goto (tgt := 76) hx hb dX13_feed_71 (by decide) ?_
  refine lv_istore (lv' := [(7, .int i3), (6, .int 13), (0, .ref a0), (1, .int i0), (2, .int i1), (3, .int i2), (4, .int i3), (5, .int i4)]) hx hb dX13_feed_76 hl (by decide) rfl (fun ls hl => ?_)
  refine lv_aload_n hx hb dX13_feed_78 rfl (lv_at hl 2 rfl) ?_
  refine m_get (C := RX13) (T := TX13) (N := 37) (ci := 10) (v := .ref a1) X hP 0 rfl rfl 5 (by decide) qw_111 inlX13 rfl dX13_feed_79 ?_
  refine lv_aload_n hx hb dX13_feed_82 rfl (lv_at hl 2 rfl) ?_
  refine m_get (C := RX13) (T := TX13) (N := 37) (ci := 10) (v := .int 13) X hP 0 rfl rfl 6 (by decide) qw_141 inlX13 rfl dX13_feed_83 ?_
  refine lv_iload hx hb dX13_feed_86 (lv_at hl 0 rfl) ?_
  refine lv_bipush (v := 24) hx hb dX13_feed_88 (by decide) ?_
  refine lv_bipush (v := 8) hx hb dX13_feed_90 (by decide) ?_
  refine lv_iload hx hb dX13_feed_92 (lv_at hl 1 rfl) ?_
  refine lv_iconst (v := 4) hx hb dX13_feed_94 (by decide) ?_
  refine lv_irem hx hb dX13_feed_95 (by decide) ?_
  refine lv_topi (fun z427 ez427 => ?_)
  obtain rfl : z427 = 1 := ez427.trans (by decide)
  refine lv_imul hx hb dX13_feed_96 ?_
  refine lv_topi (fun z428 ez428 => ?_)
  obtain rfl : z428 = 8 := ez428.trans (by decide)
  refine lv_isub hx hb dX13_feed_97 ?_
  refine lv_topi (fun z429 ez429 => ?_)
  obtain rfl : z429 = 16 := ez429.trans (by decide)
  refine lv_ishr hx hb dX13_feed_98 ?_
  refine lv_topi (fun z430 ez430 => ?_)
  refine lv_i2b hx hb dX13_feed_99 rfl ?_
  refine lv_topi (fun z431 ez431 => ?_)
  refine m_bast (ws' := fun f432 => [(a0, .inr (10, [.int 0, .int 0, .int (-1), .null, .null, .ref a1, .int 13, .int 0, .int 0, .int 0, .int 0, .int 0, .int 0, .int 0, .int 0, .long 0, .ref a2, .ref a3, .ref a4, .ref a5, .int 0, .int 0, .int 0, .int 0, .ref a6, .ref a7, .ref a8, .ref a9, .int 0, .ref a10, .ref a11, .ref a12, .ref a13, .ref a14, .ref a15, .ref a16, .int 0])), (a1, .inl (G.2 3, 1000, .inl f432))]) X hP hD hS 1 rfl (vin (by decide)) (fun _ => rfl) dX13_feed_100 (fun f432 H locs hP hD hS => ?_)
  refine lv_aload_n hx hb dX13_feed_101 rfl (lv_at hl 2 rfl) ?_
  refine lv_dup hx hb dX13_feed_102 rfl ?_
  refine m_get (C := RX13) (T := TX13) (N := 37) (ci := 10) (v := .int 13) X hP 0 rfl rfl 6 (by decide) qw_141 inlX13 rfl dX13_feed_103 ?_
  refine lv_iconst (v := 1) hx hb dX13_feed_106 (by decide) ?_
  refine lv_iadd hx hb dX13_feed_107 ?_
  refine lv_topi (fun z433 ez433 => ?_)
  obtain rfl : z433 = 14 := ez433.trans (by decide)
  refine m_put (C := RX13) (T := TX13) (N := 37) (ci := 10) (v := .int 14) (ws' := [(a0, .inr (10, [.int 0, .int 0, .int (-1), .null, .null, .ref a1, .int 14, .int 0, .int 0, .int 0, .int 0, .int 0, .int 0, .int 0, .int 0, .long 0, .ref a2, .ref a3, .ref a4, .ref a5, .int 0, .int 0, .int 0, .int 0, .ref a6, .ref a7, .ref a8, .ref a9, .int 0, .ref a10, .ref a11, .ref a12, .ref a13, .ref a14, .ref a15, .ref a16, .int 0])), (a1, .inl (G.2 3, 1000, .inl f432))]) X hP hD hS tyX13 tyX13_ok nmX13 0 rfl rfl 6 (by decide) qw_141 inlX13 rfl (by first | rfl | decide) (by first | rfl | decide) (Nat.le_of_ble_eq_true rfl) rfl dX13_feed_108 (fun H locs hP hD hS => ?_)
  refine lv_iinc (v := 14) (lv' := [(6, .int 14), (7, .int i3), (0, .ref a0), (1, .int i0), (2, .int i1), (3, .int i2), (4, .int i3), (5, .int i4)]) hx hb dX13_feed_111 hl (k := 1) rfl (by decide) (by decide) rfl (fun ls hl => ?_)
  refine lv_goto (tgt := 23) hx hb dX13_feed_114 (by decide) ?_
  refine lv_iload hx hb dX13_feed_23 (lv_at hl 0 rfl) ?_
  refine lv_bipush (v := 20) hx hb dX13_feed_25 (by decide) ?_
  refine lv_icmp_ge (tgt := 117) hx hb dX13_feed_27 (by decide) (fun c9 => absurd c9 (by decide)) (fun _ => ?_)
  refine lv_iload hx hb dX13_feed_30 (lv_at hl 0 rfl) ?_
  refine lv_iconst (v := 4) hx hb dX13_feed_32 (by decide) ?_
  refine lv_icmp_ge (tgt := 40) hx hb dX13_feed_33 (by decide) (fun _ => ?_) (fun c9 => absurd c9 (by decide))
  refine lv_iload hx hb dX13_feed_40 (lv_at hl 0 rfl) ?_
  refine lv_bipush (v := 8) hx hb dX13_feed_42 (by decide) ?_
  refine lv_icmp_ge (tgt := 51) hx hb dX13_feed_44 (by decide) (fun _ => ?_) (fun c9 => absurd c9 (by decide))
  refine lv_iload hx hb dX13_feed_51 (lv_at hl 0 rfl) ?_
  refine lv_bipush (v := 12) hx hb dX13_feed_53 (by decide) ?_
  refine lv_icmp_ge (tgt := 62) hx hb dX13_feed_55 (by decide) (fun _ => ?_) (fun c9 => absurd c9 (by decide))
  refine lv_iload hx hb dX13_feed_62 (lv_at hl 0 rfl) ?_
  refine lv_bipush (v := 16) hx hb dX13_feed_64 (by decide) ?_
  refine lv_icmp_ge (tgt := 74) hx hb dX13_feed_66 (by decide) (fun c9 => absurd c9 (by decide)) (fun _ => ?_)
  refine lv_iload hx hb dX13_feed_69 (lv_at hl 6 rfl) ?_
  refine lv_goto (tgt := 76) hx hb dX13_feed_71 (by decide) ?_
  refine lv_istore (lv' := [(7, .int i3), (6, .int 14), (0, .ref a0), (1, .int i0), (2, .int i1), (3, .int i2), (4, .int i3), (5, .int i4)]) hx hb dX13_feed_76 hl (by decide) rfl (fun ls hl => ?_)
  refine lv_aload_n hx hb dX13_feed_78 rfl (lv_at hl 2 rfl) ?_
  refine m_get (C := RX13) (T := TX13) (N := 37) (ci := 10) (v := .ref a1) X hP 0 rfl rfl 5 (by decide) qw_111 inlX13 rfl dX13_feed_79 ?_
  refine lv_aload_n hx hb dX13_feed_82 rfl (lv_at hl 2 rfl) ?_
  refine m_get (C := RX13) (T := TX13) (N := 37) (ci := 10) (v := .int 14) X hP 0 rfl rfl 6 (by decide) qw_141 inlX13 rfl dX13_feed_83 ?_
  refine lv_iload hx hb dX13_feed_86 (lv_at hl 0 rfl) ?_
  refine lv_bipush (v := 24) hx hb dX13_feed_88 (by decide) ?_
  refine lv_bipush (v := 8) hx hb dX13_feed_90 (by decide) ?_
  refine lv_iload hx hb dX13_feed_92 (lv_at hl 1 rfl) ?_
  refine lv_iconst (v := 4) hx hb dX13_feed_94 (by decide) ?_
  refine lv_irem hx hb dX13_feed_95 (by decide) ?_
  refine lv_topi (fun z434 ez434 => ?_)
  obtain rfl : z434 = 2 := ez434.trans (by decide)
  refine lv_imul hx hb dX13_feed_96 ?_
  refine lv_topi (fun z435 ez435 => ?_)
  obtain rfl : z435 = 16 := ez435.trans (by decide)
  refine lv_isub hx hb dX13_feed_97 ?_
  refine lv_topi (fun z436 ez436 => ?_)
  obtain rfl : z436 = 8 := ez436.trans (by decide)
  refine lv_ishr hx hb dX13_feed_98 ?_
  refine lv_topi (fun z437 ez437 => ?_)
  refine lv_i2b hx hb dX13_feed_99 rfl ?_
  refine lv_topi (fun z438 ez438 => ?_)
  refine m_bast (ws' := fun f439 => [(a0, .inr (10, [.int 0, .int 0, .int (-1), .null, .null, .ref a1, .int 14, .int 0, .int 0, .int 0, .int 0, .int 0, .int 0, .int 0, .int 0, .long 0, .ref a2, .ref a3, .ref a4, .ref a5, .int 0, .int 0, .int 0, .int 0, .ref a6, .ref a7, .ref a8, .ref a9, .int 0, .ref a10, .ref a11, .ref a12, .ref a13, .ref a14, .ref a15, .ref a16, .int 0])), (a1, .inl (G.2 3, 1000, .inl f439))]) X hP hD hS 1 rfl (vin (by decide)) (fun _ => rfl) dX13_feed_100 (fun f439 H locs hP hD hS => ?_)
  refine lv_aload_n hx hb dX13_feed_101 rfl (lv_at hl 2 rfl) ?_
  refine lv_dup hx hb dX13_feed_102 rfl ?_
  refine m_get (C := RX13) (T := TX13) (N := 37) (ci := 10) (v := .int 14) X hP 0 rfl rfl 6 (by decide) qw_141 inlX13 rfl dX13_feed_103 ?_
  refine lv_iconst (v := 1) hx hb dX13_feed_106 (by decide) ?_
  refine lv_iadd hx hb dX13_feed_107 ?_
  refine lv_topi (fun z440 ez440 => ?_)
  obtain rfl : z440 = 15 := ez440.trans (by decide)
  refine m_put (C := RX13) (T := TX13) (N := 37) (ci := 10) (v := .int 15) (ws' := [(a0, .inr (10, [.int 0, .int 0, .int (-1), .null, .null, .ref a1, .int 15, .int 0, .int 0, .int 0, .int 0, .int 0, .int 0, .int 0, .int 0, .long 0, .ref a2, .ref a3, .ref a4, .ref a5, .int 0, .int 0, .int 0, .int 0, .ref a6, .ref a7, .ref a8, .ref a9, .int 0, .ref a10, .ref a11, .ref a12, .ref a13, .ref a14, .ref a15, .ref a16, .int 0])), (a1, .inl (G.2 3, 1000, .inl f439))]) X hP hD hS tyX13 tyX13_ok nmX13 0 rfl rfl 6 (by decide) qw_141 inlX13 rfl (by first | rfl | decide) (by first | rfl | decide) (Nat.le_of_ble_eq_true rfl) rfl dX13_feed_108 (fun H locs hP hD hS => ?_)
  refine lv_iinc (v := 15) (lv' := [(6, .int 15), (7, .int i3), (0, .ref a0), (1, .int i0), (2, .int i1), (3, .int i2), (4, .int i3), (5, .int i4)]) hx hb dX13_feed_111 hl (k := 1) rfl (by decide) (by decide) rfl (fun ls hl => ?_)
  refine lv_goto (tgt := 23) hx hb dX13_feed_114 (by decide) ?_
  refine lv_iload hx hb dX13_feed_23 (lv_at hl 0 rfl) ?_
  refine lv_bipush (v := 20) hx hb dX13_feed_25 (by decide) ?_
  refine lv_icmp_ge (tgt := 117) hx hb dX13_feed_27 (by decide) (fun c9 => absurd c9 (by decide)) (fun _ => ?_)
  refine lv_iload hx hb dX13_feed_30 (lv_at hl 0 rfl) ?_
  refine lv_iconst (v := 4) hx hb dX13_feed_32 (by decide) ?_
  refine lv_icmp_ge (tgt := 40) hx hb dX13_feed_33 (by decide) (fun _ => ?_) (fun c9 => absurd c9 (by decide))
  refine lv_iload hx hb dX13_feed_40 (lv_at hl 0 rfl) ?_
  refine lv_bipush (v := 8) hx hb dX13_feed_42 (by decide) ?_
  refine lv_icmp_ge (tgt := 51) hx hb dX13_feed_44 (by decide) (fun _ => ?_) (fun c9 => absurd c9 (by decide))
  refine lv_iload hx hb dX13_feed_51 (lv_at hl 0 rfl) ?_
  refine lv_bipush (v := 12) hx hb dX13_feed_53 (by decide) ?_
  refine lv_icmp_ge (tgt := 62) hx hb dX13_feed_55 (by decide) (fun _ => ?_) (fun c9 => absurd c9 (by decide))
  refine lv_iload hx hb dX13_feed_62 (lv_at hl 0 rfl) ?_
  refine lv_bipush (v := 16) hx hb dX13_feed_64 (by decide) ?_
  refine lv_icmp_ge (tgt := 74) hx hb dX13_feed_66 (by decide) (fun c9 => absurd c9 (by decide)) (fun _ => ?_)
  refine lv_iload hx hb dX13_feed_69 (lv_at hl 6 rfl) ?_
  refine lv_goto (tgt := 76) hx hb dX13_feed_71 (by decide) ?_
  refine lv_istore (lv' := [(7, .int i3), (6, .int 15), (0, .ref a0), (1, .int i0), (2, .int i1), (3, .int i2), (4, .int i3), (5, .int i4)]) hx hb dX13_feed_76 hl (by decide) rfl (fun ls hl => ?_)
  refine lv_aload_n hx hb dX13_feed_78 rfl (lv_at hl 2 rfl) ?_
  refine m_get (C := RX13) (T := TX13) (N := 37) (ci := 10) (v := .ref a1) X hP 0 rfl rfl 5 (by decide) qw_111 inlX13 rfl dX13_feed_79 ?_
  refine lv_aload_n hx hb dX13_feed_82 rfl (lv_at hl 2 rfl) ?_
  refine m_get (C := RX13) (T := TX13) (N := 37) (ci := 10) (v := .int 15) X hP 0 rfl rfl 6 (by decide) qw_141 inlX13 rfl dX13_feed_83 ?_
  refine lv_iload hx hb dX13_feed_86 (lv_at hl 0 rfl) ?_
  refine lv_bipush (v := 24) hx hb dX13_feed_88 (by decide) ?_
  refine lv_bipush (v := 8) hx hb dX13_feed_90 (by decide) ?_
  refine lv_iload hx hb dX13_feed_92 (lv_at hl 1 rfl) ?_
  refine lv_iconst (v := 4) hx hb dX13_feed_94 (by decide) ?_
  refine lv_irem hx hb dX13_feed_95 (by decide) ?_
  refine lv_topi (fun z441 ez441 => ?_)
  obtain rfl : z441 = 3 := ez441.trans (by decide)
  refine lv_imul hx hb dX13_feed_96 ?_
  refine lv_topi (fun z442 ez442 => ?_)
  obtain rfl : z442 = 24 := ez442.trans (by decide)
  refine lv_isub hx hb dX13_feed_97 ?_
  refine lv_topi (fun z443 ez443 => ?_)
  obtain rfl : z443 = 0 := ez443.trans (by decide)
  refine lv_ishr hx hb dX13_feed_98 ?_
  refine lv_topi (fun z444 ez444 => ?_)
  refine lv_i2b hx hb dX13_feed_99 rfl ?_
  refine lv_topi (fun z445 ez445 => ?_)
  refine m_bast (ws' := fun f446 => [(a0, .inr (10, [.int 0, .int 0, .int (-1), .null, .null, .ref a1, .int 15, .int 0, .int 0, .int 0, .int 0, .int 0, .int 0, .int 0, .int 0, .long 0, .ref a2, .ref a3, .ref a4, .ref a5, .int 0, .int 0, .int 0, .int 0, .ref a6, .ref a7, .ref a8, .ref a9, .int 0, .ref a10, .ref a11, .ref a12, .ref a13, .ref a14, .ref a15, .ref a16, .int 0])), (a1, .inl (G.2 3, 1000, .inl f446))]) X hP hD hS 1 rfl (vin (by decide)) (fun _ => rfl) dX13_feed_100 (fun f446 H locs hP hD hS => ?_)
  refine lv_aload_n hx hb dX13_feed_101 rfl (lv_at hl 2 rfl) ?_
  refine lv_dup hx hb dX13_feed_102 rfl ?_
  refine m_get (C := RX13) (T := TX13) (N := 37) (ci := 10) (v := .int 15) X hP 0 rfl rfl 6 (by decide) qw_141 inlX13 rfl dX13_feed_103 ?_
  refine lv_iconst (v := 1) hx hb dX13_feed_106 (by decide) ?_
  refine lv_iadd hx hb dX13_feed_107 ?_
  refine lv_topi (fun z447 ez447 => ?_)
  obtain rfl : z447 = 16 := ez447.trans (by decide)
  refine m_put (C := RX13) (T := TX13) (N := 37) (ci := 10) (v := .int 16) (ws' := [(a0, .inr (10, [.int 0, .int 0, .int (-1), .null, .null, .ref a1, .int 16, .int 0, .int 0, .int 0, .int 0, .int 0, .int 0, .int 0, .int 0, .long 0, .ref a2, .ref a3, .ref a4, .ref a5, .int 0, .int 0, .int 0, .int 0, .ref a6, .ref a7, .ref a8, .ref a9, .int 0, .ref a10, .ref a11, .ref a12, .ref a13, .ref a14, .ref a15, .ref a16, .int 0])), (a1, .inl (G.2 3, 1000, .inl f446))]) X hP hD hS tyX13 tyX13_ok nmX13 0 rfl rfl 6 (by decide) qw_141 inlX13 rfl (by first | rfl | decide) (by first | rfl | decide) (Nat.le_of_ble_eq_true rfl) rfl dX13_feed_108 (fun H locs hP hD hS => ?_)
  refine lv_iinc (v := 16) (lv' := [(6, .int 16), (7, .int i3), (0, .ref a0), (1, .int i0), (2, .int i1), (3, .int i2), (4, .int i3), (5, .int i4)]) hx hb dX13_feed_111 hl (k := 1) rfl (by decide) (by decide) rfl (fun ls hl => ?_)
  refine lv_goto (tgt := 23) hx hb dX13_feed_114 (by decide) ?_
  refine lv_iload hx hb dX13_feed_23 (lv_at hl 0 rfl) ?_
  refine lv_bipush (v := 20) hx hb dX13_feed_25 (by decide) ?_
  refine lv_icmp_ge (tgt := 117) hx hb dX13_feed_27 (by decide) (fun c9 => absurd c9 (by decide)) (fun _ => ?_)
  refine lv_iload hx hb dX13_feed_30 (lv_at hl 0 rfl) ?_
  refine lv_iconst (v := 4) hx hb dX13_feed_32 (by decide) ?_
  refine lv_icmp_ge (tgt := 40) hx hb dX13_feed_33 (by decide) (fun _ => ?_) (fun c9 => absurd c9 (by decide))
  refine lv_iload hx hb dX13_feed_40 (lv_at hl 0 rfl) ?_
  refine lv_bipush (v := 8) hx hb dX13_feed_42 (by decide) ?_
  refine lv_icmp_ge (tgt := 51) hx hb dX13_feed_44 (by decide) (fun _ => ?_) (fun c9 => absurd c9 (by decide))
  refine lv_iload hx hb dX13_feed_51 (lv_at hl 0 rfl) ?_
  refine lv_bipush (v := 12) hx hb dX13_feed_53 (by decide) ?_
  refine lv_icmp_ge (tgt := 62) hx hb dX13_feed_55 (by decide) (fun _ => ?_) (fun c9 => absurd c9 (by decide))
  refine lv_iload hx hb dX13_feed_62 (lv_at hl 0 rfl) ?_
  refine lv_bipush (v := 16) hx hb dX13_feed_64 (by decide) ?_
  refine lv_icmp_ge (tgt := 74) hx hb dX13_feed_66 (by decide) (fun _ => ?_) (fun c9 => absurd c9 (by decide))
  refine lv_iload hx hb dX13_feed_74 (lv_at hl 7 rfl) ?_
  refine lv_istore (lv' := [(7, .int i4), (6, .int 16), (0, .ref a0), (1, .int i0), (2, .int i1), (3, .int i2), (4, .int i3), (5, .int i4)]) hx hb dX13_feed_76 hl (by decide) rfl (fun ls hl => ?_)
  refine lv_aload_n hx hb dX13_feed_78 rfl (lv_at hl 2 rfl) ?_
  refine m_get (C := RX13) (T := TX13) (N := 37) (ci := 10) (v := .ref a1) X hP 0 rfl rfl 5 (by decide) qw_111 inlX13 rfl dX13_feed_79 ?_
  refine lv_aload_n hx hb dX13_feed_82 rfl (lv_at hl 2 rfl) ?_
  refine m_get (C := RX13) (T := TX13) (N := 37) (ci := 10) (v := .int 16) X hP 0 rfl rfl 6 (by decide) qw_141 inlX13 rfl dX13_feed_83 ?_
  refine lv_iload hx hb dX13_feed_86 (lv_at hl 0 rfl) ?_
  refine lv_bipush (v := 24) hx hb dX13_feed_88 (by decide) ?_
  refine lv_bipush (v := 8) hx hb dX13_feed_90 (by decide) ?_
  refine lv_iload hx hb dX13_feed_92 (lv_at hl 1 rfl) ?_
  refine lv_iconst (v := 4) hx hb dX13_feed_94 (by decide) ?_
  refine lv_irem hx hb dX13_feed_95 (by decide) ?_
  refine lv_topi (fun z448 ez448 => ?_)
  obtain rfl : z448 = 0 := ez448.trans (by decide)
  refine lv_imul hx hb dX13_feed_96 ?_
  refine lv_topi (fun z449 ez449 => ?_)
  obtain rfl : z449 = 0 := ez449.trans (by decide)
  refine lv_isub hx hb dX13_feed_97 ?_
  refine lv_topi (fun z450 ez450 => ?_)
  obtain rfl : z450 = 24 := ez450.trans (by decide)
  refine lv_ishr hx hb dX13_feed_98 ?_
  refine lv_topi (fun z451 ez451 => ?_)
  refine lv_i2b hx hb dX13_feed_99 rfl ?_
  refine lv_topi (fun z452 ez452 => ?_)
  refine m_bast (ws' := fun f453 => [(a0, .inr (10, [.int 0, .int 0, .int (-1), .null, .null, .ref a1, .int 16, .int 0, .int 0, .int 0, .int 0, .int 0, .int 0, .int 0, .int 0, .long 0, .ref a2, .ref a3, .ref a4, .ref a5, .int 0, .int 0, .int 0, .int 0, .ref a6, .ref a7, .ref a8, .ref a9, .int 0, .ref a10, .ref a11, .ref a12, .ref a13, .ref a14, .ref a15, .ref a16, .int 0])), (a1, .inl (G.2 3, 1000, .inl f453))]) X hP hD hS 1 rfl (vin (by decide)) (fun _ => rfl) dX13_feed_100 (fun f453 H locs hP hD hS => ?_)
  refine lv_aload_n hx hb dX13_feed_101 rfl (lv_at hl 2 rfl) ?_
  refine lv_dup hx hb dX13_feed_102 rfl ?_
  refine m_get (C := RX13) (T := TX13) (N := 37) (ci := 10) (v := .int 16) X hP 0 rfl rfl 6 (by decide) qw_141 inlX13 rfl dX13_feed_103 ?_
  refine lv_iconst (v := 1) hx hb dX13_feed_106 (by decide) ?_
  refine lv_iadd hx hb dX13_feed_107 ?_
  refine lv_topi (fun z454 ez454 => ?_)
  obtain rfl : z454 = 17 := ez454.trans (by decide)
  refine m_put (C := RX13) (T := TX13) (N := 37) (ci := 10) (v := .int 17) (ws' := [(a0, .inr (10, [.int 0, .int 0, .int (-1), .null, .null, .ref a1, .int 17, .int 0, .int 0, .int 0, .int 0, .int 0, .int 0, .int 0, .int 0, .long 0, .ref a2, .ref a3, .ref a4, .ref a5, .int 0, .int 0, .int 0, .int 0, .ref a6, .ref a7, .ref a8, .ref a9, .int 0, .ref a10, .ref a11, .ref a12, .ref a13, .ref a14, .ref a15, .ref a16, .int 0])), (a1, .inl (G.2 3, 1000, .inl f453))]) X hP hD hS tyX13 tyX13_ok nmX13 0 rfl rfl 6 (by decide) qw_141 inlX13 rfl (by first | rfl | decide) (by first | rfl | decide) (Nat.le_of_ble_eq_true rfl) rfl dX13_feed_108 (fun H locs hP hD hS => ?_)
  refine lv_iinc (v := 17) (lv' := [(6, .int 17), (7, .int i4), (0, .ref a0), (1, .int i0), (2, .int i1), (3, .int i2), (4, .int i3), (5, .int i4)]) hx hb dX13_feed_111 hl (k := 1) rfl (by decide) (by decide) rfl (fun ls hl => ?_)
  refine lv_goto (tgt := 23) hx hb dX13_feed_114 (by decide) ?_
  refine lv_iload hx hb dX13_feed_23 (lv_at hl 0 rfl) ?_
  refine lv_bipush (v := 20) hx hb dX13_feed_25 (by decide) ?_
  refine lv_icmp_ge (tgt := 117) hx hb dX13_feed_27 (by decide) (fun c9 => absurd c9 (by decide)) (fun _ => ?_)
  refine lv_iload hx hb dX13_feed_30 (lv_at hl 0 rfl) ?_
  refine lv_iconst (v := 4) hx hb dX13_feed_32 (by decide) ?_
  refine lv_icmp_ge (tgt := 40) hx hb dX13_feed_33 (by decide) (fun _ => ?_) (fun c9 => absurd c9 (by decide))
  refine lv_iload hx hb dX13_feed_40 (lv_at hl 0 rfl) ?_
  refine lv_bipush (v := 8) hx hb dX13_feed_42 (by decide) ?_
  refine lv_icmp_ge (tgt := 51) hx hb dX13_feed_44 (by decide) (fun _ => ?_) (fun c9 => absurd c9 (by decide))
  refine lv_iload hx hb dX13_feed_51 (lv_at hl 0 rfl) ?_
  refine lv_bipush (v := 12) hx hb dX13_feed_53 (by decide) ?_
  refine lv_icmp_ge (tgt := 62) hx hb dX13_feed_55 (by decide) (fun _ => ?_) (fun c9 => absurd c9 (by decide))
  refine lv_iload hx hb dX13_feed_62 (lv_at hl 0 rfl) ?_
  refine lv_bipush (v := 16) hx hb dX13_feed_64 (by decide) ?_
  refine lv_icmp_ge (tgt := 74) hx hb dX13_feed_66 (by decide) (fun _ => ?_) (fun c9 => absurd c9 (by decide))
  refine lv_iload hx hb dX13_feed_74 (lv_at hl 7 rfl) ?_
  refine lv_istore (lv' := [(7, .int i4), (6, .int 17), (0, .ref a0), (1, .int i0), (2, .int i1), (3, .int i2), (4, .int i3), (5, .int i4)]) hx hb dX13_feed_76 hl (by decide) rfl (fun ls hl => ?_)
  refine lv_aload_n hx hb dX13_feed_78 rfl (lv_at hl 2 rfl) ?_
  refine m_get (C := RX13) (T := TX13) (N := 37) (ci := 10) (v := .ref a1) X hP 0 rfl rfl 5 (by decide) qw_111 inlX13 rfl dX13_feed_79 ?_
  refine lv_aload_n hx hb dX13_feed_82 rfl (lv_at hl 2 rfl) ?_
  refine m_get (C := RX13) (T := TX13) (N := 37) (ci := 10) (v := .int 17) X hP 0 rfl rfl 6 (by decide) qw_141 inlX13 rfl dX13_feed_83 ?_
  refine lv_iload hx hb dX13_feed_86 (lv_at hl 0 rfl) ?_
  refine lv_bipush (v := 24) hx hb dX13_feed_88 (by decide) ?_
  refine lv_bipush (v := 8) hx hb dX13_feed_90 (by decide) ?_
  refine lv_iload hx hb dX13_feed_92 (lv_at hl 1 rfl) ?_
  refine lv_iconst (v := 4) hx hb dX13_feed_94 (by decide) ?_
  refine lv_irem hx hb dX13_feed_95 (by decide) ?_
  refine lv_topi (fun z455 ez455 => ?_)
  obtain rfl : z455 = 1 := ez455.trans (by decide)
  refine lv_imul hx hb dX13_feed_96 ?_
  refine lv_topi (fun z456 ez456 => ?_)
  obtain rfl : z456 = 8 := ez456.trans (by decide)
  refine lv_isub hx hb dX13_feed_97 ?_
  refine lv_topi (fun z457 ez457 => ?_)
  obtain rfl : z457 = 16 := ez457.trans (by decide)
  refine lv_ishr hx hb dX13_feed_98 ?_
  refine lv_topi (fun z458 ez458 => ?_)
  refine lv_i2b hx hb dX13_feed_99 rfl ?_
  refine lv_topi (fun z459 ez459 => ?_)
  refine m_bast (ws' := fun f460 => [(a0, .inr (10, [.int 0, .int 0, .int (-1), .null, .null, .ref a1, .int 17, .int 0, .int 0, .int 0, .int 0, .int 0, .int 0, .int 0, .int 0, .long 0, .ref a2, .ref a3, .ref a4, .ref a5, .int 0, .int 0, .int 0, .int 0, .ref a6, .ref a7, .ref a8, .ref a9, .int 0, .ref a10, .ref a11, .ref a12, .ref a13, .ref a14, .ref a15, .ref a16, .int 0])), (a1, .inl (G.2 3, 1000, .inl f460))]) X hP hD hS 1 rfl (vin (by decide)) (fun _ => rfl) dX13_feed_100 (fun f460 H locs hP hD hS => ?_)
  refine lv_aload_n hx hb dX13_feed_101 rfl (lv_at hl 2 rfl) ?_
  refine lv_dup hx hb dX13_feed_102 rfl ?_
  refine m_get (C := RX13) (T := TX13) (N := 37) (ci := 10) (v := .int 17) X hP 0 rfl rfl 6 (by decide) qw_141 inlX13 rfl dX13_feed_103 ?_
  refine lv_iconst (v := 1) hx hb dX13_feed_106 (by decide) ?_
  refine lv_iadd hx hb dX13_feed_107 ?_
  refine lv_topi (fun z461 ez461 => ?_)
  obtain rfl : z461 = 18 := ez461.trans (by decide)
  refine m_put (C := RX13) (T := TX13) (N := 37) (ci := 10) (v := .int 18) (ws' := [(a0, .inr (10, [.int 0, .int 0, .int (-1), .null, .null, .ref a1, .int 18, .int 0, .int 0, .int 0, .int 0, .int 0, .int 0, .int 0, .int 0, .long 0, .ref a2, .ref a3, .ref a4, .ref a5, .int 0, .int 0, .int 0, .int 0, .ref a6, .ref a7, .ref a8, .ref a9, .int 0, .ref a10, .ref a11, .ref a12, .ref a13, .ref a14, .ref a15, .ref a16, .int 0])), (a1, .inl (G.2 3, 1000, .inl f460))]) X hP hD hS tyX13 tyX13_ok nmX13 0 rfl rfl 6 (by decide) qw_141 inlX13 rfl (by first | rfl | decide) (by first | rfl | decide) (Nat.le_of_ble_eq_true rfl) rfl dX13_feed_108 (fun H locs hP hD hS => ?_)
  refine lv_iinc (v := 18) (lv' := [(6, .int 18), (7, .int i4), (0, .ref a0), (1, .int i0), (2, .int i1), (3, .int i2), (4, .int i3), (5, .int i4)]) hx hb dX13_feed_111 hl (k := 1) rfl (by decide) (by decide) rfl (fun ls hl => ?_)
  refine lv_goto (tgt := 23) hx hb dX13_feed_114 (by decide) ?_
  refine lv_iload hx hb dX13_feed_23 (lv_at hl 0 rfl) ?_
  refine lv_bipush (v := 20) hx hb dX13_feed_25 (by decide) ?_
  refine lv_icmp_ge (tgt := 117) hx hb dX13_feed_27 (by decide) (fun c9 => absurd c9 (by decide)) (fun _ => ?_)
  refine lv_iload hx hb dX13_feed_30 (lv_at hl 0 rfl) ?_
  refine lv_iconst (v := 4) hx hb dX13_feed_32 (by decide) ?_
  refine lv_icmp_ge (tgt := 40) hx hb dX13_feed_33 (by decide) (fun _ => ?_) (fun c9 => absurd c9 (by decide))
  refine lv_iload hx hb dX13_feed_40 (lv_at hl 0 rfl) ?_
  refine lv_bipush (v := 8) hx hb dX13_feed_42 (by decide) ?_
  refine lv_icmp_ge (tgt := 51) hx hb dX13_feed_44 (by decide) (fun _ => ?_) (fun c9 => absurd c9 (by decide))
  refine lv_iload hx hb dX13_feed_51 (lv_at hl 0 rfl) ?_
  refine lv_bipush (v := 12) hx hb dX13_feed_53 (by decide) ?_
  refine lv_icmp_ge (tgt := 62) hx hb dX13_feed_55 (by decide) (fun _ => ?_) (fun c9 => absurd c9 (by decide))
  refine lv_iload hx hb dX13_feed_62 (lv_at hl 0 rfl) ?_
  refine lv_bipush (v := 16) hx hb dX13_feed_64 (by decide) ?_
  refine lv_icmp_ge (tgt := 74) hx hb dX13_feed_66 (by decide) (fun _ => ?_) (fun c9 => absurd c9 (by decide))
  refine lv_iload hx hb dX13_feed_74 (lv_at hl 7 rfl) ?_
  refine lv_istore (lv' := [(7, .int i4), (6, .int 18), (0, .ref a0), (1, .int i0), (2, .int i1), (3, .int i2), (4, .int i3), (5, .int i4)]) hx hb dX13_feed_76 hl (by decide) rfl (fun ls hl => ?_)
  refine lv_aload_n hx hb dX13_feed_78 rfl (lv_at hl 2 rfl) ?_
  refine m_get (C := RX13) (T := TX13) (N := 37) (ci := 10) (v := .ref a1) X hP 0 rfl rfl 5 (by decide) qw_111 inlX13 rfl dX13_feed_79 ?_
  refine lv_aload_n hx hb dX13_feed_82 rfl (lv_at hl 2 rfl) ?_
  refine m_get (C := RX13) (T := TX13) (N := 37) (ci := 10) (v := .int 18) X hP 0 rfl rfl 6 (by decide) qw_141 inlX13 rfl dX13_feed_83 ?_
  refine lv_iload hx hb dX13_feed_86 (lv_at hl 0 rfl) ?_
  refine lv_bipush (v := 24) hx hb dX13_feed_88 (by decide) ?_
  refine lv_bipush (v := 8) hx hb dX13_feed_90 (by decide) ?_
  refine lv_iload hx hb dX13_feed_92 (lv_at hl 1 rfl) ?_
  refine lv_iconst (v := 4) hx hb dX13_feed_94 (by decide) ?_
  refine lv_irem hx hb dX13_feed_95 (by decide) ?_
  refine lv_topi (fun z462 ez462 => ?_)
  obtain rfl : z462 = 2 := ez462.trans (by decide)
  refine lv_imul hx hb dX13_feed_96 ?_
  refine lv_topi (fun z463 ez463 => ?_)
  obtain rfl : z463 = 16 := ez463.trans (by decide)
  refine lv_isub hx hb dX13_feed_97 ?_
  refine lv_topi (fun z464 ez464 => ?_)
  obtain rfl : z464 = 8 := ez464.trans (by decide)
  refine lv_ishr hx hb dX13_feed_98 ?_
  refine lv_topi (fun z465 ez465 => ?_)
  refine lv_i2b hx hb dX13_feed_99 rfl ?_
  refine lv_topi (fun z466 ez466 => ?_)
  refine m_bast (ws' := fun f467 => [(a0, .inr (10, [.int 0, .int 0, .int (-1), .null, .null, .ref a1, .int 18, .int 0, .int 0, .int 0, .int 0, .int 0, .int 0, .int 0, .int 0, .long 0, .ref a2, .ref a3, .ref a4, .ref a5, .int 0, .int 0, .int 0, .int 0, .ref a6, .ref a7, .ref a8, .ref a9, .int 0, .ref a10, .ref a11, .ref a12, .ref a13, .ref a14, .ref a15, .ref a16, .int 0])), (a1, .inl (G.2 3, 1000, .inl f467))]) X hP hD hS 1 rfl (vin (by decide)) (fun _ => rfl) dX13_feed_100 (fun f467 H locs hP hD hS => ?_)
  refine lv_aload_n hx hb dX13_feed_101 rfl (lv_at hl 2 rfl) ?_
  refine lv_dup hx hb dX13_feed_102 rfl ?_
  refine m_get (C := RX13) (T := TX13) (N := 37) (ci := 10) (v := .int 18) X hP 0 rfl rfl 6 (by decide) qw_141 inlX13 rfl dX13_feed_103 ?_
  refine lv_iconst (v := 1) hx hb dX13_feed_106 (by decide) ?_
  refine lv_iadd hx hb dX13_feed_107 ?_
  refine lv_topi (fun z468 ez468 => ?_)
  obtain rfl : z468 = 19 := ez468.trans (by decide)
  refine m_put (C := RX13) (T := TX13) (N := 37) (ci := 10) (v := .int 19) (ws' := [(a0, .inr (10, [.int 0, .int 0, .int (-1), .null, .null, .ref a1, .int 19, .int 0, .int 0, .int 0, .int 0, .int 0, .int 0, .int 0, .int 0, .long 0, .ref a2, .ref a3, .ref a4, .ref a5, .int 0, .int 0, .int 0, .int 0, .ref a6, .ref a7, .ref a8, .ref a9, .int 0, .ref a10, .ref a11, .ref a12, .ref a13, .ref a14, .ref a15, .ref a16, .int 0])), (a1, .inl (G.2 3, 1000, .inl f467))]) X hP hD hS tyX13 tyX13_ok nmX13 0 rfl rfl 6 (by decide) qw_141 inlX13 rfl (by first | rfl | decide) (by first | rfl | decide) (Nat.le_of_ble_eq_true rfl) rfl dX13_feed_108 (fun H locs hP hD hS => ?_)
  refine lv_iinc (v := 19) (lv' := [(6, .int 19), (7, .int i4), (0, .ref a0), (1, .int i0), (2, .int i1), (3, .int i2), (4, .int i3), (5, .int i4)]) hx hb dX13_feed_111 hl (k := 1) rfl (by decide) (by decide) rfl (fun ls hl => ?_)
  refine lv_goto (tgt := 23) hx hb dX13_feed_114 (by decide) ?_
  refine lv_iload hx hb dX13_feed_23 (lv_at hl 0 rfl) ?_
  refine lv_bipush (v := 20) hx hb dX13_feed_25 (by decide) ?_
  refine lv_icmp_ge (tgt := 117) hx hb dX13_feed_27 (by decide) (fun c9 => absurd c9 (by decide)) (fun _ => ?_)
  refine lv_iload hx hb dX13_feed_30 (lv_at hl 0 rfl) ?_
  refine lv_iconst (v := 4) hx hb dX13_feed_32 (by decide) ?_
  refine lv_icmp_ge (tgt := 40) hx hb dX13_feed_33 (by decide) (fun _ => ?_) (fun c9 => absurd c9 (by decide))
  refine lv_iload hx hb dX13_feed_40 (lv_at hl 0 rfl) ?_
  refine lv_bipush (v := 8) hx hb dX13_feed_42 (by decide) ?_
  refine lv_icmp_ge (tgt := 51) hx hb dX13_feed_44 (by decide) (fun _ => ?_) (fun c9 => absurd c9 (by decide))
  refine lv_iload hx hb dX13_feed_51 (lv_at hl 0 rfl) ?_
  refine lv_bipush (v := 12) hx hb dX13_feed_53 (by decide) ?_
  refine lv_icmp_ge (tgt := 62) hx hb dX13_feed_55 (by decide) (fun _ => ?_) (fun c9 => absurd c9 (by decide))
  refine lv_iload hx hb dX13_feed_62 (lv_at hl 0 rfl) ?_
  refine lv_bipush (v := 16) hx hb dX13_feed_64 (by decide) ?_
  refine lv_icmp_ge (tgt := 74) hx hb dX13_feed_66 (by decide) (fun _ => ?_) (fun c9 => absurd c9 (by decide))
  refine lv_iload hx hb dX13_feed_74 (lv_at hl 7 rfl) ?_
  refine lv_istore (lv' := [(7, .int i4), (6, .int 19), (0, .ref a0), (1, .int i0), (2, .int i1), (3, .int i2), (4, .int i3), (5, .int i4)]) hx hb dX13_feed_76 hl (by decide) rfl (fun ls hl => ?_)
  refine lv_aload_n hx hb dX13_feed_78 rfl (lv_at hl 2 rfl) ?_
  refine m_get (C := RX13) (T := TX13) (N := 37) (ci := 10) (v := .ref a1) X hP 0 rfl rfl 5 (by decide) qw_111 inlX13 rfl dX13_feed_79 ?_
  refine lv_aload_n hx hb dX13_feed_82 rfl (lv_at hl 2 rfl) ?_
  refine m_get (C := RX13) (T := TX13) (N := 37) (ci := 10) (v := .int 19) X hP 0 rfl rfl 6 (by decide) qw_141 inlX13 rfl dX13_feed_83 ?_
  refine lv_iload hx hb dX13_feed_86 (lv_at hl 0 rfl) ?_
  refine lv_bipush (v := 24) hx hb dX13_feed_88 (by decide) ?_
  refine lv_bipush (v := 8) hx hb dX13_feed_90 (by decide) ?_
  refine lv_iload hx hb dX13_feed_92 (lv_at hl 1 rfl) ?_
  refine lv_iconst (v := 4) hx hb dX13_feed_94 (by decide) ?_
  refine lv_irem hx hb dX13_feed_95 (by decide) ?_
  refine lv_topi (fun z469 ez469 => ?_)
  obtain rfl : z469 = 3 := ez469.trans (by decide)
  refine lv_imul hx hb dX13_feed_96 ?_
  refine lv_topi (fun z470 ez470 => ?_)
  obtain rfl : z470 = 24 := ez470.trans (by decide)
  refine lv_isub hx hb dX13_feed_97 ?_
  refine lv_topi (fun z471 ez471 => ?_)
  obtain rfl : z471 = 0 := ez471.trans (by decide)
  refine lv_ishr hx hb dX13_feed_98 ?_
  refine lv_topi (fun z472 ez472 => ?_)
  refine lv_i2b hx hb dX13_feed_99 rfl ?_
  refine lv_topi (fun z473 ez473 => ?_)
  refine m_bast (ws' := fun f474 => [(a0, .inr (10, [.int 0, .int 0, .int (-1), .null, .null, .ref a1, .int 19, .int 0, .int 0, .int 0, .int 0, .int 0, .int 0, .int 0, .int 0, .long 0, .ref a2, .ref a3, .ref a4, .ref a5, .int 0, .int 0, .int 0, .int 0, .ref a6, .ref a7, .ref a8, .ref a9, .int 0, .ref a10, .ref a11, .ref a12, .ref a13, .ref a14, .ref a15, .ref a16, .int 0])), (a1, .inl (G.2 3, 1000, .inl f474))]) X hP hD hS 1 rfl (vin (by decide)) (fun _ => rfl) dX13_feed_100 (fun f474 H locs hP hD hS => ?_)
  refine lv_aload_n hx hb dX13_feed_101 rfl (lv_at hl 2 rfl) ?_
  refine lv_dup hx hb dX13_feed_102 rfl ?_
  refine m_get (C := RX13) (T := TX13) (N := 37) (ci := 10) (v := .int 19) X hP 0 rfl rfl 6 (by decide) qw_141 inlX13 rfl dX13_feed_103 ?_
  refine lv_iconst (v := 1) hx hb dX13_feed_106 (by decide) ?_
  refine lv_iadd hx hb dX13_feed_107 ?_
  refine lv_topi (fun z475 ez475 => ?_)
  obtain rfl : z475 = 20 := ez475.trans (by decide)
  refine m_put (C := RX13) (T := TX13) (N := 37) (ci := 10) (v := .int 20) (ws' := [(a0, .inr (10, [.int 0, .int 0, .int (-1), .null, .null, .ref a1, .int 20, .int 0, .int 0, .int 0, .int 0, .int 0, .int 0, .int 0, .int 0, .long 0, .ref a2, .ref a3, .ref a4, .ref a5, .int 0, .int 0, .int 0, .int 0, .ref a6, .ref a7, .ref a8, .ref a9, .int 0, .ref a10, .ref a11, .ref a12, .ref a13, .ref a14, .ref a15, .ref a16, .int 0])), (a1, .inl (G.2 3, 1000, .inl f474))]) X hP hD hS tyX13 tyX13_ok nmX13 0 rfl rfl 6 (by decide) qw_141 inlX13 rfl (by first | rfl | decide) (by first | rfl | decide) (Nat.le_of_ble_eq_true rfl) rfl dX13_feed_108 (fun H locs hP hD hS => ?_)
  refine lv_iinc (v := 20) (lv' := [(6, .int 20), (7, .int i4), (0, .ref a0), (1, .int i0), (2, .int i1), (3, .int i2), (4, .int i3), (5, .int i4)]) hx hb dX13_feed_111 hl (k := 1) rfl (by decide) (by decide) rfl (fun ls hl => ?_)
  refine lv_goto (tgt := 23) hx hb dX13_feed_114 (by decide) ?_
  refine lv_iload hx hb dX13_feed_23 (lv_at hl 0 rfl) ?_
  refine lv_bipush (v := 20) hx hb dX13_feed_25 (by decide) ?_
  refine lv_icmp_ge (tgt := 117) hx hb dX13_feed_27 (by decide) (fun _ => ?_) (fun c9 => absurd c9 (by decide))
  refine lv_aload_n hx hb dX13_feed_117 rfl (lv_at hl 2 rfl) ?_
  refine m_get (C := RX13) (T := TX13) (N := 37) (ci := 10) (v := .int 20) X hP 0 rfl rfl 6 (by decide) qw_141 inlX13 rfl dX13_feed_118 ?_
  exact m_iret X hP hD hS ((fun _ => 0), (fun _ _ => 0)) [] (by decide) rfl rfl (Nat.le_of_ble_eq_true rfl) (Nat.le_of_ble_eq_true rfl) dX13_feed_121
set_option maxHeartbeats 4000000 in
set_option maxRecDepth 100000 in
theorem k89_X13_refused (l : Launch) (G : KG) (a0 : Nat) (a1 : Nat) (a2 : Nat) (a3 : Nat) (a4 : Nat) (a5 : Nat) (a6 : Nat) (a7 : Nat) (a8 : Nat) (a9 : Nat) (a10 : Nat) (a11 : Nat) (a12 : Nat) (a13 : Nat) (a14 : Nat) (a15 : Nat) (a16 : Nat) (sz : Nat) : Met l yX13_refused (.code yX13_refused cX13_refused 2 (some .int) :: wsL_law) { frames := 0, cells := 0, slots := 0, locals := 0 } (va_Pc [.ref a0, .int 2] (Pw G [(a0, .inr (10, [.int 0, .int 0, .int (-1), .null, .null, .ref a1, .int 0, .int 0, .int 0, .int 0, .int 0, .int 0, .int 0, .int 0, .int 0, .long 0, .ref a2, .ref a3, .ref a4, .ref a5, .int 0, .int 0, .int 0, .int 0, .ref a6, .ref a7, .ref a8, .ref a9, .int 0, .ref a10, .ref a11, .ref a12, .ref a13, .ref a14, .ref a15, .ref a16, .int 0]))] sz)) (va_Qi (fun r _ => r = (-1)) (fun (u9 : KS) t => Bw G (va_A [(a0, .inr (10, [.int 0, .int 0, .int (-1), .null, .null, .ref a1, .int 0, .int 0, .int 0, .int 0, .int 0, .int 0, .int 0, .int 0, .int 0, .long 0, .ref a2, .ref a3, .ref a4, .ref a5, .int 0, .int 0, .int 0, .int 0, .ref a6, .ref a7, .ref a8, .ref a9, .int 0, .ref a10, .ref a11, .ref a12, .ref a13, .ref a14, .ref a15, .ref a16, .int 0]))] sz) [(a0, .inr (10, [.int 0, .int 2, .int (-1), .null, .null, .ref a1, .int 0, .int 0, .int 0, .int 0, .int 0, .int 0, .int 0, .int 0, .int 0, .long 0, .ref a2, .ref a3, .ref a4, .ref a5, .int 0, .int 0, .int 0, .int 0, .ref a6, .ref a7, .ref a8, .ref a9, .int 0, .ref a10, .ref a11, .ref a12, .ref a13, .ref a14, .ref a15, .ref a16, .int 0]))] t) (va_A [(a0, .inr (10, [.int 0, .int 0, .int (-1), .null, .null, .ref a1, .int 0, .int 0, .int 0, .int 0, .int 0, .int 0, .int 0, .int 0, .int 0, .long 0, .ref a2, .ref a3, .ref a4, .ref a5, .int 0, .int 0, .int 0, .int 0, .ref a6, .ref a7, .ref a8, .ref a9, .int 0, .ref a10, .ref a11, .ref a12, .ref a13, .ref a14, .ref a15, .ref a16, .int 0]))] sz)) 0 0 (va_A [(a0, .inr (10, [.int 0, .int 0, .int (-1), .null, .null, .ref a1, .int 0, .int 0, .int 0, .int 0, .int 0, .int 0, .int 0, .int 0, .int 0, .long 0, .ref a2, .ref a3, .ref a4, .ref a5, .int 0, .int 0, .int 0, .int 0, .ref a6, .ref a7, .ref a8, .ref a9, .int 0, .ref a10, .ref a11, .ref a12, .ref a13, .ref a14, .ref a15, .ref a16, .int 0]))] sz) := by
  refine m_body (y := yX13_refused) (cd := cX13_refused) (mL := 2) (rt := (some .int)) (rm := { frames := 0, cells := 0, slots := 0, locals := 0 }) (av := [.ref a0, .int 2]) (wc := [(a0, .inr (10, [.int 0, .int 0, .int (-1), .null, .null, .ref a1, .int 0, .int 0, .int 0, .int 0, .int 0, .int 0, .int 0, .int 0, .int 0, .long 0, .ref a2, .ref a3, .ref a4, .ref a5, .int 0, .int 0, .int 0, .int 0, .ref a6, .ref a7, .ref a8, .ref a9, .int 0, .ref a10, .ref a11, .ref a12, .ref a13, .ref a14, .ref a15, .ref a16, .int 0]))]) (G := G) (sz := sz) (Qf := fun A => va_Qi (fun r _ => r = (-1)) (fun (u9 : KS) t => Bw G A [(a0, .inr (10, [.int 0, .int 2, .int (-1), .null, .null, .ref a1, .int 0, .int 0, .int 0, .int 0, .int 0, .int 0, .int 0, .int 0, .int 0, .long 0, .ref a2, .ref a3, .ref a4, .ref a5, .int 0, .int 0, .int 0, .int 0, .ref a6, .ref a7, .ref a8, .ref a9, .int 0, .ref a10, .ref a11, .ref a12, .ref a13, .ref a14, .ref a15, .ref a16, .int 0]))] t) A) (by decide) (Nat.le_of_ble_eq_true rfl) ?_
  intro p e s m args below meth c ls A X hi hP hD hS hl
  have hx := X.1.1
  have hb := X.1.2.1
  have hi : meth.name = "refused" := hi
  have hl : lv_has ls 2 [(0, .ref a0), (1, .int 2)] := hl
  refine lv_aload_n hx hb dX13_refused_0 rfl (lv_at hl 0 rfl) ?_
  refine lv_iload_n hx hb dX13_refused_1 rfl (lv_at hl 1 rfl) ?_
  refine m_put (C := RX13) (T := TX13) (N := 37) (ci := 10) (v := .int 2) (ws' := [(a0, .inr (10, [.int 0, .int 2, .int (-1), .null, .null, .ref a1, .int 0, .int 0, .int 0, .int 0, .int 0, .int 0, .int 0, .int 0, .int 0, .long 0, .ref a2, .ref a3, .ref a4, .ref a5, .int 0, .int 0, .int 0, .int 0, .ref a6, .ref a7, .ref a8, .ref a9, .int 0, .ref a10, .ref a11, .ref a12, .ref a13, .ref a14, .ref a15, .ref a16, .int 0]))]) X hP hD hS tyX13 tyX13_ok nmX13 0 rfl rfl 1 (by decide) qw_479 inlX13 rfl (by first | rfl | decide) (by first | rfl | decide) (Nat.le_of_ble_eq_true rfl) rfl dX13_refused_2 (fun H locs hP hD hS => ?_)
  refine lv_aload_n hx hb dX13_refused_5 rfl (lv_at hl 0 rfl) ?_
  refine lv_iconst (v := (-1)) hx hb dX13_refused_6 (by decide) ?_
  refine m_put (C := RX13) (T := TX13) (N := 37) (ci := 10) (v := .int (-1)) (ws' := [(a0, .inr (10, [.int 0, .int 2, .int (-1), .null, .null, .ref a1, .int 0, .int 0, .int 0, .int 0, .int 0, .int 0, .int 0, .int 0, .int 0, .long 0, .ref a2, .ref a3, .ref a4, .ref a5, .int 0, .int 0, .int 0, .int 0, .ref a6, .ref a7, .ref a8, .ref a9, .int 0, .ref a10, .ref a11, .ref a12, .ref a13, .ref a14, .ref a15, .ref a16, .int 0]))]) X hP hD hS tyX13 tyX13_ok nmX13 0 rfl rfl 2 (by decide) qw_109 inlX13 rfl (by first | rfl | decide) (by first | rfl | decide) (Nat.le_of_ble_eq_true rfl) rfl dX13_refused_7 (fun H locs hP hD hS => ?_)
  refine lv_iconst (v := (-1)) hx hb dX13_refused_10 (by decide) ?_
  exact m_iret X hP hD hS ((fun _ => 0), (fun _ _ => 0)) [0] (by decide) rfl rfl (Nat.le_of_ble_eq_true rfl) (Nat.le_of_ble_eq_true rfl) dX13_refused_11
set_option maxHeartbeats 4000000 in
set_option maxRecDepth 100000 in
theorem k90_X12_init (l : Launch) (G : KG) (a0 : Nat) (sz : Nat) : Met l yX12_init (.code yX12_init cX12_init 1 none :: wsL_law) { frames := 1, cells := 16, slots := 504, locals := 12 } (va_Pc [.ref a0] (Pw G [(a0, .inr (9, [.int 0, .int 0, .int 0, .int 0, .int 0, .int 0, .int 0, .int 0, .int 0, .int 0, .int 0, .int 0, .int 0, .int 0, .int 0, .null, .null, .null, .null, .null, .null, .null, .null, .null, .null, .null, .null, .null, .null, .null, .null]))] sz)) (va_Qv (fun _ => True) (fun (u9 : KS) t => Bw G (va_A [(a0, .inr (9, [.int 0, .int 0, .int 0, .int 0, .int 0, .int 0, .int 0, .int 0, .int 0, .int 0, .int 0, .int 0, .int 0, .int 0, .int 0, .null, .null, .null, .null, .null, .null, .null, .null, .null, .null, .null, .null, .null, .null, .null, .null]))] sz) [(a0, .inr (9, [.int 0, .int 0, .int (-1), .int 0, .int 0, .int 0, .int 0, .int 0, .int 0, .int 0, .int 0, .int 0, .int 0, .int 0, .int 0, .ref (u9.1 0), .ref (u9.1 1), .ref (u9.1 2), .ref (u9.1 3), .ref (u9.1 4), .ref (u9.1 5), .ref (u9.1 6), .ref (u9.1 7), .ref (u9.1 8), .ref (u9.1 9), .ref (u9.1 10), .ref (u9.1 11), .ref (u9.1 12), .ref (u9.1 13), .ref (u9.1 14), .ref (u9.1 15)]))] t) (va_A [(a0, .inr (9, [.int 0, .int 0, .int 0, .int 0, .int 0, .int 0, .int 0, .int 0, .int 0, .int 0, .int 0, .int 0, .int 0, .int 0, .int 0, .null, .null, .null, .null, .null, .null, .null, .null, .null, .null, .null, .null, .null, .null, .null, .null]))] sz)) 16 504 (va_A [(a0, .inr (9, [.int 0, .int 0, .int 0, .int 0, .int 0, .int 0, .int 0, .int 0, .int 0, .int 0, .int 0, .int 0, .int 0, .int 0, .int 0, .null, .null, .null, .null, .null, .null, .null, .null, .null, .null, .null, .null, .null, .null, .null, .null]))] sz) := by
  refine m_body (y := yX12_init) (cd := cX12_init) (mL := 1) (rt := none) (rm := { frames := 1, cells := 16, slots := 504, locals := 12 }) (av := [.ref a0]) (wc := [(a0, .inr (9, [.int 0, .int 0, .int 0, .int 0, .int 0, .int 0, .int 0, .int 0, .int 0, .int 0, .int 0, .int 0, .int 0, .int 0, .int 0, .null, .null, .null, .null, .null, .null, .null, .null, .null, .null, .null, .null, .null, .null, .null, .null]))]) (G := G) (sz := sz) (Qf := fun A => va_Qv (fun _ => True) (fun (u9 : KS) t => Bw G A [(a0, .inr (9, [.int 0, .int 0, .int (-1), .int 0, .int 0, .int 0, .int 0, .int 0, .int 0, .int 0, .int 0, .int 0, .int 0, .int 0, .int 0, .ref (u9.1 0), .ref (u9.1 1), .ref (u9.1 2), .ref (u9.1 3), .ref (u9.1 4), .ref (u9.1 5), .ref (u9.1 6), .ref (u9.1 7), .ref (u9.1 8), .ref (u9.1 9), .ref (u9.1 10), .ref (u9.1 11), .ref (u9.1 12), .ref (u9.1 13), .ref (u9.1 14), .ref (u9.1 15)]))] t) A) (by decide) (Nat.le_of_ble_eq_true rfl) ?_
  intro p e s m args below meth c ls A X hi hP hD hS hl
  have hx := X.1.1
  have hb := X.1.2.1
  have hi : meth.name = "<init>" := hi
  have hl : lv_has ls 1 [(0, .ref a0)] := hl
  refine lv_aload_n hx hb dX12_init_0 rfl (lv_at hl 0 rfl) ?_
  refine m_objI X hl qw_490 qw_11 qw_12 dX12_init_1 (Nat.le_of_ble_eq_true rfl) (Nat.le_of_ble_eq_true rfl) ?_
  refine lv_aload_n hx hb dX12_init_4 rfl (lv_at hl 0 rfl) ?_
  refine lv_iconst (v := (-1)) hx hb dX12_init_5 (by decide) ?_
  refine m_put (C := RX12) (T := TX12) (N := 31) (ci := 9) (v := .int (-1)) (ws' := [(a0, .inr (9, [.int 0, .int 0, .int (-1), .int 0, .int 0, .int 0, .int 0, .int 0, .int 0, .int 0, .int 0, .int 0, .int 0, .int 0, .int 0, .null, .null, .null, .null, .null, .null, .null, .null, .null, .null, .null, .null, .null, .null, .null, .null]))]) X hP hD hS tyX12 tyX12_ok nmX12 0 rfl rfl 2 (by decide) qw_491 inlX12 rfl (by first | rfl | decide) (by first | rfl | decide) (Nat.le_of_ble_eq_true rfl) rfl dX12_init_6 (fun H locs hP hD hS => ?_)
  refine lv_aload_n hx hb dX12_init_9 rfl (lv_at hl 0 rfl) ?_
  refine lv_sipush (v := 144) hx hb dX12_init_10 (by decide) ?_
  refine m_newa (atype := .boolean) (a0 := (144, .inl (fun _ => 0))) X hP hD hS 1 rfl qw_49 (fun _ => rfl) (by decide) (by decide) (Nat.le_of_ble_eq_true rfl) (Nat.le_of_ble_eq_true rfl) (Nat.le_of_ble_eq_true rfl) dX12_init_13 (fun q480 H hP hD hS => ?_)
  have hP : va_P G.1 vwCl [(a0, .inr (9, [.int 0, .int 0, .int (-1), .int 0, .int 0, .int 0, .int 0, .int 0, .int 0, .int 0, .int 0, .int 0, .int 0, .int 0, .int 0, .null, .null, .null, .null, .null, .null, .null, .null, .null, .null, .null, .null, .null, .null, .null, .null])), (q480, .inl (G.2 1, 144, .inl (fun _ => 0)))] H := hP
  have hD : va_D A [(a0, .inr (9, [.int 0, .int 0, .int (-1), .int 0, .int 0, .int 0, .int 0, .int 0, .int 0, .int 0, .int 0, .int 0, .int 0, .int 0, .int 0, .null, .null, .null, .null, .null, .null, .null, .null, .null, .null, .null, .null, .null, .null, .null, .null])), (q480, .inl (G.2 1, 144, .inl (fun _ => 0)))] := hD
  refine W.widen (k := 1) (n := 144) (Nat.le_of_ble_eq_true rfl) (Nat.le_of_ble_eq_true rfl) ?_
  refine m_putF (C := RX12) (T := TX12) (N := 31) (ci := 9) (v := .ref q480) (ws' := [(a0, .inr (9, [.int 0, .int 0, .int (-1), .int 0, .int 0, .int 0, .int 0, .int 0, .int 0, .int 0, .int 0, .int 0, .int 0, .int 0, .int 0, .ref q480, .null, .null, .null, .null, .null, .null, .null, .null, .null, .null, .null, .null, .null, .null, .null])), (q480, .inl (G.2 1, 144, .inl (fun _ => 0)))]) X hi hP hD hS tyX12 tyX12_ok nmX12 0 rfl rfl 15 (by decide) qw_492 inlX12 rfl rfl (by first | rfl | decide) (by first | rfl | decide) (Nat.le_of_ble_eq_true rfl) rfl dX12_init_15 (fun H locs hP hD hS => ?_)
  have hP := hP.sub (ws' := [(a0, .inr (9, [.int 0, .int 0, .int (-1), .int 0, .int 0, .int 0, .int 0, .int 0, .int 0, .int 0, .int 0, .int 0, .int 0, .int 0, .int 0, .ref q480, .null, .null, .null, .null, .null, .null, .null, .null, .null, .null, .null, .null, .null, .null, .null]))]) [0] rfl
  have hD := hD.sub (ws' := [(a0, .inr (9, [.int 0, .int 0, .int (-1), .int 0, .int 0, .int 0, .int 0, .int 0, .int 0, .int 0, .int 0, .int 0, .int 0, .int 0, .int 0, .ref q480, .null, .null, .null, .null, .null, .null, .null, .null, .null, .null, .null, .null, .null, .null, .null]))]) [0] (by decide) rfl
  refine lv_aload_n hx hb dX12_init_18 rfl (lv_at hl 0 rfl) ?_
  refine lv_iconst (v := 4) hx hb dX12_init_19 (by decide) ?_
  refine m_newa (atype := .int) (a0 := (4, .inl (fun _ => 0))) X hP hD hS 0 rfl qw_13 (fun _ => rfl) (by decide) (by decide) (Nat.le_of_ble_eq_true rfl) (Nat.le_of_ble_eq_true rfl) (Nat.le_of_ble_eq_true rfl) dX12_init_20 (fun q481 H hP hD hS => ?_)
  have hP : va_P G.1 vwCl [(a0, .inr (9, [.int 0, .int 0, .int (-1), .int 0, .int 0, .int 0, .int 0, .int 0, .int 0, .int 0, .int 0, .int 0, .int 0, .int 0, .int 0, .ref q480, .null, .null, .null, .null, .null, .null, .null, .null, .null, .null, .null, .null, .null, .null, .null])), (q481, .inl (G.2 0, 4, .inl (fun _ => 0)))] H := hP
  have hD : va_D A [(a0, .inr (9, [.int 0, .int 0, .int (-1), .int 0, .int 0, .int 0, .int 0, .int 0, .int 0, .int 0, .int 0, .int 0, .int 0, .int 0, .int 0, .ref q480, .null, .null, .null, .null, .null, .null, .null, .null, .null, .null, .null, .null, .null, .null, .null])), (q481, .inl (G.2 0, 4, .inl (fun _ => 0)))] := hD
  refine W.widen (k := 2) (n := 148) (Nat.le_of_ble_eq_true rfl) (Nat.le_of_ble_eq_true rfl) ?_
  refine m_putF (C := RX12) (T := TX12) (N := 31) (ci := 9) (v := .ref q481) (ws' := [(a0, .inr (9, [.int 0, .int 0, .int (-1), .int 0, .int 0, .int 0, .int 0, .int 0, .int 0, .int 0, .int 0, .int 0, .int 0, .int 0, .int 0, .ref q480, .ref q481, .null, .null, .null, .null, .null, .null, .null, .null, .null, .null, .null, .null, .null, .null])), (q481, .inl (G.2 0, 4, .inl (fun _ => 0)))]) X hi hP hD hS tyX12 tyX12_ok nmX12 0 rfl rfl 16 (by decide) qw_493 inlX12 rfl rfl (by first | rfl | decide) (by first | rfl | decide) (Nat.le_of_ble_eq_true rfl) rfl dX12_init_22 (fun H locs hP hD hS => ?_)
  have hP := hP.sub (ws' := [(a0, .inr (9, [.int 0, .int 0, .int (-1), .int 0, .int 0, .int 0, .int 0, .int 0, .int 0, .int 0, .int 0, .int 0, .int 0, .int 0, .int 0, .ref q480, .ref q481, .null, .null, .null, .null, .null, .null, .null, .null, .null, .null, .null, .null, .null, .null]))]) [0] rfl
  have hD := hD.sub (ws' := [(a0, .inr (9, [.int 0, .int 0, .int (-1), .int 0, .int 0, .int 0, .int 0, .int 0, .int 0, .int 0, .int 0, .int 0, .int 0, .int 0, .int 0, .ref q480, .ref q481, .null, .null, .null, .null, .null, .null, .null, .null, .null, .null, .null, .null, .null, .null]))]) [0] (by decide) rfl
  refine lv_aload_n hx hb dX12_init_25 rfl (lv_at hl 0 rfl) ?_
  refine lv_iconst (v := 4) hx hb dX12_init_26 (by decide) ?_
  refine m_newa (atype := .int) (a0 := (4, .inl (fun _ => 0))) X hP hD hS 0 rfl qw_13 (fun _ => rfl) (by decide) (by decide) (Nat.le_of_ble_eq_true rfl) (Nat.le_of_ble_eq_true rfl) (Nat.le_of_ble_eq_true rfl) dX12_init_27 (fun q482 H hP hD hS => ?_)
  have hP : va_P G.1 vwCl [(a0, .inr (9, [.int 0, .int 0, .int (-1), .int 0, .int 0, .int 0, .int 0, .int 0, .int 0, .int 0, .int 0, .int 0, .int 0, .int 0, .int 0, .ref q480, .ref q481, .null, .null, .null, .null, .null, .null, .null, .null, .null, .null, .null, .null, .null, .null])), (q482, .inl (G.2 0, 4, .inl (fun _ => 0)))] H := hP
  have hD : va_D A [(a0, .inr (9, [.int 0, .int 0, .int (-1), .int 0, .int 0, .int 0, .int 0, .int 0, .int 0, .int 0, .int 0, .int 0, .int 0, .int 0, .int 0, .ref q480, .ref q481, .null, .null, .null, .null, .null, .null, .null, .null, .null, .null, .null, .null, .null, .null])), (q482, .inl (G.2 0, 4, .inl (fun _ => 0)))] := hD
  refine W.widen (k := 3) (n := 152) (Nat.le_of_ble_eq_true rfl) (Nat.le_of_ble_eq_true rfl) ?_
  refine m_putF (C := RX12) (T := TX12) (N := 31) (ci := 9) (v := .ref q482) (ws' := [(a0, .inr (9, [.int 0, .int 0, .int (-1), .int 0, .int 0, .int 0, .int 0, .int 0, .int 0, .int 0, .int 0, .int 0, .int 0, .int 0, .int 0, .ref q480, .ref q481, .ref q482, .null, .null, .null, .null, .null, .null, .null, .null, .null, .null, .null, .null, .null])), (q482, .inl (G.2 0, 4, .inl (fun _ => 0)))]) X hi hP hD hS tyX12 tyX12_ok nmX12 0 rfl rfl 17 (by decide) qw_494 inlX12 rfl rfl (by first | rfl | decide) (by first | rfl | decide) (Nat.le_of_ble_eq_true rfl) rfl dX12_init_29 (fun H locs hP hD hS => ?_)
  have hP := hP.sub (ws' := [(a0, .inr (9, [.int 0, .int 0, .int (-1), .int 0, .int 0, .int 0, .int 0, .int 0, .int 0, .int 0, .int 0, .int 0, .int 0, .int 0, .int 0, .ref q480, .ref q481, .ref q482, .null, .null, .null, .null, .null, .null, .null, .null, .null, .null, .null, .null, .null]))]) [0] rfl
  have hD := hD.sub (ws' := [(a0, .inr (9, [.int 0, .int 0, .int (-1), .int 0, .int 0, .int 0, .int 0, .int 0, .int 0, .int 0, .int 0, .int 0, .int 0, .int 0, .int 0, .ref q480, .ref q481, .ref q482, .null, .null, .null, .null, .null, .null, .null, .null, .null, .null, .null, .null, .null]))]) [0] (by decide) rfl
  refine lv_aload_n hx hb dX12_init_32 rfl (lv_at hl 0 rfl) ?_
  refine lv_iconst (v := 4) hx hb dX12_init_33 (by decide) ?_
  refine m_newa (atype := .int) (a0 := (4, .inl (fun _ => 0))) X hP hD hS 0 rfl qw_13 (fun _ => rfl) (by decide) (by decide) (Nat.le_of_ble_eq_true rfl) (Nat.le_of_ble_eq_true rfl) (Nat.le_of_ble_eq_true rfl) dX12_init_34 (fun q483 H hP hD hS => ?_)
  have hP : va_P G.1 vwCl [(a0, .inr (9, [.int 0, .int 0, .int (-1), .int 0, .int 0, .int 0, .int 0, .int 0, .int 0, .int 0, .int 0, .int 0, .int 0, .int 0, .int 0, .ref q480, .ref q481, .ref q482, .null, .null, .null, .null, .null, .null, .null, .null, .null, .null, .null, .null, .null])), (q483, .inl (G.2 0, 4, .inl (fun _ => 0)))] H := hP
  have hD : va_D A [(a0, .inr (9, [.int 0, .int 0, .int (-1), .int 0, .int 0, .int 0, .int 0, .int 0, .int 0, .int 0, .int 0, .int 0, .int 0, .int 0, .int 0, .ref q480, .ref q481, .ref q482, .null, .null, .null, .null, .null, .null, .null, .null, .null, .null, .null, .null, .null])), (q483, .inl (G.2 0, 4, .inl (fun _ => 0)))] := hD
  refine W.widen (k := 4) (n := 156) (Nat.le_of_ble_eq_true rfl) (Nat.le_of_ble_eq_true rfl) ?_
  refine m_putF (C := RX12) (T := TX12) (N := 31) (ci := 9) (v := .ref q483) (ws' := [(a0, .inr (9, [.int 0, .int 0, .int (-1), .int 0, .int 0, .int 0, .int 0, .int 0, .int 0, .int 0, .int 0, .int 0, .int 0, .int 0, .int 0, .ref q480, .ref q481, .ref q482, .ref q483, .null, .null, .null, .null, .null, .null, .null, .null, .null, .null, .null, .null])), (q483, .inl (G.2 0, 4, .inl (fun _ => 0)))]) X hi hP hD hS tyX12 tyX12_ok nmX12 0 rfl rfl 18 (by decide) qw_495 inlX12 rfl rfl (by first | rfl | decide) (by first | rfl | decide) (Nat.le_of_ble_eq_true rfl) rfl dX12_init_36 (fun H locs hP hD hS => ?_)
  have hP := hP.sub (ws' := [(a0, .inr (9, [.int 0, .int 0, .int (-1), .int 0, .int 0, .int 0, .int 0, .int 0, .int 0, .int 0, .int 0, .int 0, .int 0, .int 0, .int 0, .ref q480, .ref q481, .ref q482, .ref q483, .null, .null, .null, .null, .null, .null, .null, .null, .null, .null, .null, .null]))]) [0] rfl
  have hD := hD.sub (ws' := [(a0, .inr (9, [.int 0, .int 0, .int (-1), .int 0, .int 0, .int 0, .int 0, .int 0, .int 0, .int 0, .int 0, .int 0, .int 0, .int 0, .int 0, .ref q480, .ref q481, .ref q482, .ref q483, .null, .null, .null, .null, .null, .null, .null, .null, .null, .null, .null, .null]))]) [0] (by decide) rfl
  refine lv_aload_n hx hb dX12_init_39 rfl (lv_at hl 0 rfl) ?_
  refine lv_iconst (v := 4) hx hb dX12_init_40 (by decide) ?_
  refine m_newa (atype := .int) (a0 := (4, .inl (fun _ => 0))) X hP hD hS 0 rfl qw_13 (fun _ => rfl) (by decide) (by decide) (Nat.le_of_ble_eq_true rfl) (Nat.le_of_ble_eq_true rfl) (Nat.le_of_ble_eq_true rfl) dX12_init_41 (fun q484 H hP hD hS => ?_)
  have hP : va_P G.1 vwCl [(a0, .inr (9, [.int 0, .int 0, .int (-1), .int 0, .int 0, .int 0, .int 0, .int 0, .int 0, .int 0, .int 0, .int 0, .int 0, .int 0, .int 0, .ref q480, .ref q481, .ref q482, .ref q483, .null, .null, .null, .null, .null, .null, .null, .null, .null, .null, .null, .null])), (q484, .inl (G.2 0, 4, .inl (fun _ => 0)))] H := hP
  have hD : va_D A [(a0, .inr (9, [.int 0, .int 0, .int (-1), .int 0, .int 0, .int 0, .int 0, .int 0, .int 0, .int 0, .int 0, .int 0, .int 0, .int 0, .int 0, .ref q480, .ref q481, .ref q482, .ref q483, .null, .null, .null, .null, .null, .null, .null, .null, .null, .null, .null, .null])), (q484, .inl (G.2 0, 4, .inl (fun _ => 0)))] := hD
  refine W.widen (k := 5) (n := 160) (Nat.le_of_ble_eq_true rfl) (Nat.le_of_ble_eq_true rfl) ?_
  refine m_putF (C := RX12) (T := TX12) (N := 31) (ci := 9) (v := .ref q484) (ws' := [(a0, .inr (9, [.int 0, .int 0, .int (-1), .int 0, .int 0, .int 0, .int 0, .int 0, .int 0, .int 0, .int 0, .int 0, .int 0, .int 0, .int 0, .ref q480, .ref q481, .ref q482, .ref q483, .ref q484, .null, .null, .null, .null, .null, .null, .null, .null, .null, .null, .null])), (q484, .inl (G.2 0, 4, .inl (fun _ => 0)))]) X hi hP hD hS tyX12 tyX12_ok nmX12 0 rfl rfl 19 (by decide) qw_496 inlX12 rfl rfl (by first | rfl | decide) (by first | rfl | decide) (Nat.le_of_ble_eq_true rfl) rfl dX12_init_43 (fun H locs hP hD hS => ?_)
  have hP := hP.sub (ws' := [(a0, .inr (9, [.int 0, .int 0, .int (-1), .int 0, .int 0, .int 0, .int 0, .int 0, .int 0, .int 0, .int 0, .int 0, .int 0, .int 0, .int 0, .ref q480, .ref q481, .ref q482, .ref q483, .ref q484, .null, .null, .null, .null, .null, .null, .null, .null, .null, .null, .null]))]) [0] rfl
  have hD := hD.sub (ws' := [(a0, .inr (9, [.int 0, .int 0, .int (-1), .int 0, .int 0, .int 0, .int 0, .int 0, .int 0, .int 0, .int 0, .int 0, .int 0, .int 0, .int 0, .ref q480, .ref q481, .ref q482, .ref q483, .ref q484, .null, .null, .null, .null, .null, .null, .null, .null, .null, .null, .null]))]) [0] (by decide) rfl
  refine lv_aload_n hx hb dX12_init_46 rfl (lv_at hl 0 rfl) ?_
  refine lv_iconst (v := 4) hx hb dX12_init_47 (by decide) ?_
  refine m_newa (atype := .int) (a0 := (4, .inl (fun _ => 0))) X hP hD hS 0 rfl qw_13 (fun _ => rfl) (by decide) (by decide) (Nat.le_of_ble_eq_true rfl) (Nat.le_of_ble_eq_true rfl) (Nat.le_of_ble_eq_true rfl) dX12_init_48 (fun q485 H hP hD hS => ?_)
  have hP : va_P G.1 vwCl [(a0, .inr (9, [.int 0, .int 0, .int (-1), .int 0, .int 0, .int 0, .int 0, .int 0, .int 0, .int 0, .int 0, .int 0, .int 0, .int 0, .int 0, .ref q480, .ref q481, .ref q482, .ref q483, .ref q484, .null, .null, .null, .null, .null, .null, .null, .null, .null, .null, .null])), (q485, .inl (G.2 0, 4, .inl (fun _ => 0)))] H := hP
  have hD : va_D A [(a0, .inr (9, [.int 0, .int 0, .int (-1), .int 0, .int 0, .int 0, .int 0, .int 0, .int 0, .int 0, .int 0, .int 0, .int 0, .int 0, .int 0, .ref q480, .ref q481, .ref q482, .ref q483, .ref q484, .null, .null, .null, .null, .null, .null, .null, .null, .null, .null, .null])), (q485, .inl (G.2 0, 4, .inl (fun _ => 0)))] := hD
  refine W.widen (k := 6) (n := 164) (Nat.le_of_ble_eq_true rfl) (Nat.le_of_ble_eq_true rfl) ?_
  refine m_putF (C := RX12) (T := TX12) (N := 31) (ci := 9) (v := .ref q485) (ws' := [(a0, .inr (9, [.int 0, .int 0, .int (-1), .int 0, .int 0, .int 0, .int 0, .int 0, .int 0, .int 0, .int 0, .int 0, .int 0, .int 0, .int 0, .ref q480, .ref q481, .ref q482, .ref q483, .ref q484, .ref q485, .null, .null, .null, .null, .null, .null, .null, .null, .null, .null])), (q485, .inl (G.2 0, 4, .inl (fun _ => 0)))]) X hi hP hD hS tyX12 tyX12_ok nmX12 0 rfl rfl 20 (by decide) qw_497 inlX12 rfl rfl (by first | rfl | decide) (by first | rfl | decide) (Nat.le_of_ble_eq_true rfl) rfl dX12_init_50 (fun H locs hP hD hS => ?_)
  have hP := hP.sub (ws' := [(a0, .inr (9, [.int 0, .int 0, .int (-1), .int 0, .int 0, .int 0, .int 0, .int 0, .int 0, .int 0, .int 0, .int 0, .int 0, .int 0, .int 0, .ref q480, .ref q481, .ref q482, .ref q483, .ref q484, .ref q485, .null, .null, .null, .null, .null, .null, .null, .null, .null, .null]))]) [0] rfl
  have hD := hD.sub (ws' := [(a0, .inr (9, [.int 0, .int 0, .int (-1), .int 0, .int 0, .int 0, .int 0, .int 0, .int 0, .int 0, .int 0, .int 0, .int 0, .int 0, .int 0, .ref q480, .ref q481, .ref q482, .ref q483, .ref q484, .ref q485, .null, .null, .null, .null, .null, .null, .null, .null, .null, .null]))]) [0] (by decide) rfl
  refine lv_aload_n hx hb dX12_init_53 rfl (lv_at hl 0 rfl) ?_
  refine lv_iconst (v := 4) hx hb dX12_init_54 (by decide) ?_
  refine m_newa (atype := .int) (a0 := (4, .inl (fun _ => 0))) X hP hD hS 0 rfl qw_13 (fun _ => rfl) (by decide) (by decide) (Nat.le_of_ble_eq_true rfl) (Nat.le_of_ble_eq_true rfl) (Nat.le_of_ble_eq_true rfl) dX12_init_55 (fun q486 H hP hD hS => ?_)
  have hP : va_P G.1 vwCl [(a0, .inr (9, [.int 0, .int 0, .int (-1), .int 0, .int 0, .int 0, .int 0, .int 0, .int 0, .int 0, .int 0, .int 0, .int 0, .int 0, .int 0, .ref q480, .ref q481, .ref q482, .ref q483, .ref q484, .ref q485, .null, .null, .null, .null, .null, .null, .null, .null, .null, .null])), (q486, .inl (G.2 0, 4, .inl (fun _ => 0)))] H := hP
  have hD : va_D A [(a0, .inr (9, [.int 0, .int 0, .int (-1), .int 0, .int 0, .int 0, .int 0, .int 0, .int 0, .int 0, .int 0, .int 0, .int 0, .int 0, .int 0, .ref q480, .ref q481, .ref q482, .ref q483, .ref q484, .ref q485, .null, .null, .null, .null, .null, .null, .null, .null, .null, .null])), (q486, .inl (G.2 0, 4, .inl (fun _ => 0)))] := hD
  refine W.widen (k := 7) (n := 168) (Nat.le_of_ble_eq_true rfl) (Nat.le_of_ble_eq_true rfl) ?_
  refine m_putF (C := RX12) (T := TX12) (N := 31) (ci := 9) (v := .ref q486) (ws' := [(a0, .inr (9, [.int 0, .int 0, .int (-1), .int 0, .int 0, .int 0, .int 0, .int 0, .int 0, .int 0, .int 0, .int 0, .int 0, .int 0, .int 0, .ref q480, .ref q481, .ref q482, .ref q483, .ref q484, .ref q485, .ref q486, .null, .null, .null, .null, .null, .null, .null, .null, .null])), (q486, .inl (G.2 0, 4, .inl (fun _ => 0)))]) X hi hP hD hS tyX12 tyX12_ok nmX12 0 rfl rfl 21 (by decide) qw_498 inlX12 rfl rfl (by first | rfl | decide) (by first | rfl | decide) (Nat.le_of_ble_eq_true rfl) rfl dX12_init_57 (fun H locs hP hD hS => ?_)
  have hP := hP.sub (ws' := [(a0, .inr (9, [.int 0, .int 0, .int (-1), .int 0, .int 0, .int 0, .int 0, .int 0, .int 0, .int 0, .int 0, .int 0, .int 0, .int 0, .int 0, .ref q480, .ref q481, .ref q482, .ref q483, .ref q484, .ref q485, .ref q486, .null, .null, .null, .null, .null, .null, .null, .null, .null]))]) [0] rfl
  have hD := hD.sub (ws' := [(a0, .inr (9, [.int 0, .int 0, .int (-1), .int 0, .int 0, .int 0, .int 0, .int 0, .int 0, .int 0, .int 0, .int 0, .int 0, .int 0, .int 0, .ref q480, .ref q481, .ref q482, .ref q483, .ref q484, .ref q485, .ref q486, .null, .null, .null, .null, .null, .null, .null, .null, .null]))]) [0] (by decide) rfl
  refine lv_aload_n hx hb dX12_init_60 rfl (lv_at hl 0 rfl) ?_
  refine lv_iconst (v := 4) hx hb dX12_init_61 (by decide) ?_
  refine m_newa (atype := .int) (a0 := (4, .inl (fun _ => 0))) X hP hD hS 0 rfl qw_13 (fun _ => rfl) (by decide) (by decide) (Nat.le_of_ble_eq_true rfl) (Nat.le_of_ble_eq_true rfl) (Nat.le_of_ble_eq_true rfl) dX12_init_62 (fun q487 H hP hD hS => ?_)
  have hP : va_P G.1 vwCl [(a0, .inr (9, [.int 0, .int 0, .int (-1), .int 0, .int 0, .int 0, .int 0, .int 0, .int 0, .int 0, .int 0, .int 0, .int 0, .int 0, .int 0, .ref q480, .ref q481, .ref q482, .ref q483, .ref q484, .ref q485, .ref q486, .null, .null, .null, .null, .null, .null, .null, .null, .null])), (q487, .inl (G.2 0, 4, .inl (fun _ => 0)))] H := hP
  have hD : va_D A [(a0, .inr (9, [.int 0, .int 0, .int (-1), .int 0, .int 0, .int 0, .int 0, .int 0, .int 0, .int 0, .int 0, .int 0, .int 0, .int 0, .int 0, .ref q480, .ref q481, .ref q482, .ref q483, .ref q484, .ref q485, .ref q486, .null, .null, .null, .null, .null, .null, .null, .null, .null])), (q487, .inl (G.2 0, 4, .inl (fun _ => 0)))] := hD
  refine W.widen (k := 8) (n := 172) (Nat.le_of_ble_eq_true rfl) (Nat.le_of_ble_eq_true rfl) ?_
  refine m_putF (C := RX12) (T := TX12) (N := 31) (ci := 9) (v := .ref q487) (ws' := [(a0, .inr (9, [.int 0, .int 0, .int (-1), .int 0, .int 0, .int 0, .int 0, .int 0, .int 0, .int 0, .int 0, .int 0, .int 0, .int 0, .int 0, .ref q480, .ref q481, .ref q482, .ref q483, .ref q484, .ref q485, .ref q486, .ref q487, .null, .null, .null, .null, .null, .null, .null, .null])), (q487, .inl (G.2 0, 4, .inl (fun _ => 0)))]) X hi hP hD hS tyX12 tyX12_ok nmX12 0 rfl rfl 22 (by decide) qw_499 inlX12 rfl rfl (by first | rfl | decide) (by first | rfl | decide) (Nat.le_of_ble_eq_true rfl) rfl dX12_init_64 (fun H locs hP hD hS => ?_)
  have hP := hP.sub (ws' := [(a0, .inr (9, [.int 0, .int 0, .int (-1), .int 0, .int 0, .int 0, .int 0, .int 0, .int 0, .int 0, .int 0, .int 0, .int 0, .int 0, .int 0, .ref q480, .ref q481, .ref q482, .ref q483, .ref q484, .ref q485, .ref q486, .ref q487, .null, .null, .null, .null, .null, .null, .null, .null]))]) [0] rfl
  have hD := hD.sub (ws' := [(a0, .inr (9, [.int 0, .int 0, .int (-1), .int 0, .int 0, .int 0, .int 0, .int 0, .int 0, .int 0, .int 0, .int 0, .int 0, .int 0, .int 0, .ref q480, .ref q481, .ref q482, .ref q483, .ref q484, .ref q485, .ref q486, .ref q487, .null, .null, .null, .null, .null, .null, .null, .null]))]) [0] (by decide) rfl
  refine lv_aload_n hx hb dX12_init_67 rfl (lv_at hl 0 rfl) ?_
  refine lv_bipush (v := 6) hx hb dX12_init_68 (by decide) ?_
  refine m_newa (atype := .int) (a0 := (6, .inl (fun _ => 0))) X hP hD hS 0 rfl qw_13 (fun _ => rfl) (by decide) (by decide) (Nat.le_of_ble_eq_true rfl) (Nat.le_of_ble_eq_true rfl) (Nat.le_of_ble_eq_true rfl) dX12_init_70 (fun q488 H hP hD hS => ?_)
  have hP : va_P G.1 vwCl [(a0, .inr (9, [.int 0, .int 0, .int (-1), .int 0, .int 0, .int 0, .int 0, .int 0, .int 0, .int 0, .int 0, .int 0, .int 0, .int 0, .int 0, .ref q480, .ref q481, .ref q482, .ref q483, .ref q484, .ref q485, .ref q486, .ref q487, .null, .null, .null, .null, .null, .null, .null, .null])), (q488, .inl (G.2 0, 6, .inl (fun _ => 0)))] H := hP
  have hD : va_D A [(a0, .inr (9, [.int 0, .int 0, .int (-1), .int 0, .int 0, .int 0, .int 0, .int 0, .int 0, .int 0, .int 0, .int 0, .int 0, .int 0, .int 0, .ref q480, .ref q481, .ref q482, .ref q483, .ref q484, .ref q485, .ref q486, .ref q487, .null, .null, .null, .null, .null, .null, .null, .null])), (q488, .inl (G.2 0, 6, .inl (fun _ => 0)))] := hD
  refine W.widen (k := 9) (n := 178) (Nat.le_of_ble_eq_true rfl) (Nat.le_of_ble_eq_true rfl) ?_
  refine m_putF (C := RX12) (T := TX12) (N := 31) (ci := 9) (v := .ref q488) (ws' := [(a0, .inr (9, [.int 0, .int 0, .int (-1), .int 0, .int 0, .int 0, .int 0, .int 0, .int 0, .int 0, .int 0, .int 0, .int 0, .int 0, .int 0, .ref q480, .ref q481, .ref q482, .ref q483, .ref q484, .ref q485, .ref q486, .ref q487, .ref q488, .null, .null, .null, .null, .null, .null, .null])), (q488, .inl (G.2 0, 6, .inl (fun _ => 0)))]) X hi hP hD hS tyX12 tyX12_ok nmX12 0 rfl rfl 23 (by decide) qw_500 inlX12 rfl rfl (by first | rfl | decide) (by first | rfl | decide) (Nat.le_of_ble_eq_true rfl) rfl dX12_init_72 (fun H locs hP hD hS => ?_)
  have hP := hP.sub (ws' := [(a0, .inr (9, [.int 0, .int 0, .int (-1), .int 0, .int 0, .int 0, .int 0, .int 0, .int 0, .int 0, .int 0, .int 0, .int 0, .int 0, .int 0, .ref q480, .ref q481, .ref q482, .ref q483, .ref q484, .ref q485, .ref q486, .ref q487, .ref q488, .null, .null, .null, .null, .null, .null, .null]))]) [0] rfl
  have hD := hD.sub (ws' := [(a0, .inr (9, [.int 0, .int 0, .int (-1), .int 0, .int 0, .int 0, .int 0, .int 0, .int 0, .int 0, .int 0, .int 0, .int 0, .int 0, .int 0, .ref q480, .ref q481, .ref q482, .ref q483, .ref q484, .ref q485, .ref q486, .ref q487, .ref q488, .null, .null, .null, .null, .null, .null, .null]))]) [0] (by decide) rfl
  refine lv_aload_n hx hb dX12_init_75 rfl (lv_at hl 0 rfl) ?_
  refine lv_bipush (v := 6) hx hb dX12_init_76 (by decide) ?_
  refine m_newa (atype := .int) (a0 := (6, .inl (fun _ => 0))) X hP hD hS 0 rfl qw_13 (fun _ => rfl) (by decide) (by decide) (Nat.le_of_ble_eq_true rfl) (Nat.le_of_ble_eq_true rfl) (Nat.le_of_ble_eq_true rfl) dX12_init_78 (fun q489 H hP hD hS => ?_)
  have hP : va_P G.1 vwCl [(a0, .inr (9, [.int 0, .int 0, .int (-1), .int 0, .int 0, .int 0, .int 0, .int 0, .int 0, .int 0, .int 0, .int 0, .int 0, .int 0, .int 0, .ref q480, .ref q481, .ref q482, .ref q483, .ref q484, .ref q485, .ref q486, .ref q487, .ref q488, .null, .null, .null, .null, .null, .null, .null])), (q489, .inl (G.2 0, 6, .inl (fun _ => 0)))] H := hP
  have hD : va_D A [(a0, .inr (9, [.int 0, .int 0, .int (-1), .int 0, .int 0, .int 0, .int 0, .int 0, .int 0, .int 0, .int 0, .int 0, .int 0, .int 0, .int 0, .ref q480, .ref q481, .ref q482, .ref q483, .ref q484, .ref q485, .ref q486, .ref q487, .ref q488, .null, .null, .null, .null, .null, .null, .null])), (q489, .inl (G.2 0, 6, .inl (fun _ => 0)))] := hD
  refine W.widen (k := 10) (n := 184) (Nat.le_of_ble_eq_true rfl) (Nat.le_of_ble_eq_true rfl) ?_
  refine m_putF (C := RX12) (T := TX12) (N := 31) (ci := 9) (v := .ref q489) (ws' := [(a0, .inr (9, [.int 0, .int 0, .int (-1), .int 0, .int 0, .int 0, .int 0, .int 0, .int 0, .int 0, .int 0, .int 0, .int 0, .int 0, .int 0, .ref q480, .ref q481, .ref q482, .ref q483, .ref q484, .ref q485, .ref q486, .ref q487, .ref q488, .ref q489, .null, .null, .null, .null, .null, .null])), (q489, .inl (G.2 0, 6, .inl (fun _ => 0)))]) X hi hP hD hS tyX12 tyX12_ok nmX12 0 rfl rfl 24 (by decide) qw_501 inlX12 rfl rfl (by first | rfl | decide) (by first | rfl | decide) (Nat.le_of_ble_eq_true rfl) rfl dX12_init_80 (fun H locs hP hD hS => ?_)
  have hP := hP.sub (ws' := [(a0, .inr (9, [.int 0, .int 0, .int (-1), .int 0, .int 0, .int 0, .int 0, .int 0, .int 0, .int 0, .int 0, .int 0, .int 0, .int 0, .int 0, .ref q480, .ref q481, .ref q482, .ref q483, .ref q484, .ref q485, .ref q486, .ref q487, .ref q488, .ref q489, .null, .null, .null, .null, .null, .null]))]) [0] rfl
  have hD := hD.sub (ws' := [(a0, .inr (9, [.int 0, .int 0, .int (-1), .int 0, .int 0, .int 0, .int 0, .int 0, .int 0, .int 0, .int 0, .int 0, .int 0, .int 0, .int 0, .ref q480, .ref q481, .ref q482, .ref q483, .ref q484, .ref q485, .ref q486, .ref q487, .ref q488, .ref q489, .null, .null, .null, .null, .null, .null]))]) [0] (by decide) rfl
  refine lv_aload_n hx hb dX12_init_83 rfl (lv_at hl 0 rfl) ?_
  refine lv_bipush (v := 6) hx hb dX12_init_84 (by decide) ?_
  refine m_newa (atype := .int) (a0 := (6, .inl (fun _ => 0))) X hP hD hS 0 rfl qw_13 (fun _ => rfl) (by decide) (by decide) (Nat.le_of_ble_eq_true rfl) (Nat.le_of_ble_eq_true rfl) (Nat.le_of_ble_eq_true rfl) dX12_init_86 (fun q490 H hP hD hS => ?_)
  have hP : va_P G.1 vwCl [(a0, .inr (9, [.int 0, .int 0, .int (-1), .int 0, .int 0, .int 0, .int 0, .int 0, .int 0, .int 0, .int 0, .int 0, .int 0, .int 0, .int 0, .ref q480, .ref q481, .ref q482, .ref q483, .ref q484, .ref q485, .ref q486, .ref q487, .ref q488, .ref q489, .null, .null, .null, .null, .null, .null])), (q490, .inl (G.2 0, 6, .inl (fun _ => 0)))] H := hP
  have hD : va_D A [(a0, .inr (9, [.int 0, .int 0, .int (-1), .int 0, .int 0, .int 0, .int 0, .int 0, .int 0, .int 0, .int 0, .int 0, .int 0, .int 0, .int 0, .ref q480, .ref q481, .ref q482, .ref q483, .ref q484, .ref q485, .ref q486, .ref q487, .ref q488, .ref q489, .null, .null, .null, .null, .null, .null])), (q490, .inl (G.2 0, 6, .inl (fun _ => 0)))] := hD
  refine W.widen (k := 11) (n := 190) (Nat.le_of_ble_eq_true rfl) (Nat.le_of_ble_eq_true rfl) ?_
  refine m_putF (C := RX12) (T := TX12) (N := 31) (ci := 9) (v := .ref q490) (ws' := [(a0, .inr (9, [.int 0, .int 0, .int (-1), .int 0, .int 0, .int 0, .int 0, .int 0, .int 0, .int 0, .int 0, .int 0, .int 0, .int 0, .int 0, .ref q480, .ref q481, .ref q482, .ref q483, .ref q484, .ref q485, .ref q486, .ref q487, .ref q488, .ref q489, .ref q490, .null, .null, .null, .null, .null])), (q490, .inl (G.2 0, 6, .inl (fun _ => 0)))]) X hi hP hD hS tyX12 tyX12_ok nmX12 0 rfl rfl 25 (by decide) qw_502 inlX12 rfl rfl (by first | rfl | decide) (by first | rfl | decide) (Nat.le_of_ble_eq_true rfl) rfl dX12_init_88 (fun H locs hP hD hS => ?_)
  have hP := hP.sub (ws' := [(a0, .inr (9, [.int 0, .int 0, .int (-1), .int 0, .int 0, .int 0, .int 0, .int 0, .int 0, .int 0, .int 0, .int 0, .int 0, .int 0, .int 0, .ref q480, .ref q481, .ref q482, .ref q483, .ref q484, .ref q485, .ref q486, .ref q487, .ref q488, .ref q489, .ref q490, .null, .null, .null, .null, .null]))]) [0] rfl
  have hD := hD.sub (ws' := [(a0, .inr (9, [.int 0, .int 0, .int (-1), .int 0, .int 0, .int 0, .int 0, .int 0, .int 0, .int 0, .int 0, .int 0, .int 0, .int 0, .int 0, .ref q480, .ref q481, .ref q482, .ref q483, .ref q484, .ref q485, .ref q486, .ref q487, .ref q488, .ref q489, .ref q490, .null, .null, .null, .null, .null]))]) [0] (by decide) rfl
  refine lv_aload_n hx hb dX12_init_91 rfl (lv_at hl 0 rfl) ?_
  refine lv_bipush (v := 6) hx hb dX12_init_92 (by decide) ?_
  refine m_newa (atype := .int) (a0 := (6, .inl (fun _ => 0))) X hP hD hS 0 rfl qw_13 (fun _ => rfl) (by decide) (by decide) (Nat.le_of_ble_eq_true rfl) (Nat.le_of_ble_eq_true rfl) (Nat.le_of_ble_eq_true rfl) dX12_init_94 (fun q491 H hP hD hS => ?_)
  have hP : va_P G.1 vwCl [(a0, .inr (9, [.int 0, .int 0, .int (-1), .int 0, .int 0, .int 0, .int 0, .int 0, .int 0, .int 0, .int 0, .int 0, .int 0, .int 0, .int 0, .ref q480, .ref q481, .ref q482, .ref q483, .ref q484, .ref q485, .ref q486, .ref q487, .ref q488, .ref q489, .ref q490, .null, .null, .null, .null, .null])), (q491, .inl (G.2 0, 6, .inl (fun _ => 0)))] H := hP
  have hD : va_D A [(a0, .inr (9, [.int 0, .int 0, .int (-1), .int 0, .int 0, .int 0, .int 0, .int 0, .int 0, .int 0, .int 0, .int 0, .int 0, .int 0, .int 0, .ref q480, .ref q481, .ref q482, .ref q483, .ref q484, .ref q485, .ref q486, .ref q487, .ref q488, .ref q489, .ref q490, .null, .null, .null, .null, .null])), (q491, .inl (G.2 0, 6, .inl (fun _ => 0)))] := hD
  refine W.widen (k := 12) (n := 196) (Nat.le_of_ble_eq_true rfl) (Nat.le_of_ble_eq_true rfl) ?_
  refine m_putF (C := RX12) (T := TX12) (N := 31) (ci := 9) (v := .ref q491) (ws' := [(a0, .inr (9, [.int 0, .int 0, .int (-1), .int 0, .int 0, .int 0, .int 0, .int 0, .int 0, .int 0, .int 0, .int 0, .int 0, .int 0, .int 0, .ref q480, .ref q481, .ref q482, .ref q483, .ref q484, .ref q485, .ref q486, .ref q487, .ref q488, .ref q489, .ref q490, .ref q491, .null, .null, .null, .null])), (q491, .inl (G.2 0, 6, .inl (fun _ => 0)))]) X hi hP hD hS tyX12 tyX12_ok nmX12 0 rfl rfl 26 (by decide) qw_503 inlX12 rfl rfl (by first | rfl | decide) (by first | rfl | decide) (Nat.le_of_ble_eq_true rfl) rfl dX12_init_96 (fun H locs hP hD hS => ?_)
  have hP := hP.sub (ws' := [(a0, .inr (9, [.int 0, .int 0, .int (-1), .int 0, .int 0, .int 0, .int 0, .int 0, .int 0, .int 0, .int 0, .int 0, .int 0, .int 0, .int 0, .ref q480, .ref q481, .ref q482, .ref q483, .ref q484, .ref q485, .ref q486, .ref q487, .ref q488, .ref q489, .ref q490, .ref q491, .null, .null, .null, .null]))]) [0] rfl
  have hD := hD.sub (ws' := [(a0, .inr (9, [.int 0, .int 0, .int (-1), .int 0, .int 0, .int 0, .int 0, .int 0, .int 0, .int 0, .int 0, .int 0, .int 0, .int 0, .int 0, .ref q480, .ref q481, .ref q482, .ref q483, .ref q484, .ref q485, .ref q486, .ref q487, .ref q488, .ref q489, .ref q490, .ref q491, .null, .null, .null, .null]))]) [0] (by decide) rfl
  refine lv_aload_n hx hb dX12_init_99 rfl (lv_at hl 0 rfl) ?_
  refine lv_bipush (v := 32) hx hb dX12_init_100 (by decide) ?_
  refine m_newa (atype := .long) (a0 := (32, .inr (.inl (fun _ => 0)))) X hP hD hS 2 rfl qw_6 (fun _ => rfl) (by decide) (by decide) (Nat.le_of_ble_eq_true rfl) (Nat.le_of_ble_eq_true rfl) (Nat.le_of_ble_eq_true rfl) dX12_init_102 (fun q492 H hP hD hS => ?_)
  have hP : va_P G.1 vwCl [(a0, .inr (9, [.int 0, .int 0, .int (-1), .int 0, .int 0, .int 0, .int 0, .int 0, .int 0, .int 0, .int 0, .int 0, .int 0, .int 0, .int 0, .ref q480, .ref q481, .ref q482, .ref q483, .ref q484, .ref q485, .ref q486, .ref q487, .ref q488, .ref q489, .ref q490, .ref q491, .null, .null, .null, .null])), (q492, .inl (G.2 2, 32, .inr (.inl (fun _ => 0))))] H := hP
  have hD : va_D A [(a0, .inr (9, [.int 0, .int 0, .int (-1), .int 0, .int 0, .int 0, .int 0, .int 0, .int 0, .int 0, .int 0, .int 0, .int 0, .int 0, .int 0, .ref q480, .ref q481, .ref q482, .ref q483, .ref q484, .ref q485, .ref q486, .ref q487, .ref q488, .ref q489, .ref q490, .ref q491, .null, .null, .null, .null])), (q492, .inl (G.2 2, 32, .inr (.inl (fun _ => 0))))] := hD
  refine W.widen (k := 13) (n := 228) (Nat.le_of_ble_eq_true rfl) (Nat.le_of_ble_eq_true rfl) ?_
  refine m_putF (C := RX12) (T := TX12) (N := 31) (ci := 9) (v := .ref q492) (ws' := [(a0, .inr (9, [.int 0, .int 0, .int (-1), .int 0, .int 0, .int 0, .int 0, .int 0, .int 0, .int 0, .int 0, .int 0, .int 0, .int 0, .int 0, .ref q480, .ref q481, .ref q482, .ref q483, .ref q484, .ref q485, .ref q486, .ref q487, .ref q488, .ref q489, .ref q490, .ref q491, .ref q492, .null, .null, .null])), (q492, .inl (G.2 2, 32, .inr (.inl (fun _ => 0))))]) X hi hP hD hS tyX12 tyX12_ok nmX12 0 rfl rfl 27 (by decide) qw_504 inlX12 rfl rfl (by first | rfl | decide) (by first | rfl | decide) (Nat.le_of_ble_eq_true rfl) rfl dX12_init_104 (fun H locs hP hD hS => ?_)
  have hP := hP.sub (ws' := [(a0, .inr (9, [.int 0, .int 0, .int (-1), .int 0, .int 0, .int 0, .int 0, .int 0, .int 0, .int 0, .int 0, .int 0, .int 0, .int 0, .int 0, .ref q480, .ref q481, .ref q482, .ref q483, .ref q484, .ref q485, .ref q486, .ref q487, .ref q488, .ref q489, .ref q490, .ref q491, .ref q492, .null, .null, .null]))]) [0] rfl
  have hD := hD.sub (ws' := [(a0, .inr (9, [.int 0, .int 0, .int (-1), .int 0, .int 0, .int 0, .int 0, .int 0, .int 0, .int 0, .int 0, .int 0, .int 0, .int 0, .int 0, .ref q480, .ref q481, .ref q482, .ref q483, .ref q484, .ref q485, .ref q486, .ref q487, .ref q488, .ref q489, .ref q490, .ref q491, .ref q492, .null, .null, .null]))]) [0] (by decide) rfl
  refine lv_aload_n hx hb dX12_init_107 rfl (lv_at hl 0 rfl) ?_
  refine lv_bipush (v := 32) hx hb dX12_init_108 (by decide) ?_
  refine m_newa (atype := .int) (a0 := (32, .inl (fun _ => 0))) X hP hD hS 0 rfl qw_13 (fun _ => rfl) (by decide) (by decide) (Nat.le_of_ble_eq_true rfl) (Nat.le_of_ble_eq_true rfl) (Nat.le_of_ble_eq_true rfl) dX12_init_110 (fun q493 H hP hD hS => ?_)
  have hP : va_P G.1 vwCl [(a0, .inr (9, [.int 0, .int 0, .int (-1), .int 0, .int 0, .int 0, .int 0, .int 0, .int 0, .int 0, .int 0, .int 0, .int 0, .int 0, .int 0, .ref q480, .ref q481, .ref q482, .ref q483, .ref q484, .ref q485, .ref q486, .ref q487, .ref q488, .ref q489, .ref q490, .ref q491, .ref q492, .null, .null, .null])), (q493, .inl (G.2 0, 32, .inl (fun _ => 0)))] H := hP
  have hD : va_D A [(a0, .inr (9, [.int 0, .int 0, .int (-1), .int 0, .int 0, .int 0, .int 0, .int 0, .int 0, .int 0, .int 0, .int 0, .int 0, .int 0, .int 0, .ref q480, .ref q481, .ref q482, .ref q483, .ref q484, .ref q485, .ref q486, .ref q487, .ref q488, .ref q489, .ref q490, .ref q491, .ref q492, .null, .null, .null])), (q493, .inl (G.2 0, 32, .inl (fun _ => 0)))] := hD
  refine W.widen (k := 14) (n := 260) (Nat.le_of_ble_eq_true rfl) (Nat.le_of_ble_eq_true rfl) ?_
  refine m_putF (C := RX12) (T := TX12) (N := 31) (ci := 9) (v := .ref q493) (ws' := [(a0, .inr (9, [.int 0, .int 0, .int (-1), .int 0, .int 0, .int 0, .int 0, .int 0, .int 0, .int 0, .int 0, .int 0, .int 0, .int 0, .int 0, .ref q480, .ref q481, .ref q482, .ref q483, .ref q484, .ref q485, .ref q486, .ref q487, .ref q488, .ref q489, .ref q490, .ref q491, .ref q492, .ref q493, .null, .null])), (q493, .inl (G.2 0, 32, .inl (fun _ => 0)))]) X hi hP hD hS tyX12 tyX12_ok nmX12 0 rfl rfl 28 (by decide) qw_505 inlX12 rfl rfl (by first | rfl | decide) (by first | rfl | decide) (Nat.le_of_ble_eq_true rfl) rfl dX12_init_112 (fun H locs hP hD hS => ?_)
  have hP := hP.sub (ws' := [(a0, .inr (9, [.int 0, .int 0, .int (-1), .int 0, .int 0, .int 0, .int 0, .int 0, .int 0, .int 0, .int 0, .int 0, .int 0, .int 0, .int 0, .ref q480, .ref q481, .ref q482, .ref q483, .ref q484, .ref q485, .ref q486, .ref q487, .ref q488, .ref q489, .ref q490, .ref q491, .ref q492, .ref q493, .null, .null]))]) [0] rfl
  have hD := hD.sub (ws' := [(a0, .inr (9, [.int 0, .int 0, .int (-1), .int 0, .int 0, .int 0, .int 0, .int 0, .int 0, .int 0, .int 0, .int 0, .int 0, .int 0, .int 0, .ref q480, .ref q481, .ref q482, .ref q483, .ref q484, .ref q485, .ref q486, .ref q487, .ref q488, .ref q489, .ref q490, .ref q491, .ref q492, .ref q493, .null, .null]))]) [0] (by decide) rfl
  refine lv_aload_n hx hb dX12_init_115 rfl (lv_at hl 0 rfl) ?_
  refine lv_bipush (v := 32) hx hb dX12_init_116 (by decide) ?_
  refine m_newa (atype := .int) (a0 := (32, .inl (fun _ => 0))) X hP hD hS 0 rfl qw_13 (fun _ => rfl) (by decide) (by decide) (Nat.le_of_ble_eq_true rfl) (Nat.le_of_ble_eq_true rfl) (Nat.le_of_ble_eq_true rfl) dX12_init_118 (fun q494 H hP hD hS => ?_)
  have hP : va_P G.1 vwCl [(a0, .inr (9, [.int 0, .int 0, .int (-1), .int 0, .int 0, .int 0, .int 0, .int 0, .int 0, .int 0, .int 0, .int 0, .int 0, .int 0, .int 0, .ref q480, .ref q481, .ref q482, .ref q483, .ref q484, .ref q485, .ref q486, .ref q487, .ref q488, .ref q489, .ref q490, .ref q491, .ref q492, .ref q493, .null, .null])), (q494, .inl (G.2 0, 32, .inl (fun _ => 0)))] H := hP
  have hD : va_D A [(a0, .inr (9, [.int 0, .int 0, .int (-1), .int 0, .int 0, .int 0, .int 0, .int 0, .int 0, .int 0, .int 0, .int 0, .int 0, .int 0, .int 0, .ref q480, .ref q481, .ref q482, .ref q483, .ref q484, .ref q485, .ref q486, .ref q487, .ref q488, .ref q489, .ref q490, .ref q491, .ref q492, .ref q493, .null, .null])), (q494, .inl (G.2 0, 32, .inl (fun _ => 0)))] := hD
  refine W.widen (k := 15) (n := 292) (Nat.le_of_ble_eq_true rfl) (Nat.le_of_ble_eq_true rfl) ?_
  refine m_putF (C := RX12) (T := TX12) (N := 31) (ci := 9) (v := .ref q494) (ws' := [(a0, .inr (9, [.int 0, .int 0, .int (-1), .int 0, .int 0, .int 0, .int 0, .int 0, .int 0, .int 0, .int 0, .int 0, .int 0, .int 0, .int 0, .ref q480, .ref q481, .ref q482, .ref q483, .ref q484, .ref q485, .ref q486, .ref q487, .ref q488, .ref q489, .ref q490, .ref q491, .ref q492, .ref q493, .ref q494, .null])), (q494, .inl (G.2 0, 32, .inl (fun _ => 0)))]) X hi hP hD hS tyX12 tyX12_ok nmX12 0 rfl rfl 29 (by decide) qw_506 inlX12 rfl rfl (by first | rfl | decide) (by first | rfl | decide) (Nat.le_of_ble_eq_true rfl) rfl dX12_init_120 (fun H locs hP hD hS => ?_)
  have hP := hP.sub (ws' := [(a0, .inr (9, [.int 0, .int 0, .int (-1), .int 0, .int 0, .int 0, .int 0, .int 0, .int 0, .int 0, .int 0, .int 0, .int 0, .int 0, .int 0, .ref q480, .ref q481, .ref q482, .ref q483, .ref q484, .ref q485, .ref q486, .ref q487, .ref q488, .ref q489, .ref q490, .ref q491, .ref q492, .ref q493, .ref q494, .null]))]) [0] rfl
  have hD := hD.sub (ws' := [(a0, .inr (9, [.int 0, .int 0, .int (-1), .int 0, .int 0, .int 0, .int 0, .int 0, .int 0, .int 0, .int 0, .int 0, .int 0, .int 0, .int 0, .ref q480, .ref q481, .ref q482, .ref q483, .ref q484, .ref q485, .ref q486, .ref q487, .ref q488, .ref q489, .ref q490, .ref q491, .ref q492, .ref q493, .ref q494, .null]))]) [0] (by decide) rfl
  refine lv_aload_n hx hb dX12_init_123 rfl (lv_at hl 0 rfl) ?_
  refine lv_sipush (v := 212) hx hb dX12_init_124 (by decide) ?_
  refine m_newa (atype := .int) (a0 := (212, .inl (fun _ => 0))) X hP hD hS 0 rfl qw_13 (fun _ => rfl) (by decide) (by decide) (Nat.le_of_ble_eq_true rfl) (Nat.le_of_ble_eq_true rfl) (Nat.le_of_ble_eq_true rfl) dX12_init_127 (fun q495 H hP hD hS => ?_)
  have hP : va_P G.1 vwCl [(a0, .inr (9, [.int 0, .int 0, .int (-1), .int 0, .int 0, .int 0, .int 0, .int 0, .int 0, .int 0, .int 0, .int 0, .int 0, .int 0, .int 0, .ref q480, .ref q481, .ref q482, .ref q483, .ref q484, .ref q485, .ref q486, .ref q487, .ref q488, .ref q489, .ref q490, .ref q491, .ref q492, .ref q493, .ref q494, .null])), (q495, .inl (G.2 0, 212, .inl (fun _ => 0)))] H := hP
  have hD : va_D A [(a0, .inr (9, [.int 0, .int 0, .int (-1), .int 0, .int 0, .int 0, .int 0, .int 0, .int 0, .int 0, .int 0, .int 0, .int 0, .int 0, .int 0, .ref q480, .ref q481, .ref q482, .ref q483, .ref q484, .ref q485, .ref q486, .ref q487, .ref q488, .ref q489, .ref q490, .ref q491, .ref q492, .ref q493, .ref q494, .null])), (q495, .inl (G.2 0, 212, .inl (fun _ => 0)))] := hD
  refine W.widen (k := 16) (n := 504) (Nat.le_of_ble_eq_true rfl) (Nat.le_of_ble_eq_true rfl) ?_
  refine m_putF (C := RX12) (T := TX12) (N := 31) (ci := 9) (v := .ref q495) (ws' := [(a0, .inr (9, [.int 0, .int 0, .int (-1), .int 0, .int 0, .int 0, .int 0, .int 0, .int 0, .int 0, .int 0, .int 0, .int 0, .int 0, .int 0, .ref q480, .ref q481, .ref q482, .ref q483, .ref q484, .ref q485, .ref q486, .ref q487, .ref q488, .ref q489, .ref q490, .ref q491, .ref q492, .ref q493, .ref q494, .ref q495])), (q495, .inl (G.2 0, 212, .inl (fun _ => 0)))]) X hi hP hD hS tyX12 tyX12_ok nmX12 0 rfl rfl 30 (by decide) qw_507 inlX12 rfl rfl (by first | rfl | decide) (by first | rfl | decide) (Nat.le_of_ble_eq_true rfl) rfl dX12_init_129 (fun H locs hP hD hS => ?_)
  have hP := hP.sub (ws' := [(a0, .inr (9, [.int 0, .int 0, .int (-1), .int 0, .int 0, .int 0, .int 0, .int 0, .int 0, .int 0, .int 0, .int 0, .int 0, .int 0, .int 0, .ref q480, .ref q481, .ref q482, .ref q483, .ref q484, .ref q485, .ref q486, .ref q487, .ref q488, .ref q489, .ref q490, .ref q491, .ref q492, .ref q493, .ref q494, .ref q495]))]) [0] rfl
  have hD := hD.sub (ws' := [(a0, .inr (9, [.int 0, .int 0, .int (-1), .int 0, .int 0, .int 0, .int 0, .int 0, .int 0, .int 0, .int 0, .int 0, .int 0, .int 0, .int 0, .ref q480, .ref q481, .ref q482, .ref q483, .ref q484, .ref q485, .ref q486, .ref q487, .ref q488, .ref q489, .ref q490, .ref q491, .ref q492, .ref q493, .ref q494, .ref q495]))]) [0] (by decide) rfl
  exact m_vret X hP hD hS ((fun k => match k with | 0 => q480 | 1 => q481 | 2 => q482 | 3 => q483 | 4 => q484 | 5 => q485 | 6 => q486 | 7 => q487 | 8 => q488 | 9 => q489 | 10 => q490 | 11 => q491 | 12 => q492 | 13 => q493 | 14 => q494 | 15 => q495 | _ => 0), (fun _ _ => 0)) [0] (by decide) rfl trivial (Nat.le_of_ble_eq_true rfl) (Nat.le_of_ble_eq_true rfl) dX12_init_132
