set_option maxHeartbeats 4000000 in
set_option maxRecDepth 100000 in
theorem k38_X11_isRoom (l : Launch) (G : KG) (a0 : Nat) (i0 : Int32) (i1 : Int32) (a1 : Nat) (a2 : Nat) (a3 : Nat) (a4 : Nat) (a5 : Nat) (a6 : Nat) (a7 : Nat) (a8 : Nat) (a9 : Nat) (a10 : Nat) (a11 : Nat) (sz : Nat) : Met l yX11_isRoom (.code yX11_isRoom cX11_isRoom 3 (some .boolean) :: wsL_law) { frames := 1, cells := 0, slots := 0, locals := 21 } (va_Pc [.ref a0, .int i0, .int i1] (Pw G [(a0, .inr (8, [.ref a1, .int 0, .int 0, .ref a2, .ref a3, .ref a4, .ref a5, .ref a6, .ref a7, .ref a8, .ref a9, .ref a10, .ref a11, .int 0, .int 0, .int 0]))] sz)) (va_Qi (fun r _ => r = 0) (fun (u9 : KS) t => Bw G (va_A [(a0, .inr (8, [.ref a1, .int 0, .int 0, .ref a2, .ref a3, .ref a4, .ref a5, .ref a6, .ref a7, .ref a8, .ref a9, .ref a10, .ref a11, .int 0, .int 0, .int 0]))] sz) [(a0, .inr (8, [.ref a1, .int 0, .int 0, .ref a2, .ref a3, .ref a4, .ref a5, .ref a6, .ref a7, .ref a8, .ref a9, .ref a10, .ref a11, .int 0, .int 0, .int 0]))] t) (va_A [(a0, .inr (8, [.ref a1, .int 0, .int 0, .ref a2, .ref a3, .ref a4, .ref a5, .ref a6, .ref a7, .ref a8, .ref a9, .ref a10, .ref a11, .int 0, .int 0, .int 0]))] sz)) 0 0 (va_A [(a0, .inr (8, [.ref a1, .int 0, .int 0, .ref a2, .ref a3, .ref a4, .ref a5, .ref a6, .ref a7, .ref a8, .ref a9, .ref a10, .ref a11, .int 0, .int 0, .int 0]))] sz) := by
  refine m_body (y := yX11_isRoom) (cd := cX11_isRoom) (mL := 3) (rt := (some .boolean)) (rm := { frames := 1, cells := 0, slots := 0, locals := 21 }) (av := [.ref a0, .int i0, .int i1]) (wc := [(a0, .inr (8, [.ref a1, .int 0, .int 0, .ref a2, .ref a3, .ref a4, .ref a5, .ref a6, .ref a7, .ref a8, .ref a9, .ref a10, .ref a11, .int 0, .int 0, .int 0]))]) (G := G) (sz := sz) (Qf := fun A => va_Qi (fun r _ => r = 0) (fun (u9 : KS) t => Bw G A [(a0, .inr (8, [.ref a1, .int 0, .int 0, .ref a2, .ref a3, .ref a4, .ref a5, .ref a6, .ref a7, .ref a8, .ref a9, .ref a10, .ref a11, .int 0, .int 0, .int 0]))] t) A) (by decide) (Nat.le_of_ble_eq_true rfl) ?_
  intro p e s m args below meth c ls A X hi hP hD hS hl
  have hx := X.1.1
  have hb := X.1.2.1
  have hi : meth.name = "isRoom" := hi
  have hl : lv_has ls 3 [(0, .ref a0), (1, .int i0), (2, .int i1)] := hl
  refine lv_aload_n hx hb dX11_isRoom_0 rfl (lv_at hl 0 rfl) ?_
  refine lv_iload_n hx hb dX11_isRoom_1 rfl (lv_at hl 1 rfl) ?_
  refine m_cVi (n := 1) (wr := []) (C := RX11) (T := TX11) (N := 16) (ci := 8) (As := [.int i0]) (rest := []) X hP hD hS (k36_X11_isHouse l G a0 i0 a1 a2 a3 a4 a5 a6 a7 a8 a9 a10 a11) [0] [] rfl rfl (by decide) (by decide) (by decide) rfl rfl qw_770 qw_771 qw_772 qw_2 qw_773 ⟨rfl, by decide +kernel, by decide +kernel, by decide +kernel⟩ ⟨Nat.le_of_ble_eq_true rfl, Nat.le_of_ble_eq_true rfl⟩ hl rfl rfl (Nat.le_of_ble_eq_true rfl) dX11_isRoom_2 ⟨Nat.le_of_ble_eq_true rfl, Nat.le_of_ble_eq_true rfl⟩ (fun r9 u243 H locs hw hP hD hS => ?_)
  have hP : va_P G.1 vwCl [(a0, .inr (8, [.ref a1, .int 0, .int 0, .ref a2, .ref a3, .ref a4, .ref a5, .ref a6, .ref a7, .ref a8, .ref a9, .ref a10, .ref a11, .int 0, .int 0, .int 0]))] H := hP
  have hD : va_D A [(a0, .inr (8, [.ref a1, .int 0, .int 0, .ref a2, .ref a3, .ref a4, .ref a5, .ref a6, .ref a7, .ref a8, .ref a9, .ref a10, .ref a11, .int 0, .int 0, .int 0]))] := hD
  obtain rfl : r9 = 0 := hw
  refine lv_if_eq (tgt := 29) hx hb dX11_isRoom_5 (by decide) (fun _ => ?_) (fun c9 => absurd c9 (by decide))
  refine lv_iconst (v := 0) hx hb dX11_isRoom_29 (by decide) ?_
  exact m_zret X hP hD hS ((fun _ => 0), (fun _ _ => 0)) [0] (by decide) rfl (by decide) rfl (Nat.le_of_ble_eq_true rfl) (Nat.le_of_ble_eq_true rfl) dX11_isRoom_30
set_option maxHeartbeats 4000000 in
set_option maxRecDepth 100000 in
theorem k39_X11_isSkin (l : Launch) (G : KG) (a0 : Nat) (i0 : Int32) (i1 : Int32) (a1 : Nat) (a2 : Nat) (a3 : Nat) (a4 : Nat) (a5 : Nat) (a6 : Nat) (a7 : Nat) (a8 : Nat) (a9 : Nat) (a10 : Nat) (a11 : Nat) (sz : Nat) : Met l yX11_isSkin (.code yX11_isSkin cX11_isSkin 3 (some .boolean) :: wsL_law) { frames := 2, cells := 0, slots := 0, locals := 43 } (va_Pc [.ref a0, .int i0, .int i1] (Pw G [(a0, .inr (8, [.ref a1, .int 0, .int 0, .ref a2, .ref a3, .ref a4, .ref a5, .ref a6, .ref a7, .ref a8, .ref a9, .ref a10, .ref a11, .int 0, .int 0, .int 0]))] sz)) (va_Qi (fun r _ => r = 0) (fun (u9 : KS) t => Bw G (va_A [(a0, .inr (8, [.ref a1, .int 0, .int 0, .ref a2, .ref a3, .ref a4, .ref a5, .ref a6, .ref a7, .ref a8, .ref a9, .ref a10, .ref a11, .int 0, .int 0, .int 0]))] sz) [(a0, .inr (8, [.ref a1, .int 0, .int 0, .ref a2, .ref a3, .ref a4, .ref a5, .ref a6, .ref a7, .ref a8, .ref a9, .ref a10, .ref a11, .int 0, .int 0, .int 0]))] t) (va_A [(a0, .inr (8, [.ref a1, .int 0, .int 0, .ref a2, .ref a3, .ref a4, .ref a5, .ref a6, .ref a7, .ref a8, .ref a9, .ref a10, .ref a11, .int 0, .int 0, .int 0]))] sz)) 0 0 (va_A [(a0, .inr (8, [.ref a1, .int 0, .int 0, .ref a2, .ref a3, .ref a4, .ref a5, .ref a6, .ref a7, .ref a8, .ref a9, .ref a10, .ref a11, .int 0, .int 0, .int 0]))] sz) := by
  refine m_body (y := yX11_isSkin) (cd := cX11_isSkin) (mL := 3) (rt := (some .boolean)) (rm := { frames := 2, cells := 0, slots := 0, locals := 43 }) (av := [.ref a0, .int i0, .int i1]) (wc := [(a0, .inr (8, [.ref a1, .int 0, .int 0, .ref a2, .ref a3, .ref a4, .ref a5, .ref a6, .ref a7, .ref a8, .ref a9, .ref a10, .ref a11, .int 0, .int 0, .int 0]))]) (G := G) (sz := sz) (Qf := fun A => va_Qi (fun r _ => r = 0) (fun (u9 : KS) t => Bw G A [(a0, .inr (8, [.ref a1, .int 0, .int 0, .ref a2, .ref a3, .ref a4, .ref a5, .ref a6, .ref a7, .ref a8, .ref a9, .ref a10, .ref a11, .int 0, .int 0, .int 0]))] t) A) (by decide) (Nat.le_of_ble_eq_true rfl) ?_
  intro p e s m args below meth c ls A X hi hP hD hS hl
  have hx := X.1.1
  have hb := X.1.2.1
  have hi : meth.name = "isSkin" := hi
  have hl : lv_has ls 3 [(0, .ref a0), (1, .int i0), (2, .int i1)] := hl
  refine lv_iload_n hx hb dX11_isSkin_0 rfl (lv_at hl 2 rfl) ?_
  refine lv_if_le (tgt := 17) hx hb dX11_isSkin_1 (by decide) (fun c242 => ?_) (fun c242 => ?_)
  · refine lv_iconst (v := 0) hx hb dX11_isSkin_17 (by decide) ?_
    exact m_zret X hP hD hS ((fun _ => 0), (fun _ _ => 0)) [0] (by decide) rfl (by decide) rfl (Nat.le_of_ble_eq_true rfl) (Nat.le_of_ble_eq_true rfl) dX11_isSkin_18
  · refine lv_aload_n hx hb dX11_isSkin_4 rfl (lv_at hl 0 rfl) ?_
    refine lv_iload_n hx hb dX11_isSkin_5 rfl (lv_at hl 1 rfl) ?_
    refine lv_iload_n hx hb dX11_isSkin_6 rfl (lv_at hl 2 rfl) ?_
    refine m_cVi (n := 2) (wr := []) (C := RX11) (T := TX11) (N := 16) (ci := 8) (As := [.int i0, .int i1]) (rest := []) X hP hD hS (k38_X11_isRoom l G a0 i0 i1 a1 a2 a3 a4 a5 a6 a7 a8 a9 a10 a11) [0] [] rfl rfl (by decide) (by decide) (by decide) rfl rfl qw_827 qw_828 qw_829 qw_2 qw_830 ⟨rfl, by decide +kernel, by decide +kernel, by decide +kernel⟩ ⟨Nat.le_of_ble_eq_true rfl, Nat.le_of_ble_eq_true rfl⟩ hl rfl rfl (Nat.le_of_ble_eq_true rfl) dX11_isSkin_7 ⟨Nat.le_of_ble_eq_true rfl, Nat.le_of_ble_eq_true rfl⟩ (fun r9 u244 H locs hw hP hD hS => ?_)
    have hP : va_P G.1 vwCl [(a0, .inr (8, [.ref a1, .int 0, .int 0, .ref a2, .ref a3, .ref a4, .ref a5, .ref a6, .ref a7, .ref a8, .ref a9, .ref a10, .ref a11, .int 0, .int 0, .int 0]))] H := hP
    have hD : va_D A [(a0, .inr (8, [.ref a1, .int 0, .int 0, .ref a2, .ref a3, .ref a4, .ref a5, .ref a6, .ref a7, .ref a8, .ref a9, .ref a10, .ref a11, .int 0, .int 0, .int 0]))] := hD
    obtain rfl : r9 = 0 := hw
    refine lv_if_eq (tgt := 17) hx hb dX11_isSkin_10 (by decide) (fun _ => ?_) (fun c9 => absurd c9 (by decide))
    refine lv_iconst (v := 0) hx hb dX11_isSkin_17 (by decide) ?_
    exact m_zret X hP hD hS ((fun _ => 0), (fun _ _ => 0)) [0] (by decide) rfl (by decide) rfl (Nat.le_of_ble_eq_true rfl) (Nat.le_of_ble_eq_true rfl) dX11_isSkin_18
set_option maxHeartbeats 4000000 in
set_option maxRecDepth 100000 in
theorem k40_X11_skin (l : Launch) (G : KG) (a0 : Nat) (i0 : Int32) (i1 : Int32) (i2 : Int32) (a1 : Nat) (a2 : Nat) (a3 : Nat) (a4 : Nat) (a5 : Nat) (a6 : Nat) (a7 : Nat) (a8 : Nat) (a9 : Nat) (a10 : Nat) (a11 : Nat) (sz : Nat) : Met l yX11_skin (.code yX11_skin cX11_skin 4 (some .int) :: wsL_law) { frames := 3, cells := 0, slots := 0, locals := 65 } (va_Pc [.ref a0, .int i0, .int i1, .int i2] (Pw G [(a0, .inr (8, [.ref a1, .int 0, .int 0, .ref a2, .ref a3, .ref a4, .ref a5, .ref a6, .ref a7, .ref a8, .ref a9, .ref a10, .ref a11, .int 0, .int 0, .int 0]))] sz)) (va_Qi (fun r _ => r = (-1)) (fun (u9 : KS) t => Bw G (va_A [(a0, .inr (8, [.ref a1, .int 0, .int 0, .ref a2, .ref a3, .ref a4, .ref a5, .ref a6, .ref a7, .ref a8, .ref a9, .ref a10, .ref a11, .int 0, .int 0, .int 0]))] sz) [] t) (va_A [(a0, .inr (8, [.ref a1, .int 0, .int 0, .ref a2, .ref a3, .ref a4, .ref a5, .ref a6, .ref a7, .ref a8, .ref a9, .ref a10, .ref a11, .int 0, .int 0, .int 0]))] sz)) 0 0 (va_A [(a0, .inr (8, [.ref a1, .int 0, .int 0, .ref a2, .ref a3, .ref a4, .ref a5, .ref a6, .ref a7, .ref a8, .ref a9, .ref a10, .ref a11, .int 0, .int 0, .int 0]))] sz) := by
  refine m_body (y := yX11_skin) (cd := cX11_skin) (mL := 4) (rt := (some .int)) (rm := { frames := 3, cells := 0, slots := 0, locals := 65 }) (av := [.ref a0, .int i0, .int i1, .int i2]) (wc := [(a0, .inr (8, [.ref a1, .int 0, .int 0, .ref a2, .ref a3, .ref a4, .ref a5, .ref a6, .ref a7, .ref a8, .ref a9, .ref a10, .ref a11, .int 0, .int 0, .int 0]))]) (G := G) (sz := sz) (Qf := fun A => va_Qi (fun r _ => r = (-1)) (fun (u9 : KS) t => Bw G A [] t) A) (by decide) (Nat.le_of_ble_eq_true rfl) ?_
  intro p e s m args below meth c ls A X hi hP hD hS hl
  have hx := X.1.1
  have hb := X.1.2.1
  have hi : meth.name = "skin" := hi
  have hl : lv_has ls 4 [(0, .ref a0), (1, .int i0), (2, .int i1), (3, .int i2)] := hl
  refine lv_aload_n hx hb dX11_skin_0 rfl (lv_at hl 0 rfl) ?_
  refine lv_iload_n hx hb dX11_skin_1 rfl (lv_at hl 1 rfl) ?_
  refine lv_iload_n hx hb dX11_skin_2 rfl (lv_at hl 2 rfl) ?_
  refine m_cVi (n := 2) (wr := []) (C := RX11) (T := TX11) (N := 16) (ci := 8) (As := [.int i0, .int i1]) (rest := []) X hP hD hS (k39_X11_isSkin l G a0 i0 i1 a1 a2 a3 a4 a5 a6 a7 a8 a9 a10 a11) [0] [] rfl rfl (by decide) (by decide) (by decide) rfl rfl qw_823 qw_824 qw_825 qw_2 qw_826 ⟨rfl, by decide +kernel, by decide +kernel, by decide +kernel⟩ ⟨Nat.le_of_ble_eq_true rfl, Nat.le_of_ble_eq_true rfl⟩ hl rfl rfl (Nat.le_of_ble_eq_true rfl) dX11_skin_3 ⟨Nat.le_of_ble_eq_true rfl, Nat.le_of_ble_eq_true rfl⟩ (fun r9 u245 H locs hw hP hD hS => ?_)
  have hP : va_P G.1 vwCl [(a0, .inr (8, [.ref a1, .int 0, .int 0, .ref a2, .ref a3, .ref a4, .ref a5, .ref a6, .ref a7, .ref a8, .ref a9, .ref a10, .ref a11, .int 0, .int 0, .int 0]))] H := hP
  have hD : va_D A [(a0, .inr (8, [.ref a1, .int 0, .int 0, .ref a2, .ref a3, .ref a4, .ref a5, .ref a6, .ref a7, .ref a8, .ref a9, .ref a10, .ref a11, .int 0, .int 0, .int 0]))] := hD
  obtain rfl : r9 = 0 := hw
  refine lv_if_eq (tgt := 19) hx hb dX11_skin_6 (by decide) (fun _ => ?_) (fun c9 => absurd c9 (by decide))
  refine lv_aload_n hx hb dX11_skin_19 rfl (lv_at hl 0 rfl) ?_
  refine lv_iconst (v := 1) hx hb dX11_skin_20 (by decide) ?_
  refine m_cVi (n := 1) (wr := []) (C := RX11) (T := TX11) (N := 16) (ci := 8) (As := [.int 1]) (rest := []) X hP hD hS (k32_X11_refuse l G a0 a1 a2 a3 a4 a5 a6 a7 a8 a9 a10 a11) [0] [] rfl rfl (by decide) (by decide) (by decide) rfl rfl qw_152 qw_153 qw_154 qw_2 qw_155 ⟨rfl, by decide +kernel, by decide +kernel, by decide +kernel⟩ ⟨Nat.le_of_ble_eq_true rfl, Nat.le_of_ble_eq_true rfl⟩ hl rfl rfl (Nat.le_of_ble_eq_true rfl) dX11_skin_21 ⟨Nat.le_of_ble_eq_true rfl, Nat.le_of_ble_eq_true rfl⟩ (fun r9 u246 H locs hw hP hD hS => ?_)
  have hP : va_P G.1 vwCl [(a0, .inr (8, [.ref a1, .int 0, .int 0, .ref a2, .ref a3, .ref a4, .ref a5, .ref a6, .ref a7, .ref a8, .ref a9, .ref a10, .ref a11, .int 1, .int 0, .int 0]))] H := hP
  have hD : va_D A [(a0, .inr (8, [.ref a1, .int 0, .int 0, .ref a2, .ref a3, .ref a4, .ref a5, .ref a6, .ref a7, .ref a8, .ref a9, .ref a10, .ref a11, .int 1, .int 0, .int 0]))] := hD
  obtain rfl : r9 = (-1) := hw
  exact m_iret X hP hD hS ((fun _ => 0), (fun _ _ => 0)) [] (by decide) rfl rfl (Nat.le_of_ble_eq_true rfl) (Nat.le_of_ble_eq_true rfl) dX11_skin_24
set_option maxHeartbeats 4000000 in
set_option maxRecDepth 100000 in
theorem k41_X11_warm (l : Launch) (G : KG) (a0 : Nat) (i0 : Int32) (i1 : Int32) (a1 : Nat) (a2 : Nat) (a3 : Nat) (a4 : Nat) (a5 : Nat) (a6 : Nat) (a7 : Nat) (a8 : Nat) (a9 : Nat) (a10 : Nat) (a11 : Nat) (sz : Nat) : Met l yX11_warm (.code yX11_warm cX11_warm 3 (some .int) :: wsL_law) { frames := 2, cells := 0, slots := 0, locals := 43 } (va_Pc [.ref a0, .int i0, .int i1] (Pw G [(a0, .inr (8, [.ref a1, .int 0, .int 0, .ref a2, .ref a3, .ref a4, .ref a5, .ref a6, .ref a7, .ref a8, .ref a9, .ref a10, .ref a11, .int 0, .int 0, .int 0]))] sz)) (va_Qi (fun r _ => r = (-1)) (fun (u9 : KS) t => Bw G (va_A [(a0, .inr (8, [.ref a1, .int 0, .int 0, .ref a2, .ref a3, .ref a4, .ref a5, .ref a6, .ref a7, .ref a8, .ref a9, .ref a10, .ref a11, .int 0, .int 0, .int 0]))] sz) [] t) (va_A [(a0, .inr (8, [.ref a1, .int 0, .int 0, .ref a2, .ref a3, .ref a4, .ref a5, .ref a6, .ref a7, .ref a8, .ref a9, .ref a10, .ref a11, .int 0, .int 0, .int 0]))] sz)) 0 0 (va_A [(a0, .inr (8, [.ref a1, .int 0, .int 0, .ref a2, .ref a3, .ref a4, .ref a5, .ref a6, .ref a7, .ref a8, .ref a9, .ref a10, .ref a11, .int 0, .int 0, .int 0]))] sz) := by
  refine m_body (y := yX11_warm) (cd := cX11_warm) (mL := 3) (rt := (some .int)) (rm := { frames := 2, cells := 0, slots := 0, locals := 43 }) (av := [.ref a0, .int i0, .int i1]) (wc := [(a0, .inr (8, [.ref a1, .int 0, .int 0, .ref a2, .ref a3, .ref a4, .ref a5, .ref a6, .ref a7, .ref a8, .ref a9, .ref a10, .ref a11, .int 0, .int 0, .int 0]))]) (G := G) (sz := sz) (Qf := fun A => va_Qi (fun r _ => r = (-1)) (fun (u9 : KS) t => Bw G A [] t) A) (by decide) (Nat.le_of_ble_eq_true rfl) ?_
  intro p e s m args below meth c ls A X hi hP hD hS hl
  have hx := X.1.1
  have hb := X.1.2.1
  have hi : meth.name = "warm" := hi
  have hl : lv_has ls 3 [(0, .ref a0), (1, .int i0), (2, .int i1)] := hl
  refine lv_aload_n hx hb dX11_warm_0 rfl (lv_at hl 0 rfl) ?_
  refine lv_iload_n hx hb dX11_warm_1 rfl (lv_at hl 1 rfl) ?_
  refine lv_iload_n hx hb dX11_warm_2 rfl (lv_at hl 2 rfl) ?_
  refine m_cVi (n := 2) (wr := []) (C := RX11) (T := TX11) (N := 16) (ci := 8) (As := [.int i0, .int i1]) (rest := []) X hP hD hS (k38_X11_isRoom l G a0 i0 i1 a1 a2 a3 a4 a5 a6 a7 a8 a9 a10 a11) [0] [] rfl rfl (by decide) (by decide) (by decide) rfl rfl qw_827 qw_828 qw_829 qw_2 qw_830 ⟨rfl, by decide +kernel, by decide +kernel, by decide +kernel⟩ ⟨Nat.le_of_ble_eq_true rfl, Nat.le_of_ble_eq_true rfl⟩ hl rfl rfl (Nat.le_of_ble_eq_true rfl) dX11_warm_3 ⟨Nat.le_of_ble_eq_true rfl, Nat.le_of_ble_eq_true rfl⟩ (fun r9 u247 H locs hw hP hD hS => ?_)
  have hP : va_P G.1 vwCl [(a0, .inr (8, [.ref a1, .int 0, .int 0, .ref a2, .ref a3, .ref a4, .ref a5, .ref a6, .ref a7, .ref a8, .ref a9, .ref a10, .ref a11, .int 0, .int 0, .int 0]))] H := hP
  have hD : va_D A [(a0, .inr (8, [.ref a1, .int 0, .int 0, .ref a2, .ref a3, .ref a4, .ref a5, .ref a6, .ref a7, .ref a8, .ref a9, .ref a10, .ref a11, .int 0, .int 0, .int 0]))] := hD
  obtain rfl : r9 = 0 := hw
  refine lv_if_ne (tgt := 15) hx hb dX11_warm_6 (by decide) (fun c9 => absurd c9 (by decide)) (fun _ => ?_)
  refine lv_aload_n hx hb dX11_warm_9 rfl (lv_at hl 0 rfl) ?_
  refine lv_iconst (v := 1) hx hb dX11_warm_10 (by decide) ?_
  refine m_cVi (n := 1) (wr := []) (C := RX11) (T := TX11) (N := 16) (ci := 8) (As := [.int 1]) (rest := []) X hP hD hS (k32_X11_refuse l G a0 a1 a2 a3 a4 a5 a6 a7 a8 a9 a10 a11) [0] [] rfl rfl (by decide) (by decide) (by decide) rfl rfl qw_152 qw_153 qw_154 qw_2 qw_155 ⟨rfl, by decide +kernel, by decide +kernel, by decide +kernel⟩ ⟨Nat.le_of_ble_eq_true rfl, Nat.le_of_ble_eq_true rfl⟩ hl rfl rfl (Nat.le_of_ble_eq_true rfl) dX11_warm_11 ⟨Nat.le_of_ble_eq_true rfl, Nat.le_of_ble_eq_true rfl⟩ (fun r9 u248 H locs hw hP hD hS => ?_)
  have hP : va_P G.1 vwCl [(a0, .inr (8, [.ref a1, .int 0, .int 0, .ref a2, .ref a3, .ref a4, .ref a5, .ref a6, .ref a7, .ref a8, .ref a9, .ref a10, .ref a11, .int 1, .int 0, .int 0]))] H := hP
  have hD : va_D A [(a0, .inr (8, [.ref a1, .int 0, .int 0, .ref a2, .ref a3, .ref a4, .ref a5, .ref a6, .ref a7, .ref a8, .ref a9, .ref a10, .ref a11, .int 1, .int 0, .int 0]))] := hD
  obtain rfl : r9 = (-1) := hw
  exact m_iret X hP hD hS ((fun _ => 0), (fun _ _ => 0)) [] (by decide) rfl rfl (Nat.le_of_ble_eq_true rfl) (Nat.le_of_ble_eq_true rfl) dX11_warm_14
set_option maxHeartbeats 4000000 in
set_option maxRecDepth 100000 in
theorem k42_X11_light (l : Launch) (G : KG) (a0 : Nat) (i0 : Int32) (i1 : Int32) (a1 : Nat) (a2 : Nat) (a3 : Nat) (a4 : Nat) (a5 : Nat) (a6 : Nat) (a7 : Nat) (a8 : Nat) (a9 : Nat) (a10 : Nat) (a11 : Nat) (sz : Nat) : Met l yX11_light (.code yX11_light cX11_light 3 (some .int) :: wsL_law) { frames := 2, cells := 0, slots := 0, locals := 43 } (va_Pc [.ref a0, .int i0, .int i1] (Pw G [(a0, .inr (8, [.ref a1, .int 0, .int 0, .ref a2, .ref a3, .ref a4, .ref a5, .ref a6, .ref a7, .ref a8, .ref a9, .ref a10, .ref a11, .int 0, .int 0, .int 0]))] sz)) (va_Qi (fun r _ => r = (-1)) (fun (u9 : KS) t => Bw G (va_A [(a0, .inr (8, [.ref a1, .int 0, .int 0, .ref a2, .ref a3, .ref a4, .ref a5, .ref a6, .ref a7, .ref a8, .ref a9, .ref a10, .ref a11, .int 0, .int 0, .int 0]))] sz) [] t) (va_A [(a0, .inr (8, [.ref a1, .int 0, .int 0, .ref a2, .ref a3, .ref a4, .ref a5, .ref a6, .ref a7, .ref a8, .ref a9, .ref a10, .ref a11, .int 0, .int 0, .int 0]))] sz)) 0 0 (va_A [(a0, .inr (8, [.ref a1, .int 0, .int 0, .ref a2, .ref a3, .ref a4, .ref a5, .ref a6, .ref a7, .ref a8, .ref a9, .ref a10, .ref a11, .int 0, .int 0, .int 0]))] sz) := by
  refine m_body (y := yX11_light) (cd := cX11_light) (mL := 3) (rt := (some .int)) (rm := { frames := 2, cells := 0, slots := 0, locals := 43 }) (av := [.ref a0, .int i0, .int i1]) (wc := [(a0, .inr (8, [.ref a1, .int 0, .int 0, .ref a2, .ref a3, .ref a4, .ref a5, .ref a6, .ref a7, .ref a8, .ref a9, .ref a10, .ref a11, .int 0, .int 0, .int 0]))]) (G := G) (sz := sz) (Qf := fun A => va_Qi (fun r _ => r = (-1)) (fun (u9 : KS) t => Bw G A [] t) A) (by decide) (Nat.le_of_ble_eq_true rfl) ?_
  intro p e s m args below meth c ls A X hi hP hD hS hl
  have hx := X.1.1
  have hb := X.1.2.1
  have hi : meth.name = "light" := hi
  have hl : lv_has ls 3 [(0, .ref a0), (1, .int i0), (2, .int i1)] := hl
  refine lv_aload_n hx hb dX11_light_0 rfl (lv_at hl 0 rfl) ?_
  refine lv_iload_n hx hb dX11_light_1 rfl (lv_at hl 1 rfl) ?_
  refine lv_iload_n hx hb dX11_light_2 rfl (lv_at hl 2 rfl) ?_
  refine m_cVi (n := 2) (wr := []) (C := RX11) (T := TX11) (N := 16) (ci := 8) (As := [.int i0, .int i1]) (rest := []) X hP hD hS (k38_X11_isRoom l G a0 i0 i1 a1 a2 a3 a4 a5 a6 a7 a8 a9 a10 a11) [0] [] rfl rfl (by decide) (by decide) (by decide) rfl rfl qw_827 qw_828 qw_829 qw_2 qw_830 ⟨rfl, by decide +kernel, by decide +kernel, by decide +kernel⟩ ⟨Nat.le_of_ble_eq_true rfl, Nat.le_of_ble_eq_true rfl⟩ hl rfl rfl (Nat.le_of_ble_eq_true rfl) dX11_light_3 ⟨Nat.le_of_ble_eq_true rfl, Nat.le_of_ble_eq_true rfl⟩ (fun r9 u249 H locs hw hP hD hS => ?_)
  have hP : va_P G.1 vwCl [(a0, .inr (8, [.ref a1, .int 0, .int 0, .ref a2, .ref a3, .ref a4, .ref a5, .ref a6, .ref a7, .ref a8, .ref a9, .ref a10, .ref a11, .int 0, .int 0, .int 0]))] H := hP
  have hD : va_D A [(a0, .inr (8, [.ref a1, .int 0, .int 0, .ref a2, .ref a3, .ref a4, .ref a5, .ref a6, .ref a7, .ref a8, .ref a9, .ref a10, .ref a11, .int 0, .int 0, .int 0]))] := hD
  obtain rfl : r9 = 0 := hw
  refine lv_if_ne (tgt := 15) hx hb dX11_light_6 (by decide) (fun c9 => absurd c9 (by decide)) (fun _ => ?_)
  refine lv_aload_n hx hb dX11_light_9 rfl (lv_at hl 0 rfl) ?_
  refine lv_iconst (v := 1) hx hb dX11_light_10 (by decide) ?_
  refine m_cVi (n := 1) (wr := []) (C := RX11) (T := TX11) (N := 16) (ci := 8) (As := [.int 1]) (rest := []) X hP hD hS (k32_X11_refuse l G a0 a1 a2 a3 a4 a5 a6 a7 a8 a9 a10 a11) [0] [] rfl rfl (by decide) (by decide) (by decide) rfl rfl qw_152 qw_153 qw_154 qw_2 qw_155 ⟨rfl, by decide +kernel, by decide +kernel, by decide +kernel⟩ ⟨Nat.le_of_ble_eq_true rfl, Nat.le_of_ble_eq_true rfl⟩ hl rfl rfl (Nat.le_of_ble_eq_true rfl) dX11_light_11 ⟨Nat.le_of_ble_eq_true rfl, Nat.le_of_ble_eq_true rfl⟩ (fun r9 u250 H locs hw hP hD hS => ?_)
  have hP : va_P G.1 vwCl [(a0, .inr (8, [.ref a1, .int 0, .int 0, .ref a2, .ref a3, .ref a4, .ref a5, .ref a6, .ref a7, .ref a8, .ref a9, .ref a10, .ref a11, .int 1, .int 0, .int 0]))] H := hP
  have hD : va_D A [(a0, .inr (8, [.ref a1, .int 0, .int 0, .ref a2, .ref a3, .ref a4, .ref a5, .ref a6, .ref a7, .ref a8, .ref a9, .ref a10, .ref a11, .int 1, .int 0, .int 0]))] := hD
  obtain rfl : r9 = (-1) := hw
  exact m_iret X hP hD hS ((fun _ => 0), (fun _ _ => 0)) [] (by decide) rfl rfl (Nat.le_of_ble_eq_true rfl) (Nat.le_of_ble_eq_true rfl) dX11_light_14
set_option maxHeartbeats 4000000 in
set_option maxRecDepth 100000 in
theorem k43_X11_isHeir (l : Launch) (G : KG) (a0 : Nat) (i0 : Int32) (a1 : Nat) (a2 : Nat) (a3 : Nat) (a4 : Nat) (a5 : Nat) (a6 : Nat) (a7 : Nat) (a8 : Nat) (a9 : Nat) (a10 : Nat) (a11 : Nat) (sz : Nat) : Met l yX11_isHeir (.code yX11_isHeir cX11_isHeir 2 (some .boolean) :: wsL_law) { frames := 0, cells := 0, slots := 0, locals := 0 } (va_Pc [.ref a0, .int i0] (Pw G [(a0, .inr (8, [.ref a1, .int 0, .int 0, .ref a2, .ref a3, .ref a4, .ref a5, .ref a6, .ref a7, .ref a8, .ref a9, .ref a10, .ref a11, .int 0, .int 0, .int 0]))] sz)) (va_Qi (fun r _ => r = 0) (fun (u9 : KS) t => Bw G (va_A [(a0, .inr (8, [.ref a1, .int 0, .int 0, .ref a2, .ref a3, .ref a4, .ref a5, .ref a6, .ref a7, .ref a8, .ref a9, .ref a10, .ref a11, .int 0, .int 0, .int 0]))] sz) [(a0, .inr (8, [.ref a1, .int 0, .int 0, .ref a2, .ref a3, .ref a4, .ref a5, .ref a6, .ref a7, .ref a8, .ref a9, .ref a10, .ref a11, .int 0, .int 0, .int 0]))] t) (va_A [(a0, .inr (8, [.ref a1, .int 0, .int 0, .ref a2, .ref a3, .ref a4, .ref a5, .ref a6, .ref a7, .ref a8, .ref a9, .ref a10, .ref a11, .int 0, .int 0, .int 0]))] sz)) 0 0 (va_A [(a0, .inr (8, [.ref a1, .int 0, .int 0, .ref a2, .ref a3, .ref a4, .ref a5, .ref a6, .ref a7, .ref a8, .ref a9, .ref a10, .ref a11, .int 0, .int 0, .int 0]))] sz) := by
  refine m_body (y := yX11_isHeir) (cd := cX11_isHeir) (mL := 2) (rt := (some .boolean)) (rm := { frames := 0, cells := 0, slots := 0, locals := 0 }) (av := [.ref a0, .int i0]) (wc := [(a0, .inr (8, [.ref a1, .int 0, .int 0, .ref a2, .ref a3, .ref a4, .ref a5, .ref a6, .ref a7, .ref a8, .ref a9, .ref a10, .ref a11, .int 0, .int 0, .int 0]))]) (G := G) (sz := sz) (Qf := fun A => va_Qi (fun r _ => r = 0) (fun (u9 : KS) t => Bw G A [(a0, .inr (8, [.ref a1, .int 0, .int 0, .ref a2, .ref a3, .ref a4, .ref a5, .ref a6, .ref a7, .ref a8, .ref a9, .ref a10, .ref a11, .int 0, .int 0, .int 0]))] t) A) (by decide) (Nat.le_of_ble_eq_true rfl) ?_
  intro p e s m args below meth c ls A X hi hP hD hS hl
  have hx := X.1.1
  have hb := X.1.2.1
  have hi : meth.name = "isHeir" := hi
  have hl : lv_has ls 2 [(0, .ref a0), (1, .int i0)] := hl
  refine lv_aload_n hx hb dX11_isHeir_0 rfl (lv_at hl 0 rfl) ?_
  refine m_get (C := RX11) (T := TX11) (N := 16) (ci := 8) (v := .int 0) X hP 0 rfl rfl 2 (by decide) qw_150 inlX11 rfl dX11_isHeir_1 ?_
  refine lv_if_eq (tgt := 26) hx hb dX11_isHeir_4 (by decide) (fun _ => ?_) (fun c9 => absurd c9 (by decide))
  refine lv_iconst (v := 0) hx hb dX11_isHeir_26 (by decide) ?_
  exact m_zret X hP hD hS ((fun _ => 0), (fun _ _ => 0)) [0] (by decide) rfl (by decide) rfl (Nat.le_of_ble_eq_true rfl) (Nat.le_of_ble_eq_true rfl) dX11_isHeir_27
set_option maxHeartbeats 4000000 in
set_option maxRecDepth 100000 in
theorem k44_X11_heir (l : Launch) (G : KG) (a0 : Nat) (i0 : Int32) (i1 : Int32) (a1 : Nat) (a2 : Nat) (a3 : Nat) (a4 : Nat) (a5 : Nat) (a6 : Nat) (a7 : Nat) (a8 : Nat) (a9 : Nat) (a10 : Nat) (a11 : Nat) (sz : Nat) : Met l yX11_heir (.code yX11_heir cX11_heir 3 (some .int) :: wsL_law) { frames := 1, cells := 0, slots := 0, locals := 21 } (va_Pc [.ref a0, .int i0, .int i1] (Pw G [(a0, .inr (8, [.ref a1, .int 0, .int 0, .ref a2, .ref a3, .ref a4, .ref a5, .ref a6, .ref a7, .ref a8, .ref a9, .ref a10, .ref a11, .int 0, .int 0, .int 0]))] sz)) (va_Qi (fun r _ => r = (-1)) (fun (u9 : KS) t => Bw G (va_A [(a0, .inr (8, [.ref a1, .int 0, .int 0, .ref a2, .ref a3, .ref a4, .ref a5, .ref a6, .ref a7, .ref a8, .ref a9, .ref a10, .ref a11, .int 0, .int 0, .int 0]))] sz) [] t) (va_A [(a0, .inr (8, [.ref a1, .int 0, .int 0, .ref a2, .ref a3, .ref a4, .ref a5, .ref a6, .ref a7, .ref a8, .ref a9, .ref a10, .ref a11, .int 0, .int 0, .int 0]))] sz)) 0 0 (va_A [(a0, .inr (8, [.ref a1, .int 0, .int 0, .ref a2, .ref a3, .ref a4, .ref a5, .ref a6, .ref a7, .ref a8, .ref a9, .ref a10, .ref a11, .int 0, .int 0, .int 0]))] sz) := by
  refine m_body (y := yX11_heir) (cd := cX11_heir) (mL := 3) (rt := (some .int)) (rm := { frames := 1, cells := 0, slots := 0, locals := 21 }) (av := [.ref a0, .int i0, .int i1]) (wc := [(a0, .inr (8, [.ref a1, .int 0, .int 0, .ref a2, .ref a3, .ref a4, .ref a5, .ref a6, .ref a7, .ref a8, .ref a9, .ref a10, .ref a11, .int 0, .int 0, .int 0]))]) (G := G) (sz := sz) (Qf := fun A => va_Qi (fun r _ => r = (-1)) (fun (u9 : KS) t => Bw G A [] t) A) (by decide) (Nat.le_of_ble_eq_true rfl) ?_
  intro p e s m args below meth c ls A X hi hP hD hS hl
  have hx := X.1.1
  have hb := X.1.2.1
  have hi : meth.name = "heir" := hi
  have hl : lv_has ls 3 [(0, .ref a0), (1, .int i0), (2, .int i1)] := hl
  refine lv_aload_n hx hb dX11_heir_0 rfl (lv_at hl 0 rfl) ?_
  refine lv_iload_n hx hb dX11_heir_1 rfl (lv_at hl 1 rfl) ?_
  refine m_cVi (n := 1) (wr := []) (C := RX11) (T := TX11) (N := 16) (ci := 8) (As := [.int i0]) (rest := []) X hP hD hS (k43_X11_isHeir l G a0 i0 a1 a2 a3 a4 a5 a6 a7 a8 a9 a10 a11) [0] [] rfl rfl (by decide) (by decide) (by decide) rfl rfl qw_887 qw_888 qw_889 qw_2 qw_890 ⟨rfl, by decide +kernel, by decide +kernel, by decide +kernel⟩ ⟨Nat.le_of_ble_eq_true rfl, Nat.le_of_ble_eq_true rfl⟩ hl rfl rfl (Nat.le_of_ble_eq_true rfl) dX11_heir_2 ⟨Nat.le_of_ble_eq_true rfl, Nat.le_of_ble_eq_true rfl⟩ (fun r9 u251 H locs hw hP hD hS => ?_)
  have hP : va_P G.1 vwCl [(a0, .inr (8, [.ref a1, .int 0, .int 0, .ref a2, .ref a3, .ref a4, .ref a5, .ref a6, .ref a7, .ref a8, .ref a9, .ref a10, .ref a11, .int 0, .int 0, .int 0]))] H := hP
  have hD : va_D A [(a0, .inr (8, [.ref a1, .int 0, .int 0, .ref a2, .ref a3, .ref a4, .ref a5, .ref a6, .ref a7, .ref a8, .ref a9, .ref a10, .ref a11, .int 0, .int 0, .int 0]))] := hD
  obtain rfl : r9 = 0 := hw
  refine lv_if_ne (tgt := 14) hx hb dX11_heir_5 (by decide) (fun c9 => absurd c9 (by decide)) (fun _ => ?_)
  refine lv_aload_n hx hb dX11_heir_8 rfl (lv_at hl 0 rfl) ?_
  refine lv_iconst (v := 1) hx hb dX11_heir_9 (by decide) ?_
  refine m_cVi (n := 1) (wr := []) (C := RX11) (T := TX11) (N := 16) (ci := 8) (As := [.int 1]) (rest := []) X hP hD hS (k32_X11_refuse l G a0 a1 a2 a3 a4 a5 a6 a7 a8 a9 a10 a11) [0] [] rfl rfl (by decide) (by decide) (by decide) rfl rfl qw_152 qw_153 qw_154 qw_2 qw_155 ⟨rfl, by decide +kernel, by decide +kernel, by decide +kernel⟩ ⟨Nat.le_of_ble_eq_true rfl, Nat.le_of_ble_eq_true rfl⟩ hl rfl rfl (Nat.le_of_ble_eq_true rfl) dX11_heir_10 ⟨Nat.le_of_ble_eq_true rfl, Nat.le_of_ble_eq_true rfl⟩ (fun r9 u252 H locs hw hP hD hS => ?_)
  have hP : va_P G.1 vwCl [(a0, .inr (8, [.ref a1, .int 0, .int 0, .ref a2, .ref a3, .ref a4, .ref a5, .ref a6, .ref a7, .ref a8, .ref a9, .ref a10, .ref a11, .int 1, .int 0, .int 0]))] H := hP
  have hD : va_D A [(a0, .inr (8, [.ref a1, .int 0, .int 0, .ref a2, .ref a3, .ref a4, .ref a5, .ref a6, .ref a7, .ref a8, .ref a9, .ref a10, .ref a11, .int 1, .int 0, .int 0]))] := hD
  obtain rfl : r9 = (-1) := hw
  exact m_iret X hP hD hS ((fun _ => 0), (fun _ _ => 0)) [] (by decide) rfl rfl (Nat.le_of_ble_eq_true rfl) (Nat.le_of_ble_eq_true rfl) dX11_heir_13
set_option maxHeartbeats 4000000 in
set_option maxRecDepth 100000 in
theorem k45_X11_fits (l : Launch) (G : KG) (a0 : Nat) (i0 : Int32) (a1 : Nat) (a2 : Nat) (a3 : Nat) (a4 : Nat) (a5 : Nat) (a6 : Nat) (a7 : Nat) (a8 : Nat) (a9 : Nat) (a10 : Nat) (a11 : Nat) (sz : Nat) : Met l yX11_fits (.code yX11_fits cX11_fits 2 (some .int) :: wsL_law) { frames := 1, cells := 0, slots := 0, locals := 21 } (va_Pc [.ref a0, .int i0] (Pw G [(a0, .inr (8, [.ref a1, .int 0, .int 0, .ref a2, .ref a3, .ref a4, .ref a5, .ref a6, .ref a7, .ref a8, .ref a9, .ref a10, .ref a11, .int 0, .int 0, .int 0]))] sz)) (va_Qi (fun r _ => r = (-1)) (fun (u9 : KS) t => Bw G (va_A [(a0, .inr (8, [.ref a1, .int 0, .int 0, .ref a2, .ref a3, .ref a4, .ref a5, .ref a6, .ref a7, .ref a8, .ref a9, .ref a10, .ref a11, .int 0, .int 0, .int 0]))] sz) [] t) (va_A [(a0, .inr (8, [.ref a1, .int 0, .int 0, .ref a2, .ref a3, .ref a4, .ref a5, .ref a6, .ref a7, .ref a8, .ref a9, .ref a10, .ref a11, .int 0, .int 0, .int 0]))] sz)) 0 0 (va_A [(a0, .inr (8, [.ref a1, .int 0, .int 0, .ref a2, .ref a3, .ref a4, .ref a5, .ref a6, .ref a7, .ref a8, .ref a9, .ref a10, .ref a11, .int 0, .int 0, .int 0]))] sz) := by
  refine m_body (y := yX11_fits) (cd := cX11_fits) (mL := 2) (rt := (some .int)) (rm := { frames := 1, cells := 0, slots := 0, locals := 21 }) (av := [.ref a0, .int i0]) (wc := [(a0, .inr (8, [.ref a1, .int 0, .int 0, .ref a2, .ref a3, .ref a4, .ref a5, .ref a6, .ref a7, .ref a8, .ref a9, .ref a10, .ref a11, .int 0, .int 0, .int 0]))]) (G := G) (sz := sz) (Qf := fun A => va_Qi (fun r _ => r = (-1)) (fun (u9 : KS) t => Bw G A [] t) A) (by decide) (Nat.le_of_ble_eq_true rfl) ?_
  intro p e s m args below meth c ls A X hi hP hD hS hl
  have hx := X.1.1
  have hb := X.1.2.1
  have hi : meth.name = "fits" := hi
  have hl : lv_has ls 2 [(0, .ref a0), (1, .int i0)] := hl
  refine lv_aload_n hx hb dX11_fits_0 rfl (lv_at hl 0 rfl) ?_
  refine lv_iload_n hx hb dX11_fits_1 rfl (lv_at hl 1 rfl) ?_
  refine m_cVi (n := 1) (wr := []) (C := RX11) (T := TX11) (N := 16) (ci := 8) (As := [.int i0]) (rest := []) X hP hD hS (k36_X11_isHouse l G a0 i0 a1 a2 a3 a4 a5 a6 a7 a8 a9 a10 a11) [0] [] rfl rfl (by decide) (by decide) (by decide) rfl rfl qw_770 qw_771 qw_772 qw_2 qw_773 ⟨rfl, by decide +kernel, by decide +kernel, by decide +kernel⟩ ⟨Nat.le_of_ble_eq_true rfl, Nat.le_of_ble_eq_true rfl⟩ hl rfl rfl (Nat.le_of_ble_eq_true rfl) dX11_fits_2 ⟨Nat.le_of_ble_eq_true rfl, Nat.le_of_ble_eq_true rfl⟩ (fun r9 u253 H locs hw hP hD hS => ?_)
  have hP : va_P G.1 vwCl [(a0, .inr (8, [.ref a1, .int 0, .int 0, .ref a2, .ref a3, .ref a4, .ref a5, .ref a6, .ref a7, .ref a8, .ref a9, .ref a10, .ref a11, .int 0, .int 0, .int 0]))] H := hP
  have hD : va_D A [(a0, .inr (8, [.ref a1, .int 0, .int 0, .ref a2, .ref a3, .ref a4, .ref a5, .ref a6, .ref a7, .ref a8, .ref a9, .ref a10, .ref a11, .int 0, .int 0, .int 0]))] := hD
  obtain rfl : r9 = 0 := hw
  refine lv_if_ne (tgt := 14) hx hb dX11_fits_5 (by decide) (fun c9 => absurd c9 (by decide)) (fun _ => ?_)
  refine lv_aload_n hx hb dX11_fits_8 rfl (lv_at hl 0 rfl) ?_
  refine lv_iconst (v := 1) hx hb dX11_fits_9 (by decide) ?_
  refine m_cVi (n := 1) (wr := []) (C := RX11) (T := TX11) (N := 16) (ci := 8) (As := [.int 1]) (rest := []) X hP hD hS (k32_X11_refuse l G a0 a1 a2 a3 a4 a5 a6 a7 a8 a9 a10 a11) [0] [] rfl rfl (by decide) (by decide) (by decide) rfl rfl qw_152 qw_153 qw_154 qw_2 qw_155 ⟨rfl, by decide +kernel, by decide +kernel, by decide +kernel⟩ ⟨Nat.le_of_ble_eq_true rfl, Nat.le_of_ble_eq_true rfl⟩ hl rfl rfl (Nat.le_of_ble_eq_true rfl) dX11_fits_10 ⟨Nat.le_of_ble_eq_true rfl, Nat.le_of_ble_eq_true rfl⟩ (fun r9 u254 H locs hw hP hD hS => ?_)
  have hP : va_P G.1 vwCl [(a0, .inr (8, [.ref a1, .int 0, .int 0, .ref a2, .ref a3, .ref a4, .ref a5, .ref a6, .ref a7, .ref a8, .ref a9, .ref a10, .ref a11, .int 1, .int 0, .int 0]))] H := hP
  have hD : va_D A [(a0, .inr (8, [.ref a1, .int 0, .int 0, .ref a2, .ref a3, .ref a4, .ref a5, .ref a6, .ref a7, .ref a8, .ref a9, .ref a10, .ref a11, .int 1, .int 0, .int 0]))] := hD
  obtain rfl : r9 = (-1) := hw
  exact m_iret X hP hD hS ((fun _ => 0), (fun _ _ => 0)) [] (by decide) rfl rfl (Nat.le_of_ble_eq_true rfl) (Nat.le_of_ble_eq_true rfl) dX11_fits_13
set_option maxHeartbeats 4000000 in
set_option maxRecDepth 100000 in
theorem k46_X11_door (l : Launch) (G : KG) (a0 : Nat) (i0 : Int32) (a1 : Nat) (a2 : Nat) (a3 : Nat) (a4 : Nat) (a5 : Nat) (a6 : Nat) (a7 : Nat) (a8 : Nat) (a9 : Nat) (a10 : Nat) (a11 : Nat) (sz : Nat) : Met l yX11_door (.code yX11_door cX11_door 2 (some .int) :: wsL_law) { frames := 1, cells := 0, slots := 0, locals := 21 } (va_Pc [.ref a0, .int i0] (Pw G [(a0, .inr (8, [.ref a1, .int 0, .int 0, .ref a2, .ref a3, .ref a4, .ref a5, .ref a6, .ref a7, .ref a8, .ref a9, .ref a10, .ref a11, .int 0, .int 0, .int 0]))] sz)) (va_Qi (fun r _ => r = (-1)) (fun (u9 : KS) t => Bw G (va_A [(a0, .inr (8, [.ref a1, .int 0, .int 0, .ref a2, .ref a3, .ref a4, .ref a5, .ref a6, .ref a7, .ref a8, .ref a9, .ref a10, .ref a11, .int 0, .int 0, .int 0]))] sz) [] t) (va_A [(a0, .inr (8, [.ref a1, .int 0, .int 0, .ref a2, .ref a3, .ref a4, .ref a5, .ref a6, .ref a7, .ref a8, .ref a9, .ref a10, .ref a11, .int 0, .int 0, .int 0]))] sz)) 0 0 (va_A [(a0, .inr (8, [.ref a1, .int 0, .int 0, .ref a2, .ref a3, .ref a4, .ref a5, .ref a6, .ref a7, .ref a8, .ref a9, .ref a10, .ref a11, .int 0, .int 0, .int 0]))] sz) := by
  refine m_body (y := yX11_door) (cd := cX11_door) (mL := 2) (rt := (some .int)) (rm := { frames := 1, cells := 0, slots := 0, locals := 21 }) (av := [.ref a0, .int i0]) (wc := [(a0, .inr (8, [.ref a1, .int 0, .int 0, .ref a2, .ref a3, .ref a4, .ref a5, .ref a6, .ref a7, .ref a8, .ref a9, .ref a10, .ref a11, .int 0, .int 0, .int 0]))]) (G := G) (sz := sz) (Qf := fun A => va_Qi (fun r _ => r = (-1)) (fun (u9 : KS) t => Bw G A [] t) A) (by decide) (Nat.le_of_ble_eq_true rfl) ?_
  intro p e s m args below meth c ls A X hi hP hD hS hl
  have hx := X.1.1
  have hb := X.1.2.1
  have hi : meth.name = "door" := hi
  have hl : lv_has ls 2 [(0, .ref a0), (1, .int i0)] := hl
  refine lv_aload_n hx hb dX11_door_0 rfl (lv_at hl 0 rfl) ?_
  refine lv_iload_n hx hb dX11_door_1 rfl (lv_at hl 1 rfl) ?_
  refine m_cVi (n := 1) (wr := []) (C := RX11) (T := TX11) (N := 16) (ci := 8) (As := [.int i0]) (rest := []) X hP hD hS (k36_X11_isHouse l G a0 i0 a1 a2 a3 a4 a5 a6 a7 a8 a9 a10 a11) [0] [] rfl rfl (by decide) (by decide) (by decide) rfl rfl qw_770 qw_771 qw_772 qw_2 qw_773 ⟨rfl, by decide +kernel, by decide +kernel, by decide +kernel⟩ ⟨Nat.le_of_ble_eq_true rfl, Nat.le_of_ble_eq_true rfl⟩ hl rfl rfl (Nat.le_of_ble_eq_true rfl) dX11_door_2 ⟨Nat.le_of_ble_eq_true rfl, Nat.le_of_ble_eq_true rfl⟩ (fun r9 u255 H locs hw hP hD hS => ?_)
  have hP : va_P G.1 vwCl [(a0, .inr (8, [.ref a1, .int 0, .int 0, .ref a2, .ref a3, .ref a4, .ref a5, .ref a6, .ref a7, .ref a8, .ref a9, .ref a10, .ref a11, .int 0, .int 0, .int 0]))] H := hP
  have hD : va_D A [(a0, .inr (8, [.ref a1, .int 0, .int 0, .ref a2, .ref a3, .ref a4, .ref a5, .ref a6, .ref a7, .ref a8, .ref a9, .ref a10, .ref a11, .int 0, .int 0, .int 0]))] := hD
  obtain rfl : r9 = 0 := hw
  refine lv_if_ne (tgt := 14) hx hb dX11_door_5 (by decide) (fun c9 => absurd c9 (by decide)) (fun _ => ?_)
  refine lv_aload_n hx hb dX11_door_8 rfl (lv_at hl 0 rfl) ?_
  refine lv_iconst (v := 1) hx hb dX11_door_9 (by decide) ?_
  refine m_cVi (n := 1) (wr := []) (C := RX11) (T := TX11) (N := 16) (ci := 8) (As := [.int 1]) (rest := []) X hP hD hS (k32_X11_refuse l G a0 a1 a2 a3 a4 a5 a6 a7 a8 a9 a10 a11) [0] [] rfl rfl (by decide) (by decide) (by decide) rfl rfl qw_152 qw_153 qw_154 qw_2 qw_155 ⟨rfl, by decide +kernel, by decide +kernel, by decide +kernel⟩ ⟨Nat.le_of_ble_eq_true rfl, Nat.le_of_ble_eq_true rfl⟩ hl rfl rfl (Nat.le_of_ble_eq_true rfl) dX11_door_10 ⟨Nat.le_of_ble_eq_true rfl, Nat.le_of_ble_eq_true rfl⟩ (fun r9 u256 H locs hw hP hD hS => ?_)
  have hP : va_P G.1 vwCl [(a0, .inr (8, [.ref a1, .int 0, .int 0, .ref a2, .ref a3, .ref a4, .ref a5, .ref a6, .ref a7, .ref a8, .ref a9, .ref a10, .ref a11, .int 1, .int 0, .int 0]))] H := hP
  have hD : va_D A [(a0, .inr (8, [.ref a1, .int 0, .int 0, .ref a2, .ref a3, .ref a4, .ref a5, .ref a6, .ref a7, .ref a8, .ref a9, .ref a10, .ref a11, .int 1, .int 0, .int 0]))] := hD
  obtain rfl : r9 = (-1) := hw
  exact m_iret X hP hD hS ((fun _ => 0), (fun _ _ => 0)) [] (by decide) rfl rfl (Nat.le_of_ble_eq_true rfl) (Nat.le_of_ble_eq_true rfl) dX11_door_13
set_option maxHeartbeats 4000000 in
set_option maxRecDepth 100000 in
theorem k47_X11_costs (l : Launch) (G : KG) (a0 : Nat) (i0 : Int32) (i1 : Int32) (a1 : Nat) (a2 : Nat) (a3 : Nat) (a4 : Nat) (a5 : Nat) (a6 : Nat) (a7 : Nat) (a8 : Nat) (a9 : Nat) (a10 : Nat) (a11 : Nat) (sz : Nat) : Met l yX11_costs (.code yX11_costs cX11_costs 3 (some .int) :: wsL_law) { frames := 1, cells := 0, slots := 0, locals := 21 } (va_Pc [.ref a0, .int i0, .int i1] (Pw G [(a0, .inr (8, [.ref a1, .int 0, .int 0, .ref a2, .ref a3, .ref a4, .ref a5, .ref a6, .ref a7, .ref a8, .ref a9, .ref a10, .ref a11, .int 0, .int 0, .int 0]))] sz)) (va_Qi (fun r _ => r = (-1)) (fun (u9 : KS) t => Bw G (va_A [(a0, .inr (8, [.ref a1, .int 0, .int 0, .ref a2, .ref a3, .ref a4, .ref a5, .ref a6, .ref a7, .ref a8, .ref a9, .ref a10, .ref a11, .int 0, .int 0, .int 0]))] sz) [] t) (va_A [(a0, .inr (8, [.ref a1, .int 0, .int 0, .ref a2, .ref a3, .ref a4, .ref a5, .ref a6, .ref a7, .ref a8, .ref a9, .ref a10, .ref a11, .int 0, .int 0, .int 0]))] sz)) 0 0 (va_A [(a0, .inr (8, [.ref a1, .int 0, .int 0, .ref a2, .ref a3, .ref a4, .ref a5, .ref a6, .ref a7, .ref a8, .ref a9, .ref a10, .ref a11, .int 0, .int 0, .int 0]))] sz) := by
  refine m_body (y := yX11_costs) (cd := cX11_costs) (mL := 3) (rt := (some .int)) (rm := { frames := 1, cells := 0, slots := 0, locals := 21 }) (av := [.ref a0, .int i0, .int i1]) (wc := [(a0, .inr (8, [.ref a1, .int 0, .int 0, .ref a2, .ref a3, .ref a4, .ref a5, .ref a6, .ref a7, .ref a8, .ref a9, .ref a10, .ref a11, .int 0, .int 0, .int 0]))]) (G := G) (sz := sz) (Qf := fun A => va_Qi (fun r _ => r = (-1)) (fun (u9 : KS) t => Bw G A [] t) A) (by decide) (Nat.le_of_ble_eq_true rfl) ?_
  intro p e s m args below meth c ls A X hi hP hD hS hl
  have hx := X.1.1
  have hb := X.1.2.1
  have hi : meth.name = "costs" := hi
  have hl : lv_has ls 3 [(0, .ref a0), (1, .int i0), (2, .int i1)] := hl
  refine lv_aload_n hx hb dX11_costs_0 rfl (lv_at hl 0 rfl) ?_
  refine lv_iload_n hx hb dX11_costs_1 rfl (lv_at hl 1 rfl) ?_
  refine m_cVi (n := 1) (wr := []) (C := RX11) (T := TX11) (N := 16) (ci := 8) (As := [.int i0]) (rest := []) X hP hD hS (k36_X11_isHouse l G a0 i0 a1 a2 a3 a4 a5 a6 a7 a8 a9 a10 a11) [0] [] rfl rfl (by decide) (by decide) (by decide) rfl rfl qw_770 qw_771 qw_772 qw_2 qw_773 ⟨rfl, by decide +kernel, by decide +kernel, by decide +kernel⟩ ⟨Nat.le_of_ble_eq_true rfl, Nat.le_of_ble_eq_true rfl⟩ hl rfl rfl (Nat.le_of_ble_eq_true rfl) dX11_costs_2 ⟨Nat.le_of_ble_eq_true rfl, Nat.le_of_ble_eq_true rfl⟩ (fun r9 u257 H locs hw hP hD hS => ?_)
  have hP : va_P G.1 vwCl [(a0, .inr (8, [.ref a1, .int 0, .int 0, .ref a2, .ref a3, .ref a4, .ref a5, .ref a6, .ref a7, .ref a8, .ref a9, .ref a10, .ref a11, .int 0, .int 0, .int 0]))] H := hP
  have hD : va_D A [(a0, .inr (8, [.ref a1, .int 0, .int 0, .ref a2, .ref a3, .ref a4, .ref a5, .ref a6, .ref a7, .ref a8, .ref a9, .ref a10, .ref a11, .int 0, .int 0, .int 0]))] := hD
  obtain rfl : r9 = 0 := hw
  refine lv_if_eq (tgt := 16) hx hb dX11_costs_5 (by decide) (fun _ => ?_) (fun c9 => absurd c9 (by decide))
  refine lv_aload_n hx hb dX11_costs_16 rfl (lv_at hl 0 rfl) ?_
  refine lv_iconst (v := 1) hx hb dX11_costs_17 (by decide) ?_
  refine m_cVi (n := 1) (wr := []) (C := RX11) (T := TX11) (N := 16) (ci := 8) (As := [.int 1]) (rest := []) X hP hD hS (k32_X11_refuse l G a0 a1 a2 a3 a4 a5 a6 a7 a8 a9 a10 a11) [0] [] rfl rfl (by decide) (by decide) (by decide) rfl rfl qw_152 qw_153 qw_154 qw_2 qw_155 ⟨rfl, by decide +kernel, by decide +kernel, by decide +kernel⟩ ⟨Nat.le_of_ble_eq_true rfl, Nat.le_of_ble_eq_true rfl⟩ hl rfl rfl (Nat.le_of_ble_eq_true rfl) dX11_costs_18 ⟨Nat.le_of_ble_eq_true rfl, Nat.le_of_ble_eq_true rfl⟩ (fun r9 u258 H locs hw hP hD hS => ?_)
  have hP : va_P G.1 vwCl [(a0, .inr (8, [.ref a1, .int 0, .int 0, .ref a2, .ref a3, .ref a4, .ref a5, .ref a6, .ref a7, .ref a8, .ref a9, .ref a10, .ref a11, .int 1, .int 0, .int 0]))] H := hP
  have hD : va_D A [(a0, .inr (8, [.ref a1, .int 0, .int 0, .ref a2, .ref a3, .ref a4, .ref a5, .ref a6, .ref a7, .ref a8, .ref a9, .ref a10, .ref a11, .int 1, .int 0, .int 0]))] := hD
  obtain rfl : r9 = (-1) := hw
  exact m_iret X hP hD hS ((fun _ => 0), (fun _ _ => 0)) [] (by decide) rfl rfl (Nat.le_of_ble_eq_true rfl) (Nat.le_of_ble_eq_true rfl) dX11_costs_21
set_option maxHeartbeats 4000000 in
set_option maxRecDepth 100000 in
theorem k48_X11_way (l : Launch) (G : KG) (a0 : Nat) (i0 : Int32) (i1 : Int32) (a1 : Nat) (a2 : Nat) (a3 : Nat) (a4 : Nat) (a5 : Nat) (a6 : Nat) (a7 : Nat) (a8 : Nat) (a9 : Nat) (a10 : Nat) (a11 : Nat) (sz : Nat) : Met l yX11_way (.code yX11_way cX11_way 3 (some .int) :: wsL_law) { frames := 2, cells := 0, slots := 0, locals := 43 } (va_Pc [.ref a0, .int i0, .int i1] (Pw G [(a0, .inr (8, [.ref a1, .int 0, .int 0, .ref a2, .ref a3, .ref a4, .ref a5, .ref a6, .ref a7, .ref a8, .ref a9, .ref a10, .ref a11, .int 0, .int 0, .int 0]))] sz)) (va_Qi (fun r _ => r = (-1)) (fun (u9 : KS) t => Bw G (va_A [(a0, .inr (8, [.ref a1, .int 0, .int 0, .ref a2, .ref a3, .ref a4, .ref a5, .ref a6, .ref a7, .ref a8, .ref a9, .ref a10, .ref a11, .int 0, .int 0, .int 0]))] sz) [] t) (va_A [(a0, .inr (8, [.ref a1, .int 0, .int 0, .ref a2, .ref a3, .ref a4, .ref a5, .ref a6, .ref a7, .ref a8, .ref a9, .ref a10, .ref a11, .int 0, .int 0, .int 0]))] sz)) 0 0 (va_A [(a0, .inr (8, [.ref a1, .int 0, .int 0, .ref a2, .ref a3, .ref a4, .ref a5, .ref a6, .ref a7, .ref a8, .ref a9, .ref a10, .ref a11, .int 0, .int 0, .int 0]))] sz) := by
  refine m_body (y := yX11_way) (cd := cX11_way) (mL := 3) (rt := (some .int)) (rm := { frames := 2, cells := 0, slots := 0, locals := 43 }) (av := [.ref a0, .int i0, .int i1]) (wc := [(a0, .inr (8, [.ref a1, .int 0, .int 0, .ref a2, .ref a3, .ref a4, .ref a5, .ref a6, .ref a7, .ref a8, .ref a9, .ref a10, .ref a11, .int 0, .int 0, .int 0]))]) (G := G) (sz := sz) (Qf := fun A => va_Qi (fun r _ => r = (-1)) (fun (u9 : KS) t => Bw G A [] t) A) (by decide) (Nat.le_of_ble_eq_true rfl) ?_
  intro p e s m args below meth c ls A X hi hP hD hS hl
  have hx := X.1.1
  have hb := X.1.2.1
  have hi : meth.name = "way" := hi
  have hl : lv_has ls 3 [(0, .ref a0), (1, .int i0), (2, .int i1)] := hl
  refine lv_aload_n hx hb dX11_way_0 rfl (lv_at hl 0 rfl) ?_
  refine lv_iload_n hx hb dX11_way_1 rfl (lv_at hl 1 rfl) ?_
  refine lv_iload_n hx hb dX11_way_2 rfl (lv_at hl 2 rfl) ?_
  refine m_cVi (n := 2) (wr := []) (C := RX11) (T := TX11) (N := 16) (ci := 8) (As := [.int i0, .int i1]) (rest := []) X hP hD hS (k38_X11_isRoom l G a0 i0 i1 a1 a2 a3 a4 a5 a6 a7 a8 a9 a10 a11) [0] [] rfl rfl (by decide) (by decide) (by decide) rfl rfl qw_827 qw_828 qw_829 qw_2 qw_830 ⟨rfl, by decide +kernel, by decide +kernel, by decide +kernel⟩ ⟨Nat.le_of_ble_eq_true rfl, Nat.le_of_ble_eq_true rfl⟩ hl rfl rfl (Nat.le_of_ble_eq_true rfl) dX11_way_3 ⟨Nat.le_of_ble_eq_true rfl, Nat.le_of_ble_eq_true rfl⟩ (fun r9 u259 H locs hw hP hD hS => ?_)
  have hP : va_P G.1 vwCl [(a0, .inr (8, [.ref a1, .int 0, .int 0, .ref a2, .ref a3, .ref a4, .ref a5, .ref a6, .ref a7, .ref a8, .ref a9, .ref a10, .ref a11, .int 0, .int 0, .int 0]))] H := hP
  have hD : va_D A [(a0, .inr (8, [.ref a1, .int 0, .int 0, .ref a2, .ref a3, .ref a4, .ref a5, .ref a6, .ref a7, .ref a8, .ref a9, .ref a10, .ref a11, .int 0, .int 0, .int 0]))] := hD
  obtain rfl : r9 = 0 := hw
  refine lv_if_ne (tgt := 15) hx hb dX11_way_6 (by decide) (fun c9 => absurd c9 (by decide)) (fun _ => ?_)
  refine lv_aload_n hx hb dX11_way_9 rfl (lv_at hl 0 rfl) ?_
  refine lv_iconst (v := 1) hx hb dX11_way_10 (by decide) ?_
  refine m_cVi (n := 1) (wr := []) (C := RX11) (T := TX11) (N := 16) (ci := 8) (As := [.int 1]) (rest := []) X hP hD hS (k32_X11_refuse l G a0 a1 a2 a3 a4 a5 a6 a7 a8 a9 a10 a11) [0] [] rfl rfl (by decide) (by decide) (by decide) rfl rfl qw_152 qw_153 qw_154 qw_2 qw_155 ⟨rfl, by decide +kernel, by decide +kernel, by decide +kernel⟩ ⟨Nat.le_of_ble_eq_true rfl, Nat.le_of_ble_eq_true rfl⟩ hl rfl rfl (Nat.le_of_ble_eq_true rfl) dX11_way_11 ⟨Nat.le_of_ble_eq_true rfl, Nat.le_of_ble_eq_true rfl⟩ (fun r9 u260 H locs hw hP hD hS => ?_)
  have hP : va_P G.1 vwCl [(a0, .inr (8, [.ref a1, .int 0, .int 0, .ref a2, .ref a3, .ref a4, .ref a5, .ref a6, .ref a7, .ref a8, .ref a9, .ref a10, .ref a11, .int 1, .int 0, .int 0]))] H := hP
  have hD : va_D A [(a0, .inr (8, [.ref a1, .int 0, .int 0, .ref a2, .ref a3, .ref a4, .ref a5, .ref a6, .ref a7, .ref a8, .ref a9, .ref a10, .ref a11, .int 1, .int 0, .int 0]))] := hD
  obtain rfl : r9 = (-1) := hw
  exact m_iret X hP hD hS ((fun _ => 0), (fun _ _ => 0)) [] (by decide) rfl rfl (Nat.le_of_ble_eq_true rfl) (Nat.le_of_ble_eq_true rfl) dX11_way_14
set_option maxHeartbeats 4000000 in
set_option maxRecDepth 100000 in
theorem k49_X11_through (l : Launch) (G : KG) (a0 : Nat) (i0 : Int32) (i1 : Int32) (a1 : Nat) (a2 : Nat) (a3 : Nat) (a4 : Nat) (a5 : Nat) (a6 : Nat) (a7 : Nat) (a8 : Nat) (a9 : Nat) (a10 : Nat) (a11 : Nat) (sz : Nat) : Met l yX11_through (.code yX11_through cX11_through 3 (some .int) :: wsL_law) { frames := 2, cells := 0, slots := 0, locals := 43 } (va_Pc [.ref a0, .int i0, .int i1] (Pw G [(a0, .inr (8, [.ref a1, .int 0, .int 0, .ref a2, .ref a3, .ref a4, .ref a5, .ref a6, .ref a7, .ref a8, .ref a9, .ref a10, .ref a11, .int 0, .int 0, .int 0]))] sz)) (va_Qi (fun r _ => r = (-1)) (fun (u9 : KS) t => Bw G (va_A [(a0, .inr (8, [.ref a1, .int 0, .int 0, .ref a2, .ref a3, .ref a4, .ref a5, .ref a6, .ref a7, .ref a8, .ref a9, .ref a10, .ref a11, .int 0, .int 0, .int 0]))] sz) [] t) (va_A [(a0, .inr (8, [.ref a1, .int 0, .int 0, .ref a2, .ref a3, .ref a4, .ref a5, .ref a6, .ref a7, .ref a8, .ref a9, .ref a10, .ref a11, .int 0, .int 0, .int 0]))] sz)) 0 0 (va_A [(a0, .inr (8, [.ref a1, .int 0, .int 0, .ref a2, .ref a3, .ref a4, .ref a5, .ref a6, .ref a7, .ref a8, .ref a9, .ref a10, .ref a11, .int 0, .int 0, .int 0]))] sz) := by
  refine m_body (y := yX11_through) (cd := cX11_through) (mL := 3) (rt := (some .int)) (rm := { frames := 2, cells := 0, slots := 0, locals := 43 }) (av := [.ref a0, .int i0, .int i1]) (wc := [(a0, .inr (8, [.ref a1, .int 0, .int 0, .ref a2, .ref a3, .ref a4, .ref a5, .ref a6, .ref a7, .ref a8, .ref a9, .ref a10, .ref a11, .int 0, .int 0, .int 0]))]) (G := G) (sz := sz) (Qf := fun A => va_Qi (fun r _ => r = (-1)) (fun (u9 : KS) t => Bw G A [] t) A) (by decide) (Nat.le_of_ble_eq_true rfl) ?_
  intro p e s m args below meth c ls A X hi hP hD hS hl
  have hx := X.1.1
  have hb := X.1.2.1
  have hi : meth.name = "through" := hi
  have hl : lv_has ls 3 [(0, .ref a0), (1, .int i0), (2, .int i1)] := hl
  refine lv_aload_n hx hb dX11_through_0 rfl (lv_at hl 0 rfl) ?_
  refine lv_iload_n hx hb dX11_through_1 rfl (lv_at hl 1 rfl) ?_
  refine lv_iload_n hx hb dX11_through_2 rfl (lv_at hl 2 rfl) ?_
  refine m_cVi (n := 2) (wr := []) (C := RX11) (T := TX11) (N := 16) (ci := 8) (As := [.int i0, .int i1]) (rest := []) X hP hD hS (k38_X11_isRoom l G a0 i0 i1 a1 a2 a3 a4 a5 a6 a7 a8 a9 a10 a11) [0] [] rfl rfl (by decide) (by decide) (by decide) rfl rfl qw_827 qw_828 qw_829 qw_2 qw_830 ⟨rfl, by decide +kernel, by decide +kernel, by decide +kernel⟩ ⟨Nat.le_of_ble_eq_true rfl, Nat.le_of_ble_eq_true rfl⟩ hl rfl rfl (Nat.le_of_ble_eq_true rfl) dX11_through_3 ⟨Nat.le_of_ble_eq_true rfl, Nat.le_of_ble_eq_true rfl⟩ (fun r9 u261 H locs hw hP hD hS => ?_)
  have hP : va_P G.1 vwCl [(a0, .inr (8, [.ref a1, .int 0, .int 0, .ref a2, .ref a3, .ref a4, .ref a5, .ref a6, .ref a7, .ref a8, .ref a9, .ref a10, .ref a11, .int 0, .int 0, .int 0]))] H := hP
  have hD : va_D A [(a0, .inr (8, [.ref a1, .int 0, .int 0, .ref a2, .ref a3, .ref a4, .ref a5, .ref a6, .ref a7, .ref a8, .ref a9, .ref a10, .ref a11, .int 0, .int 0, .int 0]))] := hD
  obtain rfl : r9 = 0 := hw
  refine lv_if_ne (tgt := 15) hx hb dX11_through_6 (by decide) (fun c9 => absurd c9 (by decide)) (fun _ => ?_)
  refine lv_aload_n hx hb dX11_through_9 rfl (lv_at hl 0 rfl) ?_
  refine lv_iconst (v := 1) hx hb dX11_through_10 (by decide) ?_
  refine m_cVi (n := 1) (wr := []) (C := RX11) (T := TX11) (N := 16) (ci := 8) (As := [.int 1]) (rest := []) X hP hD hS (k32_X11_refuse l G a0 a1 a2 a3 a4 a5 a6 a7 a8 a9 a10 a11) [0] [] rfl rfl (by decide) (by decide) (by decide) rfl rfl qw_152 qw_153 qw_154 qw_2 qw_155 ⟨rfl, by decide +kernel, by decide +kernel, by decide +kernel⟩ ⟨Nat.le_of_ble_eq_true rfl, Nat.le_of_ble_eq_true rfl⟩ hl rfl rfl (Nat.le_of_ble_eq_true rfl) dX11_through_11 ⟨Nat.le_of_ble_eq_true rfl, Nat.le_of_ble_eq_true rfl⟩ (fun r9 u262 H locs hw hP hD hS => ?_)
  have hP : va_P G.1 vwCl [(a0, .inr (8, [.ref a1, .int 0, .int 0, .ref a2, .ref a3, .ref a4, .ref a5, .ref a6, .ref a7, .ref a8, .ref a9, .ref a10, .ref a11, .int 1, .int 0, .int 0]))] H := hP
  have hD : va_D A [(a0, .inr (8, [.ref a1, .int 0, .int 0, .ref a2, .ref a3, .ref a4, .ref a5, .ref a6, .ref a7, .ref a8, .ref a9, .ref a10, .ref a11, .int 1, .int 0, .int 0]))] := hD
  obtain rfl : r9 = (-1) := hw
  exact m_iret X hP hD hS ((fun _ => 0), (fun _ _ => 0)) [] (by decide) rfl rfl (Nat.le_of_ble_eq_true rfl) (Nat.le_of_ble_eq_true rfl) dX11_through_14
set_option maxHeartbeats 4000000 in
set_option maxRecDepth 100000 in
theorem k50_X11_breaks (l : Launch) (G : KG) (a0 : Nat) (i0 : Int32) (i1 : Int32) (a1 : Nat) (a2 : Nat) (a3 : Nat) (a4 : Nat) (a5 : Nat) (a6 : Nat) (a7 : Nat) (a8 : Nat) (a9 : Nat) (a10 : Nat) (a11 : Nat) (sz : Nat) : Met l yX11_breaks (.code yX11_breaks cX11_breaks 3 (some .int) :: wsL_law) { frames := 2, cells := 0, slots := 0, locals := 43 } (va_Pc [.ref a0, .int i0, .int i1] (Pw G [(a0, .inr (8, [.ref a1, .int 0, .int 0, .ref a2, .ref a3, .ref a4, .ref a5, .ref a6, .ref a7, .ref a8, .ref a9, .ref a10, .ref a11, .int 0, .int 0, .int 0]))] sz)) (va_Qi (fun r _ => r = (-1)) (fun (u9 : KS) t => Bw G (va_A [(a0, .inr (8, [.ref a1, .int 0, .int 0, .ref a2, .ref a3, .ref a4, .ref a5, .ref a6, .ref a7, .ref a8, .ref a9, .ref a10, .ref a11, .int 0, .int 0, .int 0]))] sz) [] t) (va_A [(a0, .inr (8, [.ref a1, .int 0, .int 0, .ref a2, .ref a3, .ref a4, .ref a5, .ref a6, .ref a7, .ref a8, .ref a9, .ref a10, .ref a11, .int 0, .int 0, .int 0]))] sz)) 0 0 (va_A [(a0, .inr (8, [.ref a1, .int 0, .int 0, .ref a2, .ref a3, .ref a4, .ref a5, .ref a6, .ref a7, .ref a8, .ref a9, .ref a10, .ref a11, .int 0, .int 0, .int 0]))] sz) := by
  refine m_body (y := yX11_breaks) (cd := cX11_breaks) (mL := 3) (rt := (some .int)) (rm := { frames := 2, cells := 0, slots := 0, locals := 43 }) (av := [.ref a0, .int i0, .int i1]) (wc := [(a0, .inr (8, [.ref a1, .int 0, .int 0, .ref a2, .ref a3, .ref a4, .ref a5, .ref a6, .ref a7, .ref a8, .ref a9, .ref a10, .ref a11, .int 0, .int 0, .int 0]))]) (G := G) (sz := sz) (Qf := fun A => va_Qi (fun r _ => r = (-1)) (fun (u9 : KS) t => Bw G A [] t) A) (by decide) (Nat.le_of_ble_eq_true rfl) ?_
  intro p e s m args below meth c ls A X hi hP hD hS hl
  have hx := X.1.1
  have hb := X.1.2.1
  have hi : meth.name = "breaks" := hi
  have hl : lv_has ls 3 [(0, .ref a0), (1, .int i0), (2, .int i1)] := hl
  refine lv_aload_n hx hb dX11_breaks_0 rfl (lv_at hl 0 rfl) ?_
  refine lv_iload_n hx hb dX11_breaks_1 rfl (lv_at hl 1 rfl) ?_
  refine lv_iload_n hx hb dX11_breaks_2 rfl (lv_at hl 2 rfl) ?_
  refine m_cVi (n := 2) (wr := []) (C := RX11) (T := TX11) (N := 16) (ci := 8) (As := [.int i0, .int i1]) (rest := []) X hP hD hS (k38_X11_isRoom l G a0 i0 i1 a1 a2 a3 a4 a5 a6 a7 a8 a9 a10 a11) [0] [] rfl rfl (by decide) (by decide) (by decide) rfl rfl qw_827 qw_828 qw_829 qw_2 qw_830 ⟨rfl, by decide +kernel, by decide +kernel, by decide +kernel⟩ ⟨Nat.le_of_ble_eq_true rfl, Nat.le_of_ble_eq_true rfl⟩ hl rfl rfl (Nat.le_of_ble_eq_true rfl) dX11_breaks_3 ⟨Nat.le_of_ble_eq_true rfl, Nat.le_of_ble_eq_true rfl⟩ (fun r9 u263 H locs hw hP hD hS => ?_)
  have hP : va_P G.1 vwCl [(a0, .inr (8, [.ref a1, .int 0, .int 0, .ref a2, .ref a3, .ref a4, .ref a5, .ref a6, .ref a7, .ref a8, .ref a9, .ref a10, .ref a11, .int 0, .int 0, .int 0]))] H := hP
  have hD : va_D A [(a0, .inr (8, [.ref a1, .int 0, .int 0, .ref a2, .ref a3, .ref a4, .ref a5, .ref a6, .ref a7, .ref a8, .ref a9, .ref a10, .ref a11, .int 0, .int 0, .int 0]))] := hD
  obtain rfl : r9 = 0 := hw
  refine lv_if_ne (tgt := 15) hx hb dX11_breaks_6 (by decide) (fun c9 => absurd c9 (by decide)) (fun _ => ?_)
  refine lv_aload_n hx hb dX11_breaks_9 rfl (lv_at hl 0 rfl) ?_
  refine lv_iconst (v := 1) hx hb dX11_breaks_10 (by decide) ?_
  refine m_cVi (n := 1) (wr := []) (C := RX11) (T := TX11) (N := 16) (ci := 8) (As := [.int 1]) (rest := []) X hP hD hS (k32_X11_refuse l G a0 a1 a2 a3 a4 a5 a6 a7 a8 a9 a10 a11) [0] [] rfl rfl (by decide) (by decide) (by decide) rfl rfl qw_152 qw_153 qw_154 qw_2 qw_155 ⟨rfl, by decide +kernel, by decide +kernel, by decide +kernel⟩ ⟨Nat.le_of_ble_eq_true rfl, Nat.le_of_ble_eq_true rfl⟩ hl rfl rfl (Nat.le_of_ble_eq_true rfl) dX11_breaks_11 ⟨Nat.le_of_ble_eq_true rfl, Nat.le_of_ble_eq_true rfl⟩ (fun r9 u264 H locs hw hP hD hS => ?_)
  have hP : va_P G.1 vwCl [(a0, .inr (8, [.ref a1, .int 0, .int 0, .ref a2, .ref a3, .ref a4, .ref a5, .ref a6, .ref a7, .ref a8, .ref a9, .ref a10, .ref a11, .int 1, .int 0, .int 0]))] H := hP
  have hD : va_D A [(a0, .inr (8, [.ref a1, .int 0, .int 0, .ref a2, .ref a3, .ref a4, .ref a5, .ref a6, .ref a7, .ref a8, .ref a9, .ref a10, .ref a11, .int 1, .int 0, .int 0]))] := hD
  obtain rfl : r9 = (-1) := hw
  exact m_iret X hP hD hS ((fun _ => 0), (fun _ _ => 0)) [] (by decide) rfl rfl (Nat.le_of_ble_eq_true rfl) (Nat.le_of_ble_eq_true rfl) dX11_breaks_14
set_option maxHeartbeats 4000000 in
set_option maxRecDepth 100000 in
theorem k51_X11_round (l : Launch) (G : KG) (a0 : Nat) (i0 : Int32) (i1 : Int32) (a1 : Nat) (a2 : Nat) (a3 : Nat) (a4 : Nat) (a5 : Nat) (a6 : Nat) (a7 : Nat) (a8 : Nat) (a9 : Nat) (a10 : Nat) (a11 : Nat) (sz : Nat) : Met l yX11_round (.code yX11_round cX11_round 3 (some .int) :: wsL_law) { frames := 3, cells := 0, slots := 0, locals := 65 } (va_Pc [.ref a0, .int i0, .int i1] (Pw G [(a0, .inr (8, [.ref a1, .int 0, .int 0, .ref a2, .ref a3, .ref a4, .ref a5, .ref a6, .ref a7, .ref a8, .ref a9, .ref a10, .ref a11, .int 0, .int 0, .int 0]))] sz)) (va_Qi (fun r _ => r = (-1)) (fun (u9 : KS) t => Bw G (va_A [(a0, .inr (8, [.ref a1, .int 0, .int 0, .ref a2, .ref a3, .ref a4, .ref a5, .ref a6, .ref a7, .ref a8, .ref a9, .ref a10, .ref a11, .int 0, .int 0, .int 0]))] sz) [] t) (va_A [(a0, .inr (8, [.ref a1, .int 0, .int 0, .ref a2, .ref a3, .ref a4, .ref a5, .ref a6, .ref a7, .ref a8, .ref a9, .ref a10, .ref a11, .int 0, .int 0, .int 0]))] sz)) 0 0 (va_A [(a0, .inr (8, [.ref a1, .int 0, .int 0, .ref a2, .ref a3, .ref a4, .ref a5, .ref a6, .ref a7, .ref a8, .ref a9, .ref a10, .ref a11, .int 0, .int 0, .int 0]))] sz) := by
  refine m_body (y := yX11_round) (cd := cX11_round) (mL := 3) (rt := (some .int)) (rm := { frames := 3, cells := 0, slots := 0, locals := 65 }) (av := [.ref a0, .int i0, .int i1]) (wc := [(a0, .inr (8, [.ref a1, .int 0, .int 0, .ref a2, .ref a3, .ref a4, .ref a5, .ref a6, .ref a7, .ref a8, .ref a9, .ref a10, .ref a11, .int 0, .int 0, .int 0]))]) (G := G) (sz := sz) (Qf := fun A => va_Qi (fun r _ => r = (-1)) (fun (u9 : KS) t => Bw G A [] t) A) (by decide) (Nat.le_of_ble_eq_true rfl) ?_
  intro p e s m args below meth c ls A X hi hP hD hS hl
  have hx := X.1.1
  have hb := X.1.2.1
  have hi : meth.name = "round" := hi
  have hl : lv_has ls 3 [(0, .ref a0), (1, .int i0), (2, .int i1)] := hl
  refine lv_aload_n hx hb dX11_round_0 rfl (lv_at hl 0 rfl) ?_
  refine lv_iload_n hx hb dX11_round_1 rfl (lv_at hl 1 rfl) ?_
  refine lv_iload_n hx hb dX11_round_2 rfl (lv_at hl 2 rfl) ?_
  refine m_cVi (n := 2) (wr := []) (C := RX11) (T := TX11) (N := 16) (ci := 8) (As := [.int i0, .int i1]) (rest := []) X hP hD hS (k39_X11_isSkin l G a0 i0 i1 a1 a2 a3 a4 a5 a6 a7 a8 a9 a10 a11) [0] [] rfl rfl (by decide) (by decide) (by decide) rfl rfl qw_823 qw_824 qw_825 qw_2 qw_826 ⟨rfl, by decide +kernel, by decide +kernel, by decide +kernel⟩ ⟨Nat.le_of_ble_eq_true rfl, Nat.le_of_ble_eq_true rfl⟩ hl rfl rfl (Nat.le_of_ble_eq_true rfl) dX11_round_3 ⟨Nat.le_of_ble_eq_true rfl, Nat.le_of_ble_eq_true rfl⟩ (fun r9 u265 H locs hw hP hD hS => ?_)
  have hP : va_P G.1 vwCl [(a0, .inr (8, [.ref a1, .int 0, .int 0, .ref a2, .ref a3, .ref a4, .ref a5, .ref a6, .ref a7, .ref a8, .ref a9, .ref a10, .ref a11, .int 0, .int 0, .int 0]))] H := hP
  have hD : va_D A [(a0, .inr (8, [.ref a1, .int 0, .int 0, .ref a2, .ref a3, .ref a4, .ref a5, .ref a6, .ref a7, .ref a8, .ref a9, .ref a10, .ref a11, .int 0, .int 0, .int 0]))] := hD
  obtain rfl : r9 = 0 := hw
  refine lv_if_eq (tgt := 14) hx hb dX11_round_6 (by decide) (fun _ => ?_) (fun c9 => absurd c9 (by decide))
  refine lv_aload_n hx hb dX11_round_14 rfl (lv_at hl 0 rfl) ?_
  refine lv_iconst (v := 1) hx hb dX11_round_15 (by decide) ?_
  refine m_cVi (n := 1) (wr := []) (C := RX11) (T := TX11) (N := 16) (ci := 8) (As := [.int 1]) (rest := []) X hP hD hS (k32_X11_refuse l G a0 a1 a2 a3 a4 a5 a6 a7 a8 a9 a10 a11) [0] [] rfl rfl (by decide) (by decide) (by decide) rfl rfl qw_152 qw_153 qw_154 qw_2 qw_155 ⟨rfl, by decide +kernel, by decide +kernel, by decide +kernel⟩ ⟨Nat.le_of_ble_eq_true rfl, Nat.le_of_ble_eq_true rfl⟩ hl rfl rfl (Nat.le_of_ble_eq_true rfl) dX11_round_16 ⟨Nat.le_of_ble_eq_true rfl, Nat.le_of_ble_eq_true rfl⟩ (fun r9 u266 H locs hw hP hD hS => ?_)
  have hP : va_P G.1 vwCl [(a0, .inr (8, [.ref a1, .int 0, .int 0, .ref a2, .ref a3, .ref a4, .ref a5, .ref a6, .ref a7, .ref a8, .ref a9, .ref a10, .ref a11, .int 1, .int 0, .int 0]))] H := hP
  have hD : va_D A [(a0, .inr (8, [.ref a1, .int 0, .int 0, .ref a2, .ref a3, .ref a4, .ref a5, .ref a6, .ref a7, .ref a8, .ref a9, .ref a10, .ref a11, .int 1, .int 0, .int 0]))] := hD
  obtain rfl : r9 = (-1) := hw
  exact m_iret X hP hD hS ((fun _ => 0), (fun _ _ => 0)) [] (by decide) rfl rfl (Nat.le_of_ble_eq_true rfl) (Nat.le_of_ble_eq_true rfl) dX11_round_19
set_option maxHeartbeats 4000000 in
set_option maxRecDepth 100000 in
theorem k52_X11_in (l : Launch) (G : KG) (a0 : Nat) (i0 : Int32) (i1 : Int32) (i2 : Int32) (a1 : Nat) (a2 : Nat) (a3 : Nat) (a4 : Nat) (a5 : Nat) (a6 : Nat) (a7 : Nat) (a8 : Nat) (a9 : Nat) (a10 : Nat) (a11 : Nat) (sz : Nat) : Met l yX11_in (.code yX11_in cX11_in 4 (some .int) :: wsL_law) { frames := 1, cells := 0, slots := 0, locals := 21 } (va_Pc [.ref a0, .int i0, .int i1, .int i2] (Pw G [(a0, .inr (8, [.ref a1, .int 0, .int 0, .ref a2, .ref a3, .ref a4, .ref a5, .ref a6, .ref a7, .ref a8, .ref a9, .ref a10, .ref a11, .int 0, .int 0, .int 0]))] sz)) (va_Qi (fun r _ => r = (-1)) (fun (u9 : KS) t => Bw G (va_A [(a0, .inr (8, [.ref a1, .int 0, .int 0, .ref a2, .ref a3, .ref a4, .ref a5, .ref a6, .ref a7, .ref a8, .ref a9, .ref a10, .ref a11, .int 0, .int 0, .int 0]))] sz) [] t) (va_A [(a0, .inr (8, [.ref a1, .int 0, .int 0, .ref a2, .ref a3, .ref a4, .ref a5, .ref a6, .ref a7, .ref a8, .ref a9, .ref a10, .ref a11, .int 0, .int 0, .int 0]))] sz)) 0 0 (va_A [(a0, .inr (8, [.ref a1, .int 0, .int 0, .ref a2, .ref a3, .ref a4, .ref a5, .ref a6, .ref a7, .ref a8, .ref a9, .ref a10, .ref a11, .int 0, .int 0, .int 0]))] sz) := by
  refine m_body (y := yX11_in) (cd := cX11_in) (mL := 4) (rt := (some .int)) (rm := { frames := 1, cells := 0, slots := 0, locals := 21 }) (av := [.ref a0, .int i0, .int i1, .int i2]) (wc := [(a0, .inr (8, [.ref a1, .int 0, .int 0, .ref a2, .ref a3, .ref a4, .ref a5, .ref a6, .ref a7, .ref a8, .ref a9, .ref a10, .ref a11, .int 0, .int 0, .int 0]))]) (G := G) (sz := sz) (Qf := fun A => va_Qi (fun r _ => r = (-1)) (fun (u9 : KS) t => Bw G A [] t) A) (by decide) (Nat.le_of_ble_eq_true rfl) ?_
  intro p e s m args below meth c ls A X hi hP hD hS hl
  have hx := X.1.1
  have hb := X.1.2.1
  have hi : meth.name = "in" := hi
  have hl : lv_has ls 4 [(0, .ref a0), (1, .int i0), (2, .int i1), (3, .int i2)] := hl
  refine lv_aload_n hx hb dX11_in_0 rfl (lv_at hl 0 rfl) ?_
  refine lv_iload_n hx hb dX11_in_1 rfl (lv_at hl 1 rfl) ?_
  refine m_cVi (n := 1) (wr := []) (C := RX11) (T := TX11) (N := 16) (ci := 8) (As := [.int i0]) (rest := []) X hP hD hS (k36_X11_isHouse l G a0 i0 a1 a2 a3 a4 a5 a6 a7 a8 a9 a10 a11) [0] [] rfl rfl (by decide) (by decide) (by decide) rfl rfl qw_770 qw_771 qw_772 qw_2 qw_773 ⟨rfl, by decide +kernel, by decide +kernel, by decide +kernel⟩ ⟨Nat.le_of_ble_eq_true rfl, Nat.le_of_ble_eq_true rfl⟩ hl rfl rfl (Nat.le_of_ble_eq_true rfl) dX11_in_2 ⟨Nat.le_of_ble_eq_true rfl, Nat.le_of_ble_eq_true rfl⟩ (fun r9 u267 H locs hw hP hD hS => ?_)
  have hP : va_P G.1 vwCl [(a0, .inr (8, [.ref a1, .int 0, .int 0, .ref a2, .ref a3, .ref a4, .ref a5, .ref a6, .ref a7, .ref a8, .ref a9, .ref a10, .ref a11, .int 0, .int 0, .int 0]))] H := hP
  have hD : va_D A [(a0, .inr (8, [.ref a1, .int 0, .int 0, .ref a2, .ref a3, .ref a4, .ref a5, .ref a6, .ref a7, .ref a8, .ref a9, .ref a10, .ref a11, .int 0, .int 0, .int 0]))] := hD
  obtain rfl : r9 = 0 := hw
  refine lv_if_eq (tgt := 17) hx hb dX11_in_5 (by decide) (fun _ => ?_) (fun c9 => absurd c9 (by decide))
  refine lv_aload_n hx hb dX11_in_17 rfl (lv_at hl 0 rfl) ?_
  refine lv_iconst (v := 1) hx hb dX11_in_18 (by decide) ?_
  refine m_cVi (n := 1) (wr := []) (C := RX11) (T := TX11) (N := 16) (ci := 8) (As := [.int 1]) (rest := []) X hP hD hS (k32_X11_refuse l G a0 a1 a2 a3 a4 a5 a6 a7 a8 a9 a10 a11) [0] [] rfl rfl (by decide) (by decide) (by decide) rfl rfl qw_152 qw_153 qw_154 qw_2 qw_155 ⟨rfl, by decide +kernel, by decide +kernel, by decide +kernel⟩ ⟨Nat.le_of_ble_eq_true rfl, Nat.le_of_ble_eq_true rfl⟩ hl rfl rfl (Nat.le_of_ble_eq_true rfl) dX11_in_19 ⟨Nat.le_of_ble_eq_true rfl, Nat.le_of_ble_eq_true rfl⟩ (fun r9 u268 H locs hw hP hD hS => ?_)
  have hP : va_P G.1 vwCl [(a0, .inr (8, [.ref a1, .int 0, .int 0, .ref a2, .ref a3, .ref a4, .ref a5, .ref a6, .ref a7, .ref a8, .ref a9, .ref a10, .ref a11, .int 1, .int 0, .int 0]))] H := hP
  have hD : va_D A [(a0, .inr (8, [.ref a1, .int 0, .int 0, .ref a2, .ref a3, .ref a4, .ref a5, .ref a6, .ref a7, .ref a8, .ref a9, .ref a10, .ref a11, .int 1, .int 0, .int 0]))] := hD
  obtain rfl : r9 = (-1) := hw
  exact m_iret X hP hD hS ((fun _ => 0), (fun _ _ => 0)) [] (by decide) rfl rfl (Nat.le_of_ble_eq_true rfl) (Nat.le_of_ble_eq_true rfl) dX11_in_22
set_option maxHeartbeats 4000000 in
set_option maxRecDepth 100000 in
theorem k53_X11_skinsIn (l : Launch) (G : KG) (a0 : Nat) (i0 : Int32) (a1 : Nat) (a2 : Nat) (a3 : Nat) (a4 : Nat) (a5 : Nat) (a6 : Nat) (a7 : Nat) (a8 : Nat) (a9 : Nat) (a10 : Nat) (a11 : Nat) (sz : Nat) : Met l yX11_skinsIn (.code yX11_skinsIn cX11_skinsIn 2 (some .int) :: wsL_law) { frames := 1, cells := 0, slots := 0, locals := 21 } (va_Pc [.ref a0, .int i0] (Pw G [(a0, .inr (8, [.ref a1, .int 0, .int 0, .ref a2, .ref a3, .ref a4, .ref a5, .ref a6, .ref a7, .ref a8, .ref a9, .ref a10, .ref a11, .int 0, .int 0, .int 0]))] sz)) (va_Qi (fun r _ => r = (-1)) (fun (u9 : KS) t => Bw G (va_A [(a0, .inr (8, [.ref a1, .int 0, .int 0, .ref a2, .ref a3, .ref a4, .ref a5, .ref a6, .ref a7, .ref a8, .ref a9, .ref a10, .ref a11, .int 0, .int 0, .int 0]))] sz) [] t) (va_A [(a0, .inr (8, [.ref a1, .int 0, .int 0, .ref a2, .ref a3, .ref a4, .ref a5, .ref a6, .ref a7, .ref a8, .ref a9, .ref a10, .ref a11, .int 0, .int 0, .int 0]))] sz)) 0 0 (va_A [(a0, .inr (8, [.ref a1, .int 0, .int 0, .ref a2, .ref a3, .ref a4, .ref a5, .ref a6, .ref a7, .ref a8, .ref a9, .ref a10, .ref a11, .int 0, .int 0, .int 0]))] sz) := by
  refine m_body (y := yX11_skinsIn) (cd := cX11_skinsIn) (mL := 2) (rt := (some .int)) (rm := { frames := 1, cells := 0, slots := 0, locals := 21 }) (av := [.ref a0, .int i0]) (wc := [(a0, .inr (8, [.ref a1, .int 0, .int 0, .ref a2, .ref a3, .ref a4, .ref a5, .ref a6, .ref a7, .ref a8, .ref a9, .ref a10, .ref a11, .int 0, .int 0, .int 0]))]) (G := G) (sz := sz) (Qf := fun A => va_Qi (fun r _ => r = (-1)) (fun (u9 : KS) t => Bw G A [] t) A) (by decide) (Nat.le_of_ble_eq_true rfl) ?_
  intro p e s m args below meth c ls A X hi hP hD hS hl
  have hx := X.1.1
  have hb := X.1.2.1
  have hi : meth.name = "skinsIn" := hi
  have hl : lv_has ls 2 [(0, .ref a0), (1, .int i0)] := hl
  refine lv_aload_n hx hb dX11_skinsIn_0 rfl (lv_at hl 0 rfl) ?_
  refine m_get (C := RX11) (T := TX11) (N := 16) (ci := 8) (v := .int 0) X hP 0 rfl rfl 2 (by decide) qw_150 inlX11 rfl dX11_skinsIn_1 ?_
  refine lv_if_ne (tgt := 13) hx hb dX11_skinsIn_4 (by decide) (fun c9 => absurd c9 (by decide)) (fun _ => ?_)
  refine lv_aload_n hx hb dX11_skinsIn_7 rfl (lv_at hl 0 rfl) ?_
  refine lv_iconst (v := 1) hx hb dX11_skinsIn_8 (by decide) ?_
  refine m_cVi (n := 1) (wr := []) (C := RX11) (T := TX11) (N := 16) (ci := 8) (As := [.int 1]) (rest := []) X hP hD hS (k32_X11_refuse l G a0 a1 a2 a3 a4 a5 a6 a7 a8 a9 a10 a11) [0] [] rfl rfl (by decide) (by decide) (by decide) rfl rfl qw_152 qw_153 qw_154 qw_2 qw_155 ⟨rfl, by decide +kernel, by decide +kernel, by decide +kernel⟩ ⟨Nat.le_of_ble_eq_true rfl, Nat.le_of_ble_eq_true rfl⟩ hl rfl rfl (Nat.le_of_ble_eq_true rfl) dX11_skinsIn_9 ⟨Nat.le_of_ble_eq_true rfl, Nat.le_of_ble_eq_true rfl⟩ (fun r9 u269 H locs hw hP hD hS => ?_)
  have hP : va_P G.1 vwCl [(a0, .inr (8, [.ref a1, .int 0, .int 0, .ref a2, .ref a3, .ref a4, .ref a5, .ref a6, .ref a7, .ref a8, .ref a9, .ref a10, .ref a11, .int 1, .int 0, .int 0]))] H := hP
  have hD : va_D A [(a0, .inr (8, [.ref a1, .int 0, .int 0, .ref a2, .ref a3, .ref a4, .ref a5, .ref a6, .ref a7, .ref a8, .ref a9, .ref a10, .ref a11, .int 1, .int 0, .int 0]))] := hD
  obtain rfl : r9 = (-1) := hw
  exact m_iret X hP hD hS ((fun _ => 0), (fun _ _ => 0)) [] (by decide) rfl rfl (Nat.le_of_ble_eq_true rfl) (Nat.le_of_ble_eq_true rfl) dX11_skinsIn_12
set_option maxHeartbeats 4000000 in
set_option maxRecDepth 100000 in
theorem k54_X11_meet (l : Launch) (G : KG) (a0 : Nat) (i0 : Int32) (i1 : Int32) (i2 : Int32) (a1 : Nat) (a2 : Nat) (a3 : Nat) (a4 : Nat) (a5 : Nat) (a6 : Nat) (a7 : Nat) (a8 : Nat) (a9 : Nat) (a10 : Nat) (a11 : Nat) (sz : Nat) : Met l yX11_meet (.code yX11_meet cX11_meet 5 (some .int) :: wsL_law) { frames := 1, cells := 0, slots := 0, locals := 21 } (va_Pc [.ref a0, .int i0, .int i1, .int i2] (Pw G [(a0, .inr (8, [.ref a1, .int 0, .int 0, .ref a2, .ref a3, .ref a4, .ref a5, .ref a6, .ref a7, .ref a8, .ref a9, .ref a10, .ref a11, .int 0, .int 0, .int 0]))] sz)) (va_Qi (fun r _ => r = (-1)) (fun (u9 : KS) t => Bw G (va_A [(a0, .inr (8, [.ref a1, .int 0, .int 0, .ref a2, .ref a3, .ref a4, .ref a5, .ref a6, .ref a7, .ref a8, .ref a9, .ref a10, .ref a11, .int 0, .int 0, .int 0]))] sz) [] t) (va_A [(a0, .inr (8, [.ref a1, .int 0, .int 0, .ref a2, .ref a3, .ref a4, .ref a5, .ref a6, .ref a7, .ref a8, .ref a9, .ref a10, .ref a11, .int 0, .int 0, .int 0]))] sz)) 0 0 (va_A [(a0, .inr (8, [.ref a1, .int 0, .int 0, .ref a2, .ref a3, .ref a4, .ref a5, .ref a6, .ref a7, .ref a8, .ref a9, .ref a10, .ref a11, .int 0, .int 0, .int 0]))] sz) := by
  refine m_body (y := yX11_meet) (cd := cX11_meet) (mL := 5) (rt := (some .int)) (rm := { frames := 1, cells := 0, slots := 0, locals := 21 }) (av := [.ref a0, .int i0, .int i1, .int i2]) (wc := [(a0, .inr (8, [.ref a1, .int 0, .int 0, .ref a2, .ref a3, .ref a4, .ref a5, .ref a6, .ref a7, .ref a8, .ref a9, .ref a10, .ref a11, .int 0, .int 0, .int 0]))]) (G := G) (sz := sz) (Qf := fun A => va_Qi (fun r _ => r = (-1)) (fun (u9 : KS) t => Bw G A [] t) A) (by decide) (Nat.le_of_ble_eq_true rfl) ?_
  intro p e s m args below meth c ls A X hi hP hD hS hl
  have hx := X.1.1
  have hb := X.1.2.1
  have hi : meth.name = "meet" := hi
  have hl : lv_has ls 5 [(0, .ref a0), (1, .int i0), (2, .int i1), (3, .int i2)] := hl
  refine lv_aload_n hx hb dX11_meet_0 rfl (lv_at hl 0 rfl) ?_
  refine lv_iload_n hx hb dX11_meet_1 rfl (lv_at hl 1 rfl) ?_
  refine m_cVi (n := 1) (wr := []) (C := RX11) (T := TX11) (N := 16) (ci := 8) (As := [.int i0]) (rest := []) X hP hD hS (k36_X11_isHouse l G a0 i0 a1 a2 a3 a4 a5 a6 a7 a8 a9 a10 a11) [0] [] rfl rfl (by decide) (by decide) (by decide) rfl rfl qw_770 qw_771 qw_772 qw_2 qw_773 ⟨rfl, by decide +kernel, by decide +kernel, by decide +kernel⟩ ⟨Nat.le_of_ble_eq_true rfl, Nat.le_of_ble_eq_true rfl⟩ hl rfl rfl (Nat.le_of_ble_eq_true rfl) dX11_meet_2 ⟨Nat.le_of_ble_eq_true rfl, Nat.le_of_ble_eq_true rfl⟩ (fun r9 u270 H locs hw hP hD hS => ?_)
  have hP : va_P G.1 vwCl [(a0, .inr (8, [.ref a1, .int 0, .int 0, .ref a2, .ref a3, .ref a4, .ref a5, .ref a6, .ref a7, .ref a8, .ref a9, .ref a10, .ref a11, .int 0, .int 0, .int 0]))] H := hP
  have hD : va_D A [(a0, .inr (8, [.ref a1, .int 0, .int 0, .ref a2, .ref a3, .ref a4, .ref a5, .ref a6, .ref a7, .ref a8, .ref a9, .ref a10, .ref a11, .int 0, .int 0, .int 0]))] := hD
  obtain rfl : r9 = 0 := hw
  refine lv_if_eq (tgt := 21) hx hb dX11_meet_5 (by decide) (fun _ => ?_) (fun c9 => absurd c9 (by decide))
  refine lv_aload_n hx hb dX11_meet_21 rfl (lv_at hl 0 rfl) ?_
  refine lv_iconst (v := 1) hx hb dX11_meet_22 (by decide) ?_
  refine m_cVi (n := 1) (wr := []) (C := RX11) (T := TX11) (N := 16) (ci := 8) (As := [.int 1]) (rest := []) X hP hD hS (k32_X11_refuse l G a0 a1 a2 a3 a4 a5 a6 a7 a8 a9 a10 a11) [0] [] rfl rfl (by decide) (by decide) (by decide) rfl rfl qw_152 qw_153 qw_154 qw_2 qw_155 ⟨rfl, by decide +kernel, by decide +kernel, by decide +kernel⟩ ⟨Nat.le_of_ble_eq_true rfl, Nat.le_of_ble_eq_true rfl⟩ hl rfl rfl (Nat.le_of_ble_eq_true rfl) dX11_meet_23 ⟨Nat.le_of_ble_eq_true rfl, Nat.le_of_ble_eq_true rfl⟩ (fun r9 u271 H locs hw hP hD hS => ?_)
  have hP : va_P G.1 vwCl [(a0, .inr (8, [.ref a1, .int 0, .int 0, .ref a2, .ref a3, .ref a4, .ref a5, .ref a6, .ref a7, .ref a8, .ref a9, .ref a10, .ref a11, .int 1, .int 0, .int 0]))] H := hP
  have hD : va_D A [(a0, .inr (8, [.ref a1, .int 0, .int 0, .ref a2, .ref a3, .ref a4, .ref a5, .ref a6, .ref a7, .ref a8, .ref a9, .ref a10, .ref a11, .int 1, .int 0, .int 0]))] := hD
  obtain rfl : r9 = (-1) := hw
  exact m_iret X hP hD hS ((fun _ => 0), (fun _ _ => 0)) [] (by decide) rfl rfl (Nat.le_of_ble_eq_true rfl) (Nat.le_of_ble_eq_true rfl) dX11_meet_26
set_option maxHeartbeats 4000000 in
set_option maxRecDepth 100000 in
theorem k55_X11_falls (l : Launch) (G : KG) (a0 : Nat) (i0 : Int32) (i1 : Int32) (i2 : Int32) (a1 : Nat) (a2 : Nat) (a3 : Nat) (a4 : Nat) (a5 : Nat) (a6 : Nat) (a7 : Nat) (a8 : Nat) (a9 : Nat) (a10 : Nat) (a11 : Nat) (sz : Nat) : Met l yX11_falls (.code yX11_falls cX11_falls 5 (some .int) :: wsL_law) { frames := 3, cells := 0, slots := 0, locals := 65 } (va_Pc [.ref a0, .int i0, .int i1, .int i2] (Pw G [(a0, .inr (8, [.ref a1, .int 0, .int 0, .ref a2, .ref a3, .ref a4, .ref a5, .ref a6, .ref a7, .ref a8, .ref a9, .ref a10, .ref a11, .int 0, .int 0, .int 0]))] sz)) (va_Qi (fun r _ => r = (-1)) (fun (u9 : KS) t => Bw G (va_A [(a0, .inr (8, [.ref a1, .int 0, .int 0, .ref a2, .ref a3, .ref a4, .ref a5, .ref a6, .ref a7, .ref a8, .ref a9, .ref a10, .ref a11, .int 0, .int 0, .int 0]))] sz) [] t) (va_A [(a0, .inr (8, [.ref a1, .int 0, .int 0, .ref a2, .ref a3, .ref a4, .ref a5, .ref a6, .ref a7, .ref a8, .ref a9, .ref a10, .ref a11, .int 0, .int 0, .int 0]))] sz)) 0 0 (va_A [(a0, .inr (8, [.ref a1, .int 0, .int 0, .ref a2, .ref a3, .ref a4, .ref a5, .ref a6, .ref a7, .ref a8, .ref a9, .ref a10, .ref a11, .int 0, .int 0, .int 0]))] sz) := by
  refine m_body (y := yX11_falls) (cd := cX11_falls) (mL := 5) (rt := (some .int)) (rm := { frames := 3, cells := 0, slots := 0, locals := 65 }) (av := [.ref a0, .int i0, .int i1, .int i2]) (wc := [(a0, .inr (8, [.ref a1, .int 0, .int 0, .ref a2, .ref a3, .ref a4, .ref a5, .ref a6, .ref a7, .ref a8, .ref a9, .ref a10, .ref a11, .int 0, .int 0, .int 0]))]) (G := G) (sz := sz) (Qf := fun A => va_Qi (fun r _ => r = (-1)) (fun (u9 : KS) t => Bw G A [] t) A) (by decide) (Nat.le_of_ble_eq_true rfl) ?_
  intro p e s m args below meth c ls A X hi hP hD hS hl
  have hx := X.1.1
  have hb := X.1.2.1
  have hi : meth.name = "falls" := hi
  have hl : lv_has ls 5 [(0, .ref a0), (1, .int i0), (2, .int i1), (3, .int i2)] := hl
  refine lv_aload_n hx hb dX11_falls_0 rfl (lv_at hl 0 rfl) ?_
  refine lv_iload_n hx hb dX11_falls_1 rfl (lv_at hl 1 rfl) ?_
  refine lv_iload_n hx hb dX11_falls_2 rfl (lv_at hl 2 rfl) ?_
  refine m_cVi (n := 2) (wr := []) (C := RX11) (T := TX11) (N := 16) (ci := 8) (As := [.int i0, .int i1]) (rest := []) X hP hD hS (k39_X11_isSkin l G a0 i0 i1 a1 a2 a3 a4 a5 a6 a7 a8 a9 a10 a11) [0] [] rfl rfl (by decide) (by decide) (by decide) rfl rfl qw_823 qw_824 qw_825 qw_2 qw_826 ⟨rfl, by decide +kernel, by decide +kernel, by decide +kernel⟩ ⟨Nat.le_of_ble_eq_true rfl, Nat.le_of_ble_eq_true rfl⟩ hl rfl rfl (Nat.le_of_ble_eq_true rfl) dX11_falls_3 ⟨Nat.le_of_ble_eq_true rfl, Nat.le_of_ble_eq_true rfl⟩ (fun r9 u272 H locs hw hP hD hS => ?_)
  have hP : va_P G.1 vwCl [(a0, .inr (8, [.ref a1, .int 0, .int 0, .ref a2, .ref a3, .ref a4, .ref a5, .ref a6, .ref a7, .ref a8, .ref a9, .ref a10, .ref a11, .int 0, .int 0, .int 0]))] H := hP
  have hD : va_D A [(a0, .inr (8, [.ref a1, .int 0, .int 0, .ref a2, .ref a3, .ref a4, .ref a5, .ref a6, .ref a7, .ref a8, .ref a9, .ref a10, .ref a11, .int 0, .int 0, .int 0]))] := hD
  obtain rfl : r9 = 0 := hw
  refine lv_if_ne (tgt := 15) hx hb dX11_falls_6 (by decide) (fun c9 => absurd c9 (by decide)) (fun _ => ?_)
  refine lv_aload_n hx hb dX11_falls_9 rfl (lv_at hl 0 rfl) ?_
  refine lv_iconst (v := 1) hx hb dX11_falls_10 (by decide) ?_
  refine m_cVi (n := 1) (wr := []) (C := RX11) (T := TX11) (N := 16) (ci := 8) (As := [.int 1]) (rest := []) X hP hD hS (k32_X11_refuse l G a0 a1 a2 a3 a4 a5 a6 a7 a8 a9 a10 a11) [0] [] rfl rfl (by decide) (by decide) (by decide) rfl rfl qw_152 qw_153 qw_154 qw_2 qw_155 ⟨rfl, by decide +kernel, by decide +kernel, by decide +kernel⟩ ⟨Nat.le_of_ble_eq_true rfl, Nat.le_of_ble_eq_true rfl⟩ hl rfl rfl (Nat.le_of_ble_eq_true rfl) dX11_falls_11 ⟨Nat.le_of_ble_eq_true rfl, Nat.le_of_ble_eq_true rfl⟩ (fun r9 u273 H locs hw hP hD hS => ?_)
  have hP : va_P G.1 vwCl [(a0, .inr (8, [.ref a1, .int 0, .int 0, .ref a2, .ref a3, .ref a4, .ref a5, .ref a6, .ref a7, .ref a8, .ref a9, .ref a10, .ref a11, .int 1, .int 0, .int 0]))] H := hP
  have hD : va_D A [(a0, .inr (8, [.ref a1, .int 0, .int 0, .ref a2, .ref a3, .ref a4, .ref a5, .ref a6, .ref a7, .ref a8, .ref a9, .ref a10, .ref a11, .int 1, .int 0, .int 0]))] := hD
  obtain rfl : r9 = (-1) := hw
  exact m_iret X hP hD hS ((fun _ => 0), (fun _ _ => 0)) [] (by decide) rfl rfl (Nat.le_of_ble_eq_true rfl) (Nat.le_of_ble_eq_true rfl) dX11_falls_14
set_option maxHeartbeats 4000000 in
set_option maxRecDepth 100000 in
theorem k56_X11_room (l : Launch) (G : KG) (a0 : Nat) (i0 : Int32) (a1 : Nat) (a2 : Nat) (a3 : Nat) (a4 : Nat) (a5 : Nat) (a6 : Nat) (a7 : Nat) (a8 : Nat) (a9 : Nat) (a10 : Nat) (a11 : Nat) (sz : Nat) : Met l yX11_room (.code yX11_room cX11_room 5 (some .int) :: wsL_law) { frames := 1, cells := 0, slots := 0, locals := 21 } (va_Pc [.ref a0, .int i0] (Pw G [(a0, .inr (8, [.ref a1, .int 0, .int 0, .ref a2, .ref a3, .ref a4, .ref a5, .ref a6, .ref a7, .ref a8, .ref a9, .ref a10, .ref a11, .int 0, .int 0, .int 0]))] sz)) (va_Qi (fun r _ => r = (-1)) (fun (u9 : KS) t => Bw G (va_A [(a0, .inr (8, [.ref a1, .int 0, .int 0, .ref a2, .ref a3, .ref a4, .ref a5, .ref a6, .ref a7, .ref a8, .ref a9, .ref a10, .ref a11, .int 0, .int 0, .int 0]))] sz) [] t) (va_A [(a0, .inr (8, [.ref a1, .int 0, .int 0, .ref a2, .ref a3, .ref a4, .ref a5, .ref a6, .ref a7, .ref a8, .ref a9, .ref a10, .ref a11, .int 0, .int 0, .int 0]))] sz)) 0 0 (va_A [(a0, .inr (8, [.ref a1, .int 0, .int 0, .ref a2, .ref a3, .ref a4, .ref a5, .ref a6, .ref a7, .ref a8, .ref a9, .ref a10, .ref a11, .int 0, .int 0, .int 0]))] sz) := by
  refine m_body (y := yX11_room) (cd := cX11_room) (mL := 5) (rt := (some .int)) (rm := { frames := 1, cells := 0, slots := 0, locals := 21 }) (av := [.ref a0, .int i0]) (wc := [(a0, .inr (8, [.ref a1, .int 0, .int 0, .ref a2, .ref a3, .ref a4, .ref a5, .ref a6, .ref a7, .ref a8, .ref a9, .ref a10, .ref a11, .int 0, .int 0, .int 0]))]) (G := G) (sz := sz) (Qf := fun A => va_Qi (fun r _ => r = (-1)) (fun (u9 : KS) t => Bw G A [] t) A) (by decide) (Nat.le_of_ble_eq_true rfl) ?_
  intro p e s m args below meth c ls A X hi hP hD hS hl
  have hx := X.1.1
  have hb := X.1.2.1
  have hi : meth.name = "room" := hi
  have hl : lv_has ls 5 [(0, .ref a0), (1, .int i0)] := hl
  refine lv_aload_n hx hb dX11_room_0 rfl (lv_at hl 0 rfl) ?_
  refine lv_iload_n hx hb dX11_room_1 rfl (lv_at hl 1 rfl) ?_
  refine m_cVi (n := 1) (wr := []) (C := RX11) (T := TX11) (N := 16) (ci := 8) (As := [.int i0]) (rest := []) X hP hD hS (k36_X11_isHouse l G a0 i0 a1 a2 a3 a4 a5 a6 a7 a8 a9 a10 a11) [0] [] rfl rfl (by decide) (by decide) (by decide) rfl rfl qw_770 qw_771 qw_772 qw_2 qw_773 ⟨rfl, by decide +kernel, by decide +kernel, by decide +kernel⟩ ⟨Nat.le_of_ble_eq_true rfl, Nat.le_of_ble_eq_true rfl⟩ hl rfl rfl (Nat.le_of_ble_eq_true rfl) dX11_room_2 ⟨Nat.le_of_ble_eq_true rfl, Nat.le_of_ble_eq_true rfl⟩ (fun r9 u274 H locs hw hP hD hS => ?_)
  have hP : va_P G.1 vwCl [(a0, .inr (8, [.ref a1, .int 0, .int 0, .ref a2, .ref a3, .ref a4, .ref a5, .ref a6, .ref a7, .ref a8, .ref a9, .ref a10, .ref a11, .int 0, .int 0, .int 0]))] H := hP
  have hD : va_D A [(a0, .inr (8, [.ref a1, .int 0, .int 0, .ref a2, .ref a3, .ref a4, .ref a5, .ref a6, .ref a7, .ref a8, .ref a9, .ref a10, .ref a11, .int 0, .int 0, .int 0]))] := hD
  obtain rfl : r9 = 0 := hw
  refine lv_if_ne (tgt := 14) hx hb dX11_room_5 (by decide) (fun c9 => absurd c9 (by decide)) (fun _ => ?_)
  refine lv_aload_n hx hb dX11_room_8 rfl (lv_at hl 0 rfl) ?_
  refine lv_iconst (v := 1) hx hb dX11_room_9 (by decide) ?_
  refine m_cVi (n := 1) (wr := []) (C := RX11) (T := TX11) (N := 16) (ci := 8) (As := [.int 1]) (rest := []) X hP hD hS (k32_X11_refuse l G a0 a1 a2 a3 a4 a5 a6 a7 a8 a9 a10 a11) [0] [] rfl rfl (by decide) (by decide) (by decide) rfl rfl qw_152 qw_153 qw_154 qw_2 qw_155 ⟨rfl, by decide +kernel, by decide +kernel, by decide +kernel⟩ ⟨Nat.le_of_ble_eq_true rfl, Nat.le_of_ble_eq_true rfl⟩ hl rfl rfl (Nat.le_of_ble_eq_true rfl) dX11_room_10 ⟨Nat.le_of_ble_eq_true rfl, Nat.le_of_ble_eq_true rfl⟩ (fun r9 u275 H locs hw hP hD hS => ?_)
  have hP : va_P G.1 vwCl [(a0, .inr (8, [.ref a1, .int 0, .int 0, .ref a2, .ref a3, .ref a4, .ref a5, .ref a6, .ref a7, .ref a8, .ref a9, .ref a10, .ref a11, .int 1, .int 0, .int 0]))] H := hP
  have hD : va_D A [(a0, .inr (8, [.ref a1, .int 0, .int 0, .ref a2, .ref a3, .ref a4, .ref a5, .ref a6, .ref a7, .ref a8, .ref a9, .ref a10, .ref a11, .int 1, .int 0, .int 0]))] := hD
  obtain rfl : r9 = (-1) := hw
  exact m_iret X hP hD hS ((fun _ => 0), (fun _ _ => 0)) [] (by decide) rfl rfl (Nat.le_of_ble_eq_true rfl) (Nat.le_of_ble_eq_true rfl) dX11_room_13
set_option maxHeartbeats 4000000 in
set_option maxRecDepth 100000 in
theorem k57_X11_first (l : Launch) (G : KG) (a0 : Nat) (i0 : Int32) (a1 : Nat) (a2 : Nat) (a3 : Nat) (a4 : Nat) (a5 : Nat) (a6 : Nat) (a7 : Nat) (a8 : Nat) (a9 : Nat) (a10 : Nat) (a11 : Nat) (sz : Nat) : Met l yX11_first (.code yX11_first cX11_first 2 (some .int) :: wsL_law) { frames := 1, cells := 0, slots := 0, locals := 21 } (va_Pc [.ref a0, .int i0] (Pw G [(a0, .inr (8, [.ref a1, .int 0, .int 0, .ref a2, .ref a3, .ref a4, .ref a5, .ref a6, .ref a7, .ref a8, .ref a9, .ref a10, .ref a11, .int 0, .int 0, .int 0]))] sz)) (va_Qi (fun r _ => r = (-1)) (fun (u9 : KS) t => Bw G (va_A [(a0, .inr (8, [.ref a1, .int 0, .int 0, .ref a2, .ref a3, .ref a4, .ref a5, .ref a6, .ref a7, .ref a8, .ref a9, .ref a10, .ref a11, .int 0, .int 0, .int 0]))] sz) [] t) (va_A [(a0, .inr (8, [.ref a1, .int 0, .int 0, .ref a2, .ref a3, .ref a4, .ref a5, .ref a6, .ref a7, .ref a8, .ref a9, .ref a10, .ref a11, .int 0, .int 0, .int 0]))] sz)) 0 0 (va_A [(a0, .inr (8, [.ref a1, .int 0, .int 0, .ref a2, .ref a3, .ref a4, .ref a5, .ref a6, .ref a7, .ref a8, .ref a9, .ref a10, .ref a11, .int 0, .int 0, .int 0]))] sz) := by
  refine m_body (y := yX11_first) (cd := cX11_first) (mL := 2) (rt := (some .int)) (rm := { frames := 1, cells := 0, slots := 0, locals := 21 }) (av := [.ref a0, .int i0]) (wc := [(a0, .inr (8, [.ref a1, .int 0, .int 0, .ref a2, .ref a3, .ref a4, .ref a5, .ref a6, .ref a7, .ref a8, .ref a9, .ref a10, .ref a11, .int 0, .int 0, .int 0]))]) (G := G) (sz := sz) (Qf := fun A => va_Qi (fun r _ => r = (-1)) (fun (u9 : KS) t => Bw G A [] t) A) (by decide) (Nat.le_of_ble_eq_true rfl) ?_
  intro p e s m args below meth c ls A X hi hP hD hS hl
  have hx := X.1.1
  have hb := X.1.2.1
  have hi : meth.name = "first" := hi
  have hl : lv_has ls 2 [(0, .ref a0), (1, .int i0)] := hl
  refine lv_aload_n hx hb dX11_first_0 rfl (lv_at hl 0 rfl) ?_
  refine m_get (C := RX11) (T := TX11) (N := 16) (ci := 8) (v := .int 0) X hP 0 rfl rfl 2 (by decide) qw_150 inlX11 rfl dX11_first_1 ?_
  refine lv_if_ne (tgt := 13) hx hb dX11_first_4 (by decide) (fun c9 => absurd c9 (by decide)) (fun _ => ?_)
  refine lv_aload_n hx hb dX11_first_7 rfl (lv_at hl 0 rfl) ?_
  refine lv_iconst (v := 1) hx hb dX11_first_8 (by decide) ?_
  refine m_cVi (n := 1) (wr := []) (C := RX11) (T := TX11) (N := 16) (ci := 8) (As := [.int 1]) (rest := []) X hP hD hS (k32_X11_refuse l G a0 a1 a2 a3 a4 a5 a6 a7 a8 a9 a10 a11) [0] [] rfl rfl (by decide) (by decide) (by decide) rfl rfl qw_152 qw_153 qw_154 qw_2 qw_155 ⟨rfl, by decide +kernel, by decide +kernel, by decide +kernel⟩ ⟨Nat.le_of_ble_eq_true rfl, Nat.le_of_ble_eq_true rfl⟩ hl rfl rfl (Nat.le_of_ble_eq_true rfl) dX11_first_9 ⟨Nat.le_of_ble_eq_true rfl, Nat.le_of_ble_eq_true rfl⟩ (fun r9 u276 H locs hw hP hD hS => ?_)
  have hP : va_P G.1 vwCl [(a0, .inr (8, [.ref a1, .int 0, .int 0, .ref a2, .ref a3, .ref a4, .ref a5, .ref a6, .ref a7, .ref a8, .ref a9, .ref a10, .ref a11, .int 1, .int 0, .int 0]))] H := hP
  have hD : va_D A [(a0, .inr (8, [.ref a1, .int 0, .int 0, .ref a2, .ref a3, .ref a4, .ref a5, .ref a6, .ref a7, .ref a8, .ref a9, .ref a10, .ref a11, .int 1, .int 0, .int 0]))] := hD
  obtain rfl : r9 = (-1) := hw
  exact m_iret X hP hD hS ((fun _ => 0), (fun _ _ => 0)) [] (by decide) rfl rfl (Nat.le_of_ble_eq_true rfl) (Nat.le_of_ble_eq_true rfl) dX11_first_12
set_option maxHeartbeats 4000000 in
set_option maxRecDepth 100000 in
theorem k58_X11_firstAt (l : Launch) (G : KG) (a0 : Nat) (i0 : Int32) (i1 : Int32) (a1 : Nat) (a2 : Nat) (a3 : Nat) (a4 : Nat) (a5 : Nat) (a6 : Nat) (a7 : Nat) (a8 : Nat) (a9 : Nat) (a10 : Nat) (a11 : Nat) (sz : Nat) : Met l yX11_firstAt (.code yX11_firstAt cX11_firstAt 3 (some .int) :: wsL_law) { frames := 1, cells := 0, slots := 0, locals := 21 } (va_Pc [.ref a0, .int i0, .int i1] (Pw G [(a0, .inr (8, [.ref a1, .int 0, .int 0, .ref a2, .ref a3, .ref a4, .ref a5, .ref a6, .ref a7, .ref a8, .ref a9, .ref a10, .ref a11, .int 0, .int 0, .int 0]))] sz)) (va_Qi (fun r _ => r = (-1)) (fun (u9 : KS) t => Bw G (va_A [(a0, .inr (8, [.ref a1, .int 0, .int 0, .ref a2, .ref a3, .ref a4, .ref a5, .ref a6, .ref a7, .ref a8, .ref a9, .ref a10, .ref a11, .int 0, .int 0, .int 0]))] sz) [] t) (va_A [(a0, .inr (8, [.ref a1, .int 0, .int 0, .ref a2, .ref a3, .ref a4, .ref a5, .ref a6, .ref a7, .ref a8, .ref a9, .ref a10, .ref a11, .int 0, .int 0, .int 0]))] sz)) 0 0 (va_A [(a0, .inr (8, [.ref a1, .int 0, .int 0, .ref a2, .ref a3, .ref a4, .ref a5, .ref a6, .ref a7, .ref a8, .ref a9, .ref a10, .ref a11, .int 0, .int 0, .int 0]))] sz) := by
  refine m_body (y := yX11_firstAt) (cd := cX11_firstAt) (mL := 3) (rt := (some .int)) (rm := { frames := 1, cells := 0, slots := 0, locals := 21 }) (av := [.ref a0, .int i0, .int i1]) (wc := [(a0, .inr (8, [.ref a1, .int 0, .int 0, .ref a2, .ref a3, .ref a4, .ref a5, .ref a6, .ref a7, .ref a8, .ref a9, .ref a10, .ref a11, .int 0, .int 0, .int 0]))]) (G := G) (sz := sz) (Qf := fun A => va_Qi (fun r _ => r = (-1)) (fun (u9 : KS) t => Bw G A [] t) A) (by decide) (Nat.le_of_ble_eq_true rfl) ?_
  intro p e s m args below meth c ls A X hi hP hD hS hl
  have hx := X.1.1
  have hb := X.1.2.1
  have hi : meth.name = "firstAt" := hi
  have hl : lv_has ls 3 [(0, .ref a0), (1, .int i0), (2, .int i1)] := hl
  refine lv_aload_n hx hb dX11_firstAt_0 rfl (lv_at hl 0 rfl) ?_
  refine lv_iload_n hx hb dX11_firstAt_1 rfl (lv_at hl 2 rfl) ?_
  refine m_cVi (n := 1) (wr := []) (C := RX11) (T := TX11) (N := 16) (ci := 8) (As := [.int i1]) (rest := []) X hP hD hS (k36_X11_isHouse l G a0 i1 a1 a2 a3 a4 a5 a6 a7 a8 a9 a10 a11) [0] [] rfl rfl (by decide) (by decide) (by decide) rfl rfl qw_770 qw_771 qw_772 qw_2 qw_773 ⟨rfl, by decide +kernel, by decide +kernel, by decide +kernel⟩ ⟨Nat.le_of_ble_eq_true rfl, Nat.le_of_ble_eq_true rfl⟩ hl rfl rfl (Nat.le_of_ble_eq_true rfl) dX11_firstAt_2 ⟨Nat.le_of_ble_eq_true rfl, Nat.le_of_ble_eq_true rfl⟩ (fun r9 u277 H locs hw hP hD hS => ?_)
  have hP : va_P G.1 vwCl [(a0, .inr (8, [.ref a1, .int 0, .int 0, .ref a2, .ref a3, .ref a4, .ref a5, .ref a6, .ref a7, .ref a8, .ref a9, .ref a10, .ref a11, .int 0, .int 0, .int 0]))] H := hP
  have hD : va_D A [(a0, .inr (8, [.ref a1, .int 0, .int 0, .ref a2, .ref a3, .ref a4, .ref a5, .ref a6, .ref a7, .ref a8, .ref a9, .ref a10, .ref a11, .int 0, .int 0, .int 0]))] := hD
  obtain rfl : r9 = 0 := hw
  refine lv_if_ne (tgt := 14) hx hb dX11_firstAt_5 (by decide) (fun c9 => absurd c9 (by decide)) (fun _ => ?_)
  refine lv_aload_n hx hb dX11_firstAt_8 rfl (lv_at hl 0 rfl) ?_
  refine lv_iconst (v := 1) hx hb dX11_firstAt_9 (by decide) ?_
  refine m_cVi (n := 1) (wr := []) (C := RX11) (T := TX11) (N := 16) (ci := 8) (As := [.int 1]) (rest := []) X hP hD hS (k32_X11_refuse l G a0 a1 a2 a3 a4 a5 a6 a7 a8 a9 a10 a11) [0] [] rfl rfl (by decide) (by decide) (by decide) rfl rfl qw_152 qw_153 qw_154 qw_2 qw_155 ⟨rfl, by decide +kernel, by decide +kernel, by decide +kernel⟩ ⟨Nat.le_of_ble_eq_true rfl, Nat.le_of_ble_eq_true rfl⟩ hl rfl rfl (Nat.le_of_ble_eq_true rfl) dX11_firstAt_10 ⟨Nat.le_of_ble_eq_true rfl, Nat.le_of_ble_eq_true rfl⟩ (fun r9 u278 H locs hw hP hD hS => ?_)
  have hP : va_P G.1 vwCl [(a0, .inr (8, [.ref a1, .int 0, .int 0, .ref a2, .ref a3, .ref a4, .ref a5, .ref a6, .ref a7, .ref a8, .ref a9, .ref a10, .ref a11, .int 1, .int 0, .int 0]))] H := hP
  have hD : va_D A [(a0, .inr (8, [.ref a1, .int 0, .int 0, .ref a2, .ref a3, .ref a4, .ref a5, .ref a6, .ref a7, .ref a8, .ref a9, .ref a10, .ref a11, .int 1, .int 0, .int 0]))] := hD
  obtain rfl : r9 = (-1) := hw
  exact m_iret X hP hD hS ((fun _ => 0), (fun _ _ => 0)) [] (by decide) rfl rfl (Nat.le_of_ble_eq_true rfl) (Nat.le_of_ble_eq_true rfl) dX11_firstAt_13
set_option maxHeartbeats 4000000 in
set_option maxRecDepth 100000 in
theorem k59_X11_heads (l : Launch) (G : KG) (a0 : Nat) (i0 : Int32) (i1 : Int32) (a1 : Nat) (a2 : Nat) (a3 : Nat) (a4 : Nat) (a5 : Nat) (a6 : Nat) (a7 : Nat) (a8 : Nat) (a9 : Nat) (a10 : Nat) (a11 : Nat) (sz : Nat) : Met l yX11_heads (.code yX11_heads cX11_heads 5 (some .int) :: wsL_law) { frames := 1, cells := 0, slots := 0, locals := 21 } (va_Pc [.ref a0, .int i0, .int i1] (Pw G [(a0, .inr (8, [.ref a1, .int 0, .int 0, .ref a2, .ref a3, .ref a4, .ref a5, .ref a6, .ref a7, .ref a8, .ref a9, .ref a10, .ref a11, .int 0, .int 0, .int 0]))] sz)) (va_Qi (fun r _ => r = (-1)) (fun (u9 : KS) t => Bw G (va_A [(a0, .inr (8, [.ref a1, .int 0, .int 0, .ref a2, .ref a3, .ref a4, .ref a5, .ref a6, .ref a7, .ref a8, .ref a9, .ref a10, .ref a11, .int 0, .int 0, .int 0]))] sz) [] t) (va_A [(a0, .inr (8, [.ref a1, .int 0, .int 0, .ref a2, .ref a3, .ref a4, .ref a5, .ref a6, .ref a7, .ref a8, .ref a9, .ref a10, .ref a11, .int 0, .int 0, .int 0]))] sz)) 0 0 (va_A [(a0, .inr (8, [.ref a1, .int 0, .int 0, .ref a2, .ref a3, .ref a4, .ref a5, .ref a6, .ref a7, .ref a8, .ref a9, .ref a10, .ref a11, .int 0, .int 0, .int 0]))] sz) := by
  refine m_body (y := yX11_heads) (cd := cX11_heads) (mL := 5) (rt := (some .int)) (rm := { frames := 1, cells := 0, slots := 0, locals := 21 }) (av := [.ref a0, .int i0, .int i1]) (wc := [(a0, .inr (8, [.ref a1, .int 0, .int 0, .ref a2, .ref a3, .ref a4, .ref a5, .ref a6, .ref a7, .ref a8, .ref a9, .ref a10, .ref a11, .int 0, .int 0, .int 0]))]) (G := G) (sz := sz) (Qf := fun A => va_Qi (fun r _ => r = (-1)) (fun (u9 : KS) t => Bw G A [] t) A) (by decide) (Nat.le_of_ble_eq_true rfl) ?_
  intro p e s m args below meth c ls A X hi hP hD hS hl
  have hx := X.1.1
  have hb := X.1.2.1
  have hi : meth.name = "heads" := hi
  have hl : lv_has ls 5 [(0, .ref a0), (1, .int i0), (2, .int i1)] := hl
  refine lv_aload_n hx hb dX11_heads_0 rfl (lv_at hl 0 rfl) ?_
  refine m_get (C := RX11) (T := TX11) (N := 16) (ci := 8) (v := .int 0) X hP 0 rfl rfl 2 (by decide) qw_150 inlX11 rfl dX11_heads_1 ?_
  refine lv_if_ne (tgt := 13) hx hb dX11_heads_4 (by decide) (fun c9 => absurd c9 (by decide)) (fun _ => ?_)
  refine lv_aload_n hx hb dX11_heads_7 rfl (lv_at hl 0 rfl) ?_
  refine lv_iconst (v := 1) hx hb dX11_heads_8 (by decide) ?_
  refine m_cVi (n := 1) (wr := []) (C := RX11) (T := TX11) (N := 16) (ci := 8) (As := [.int 1]) (rest := []) X hP hD hS (k32_X11_refuse l G a0 a1 a2 a3 a4 a5 a6 a7 a8 a9 a10 a11) [0] [] rfl rfl (by decide) (by decide) (by decide) rfl rfl qw_152 qw_153 qw_154 qw_2 qw_155 ⟨rfl, by decide +kernel, by decide +kernel, by decide +kernel⟩ ⟨Nat.le_of_ble_eq_true rfl, Nat.le_of_ble_eq_true rfl⟩ hl rfl rfl (Nat.le_of_ble_eq_true rfl) dX11_heads_9 ⟨Nat.le_of_ble_eq_true rfl, Nat.le_of_ble_eq_true rfl⟩ (fun r9 u279 H locs hw hP hD hS => ?_)
  have hP : va_P G.1 vwCl [(a0, .inr (8, [.ref a1, .int 0, .int 0, .ref a2, .ref a3, .ref a4, .ref a5, .ref a6, .ref a7, .ref a8, .ref a9, .ref a10, .ref a11, .int 1, .int 0, .int 0]))] H := hP
  have hD : va_D A [(a0, .inr (8, [.ref a1, .int 0, .int 0, .ref a2, .ref a3, .ref a4, .ref a5, .ref a6, .ref a7, .ref a8, .ref a9, .ref a10, .ref a11, .int 1, .int 0, .int 0]))] := hD
  obtain rfl : r9 = (-1) := hw
  exact m_iret X hP hD hS ((fun _ => 0), (fun _ _ => 0)) [] (by decide) rfl rfl (Nat.le_of_ble_eq_true rfl) (Nat.le_of_ble_eq_true rfl) dX11_heads_12
set_option maxHeartbeats 4000000 in
set_option maxRecDepth 100000 in
theorem k60_X11_takes (l : Launch) (G : KG) (a0 : Nat) (i0 : Int32) (a1 : Nat) (a2 : Nat) (a3 : Nat) (a4 : Nat) (a5 : Nat) (a6 : Nat) (a7 : Nat) (a8 : Nat) (a9 : Nat) (a10 : Nat) (a11 : Nat) (sz : Nat) : Met l yX11_takes (.code yX11_takes cX11_takes 3 (some .int) :: wsL_law) { frames := 1, cells := 0, slots := 0, locals := 21 } (va_Pc [.ref a0, .int i0] (Pw G [(a0, .inr (8, [.ref a1, .int 0, .int 0, .ref a2, .ref a3, .ref a4, .ref a5, .ref a6, .ref a7, .ref a8, .ref a9, .ref a10, .ref a11, .int 0, .int 0, .int 0]))] sz)) (va_Qi (fun r _ => r = (-1)) (fun (u9 : KS) t => Bw G (va_A [(a0, .inr (8, [.ref a1, .int 0, .int 0, .ref a2, .ref a3, .ref a4, .ref a5, .ref a6, .ref a7, .ref a8, .ref a9, .ref a10, .ref a11, .int 0, .int 0, .int 0]))] sz) [] t) (va_A [(a0, .inr (8, [.ref a1, .int 0, .int 0, .ref a2, .ref a3, .ref a4, .ref a5, .ref a6, .ref a7, .ref a8, .ref a9, .ref a10, .ref a11, .int 0, .int 0, .int 0]))] sz)) 0 0 (va_A [(a0, .inr (8, [.ref a1, .int 0, .int 0, .ref a2, .ref a3, .ref a4, .ref a5, .ref a6, .ref a7, .ref a8, .ref a9, .ref a10, .ref a11, .int 0, .int 0, .int 0]))] sz) := by
  refine m_body (y := yX11_takes) (cd := cX11_takes) (mL := 3) (rt := (some .int)) (rm := { frames := 1, cells := 0, slots := 0, locals := 21 }) (av := [.ref a0, .int i0]) (wc := [(a0, .inr (8, [.ref a1, .int 0, .int 0, .ref a2, .ref a3, .ref a4, .ref a5, .ref a6, .ref a7, .ref a8, .ref a9, .ref a10, .ref a11, .int 0, .int 0, .int 0]))]) (G := G) (sz := sz) (Qf := fun A => va_Qi (fun r _ => r = (-1)) (fun (u9 : KS) t => Bw G A [] t) A) (by decide) (Nat.le_of_ble_eq_true rfl) ?_
  intro p e s m args below meth c ls A X hi hP hD hS hl
  have hx := X.1.1
  have hb := X.1.2.1
  have hi : meth.name = "takes" := hi
  have hl : lv_has ls 3 [(0, .ref a0), (1, .int i0)] := hl
  refine lv_aload_n hx hb dX11_takes_0 rfl (lv_at hl 0 rfl) ?_
  refine lv_iload_n hx hb dX11_takes_1 rfl (lv_at hl 1 rfl) ?_
  refine m_cVi (n := 1) (wr := []) (C := RX11) (T := TX11) (N := 16) (ci := 8) (As := [.int i0]) (rest := []) X hP hD hS (k36_X11_isHouse l G a0 i0 a1 a2 a3 a4 a5 a6 a7 a8 a9 a10 a11) [0] [] rfl rfl (by decide) (by decide) (by decide) rfl rfl qw_770 qw_771 qw_772 qw_2 qw_773 ⟨rfl, by decide +kernel, by decide +kernel, by decide +kernel⟩ ⟨Nat.le_of_ble_eq_true rfl, Nat.le_of_ble_eq_true rfl⟩ hl rfl rfl (Nat.le_of_ble_eq_true rfl) dX11_takes_2 ⟨Nat.le_of_ble_eq_true rfl, Nat.le_of_ble_eq_true rfl⟩ (fun r9 u280 H locs hw hP hD hS => ?_)
  have hP : va_P G.1 vwCl [(a0, .inr (8, [.ref a1, .int 0, .int 0, .ref a2, .ref a3, .ref a4, .ref a5, .ref a6, .ref a7, .ref a8, .ref a9, .ref a10, .ref a11, .int 0, .int 0, .int 0]))] H := hP
  have hD : va_D A [(a0, .inr (8, [.ref a1, .int 0, .int 0, .ref a2, .ref a3, .ref a4, .ref a5, .ref a6, .ref a7, .ref a8, .ref a9, .ref a10, .ref a11, .int 0, .int 0, .int 0]))] := hD
  obtain rfl : r9 = 0 := hw
  refine lv_if_ne (tgt := 14) hx hb dX11_takes_5 (by decide) (fun c9 => absurd c9 (by decide)) (fun _ => ?_)
  refine lv_aload_n hx hb dX11_takes_8 rfl (lv_at hl 0 rfl) ?_
  refine lv_iconst (v := 1) hx hb dX11_takes_9 (by decide) ?_
  refine m_cVi (n := 1) (wr := []) (C := RX11) (T := TX11) (N := 16) (ci := 8) (As := [.int 1]) (rest := []) X hP hD hS (k32_X11_refuse l G a0 a1 a2 a3 a4 a5 a6 a7 a8 a9 a10 a11) [0] [] rfl rfl (by decide) (by decide) (by decide) rfl rfl qw_152 qw_153 qw_154 qw_2 qw_155 ⟨rfl, by decide +kernel, by decide +kernel, by decide +kernel⟩ ⟨Nat.le_of_ble_eq_true rfl, Nat.le_of_ble_eq_true rfl⟩ hl rfl rfl (Nat.le_of_ble_eq_true rfl) dX11_takes_10 ⟨Nat.le_of_ble_eq_true rfl, Nat.le_of_ble_eq_true rfl⟩ (fun r9 u281 H locs hw hP hD hS => ?_)
  have hP : va_P G.1 vwCl [(a0, .inr (8, [.ref a1, .int 0, .int 0, .ref a2, .ref a3, .ref a4, .ref a5, .ref a6, .ref a7, .ref a8, .ref a9, .ref a10, .ref a11, .int 1, .int 0, .int 0]))] H := hP
  have hD : va_D A [(a0, .inr (8, [.ref a1, .int 0, .int 0, .ref a2, .ref a3, .ref a4, .ref a5, .ref a6, .ref a7, .ref a8, .ref a9, .ref a10, .ref a11, .int 1, .int 0, .int 0]))] := hD
  obtain rfl : r9 = (-1) := hw
  exact m_iret X hP hD hS ((fun _ => 0), (fun _ _ => 0)) [] (by decide) rfl rfl (Nat.le_of_ble_eq_true rfl) (Nat.le_of_ble_eq_true rfl) dX11_takes_13
set_option maxHeartbeats 4000000 in
set_option maxRecDepth 100000 in
theorem k61_X11_worth (l : Launch) (G : KG) (a0 : Nat) (i0 : Int32) (a1 : Nat) (a2 : Nat) (a3 : Nat) (a4 : Nat) (a5 : Nat) (a6 : Nat) (a7 : Nat) (a8 : Nat) (a9 : Nat) (a10 : Nat) (a11 : Nat) (sz : Nat) : Met l yX11_worth (.code yX11_worth cX11_worth 4 (some .int) :: wsL_law) { frames := 1, cells := 0, slots := 0, locals := 21 } (va_Pc [.ref a0, .int i0] (Pw G [(a0, .inr (8, [.ref a1, .int 0, .int 0, .ref a2, .ref a3, .ref a4, .ref a5, .ref a6, .ref a7, .ref a8, .ref a9, .ref a10, .ref a11, .int 0, .int 0, .int 0]))] sz)) (va_Qi (fun r _ => r = (-1)) (fun (u9 : KS) t => Bw G (va_A [(a0, .inr (8, [.ref a1, .int 0, .int 0, .ref a2, .ref a3, .ref a4, .ref a5, .ref a6, .ref a7, .ref a8, .ref a9, .ref a10, .ref a11, .int 0, .int 0, .int 0]))] sz) [] t) (va_A [(a0, .inr (8, [.ref a1, .int 0, .int 0, .ref a2, .ref a3, .ref a4, .ref a5, .ref a6, .ref a7, .ref a8, .ref a9, .ref a10, .ref a11, .int 0, .int 0, .int 0]))] sz)) 0 0 (va_A [(a0, .inr (8, [.ref a1, .int 0, .int 0, .ref a2, .ref a3, .ref a4, .ref a5, .ref a6, .ref a7, .ref a8, .ref a9, .ref a10, .ref a11, .int 0, .int 0, .int 0]))] sz) := by
  refine m_body (y := yX11_worth) (cd := cX11_worth) (mL := 4) (rt := (some .int)) (rm := { frames := 1, cells := 0, slots := 0, locals := 21 }) (av := [.ref a0, .int i0]) (wc := [(a0, .inr (8, [.ref a1, .int 0, .int 0, .ref a2, .ref a3, .ref a4, .ref a5, .ref a6, .ref a7, .ref a8, .ref a9, .ref a10, .ref a11, .int 0, .int 0, .int 0]))]) (G := G) (sz := sz) (Qf := fun A => va_Qi (fun r _ => r = (-1)) (fun (u9 : KS) t => Bw G A [] t) A) (by decide) (Nat.le_of_ble_eq_true rfl) ?_
  intro p e s m args below meth c ls A X hi hP hD hS hl
  have hx := X.1.1
  have hb := X.1.2.1
  have hi : meth.name = "worth" := hi
  have hl : lv_has ls 4 [(0, .ref a0), (1, .int i0)] := hl
  refine lv_aload_n hx hb dX11_worth_0 rfl (lv_at hl 0 rfl) ?_
  refine lv_iload_n hx hb dX11_worth_1 rfl (lv_at hl 1 rfl) ?_
  refine m_cVi (n := 1) (wr := []) (C := RX11) (T := TX11) (N := 16) (ci := 8) (As := [.int i0]) (rest := []) X hP hD hS (k36_X11_isHouse l G a0 i0 a1 a2 a3 a4 a5 a6 a7 a8 a9 a10 a11) [0] [] rfl rfl (by decide) (by decide) (by decide) rfl rfl qw_770 qw_771 qw_772 qw_2 qw_773 ⟨rfl, by decide +kernel, by decide +kernel, by decide +kernel⟩ ⟨Nat.le_of_ble_eq_true rfl, Nat.le_of_ble_eq_true rfl⟩ hl rfl rfl (Nat.le_of_ble_eq_true rfl) dX11_worth_2 ⟨Nat.le_of_ble_eq_true rfl, Nat.le_of_ble_eq_true rfl⟩ (fun r9 u282 H locs hw hP hD hS => ?_)
  have hP : va_P G.1 vwCl [(a0, .inr (8, [.ref a1, .int 0, .int 0, .ref a2, .ref a3, .ref a4, .ref a5, .ref a6, .ref a7, .ref a8, .ref a9, .ref a10, .ref a11, .int 0, .int 0, .int 0]))] H := hP
  have hD : va_D A [(a0, .inr (8, [.ref a1, .int 0, .int 0, .ref a2, .ref a3, .ref a4, .ref a5, .ref a6, .ref a7, .ref a8, .ref a9, .ref a10, .ref a11, .int 0, .int 0, .int 0]))] := hD
  obtain rfl : r9 = 0 := hw
  refine lv_if_ne (tgt := 14) hx hb dX11_worth_5 (by decide) (fun c9 => absurd c9 (by decide)) (fun _ => ?_)
  refine lv_aload_n hx hb dX11_worth_8 rfl (lv_at hl 0 rfl) ?_
  refine lv_iconst (v := 1) hx hb dX11_worth_9 (by decide) ?_
  refine m_cVi (n := 1) (wr := []) (C := RX11) (T := TX11) (N := 16) (ci := 8) (As := [.int 1]) (rest := []) X hP hD hS (k32_X11_refuse l G a0 a1 a2 a3 a4 a5 a6 a7 a8 a9 a10 a11) [0] [] rfl rfl (by decide) (by decide) (by decide) rfl rfl qw_152 qw_153 qw_154 qw_2 qw_155 ⟨rfl, by decide +kernel, by decide +kernel, by decide +kernel⟩ ⟨Nat.le_of_ble_eq_true rfl, Nat.le_of_ble_eq_true rfl⟩ hl rfl rfl (Nat.le_of_ble_eq_true rfl) dX11_worth_10 ⟨Nat.le_of_ble_eq_true rfl, Nat.le_of_ble_eq_true rfl⟩ (fun r9 u283 H locs hw hP hD hS => ?_)
  have hP : va_P G.1 vwCl [(a0, .inr (8, [.ref a1, .int 0, .int 0, .ref a2, .ref a3, .ref a4, .ref a5, .ref a6, .ref a7, .ref a8, .ref a9, .ref a10, .ref a11, .int 1, .int 0, .int 0]))] H := hP
  have hD : va_D A [(a0, .inr (8, [.ref a1, .int 0, .int 0, .ref a2, .ref a3, .ref a4, .ref a5, .ref a6, .ref a7, .ref a8, .ref a9, .ref a10, .ref a11, .int 1, .int 0, .int 0]))] := hD
  obtain rfl : r9 = (-1) := hw
  exact m_iret X hP hD hS ((fun _ => 0), (fun _ _ => 0)) [] (by decide) rfl rfl (Nat.le_of_ble_eq_true rfl) (Nat.le_of_ble_eq_true rfl) dX11_worth_13
set_option maxHeartbeats 4000000 in
set_option maxRecDepth 100000 in
theorem k62_X11_orders (l : Launch) (G : KG) (a0 : Nat) (a1 : Nat) (a2 : Nat) (a3 : Nat) (a4 : Nat) (a5 : Nat) (a6 : Nat) (a7 : Nat) (a8 : Nat) (a9 : Nat) (a10 : Nat) (a11 : Nat) (sz : Nat) : Met l yX11_orders (.code yX11_orders cX11_orders 1 (some .int) :: wsL_law) { frames := 1, cells := 0, slots := 0, locals := 21 } (va_Pc [.ref a0] (Pw G [(a0, .inr (8, [.ref a1, .int 0, .int 0, .ref a2, .ref a3, .ref a4, .ref a5, .ref a6, .ref a7, .ref a8, .ref a9, .ref a10, .ref a11, .int 0, .int 0, .int 0]))] sz)) (va_Qi (fun r _ => r = (-1)) (fun (u9 : KS) t => Bw G (va_A [(a0, .inr (8, [.ref a1, .int 0, .int 0, .ref a2, .ref a3, .ref a4, .ref a5, .ref a6, .ref a7, .ref a8, .ref a9, .ref a10, .ref a11, .int 0, .int 0, .int 0]))] sz) [] t) (va_A [(a0, .inr (8, [.ref a1, .int 0, .int 0, .ref a2, .ref a3, .ref a4, .ref a5, .ref a6, .ref a7, .ref a8, .ref a9, .ref a10, .ref a11, .int 0, .int 0, .int 0]))] sz)) 0 0 (va_A [(a0, .inr (8, [.ref a1, .int 0, .int 0, .ref a2, .ref a3, .ref a4, .ref a5, .ref a6, .ref a7, .ref a8, .ref a9, .ref a10, .ref a11, .int 0, .int 0, .int 0]))] sz) := by
  refine m_body (y := yX11_orders) (cd := cX11_orders) (mL := 1) (rt := (some .int)) (rm := { frames := 1, cells := 0, slots := 0, locals := 21 }) (av := [.ref a0]) (wc := [(a0, .inr (8, [.ref a1, .int 0, .int 0, .ref a2, .ref a3, .ref a4, .ref a5, .ref a6, .ref a7, .ref a8, .ref a9, .ref a10, .ref a11, .int 0, .int 0, .int 0]))]) (G := G) (sz := sz) (Qf := fun A => va_Qi (fun r _ => r = (-1)) (fun (u9 : KS) t => Bw G A [] t) A) (by decide) (Nat.le_of_ble_eq_true rfl) ?_
  intro p e s m args below meth c ls A X hi hP hD hS hl
  have hx := X.1.1
  have hb := X.1.2.1
  have hi : meth.name = "orders" := hi
  have hl : lv_has ls 1 [(0, .ref a0)] := hl
  refine lv_aload_n hx hb dX11_orders_0 rfl (lv_at hl 0 rfl) ?_
  refine m_get (C := RX11) (T := TX11) (N := 16) (ci := 8) (v := .int 0) X hP 0 rfl rfl 2 (by decide) qw_150 inlX11 rfl dX11_orders_1 ?_
  refine lv_if_ne (tgt := 13) hx hb dX11_orders_4 (by decide) (fun c9 => absurd c9 (by decide)) (fun _ => ?_)
  refine lv_aload_n hx hb dX11_orders_7 rfl (lv_at hl 0 rfl) ?_
  refine lv_iconst (v := 1) hx hb dX11_orders_8 (by decide) ?_
  refine m_cVi (n := 1) (wr := []) (C := RX11) (T := TX11) (N := 16) (ci := 8) (As := [.int 1]) (rest := []) X hP hD hS (k32_X11_refuse l G a0 a1 a2 a3 a4 a5 a6 a7 a8 a9 a10 a11) [0] [] rfl rfl (by decide) (by decide) (by decide) rfl rfl qw_152 qw_153 qw_154 qw_2 qw_155 ⟨rfl, by decide +kernel, by decide +kernel, by decide +kernel⟩ ⟨Nat.le_of_ble_eq_true rfl, Nat.le_of_ble_eq_true rfl⟩ hl rfl rfl (Nat.le_of_ble_eq_true rfl) dX11_orders_9 ⟨Nat.le_of_ble_eq_true rfl, Nat.le_of_ble_eq_true rfl⟩ (fun r9 u284 H locs hw hP hD hS => ?_)
  have hP : va_P G.1 vwCl [(a0, .inr (8, [.ref a1, .int 0, .int 0, .ref a2, .ref a3, .ref a4, .ref a5, .ref a6, .ref a7, .ref a8, .ref a9, .ref a10, .ref a11, .int 1, .int 0, .int 0]))] H := hP
  have hD : va_D A [(a0, .inr (8, [.ref a1, .int 0, .int 0, .ref a2, .ref a3, .ref a4, .ref a5, .ref a6, .ref a7, .ref a8, .ref a9, .ref a10, .ref a11, .int 1, .int 0, .int 0]))] := hD
  obtain rfl : r9 = (-1) := hw
  exact m_iret X hP hD hS ((fun _ => 0), (fun _ _ => 0)) [] (by decide) rfl rfl (Nat.le_of_ble_eq_true rfl) (Nat.le_of_ble_eq_true rfl) dX11_orders_12
set_option maxHeartbeats 4000000 in
set_option maxRecDepth 100000 in
theorem k63_X11_isWall (l : Launch) (G : KG) (a0 : Nat) (i0 : Int32) (a1 : Nat) (a2 : Nat) (a3 : Nat) (a4 : Nat) (a5 : Nat) (a6 : Nat) (a7 : Nat) (a8 : Nat) (a9 : Nat) (a10 : Nat) (a11 : Nat) (sz : Nat) : Met l yX11_isWall (.code yX11_isWall cX11_isWall 2 (some .boolean) :: wsL_law) { frames := 0, cells := 0, slots := 0, locals := 0 } (va_Pc [.ref a0, .int i0] (Pw G [(a0, .inr (8, [.ref a1, .int 0, .int 0, .ref a2, .ref a3, .ref a4, .ref a5, .ref a6, .ref a7, .ref a8, .ref a9, .ref a10, .ref a11, .int 0, .int 0, .int 0]))] sz)) (va_Qi (fun r _ => r = 0) (fun (u9 : KS) t => Bw G (va_A [(a0, .inr (8, [.ref a1, .int 0, .int 0, .ref a2, .ref a3, .ref a4, .ref a5, .ref a6, .ref a7, .ref a8, .ref a9, .ref a10, .ref a11, .int 0, .int 0, .int 0]))] sz) [(a0, .inr (8, [.ref a1, .int 0, .int 0, .ref a2, .ref a3, .ref a4, .ref a5, .ref a6, .ref a7, .ref a8, .ref a9, .ref a10, .ref a11, .int 0, .int 0, .int 0]))] t) (va_A [(a0, .inr (8, [.ref a1, .int 0, .int 0, .ref a2, .ref a3, .ref a4, .ref a5, .ref a6, .ref a7, .ref a8, .ref a9, .ref a10, .ref a11, .int 0, .int 0, .int 0]))] sz)) 0 0 (va_A [(a0, .inr (8, [.ref a1, .int 0, .int 0, .ref a2, .ref a3, .ref a4, .ref a5, .ref a6, .ref a7, .ref a8, .ref a9, .ref a10, .ref a11, .int 0, .int 0, .int 0]))] sz) := by
  refine m_body (y := yX11_isWall) (cd := cX11_isWall) (mL := 2) (rt := (some .boolean)) (rm := { frames := 0, cells := 0, slots := 0, locals := 0 }) (av := [.ref a0, .int i0]) (wc := [(a0, .inr (8, [.ref a1, .int 0, .int 0, .ref a2, .ref a3, .ref a4, .ref a5, .ref a6, .ref a7, .ref a8, .ref a9, .ref a10, .ref a11, .int 0, .int 0, .int 0]))]) (G := G) (sz := sz) (Qf := fun A => va_Qi (fun r _ => r = 0) (fun (u9 : KS) t => Bw G A [(a0, .inr (8, [.ref a1, .int 0, .int 0, .ref a2, .ref a3, .ref a4, .ref a5, .ref a6, .ref a7, .ref a8, .ref a9, .ref a10, .ref a11, .int 0, .int 0, .int 0]))] t) A) (by decide) (Nat.le_of_ble_eq_true rfl) ?_
  intro p e s m args below meth c ls A X hi hP hD hS hl
  have hx := X.1.1
  have hb := X.1.2.1
  have hi : meth.name = "isWall" := hi
  have hl : lv_has ls 2 [(0, .ref a0), (1, .int i0)] := hl
  refine lv_aload_n hx hb dX11_isWall_0 rfl (lv_at hl 0 rfl) ?_
  refine m_get (C := RX11) (T := TX11) (N := 16) (ci := 8) (v := .int 0) X hP 0 rfl rfl 2 (by decide) qw_150 inlX11 rfl dX11_isWall_1 ?_
  refine lv_if_eq (tgt := 26) hx hb dX11_isWall_4 (by decide) (fun _ => ?_) (fun c9 => absurd c9 (by decide))
  refine lv_iconst (v := 0) hx hb dX11_isWall_26 (by decide) ?_
  exact m_zret X hP hD hS ((fun _ => 0), (fun _ _ => 0)) [0] (by decide) rfl (by decide) rfl (Nat.le_of_ble_eq_true rfl) (Nat.le_of_ble_eq_true rfl) dX11_isWall_27
set_option maxHeartbeats 4000000 in
set_option maxRecDepth 100000 in
theorem k64_X11_order (l : Launch) (G : KG) (a0 : Nat) (i0 : Int32) (i1 : Int32) (a1 : Nat) (a2 : Nat) (a3 : Nat) (a4 : Nat) (a5 : Nat) (a6 : Nat) (a7 : Nat) (a8 : Nat) (a9 : Nat) (a10 : Nat) (a11 : Nat) (sz : Nat) : Met l yX11_order (.code yX11_order cX11_order 4 (some .int) :: wsL_law) { frames := 1, cells := 0, slots := 0, locals := 21 } (va_Pc [.ref a0, .int i0, .int i1] (Pw G [(a0, .inr (8, [.ref a1, .int 0, .int 0, .ref a2, .ref a3, .ref a4, .ref a5, .ref a6, .ref a7, .ref a8, .ref a9, .ref a10, .ref a11, .int 0, .int 0, .int 0]))] sz)) (va_Qi (fun r _ => r = (-1)) (fun (u9 : KS) t => Bw G (va_A [(a0, .inr (8, [.ref a1, .int 0, .int 0, .ref a2, .ref a3, .ref a4, .ref a5, .ref a6, .ref a7, .ref a8, .ref a9, .ref a10, .ref a11, .int 0, .int 0, .int 0]))] sz) [] t) (va_A [(a0, .inr (8, [.ref a1, .int 0, .int 0, .ref a2, .ref a3, .ref a4, .ref a5, .ref a6, .ref a7, .ref a8, .ref a9, .ref a10, .ref a11, .int 0, .int 0, .int 0]))] sz)) 0 0 (va_A [(a0, .inr (8, [.ref a1, .int 0, .int 0, .ref a2, .ref a3, .ref a4, .ref a5, .ref a6, .ref a7, .ref a8, .ref a9, .ref a10, .ref a11, .int 0, .int 0, .int 0]))] sz) := by
  refine m_body (y := yX11_order) (cd := cX11_order) (mL := 4) (rt := (some .int)) (rm := { frames := 1, cells := 0, slots := 0, locals := 21 }) (av := [.ref a0, .int i0, .int i1]) (wc := [(a0, .inr (8, [.ref a1, .int 0, .int 0, .ref a2, .ref a3, .ref a4, .ref a5, .ref a6, .ref a7, .ref a8, .ref a9, .ref a10, .ref a11, .int 0, .int 0, .int 0]))]) (G := G) (sz := sz) (Qf := fun A => va_Qi (fun r _ => r = (-1)) (fun (u9 : KS) t => Bw G A [] t) A) (by decide) (Nat.le_of_ble_eq_true rfl) ?_
  intro p e s m args below meth c ls A X hi hP hD hS hl
  have hx := X.1.1
  have hb := X.1.2.1
  have hi : meth.name = "order" := hi
  have hl : lv_has ls 4 [(0, .ref a0), (1, .int i0), (2, .int i1)] := hl
  refine lv_aload_n hx hb dX11_order_0 rfl (lv_at hl 0 rfl) ?_
  refine lv_iload_n hx hb dX11_order_1 rfl (lv_at hl 2 rfl) ?_
  refine m_cVi (n := 1) (wr := []) (C := RX11) (T := TX11) (N := 16) (ci := 8) (As := [.int i1]) (rest := []) X hP hD hS (k63_X11_isWall l G a0 i1 a1 a2 a3 a4 a5 a6 a7 a8 a9 a10 a11) [0] [] rfl rfl (by decide) (by decide) (by decide) rfl rfl qw_1379 qw_1380 qw_1381 qw_2 qw_1382 ⟨rfl, by decide +kernel, by decide +kernel, by decide +kernel⟩ ⟨Nat.le_of_ble_eq_true rfl, Nat.le_of_ble_eq_true rfl⟩ hl rfl rfl (Nat.le_of_ble_eq_true rfl) dX11_order_2 ⟨Nat.le_of_ble_eq_true rfl, Nat.le_of_ble_eq_true rfl⟩ (fun r9 u285 H locs hw hP hD hS => ?_)
  have hP : va_P G.1 vwCl [(a0, .inr (8, [.ref a1, .int 0, .int 0, .ref a2, .ref a3, .ref a4, .ref a5, .ref a6, .ref a7, .ref a8, .ref a9, .ref a10, .ref a11, .int 0, .int 0, .int 0]))] H := hP
  have hD : va_D A [(a0, .inr (8, [.ref a1, .int 0, .int 0, .ref a2, .ref a3, .ref a4, .ref a5, .ref a6, .ref a7, .ref a8, .ref a9, .ref a10, .ref a11, .int 0, .int 0, .int 0]))] := hD
  obtain rfl : r9 = 0 := hw
  refine lv_if_eq (tgt := 22) hx hb dX11_order_5 (by decide) (fun _ => ?_) (fun c9 => absurd c9 (by decide))
  refine lv_aload_n hx hb dX11_order_22 rfl (lv_at hl 0 rfl) ?_
  refine lv_iconst (v := 1) hx hb dX11_order_23 (by decide) ?_
  refine m_cVi (n := 1) (wr := []) (C := RX11) (T := TX11) (N := 16) (ci := 8) (As := [.int 1]) (rest := []) X hP hD hS (k32_X11_refuse l G a0 a1 a2 a3 a4 a5 a6 a7 a8 a9 a10 a11) [0] [] rfl rfl (by decide) (by decide) (by decide) rfl rfl qw_152 qw_153 qw_154 qw_2 qw_155 ⟨rfl, by decide +kernel, by decide +kernel, by decide +kernel⟩ ⟨Nat.le_of_ble_eq_true rfl, Nat.le_of_ble_eq_true rfl⟩ hl rfl rfl (Nat.le_of_ble_eq_true rfl) dX11_order_24 ⟨Nat.le_of_ble_eq_true rfl, Nat.le_of_ble_eq_true rfl⟩ (fun r9 u286 H locs hw hP hD hS => ?_)
  have hP : va_P G.1 vwCl [(a0, .inr (8, [.ref a1, .int 0, .int 0, .ref a2, .ref a3, .ref a4, .ref a5, .ref a6, .ref a7, .ref a8, .ref a9, .ref a10, .ref a11, .int 1, .int 0, .int 0]))] H := hP
  have hD : va_D A [(a0, .inr (8, [.ref a1, .int 0, .int 0, .ref a2, .ref a3, .ref a4, .ref a5, .ref a6, .ref a7, .ref a8, .ref a9, .ref a10, .ref a11, .int 1, .int 0, .int 0]))] := hD
  obtain rfl : r9 = (-1) := hw
  exact m_iret X hP hD hS ((fun _ => 0), (fun _ _ => 0)) [] (by decide) rfl rfl (Nat.le_of_ble_eq_true rfl) (Nat.le_of_ble_eq_true rfl) dX11_order_27
set_option maxHeartbeats 4000000 in
set_option maxRecDepth 100000 in
theorem k65_X11_soonest (l : Launch) (G : KG) (a0 : Nat) (i0 : Int32) (a1 : Nat) (a2 : Nat) (a3 : Nat) (a4 : Nat) (a5 : Nat) (a6 : Nat) (a7 : Nat) (a8 : Nat) (a9 : Nat) (a10 : Nat) (a11 : Nat) (sz : Nat) : Met l yX11_soonest (.code yX11_soonest cX11_soonest 2 (some .int) :: wsL_law) { frames := 1, cells := 0, slots := 0, locals := 21 } (va_Pc [.ref a0, .int i0] (Pw G [(a0, .inr (8, [.ref a1, .int 0, .int 0, .ref a2, .ref a3, .ref a4, .ref a5, .ref a6, .ref a7, .ref a8, .ref a9, .ref a10, .ref a11, .int 0, .int 0, .int 0]))] sz)) (va_Qi (fun r _ => r = (-1)) (fun (u9 : KS) t => Bw G (va_A [(a0, .inr (8, [.ref a1, .int 0, .int 0, .ref a2, .ref a3, .ref a4, .ref a5, .ref a6, .ref a7, .ref a8, .ref a9, .ref a10, .ref a11, .int 0, .int 0, .int 0]))] sz) [] t) (va_A [(a0, .inr (8, [.ref a1, .int 0, .int 0, .ref a2, .ref a3, .ref a4, .ref a5, .ref a6, .ref a7, .ref a8, .ref a9, .ref a10, .ref a11, .int 0, .int 0, .int 0]))] sz)) 0 0 (va_A [(a0, .inr (8, [.ref a1, .int 0, .int 0, .ref a2, .ref a3, .ref a4, .ref a5, .ref a6, .ref a7, .ref a8, .ref a9, .ref a10, .ref a11, .int 0, .int 0, .int 0]))] sz) := by
  refine m_body (y := yX11_soonest) (cd := cX11_soonest) (mL := 2) (rt := (some .int)) (rm := { frames := 1, cells := 0, slots := 0, locals := 21 }) (av := [.ref a0, .int i0]) (wc := [(a0, .inr (8, [.ref a1, .int 0, .int 0, .ref a2, .ref a3, .ref a4, .ref a5, .ref a6, .ref a7, .ref a8, .ref a9, .ref a10, .ref a11, .int 0, .int 0, .int 0]))]) (G := G) (sz := sz) (Qf := fun A => va_Qi (fun r _ => r = (-1)) (fun (u9 : KS) t => Bw G A [] t) A) (by decide) (Nat.le_of_ble_eq_true rfl) ?_
  intro p e s m args below meth c ls A X hi hP hD hS hl
  have hx := X.1.1
  have hb := X.1.2.1
  have hi : meth.name = "soonest" := hi
  have hl : lv_has ls 2 [(0, .ref a0), (1, .int i0)] := hl
  refine lv_aload_n hx hb dX11_soonest_0 rfl (lv_at hl 0 rfl) ?_
  refine lv_iload_n hx hb dX11_soonest_1 rfl (lv_at hl 1 rfl) ?_
  refine m_cVi (n := 1) (wr := []) (C := RX11) (T := TX11) (N := 16) (ci := 8) (As := [.int i0]) (rest := []) X hP hD hS (k63_X11_isWall l G a0 i0 a1 a2 a3 a4 a5 a6 a7 a8 a9 a10 a11) [0] [] rfl rfl (by decide) (by decide) (by decide) rfl rfl qw_1379 qw_1380 qw_1381 qw_2 qw_1382 ⟨rfl, by decide +kernel, by decide +kernel, by decide +kernel⟩ ⟨Nat.le_of_ble_eq_true rfl, Nat.le_of_ble_eq_true rfl⟩ hl rfl rfl (Nat.le_of_ble_eq_true rfl) dX11_soonest_2 ⟨Nat.le_of_ble_eq_true rfl, Nat.le_of_ble_eq_true rfl⟩ (fun r9 u287 H locs hw hP hD hS => ?_)
  have hP : va_P G.1 vwCl [(a0, .inr (8, [.ref a1, .int 0, .int 0, .ref a2, .ref a3, .ref a4, .ref a5, .ref a6, .ref a7, .ref a8, .ref a9, .ref a10, .ref a11, .int 0, .int 0, .int 0]))] H := hP
  have hD : va_D A [(a0, .inr (8, [.ref a1, .int 0, .int 0, .ref a2, .ref a3, .ref a4, .ref a5, .ref a6, .ref a7, .ref a8, .ref a9, .ref a10, .ref a11, .int 0, .int 0, .int 0]))] := hD
  obtain rfl : r9 = 0 := hw
  refine lv_if_ne (tgt := 14) hx hb dX11_soonest_5 (by decide) (fun c9 => absurd c9 (by decide)) (fun _ => ?_)
  refine lv_aload_n hx hb dX11_soonest_8 rfl (lv_at hl 0 rfl) ?_
  refine lv_iconst (v := 1) hx hb dX11_soonest_9 (by decide) ?_
  refine m_cVi (n := 1) (wr := []) (C := RX11) (T := TX11) (N := 16) (ci := 8) (As := [.int 1]) (rest := []) X hP hD hS (k32_X11_refuse l G a0 a1 a2 a3 a4 a5 a6 a7 a8 a9 a10 a11) [0] [] rfl rfl (by decide) (by decide) (by decide) rfl rfl qw_152 qw_153 qw_154 qw_2 qw_155 ⟨rfl, by decide +kernel, by decide +kernel, by decide +kernel⟩ ⟨Nat.le_of_ble_eq_true rfl, Nat.le_of_ble_eq_true rfl⟩ hl rfl rfl (Nat.le_of_ble_eq_true rfl) dX11_soonest_10 ⟨Nat.le_of_ble_eq_true rfl, Nat.le_of_ble_eq_true rfl⟩ (fun r9 u288 H locs hw hP hD hS => ?_)
  have hP : va_P G.1 vwCl [(a0, .inr (8, [.ref a1, .int 0, .int 0, .ref a2, .ref a3, .ref a4, .ref a5, .ref a6, .ref a7, .ref a8, .ref a9, .ref a10, .ref a11, .int 1, .int 0, .int 0]))] H := hP
  have hD : va_D A [(a0, .inr (8, [.ref a1, .int 0, .int 0, .ref a2, .ref a3, .ref a4, .ref a5, .ref a6, .ref a7, .ref a8, .ref a9, .ref a10, .ref a11, .int 1, .int 0, .int 0]))] := hD
  obtain rfl : r9 = (-1) := hw
  exact m_iret X hP hD hS ((fun _ => 0), (fun _ _ => 0)) [] (by decide) rfl rfl (Nat.le_of_ble_eq_true rfl) (Nat.le_of_ble_eq_true rfl) dX11_soonest_13
set_option maxHeartbeats 4000000 in
set_option maxRecDepth 100000 in
theorem k66_X11_latest (l : Launch) (G : KG) (a0 : Nat) (i0 : Int32) (a1 : Nat) (a2 : Nat) (a3 : Nat) (a4 : Nat) (a5 : Nat) (a6 : Nat) (a7 : Nat) (a8 : Nat) (a9 : Nat) (a10 : Nat) (a11 : Nat) (sz : Nat) : Met l yX11_latest (.code yX11_latest cX11_latest 2 (some .int) :: wsL_law) { frames := 1, cells := 0, slots := 0, locals := 21 } (va_Pc [.ref a0, .int i0] (Pw G [(a0, .inr (8, [.ref a1, .int 0, .int 0, .ref a2, .ref a3, .ref a4, .ref a5, .ref a6, .ref a7, .ref a8, .ref a9, .ref a10, .ref a11, .int 0, .int 0, .int 0]))] sz)) (va_Qi (fun r _ => r = (-1)) (fun (u9 : KS) t => Bw G (va_A [(a0, .inr (8, [.ref a1, .int 0, .int 0, .ref a2, .ref a3, .ref a4, .ref a5, .ref a6, .ref a7, .ref a8, .ref a9, .ref a10, .ref a11, .int 0, .int 0, .int 0]))] sz) [] t) (va_A [(a0, .inr (8, [.ref a1, .int 0, .int 0, .ref a2, .ref a3, .ref a4, .ref a5, .ref a6, .ref a7, .ref a8, .ref a9, .ref a10, .ref a11, .int 0, .int 0, .int 0]))] sz)) 0 0 (va_A [(a0, .inr (8, [.ref a1, .int 0, .int 0, .ref a2, .ref a3, .ref a4, .ref a5, .ref a6, .ref a7, .ref a8, .ref a9, .ref a10, .ref a11, .int 0, .int 0, .int 0]))] sz) := by
  refine m_body (y := yX11_latest) (cd := cX11_latest) (mL := 2) (rt := (some .int)) (rm := { frames := 1, cells := 0, slots := 0, locals := 21 }) (av := [.ref a0, .int i0]) (wc := [(a0, .inr (8, [.ref a1, .int 0, .int 0, .ref a2, .ref a3, .ref a4, .ref a5, .ref a6, .ref a7, .ref a8, .ref a9, .ref a10, .ref a11, .int 0, .int 0, .int 0]))]) (G := G) (sz := sz) (Qf := fun A => va_Qi (fun r _ => r = (-1)) (fun (u9 : KS) t => Bw G A [] t) A) (by decide) (Nat.le_of_ble_eq_true rfl) ?_
  intro p e s m args below meth c ls A X hi hP hD hS hl
  have hx := X.1.1
  have hb := X.1.2.1
  have hi : meth.name = "latest" := hi
  have hl : lv_has ls 2 [(0, .ref a0), (1, .int i0)] := hl
  refine lv_aload_n hx hb dX11_latest_0 rfl (lv_at hl 0 rfl) ?_
  refine lv_iload_n hx hb dX11_latest_1 rfl (lv_at hl 1 rfl) ?_
  refine m_cVi (n := 1) (wr := []) (C := RX11) (T := TX11) (N := 16) (ci := 8) (As := [.int i0]) (rest := []) X hP hD hS (k63_X11_isWall l G a0 i0 a1 a2 a3 a4 a5 a6 a7 a8 a9 a10 a11) [0] [] rfl rfl (by decide) (by decide) (by decide) rfl rfl qw_1379 qw_1380 qw_1381 qw_2 qw_1382 ⟨rfl, by decide +kernel, by decide +kernel, by decide +kernel⟩ ⟨Nat.le_of_ble_eq_true rfl, Nat.le_of_ble_eq_true rfl⟩ hl rfl rfl (Nat.le_of_ble_eq_true rfl) dX11_latest_2 ⟨Nat.le_of_ble_eq_true rfl, Nat.le_of_ble_eq_true rfl⟩ (fun r9 u289 H locs hw hP hD hS => ?_)
  have hP : va_P G.1 vwCl [(a0, .inr (8, [.ref a1, .int 0, .int 0, .ref a2, .ref a3, .ref a4, .ref a5, .ref a6, .ref a7, .ref a8, .ref a9, .ref a10, .ref a11, .int 0, .int 0, .int 0]))] H := hP
  have hD : va_D A [(a0, .inr (8, [.ref a1, .int 0, .int 0, .ref a2, .ref a3, .ref a4, .ref a5, .ref a6, .ref a7, .ref a8, .ref a9, .ref a10, .ref a11, .int 0, .int 0, .int 0]))] := hD
  obtain rfl : r9 = 0 := hw
  refine lv_if_ne (tgt := 14) hx hb dX11_latest_5 (by decide) (fun c9 => absurd c9 (by decide)) (fun _ => ?_)
  refine lv_aload_n hx hb dX11_latest_8 rfl (lv_at hl 0 rfl) ?_
  refine lv_iconst (v := 1) hx hb dX11_latest_9 (by decide) ?_
  refine m_cVi (n := 1) (wr := []) (C := RX11) (T := TX11) (N := 16) (ci := 8) (As := [.int 1]) (rest := []) X hP hD hS (k32_X11_refuse l G a0 a1 a2 a3 a4 a5 a6 a7 a8 a9 a10 a11) [0] [] rfl rfl (by decide) (by decide) (by decide) rfl rfl qw_152 qw_153 qw_154 qw_2 qw_155 ⟨rfl, by decide +kernel, by decide +kernel, by decide +kernel⟩ ⟨Nat.le_of_ble_eq_true rfl, Nat.le_of_ble_eq_true rfl⟩ hl rfl rfl (Nat.le_of_ble_eq_true rfl) dX11_latest_10 ⟨Nat.le_of_ble_eq_true rfl, Nat.le_of_ble_eq_true rfl⟩ (fun r9 u290 H locs hw hP hD hS => ?_)
  have hP : va_P G.1 vwCl [(a0, .inr (8, [.ref a1, .int 0, .int 0, .ref a2, .ref a3, .ref a4, .ref a5, .ref a6, .ref a7, .ref a8, .ref a9, .ref a10, .ref a11, .int 1, .int 0, .int 0]))] H := hP
  have hD : va_D A [(a0, .inr (8, [.ref a1, .int 0, .int 0, .ref a2, .ref a3, .ref a4, .ref a5, .ref a6, .ref a7, .ref a8, .ref a9, .ref a10, .ref a11, .int 1, .int 0, .int 0]))] := hD
  obtain rfl : r9 = (-1) := hw
  exact m_iret X hP hD hS ((fun _ => 0), (fun _ _ => 0)) [] (by decide) rfl rfl (Nat.le_of_ble_eq_true rfl) (Nat.le_of_ble_eq_true rfl) dX11_latest_13
set_option maxHeartbeats 4000000 in
set_option maxRecDepth 100000 in
theorem k67_X11_surely (l : Launch) (G : KG) (a0 : Nat) (i0 : Int32) (i1 : Int32) (a1 : Nat) (a2 : Nat) (a3 : Nat) (a4 : Nat) (a5 : Nat) (a6 : Nat) (a7 : Nat) (a8 : Nat) (a9 : Nat) (a10 : Nat) (a11 : Nat) (sz : Nat) : Met l yX11_surely (.code yX11_surely cX11_surely 4 (some .int) :: wsL_law) { frames := 1, cells := 0, slots := 0, locals := 21 } (va_Pc [.ref a0, .int i0, .int i1] (Pw G [(a0, .inr (8, [.ref a1, .int 0, .int 0, .ref a2, .ref a3, .ref a4, .ref a5, .ref a6, .ref a7, .ref a8, .ref a9, .ref a10, .ref a11, .int 0, .int 0, .int 0]))] sz)) (va_Qi (fun r _ => r = (-1)) (fun (u9 : KS) t => Bw G (va_A [(a0, .inr (8, [.ref a1, .int 0, .int 0, .ref a2, .ref a3, .ref a4, .ref a5, .ref a6, .ref a7, .ref a8, .ref a9, .ref a10, .ref a11, .int 0, .int 0, .int 0]))] sz) [] t) (va_A [(a0, .inr (8, [.ref a1, .int 0, .int 0, .ref a2, .ref a3, .ref a4, .ref a5, .ref a6, .ref a7, .ref a8, .ref a9, .ref a10, .ref a11, .int 0, .int 0, .int 0]))] sz)) 0 0 (va_A [(a0, .inr (8, [.ref a1, .int 0, .int 0, .ref a2, .ref a3, .ref a4, .ref a5, .ref a6, .ref a7, .ref a8, .ref a9, .ref a10, .ref a11, .int 0, .int 0, .int 0]))] sz) := by
  refine m_body (y := yX11_surely) (cd := cX11_surely) (mL := 4) (rt := (some .int)) (rm := { frames := 1, cells := 0, slots := 0, locals := 21 }) (av := [.ref a0, .int i0, .int i1]) (wc := [(a0, .inr (8, [.ref a1, .int 0, .int 0, .ref a2, .ref a3, .ref a4, .ref a5, .ref a6, .ref a7, .ref a8, .ref a9, .ref a10, .ref a11, .int 0, .int 0, .int 0]))]) (G := G) (sz := sz) (Qf := fun A => va_Qi (fun r _ => r = (-1)) (fun (u9 : KS) t => Bw G A [] t) A) (by decide) (Nat.le_of_ble_eq_true rfl) ?_
  intro p e s m args below meth c ls A X hi hP hD hS hl
  have hx := X.1.1
  have hb := X.1.2.1
  have hi : meth.name = "surely" := hi
  have hl : lv_has ls 4 [(0, .ref a0), (1, .int i0), (2, .int i1)] := hl
  refine lv_aload_n hx hb dX11_surely_0 rfl (lv_at hl 0 rfl) ?_
  refine lv_iload_n hx hb dX11_surely_1 rfl (lv_at hl 1 rfl) ?_
  refine m_cVi (n := 1) (wr := []) (C := RX11) (T := TX11) (N := 16) (ci := 8) (As := [.int i0]) (rest := []) X hP hD hS (k63_X11_isWall l G a0 i0 a1 a2 a3 a4 a5 a6 a7 a8 a9 a10 a11) [0] [] rfl rfl (by decide) (by decide) (by decide) rfl rfl qw_1379 qw_1380 qw_1381 qw_2 qw_1382 ⟨rfl, by decide +kernel, by decide +kernel, by decide +kernel⟩ ⟨Nat.le_of_ble_eq_true rfl, Nat.le_of_ble_eq_true rfl⟩ hl rfl rfl (Nat.le_of_ble_eq_true rfl) dX11_surely_2 ⟨Nat.le_of_ble_eq_true rfl, Nat.le_of_ble_eq_true rfl⟩ (fun r9 u291 H locs hw hP hD hS => ?_)
  have hP : va_P G.1 vwCl [(a0, .inr (8, [.ref a1, .int 0, .int 0, .ref a2, .ref a3, .ref a4, .ref a5, .ref a6, .ref a7, .ref a8, .ref a9, .ref a10, .ref a11, .int 0, .int 0, .int 0]))] H := hP
  have hD : va_D A [(a0, .inr (8, [.ref a1, .int 0, .int 0, .ref a2, .ref a3, .ref a4, .ref a5, .ref a6, .ref a7, .ref a8, .ref a9, .ref a10, .ref a11, .int 0, .int 0, .int 0]))] := hD
  obtain rfl : r9 = 0 := hw
  refine lv_if_eq (tgt := 21) hx hb dX11_surely_5 (by decide) (fun _ => ?_) (fun c9 => absurd c9 (by decide))
  refine lv_aload_n hx hb dX11_surely_21 rfl (lv_at hl 0 rfl) ?_
  refine lv_iconst (v := 1) hx hb dX11_surely_22 (by decide) ?_
  refine m_cVi (n := 1) (wr := []) (C := RX11) (T := TX11) (N := 16) (ci := 8) (As := [.int 1]) (rest := []) X hP hD hS (k32_X11_refuse l G a0 a1 a2 a3 a4 a5 a6 a7 a8 a9 a10 a11) [0] [] rfl rfl (by decide) (by decide) (by decide) rfl rfl qw_152 qw_153 qw_154 qw_2 qw_155 ⟨rfl, by decide +kernel, by decide +kernel, by decide +kernel⟩ ⟨Nat.le_of_ble_eq_true rfl, Nat.le_of_ble_eq_true rfl⟩ hl rfl rfl (Nat.le_of_ble_eq_true rfl) dX11_surely_23 ⟨Nat.le_of_ble_eq_true rfl, Nat.le_of_ble_eq_true rfl⟩ (fun r9 u292 H locs hw hP hD hS => ?_)
  have hP : va_P G.1 vwCl [(a0, .inr (8, [.ref a1, .int 0, .int 0, .ref a2, .ref a3, .ref a4, .ref a5, .ref a6, .ref a7, .ref a8, .ref a9, .ref a10, .ref a11, .int 1, .int 0, .int 0]))] H := hP
  have hD : va_D A [(a0, .inr (8, [.ref a1, .int 0, .int 0, .ref a2, .ref a3, .ref a4, .ref a5, .ref a6, .ref a7, .ref a8, .ref a9, .ref a10, .ref a11, .int 1, .int 0, .int 0]))] := hD
  obtain rfl : r9 = (-1) := hw
  exact m_iret X hP hD hS ((fun _ => 0), (fun _ _ => 0)) [] (by decide) rfl rfl (Nat.le_of_ble_eq_true rfl) (Nat.le_of_ble_eq_true rfl) dX11_surely_26
