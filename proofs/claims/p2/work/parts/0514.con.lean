set_option maxHeartbeats 4000000 in
set_option maxRecDepth 100000 in
theorem kt119_X11_goldIn (l : Launch) (G : KG) (tag : Nat → Nat) (L : List Nat) (F : Nat → va_E) (ho : okT G ttC tag L F) (p0 : Nat) (p1 : Int32) (p2 : Int32) (m0 : p0 ∈ L) (g0 : tag p0 = 26) : TMi l yX11_goldIn cX11_goldIn 3 (some .int) { frames := 1, cells := 0, slots := 0, locals := 24 } G ttC tag L F [.ref p0, .int p1, .int p2] (fun r F1 => F1 = F ∧ ((-2147483648) ≤ r.toInt ∧ r.toInt ≤ 2147483647)) := by
  refine t_bodyi (y := yX11_goldIn) (cd := cX11_goldIn) (mL := 3) (rt := (some .int)) (rm := { frames := 1, cells := 0, slots := 0, locals := 24 }) (av := [.ref p0, .int p1, .int p2]) (by decide) (Nat.le_of_ble_eq_true rfl) ho ?_
  intro p e s m args below meth c ls A Q hQ X hT hl
  have hx := X.1.1
  have hb := X.1.2.1
  have hl : lv_has ls 3 [(0, .ref p0), (1, .int p1), (2, .int p2)] := hl
  have rp1 := rg_all p1
  have rp2 := rg_all p2
  refine lv_aload_n hx hb dX11_goldIn_0 rfl (lv_at hl 0 rfl) ?_
  refine t_get (C := RX11) (T := TX11) (N := 16) X hT m0 g0 rfl rfl 3 (by decide) qw_18 inlX11 rfl dX11_goldIn_1 (fun v40799 hv40799 ov40799 => ?_)
  obtain ⟨b40800, rfl, mb40800, gb40800⟩ := okV_r ov40799
  have gb40800 : tag b40800 = 18 := tg_of gb40800
  refine lv_aload_n hx hb dX11_goldIn_4 rfl (lv_at hl 0 rfl) ?_
  refine t_get (C := RX11) (T := TX11) (N := 16) X hT m0 g0 rfl rfl 5 (by decide) qw_23 inlX11 rfl dX11_goldIn_5 (fun v40801 hv40801 ov40801 => ?_)
  obtain ⟨b40802, rfl, mb40802, gb40802⟩ := okV_r ov40801
  have gb40802 : tag b40802 = 19 := tg_of gb40802
  refine lv_iload_n hx hb dX11_goldIn_8 rfl (lv_at hl 1 rfl) ?_
  refine lv_iload_n hx hb dX11_goldIn_9 rfl (lv_at hl 2 rfl) ?_
  refine lv_iconst (v := 0) hx hb dX11_goldIn_10 (by decide) ?_
  refine t_cVi (n := 3) (C := RX7) (T := TX7) (N := 7) (As := [.int p1, .int p2, .int 0]) (rest := [.ref b40800]) X hT (kt19_X7_partOf l G tag L F hT.2.2.2 b40802 p1 p2 0 mb40802 gb40802) mb40802 gb40802 rfl rfl qw_831 qw_778 qw_779 qw_22 qw_780 ⟨rfl, by decide +kernel, by decide +kernel, by decide +kernel⟩ ⟨Nat.le_of_ble_eq_true rfl, Nat.le_of_ble_eq_true rfl⟩ hl rfl rfl (Nat.le_of_ble_eq_true rfl) dX11_goldIn_11 ⟨Nat.le_of_ble_eq_true rfl, Nat.le_of_ble_eq_true rfl⟩ (fun z40803 F9 H locs hT hz40803 => ?_)
  obtain ⟨fz40803, hz40803⟩ := hz40803
  rw [fz40803] at hT
  refine lv_iconst (v := 1) hx hb dX11_goldIn_14 (by decide) ?_
  refine t_cVi (n := 2) (C := RX1) (T := TX1) (N := 20) (As := [.int z40803, .int 1]) (rest := []) X hT (kt48_X1_stonePart l G tag L F hT.2.2.2 b40800 z40803 1 mb40800 gb40800) mb40800 gb40800 rfl rfl qw_857 qw_858 qw_859 qw_17 qw_860 ⟨rfl, by decide +kernel, by decide +kernel, by decide +kernel⟩ ⟨Nat.le_of_ble_eq_true rfl, Nat.le_of_ble_eq_true rfl⟩ hl rfl rfl (Nat.le_of_ble_eq_true rfl) dX11_goldIn_15 ⟨Nat.le_of_ble_eq_true rfl, Nat.le_of_ble_eq_true rfl⟩ (fun z40804 F9 H locs hT hz40804 => ?_)
  obtain ⟨fz40804, hz40804⟩ := hz40804
  rw [fz40804] at hT
  refine lv_bipush (v := 8) hx hb dX11_goldIn_18 (by decide) ?_
  refine lv_imul hx hb dX11_goldIn_20 ?_
  refine lv_topi (fun z40805 ez40805 => ?_)
  have rz40805 := rg_all z40805
  refine lv_iload_n hx hb dX11_goldIn_21 rfl (lv_at hl 2 rfl) ?_
  refine lv_imul hx hb dX11_goldIn_22 ?_
  refine lv_topi (fun z40806 ez40806 => ?_)
  have rz40806 := rg_all z40806
  refine lv_iconst (v := 2) hx hb dX11_goldIn_23 (by decide) ?_
  refine lv_idiv hx hb dX11_goldIn_24 (by decide) ?_
  refine lv_topi (fun z40807 ez40807 => ?_)
  have rz40807 := rg_all z40807
  exact t_iret hQ X hT (⟨rfl, rg_all _⟩) (Nat.le_of_ble_eq_true rfl) (Nat.le_of_ble_eq_true rfl) dX11_goldIn_25
set_option maxHeartbeats 4000000 in
set_option maxRecDepth 100000 in
theorem kt120_X11_heads (l : Launch) (G : KG) (tag : Nat → Nat) (L : List Nat) (Fo : Nat → va_E) (ho : okT G ttC tag L Fo) (p0 : Nat) (p1 : Int32) (p2 : Int32) (m0 : p0 ∈ L) (g0 : tag p0 = 26) : TMi l yX11_heads cX11_heads 5 (some .int) { frames := 6, cells := 0, slots := 0, locals := 157 } G ttC tag L Fo [.ref p0, .int p1, .int p2] (fun r F1 => ((-2147483648) ≤ r.toInt ∧ r.toInt ≤ 2147483647) ∧ (∀ b j : Nat, (tag b ≠ 19 ∨ j ≠ 0) → (tag b ≠ 19 ∨ j ≠ 1) → (tag b ≠ 26 ∨ j ≠ 13) → fld F1 b j = fld Fo b j)) := by
  refine t_bodyi (y := yX11_heads) (cd := cX11_heads) (mL := 5) (rt := (some .int)) (rm := { frames := 6, cells := 0, slots := 0, locals := 157 }) (av := [.ref p0, .int p1, .int p2]) (by decide) (Nat.le_of_ble_eq_true rfl) ho ?_
  intro p e s m args below meth c ls A Q hQ X hT hl
  have hx := X.1.1
  have hb := X.1.2.1
  have hl : lv_has ls 5 [(0, .ref p0), (1, .int p1), (2, .int p2)] := hl
  have rp1 := rg_all p1
  have rp2 := rg_all p2
  obtain ⟨F, hFo⟩ : ∃ F : Nat → va_E, F = Fo := ⟨_, rfl⟩
  rw [← hFo] at hT
  have hfr : ∀ b j : Nat, (tag b ≠ 19 ∨ j ≠ 0) → (tag b ≠ 19 ∨ j ≠ 1) → (tag b ≠ 26 ∨ j ≠ 13) → fld F b j = fld Fo b j := by
    rw [hFo]
    intros
    rfl
  have K34 : ∀ (z41823 : Int32) (F : Nat → va_E) (H : Heap) (locs : List Loc) (ls : Array Slot), (1 ≤ z41823.toInt ∧ z41823.toInt ≤ 1) → TH G ttC A s tag L F H locs → (∀ b j : Nat, (tag b ≠ 19 ∨ j ≠ 0) → (tag b ≠ 19 ∨ j ≠ 1) → (tag b ≠ 26 ∨ j ≠ 13) → fld F b j = fld Fo b j) → fld F p0 2 = .int z41823 → lv_has ls 5 [(0, .ref p0), (1, .int p1), (2, .int p2)] → W p l e { frames := 6, cells := 0, slots := 0, locals := 157 } s m args below meth c H locs 0 0 Q (F0 m 34 ls []) := by
    intro z41823 F H locs ls rz41823 hT hfr qz41823 hl
    refine lv_aload_n hx hb dX11_heads_34 rfl (lv_at hl 0 rfl) ?_
    refine lv_iconst (v := 2) hx hb dX11_heads_35 (by decide) ?_
    refine t_cVi (n := 1) (C := RX11) (T := TX11) (N := 16) (As := [.int 2]) (rest := []) X hT (kt97_X11_refuse l G tag L F hT.2.2.2 p0 2 m0 g0) m0 g0 rfl rfl qw_152 qw_153 qw_154 qw_2 qw_155 ⟨rfl, by decide +kernel, by decide +kernel, by decide +kernel⟩ ⟨Nat.le_of_ble_eq_true rfl, Nat.le_of_ble_eq_true rfl⟩ hl rfl rfl (Nat.le_of_ble_eq_true rfl) dX11_heads_36 ⟨Nat.le_of_ble_eq_true rfl, Nat.le_of_ble_eq_true rfl⟩ (fun z41824 F H locs hT hz41824 => ?_)
    obtain ⟨hz41824, yz41824⟩ := hz41824
    have qz41823 := (yz41824 _ 2 (Or.inr (by decide))).trans qz41823
    have hfr : ∀ b j : Nat, (tag b ≠ 19 ∨ j ≠ 0) → (tag b ≠ 19 ∨ j ≠ 1) → (tag b ≠ 26 ∨ j ≠ 13) → fld F b j = fld Fo b j := fun b j n19_0 n19_1 n26_13 => (yz41824 b j n26_13).trans (hfr b j n19_0 n19_1 n26_13)
    exact t_iret hQ X hT (⟨rg_all _, hfr⟩) (Nat.le_of_ble_eq_true rfl) (Nat.le_of_ble_eq_true rfl) dX11_heads_39
  have K91 : ∀ (n : Nat) (z41827 : Int32) (z41828 : Int32) (z41829 : Int32) (F : Nat → va_E) (H : Heap) (locs : List Loc) (ls : Array Slot), (4 - z41828.toInt < (n : Int)) → (0 ≤ z41828.toInt ∧ z41828.toInt ≤ 4) → (1 ≤ z41829.toInt ∧ z41829.toInt ≤ 1) → (0 ≤ p1.toInt ∧ p1.toInt ≤ 65536) → (0 ≤ p2.toInt ∧ p2.toInt ≤ 96) → TH G ttC A s tag L F H locs → (∀ b j : Nat, (tag b ≠ 19 ∨ j ≠ 0) → (tag b ≠ 19 ∨ j ≠ 1) → (tag b ≠ 26 ∨ j ≠ 13) → fld F b j = fld Fo b j) → fld F p0 2 = .int z41829 → lv_has ls 5 [(0, .ref p0), (1, .int p1), (2, .int p2), (3, .int z41827), (4, .int z41828)] → W p l e { frames := 6, cells := 0, slots := 0, locals := 157 } s m args below meth c H locs 0 0 Q (F0 m 91 ls []) := by
    intro n
    induction n with
    | zero =>
      intro z41827 z41828 z41829 F H locs ls hn rz41828 rz41829 r9s41825 r9s41826 hT hfr qz41829 hl
      have rz41827 := rg_all z41827
      exfalso
      omega
    | succ n ih91 =>
      intro z41827 z41828 z41829 F H locs ls hn rz41828 rz41829 r9s41825 r9s41826 hT hfr qz41829 hl
      have rz41827 := rg_all z41827
      refine lv_iload hx hb dX11_heads_91 (lv_at hl 4 rfl) ?_
      refine lv_aload_n hx hb dX11_heads_93 rfl (lv_at hl 0 rfl) ?_
      refine t_get (C := RX11) (T := TX11) (N := 16) X hT m0 g0 rfl rfl 3 (by decide) qw_18 inlX11 rfl dX11_heads_94 (fun v41830 hv41830 ov41830 => ?_)
      obtain ⟨b41831, rfl, mb41831, gb41831⟩ := okV_r ov41830
      have gb41831 : tag b41831 = 18 := tg_of gb41831
      refine t_get (C := RX1) (T := TX1) (N := 20) X hT mb41831 gb41831 rfl rfl 10 (by decide) qw_151 inlX1 rfl dX11_heads_97 (fun v41832 hv41832 ov41832 => ?_)
      obtain ⟨z41833, rfl, rz41833⟩ := okV_i ov41832
      refine lv_icmp_ge (tgt := 122) hx hb dX11_heads_100 (by decide) (fun c41834 => ?_) (fun c41834 => ?_)
      · have w41835 := cv_le (rfl : z41833.toInt = z41833.toInt) (rfl : z41828.toInt = z41828.toInt) c41834
        refine lv_aload_n hx hb dX11_heads_122 rfl (lv_at hl 0 rfl) ?_
        refine lv_iload_n hx hb dX11_heads_123 rfl (lv_at hl 3 rfl) ?_
        refine t_cVi (n := 1) (C := RX11) (T := TX11) (N := 16) (As := [.int z41827]) (rest := []) X hT (kt96_X11_answer l G tag L F hT.2.2.2 p0 z41827 m0 g0) m0 g0 rfl rfl qw_463 qw_464 qw_465 qw_2 qw_466 ⟨rfl, by decide +kernel, by decide +kernel, by decide +kernel⟩ ⟨Nat.le_of_ble_eq_true rfl, Nat.le_of_ble_eq_true rfl⟩ hl rfl rfl (Nat.le_of_ble_eq_true rfl) dX11_heads_124 ⟨Nat.le_of_ble_eq_true rfl, Nat.le_of_ble_eq_true rfl⟩ (fun z41836 F H locs hT hz41836 => ?_)
        obtain ⟨hz41836, yz41836⟩ := hz41836
        have qz41829 := (yz41836 _ 2 (Or.inr (by decide))).trans qz41829
        have hv41830 := (yz41836 _ 3 (Or.inr (by decide))).trans hv41830
        have hv41832 := (yz41836 _ 10 (Or.inr (by decide))).trans hv41832
        have hfr : ∀ b j : Nat, (tag b ≠ 19 ∨ j ≠ 0) → (tag b ≠ 19 ∨ j ≠ 1) → (tag b ≠ 26 ∨ j ≠ 13) → fld F b j = fld Fo b j := fun b j n19_0 n19_1 n26_13 => (yz41836 b j n26_13).trans (hfr b j n19_0 n19_1 n26_13)
        exact t_iret hQ X hT (⟨rg_all _, hfr⟩) (Nat.le_of_ble_eq_true rfl) (Nat.le_of_ble_eq_true rfl) dX11_heads_127
      · have w41837 := cv_nle (rfl : z41833.toInt = z41833.toInt) (rfl : z41828.toInt = z41828.toInt) c41834
        refine lv_iload_n hx hb dX11_heads_103 rfl (lv_at hl 3 rfl) ?_
        refine lv_aload_n hx hb dX11_heads_104 rfl (lv_at hl 0 rfl) ?_
        refine t_get (C := RX11) (T := TX11) (N := 16) X hT m0 g0 rfl rfl 7 (by decide) qw_25 inlX11 rfl dX11_heads_105 (fun v41838 hv41838 ov41838 => ?_)
        obtain ⟨b41839, rfl, mb41839, gb41839⟩ := okV_r ov41838
        have gb41839 : tag b41839 = 19 := tg_of gb41839
        refine t_get (C := RX7) (T := TX7) (N := 7) X hT mb41839 gb41839 rfl rfl 3 (by decide) qw_767 inlX7 rfl dX11_heads_108 (fun v41840 hv41840 ov41840 => ?_)
        obtain ⟨b41841, rfl, mb41841, gb41841⟩ := okV_r ov41840
        have gb41841 : tag b41841 = 5 := tg_of gb41841
        refine lv_iload hx hb dX11_heads_111 (lv_at hl 4 rfl) ?_
        refine t_ild X hT mb41841 gb41841 rfl (by omega) dX11_heads_113 (fun z41842 vz41842 rz41842 => ?_)
        have rz41842 : (-2147483648) ≤ z41842.toInt ∧ z41842.toInt ≤ 2147483647 := rz41842
        refine lv_iadd hx hb dX11_heads_114 ?_
        refine lv_topi (fun z41843 ez41843 => ?_)
        have rz41843 := rg_all z41843
        refine lv_istore_n (lv' := [(3, .int z41843), (0, .ref p0), (1, .int p1), (2, .int p2), (4, .int z41828)]) hx hb dX11_heads_115 rfl hl (by decide) rfl (fun ls hl => ?_)
        obtain ⟨z41844, ez41844⟩ : ∃ y : Int32, y = z41828 + 1 := ⟨_, rfl⟩
        have hz41844 : z41844.toInt = z41828.toInt + 1 := ar_add ez41844 rfl (by decide : (1 : Int32).toInt = 1) (by omega) (by omega)
        refine lv_iinc (v := z41844) (lv' := [(4, .int z41844), (3, .int z41843), (0, .ref p0), (1, .int p1), (2, .int p2)]) hx hb dX11_heads_116 hl (k := 4) rfl (by rw [ez41844]; rfl) (by decide) rfl (fun ls hl => ?_)
        refine lv_goto (tgt := 91) hx hb dX11_heads_119 (by decide) ?_
        exact ih91 z41843 z41844 z41829 _ _ _ _ (by omega) (by omega) (by omega) (by omega) (by omega) hT hfr qz41829 (lv_sub hl [2, 3, 4, 1, 0] rfl)
  have K61 : ∀ (n : Nat) (z41847 : Int32) (z41848 : Int32) (F : Nat → va_E) (H : Heap) (locs : List Loc) (ls : Array Slot), (60 - z41847.toInt < (n : Int)) → (0 ≤ z41847.toInt ∧ z41847.toInt ≤ 60) → (1 ≤ z41848.toInt ∧ z41848.toInt ≤ 1) → (0 ≤ p1.toInt ∧ p1.toInt ≤ 65536) → (0 ≤ p2.toInt ∧ p2.toInt ≤ 60) → TH G ttC A s tag L F H locs → (∀ b j : Nat, (tag b ≠ 19 ∨ j ≠ 0) → (tag b ≠ 19 ∨ j ≠ 1) → (tag b ≠ 26 ∨ j ≠ 13) → fld F b j = fld Fo b j) → fld F p0 2 = .int z41848 → lv_has ls 5 [(0, .ref p0), (1, .int p1), (2, .int p2), (3, .int z41847)] → W p l e { frames := 6, cells := 0, slots := 0, locals := 157 } s m args below meth c H locs 0 0 Q (F0 m 61 ls []) := by
    intro n
    induction n with
    | zero =>
      intro z41847 z41848 F H locs ls hn rz41847 rz41848 r9s41845 r9s41846 hT hfr qz41848 hl
      exfalso
      omega
    | succ n ih61 =>
      intro z41847 z41848 F H locs ls hn rz41847 rz41848 r9s41845 r9s41846 hT hfr qz41848 hl
      refine lv_iload_n hx hb dX11_heads_61 rfl (lv_at hl 3 rfl) ?_
      refine lv_iload_n hx hb dX11_heads_62 rfl (lv_at hl 2 rfl) ?_
      refine lv_icmp_ge (tgt := 86) hx hb dX11_heads_63 (by decide) (fun c41849 => ?_) (fun c41849 => ?_)
      · have w41850 := cv_le (rfl : p2.toInt = p2.toInt) (rfl : z41847.toInt = z41847.toInt) c41849
        refine lv_iconst (v := 0) hx hb dX11_heads_86 (by decide) ?_
        refine lv_istore_n (lv' := [(3, .int 0), (0, .ref p0), (1, .int p1), (2, .int p2)]) hx hb dX11_heads_87 rfl hl (by decide) rfl (fun ls hl => ?_)
        refine lv_iconst (v := 0) hx hb dX11_heads_88 (by decide) ?_
        refine lv_istore (lv' := [(4, .int 0), (3, .int 0), (0, .ref p0), (1, .int p1), (2, .int p2)]) hx hb dX11_heads_89 hl (by decide) rfl (fun ls hl => ?_)
        have kk41851 : (0 : Int32).toInt = 0 := by decide
        have kk41852 : (0 : Int32).toInt = 0 := by decide
        exact K91 5 0 0 z41848 _ _ _ _ (by omega) (by decide) (by omega) (by omega) (by omega) hT hfr qz41848 (lv_sub hl [2, 3, 4, 1, 0] rfl)
      · have w41853 := cv_nle (rfl : p2.toInt = p2.toInt) (rfl : z41847.toInt = z41847.toInt) c41849
        refine lv_aload_n hx hb dX11_heads_66 rfl (lv_at hl 0 rfl) ?_
        refine t_get (C := RX11) (T := TX11) (N := 16) X hT m0 g0 rfl rfl 3 (by decide) qw_18 inlX11 rfl dX11_heads_67 (fun v41854 hv41854 ov41854 => ?_)
        obtain ⟨b41855, rfl, mb41855, gb41855⟩ := okV_r ov41854
        have gb41855 : tag b41855 = 18 := tg_of gb41855
        refine lv_aload_n hx hb dX11_heads_70 rfl (lv_at hl 0 rfl) ?_
        refine t_get (C := RX11) (T := TX11) (N := 16) X hT m0 g0 rfl rfl 7 (by decide) qw_25 inlX11 rfl dX11_heads_71 (fun v41856 hv41856 ov41856 => ?_)
        obtain ⟨b41857, rfl, mb41857, gb41857⟩ := okV_r ov41856
        have gb41857 : tag b41857 = 19 := tg_of gb41857
        refine t_gets X hT X.2.2.2.1.2.2.2.2 qw_1096 dX11_heads_74 ?_
        refine t_cSv (n := 3) (As := [.ref b41855, .ref b41857, .ref (G.2 13)]) (rest := []) X hT (kt105_X10_pass l G tag L F hT.2.2.2 b41855 b41857 mb41855 gb41855 mb41857 gb41857) qw_1097 qw_1098 qw_32 qw_1099 ⟨by decide +kernel, by decide +kernel, by decide +kernel⟩ ⟨Nat.le_of_ble_eq_true rfl, Nat.le_of_ble_eq_true rfl⟩ hl rfl rfl (Nat.le_of_ble_eq_true rfl) dX11_heads_77 ⟨Nat.le_of_ble_eq_true rfl, Nat.le_of_ble_eq_true rfl⟩ (fun F H locs hT hz41858 => ?_)
        have yz41858 := hz41858
        have qz41848 := (yz41858 _ 2 (Or.inr (by decide)) (Or.inr (by decide))).trans qz41848
        have hv41854 := (yz41858 _ 3 (Or.inr (by decide)) (Or.inr (by decide))).trans hv41854
        have hv41856 := (yz41858 _ 7 (Or.inr (by decide)) (Or.inr (by decide))).trans hv41856
        have hfr : ∀ b j : Nat, (tag b ≠ 19 ∨ j ≠ 0) → (tag b ≠ 19 ∨ j ≠ 1) → (tag b ≠ 26 ∨ j ≠ 13) → fld F b j = fld Fo b j := fun b j n19_0 n19_1 n26_13 => (yz41858 b j n19_0 n19_1).trans (hfr b j n19_0 n19_1 n26_13)
        obtain ⟨z41859, ez41859⟩ : ∃ y : Int32, y = z41847 + 1 := ⟨_, rfl⟩
        have hz41859 : z41859.toInt = z41847.toInt + 1 := ar_add ez41859 rfl (by decide : (1 : Int32).toInt = 1) (by omega) (by omega)
        refine lv_iinc (v := z41859) (lv' := [(3, .int z41859), (0, .ref p0), (1, .int p1), (2, .int p2)]) hx hb dX11_heads_80 hl (k := 3) rfl (by rw [ez41859]; rfl) (by decide) rfl (fun ls hl => ?_)
        refine lv_goto (tgt := 61) hx hb dX11_heads_83 (by decide) ?_
        exact ih61 z41859 z41848 _ _ _ _ (by omega) (by omega) (by omega) (by omega) (by omega) hT hfr qz41848 (lv_sub hl [1, 2, 3, 0] rfl)
  refine lv_aload_n hx hb dX11_heads_0 rfl (lv_at hl 0 rfl) ?_
  refine t_get (C := RX11) (T := TX11) (N := 16) X hT m0 g0 rfl rfl 2 (by decide) qw_150 inlX11 rfl dX11_heads_1 (fun v41860 hv41860 ov41860 => ?_)
  obtain ⟨z41861, rfl, rz41861⟩ := okV_i ov41860
  refine lv_if_ne (tgt := 13) hx hb dX11_heads_4 (by decide) (fun c41862 => ?_) (fun c41862 => ?_)
  · have w41863 := cv_ne (rfl : z41861.toInt = z41861.toInt) (by decide : (0 : Int32).toInt = 0) c41862
    refine lv_iload_n hx hb dX11_heads_13 rfl (lv_at hl 1 rfl) ?_
    refine lv_if_lt (tgt := 34) hx hb dX11_heads_14 (by decide) (fun c41864 => ?_) (fun c41864 => ?_)
    · have w41865 := cv_lt (rfl : p1.toInt = p1.toInt) (by decide : (0 : Int32).toInt = 0) c41864
      exact K34 z41861 _ _ _ _ (by omega) hT hfr hv41860 (lv_sub hl [0, 1, 2] rfl)
    · have w41866 := cv_nlt (rfl : p1.toInt = p1.toInt) (by decide : (0 : Int32).toInt = 0) c41864
      refine lv_iload_n hx hb dX11_heads_17 rfl (lv_at hl 1 rfl) ?_
      refine m_ldcw X qw_1281 dX11_heads_18 ?_
      refine lv_icmp_ge (tgt := 34) hx hb dX11_heads_21 (by decide) (fun c41867 => ?_) (fun c41867 => ?_)
      · have w41868 := cv_le (by decide : (65537 : Int32).toInt = 65537) (rfl : p1.toInt = p1.toInt) c41867
        exact K34 z41861 _ _ _ _ (by omega) hT hfr hv41860 (lv_sub hl [0, 1, 2] rfl)
      · have w41869 := cv_nle (by decide : (65537 : Int32).toInt = 65537) (rfl : p1.toInt = p1.toInt) c41867
        refine lv_iload_n hx hb dX11_heads_24 rfl (lv_at hl 2 rfl) ?_
        refine lv_if_lt (tgt := 34) hx hb dX11_heads_25 (by decide) (fun c41870 => ?_) (fun c41870 => ?_)
        · have w41871 := cv_lt (rfl : p2.toInt = p2.toInt) (by decide : (0 : Int32).toInt = 0) c41870
          exact K34 z41861 _ _ _ _ (by omega) hT hfr hv41860 (lv_sub hl [0, 1, 2] rfl)
        · have w41872 := cv_nlt (rfl : p2.toInt = p2.toInt) (by decide : (0 : Int32).toInt = 0) c41870
          refine lv_iload_n hx hb dX11_heads_28 rfl (lv_at hl 2 rfl) ?_
          refine lv_bipush (v := 60) hx hb dX11_heads_29 (by decide) ?_
          refine lv_icmp_le (tgt := 40) hx hb dX11_heads_31 (by decide) (fun c41873 => ?_) (fun c41873 => ?_)
          · have w41874 := cv_le (rfl : p2.toInt = p2.toInt) (by decide : (60 : Int32).toInt = 60) c41873
            refine lv_aload_n hx hb dX11_heads_40 rfl (lv_at hl 0 rfl) ?_
            refine t_get (C := RX11) (T := TX11) (N := 16) X hT m0 g0 rfl rfl 7 (by decide) qw_25 inlX11 rfl dX11_heads_41 (fun v41875 hv41875 ov41875 => ?_)
            obtain ⟨b41876, rfl, mb41876, gb41876⟩ := okV_r ov41875
            have gb41876 : tag b41876 = 19 := tg_of gb41876
            refine lv_aload_n hx hb dX11_heads_44 rfl (lv_at hl 0 rfl) ?_
            refine t_get (C := RX11) (T := TX11) (N := 16) X hT m0 g0 rfl rfl 5 (by decide) qw_23 inlX11 rfl dX11_heads_45 (fun v41877 hv41877 ov41877 => ?_)
            obtain ⟨b41878, rfl, mb41878, gb41878⟩ := okV_r ov41877
            have gb41878 : tag b41878 = 19 := tg_of gb41878
            refine t_cVv (n := 1) (C := RX7) (T := TX7) (N := 7) (As := [.ref b41878]) (rest := []) X hT (kt77_X7_copyFrom l G tag L F hT.2.2.2 b41876 b41878 mb41876 gb41876 mb41878 gb41878) mb41876 gb41876 rfl rfl qw_449 qw_450 qw_451 qw_22 qw_452 ⟨rfl, by decide +kernel, by decide +kernel, by decide +kernel⟩ ⟨Nat.le_of_ble_eq_true rfl, Nat.le_of_ble_eq_true rfl⟩ hl rfl rfl (Nat.le_of_ble_eq_true rfl) dX11_heads_48 ⟨Nat.le_of_ble_eq_true rfl, Nat.le_of_ble_eq_true rfl⟩ (fun F H locs hT hz41879 => ?_)
            have yz41879 := hz41879
            have hv41860 := (yz41879 _ 2 (Or.inr (by decide)) (Or.inr (by decide))).trans hv41860
            have hv41875 := (yz41879 _ 7 (Or.inr (by decide)) (Or.inr (by decide))).trans hv41875
            have hv41877 := (yz41879 _ 5 (Or.inr (by decide)) (Or.inr (by decide))).trans hv41877
            have hfr : ∀ b j : Nat, (tag b ≠ 19 ∨ j ≠ 0) → (tag b ≠ 19 ∨ j ≠ 1) → (tag b ≠ 26 ∨ j ≠ 13) → fld F b j = fld Fo b j := fun b j n19_0 n19_1 n26_13 => (yz41879 b j n19_0 n19_1).trans (hfr b j n19_0 n19_1 n26_13)
            refine lv_aload_n hx hb dX11_heads_51 rfl (lv_at hl 0 rfl) ?_
            refine t_get (C := RX11) (T := TX11) (N := 16) X hT m0 g0 rfl rfl 7 (by decide) qw_25 inlX11 rfl dX11_heads_52 (fun v41880 hv41880 ov41880 => ?_)
            obtain rfl : v41880 = .ref b41876 := hv41880.symm.trans hv41875
            refine lv_iload_n hx hb dX11_heads_55 rfl (lv_at hl 1 rfl) ?_
            refine t_put (C := RX7) (T := TX7) (N := 7) (v := .int p1) X hT mb41876 gb41876 rfl tyX7 tyX7_ok nmX7 rfl 1 (by decide) qw_1282 inlX7 rfl (by first | rfl | decide) (by first | rfl | decide) rfl (⟨_, rfl, (by omega), (by omega)⟩) dX11_heads_56 (fun F H locs hT v41881 h1v41881 h2v41881 => ?_)
            have hv41860 := (h1v41881 _ _ (Or.inr (by decide))).trans hv41860
            have hv41875 := (h1v41881 _ _ (Or.inr (by decide))).trans hv41875
            have hv41877 := (h1v41881 _ _ (Or.inr (by decide))).trans hv41877
            have hfr : ∀ b j : Nat, (tag b ≠ 19 ∨ j ≠ 0) → (tag b ≠ 19 ∨ j ≠ 1) → (tag b ≠ 26 ∨ j ≠ 13) → fld F b j = fld Fo b j := fun b j n19_0 n19_1 n26_13 => (h1v41881 b j (fr_ne gb41876 n19_1)).trans (hfr b j n19_0 n19_1 n26_13)
            refine lv_iconst (v := 0) hx hb dX11_heads_59 (by decide) ?_
            refine lv_istore_n (lv' := [(3, .int 0), (0, .ref p0), (1, .int p1), (2, .int p2)]) hx hb dX11_heads_60 rfl hl (by decide) rfl (fun ls hl => ?_)
            have kk41882 : (0 : Int32).toInt = 0 := by decide
            exact K61 61 0 z41861 _ _ _ _ (by omega) (by decide) (by omega) (by omega) (by omega) hT hfr hv41860 (lv_sub hl [1, 2, 3, 0] rfl)
          · have w41883 := cv_nle (rfl : p2.toInt = p2.toInt) (by decide : (60 : Int32).toInt = 60) c41873
            exact K34 z41861 _ _ _ _ (by omega) hT hfr hv41860 (lv_sub hl [0, 1, 2] rfl)
  · have w41884 := cv_eq (rfl : z41861.toInt = z41861.toInt) (by decide : (0 : Int32).toInt = 0) c41862
    refine lv_aload_n hx hb dX11_heads_7 rfl (lv_at hl 0 rfl) ?_
    refine lv_iconst (v := 1) hx hb dX11_heads_8 (by decide) ?_
    refine t_cVi (n := 1) (C := RX11) (T := TX11) (N := 16) (As := [.int 1]) (rest := []) X hT (kt97_X11_refuse l G tag L F hT.2.2.2 p0 1 m0 g0) m0 g0 rfl rfl qw_152 qw_153 qw_154 qw_2 qw_155 ⟨rfl, by decide +kernel, by decide +kernel, by decide +kernel⟩ ⟨Nat.le_of_ble_eq_true rfl, Nat.le_of_ble_eq_true rfl⟩ hl rfl rfl (Nat.le_of_ble_eq_true rfl) dX11_heads_9 ⟨Nat.le_of_ble_eq_true rfl, Nat.le_of_ble_eq_true rfl⟩ (fun z41885 F H locs hT hz41885 => ?_)
    obtain ⟨hz41885, yz41885⟩ := hz41885
    have hv41860 := (yz41885 _ 2 (Or.inr (by decide))).trans hv41860
    have hfr : ∀ b j : Nat, (tag b ≠ 19 ∨ j ≠ 0) → (tag b ≠ 19 ∨ j ≠ 1) → (tag b ≠ 26 ∨ j ≠ 13) → fld F b j = fld Fo b j := fun b j n19_0 n19_1 n26_13 => (yz41885 b j n26_13).trans (hfr b j n19_0 n19_1 n26_13)
    exact t_iret hQ X hT (⟨rg_all _, hfr⟩) (Nat.le_of_ble_eq_true rfl) (Nat.le_of_ble_eq_true rfl) dX11_heads_12
set_option maxHeartbeats 4000000 in
set_option maxRecDepth 100000 in
theorem kt121_X11_isHeir (l : Launch) (G : KG) (tag : Nat → Nat) (L : List Nat) (F : Nat → va_E) (ho : okT G ttC tag L F) (p0 : Nat) (p1 : Int32) (m0 : p0 ∈ L) (g0 : tag p0 = 26) : TMi l yX11_isHeir cX11_isHeir 2 (some .boolean) { frames := 0, cells := 0, slots := 0, locals := 0 } G ttC tag L F [.ref p0, .int p1] (fun r F1 => F1 = F ∧ ((0 ≤ r.toInt ∧ r.toInt ≤ 1) ∧ (r.toInt ≠ 0 → (0 ≤ p1.toInt ∧ p1.toInt ≤ 5)))) := by
  refine t_bodyi (y := yX11_isHeir) (cd := cX11_isHeir) (mL := 2) (rt := (some .boolean)) (rm := { frames := 0, cells := 0, slots := 0, locals := 0 }) (av := [.ref p0, .int p1]) (by decide) (Nat.le_of_ble_eq_true rfl) ho ?_
  intro p e s m args below meth c ls A Q hQ X hT hl
  have hx := X.1.1
  have hb := X.1.2.1
  have hl : lv_has ls 2 [(0, .ref p0), (1, .int p1)] := hl
  have rp1 := rg_all p1
  refine lv_aload_n hx hb dX11_isHeir_0 rfl (lv_at hl 0 rfl) ?_
  refine t_get (C := RX11) (T := TX11) (N := 16) X hT m0 g0 rfl rfl 2 (by decide) qw_150 inlX11 rfl dX11_isHeir_1 (fun v42051 hv42051 ov42051 => ?_)
  obtain ⟨z42052, rfl, rz42052⟩ := okV_i ov42051
  refine lv_if_eq (tgt := 26) hx hb dX11_isHeir_4 (by decide) (fun c42053 => ?_) (fun c42053 => ?_)
  · have w42054 := cv_eq (rfl : z42052.toInt = z42052.toInt) (by decide : (0 : Int32).toInt = 0) c42053
    refine lv_iconst (v := 0) hx hb dX11_isHeir_26 (by decide) ?_
    exact t_zret hQ X hT (by decide) (⟨rfl, ⟨(by decide), fun h => absurd (by decide) h⟩⟩) (Nat.le_of_ble_eq_true rfl) (Nat.le_of_ble_eq_true rfl) dX11_isHeir_27
  · have w42055 := cv_ne (rfl : z42052.toInt = z42052.toInt) (by decide : (0 : Int32).toInt = 0) c42053
    refine lv_iload_n hx hb dX11_isHeir_7 rfl (lv_at hl 1 rfl) ?_
    refine lv_if_lt (tgt := 26) hx hb dX11_isHeir_8 (by decide) (fun c42056 => ?_) (fun c42056 => ?_)
    · have w42057 := cv_lt (rfl : p1.toInt = p1.toInt) (by decide : (0 : Int32).toInt = 0) c42056
      refine lv_iconst (v := 0) hx hb dX11_isHeir_26 (by decide) ?_
      exact t_zret hQ X hT (by decide) (⟨rfl, ⟨(by decide), fun h => absurd (by decide) h⟩⟩) (Nat.le_of_ble_eq_true rfl) (Nat.le_of_ble_eq_true rfl) dX11_isHeir_27
    · have w42058 := cv_nlt (rfl : p1.toInt = p1.toInt) (by decide : (0 : Int32).toInt = 0) c42056
      refine lv_iload_n hx hb dX11_isHeir_11 rfl (lv_at hl 1 rfl) ?_
      refine lv_aload_n hx hb dX11_isHeir_12 rfl (lv_at hl 0 rfl) ?_
      refine t_get (C := RX11) (T := TX11) (N := 16) X hT m0 g0 rfl rfl 3 (by decide) qw_18 inlX11 rfl dX11_isHeir_13 (fun v42059 hv42059 ov42059 => ?_)
      obtain ⟨b42060, rfl, mb42060, gb42060⟩ := okV_r ov42059
      have gb42060 : tag b42060 = 18 := tg_of gb42060
      refine t_get (C := RX1) (T := TX1) (N := 20) X hT mb42060 gb42060 rfl rfl 14 (by decide) qw_891 inlX1 rfl dX11_isHeir_16 (fun v42061 hv42061 ov42061 => ?_)
      obtain ⟨z42062, rfl, rz42062⟩ := okV_i ov42061
      refine lv_icmp_ge (tgt := 26) hx hb dX11_isHeir_19 (by decide) (fun c42063 => ?_) (fun c42063 => ?_)
      · have w42064 := cv_le (rfl : z42062.toInt = z42062.toInt) (rfl : p1.toInt = p1.toInt) c42063
        refine lv_iconst (v := 0) hx hb dX11_isHeir_26 (by decide) ?_
        exact t_zret hQ X hT (by decide) (⟨rfl, ⟨(by decide), fun h => absurd (by decide) h⟩⟩) (Nat.le_of_ble_eq_true rfl) (Nat.le_of_ble_eq_true rfl) dX11_isHeir_27
      · have w42065 := cv_nle (rfl : z42062.toInt = z42062.toInt) (rfl : p1.toInt = p1.toInt) c42063
        refine lv_iconst (v := 1) hx hb dX11_isHeir_22 (by decide) ?_
        refine lv_goto (tgt := 27) hx hb dX11_isHeir_23 (by decide) ?_
        exact t_zret hQ X hT (by decide) (⟨rfl, ⟨(by decide), fun _ => by omega⟩⟩) (Nat.le_of_ble_eq_true rfl) (Nat.le_of_ble_eq_true rfl) dX11_isHeir_27
set_option maxHeartbeats 4000000 in
set_option maxRecDepth 100000 in
theorem kt122_X11_warmth (l : Launch) (G : KG) (tag : Nat → Nat) (L : List Nat) (F : Nat → va_E) (ho : okT G ttC tag L F) (p0 : Nat) (p1 : Int32) (p2 : Int32) (m0 : p0 ∈ L) (g0 : tag p0 = 26) (h1 : 0 ≤ p1.toInt ∧ p1.toInt ≤ 3) : TMi l yX11_warmth cX11_warmth 5 (some .int) { frames := 2, cells := 0, slots := 0, locals := 46 } G ttC tag L F [.ref p0, .int p1, .int p2] (fun r F1 => F1 = F ∧ ((-2147483648) ≤ r.toInt ∧ r.toInt ≤ 2147483647)) := by
  refine t_bodyi (y := yX11_warmth) (cd := cX11_warmth) (mL := 5) (rt := (some .int)) (rm := { frames := 2, cells := 0, slots := 0, locals := 46 }) (av := [.ref p0, .int p1, .int p2]) (by decide) (Nat.le_of_ble_eq_true rfl) ho ?_
  intro p e s m args below meth c ls A Q hQ X hT hl
  have hx := X.1.1
  have hb := X.1.2.1
  have hl : lv_has ls 5 [(0, .ref p0), (1, .int p1), (2, .int p2)] := hl
  have rp2 := rg_all p2
  have K9 : ∀ (n : Nat) (z42395 : Int32) (z42396 : Int32) (H : Heap) (locs : List Loc) (ls : Array Slot), (7 - z42396.toInt < (n : Int)) → (1 ≤ z42396.toInt ∧ z42396.toInt ≤ 2147483647) → TH G ttC A s tag L F H locs → lv_has ls 5 [(0, .ref p0), (1, .int p1), (2, .int p2), (3, .int z42395), (4, .int z42396)] → W p l e { frames := 2, cells := 0, slots := 0, locals := 46 } s m args below meth c H locs 0 0 Q (F0 m 9 ls []) := by
    intro n
    induction n with
    | zero =>
      intro z42395 z42396 H locs ls hn rz42396 hT hl
      have rz42395 := rg_all z42395
      refine lv_iload hx hb dX11_warmth_9 (lv_at hl 4 rfl) ?_
      refine lv_aload_n hx hb dX11_warmth_11 rfl (lv_at hl 0 rfl) ?_
      refine t_get (C := RX11) (T := TX11) (N := 16) X hT m0 g0 rfl rfl 5 (by decide) qw_23 inlX11 rfl dX11_warmth_12 (fun v42397 hv42397 ov42397 => ?_)
      obtain ⟨b42398, rfl, mb42398, gb42398⟩ := okV_r ov42397
      have gb42398 : tag b42398 = 19 := tg_of gb42398
      refine t_get (C := RX7) (T := TX7) (N := 7) X hT mb42398 gb42398 rfl rfl 2 (by decide) qw_766 inlX7 rfl dX11_warmth_15 (fun v42399 hv42399 ov42399 => ?_)
      obtain ⟨b42400, rfl, mb42400, gb42400⟩ := okV_r ov42399
      have gb42400 : tag b42400 = 8 := tg_of gb42400
      refine lv_iload_n hx hb dX11_warmth_18 rfl (lv_at hl 1 rfl) ?_
      refine t_ild X hT mb42400 gb42400 rfl (by omega) dX11_warmth_19 (fun z42401 vz42401 rz42401 => ?_)
      have rz42401 : 0 ≤ z42401.toInt ∧ z42401.toInt ≤ 6 := rz42401
      refine lv_icmp_gt (tgt := 64) hx hb dX11_warmth_20 (by decide) (fun c42402 => ?_) (fun c42402 => ?_)
      · have w42403 := cv_lt (rfl : z42401.toInt = z42401.toInt) (rfl : z42396.toInt = z42396.toInt) c42402
        refine lv_iload_n hx hb dX11_warmth_64 rfl (lv_at hl 3 rfl) ?_
        exact t_iret hQ X hT (⟨rfl, rg_all _⟩) (Nat.le_of_ble_eq_true rfl) (Nat.le_of_ble_eq_true rfl) dX11_warmth_65
      · have w42404 := cv_nlt (rfl : z42401.toInt = z42401.toInt) (rfl : z42396.toInt = z42396.toInt) c42402
        exfalso
        omega
    | succ n ih9 =>
      intro z42395 z42396 H locs ls hn rz42396 hT hl
      have rz42395 := rg_all z42395
      have K58 : ∀ (z42405 : Int32) (H : Heap) (locs : List Loc) (ls : Array Slot), (1 ≤ z42396.toInt ∧ z42396.toInt ≤ 6) → TH G ttC A s tag L F H locs → lv_has ls 5 [(0, .ref p0), (1, .int p1), (2, .int p2), (3, .int z42405), (4, .int z42396)] → W p l e { frames := 2, cells := 0, slots := 0, locals := 46 } s m args below meth c H locs 0 0 Q (F0 m 58 ls []) := by
        intro z42405 H locs ls r9s42406 hT hl
        have rz42405 := rg_all z42405
        obtain ⟨z42407, ez42407⟩ : ∃ y : Int32, y = z42396 + 1 := ⟨_, rfl⟩
        have hz42407 : z42407.toInt = z42396.toInt + 1 := ar_add ez42407 rfl (by decide : (1 : Int32).toInt = 1) (by omega) (by omega)
        refine lv_iinc (v := z42407) (lv' := [(4, .int z42407), (0, .ref p0), (1, .int p1), (2, .int p2), (3, .int z42405)]) hx hb dX11_warmth_58 hl (k := 4) rfl (by rw [ez42407]; rfl) (by decide) rfl (fun ls hl => ?_)
        refine lv_goto (tgt := 9) hx hb dX11_warmth_61 (by decide) ?_
        exact ih9 z42405 z42407 _ _ _ (by omega) (by omega) hT  (lv_sub hl [1, 2, 3, 4, 0] rfl)
      refine lv_iload hx hb dX11_warmth_9 (lv_at hl 4 rfl) ?_
      refine lv_aload_n hx hb dX11_warmth_11 rfl (lv_at hl 0 rfl) ?_
      refine t_get (C := RX11) (T := TX11) (N := 16) X hT m0 g0 rfl rfl 5 (by decide) qw_23 inlX11 rfl dX11_warmth_12 (fun v42408 hv42408 ov42408 => ?_)
      obtain ⟨b42409, rfl, mb42409, gb42409⟩ := okV_r ov42408
      have gb42409 : tag b42409 = 19 := tg_of gb42409
      refine t_get (C := RX7) (T := TX7) (N := 7) X hT mb42409 gb42409 rfl rfl 2 (by decide) qw_766 inlX7 rfl dX11_warmth_15 (fun v42410 hv42410 ov42410 => ?_)
      obtain ⟨b42411, rfl, mb42411, gb42411⟩ := okV_r ov42410
      have gb42411 : tag b42411 = 8 := tg_of gb42411
      refine lv_iload_n hx hb dX11_warmth_18 rfl (lv_at hl 1 rfl) ?_
      refine t_ild X hT mb42411 gb42411 rfl (by omega) dX11_warmth_19 (fun z42412 vz42412 rz42412 => ?_)
      have rz42412 : 0 ≤ z42412.toInt ∧ z42412.toInt ≤ 6 := rz42412
      refine lv_icmp_gt (tgt := 64) hx hb dX11_warmth_20 (by decide) (fun c42413 => ?_) (fun c42413 => ?_)
      · have w42414 := cv_lt (rfl : z42412.toInt = z42412.toInt) (rfl : z42396.toInt = z42396.toInt) c42413
        refine lv_iload_n hx hb dX11_warmth_64 rfl (lv_at hl 3 rfl) ?_
        exact t_iret hQ X hT (⟨rfl, rg_all _⟩) (Nat.le_of_ble_eq_true rfl) (Nat.le_of_ble_eq_true rfl) dX11_warmth_65
      · have w42415 := cv_nlt (rfl : z42412.toInt = z42412.toInt) (rfl : z42396.toInt = z42396.toInt) c42413
        refine lv_aload_n hx hb dX11_warmth_23 rfl (lv_at hl 0 rfl) ?_
        refine t_get (C := RX11) (T := TX11) (N := 16) X hT m0 g0 rfl rfl 5 (by decide) qw_23 inlX11 rfl dX11_warmth_24 (fun v42416 hv42416 ov42416 => ?_)
        obtain rfl : v42416 = .ref b42409 := hv42416.symm.trans hv42408
        refine lv_iload_n hx hb dX11_warmth_27 rfl (lv_at hl 1 rfl) ?_
        refine lv_iload hx hb dX11_warmth_28 (lv_at hl 4 rfl) ?_
        refine t_cVi (n := 2) (C := RX7) (T := TX7) (N := 7) (As := [.int p1, .int z42396]) (rest := []) X hT (kt21_X7_stands l G tag L F hT.2.2.2 b42409 p1 z42396 mb42409 gb42409) mb42409 gb42409 rfl rfl qw_852 qw_853 qw_854 qw_22 qw_855 ⟨rfl, by decide +kernel, by decide +kernel, by decide +kernel⟩ ⟨Nat.le_of_ble_eq_true rfl, Nat.le_of_ble_eq_true rfl⟩ hl rfl rfl (Nat.le_of_ble_eq_true rfl) dX11_warmth_30 ⟨Nat.le_of_ble_eq_true rfl, Nat.le_of_ble_eq_true rfl⟩ (fun z42417 F9 H locs hT hz42417 => ?_)
        obtain ⟨fz42417, hz42417⟩ := hz42417
        rw [fz42417] at hT
        refine lv_if_eq (tgt := 58) hx hb dX11_warmth_33 (by decide) (fun c42418 => ?_) (fun c42418 => ?_)
        · have w42419 := cv_eq (rfl : z42417.toInt = z42417.toInt) (by decide : (0 : Int32).toInt = 0) c42418
          exact K58 z42395 _ _ _ (by omega) hT  (lv_sub hl [0, 1, 2, 3, 4] rfl)
        · have w42420 := cv_ne (rfl : z42417.toInt = z42417.toInt) (by decide : (0 : Int32).toInt = 0) c42418
          refine lv_iload_n hx hb dX11_warmth_36 rfl (lv_at hl 3 rfl) ?_
          refine lv_aload_n hx hb dX11_warmth_37 rfl (lv_at hl 0 rfl) ?_
          refine t_get (C := RX11) (T := TX11) (N := 16) X hT m0 g0 rfl rfl 3 (by decide) qw_18 inlX11 rfl dX11_warmth_38 (fun v42421 hv42421 ov42421 => ?_)
          obtain ⟨b42422, rfl, mb42422, gb42422⟩ := okV_r ov42421
          have gb42422 : tag b42422 = 18 := tg_of gb42422
          refine lv_aload_n hx hb dX11_warmth_41 rfl (lv_at hl 0 rfl) ?_
          refine t_get (C := RX11) (T := TX11) (N := 16) X hT m0 g0 rfl rfl 5 (by decide) qw_23 inlX11 rfl dX11_warmth_42 (fun v42423 hv42423 ov42423 => ?_)
          obtain rfl : v42423 = .ref b42409 := hv42423.symm.trans hv42408
          refine lv_iload_n hx hb dX11_warmth_45 rfl (lv_at hl 1 rfl) ?_
          refine lv_iload hx hb dX11_warmth_46 (lv_at hl 4 rfl) ?_
          refine lv_iconst (v := 0) hx hb dX11_warmth_48 (by decide) ?_
          refine t_cVi (n := 3) (C := RX7) (T := TX7) (N := 7) (As := [.int p1, .int z42396, .int 0]) (rest := [.ref b42422, .int z42395]) X hT (kt19_X7_partOf l G tag L F hT.2.2.2 b42409 p1 z42396 0 mb42409 gb42409) mb42409 gb42409 rfl rfl qw_831 qw_778 qw_779 qw_22 qw_780 ⟨rfl, by decide +kernel, by decide +kernel, by decide +kernel⟩ ⟨Nat.le_of_ble_eq_true rfl, Nat.le_of_ble_eq_true rfl⟩ hl rfl rfl (Nat.le_of_ble_eq_true rfl) dX11_warmth_49 ⟨Nat.le_of_ble_eq_true rfl, Nat.le_of_ble_eq_true rfl⟩ (fun z42424 F9 H locs hT hz42424 => ?_)
          obtain ⟨fz42424, hz42424⟩ := hz42424
          rw [fz42424] at hT
          refine lv_iconst (v := 2) hx hb dX11_warmth_52 (by decide) ?_
          refine t_cVi (n := 2) (C := RX1) (T := TX1) (N := 20) (As := [.int z42424, .int 2]) (rest := [.int z42395]) X hT (kt48_X1_stonePart l G tag L F hT.2.2.2 b42422 z42424 2 mb42422 gb42422) mb42422 gb42422 rfl rfl qw_857 qw_858 qw_859 qw_17 qw_860 ⟨rfl, by decide +kernel, by decide +kernel, by decide +kernel⟩ ⟨Nat.le_of_ble_eq_true rfl, Nat.le_of_ble_eq_true rfl⟩ hl rfl rfl (Nat.le_of_ble_eq_true rfl) dX11_warmth_53 ⟨Nat.le_of_ble_eq_true rfl, Nat.le_of_ble_eq_true rfl⟩ (fun z42425 F9 H locs hT hz42425 => ?_)
          obtain ⟨fz42425, hz42425⟩ := hz42425
          rw [fz42425] at hT
          refine lv_iadd hx hb dX11_warmth_56 ?_
          refine lv_topi (fun z42426 ez42426 => ?_)
          have rz42426 := rg_all z42426
          refine lv_istore_n (lv' := [(3, .int z42426), (0, .ref p0), (1, .int p1), (2, .int p2), (4, .int z42396)]) hx hb dX11_warmth_57 rfl hl (by decide) rfl (fun ls hl => ?_)
          exact K58 z42426 _ _ _ (by omega) hT  (lv_sub hl [1, 2, 3, 0, 4] rfl)
  refine lv_iconst (v := 0) hx hb dX11_warmth_0 (by decide) ?_
  refine lv_istore_n (lv' := [(3, .int 0), (0, .ref p0), (1, .int p1), (2, .int p2)]) hx hb dX11_warmth_1 rfl hl (by decide) rfl (fun ls hl => ?_)
  refine lv_iload_n hx hb dX11_warmth_2 rfl (lv_at hl 3 rfl) ?_
  refine lv_iconst (v := 1) hx hb dX11_warmth_3 (by decide) ?_
  refine t_mmax X hl qw_848 qw_849 qw_850 qw_851 (Nat.le_of_ble_eq_true rfl) (Nat.le_of_ble_eq_true rfl) (Nat.le_of_ble_eq_true rfl) (Nat.le_of_ble_eq_true rfl) dX11_warmth_4 (fun z42427 ez42427 => ?_)
  have hz42427 := mmax_e ez42427 (rfl : p2.toInt = p2.toInt) (by decide : (1 : Int32).toInt = 1)
  refine lv_istore (lv' := [(4, .int z42427), (3, .int 0), (0, .ref p0), (1, .int p1), (2, .int p2)]) hx hb dX11_warmth_7 hl (by decide) rfl (fun ls hl => ?_)
  have kk42428 : (0 : Int32).toInt = 0 := by decide
  exact K9 7 0 z42427 _ _ _ (by omega) (by omega) hT  (lv_sub hl [2, 3, 4, 1, 0] rfl)
set_option maxHeartbeats 4000000 in
set_option maxRecDepth 100000 in
theorem kt123_X11_heir (l : Launch) (G : KG) (tag : Nat → Nat) (L : List Nat) (Fo : Nat → va_E) (ho : okT G ttC tag L Fo) (p0 : Nat) (p1 : Int32) (p2 : Int32) (m0 : p0 ∈ L) (g0 : tag p0 = 26) : TMi l yX11_heir cX11_heir 3 (some .int) { frames := 3, cells := 0, slots := 0, locals := 70 } G ttC tag L Fo [.ref p0, .int p1, .int p2] (fun r F1 => ((-2147483648) ≤ r.toInt ∧ r.toInt ≤ 2147483647) ∧ (∀ b j : Nat, (tag b ≠ 26 ∨ j ≠ 13) → fld F1 b j = fld Fo b j)) := by
  refine t_bodyi (y := yX11_heir) (cd := cX11_heir) (mL := 3) (rt := (some .int)) (rm := { frames := 3, cells := 0, slots := 0, locals := 70 }) (av := [.ref p0, .int p1, .int p2]) (by decide) (Nat.le_of_ble_eq_true rfl) ho ?_
  intro p e s m args below meth c ls A Q hQ X hT hl
  have hx := X.1.1
  have hb := X.1.2.1
  have hl : lv_has ls 3 [(0, .ref p0), (1, .int p1), (2, .int p2)] := hl
  have rp1 := rg_all p1
  have rp2 := rg_all p2
  obtain ⟨F, hFo⟩ : ∃ F : Nat → va_E, F = Fo := ⟨_, rfl⟩
  rw [← hFo] at hT
  have hfr : ∀ b j : Nat, (tag b ≠ 26 ∨ j ≠ 13) → fld F b j = fld Fo b j := by
    rw [hFo]
    intros
    rfl
  refine lv_aload_n hx hb dX11_heir_0 rfl (lv_at hl 0 rfl) ?_
  refine lv_iload_n hx hb dX11_heir_1 rfl (lv_at hl 1 rfl) ?_
  refine t_cVi (n := 1) (C := RX11) (T := TX11) (N := 16) (As := [.int p1]) (rest := []) X hT (kt121_X11_isHeir l G tag L F hT.2.2.2 p0 p1 m0 g0) m0 g0 rfl rfl qw_887 qw_888 qw_889 qw_2 qw_890 ⟨rfl, by decide +kernel, by decide +kernel, by decide +kernel⟩ ⟨Nat.le_of_ble_eq_true rfl, Nat.le_of_ble_eq_true rfl⟩ hl rfl rfl (Nat.le_of_ble_eq_true rfl) dX11_heir_2 ⟨Nat.le_of_ble_eq_true rfl, Nat.le_of_ble_eq_true rfl⟩ (fun z42835 F9 H locs hT hz42835 => ?_)
  obtain ⟨fz42835, hz42835⟩ := hz42835
  rw [fz42835] at hT
  obtain ⟨hz42835, iz42835⟩ := hz42835
  refine lv_if_ne (tgt := 14) hx hb dX11_heir_5 (by decide) (fun c42836 => ?_) (fun c42836 => ?_)
  · have w42837 := cv_ne (rfl : z42835.toInt = z42835.toInt) (by decide : (0 : Int32).toInt = 0) c42836
    have w42838 := (fun h => (iz42835 h)) (by omega)
    refine lv_iload_n hx hb dX11_heir_14 rfl (lv_at hl 2 rfl) ?_
    by_cases c42839 : p2 = 0
    · have w42840 := cv_eq (rfl : p2.toInt = p2.toInt) (by decide : (0 : Int32).toInt = 0) c42839
      refine lv_tableIn (off := 25) (tgt := 40) hx hb dX11_heir_15 (by rw [c42839]; decide) (by rw [c42839]; decide) (by rw [c42839]; decide) (by decide) ?_
      refine lv_aload_n hx hb dX11_heir_40 rfl (lv_at hl 0 rfl) ?_
      refine lv_aload_n hx hb dX11_heir_41 rfl (lv_at hl 0 rfl) ?_
      refine t_get (C := RX11) (T := TX11) (N := 16) X hT m0 g0 rfl rfl 3 (by decide) qw_18 inlX11 rfl dX11_heir_42 (fun v42841 hv42841 ov42841 => ?_)
      obtain ⟨b42842, rfl, mb42842, gb42842⟩ := okV_r ov42841
      have gb42842 : tag b42842 = 18 := tg_of gb42842
      refine t_get (C := RX1) (T := TX1) (N := 20) X hT mb42842 gb42842 rfl rfl 15 (by decide) qw_885 inlX1 rfl dX11_heir_45 (fun v42843 hv42843 ov42843 => ?_)
      obtain ⟨b42844, rfl, mb42844, gb42844⟩ := okV_r ov42843
      have gb42844 : tag b42844 = 6 := tg_of gb42844
      refine lv_iload_n hx hb dX11_heir_48 rfl (lv_at hl 1 rfl) ?_
      refine t_ild X hT mb42844 gb42844 rfl (by omega) dX11_heir_49 (fun z42845 vz42845 rz42845 => ?_)
      have rz42845 : 0 ≤ z42845.toInt ∧ z42845.toInt ≤ 3 := rz42845
      refine t_cVi (n := 1) (C := RX11) (T := TX11) (N := 16) (As := [.int z42845]) (rest := []) X hT (kt96_X11_answer l G tag L F hT.2.2.2 p0 z42845 m0 g0) m0 g0 rfl rfl qw_463 qw_464 qw_465 qw_2 qw_466 ⟨rfl, by decide +kernel, by decide +kernel, by decide +kernel⟩ ⟨Nat.le_of_ble_eq_true rfl, Nat.le_of_ble_eq_true rfl⟩ hl rfl rfl (Nat.le_of_ble_eq_true rfl) dX11_heir_50 ⟨Nat.le_of_ble_eq_true rfl, Nat.le_of_ble_eq_true rfl⟩ (fun z42846 F H locs hT hz42846 => ?_)
      obtain ⟨hz42846, yz42846⟩ := hz42846
      have hv42841 := (yz42846 _ 3 (Or.inr (by decide))).trans hv42841
      have hv42843 := (yz42846 _ 15 (Or.inr (by decide))).trans hv42843
      have hfr : ∀ b j : Nat, (tag b ≠ 26 ∨ j ≠ 13) → fld F b j = fld Fo b j := fun b j n26_13 => (yz42846 b j n26_13).trans (hfr b j n26_13)
      exact t_iret hQ X hT (⟨rg_all _, hfr⟩) (Nat.le_of_ble_eq_true rfl) (Nat.le_of_ble_eq_true rfl) dX11_heir_53
    have w42847 := cv_ne (rfl : p2.toInt = p2.toInt) (by decide : (0 : Int32).toInt = 0) c42839
    by_cases c42848 : p2 = 1
    · have w42849 := cv_eq (rfl : p2.toInt = p2.toInt) (by decide : (1 : Int32).toInt = 1) c42848
      refine lv_tableIn (off := 39) (tgt := 54) hx hb dX11_heir_15 (by rw [c42848]; decide) (by rw [c42848]; decide) (by rw [c42848]; decide) (by decide) ?_
      refine lv_aload_n hx hb dX11_heir_54 rfl (lv_at hl 0 rfl) ?_
      refine lv_aload_n hx hb dX11_heir_55 rfl (lv_at hl 0 rfl) ?_
      refine t_get (C := RX11) (T := TX11) (N := 16) X hT m0 g0 rfl rfl 5 (by decide) qw_23 inlX11 rfl dX11_heir_56 (fun v42850 hv42850 ov42850 => ?_)
      obtain ⟨b42851, rfl, mb42851, gb42851⟩ := okV_r ov42850
      have gb42851 : tag b42851 = 19 := tg_of gb42851
      refine t_get (C := RX7) (T := TX7) (N := 7) X hT mb42851 gb42851 rfl rfl 5 (by decide) qw_886 inlX7 rfl dX11_heir_59 (fun v42852 hv42852 ov42852 => ?_)
      obtain ⟨b42853, rfl, mb42853, gb42853⟩ := okV_r ov42852
      have gb42853 : tag b42853 = 7 := tg_of gb42853
      refine lv_iload_n hx hb dX11_heir_62 rfl (lv_at hl 1 rfl) ?_
      refine t_ild X hT mb42853 gb42853 rfl (by omega) dX11_heir_63 (fun z42854 vz42854 rz42854 => ?_)
      have rz42854 : (-2147483648) ≤ z42854.toInt ∧ z42854.toInt ≤ 2147483647 := rz42854
      refine t_cVi (n := 1) (C := RX11) (T := TX11) (N := 16) (As := [.int z42854]) (rest := []) X hT (kt96_X11_answer l G tag L F hT.2.2.2 p0 z42854 m0 g0) m0 g0 rfl rfl qw_463 qw_464 qw_465 qw_2 qw_466 ⟨rfl, by decide +kernel, by decide +kernel, by decide +kernel⟩ ⟨Nat.le_of_ble_eq_true rfl, Nat.le_of_ble_eq_true rfl⟩ hl rfl rfl (Nat.le_of_ble_eq_true rfl) dX11_heir_64 ⟨Nat.le_of_ble_eq_true rfl, Nat.le_of_ble_eq_true rfl⟩ (fun z42855 F H locs hT hz42855 => ?_)
      obtain ⟨hz42855, yz42855⟩ := hz42855
      have hv42850 := (yz42855 _ 5 (Or.inr (by decide))).trans hv42850
      have hv42852 := (yz42855 _ 5 (Or.inr (by decide))).trans hv42852
      have hfr : ∀ b j : Nat, (tag b ≠ 26 ∨ j ≠ 13) → fld F b j = fld Fo b j := fun b j n26_13 => (yz42855 b j n26_13).trans (hfr b j n26_13)
      exact t_iret hQ X hT (⟨rg_all _, hfr⟩) (Nat.le_of_ble_eq_true rfl) (Nat.le_of_ble_eq_true rfl) dX11_heir_67
    have w42856 := cv_ne (rfl : p2.toInt = p2.toInt) (by decide : (1 : Int32).toInt = 1) c42848
    by_cases c42857 : p2 = 2
    · have w42858 := cv_eq (rfl : p2.toInt = p2.toInt) (by decide : (2 : Int32).toInt = 2) c42857
      refine lv_tableIn (off := 53) (tgt := 68) hx hb dX11_heir_15 (by rw [c42857]; decide) (by rw [c42857]; decide) (by rw [c42857]; decide) (by decide) ?_
      refine lv_aload_n hx hb dX11_heir_68 rfl (lv_at hl 0 rfl) ?_
      refine lv_aload_n hx hb dX11_heir_69 rfl (lv_at hl 0 rfl) ?_
      refine lv_aload_n hx hb dX11_heir_70 rfl (lv_at hl 0 rfl) ?_
      refine t_get (C := RX11) (T := TX11) (N := 16) X hT m0 g0 rfl rfl 3 (by decide) qw_18 inlX11 rfl dX11_heir_71 (fun v42859 hv42859 ov42859 => ?_)
      obtain ⟨b42860, rfl, mb42860, gb42860⟩ := okV_r ov42859
      have gb42860 : tag b42860 = 18 := tg_of gb42860
      refine t_get (C := RX1) (T := TX1) (N := 20) X hT mb42860 gb42860 rfl rfl 15 (by decide) qw_885 inlX1 rfl dX11_heir_74 (fun v42861 hv42861 ov42861 => ?_)
      obtain ⟨b42862, rfl, mb42862, gb42862⟩ := okV_r ov42861
      have gb42862 : tag b42862 = 6 := tg_of gb42862
      refine lv_iload_n hx hb dX11_heir_77 rfl (lv_at hl 1 rfl) ?_
      refine t_ild X hT mb42862 gb42862 rfl (by omega) dX11_heir_78 (fun z42863 vz42863 rz42863 => ?_)
      have rz42863 : 0 ≤ z42863.toInt ∧ z42863.toInt ≤ 3 := rz42863
      refine lv_aload_n hx hb dX11_heir_79 rfl (lv_at hl 0 rfl) ?_
      refine t_get (C := RX11) (T := TX11) (N := 16) X hT m0 g0 rfl rfl 5 (by decide) qw_23 inlX11 rfl dX11_heir_80 (fun v42864 hv42864 ov42864 => ?_)
      obtain ⟨b42865, rfl, mb42865, gb42865⟩ := okV_r ov42864
      have gb42865 : tag b42865 = 19 := tg_of gb42865
      refine t_get (C := RX7) (T := TX7) (N := 7) X hT mb42865 gb42865 rfl rfl 5 (by decide) qw_886 inlX7 rfl dX11_heir_83 (fun v42866 hv42866 ov42866 => ?_)
      obtain ⟨b42867, rfl, mb42867, gb42867⟩ := okV_r ov42866
      have gb42867 : tag b42867 = 7 := tg_of gb42867
      refine lv_iload_n hx hb dX11_heir_86 rfl (lv_at hl 1 rfl) ?_
      refine t_ild X hT mb42867 gb42867 rfl (by omega) dX11_heir_87 (fun z42868 vz42868 rz42868 => ?_)
      have rz42868 : (-2147483648) ≤ z42868.toInt ∧ z42868.toInt ≤ 2147483647 := rz42868
      refine t_cVi (n := 2) (C := RX11) (T := TX11) (N := 16) (As := [.int z42863, .int z42868]) (rest := [.ref p0]) X hT (kt122_X11_warmth l G tag L F hT.2.2.2 p0 z42863 z42868 m0 g0 (by omega)) m0 g0 rfl rfl qw_844 qw_845 qw_846 qw_2 qw_847 ⟨rfl, by decide +kernel, by decide +kernel, by decide +kernel⟩ ⟨Nat.le_of_ble_eq_true rfl, Nat.le_of_ble_eq_true rfl⟩ hl rfl rfl (Nat.le_of_ble_eq_true rfl) dX11_heir_88 ⟨Nat.le_of_ble_eq_true rfl, Nat.le_of_ble_eq_true rfl⟩ (fun z42869 F9 H locs hT hz42869 => ?_)
      obtain ⟨fz42869, hz42869⟩ := hz42869
      rw [fz42869] at hT
      refine t_cVi (n := 1) (C := RX11) (T := TX11) (N := 16) (As := [.int z42869]) (rest := []) X hT (kt96_X11_answer l G tag L F hT.2.2.2 p0 z42869 m0 g0) m0 g0 rfl rfl qw_463 qw_464 qw_465 qw_2 qw_466 ⟨rfl, by decide +kernel, by decide +kernel, by decide +kernel⟩ ⟨Nat.le_of_ble_eq_true rfl, Nat.le_of_ble_eq_true rfl⟩ hl rfl rfl (Nat.le_of_ble_eq_true rfl) dX11_heir_91 ⟨Nat.le_of_ble_eq_true rfl, Nat.le_of_ble_eq_true rfl⟩ (fun z42870 F H locs hT hz42870 => ?_)
      obtain ⟨hz42870, yz42870⟩ := hz42870
      have hv42859 := (yz42870 _ 3 (Or.inr (by decide))).trans hv42859
      have hv42861 := (yz42870 _ 15 (Or.inr (by decide))).trans hv42861
      have hv42864 := (yz42870 _ 5 (Or.inr (by decide))).trans hv42864
      have hv42866 := (yz42870 _ 5 (Or.inr (by decide))).trans hv42866
      have hfr : ∀ b j : Nat, (tag b ≠ 26 ∨ j ≠ 13) → fld F b j = fld Fo b j := fun b j n26_13 => (yz42870 b j n26_13).trans (hfr b j n26_13)
      exact t_iret hQ X hT (⟨rg_all _, hfr⟩) (Nat.le_of_ble_eq_true rfl) (Nat.le_of_ble_eq_true rfl) dX11_heir_94
    have w42871 := cv_ne (rfl : p2.toInt = p2.toInt) (by decide : (2 : Int32).toInt = 2) c42857
    refine lv_tableOut (tgt := 95) hx hb dX11_heir_15 (by omega) (by decide) ?_
    refine lv_aload_n hx hb dX11_heir_95 rfl (lv_at hl 0 rfl) ?_
    refine lv_iconst (v := 1) hx hb dX11_heir_96 (by decide) ?_
    refine t_cVi (n := 1) (C := RX11) (T := TX11) (N := 16) (As := [.int 1]) (rest := []) X hT (kt97_X11_refuse l G tag L F hT.2.2.2 p0 1 m0 g0) m0 g0 rfl rfl qw_152 qw_153 qw_154 qw_2 qw_155 ⟨rfl, by decide +kernel, by decide +kernel, by decide +kernel⟩ ⟨Nat.le_of_ble_eq_true rfl, Nat.le_of_ble_eq_true rfl⟩ hl rfl rfl (Nat.le_of_ble_eq_true rfl) dX11_heir_97 ⟨Nat.le_of_ble_eq_true rfl, Nat.le_of_ble_eq_true rfl⟩ (fun z42872 F H locs hT hz42872 => ?_)
    obtain ⟨hz42872, yz42872⟩ := hz42872
    have hfr : ∀ b j : Nat, (tag b ≠ 26 ∨ j ≠ 13) → fld F b j = fld Fo b j := fun b j n26_13 => (yz42872 b j n26_13).trans (hfr b j n26_13)
    exact t_iret hQ X hT (⟨rg_all _, hfr⟩) (Nat.le_of_ble_eq_true rfl) (Nat.le_of_ble_eq_true rfl) dX11_heir_100
  · have w42873 := cv_eq (rfl : z42835.toInt = z42835.toInt) (by decide : (0 : Int32).toInt = 0) c42836
    refine lv_aload_n hx hb dX11_heir_8 rfl (lv_at hl 0 rfl) ?_
    refine lv_iconst (v := 1) hx hb dX11_heir_9 (by decide) ?_
    refine t_cVi (n := 1) (C := RX11) (T := TX11) (N := 16) (As := [.int 1]) (rest := []) X hT (kt97_X11_refuse l G tag L F hT.2.2.2 p0 1 m0 g0) m0 g0 rfl rfl qw_152 qw_153 qw_154 qw_2 qw_155 ⟨rfl, by decide +kernel, by decide +kernel, by decide +kernel⟩ ⟨Nat.le_of_ble_eq_true rfl, Nat.le_of_ble_eq_true rfl⟩ hl rfl rfl (Nat.le_of_ble_eq_true rfl) dX11_heir_10 ⟨Nat.le_of_ble_eq_true rfl, Nat.le_of_ble_eq_true rfl⟩ (fun z42874 F H locs hT hz42874 => ?_)
    obtain ⟨hz42874, yz42874⟩ := hz42874
    have hfr : ∀ b j : Nat, (tag b ≠ 26 ∨ j ≠ 13) → fld F b j = fld Fo b j := fun b j n26_13 => (yz42874 b j n26_13).trans (hfr b j n26_13)
    exact t_iret hQ X hT (⟨rg_all _, hfr⟩) (Nat.le_of_ble_eq_true rfl) (Nat.le_of_ble_eq_true rfl) dX11_heir_13
set_option maxHeartbeats 4000000 in
set_option maxRecDepth 100000 in
theorem kt124_X6_isShut (l : Launch) (G : KG) (tag : Nat → Nat) (L : List Nat) (F : Nat → va_E) (ho : okT G ttC tag L F) (p0 : Nat) (p1 : Nat) (p2 : Int32) (m0 : p0 ∈ L) (g0 : tag p0 = 18) (m1 : p1 ∈ L) (g1 : tag p1 = 19) (h2 : 0 ≤ p2.toInt ∧ p2.toInt ≤ 3) : TMi l yX6_isShut cX6_isShut 5 (some .boolean) { frames := 3, cells := 0, slots := 0, locals := 77 } G ttC tag L F [.ref p0, .ref p1, .int p2] (fun r F1 => F1 = F ∧ (0 ≤ r.toInt ∧ r.toInt ≤ 1)) := by
  refine t_bodyi (y := yX6_isShut) (cd := cX6_isShut) (mL := 5) (rt := (some .boolean)) (rm := { frames := 3, cells := 0, slots := 0, locals := 77 }) (av := [.ref p0, .ref p1, .int p2]) (by decide) (Nat.le_of_ble_eq_true rfl) ho ?_
  intro p e s m args below meth c ls A Q hQ X hT hl
  have hx := X.1.1
  have hb := X.1.2.1
  have hl : lv_has ls 5 [(0, .ref p0), (1, .ref p1), (2, .int p2)] := hl
  refine lv_aload_n hx hb dX6_isShut_0 rfl (lv_at hl 1 rfl) ?_
  refine t_get (C := RX7) (T := TX7) (N := 7) X hT m1 g1 rfl rfl 2 (by decide) qw_383 inlX7 rfl dX6_isShut_1 (fun v43137 hv43137 ov43137 => ?_)
  obtain ⟨b43138, rfl, mb43138, gb43138⟩ := okV_r ov43137
  have gb43138 : tag b43138 = 8 := tg_of gb43138
  refine lv_iload_n hx hb dX6_isShut_4 rfl (lv_at hl 2 rfl) ?_
  refine t_ild X hT mb43138 gb43138 rfl (by omega) dX6_isShut_5 (fun z43139 vz43139 rz43139 => ?_)
  have rz43139 : 0 ≤ z43139.toInt ∧ z43139.toInt ≤ 6 := rz43139
  refine lv_istore_n (lv' := [(3, .int z43139), (0, .ref p0), (1, .ref p1), (2, .int p2)]) hx hb dX6_isShut_6 rfl hl (by decide) rfl (fun ls hl => ?_)
  refine lv_iload_n hx hb dX6_isShut_7 rfl (lv_at hl 0 rfl) ?_
  refine lv_if_ne (tgt := 13) hx hb dX6_isShut_8 (by decide) (fun c43140 => ?_) (fun c43140 => ?_)
  · have w43141 := cv_ne (rfl : z43139.toInt = z43139.toInt) (by decide : (0 : Int32).toInt = 0) c43140
    refine lv_aload_n hx hb dX6_isShut_13 rfl (lv_at hl 2 rfl) ?_
    refine lv_iload_n hx hb dX6_isShut_14 rfl (lv_at hl 3 rfl) ?_
    refine lv_iload_n hx hb dX6_isShut_15 rfl (lv_at hl 0 rfl) ?_
    refine lv_iconst (v := 1) hx hb dX6_isShut_16 (by decide) ?_
    refine t_cVi (n := 3) (C := RX7) (T := TX7) (N := 7) (As := [.int p2, .int z43139, .int 1]) (rest := []) X hT (kt19_X7_partOf l G tag L F hT.2.2.2 p1 p2 z43139 1 m1 g1) m1 g1 rfl rfl qw_777 qw_778 qw_779 qw_22 qw_780 ⟨rfl, by decide +kernel, by decide +kernel, by decide +kernel⟩ ⟨Nat.le_of_ble_eq_true rfl, Nat.le_of_ble_eq_true rfl⟩ hl rfl rfl (Nat.le_of_ble_eq_true rfl) dX6_isShut_17 ⟨Nat.le_of_ble_eq_true rfl, Nat.le_of_ble_eq_true rfl⟩ (fun z43142 F9 H locs hT hz43142 => ?_)
    obtain ⟨fz43142, hz43142⟩ := hz43142
    rw [fz43142] at hT
    refine lv_istore (lv' := [(4, .int z43142), (3, .int z43139), (0, .ref p0), (1, .ref p1), (2, .int p2)]) hx hb dX6_isShut_20 hl (by decide) rfl (fun ls hl => ?_)
    refine lv_iload hx hb dX6_isShut_22 (lv_at hl 0 rfl) ?_
    refine lv_if_lt (tgt := 33) hx hb dX6_isShut_24 (by decide) (fun c43143 => ?_) (fun c43143 => ?_)
    · have w43144 := cv_lt (rfl : z43142.toInt = z43142.toInt) (by decide : (0 : Int32).toInt = 0) c43143
      refine lv_iconst (v := 0) hx hb dX6_isShut_33 (by decide) ?_
      exact t_zret hQ X hT (by decide) (⟨rfl, (by decide)⟩) (Nat.le_of_ble_eq_true rfl) (Nat.le_of_ble_eq_true rfl) dX6_isShut_34
    · have w43145 := cv_nlt (rfl : z43142.toInt = z43142.toInt) (by decide : (0 : Int32).toInt = 0) c43143
      refine lv_iload hx hb dX6_isShut_27 (lv_at hl 0 rfl) ?_
      refine lv_iconst (v := 4) hx hb dX6_isShut_29 (by decide) ?_
      refine lv_icmp_lt (tgt := 35) hx hb dX6_isShut_30 (by decide) (fun c43146 => ?_) (fun c43146 => ?_)
      · have w43147 := cv_lt (rfl : z43142.toInt = z43142.toInt) (by decide : (4 : Int32).toInt = 4) c43146
        refine lv_aload_n hx hb dX6_isShut_35 rfl (lv_at hl 2 rfl) ?_
        refine lv_aload_n hx hb dX6_isShut_36 rfl (lv_at hl 3 rfl) ?_
        refine lv_iload_n hx hb dX6_isShut_37 rfl (lv_at hl 4 rfl) ?_
        refine lv_iload_n hx hb dX6_isShut_38 rfl (lv_at hl 1 rfl) ?_
        refine lv_iload hx hb dX6_isShut_39 (lv_at hl 0 rfl) ?_
        refine lv_aload_n hx hb dX6_isShut_41 rfl (lv_at hl 3 rfl) ?_
        refine lv_iload_n hx hb dX6_isShut_42 rfl (lv_at hl 4 rfl) ?_
        refine lv_iload_n hx hb dX6_isShut_43 rfl (lv_at hl 1 rfl) ?_
        refine lv_iconst (v := 2) hx hb dX6_isShut_44 (by decide) ?_
        refine t_cVi (n := 3) (C := RX7) (T := TX7) (N := 7) (As := [.int p2, .int z43139, .int 2]) (rest := [.int z43142, .int z43139, .int p2, .ref p1, .ref p0]) X hT (kt19_X7_partOf l G tag L F hT.2.2.2 p1 p2 z43139 2 m1 g1) m1 g1 rfl rfl qw_777 qw_778 qw_779 qw_22 qw_780 ⟨rfl, by decide +kernel, by decide +kernel, by decide +kernel⟩ ⟨Nat.le_of_ble_eq_true rfl, Nat.le_of_ble_eq_true rfl⟩ hl rfl rfl (Nat.le_of_ble_eq_true rfl) dX6_isShut_45 ⟨Nat.le_of_ble_eq_true rfl, Nat.le_of_ble_eq_true rfl⟩ (fun z43148 F9 H locs hT hz43148 => ?_)
        obtain ⟨fz43148, hz43148⟩ := hz43148
        rw [fz43148] at hT
        refine t_cSi (n := 6) (As := [.ref p0, .ref p1, .int p2, .int z43139, .int z43142, .int z43148]) (rest := []) X hT (kt68_X6_isFrontFree l G tag L F hT.2.2.2 p0 p1 p2 z43139 z43142 z43148 m0 g0 m1 g1 (by omega) (by omega)) qw_781 qw_782 qw_380 qw_783 ⟨by decide +kernel, by decide +kernel, by decide +kernel⟩ ⟨Nat.le_of_ble_eq_true rfl, Nat.le_of_ble_eq_true rfl⟩ hl rfl rfl (Nat.le_of_ble_eq_true rfl) dX6_isShut_48 ⟨Nat.le_of_ble_eq_true rfl, Nat.le_of_ble_eq_true rfl⟩ (fun z43149 F9 H locs hT hz43149 => ?_)
        obtain ⟨fz43149, hz43149⟩ := hz43149
        rw [fz43149] at hT
        refine lv_if_ne (tgt := 58) hx hb dX6_isShut_51 (by decide) (fun c43150 => ?_) (fun c43150 => ?_)
        · have w43151 := cv_ne (rfl : z43149.toInt = z43149.toInt) (by decide : (0 : Int32).toInt = 0) c43150
          refine lv_iconst (v := 0) hx hb dX6_isShut_58 (by decide) ?_
          exact t_zret hQ X hT (by decide) (⟨rfl, (by decide)⟩) (Nat.le_of_ble_eq_true rfl) (Nat.le_of_ble_eq_true rfl) dX6_isShut_59
        · have w43152 := cv_eq (rfl : z43149.toInt = z43149.toInt) (by decide : (0 : Int32).toInt = 0) c43150
          refine lv_iconst (v := 1) hx hb dX6_isShut_54 (by decide) ?_
          refine lv_goto (tgt := 59) hx hb dX6_isShut_55 (by decide) ?_
          exact t_zret hQ X hT (by decide) (⟨rfl, (by decide)⟩) (Nat.le_of_ble_eq_true rfl) (Nat.le_of_ble_eq_true rfl) dX6_isShut_59
      · have w43153 := cv_nlt (rfl : z43142.toInt = z43142.toInt) (by decide : (4 : Int32).toInt = 4) c43146
        refine lv_iconst (v := 0) hx hb dX6_isShut_33 (by decide) ?_
        exact t_zret hQ X hT (by decide) (⟨rfl, (by decide)⟩) (Nat.le_of_ble_eq_true rfl) (Nat.le_of_ble_eq_true rfl) dX6_isShut_34
  · have w43154 := cv_eq (rfl : z43139.toInt = z43139.toInt) (by decide : (0 : Int32).toInt = 0) c43140
    refine lv_iconst (v := 0) hx hb dX6_isShut_11 (by decide) ?_
    exact t_zret hQ X hT (by decide) (⟨rfl, (by decide)⟩) (Nat.le_of_ble_eq_true rfl) (Nat.le_of_ble_eq_true rfl) dX6_isShut_12
set_option maxHeartbeats 4000000 in
set_option maxRecDepth 100000 in
theorem kt125_X7_isCrowded (l : Launch) (G : KG) (tag : Nat → Nat) (L : List Nat) (F : Nat → va_E) (ho : okT G ttC tag L F) (p0 : Nat) (p1 : Int32) (m0 : p0 ∈ L) (g0 : tag p0 = 19) (h1 : 0 ≤ p1.toInt ∧ p1.toInt ≤ 3) : TMi l yX7_isCrowded cX7_isCrowded 3 (some .boolean) { frames := 0, cells := 0, slots := 0, locals := 0 } G ttC tag L F [.ref p0, .int p1] (fun r F1 => F1 = F ∧ (0 ≤ r.toInt ∧ r.toInt ≤ 1)) := by
  refine t_bodyi (y := yX7_isCrowded) (cd := cX7_isCrowded) (mL := 3) (rt := (some .boolean)) (rm := { frames := 0, cells := 0, slots := 0, locals := 0 }) (av := [.ref p0, .int p1]) (by decide) (Nat.le_of_ble_eq_true rfl) ho ?_
  intro p e s m args below meth c ls A Q hQ X hT hl
  have hx := X.1.1
  have hb := X.1.2.1
  have hl : lv_has ls 3 [(0, .ref p0), (1, .int p1)] := hl
  have K22 : ∀ (z43340 : Int32) (H : Heap) (locs : List Loc) (ls : Array Slot), (1 ≤ z43340.toInt ∧ z43340.toInt ≤ 48) → TH G ttC A s tag L F H locs → lv_has ls 3 [(0, .ref p0), (1, .int p1)] → W p l e { frames := 0, cells := 0, slots := 0, locals := 0 } s m args below meth c H locs 0 0 Q (F0 m 22 ls [.int z43340]) := by
    intro z43340 H locs ls rz43340 hT hl
    refine lv_istore_n (lv' := [(2, .int z43340), (0, .ref p0), (1, .int p1)]) hx hb dX7_isCrowded_22 rfl hl (by decide) rfl (fun ls hl => ?_)
    refine lv_aload_n hx hb dX7_isCrowded_23 rfl (lv_at hl 1 rfl) ?_
    refine t_get (C := RX7) (T := TX7) (N := 7) X hT m0 g0 rfl rfl 3 (by decide) qw_63 inlX7 rfl dX7_isCrowded_24 (fun v43341 hv43341 ov43341 => ?_)
    obtain ⟨b43342, rfl, mb43342, gb43342⟩ := okV_r ov43341
    have gb43342 : tag b43342 = 5 := tg_of gb43342
    refine lv_iload_n hx hb dX7_isCrowded_27 rfl (lv_at hl 2 rfl) ?_
    refine t_ild X hT mb43342 gb43342 rfl (by omega) dX7_isCrowded_28 (fun z43343 vz43343 rz43343 => ?_)
    have rz43343 : (-2147483648) ≤ z43343.toInt ∧ z43343.toInt ≤ 2147483647 := rz43343
    refine lv_iload_n hx hb dX7_isCrowded_29 rfl (lv_at hl 0 rfl) ?_
    refine lv_icmp_le (tgt := 37) hx hb dX7_isCrowded_30 (by decide) (fun c43344 => ?_) (fun c43344 => ?_)
    · have w43345 := cv_le (rfl : z43343.toInt = z43343.toInt) (rfl : z43340.toInt = z43340.toInt) c43344
      refine lv_iconst (v := 0) hx hb dX7_isCrowded_37 (by decide) ?_
      exact t_zret hQ X hT (by decide) (⟨rfl, (by decide)⟩) (Nat.le_of_ble_eq_true rfl) (Nat.le_of_ble_eq_true rfl) dX7_isCrowded_38
    · have w43346 := cv_nle (rfl : z43343.toInt = z43343.toInt) (rfl : z43340.toInt = z43340.toInt) c43344
      refine lv_iconst (v := 1) hx hb dX7_isCrowded_33 (by decide) ?_
      refine lv_goto (tgt := 38) hx hb dX7_isCrowded_34 (by decide) ?_
      exact t_zret hQ X hT (by decide) (⟨rfl, (by decide)⟩) (Nat.le_of_ble_eq_true rfl) (Nat.le_of_ble_eq_true rfl) dX7_isCrowded_38
  refine lv_aload_n hx hb dX7_isCrowded_0 rfl (lv_at hl 0 rfl) ?_
  refine t_get (C := RX7) (T := TX7) (N := 7) X hT m0 g0 rfl rfl 2 (by decide) qw_62 inlX7 rfl dX7_isCrowded_1 (fun v43347 hv43347 ov43347 => ?_)
  obtain ⟨b43348, rfl, mb43348, gb43348⟩ := okV_r ov43347
  have gb43348 : tag b43348 = 8 := tg_of gb43348
  refine lv_iload_n hx hb dX7_isCrowded_4 rfl (lv_at hl 1 rfl) ?_
  refine t_ild X hT mb43348 gb43348 rfl (by omega) dX7_isCrowded_5 (fun z43349 vz43349 rz43349 => ?_)
  have rz43349 : 0 ≤ z43349.toInt ∧ z43349.toInt ≤ 6 := rz43349
  refine lv_if_ne (tgt := 13) hx hb dX7_isCrowded_6 (by decide) (fun c43350 => ?_) (fun c43350 => ?_)
  · have w43351 := cv_ne (rfl : z43349.toInt = z43349.toInt) (by decide : (0 : Int32).toInt = 0) c43350
    refine lv_bipush (v := 8) hx hb dX7_isCrowded_13 (by decide) ?_
    refine lv_aload_n hx hb dX7_isCrowded_15 rfl (lv_at hl 0 rfl) ?_
    refine t_get (C := RX7) (T := TX7) (N := 7) X hT m0 g0 rfl rfl 2 (by decide) qw_62 inlX7 rfl dX7_isCrowded_16 (fun v43352 hv43352 ov43352 => ?_)
    obtain rfl : v43352 = .ref b43348 := hv43352.symm.trans hv43347
    refine lv_iload_n hx hb dX7_isCrowded_19 rfl (lv_at hl 1 rfl) ?_
    refine t_ild X hT mb43348 gb43348 rfl (by omega) dX7_isCrowded_20 (fun z43353 vz43353 rz43353 => ?_)
    obtain rfl : z43349 = z43353 := vz43349.symm.trans vz43353
    refine lv_imul hx hb dX7_isCrowded_21 ?_
    refine lv_topi (fun z43354 ez43354 => ?_)
    have hz43354 : z43354.toInt = 8 * z43349.toInt := ar_mul ez43354 (by decide : (8 : Int32).toInt = 8) (rfl : z43349.toInt = z43349.toInt) (by omega) (by omega)
    have rz43354 : 8 ≤ z43354.toInt ∧ z43354.toInt ≤ 48 := by omega
    exact K22 z43354 _ _ _ (by omega) hT  (lv_sub hl [0, 1] rfl)
  · have w43355 := cv_eq (rfl : z43349.toInt = z43349.toInt) (by decide : (0 : Int32).toInt = 0) c43350
    refine lv_iconst (v := 1) hx hb dX7_isCrowded_9 (by decide) ?_
    refine lv_goto (tgt := 22) hx hb dX7_isCrowded_10 (by decide) ?_
    exact K22 1 _ _ _ (by decide) hT  (lv_sub hl [0, 1] rfl)
