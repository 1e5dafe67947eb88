set_option maxHeartbeats 4000000 in
set_option maxRecDepth 100000 in
theorem kt106_X11_falls (l : Launch) (G : KG) (tag : Nat → Nat) (L : List Nat) (Fo : Nat → va_E) (ho : okT G ttC tag L Fo) (p0 : Nat) (p1 : Int32) (p2 : Int32) (p3 : Int32) (m0 : p0 ∈ L) (g0 : tag p0 = 26) : TMi l yX11_falls cX11_falls 5 (some .int) { frames := 6, cells := 0, slots := 0, locals := 157 } G ttC tag L Fo [.ref p0, .int p1, .int p2, .int p3] (fun r F1 => ((-2147483648) ≤ r.toInt ∧ r.toInt ≤ 2147483647) ∧ (∀ b j : Nat, (tag b ≠ 19 ∨ j ≠ 0) → (tag b ≠ 19 ∨ j ≠ 1) → (tag b ≠ 26 ∨ j ≠ 13) → fld F1 b j = fld Fo b j)) := by
  refine t_bodyi (y := yX11_falls) (cd := cX11_falls) (mL := 5) (rt := (some .int)) (rm := { frames := 6, cells := 0, slots := 0, locals := 157 }) (av := [.ref p0, .int p1, .int p2, .int p3]) (by decide) (Nat.le_of_ble_eq_true rfl) ho ?_
  intro p e s m args below meth c ls A Q hQ X hT hl
  have hx := X.1.1
  have hb := X.1.2.1
  have hl : lv_has ls 5 [(0, .ref p0), (1, .int p1), (2, .int p2), (3, .int p3)] := hl
  have rp1 := rg_all p1
  have rp2 := rg_all p2
  have rp3 := rg_all p3
  obtain ⟨F, hFo⟩ : ∃ F : Nat → va_E, F = Fo := ⟨_, rfl⟩
  rw [← hFo] at hT
  have hfr : ∀ b j : Nat, (tag b ≠ 19 ∨ j ≠ 0) → (tag b ≠ 19 ∨ j ≠ 1) → (tag b ≠ 26 ∨ j ≠ 13) → fld F b j = fld Fo b j := by
    rw [hFo]
    intros
    rfl
  have K25 : ∀  (F : Nat → va_E) (H : Heap) (locs : List Loc) (ls : Array Slot), (0 ≤ p1.toInt ∧ p1.toInt ≤ 3) → (1 ≤ p2.toInt ∧ p2.toInt ≤ 6) → TH G ttC A s tag L F H locs → (∀ b j : Nat, (tag b ≠ 19 ∨ j ≠ 0) → (tag b ≠ 19 ∨ j ≠ 1) → (tag b ≠ 26 ∨ j ≠ 13) → fld F b j = fld Fo b j) → lv_has ls 5 [(0, .ref p0), (1, .int p1), (2, .int p2), (3, .int p3)] → W p l e { frames := 6, cells := 0, slots := 0, locals := 157 } s m args below meth c H locs 0 0 Q (F0 m 25 ls []) := by
    intro F H locs ls r9s34899 r9s34900 hT hfr hl
    refine lv_aload_n hx hb dX11_falls_25 rfl (lv_at hl 0 rfl) ?_
    refine lv_iconst (v := 2) hx hb dX11_falls_26 (by decide) ?_
    refine t_cVi (n := 1) (C := RX11) (T := TX11) (N := 16) (As := [.int 2]) (rest := []) X hT (kt97_X11_refuse l G tag L F hT.2.2.2 p0 2 m0 g0) m0 g0 rfl rfl qw_152 qw_153 qw_154 qw_2 qw_155 ⟨rfl, by decide +kernel, by decide +kernel, by decide +kernel⟩ ⟨Nat.le_of_ble_eq_true rfl, Nat.le_of_ble_eq_true rfl⟩ hl rfl rfl (Nat.le_of_ble_eq_true rfl) dX11_falls_27 ⟨Nat.le_of_ble_eq_true rfl, Nat.le_of_ble_eq_true rfl⟩ (fun z34901 F H locs hT hz34901 => ?_)
    obtain ⟨hz34901, yz34901⟩ := hz34901
    have hfr : ∀ b j : Nat, (tag b ≠ 19 ∨ j ≠ 0) → (tag b ≠ 19 ∨ j ≠ 1) → (tag b ≠ 26 ∨ j ≠ 13) → fld F b j = fld Fo b j := fun b j n19_0 n19_1 n26_13 => (yz34901 b j n26_13).trans (hfr b j n19_0 n19_1 n26_13)
    exact t_iret hQ X hT (⟨rg_all _, hfr⟩) (Nat.le_of_ble_eq_true rfl) (Nat.le_of_ble_eq_true rfl) dX11_falls_30
  have K45 : ∀ (n : Nat) (z34905 : Int32) (F : Nat → va_E) (H : Heap) (locs : List Loc) (ls : Array Slot), (61 - z34905.toInt < (n : Int)) → (0 ≤ z34905.toInt ∧ z34905.toInt ≤ 61) → (0 ≤ p1.toInt ∧ p1.toInt ≤ 3) → (1 ≤ p2.toInt ∧ p2.toInt ≤ 6) → (0 ≤ p3.toInt ∧ p3.toInt ≤ 60) → TH G ttC A s tag L F H locs → (∀ b j : Nat, (tag b ≠ 19 ∨ j ≠ 0) → (tag b ≠ 19 ∨ j ≠ 1) → (tag b ≠ 26 ∨ j ≠ 13) → fld F b j = fld Fo b j) → lv_has ls 5 [(0, .ref p0), (1, .int p1), (2, .int p2), (3, .int p3), (4, .int z34905)] → W p l e { frames := 6, cells := 0, slots := 0, locals := 157 } s m args below meth c H locs 0 0 Q (F0 m 45 ls []) := by
    intro n
    induction n with
    | zero =>
      intro z34905 F H locs ls hn rz34905 r9s34902 r9s34903 r9s34904 hT hfr hl
      exfalso
      omega
    | succ n ih45 =>
      intro z34905 F H locs ls hn rz34905 r9s34902 r9s34903 r9s34904 hT hfr hl
      refine lv_iload hx hb dX11_falls_45 (lv_at hl 4 rfl) ?_
      refine lv_iload_n hx hb dX11_falls_47 rfl (lv_at hl 3 rfl) ?_
      refine lv_icmp_gt (tgt := 90) hx hb dX11_falls_48 (by decide) (fun c34906 => ?_) (fun c34906 => ?_)
      · have w34907 := cv_lt (rfl : p3.toInt = p3.toInt) (rfl : z34905.toInt = z34905.toInt) c34906
        refine lv_aload_n hx hb dX11_falls_90 rfl (lv_at hl 0 rfl) ?_
        refine lv_bipush (v := (-2)) hx hb dX11_falls_91 (by decide) ?_
        refine t_cVi (n := 1) (C := RX11) (T := TX11) (N := 16) (As := [.int (-2)]) (rest := []) X hT (kt96_X11_answer l G tag L F hT.2.2.2 p0 (-2) m0 g0) m0 g0 rfl rfl qw_463 qw_464 qw_465 qw_2 qw_466 ⟨rfl, by decide +kernel, by decide +kernel, by decide +kernel⟩ ⟨Nat.le_of_ble_eq_true rfl, Nat.le_of_ble_eq_true rfl⟩ hl rfl rfl (Nat.le_of_ble_eq_true rfl) dX11_falls_93 ⟨Nat.le_of_ble_eq_true rfl, Nat.le_of_ble_eq_true rfl⟩ (fun z34908 F H locs hT hz34908 => ?_)
        obtain ⟨hz34908, yz34908⟩ := hz34908
        have hfr : ∀ b j : Nat, (tag b ≠ 19 ∨ j ≠ 0) → (tag b ≠ 19 ∨ j ≠ 1) → (tag b ≠ 26 ∨ j ≠ 13) → fld F b j = fld Fo b j := fun b j n19_0 n19_1 n26_13 => (yz34908 b j n26_13).trans (hfr b j n19_0 n19_1 n26_13)
        exact t_iret hQ X hT (⟨rg_all _, hfr⟩) (Nat.le_of_ble_eq_true rfl) (Nat.le_of_ble_eq_true rfl) dX11_falls_96
      · have w34909 := cv_nlt (rfl : p3.toInt = p3.toInt) (rfl : z34905.toInt = z34905.toInt) c34906
        refine lv_aload_n hx hb dX11_falls_51 rfl (lv_at hl 0 rfl) ?_
        refine t_get (C := RX11) (T := TX11) (N := 16) X hT m0 g0 rfl rfl 7 (by decide) qw_25 inlX11 rfl dX11_falls_52 (fun v34910 hv34910 ov34910 => ?_)
        obtain ⟨b34911, rfl, mb34911, gb34911⟩ := okV_r ov34910
        have gb34911 : tag b34911 = 19 := tg_of gb34911
        refine lv_iload_n hx hb dX11_falls_55 rfl (lv_at hl 1 rfl) ?_
        refine lv_iload_n hx hb dX11_falls_56 rfl (lv_at hl 2 rfl) ?_
        refine t_cVi (n := 2) (C := RX7) (T := TX7) (N := 7) (As := [.int p1, .int p2]) (rest := []) X hT (kt21_X7_stands l G tag L F hT.2.2.2 b34911 p1 p2 mb34911 gb34911) mb34911 gb34911 rfl rfl qw_852 qw_853 qw_854 qw_22 qw_855 ⟨rfl, by decide +kernel, by decide +kernel, by decide +kernel⟩ ⟨Nat.le_of_ble_eq_true rfl, Nat.le_of_ble_eq_true rfl⟩ hl rfl rfl (Nat.le_of_ble_eq_true rfl) dX11_falls_57 ⟨Nat.le_of_ble_eq_true rfl, Nat.le_of_ble_eq_true rfl⟩ (fun z34912 F9 H locs hT hz34912 => ?_)
        obtain ⟨fz34912, hz34912⟩ := hz34912
        rw [fz34912] at hT
        refine lv_if_ne (tgt := 70) hx hb dX11_falls_60 (by decide) (fun c34913 => ?_) (fun c34913 => ?_)
        · have w34914 := cv_ne (rfl : z34912.toInt = z34912.toInt) (by decide : (0 : Int32).toInt = 0) c34913
          refine lv_aload_n hx hb dX11_falls_70 rfl (lv_at hl 0 rfl) ?_
          refine t_get (C := RX11) (T := TX11) (N := 16) X hT m0 g0 rfl rfl 3 (by decide) qw_18 inlX11 rfl dX11_falls_71 (fun v34915 hv34915 ov34915 => ?_)
          obtain ⟨b34916, rfl, mb34916, gb34916⟩ := okV_r ov34915
          have gb34916 : tag b34916 = 18 := tg_of gb34916
          refine lv_aload_n hx hb dX11_falls_74 rfl (lv_at hl 0 rfl) ?_
          refine t_get (C := RX11) (T := TX11) (N := 16) X hT m0 g0 rfl rfl 7 (by decide) qw_25 inlX11 rfl dX11_falls_75 (fun v34917 hv34917 ov34917 => ?_)
          obtain rfl : v34917 = .ref b34911 := hv34917.symm.trans hv34910
          refine t_gets X hT X.2.2.2.1.2.2.2.2 qw_1096 dX11_falls_78 ?_
          refine t_cSv (n := 3) (As := [.ref b34916, .ref b34911, .ref (G.2 13)]) (rest := []) X hT (kt105_X10_pass l G tag L F hT.2.2.2 b34916 b34911 mb34916 gb34916 mb34911 gb34911) qw_1097 qw_1098 qw_32 qw_1099 ⟨by decide +kernel, by decide +kernel, by decide +kernel⟩ ⟨Nat.le_of_ble_eq_true rfl, Nat.le_of_ble_eq_true rfl⟩ hl rfl rfl (Nat.le_of_ble_eq_true rfl) dX11_falls_81 ⟨Nat.le_of_ble_eq_true rfl, Nat.le_of_ble_eq_true rfl⟩ (fun F H locs hT hz34918 => ?_)
          have yz34918 := hz34918
          have hv34910 := (yz34918 _ 7 (Or.inr (by decide)) (Or.inr (by decide))).trans hv34910
          have hv34915 := (yz34918 _ 3 (Or.inr (by decide)) (Or.inr (by decide))).trans hv34915
          have hfr : ∀ b j : Nat, (tag b ≠ 19 ∨ j ≠ 0) → (tag b ≠ 19 ∨ j ≠ 1) → (tag b ≠ 26 ∨ j ≠ 13) → fld F b j = fld Fo b j := fun b j n19_0 n19_1 n26_13 => (yz34918 b j n19_0 n19_1).trans (hfr b j n19_0 n19_1 n26_13)
          obtain ⟨z34919, ez34919⟩ : ∃ y : Int32, y = z34905 + 1 := ⟨_, rfl⟩
          have hz34919 : z34919.toInt = z34905.toInt + 1 := ar_add ez34919 rfl (by decide : (1 : Int32).toInt = 1) (by omega) (by omega)
          refine lv_iinc (v := z34919) (lv' := [(4, .int z34919), (0, .ref p0), (1, .int p1), (2, .int p2), (3, .int p3)]) hx hb dX11_falls_84 hl (k := 4) rfl (by rw [ez34919]; rfl) (by decide) rfl (fun ls hl => ?_)
          refine lv_goto (tgt := 45) hx hb dX11_falls_87 (by decide) ?_
          exact ih45 z34919 _ _ _ _ (by omega) (by omega) (by omega) (by omega) (by omega) hT hfr  (lv_sub hl [1, 2, 3, 4, 0] rfl)
        · have w34920 := cv_eq (rfl : z34912.toInt = z34912.toInt) (by decide : (0 : Int32).toInt = 0) c34913
          refine lv_aload_n hx hb dX11_falls_63 rfl (lv_at hl 0 rfl) ?_
          refine lv_iload hx hb dX11_falls_64 (lv_at hl 4 rfl) ?_
          refine t_cVi (n := 1) (C := RX11) (T := TX11) (N := 16) (As := [.int z34905]) (rest := []) X hT (kt96_X11_answer l G tag L F hT.2.2.2 p0 z34905 m0 g0) m0 g0 rfl rfl qw_463 qw_464 qw_465 qw_2 qw_466 ⟨rfl, by decide +kernel, by decide +kernel, by decide +kernel⟩ ⟨Nat.le_of_ble_eq_true rfl, Nat.le_of_ble_eq_true rfl⟩ hl rfl rfl (Nat.le_of_ble_eq_true rfl) dX11_falls_66 ⟨Nat.le_of_ble_eq_true rfl, Nat.le_of_ble_eq_true rfl⟩ (fun z34921 F H locs hT hz34921 => ?_)
          obtain ⟨hz34921, yz34921⟩ := hz34921
          have hv34910 := (yz34921 _ 7 (Or.inr (by decide))).trans hv34910
          have hfr : ∀ b j : Nat, (tag b ≠ 19 ∨ j ≠ 0) → (tag b ≠ 19 ∨ j ≠ 1) → (tag b ≠ 26 ∨ j ≠ 13) → fld F b j = fld Fo b j := fun b j n19_0 n19_1 n26_13 => (yz34921 b j n26_13).trans (hfr b j n19_0 n19_1 n26_13)
          exact t_iret hQ X hT (⟨rg_all _, hfr⟩) (Nat.le_of_ble_eq_true rfl) (Nat.le_of_ble_eq_true rfl) dX11_falls_69
  refine lv_aload_n hx hb dX11_falls_0 rfl (lv_at hl 0 rfl) ?_
  refine lv_iload_n hx hb dX11_falls_1 rfl (lv_at hl 1 rfl) ?_
  refine lv_iload_n hx hb dX11_falls_2 rfl (lv_at hl 2 rfl) ?_
  refine t_cVi (n := 2) (C := RX11) (T := TX11) (N := 16) (As := [.int p1, .int p2]) (rest := []) X hT (kt104_X11_isSkin l G tag L F hT.2.2.2 p0 p1 p2 m0 g0) m0 g0 rfl rfl qw_823 qw_824 qw_825 qw_2 qw_826 ⟨rfl, by decide +kernel, by decide +kernel, by decide +kernel⟩ ⟨Nat.le_of_ble_eq_true rfl, Nat.le_of_ble_eq_true rfl⟩ hl rfl rfl (Nat.le_of_ble_eq_true rfl) dX11_falls_3 ⟨Nat.le_of_ble_eq_true rfl, Nat.le_of_ble_eq_true rfl⟩ (fun z34922 F9 H locs hT hz34922 => ?_)
  obtain ⟨fz34922, hz34922⟩ := hz34922
  rw [fz34922] at hT
  obtain ⟨hz34922, iz34922⟩ := hz34922
  refine lv_if_ne (tgt := 15) hx hb dX11_falls_6 (by decide) (fun c34923 => ?_) (fun c34923 => ?_)
  · have w34924 := cv_ne (rfl : z34922.toInt = z34922.toInt) (by decide : (0 : Int32).toInt = 0) c34923
    have w34925 := (fun h => (iz34922 h).1) (by omega)
    have w34926 := (fun h => (iz34922 h).2) (by omega)
    refine lv_iload_n hx hb dX11_falls_15 rfl (lv_at hl 3 rfl) ?_
    refine lv_if_lt (tgt := 25) hx hb dX11_falls_16 (by decide) (fun c34927 => ?_) (fun c34927 => ?_)
    · have w34928 := cv_lt (rfl : p3.toInt = p3.toInt) (by decide : (0 : Int32).toInt = 0) c34927
      exact K25  _ _ _ _ (by omega) (by omega) hT hfr  (lv_sub hl [0, 1, 2, 3] rfl)
    · have w34929 := cv_nlt (rfl : p3.toInt = p3.toInt) (by decide : (0 : Int32).toInt = 0) c34927
      refine lv_iload_n hx hb dX11_falls_19 rfl (lv_at hl 3 rfl) ?_
      refine lv_bipush (v := 60) hx hb dX11_falls_20 (by decide) ?_
      refine lv_icmp_le (tgt := 31) hx hb dX11_falls_22 (by decide) (fun c34930 => ?_) (fun c34930 => ?_)
      · have w34931 := cv_le (rfl : p3.toInt = p3.toInt) (by decide : (60 : Int32).toInt = 60) c34930
        refine lv_aload_n hx hb dX11_falls_31 rfl (lv_at hl 0 rfl) ?_
        refine t_get (C := RX11) (T := TX11) (N := 16) X hT m0 g0 rfl rfl 7 (by decide) qw_25 inlX11 rfl dX11_falls_32 (fun v34932 hv34932 ov34932 => ?_)
        obtain ⟨b34933, rfl, mb34933, gb34933⟩ := okV_r ov34932
        have gb34933 : tag b34933 = 19 := tg_of gb34933
        refine lv_aload_n hx hb dX11_falls_35 rfl (lv_at hl 0 rfl) ?_
        refine t_get (C := RX11) (T := TX11) (N := 16) X hT m0 g0 rfl rfl 5 (by decide) qw_23 inlX11 rfl dX11_falls_36 (fun v34934 hv34934 ov34934 => ?_)
        obtain ⟨b34935, rfl, mb34935, gb34935⟩ := okV_r ov34934
        have gb34935 : tag b34935 = 19 := tg_of gb34935
        refine t_cVv (n := 1) (C := RX7) (T := TX7) (N := 7) (As := [.ref b34935]) (rest := []) X hT (kt77_X7_copyFrom l G tag L F hT.2.2.2 b34933 b34935 mb34933 gb34933 mb34935 gb34935) mb34933 gb34933 rfl rfl qw_449 qw_450 qw_451 qw_22 qw_452 ⟨rfl, by decide +kernel, by decide +kernel, by decide +kernel⟩ ⟨Nat.le_of_ble_eq_true rfl, Nat.le_of_ble_eq_true rfl⟩ hl rfl rfl (Nat.le_of_ble_eq_true rfl) dX11_falls_39 ⟨Nat.le_of_ble_eq_true rfl, Nat.le_of_ble_eq_true rfl⟩ (fun F H locs hT hz34936 => ?_)
        have yz34936 := hz34936
        have hv34932 := (yz34936 _ 7 (Or.inr (by decide)) (Or.inr (by decide))).trans hv34932
        have hv34934 := (yz34936 _ 5 (Or.inr (by decide)) (Or.inr (by decide))).trans hv34934
        have hfr : ∀ b j : Nat, (tag b ≠ 19 ∨ j ≠ 0) → (tag b ≠ 19 ∨ j ≠ 1) → (tag b ≠ 26 ∨ j ≠ 13) → fld F b j = fld Fo b j := fun b j n19_0 n19_1 n26_13 => (yz34936 b j n19_0 n19_1).trans (hfr b j n19_0 n19_1 n26_13)
        refine lv_iconst (v := 0) hx hb dX11_falls_42 (by decide) ?_
        refine lv_istore (lv' := [(4, .int 0), (0, .ref p0), (1, .int p1), (2, .int p2), (3, .int p3)]) hx hb dX11_falls_43 hl (by decide) rfl (fun ls hl => ?_)
        have kk34937 : (0 : Int32).toInt = 0 := by decide
        exact K45 62 0 _ _ _ _ (by omega) (by decide) (by omega) (by omega) (by omega) hT hfr  (lv_sub hl [1, 2, 3, 4, 0] rfl)
      · have w34938 := cv_nle (rfl : p3.toInt = p3.toInt) (by decide : (60 : Int32).toInt = 60) c34930
        exact K25  _ _ _ _ (by omega) (by omega) hT hfr  (lv_sub hl [0, 1, 2, 3] rfl)
  · have w34939 := cv_eq (rfl : z34922.toInt = z34922.toInt) (by decide : (0 : Int32).toInt = 0) c34923
    refine lv_aload_n hx hb dX11_falls_9 rfl (lv_at hl 0 rfl) ?_
    refine lv_iconst (v := 1) hx hb dX11_falls_10 (by decide) ?_
    refine t_cVi (n := 1) (C := RX11) (T := TX11) (N := 16) (As := [.int 1]) (rest := []) X hT (kt97_X11_refuse l G tag L F hT.2.2.2 p0 1 m0 g0) m0 g0 rfl rfl qw_152 qw_153 qw_154 qw_2 qw_155 ⟨rfl, by decide +kernel, by decide +kernel, by decide +kernel⟩ ⟨Nat.le_of_ble_eq_true rfl, Nat.le_of_ble_eq_true rfl⟩ hl rfl rfl (Nat.le_of_ble_eq_true rfl) dX11_falls_11 ⟨Nat.le_of_ble_eq_true rfl, Nat.le_of_ble_eq_true rfl⟩ (fun z34940 F H locs hT hz34940 => ?_)
    obtain ⟨hz34940, yz34940⟩ := hz34940
    have hfr : ∀ b j : Nat, (tag b ≠ 19 ∨ j ≠ 0) → (tag b ≠ 19 ∨ j ≠ 1) → (tag b ≠ 26 ∨ j ≠ 13) → fld F b j = fld Fo b j := fun b j n19_0 n19_1 n26_13 => (yz34940 b j n26_13).trans (hfr b j n19_0 n19_1 n26_13)
    exact t_iret hQ X hT (⟨rg_all _, hfr⟩) (Nat.le_of_ble_eq_true rfl) (Nat.le_of_ble_eq_true rfl) dX11_falls_14
set_option maxHeartbeats 4000000 in
set_option maxRecDepth 100000 in
theorem kt107_X11_fault (l : Launch) (G : KG) (tag : Nat → Nat) (L : List Nat) (F : Nat → va_E) (ho : okT G ttC tag L F) (p0 : Nat) (m0 : p0 ∈ L) (g0 : tag p0 = 26) : TMi l yX11_fault cX11_fault 1 (some .int) { frames := 0, cells := 0, slots := 0, locals := 0 } G ttC tag L F [.ref p0] (fun r F1 => F1 = F ∧ ((-2147483648) ≤ r.toInt ∧ r.toInt ≤ 2147483647)) := by
  refine t_bodyi (y := yX11_fault) (cd := cX11_fault) (mL := 1) (rt := (some .int)) (rm := { frames := 0, cells := 0, slots := 0, locals := 0 }) (av := [.ref p0]) (by decide) (Nat.le_of_ble_eq_true rfl) ho ?_
  intro p e s m args below meth c ls A Q hQ X hT hl
  have hx := X.1.1
  have hb := X.1.2.1
  have hl : lv_has ls 1 [(0, .ref p0)] := hl
  refine lv_aload_n hx hb dX11_fault_0 rfl (lv_at hl 0 rfl) ?_
  refine t_get (C := RX11) (T := TX11) (N := 16) X hT m0 g0 rfl rfl 14 (by decide) qw_147 inlX11 rfl dX11_fault_1 (fun v34963 hv34963 ov34963 => ?_)
  obtain ⟨z34964, rfl, rz34964⟩ := okV_i ov34963
  exact t_iret hQ X hT (⟨rfl, rg_all _⟩) (Nat.le_of_ble_eq_true rfl) (Nat.le_of_ble_eq_true rfl) dX11_fault_4
set_option maxHeartbeats 4000000 in
set_option maxRecDepth 100000 in
theorem kt108_X11_putNumber (l : Launch) (G : KG) (tag : Nat → Nat) (L : List Nat) (Fo : Nat → va_E) (ho : okT G ttC tag L Fo) (p0 : Nat) (p1 : Int32) (m0 : p0 ∈ L) (g0 : tag p0 = 26) : TMv l yX11_putNumber cX11_putNumber 3 { frames := 0, cells := 0, slots := 0, locals := 0 } G ttC tag L Fo [.ref p0, .int p1] (fun F1 => ∀ b j : Nat, (tag b ≠ 26 ∨ j ≠ 1) → fld F1 b j = fld Fo b j) := by
  refine t_bodyv (y := yX11_putNumber) (cd := cX11_putNumber) (mL := 3) (rm := { frames := 0, cells := 0, slots := 0, locals := 0 }) (av := [.ref p0, .int p1]) (by decide) (Nat.le_of_ble_eq_true rfl) ho ?_
  intro p e s m args below meth c ls A Q hQ X hT hl
  have hx := X.1.1
  have hb := X.1.2.1
  have hl : lv_has ls 3 [(0, .ref p0), (1, .int p1)] := hl
  have rp1 := rg_all p1
  obtain ⟨F, hFo⟩ : ∃ F : Nat → va_E, F = Fo := ⟨_, rfl⟩
  rw [← hFo] at hT
  have hfr : ∀ b j : Nat, (tag b ≠ 26 ∨ j ≠ 1) → fld F b j = fld Fo b j := by
    rw [hFo]
    intros
    rfl
  have K3 : ∀ (n : Nat) (z35288 : Int32) (F : Nat → va_E) (H : Heap) (locs : List Loc) (ls : Array Slot), (z35288.toInt - (-8) < (n : Int)) → ((-8) ≤ z35288.toInt ∧ z35288.toInt ≤ 24) → TH G ttC A s tag L F H locs → (∀ b j : Nat, (tag b ≠ 26 ∨ j ≠ 1) → fld F b j = fld Fo b j) → lv_has ls 3 [(0, .ref p0), (1, .int p1), (2, .int z35288)] → W p l e { frames := 0, cells := 0, slots := 0, locals := 0 } s m args below meth c H locs 0 0 Q (F0 m 3 ls []) := by
    intro n
    induction n with
    | zero =>
      intro z35288 F H locs ls hn rz35288 hT hfr hl
      exfalso
      omega
    | succ n ih3 =>
      intro z35288 F H locs ls hn rz35288 hT hfr hl
      have K43 : ∀ (z35290 : Int32) (F : Nat → va_E) (H : Heap) (locs : List Loc) (ls : Array Slot), (1 ≤ z35290.toInt ∧ z35290.toInt ≤ 1000) → (0 ≤ z35288.toInt ∧ z35288.toInt ≤ 24) → TH G ttC A s tag L F H locs → (∀ b j : Nat, (tag b ≠ 26 ∨ j ≠ 1) → fld F b j = fld Fo b j) → fld F p0 1 = .int z35290 → lv_has ls 3 [(0, .ref p0), (1, .int p1), (2, .int z35288)] → W p l e { frames := 0, cells := 0, slots := 0, locals := 0 } s m args below meth c H locs 0 0 Q (F0 m 43 ls []) := by
        intro z35290 F H locs ls rz35290 r9s35289 hT hfr qz35290 hl
        obtain ⟨z35291, ez35291⟩ : ∃ y : Int32, y = z35288 + (-8) := ⟨_, rfl⟩
        have hz35291 : z35291.toInt = z35288.toInt + (-8) := ar_add ez35291 rfl (by decide : ((-8) : Int32).toInt = (-8)) (by omega) (by omega)
        refine lv_iinc (v := z35291) (lv' := [(2, .int z35291), (0, .ref p0), (1, .int p1)]) hx hb dX11_putNumber_43 hl (k := 2) rfl (by rw [ez35291]; rfl) (by decide) rfl (fun ls hl => ?_)
        refine lv_goto (tgt := 3) hx hb dX11_putNumber_46 (by decide) ?_
        exact ih3 z35291 _ _ _ _ (by omega) (by omega) hT hfr  (lv_sub hl [1, 2, 0] rfl)
      refine lv_iload_n hx hb dX11_putNumber_3 rfl (lv_at hl 2 rfl) ?_
      refine lv_if_lt (tgt := 49) hx hb dX11_putNumber_4 (by decide) (fun c35292 => ?_) (fun c35292 => ?_)
      · have w35293 := cv_lt (rfl : z35288.toInt = z35288.toInt) (by decide : (0 : Int32).toInt = 0) c35292
        exact t_vret hQ X hT hfr (Nat.le_of_ble_eq_true rfl) (Nat.le_of_ble_eq_true rfl) dX11_putNumber_49
      · have w35294 := cv_nlt (rfl : z35288.toInt = z35288.toInt) (by decide : (0 : Int32).toInt = 0) c35292
        refine lv_aload_n hx hb dX11_putNumber_7 rfl (lv_at hl 0 rfl) ?_
        refine t_get (C := RX11) (T := TX11) (N := 16) X hT m0 g0 rfl rfl 1 (by decide) qw_131 inlX11 rfl dX11_putNumber_8 (fun v35295 hv35295 ov35295 => ?_)
        obtain ⟨z35296, rfl, rz35296⟩ := okV_i ov35295
        refine lv_sipush (v := 1000) hx hb dX11_putNumber_11 (by decide) ?_
        refine lv_icmp_ge (tgt := 43) hx hb dX11_putNumber_14 (by decide) (fun c35297 => ?_) (fun c35297 => ?_)
        · have w35298 := cv_le (by decide : (1000 : Int32).toInt = 1000) (rfl : z35296.toInt = z35296.toInt) c35297
          exact K43 z35296 _ _ _ _ (by omega) (by omega) hT hfr hv35295 (lv_sub hl [0, 1, 2] rfl)
        · have w35299 := cv_nle (by decide : (1000 : Int32).toInt = 1000) (rfl : z35296.toInt = z35296.toInt) c35297
          refine lv_aload_n hx hb dX11_putNumber_17 rfl (lv_at hl 0 rfl) ?_
          refine t_get (C := RX11) (T := TX11) (N := 16) X hT m0 g0 rfl rfl 0 (by decide) qw_14 inlX11 rfl dX11_putNumber_18 (fun v35300 hv35300 ov35300 => ?_)
          obtain ⟨b35301, rfl, mb35301, gb35301⟩ := okV_r ov35300
          have gb35301 : tag b35301 = 1 := tg_of gb35301
          refine lv_aload_n hx hb dX11_putNumber_21 rfl (lv_at hl 0 rfl) ?_
          refine t_get (C := RX11) (T := TX11) (N := 16) X hT m0 g0 rfl rfl 1 (by decide) qw_131 inlX11 rfl dX11_putNumber_22 (fun v35302 hv35302 ov35302 => ?_)
          obtain rfl : v35302 = .int z35296 := hv35302.symm.trans hv35295
          refine lv_iload_n hx hb dX11_putNumber_25 rfl (lv_at hl 1 rfl) ?_
          refine lv_iload_n hx hb dX11_putNumber_26 rfl (lv_at hl 2 rfl) ?_
          refine lv_ishr hx hb dX11_putNumber_27 ?_
          refine lv_topi (fun z35303 ez35303 => ?_)
          have rz35303 := rg_all z35303
          refine lv_sipush (v := 255) hx hb dX11_putNumber_28 (by decide) ?_
          refine lv_iand hx hb dX11_putNumber_31 ?_
          refine lv_topi (fun z35304 ez35304 => ?_)
          have rz35304 : 0 ≤ z35304.toInt ∧ z35304.toInt ≤ 255 := ar_and ez35304 8 (by decide) (by decide)
          refine t_ist X hT mb35301 gb35301 rfl (by omega) (show 0 ≤ (z35304 : Int32).toInt ∧ (z35304 : Int32).toInt ≤ 255 from (by omega)) dX11_putNumber_32 (fun F H locs hT v35305 h1v35305 h2v35305 => ?_)
          have hv35295 := (h2v35305 _ _).trans hv35295
          have hv35300 := (h2v35305 _ _).trans hv35300
          have hfr : ∀ b j : Nat, (tag b ≠ 26 ∨ j ≠ 1) → fld F b j = fld Fo b j := fun b j n26_1 => (h2v35305 b j).trans (hfr b j n26_1)
          refine lv_aload_n hx hb dX11_putNumber_33 rfl (lv_at hl 0 rfl) ?_
          refine lv_dup hx hb dX11_putNumber_34 rfl ?_
          refine t_get (C := RX11) (T := TX11) (N := 16) X hT m0 g0 rfl rfl 1 (by decide) qw_131 inlX11 rfl dX11_putNumber_35 (fun v35306 hv35306 ov35306 => ?_)
          obtain rfl : v35306 = .int z35296 := hv35306.symm.trans hv35295
          refine lv_iconst (v := 1) hx hb dX11_putNumber_38 (by decide) ?_
          refine lv_iadd hx hb dX11_putNumber_39 ?_
          refine lv_topi (fun z35307 ez35307 => ?_)
          have hz35307 : z35307.toInt = z35296.toInt + 1 := ar_add ez35307 (rfl : z35296.toInt = z35296.toInt) (by decide : (1 : Int32).toInt = 1) (by omega) (by omega)
          have rz35307 : 1 ≤ z35307.toInt ∧ z35307.toInt ≤ 1000 := by omega
          refine t_put (C := RX11) (T := TX11) (N := 16) (v := .int z35307) X hT m0 g0 rfl tyX11 tyX11_ok nmX11 rfl 1 (by decide) qw_131 inlX11 rfl (by first | rfl | decide) (by first | rfl | decide) rfl (⟨_, rfl, (by omega), (by omega)⟩) dX11_putNumber_40 (fun F H locs hT v35308 h1v35308 h2v35308 => ?_)
          have hv35300 := (h1v35308 _ _ (Or.inr (by decide))).trans hv35300
          have v35305 := (h2v35308 _ _).trans v35305
          have hfr : ∀ b j : Nat, (tag b ≠ 26 ∨ j ≠ 1) → fld F b j = fld Fo b j := fun b j n26_1 => (h1v35308 b j (fr_ne g0 n26_1)).trans (hfr b j n26_1)
          exact K43 z35307 _ _ _ _ (by omega) (by omega) hT hfr v35308 (lv_sub hl [0, 1, 2] rfl)
  refine lv_bipush (v := 24) hx hb dX11_putNumber_0 (by decide) ?_
  refine lv_istore_n (lv' := [(2, .int 24), (0, .ref p0), (1, .int p1)]) hx hb dX11_putNumber_2 rfl hl (by decide) rfl (fun ls hl => ?_)
  have kk35309 : (24 : Int32).toInt = 24 := by decide
  exact K3 33 24 _ _ _ _ (by omega) (by decide) hT hfr  (lv_sub hl [1, 2, 0] rfl)
set_option maxHeartbeats 4000000 in
set_option maxRecDepth 100000 in
theorem kt109_X11_feed (l : Launch) (G : KG) (tag : Nat → Nat) (L : List Nat) (Fo : Nat → va_E) (ho : okT G ttC tag L Fo) (p0 : Nat) (p1 : Int32) (p2 : Int32) (p3 : Int32) (p4 : Int32) (p5 : Int32) (m0 : p0 ∈ L) (g0 : tag p0 = 26) : TMi l yX11_feed cX11_feed 6 (some .int) { frames := 1, cells := 0, slots := 0, locals := 22 } G ttC tag L Fo [.ref p0, .int p1, .int p2, .int p3, .int p4, .int p5] (fun r F1 => ((-1) ≤ r.toInt ∧ r.toInt ≤ 1000) ∧ (∀ b j : Nat, (tag b ≠ 26 ∨ j ≠ 1) → fld F1 b j = fld Fo b j)) := by
  refine t_bodyi (y := yX11_feed) (cd := cX11_feed) (mL := 6) (rt := (some .int)) (rm := { frames := 1, cells := 0, slots := 0, locals := 22 }) (av := [.ref p0, .int p1, .int p2, .int p3, .int p4, .int p5]) (by decide) (Nat.le_of_ble_eq_true rfl) ho ?_
  intro p e s m args below meth c ls A Q hQ X hT hl
  have hx := X.1.1
  have hb := X.1.2.1
  have hl : lv_has ls 6 [(0, .ref p0), (1, .int p1), (2, .int p2), (3, .int p3), (4, .int p4), (5, .int p5)] := hl
  have rp1 := rg_all p1
  have rp2 := rg_all p2
  have rp3 := rg_all p3
  have rp4 := rg_all p4
  have rp5 := rg_all p5
  obtain ⟨F, hFo⟩ : ∃ F : Nat → va_E, F = Fo := ⟨_, rfl⟩
  rw [← hFo] at hT
  have hfr : ∀ b j : Nat, (tag b ≠ 26 ∨ j ≠ 1) → fld F b j = fld Fo b j := by
    rw [hFo]
    intros
    rfl
  refine lv_aload_n hx hb dX11_feed_0 rfl (lv_at hl 0 rfl) ?_
  refine t_get (C := RX11) (T := TX11) (N := 16) X hT m0 g0 rfl rfl 1 (by decide) qw_131 inlX11 rfl dX11_feed_1 (fun v35448 hv35448 ov35448 => ?_)
  obtain ⟨z35449, rfl, rz35449⟩ := okV_i ov35448
  refine lv_bipush (v := 20) hx hb dX11_feed_4 (by decide) ?_
  refine lv_iadd hx hb dX11_feed_6 ?_
  refine lv_topi (fun z35450 ez35450 => ?_)
  have hz35450 : z35450.toInt = z35449.toInt + 20 := ar_add ez35450 (rfl : z35449.toInt = z35449.toInt) (by decide : (20 : Int32).toInt = 20) (by omega) (by omega)
  have rz35450 : 20 ≤ z35450.toInt ∧ z35450.toInt ≤ 1020 := by omega
  refine lv_sipush (v := 1000) hx hb dX11_feed_7 (by decide) ?_
  refine lv_icmp_le (tgt := 15) hx hb dX11_feed_10 (by decide) (fun c35451 => ?_) (fun c35451 => ?_)
  · have w35452 := cv_le (rfl : z35450.toInt = z35450.toInt) (by decide : (1000 : Int32).toInt = 1000) c35451
    refine lv_aload_n hx hb dX11_feed_15 rfl (lv_at hl 0 rfl) ?_
    refine lv_iload_n hx hb dX11_feed_16 rfl (lv_at hl 1 rfl) ?_
    refine t_cVv (n := 1) (C := RX11) (T := TX11) (N := 16) (As := [.int p1]) (rest := []) X hT (kt108_X11_putNumber l G tag L F hT.2.2.2 p0 p1 m0 g0) m0 g0 rfl rfl qw_132 qw_133 qw_134 qw_2 qw_135 ⟨rfl, by decide +kernel, by decide +kernel, by decide +kernel⟩ ⟨Nat.le_of_ble_eq_true rfl, Nat.le_of_ble_eq_true rfl⟩ hl rfl rfl (Nat.le_of_ble_eq_true rfl) dX11_feed_17 ⟨Nat.le_of_ble_eq_true rfl, Nat.le_of_ble_eq_true rfl⟩ (fun F H locs hT hz35453 => ?_)
    have yz35453 := hz35453
    have hfr : ∀ b j : Nat, (tag b ≠ 26 ∨ j ≠ 1) → fld F b j = fld Fo b j := fun b j n26_1 => (yz35453 b j n26_1).trans (hfr b j n26_1)
    refine lv_aload_n hx hb dX11_feed_20 rfl (lv_at hl 0 rfl) ?_
    refine lv_iload_n hx hb dX11_feed_21 rfl (lv_at hl 2 rfl) ?_
    refine t_cVv (n := 1) (C := RX11) (T := TX11) (N := 16) (As := [.int p2]) (rest := []) X hT (kt108_X11_putNumber l G tag L F hT.2.2.2 p0 p2 m0 g0) m0 g0 rfl rfl qw_132 qw_133 qw_134 qw_2 qw_135 ⟨rfl, by decide +kernel, by decide +kernel, by decide +kernel⟩ ⟨Nat.le_of_ble_eq_true rfl, Nat.le_of_ble_eq_true rfl⟩ hl rfl rfl (Nat.le_of_ble_eq_true rfl) dX11_feed_22 ⟨Nat.le_of_ble_eq_true rfl, Nat.le_of_ble_eq_true rfl⟩ (fun F H locs hT hz35454 => ?_)
    have yz35454 := hz35454
    have hfr : ∀ b j : Nat, (tag b ≠ 26 ∨ j ≠ 1) → fld F b j = fld Fo b j := fun b j n26_1 => (yz35454 b j n26_1).trans (hfr b j n26_1)
    refine lv_aload_n hx hb dX11_feed_25 rfl (lv_at hl 0 rfl) ?_
    refine lv_iload_n hx hb dX11_feed_26 rfl (lv_at hl 3 rfl) ?_
    refine t_cVv (n := 1) (C := RX11) (T := TX11) (N := 16) (As := [.int p3]) (rest := []) X hT (kt108_X11_putNumber l G tag L F hT.2.2.2 p0 p3 m0 g0) m0 g0 rfl rfl qw_132 qw_133 qw_134 qw_2 qw_135 ⟨rfl, by decide +kernel, by decide +kernel, by decide +kernel⟩ ⟨Nat.le_of_ble_eq_true rfl, Nat.le_of_ble_eq_true rfl⟩ hl rfl rfl (Nat.le_of_ble_eq_true rfl) dX11_feed_27 ⟨Nat.le_of_ble_eq_true rfl, Nat.le_of_ble_eq_true rfl⟩ (fun F H locs hT hz35455 => ?_)
    have yz35455 := hz35455
    have hfr : ∀ b j : Nat, (tag b ≠ 26 ∨ j ≠ 1) → fld F b j = fld Fo b j := fun b j n26_1 => (yz35455 b j n26_1).trans (hfr b j n26_1)
    refine lv_aload_n hx hb dX11_feed_30 rfl (lv_at hl 0 rfl) ?_
    refine lv_iload hx hb dX11_feed_31 (lv_at hl 4 rfl) ?_
    refine t_cVv (n := 1) (C := RX11) (T := TX11) (N := 16) (As := [.int p4]) (rest := []) X hT (kt108_X11_putNumber l G tag L F hT.2.2.2 p0 p4 m0 g0) m0 g0 rfl rfl qw_132 qw_133 qw_134 qw_2 qw_135 ⟨rfl, by decide +kernel, by decide +kernel, by decide +kernel⟩ ⟨Nat.le_of_ble_eq_true rfl, Nat.le_of_ble_eq_true rfl⟩ hl rfl rfl (Nat.le_of_ble_eq_true rfl) dX11_feed_33 ⟨Nat.le_of_ble_eq_true rfl, Nat.le_of_ble_eq_true rfl⟩ (fun F H locs hT hz35456 => ?_)
    have yz35456 := hz35456
    have hfr : ∀ b j : Nat, (tag b ≠ 26 ∨ j ≠ 1) → fld F b j = fld Fo b j := fun b j n26_1 => (yz35456 b j n26_1).trans (hfr b j n26_1)
    refine lv_aload_n hx hb dX11_feed_36 rfl (lv_at hl 0 rfl) ?_
    refine lv_iload hx hb dX11_feed_37 (lv_at hl 5 rfl) ?_
    refine t_cVv (n := 1) (C := RX11) (T := TX11) (N := 16) (As := [.int p5]) (rest := []) X hT (kt108_X11_putNumber l G tag L F hT.2.2.2 p0 p5 m0 g0) m0 g0 rfl rfl qw_132 qw_133 qw_134 qw_2 qw_135 ⟨rfl, by decide +kernel, by decide +kernel, by decide +kernel⟩ ⟨Nat.le_of_ble_eq_true rfl, Nat.le_of_ble_eq_true rfl⟩ hl rfl rfl (Nat.le_of_ble_eq_true rfl) dX11_feed_39 ⟨Nat.le_of_ble_eq_true rfl, Nat.le_of_ble_eq_true rfl⟩ (fun F H locs hT hz35457 => ?_)
    have yz35457 := hz35457
    have hfr : ∀ b j : Nat, (tag b ≠ 26 ∨ j ≠ 1) → fld F b j = fld Fo b j := fun b j n26_1 => (yz35457 b j n26_1).trans (hfr b j n26_1)
    refine lv_aload_n hx hb dX11_feed_42 rfl (lv_at hl 0 rfl) ?_
    refine t_get (C := RX11) (T := TX11) (N := 16) X hT m0 g0 rfl rfl 1 (by decide) qw_131 inlX11 rfl dX11_feed_43 (fun v35458 hv35458 ov35458 => ?_)
    obtain ⟨z35459, rfl, rz35459⟩ := okV_i ov35458
    exact t_iret hQ X hT (⟨(by omega), hfr⟩) (Nat.le_of_ble_eq_true rfl) (Nat.le_of_ble_eq_true rfl) dX11_feed_46
  · have w35460 := cv_nle (rfl : z35450.toInt = z35450.toInt) (by decide : (1000 : Int32).toInt = 1000) c35451
    refine lv_iconst (v := (-1)) hx hb dX11_feed_13 (by decide) ?_
    exact t_iret hQ X hT (⟨(by decide), hfr⟩) (Nat.le_of_ble_eq_true rfl) (Nat.le_of_ble_eq_true rfl) dX11_feed_14
set_option maxHeartbeats 4000000 in
set_option maxRecDepth 100000 in
theorem kt110_X11_isLivedIn (l : Launch) (G : KG) (tag : Nat → Nat) (L : List Nat) (F : Nat → va_E) (ho : okT G ttC tag L F) (p0 : Nat) (p1 : Int32) (p2 : Int32) (m0 : p0 ∈ L) (g0 : tag p0 = 26) : TMi l yX11_isLivedIn cX11_isLivedIn 4 (some .boolean) { frames := 0, cells := 0, slots := 0, locals := 0 } G ttC tag L F [.ref p0, .int p1, .int p2] (fun r F1 => F1 = F ∧ (0 ≤ r.toInt ∧ r.toInt ≤ 1)) := by
  refine t_bodyi (y := yX11_isLivedIn) (cd := cX11_isLivedIn) (mL := 4) (rt := (some .boolean)) (rm := { frames := 0, cells := 0, slots := 0, locals := 0 }) (av := [.ref p0, .int p1, .int p2]) (by decide) (Nat.le_of_ble_eq_true rfl) ho ?_
  intro p e s m args below meth c ls A Q hQ X hT hl
  have hx := X.1.1
  have hb := X.1.2.1
  have hl : lv_has ls 4 [(0, .ref p0), (1, .int p1), (2, .int p2)] := hl
  have rp1 := rg_all p1
  have rp2 := rg_all p2
  have K2 : ∀ (n : Nat) (z35920 : Int32) (H : Heap) (locs : List Loc) (ls : Array Slot), (6 - z35920.toInt < (n : Int)) → (0 ≤ z35920.toInt ∧ z35920.toInt ≤ 6) → TH G ttC A s tag L F H locs → lv_has ls 4 [(0, .ref p0), (1, .int p1), (2, .int p2), (3, .int z35920)] → W p l e { frames := 0, cells := 0, slots := 0, locals := 0 } s m args below meth c H locs 0 0 Q (F0 m 2 ls []) := by
    intro n
    induction n with
    | zero =>
      intro z35920 H locs ls hn rz35920 hT hl
      exfalso
      omega
    | succ n ih2 =>
      intro z35920 H locs ls hn rz35920 hT hl
      have K41 : ∀  (H : Heap) (locs : List Loc) (ls : Array Slot), (0 ≤ z35920.toInt ∧ z35920.toInt ≤ 5) → TH G ttC A s tag L F H locs → lv_has ls 4 [(0, .ref p0), (1, .int p1), (2, .int p2), (3, .int z35920)] → W p l e { frames := 0, cells := 0, slots := 0, locals := 0 } s m args below meth c H locs 0 0 Q (F0 m 41 ls []) := by
        intro H locs ls r9s35921 hT hl
        obtain ⟨z35922, ez35922⟩ : ∃ y : Int32, y = z35920 + 1 := ⟨_, rfl⟩
        have hz35922 : z35922.toInt = z35920.toInt + 1 := ar_add ez35922 rfl (by decide : (1 : Int32).toInt = 1) (by omega) (by omega)
        refine lv_iinc (v := z35922) (lv' := [(3, .int z35922), (0, .ref p0), (1, .int p1), (2, .int p2)]) hx hb dX11_isLivedIn_41 hl (k := 3) rfl (by rw [ez35922]; rfl) (by decide) rfl (fun ls hl => ?_)
        refine lv_goto (tgt := 2) hx hb dX11_isLivedIn_44 (by decide) ?_
        exact ih2 z35922 _ _ _ (by omega) (by omega) hT  (lv_sub hl [1, 2, 3, 0] rfl)
      refine lv_iload_n hx hb dX11_isLivedIn_2 rfl (lv_at hl 3 rfl) ?_
      refine lv_aload_n hx hb dX11_isLivedIn_3 rfl (lv_at hl 0 rfl) ?_
      refine t_get (C := RX11) (T := TX11) (N := 16) X hT m0 g0 rfl rfl 3 (by decide) qw_18 inlX11 rfl dX11_isLivedIn_4 (fun v35923 hv35923 ov35923 => ?_)
      obtain ⟨b35924, rfl, mb35924, gb35924⟩ := okV_r ov35923
      have gb35924 : tag b35924 = 18 := tg_of gb35924
      refine t_get (C := RX1) (T := TX1) (N := 20) X hT mb35924 gb35924 rfl rfl 14 (by decide) qw_891 inlX1 rfl dX11_isLivedIn_7 (fun v35925 hv35925 ov35925 => ?_)
      obtain ⟨z35926, rfl, rz35926⟩ := okV_i ov35925
      refine lv_icmp_ge (tgt := 47) hx hb dX11_isLivedIn_10 (by decide) (fun c35927 => ?_) (fun c35927 => ?_)
      · have w35928 := cv_le (rfl : z35926.toInt = z35926.toInt) (rfl : z35920.toInt = z35920.toInt) c35927
        refine lv_iconst (v := 0) hx hb dX11_isLivedIn_47 (by decide) ?_
        exact t_zret hQ X hT (by decide) (⟨rfl, (by decide)⟩) (Nat.le_of_ble_eq_true rfl) (Nat.le_of_ble_eq_true rfl) dX11_isLivedIn_48
      · have w35929 := cv_nle (rfl : z35926.toInt = z35926.toInt) (rfl : z35920.toInt = z35920.toInt) c35927
        refine lv_aload_n hx hb dX11_isLivedIn_13 rfl (lv_at hl 0 rfl) ?_
        refine t_get (C := RX11) (T := TX11) (N := 16) X hT m0 g0 rfl rfl 3 (by decide) qw_18 inlX11 rfl dX11_isLivedIn_14 (fun v35930 hv35930 ov35930 => ?_)
        obtain rfl : v35930 = .ref b35924 := hv35930.symm.trans hv35923
        refine t_get (C := RX1) (T := TX1) (N := 20) X hT mb35924 gb35924 rfl rfl 15 (by decide) qw_885 inlX1 rfl dX11_isLivedIn_17 (fun v35931 hv35931 ov35931 => ?_)
        obtain ⟨b35932, rfl, mb35932, gb35932⟩ := okV_r ov35931
        have gb35932 : tag b35932 = 6 := tg_of gb35932
        refine lv_iload_n hx hb dX11_isLivedIn_20 rfl (lv_at hl 3 rfl) ?_
        refine t_ild X hT mb35932 gb35932 rfl (by omega) dX11_isLivedIn_21 (fun z35933 vz35933 rz35933 => ?_)
        have rz35933 : 0 ≤ z35933.toInt ∧ z35933.toInt ≤ 3 := rz35933
        refine lv_iload_n hx hb dX11_isLivedIn_22 rfl (lv_at hl 1 rfl) ?_
        refine lv_icmp_ne (tgt := 41) hx hb dX11_isLivedIn_23 (by decide) (fun c35934 => ?_) (fun c35934 => ?_)
        · have w35935 := cv_ne (rfl : z35933.toInt = z35933.toInt) (rfl : p1.toInt = p1.toInt) c35934
          exact K41  _ _ _ (by omega) hT  (lv_sub hl [0, 1, 2, 3] rfl)
        · have w35936 := cv_eq (rfl : z35933.toInt = z35933.toInt) (rfl : p1.toInt = p1.toInt) c35934
          refine lv_aload_n hx hb dX11_isLivedIn_26 rfl (lv_at hl 0 rfl) ?_
          refine t_get (C := RX11) (T := TX11) (N := 16) X hT m0 g0 rfl rfl 5 (by decide) qw_23 inlX11 rfl dX11_isLivedIn_27 (fun v35937 hv35937 ov35937 => ?_)
          obtain ⟨b35938, rfl, mb35938, gb35938⟩ := okV_r ov35937
          have gb35938 : tag b35938 = 19 := tg_of gb35938
          refine t_get (C := RX7) (T := TX7) (N := 7) X hT mb35938 gb35938 rfl rfl 5 (by decide) qw_886 inlX7 rfl dX11_isLivedIn_30 (fun v35939 hv35939 ov35939 => ?_)
          obtain ⟨b35940, rfl, mb35940, gb35940⟩ := okV_r ov35939
          have gb35940 : tag b35940 = 7 := tg_of gb35940
          refine lv_iload_n hx hb dX11_isLivedIn_33 rfl (lv_at hl 3 rfl) ?_
          refine t_ild X hT mb35940 gb35940 rfl (by omega) dX11_isLivedIn_34 (fun z35941 vz35941 rz35941 => ?_)
          have rz35941 : (-2147483648) ≤ z35941.toInt ∧ z35941.toInt ≤ 2147483647 := rz35941
          refine lv_iload_n hx hb dX11_isLivedIn_35 rfl (lv_at hl 2 rfl) ?_
          refine lv_icmp_ne (tgt := 41) hx hb dX11_isLivedIn_36 (by decide) (fun c35942 => ?_) (fun c35942 => ?_)
          · have w35943 := cv_ne (rfl : z35941.toInt = z35941.toInt) (rfl : p2.toInt = p2.toInt) c35942
            exact K41  _ _ _ (by omega) hT  (lv_sub hl [0, 1, 2, 3] rfl)
          · have w35944 := cv_eq (rfl : z35941.toInt = z35941.toInt) (rfl : p2.toInt = p2.toInt) c35942
            refine lv_iconst (v := 1) hx hb dX11_isLivedIn_39 (by decide) ?_
            exact t_zret hQ X hT (by decide) (⟨rfl, (by decide)⟩) (Nat.le_of_ble_eq_true rfl) (Nat.le_of_ble_eq_true rfl) dX11_isLivedIn_40
  refine lv_iconst (v := 0) hx hb dX11_isLivedIn_0 (by decide) ?_
  refine lv_istore_n (lv' := [(3, .int 0), (0, .ref p0), (1, .int p1), (2, .int p2)]) hx hb dX11_isLivedIn_1 rfl hl (by decide) rfl (fun ls hl => ?_)
  have kk35945 : (0 : Int32).toInt = 0 := by decide
  exact K2 7 0 _ _ _ (by omega) (by decide) hT  (lv_sub hl [1, 2, 3, 0] rfl)
set_option maxHeartbeats 4000000 in
set_option maxRecDepth 100000 in
theorem kt111_X11_fill (l : Launch) (G : KG) (tag : Nat → Nat) (L : List Nat) (Fo : Nat → va_E) (ho : okT G ttC tag L Fo) (p0 : Nat) (p1 : Int32) (p2 : Int32) (m0 : p0 ∈ L) (g0 : tag p0 = 26) : TMi l yX11_fill cX11_fill 3 (some .boolean) { frames := 3, cells := 0, slots := 0, locals := 68 } G ttC tag L Fo [.ref p0, .int p1, .int p2] (fun r F1 => (0 ≤ r.toInt ∧ r.toInt ≤ 1) ∧ (∀ b j : Nat, (tag b ≠ 19 ∨ j ≠ 0) → (tag b ≠ 19 ∨ j ≠ 1) → (tag b ≠ 23 ∨ j ≠ 2) → (tag b ≠ 23 ∨ j ≠ 3) → (tag b ≠ 26 ∨ j ≠ 13) → fld F1 b j = fld Fo b j)) := by
  refine t_bodyi (y := yX11_fill) (cd := cX11_fill) (mL := 3) (rt := (some .boolean)) (rm := { frames := 3, cells := 0, slots := 0, locals := 68 }) (av := [.ref p0, .int p1, .int p2]) (by decide) (Nat.le_of_ble_eq_true rfl) ho ?_
  intro p e s m args below meth c ls A Q hQ X hT hl
  have hx := X.1.1
  have hb := X.1.2.1
  have hl : lv_has ls 3 [(0, .ref p0), (1, .int p1), (2, .int p2)] := hl
  have rp1 := rg_all p1
  have rp2 := rg_all p2
  obtain ⟨F, hFo⟩ : ∃ F : Nat → va_E, F = Fo := ⟨_, rfl⟩
  rw [← hFo] at hT
  have hfr : ∀ b j : Nat, (tag b ≠ 19 ∨ j ≠ 0) → (tag b ≠ 19 ∨ j ≠ 1) → (tag b ≠ 23 ∨ j ≠ 2) → (tag b ≠ 23 ∨ j ≠ 3) → (tag b ≠ 26 ∨ j ≠ 13) → fld F b j = fld Fo b j := by
    rw [hFo]
    intros
    rfl
  have K36 : ∀  (F : Nat → va_E) (H : Heap) (locs : List Loc) (ls : Array Slot), (0 ≤ p1.toInt ∧ p1.toInt ≤ 3) → (1 ≤ p2.toInt ∧ p2.toInt ≤ 6) → TH G ttC A s tag L F H locs → (∀ b j : Nat, (tag b ≠ 19 ∨ j ≠ 0) → (tag b ≠ 19 ∨ j ≠ 1) → (tag b ≠ 23 ∨ j ≠ 2) → (tag b ≠ 23 ∨ j ≠ 3) → (tag b ≠ 26 ∨ j ≠ 13) → fld F b j = fld Fo b j) → lv_has ls 3 [(0, .ref p0), (1, .int p1), (2, .int p2)] → W p l e { frames := 3, cells := 0, slots := 0, locals := 68 } s m args below meth c H locs 0 0 Q (F0 m 36 ls []) := by
    intro F H locs ls r9s36221 r9s36222 hT hfr hl
    refine lv_aload_n hx hb dX11_fill_36 rfl (lv_at hl 0 rfl) ?_
    refine lv_iconst (v := 5) hx hb dX11_fill_37 (by decide) ?_
    refine t_cVi (n := 1) (C := RX11) (T := TX11) (N := 16) (As := [.int 5]) (rest := []) X hT (kt90_X11_no l G tag L F hT.2.2.2 p0 5 m0 g0) m0 g0 rfl rfl qw_1454 qw_1455 qw_1456 qw_2 qw_1457 ⟨rfl, by decide +kernel, by decide +kernel, by decide +kernel⟩ ⟨Nat.le_of_ble_eq_true rfl, Nat.le_of_ble_eq_true rfl⟩ hl rfl rfl (Nat.le_of_ble_eq_true rfl) dX11_fill_38 ⟨Nat.le_of_ble_eq_true rfl, Nat.le_of_ble_eq_true rfl⟩ (fun z36223 F H locs hT hz36223 => ?_)
    obtain ⟨hz36223, yz36223⟩ := hz36223
    have hfr : ∀ b j : Nat, (tag b ≠ 19 ∨ j ≠ 0) → (tag b ≠ 19 ∨ j ≠ 1) → (tag b ≠ 23 ∨ j ≠ 2) → (tag b ≠ 23 ∨ j ≠ 3) → (tag b ≠ 26 ∨ j ≠ 13) → fld F b j = fld Fo b j := fun b j n19_0 n19_1 n23_2 n23_3 n26_13 => (yz36223 b j n26_13).trans (hfr b j n19_0 n19_1 n23_2 n23_3 n26_13)
    exact t_zret hQ X hT (nar_z (by omega)) (⟨(by omega), hfr⟩) (Nat.le_of_ble_eq_true rfl) (Nat.le_of_ble_eq_true rfl) dX11_fill_41
  refine lv_aload_n hx hb dX11_fill_0 rfl (lv_at hl 0 rfl) ?_
  refine lv_iload_n hx hb dX11_fill_1 rfl (lv_at hl 1 rfl) ?_
  refine lv_iload_n hx hb dX11_fill_2 rfl (lv_at hl 2 rfl) ?_
  refine t_cVi (n := 2) (C := RX11) (T := TX11) (N := 16) (As := [.int p1, .int p2]) (rest := []) X hT (kt104_X11_isSkin l G tag L F hT.2.2.2 p0 p1 p2 m0 g0) m0 g0 rfl rfl qw_823 qw_824 qw_825 qw_2 qw_826 ⟨rfl, by decide +kernel, by decide +kernel, by decide +kernel⟩ ⟨Nat.le_of_ble_eq_true rfl, Nat.le_of_ble_eq_true rfl⟩ hl rfl rfl (Nat.le_of_ble_eq_true rfl) dX11_fill_3 ⟨Nat.le_of_ble_eq_true rfl, Nat.le_of_ble_eq_true rfl⟩ (fun z36224 F9 H locs hT hz36224 => ?_)
  obtain ⟨fz36224, hz36224⟩ := hz36224
  rw [fz36224] at hT
  obtain ⟨hz36224, iz36224⟩ := hz36224
  refine lv_if_ne (tgt := 15) hx hb dX11_fill_6 (by decide) (fun c36225 => ?_) (fun c36225 => ?_)
  · have w36226 := cv_ne (rfl : z36224.toInt = z36224.toInt) (by decide : (0 : Int32).toInt = 0) c36225
    have w36227 := (fun h => (iz36224 h).1) (by omega)
    have w36228 := (fun h => (iz36224 h).2) (by omega)
    refine lv_aload_n hx hb dX11_fill_15 rfl (lv_at hl 0 rfl) ?_
    refine t_get (C := RX11) (T := TX11) (N := 16) X hT m0 g0 rfl rfl 5 (by decide) qw_23 inlX11 rfl dX11_fill_16 (fun v36229 hv36229 ov36229 => ?_)
    obtain ⟨b36230, rfl, mb36230, gb36230⟩ := okV_r ov36229
    have gb36230 : tag b36230 = 19 := tg_of gb36230
    refine lv_iload_n hx hb dX11_fill_19 rfl (lv_at hl 1 rfl) ?_
    refine lv_iload_n hx hb dX11_fill_20 rfl (lv_at hl 2 rfl) ?_
    refine t_cVi (n := 2) (C := RX7) (T := TX7) (N := 7) (As := [.int p1, .int p2]) (rest := []) X hT (kt33_X7_isOpen l G tag L F hT.2.2.2 b36230 p1 p2 mb36230 gb36230) mb36230 gb36230 rfl rfl qw_1458 qw_984 qw_985 qw_22 qw_986 ⟨rfl, by decide +kernel, by decide +kernel, by decide +kernel⟩ ⟨Nat.le_of_ble_eq_true rfl, Nat.le_of_ble_eq_true rfl⟩ hl rfl rfl (Nat.le_of_ble_eq_true rfl) dX11_fill_21 ⟨Nat.le_of_ble_eq_true rfl, Nat.le_of_ble_eq_true rfl⟩ (fun z36231 F9 H locs hT hz36231 => ?_)
    obtain ⟨fz36231, hz36231⟩ := hz36231
    rw [fz36231] at hT
    refine lv_if_eq (tgt := 36) hx hb dX11_fill_24 (by decide) (fun c36232 => ?_) (fun c36232 => ?_)
    · have w36233 := cv_eq (rfl : z36231.toInt = z36231.toInt) (by decide : (0 : Int32).toInt = 0) c36232
      exact K36  _ _ _ _ (by omega) (by omega) hT hfr  (lv_sub hl [0, 1, 2] rfl)
    · have w36234 := cv_ne (rfl : z36231.toInt = z36231.toInt) (by decide : (0 : Int32).toInt = 0) c36232
      refine lv_aload_n hx hb dX11_fill_27 rfl (lv_at hl 0 rfl) ?_
      refine lv_iload_n hx hb dX11_fill_28 rfl (lv_at hl 1 rfl) ?_
      refine lv_iload_n hx hb dX11_fill_29 rfl (lv_at hl 2 rfl) ?_
      refine t_cVi (n := 2) (C := RX11) (T := TX11) (N := 16) (As := [.int p1, .int p2]) (rest := []) X hT (kt110_X11_isLivedIn l G tag L F hT.2.2.2 p0 p1 p2 m0 g0) m0 g0 rfl rfl qw_1316 qw_1317 qw_1318 qw_2 qw_1319 ⟨rfl, by decide +kernel, by decide +kernel, by decide +kernel⟩ ⟨Nat.le_of_ble_eq_true rfl, Nat.le_of_ble_eq_true rfl⟩ hl rfl rfl (Nat.le_of_ble_eq_true rfl) dX11_fill_30 ⟨Nat.le_of_ble_eq_true rfl, Nat.le_of_ble_eq_true rfl⟩ (fun z36235 F9 H locs hT hz36235 => ?_)
      obtain ⟨fz36235, hz36235⟩ := hz36235
      rw [fz36235] at hT
      refine lv_if_eq (tgt := 42) hx hb dX11_fill_33 (by decide) (fun c36236 => ?_) (fun c36236 => ?_)
      · have w36237 := cv_eq (rfl : z36235.toInt = z36235.toInt) (by decide : (0 : Int32).toInt = 0) c36236
        refine lv_aload_n hx hb dX11_fill_42 rfl (lv_at hl 0 rfl) ?_
        refine t_get (C := RX11) (T := TX11) (N := 16) X hT m0 g0 rfl rfl 12 (by decide) qw_45 inlX11 rfl dX11_fill_43 (fun v36238 hv36238 ov36238 => ?_)
        obtain ⟨b36239, rfl, mb36239, gb36239⟩ := okV_r ov36238
        have gb36239 : tag b36239 = 23 := tg_of gb36239
        refine lv_aload_n hx hb dX11_fill_46 rfl (lv_at hl 0 rfl) ?_
        refine t_get (C := RX11) (T := TX11) (N := 16) X hT m0 g0 rfl rfl 5 (by decide) qw_23 inlX11 rfl dX11_fill_47 (fun v36240 hv36240 ov36240 => ?_)
        obtain rfl : v36240 = .ref b36230 := hv36240.symm.trans hv36229
        refine t_cVv (n := 1) (C := RX2) (T := TX2) (N := 5) (As := [.ref b36230]) (rest := []) X hT (kt100_X2_keep l G tag L F hT.2.2.2 b36239 b36230 mb36239 gb36239 mb36230 gb36230) mb36239 gb36239 rfl rfl qw_1427 qw_1428 qw_1429 qw_44 qw_1430 ⟨rfl, by decide +kernel, by decide +kernel, by decide +kernel⟩ ⟨Nat.le_of_ble_eq_true rfl, Nat.le_of_ble_eq_true rfl⟩ hl rfl rfl (Nat.le_of_ble_eq_true rfl) dX11_fill_50 ⟨Nat.le_of_ble_eq_true rfl, Nat.le_of_ble_eq_true rfl⟩ (fun F H locs hT hz36241 => ?_)
        have yz36241 := hz36241
        have hv36229 := (yz36241 _ 5 (Or.inr (by decide)) (Or.inr (by decide)) (Or.inr (by decide)) (Or.inr (by decide))).trans hv36229
        have hv36238 := (yz36241 _ 12 (Or.inr (by decide)) (Or.inr (by decide)) (Or.inr (by decide)) (Or.inr (by decide))).trans hv36238
        have hfr : ∀ b j : Nat, (tag b ≠ 19 ∨ j ≠ 0) → (tag b ≠ 19 ∨ j ≠ 1) → (tag b ≠ 23 ∨ j ≠ 2) → (tag b ≠ 23 ∨ j ≠ 3) → (tag b ≠ 26 ∨ j ≠ 13) → fld F b j = fld Fo b j := fun b j n19_0 n19_1 n23_2 n23_3 n26_13 => (yz36241 b j n19_0 n19_1 n23_2 n23_3).trans (hfr b j n19_0 n19_1 n23_2 n23_3 n26_13)
        refine lv_aload_n hx hb dX11_fill_53 rfl (lv_at hl 0 rfl) ?_
        refine t_get (C := RX11) (T := TX11) (N := 16) X hT m0 g0 rfl rfl 5 (by decide) qw_23 inlX11 rfl dX11_fill_54 (fun v36242 hv36242 ov36242 => ?_)
        obtain rfl : v36242 = .ref b36230 := hv36242.symm.trans hv36229
        refine lv_iload_n hx hb dX11_fill_57 rfl (lv_at hl 1 rfl) ?_
        refine lv_iload_n hx hb dX11_fill_58 rfl (lv_at hl 2 rfl) ?_
        refine lv_bipush (v := 6) hx hb dX11_fill_59 (by decide) ?_
        refine lv_iconst (v := 1) hx hb dX11_fill_61 (by decide) ?_
        refine t_cVv (n := 4) (C := RX7) (T := TX7) (N := 7) (As := [.int p1, .int p2, .int 6, .int 1]) (rest := []) X hT (kt17_X7_setPart l G tag L F hT.2.2.2 b36230 p1 p2 6 1 mb36230 gb36230) mb36230 gb36230 rfl rfl qw_1459 qw_423 qw_424 qw_22 qw_425 ⟨rfl, by decide +kernel, by decide +kernel, by decide +kernel⟩ ⟨Nat.le_of_ble_eq_true rfl, Nat.le_of_ble_eq_true rfl⟩ hl rfl rfl (Nat.le_of_ble_eq_true rfl) dX11_fill_62 ⟨Nat.le_of_ble_eq_true rfl, Nat.le_of_ble_eq_true rfl⟩ (fun F H locs hT hz36243 => ?_)
        have yz36243 := hz36243
        have hv36229 := (yz36243 _ 5 ).trans hv36229
        have hv36238 := (yz36243 _ 12 ).trans hv36238
        have hfr : ∀ b j : Nat, (tag b ≠ 19 ∨ j ≠ 0) → (tag b ≠ 19 ∨ j ≠ 1) → (tag b ≠ 23 ∨ j ≠ 2) → (tag b ≠ 23 ∨ j ≠ 3) → (tag b ≠ 26 ∨ j ≠ 13) → fld F b j = fld Fo b j := fun b j n19_0 n19_1 n23_2 n23_3 n26_13 => (yz36243 b j ).trans (hfr b j n19_0 n19_1 n23_2 n23_3 n26_13)
        refine lv_aload_n hx hb dX11_fill_65 rfl (lv_at hl 0 rfl) ?_
        refine t_cVi (n := 0) (C := RX11) (T := TX11) (N := 16) (As := []) (rest := []) X hT (kt91_X11_yes l G tag L F hT.2.2.2 p0 m0 g0) m0 g0 rfl rfl qw_1460 qw_1461 qw_1462 qw_2 qw_1463 ⟨rfl, by decide +kernel, by decide +kernel, by decide +kernel⟩ ⟨Nat.le_of_ble_eq_true rfl, Nat.le_of_ble_eq_true rfl⟩ hl rfl rfl (Nat.le_of_ble_eq_true rfl) dX11_fill_66 ⟨Nat.le_of_ble_eq_true rfl, Nat.le_of_ble_eq_true rfl⟩ (fun z36244 F H locs hT hz36244 => ?_)
        obtain ⟨hz36244, yz36244⟩ := hz36244
        have hv36229 := (yz36244 _ 5 (Or.inr (by decide))).trans hv36229
        have hv36238 := (yz36244 _ 12 (Or.inr (by decide))).trans hv36238
        have hfr : ∀ b j : Nat, (tag b ≠ 19 ∨ j ≠ 0) → (tag b ≠ 19 ∨ j ≠ 1) → (tag b ≠ 23 ∨ j ≠ 2) → (tag b ≠ 23 ∨ j ≠ 3) → (tag b ≠ 26 ∨ j ≠ 13) → fld F b j = fld Fo b j := fun b j n19_0 n19_1 n23_2 n23_3 n26_13 => (yz36244 b j n26_13).trans (hfr b j n19_0 n19_1 n23_2 n23_3 n26_13)
        exact t_zret hQ X hT (nar_z (by omega)) (⟨(by omega), hfr⟩) (Nat.le_of_ble_eq_true rfl) (Nat.le_of_ble_eq_true rfl) dX11_fill_69
      · have w36245 := cv_ne (rfl : z36235.toInt = z36235.toInt) (by decide : (0 : Int32).toInt = 0) c36236
        exact K36  _ _ _ _ (by omega) (by omega) hT hfr  (lv_sub hl [0, 1, 2] rfl)
  · have w36246 := cv_eq (rfl : z36224.toInt = z36224.toInt) (by decide : (0 : Int32).toInt = 0) c36225
    refine lv_aload_n hx hb dX11_fill_9 rfl (lv_at hl 0 rfl) ?_
    refine lv_iconst (v := 1) hx hb dX11_fill_10 (by decide) ?_
    refine t_cVi (n := 1) (C := RX11) (T := TX11) (N := 16) (As := [.int 1]) (rest := []) X hT (kt90_X11_no l G tag L F hT.2.2.2 p0 1 m0 g0) m0 g0 rfl rfl qw_1454 qw_1455 qw_1456 qw_2 qw_1457 ⟨rfl, by decide +kernel, by decide +kernel, by decide +kernel⟩ ⟨Nat.le_of_ble_eq_true rfl, Nat.le_of_ble_eq_true rfl⟩ hl rfl rfl (Nat.le_of_ble_eq_true rfl) dX11_fill_11 ⟨Nat.le_of_ble_eq_true rfl, Nat.le_of_ble_eq_true rfl⟩ (fun z36247 F H locs hT hz36247 => ?_)
    obtain ⟨hz36247, yz36247⟩ := hz36247
    have hfr : ∀ b j : Nat, (tag b ≠ 19 ∨ j ≠ 0) → (tag b ≠ 19 ∨ j ≠ 1) → (tag b ≠ 23 ∨ j ≠ 2) → (tag b ≠ 23 ∨ j ≠ 3) → (tag b ≠ 26 ∨ j ≠ 13) → fld F b j = fld Fo b j := fun b j n19_0 n19_1 n23_2 n23_3 n26_13 => (yz36247 b j n26_13).trans (hfr b j n19_0 n19_1 n23_2 n23_3 n26_13)
    exact t_zret hQ X hT (nar_z (by omega)) (⟨(by omega), hfr⟩) (Nat.le_of_ble_eq_true rfl) (Nat.le_of_ble_eq_true rfl) dX11_fill_14
set_option maxHeartbeats 4000000 in
set_option maxRecDepth 100000 in
theorem kt112_X10_mostSkins (l : Launch) (G : KG) (tag : Nat → Nat) (L : List Nat) (Fo : Nat → va_E) (ho : okT G ttC tag L Fo) (p0 : Nat) (p1 : Nat) (p2 : Nat) (p3 : Nat) (p4 : Int32) (m0 : p0 ∈ L) (g0 : tag p0 = 20) (m1 : p1 ∈ L) (g1 : tag p1 = 18) (m2 : p2 ∈ L) (g2 : tag p2 = 19) (m3 : p3 ∈ L) (g3 : tag p3 = 19) (h4 : 0 ≤ p4.toInt ∧ p4.toInt ≤ 30) : TMi l yX10_mostSkins cX10_mostSkins 8 (some .int) { frames := 6, cells := 0, slots := 0, locals := 157 } G ttC tag L Fo [.ref p0, .ref p1, .ref p2, .ref p3, .int p4] (fun r F1 => ((-1) ≤ r.toInt ∧ r.toInt ≤ 2147483647) ∧ (∀ b j : Nat, (tag b ≠ 19 ∨ j ≠ 0) → (tag b ≠ 19 ∨ j ≠ 1) → fld F1 b j = fld Fo b j)) := by
  refine t_bodyi (y := yX10_mostSkins) (cd := cX10_mostSkins) (mL := 8) (rt := (some .int)) (rm := { frames := 6, cells := 0, slots := 0, locals := 157 }) (av := [.ref p0, .ref p1, .ref p2, .ref p3, .int p4]) (by decide) (Nat.le_of_ble_eq_true rfl) ho ?_
  intro p e s m args below meth c ls A Q hQ X hT hl
  have hx := X.1.1
  have hb := X.1.2.1
  have hl : lv_has ls 8 [(0, .ref p0), (1, .ref p1), (2, .ref p2), (3, .ref p3), (4, .int p4)] := hl
  obtain ⟨F, hFo⟩ : ∃ F : Nat → va_E, F = Fo := ⟨_, rfl⟩
  rw [← hFo] at hT
  have hfr : ∀ b j : Nat, (tag b ≠ 19 ∨ j ≠ 0) → (tag b ≠ 19 ∨ j ≠ 1) → fld F b j = fld Fo b j := by
    rw [hFo]
    intros
    rfl
  have K17 : ∀ (n : Nat) (z37647 : Int32) (z37648 : Int32) (z37649 : Int32) (F : Nat → va_E) (H : Heap) (locs : List Loc) (ls : Array Slot), (901 - z37648.toInt < (n : Int)) → ((-1) ≤ z37647.toInt ∧ z37647.toInt ≤ 2147483647) → (0 ≤ z37648.toInt ∧ z37648.toInt ≤ 901) → (0 ≤ z37649.toInt ∧ z37649.toInt ≤ 4) → TH G ttC A s tag L F H locs → (∀ b j : Nat, (tag b ≠ 19 ∨ j ≠ 0) → (tag b ≠ 19 ∨ j ≠ 1) → fld F b j = fld Fo b j) → fld F p1 10 = .int z37649 → lv_has ls 8 [(0, .ref p0), (1, .ref p1), (2, .ref p2), (3, .ref p3), (4, .int p4), (5, .int z37647), (6, .int z37648)] → W p l e { frames := 6, cells := 0, slots := 0, locals := 157 } s m args below meth c H locs 0 0 Q (F0 m 17 ls []) := by
    intro n
    induction n with
    | zero =>
      intro z37647 z37648 z37649 F H locs ls hn rz37647 rz37648 rz37649 hT hfr qz37649 hl
      exfalso
      omega
    | succ n ih17 =>
      intro z37647 z37648 z37649 F H locs ls hn rz37647 rz37648 rz37649 hT hfr qz37649 hl
      have K91 : ∀ (z37650 : Int32) (z37652 : Int32) (z37653 : Int32) (F : Nat → va_E) (H : Heap) (locs : List Loc) (ls : Array Slot), ((-1) ≤ z37650.toInt ∧ z37650.toInt ≤ 2147483647) → (0 ≤ z37653.toInt ∧ z37653.toInt ≤ 4) → (0 ≤ z37648.toInt ∧ z37648.toInt ≤ 900) → TH G ttC A s tag L F H locs → (∀ b j : Nat, (tag b ≠ 19 ∨ j ≠ 0) → (tag b ≠ 19 ∨ j ≠ 1) → fld F b j = fld Fo b j) → fld F p1 10 = .int z37653 → lv_has ls 8 [(0, .ref p0), (1, .ref p1), (2, .ref p2), (3, .ref p3), (4, .int p4), (5, .int z37650), (6, .int z37648), (7, .int z37652)] → W p l e { frames := 6, cells := 0, slots := 0, locals := 157 } s m args below meth c H locs 0 0 Q (F0 m 91 ls []) := by
        intro z37650 z37652 z37653 F H locs ls rz37650 rz37653 r9s37651 hT hfr qz37653 hl
        have rz37652 := rg_all z37652
        refine lv_aload_n hx hb dX10_mostSkins_91 rfl (lv_at hl 0 rfl) ?_
        refine t_get (C := RX10) (T := TX10) (N := 2) X hT m0 g0 rfl rfl 0 (by decide) qw_83 inlX10 rfl dX10_mostSkins_92 (fun v37654 hv37654 ov37654 => ?_)
        obtain ⟨b37655, rfl, mb37655, gb37655⟩ := okV_r ov37654
        have gb37655 : tag b37655 = 10 := tg_of gb37655
        refine lv_aload_n hx hb dX10_mostSkins_95 rfl (lv_at hl 1 rfl) ?_
        refine t_get (C := RX1) (T := TX1) (N := 20) X hT m1 g1 rfl rfl 10 (by decide) qw_1100 inlX1 rfl dX10_mostSkins_96 (fun v37656 hv37656 ov37656 => ?_)
        obtain rfl : v37656 = .int z37653 := hv37656.symm.trans qz37653
        refine t_cSv (n := 2) (As := [.ref b37655, .int z37653]) (rest := []) X hT (kt85_X5_advance l G tag L F hT.2.2.2 b37655 z37653 mb37655 gb37655 (by omega)) qw_1247 qw_1248 qw_1242 qw_1249 ⟨by decide +kernel, by decide +kernel, by decide +kernel⟩ ⟨Nat.le_of_ble_eq_true rfl, Nat.le_of_ble_eq_true rfl⟩ hl rfl rfl (Nat.le_of_ble_eq_true rfl) dX10_mostSkins_99 ⟨Nat.le_of_ble_eq_true rfl, Nat.le_of_ble_eq_true rfl⟩ (fun F H locs hT hz37657 => ?_)
        have yz37657 := hz37657
        have qz37653 := (yz37657 _ 10 ).trans qz37653
        have hv37654 := (yz37657 _ 0 ).trans hv37654
        have hfr : ∀ b j : Nat, (tag b ≠ 19 ∨ j ≠ 0) → (tag b ≠ 19 ∨ j ≠ 1) → fld F b j = fld Fo b j := fun b j n19_0 n19_1 => (yz37657 b j ).trans (hfr b j n19_0 n19_1)
        obtain ⟨z37658, ez37658⟩ : ∃ y : Int32, y = z37648 + 1 := ⟨_, rfl⟩
        have hz37658 : z37658.toInt = z37648.toInt + 1 := ar_add ez37658 rfl (by decide : (1 : Int32).toInt = 1) (by omega) (by omega)
        refine lv_iinc (v := z37658) (lv' := [(6, .int z37658), (0, .ref p0), (1, .ref p1), (2, .ref p2), (3, .ref p3), (4, .int p4), (5, .int z37650), (7, .int z37652)]) hx hb dX10_mostSkins_102 hl (k := 6) rfl (by rw [ez37658]; rfl) (by decide) rfl (fun ls hl => ?_)
        refine lv_goto (tgt := 17) hx hb dX10_mostSkins_105 (by decide) ?_
        exact ih17 z37650 z37658 z37653 _ _ _ _ (by omega) (by omega) (by omega) (by omega) hT hfr qz37653 (lv_sub hl [1, 2, 3, 4, 5, 6, 0] rfl)
      have K38 : ∀ (n : Nat) (z37660 : Int32) (z37661 : Int32) (F : Nat → va_E) (H : Heap) (locs : List Loc) (ls : Array Slot), (30 - z37660.toInt < (n : Int)) → (0 ≤ z37660.toInt ∧ z37660.toInt ≤ 30) → (0 ≤ z37661.toInt ∧ z37661.toInt ≤ 4) → (0 ≤ z37648.toInt ∧ z37648.toInt ≤ 900) → TH G ttC A s tag L F H locs → (∀ b j : Nat, (tag b ≠ 19 ∨ j ≠ 0) → (tag b ≠ 19 ∨ j ≠ 1) → fld F b j = fld Fo b j) → fld F p1 10 = .int z37661 → lv_has ls 8 [(0, .ref p0), (1, .ref p1), (2, .ref p2), (3, .ref p3), (4, .int p4), (5, .int z37647), (6, .int z37648), (7, .int z37660)] → W p l e { frames := 6, cells := 0, slots := 0, locals := 157 } s m args below meth c H locs 0 0 Q (F0 m 38 ls []) := by
        intro n
        induction n with
        | zero =>
          intro z37660 z37661 F H locs ls hn rz37660 rz37661 r9s37659 hT hfr qz37661 hl
          exfalso
          omega
        | succ n ih38 =>
          intro z37660 z37661 F H locs ls hn rz37660 rz37661 r9s37659 hT hfr qz37661 hl
          refine lv_iload hx hb dX10_mostSkins_38 (lv_at hl 7 rfl) ?_
          refine lv_iload hx hb dX10_mostSkins_40 (lv_at hl 4 rfl) ?_
          refine lv_icmp_ge (tgt := 60) hx hb dX10_mostSkins_42 (by decide) (fun c37662 => ?_) (fun c37662 => ?_)
          · have w37663 := cv_le (rfl : p4.toInt = p4.toInt) (rfl : z37660.toInt = z37660.toInt) c37662
            refine lv_aload_n hx hb dX10_mostSkins_60 rfl (lv_at hl 3 rfl) ?_
            refine t_cVi (n := 0) (C := RX7) (T := TX7) (N := 7) (As := []) (rest := []) X hT (kt78_X7_skinsOfAll l G tag L F hT.2.2.2 p3 m3 g3) m3 g3 rfl rfl qw_1246 qw_1183 qw_1184 qw_22 qw_1185 ⟨rfl, by decide +kernel, by decide +kernel, by decide +kernel⟩ ⟨Nat.le_of_ble_eq_true rfl, Nat.le_of_ble_eq_true rfl⟩ hl rfl rfl (Nat.le_of_ble_eq_true rfl) dX10_mostSkins_61 ⟨Nat.le_of_ble_eq_true rfl, Nat.le_of_ble_eq_true rfl⟩ (fun z37664 F9 H locs hT hz37664 => ?_)
            obtain ⟨fz37664, hz37664⟩ := hz37664
            rw [fz37664] at hT
            refine lv_istore (lv' := [(7, .int z37664), (0, .ref p0), (1, .ref p1), (2, .ref p2), (3, .ref p3), (4, .int p4), (5, .int z37647), (6, .int z37648)]) hx hb dX10_mostSkins_64 hl (by decide) rfl (fun ls hl => ?_)
            refine lv_iload hx hb dX10_mostSkins_66 (lv_at hl 0 rfl) ?_
            refine lv_iload hx hb dX10_mostSkins_68 (lv_at hl 6 rfl) ?_
            refine lv_icmp_le (tgt := 91) hx hb dX10_mostSkins_70 (by decide) (fun c37665 => ?_) (fun c37665 => ?_)
            · have w37666 := cv_le (rfl : z37664.toInt = z37664.toInt) (rfl : z37647.toInt = z37647.toInt) c37665
              exact K91 z37647 z37664 z37661 _ _ _ _ (by omega) (by omega) (by omega) hT hfr qz37661 (lv_sub hl [1, 2, 3, 4, 5, 6, 7, 0] rfl)
            · have w37667 := cv_nle (rfl : z37664.toInt = z37664.toInt) (rfl : z37647.toInt = z37647.toInt) c37665
              refine lv_iload hx hb dX10_mostSkins_73 (lv_at hl 0 rfl) ?_
              refine lv_istore (lv' := [(5, .int z37664), (7, .int z37664), (0, .ref p0), (1, .ref p1), (2, .ref p2), (3, .ref p3), (4, .int p4), (6, .int z37648)]) hx hb dX10_mostSkins_75 hl (by decide) rfl (fun ls hl => ?_)
              refine lv_aload_n hx hb dX10_mostSkins_77 rfl (lv_at hl 2 rfl) ?_
              refine t_get (C := RX10) (T := TX10) (N := 2) X hT m0 g0 rfl rfl 0 (by decide) qw_83 inlX10 rfl dX10_mostSkins_78 (fun v37668 hv37668 ov37668 => ?_)
              obtain ⟨b37669, rfl, mb37669, gb37669⟩ := okV_r ov37668
              have gb37669 : tag b37669 = 10 := tg_of gb37669
              refine lv_iconst (v := 0) hx hb dX10_mostSkins_81 (by decide) ?_
              refine lv_aload_n hx hb dX10_mostSkins_82 rfl (lv_at hl 2 rfl) ?_
              refine t_get (C := RX10) (T := TX10) (N := 2) X hT m0 g0 rfl rfl 1 (by decide) qw_84 inlX10 rfl dX10_mostSkins_83 (fun v37670 hv37670 ov37670 => ?_)
              obtain ⟨b37671, rfl, mb37671, gb37671⟩ := okV_r ov37670
              have gb37671 : tag b37671 = 5 := tg_of gb37671
              refine lv_iconst (v := 0) hx hb dX10_mostSkins_86 (by decide) ?_
              refine lv_iconst (v := 4) hx hb dX10_mostSkins_87 (by decide) ?_
              refine t_copy X hT hl mb37669 gb37669 mb37671 gb37671 rfl rfl (by decide) (by decide) (by decide) (by decide) (by decide) (fun _ _ => ⟨by decide, by decide⟩) qw_1239 qw_454 qw_455 qw_456 (Nat.le_of_ble_eq_true rfl) (Nat.le_of_ble_eq_true rfl) dX10_mostSkins_88 (fun F H locs hT h2v37672 => ?_)
              have qz37661 := (h2v37672 _ _).trans qz37661
              have hv37668 := (h2v37672 _ _).trans hv37668
              have hv37670 := (h2v37672 _ _).trans hv37670
              have hfr : ∀ b j : Nat, (tag b ≠ 19 ∨ j ≠ 0) → (tag b ≠ 19 ∨ j ≠ 1) → fld F b j = fld Fo b j := fun b j n19_0 n19_1 => (h2v37672 b j).trans (hfr b j n19_0 n19_1)
              exact K91 z37664 z37664 z37661 _ _ _ _ (by omega) (by omega) (by omega) hT hfr qz37661 (lv_sub hl [2, 3, 4, 5, 6, 0, 7, 1] rfl)
          · have w37673 := cv_nle (rfl : p4.toInt = p4.toInt) (rfl : z37660.toInt = z37660.toInt) c37662
            refine lv_aload_n hx hb dX10_mostSkins_45 rfl (lv_at hl 1 rfl) ?_
            refine lv_aload_n hx hb dX10_mostSkins_46 rfl (lv_at hl 3 rfl) ?_
            refine lv_aload_n hx hb dX10_mostSkins_47 rfl (lv_at hl 0 rfl) ?_
            refine t_get (C := RX10) (T := TX10) (N := 2) X hT m0 g0 rfl rfl 0 (by decide) qw_83 inlX10 rfl dX10_mostSkins_48 (fun v37674 hv37674 ov37674 => ?_)
            obtain ⟨b37675, rfl, mb37675, gb37675⟩ := okV_r ov37674
            have gb37675 : tag b37675 = 10 := tg_of gb37675
            refine t_cSv (n := 3) (As := [.ref p1, .ref p3, .ref b37675]) (rest := []) X hT (kt81_X10_pass l G tag L F hT.2.2.2 p1 p3 b37675 m1 g1 m3 g3 mb37675 gb37675) qw_1245 qw_1098 qw_32 qw_1099 ⟨by decide +kernel, by decide +kernel, by decide +kernel⟩ ⟨Nat.le_of_ble_eq_true rfl, Nat.le_of_ble_eq_true rfl⟩ hl rfl rfl (Nat.le_of_ble_eq_true rfl) dX10_mostSkins_51 ⟨Nat.le_of_ble_eq_true rfl, Nat.le_of_ble_eq_true rfl⟩ (fun F H locs hT hz37676 => ?_)
            have yz37676 := hz37676
            have qz37661 := (yz37676 _ 10 (Or.inr (by decide)) (Or.inr (by decide))).trans qz37661
            have hv37674 := (yz37676 _ 0 (Or.inl (by rw [g0]; decide)) (Or.inr (by decide))).trans hv37674
            have hfr : ∀ b j : Nat, (tag b ≠ 19 ∨ j ≠ 0) → (tag b ≠ 19 ∨ j ≠ 1) → fld F b j = fld Fo b j := fun b j n19_0 n19_1 => (yz37676 b j n19_0 n19_1).trans (hfr b j n19_0 n19_1)
            obtain ⟨z37677, ez37677⟩ : ∃ y : Int32, y = z37660 + 1 := ⟨_, rfl⟩
            have hz37677 : z37677.toInt = z37660.toInt + 1 := ar_add ez37677 rfl (by decide : (1 : Int32).toInt = 1) (by omega) (by omega)
            refine lv_iinc (v := z37677) (lv' := [(7, .int z37677), (0, .ref p0), (1, .ref p1), (2, .ref p2), (3, .ref p3), (4, .int p4), (5, .int z37647), (6, .int z37648)]) hx hb dX10_mostSkins_54 hl (k := 7) rfl (by rw [ez37677]; rfl) (by decide) rfl (fun ls hl => ?_)
            refine lv_goto (tgt := 38) hx hb dX10_mostSkins_57 (by decide) ?_
            exact ih38 z37677 z37661 _ _ _ _ (by omega) (by omega) (by omega) (by omega) hT hfr qz37661 (lv_sub hl [1, 2, 3, 4, 5, 6, 7, 0] rfl)
      refine lv_iload hx hb dX10_mostSkins_17 (lv_at hl 6 rfl) ?_
      refine t_getsN X hT X.2.2.2.1.2.2.2.1 (List.mem_of_getElem? (i := 2) rfl) dX10_mostSkins_19 ?_
      refine lv_aload_n hx hb dX10_mostSkins_22 rfl (lv_at hl 1 rfl) ?_
      refine t_get (C := RX1) (T := TX1) (N := 20) X hT m1 g1 rfl rfl 10 (by decide) qw_1100 inlX1 rfl dX10_mostSkins_23 (fun v37678 hv37678 ov37678 => ?_)
      obtain rfl : v37678 = .int z37649 := hv37678.symm.trans qz37649
      refine t_tild X hT X.2.2.2.1.2.2.2.1 (by omega) dX10_mostSkins_26 (fun z37679 ez37679 => ?_)
      have rz37679 : 1 ≤ z37679.toInt ∧ z37679.toInt ≤ 720 := by rw [ez37679]; exact gRows_r _
      refine lv_icmp_ge (tgt := 108) hx hb dX10_mostSkins_27 (by decide) (fun c37680 => ?_) (fun c37680 => ?_)
      · have w37681 := cv_le (rfl : z37679.toInt = z37679.toInt) (rfl : z37648.toInt = z37648.toInt) c37680
        refine lv_iload hx hb dX10_mostSkins_108 (lv_at hl 5 rfl) ?_
        exact t_iret hQ X hT (⟨(by omega), hfr⟩) (Nat.le_of_ble_eq_true rfl) (Nat.le_of_ble_eq_true rfl) dX10_mostSkins_110
      · have w37682 := cv_nle (rfl : z37679.toInt = z37679.toInt) (rfl : z37648.toInt = z37648.toInt) c37680
        refine lv_aload_n hx hb dX10_mostSkins_30 rfl (lv_at hl 3 rfl) ?_
        refine lv_aload_n hx hb dX10_mostSkins_31 rfl (lv_at hl 2 rfl) ?_
        refine t_cVv (n := 1) (C := RX7) (T := TX7) (N := 7) (As := [.ref p2]) (rest := []) X hT (kt77_X7_copyFrom l G tag L F hT.2.2.2 p3 p2 m3 g3 m2 g2) m3 g3 rfl rfl qw_1244 qw_450 qw_451 qw_22 qw_452 ⟨rfl, by decide +kernel, by decide +kernel, by decide +kernel⟩ ⟨Nat.le_of_ble_eq_true rfl, Nat.le_of_ble_eq_true rfl⟩ hl rfl rfl (Nat.le_of_ble_eq_true rfl) dX10_mostSkins_32 ⟨Nat.le_of_ble_eq_true rfl, Nat.le_of_ble_eq_true rfl⟩ (fun F H locs hT hz37683 => ?_)
        have yz37683 := hz37683
        have qz37649 := (yz37683 _ 10 (Or.inr (by decide)) (Or.inr (by decide))).trans qz37649
        have hfr : ∀ b j : Nat, (tag b ≠ 19 ∨ j ≠ 0) → (tag b ≠ 19 ∨ j ≠ 1) → fld F b j = fld Fo b j := fun b j n19_0 n19_1 => (yz37683 b j n19_0 n19_1).trans (hfr b j n19_0 n19_1)
        refine lv_iconst (v := 0) hx hb dX10_mostSkins_35 (by decide) ?_
        refine lv_istore (lv' := [(7, .int 0), (0, .ref p0), (1, .ref p1), (2, .ref p2), (3, .ref p3), (4, .int p4), (5, .int z37647), (6, .int z37648)]) hx hb dX10_mostSkins_36 hl (by decide) rfl (fun ls hl => ?_)
        have kk37684 : (0 : Int32).toInt = 0 := by decide
        exact K38 31 0 z37649 _ _ _ _ (by omega) (by decide) (by omega) (by omega) hT hfr qz37649 (lv_sub hl [1, 2, 3, 4, 5, 6, 7, 0] rfl)
  refine lv_iconst (v := (-1)) hx hb dX10_mostSkins_0 (by decide) ?_
  refine lv_istore (lv' := [(5, .int (-1)), (0, .ref p0), (1, .ref p1), (2, .ref p2), (3, .ref p3), (4, .int p4)]) hx hb dX10_mostSkins_1 hl (by decide) rfl (fun ls hl => ?_)
  refine lv_aload_n hx hb dX10_mostSkins_3 rfl (lv_at hl 1 rfl) ?_
  refine t_get (C := RX10) (T := TX10) (N := 2) X hT m0 g0 rfl rfl 0 (by decide) qw_83 inlX10 rfl dX10_mostSkins_4 (fun v37685 hv37685 ov37685 => ?_)
  obtain ⟨b37686, rfl, mb37686, gb37686⟩ := okV_r ov37685
  have gb37686 : tag b37686 = 10 := tg_of gb37686
  refine lv_aload_n hx hb dX10_mostSkins_7 rfl (lv_at hl 2 rfl) ?_
  refine t_get (C := RX1) (T := TX1) (N := 20) X hT m1 g1 rfl rfl 10 (by decide) qw_1100 inlX1 rfl dX10_mostSkins_8 (fun v37687 hv37687 ov37687 => ?_)
  obtain ⟨z37688, rfl, rz37688⟩ := okV_i ov37687
  refine t_cSv (n := 2) (As := [.ref b37686, .int z37688]) (rest := []) X hT (kt76_X5_begin l G tag L F hT.2.2.2 b37686 z37688 mb37686 gb37686 (by omega)) qw_1240 qw_1241 qw_1242 qw_1243 ⟨by decide +kernel, by decide +kernel, by decide +kernel⟩ ⟨Nat.le_of_ble_eq_true rfl, Nat.le_of_ble_eq_true rfl⟩ hl rfl rfl (Nat.le_of_ble_eq_true rfl) dX10_mostSkins_11 ⟨Nat.le_of_ble_eq_true rfl, Nat.le_of_ble_eq_true rfl⟩ (fun F H locs hT hz37689 => ?_)
  have yz37689 := hz37689
  have hv37685 := (yz37689 _ 0 ).trans hv37685
  have hv37687 := (yz37689 _ 10 ).trans hv37687
  have hfr : ∀ b j : Nat, (tag b ≠ 19 ∨ j ≠ 0) → (tag b ≠ 19 ∨ j ≠ 1) → fld F b j = fld Fo b j := fun b j n19_0 n19_1 => (yz37689 b j ).trans (hfr b j n19_0 n19_1)
  refine lv_iconst (v := 0) hx hb dX10_mostSkins_14 (by decide) ?_
  refine lv_istore (lv' := [(6, .int 0), (5, .int (-1)), (0, .ref p0), (1, .ref p1), (2, .ref p2), (3, .ref p3), (4, .int p4)]) hx hb dX10_mostSkins_15 hl (by decide) rfl (fun ls hl => ?_)
  have kk37690 : ((-1) : Int32).toInt = (-1) := by decide
  have kk37691 : (0 : Int32).toInt = 0 := by decide
  exact K17 902 (-1) 0 z37688 _ _ _ _ (by omega) (by decide) (by decide) (by omega) hT hfr hv37687 (lv_sub hl [2, 3, 4, 5, 6, 1, 0] rfl)
