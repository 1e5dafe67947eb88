set_option maxHeartbeats 4000000 in
set_option maxRecDepth 100000 in
theorem kt389_X5_swap (l : Launch) (G : KG) (tag : Nat → Nat) (L : List Nat) (Fo : Nat → va_E) (ho : okT G ttC tag L Fo) (p0 : Nat) (p1 : Int32) (p2 : Int32) (m0 : p0 ∈ L) (g0 : tag p0 = 11) (h1 : 0 ≤ p1.toInt ∧ p1.toInt ≤ 5) (h2 : 0 ≤ p2.toInt ∧ p2.toInt ≤ 5) : TMv l yX5_swap cX5_swap 4 { frames := 0, cells := 0, slots := 0, locals := 0 } G ttC tag L Fo [.ref p0, .int p1, .int p2] (fun F1 => ((∀ b j : Nat, fld F1 b j = fld Fo b j) ∧ EF tag F1 Fo)) := by
  refine t_bodyv (y := yX5_swap) (cd := cX5_swap) (mL := 4) (rm := { frames := 0, cells := 0, slots := 0, locals := 0 }) (av := [.ref p0, .int p1, .int p2]) (by decide) (Nat.le_of_ble_eq_true rfl) ho ?_
  intro p e s m args below meth c ls A Q hQ X hT hl
  have hx := X.1.1
  have hb := X.1.2.1
  have hl : lv_has ls 4 [(0, .ref p0), (1, .int p1), (2, .int p2)] := hl
  obtain ⟨F, hFo⟩ : ∃ F : Nat → va_E, F = Fo := ⟨_, rfl⟩
  rw [← hFo] at hT
  have hfr : (∀ b j : Nat, fld F b j = fld Fo b j) ∧ EF tag F Fo := by
    rw [hFo]
    exact ⟨by intros; rfl, fun _ _ _ => rfl⟩
  refine lv_aload_n hx hb dX5_swap_0 rfl (lv_at hl 0 rfl) ?_
  refine lv_iload_n hx hb dX5_swap_1 rfl (lv_at hl 1 rfl) ?_
  refine t_ild X hT m0 g0 rfl (by omega) dX5_swap_2 (fun z120406 vz120406 rz120406 => ?_)
  have rz120406 : 0 ≤ z120406.toInt ∧ z120406.toInt ≤ 5 := rz120406
  refine lv_istore_n (lv' := [(3, .int z120406), (0, .ref p0), (1, .int p1), (2, .int p2)]) hx hb dX5_swap_3 rfl hl (by decide) rfl (fun ls hl => ?_)
  refine lv_aload_n hx hb dX5_swap_4 rfl (lv_at hl 1 rfl) ?_
  refine lv_iload_n hx hb dX5_swap_5 rfl (lv_at hl 2 rfl) ?_
  refine lv_aload_n hx hb dX5_swap_6 rfl (lv_at hl 1 rfl) ?_
  refine lv_iload_n hx hb dX5_swap_7 rfl (lv_at hl 3 rfl) ?_
  refine t_ild X hT m0 g0 rfl (by omega) dX5_swap_8 (fun z120407 vz120407 rz120407 => ?_)
  have rz120407 : 0 ≤ z120407.toInt ∧ z120407.toInt ≤ 5 := rz120407
  refine t_ist X hT m0 g0 rfl (by omega) (show 0 ≤ (z120407 : Int32).toInt ∧ (z120407 : Int32).toInt ≤ 5 from (by omega)) dX5_swap_9 (fun F H locs hT v120408 h1v120408 h2v120408 => ?_)
  have hfr : (∀ b j : Nat, fld F b j = fld Fo b j) ∧ EF tag F Fo := ⟨fun b j  => (h2v120408 b j).trans (hfr.1 b j ), fun b j hb => (h1v120408 b j (Or.inl (ns_ne hb g0 (by decide)))).trans (hfr.2 b j hb)⟩
  refine lv_aload_n hx hb dX5_swap_10 rfl (lv_at hl 1 rfl) ?_
  refine lv_iload_n hx hb dX5_swap_11 rfl (lv_at hl 3 rfl) ?_
  refine lv_iload_n hx hb dX5_swap_12 rfl (lv_at hl 0 rfl) ?_
  refine t_ist X hT m0 g0 rfl (by omega) (show 0 ≤ (z120406 : Int32).toInt ∧ (z120406 : Int32).toInt ≤ 5 from (by omega)) dX5_swap_13 (fun F H locs hT v120409 h1v120409 h2v120409 => ?_)
  have hfr : (∀ b j : Nat, fld F b j = fld Fo b j) ∧ EF tag F Fo := ⟨fun b j  => (h2v120409 b j).trans (hfr.1 b j ), fun b j hb => (h1v120409 b j (Or.inl (ns_ne hb g0 (by decide)))).trans (hfr.2 b j hb)⟩
  exact t_vret hQ X hT hfr (Nat.le_of_ble_eq_true rfl) (Nat.le_of_ble_eq_true rfl) dX5_swap_14
set_option maxHeartbeats 4000000 in
set_option maxRecDepth 100000 in
theorem kt390_X5_advance (l : Launch) (G : KG) (tag : Nat → Nat) (L : List Nat) (Fo : Nat → va_E) (ho : okT G ttC tag L Fo) (p0 : Nat) (p1 : Int32) (m0 : p0 ∈ L) (g0 : tag p0 = 11) (h1 : 2 ≤ p1.toInt ∧ p1.toInt ≤ 6) : TMv l yX5_advance cX5_advance 6 { frames := 1, cells := 0, slots := 0, locals := 23 } G ttC tag L Fo [.ref p0, .int p1] (fun F1 => ((∀ b j : Nat, fld F1 b j = fld Fo b j) ∧ EF tag F1 Fo)) := by
  refine t_bodyv (y := yX5_advance) (cd := cX5_advance) (mL := 6) (rm := { frames := 1, cells := 0, slots := 0, locals := 23 }) (av := [.ref p0, .int p1]) (by decide) (Nat.le_of_ble_eq_true rfl) ho ?_
  intro p e s m args below meth c ls A Q hQ X hT hl
  have hx := X.1.1
  have hb := X.1.2.1
  have hl : lv_has ls 6 [(0, .ref p0), (1, .int p1)] := hl
  obtain ⟨F, hFo⟩ : ∃ F : Nat → va_E, F = Fo := ⟨_, rfl⟩
  rw [← hFo] at hT
  have hfr : (∀ b j : Nat, fld F b j = fld Fo b j) ∧ EF tag F Fo := by
    rw [hFo]
    exact ⟨by intros; rfl, fun _ _ _ => rfl⟩
  have K77 : ∀ (n : Nat) (z120870 : Int32) (z120871 : Int32) (z120872 : Int32) (z120873 : Int32) (F : Nat → va_E) (H : Heap) (locs : List Loc) (ls : Array Slot), (5 - z120872.toInt < (n : Int)) → (0 ≤ z120870.toInt ∧ z120870.toInt ≤ 4) → (0 ≤ z120871.toInt ∧ z120871.toInt ≤ 5) → (1 ≤ z120872.toInt ∧ z120872.toInt ≤ 5) → (1 ≤ z120873.toInt ∧ z120873.toInt ≤ 5) → TH G ttC A s tag L F H locs → ((∀ b j : Nat, fld F b j = fld Fo b j) ∧ EF tag F Fo) → lv_has ls 6 [(0, .ref p0), (1, .int p1), (2, .int z120870), (3, .int z120871), (4, .int z120872), (5, .int z120873)] → W p l e { frames := 1, cells := 0, slots := 0, locals := 23 } s m args below meth c H locs 0 0 Q (F0 m 77 ls []) := by
    intro n
    induction n with
    | zero =>
      intro z120870 z120871 z120872 z120873 F H locs ls hn rz120870 rz120871 rz120872 rz120873 hT hfr hl
      exfalso
      omega
    | succ n ih77 =>
      intro z120870 z120871 z120872 z120873 F H locs ls hn rz120870 rz120871 rz120872 rz120873 hT hfr hl
      refine lv_iload hx hb dX5_advance_77 (lv_at hl 4 rfl) ?_
      refine lv_iload hx hb dX5_advance_79 (lv_at hl 5 rfl) ?_
      refine lv_icmp_ge (tgt := 101) hx hb dX5_advance_81 (by decide) (fun c120874 => ?_) (fun c120874 => ?_)
      · have w120875 := cv_le (rfl : z120873.toInt = z120873.toInt) (rfl : z120872.toInt = z120872.toInt) c120874
        exact t_vret hQ X hT hfr (Nat.le_of_ble_eq_true rfl) (Nat.le_of_ble_eq_true rfl) dX5_advance_101
      · have w120876 := cv_nle (rfl : z120873.toInt = z120873.toInt) (rfl : z120872.toInt = z120872.toInt) c120874
        refine lv_aload_n hx hb dX5_advance_84 rfl (lv_at hl 0 rfl) ?_
        refine lv_iload hx hb dX5_advance_85 (lv_at hl 4 rfl) ?_
        refine lv_iload hx hb dX5_advance_87 (lv_at hl 5 rfl) ?_
        refine t_cSv (n := 3) (As := [.ref p0, .int z120872, .int z120873]) (rest := []) X hT (kt389_X5_swap l G tag L F hT.2.2.2 p0 z120872 z120873 m0 g0 (by omega) (by omega)) qw_1250 qw_1251 qw_1242 qw_1252 ⟨by decide +kernel, by decide +kernel, by decide +kernel⟩ ⟨Nat.le_of_ble_eq_true rfl, Nat.le_of_ble_eq_true rfl⟩ hl rfl rfl (Nat.le_of_ble_eq_true rfl) dX5_advance_89 ⟨Nat.le_of_ble_eq_true rfl, Nat.le_of_ble_eq_true rfl⟩ (fun F H locs hT hz120877 => ?_)
        have yz120877 := hz120877
        have hfr : (∀ b j : Nat, fld F b j = fld Fo b j) ∧ EF tag F Fo := ⟨fun b j  => (yz120877.1 b j ).trans (hfr.1 b j ), fun b j hb => (yz120877.2 b j hb).trans (hfr.2 b j hb)⟩
        obtain ⟨z120878, ez120878⟩ : ∃ y : Int32, y = z120872 + 1 := ⟨_, rfl⟩
        have hz120878 : z120878.toInt = z120872.toInt + 1 := ar_add ez120878 rfl (by decide : (1 : Int32).toInt = 1) (by omega) (by omega)
        refine lv_iinc (v := z120878) (lv' := [(4, .int z120878), (0, .ref p0), (1, .int p1), (2, .int z120870), (3, .int z120871), (5, .int z120873)]) hx hb dX5_advance_92 hl (k := 4) rfl (by rw [ez120878]; rfl) (by decide) rfl (fun ls hl => ?_)
        obtain ⟨z120879, ez120879⟩ : ∃ y : Int32, y = z120873 + (-1) := ⟨_, rfl⟩
        have hz120879 : z120879.toInt = z120873.toInt + (-1) := ar_add ez120879 rfl (by decide : ((-1) : Int32).toInt = (-1)) (by omega) (by omega)
        refine lv_iinc (v := z120879) (lv' := [(5, .int z120879), (4, .int z120878), (0, .ref p0), (1, .int p1), (2, .int z120870), (3, .int z120871)]) hx hb dX5_advance_95 hl (k := 5) rfl (by rw [ez120879]; rfl) (by decide) rfl (fun ls hl => ?_)
        refine lv_goto (tgt := 77) hx hb dX5_advance_98 (by decide) ?_
        exact ih77 z120870 z120871 z120878 z120879 _ _ _ _ (by omega) (by omega) (by omega) (by omega) (by omega) hT hfr  (lv_sub hl [2, 3, 4, 5, 1, 0] rfl)
  have K61 : ∀ (z120880 : Int32) (z120881 : Int32) (F : Nat → va_E) (H : Heap) (locs : List Loc) (ls : Array Slot), (0 ≤ z120880.toInt ∧ z120880.toInt ≤ 4) → (0 ≤ z120881.toInt ∧ z120881.toInt ≤ 5) → TH G ttC A s tag L F H locs → ((∀ b j : Nat, fld F b j = fld Fo b j) ∧ EF tag F Fo) → lv_has ls 6 [(0, .ref p0), (1, .int p1), (2, .int z120880), (3, .int z120881)] → W p l e { frames := 1, cells := 0, slots := 0, locals := 23 } s m args below meth c H locs 0 0 Q (F0 m 61 ls []) := by
    intro z120880 z120881 F H locs ls rz120880 rz120881 hT hfr hl
    refine lv_aload_n hx hb dX5_advance_61 rfl (lv_at hl 0 rfl) ?_
    refine lv_iload_n hx hb dX5_advance_62 rfl (lv_at hl 2 rfl) ?_
    refine lv_iload_n hx hb dX5_advance_63 rfl (lv_at hl 3 rfl) ?_
    refine t_cSv (n := 3) (As := [.ref p0, .int z120880, .int z120881]) (rest := []) X hT (kt389_X5_swap l G tag L F hT.2.2.2 p0 z120880 z120881 m0 g0 (by omega) (by omega)) qw_1250 qw_1251 qw_1242 qw_1252 ⟨by decide +kernel, by decide +kernel, by decide +kernel⟩ ⟨Nat.le_of_ble_eq_true rfl, Nat.le_of_ble_eq_true rfl⟩ hl rfl rfl (Nat.le_of_ble_eq_true rfl) dX5_advance_64 ⟨Nat.le_of_ble_eq_true rfl, Nat.le_of_ble_eq_true rfl⟩ (fun F H locs hT hz120882 => ?_)
    have yz120882 := hz120882
    have hfr : (∀ b j : Nat, fld F b j = fld Fo b j) ∧ EF tag F Fo := ⟨fun b j  => (yz120882.1 b j ).trans (hfr.1 b j ), fun b j hb => (yz120882.2 b j hb).trans (hfr.2 b j hb)⟩
    refine lv_iload_n hx hb dX5_advance_67 rfl (lv_at hl 2 rfl) ?_
    refine lv_iconst (v := 1) hx hb dX5_advance_68 (by decide) ?_
    refine lv_iadd hx hb dX5_advance_69 ?_
    refine lv_topi (fun z120883 ez120883 => ?_)
    have hz120883 : z120883.toInt = z120880.toInt + 1 := ar_add ez120883 (rfl : z120880.toInt = z120880.toInt) (by decide : (1 : Int32).toInt = 1) (by omega) (by omega)
    have rz120883 : 1 ≤ z120883.toInt ∧ z120883.toInt ≤ 5 := by omega
    refine lv_istore (lv' := [(4, .int z120883), (0, .ref p0), (1, .int p1), (2, .int z120880), (3, .int z120881)]) hx hb dX5_advance_70 hl (by decide) rfl (fun ls hl => ?_)
    refine lv_iload_n hx hb dX5_advance_72 rfl (lv_at hl 2 rfl) ?_
    refine lv_iconst (v := 1) hx hb dX5_advance_73 (by decide) ?_
    refine lv_isub hx hb dX5_advance_74 ?_
    refine lv_topi (fun z120884 ez120884 => ?_)
    have hz120884 : z120884.toInt = p1.toInt - 1 := ar_sub ez120884 (rfl : p1.toInt = p1.toInt) (by decide : (1 : Int32).toInt = 1) (by omega) (by omega)
    have rz120884 : 1 ≤ z120884.toInt ∧ z120884.toInt ≤ 5 := by omega
    refine lv_istore (lv' := [(5, .int z120884), (4, .int z120883), (0, .ref p0), (1, .int p1), (2, .int z120880), (3, .int z120881)]) hx hb dX5_advance_75 hl (by decide) rfl (fun ls hl => ?_)
    exact K77 5 z120880 z120881 z120883 z120884 _ _ _ _ (by omega) (by omega) (by omega) (by omega) (by omega) hT hfr  (lv_sub hl [2, 3, 4, 5, 1, 0] rfl)
  have K41 : ∀ (n : Nat) (z120885 : Int32) (z120886 : Int32) (F : Nat → va_E) (H : Heap) (locs : List Loc) (ls : Array Slot), (z120886.toInt - 0 < (n : Int)) → (0 ≤ z120885.toInt ∧ z120885.toInt ≤ 4) → (0 ≤ z120886.toInt ∧ z120886.toInt ≤ 5) → TH G ttC A s tag L F H locs → ((∀ b j : Nat, fld F b j = fld Fo b j) ∧ EF tag F Fo) → lv_has ls 6 [(0, .ref p0), (1, .int p1), (2, .int z120885), (3, .int z120886)] → W p l e { frames := 1, cells := 0, slots := 0, locals := 23 } s m args below meth c H locs 0 0 Q (F0 m 41 ls []) := by
    intro n
    induction n with
    | zero =>
      intro z120885 z120886 F H locs ls hn rz120885 rz120886 hT hfr hl
      exfalso
      omega
    | succ n ih41 =>
      intro z120885 z120886 F H locs ls hn rz120885 rz120886 hT hfr hl
      refine lv_iload_n hx hb dX5_advance_41 rfl (lv_at hl 3 rfl) ?_
      refine lv_iload_n hx hb dX5_advance_42 rfl (lv_at hl 2 rfl) ?_
      refine lv_icmp_le (tgt := 61) hx hb dX5_advance_43 (by decide) (fun c120887 => ?_) (fun c120887 => ?_)
      · have w120888 := cv_le (rfl : z120886.toInt = z120886.toInt) (rfl : z120885.toInt = z120885.toInt) c120887
        exact K61 z120885 z120886 _ _ _ _ (by omega) (by omega) hT hfr  (lv_sub hl [0, 1, 2, 3] rfl)
      · have w120889 := cv_nle (rfl : z120886.toInt = z120886.toInt) (rfl : z120885.toInt = z120885.toInt) c120887
        refine lv_aload_n hx hb dX5_advance_46 rfl (lv_at hl 0 rfl) ?_
        refine lv_iload_n hx hb dX5_advance_47 rfl (lv_at hl 3 rfl) ?_
        refine t_ild X hT m0 g0 rfl (by omega) dX5_advance_48 (fun z120890 vz120890 rz120890 => ?_)
        have rz120890 : 0 ≤ z120890.toInt ∧ z120890.toInt ≤ 5 := rz120890
        refine lv_aload_n hx hb dX5_advance_49 rfl (lv_at hl 0 rfl) ?_
        refine lv_iload_n hx hb dX5_advance_50 rfl (lv_at hl 2 rfl) ?_
        refine t_ild X hT m0 g0 rfl (by omega) dX5_advance_51 (fun z120891 vz120891 rz120891 => ?_)
        have rz120891 : 0 ≤ z120891.toInt ∧ z120891.toInt ≤ 5 := rz120891
        refine lv_icmp_ge (tgt := 61) hx hb dX5_advance_52 (by decide) (fun c120892 => ?_) (fun c120892 => ?_)
        · have w120893 := cv_le (rfl : z120891.toInt = z120891.toInt) (rfl : z120890.toInt = z120890.toInt) c120892
          exact K61 z120885 z120886 _ _ _ _ (by omega) (by omega) hT hfr  (lv_sub hl [0, 1, 2, 3] rfl)
        · have w120894 := cv_nle (rfl : z120891.toInt = z120891.toInt) (rfl : z120890.toInt = z120890.toInt) c120892
          obtain ⟨z120895, ez120895⟩ : ∃ y : Int32, y = z120886 + (-1) := ⟨_, rfl⟩
          have hz120895 : z120895.toInt = z120886.toInt + (-1) := ar_add ez120895 rfl (by decide : ((-1) : Int32).toInt = (-1)) (by omega) (by omega)
          refine lv_iinc (v := z120895) (lv' := [(3, .int z120895), (0, .ref p0), (1, .int p1), (2, .int z120885)]) hx hb dX5_advance_55 hl (k := 3) rfl (by rw [ez120895]; rfl) (by decide) rfl (fun ls hl => ?_)
          refine lv_goto (tgt := 41) hx hb dX5_advance_58 (by decide) ?_
          exact ih41 z120885 z120895 _ _ _ _ (by omega) (by omega) (by omega) hT hfr  (lv_sub hl [1, 2, 3, 0] rfl)
  have K32 : ∀ (z120896 : Int32) (F : Nat → va_E) (H : Heap) (locs : List Loc) (ls : Array Slot), ((-1) ≤ z120896.toInt ∧ z120896.toInt ≤ 4) → TH G ttC A s tag L F H locs → ((∀ b j : Nat, fld F b j = fld Fo b j) ∧ EF tag F Fo) → lv_has ls 6 [(0, .ref p0), (1, .int p1), (2, .int z120896)] → W p l e { frames := 1, cells := 0, slots := 0, locals := 23 } s m args below meth c H locs 0 0 Q (F0 m 32 ls []) := by
    intro z120896 F H locs ls rz120896 hT hfr hl
    refine lv_iload_n hx hb dX5_advance_32 rfl (lv_at hl 2 rfl) ?_
    refine lv_if_ge (tgt := 37) hx hb dX5_advance_33 (by decide) (fun c120897 => ?_) (fun c120897 => ?_)
    · have w120898 := cv_le (by decide : (0 : Int32).toInt = 0) (rfl : z120896.toInt = z120896.toInt) c120897
      refine lv_iload_n hx hb dX5_advance_37 rfl (lv_at hl 1 rfl) ?_
      refine lv_iconst (v := 1) hx hb dX5_advance_38 (by decide) ?_
      refine lv_isub hx hb dX5_advance_39 ?_
      refine lv_topi (fun z120899 ez120899 => ?_)
      have hz120899 : z120899.toInt = p1.toInt - 1 := ar_sub ez120899 (rfl : p1.toInt = p1.toInt) (by decide : (1 : Int32).toInt = 1) (by omega) (by omega)
      have rz120899 : 1 ≤ z120899.toInt ∧ z120899.toInt ≤ 5 := by omega
      refine lv_istore_n (lv' := [(3, .int z120899), (0, .ref p0), (1, .int p1), (2, .int z120896)]) hx hb dX5_advance_40 rfl hl (by decide) rfl (fun ls hl => ?_)
      exact K41 6 z120896 z120899 _ _ _ _ (by omega) (by omega) (by omega) hT hfr  (lv_sub hl [1, 2, 3, 0] rfl)
    · have w120900 := cv_nle (by decide : (0 : Int32).toInt = 0) (rfl : z120896.toInt = z120896.toInt) c120897
      exact t_vret hQ X hT hfr (Nat.le_of_ble_eq_true rfl) (Nat.le_of_ble_eq_true rfl) dX5_advance_36
  have K11 : ∀ (n : Nat) (z120901 : Int32) (F : Nat → va_E) (H : Heap) (locs : List Loc) (ls : Array Slot), (z120901.toInt - (-1) < (n : Int)) → ((-1) ≤ z120901.toInt ∧ z120901.toInt ≤ 4) → TH G ttC A s tag L F H locs → ((∀ b j : Nat, fld F b j = fld Fo b j) ∧ EF tag F Fo) → lv_has ls 6 [(0, .ref p0), (1, .int p1), (2, .int z120901)] → W p l e { frames := 1, cells := 0, slots := 0, locals := 23 } s m args below meth c H locs 0 0 Q (F0 m 11 ls []) := by
    intro n
    induction n with
    | zero =>
      intro z120901 F H locs ls hn rz120901 hT hfr hl
      exfalso
      omega
    | succ n ih11 =>
      intro z120901 F H locs ls hn rz120901 hT hfr hl
      refine lv_iload_n hx hb dX5_advance_11 rfl (lv_at hl 2 rfl) ?_
      refine lv_if_lt (tgt := 32) hx hb dX5_advance_12 (by decide) (fun c120902 => ?_) (fun c120902 => ?_)
      · have w120903 := cv_lt (rfl : z120901.toInt = z120901.toInt) (by decide : (0 : Int32).toInt = 0) c120902
        exact K32 z120901 _ _ _ _ (by omega) hT hfr  (lv_sub hl [0, 1, 2] rfl)
      · have w120904 := cv_nlt (rfl : z120901.toInt = z120901.toInt) (by decide : (0 : Int32).toInt = 0) c120902
        refine lv_aload_n hx hb dX5_advance_15 rfl (lv_at hl 0 rfl) ?_
        refine lv_iload_n hx hb dX5_advance_16 rfl (lv_at hl 2 rfl) ?_
        refine t_ild X hT m0 g0 rfl (by omega) dX5_advance_17 (fun z120905 vz120905 rz120905 => ?_)
        have rz120905 : 0 ≤ z120905.toInt ∧ z120905.toInt ≤ 5 := rz120905
        refine lv_aload_n hx hb dX5_advance_18 rfl (lv_at hl 0 rfl) ?_
        refine lv_iload_n hx hb dX5_advance_19 rfl (lv_at hl 2 rfl) ?_
        refine lv_iconst (v := 1) hx hb dX5_advance_20 (by decide) ?_
        refine lv_iadd hx hb dX5_advance_21 ?_
        refine lv_topi (fun z120906 ez120906 => ?_)
        have hz120906 : z120906.toInt = z120901.toInt + 1 := ar_add ez120906 (rfl : z120901.toInt = z120901.toInt) (by decide : (1 : Int32).toInt = 1) (by omega) (by omega)
        have rz120906 : 1 ≤ z120906.toInt ∧ z120906.toInt ≤ 5 := by omega
        refine t_ild X hT m0 g0 rfl (by omega) dX5_advance_22 (fun z120907 vz120907 rz120907 => ?_)
        have rz120907 : 0 ≤ z120907.toInt ∧ z120907.toInt ≤ 5 := rz120907
        refine lv_icmp_le (tgt := 32) hx hb dX5_advance_23 (by decide) (fun c120908 => ?_) (fun c120908 => ?_)
        · have w120909 := cv_le (rfl : z120905.toInt = z120905.toInt) (rfl : z120907.toInt = z120907.toInt) c120908
          exact K32 z120901 _ _ _ _ (by omega) hT hfr  (lv_sub hl [0, 1, 2] rfl)
        · have w120910 := cv_nle (rfl : z120905.toInt = z120905.toInt) (rfl : z120907.toInt = z120907.toInt) c120908
          obtain ⟨z120911, ez120911⟩ : ∃ y : Int32, y = z120901 + (-1) := ⟨_, rfl⟩
          have hz120911 : z120911.toInt = z120901.toInt + (-1) := ar_add ez120911 rfl (by decide : ((-1) : Int32).toInt = (-1)) (by omega) (by omega)
          refine lv_iinc (v := z120911) (lv' := [(2, .int z120911), (0, .ref p0), (1, .int p1)]) hx hb dX5_advance_26 hl (k := 2) rfl (by rw [ez120911]; rfl) (by decide) rfl (fun ls hl => ?_)
          refine lv_goto (tgt := 11) hx hb dX5_advance_29 (by decide) ?_
          exact ih11 z120911 _ _ _ _ (by omega) (by omega) hT hfr  (lv_sub hl [1, 2, 0] rfl)
  refine lv_iload_n hx hb dX5_advance_0 rfl (lv_at hl 1 rfl) ?_
  refine lv_aload_n hx hb dX5_advance_1 rfl (lv_at hl 0 rfl) ?_
  refine t_alen X hT m0 g0 rfl (by decide) dX5_advance_2 ?_
  refine lv_topi (fun z120912 ez120912 => ?_)
  obtain rfl : z120912 = 6 := ez120912.trans (by rfl)
  refine lv_icmp_le (tgt := 7) hx hb dX5_advance_3 (by decide) (fun c120913 => ?_) (fun c120913 => ?_)
  · have w120914 := cv_le (rfl : p1.toInt = p1.toInt) (by decide : (6 : Int32).toInt = 6) c120913
    refine lv_iload_n hx hb dX5_advance_7 rfl (lv_at hl 1 rfl) ?_
    refine lv_iconst (v := 2) hx hb dX5_advance_8 (by decide) ?_
    refine lv_isub hx hb dX5_advance_9 ?_
    refine lv_topi (fun z120915 ez120915 => ?_)
    have hz120915 : z120915.toInt = p1.toInt - 2 := ar_sub ez120915 (rfl : p1.toInt = p1.toInt) (by decide : (2 : Int32).toInt = 2) (by omega) (by omega)
    have rz120915 : 0 ≤ z120915.toInt ∧ z120915.toInt ≤ 4 := by omega
    refine lv_istore_n (lv' := [(2, .int z120915), (0, .ref p0), (1, .int p1)]) hx hb dX5_advance_10 rfl hl (by decide) rfl (fun ls hl => ?_)
    exact K11 6 z120915 _ _ _ _ (by omega) (by omega) hT hfr  (lv_sub hl [1, 2, 0] rfl)
  · have w120916 := cv_nle (rfl : p1.toInt = p1.toInt) (by decide : (6 : Int32).toInt = 6) c120913
    exfalso
    omega
set_option maxHeartbeats 4000000 in
set_option maxRecDepth 100000 in
theorem kt391_X5_advance (l : Launch) (G : KG) (tag : Nat → Nat) (L : List Nat) (Fo : Nat → va_E) (ho : okT G ttC tag L Fo) (p0 : Nat) (p1 : Int32) (m0 : p0 ∈ L) (g0 : tag p0 = 11) (h1 : 0 ≤ p1.toInt ∧ p1.toInt ≤ 1) : TMv l yX5_advance cX5_advance 6 { frames := 1, cells := 0, slots := 0, locals := 23 } G ttC tag L Fo [.ref p0, .int p1] (fun F1 => ((∀ b j : Nat, fld F1 b j = fld Fo b j) ∧ EF tag F1 Fo)) := by
  refine t_bodyv (y := yX5_advance) (cd := cX5_advance) (mL := 6) (rm := { frames := 1, cells := 0, slots := 0, locals := 23 }) (av := [.ref p0, .int p1]) (by decide) (Nat.le_of_ble_eq_true rfl) ho ?_
  intro p e s m args below meth c ls A Q hQ X hT hl
  have hx := X.1.1
  have hb := X.1.2.1
  have hl : lv_has ls 6 [(0, .ref p0), (1, .int p1)] := hl
  obtain ⟨F, hFo⟩ : ∃ F : Nat → va_E, F = Fo := ⟨_, rfl⟩
  rw [← hFo] at hT
  have hfr : (∀ b j : Nat, fld F b j = fld Fo b j) ∧ EF tag F Fo := by
    rw [hFo]
    exact ⟨by intros; rfl, fun _ _ _ => rfl⟩
  have K32 : ∀ (z121064 : Int32) (F : Nat → va_E) (H : Heap) (locs : List Loc) (ls : Array Slot), ((-2) ≤ z121064.toInt ∧ z121064.toInt ≤ (-1)) → TH G ttC A s tag L F H locs → ((∀ b j : Nat, fld F b j = fld Fo b j) ∧ EF tag F Fo) → lv_has ls 6 [(0, .ref p0), (1, .int p1), (2, .int z121064)] → W p l e { frames := 1, cells := 0, slots := 0, locals := 23 } s m args below meth c H locs 0 0 Q (F0 m 32 ls []) := by
    intro z121064 F H locs ls rz121064 hT hfr hl
    refine lv_iload_n hx hb dX5_advance_32 rfl (lv_at hl 2 rfl) ?_
    refine lv_if_ge (tgt := 37) hx hb dX5_advance_33 (by decide) (fun c121065 => ?_) (fun c121065 => ?_)
    · have w121066 := cv_le (by decide : (0 : Int32).toInt = 0) (rfl : z121064.toInt = z121064.toInt) c121065
      exfalso
      omega
    · have w121067 := cv_nle (by decide : (0 : Int32).toInt = 0) (rfl : z121064.toInt = z121064.toInt) c121065
      exact t_vret hQ X hT hfr (Nat.le_of_ble_eq_true rfl) (Nat.le_of_ble_eq_true rfl) dX5_advance_36
  have K11 : ∀ (z121068 : Int32) (F : Nat → va_E) (H : Heap) (locs : List Loc) (ls : Array Slot), ((-2) ≤ z121068.toInt ∧ z121068.toInt ≤ (-1)) → TH G ttC A s tag L F H locs → ((∀ b j : Nat, fld F b j = fld Fo b j) ∧ EF tag F Fo) → lv_has ls 6 [(0, .ref p0), (1, .int p1), (2, .int z121068)] → W p l e { frames := 1, cells := 0, slots := 0, locals := 23 } s m args below meth c H locs 0 0 Q (F0 m 11 ls []) := by
    intro z121068 F H locs ls rz121068 hT hfr hl
    refine lv_iload_n hx hb dX5_advance_11 rfl (lv_at hl 2 rfl) ?_
    refine lv_if_lt (tgt := 32) hx hb dX5_advance_12 (by decide) (fun c121069 => ?_) (fun c121069 => ?_)
    · have w121070 := cv_lt (rfl : z121068.toInt = z121068.toInt) (by decide : (0 : Int32).toInt = 0) c121069
      exact K32 z121068 _ _ _ _ (by omega) hT hfr  (lv_sub hl [0, 1, 2] rfl)
    · have w121071 := cv_nlt (rfl : z121068.toInt = z121068.toInt) (by decide : (0 : Int32).toInt = 0) c121069
      exfalso
      omega
  refine lv_iload_n hx hb dX5_advance_0 rfl (lv_at hl 1 rfl) ?_
  refine lv_aload_n hx hb dX5_advance_1 rfl (lv_at hl 0 rfl) ?_
  refine t_alen X hT m0 g0 rfl (by decide) dX5_advance_2 ?_
  refine lv_topi (fun z121072 ez121072 => ?_)
  obtain rfl : z121072 = 6 := ez121072.trans (by rfl)
  refine lv_icmp_le (tgt := 7) hx hb dX5_advance_3 (by decide) (fun c121073 => ?_) (fun c121073 => ?_)
  · have w121074 := cv_le (rfl : p1.toInt = p1.toInt) (by decide : (6 : Int32).toInt = 6) c121073
    refine lv_iload_n hx hb dX5_advance_7 rfl (lv_at hl 1 rfl) ?_
    refine lv_iconst (v := 2) hx hb dX5_advance_8 (by decide) ?_
    refine lv_isub hx hb dX5_advance_9 ?_
    refine lv_topi (fun z121075 ez121075 => ?_)
    have hz121075 : z121075.toInt = p1.toInt - 2 := ar_sub ez121075 (rfl : p1.toInt = p1.toInt) (by decide : (2 : Int32).toInt = 2) (by omega) (by omega)
    have rz121075 : (-2) ≤ z121075.toInt ∧ z121075.toInt ≤ (-1) := by omega
    refine lv_istore_n (lv' := [(2, .int z121075), (0, .ref p0), (1, .int p1)]) hx hb dX5_advance_10 rfl hl (by decide) rfl (fun ls hl => ?_)
    exact K11 z121075 _ _ _ _ (by omega) hT hfr  (lv_sub hl [1, 2, 0] rfl)
  · have w121076 := cv_nle (rfl : p1.toInt = p1.toInt) (by decide : (6 : Int32).toInt = 6) c121073
    exfalso
    omega
theorem kt392_X5_advance (l : Launch) (G : KG) (tag : Nat → Nat) (L : List Nat) (Fo : Nat → va_E) (ho : okT G ttC tag L Fo) (p0 : Nat) (p1 : Int32) (m0 : p0 ∈ L) (g0 : tag p0 = 11) (h1 : 0 ≤ p1.toInt ∧ p1.toInt ≤ 6) : TMv l yX5_advance cX5_advance 6 { frames := 1, cells := 0, slots := 0, locals := 23 } G ttC tag L Fo [.ref p0, .int p1] (fun F1 => ((∀ b j : Nat, fld F1 b j = fld Fo b j) ∧ EF tag F1 Fo)) := by
  by_cases h9 : p1.toInt < 2
  · exact kt391_X5_advance l G tag L Fo ho p0 p1 m0 g0 (by omega)
  · exact kt390_X5_advance l G tag L Fo ho p0 p1 m0 g0 (by omega)
set_option maxHeartbeats 4000000 in
set_option maxRecDepth 100000 in
theorem kt393_X9_lookAtAll (l : Launch) (G : KG) (tag : Nat → Nat) (L : List Nat) (Fo : Nat → va_E) (ho : okT G ttC tag L Fo) (p0 : Nat) (p1 : Nat) (p2 : Int32) (m0 : p0 ∈ L) (g0 : tag p0 = 22) (m1 : p1 ∈ L) (g1 : tag p1 = 18) : TMv l yX9_lookAtAll cX9_lookAtAll 4 { frames := 3, cells := 0, slots := 0, locals := 63 } G ttC tag L Fo [.ref p0, .ref p1, .int p2] (fun F1 => ((∀ b j : Nat, (tag b ≠ 22 ∨ j ≠ 2) → fld F1 b j = fld Fo b j) ∧ EF tag F1 Fo)) := by
  refine t_bodyv (y := yX9_lookAtAll) (cd := cX9_lookAtAll) (mL := 4) (rm := { frames := 3, cells := 0, slots := 0, locals := 63 }) (av := [.ref p0, .ref p1, .int p2]) (by decide) (Nat.le_of_ble_eq_true rfl) ho ?_
  intro p e s m args below meth c ls A Q hQ X hT hl
  have hx := X.1.1
  have hb := X.1.2.1
  have hl : lv_has ls 4 [(0, .ref p0), (1, .ref p1), (2, .int p2)] := hl
  have rp2 := rg_all p2
  obtain ⟨F, hFo⟩ : ∃ F : Nat → va_E, F = Fo := ⟨_, rfl⟩
  rw [← hFo] at hT
  have hfr : (∀ b j : Nat, (tag b ≠ 22 ∨ j ≠ 2) → fld F b j = fld Fo b j) ∧ EF tag F Fo := by
    rw [hFo]
    exact ⟨by intros; rfl, fun _ _ _ => rfl⟩
  have K55 : ∀ (n : Nat) (z122685 : Int32) (z122686 : Int32) (z122687 : Int32) (F : Nat → va_E) (H : Heap) (locs : List Loc) (ls : Array Slot), (720 - z122685.toInt < (n : Int)) → (0 ≤ z122685.toInt ∧ z122685.toInt ≤ 720) → (0 ≤ z122687.toInt ∧ z122687.toInt ≤ 6) → TH G ttC A s tag L F H locs → ((∀ b j : Nat, (tag b ≠ 22 ∨ j ≠ 2) → fld F b j = fld Fo b j) ∧ EF tag F Fo) → fld F p0 2 = .int z122686 → fld F p1 16 = .int z122687 → lv_has ls 4 [(0, .ref p0), (1, .ref p1), (2, .int p2), (3, .int z122685)] → W p l e { frames := 3, cells := 0, slots := 0, locals := 63 } s m args below meth c H locs 0 0 Q (F0 m 55 ls []) := by
    intro n
    induction n with
    | zero =>
      intro z122685 z122686 z122687 F H locs ls hn rz122685 rz122687 hT hfr qz122686 qz122687 hl
      have rz122686 := rg_all z122686
      exfalso
      omega
    | succ n ih55 =>
      intro z122685 z122686 z122687 F H locs ls hn rz122685 rz122687 hT hfr qz122686 qz122687 hl
      have rz122686 := rg_all z122686
      have K92 : ∀ (z122689 : Int32) (z122690 : Int32) (F : Nat → va_E) (H : Heap) (locs : List Loc) (ls : Array Slot), (0 ≤ z122690.toInt ∧ z122690.toInt ≤ 6) → (0 ≤ z122685.toInt ∧ z122685.toInt ≤ 719) → TH G ttC A s tag L F H locs → ((∀ b j : Nat, (tag b ≠ 22 ∨ j ≠ 2) → fld F b j = fld Fo b j) ∧ EF tag F Fo) → fld F p0 2 = .int z122689 → fld F p1 16 = .int z122690 → lv_has ls 4 [(0, .ref p0), (1, .ref p1), (2, .int p2), (3, .int z122685)] → W p l e { frames := 3, cells := 0, slots := 0, locals := 63 } s m args below meth c H locs 0 0 Q (F0 m 92 ls []) := by
        intro z122689 z122690 F H locs ls rz122690 r9s122688 hT hfr qz122689 qz122690 hl
        have rz122689 := rg_all z122689
        refine lv_aload_n hx hb dX9_lookAtAll_92 rfl (lv_at hl 0 rfl) ?_
        refine t_get (C := RX9) (T := TX9) (N := 6) X hT m0 g0 rfl rfl 0 (by decide) qw_93 inlX9 rfl dX9_lookAtAll_93 (fun v122691 hv122691 ov122691 => ?_)
        obtain ⟨b122692, rfl, mb122692, gb122692⟩ := okV_r ov122691
        have gb122692 : tag b122692 = 11 := tg_of gb122692
        refine lv_aload_n hx hb dX9_lookAtAll_96 rfl (lv_at hl 1 rfl) ?_
        refine t_get (C := RX1) (T := TX1) (N := 20) X hT m1 g1 rfl rfl 16 (by decide) qw_1338 inlX1 rfl dX9_lookAtAll_97 (fun v122693 hv122693 ov122693 => ?_)
        obtain rfl : v122693 = .int z122690 := hv122693.symm.trans qz122690
        refine t_cSv (n := 2) (As := [.ref b122692, .int z122690]) (rest := []) X hT (kt392_X5_advance l G tag L F hT.2.2.2 b122692 z122690 mb122692 gb122692 (by omega)) qw_1356 qw_1248 qw_1242 qw_1249 ⟨by decide +kernel, by decide +kernel, by decide +kernel⟩ ⟨Nat.le_of_ble_eq_true rfl, Nat.le_of_ble_eq_true rfl⟩ hl rfl rfl (Nat.le_of_ble_eq_true rfl) dX9_lookAtAll_100 ⟨Nat.le_of_ble_eq_true rfl, Nat.le_of_ble_eq_true rfl⟩ (fun F H locs hT hz122694 => ?_)
        have yz122694 := hz122694
        have qz122689 := (yz122694.1 _ 2 ).trans qz122689
        have qz122690 := (yz122694.1 _ 16 ).trans qz122690
        have hv122691 := (yz122694.1 _ 0 ).trans hv122691
        have hfr : (∀ b j : Nat, (tag b ≠ 22 ∨ j ≠ 2) → fld F b j = fld Fo b j) ∧ EF tag F Fo := ⟨fun b j n22_2 => (yz122694.1 b j ).trans (hfr.1 b j n22_2), fun b j hb => (yz122694.2 b j hb).trans (hfr.2 b j hb)⟩
        obtain ⟨z122695, ez122695⟩ : ∃ y : Int32, y = z122685 + 1 := ⟨_, rfl⟩
        have hz122695 : z122695.toInt = z122685.toInt + 1 := ar_add ez122695 rfl (by decide : (1 : Int32).toInt = 1) (by omega) (by omega)
        refine lv_iinc (v := z122695) (lv' := [(3, .int z122695), (0, .ref p0), (1, .ref p1), (2, .int p2)]) hx hb dX9_lookAtAll_103 hl (k := 3) rfl (by rw [ez122695]; rfl) (by decide) rfl (fun ls hl => ?_)
        refine lv_goto (tgt := 55) hx hb dX9_lookAtAll_106 (by decide) ?_
        exact ih55 z122695 z122689 z122690 _ _ _ _ (by omega) (by omega) (by omega) hT hfr qz122689 qz122690 (lv_sub hl [1, 2, 3, 0] rfl)
      refine lv_iload_n hx hb dX9_lookAtAll_55 rfl (lv_at hl 3 rfl) ?_
      refine t_getsN X hT X.2.2.2.1.2.1.2.2.1 (List.mem_of_getElem? (i := 3) rfl) dX9_lookAtAll_56 ?_
      refine lv_aload_n hx hb dX9_lookAtAll_59 rfl (lv_at hl 1 rfl) ?_
      refine t_get (C := RX1) (T := TX1) (N := 20) X hT m1 g1 rfl rfl 16 (by decide) qw_1338 inlX1 rfl dX9_lookAtAll_60 (fun v122696 hv122696 ov122696 => ?_)
      obtain rfl : v122696 = .int z122687 := hv122696.symm.trans qz122687
      refine t_tild X hT X.2.2.2.1.2.1.2.2.1 (by omega) dX9_lookAtAll_63 (fun z122697 ez122697 => ?_)
      have rz122697 : 1 ≤ z122697.toInt ∧ z122697.toInt ≤ 720 := by rw [ez122697]; exact gRows_r _
      refine lv_icmp_ge (tgt := 109) hx hb dX9_lookAtAll_64 (by decide) (fun c122698 => ?_) (fun c122698 => ?_)
      · have w122699 := cv_le (rfl : z122697.toInt = z122697.toInt) (rfl : z122685.toInt = z122685.toInt) c122698
        exact t_vret hQ X hT hfr (Nat.le_of_ble_eq_true rfl) (Nat.le_of_ble_eq_true rfl) dX9_lookAtAll_109
      · have w122700 := cv_nle (rfl : z122697.toInt = z122697.toInt) (rfl : z122685.toInt = z122685.toInt) c122698
        refine lv_aload_n hx hb dX9_lookAtAll_67 rfl (lv_at hl 0 rfl) ?_
        refine lv_aload_n hx hb dX9_lookAtAll_68 rfl (lv_at hl 1 rfl) ?_
        refine lv_iload_n hx hb dX9_lookAtAll_69 rfl (lv_at hl 2 rfl) ?_
        refine t_cVi (n := 2) (C := RX9) (T := TX9) (N := 6) (As := [.ref p1, .int p2]) (rest := []) X hT (kt387_X9_canBe l G tag L F hT.2.2.2 p0 p1 p2 m0 g0 m1 g1) m0 g0 rfl rfl qw_1340 qw_1341 qw_1342 qw_40 qw_1343 ⟨rfl, by decide +kernel, by decide +kernel, by decide +kernel⟩ ⟨Nat.le_of_ble_eq_true rfl, Nat.le_of_ble_eq_true rfl⟩ hl rfl rfl (Nat.le_of_ble_eq_true rfl) dX9_lookAtAll_70 ⟨Nat.le_of_ble_eq_true rfl, Nat.le_of_ble_eq_true rfl⟩ (fun z122701 F H locs hT hz122701 => ?_)
        obtain ⟨hz122701, yz122701⟩ := hz122701
        have qz122686 := (yz122701.1 _ 2 ).trans qz122686
        have qz122687 := (yz122701.1 _ 16 ).trans qz122687
        have hfr : (∀ b j : Nat, (tag b ≠ 22 ∨ j ≠ 2) → fld F b j = fld Fo b j) ∧ EF tag F Fo := ⟨fun b j n22_2 => (yz122701.1 b j ).trans (hfr.1 b j n22_2), fun b j hb => (yz122701.2 b j hb).trans (hfr.2 b j hb)⟩
        refine lv_if_eq (tgt := 92) hx hb dX9_lookAtAll_73 (by decide) (fun c122702 => ?_) (fun c122702 => ?_)
        · have w122703 := cv_eq (rfl : z122701.toInt = z122701.toInt) (by decide : (0 : Int32).toInt = 0) c122702
          exact K92 z122686 z122687 _ _ _ _ (by omega) (by omega) hT hfr qz122686 qz122687 (lv_sub hl [0, 1, 2, 3] rfl)
        · have w122704 := cv_ne (rfl : z122701.toInt = z122701.toInt) (by decide : (0 : Int32).toInt = 0) c122702
          refine lv_aload_n hx hb dX9_lookAtAll_76 rfl (lv_at hl 0 rfl) ?_
          refine lv_dup hx hb dX9_lookAtAll_77 rfl ?_
          refine t_get (C := RX9) (T := TX9) (N := 6) X hT m0 g0 rfl rfl 2 (by decide) qw_1337 inlX9 rfl dX9_lookAtAll_78 (fun v122705 hv122705 ov122705 => ?_)
          obtain rfl : v122705 = .int z122686 := hv122705.symm.trans qz122686
          refine lv_iconst (v := 1) hx hb dX9_lookAtAll_81 (by decide) ?_
          refine lv_iadd hx hb dX9_lookAtAll_82 ?_
          refine lv_topi (fun z122706 ez122706 => ?_)
          have rz122706 := rg_all z122706
          refine t_put (C := RX9) (T := TX9) (N := 6) (v := .int z122706) X hT m0 g0 rfl tyX9 tyX9_ok nmX9 rfl 2 (by decide) qw_1337 inlX9 rfl (by first | rfl | decide) (by first | rfl | decide) rfl (⟨_, rfl, (show (-2147483648) ≤ (z122706 : Int32).toInt from (by omega)), (show (z122706 : Int32).toInt ≤ 2147483647 from (by omega))⟩) dX9_lookAtAll_83 (fun F H locs hT v122707 h1v122707 h2v122707 => ?_)
          have qz122687 := (h1v122707 _ _ (Or.inr (by decide))).trans qz122687
          have hfr : (∀ b j : Nat, (tag b ≠ 22 ∨ j ≠ 2) → fld F b j = fld Fo b j) ∧ EF tag F Fo := ⟨fun b j n22_2 => (h1v122707 b j (fr_ne g0 n22_2)).trans (hfr.1 b j n22_2), fun b j hb => (h2v122707 b j).trans (hfr.2 b j hb)⟩
          refine lv_aload_n hx hb dX9_lookAtAll_86 rfl (lv_at hl 0 rfl) ?_
          refine lv_aload_n hx hb dX9_lookAtAll_87 rfl (lv_at hl 1 rfl) ?_
          refine lv_iload_n hx hb dX9_lookAtAll_88 rfl (lv_at hl 2 rfl) ?_
          refine t_cVv (n := 2) (C := RX9) (T := TX9) (N := 6) (As := [.ref p1, .int p2]) (rest := []) X hT (kt388_X9_noteRow l G tag L F hT.2.2.2 p0 p1 p2 m0 g0 m1 g1) m0 g0 rfl rfl qw_1352 qw_1353 qw_1354 qw_40 qw_1355 ⟨rfl, by decide +kernel, by decide +kernel, by decide +kernel⟩ ⟨Nat.le_of_ble_eq_true rfl, Nat.le_of_ble_eq_true rfl⟩ hl rfl rfl (Nat.le_of_ble_eq_true rfl) dX9_lookAtAll_89 ⟨Nat.le_of_ble_eq_true rfl, Nat.le_of_ble_eq_true rfl⟩ (fun F H locs hT hz122708 => ?_)
          have yz122708 := hz122708
          have qz122687 := (yz122708.1 _ 16 ).trans qz122687
          have v122707 := (yz122708.1 _ 2 ).trans v122707
          have hfr : (∀ b j : Nat, (tag b ≠ 22 ∨ j ≠ 2) → fld F b j = fld Fo b j) ∧ EF tag F Fo := ⟨fun b j n22_2 => (yz122708.1 b j ).trans (hfr.1 b j n22_2), fun b j hb => (yz122708.2 b j hb).trans (hfr.2 b j hb)⟩
          exact K92 z122706 z122687 _ _ _ _ (by omega) (by omega) hT hfr v122707 qz122687 (lv_sub hl [0, 1, 2, 3] rfl)
  have K7 : ∀ (n : Nat) (z122709 : Int32) (z122710 : Int32) (F : Nat → va_E) (H : Heap) (locs : List Loc) (ls : Array Slot), (6 - z122709.toInt < (n : Int)) → (0 ≤ z122709.toInt ∧ z122709.toInt ≤ 6) → (0 ≤ z122710.toInt ∧ z122710.toInt ≤ 0) → TH G ttC A s tag L F H locs → ((∀ b j : Nat, (tag b ≠ 22 ∨ j ≠ 2) → fld F b j = fld Fo b j) ∧ EF tag F Fo) → fld F p0 2 = .int z122710 → lv_has ls 4 [(0, .ref p0), (1, .ref p1), (2, .int p2), (3, .int z122709)] → W p l e { frames := 3, cells := 0, slots := 0, locals := 63 } s m args below meth c H locs 0 0 Q (F0 m 7 ls []) := by
    intro n
    induction n with
    | zero =>
      intro z122709 z122710 F H locs ls hn rz122709 rz122710 hT hfr qz122710 hl
      exfalso
      omega
    | succ n ih7 =>
      intro z122709 z122710 F H locs ls hn rz122709 rz122710 hT hfr qz122710 hl
      refine lv_iload_n hx hb dX9_lookAtAll_7 rfl (lv_at hl 3 rfl) ?_
      refine lv_bipush (v := 6) hx hb dX9_lookAtAll_8 (by decide) ?_
      refine lv_icmp_ge (tgt := 42) hx hb dX9_lookAtAll_10 (by decide) (fun c122711 => ?_) (fun c122711 => ?_)
      · have w122712 := cv_le (by decide : (6 : Int32).toInt = 6) (rfl : z122709.toInt = z122709.toInt) c122711
        refine lv_aload_n hx hb dX9_lookAtAll_42 rfl (lv_at hl 0 rfl) ?_
        refine t_get (C := RX9) (T := TX9) (N := 6) X hT m0 g0 rfl rfl 0 (by decide) qw_93 inlX9 rfl dX9_lookAtAll_43 (fun v122713 hv122713 ov122713 => ?_)
        obtain ⟨b122714, rfl, mb122714, gb122714⟩ := okV_r ov122713
        have gb122714 : tag b122714 = 11 := tg_of gb122714
        refine lv_aload_n hx hb dX9_lookAtAll_46 rfl (lv_at hl 1 rfl) ?_
        refine t_get (C := RX1) (T := TX1) (N := 20) X hT m1 g1 rfl rfl 16 (by decide) qw_1338 inlX1 rfl dX9_lookAtAll_47 (fun v122715 hv122715 ov122715 => ?_)
        obtain ⟨z122716, rfl, rz122716⟩ := okV_i ov122715
        refine t_cSv (n := 2) (As := [.ref b122714, .int z122716]) (rest := []) X hT (kt385_X5_begin l G tag L F hT.2.2.2 b122714 z122716 mb122714 gb122714 (by omega)) qw_1339 qw_1241 qw_1242 qw_1243 ⟨by decide +kernel, by decide +kernel, by decide +kernel⟩ ⟨Nat.le_of_ble_eq_true rfl, Nat.le_of_ble_eq_true rfl⟩ hl rfl rfl (Nat.le_of_ble_eq_true rfl) dX9_lookAtAll_50 ⟨Nat.le_of_ble_eq_true rfl, Nat.le_of_ble_eq_true rfl⟩ (fun F H locs hT hz122717 => ?_)
        have yz122717 := hz122717
        have qz122710 := (yz122717.1 _ 2 ).trans qz122710
        have hv122713 := (yz122717.1 _ 0 ).trans hv122713
        have hv122715 := (yz122717.1 _ 16 ).trans hv122715
        have hfr : (∀ b j : Nat, (tag b ≠ 22 ∨ j ≠ 2) → fld F b j = fld Fo b j) ∧ EF tag F Fo := ⟨fun b j n22_2 => (yz122717.1 b j ).trans (hfr.1 b j n22_2), fun b j hb => (yz122717.2 b j hb).trans (hfr.2 b j hb)⟩
        refine lv_iconst (v := 0) hx hb dX9_lookAtAll_53 (by decide) ?_
        refine lv_istore_n (lv' := [(3, .int 0), (0, .ref p0), (1, .ref p1), (2, .int p2)]) hx hb dX9_lookAtAll_54 rfl hl (by decide) rfl (fun ls hl => ?_)
        have kk122718 : (0 : Int32).toInt = 0 := by decide
        exact K55 721 0 z122710 z122716 _ _ _ _ (by omega) (by decide) (by omega) hT hfr qz122710 hv122715 (lv_sub hl [1, 2, 3, 0] rfl)
      · have w122719 := cv_nle (by decide : (6 : Int32).toInt = 6) (rfl : z122709.toInt = z122709.toInt) c122711
        refine lv_aload_n hx hb dX9_lookAtAll_13 rfl (lv_at hl 0 rfl) ?_
        refine t_get (C := RX9) (T := TX9) (N := 6) X hT m0 g0 rfl rfl 3 (by decide) qw_95 inlX9 rfl dX9_lookAtAll_14 (fun v122720 hv122720 ov122720 => ?_)
        obtain ⟨b122721, rfl, mb122721, gb122721⟩ := okV_r ov122720
        have gb122721 : tag b122721 = 7 := tg_of gb122721
        refine lv_iload_n hx hb dX9_lookAtAll_17 rfl (lv_at hl 3 rfl) ?_
        refine lv_sipush (v := 999) hx hb dX9_lookAtAll_18 (by decide) ?_
        refine t_ist X hT mb122721 gb122721 rfl (by omega) (show (-2147483648) ≤ (999 : Int32).toInt ∧ (999 : Int32).toInt ≤ 2147483647 from (by decide)) dX9_lookAtAll_21 (fun F H locs hT v122722 h1v122722 h2v122722 => ?_)
        have qz122710 := (h2v122722 _ _).trans qz122710
        have hv122720 := (h2v122722 _ _).trans hv122720
        have hfr : (∀ b j : Nat, (tag b ≠ 22 ∨ j ≠ 2) → fld F b j = fld Fo b j) ∧ EF tag F Fo := ⟨fun b j n22_2 => (h2v122722 b j).trans (hfr.1 b j n22_2), fun b j hb => (h1v122722 b j (Or.inl (ns_ne hb gb122721 (by decide)))).trans (hfr.2 b j hb)⟩
        refine lv_aload_n hx hb dX9_lookAtAll_22 rfl (lv_at hl 0 rfl) ?_
        refine t_get (C := RX9) (T := TX9) (N := 6) X hT m0 g0 rfl rfl 4 (by decide) qw_96 inlX9 rfl dX9_lookAtAll_23 (fun v122723 hv122723 ov122723 => ?_)
        obtain ⟨b122724, rfl, mb122724, gb122724⟩ := okV_r ov122723
        have gb122724 : tag b122724 = 7 := tg_of gb122724
        refine lv_iload_n hx hb dX9_lookAtAll_26 rfl (lv_at hl 3 rfl) ?_
        refine lv_iconst (v := 0) hx hb dX9_lookAtAll_27 (by decide) ?_
        refine t_ist X hT mb122724 gb122724 rfl (by omega) (show (-2147483648) ≤ (0 : Int32).toInt ∧ (0 : Int32).toInt ≤ 2147483647 from (by decide)) dX9_lookAtAll_28 (fun F H locs hT v122725 h1v122725 h2v122725 => ?_)
        have qz122710 := (h2v122725 _ _).trans qz122710
        have hv122720 := (h2v122725 _ _).trans hv122720
        have hv122723 := (h2v122725 _ _).trans hv122723
        have hfr : (∀ b j : Nat, (tag b ≠ 22 ∨ j ≠ 2) → fld F b j = fld Fo b j) ∧ EF tag F Fo := ⟨fun b j n22_2 => (h2v122725 b j).trans (hfr.1 b j n22_2), fun b j hb => (h1v122725 b j (Or.inl (ns_ne hb gb122724 (by decide)))).trans (hfr.2 b j hb)⟩
        refine lv_aload_n hx hb dX9_lookAtAll_29 rfl (lv_at hl 0 rfl) ?_
        refine t_get (C := RX9) (T := TX9) (N := 6) X hT m0 g0 rfl rfl 5 (by decide) qw_97 inlX9 rfl dX9_lookAtAll_30 (fun v122726 hv122726 ov122726 => ?_)
        obtain ⟨b122727, rfl, mb122727, gb122727⟩ := okV_r ov122726
        have gb122727 : tag b122727 = 7 := tg_of gb122727
        refine lv_iload_n hx hb dX9_lookAtAll_33 rfl (lv_at hl 3 rfl) ?_
        refine lv_iconst (v := (-1)) hx hb dX9_lookAtAll_34 (by decide) ?_
        refine t_ist X hT mb122727 gb122727 rfl (by omega) (show (-2147483648) ≤ ((-1) : Int32).toInt ∧ ((-1) : Int32).toInt ≤ 2147483647 from (by decide)) dX9_lookAtAll_35 (fun F H locs hT v122728 h1v122728 h2v122728 => ?_)
        have qz122710 := (h2v122728 _ _).trans qz122710
        have hv122720 := (h2v122728 _ _).trans hv122720
        have hv122723 := (h2v122728 _ _).trans hv122723
        have hv122726 := (h2v122728 _ _).trans hv122726
        have hfr : (∀ b j : Nat, (tag b ≠ 22 ∨ j ≠ 2) → fld F b j = fld Fo b j) ∧ EF tag F Fo := ⟨fun b j n22_2 => (h2v122728 b j).trans (hfr.1 b j n22_2), fun b j hb => (h1v122728 b j (Or.inl (ns_ne hb gb122727 (by decide)))).trans (hfr.2 b j hb)⟩
        obtain ⟨z122729, ez122729⟩ : ∃ y : Int32, y = z122709 + 1 := ⟨_, rfl⟩
        have hz122729 : z122729.toInt = z122709.toInt + 1 := ar_add ez122729 rfl (by decide : (1 : Int32).toInt = 1) (by omega) (by omega)
        refine lv_iinc (v := z122729) (lv' := [(3, .int z122729), (0, .ref p0), (1, .ref p1), (2, .int p2)]) hx hb dX9_lookAtAll_36 hl (k := 3) rfl (by rw [ez122729]; rfl) (by decide) rfl (fun ls hl => ?_)
        refine lv_goto (tgt := 7) hx hb dX9_lookAtAll_39 (by decide) ?_
        exact ih7 z122729 z122710 _ _ _ _ (by omega) (by omega) (by omega) hT hfr qz122710 (lv_sub hl [1, 2, 3, 0] rfl)
  refine lv_aload_n hx hb dX9_lookAtAll_0 rfl (lv_at hl 0 rfl) ?_
  refine lv_iconst (v := 0) hx hb dX9_lookAtAll_1 (by decide) ?_
  refine t_put (C := RX9) (T := TX9) (N := 6) (v := .int 0) X hT m0 g0 rfl tyX9 tyX9_ok nmX9 rfl 2 (by decide) qw_1337 inlX9 rfl (by first | rfl | decide) (by first | rfl | decide) rfl (⟨_, rfl, (show (-2147483648) ≤ (0 : Int32).toInt from (by decide)), (show (0 : Int32).toInt ≤ 2147483647 from (by decide))⟩) dX9_lookAtAll_2 (fun F H locs hT v122730 h1v122730 h2v122730 => ?_)
  have hfr : (∀ b j : Nat, (tag b ≠ 22 ∨ j ≠ 2) → fld F b j = fld Fo b j) ∧ EF tag F Fo := ⟨fun b j n22_2 => (h1v122730 b j (fr_ne g0 n22_2)).trans (hfr.1 b j n22_2), fun b j hb => (h2v122730 b j).trans (hfr.2 b j hb)⟩
  refine lv_iconst (v := 0) hx hb dX9_lookAtAll_5 (by decide) ?_
  refine lv_istore_n (lv' := [(3, .int 0), (0, .ref p0), (1, .ref p1), (2, .int p2)]) hx hb dX9_lookAtAll_6 rfl hl (by decide) rfl (fun ls hl => ?_)
  have kk122731 : (0 : Int32).toInt = 0 := by decide
  exact K7 7 0 0 _ _ _ _ (by omega) (by decide) (by decide) hT hfr v122730 (lv_sub hl [1, 2, 3, 0] rfl)
set_option maxHeartbeats 4000000 in
set_option maxRecDepth 100000 in
theorem kt394_X11_latest (l : Launch) (G : KG) (tag : Nat → Nat) (L : List Nat) (Fo : Nat → va_E) (ho : okT G ttC tag L Fo) (p0 : Nat) (p1 : Int32) (m0 : p0 ∈ L) (g0 : tag p0 = 26) : TMi l yX11_latest cX11_latest 2 (some .int) { frames := 4, cells := 0, slots := 0, locals := 86 } G ttC tag L Fo [.ref p0, .int p1] (fun r F1 => ((-2147483648) ≤ r.toInt ∧ r.toInt ≤ 2147483647) ∧ ((∀ b j : Nat, (tag b ≠ 22 ∨ j ≠ 2) → (tag b ≠ 26 ∨ j ≠ 13) → fld F1 b j = fld Fo b j) ∧ EF tag F1 Fo)) := by
  refine t_bodyi (y := yX11_latest) (cd := cX11_latest) (mL := 2) (rt := (some .int)) (rm := { frames := 4, cells := 0, slots := 0, locals := 86 }) (av := [.ref p0, .int p1]) (by decide) (Nat.le_of_ble_eq_true rfl) ho ?_
  intro p e s m args below meth c ls A Q hQ X hT hl
  have hx := X.1.1
  have hb := X.1.2.1
  have hl : lv_has ls 2 [(0, .ref p0), (1, .int p1)] := hl
  have rp1 := rg_all p1
  obtain ⟨F, hFo⟩ : ∃ F : Nat → va_E, F = Fo := ⟨_, rfl⟩
  rw [← hFo] at hT
  have hfr : (∀ b j : Nat, (tag b ≠ 22 ∨ j ≠ 2) → (tag b ≠ 26 ∨ j ≠ 13) → fld F b j = fld Fo b j) ∧ EF tag F Fo := by
    rw [hFo]
    exact ⟨by intros; rfl, fun _ _ _ => rfl⟩
  have K57 : ∀ (z123029 : Int32) (b123030 : Nat) (F : Nat → va_E) (H : Heap) (locs : List Loc) (ls : Array Slot), (b123030 ∈ L) → (tag b123030 = 26) → (0 ≤ p1.toInt ∧ p1.toInt ≤ 5) → TH G ttC A s tag L F H locs → ((∀ b j : Nat, (tag b ≠ 22 ∨ j ≠ 2) → (tag b ≠ 26 ∨ j ≠ 13) → fld F b j = fld Fo b j) ∧ EF tag F Fo) → lv_has ls 2 [(0, .ref p0), (1, .int p1)] → W p l e { frames := 4, cells := 0, slots := 0, locals := 86 } s m args below meth c H locs 0 0 Q (F0 m 57 ls [.int z123029, .ref b123030]) := by
    intro z123029 b123030 F H locs ls mb123030 gb123030 r9s123028 hT hfr hl
    have rz123029 := rg_all z123029
    refine t_cVi (n := 1) (C := RX11) (T := TX11) (N := 16) (As := [.int z123029]) (rest := []) X hT (kt350_X11_answer l G tag L F hT.2.2.2 b123030 z123029 mb123030 gb123030) mb123030 gb123030 rfl rfl qw_463 qw_464 qw_465 qw_2 qw_466 ⟨rfl, by decide +kernel, by decide +kernel, by decide +kernel⟩ ⟨Nat.le_of_ble_eq_true rfl, Nat.le_of_ble_eq_true rfl⟩ hl rfl rfl (Nat.le_of_ble_eq_true rfl) dX11_latest_57 ⟨Nat.le_of_ble_eq_true rfl, Nat.le_of_ble_eq_true rfl⟩ (fun z123031 F H locs hT hz123031 => ?_)
    obtain ⟨hz123031, yz123031⟩ := hz123031
    have hfr : (∀ b j : Nat, (tag b ≠ 22 ∨ j ≠ 2) → (tag b ≠ 26 ∨ j ≠ 13) → fld F b j = fld Fo b j) ∧ EF tag F Fo := ⟨fun b j n22_2 n26_13 => (yz123031.1 b j n26_13).trans (hfr.1 b j n22_2 n26_13), fun b j hb => (yz123031.2 b j hb).trans (hfr.2 b j hb)⟩
    exact t_iret hQ X hT (⟨rg_all _, hfr⟩) (Nat.le_of_ble_eq_true rfl) (Nat.le_of_ble_eq_true rfl) dX11_latest_60
  refine lv_aload_n hx hb dX11_latest_0 rfl (lv_at hl 0 rfl) ?_
  refine lv_iload_n hx hb dX11_latest_1 rfl (lv_at hl 1 rfl) ?_
  refine t_cVi (n := 1) (C := RX11) (T := TX11) (N := 16) (As := [.int p1]) (rest := []) X hT (kt384_X11_isWall l G tag L F hT.2.2.2 p0 p1 m0 g0) m0 g0 rfl rfl qw_1379 qw_1380 qw_1381 qw_2 qw_1382 ⟨rfl, by decide +kernel, by decide +kernel, by decide +kernel⟩ ⟨Nat.le_of_ble_eq_true rfl, Nat.le_of_ble_eq_true rfl⟩ hl rfl rfl (Nat.le_of_ble_eq_true rfl) dX11_latest_2 ⟨Nat.le_of_ble_eq_true rfl, Nat.le_of_ble_eq_true rfl⟩ (fun z123032 F9 H locs hT hz123032 => ?_)
  obtain ⟨fz123032, hz123032⟩ := hz123032
  rw [fz123032] at hT
  obtain ⟨hz123032, iz123032⟩ := hz123032
  refine lv_if_ne (tgt := 14) hx hb dX11_latest_5 (by decide) (fun c123033 => ?_) (fun c123033 => ?_)
  · have w123034 := cv_ne (rfl : z123032.toInt = z123032.toInt) (by decide : (0 : Int32).toInt = 0) c123033
    have w123035 := (fun h => (iz123032 h)) (by omega)
    refine lv_aload_n hx hb dX11_latest_14 rfl (lv_at hl 0 rfl) ?_
    refine t_get (C := RX11) (T := TX11) (N := 16) X hT m0 g0 rfl rfl 11 (by decide) qw_41 inlX11 rfl dX11_latest_15 (fun v123036 hv123036 ov123036 => ?_)
    obtain ⟨b123037, rfl, mb123037, gb123037⟩ := okV_r ov123036
    have gb123037 : tag b123037 = 22 := tg_of gb123037
    refine lv_aload_n hx hb dX11_latest_18 rfl (lv_at hl 0 rfl) ?_
    refine t_get (C := RX11) (T := TX11) (N := 16) X hT m0 g0 rfl rfl 3 (by decide) qw_18 inlX11 rfl dX11_latest_19 (fun v123038 hv123038 ov123038 => ?_)
    obtain ⟨b123039, rfl, mb123039, gb123039⟩ := okV_r ov123038
    have gb123039 : tag b123039 = 18 := tg_of gb123039
    refine lv_aload_n hx hb dX11_latest_22 rfl (lv_at hl 0 rfl) ?_
    refine t_get (C := RX11) (T := TX11) (N := 16) X hT m0 g0 rfl rfl 5 (by decide) qw_23 inlX11 rfl dX11_latest_23 (fun v123040 hv123040 ov123040 => ?_)
    obtain ⟨b123041, rfl, mb123041, gb123041⟩ := okV_r ov123040
    have gb123041 : tag b123041 = 19 := tg_of gb123041
    refine t_get (C := RX7) (T := TX7) (N := 7) X hT mb123041 gb123041 rfl rfl 0 (by decide) qw_1225 inlX7 rfl dX11_latest_26 (fun v123042 hv123042 ov123042 => ?_)
    obtain ⟨z123043, rfl, rz123043⟩ := okV_i ov123042
    refine t_cVv (n := 2) (C := RX9) (T := TX9) (N := 6) (As := [.ref b123039, .int z123043]) (rest := []) X hT (kt393_X9_lookAtAll l G tag L F hT.2.2.2 b123037 b123039 z123043 mb123037 gb123037 mb123039 gb123039) mb123037 gb123037 rfl rfl qw_1333 qw_1334 qw_1335 qw_40 qw_1336 ⟨rfl, by decide +kernel, by decide +kernel, by decide +kernel⟩ ⟨Nat.le_of_ble_eq_true rfl, Nat.le_of_ble_eq_true rfl⟩ hl rfl rfl (Nat.le_of_ble_eq_true rfl) dX11_latest_29 ⟨Nat.le_of_ble_eq_true rfl, Nat.le_of_ble_eq_true rfl⟩ (fun F H locs hT hz123044 => ?_)
    have yz123044 := hz123044
    have hv123036 := (yz123044.1 _ 11 (Or.inr (by decide))).trans hv123036
    have hv123038 := (yz123044.1 _ 3 (Or.inr (by decide))).trans hv123038
    have hv123040 := (yz123044.1 _ 5 (Or.inr (by decide))).trans hv123040
    have hv123042 := (yz123044.1 _ 0 (Or.inr (by decide))).trans hv123042
    have hfr : (∀ b j : Nat, (tag b ≠ 22 ∨ j ≠ 2) → (tag b ≠ 26 ∨ j ≠ 13) → fld F b j = fld Fo b j) ∧ EF tag F Fo := ⟨fun b j n22_2 n26_13 => (yz123044.1 b j n22_2).trans (hfr.1 b j n22_2 n26_13), fun b j hb => (yz123044.2 b j hb).trans (hfr.2 b j hb)⟩
    refine lv_aload_n hx hb dX11_latest_32 rfl (lv_at hl 0 rfl) ?_
    refine lv_aload_n hx hb dX11_latest_33 rfl (lv_at hl 0 rfl) ?_
    refine t_get (C := RX11) (T := TX11) (N := 16) X hT m0 g0 rfl rfl 11 (by decide) qw_41 inlX11 rfl dX11_latest_34 (fun v123045 hv123045 ov123045 => ?_)
    obtain rfl : v123045 = .ref b123037 := hv123045.symm.trans hv123036
    refine t_get (C := RX9) (T := TX9) (N := 6) X hT mb123037 gb123037 rfl rfl 2 (by decide) qw_1332 inlX9 rfl dX11_latest_37 (fun v123046 hv123046 ov123046 => ?_)
    obtain ⟨z123047, rfl, rz123047⟩ := okV_i ov123046
    refine lv_if_ne (tgt := 48) hx hb dX11_latest_40 (by decide) (fun c123048 => ?_) (fun c123048 => ?_)
    · have w123049 := cv_ne (rfl : z123047.toInt = z123047.toInt) (by decide : (0 : Int32).toInt = 0) c123048
      refine lv_aload_n hx hb dX11_latest_48 rfl (lv_at hl 0 rfl) ?_
      refine t_get (C := RX11) (T := TX11) (N := 16) X hT m0 g0 rfl rfl 11 (by decide) qw_41 inlX11 rfl dX11_latest_49 (fun v123050 hv123050 ov123050 => ?_)
      obtain rfl : v123050 = .ref b123037 := hv123050.symm.trans hv123036
      refine t_get (C := RX9) (T := TX9) (N := 6) X hT mb123037 gb123037 rfl rfl 4 (by decide) qw_1409 inlX9 rfl dX11_latest_52 (fun v123051 hv123051 ov123051 => ?_)
      obtain ⟨b123052, rfl, mb123052, gb123052⟩ := okV_r ov123051
      have gb123052 : tag b123052 = 7 := tg_of gb123052
      refine lv_iload_n hx hb dX11_latest_55 rfl (lv_at hl 1 rfl) ?_
      refine t_ild X hT mb123052 gb123052 rfl (by omega) dX11_latest_56 (fun z123053 vz123053 rz123053 => ?_)
      have rz123053 : (-2147483648) ≤ z123053.toInt ∧ z123053.toInt ≤ 2147483647 := rz123053
      exact K57 z123053 p0 _ _ _ _ m0 g0 (by omega) hT hfr  (lv_sub hl [0, 1] rfl)
    · have w123054 := cv_eq (rfl : z123047.toInt = z123047.toInt) (by decide : (0 : Int32).toInt = 0) c123048
      refine lv_bipush (v := (-2)) hx hb dX11_latest_43 (by decide) ?_
      refine lv_goto (tgt := 57) hx hb dX11_latest_45 (by decide) ?_
      exact K57 (-2) p0 _ _ _ _ m0 g0 (by omega) hT hfr  (lv_sub hl [0, 1] rfl)
  · have w123055 := cv_eq (rfl : z123032.toInt = z123032.toInt) (by decide : (0 : Int32).toInt = 0) c123033
    refine lv_aload_n hx hb dX11_latest_8 rfl (lv_at hl 0 rfl) ?_
    refine lv_iconst (v := 1) hx hb dX11_latest_9 (by decide) ?_
    refine t_cVi (n := 1) (C := RX11) (T := TX11) (N := 16) (As := [.int 1]) (rest := []) X hT (kt357_X11_refuse l G tag L F hT.2.2.2 p0 1 m0 g0) m0 g0 rfl rfl qw_152 qw_153 qw_154 qw_2 qw_155 ⟨rfl, by decide +kernel, by decide +kernel, by decide +kernel⟩ ⟨Nat.le_of_ble_eq_true rfl, Nat.le_of_ble_eq_true rfl⟩ hl rfl rfl (Nat.le_of_ble_eq_true rfl) dX11_latest_10 ⟨Nat.le_of_ble_eq_true rfl, Nat.le_of_ble_eq_true rfl⟩ (fun z123056 F H locs hT hz123056 => ?_)
    obtain ⟨hz123056, yz123056⟩ := hz123056
    have hfr : (∀ b j : Nat, (tag b ≠ 22 ∨ j ≠ 2) → (tag b ≠ 26 ∨ j ≠ 13) → fld F b j = fld Fo b j) ∧ EF tag F Fo := ⟨fun b j n22_2 n26_13 => (yz123056.1 b j n26_13).trans (hfr.1 b j n22_2 n26_13), fun b j hb => (yz123056.2 b j hb).trans (hfr.2 b j hb)⟩
    exact t_iret hQ X hT (⟨rg_all _, hfr⟩) (Nat.le_of_ble_eq_true rfl) (Nat.le_of_ble_eq_true rfl) dX11_latest_13
set_option maxHeartbeats 4000000 in
set_option maxRecDepth 100000 in
theorem kt395_X11_light (l : Launch) (G : KG) (tag : Nat → Nat) (L : List Nat) (Fo : Nat → va_E) (ho : okT G ttC tag L Fo) (p0 : Nat) (p1 : Int32) (p2 : Int32) (m0 : p0 ∈ L) (g0 : tag p0 = 26) : TMi l yX11_light cX11_light 3 (some .int) { frames := 2, cells := 0, slots := 0, locals := 43 } G ttC tag L Fo [.ref p0, .int p1, .int p2] (fun r F1 => ((-2147483648) ≤ r.toInt ∧ r.toInt ≤ 2147483647) ∧ ((∀ b j : Nat, (tag b ≠ 26 ∨ j ≠ 13) → fld F1 b j = fld Fo b j) ∧ EF tag F1 Fo)) := by
  refine t_bodyi (y := yX11_light) (cd := cX11_light) (mL := 3) (rt := (some .int)) (rm := { frames := 2, cells := 0, slots := 0, locals := 43 }) (av := [.ref p0, .int p1, .int p2]) (by decide) (Nat.le_of_ble_eq_true rfl) ho ?_
  intro p e s m args below meth c ls A Q hQ X hT hl
  have hx := X.1.1
  have hb := X.1.2.1
  have hl : lv_has ls 3 [(0, .ref p0), (1, .int p1), (2, .int p2)] := hl
  have rp1 := rg_all p1
  have rp2 := rg_all p2
  obtain ⟨F, hFo⟩ : ∃ F : Nat → va_E, F = Fo := ⟨_, rfl⟩
  rw [← hFo] at hT
  have hfr : (∀ b j : Nat, (tag b ≠ 26 ∨ j ≠ 13) → fld F b j = fld Fo b j) ∧ EF tag F Fo := by
    rw [hFo]
    exact ⟨by intros; rfl, fun _ _ _ => rfl⟩
  refine lv_aload_n hx hb dX11_light_0 rfl (lv_at hl 0 rfl) ?_
  refine lv_iload_n hx hb dX11_light_1 rfl (lv_at hl 1 rfl) ?_
  refine lv_iload_n hx hb dX11_light_2 rfl (lv_at hl 2 rfl) ?_
  refine t_cVi (n := 2) (C := RX11) (T := TX11) (N := 16) (As := [.int p1, .int p2]) (rest := []) X hT (kt356_X11_isRoom l G tag L F hT.2.2.2 p0 p1 p2 m0 g0) m0 g0 rfl rfl qw_827 qw_828 qw_829 qw_2 qw_830 ⟨rfl, by decide +kernel, by decide +kernel, by decide +kernel⟩ ⟨Nat.le_of_ble_eq_true rfl, Nat.le_of_ble_eq_true rfl⟩ hl rfl rfl (Nat.le_of_ble_eq_true rfl) dX11_light_3 ⟨Nat.le_of_ble_eq_true rfl, Nat.le_of_ble_eq_true rfl⟩ (fun z123244 F9 H locs hT hz123244 => ?_)
  obtain ⟨fz123244, hz123244⟩ := hz123244
  rw [fz123244] at hT
  obtain ⟨hz123244, iz123244⟩ := hz123244
  refine lv_if_ne (tgt := 15) hx hb dX11_light_6 (by decide) (fun c123245 => ?_) (fun c123245 => ?_)
  · have w123246 := cv_ne (rfl : z123244.toInt = z123244.toInt) (by decide : (0 : Int32).toInt = 0) c123245
    have w123247 := (fun h => (iz123244 h).1) (by omega)
    have w123248 := (fun h => (iz123244 h).2) (by omega)
    refine lv_aload_n hx hb dX11_light_15 rfl (lv_at hl 0 rfl) ?_
    refine lv_iconst (v := 0) hx hb dX11_light_16 (by decide) ?_
    refine lv_bipush (v := 9) hx hb dX11_light_17 (by decide) ?_
    refine lv_iconst (v := 3) hx hb dX11_light_19 (by decide) ?_
    refine lv_aload_n hx hb dX11_light_20 rfl (lv_at hl 0 rfl) ?_
    refine t_get (C := RX11) (T := TX11) (N := 16) X hT m0 g0 rfl rfl 5 (by decide) qw_23 inlX11 rfl dX11_light_21 (fun v123249 hv123249 ov123249 => ?_)
    obtain ⟨b123250, rfl, mb123250, gb123250⟩ := okV_r ov123249
    have gb123250 : tag b123250 = 19 := tg_of gb123250
    refine t_get (C := RX7) (T := TX7) (N := 7) X hT mb123250 gb123250 rfl rfl 2 (by decide) qw_766 inlX7 rfl dX11_light_24 (fun v123251 hv123251 ov123251 => ?_)
    obtain ⟨b123252, rfl, mb123252, gb123252⟩ := okV_r ov123251
    have gb123252 : tag b123252 = 8 := tg_of gb123252
    refine lv_iload_n hx hb dX11_light_27 rfl (lv_at hl 1 rfl) ?_
    refine t_ild X hT mb123252 gb123252 rfl (by omega) dX11_light_28 (fun z123253 vz123253 rz123253 => ?_)
    have rz123253 : 0 ≤ z123253.toInt ∧ z123253.toInt ≤ 6 := rz123253
    refine lv_iload_n hx hb dX11_light_29 rfl (lv_at hl 2 rfl) ?_
    refine lv_isub hx hb dX11_light_30 ?_
    refine lv_topi (fun z123254 ez123254 => ?_)
    have hz123254 : z123254.toInt = z123253.toInt - p2.toInt := ar_sub ez123254 (rfl : z123253.toInt = z123253.toInt) (rfl : p2.toInt = p2.toInt) (by omega) (by omega)
    have rz123254 : (-6) ≤ z123254.toInt ∧ z123254.toInt ≤ 6 := by omega
    refine lv_imul hx hb dX11_light_31 ?_
    refine lv_topi (fun z123255 ez123255 => ?_)
    have hz123255 : z123255.toInt = 3 * z123254.toInt := ar_mul ez123255 (by decide : (3 : Int32).toInt = 3) (rfl : z123254.toInt = z123254.toInt) (by omega) (by omega)
    have rz123255 : (-18) ≤ z123255.toInt ∧ z123255.toInt ≤ 18 := by omega
    refine lv_isub hx hb dX11_light_32 ?_
    refine lv_topi (fun z123256 ez123256 => ?_)
    have hz123256 : z123256.toInt = 9 - z123255.toInt := ar_sub ez123256 (by decide : (9 : Int32).toInt = 9) (rfl : z123255.toInt = z123255.toInt) (by omega) (by omega)
    have rz123256 : (-9) ≤ z123256.toInt ∧ z123256.toInt ≤ 27 := by omega
    refine t_mmax X hl qw_848 qw_849 qw_850 qw_851 (Nat.le_of_ble_eq_true rfl) (Nat.le_of_ble_eq_true rfl) (Nat.le_of_ble_eq_true rfl) (Nat.le_of_ble_eq_true rfl) dX11_light_33 (fun z123257 ez123257 => ?_)
    have hz123257 := mmax_e ez123257 (by decide : (0 : Int32).toInt = 0) (rfl : z123256.toInt = z123256.toInt)
    refine t_cVi (n := 1) (C := RX11) (T := TX11) (N := 16) (As := [.int z123257]) (rest := []) X hT (kt350_X11_answer l G tag L F hT.2.2.2 p0 z123257 m0 g0) m0 g0 rfl rfl qw_463 qw_464 qw_465 qw_2 qw_466 ⟨rfl, by decide +kernel, by decide +kernel, by decide +kernel⟩ ⟨Nat.le_of_ble_eq_true rfl, Nat.le_of_ble_eq_true rfl⟩ hl rfl rfl (Nat.le_of_ble_eq_true rfl) dX11_light_36 ⟨Nat.le_of_ble_eq_true rfl, Nat.le_of_ble_eq_true rfl⟩ (fun z123258 F H locs hT hz123258 => ?_)
    obtain ⟨hz123258, yz123258⟩ := hz123258
    have hv123249 := (yz123258.1 _ 5 (Or.inr (by decide))).trans hv123249
    have hv123251 := (yz123258.1 _ 2 (Or.inr (by decide))).trans hv123251
    have hfr : (∀ b j : Nat, (tag b ≠ 26 ∨ j ≠ 13) → fld F b j = fld Fo b j) ∧ EF tag F Fo := ⟨fun b j n26_13 => (yz123258.1 b j n26_13).trans (hfr.1 b j n26_13), fun b j hb => (yz123258.2 b j hb).trans (hfr.2 b j hb)⟩
    exact t_iret hQ X hT (⟨rg_all _, hfr⟩) (Nat.le_of_ble_eq_true rfl) (Nat.le_of_ble_eq_true rfl) dX11_light_39
  · have w123259 := cv_eq (rfl : z123244.toInt = z123244.toInt) (by decide : (0 : Int32).toInt = 0) c123245
    refine lv_aload_n hx hb dX11_light_9 rfl (lv_at hl 0 rfl) ?_
    refine lv_iconst (v := 1) hx hb dX11_light_10 (by decide) ?_
    refine t_cVi (n := 1) (C := RX11) (T := TX11) (N := 16) (As := [.int 1]) (rest := []) X hT (kt357_X11_refuse l G tag L F hT.2.2.2 p0 1 m0 g0) m0 g0 rfl rfl qw_152 qw_153 qw_154 qw_2 qw_155 ⟨rfl, by decide +kernel, by decide +kernel, by decide +kernel⟩ ⟨Nat.le_of_ble_eq_true rfl, Nat.le_of_ble_eq_true rfl⟩ hl rfl rfl (Nat.le_of_ble_eq_true rfl) dX11_light_11 ⟨Nat.le_of_ble_eq_true rfl, Nat.le_of_ble_eq_true rfl⟩ (fun z123260 F H locs hT hz123260 => ?_)
    obtain ⟨hz123260, yz123260⟩ := hz123260
    have hfr : (∀ b j : Nat, (tag b ≠ 26 ∨ j ≠ 13) → fld F b j = fld Fo b j) ∧ EF tag F Fo := ⟨fun b j n26_13 => (yz123260.1 b j n26_13).trans (hfr.1 b j n26_13), fun b j hb => (yz123260.2 b j hb).trans (hfr.2 b j hb)⟩
    exact t_iret hQ X hT (⟨rg_all _, hfr⟩) (Nat.le_of_ble_eq_true rfl) (Nat.le_of_ble_eq_true rfl) dX11_light_14
set_option maxHeartbeats 4000000 in
set_option maxRecDepth 100000 in
theorem kt396_X11_lock (l : Launch) (G : KG) (tag : Nat → Nat) (L : List Nat) (Fo : Nat → va_E) (ho : okT G ttC tag L Fo) (p0 : Nat) (p1 : Int32) (p2 : Int32) (p3 : Int32) (m0 : p0 ∈ L) (g0 : tag p0 = 26) : TMi l yX11_lock cX11_lock 4 (some .boolean) { frames := 3, cells := 0, slots := 0, locals := 66 } G ttC tag L Fo [.ref p0, .int p1, .int p2, .int p3] (fun r F1 => (0 ≤ r.toInt ∧ r.toInt ≤ 1) ∧ ((∀ b j : Nat, (tag b ≠ 19 ∨ j ≠ 0) → (tag b ≠ 19 ∨ j ≠ 1) → (tag b ≠ 23 ∨ j ≠ 2) → (tag b ≠ 23 ∨ j ≠ 3) → (tag b ≠ 26 ∨ j ≠ 13) → fld F1 b j = fld Fo b j) ∧ EF tag F1 Fo)) := by
  refine t_bodyi (y := yX11_lock) (cd := cX11_lock) (mL := 4) (rt := (some .boolean)) (rm := { frames := 3, cells := 0, slots := 0, locals := 66 }) (av := [.ref p0, .int p1, .int p2, .int p3]) (by decide) (Nat.le_of_ble_eq_true rfl) ho ?_
  intro p e s m args below meth c ls A Q hQ X hT hl
  have hx := X.1.1
  have hb := X.1.2.1
  have hl : lv_has ls 4 [(0, .ref p0), (1, .int p1), (2, .int p2), (3, .int p3)] := hl
  have rp1 := rg_all p1
  have rp2 := rg_all p2
  have rp3 := rg_all p3
  obtain ⟨F, hFo⟩ : ∃ F : Nat → va_E, F = Fo := ⟨_, rfl⟩
  rw [← hFo] at hT
  have hfr : (∀ b j : Nat, (tag b ≠ 19 ∨ j ≠ 0) → (tag b ≠ 19 ∨ j ≠ 1) → (tag b ≠ 23 ∨ j ≠ 2) → (tag b ≠ 23 ∨ j ≠ 3) → (tag b ≠ 26 ∨ j ≠ 13) → fld F b j = fld Fo b j) ∧ EF tag F Fo := by
    rw [hFo]
    exact ⟨by intros; rfl, fun _ _ _ => rfl⟩
  have K25 : ∀  (F : Nat → va_E) (H : Heap) (locs : List Loc) (ls : Array Slot), (0 ≤ p1.toInt ∧ p1.toInt ≤ 3) → (1 ≤ p2.toInt ∧ p2.toInt ≤ 6) → TH G ttC A s tag L F H locs → ((∀ b j : Nat, (tag b ≠ 19 ∨ j ≠ 0) → (tag b ≠ 19 ∨ j ≠ 1) → (tag b ≠ 23 ∨ j ≠ 2) → (tag b ≠ 23 ∨ j ≠ 3) → (tag b ≠ 26 ∨ j ≠ 13) → fld F b j = fld Fo b j) ∧ EF tag F Fo) → lv_has ls 4 [(0, .ref p0), (1, .int p1), (2, .int p2), (3, .int p3)] → W p l e { frames := 3, cells := 0, slots := 0, locals := 66 } s m args below meth c H locs 0 0 Q (F0 m 25 ls []) := by
    intro F H locs ls r9s123580 r9s123581 hT hfr hl
    refine lv_aload_n hx hb dX11_lock_25 rfl (lv_at hl 0 rfl) ?_
    refine lv_iconst (v := 2) hx hb dX11_lock_26 (by decide) ?_
    refine t_cVi (n := 1) (C := RX11) (T := TX11) (N := 16) (As := [.int 2]) (rest := []) X hT (kt352_X11_no l G tag L F hT.2.2.2 p0 2 m0 g0) m0 g0 rfl rfl qw_1454 qw_1455 qw_1456 qw_2 qw_1457 ⟨rfl, by decide +kernel, by decide +kernel, by decide +kernel⟩ ⟨Nat.le_of_ble_eq_true rfl, Nat.le_of_ble_eq_true rfl⟩ hl rfl rfl (Nat.le_of_ble_eq_true rfl) dX11_lock_27 ⟨Nat.le_of_ble_eq_true rfl, Nat.le_of_ble_eq_true rfl⟩ (fun z123582 F H locs hT hz123582 => ?_)
    obtain ⟨hz123582, yz123582⟩ := hz123582
    have hfr : (∀ b j : Nat, (tag b ≠ 19 ∨ j ≠ 0) → (tag b ≠ 19 ∨ j ≠ 1) → (tag b ≠ 23 ∨ j ≠ 2) → (tag b ≠ 23 ∨ j ≠ 3) → (tag b ≠ 26 ∨ j ≠ 13) → fld F b j = fld Fo b j) ∧ EF tag F Fo := ⟨fun b j n19_0 n19_1 n23_2 n23_3 n26_13 => (yz123582.1 b j n26_13).trans (hfr.1 b j n19_0 n19_1 n23_2 n23_3 n26_13), fun b j hb => (yz123582.2 b j hb).trans (hfr.2 b j hb)⟩
    exact t_zret hQ X hT (nar_z (by omega)) (⟨(by omega), hfr⟩) (Nat.le_of_ble_eq_true rfl) (Nat.le_of_ble_eq_true rfl) dX11_lock_30
  refine lv_aload_n hx hb dX11_lock_0 rfl (lv_at hl 0 rfl) ?_
  refine lv_iload_n hx hb dX11_lock_1 rfl (lv_at hl 1 rfl) ?_
  refine lv_iload_n hx hb dX11_lock_2 rfl (lv_at hl 2 rfl) ?_
  refine t_cVi (n := 2) (C := RX11) (T := TX11) (N := 16) (As := [.int p1, .int p2]) (rest := []) X hT (kt364_X11_isSkin l G tag L F hT.2.2.2 p0 p1 p2 m0 g0) m0 g0 rfl rfl qw_823 qw_824 qw_825 qw_2 qw_826 ⟨rfl, by decide +kernel, by decide +kernel, by decide +kernel⟩ ⟨Nat.le_of_ble_eq_true rfl, Nat.le_of_ble_eq_true rfl⟩ hl rfl rfl (Nat.le_of_ble_eq_true rfl) dX11_lock_3 ⟨Nat.le_of_ble_eq_true rfl, Nat.le_of_ble_eq_true rfl⟩ (fun z123583 F9 H locs hT hz123583 => ?_)
  obtain ⟨fz123583, hz123583⟩ := hz123583
  rw [fz123583] at hT
  obtain ⟨hz123583, iz123583⟩ := hz123583
  refine lv_if_ne (tgt := 15) hx hb dX11_lock_6 (by decide) (fun c123584 => ?_) (fun c123584 => ?_)
  · have w123585 := cv_ne (rfl : z123583.toInt = z123583.toInt) (by decide : (0 : Int32).toInt = 0) c123584
    have w123586 := (fun h => (iz123583 h).1) (by omega)
    have w123587 := (fun h => (iz123583 h).2) (by omega)
    refine lv_iload_n hx hb dX11_lock_15 rfl (lv_at hl 3 rfl) ?_
    refine lv_if_lt (tgt := 25) hx hb dX11_lock_16 (by decide) (fun c123588 => ?_) (fun c123588 => ?_)
    · have w123589 := cv_lt (rfl : p3.toInt = p3.toInt) (by decide : (0 : Int32).toInt = 0) c123588
      exact K25  _ _ _ _ (by omega) (by omega) hT hfr  (lv_sub hl [0, 1, 2, 3] rfl)
    · have w123590 := cv_nlt (rfl : p3.toInt = p3.toInt) (by decide : (0 : Int32).toInt = 0) c123588
      refine lv_iload_n hx hb dX11_lock_19 rfl (lv_at hl 3 rfl) ?_
      refine lv_bipush (v := 99) hx hb dX11_lock_20 (by decide) ?_
      refine lv_icmp_le (tgt := 31) hx hb dX11_lock_22 (by decide) (fun c123591 => ?_) (fun c123591 => ?_)
      · have w123592 := cv_le (rfl : p3.toInt = p3.toInt) (by decide : (99 : Int32).toInt = 99) c123591
        refine lv_aload_n hx hb dX11_lock_31 rfl (lv_at hl 0 rfl) ?_
        refine t_get (C := RX11) (T := TX11) (N := 16) X hT m0 g0 rfl rfl 5 (by decide) qw_23 inlX11 rfl dX11_lock_32 (fun v123593 hv123593 ov123593 => ?_)
        obtain ⟨b123594, rfl, mb123594, gb123594⟩ := okV_r ov123593
        have gb123594 : tag b123594 = 19 := tg_of gb123594
        refine lv_iload_n hx hb dX11_lock_35 rfl (lv_at hl 1 rfl) ?_
        refine lv_iload_n hx hb dX11_lock_36 rfl (lv_at hl 2 rfl) ?_
        refine lv_iconst (v := 3) hx hb dX11_lock_37 (by decide) ?_
        refine t_cVi (n := 3) (C := RX7) (T := TX7) (N := 7) (As := [.int p1, .int p2, .int 3]) (rest := []) X hT (kt309_X7_partOf l G tag L F hT.2.2.2 b123594 p1 p2 3 mb123594 gb123594) mb123594 gb123594 rfl rfl qw_831 qw_778 qw_779 qw_22 qw_780 ⟨rfl, by decide +kernel, by decide +kernel, by decide +kernel⟩ ⟨Nat.le_of_ble_eq_true rfl, Nat.le_of_ble_eq_true rfl⟩ hl rfl rfl (Nat.le_of_ble_eq_true rfl) dX11_lock_38 ⟨Nat.le_of_ble_eq_true rfl, Nat.le_of_ble_eq_true rfl⟩ (fun z123595 F9 H locs hT hz123595 => ?_)
        obtain ⟨fz123595, hz123595⟩ := hz123595
        rw [fz123595] at hT
        refine lv_iload_n hx hb dX11_lock_41 rfl (lv_at hl 3 rfl) ?_
        refine lv_icmp_ne (tgt := 51) hx hb dX11_lock_42 (by decide) (fun c123596 => ?_) (fun c123596 => ?_)
        · have w123597 := cv_ne (rfl : z123595.toInt = z123595.toInt) (rfl : p3.toInt = p3.toInt) c123596
          refine lv_aload_n hx hb dX11_lock_51 rfl (lv_at hl 0 rfl) ?_
          refine t_get (C := RX11) (T := TX11) (N := 16) X hT m0 g0 rfl rfl 12 (by decide) qw_45 inlX11 rfl dX11_lock_52 (fun v123598 hv123598 ov123598 => ?_)
          obtain ⟨b123599, rfl, mb123599, gb123599⟩ := okV_r ov123598
          have gb123599 : tag b123599 = 23 := tg_of gb123599
          refine lv_aload_n hx hb dX11_lock_55 rfl (lv_at hl 0 rfl) ?_
          refine t_get (C := RX11) (T := TX11) (N := 16) X hT m0 g0 rfl rfl 5 (by decide) qw_23 inlX11 rfl dX11_lock_56 (fun v123600 hv123600 ov123600 => ?_)
          obtain rfl : v123600 = .ref b123594 := hv123600.symm.trans hv123593
          refine t_cVv (n := 1) (C := RX2) (T := TX2) (N := 5) (As := [.ref b123594]) (rest := []) X hT (kt360_X2_keep l G tag L F hT.2.2.2 b123599 b123594 mb123599 gb123599 mb123594 gb123594) mb123599 gb123599 rfl rfl qw_1427 qw_1428 qw_1429 qw_44 qw_1430 ⟨rfl, by decide +kernel, by decide +kernel, by decide +kernel⟩ ⟨Nat.le_of_ble_eq_true rfl, Nat.le_of_ble_eq_true rfl⟩ hl rfl rfl (Nat.le_of_ble_eq_true rfl) dX11_lock_59 ⟨Nat.le_of_ble_eq_true rfl, Nat.le_of_ble_eq_true rfl⟩ (fun F H locs hT hz123601 => ?_)
          have yz123601 := hz123601
          have hv123593 := (yz123601.1 _ 5 (Or.inr (by decide)) (Or.inr (by decide)) (Or.inr (by decide)) (Or.inr (by decide))).trans hv123593
          have hv123598 := (yz123601.1 _ 12 (Or.inr (by decide)) (Or.inr (by decide)) (Or.inr (by decide)) (Or.inr (by decide))).trans hv123598
          have hfr : (∀ b j : Nat, (tag b ≠ 19 ∨ j ≠ 0) → (tag b ≠ 19 ∨ j ≠ 1) → (tag b ≠ 23 ∨ j ≠ 2) → (tag b ≠ 23 ∨ j ≠ 3) → (tag b ≠ 26 ∨ j ≠ 13) → fld F b j = fld Fo b j) ∧ EF tag F Fo := ⟨fun b j n19_0 n19_1 n23_2 n23_3 n26_13 => (yz123601.1 b j n19_0 n19_1 n23_2 n23_3).trans (hfr.1 b j n19_0 n19_1 n23_2 n23_3 n26_13), fun b j hb => (yz123601.2 b j hb).trans (hfr.2 b j hb)⟩
          refine lv_aload_n hx hb dX11_lock_62 rfl (lv_at hl 0 rfl) ?_
          refine t_get (C := RX11) (T := TX11) (N := 16) X hT m0 g0 rfl rfl 5 (by decide) qw_23 inlX11 rfl dX11_lock_63 (fun v123602 hv123602 ov123602 => ?_)
          obtain rfl : v123602 = .ref b123594 := hv123602.symm.trans hv123593
          refine lv_iload_n hx hb dX11_lock_66 rfl (lv_at hl 1 rfl) ?_
          refine lv_iload_n hx hb dX11_lock_67 rfl (lv_at hl 2 rfl) ?_
          refine lv_iconst (v := 3) hx hb dX11_lock_68 (by decide) ?_
          refine lv_iload_n hx hb dX11_lock_69 rfl (lv_at hl 3 rfl) ?_
          refine t_cVv (n := 4) (C := RX7) (T := TX7) (N := 7) (As := [.int p1, .int p2, .int 3, .int p3]) (rest := []) X hT (kt310_X7_setPart l G tag L F hT.2.2.2 b123594 p1 p2 3 p3 mb123594 gb123594) mb123594 gb123594 rfl rfl qw_1459 qw_423 qw_424 qw_22 qw_425 ⟨rfl, by decide +kernel, by decide +kernel, by decide +kernel⟩ ⟨Nat.le_of_ble_eq_true rfl, Nat.le_of_ble_eq_true rfl⟩ hl rfl rfl (Nat.le_of_ble_eq_true rfl) dX11_lock_70 ⟨Nat.le_of_ble_eq_true rfl, Nat.le_of_ble_eq_true rfl⟩ (fun F H locs hT hz123603 => ?_)
          have yz123603 := hz123603
          have hv123593 := (yz123603.1 _ 5 ).trans hv123593
          have hv123598 := (yz123603.1 _ 12 ).trans hv123598
          have hfr : (∀ b j : Nat, (tag b ≠ 19 ∨ j ≠ 0) → (tag b ≠ 19 ∨ j ≠ 1) → (tag b ≠ 23 ∨ j ≠ 2) → (tag b ≠ 23 ∨ j ≠ 3) → (tag b ≠ 26 ∨ j ≠ 13) → fld F b j = fld Fo b j) ∧ EF tag F Fo := ⟨fun b j n19_0 n19_1 n23_2 n23_3 n26_13 => (yz123603.1 b j ).trans (hfr.1 b j n19_0 n19_1 n23_2 n23_3 n26_13), fun b j hb => (yz123603.2 b j hb).trans (hfr.2 b j hb)⟩
          refine lv_aload_n hx hb dX11_lock_73 rfl (lv_at hl 0 rfl) ?_
          refine t_cVi (n := 0) (C := RX11) (T := TX11) (N := 16) (As := []) (rest := []) X hT (kt353_X11_yes l G tag L F hT.2.2.2 p0 m0 g0) m0 g0 rfl rfl qw_1460 qw_1461 qw_1462 qw_2 qw_1463 ⟨rfl, by decide +kernel, by decide +kernel, by decide +kernel⟩ ⟨Nat.le_of_ble_eq_true rfl, Nat.le_of_ble_eq_true rfl⟩ hl rfl rfl (Nat.le_of_ble_eq_true rfl) dX11_lock_74 ⟨Nat.le_of_ble_eq_true rfl, Nat.le_of_ble_eq_true rfl⟩ (fun z123604 F H locs hT hz123604 => ?_)
          obtain ⟨hz123604, yz123604⟩ := hz123604
          have hv123593 := (yz123604.1 _ 5 (Or.inr (by decide))).trans hv123593
          have hv123598 := (yz123604.1 _ 12 (Or.inr (by decide))).trans hv123598
          have hfr : (∀ b j : Nat, (tag b ≠ 19 ∨ j ≠ 0) → (tag b ≠ 19 ∨ j ≠ 1) → (tag b ≠ 23 ∨ j ≠ 2) → (tag b ≠ 23 ∨ j ≠ 3) → (tag b ≠ 26 ∨ j ≠ 13) → fld F b j = fld Fo b j) ∧ EF tag F Fo := ⟨fun b j n19_0 n19_1 n23_2 n23_3 n26_13 => (yz123604.1 b j n26_13).trans (hfr.1 b j n19_0 n19_1 n23_2 n23_3 n26_13), fun b j hb => (yz123604.2 b j hb).trans (hfr.2 b j hb)⟩
          exact t_zret hQ X hT (nar_z (by omega)) (⟨(by omega), hfr⟩) (Nat.le_of_ble_eq_true rfl) (Nat.le_of_ble_eq_true rfl) dX11_lock_77
        · have w123605 := cv_eq (rfl : z123595.toInt = z123595.toInt) (rfl : p3.toInt = p3.toInt) c123596
          refine lv_aload_n hx hb dX11_lock_45 rfl (lv_at hl 0 rfl) ?_
          refine lv_iconst (v := 5) hx hb dX11_lock_46 (by decide) ?_
          refine t_cVi (n := 1) (C := RX11) (T := TX11) (N := 16) (As := [.int 5]) (rest := []) X hT (kt352_X11_no l G tag L F hT.2.2.2 p0 5 m0 g0) m0 g0 rfl rfl qw_1454 qw_1455 qw_1456 qw_2 qw_1457 ⟨rfl, by decide +kernel, by decide +kernel, by decide +kernel⟩ ⟨Nat.le_of_ble_eq_true rfl, Nat.le_of_ble_eq_true rfl⟩ hl rfl rfl (Nat.le_of_ble_eq_true rfl) dX11_lock_47 ⟨Nat.le_of_ble_eq_true rfl, Nat.le_of_ble_eq_true rfl⟩ (fun z123606 F H locs hT hz123606 => ?_)
          obtain ⟨hz123606, yz123606⟩ := hz123606
          have hv123593 := (yz123606.1 _ 5 (Or.inr (by decide))).trans hv123593
          have hfr : (∀ b j : Nat, (tag b ≠ 19 ∨ j ≠ 0) → (tag b ≠ 19 ∨ j ≠ 1) → (tag b ≠ 23 ∨ j ≠ 2) → (tag b ≠ 23 ∨ j ≠ 3) → (tag b ≠ 26 ∨ j ≠ 13) → fld F b j = fld Fo b j) ∧ EF tag F Fo := ⟨fun b j n19_0 n19_1 n23_2 n23_3 n26_13 => (yz123606.1 b j n26_13).trans (hfr.1 b j n19_0 n19_1 n23_2 n23_3 n26_13), fun b j hb => (yz123606.2 b j hb).trans (hfr.2 b j hb)⟩
          exact t_zret hQ X hT (nar_z (by omega)) (⟨(by omega), hfr⟩) (Nat.le_of_ble_eq_true rfl) (Nat.le_of_ble_eq_true rfl) dX11_lock_50
      · have w123607 := cv_nle (rfl : p3.toInt = p3.toInt) (by decide : (99 : Int32).toInt = 99) c123591
        exact K25  _ _ _ _ (by omega) (by omega) hT hfr  (lv_sub hl [0, 1, 2, 3] rfl)
  · have w123608 := cv_eq (rfl : z123583.toInt = z123583.toInt) (by decide : (0 : Int32).toInt = 0) c123584
    refine lv_aload_n hx hb dX11_lock_9 rfl (lv_at hl 0 rfl) ?_
    refine lv_iconst (v := 1) hx hb dX11_lock_10 (by decide) ?_
    refine t_cVi (n := 1) (C := RX11) (T := TX11) (N := 16) (As := [.int 1]) (rest := []) X hT (kt352_X11_no l G tag L F hT.2.2.2 p0 1 m0 g0) m0 g0 rfl rfl qw_1454 qw_1455 qw_1456 qw_2 qw_1457 ⟨rfl, by decide +kernel, by decide +kernel, by decide +kernel⟩ ⟨Nat.le_of_ble_eq_true rfl, Nat.le_of_ble_eq_true rfl⟩ hl rfl rfl (Nat.le_of_ble_eq_true rfl) dX11_lock_11 ⟨Nat.le_of_ble_eq_true rfl, Nat.le_of_ble_eq_true rfl⟩ (fun z123609 F H locs hT hz123609 => ?_)
    obtain ⟨hz123609, yz123609⟩ := hz123609
    have hfr : (∀ b j : Nat, (tag b ≠ 19 ∨ j ≠ 0) → (tag b ≠ 19 ∨ j ≠ 1) → (tag b ≠ 23 ∨ j ≠ 2) → (tag b ≠ 23 ∨ j ≠ 3) → (tag b ≠ 26 ∨ j ≠ 13) → fld F b j = fld Fo b j) ∧ EF tag F Fo := ⟨fun b j n19_0 n19_1 n23_2 n23_3 n26_13 => (yz123609.1 b j n26_13).trans (hfr.1 b j n19_0 n19_1 n23_2 n23_3 n26_13), fun b j hb => (yz123609.2 b j hb).trans (hfr.2 b j hb)⟩
    exact t_zret hQ X hT (nar_z (by omega)) (⟨(by omega), hfr⟩) (Nat.le_of_ble_eq_true rfl) (Nat.le_of_ble_eq_true rfl) dX11_lock_14
