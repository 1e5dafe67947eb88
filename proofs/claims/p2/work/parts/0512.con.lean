set_option maxHeartbeats 4000000 in
set_option maxRecDepth 100000 in
theorem kt96_X8_takeWhole (l : Launch) (G : KG) (tag : Nat → Nat) (L : List Nat) (Fo : Nat → va_E) (ho : okT G ttC tag L Fo) (p0 : Nat) (x0 : Nat) (m0 : p0 ∈ L) (g0 : tag p0 = 24) (mx0 : x0 ∈ L) (gx0 : tag x0 = 1) (pf0 : fld Fo p0 0 = .ref x0) : TMv l yX8_takeWhole cX8_takeWhole 1 { frames := 1, cells := 0, slots := 0, locals := 21 } G ttC tag L Fo [.ref p0] (fun F1 => ((∀ b j : Nat, (tag b ≠ 24 ∨ j ≠ 2) → (tag b ≠ 24 ∨ j ≠ 3) → (tag b ≠ 24 ∨ j ≠ 6) → fld F1 b j = fld Fo b j) ∧ EF tag F1 Fo)) := by
  refine t_bodyv (y := yX8_takeWhole) (cd := cX8_takeWhole) (mL := 1) (rm := { frames := 1, cells := 0, slots := 0, locals := 21 }) (av := [.ref p0]) (by decide) (Nat.le_of_ble_eq_true rfl) ho ?_
  intro p e s m args below meth c ls A Q hQ X hT hl
  have hx := X.1.1
  have hb := X.1.2.1
  have hl : lv_has ls 1 [(0, .ref p0)] := hl
  obtain ⟨F, hFo⟩ : ∃ F : Nat → va_E, F = Fo := ⟨_, rfl⟩
  rw [← hFo] at hT pf0
  have hfr : (∀ b j : Nat, (tag b ≠ 24 ∨ j ≠ 2) → (tag b ≠ 24 ∨ j ≠ 3) → (tag b ≠ 24 ∨ j ≠ 6) → fld F b j = fld Fo b j) ∧ EF tag F Fo := by
    rw [hFo]
    exact ⟨by intros; rfl, fun _ _ _ => rfl⟩
  have K85 : ∀ (z33841 : Int32) (b33842 : Nat) (z33843 : Int32) (z33844 : Int32) (z33845 : Int32) (z33846 : Int32) (F : Nat → va_E) (H : Heap) (locs : List Loc) (ls : Array Slot), (2 ≤ z33841.toInt ∧ z33841.toInt ≤ 4) → (b33842 ∈ L) → (tag b33842 = 24) → (0 ≤ z33844.toInt ∧ z33844.toInt ≤ 1000) → (0 ≤ z33845.toInt ∧ z33845.toInt ≤ 1000) → (0 ≤ z33846.toInt ∧ z33846.toInt ≤ 1000) → TH G ttC A s tag L F H locs → ((∀ b j : Nat, (tag b ≠ 24 ∨ j ≠ 2) → (tag b ≠ 24 ∨ j ≠ 3) → (tag b ≠ 24 ∨ j ≠ 6) → fld F b j = fld Fo b j) ∧ EF tag F Fo) → fld F p0 0 = .ref x0 → fld F p0 6 = .int z33843 → fld F p0 2 = .int z33844 → fld F p0 1 = .int z33845 → fld F p0 4 = .int z33846 → lv_has ls 1 [(0, .ref p0)] → W p l e { frames := 1, cells := 0, slots := 0, locals := 21 } s m args below meth c H locs 0 0 Q (F0 m 85 ls [.int z33841, .ref b33842]) := by
    intro z33841 b33842 z33843 z33844 z33845 z33846 F H locs ls rz33841 mb33842 gb33842 rz33844 rz33845 rz33846 hT hfr pf0 qz33843 qz33844 qz33845 qz33846 hl
    have rz33843 := rg_all z33843
    refine t_put (C := RX8) (T := TX8) (N := 8) (v := .int z33841) X hT mb33842 gb33842 rfl tyX8 tyX8_ok nmX8 rfl 3 (by decide) qw_202 inlX8 rfl (by first | rfl | decide) (by first | rfl | decide) rfl (⟨_, rfl, (show (-2147483648) ≤ (z33841 : Int32).toInt from (by omega)), (show (z33841 : Int32).toInt ≤ 2147483647 from (by omega))⟩) dX8_takeWhole_85 (fun F H locs hT v33847 h1v33847 h2v33847 => ?_)
    have qz33843 := (h1v33847 _ _ (Or.inr (by decide))).trans qz33843
    have qz33844 := (h1v33847 _ _ (Or.inr (by decide))).trans qz33844
    have qz33845 := (h1v33847 _ _ (Or.inr (by decide))).trans qz33845
    have qz33846 := (h1v33847 _ _ (Or.inr (by decide))).trans qz33846
    have pf0 := (h1v33847 _ _ (Or.inr (by decide))).trans pf0
    have hfr : (∀ b j : Nat, (tag b ≠ 24 ∨ j ≠ 2) → (tag b ≠ 24 ∨ j ≠ 3) → (tag b ≠ 24 ∨ j ≠ 6) → fld F b j = fld Fo b j) ∧ EF tag F Fo := ⟨fun b j n24_2 n24_3 n24_6 => (h1v33847 b j (fr_ne gb33842 n24_3)).trans (hfr.1 b j n24_2 n24_3 n24_6), fun b j hb => (h2v33847 b j).trans (hfr.2 b j hb)⟩
    exact t_vret hQ X hT hfr (Nat.le_of_ble_eq_true rfl) (Nat.le_of_ble_eq_true rfl) dX8_takeWhole_88
  have K66 : ∀ (z33848 : Int32) (z33849 : Int32) (z33850 : Int32) (F : Nat → va_E) (H : Heap) (locs : List Loc) (ls : Array Slot), (0 ≤ z33849.toInt ∧ z33849.toInt ≤ 1000) → (0 ≤ z33850.toInt ∧ z33850.toInt ≤ 1000) → TH G ttC A s tag L F H locs → ((∀ b j : Nat, (tag b ≠ 24 ∨ j ≠ 2) → (tag b ≠ 24 ∨ j ≠ 3) → (tag b ≠ 24 ∨ j ≠ 6) → fld F b j = fld Fo b j) ∧ EF tag F Fo) → fld F p0 0 = .ref x0 → fld F p0 6 = .int z33848 → fld F p0 2 = .int z33849 → fld F p0 1 = .int z33850 → lv_has ls 1 [(0, .ref p0)] → W p l e { frames := 1, cells := 0, slots := 0, locals := 21 } s m args below meth c H locs 0 0 Q (F0 m 66 ls []) := by
    intro z33848 z33849 z33850 F H locs ls rz33849 rz33850 hT hfr pf0 qz33848 qz33849 qz33850 hl
    have rz33848 := rg_all z33848
    refine lv_aload_n hx hb dX8_takeWhole_66 rfl (lv_at hl 0 rfl) ?_
    refine lv_aload_n hx hb dX8_takeWhole_67 rfl (lv_at hl 0 rfl) ?_
    refine t_get (C := RX8) (T := TX8) (N := 8) X hT m0 g0 rfl rfl 2 (by decide) qw_195 inlX8 rfl dX8_takeWhole_68 (fun v33851 hv33851 ov33851 => ?_)
    obtain rfl : v33851 = .int z33849 := hv33851.symm.trans qz33849
    refine lv_aload_n hx hb dX8_takeWhole_71 rfl (lv_at hl 0 rfl) ?_
    refine t_get (C := RX8) (T := TX8) (N := 8) X hT m0 g0 rfl rfl 4 (by decide) qw_200 inlX8 rfl dX8_takeWhole_72 (fun v33852 hv33852 ov33852 => ?_)
    obtain ⟨z33853, rfl, rz33853⟩ := okV_i ov33852
    refine lv_isub hx hb dX8_takeWhole_75 ?_
    refine lv_topi (fun z33854 ez33854 => ?_)
    have hz33854 : z33854.toInt = z33849.toInt - z33853.toInt := ar_sub ez33854 (rfl : z33849.toInt = z33849.toInt) (rfl : z33853.toInt = z33853.toInt) (by omega) (by omega)
    have rz33854 : (-1000) ≤ z33854.toInt ∧ z33854.toInt ≤ 1000 := by omega
    refine lv_iconst (v := 3) hx hb dX8_takeWhole_76 (by decide) ?_
    refine lv_icmp_le (tgt := 84) hx hb dX8_takeWhole_77 (by decide) (fun c33855 => ?_) (fun c33855 => ?_)
    · have w33856 := cv_le (rfl : z33854.toInt = z33854.toInt) (by decide : (3 : Int32).toInt = 3) c33855
      refine lv_iconst (v := 2) hx hb dX8_takeWhole_84 (by decide) ?_
      exact K85 2 p0 z33848 z33849 z33850 z33853 _ _ _ _ (by decide) m0 g0 (by omega) (by omega) (by omega) hT hfr pf0 qz33848 qz33849 qz33850 hv33852 (lv_sub hl [0] rfl)
    · have w33857 := cv_nle (rfl : z33854.toInt = z33854.toInt) (by decide : (3 : Int32).toInt = 3) c33855
      refine lv_iconst (v := 4) hx hb dX8_takeWhole_80 (by decide) ?_
      refine lv_goto (tgt := 85) hx hb dX8_takeWhole_81 (by decide) ?_
      exact K85 4 p0 z33848 z33849 z33850 z33853 _ _ _ _ (by decide) m0 g0 (by omega) (by omega) (by omega) hT hfr pf0 qz33848 qz33849 qz33850 hv33852 (lv_sub hl [0] rfl)
  have K5 : ∀ (n : Nat) (z33858 : Int32) (z33859 : Int32) (F : Nat → va_E) (H : Heap) (locs : List Loc) (ls : Array Slot), (1000 - z33859.toInt < (n : Int)) → (0 ≤ z33859.toInt ∧ z33859.toInt ≤ 1000) → TH G ttC A s tag L F H locs → ((∀ b j : Nat, (tag b ≠ 24 ∨ j ≠ 2) → (tag b ≠ 24 ∨ j ≠ 3) → (tag b ≠ 24 ∨ j ≠ 6) → fld F b j = fld Fo b j) ∧ EF tag F Fo) → fld F p0 0 = .ref x0 → fld F p0 6 = .int z33858 → fld F p0 2 = .int z33859 → lv_has ls 1 [(0, .ref p0)] → W p l e { frames := 1, cells := 0, slots := 0, locals := 21 } s m args below meth c H locs 0 0 Q (F0 m 5 ls []) := by
    intro n
    induction n with
    | zero =>
      intro z33858 z33859 F H locs ls hn rz33859 hT hfr pf0 qz33858 qz33859 hl
      have rz33858 := rg_all z33858
      exfalso
      omega
    | succ n ih5 =>
      intro z33858 z33859 F H locs ls hn rz33859 hT hfr pf0 qz33858 qz33859 hl
      have rz33858 := rg_all z33858
      refine lv_aload_n hx hb dX8_takeWhole_5 rfl (lv_at hl 0 rfl) ?_
      refine t_get (C := RX8) (T := TX8) (N := 8) X hT m0 g0 rfl rfl 2 (by decide) qw_195 inlX8 rfl dX8_takeWhole_6 (fun v33860 hv33860 ov33860 => ?_)
      obtain rfl : v33860 = .int z33859 := hv33860.symm.trans qz33859
      refine lv_aload_n hx hb dX8_takeWhole_9 rfl (lv_at hl 0 rfl) ?_
      refine t_get (C := RX8) (T := TX8) (N := 8) X hT m0 g0 rfl rfl 1 (by decide) qw_194 inlX8 rfl dX8_takeWhole_10 (fun v33861 hv33861 ov33861 => ?_)
      obtain ⟨z33862, rfl, rz33862⟩ := okV_i ov33861
      refine lv_icmp_ge (tgt := 66) hx hb dX8_takeWhole_13 (by decide) (fun c33863 => ?_) (fun c33863 => ?_)
      · have w33864 := cv_le (rfl : z33862.toInt = z33862.toInt) (rfl : z33859.toInt = z33859.toInt) c33863
        exact K66 z33858 z33859 z33862 _ _ _ _ (by omega) (by omega) hT hfr pf0 qz33858 qz33859 hv33861 (lv_sub hl [0] rfl)
      · have w33865 := cv_nle (rfl : z33862.toInt = z33862.toInt) (rfl : z33859.toInt = z33859.toInt) c33863
        refine lv_aload_n hx hb dX8_takeWhole_16 rfl (lv_at hl 0 rfl) ?_
        refine lv_aload_n hx hb dX8_takeWhole_17 rfl (lv_at hl 0 rfl) ?_
        refine t_get (C := RX8) (T := TX8) (N := 8) X hT m0 g0 rfl rfl 2 (by decide) qw_195 inlX8 rfl dX8_takeWhole_18 (fun v33866 hv33866 ov33866 => ?_)
        obtain rfl : v33866 = .int z33859 := hv33866.symm.trans qz33859
        refine t_cVi (n := 1) (C := RX8) (T := TX8) (N := 8) (As := [.int z33859]) (rest := []) X hT (kt93_X8_byteAt l G tag L F hT.2.2.2 p0 z33859 x0 m0 g0 mx0 gx0 pf0) m0 g0 rfl rfl qw_204 qw_205 qw_206 qw_72 qw_207 ⟨rfl, by decide +kernel, by decide +kernel, by decide +kernel⟩ ⟨Nat.le_of_ble_eq_true rfl, Nat.le_of_ble_eq_true rfl⟩ hl rfl rfl (Nat.le_of_ble_eq_true rfl) dX8_takeWhole_21 ⟨Nat.le_of_ble_eq_true rfl, Nat.le_of_ble_eq_true rfl⟩ (fun z33867 F9 H locs hT hz33867 => ?_)
        obtain ⟨fz33867, hz33867⟩ := hz33867
        rw [fz33867] at hT
        obtain ⟨hz33867, iz33867⟩ := hz33867
        refine t_cSi (n := 1) (As := [.int z33867]) (rest := []) X hT (kt95_X8_isDigit l G tag L F hT.2.2.2 z33867 ) qw_216 qw_217 qw_72 qw_218 ⟨by decide +kernel, by decide +kernel, by decide +kernel⟩ ⟨Nat.le_of_ble_eq_true rfl, Nat.le_of_ble_eq_true rfl⟩ hl rfl rfl (Nat.le_of_ble_eq_true rfl) dX8_takeWhole_24 ⟨Nat.le_of_ble_eq_true rfl, Nat.le_of_ble_eq_true rfl⟩ (fun z33868 F9 H locs hT hz33868 => ?_)
        obtain ⟨fz33868, hz33868⟩ := hz33868
        rw [fz33868] at hT
        refine lv_if_eq (tgt := 66) hx hb dX8_takeWhole_27 (by decide) (fun c33869 => ?_) (fun c33869 => ?_)
        · have w33870 := cv_eq (rfl : z33868.toInt = z33868.toInt) (by decide : (0 : Int32).toInt = 0) c33869
          exact K66 z33858 z33859 z33862 _ _ _ _ (by omega) (by omega) hT hfr pf0 qz33858 qz33859 hv33861 (lv_sub hl [0] rfl)
        · have w33871 := cv_ne (rfl : z33868.toInt = z33868.toInt) (by decide : (0 : Int32).toInt = 0) c33869
          refine lv_aload_n hx hb dX8_takeWhole_30 rfl (lv_at hl 0 rfl) ?_
          refine lv_aload_n hx hb dX8_takeWhole_31 rfl (lv_at hl 0 rfl) ?_
          refine t_get (C := RX8) (T := TX8) (N := 8) X hT m0 g0 rfl rfl 6 (by decide) qw_203 inlX8 rfl dX8_takeWhole_32 (fun v33872 hv33872 ov33872 => ?_)
          obtain rfl : v33872 = .int z33858 := hv33872.symm.trans qz33858
          refine lv_bipush (v := 10) hx hb dX8_takeWhole_35 (by decide) ?_
          refine lv_imul hx hb dX8_takeWhole_37 ?_
          refine lv_topi (fun z33873 ez33873 => ?_)
          have rz33873 := rg_all z33873
          refine lv_aload_n hx hb dX8_takeWhole_38 rfl (lv_at hl 0 rfl) ?_
          refine lv_aload_n hx hb dX8_takeWhole_39 rfl (lv_at hl 0 rfl) ?_
          refine t_get (C := RX8) (T := TX8) (N := 8) X hT m0 g0 rfl rfl 2 (by decide) qw_195 inlX8 rfl dX8_takeWhole_40 (fun v33874 hv33874 ov33874 => ?_)
          obtain rfl : v33874 = .int z33859 := hv33874.symm.trans qz33859
          refine t_cVi (n := 1) (C := RX8) (T := TX8) (N := 8) (As := [.int z33859]) (rest := [.int z33873, .ref p0]) X hT (kt93_X8_byteAt l G tag L F hT.2.2.2 p0 z33859 x0 m0 g0 mx0 gx0 pf0) m0 g0 rfl rfl qw_204 qw_205 qw_206 qw_72 qw_207 ⟨rfl, by decide +kernel, by decide +kernel, by decide +kernel⟩ ⟨Nat.le_of_ble_eq_true rfl, Nat.le_of_ble_eq_true rfl⟩ hl rfl rfl (Nat.le_of_ble_eq_true rfl) dX8_takeWhole_43 ⟨Nat.le_of_ble_eq_true rfl, Nat.le_of_ble_eq_true rfl⟩ (fun z33875 F9 H locs hT hz33875 => ?_)
          obtain ⟨fz33875, hz33875⟩ := hz33875
          rw [fz33875] at hT
          obtain ⟨hz33875, iz33875⟩ := hz33875
          refine lv_iadd hx hb dX8_takeWhole_46 ?_
          refine lv_topi (fun z33876 ez33876 => ?_)
          have rz33876 := rg_all z33876
          refine lv_bipush (v := 48) hx hb dX8_takeWhole_47 (by decide) ?_
          refine lv_isub hx hb dX8_takeWhole_49 ?_
          refine lv_topi (fun z33877 ez33877 => ?_)
          have rz33877 := rg_all z33877
          refine t_put (C := RX8) (T := TX8) (N := 8) (v := .int z33877) X hT m0 g0 rfl tyX8 tyX8_ok nmX8 rfl 6 (by decide) qw_203 inlX8 rfl (by first | rfl | decide) (by first | rfl | decide) rfl (⟨_, rfl, (show (-2147483648) ≤ (z33877 : Int32).toInt from (by omega)), (show (z33877 : Int32).toInt ≤ 2147483647 from (by omega))⟩) dX8_takeWhole_50 (fun F H locs hT v33878 h1v33878 h2v33878 => ?_)
          have qz33859 := (h1v33878 _ _ (Or.inr (by decide))).trans qz33859
          have pf0 := (h1v33878 _ _ (Or.inr (by decide))).trans pf0
          have hv33861 := (h1v33878 _ _ (Or.inr (by decide))).trans hv33861
          have hfr : (∀ b j : Nat, (tag b ≠ 24 ∨ j ≠ 2) → (tag b ≠ 24 ∨ j ≠ 3) → (tag b ≠ 24 ∨ j ≠ 6) → fld F b j = fld Fo b j) ∧ EF tag F Fo := ⟨fun b j n24_2 n24_3 n24_6 => (h1v33878 b j (fr_ne g0 n24_6)).trans (hfr.1 b j n24_2 n24_3 n24_6), fun b j hb => (h2v33878 b j).trans (hfr.2 b j hb)⟩
          refine lv_aload_n hx hb dX8_takeWhole_53 rfl (lv_at hl 0 rfl) ?_
          refine lv_dup hx hb dX8_takeWhole_54 rfl ?_
          refine t_get (C := RX8) (T := TX8) (N := 8) X hT m0 g0 rfl rfl 2 (by decide) qw_195 inlX8 rfl dX8_takeWhole_55 (fun v33879 hv33879 ov33879 => ?_)
          obtain rfl : v33879 = .int z33859 := hv33879.symm.trans qz33859
          refine lv_iconst (v := 1) hx hb dX8_takeWhole_58 (by decide) ?_
          refine lv_iadd hx hb dX8_takeWhole_59 ?_
          refine lv_topi (fun z33880 ez33880 => ?_)
          have hz33880 : z33880.toInt = z33859.toInt + 1 := ar_add ez33880 (rfl : z33859.toInt = z33859.toInt) (by decide : (1 : Int32).toInt = 1) (by omega) (by omega)
          have rz33880 : 1 ≤ z33880.toInt ∧ z33880.toInt ≤ 1000 := by omega
          refine t_put (C := RX8) (T := TX8) (N := 8) (v := .int z33880) X hT m0 g0 rfl tyX8 tyX8_ok nmX8 rfl 2 (by decide) qw_195 inlX8 rfl (by first | rfl | decide) (by first | rfl | decide) rfl (⟨_, rfl, (show 0 ≤ (z33880 : Int32).toInt from (by omega)), (show (z33880 : Int32).toInt ≤ 1000 from (by omega))⟩) dX8_takeWhole_60 (fun F H locs hT v33881 h1v33881 h2v33881 => ?_)
          have pf0 := (h1v33881 _ _ (Or.inr (by decide))).trans pf0
          have hv33861 := (h1v33881 _ _ (Or.inr (by decide))).trans hv33861
          have v33878 := (h1v33881 _ _ (Or.inr (by decide))).trans v33878
          have hfr : (∀ b j : Nat, (tag b ≠ 24 ∨ j ≠ 2) → (tag b ≠ 24 ∨ j ≠ 3) → (tag b ≠ 24 ∨ j ≠ 6) → fld F b j = fld Fo b j) ∧ EF tag F Fo := ⟨fun b j n24_2 n24_3 n24_6 => (h1v33881 b j (fr_ne g0 n24_2)).trans (hfr.1 b j n24_2 n24_3 n24_6), fun b j hb => (h2v33881 b j).trans (hfr.2 b j hb)⟩
          refine lv_goto (tgt := 5) hx hb dX8_takeWhole_63 (by decide) ?_
          exact ih5 z33877 z33880 _ _ _ _ (by omega) (by omega) hT hfr pf0 v33878 v33881 (lv_sub hl [0] rfl)
  refine lv_aload_n hx hb dX8_takeWhole_0 rfl (lv_at hl 0 rfl) ?_
  refine lv_iconst (v := 0) hx hb dX8_takeWhole_1 (by decide) ?_
  refine t_put (C := RX8) (T := TX8) (N := 8) (v := .int 0) X hT m0 g0 rfl tyX8 tyX8_ok nmX8 rfl 6 (by decide) qw_203 inlX8 rfl (by first | rfl | decide) (by first | rfl | decide) rfl (⟨_, rfl, (show (-2147483648) ≤ (0 : Int32).toInt from (by decide)), (show (0 : Int32).toInt ≤ 2147483647 from (by decide))⟩) dX8_takeWhole_2 (fun F H locs hT v33882 h1v33882 h2v33882 => ?_)
  have pf0 := (h1v33882 _ _ (Or.inr (by decide))).trans pf0
  have hfr : (∀ b j : Nat, (tag b ≠ 24 ∨ j ≠ 2) → (tag b ≠ 24 ∨ j ≠ 3) → (tag b ≠ 24 ∨ j ≠ 6) → fld F b j = fld Fo b j) ∧ EF tag F Fo := ⟨fun b j n24_2 n24_3 n24_6 => (h1v33882 b j (fr_ne g0 n24_6)).trans (hfr.1 b j n24_2 n24_3 n24_6), fun b j hb => (h2v33882 b j).trans (hfr.2 b j hb)⟩
  obtain ⟨z33883, qz33883, rz33883⟩ := t_fld hT m0 g0 rfl 2 rfl
  have rz33883 : 0 ≤ z33883.toInt ∧ z33883.toInt ≤ 1000 := rz33883
  exact K5 1001 0 z33883 _ _ _ _ (by omega) (by omega) hT hfr pf0 v33882 qz33883 (lv_sub hl [0] rfl)
set_option maxHeartbeats 4000000 in
set_option maxRecDepth 100000 in
theorem kt97_X8_takeWord (l : Launch) (G : KG) (tag : Nat → Nat) (L : List Nat) (Fo : Nat → va_E) (ho : okT G ttC tag L Fo) (p0 : Nat) (x0 : Nat) (m0 : p0 ∈ L) (g0 : tag p0 = 24) (mx0 : x0 ∈ L) (gx0 : tag x0 = 1) (pf0 : fld Fo p0 0 = .ref x0) : TMv l yX8_takeWord cX8_takeWord 1 { frames := 1, cells := 0, slots := 0, locals := 21 } G ttC tag L Fo [.ref p0] (fun F1 => ((∀ b j : Nat, (tag b ≠ 24 ∨ j ≠ 2) → (tag b ≠ 24 ∨ j ≠ 3) → (tag b ≠ 24 ∨ j ≠ 7) → fld F1 b j = fld Fo b j) ∧ EF tag F1 Fo)) := by
  refine t_bodyv (y := yX8_takeWord) (cd := cX8_takeWord) (mL := 1) (rm := { frames := 1, cells := 0, slots := 0, locals := 21 }) (av := [.ref p0]) (by decide) (Nat.le_of_ble_eq_true rfl) ho ?_
  intro p e s m args below meth c ls A Q hQ X hT hl
  have hx := X.1.1
  have hb := X.1.2.1
  have hl : lv_has ls 1 [(0, .ref p0)] := hl
  obtain ⟨F, hFo⟩ : ∃ F : Nat → va_E, F = Fo := ⟨_, rfl⟩
  rw [← hFo] at hT pf0
  have hfr : (∀ b j : Nat, (tag b ≠ 24 ∨ j ≠ 2) → (tag b ≠ 24 ∨ j ≠ 3) → (tag b ≠ 24 ∨ j ≠ 7) → fld F b j = fld Fo b j) ∧ EF tag F Fo := by
    rw [hFo]
    exact ⟨by intros; rfl, fun _ _ _ => rfl⟩
  have K88 : ∀ (z34400 : Int32) (b34401 : Nat) (z34402 : Int32) (z34403 : Int32) (z34404 : Int32) (F : Nat → va_E) (H : Heap) (locs : List Loc) (ls : Array Slot), (1 ≤ z34400.toInt ∧ z34400.toInt ≤ 4) → (b34401 ∈ L) → (tag b34401 = 24) → (0 ≤ z34402.toInt ∧ z34402.toInt ≤ 1000) → (0 ≤ z34403.toInt ∧ z34403.toInt ≤ 1000) → (0 ≤ z34404.toInt ∧ z34404.toInt ≤ 1000) → TH G ttC A s tag L F H locs → ((∀ b j : Nat, (tag b ≠ 24 ∨ j ≠ 2) → (tag b ≠ 24 ∨ j ≠ 3) → (tag b ≠ 24 ∨ j ≠ 7) → fld F b j = fld Fo b j) ∧ EF tag F Fo) → fld F p0 0 = .ref x0 → fld F p0 2 = .int z34402 → fld F p0 1 = .int z34403 → fld F p0 4 = .int z34404 → lv_has ls 1 [(0, .ref p0)] → W p l e { frames := 1, cells := 0, slots := 0, locals := 21 } s m args below meth c H locs 0 0 Q (F0 m 88 ls [.int z34400, .ref b34401]) := by
    intro z34400 b34401 z34402 z34403 z34404 F H locs ls rz34400 mb34401 gb34401 rz34402 rz34403 rz34404 hT hfr pf0 qz34402 qz34403 qz34404 hl
    refine t_put (C := RX8) (T := TX8) (N := 8) (v := .int z34400) X hT mb34401 gb34401 rfl tyX8 tyX8_ok nmX8 rfl 3 (by decide) qw_202 inlX8 rfl (by first | rfl | decide) (by first | rfl | decide) rfl (⟨_, rfl, (show (-2147483648) ≤ (z34400 : Int32).toInt from (by omega)), (show (z34400 : Int32).toInt ≤ 2147483647 from (by omega))⟩) dX8_takeWord_88 (fun F H locs hT v34405 h1v34405 h2v34405 => ?_)
    have qz34402 := (h1v34405 _ _ (Or.inr (by decide))).trans qz34402
    have qz34403 := (h1v34405 _ _ (Or.inr (by decide))).trans qz34403
    have qz34404 := (h1v34405 _ _ (Or.inr (by decide))).trans qz34404
    have pf0 := (h1v34405 _ _ (Or.inr (by decide))).trans pf0
    have hfr : (∀ b j : Nat, (tag b ≠ 24 ∨ j ≠ 2) → (tag b ≠ 24 ∨ j ≠ 3) → (tag b ≠ 24 ∨ j ≠ 7) → fld F b j = fld Fo b j) ∧ EF tag F Fo := ⟨fun b j n24_2 n24_3 n24_7 => (h1v34405 b j (fr_ne gb34401 n24_3)).trans (hfr.1 b j n24_2 n24_3 n24_7), fun b j hb => (h2v34405 b j).trans (hfr.2 b j hb)⟩
    exact t_vret hQ X hT hfr (Nat.le_of_ble_eq_true rfl) (Nat.le_of_ble_eq_true rfl) dX8_takeWord_91
  have K68 : ∀ (z34406 : Int32) (z34407 : Int32) (F : Nat → va_E) (H : Heap) (locs : List Loc) (ls : Array Slot), (0 ≤ z34406.toInt ∧ z34406.toInt ≤ 1000) → (0 ≤ z34407.toInt ∧ z34407.toInt ≤ 1000) → TH G ttC A s tag L F H locs → ((∀ b j : Nat, (tag b ≠ 24 ∨ j ≠ 2) → (tag b ≠ 24 ∨ j ≠ 3) → (tag b ≠ 24 ∨ j ≠ 7) → fld F b j = fld Fo b j) ∧ EF tag F Fo) → fld F p0 0 = .ref x0 → fld F p0 2 = .int z34406 → fld F p0 1 = .int z34407 → lv_has ls 1 [(0, .ref p0)] → W p l e { frames := 1, cells := 0, slots := 0, locals := 21 } s m args below meth c H locs 0 0 Q (F0 m 68 ls []) := by
    intro z34406 z34407 F H locs ls rz34406 rz34407 hT hfr pf0 qz34406 qz34407 hl
    refine lv_aload_n hx hb dX8_takeWord_68 rfl (lv_at hl 0 rfl) ?_
    refine lv_aload_n hx hb dX8_takeWord_69 rfl (lv_at hl 0 rfl) ?_
    refine t_get (C := RX8) (T := TX8) (N := 8) X hT m0 g0 rfl rfl 2 (by decide) qw_195 inlX8 rfl dX8_takeWord_70 (fun v34408 hv34408 ov34408 => ?_)
    obtain rfl : v34408 = .int z34406 := hv34408.symm.trans qz34406
    refine lv_aload_n hx hb dX8_takeWord_73 rfl (lv_at hl 0 rfl) ?_
    refine t_get (C := RX8) (T := TX8) (N := 8) X hT m0 g0 rfl rfl 4 (by decide) qw_200 inlX8 rfl dX8_takeWord_74 (fun v34409 hv34409 ov34409 => ?_)
    obtain ⟨z34410, rfl, rz34410⟩ := okV_i ov34409
    refine lv_isub hx hb dX8_takeWord_77 ?_
    refine lv_topi (fun z34411 ez34411 => ?_)
    have hz34411 : z34411.toInt = z34406.toInt - z34410.toInt := ar_sub ez34411 (rfl : z34406.toInt = z34406.toInt) (rfl : z34410.toInt = z34410.toInt) (by omega) (by omega)
    have rz34411 : (-1000) ≤ z34411.toInt ∧ z34411.toInt ≤ 1000 := by omega
    refine lv_bipush (v := 8) hx hb dX8_takeWord_78 (by decide) ?_
    refine lv_icmp_le (tgt := 87) hx hb dX8_takeWord_80 (by decide) (fun c34412 => ?_) (fun c34412 => ?_)
    · have w34413 := cv_le (rfl : z34411.toInt = z34411.toInt) (by decide : (8 : Int32).toInt = 8) c34412
      refine lv_iconst (v := 1) hx hb dX8_takeWord_87 (by decide) ?_
      exact K88 1 p0 z34406 z34407 z34410 _ _ _ _ (by decide) m0 g0 (by omega) (by omega) (by omega) hT hfr pf0 qz34406 qz34407 hv34409 (lv_sub hl [0] rfl)
    · have w34414 := cv_nle (rfl : z34411.toInt = z34411.toInt) (by decide : (8 : Int32).toInt = 8) c34412
      refine lv_iconst (v := 4) hx hb dX8_takeWord_83 (by decide) ?_
      refine lv_goto (tgt := 88) hx hb dX8_takeWord_84 (by decide) ?_
      exact K88 4 p0 z34406 z34407 z34410 _ _ _ _ (by decide) m0 g0 (by omega) (by omega) (by omega) hT hfr pf0 qz34406 qz34407 hv34409 (lv_sub hl [0] rfl)
  have K5 : ∀ (n : Nat) (z34415 : Int32) (F : Nat → va_E) (H : Heap) (locs : List Loc) (ls : Array Slot), (1000 - z34415.toInt < (n : Int)) → (0 ≤ z34415.toInt ∧ z34415.toInt ≤ 1000) → TH G ttC A s tag L F H locs → ((∀ b j : Nat, (tag b ≠ 24 ∨ j ≠ 2) → (tag b ≠ 24 ∨ j ≠ 3) → (tag b ≠ 24 ∨ j ≠ 7) → fld F b j = fld Fo b j) ∧ EF tag F Fo) → fld F p0 0 = .ref x0 → fld F p0 2 = .int z34415 → lv_has ls 1 [(0, .ref p0)] → W p l e { frames := 1, cells := 0, slots := 0, locals := 21 } s m args below meth c H locs 0 0 Q (F0 m 5 ls []) := by
    intro n
    induction n with
    | zero =>
      intro z34415 F H locs ls hn rz34415 hT hfr pf0 qz34415 hl
      exfalso
      omega
    | succ n ih5 =>
      intro z34415 F H locs ls hn rz34415 hT hfr pf0 qz34415 hl
      refine lv_aload_n hx hb dX8_takeWord_5 rfl (lv_at hl 0 rfl) ?_
      refine t_get (C := RX8) (T := TX8) (N := 8) X hT m0 g0 rfl rfl 2 (by decide) qw_195 inlX8 rfl dX8_takeWord_6 (fun v34416 hv34416 ov34416 => ?_)
      obtain rfl : v34416 = .int z34415 := hv34416.symm.trans qz34415
      refine lv_aload_n hx hb dX8_takeWord_9 rfl (lv_at hl 0 rfl) ?_
      refine t_get (C := RX8) (T := TX8) (N := 8) X hT m0 g0 rfl rfl 1 (by decide) qw_194 inlX8 rfl dX8_takeWord_10 (fun v34417 hv34417 ov34417 => ?_)
      obtain ⟨z34418, rfl, rz34418⟩ := okV_i ov34417
      refine lv_icmp_ge (tgt := 68) hx hb dX8_takeWord_13 (by decide) (fun c34419 => ?_) (fun c34419 => ?_)
      · have w34420 := cv_le (rfl : z34418.toInt = z34418.toInt) (rfl : z34415.toInt = z34415.toInt) c34419
        exact K68 z34415 z34418 _ _ _ _ (by omega) (by omega) hT hfr pf0 qz34415 hv34417 (lv_sub hl [0] rfl)
      · have w34421 := cv_nle (rfl : z34418.toInt = z34418.toInt) (rfl : z34415.toInt = z34415.toInt) c34419
        refine lv_aload_n hx hb dX8_takeWord_16 rfl (lv_at hl 0 rfl) ?_
        refine lv_aload_n hx hb dX8_takeWord_17 rfl (lv_at hl 0 rfl) ?_
        refine t_get (C := RX8) (T := TX8) (N := 8) X hT m0 g0 rfl rfl 2 (by decide) qw_195 inlX8 rfl dX8_takeWord_18 (fun v34422 hv34422 ov34422 => ?_)
        obtain rfl : v34422 = .int z34415 := hv34422.symm.trans qz34415
        refine t_cVi (n := 1) (C := RX8) (T := TX8) (N := 8) (As := [.int z34415]) (rest := []) X hT (kt93_X8_byteAt l G tag L F hT.2.2.2 p0 z34415 x0 m0 g0 mx0 gx0 pf0) m0 g0 rfl rfl qw_204 qw_205 qw_206 qw_72 qw_207 ⟨rfl, by decide +kernel, by decide +kernel, by decide +kernel⟩ ⟨Nat.le_of_ble_eq_true rfl, Nat.le_of_ble_eq_true rfl⟩ hl rfl rfl (Nat.le_of_ble_eq_true rfl) dX8_takeWord_21 ⟨Nat.le_of_ble_eq_true rfl, Nat.le_of_ble_eq_true rfl⟩ (fun z34423 F9 H locs hT hz34423 => ?_)
        obtain ⟨fz34423, hz34423⟩ := hz34423
        rw [fz34423] at hT
        obtain ⟨hz34423, iz34423⟩ := hz34423
        refine t_cSi (n := 1) (As := [.int z34423]) (rest := []) X hT (kt94_X8_isLetter l G tag L F hT.2.2.2 z34423 ) qw_208 qw_209 qw_72 qw_210 ⟨by decide +kernel, by decide +kernel, by decide +kernel⟩ ⟨Nat.le_of_ble_eq_true rfl, Nat.le_of_ble_eq_true rfl⟩ hl rfl rfl (Nat.le_of_ble_eq_true rfl) dX8_takeWord_24 ⟨Nat.le_of_ble_eq_true rfl, Nat.le_of_ble_eq_true rfl⟩ (fun z34424 F9 H locs hT hz34424 => ?_)
        obtain ⟨fz34424, hz34424⟩ := hz34424
        rw [fz34424] at hT
        refine lv_if_eq (tgt := 68) hx hb dX8_takeWord_27 (by decide) (fun c34425 => ?_) (fun c34425 => ?_)
        · have w34426 := cv_eq (rfl : z34424.toInt = z34424.toInt) (by decide : (0 : Int32).toInt = 0) c34425
          exact K68 z34415 z34418 _ _ _ _ (by omega) (by omega) hT hfr pf0 qz34415 hv34417 (lv_sub hl [0] rfl)
        · have w34427 := cv_ne (rfl : z34424.toInt = z34424.toInt) (by decide : (0 : Int32).toInt = 0) c34425
          refine lv_aload_n hx hb dX8_takeWord_30 rfl (lv_at hl 0 rfl) ?_
          refine lv_aload_n hx hb dX8_takeWord_31 rfl (lv_at hl 0 rfl) ?_
          refine t_get (C := RX8) (T := TX8) (N := 8) X hT m0 g0 rfl rfl 7 (by decide) qw_215 inlX8 rfl dX8_takeWord_32 (fun v34428 hv34428 ov34428 => ?_)
          obtain ⟨z34429, rfl⟩ := ov34428
          refine lv_iconst (v := 5) hx hb dX8_takeWord_35 (by decide) ?_
          refine lv_lshl hx hb dX8_takeWord_36 rfl ?_
          refine lv_topl (fun z34430 ez34430 => ?_)
          refine lv_aload_n hx hb dX8_takeWord_37 rfl (lv_at hl 0 rfl) ?_
          refine lv_aload_n hx hb dX8_takeWord_38 rfl (lv_at hl 0 rfl) ?_
          refine t_get (C := RX8) (T := TX8) (N := 8) X hT m0 g0 rfl rfl 2 (by decide) qw_195 inlX8 rfl dX8_takeWord_39 (fun v34431 hv34431 ov34431 => ?_)
          obtain rfl : v34431 = .int z34415 := hv34431.symm.trans qz34415
          refine t_cVi (n := 1) (C := RX8) (T := TX8) (N := 8) (As := [.int z34415]) (rest := [.long z34430, .ref p0]) X hT (kt93_X8_byteAt l G tag L F hT.2.2.2 p0 z34415 x0 m0 g0 mx0 gx0 pf0) m0 g0 rfl rfl qw_204 qw_205 qw_206 qw_72 qw_207 ⟨rfl, by decide +kernel, by decide +kernel, by decide +kernel⟩ ⟨Nat.le_of_ble_eq_true rfl, Nat.le_of_ble_eq_true rfl⟩ hl rfl rfl (Nat.le_of_ble_eq_true rfl) dX8_takeWord_42 ⟨Nat.le_of_ble_eq_true rfl, Nat.le_of_ble_eq_true rfl⟩ (fun z34432 F9 H locs hT hz34432 => ?_)
          obtain ⟨fz34432, hz34432⟩ := hz34432
          rw [fz34432] at hT
          obtain ⟨hz34432, iz34432⟩ := hz34432
          refine lv_bipush (v := 97) hx hb dX8_takeWord_45 (by decide) ?_
          refine lv_isub hx hb dX8_takeWord_47 ?_
          refine lv_topi (fun z34433 ez34433 => ?_)
          have hz34433 : z34433.toInt = z34432.toInt - 97 := ar_sub ez34433 (rfl : z34432.toInt = z34432.toInt) (by decide : (97 : Int32).toInt = 97) (by omega) (by omega)
          have rz34433 : (-98) ≤ z34433.toInt ∧ z34433.toInt ≤ 158 := by omega
          refine lv_iconst (v := 1) hx hb dX8_takeWord_48 (by decide) ?_
          refine lv_iadd hx hb dX8_takeWord_49 ?_
          refine lv_topi (fun z34434 ez34434 => ?_)
          have hz34434 : z34434.toInt = z34433.toInt + 1 := ar_add ez34434 (rfl : z34433.toInt = z34433.toInt) (by decide : (1 : Int32).toInt = 1) (by omega) (by omega)
          have rz34434 : (-97) ≤ z34434.toInt ∧ z34434.toInt ≤ 159 := by omega
          refine lv_i2l hx hb dX8_takeWord_50 rfl ?_
          refine lv_topl (fun z34435 ez34435 => ?_)
          refine lv_lor hx hb dX8_takeWord_51 ?_
          refine lv_topl (fun z34436 ez34436 => ?_)
          refine t_put (C := RX8) (T := TX8) (N := 8) (v := .long z34436) X hT m0 g0 rfl tyX8 tyX8_ok nmX8 rfl 7 (by decide) qw_215 inlX8 rfl (by first | rfl | decide) (by first | rfl | decide) rfl (⟨_, rfl⟩) dX8_takeWord_52 (fun F H locs hT v34437 h1v34437 h2v34437 => ?_)
          have qz34415 := (h1v34437 _ _ (Or.inr (by decide))).trans qz34415
          have pf0 := (h1v34437 _ _ (Or.inr (by decide))).trans pf0
          have hv34417 := (h1v34437 _ _ (Or.inr (by decide))).trans hv34417
          have hfr : (∀ b j : Nat, (tag b ≠ 24 ∨ j ≠ 2) → (tag b ≠ 24 ∨ j ≠ 3) → (tag b ≠ 24 ∨ j ≠ 7) → fld F b j = fld Fo b j) ∧ EF tag F Fo := ⟨fun b j n24_2 n24_3 n24_7 => (h1v34437 b j (fr_ne g0 n24_7)).trans (hfr.1 b j n24_2 n24_3 n24_7), fun b j hb => (h2v34437 b j).trans (hfr.2 b j hb)⟩
          refine lv_aload_n hx hb dX8_takeWord_55 rfl (lv_at hl 0 rfl) ?_
          refine lv_dup hx hb dX8_takeWord_56 rfl ?_
          refine t_get (C := RX8) (T := TX8) (N := 8) X hT m0 g0 rfl rfl 2 (by decide) qw_195 inlX8 rfl dX8_takeWord_57 (fun v34438 hv34438 ov34438 => ?_)
          obtain rfl : v34438 = .int z34415 := hv34438.symm.trans qz34415
          refine lv_iconst (v := 1) hx hb dX8_takeWord_60 (by decide) ?_
          refine lv_iadd hx hb dX8_takeWord_61 ?_
          refine lv_topi (fun z34439 ez34439 => ?_)
          have hz34439 : z34439.toInt = z34415.toInt + 1 := ar_add ez34439 (rfl : z34415.toInt = z34415.toInt) (by decide : (1 : Int32).toInt = 1) (by omega) (by omega)
          have rz34439 : 1 ≤ z34439.toInt ∧ z34439.toInt ≤ 1000 := by omega
          refine t_put (C := RX8) (T := TX8) (N := 8) (v := .int z34439) X hT m0 g0 rfl tyX8 tyX8_ok nmX8 rfl 2 (by decide) qw_195 inlX8 rfl (by first | rfl | decide) (by first | rfl | decide) rfl (⟨_, rfl, (show 0 ≤ (z34439 : Int32).toInt from (by omega)), (show (z34439 : Int32).toInt ≤ 1000 from (by omega))⟩) dX8_takeWord_62 (fun F H locs hT v34440 h1v34440 h2v34440 => ?_)
          have pf0 := (h1v34440 _ _ (Or.inr (by decide))).trans pf0
          have hv34417 := (h1v34440 _ _ (Or.inr (by decide))).trans hv34417
          have hfr : (∀ b j : Nat, (tag b ≠ 24 ∨ j ≠ 2) → (tag b ≠ 24 ∨ j ≠ 3) → (tag b ≠ 24 ∨ j ≠ 7) → fld F b j = fld Fo b j) ∧ EF tag F Fo := ⟨fun b j n24_2 n24_3 n24_7 => (h1v34440 b j (fr_ne g0 n24_2)).trans (hfr.1 b j n24_2 n24_3 n24_7), fun b j hb => (h2v34440 b j).trans (hfr.2 b j hb)⟩
          refine lv_goto (tgt := 5) hx hb dX8_takeWord_65 (by decide) ?_
          exact ih5 z34439 _ _ _ _ (by omega) (by omega) hT hfr pf0 v34440 (lv_sub hl [0] rfl)
  refine lv_aload_n hx hb dX8_takeWord_0 rfl (lv_at hl 0 rfl) ?_
  refine lv_lconst (v := 0) hx hb dX8_takeWord_1 (by decide) ?_
  refine t_put (C := RX8) (T := TX8) (N := 8) (v := .long (0 : Int64)) X hT m0 g0 rfl tyX8 tyX8_ok nmX8 rfl 7 (by decide) qw_215 inlX8 rfl (by first | rfl | decide) (by first | rfl | decide) rfl (⟨_, rfl⟩) dX8_takeWord_2 (fun F H locs hT v34441 h1v34441 h2v34441 => ?_)
  have pf0 := (h1v34441 _ _ (Or.inr (by decide))).trans pf0
  have hfr : (∀ b j : Nat, (tag b ≠ 24 ∨ j ≠ 2) → (tag b ≠ 24 ∨ j ≠ 3) → (tag b ≠ 24 ∨ j ≠ 7) → fld F b j = fld Fo b j) ∧ EF tag F Fo := ⟨fun b j n24_2 n24_3 n24_7 => (h1v34441 b j (fr_ne g0 n24_7)).trans (hfr.1 b j n24_2 n24_3 n24_7), fun b j hb => (h2v34441 b j).trans (hfr.2 b j hb)⟩
  obtain ⟨z34442, qz34442, rz34442⟩ := t_fld hT m0 g0 rfl 2 rfl
  have rz34442 : 0 ≤ z34442.toInt ∧ z34442.toInt ≤ 1000 := rz34442
  exact K5 1001 z34442 _ _ _ _ (by omega) (by omega) hT hfr pf0 qz34442 (lv_sub hl [0] rfl)
set_option maxHeartbeats 4000000 in
set_option maxRecDepth 100000 in
theorem kt98_X8_advance (l : Launch) (G : KG) (tag : Nat → Nat) (L : List Nat) (Fo : Nat → va_E) (ho : okT G ttC tag L Fo) (p0 : Nat) (x0 : Nat) (m0 : p0 ∈ L) (g0 : tag p0 = 24) (mx0 : x0 ∈ L) (gx0 : tag x0 = 1) (pf0 : fld Fo p0 0 = .ref x0) : TMv l yX8_advance cX8_advance 2 { frames := 2, cells := 0, slots := 0, locals := 41 } G ttC tag L Fo [.ref p0] (fun F1 => ((∀ b j : Nat, (tag b ≠ 24 ∨ j ≠ 2) → (tag b ≠ 24 ∨ j ≠ 3) → (tag b ≠ 24 ∨ j ≠ 4) → (tag b ≠ 24 ∨ j ≠ 5) → (tag b ≠ 24 ∨ j ≠ 6) → (tag b ≠ 24 ∨ j ≠ 7) → fld F1 b j = fld Fo b j) ∧ EF tag F1 Fo)) := by
  refine t_bodyv (y := yX8_advance) (cd := cX8_advance) (mL := 2) (rm := { frames := 2, cells := 0, slots := 0, locals := 41 }) (av := [.ref p0]) (by decide) (Nat.le_of_ble_eq_true rfl) ho ?_
  intro p e s m args below meth c ls A Q hQ X hT hl
  have hx := X.1.1
  have hb := X.1.2.1
  have hl : lv_has ls 2 [(0, .ref p0)] := hl
  obtain ⟨F, hFo⟩ : ∃ F : Nat → va_E, F = Fo := ⟨_, rfl⟩
  rw [← hFo] at hT pf0
  have hfr : (∀ b j : Nat, (tag b ≠ 24 ∨ j ≠ 2) → (tag b ≠ 24 ∨ j ≠ 3) → (tag b ≠ 24 ∨ j ≠ 4) → (tag b ≠ 24 ∨ j ≠ 5) → (tag b ≠ 24 ∨ j ≠ 6) → (tag b ≠ 24 ∨ j ≠ 7) → fld F b j = fld Fo b j) ∧ EF tag F Fo := by
    rw [hFo]
    exact ⟨by intros; rfl, fun _ _ _ => rfl⟩
  have K121 : ∀ (z35184 : Int32) (z35185 : Int32) (b35186 : Nat) (z35187 : Int32) (z35188 : Int32) (z35189 : Int32) (z35190 : Int32) (F : Nat → va_E) (H : Heap) (locs : List Loc) (ls : Array Slot), (0 ≤ z35184.toInt ∧ z35184.toInt ≤ 255) → (3 ≤ z35185.toInt ∧ z35185.toInt ≤ 4) → (b35186 ∈ L) → (tag b35186 = 24) → (0 ≤ z35187.toInt ∧ z35187.toInt ≤ 1000) → (0 ≤ z35188.toInt ∧ z35188.toInt ≤ 999) → (0 ≤ z35189.toInt ∧ z35189.toInt ≤ 1000) → (0 ≤ z35190.toInt ∧ z35190.toInt ≤ 999) → TH G ttC A s tag L F H locs → ((∀ b j : Nat, (tag b ≠ 24 ∨ j ≠ 2) → (tag b ≠ 24 ∨ j ≠ 3) → (tag b ≠ 24 ∨ j ≠ 4) → (tag b ≠ 24 ∨ j ≠ 5) → (tag b ≠ 24 ∨ j ≠ 6) → (tag b ≠ 24 ∨ j ≠ 7) → fld F b j = fld Fo b j) ∧ EF tag F Fo) → fld F p0 0 = .ref x0 → fld F p0 5 = .int z35187 → fld F p0 2 = .int z35188 → fld F p0 1 = .int z35189 → fld F p0 4 = .int z35190 → lv_has ls 2 [(0, .ref p0), (1, .int z35184)] → W p l e { frames := 2, cells := 0, slots := 0, locals := 41 } s m args below meth c H locs 0 0 Q (F0 m 121 ls [.int z35185, .ref b35186]) := by
    intro z35184 z35185 b35186 z35187 z35188 z35189 z35190 F H locs ls rz35184 rz35185 mb35186 gb35186 rz35187 rz35188 rz35189 rz35190 hT hfr pf0 qz35187 qz35188 qz35189 qz35190 hl
    refine t_put (C := RX8) (T := TX8) (N := 8) (v := .int z35185) X hT mb35186 gb35186 rfl tyX8 tyX8_ok nmX8 rfl 3 (by decide) qw_202 inlX8 rfl (by first | rfl | decide) (by first | rfl | decide) rfl (⟨_, rfl, (show (-2147483648) ≤ (z35185 : Int32).toInt from (by omega)), (show (z35185 : Int32).toInt ≤ 2147483647 from (by omega))⟩) dX8_advance_121 (fun F H locs hT v35191 h1v35191 h2v35191 => ?_)
    have qz35187 := (h1v35191 _ _ (Or.inr (by decide))).trans qz35187
    have qz35188 := (h1v35191 _ _ (Or.inr (by decide))).trans qz35188
    have qz35189 := (h1v35191 _ _ (Or.inr (by decide))).trans qz35189
    have qz35190 := (h1v35191 _ _ (Or.inr (by decide))).trans qz35190
    have pf0 := (h1v35191 _ _ (Or.inr (by decide))).trans pf0
    have hfr : (∀ b j : Nat, (tag b ≠ 24 ∨ j ≠ 2) → (tag b ≠ 24 ∨ j ≠ 3) → (tag b ≠ 24 ∨ j ≠ 4) → (tag b ≠ 24 ∨ j ≠ 5) → (tag b ≠ 24 ∨ j ≠ 6) → (tag b ≠ 24 ∨ j ≠ 7) → fld F b j = fld Fo b j) ∧ EF tag F Fo := ⟨fun b j n24_2 n24_3 n24_4 n24_5 n24_6 n24_7 => (h1v35191 b j (fr_ne gb35186 n24_3)).trans (hfr.1 b j n24_2 n24_3 n24_4 n24_5 n24_6 n24_7), fun b j hb => (h2v35191 b j).trans (hfr.2 b j hb)⟩
    refine lv_aload_n hx hb dX8_advance_124 rfl (lv_at hl 0 rfl) ?_
    refine lv_iload_n hx hb dX8_advance_125 rfl (lv_at hl 1 rfl) ?_
    refine t_put (C := RX8) (T := TX8) (N := 8) (v := .int z35184) X hT m0 g0 rfl tyX8 tyX8_ok nmX8 rfl 6 (by decide) qw_203 inlX8 rfl (by first | rfl | decide) (by first | rfl | decide) rfl (⟨_, rfl, (show (-2147483648) ≤ (z35184 : Int32).toInt from (by omega)), (show (z35184 : Int32).toInt ≤ 2147483647 from (by omega))⟩) dX8_advance_126 (fun F H locs hT v35192 h1v35192 h2v35192 => ?_)
    have qz35187 := (h1v35192 _ _ (Or.inr (by decide))).trans qz35187
    have qz35188 := (h1v35192 _ _ (Or.inr (by decide))).trans qz35188
    have qz35189 := (h1v35192 _ _ (Or.inr (by decide))).trans qz35189
    have qz35190 := (h1v35192 _ _ (Or.inr (by decide))).trans qz35190
    have pf0 := (h1v35192 _ _ (Or.inr (by decide))).trans pf0
    have v35191 := (h1v35192 _ _ (Or.inr (by decide))).trans v35191
    have hfr : (∀ b j : Nat, (tag b ≠ 24 ∨ j ≠ 2) → (tag b ≠ 24 ∨ j ≠ 3) → (tag b ≠ 24 ∨ j ≠ 4) → (tag b ≠ 24 ∨ j ≠ 5) → (tag b ≠ 24 ∨ j ≠ 6) → (tag b ≠ 24 ∨ j ≠ 7) → fld F b j = fld Fo b j) ∧ EF tag F Fo := ⟨fun b j n24_2 n24_3 n24_4 n24_5 n24_6 n24_7 => (h1v35192 b j (fr_ne g0 n24_6)).trans (hfr.1 b j n24_2 n24_3 n24_4 n24_5 n24_6 n24_7), fun b j hb => (h2v35192 b j).trans (hfr.2 b j hb)⟩
    refine lv_aload_n hx hb dX8_advance_129 rfl (lv_at hl 0 rfl) ?_
    refine lv_dup hx hb dX8_advance_130 rfl ?_
    refine t_get (C := RX8) (T := TX8) (N := 8) X hT m0 g0 rfl rfl 2 (by decide) qw_195 inlX8 rfl dX8_advance_131 (fun v35193 hv35193 ov35193 => ?_)
    obtain rfl : v35193 = .int z35188 := hv35193.symm.trans qz35188
    refine lv_iconst (v := 1) hx hb dX8_advance_134 (by decide) ?_
    refine lv_iadd hx hb dX8_advance_135 ?_
    refine lv_topi (fun z35194 ez35194 => ?_)
    have hz35194 : z35194.toInt = z35188.toInt + 1 := ar_add ez35194 (rfl : z35188.toInt = z35188.toInt) (by decide : (1 : Int32).toInt = 1) (by omega) (by omega)
    have rz35194 : 1 ≤ z35194.toInt ∧ z35194.toInt ≤ 1000 := by omega
    refine t_put (C := RX8) (T := TX8) (N := 8) (v := .int z35194) X hT m0 g0 rfl tyX8 tyX8_ok nmX8 rfl 2 (by decide) qw_195 inlX8 rfl (by first | rfl | decide) (by first | rfl | decide) rfl (⟨_, rfl, (show 0 ≤ (z35194 : Int32).toInt from (by omega)), (show (z35194 : Int32).toInt ≤ 1000 from (by omega))⟩) dX8_advance_136 (fun F H locs hT v35195 h1v35195 h2v35195 => ?_)
    have qz35187 := (h1v35195 _ _ (Or.inr (by decide))).trans qz35187
    have qz35189 := (h1v35195 _ _ (Or.inr (by decide))).trans qz35189
    have qz35190 := (h1v35195 _ _ (Or.inr (by decide))).trans qz35190
    have pf0 := (h1v35195 _ _ (Or.inr (by decide))).trans pf0
    have v35191 := (h1v35195 _ _ (Or.inr (by decide))).trans v35191
    have v35192 := (h1v35195 _ _ (Or.inr (by decide))).trans v35192
    have hfr : (∀ b j : Nat, (tag b ≠ 24 ∨ j ≠ 2) → (tag b ≠ 24 ∨ j ≠ 3) → (tag b ≠ 24 ∨ j ≠ 4) → (tag b ≠ 24 ∨ j ≠ 5) → (tag b ≠ 24 ∨ j ≠ 6) → (tag b ≠ 24 ∨ j ≠ 7) → fld F b j = fld Fo b j) ∧ EF tag F Fo := ⟨fun b j n24_2 n24_3 n24_4 n24_5 n24_6 n24_7 => (h1v35195 b j (fr_ne g0 n24_2)).trans (hfr.1 b j n24_2 n24_3 n24_4 n24_5 n24_6 n24_7), fun b j hb => (h2v35195 b j).trans (hfr.2 b j hb)⟩
    exact t_vret hQ X hT hfr (Nat.le_of_ble_eq_true rfl) (Nat.le_of_ble_eq_true rfl) dX8_advance_139
  have K116 : ∀ (z35196 : Int32) (b35197 : Nat) (z35198 : Int32) (z35199 : Int32) (z35200 : Int32) (z35201 : Int32) (F : Nat → va_E) (H : Heap) (locs : List Loc) (ls : Array Slot), (44 ≤ z35196.toInt ∧ z35196.toInt ≤ 59) → (b35197 ∈ L) → (tag b35197 = 24) → (0 ≤ z35198.toInt ∧ z35198.toInt ≤ 1000) → (0 ≤ z35199.toInt ∧ z35199.toInt ≤ 999) → (0 ≤ z35200.toInt ∧ z35200.toInt ≤ 1000) → (0 ≤ z35201.toInt ∧ z35201.toInt ≤ 999) → TH G ttC A s tag L F H locs → ((∀ b j : Nat, (tag b ≠ 24 ∨ j ≠ 2) → (tag b ≠ 24 ∨ j ≠ 3) → (tag b ≠ 24 ∨ j ≠ 4) → (tag b ≠ 24 ∨ j ≠ 5) → (tag b ≠ 24 ∨ j ≠ 6) → (tag b ≠ 24 ∨ j ≠ 7) → fld F b j = fld Fo b j) ∧ EF tag F Fo) → fld F p0 0 = .ref x0 → fld F p0 5 = .int z35198 → fld F p0 2 = .int z35199 → fld F p0 1 = .int z35200 → fld F p0 4 = .int z35201 → lv_has ls 2 [(0, .ref p0), (1, .int z35196)] → W p l e { frames := 2, cells := 0, slots := 0, locals := 41 } s m args below meth c H locs 0 0 Q (F0 m 116 ls [.ref b35197]) := by
    intro z35196 b35197 z35198 z35199 z35200 z35201 F H locs ls rz35196 mb35197 gb35197 rz35198 rz35199 rz35200 rz35201 hT hfr pf0 qz35198 qz35199 qz35200 qz35201 hl
    refine lv_iconst (v := 3) hx hb dX8_advance_116 (by decide) ?_
    refine lv_goto (tgt := 121) hx hb dX8_advance_117 (by decide) ?_
    exact K121 z35196 3 b35197 z35198 z35199 z35200 z35201 _ _ _ _ (by omega) (by decide) mb35197 gb35197 (by omega) (by omega) (by omega) (by omega) hT hfr pf0 qz35198 qz35199 qz35200 qz35201 (lv_sub hl [0, 1] rfl)
  have K45 : ∀ (z35202 : Int32) (z35203 : Int32) (z35204 : Int32) (z35205 : Int32) (F : Nat → va_E) (H : Heap) (locs : List Loc) (ls : Array Slot), (0 ≤ z35202.toInt ∧ z35202.toInt ≤ 1000) → (0 ≤ z35203.toInt ∧ z35203.toInt ≤ 1000) → (0 ≤ z35204.toInt ∧ z35204.toInt ≤ 1000) → (0 ≤ z35205.toInt ∧ z35205.toInt ≤ 1000) → TH G ttC A s tag L F H locs → ((∀ b j : Nat, (tag b ≠ 24 ∨ j ≠ 2) → (tag b ≠ 24 ∨ j ≠ 3) → (tag b ≠ 24 ∨ j ≠ 4) → (tag b ≠ 24 ∨ j ≠ 5) → (tag b ≠ 24 ∨ j ≠ 6) → (tag b ≠ 24 ∨ j ≠ 7) → fld F b j = fld Fo b j) ∧ EF tag F Fo) → fld F p0 0 = .ref x0 → fld F p0 4 = .int z35202 → fld F p0 5 = .int z35203 → fld F p0 2 = .int z35204 → fld F p0 1 = .int z35205 → lv_has ls 2 [(0, .ref p0)] → W p l e { frames := 2, cells := 0, slots := 0, locals := 41 } s m args below meth c H locs 0 0 Q (F0 m 45 ls []) := by
    intro z35202 z35203 z35204 z35205 F H locs ls rz35202 rz35203 rz35204 rz35205 hT hfr pf0 qz35202 qz35203 qz35204 qz35205 hl
    refine lv_aload_n hx hb dX8_advance_45 rfl (lv_at hl 0 rfl) ?_
    refine lv_aload_n hx hb dX8_advance_46 rfl (lv_at hl 0 rfl) ?_
    refine t_get (C := RX8) (T := TX8) (N := 8) X hT m0 g0 rfl rfl 2 (by decide) qw_195 inlX8 rfl dX8_advance_47 (fun v35206 hv35206 ov35206 => ?_)
    obtain rfl : v35206 = .int z35204 := hv35206.symm.trans qz35204
    refine t_put (C := RX8) (T := TX8) (N := 8) (v := .int z35204) X hT m0 g0 rfl tyX8 tyX8_ok nmX8 rfl 4 (by decide) qw_200 inlX8 rfl (by first | rfl | decide) (by first | rfl | decide) rfl (⟨_, rfl, (show 0 ≤ (z35204 : Int32).toInt from (by omega)), (show (z35204 : Int32).toInt ≤ 1000 from (by omega))⟩) dX8_advance_50 (fun F H locs hT v35207 h1v35207 h2v35207 => ?_)
    have qz35203 := (h1v35207 _ _ (Or.inr (by decide))).trans qz35203
    have qz35204 := (h1v35207 _ _ (Or.inr (by decide))).trans qz35204
    have qz35205 := (h1v35207 _ _ (Or.inr (by decide))).trans qz35205
    have pf0 := (h1v35207 _ _ (Or.inr (by decide))).trans pf0
    have hfr : (∀ b j : Nat, (tag b ≠ 24 ∨ j ≠ 2) → (tag b ≠ 24 ∨ j ≠ 3) → (tag b ≠ 24 ∨ j ≠ 4) → (tag b ≠ 24 ∨ j ≠ 5) → (tag b ≠ 24 ∨ j ≠ 6) → (tag b ≠ 24 ∨ j ≠ 7) → fld F b j = fld Fo b j) ∧ EF tag F Fo := ⟨fun b j n24_2 n24_3 n24_4 n24_5 n24_6 n24_7 => (h1v35207 b j (fr_ne g0 n24_4)).trans (hfr.1 b j n24_2 n24_3 n24_4 n24_5 n24_6 n24_7), fun b j hb => (h2v35207 b j).trans (hfr.2 b j hb)⟩
    refine lv_aload_n hx hb dX8_advance_53 rfl (lv_at hl 0 rfl) ?_
    refine lv_aload_n hx hb dX8_advance_54 rfl (lv_at hl 0 rfl) ?_
    refine t_get (C := RX8) (T := TX8) (N := 8) X hT m0 g0 rfl rfl 2 (by decide) qw_195 inlX8 rfl dX8_advance_55 (fun v35208 hv35208 ov35208 => ?_)
    obtain rfl : v35208 = .int z35204 := hv35208.symm.trans qz35204
    refine t_cVi (n := 1) (C := RX8) (T := TX8) (N := 8) (As := [.int z35204]) (rest := []) X hT (kt93_X8_byteAt l G tag L F hT.2.2.2 p0 z35204 x0 m0 g0 mx0 gx0 pf0) m0 g0 rfl rfl qw_204 qw_205 qw_206 qw_72 qw_207 ⟨rfl, by decide +kernel, by decide +kernel, by decide +kernel⟩ ⟨Nat.le_of_ble_eq_true rfl, Nat.le_of_ble_eq_true rfl⟩ hl rfl rfl (Nat.le_of_ble_eq_true rfl) dX8_advance_58 ⟨Nat.le_of_ble_eq_true rfl, Nat.le_of_ble_eq_true rfl⟩ (fun z35209 F9 H locs hT hz35209 => ?_)
    obtain ⟨fz35209, hz35209⟩ := hz35209
    rw [fz35209] at hT
    obtain ⟨hz35209, iz35209⟩ := hz35209
    refine lv_istore_n (lv' := [(1, .int z35209), (0, .ref p0)]) hx hb dX8_advance_61 rfl hl (by decide) rfl (fun ls hl => ?_)
    refine lv_iload_n hx hb dX8_advance_62 rfl (lv_at hl 0 rfl) ?_
    refine lv_iconst (v := (-1)) hx hb dX8_advance_63 (by decide) ?_
    refine lv_icmp_ne (tgt := 75) hx hb dX8_advance_64 (by decide) (fun c35210 => ?_) (fun c35210 => ?_)
    · have w35211 := cv_ne (rfl : z35209.toInt = z35209.toInt) (by decide : ((-1) : Int32).toInt = (-1)) c35210
      have w35212 := (fun h => (iz35209 h)) (by omega)
      refine lv_iload_n hx hb dX8_advance_75 rfl (lv_at hl 0 rfl) ?_
      refine t_cSi (n := 1) (As := [.int z35209]) (rest := []) X hT (kt94_X8_isLetter l G tag L F hT.2.2.2 z35209 ) qw_208 qw_209 qw_72 qw_210 ⟨by decide +kernel, by decide +kernel, by decide +kernel⟩ ⟨Nat.le_of_ble_eq_true rfl, Nat.le_of_ble_eq_true rfl⟩ hl rfl rfl (Nat.le_of_ble_eq_true rfl) dX8_advance_76 ⟨Nat.le_of_ble_eq_true rfl, Nat.le_of_ble_eq_true rfl⟩ (fun z35213 F9 H locs hT hz35213 => ?_)
      obtain ⟨fz35213, hz35213⟩ := hz35213
      rw [fz35213] at hT
      refine lv_if_eq (tgt := 89) hx hb dX8_advance_79 (by decide) (fun c35214 => ?_) (fun c35214 => ?_)
      · have w35215 := cv_eq (rfl : z35213.toInt = z35213.toInt) (by decide : (0 : Int32).toInt = 0) c35214
        refine lv_iload_n hx hb dX8_advance_89 rfl (lv_at hl 0 rfl) ?_
        refine t_cSi (n := 1) (As := [.int z35209]) (rest := []) X hT (kt95_X8_isDigit l G tag L F hT.2.2.2 z35209 ) qw_216 qw_217 qw_72 qw_218 ⟨by decide +kernel, by decide +kernel, by decide +kernel⟩ ⟨Nat.le_of_ble_eq_true rfl, Nat.le_of_ble_eq_true rfl⟩ hl rfl rfl (Nat.le_of_ble_eq_true rfl) dX8_advance_90 ⟨Nat.le_of_ble_eq_true rfl, Nat.le_of_ble_eq_true rfl⟩ (fun z35216 F9 H locs hT hz35216 => ?_)
        obtain ⟨fz35216, hz35216⟩ := hz35216
        rw [fz35216] at hT
        refine lv_if_eq (tgt := 103) hx hb dX8_advance_93 (by decide) (fun c35217 => ?_) (fun c35217 => ?_)
        · have w35218 := cv_eq (rfl : z35216.toInt = z35216.toInt) (by decide : (0 : Int32).toInt = 0) c35217
          refine lv_aload_n hx hb dX8_advance_103 rfl (lv_at hl 1 rfl) ?_
          refine lv_iload_n hx hb dX8_advance_104 rfl (lv_at hl 0 rfl) ?_
          refine lv_bipush (v := 59) hx hb dX8_advance_105 (by decide) ?_
          refine lv_icmp_eq (tgt := 116) hx hb dX8_advance_107 (by decide) (fun c35219 => ?_) (fun c35219 => ?_)
          · have w35220 := cv_eq (rfl : z35209.toInt = z35209.toInt) (by decide : (59 : Int32).toInt = 59) c35219
            have w35221 := (fun h => (iz35209 h)) (by omega)
            exact K116 z35209 p0 z35203 z35204 z35205 z35204 _ _ _ _ (by omega) m0 g0 (by omega) (by omega) (by omega) (by omega) hT hfr pf0 qz35203 qz35204 qz35205 v35207 (lv_sub hl [1, 0] rfl)
          · have w35222 := cv_ne (rfl : z35209.toInt = z35209.toInt) (by decide : (59 : Int32).toInt = 59) c35219
            have w35223 := (fun h => (iz35209 h)) (by omega)
            refine lv_iload_n hx hb dX8_advance_110 rfl (lv_at hl 0 rfl) ?_
            refine lv_bipush (v := 44) hx hb dX8_advance_111 (by decide) ?_
            refine lv_icmp_ne (tgt := 120) hx hb dX8_advance_113 (by decide) (fun c35224 => ?_) (fun c35224 => ?_)
            · have w35225 := cv_ne (rfl : z35209.toInt = z35209.toInt) (by decide : (44 : Int32).toInt = 44) c35224
              have w35226 := (fun h => (iz35209 h)) (by omega)
              refine lv_iconst (v := 4) hx hb dX8_advance_120 (by decide) ?_
              exact K121 z35209 4 p0 z35203 z35204 z35205 z35204 _ _ _ _ (by omega) (by decide) m0 g0 (by omega) (by omega) (by omega) (by omega) hT hfr pf0 qz35203 qz35204 qz35205 v35207 (lv_sub hl [1, 0] rfl)
            · have w35227 := cv_eq (rfl : z35209.toInt = z35209.toInt) (by decide : (44 : Int32).toInt = 44) c35224
              have w35228 := (fun h => (iz35209 h)) (by omega)
              exact K116 z35209 p0 z35203 z35204 z35205 z35204 _ _ _ _ (by omega) m0 g0 (by omega) (by omega) (by omega) (by omega) hT hfr pf0 qz35203 qz35204 qz35205 v35207 (lv_sub hl [1, 0] rfl)
        · have w35229 := cv_ne (rfl : z35216.toInt = z35216.toInt) (by decide : (0 : Int32).toInt = 0) c35217
          refine lv_aload_n hx hb dX8_advance_96 rfl (lv_at hl 1 rfl) ?_
          refine t_cVv (n := 0) (C := RX8) (T := TX8) (N := 8) (As := []) (rest := []) X hT (kt96_X8_takeWhole l G tag L F hT.2.2.2 p0 x0 m0 g0 mx0 gx0 pf0) m0 g0 rfl rfl qw_219 qw_220 qw_221 qw_72 qw_222 ⟨rfl, by decide +kernel, by decide +kernel, by decide +kernel⟩ ⟨Nat.le_of_ble_eq_true rfl, Nat.le_of_ble_eq_true rfl⟩ hl rfl rfl (Nat.le_of_ble_eq_true rfl) dX8_advance_97 ⟨Nat.le_of_ble_eq_true rfl, Nat.le_of_ble_eq_true rfl⟩ (fun F H locs hT hz35230 => ?_)
          have yz35230 := hz35230
          have qz35203 := (yz35230.1 _ 5 (Or.inr (by decide)) (Or.inr (by decide)) (Or.inr (by decide))).trans qz35203
          have qz35205 := (yz35230.1 _ 1 (Or.inr (by decide)) (Or.inr (by decide)) (Or.inr (by decide))).trans qz35205
          have pf0 := (yz35230.1 _ 0 (Or.inr (by decide)) (Or.inr (by decide)) (Or.inr (by decide))).trans pf0
          have v35207 := (yz35230.1 _ 4 (Or.inr (by decide)) (Or.inr (by decide)) (Or.inr (by decide))).trans v35207
          have hfr : (∀ b j : Nat, (tag b ≠ 24 ∨ j ≠ 2) → (tag b ≠ 24 ∨ j ≠ 3) → (tag b ≠ 24 ∨ j ≠ 4) → (tag b ≠ 24 ∨ j ≠ 5) → (tag b ≠ 24 ∨ j ≠ 6) → (tag b ≠ 24 ∨ j ≠ 7) → fld F b j = fld Fo b j) ∧ EF tag F Fo := ⟨fun b j n24_2 n24_3 n24_4 n24_5 n24_6 n24_7 => (yz35230.1 b j n24_2 n24_3 n24_6).trans (hfr.1 b j n24_2 n24_3 n24_4 n24_5 n24_6 n24_7), fun b j hb => (yz35230.2 b j hb).trans (hfr.2 b j hb)⟩
          refine lv_goto (tgt := 139) hx hb dX8_advance_100 (by decide) ?_
          exact t_vret hQ X hT hfr (Nat.le_of_ble_eq_true rfl) (Nat.le_of_ble_eq_true rfl) dX8_advance_139
      · have w35231 := cv_ne (rfl : z35213.toInt = z35213.toInt) (by decide : (0 : Int32).toInt = 0) c35214
        refine lv_aload_n hx hb dX8_advance_82 rfl (lv_at hl 1 rfl) ?_
        refine t_cVv (n := 0) (C := RX8) (T := TX8) (N := 8) (As := []) (rest := []) X hT (kt97_X8_takeWord l G tag L F hT.2.2.2 p0 x0 m0 g0 mx0 gx0 pf0) m0 g0 rfl rfl qw_211 qw_212 qw_213 qw_72 qw_214 ⟨rfl, by decide +kernel, by decide +kernel, by decide +kernel⟩ ⟨Nat.le_of_ble_eq_true rfl, Nat.le_of_ble_eq_true rfl⟩ hl rfl rfl (Nat.le_of_ble_eq_true rfl) dX8_advance_83 ⟨Nat.le_of_ble_eq_true rfl, Nat.le_of_ble_eq_true rfl⟩ (fun F H locs hT hz35232 => ?_)
        have yz35232 := hz35232
        have qz35203 := (yz35232.1 _ 5 (Or.inr (by decide)) (Or.inr (by decide)) (Or.inr (by decide))).trans qz35203
        have qz35205 := (yz35232.1 _ 1 (Or.inr (by decide)) (Or.inr (by decide)) (Or.inr (by decide))).trans qz35205
        have pf0 := (yz35232.1 _ 0 (Or.inr (by decide)) (Or.inr (by decide)) (Or.inr (by decide))).trans pf0
        have v35207 := (yz35232.1 _ 4 (Or.inr (by decide)) (Or.inr (by decide)) (Or.inr (by decide))).trans v35207
        have hfr : (∀ b j : Nat, (tag b ≠ 24 ∨ j ≠ 2) → (tag b ≠ 24 ∨ j ≠ 3) → (tag b ≠ 24 ∨ j ≠ 4) → (tag b ≠ 24 ∨ j ≠ 5) → (tag b ≠ 24 ∨ j ≠ 6) → (tag b ≠ 24 ∨ j ≠ 7) → fld F b j = fld Fo b j) ∧ EF tag F Fo := ⟨fun b j n24_2 n24_3 n24_4 n24_5 n24_6 n24_7 => (yz35232.1 b j n24_2 n24_3 n24_7).trans (hfr.1 b j n24_2 n24_3 n24_4 n24_5 n24_6 n24_7), fun b j hb => (yz35232.2 b j hb).trans (hfr.2 b j hb)⟩
        refine lv_goto (tgt := 139) hx hb dX8_advance_86 (by decide) ?_
        exact t_vret hQ X hT hfr (Nat.le_of_ble_eq_true rfl) (Nat.le_of_ble_eq_true rfl) dX8_advance_139
    · have w35233 := cv_eq (rfl : z35209.toInt = z35209.toInt) (by decide : ((-1) : Int32).toInt = (-1)) c35210
      refine lv_aload_n hx hb dX8_advance_67 rfl (lv_at hl 1 rfl) ?_
      refine lv_iconst (v := 0) hx hb dX8_advance_68 (by decide) ?_
      refine t_put (C := RX8) (T := TX8) (N := 8) (v := .int 0) X hT m0 g0 rfl tyX8 tyX8_ok nmX8 rfl 3 (by decide) qw_202 inlX8 rfl (by first | rfl | decide) (by first | rfl | decide) rfl (⟨_, rfl, (show (-2147483648) ≤ (0 : Int32).toInt from (by decide)), (show (0 : Int32).toInt ≤ 2147483647 from (by decide))⟩) dX8_advance_69 (fun F H locs hT v35234 h1v35234 h2v35234 => ?_)
      have qz35203 := (h1v35234 _ _ (Or.inr (by decide))).trans qz35203
      have qz35204 := (h1v35234 _ _ (Or.inr (by decide))).trans qz35204
      have qz35205 := (h1v35234 _ _ (Or.inr (by decide))).trans qz35205
      have pf0 := (h1v35234 _ _ (Or.inr (by decide))).trans pf0
      have v35207 := (h1v35234 _ _ (Or.inr (by decide))).trans v35207
      have hfr : (∀ b j : Nat, (tag b ≠ 24 ∨ j ≠ 2) → (tag b ≠ 24 ∨ j ≠ 3) → (tag b ≠ 24 ∨ j ≠ 4) → (tag b ≠ 24 ∨ j ≠ 5) → (tag b ≠ 24 ∨ j ≠ 6) → (tag b ≠ 24 ∨ j ≠ 7) → fld F b j = fld Fo b j) ∧ EF tag F Fo := ⟨fun b j n24_2 n24_3 n24_4 n24_5 n24_6 n24_7 => (h1v35234 b j (fr_ne g0 n24_3)).trans (hfr.1 b j n24_2 n24_3 n24_4 n24_5 n24_6 n24_7), fun b j hb => (h2v35234 b j).trans (hfr.2 b j hb)⟩
      refine lv_goto (tgt := 139) hx hb dX8_advance_72 (by decide) ?_
      exact t_vret hQ X hT hfr (Nat.le_of_ble_eq_true rfl) (Nat.le_of_ble_eq_true rfl) dX8_advance_139
  have K8 : ∀ (n : Nat) (z35235 : Int32) (z35236 : Int32) (z35237 : Int32) (F : Nat → va_E) (H : Heap) (locs : List Loc) (ls : Array Slot), (1000 - z35237.toInt < (n : Int)) → (0 ≤ z35235.toInt ∧ z35235.toInt ≤ 1000) → (0 ≤ z35236.toInt ∧ z35236.toInt ≤ 1000) → (0 ≤ z35237.toInt ∧ z35237.toInt ≤ 1000) → TH G ttC A s tag L F H locs → ((∀ b j : Nat, (tag b ≠ 24 ∨ j ≠ 2) → (tag b ≠ 24 ∨ j ≠ 3) → (tag b ≠ 24 ∨ j ≠ 4) → (tag b ≠ 24 ∨ j ≠ 5) → (tag b ≠ 24 ∨ j ≠ 6) → (tag b ≠ 24 ∨ j ≠ 7) → fld F b j = fld Fo b j) ∧ EF tag F Fo) → fld F p0 0 = .ref x0 → fld F p0 4 = .int z35235 → fld F p0 5 = .int z35236 → fld F p0 2 = .int z35237 → lv_has ls 2 [(0, .ref p0)] → W p l e { frames := 2, cells := 0, slots := 0, locals := 41 } s m args below meth c H locs 0 0 Q (F0 m 8 ls []) := by
    intro n
    induction n with
    | zero =>
      intro z35235 z35236 z35237 F H locs ls hn rz35235 rz35236 rz35237 hT hfr pf0 qz35235 qz35236 qz35237 hl
      exfalso
      omega
    | succ n ih8 =>
      intro z35235 z35236 z35237 F H locs ls hn rz35235 rz35236 rz35237 hT hfr pf0 qz35235 qz35236 qz35237 hl
      refine lv_aload_n hx hb dX8_advance_8 rfl (lv_at hl 0 rfl) ?_
      refine t_get (C := RX8) (T := TX8) (N := 8) X hT m0 g0 rfl rfl 2 (by decide) qw_195 inlX8 rfl dX8_advance_9 (fun v35238 hv35238 ov35238 => ?_)
      obtain rfl : v35238 = .int z35237 := hv35238.symm.trans qz35237
      refine lv_aload_n hx hb dX8_advance_12 rfl (lv_at hl 0 rfl) ?_
      refine t_get (C := RX8) (T := TX8) (N := 8) X hT m0 g0 rfl rfl 1 (by decide) qw_194 inlX8 rfl dX8_advance_13 (fun v35239 hv35239 ov35239 => ?_)
      obtain ⟨z35240, rfl, rz35240⟩ := okV_i ov35239
      refine lv_icmp_ge (tgt := 45) hx hb dX8_advance_16 (by decide) (fun c35241 => ?_) (fun c35241 => ?_)
      · have w35242 := cv_le (rfl : z35240.toInt = z35240.toInt) (rfl : z35237.toInt = z35237.toInt) c35241
        exact K45 z35235 z35236 z35237 z35240 _ _ _ _ (by omega) (by omega) (by omega) (by omega) hT hfr pf0 qz35235 qz35236 qz35237 hv35239 (lv_sub hl [0] rfl)
      · have w35243 := cv_nle (rfl : z35240.toInt = z35240.toInt) (rfl : z35237.toInt = z35237.toInt) c35241
        refine lv_aload_n hx hb dX8_advance_19 rfl (lv_at hl 0 rfl) ?_
        refine lv_aload_n hx hb dX8_advance_20 rfl (lv_at hl 0 rfl) ?_
        refine t_get (C := RX8) (T := TX8) (N := 8) X hT m0 g0 rfl rfl 2 (by decide) qw_195 inlX8 rfl dX8_advance_21 (fun v35244 hv35244 ov35244 => ?_)
        obtain rfl : v35244 = .int z35237 := hv35244.symm.trans qz35237
        refine t_cVi (n := 1) (C := RX8) (T := TX8) (N := 8) (As := [.int z35237]) (rest := []) X hT (kt93_X8_byteAt l G tag L F hT.2.2.2 p0 z35237 x0 m0 g0 mx0 gx0 pf0) m0 g0 rfl rfl qw_204 qw_205 qw_206 qw_72 qw_207 ⟨rfl, by decide +kernel, by decide +kernel, by decide +kernel⟩ ⟨Nat.le_of_ble_eq_true rfl, Nat.le_of_ble_eq_true rfl⟩ hl rfl rfl (Nat.le_of_ble_eq_true rfl) dX8_advance_24 ⟨Nat.le_of_ble_eq_true rfl, Nat.le_of_ble_eq_true rfl⟩ (fun z35245 F9 H locs hT hz35245 => ?_)
        obtain ⟨fz35245, hz35245⟩ := hz35245
        rw [fz35245] at hT
        obtain ⟨hz35245, iz35245⟩ := hz35245
        refine lv_bipush (v := 32) hx hb dX8_advance_27 (by decide) ?_
        refine lv_icmp_ne (tgt := 45) hx hb dX8_advance_29 (by decide) (fun c35246 => ?_) (fun c35246 => ?_)
        · have w35247 := cv_ne (rfl : z35245.toInt = z35245.toInt) (by decide : (32 : Int32).toInt = 32) c35246
          exact K45 z35235 z35236 z35237 z35240 _ _ _ _ (by omega) (by omega) (by omega) (by omega) hT hfr pf0 qz35235 qz35236 qz35237 hv35239 (lv_sub hl [0] rfl)
        · have w35248 := cv_eq (rfl : z35245.toInt = z35245.toInt) (by decide : (32 : Int32).toInt = 32) c35246
          have w35249 := (fun h => (iz35245 h)) (by omega)
          refine lv_aload_n hx hb dX8_advance_32 rfl (lv_at hl 0 rfl) ?_
          refine lv_dup hx hb dX8_advance_33 rfl ?_
          refine t_get (C := RX8) (T := TX8) (N := 8) X hT m0 g0 rfl rfl 2 (by decide) qw_195 inlX8 rfl dX8_advance_34 (fun v35250 hv35250 ov35250 => ?_)
          obtain rfl : v35250 = .int z35237 := hv35250.symm.trans qz35237
          refine lv_iconst (v := 1) hx hb dX8_advance_37 (by decide) ?_
          refine lv_iadd hx hb dX8_advance_38 ?_
          refine lv_topi (fun z35251 ez35251 => ?_)
          have hz35251 : z35251.toInt = z35237.toInt + 1 := ar_add ez35251 (rfl : z35237.toInt = z35237.toInt) (by decide : (1 : Int32).toInt = 1) (by omega) (by omega)
          have rz35251 : 1 ≤ z35251.toInt ∧ z35251.toInt ≤ 1000 := by omega
          refine t_put (C := RX8) (T := TX8) (N := 8) (v := .int z35251) X hT m0 g0 rfl tyX8 tyX8_ok nmX8 rfl 2 (by decide) qw_195 inlX8 rfl (by first | rfl | decide) (by first | rfl | decide) rfl (⟨_, rfl, (show 0 ≤ (z35251 : Int32).toInt from (by omega)), (show (z35251 : Int32).toInt ≤ 1000 from (by omega))⟩) dX8_advance_39 (fun F H locs hT v35252 h1v35252 h2v35252 => ?_)
          have qz35235 := (h1v35252 _ _ (Or.inr (by decide))).trans qz35235
          have qz35236 := (h1v35252 _ _ (Or.inr (by decide))).trans qz35236
          have pf0 := (h1v35252 _ _ (Or.inr (by decide))).trans pf0
          have hv35239 := (h1v35252 _ _ (Or.inr (by decide))).trans hv35239
          have hfr : (∀ b j : Nat, (tag b ≠ 24 ∨ j ≠ 2) → (tag b ≠ 24 ∨ j ≠ 3) → (tag b ≠ 24 ∨ j ≠ 4) → (tag b ≠ 24 ∨ j ≠ 5) → (tag b ≠ 24 ∨ j ≠ 6) → (tag b ≠ 24 ∨ j ≠ 7) → fld F b j = fld Fo b j) ∧ EF tag F Fo := ⟨fun b j n24_2 n24_3 n24_4 n24_5 n24_6 n24_7 => (h1v35252 b j (fr_ne g0 n24_2)).trans (hfr.1 b j n24_2 n24_3 n24_4 n24_5 n24_6 n24_7), fun b j hb => (h2v35252 b j).trans (hfr.2 b j hb)⟩
          refine lv_goto (tgt := 8) hx hb dX8_advance_42 (by decide) ?_
          exact ih8 z35235 z35236 z35251 _ _ _ _ (by omega) (by omega) (by omega) (by omega) hT hfr pf0 qz35235 qz35236 v35252 (lv_sub hl [0] rfl)
  refine lv_aload_n hx hb dX8_advance_0 rfl (lv_at hl 0 rfl) ?_
  refine lv_aload_n hx hb dX8_advance_1 rfl (lv_at hl 0 rfl) ?_
  refine t_get (C := RX8) (T := TX8) (N := 8) X hT m0 g0 rfl rfl 4 (by decide) qw_200 inlX8 rfl dX8_advance_2 (fun v35253 hv35253 ov35253 => ?_)
  obtain ⟨z35254, rfl, rz35254⟩ := okV_i ov35253
  refine t_put (C := RX8) (T := TX8) (N := 8) (v := .int z35254) X hT m0 g0 rfl tyX8 tyX8_ok nmX8 rfl 5 (by decide) qw_201 inlX8 rfl (by first | rfl | decide) (by first | rfl | decide) rfl (⟨_, rfl, (show (-2147483648) ≤ (z35254 : Int32).toInt from (by omega)), (show (z35254 : Int32).toInt ≤ 2147483647 from (by omega))⟩) dX8_advance_5 (fun F H locs hT v35255 h1v35255 h2v35255 => ?_)
  have pf0 := (h1v35255 _ _ (Or.inr (by decide))).trans pf0
  have hv35253 := (h1v35255 _ _ (Or.inr (by decide))).trans hv35253
  have hfr : (∀ b j : Nat, (tag b ≠ 24 ∨ j ≠ 2) → (tag b ≠ 24 ∨ j ≠ 3) → (tag b ≠ 24 ∨ j ≠ 4) → (tag b ≠ 24 ∨ j ≠ 5) → (tag b ≠ 24 ∨ j ≠ 6) → (tag b ≠ 24 ∨ j ≠ 7) → fld F b j = fld Fo b j) ∧ EF tag F Fo := ⟨fun b j n24_2 n24_3 n24_4 n24_5 n24_6 n24_7 => (h1v35255 b j (fr_ne g0 n24_5)).trans (hfr.1 b j n24_2 n24_3 n24_4 n24_5 n24_6 n24_7), fun b j hb => (h2v35255 b j).trans (hfr.2 b j hb)⟩
  obtain ⟨z35256, qz35256, rz35256⟩ := t_fld hT m0 g0 rfl 2 rfl
  have rz35256 : 0 ≤ z35256.toInt ∧ z35256.toInt ≤ 1000 := rz35256
  exact K8 1001 z35254 z35254 z35256 _ _ _ _ (by omega) (by omega) (by omega) (by omega) hT hfr pf0 hv35253 v35255 qz35256 (lv_sub hl [0] rfl)
set_option maxHeartbeats 4000000 in
set_option maxRecDepth 100000 in
theorem kt99_X5_begin (l : Launch) (G : KG) (tag : Nat → Nat) (L : List Nat) (Fo : Nat → va_E) (ho : okT G ttC tag L Fo) (p0 : Nat) (p1 : Int32) (m0 : p0 ∈ L) (g0 : tag p0 = 11) (h1 : 0 ≤ p1.toInt ∧ p1.toInt ≤ 6) : TMv l yX5_begin cX5_begin 3 { frames := 0, cells := 0, slots := 0, locals := 0 } G ttC tag L Fo [.ref p0, .int p1] (fun F1 => ((∀ b j : Nat, fld F1 b j = fld Fo b j) ∧ EF tag F1 Fo)) := by
  refine t_bodyv (y := yX5_begin) (cd := cX5_begin) (mL := 3) (rm := { frames := 0, cells := 0, slots := 0, locals := 0 }) (av := [.ref p0, .int p1]) (by decide) (Nat.le_of_ble_eq_true rfl) ho ?_
  intro p e s m args below meth c ls A Q hQ X hT hl
  have hx := X.1.1
  have hb := X.1.2.1
  have hl : lv_has ls 3 [(0, .ref p0), (1, .int p1)] := hl
  obtain ⟨F, hFo⟩ : ∃ F : Nat → va_E, F = Fo := ⟨_, rfl⟩
  rw [← hFo] at hT
  have hfr : (∀ b j : Nat, fld F b j = fld Fo b j) ∧ EF tag F Fo := by
    rw [hFo]
    exact ⟨by intros; rfl, fun _ _ _ => rfl⟩
  have K2 : ∀ (n : Nat) (z35581 : Int32) (F : Nat → va_E) (H : Heap) (locs : List Loc) (ls : Array Slot), (6 - z35581.toInt < (n : Int)) → (0 ≤ z35581.toInt ∧ z35581.toInt ≤ 6) → TH G ttC A s tag L F H locs → ((∀ b j : Nat, fld F b j = fld Fo b j) ∧ EF tag F Fo) → lv_has ls 3 [(0, .ref p0), (1, .int p1), (2, .int z35581)] → W p l e { frames := 0, cells := 0, slots := 0, locals := 0 } s m args below meth c H locs 0 0 Q (F0 m 2 ls []) := by
    intro n
    induction n with
    | zero =>
      intro z35581 F H locs ls hn rz35581 hT hfr hl
      exfalso
      omega
    | succ n ih2 =>
      intro z35581 F H locs ls hn rz35581 hT hfr hl
      refine lv_iload_n hx hb dX5_begin_2 rfl (lv_at hl 2 rfl) ?_
      refine lv_iload_n hx hb dX5_begin_3 rfl (lv_at hl 1 rfl) ?_
      refine lv_icmp_ge (tgt := 23) hx hb dX5_begin_4 (by decide) (fun c35582 => ?_) (fun c35582 => ?_)
      · have w35583 := cv_le (rfl : p1.toInt = p1.toInt) (rfl : z35581.toInt = z35581.toInt) c35582
        exact t_vret hQ X hT hfr (Nat.le_of_ble_eq_true rfl) (Nat.le_of_ble_eq_true rfl) dX5_begin_23
      · have w35584 := cv_nle (rfl : p1.toInt = p1.toInt) (rfl : z35581.toInt = z35581.toInt) c35582
        refine lv_iload_n hx hb dX5_begin_7 rfl (lv_at hl 2 rfl) ?_
        refine lv_aload_n hx hb dX5_begin_8 rfl (lv_at hl 0 rfl) ?_
        refine t_alen X hT m0 g0 rfl (by decide) dX5_begin_9 ?_
        refine lv_topi (fun z35585 ez35585 => ?_)
        obtain rfl : z35585 = 6 := ez35585.trans (by rfl)
        refine lv_icmp_ge (tgt := 23) hx hb dX5_begin_10 (by decide) (fun c35586 => ?_) (fun c35586 => ?_)
        · have w35587 := cv_le (by decide : (6 : Int32).toInt = 6) (rfl : z35581.toInt = z35581.toInt) c35586
          exfalso
          omega
        · have w35588 := cv_nle (by decide : (6 : Int32).toInt = 6) (rfl : z35581.toInt = z35581.toInt) c35586
          refine lv_aload_n hx hb dX5_begin_13 rfl (lv_at hl 0 rfl) ?_
          refine lv_iload_n hx hb dX5_begin_14 rfl (lv_at hl 2 rfl) ?_
          refine lv_iload_n hx hb dX5_begin_15 rfl (lv_at hl 2 rfl) ?_
          refine t_ist X hT m0 g0 rfl (by omega) (show 0 ≤ (z35581 : Int32).toInt ∧ (z35581 : Int32).toInt ≤ 5 from (by omega)) dX5_begin_16 (fun F H locs hT v35589 h1v35589 h2v35589 => ?_)
          have hfr : (∀ b j : Nat, fld F b j = fld Fo b j) ∧ EF tag F Fo := ⟨fun b j  => (h2v35589 b j).trans (hfr.1 b j ), fun b j hb => (h1v35589 b j (Or.inl (ns_ne hb g0 (by decide)))).trans (hfr.2 b j hb)⟩
          obtain ⟨z35590, ez35590⟩ : ∃ y : Int32, y = z35581 + 1 := ⟨_, rfl⟩
          have hz35590 : z35590.toInt = z35581.toInt + 1 := ar_add ez35590 rfl (by decide : (1 : Int32).toInt = 1) (by omega) (by omega)
          refine lv_iinc (v := z35590) (lv' := [(2, .int z35590), (0, .ref p0), (1, .int p1)]) hx hb dX5_begin_17 hl (k := 2) rfl (by rw [ez35590]; rfl) (by decide) rfl (fun ls hl => ?_)
          refine lv_goto (tgt := 2) hx hb dX5_begin_20 (by decide) ?_
          exact ih2 z35590 _ _ _ _ (by omega) (by omega) hT hfr  (lv_sub hl [1, 2, 0] rfl)
  refine lv_iconst (v := 0) hx hb dX5_begin_0 (by decide) ?_
  refine lv_istore_n (lv' := [(2, .int 0), (0, .ref p0), (1, .int p1)]) hx hb dX5_begin_1 rfl hl (by decide) rfl (fun ls hl => ?_)
  have kk35591 : (0 : Int32).toInt = 0 := by decide
  exact K2 7 0 _ _ _ _ (by omega) (by decide) hT hfr  (lv_sub hl [1, 2, 0] rfl)
