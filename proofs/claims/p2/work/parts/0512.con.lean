set_option maxHeartbeats 4000000 in
set_option maxRecDepth 100000 in
theorem kt96_X8_takeWhole (l : Launch) (G : KG) (tag : Nat → Nat) (L : List Nat) (Fo : Nat → va_E) (ho : okT G ttC tag L Fo) (p0 : Nat) (x0 : Nat) (m0 : p0 ∈ L) (g0 : tag p0 = 24) (mx0 : x0 ∈ L) (gx0 : tag x0 = 1) (pf0 : fld Fo p0 0 = .ref x0) : TMv l yX8_takeWhole cX8_takeWhole 1 { frames := 1, cells := 0, slots := 0, locals := 21 } G ttC tag L Fo [.ref p0] (fun F1 => ((∀ b j : Nat, (tag b ≠ 24 ∨ j ≠ 2) → (tag b ≠ 24 ∨ j ≠ 3) → (tag b ≠ 24 ∨ j ≠ 6) → fld F1 b j = fld Fo b j) ∧ EF tag F1 Fo)) := by
  refine t_bodyv (y := yX8_takeWhole) (cd := cX8_takeWhole) (mL := 1) (rm := { frames := 1, cells := 0, slots := 0, locals := 21 }) (av := [.ref p0]) (by decide) (Nat.le_of_ble_eq_true rfl) ho ?_
  intro p e s m args below meth c ls A Q hQ X hT hl
  have hx := X.1.1
  have hb := X.1.2.1
  have hl : lv_has ls 1 [(0, .ref p0)] := hl
  obtain ⟨F, hFo⟩ : ∃ F : Nat → va_E, F = Fo := ⟨_, rfl⟩
  rw [← hFo] at hT pf0
  have hfr : (∀ b j : Nat, (tag b ≠ 24 ∨ j ≠ 2) → (tag b ≠ 24 ∨ j ≠ 3) → (tag b ≠ 24 ∨ j ≠ 6) → fld F b j = fld Fo b j) ∧ EF tag F Fo := by
    rw [hFo]
    exact ⟨by intros; rfl, fun _ _ _ => rfl⟩
  have K85 : ∀ (z33840 : Int32) (b33841 : Nat) (z33842 : Int32) (z33843 : Int32) (z33844 : Int32) (z33845 : Int32) (F : Nat → va_E) (H : Heap) (locs : List Loc) (ls : Array Slot), (2 ≤ z33840.toInt ∧ z33840.toInt ≤ 4) → (b33841 ∈ L) → (tag b33841 = 24) → (0 ≤ z33843.toInt ∧ z33843.toInt ≤ 1000) → (0 ≤ z33844.toInt ∧ z33844.toInt ≤ 1000) → (0 ≤ z33845.toInt ∧ z33845.toInt ≤ 1000) → TH G ttC A s tag L F H locs → ((∀ b j : Nat, (tag b ≠ 24 ∨ j ≠ 2) → (tag b ≠ 24 ∨ j ≠ 3) → (tag b ≠ 24 ∨ j ≠ 6) → fld F b j = fld Fo b j) ∧ EF tag F Fo) → fld F p0 0 = .ref x0 → fld F p0 6 = .int z33842 → fld F p0 2 = .int z33843 → fld F p0 1 = .int z33844 → fld F p0 4 = .int z33845 → lv_has ls 1 [(0, .ref p0)] → W p l e { frames := 1, cells := 0, slots := 0, locals := 21 } s m args below meth c H locs 0 0 Q (F0 m 85 ls [.int z33840, .ref b33841]) := by
    intro z33840 b33841 z33842 z33843 z33844 z33845 F H locs ls rz33840 mb33841 gb33841 rz33843 rz33844 rz33845 hT hfr pf0 qz33842 qz33843 qz33844 qz33845 hl
    have rz33842 := rg_all z33842
    refine t_put (C := RX8) (T := TX8) (N := 8) (v := .int z33840) X hT mb33841 gb33841 rfl tyX8 tyX8_ok nmX8 rfl 3 (by decide) qw_202 inlX8 rfl (by first | rfl | decide) (by first | rfl | decide) rfl (⟨_, rfl, (show (-2147483648) ≤ (z33840 : Int32).toInt from (by omega)), (show (z33840 : Int32).toInt ≤ 2147483647 from (by omega))⟩) dX8_takeWhole_85 (fun F H locs hT v33846 h1v33846 h2v33846 => ?_)
    have qz33842 := (h1v33846 _ _ (Or.inr (by decide))).trans qz33842
    have qz33843 := (h1v33846 _ _ (Or.inr (by decide))).trans qz33843
    have qz33844 := (h1v33846 _ _ (Or.inr (by decide))).trans qz33844
    have qz33845 := (h1v33846 _ _ (Or.inr (by decide))).trans qz33845
    have pf0 := (h1v33846 _ _ (Or.inr (by decide))).trans pf0
    have hfr : (∀ b j : Nat, (tag b ≠ 24 ∨ j ≠ 2) → (tag b ≠ 24 ∨ j ≠ 3) → (tag b ≠ 24 ∨ j ≠ 6) → fld F b j = fld Fo b j) ∧ EF tag F Fo := ⟨fun b j n24_2 n24_3 n24_6 => (h1v33846 b j (fr_ne gb33841 n24_3)).trans (hfr.1 b j n24_2 n24_3 n24_6), fun b j hb => (h2v33846 b j).trans (hfr.2 b j hb)⟩
    exact t_vret hQ X hT hfr (Nat.le_of_ble_eq_true rfl) (Nat.le_of_ble_eq_true rfl) dX8_takeWhole_88
  have K66 : ∀ (z33847 : Int32) (z33848 : Int32) (z33849 : Int32) (F : Nat → va_E) (H : Heap) (locs : List Loc) (ls : Array Slot), (0 ≤ z33848.toInt ∧ z33848.toInt ≤ 1000) → (0 ≤ z33849.toInt ∧ z33849.toInt ≤ 1000) → TH G ttC A s tag L F H locs → ((∀ b j : Nat, (tag b ≠ 24 ∨ j ≠ 2) → (tag b ≠ 24 ∨ j ≠ 3) → (tag b ≠ 24 ∨ j ≠ 6) → fld F b j = fld Fo b j) ∧ EF tag F Fo) → fld F p0 0 = .ref x0 → fld F p0 6 = .int z33847 → fld F p0 2 = .int z33848 → fld F p0 1 = .int z33849 → lv_has ls 1 [(0, .ref p0)] → W p l e { frames := 1, cells := 0, slots := 0, locals := 21 } s m args below meth c H locs 0 0 Q (F0 m 66 ls []) := by
    intro z33847 z33848 z33849 F H locs ls rz33848 rz33849 hT hfr pf0 qz33847 qz33848 qz33849 hl
    have rz33847 := rg_all z33847
    refine lv_aload_n hx hb dX8_takeWhole_66 rfl (lv_at hl 0 rfl) ?_
    refine lv_aload_n hx hb dX8_takeWhole_67 rfl (lv_at hl 0 rfl) ?_
    refine t_get (C := RX8) (T := TX8) (N := 8) X hT m0 g0 rfl rfl 2 (by decide) qw_195 inlX8 rfl dX8_takeWhole_68 (fun v33850 hv33850 ov33850 => ?_)
    obtain rfl : v33850 = .int z33848 := hv33850.symm.trans qz33848
    refine lv_aload_n hx hb dX8_takeWhole_71 rfl (lv_at hl 0 rfl) ?_
    refine t_get (C := RX8) (T := TX8) (N := 8) X hT m0 g0 rfl rfl 4 (by decide) qw_200 inlX8 rfl dX8_takeWhole_72 (fun v33851 hv33851 ov33851 => ?_)
    obtain ⟨z33852, rfl, rz33852⟩ := okV_i ov33851
    refine lv_isub hx hb dX8_takeWhole_75 ?_
    refine lv_topi (fun z33853 ez33853 => ?_)
    have hz33853 : z33853.toInt = z33848.toInt - z33852.toInt := ar_sub ez33853 (rfl : z33848.toInt = z33848.toInt) (rfl : z33852.toInt = z33852.toInt) (by omega) (by omega)
    have rz33853 : (-1000) ≤ z33853.toInt ∧ z33853.toInt ≤ 1000 := by omega
    refine lv_iconst (v := 3) hx hb dX8_takeWhole_76 (by decide) ?_
    refine lv_icmp_le (tgt := 84) hx hb dX8_takeWhole_77 (by decide) (fun c33854 => ?_) (fun c33854 => ?_)
    · have w33855 := cv_le (rfl : z33853.toInt = z33853.toInt) (by decide : (3 : Int32).toInt = 3) c33854
      refine lv_iconst (v := 2) hx hb dX8_takeWhole_84 (by decide) ?_
      exact K85 2 p0 z33847 z33848 z33849 z33852 _ _ _ _ (by decide) m0 g0 (by omega) (by omega) (by omega) hT hfr pf0 qz33847 qz33848 qz33849 hv33851 (lv_sub hl [0] rfl)
    · have w33856 := cv_nle (rfl : z33853.toInt = z33853.toInt) (by decide : (3 : Int32).toInt = 3) c33854
      refine lv_iconst (v := 4) hx hb dX8_takeWhole_80 (by decide) ?_
      refine lv_goto (tgt := 85) hx hb dX8_takeWhole_81 (by decide) ?_
      exact K85 4 p0 z33847 z33848 z33849 z33852 _ _ _ _ (by decide) m0 g0 (by omega) (by omega) (by omega) hT hfr pf0 qz33847 qz33848 qz33849 hv33851 (lv_sub hl [0] rfl)
  have K5 : ∀ (n : Nat) (z33857 : Int32) (z33858 : Int32) (F : Nat → va_E) (H : Heap) (locs : List Loc) (ls : Array Slot), (1000 - z33858.toInt < (n : Int)) → (0 ≤ z33858.toInt ∧ z33858.toInt ≤ 1000) → TH G ttC A s tag L F H locs → ((∀ b j : Nat, (tag b ≠ 24 ∨ j ≠ 2) → (tag b ≠ 24 ∨ j ≠ 3) → (tag b ≠ 24 ∨ j ≠ 6) → fld F b j = fld Fo b j) ∧ EF tag F Fo) → fld F p0 0 = .ref x0 → fld F p0 6 = .int z33857 → fld F p0 2 = .int z33858 → lv_has ls 1 [(0, .ref p0)] → W p l e { frames := 1, cells := 0, slots := 0, locals := 21 } s m args below meth c H locs 0 0 Q (F0 m 5 ls []) := by
    intro n
    induction n with
    | zero =>
      intro z33857 z33858 F H locs ls hn rz33858 hT hfr pf0 qz33857 qz33858 hl
      have rz33857 := rg_all z33857
      exfalso
      omega
    | succ n ih5 =>
      intro z33857 z33858 F H locs ls hn rz33858 hT hfr pf0 qz33857 qz33858 hl
      have rz33857 := rg_all z33857
      refine lv_aload_n hx hb dX8_takeWhole_5 rfl (lv_at hl 0 rfl) ?_
      refine t_get (C := RX8) (T := TX8) (N := 8) X hT m0 g0 rfl rfl 2 (by decide) qw_195 inlX8 rfl dX8_takeWhole_6 (fun v33859 hv33859 ov33859 => ?_)
      obtain rfl : v33859 = .int z33858 := hv33859.symm.trans qz33858
      refine lv_aload_n hx hb dX8_takeWhole_9 rfl (lv_at hl 0 rfl) ?_
      refine t_get (C := RX8) (T := TX8) (N := 8) X hT m0 g0 rfl rfl 1 (by decide) qw_194 inlX8 rfl dX8_takeWhole_10 (fun v33860 hv33860 ov33860 => ?_)
      obtain ⟨z33861, rfl, rz33861⟩ := okV_i ov33860
      refine lv_icmp_ge (tgt := 66) hx hb dX8_takeWhole_13 (by decide) (fun c33862 => ?_) (fun c33862 => ?_)
      · have w33863 := cv_le (rfl : z33861.toInt = z33861.toInt) (rfl : z33858.toInt = z33858.toInt) c33862
        exact K66 z33857 z33858 z33861 _ _ _ _ (by omega) (by omega) hT hfr pf0 qz33857 qz33858 hv33860 (lv_sub hl [0] rfl)
      · have w33864 := cv_nle (rfl : z33861.toInt = z33861.toInt) (rfl : z33858.toInt = z33858.toInt) c33862
        refine lv_aload_n hx hb dX8_takeWhole_16 rfl (lv_at hl 0 rfl) ?_
        refine lv_aload_n hx hb dX8_takeWhole_17 rfl (lv_at hl 0 rfl) ?_
        refine t_get (C := RX8) (T := TX8) (N := 8) X hT m0 g0 rfl rfl 2 (by decide) qw_195 inlX8 rfl dX8_takeWhole_18 (fun v33865 hv33865 ov33865 => ?_)
        obtain rfl : v33865 = .int z33858 := hv33865.symm.trans qz33858
        refine t_cVi (n := 1) (C := RX8) (T := TX8) (N := 8) (As := [.int z33858]) (rest := []) X hT (kt93_X8_byteAt l G tag L F hT.2.2.2 p0 z33858 x0 m0 g0 mx0 gx0 pf0) m0 g0 rfl rfl qw_204 qw_205 qw_206 qw_72 qw_207 ⟨rfl, by decide +kernel, by decide +kernel, by decide +kernel⟩ ⟨Nat.le_of_ble_eq_true rfl, Nat.le_of_ble_eq_true rfl⟩ hl rfl rfl (Nat.le_of_ble_eq_true rfl) dX8_takeWhole_21 ⟨Nat.le_of_ble_eq_true rfl, Nat.le_of_ble_eq_true rfl⟩ (fun z33866 F9 H locs hT hz33866 => ?_)
        obtain ⟨fz33866, hz33866⟩ := hz33866
        rw [fz33866] at hT
        obtain ⟨hz33866, iz33866⟩ := hz33866
        refine t_cSi (n := 1) (As := [.int z33866]) (rest := []) X hT (kt95_X8_isDigit l G tag L F hT.2.2.2 z33866 ) qw_216 qw_217 qw_72 qw_218 ⟨by decide +kernel, by decide +kernel, by decide +kernel⟩ ⟨Nat.le_of_ble_eq_true rfl, Nat.le_of_ble_eq_true rfl⟩ hl rfl rfl (Nat.le_of_ble_eq_true rfl) dX8_takeWhole_24 ⟨Nat.le_of_ble_eq_true rfl, Nat.le_of_ble_eq_true rfl⟩ (fun z33867 F9 H locs hT hz33867 => ?_)
        obtain ⟨fz33867, hz33867⟩ := hz33867
        rw [fz33867] at hT
        refine lv_if_eq (tgt := 66) hx hb dX8_takeWhole_27 (by decide) (fun c33868 => ?_) (fun c33868 => ?_)
        · have w33869 := cv_eq (rfl : z33867.toInt = z33867.toInt) (by decide : (0 : Int32).toInt = 0) c33868
          exact K66 z33857 z33858 z33861 _ _ _ _ (by omega) (by omega) hT hfr pf0 qz33857 qz33858 hv33860 (lv_sub hl [0] rfl)
        · have w33870 := cv_ne (rfl : z33867.toInt = z33867.toInt) (by decide : (0 : Int32).toInt = 0) c33868
          refine lv_aload_n hx hb dX8_takeWhole_30 rfl (lv_at hl 0 rfl) ?_
          refine lv_aload_n hx hb dX8_takeWhole_31 rfl (lv_at hl 0 rfl) ?_
          refine t_get (C := RX8) (T := TX8) (N := 8) X hT m0 g0 rfl rfl 6 (by decide) qw_203 inlX8 rfl dX8_takeWhole_32 (fun v33871 hv33871 ov33871 => ?_)
          obtain rfl : v33871 = .int z33857 := hv33871.symm.trans qz33857
          refine lv_bipush (v := 10) hx hb dX8_takeWhole_35 (by decide) ?_
          refine lv_imul hx hb dX8_takeWhole_37 ?_
          refine lv_topi (fun z33872 ez33872 => ?_)
          have rz33872 := rg_all z33872
          refine lv_aload_n hx hb dX8_takeWhole_38 rfl (lv_at hl 0 rfl) ?_
          refine lv_aload_n hx hb dX8_takeWhole_39 rfl (lv_at hl 0 rfl) ?_
          refine t_get (C := RX8) (T := TX8) (N := 8) X hT m0 g0 rfl rfl 2 (by decide) qw_195 inlX8 rfl dX8_takeWhole_40 (fun v33873 hv33873 ov33873 => ?_)
          obtain rfl : v33873 = .int z33858 := hv33873.symm.trans qz33858
          refine t_cVi (n := 1) (C := RX8) (T := TX8) (N := 8) (As := [.int z33858]) (rest := [.int z33872, .ref p0]) X hT (kt93_X8_byteAt l G tag L F hT.2.2.2 p0 z33858 x0 m0 g0 mx0 gx0 pf0) m0 g0 rfl rfl qw_204 qw_205 qw_206 qw_72 qw_207 ⟨rfl, by decide +kernel, by decide +kernel, by decide +kernel⟩ ⟨Nat.le_of_ble_eq_true rfl, Nat.le_of_ble_eq_true rfl⟩ hl rfl rfl (Nat.le_of_ble_eq_true rfl) dX8_takeWhole_43 ⟨Nat.le_of_ble_eq_true rfl, Nat.le_of_ble_eq_true rfl⟩ (fun z33874 F9 H locs hT hz33874 => ?_)
          obtain ⟨fz33874, hz33874⟩ := hz33874
          rw [fz33874] at hT
          obtain ⟨hz33874, iz33874⟩ := hz33874
          refine lv_iadd hx hb dX8_takeWhole_46 ?_
          refine lv_topi (fun z33875 ez33875 => ?_)
          have rz33875 := rg_all z33875
          refine lv_bipush (v := 48) hx hb dX8_takeWhole_47 (by decide) ?_
          refine lv_isub hx hb dX8_takeWhole_49 ?_
          refine lv_topi (fun z33876 ez33876 => ?_)
          have rz33876 := rg_all z33876
          refine t_put (C := RX8) (T := TX8) (N := 8) (v := .int z33876) X hT m0 g0 rfl tyX8 tyX8_ok nmX8 rfl 6 (by decide) qw_203 inlX8 rfl (by first | rfl | decide) (by first | rfl | decide) rfl (⟨_, rfl, (show (-2147483648) ≤ (z33876 : Int32).toInt from (by omega)), (show (z33876 : Int32).toInt ≤ 2147483647 from (by omega))⟩) dX8_takeWhole_50 (fun F H locs hT v33877 h1v33877 h2v33877 => ?_)
          have qz33858 := (h1v33877 _ _ (Or.inr (by decide))).trans qz33858
          have pf0 := (h1v33877 _ _ (Or.inr (by decide))).trans pf0
          have hv33860 := (h1v33877 _ _ (Or.inr (by decide))).trans hv33860
          have hfr : (∀ b j : Nat, (tag b ≠ 24 ∨ j ≠ 2) → (tag b ≠ 24 ∨ j ≠ 3) → (tag b ≠ 24 ∨ j ≠ 6) → fld F b j = fld Fo b j) ∧ EF tag F Fo := ⟨fun b j n24_2 n24_3 n24_6 => (h1v33877 b j (fr_ne g0 n24_6)).trans (hfr.1 b j n24_2 n24_3 n24_6), fun b j hb => (h2v33877 b j).trans (hfr.2 b j hb)⟩
          refine lv_aload_n hx hb dX8_takeWhole_53 rfl (lv_at hl 0 rfl) ?_
          refine lv_dup hx hb dX8_takeWhole_54 rfl ?_
          refine t_get (C := RX8) (T := TX8) (N := 8) X hT m0 g0 rfl rfl 2 (by decide) qw_195 inlX8 rfl dX8_takeWhole_55 (fun v33878 hv33878 ov33878 => ?_)
          obtain rfl : v33878 = .int z33858 := hv33878.symm.trans qz33858
          refine lv_iconst (v := 1) hx hb dX8_takeWhole_58 (by decide) ?_
          refine lv_iadd hx hb dX8_takeWhole_59 ?_
          refine lv_topi (fun z33879 ez33879 => ?_)
          have hz33879 : z33879.toInt = z33858.toInt + 1 := ar_add ez33879 (rfl : z33858.toInt = z33858.toInt) (by decide : (1 : Int32).toInt = 1) (by omega) (by omega)
          have rz33879 : 1 ≤ z33879.toInt ∧ z33879.toInt ≤ 1000 := by omega
          refine t_put (C := RX8) (T := TX8) (N := 8) (v := .int z33879) X hT m0 g0 rfl tyX8 tyX8_ok nmX8 rfl 2 (by decide) qw_195 inlX8 rfl (by first | rfl | decide) (by first | rfl | decide) rfl (⟨_, rfl, (show 0 ≤ (z33879 : Int32).toInt from (by omega)), (show (z33879 : Int32).toInt ≤ 1000 from (by omega))⟩) dX8_takeWhole_60 (fun F H locs hT v33880 h1v33880 h2v33880 => ?_)
          have pf0 := (h1v33880 _ _ (Or.inr (by decide))).trans pf0
          have hv33860 := (h1v33880 _ _ (Or.inr (by decide))).trans hv33860
          have v33877 := (h1v33880 _ _ (Or.inr (by decide))).trans v33877
          have hfr : (∀ b j : Nat, (tag b ≠ 24 ∨ j ≠ 2) → (tag b ≠ 24 ∨ j ≠ 3) → (tag b ≠ 24 ∨ j ≠ 6) → fld F b j = fld Fo b j) ∧ EF tag F Fo := ⟨fun b j n24_2 n24_3 n24_6 => (h1v33880 b j (fr_ne g0 n24_2)).trans (hfr.1 b j n24_2 n24_3 n24_6), fun b j hb => (h2v33880 b j).trans (hfr.2 b j hb)⟩
          refine lv_goto (tgt := 5) hx hb dX8_takeWhole_63 (by decide) ?_
          exact ih5 z33876 z33879 _ _ _ _ (by omega) (by omega) hT hfr pf0 v33877 v33880 (lv_sub hl [0] rfl)
  refine lv_aload_n hx hb dX8_takeWhole_0 rfl (lv_at hl 0 rfl) ?_
  refine lv_iconst (v := 0) hx hb dX8_takeWhole_1 (by decide) ?_
  refine t_put (C := RX8) (T := TX8) (N := 8) (v := .int 0) X hT m0 g0 rfl tyX8 tyX8_ok nmX8 rfl 6 (by decide) qw_203 inlX8 rfl (by first | rfl | decide) (by first | rfl | decide) rfl (⟨_, rfl, (show (-2147483648) ≤ (0 : Int32).toInt from (by decide)), (show (0 : Int32).toInt ≤ 2147483647 from (by decide))⟩) dX8_takeWhole_2 (fun F H locs hT v33881 h1v33881 h2v33881 => ?_)
  have pf0 := (h1v33881 _ _ (Or.inr (by decide))).trans pf0
  have hfr : (∀ b j : Nat, (tag b ≠ 24 ∨ j ≠ 2) → (tag b ≠ 24 ∨ j ≠ 3) → (tag b ≠ 24 ∨ j ≠ 6) → fld F b j = fld Fo b j) ∧ EF tag F Fo := ⟨fun b j n24_2 n24_3 n24_6 => (h1v33881 b j (fr_ne g0 n24_6)).trans (hfr.1 b j n24_2 n24_3 n24_6), fun b j hb => (h2v33881 b j).trans (hfr.2 b j hb)⟩
  obtain ⟨z33882, qz33882, rz33882⟩ := t_fld hT m0 g0 rfl 2 rfl
  have rz33882 : 0 ≤ z33882.toInt ∧ z33882.toInt ≤ 1000 := rz33882
  exact K5 1001 0 z33882 _ _ _ _ (by omega) (by omega) hT hfr pf0 v33881 qz33882 (lv_sub hl [0] rfl)
set_option maxHeartbeats 4000000 in
set_option maxRecDepth 100000 in
theorem kt97_X8_takeWord (l : Launch) (G : KG) (tag : Nat → Nat) (L : List Nat) (Fo : Nat → va_E) (ho : okT G ttC tag L Fo) (p0 : Nat) (x0 : Nat) (m0 : p0 ∈ L) (g0 : tag p0 = 24) (mx0 : x0 ∈ L) (gx0 : tag x0 = 1) (pf0 : fld Fo p0 0 = .ref x0) : TMv l yX8_takeWord cX8_takeWord 1 { frames := 1, cells := 0, slots := 0, locals := 21 } G ttC tag L Fo [.ref p0] (fun F1 => ((∀ b j : Nat, (tag b ≠ 24 ∨ j ≠ 2) → (tag b ≠ 24 ∨ j ≠ 3) → (tag b ≠ 24 ∨ j ≠ 7) → fld F1 b j = fld Fo b j) ∧ EF tag F1 Fo)) := by
  refine t_bodyv (y := yX8_takeWord) (cd := cX8_takeWord) (mL := 1) (rm := { frames := 1, cells := 0, slots := 0, locals := 21 }) (av := [.ref p0]) (by decide) (Nat.le_of_ble_eq_true rfl) ho ?_
  intro p e s m args below meth c ls A Q hQ X hT hl
  have hx := X.1.1
  have hb := X.1.2.1
  have hl : lv_has ls 1 [(0, .ref p0)] := hl
  obtain ⟨F, hFo⟩ : ∃ F : Nat → va_E, F = Fo := ⟨_, rfl⟩
  rw [← hFo] at hT pf0
  have hfr : (∀ b j : Nat, (tag b ≠ 24 ∨ j ≠ 2) → (tag b ≠ 24 ∨ j ≠ 3) → (tag b ≠ 24 ∨ j ≠ 7) → fld F b j = fld Fo b j) ∧ EF tag F Fo := by
    rw [hFo]
    exact ⟨by intros; rfl, fun _ _ _ => rfl⟩
  have K88 : ∀ (z34399 : Int32) (b34400 : Nat) (z34401 : Int32) (z34402 : Int32) (z34403 : Int32) (F : Nat → va_E) (H : Heap) (locs : List Loc) (ls : Array Slot), (1 ≤ z34399.toInt ∧ z34399.toInt ≤ 4) → (b34400 ∈ L) → (tag b34400 = 24) → (0 ≤ z34401.toInt ∧ z34401.toInt ≤ 1000) → (0 ≤ z34402.toInt ∧ z34402.toInt ≤ 1000) → (0 ≤ z34403.toInt ∧ z34403.toInt ≤ 1000) → TH G ttC A s tag L F H locs → ((∀ b j : Nat, (tag b ≠ 24 ∨ j ≠ 2) → (tag b ≠ 24 ∨ j ≠ 3) → (tag b ≠ 24 ∨ j ≠ 7) → fld F b j = fld Fo b j) ∧ EF tag F Fo) → fld F p0 0 = .ref x0 → fld F p0 2 = .int z34401 → fld F p0 1 = .int z34402 → fld F p0 4 = .int z34403 → lv_has ls 1 [(0, .ref p0)] → W p l e { frames := 1, cells := 0, slots := 0, locals := 21 } s m args below meth c H locs 0 0 Q (F0 m 88 ls [.int z34399, .ref b34400]) := by
    intro z34399 b34400 z34401 z34402 z34403 F H locs ls rz34399 mb34400 gb34400 rz34401 rz34402 rz34403 hT hfr pf0 qz34401 qz34402 qz34403 hl
    refine t_put (C := RX8) (T := TX8) (N := 8) (v := .int z34399) X hT mb34400 gb34400 rfl tyX8 tyX8_ok nmX8 rfl 3 (by decide) qw_202 inlX8 rfl (by first | rfl | decide) (by first | rfl | decide) rfl (⟨_, rfl, (show (-2147483648) ≤ (z34399 : Int32).toInt from (by omega)), (show (z34399 : Int32).toInt ≤ 2147483647 from (by omega))⟩) dX8_takeWord_88 (fun F H locs hT v34404 h1v34404 h2v34404 => ?_)
    have qz34401 := (h1v34404 _ _ (Or.inr (by decide))).trans qz34401
    have qz34402 := (h1v34404 _ _ (Or.inr (by decide))).trans qz34402
    have qz34403 := (h1v34404 _ _ (Or.inr (by decide))).trans qz34403
    have pf0 := (h1v34404 _ _ (Or.inr (by decide))).trans pf0
    have hfr : (∀ b j : Nat, (tag b ≠ 24 ∨ j ≠ 2) → (tag b ≠ 24 ∨ j ≠ 3) → (tag b ≠ 24 ∨ j ≠ 7) → fld F b j = fld Fo b j) ∧ EF tag F Fo := ⟨fun b j n24_2 n24_3 n24_7 => (h1v34404 b j (fr_ne gb34400 n24_3)).trans (hfr.1 b j n24_2 n24_3 n24_7), fun b j hb => (h2v34404 b j).trans (hfr.2 b j hb)⟩
    exact t_vret hQ X hT hfr (Nat.le_of_ble_eq_true rfl) (Nat.le_of_ble_eq_true rfl) dX8_takeWord_91
  have K68 : ∀ (z34405 : Int32) (z34406 : Int32) (F : Nat → va_E) (H : Heap) (locs : List Loc) (ls : Array Slot), (0 ≤ z34405.toInt ∧ z34405.toInt ≤ 1000) → (0 ≤ z34406.toInt ∧ z34406.toInt ≤ 1000) → TH G ttC A s tag L F H locs → ((∀ b j : Nat, (tag b ≠ 24 ∨ j ≠ 2) → (tag b ≠ 24 ∨ j ≠ 3) → (tag b ≠ 24 ∨ j ≠ 7) → fld F b j = fld Fo b j) ∧ EF tag F Fo) → fld F p0 0 = .ref x0 → fld F p0 2 = .int z34405 → fld F p0 1 = .int z34406 → lv_has ls 1 [(0, .ref p0)] → W p l e { frames := 1, cells := 0, slots := 0, locals := 21 } s m args below meth c H locs 0 0 Q (F0 m 68 ls []) := by
    intro z34405 z34406 F H locs ls rz34405 rz34406 hT hfr pf0 qz34405 qz34406 hl
    refine lv_aload_n hx hb dX8_takeWord_68 rfl (lv_at hl 0 rfl) ?_
    refine lv_aload_n hx hb dX8_takeWord_69 rfl (lv_at hl 0 rfl) ?_
    refine t_get (C := RX8) (T := TX8) (N := 8) X hT m0 g0 rfl rfl 2 (by decide) qw_195 inlX8 rfl dX8_takeWord_70 (fun v34407 hv34407 ov34407 => ?_)
    obtain rfl : v34407 = .int z34405 := hv34407.symm.trans qz34405
    refine lv_aload_n hx hb dX8_takeWord_73 rfl (lv_at hl 0 rfl) ?_
    refine t_get (C := RX8) (T := TX8) (N := 8) X hT m0 g0 rfl rfl 4 (by decide) qw_200 inlX8 rfl dX8_takeWord_74 (fun v34408 hv34408 ov34408 => ?_)
    obtain ⟨z34409, rfl, rz34409⟩ := okV_i ov34408
    refine lv_isub hx hb dX8_takeWord_77 ?_
    refine lv_topi (fun z34410 ez34410 => ?_)
    have hz34410 : z34410.toInt = z34405.toInt - z34409.toInt := ar_sub ez34410 (rfl : z34405.toInt = z34405.toInt) (rfl : z34409.toInt = z34409.toInt) (by omega) (by omega)
    have rz34410 : (-1000) ≤ z34410.toInt ∧ z34410.toInt ≤ 1000 := by omega
    refine lv_bipush (v := 8) hx hb dX8_takeWord_78 (by decide) ?_
    refine lv_icmp_le (tgt := 87) hx hb dX8_takeWord_80 (by decide) (fun c34411 => ?_) (fun c34411 => ?_)
    · have w34412 := cv_le (rfl : z34410.toInt = z34410.toInt) (by decide : (8 : Int32).toInt = 8) c34411
      refine lv_iconst (v := 1) hx hb dX8_takeWord_87 (by decide) ?_
      exact K88 1 p0 z34405 z34406 z34409 _ _ _ _ (by decide) m0 g0 (by omega) (by omega) (by omega) hT hfr pf0 qz34405 qz34406 hv34408 (lv_sub hl [0] rfl)
    · have w34413 := cv_nle (rfl : z34410.toInt = z34410.toInt) (by decide : (8 : Int32).toInt = 8) c34411
      refine lv_iconst (v := 4) hx hb dX8_takeWord_83 (by decide) ?_
      refine lv_goto (tgt := 88) hx hb dX8_takeWord_84 (by decide) ?_
      exact K88 4 p0 z34405 z34406 z34409 _ _ _ _ (by decide) m0 g0 (by omega) (by omega) (by omega) hT hfr pf0 qz34405 qz34406 hv34408 (lv_sub hl [0] rfl)
  have K5 : ∀ (n : Nat) (z34414 : Int32) (F : Nat → va_E) (H : Heap) (locs : List Loc) (ls : Array Slot), (1000 - z34414.toInt < (n : Int)) → (0 ≤ z34414.toInt ∧ z34414.toInt ≤ 1000) → TH G ttC A s tag L F H locs → ((∀ b j : Nat, (tag b ≠ 24 ∨ j ≠ 2) → (tag b ≠ 24 ∨ j ≠ 3) → (tag b ≠ 24 ∨ j ≠ 7) → fld F b j = fld Fo b j) ∧ EF tag F Fo) → fld F p0 0 = .ref x0 → fld F p0 2 = .int z34414 → lv_has ls 1 [(0, .ref p0)] → W p l e { frames := 1, cells := 0, slots := 0, locals := 21 } s m args below meth c H locs 0 0 Q (F0 m 5 ls []) := by
    intro n
    induction n with
    | zero =>
      intro z34414 F H locs ls hn rz34414 hT hfr pf0 qz34414 hl
      exfalso
      omega
    | succ n ih5 =>
      intro z34414 F H locs ls hn rz34414 hT hfr pf0 qz34414 hl
      refine lv_aload_n hx hb dX8_takeWord_5 rfl (lv_at hl 0 rfl) ?_
      refine t_get (C := RX8) (T := TX8) (N := 8) X hT m0 g0 rfl rfl 2 (by decide) qw_195 inlX8 rfl dX8_takeWord_6 (fun v34415 hv34415 ov34415 => ?_)
      obtain rfl : v34415 = .int z34414 := hv34415.symm.trans qz34414
      refine lv_aload_n hx hb dX8_takeWord_9 rfl (lv_at hl 0 rfl) ?_
      refine t_get (C := RX8) (T := TX8) (N := 8) X hT m0 g0 rfl rfl 1 (by decide) qw_194 inlX8 rfl dX8_takeWord_10 (fun v34416 hv34416 ov34416 => ?_)
      obtain ⟨z34417, rfl, rz34417⟩ := okV_i ov34416
      refine lv_icmp_ge (tgt := 68) hx hb dX8_takeWord_13 (by decide) (fun c34418 => ?_) (fun c34418 => ?_)
      · have w34419 := cv_le (rfl : z34417.toInt = z34417.toInt) (rfl : z34414.toInt = z34414.toInt) c34418
        exact K68 z34414 z34417 _ _ _ _ (by omega) (by omega) hT hfr pf0 qz34414 hv34416 (lv_sub hl [0] rfl)
      · have w34420 := cv_nle (rfl : z34417.toInt = z34417.toInt) (rfl : z34414.toInt = z34414.toInt) c34418
        refine lv_aload_n hx hb dX8_takeWord_16 rfl (lv_at hl 0 rfl) ?_
        refine lv_aload_n hx hb dX8_takeWord_17 rfl (lv_at hl 0 rfl) ?_
        refine t_get (C := RX8) (T := TX8) (N := 8) X hT m0 g0 rfl rfl 2 (by decide) qw_195 inlX8 rfl dX8_takeWord_18 (fun v34421 hv34421 ov34421 => ?_)
        obtain rfl : v34421 = .int z34414 := hv34421.symm.trans qz34414
        refine t_cVi (n := 1) (C := RX8) (T := TX8) (N := 8) (As := [.int z34414]) (rest := []) X hT (kt93_X8_byteAt l G tag L F hT.2.2.2 p0 z34414 x0 m0 g0 mx0 gx0 pf0) m0 g0 rfl rfl qw_204 qw_205 qw_206 qw_72 qw_207 ⟨rfl, by decide +kernel, by decide +kernel, by decide +kernel⟩ ⟨Nat.le_of_ble_eq_true rfl, Nat.le_of_ble_eq_true rfl⟩ hl rfl rfl (Nat.le_of_ble_eq_true rfl) dX8_takeWord_21 ⟨Nat.le_of_ble_eq_true rfl, Nat.le_of_ble_eq_true rfl⟩ (fun z34422 F9 H locs hT hz34422 => ?_)
        obtain ⟨fz34422, hz34422⟩ := hz34422
        rw [fz34422] at hT
        obtain ⟨hz34422, iz34422⟩ := hz34422
        refine t_cSi (n := 1) (As := [.int z34422]) (rest := []) X hT (kt94_X8_isLetter l G tag L F hT.2.2.2 z34422 ) qw_208 qw_209 qw_72 qw_210 ⟨by decide +kernel, by decide +kernel, by decide +kernel⟩ ⟨Nat.le_of_ble_eq_true rfl, Nat.le_of_ble_eq_true rfl⟩ hl rfl rfl (Nat.le_of_ble_eq_true rfl) dX8_takeWord_24 ⟨Nat.le_of_ble_eq_true rfl, Nat.le_of_ble_eq_true rfl⟩ (fun z34423 F9 H locs hT hz34423 => ?_)
        obtain ⟨fz34423, hz34423⟩ := hz34423
        rw [fz34423] at hT
        refine lv_if_eq (tgt := 68) hx hb dX8_takeWord_27 (by decide) (fun c34424 => ?_) (fun c34424 => ?_)
        · have w34425 := cv_eq (rfl : z34423.toInt = z34423.toInt) (by decide : (0 : Int32).toInt = 0) c34424
          exact K68 z34414 z34417 _ _ _ _ (by omega) (by omega) hT hfr pf0 qz34414 hv34416 (lv_sub hl [0] rfl)
        · have w34426 := cv_ne (rfl : z34423.toInt = z34423.toInt) (by decide : (0 : Int32).toInt = 0) c34424
          refine lv_aload_n hx hb dX8_takeWord_30 rfl (lv_at hl 0 rfl) ?_
          refine lv_aload_n hx hb dX8_takeWord_31 rfl (lv_at hl 0 rfl) ?_
          refine t_get (C := RX8) (T := TX8) (N := 8) X hT m0 g0 rfl rfl 7 (by decide) qw_215 inlX8 rfl dX8_takeWord_32 (fun v34427 hv34427 ov34427 => ?_)
          obtain ⟨z34428, rfl⟩ := ov34427
          refine lv_iconst (v := 5) hx hb dX8_takeWord_35 (by decide) ?_
          refine lv_lshl hx hb dX8_takeWord_36 rfl ?_
          refine lv_topl (fun z34429 ez34429 => ?_)
          refine lv_aload_n hx hb dX8_takeWord_37 rfl (lv_at hl 0 rfl) ?_
          refine lv_aload_n hx hb dX8_takeWord_38 rfl (lv_at hl 0 rfl) ?_
          refine t_get (C := RX8) (T := TX8) (N := 8) X hT m0 g0 rfl rfl 2 (by decide) qw_195 inlX8 rfl dX8_takeWord_39 (fun v34430 hv34430 ov34430 => ?_)
          obtain rfl : v34430 = .int z34414 := hv34430.symm.trans qz34414
          refine t_cVi (n := 1) (C := RX8) (T := TX8) (N := 8) (As := [.int z34414]) (rest := [.long z34429, .ref p0]) X hT (kt93_X8_byteAt l G tag L F hT.2.2.2 p0 z34414 x0 m0 g0 mx0 gx0 pf0) m0 g0 rfl rfl qw_204 qw_205 qw_206 qw_72 qw_207 ⟨rfl, by decide +kernel, by decide +kernel, by decide +kernel⟩ ⟨Nat.le_of_ble_eq_true rfl, Nat.le_of_ble_eq_true rfl⟩ hl rfl rfl (Nat.le_of_ble_eq_true rfl) dX8_takeWord_42 ⟨Nat.le_of_ble_eq_true rfl, Nat.le_of_ble_eq_true rfl⟩ (fun z34431 F9 H locs hT hz34431 => ?_)
          obtain ⟨fz34431, hz34431⟩ := hz34431
          rw [fz34431] at hT
          obtain ⟨hz34431, iz34431⟩ := hz34431
          refine lv_bipush (v := 97) hx hb dX8_takeWord_45 (by decide) ?_
          refine lv_isub hx hb dX8_takeWord_47 ?_
          refine lv_topi (fun z34432 ez34432 => ?_)
          have hz34432 : z34432.toInt = z34431.toInt - 97 := ar_sub ez34432 (rfl : z34431.toInt = z34431.toInt) (by decide : (97 : Int32).toInt = 97) (by omega) (by omega)
          have rz34432 : (-98) ≤ z34432.toInt ∧ z34432.toInt ≤ 158 := by omega
          refine lv_iconst (v := 1) hx hb dX8_takeWord_48 (by decide) ?_
          refine lv_iadd hx hb dX8_takeWord_49 ?_
          refine lv_topi (fun z34433 ez34433 => ?_)
          have hz34433 : z34433.toInt = z34432.toInt + 1 := ar_add ez34433 (rfl : z34432.toInt = z34432.toInt) (by decide : (1 : Int32).toInt = 1) (by omega) (by omega)
          have rz34433 : (-97) ≤ z34433.toInt ∧ z34433.toInt ≤ 159 := by omega
          refine lv_i2l hx hb dX8_takeWord_50 rfl ?_
          refine lv_topl (fun z34434 ez34434 => ?_)
          refine lv_lor hx hb dX8_takeWord_51 ?_
          refine lv_topl (fun z34435 ez34435 => ?_)
          refine t_put (C := RX8) (T := TX8) (N := 8) (v := .long z34435) X hT m0 g0 rfl tyX8 tyX8_ok nmX8 rfl 7 (by decide) qw_215 inlX8 rfl (by first | rfl | decide) (by first | rfl | decide) rfl (⟨_, rfl⟩) dX8_takeWord_52 (fun F H locs hT v34436 h1v34436 h2v34436 => ?_)
          have qz34414 := (h1v34436 _ _ (Or.inr (by decide))).trans qz34414
          have pf0 := (h1v34436 _ _ (Or.inr (by decide))).trans pf0
          have hv34416 := (h1v34436 _ _ (Or.inr (by decide))).trans hv34416
          have hfr : (∀ b j : Nat, (tag b ≠ 24 ∨ j ≠ 2) → (tag b ≠ 24 ∨ j ≠ 3) → (tag b ≠ 24 ∨ j ≠ 7) → fld F b j = fld Fo b j) ∧ EF tag F Fo := ⟨fun b j n24_2 n24_3 n24_7 => (h1v34436 b j (fr_ne g0 n24_7)).trans (hfr.1 b j n24_2 n24_3 n24_7), fun b j hb => (h2v34436 b j).trans (hfr.2 b j hb)⟩
          refine lv_aload_n hx hb dX8_takeWord_55 rfl (lv_at hl 0 rfl) ?_
          refine lv_dup hx hb dX8_takeWord_56 rfl ?_
          refine t_get (C := RX8) (T := TX8) (N := 8) X hT m0 g0 rfl rfl 2 (by decide) qw_195 inlX8 rfl dX8_takeWord_57 (fun v34437 hv34437 ov34437 => ?_)
          obtain rfl : v34437 = .int z34414 := hv34437.symm.trans qz34414
          refine lv_iconst (v := 1) hx hb dX8_takeWord_60 (by decide) ?_
          refine lv_iadd hx hb dX8_takeWord_61 ?_
          refine lv_topi (fun z34438 ez34438 => ?_)
          have hz34438 : z34438.toInt = z34414.toInt + 1 := ar_add ez34438 (rfl : z34414.toInt = z34414.toInt) (by decide : (1 : Int32).toInt = 1) (by omega) (by omega)
          have rz34438 : 1 ≤ z34438.toInt ∧ z34438.toInt ≤ 1000 := by omega
          refine t_put (C := RX8) (T := TX8) (N := 8) (v := .int z34438) X hT m0 g0 rfl tyX8 tyX8_ok nmX8 rfl 2 (by decide) qw_195 inlX8 rfl (by first | rfl | decide) (by first | rfl | decide) rfl (⟨_, rfl, (show 0 ≤ (z34438 : Int32).toInt from (by omega)), (show (z34438 : Int32).toInt ≤ 1000 from (by omega))⟩) dX8_takeWord_62 (fun F H locs hT v34439 h1v34439 h2v34439 => ?_)
          have pf0 := (h1v34439 _ _ (Or.inr (by decide))).trans pf0
          have hv34416 := (h1v34439 _ _ (Or.inr (by decide))).trans hv34416
          have hfr : (∀ b j : Nat, (tag b ≠ 24 ∨ j ≠ 2) → (tag b ≠ 24 ∨ j ≠ 3) → (tag b ≠ 24 ∨ j ≠ 7) → fld F b j = fld Fo b j) ∧ EF tag F Fo := ⟨fun b j n24_2 n24_3 n24_7 => (h1v34439 b j (fr_ne g0 n24_2)).trans (hfr.1 b j n24_2 n24_3 n24_7), fun b j hb => (h2v34439 b j).trans (hfr.2 b j hb)⟩
          refine lv_goto (tgt := 5) hx hb dX8_takeWord_65 (by decide) ?_
          exact ih5 z34438 _ _ _ _ (by omega) (by omega) hT hfr pf0 v34439 (lv_sub hl [0] rfl)
  refine lv_aload_n hx hb dX8_takeWord_0 rfl (lv_at hl 0 rfl) ?_
  refine lv_lconst (v := 0) hx hb dX8_takeWord_1 (by decide) ?_
  refine t_put (C := RX8) (T := TX8) (N := 8) (v := .long (0 : Int64)) X hT m0 g0 rfl tyX8 tyX8_ok nmX8 rfl 7 (by decide) qw_215 inlX8 rfl (by first | rfl | decide) (by first | rfl | decide) rfl (⟨_, rfl⟩) dX8_takeWord_2 (fun F H locs hT v34440 h1v34440 h2v34440 => ?_)
  have pf0 := (h1v34440 _ _ (Or.inr (by decide))).trans pf0
  have hfr : (∀ b j : Nat, (tag b ≠ 24 ∨ j ≠ 2) → (tag b ≠ 24 ∨ j ≠ 3) → (tag b ≠ 24 ∨ j ≠ 7) → fld F b j = fld Fo b j) ∧ EF tag F Fo := ⟨fun b j n24_2 n24_3 n24_7 => (h1v34440 b j (fr_ne g0 n24_7)).trans (hfr.1 b j n24_2 n24_3 n24_7), fun b j hb => (h2v34440 b j).trans (hfr.2 b j hb)⟩
  obtain ⟨z34441, qz34441, rz34441⟩ := t_fld hT m0 g0 rfl 2 rfl
  have rz34441 : 0 ≤ z34441.toInt ∧ z34441.toInt ≤ 1000 := rz34441
  exact K5 1001 z34441 _ _ _ _ (by omega) (by omega) hT hfr pf0 qz34441 (lv_sub hl [0] rfl)
set_option maxHeartbeats 4000000 in
set_option maxRecDepth 100000 in
theorem kt98_X8_advance (l : Launch) (G : KG) (tag : Nat → Nat) (L : List Nat) (Fo : Nat → va_E) (ho : okT G ttC tag L Fo) (p0 : Nat) (x0 : Nat) (m0 : p0 ∈ L) (g0 : tag p0 = 24) (mx0 : x0 ∈ L) (gx0 : tag x0 = 1) (pf0 : fld Fo p0 0 = .ref x0) : TMv l yX8_advance cX8_advance 2 { frames := 2, cells := 0, slots := 0, locals := 41 } G ttC tag L Fo [.ref p0] (fun F1 => ((∀ b j : Nat, (tag b ≠ 24 ∨ j ≠ 2) → (tag b ≠ 24 ∨ j ≠ 3) → (tag b ≠ 24 ∨ j ≠ 4) → (tag b ≠ 24 ∨ j ≠ 5) → (tag b ≠ 24 ∨ j ≠ 6) → (tag b ≠ 24 ∨ j ≠ 7) → fld F1 b j = fld Fo b j) ∧ EF tag F1 Fo)) := by
  refine t_bodyv (y := yX8_advance) (cd := cX8_advance) (mL := 2) (rm := { frames := 2, cells := 0, slots := 0, locals := 41 }) (av := [.ref p0]) (by decide) (Nat.le_of_ble_eq_true rfl) ho ?_
  intro p e s m args below meth c ls A Q hQ X hT hl
  have hx := X.1.1
  have hb := X.1.2.1
  have hl : lv_has ls 2 [(0, .ref p0)] := hl
  obtain ⟨F, hFo⟩ : ∃ F : Nat → va_E, F = Fo := ⟨_, rfl⟩
  rw [← hFo] at hT pf0
  have hfr : (∀ b j : Nat, (tag b ≠ 24 ∨ j ≠ 2) → (tag b ≠ 24 ∨ j ≠ 3) → (tag b ≠ 24 ∨ j ≠ 4) → (tag b ≠ 24 ∨ j ≠ 5) → (tag b ≠ 24 ∨ j ≠ 6) → (tag b ≠ 24 ∨ j ≠ 7) → fld F b j = fld Fo b j) ∧ EF tag F Fo := by
    rw [hFo]
    exact ⟨by intros; rfl, fun _ _ _ => rfl⟩
  have K121 : ∀ (z35183 : Int32) (z35184 : Int32) (b35185 : Nat) (z35186 : Int32) (z35187 : Int32) (z35188 : Int32) (z35189 : Int32) (F : Nat → va_E) (H : Heap) (locs : List Loc) (ls : Array Slot), (0 ≤ z35183.toInt ∧ z35183.toInt ≤ 255) → (3 ≤ z35184.toInt ∧ z35184.toInt ≤ 4) → (b35185 ∈ L) → (tag b35185 = 24) → (0 ≤ z35186.toInt ∧ z35186.toInt ≤ 1000) → (0 ≤ z35187.toInt ∧ z35187.toInt ≤ 999) → (0 ≤ z35188.toInt ∧ z35188.toInt ≤ 1000) → (0 ≤ z35189.toInt ∧ z35189.toInt ≤ 999) → TH G ttC A s tag L F H locs → ((∀ b j : Nat, (tag b ≠ 24 ∨ j ≠ 2) → (tag b ≠ 24 ∨ j ≠ 3) → (tag b ≠ 24 ∨ j ≠ 4) → (tag b ≠ 24 ∨ j ≠ 5) → (tag b ≠ 24 ∨ j ≠ 6) → (tag b ≠ 24 ∨ j ≠ 7) → fld F b j = fld Fo b j) ∧ EF tag F Fo) → fld F p0 0 = .ref x0 → fld F p0 5 = .int z35186 → fld F p0 2 = .int z35187 → fld F p0 1 = .int z35188 → fld F p0 4 = .int z35189 → lv_has ls 2 [(0, .ref p0), (1, .int z35183)] → W p l e { frames := 2, cells := 0, slots := 0, locals := 41 } s m args below meth c H locs 0 0 Q (F0 m 121 ls [.int z35184, .ref b35185]) := by
    intro z35183 z35184 b35185 z35186 z35187 z35188 z35189 F H locs ls rz35183 rz35184 mb35185 gb35185 rz35186 rz35187 rz35188 rz35189 hT hfr pf0 qz35186 qz35187 qz35188 qz35189 hl
    refine t_put (C := RX8) (T := TX8) (N := 8) (v := .int z35184) X hT mb35185 gb35185 rfl tyX8 tyX8_ok nmX8 rfl 3 (by decide) qw_202 inlX8 rfl (by first | rfl | decide) (by first | rfl | decide) rfl (⟨_, rfl, (show (-2147483648) ≤ (z35184 : Int32).toInt from (by omega)), (show (z35184 : Int32).toInt ≤ 2147483647 from (by omega))⟩) dX8_advance_121 (fun F H locs hT v35190 h1v35190 h2v35190 => ?_)
    have qz35186 := (h1v35190 _ _ (Or.inr (by decide))).trans qz35186
    have qz35187 := (h1v35190 _ _ (Or.inr (by decide))).trans qz35187
    have qz35188 := (h1v35190 _ _ (Or.inr (by decide))).trans qz35188
    have qz35189 := (h1v35190 _ _ (Or.inr (by decide))).trans qz35189
    have pf0 := (h1v35190 _ _ (Or.inr (by decide))).trans pf0
    have hfr : (∀ b j : Nat, (tag b ≠ 24 ∨ j ≠ 2) → (tag b ≠ 24 ∨ j ≠ 3) → (tag b ≠ 24 ∨ j ≠ 4) → (tag b ≠ 24 ∨ j ≠ 5) → (tag b ≠ 24 ∨ j ≠ 6) → (tag b ≠ 24 ∨ j ≠ 7) → fld F b j = fld Fo b j) ∧ EF tag F Fo := ⟨fun b j n24_2 n24_3 n24_4 n24_5 n24_6 n24_7 => (h1v35190 b j (fr_ne gb35185 n24_3)).trans (hfr.1 b j n24_2 n24_3 n24_4 n24_5 n24_6 n24_7), fun b j hb => (h2v35190 b j).trans (hfr.2 b j hb)⟩
    refine lv_aload_n hx hb dX8_advance_124 rfl (lv_at hl 0 rfl) ?_
    refine lv_iload_n hx hb dX8_advance_125 rfl (lv_at hl 1 rfl) ?_
    refine t_put (C := RX8) (T := TX8) (N := 8) (v := .int z35183) X hT m0 g0 rfl tyX8 tyX8_ok nmX8 rfl 6 (by decide) qw_203 inlX8 rfl (by first | rfl | decide) (by first | rfl | decide) rfl (⟨_, rfl, (show (-2147483648) ≤ (z35183 : Int32).toInt from (by omega)), (show (z35183 : Int32).toInt ≤ 2147483647 from (by omega))⟩) dX8_advance_126 (fun F H locs hT v35191 h1v35191 h2v35191 => ?_)
    have qz35186 := (h1v35191 _ _ (Or.inr (by decide))).trans qz35186
    have qz35187 := (h1v35191 _ _ (Or.inr (by decide))).trans qz35187
    have qz35188 := (h1v35191 _ _ (Or.inr (by decide))).trans qz35188
    have qz35189 := (h1v35191 _ _ (Or.inr (by decide))).trans qz35189
    have pf0 := (h1v35191 _ _ (Or.inr (by decide))).trans pf0
    have v35190 := (h1v35191 _ _ (Or.inr (by decide))).trans v35190
    have hfr : (∀ b j : Nat, (tag b ≠ 24 ∨ j ≠ 2) → (tag b ≠ 24 ∨ j ≠ 3) → (tag b ≠ 24 ∨ j ≠ 4) → (tag b ≠ 24 ∨ j ≠ 5) → (tag b ≠ 24 ∨ j ≠ 6) → (tag b ≠ 24 ∨ j ≠ 7) → fld F b j = fld Fo b j) ∧ EF tag F Fo := ⟨fun b j n24_2 n24_3 n24_4 n24_5 n24_6 n24_7 => (h1v35191 b j (fr_ne g0 n24_6)).trans (hfr.1 b j n24_2 n24_3 n24_4 n24_5 n24_6 n24_7), fun b j hb => (h2v35191 b j).trans (hfr.2 b j hb)⟩
    refine lv_aload_n hx hb dX8_advance_129 rfl (lv_at hl 0 rfl) ?_
    refine lv_dup hx hb dX8_advance_130 rfl ?_
    refine t_get (C := RX8) (T := TX8) (N := 8) X hT m0 g0 rfl rfl 2 (by decide) qw_195 inlX8 rfl dX8_advance_131 (fun v35192 hv35192 ov35192 => ?_)
    obtain rfl : v35192 = .int z35187 := hv35192.symm.trans qz35187
    refine lv_iconst (v := 1) hx hb dX8_advance_134 (by decide) ?_
    refine lv_iadd hx hb dX8_advance_135 ?_
    refine lv_topi (fun z35193 ez35193 => ?_)
    have hz35193 : z35193.toInt = z35187.toInt + 1 := ar_add ez35193 (rfl : z35187.toInt = z35187.toInt) (by decide : (1 : Int32).toInt = 1) (by omega) (by omega)
    have rz35193 : 1 ≤ z35193.toInt ∧ z35193.toInt ≤ 1000 := by omega
    refine t_put (C := RX8) (T := TX8) (N := 8) (v := .int z35193) X hT m0 g0 rfl tyX8 tyX8_ok nmX8 rfl 2 (by decide) qw_195 inlX8 rfl (by first | rfl | decide) (by first | rfl | decide) rfl (⟨_, rfl, (show 0 ≤ (z35193 : Int32).toInt from (by omega)), (show (z35193 : Int32).toInt ≤ 1000 from (by omega))⟩) dX8_advance_136 (fun F H locs hT v35194 h1v35194 h2v35194 => ?_)
    have qz35186 := (h1v35194 _ _ (Or.inr (by decide))).trans qz35186
    have qz35188 := (h1v35194 _ _ (Or.inr (by decide))).trans qz35188
    have qz35189 := (h1v35194 _ _ (Or.inr (by decide))).trans qz35189
    have pf0 := (h1v35194 _ _ (Or.inr (by decide))).trans pf0
    have v35190 := (h1v35194 _ _ (Or.inr (by decide))).trans v35190
    have v35191 := (h1v35194 _ _ (Or.inr (by decide))).trans v35191
    have hfr : (∀ b j : Nat, (tag b ≠ 24 ∨ j ≠ 2) → (tag b ≠ 24 ∨ j ≠ 3) → (tag b ≠ 24 ∨ j ≠ 4) → (tag b ≠ 24 ∨ j ≠ 5) → (tag b ≠ 24 ∨ j ≠ 6) → (tag b ≠ 24 ∨ j ≠ 7) → fld F b j = fld Fo b j) ∧ EF tag F Fo := ⟨fun b j n24_2 n24_3 n24_4 n24_5 n24_6 n24_7 => (h1v35194 b j (fr_ne g0 n24_2)).trans (hfr.1 b j n24_2 n24_3 n24_4 n24_5 n24_6 n24_7), fun b j hb => (h2v35194 b j).trans (hfr.2 b j hb)⟩
    exact t_vret hQ X hT hfr (Nat.le_of_ble_eq_true rfl) (Nat.le_of_ble_eq_true rfl) dX8_advance_139
  have K116 : ∀ (z35195 : Int32) (b35196 : Nat) (z35197 : Int32) (z35198 : Int32) (z35199 : Int32) (z35200 : Int32) (F : Nat → va_E) (H : Heap) (locs : List Loc) (ls : Array Slot), (44 ≤ z35195.toInt ∧ z35195.toInt ≤ 59) → (b35196 ∈ L) → (tag b35196 = 24) → (0 ≤ z35197.toInt ∧ z35197.toInt ≤ 1000) → (0 ≤ z35198.toInt ∧ z35198.toInt ≤ 999) → (0 ≤ z35199.toInt ∧ z35199.toInt ≤ 1000) → (0 ≤ z35200.toInt ∧ z35200.toInt ≤ 999) → TH G ttC A s tag L F H locs → ((∀ b j : Nat, (tag b ≠ 24 ∨ j ≠ 2) → (tag b ≠ 24 ∨ j ≠ 3) → (tag b ≠ 24 ∨ j ≠ 4) → (tag b ≠ 24 ∨ j ≠ 5) → (tag b ≠ 24 ∨ j ≠ 6) → (tag b ≠ 24 ∨ j ≠ 7) → fld F b j = fld Fo b j) ∧ EF tag F Fo) → fld F p0 0 = .ref x0 → fld F p0 5 = .int z35197 → fld F p0 2 = .int z35198 → fld F p0 1 = .int z35199 → fld F p0 4 = .int z35200 → lv_has ls 2 [(0, .ref p0), (1, .int z35195)] → W p l e { frames := 2, cells := 0, slots := 0, locals := 41 } s m args below meth c H locs 0 0 Q (F0 m 116 ls [.ref b35196]) := by
    intro z35195 b35196 z35197 z35198 z35199 z35200 F H locs ls rz35195 mb35196 gb35196 rz35197 rz35198 rz35199 rz35200 hT hfr pf0 qz35197 qz35198 qz35199 qz35200 hl
    refine lv_iconst (v := 3) hx hb dX8_advance_116 (by decide) ?_
    refine lv_goto (tgt := 121) hx hb dX8_advance_117 (by decide) ?_
    exact K121 z35195 3 b35196 z35197 z35198 z35199 z35200 _ _ _ _ (by omega) (by decide) mb35196 gb35196 (by omega) (by omega) (by omega) (by omega) hT hfr pf0 qz35197 qz35198 qz35199 qz35200 (lv_sub hl [0, 1] rfl)
  have K45 : ∀ (z35201 : Int32) (z35202 : Int32) (z35203 : Int32) (z35204 : Int32) (F : Nat → va_E) (H : Heap) (locs : List Loc) (ls : Array Slot), (0 ≤ z35201.toInt ∧ z35201.toInt ≤ 1000) → (0 ≤ z35202.toInt ∧ z35202.toInt ≤ 1000) → (0 ≤ z35203.toInt ∧ z35203.toInt ≤ 1000) → (0 ≤ z35204.toInt ∧ z35204.toInt ≤ 1000) → TH G ttC A s tag L F H locs → ((∀ b j : Nat, (tag b ≠ 24 ∨ j ≠ 2) → (tag b ≠ 24 ∨ j ≠ 3) → (tag b ≠ 24 ∨ j ≠ 4) → (tag b ≠ 24 ∨ j ≠ 5) → (tag b ≠ 24 ∨ j ≠ 6) → (tag b ≠ 24 ∨ j ≠ 7) → fld F b j = fld Fo b j) ∧ EF tag F Fo) → fld F p0 0 = .ref x0 → fld F p0 4 = .int z35201 → fld F p0 5 = .int z35202 → fld F p0 2 = .int z35203 → fld F p0 1 = .int z35204 → lv_has ls 2 [(0, .ref p0)] → W p l e { frames := 2, cells := 0, slots := 0, locals := 41 } s m args below meth c H locs 0 0 Q (F0 m 45 ls []) := by
    intro z35201 z35202 z35203 z35204 F H locs ls rz35201 rz35202 rz35203 rz35204 hT hfr pf0 qz35201 qz35202 qz35203 qz35204 hl
    refine lv_aload_n hx hb dX8_advance_45 rfl (lv_at hl 0 rfl) ?_
    refine lv_aload_n hx hb dX8_advance_46 rfl (lv_at hl 0 rfl) ?_
    refine t_get (C := RX8) (T := TX8) (N := 8) X hT m0 g0 rfl rfl 2 (by decide) qw_195 inlX8 rfl dX8_advance_47 (fun v35205 hv35205 ov35205 => ?_)
    obtain rfl : v35205 = .int z35203 := hv35205.symm.trans qz35203
    refine t_put (C := RX8) (T := TX8) (N := 8) (v := .int z35203) X hT m0 g0 rfl tyX8 tyX8_ok nmX8 rfl 4 (by decide) qw_200 inlX8 rfl (by first | rfl | decide) (by first | rfl | decide) rfl (⟨_, rfl, (show 0 ≤ (z35203 : Int32).toInt from (by omega)), (show (z35203 : Int32).toInt ≤ 1000 from (by omega))⟩) dX8_advance_50 (fun F H locs hT v35206 h1v35206 h2v35206 => ?_)
    have qz35202 := (h1v35206 _ _ (Or.inr (by decide))).trans qz35202
    have qz35203 := (h1v35206 _ _ (Or.inr (by decide))).trans qz35203
    have qz35204 := (h1v35206 _ _ (Or.inr (by decide))).trans qz35204
    have pf0 := (h1v35206 _ _ (Or.inr (by decide))).trans pf0
    have hfr : (∀ b j : Nat, (tag b ≠ 24 ∨ j ≠ 2) → (tag b ≠ 24 ∨ j ≠ 3) → (tag b ≠ 24 ∨ j ≠ 4) → (tag b ≠ 24 ∨ j ≠ 5) → (tag b ≠ 24 ∨ j ≠ 6) → (tag b ≠ 24 ∨ j ≠ 7) → fld F b j = fld Fo b j) ∧ EF tag F Fo := ⟨fun b j n24_2 n24_3 n24_4 n24_5 n24_6 n24_7 => (h1v35206 b j (fr_ne g0 n24_4)).trans (hfr.1 b j n24_2 n24_3 n24_4 n24_5 n24_6 n24_7), fun b j hb => (h2v35206 b j).trans (hfr.2 b j hb)⟩
    refine lv_aload_n hx hb dX8_advance_53 rfl (lv_at hl 0 rfl) ?_
    refine lv_aload_n hx hb dX8_advance_54 rfl (lv_at hl 0 rfl) ?_
    refine t_get (C := RX8) (T := TX8) (N := 8) X hT m0 g0 rfl rfl 2 (by decide) qw_195 inlX8 rfl dX8_advance_55 (fun v35207 hv35207 ov35207 => ?_)
    obtain rfl : v35207 = .int z35203 := hv35207.symm.trans qz35203
    refine t_cVi (n := 1) (C := RX8) (T := TX8) (N := 8) (As := [.int z35203]) (rest := []) X hT (kt93_X8_byteAt l G tag L F hT.2.2.2 p0 z35203 x0 m0 g0 mx0 gx0 pf0) m0 g0 rfl rfl qw_204 qw_205 qw_206 qw_72 qw_207 ⟨rfl, by decide +kernel, by decide +kernel, by decide +kernel⟩ ⟨Nat.le_of_ble_eq_true rfl, Nat.le_of_ble_eq_true rfl⟩ hl rfl rfl (Nat.le_of_ble_eq_true rfl) dX8_advance_58 ⟨Nat.le_of_ble_eq_true rfl, Nat.le_of_ble_eq_true rfl⟩ (fun z35208 F9 H locs hT hz35208 => ?_)
    obtain ⟨fz35208, hz35208⟩ := hz35208
    rw [fz35208] at hT
    obtain ⟨hz35208, iz35208⟩ := hz35208
    refine lv_istore_n (lv' := [(1, .int z35208), (0, .ref p0)]) hx hb dX8_advance_61 rfl hl (by decide) rfl (fun ls hl => ?_)
    refine lv_iload_n hx hb dX8_advance_62 rfl (lv_at hl 0 rfl) ?_
    refine lv_iconst (v := (-1)) hx hb dX8_advance_63 (by decide) ?_
    refine lv_icmp_ne (tgt := 75) hx hb dX8_advance_64 (by decide) (fun c35209 => ?_) (fun c35209 => ?_)
    · have w35210 := cv_ne (rfl : z35208.toInt = z35208.toInt) (by decide : ((-1) : Int32).toInt = (-1)) c35209
      have w35211 := (fun h => (iz35208 h)) (by omega)
      refine lv_iload_n hx hb dX8_advance_75 rfl (lv_at hl 0 rfl) ?_
      refine t_cSi (n := 1) (As := [.int z35208]) (rest := []) X hT (kt94_X8_isLetter l G tag L F hT.2.2.2 z35208 ) qw_208 qw_209 qw_72 qw_210 ⟨by decide +kernel, by decide +kernel, by decide +kernel⟩ ⟨Nat.le_of_ble_eq_true rfl, Nat.le_of_ble_eq_true rfl⟩ hl rfl rfl (Nat.le_of_ble_eq_true rfl) dX8_advance_76 ⟨Nat.le_of_ble_eq_true rfl, Nat.le_of_ble_eq_true rfl⟩ (fun z35212 F9 H locs hT hz35212 => ?_)
      obtain ⟨fz35212, hz35212⟩ := hz35212
      rw [fz35212] at hT
      refine lv_if_eq (tgt := 89) hx hb dX8_advance_79 (by decide) (fun c35213 => ?_) (fun c35213 => ?_)
      · have w35214 := cv_eq (rfl : z35212.toInt = z35212.toInt) (by decide : (0 : Int32).toInt = 0) c35213
        refine lv_iload_n hx hb dX8_advance_89 rfl (lv_at hl 0 rfl) ?_
        refine t_cSi (n := 1) (As := [.int z35208]) (rest := []) X hT (kt95_X8_isDigit l G tag L F hT.2.2.2 z35208 ) qw_216 qw_217 qw_72 qw_218 ⟨by decide +kernel, by decide +kernel, by decide +kernel⟩ ⟨Nat.le_of_ble_eq_true rfl, Nat.le_of_ble_eq_true rfl⟩ hl rfl rfl (Nat.le_of_ble_eq_true rfl) dX8_advance_90 ⟨Nat.le_of_ble_eq_true rfl, Nat.le_of_ble_eq_true rfl⟩ (fun z35215 F9 H locs hT hz35215 => ?_)
        obtain ⟨fz35215, hz35215⟩ := hz35215
        rw [fz35215] at hT
        refine lv_if_eq (tgt := 103) hx hb dX8_advance_93 (by decide) (fun c35216 => ?_) (fun c35216 => ?_)
        · have w35217 := cv_eq (rfl : z35215.toInt = z35215.toInt) (by decide : (0 : Int32).toInt = 0) c35216
          refine lv_aload_n hx hb dX8_advance_103 rfl (lv_at hl 1 rfl) ?_
          refine lv_iload_n hx hb dX8_advance_104 rfl (lv_at hl 0 rfl) ?_
          refine lv_bipush (v := 59) hx hb dX8_advance_105 (by decide) ?_
          refine lv_icmp_eq (tgt := 116) hx hb dX8_advance_107 (by decide) (fun c35218 => ?_) (fun c35218 => ?_)
          · have w35219 := cv_eq (rfl : z35208.toInt = z35208.toInt) (by decide : (59 : Int32).toInt = 59) c35218
            have w35220 := (fun h => (iz35208 h)) (by omega)
            exact K116 z35208 p0 z35202 z35203 z35204 z35203 _ _ _ _ (by omega) m0 g0 (by omega) (by omega) (by omega) (by omega) hT hfr pf0 qz35202 qz35203 qz35204 v35206 (lv_sub hl [1, 0] rfl)
          · have w35221 := cv_ne (rfl : z35208.toInt = z35208.toInt) (by decide : (59 : Int32).toInt = 59) c35218
            have w35222 := (fun h => (iz35208 h)) (by omega)
            refine lv_iload_n hx hb dX8_advance_110 rfl (lv_at hl 0 rfl) ?_
            refine lv_bipush (v := 44) hx hb dX8_advance_111 (by decide) ?_
            refine lv_icmp_ne (tgt := 120) hx hb dX8_advance_113 (by decide) (fun c35223 => ?_) (fun c35223 => ?_)
            · have w35224 := cv_ne (rfl : z35208.toInt = z35208.toInt) (by decide : (44 : Int32).toInt = 44) c35223
              have w35225 := (fun h => (iz35208 h)) (by omega)
              refine lv_iconst (v := 4) hx hb dX8_advance_120 (by decide) ?_
              exact K121 z35208 4 p0 z35202 z35203 z35204 z35203 _ _ _ _ (by omega) (by decide) m0 g0 (by omega) (by omega) (by omega) (by omega) hT hfr pf0 qz35202 qz35203 qz35204 v35206 (lv_sub hl [1, 0] rfl)
            · have w35226 := cv_eq (rfl : z35208.toInt = z35208.toInt) (by decide : (44 : Int32).toInt = 44) c35223
              have w35227 := (fun h => (iz35208 h)) (by omega)
              exact K116 z35208 p0 z35202 z35203 z35204 z35203 _ _ _ _ (by omega) m0 g0 (by omega) (by omega) (by omega) (by omega) hT hfr pf0 qz35202 qz35203 qz35204 v35206 (lv_sub hl [1, 0] rfl)
        · have w35228 := cv_ne (rfl : z35215.toInt = z35215.toInt) (by decide : (0 : Int32).toInt = 0) c35216
          refine lv_aload_n hx hb dX8_advance_96 rfl (lv_at hl 1 rfl) ?_
          refine t_cVv (n := 0) (C := RX8) (T := TX8) (N := 8) (As := []) (rest := []) X hT (kt96_X8_takeWhole l G tag L F hT.2.2.2 p0 x0 m0 g0 mx0 gx0 pf0) m0 g0 rfl rfl qw_219 qw_220 qw_221 qw_72 qw_222 ⟨rfl, by decide +kernel, by decide +kernel, by decide +kernel⟩ ⟨Nat.le_of_ble_eq_true rfl, Nat.le_of_ble_eq_true rfl⟩ hl rfl rfl (Nat.le_of_ble_eq_true rfl) dX8_advance_97 ⟨Nat.le_of_ble_eq_true rfl, Nat.le_of_ble_eq_true rfl⟩ (fun F H locs hT hz35229 => ?_)
          have yz35229 := hz35229
          have qz35202 := (yz35229.1 _ 5 (Or.inr (by decide)) (Or.inr (by decide)) (Or.inr (by decide))).trans qz35202
          have qz35204 := (yz35229.1 _ 1 (Or.inr (by decide)) (Or.inr (by decide)) (Or.inr (by decide))).trans qz35204
          have pf0 := (yz35229.1 _ 0 (Or.inr (by decide)) (Or.inr (by decide)) (Or.inr (by decide))).trans pf0
          have v35206 := (yz35229.1 _ 4 (Or.inr (by decide)) (Or.inr (by decide)) (Or.inr (by decide))).trans v35206
          have hfr : (∀ b j : Nat, (tag b ≠ 24 ∨ j ≠ 2) → (tag b ≠ 24 ∨ j ≠ 3) → (tag b ≠ 24 ∨ j ≠ 4) → (tag b ≠ 24 ∨ j ≠ 5) → (tag b ≠ 24 ∨ j ≠ 6) → (tag b ≠ 24 ∨ j ≠ 7) → fld F b j = fld Fo b j) ∧ EF tag F Fo := ⟨fun b j n24_2 n24_3 n24_4 n24_5 n24_6 n24_7 => (yz35229.1 b j n24_2 n24_3 n24_6).trans (hfr.1 b j n24_2 n24_3 n24_4 n24_5 n24_6 n24_7), fun b j hb => (yz35229.2 b j hb).trans (hfr.2 b j hb)⟩
          refine lv_goto (tgt := 139) hx hb dX8_advance_100 (by decide) ?_
          exact t_vret hQ X hT hfr (Nat.le_of_ble_eq_true rfl) (Nat.le_of_ble_eq_true rfl) dX8_advance_139
      · have w35230 := cv_ne (rfl : z35212.toInt = z35212.toInt) (by decide : (0 : Int32).toInt = 0) c35213
        refine lv_aload_n hx hb dX8_advance_82 rfl (lv_at hl 1 rfl) ?_
        refine t_cVv (n := 0) (C := RX8) (T := TX8) (N := 8) (As := []) (rest := []) X hT (kt97_X8_takeWord l G tag L F hT.2.2.2 p0 x0 m0 g0 mx0 gx0 pf0) m0 g0 rfl rfl qw_211 qw_212 qw_213 qw_72 qw_214 ⟨rfl, by decide +kernel, by decide +kernel, by decide +kernel⟩ ⟨Nat.le_of_ble_eq_true rfl, Nat.le_of_ble_eq_true rfl⟩ hl rfl rfl (Nat.le_of_ble_eq_true rfl) dX8_advance_83 ⟨Nat.le_of_ble_eq_true rfl, Nat.le_of_ble_eq_true rfl⟩ (fun F H locs hT hz35231 => ?_)
        have yz35231 := hz35231
        have qz35202 := (yz35231.1 _ 5 (Or.inr (by decide)) (Or.inr (by decide)) (Or.inr (by decide))).trans qz35202
        have qz35204 := (yz35231.1 _ 1 (Or.inr (by decide)) (Or.inr (by decide)) (Or.inr (by decide))).trans qz35204
        have pf0 := (yz35231.1 _ 0 (Or.inr (by decide)) (Or.inr (by decide)) (Or.inr (by decide))).trans pf0
        have v35206 := (yz35231.1 _ 4 (Or.inr (by decide)) (Or.inr (by decide)) (Or.inr (by decide))).trans v35206
        have hfr : (∀ b j : Nat, (tag b ≠ 24 ∨ j ≠ 2) → (tag b ≠ 24 ∨ j ≠ 3) → (tag b ≠ 24 ∨ j ≠ 4) → (tag b ≠ 24 ∨ j ≠ 5) → (tag b ≠ 24 ∨ j ≠ 6) → (tag b ≠ 24 ∨ j ≠ 7) → fld F b j = fld Fo b j) ∧ EF tag F Fo := ⟨fun b j n24_2 n24_3 n24_4 n24_5 n24_6 n24_7 => (yz35231.1 b j n24_2 n24_3 n24_7).trans (hfr.1 b j n24_2 n24_3 n24_4 n24_5 n24_6 n24_7), fun b j hb => (yz35231.2 b j hb).trans (hfr.2 b j hb)⟩
        refine lv_goto (tgt := 139) hx hb dX8_advance_86 (by decide) ?_
        exact t_vret hQ X hT hfr (Nat.le_of_ble_eq_true rfl) (Nat.le_of_ble_eq_true rfl) dX8_advance_139
    · have w35232 := cv_eq (rfl : z35208.toInt = z35208.toInt) (by decide : ((-1) : Int32).toInt = (-1)) c35209
      refine lv_aload_n hx hb dX8_advance_67 rfl (lv_at hl 1 rfl) ?_
      refine lv_iconst (v := 0) hx hb dX8_advance_68 (by decide) ?_
      refine t_put (C := RX8) (T := TX8) (N := 8) (v := .int 0) X hT m0 g0 rfl tyX8 tyX8_ok nmX8 rfl 3 (by decide) qw_202 inlX8 rfl (by first | rfl | decide) (by first | rfl | decide) rfl (⟨_, rfl, (show (-2147483648) ≤ (0 : Int32).toInt from (by decide)), (show (0 : Int32).toInt ≤ 2147483647 from (by decide))⟩) dX8_advance_69 (fun F H locs hT v35233 h1v35233 h2v35233 => ?_)
      have qz35202 := (h1v35233 _ _ (Or.inr (by decide))).trans qz35202
      have qz35203 := (h1v35233 _ _ (Or.inr (by decide))).trans qz35203
      have qz35204 := (h1v35233 _ _ (Or.inr (by decide))).trans qz35204
      have pf0 := (h1v35233 _ _ (Or.inr (by decide))).trans pf0
      have v35206 := (h1v35233 _ _ (Or.inr (by decide))).trans v35206
      have hfr : (∀ b j : Nat, (tag b ≠ 24 ∨ j ≠ 2) → (tag b ≠ 24 ∨ j ≠ 3) → (tag b ≠ 24 ∨ j ≠ 4) → (tag b ≠ 24 ∨ j ≠ 5) → (tag b ≠ 24 ∨ j ≠ 6) → (tag b ≠ 24 ∨ j ≠ 7) → fld F b j = fld Fo b j) ∧ EF tag F Fo := ⟨fun b j n24_2 n24_3 n24_4 n24_5 n24_6 n24_7 => (h1v35233 b j (fr_ne g0 n24_3)).trans (hfr.1 b j n24_2 n24_3 n24_4 n24_5 n24_6 n24_7), fun b j hb => (h2v35233 b j).trans (hfr.2 b j hb)⟩
      refine lv_goto (tgt := 139) hx hb dX8_advance_72 (by decide) ?_
      exact t_vret hQ X hT hfr (Nat.le_of_ble_eq_true rfl) (Nat.le_of_ble_eq_true rfl) dX8_advance_139
  have K8 : ∀ (n : Nat) (z35234 : Int32) (z35235 : Int32) (z35236 : Int32) (F : Nat → va_E) (H : Heap) (locs : List Loc) (ls : Array Slot), (1000 - z35236.toInt < (n : Int)) → (0 ≤ z35234.toInt ∧ z35234.toInt ≤ 1000) → (0 ≤ z35235.toInt ∧ z35235.toInt ≤ 1000) → (0 ≤ z35236.toInt ∧ z35236.toInt ≤ 1000) → TH G ttC A s tag L F H locs → ((∀ b j : Nat, (tag b ≠ 24 ∨ j ≠ 2) → (tag b ≠ 24 ∨ j ≠ 3) → (tag b ≠ 24 ∨ j ≠ 4) → (tag b ≠ 24 ∨ j ≠ 5) → (tag b ≠ 24 ∨ j ≠ 6) → (tag b ≠ 24 ∨ j ≠ 7) → fld F b j = fld Fo b j) ∧ EF tag F Fo) → fld F p0 0 = .ref x0 → fld F p0 4 = .int z35234 → fld F p0 5 = .int z35235 → fld F p0 2 = .int z35236 → lv_has ls 2 [(0, .ref p0)] → W p l e { frames := 2, cells := 0, slots := 0, locals := 41 } s m args below meth c H locs 0 0 Q (F0 m 8 ls []) := by
    intro n
    induction n with
    | zero =>
      intro z35234 z35235 z35236 F H locs ls hn rz35234 rz35235 rz35236 hT hfr pf0 qz35234 qz35235 qz35236 hl
      exfalso
      omega
    | succ n ih8 =>
      intro z35234 z35235 z35236 F H locs ls hn rz35234 rz35235 rz35236 hT hfr pf0 qz35234 qz35235 qz35236 hl
      refine lv_aload_n hx hb dX8_advance_8 rfl (lv_at hl 0 rfl) ?_
      refine t_get (C := RX8) (T := TX8) (N := 8) X hT m0 g0 rfl rfl 2 (by decide) qw_195 inlX8 rfl dX8_advance_9 (fun v35237 hv35237 ov35237 => ?_)
      obtain rfl : v35237 = .int z35236 := hv35237.symm.trans qz35236
      refine lv_aload_n hx hb dX8_advance_12 rfl (lv_at hl 0 rfl) ?_
      refine t_get (C := RX8) (T := TX8) (N := 8) X hT m0 g0 rfl rfl 1 (by decide) qw_194 inlX8 rfl dX8_advance_13 (fun v35238 hv35238 ov35238 => ?_)
      obtain ⟨z35239, rfl, rz35239⟩ := okV_i ov35238
      refine lv_icmp_ge (tgt := 45) hx hb dX8_advance_16 (by decide) (fun c35240 => ?_) (fun c35240 => ?_)
      · have w35241 := cv_le (rfl : z35239.toInt = z35239.toInt) (rfl : z35236.toInt = z35236.toInt) c35240
        exact K45 z35234 z35235 z35236 z35239 _ _ _ _ (by omega) (by omega) (by omega) (by omega) hT hfr pf0 qz35234 qz35235 qz35236 hv35238 (lv_sub hl [0] rfl)
      · have w35242 := cv_nle (rfl : z35239.toInt = z35239.toInt) (rfl : z35236.toInt = z35236.toInt) c35240
        refine lv_aload_n hx hb dX8_advance_19 rfl (lv_at hl 0 rfl) ?_
        refine lv_aload_n hx hb dX8_advance_20 rfl (lv_at hl 0 rfl) ?_
        refine t_get (C := RX8) (T := TX8) (N := 8) X hT m0 g0 rfl rfl 2 (by decide) qw_195 inlX8 rfl dX8_advance_21 (fun v35243 hv35243 ov35243 => ?_)
        obtain rfl : v35243 = .int z35236 := hv35243.symm.trans qz35236
        refine t_cVi (n := 1) (C := RX8) (T := TX8) (N := 8) (As := [.int z35236]) (rest := []) X hT (kt93_X8_byteAt l G tag L F hT.2.2.2 p0 z35236 x0 m0 g0 mx0 gx0 pf0) m0 g0 rfl rfl qw_204 qw_205 qw_206 qw_72 qw_207 ⟨rfl, by decide +kernel, by decide +kernel, by decide +kernel⟩ ⟨Nat.le_of_ble_eq_true rfl, Nat.le_of_ble_eq_true rfl⟩ hl rfl rfl (Nat.le_of_ble_eq_true rfl) dX8_advance_24 ⟨Nat.le_of_ble_eq_true rfl, Nat.le_of_ble_eq_true rfl⟩ (fun z35244 F9 H locs hT hz35244 => ?_)
        obtain ⟨fz35244, hz35244⟩ := hz35244
        rw [fz35244] at hT
        obtain ⟨hz35244, iz35244⟩ := hz35244
        refine lv_bipush (v := 32) hx hb dX8_advance_27 (by decide) ?_
        refine lv_icmp_ne (tgt := 45) hx hb dX8_advance_29 (by decide) (fun c35245 => ?_) (fun c35245 => ?_)
        · have w35246 := cv_ne (rfl : z35244.toInt = z35244.toInt) (by decide : (32 : Int32).toInt = 32) c35245
          exact K45 z35234 z35235 z35236 z35239 _ _ _ _ (by omega) (by omega) (by omega) (by omega) hT hfr pf0 qz35234 qz35235 qz35236 hv35238 (lv_sub hl [0] rfl)
        · have w35247 := cv_eq (rfl : z35244.toInt = z35244.toInt) (by decide : (32 : Int32).toInt = 32) c35245
          have w35248 := (fun h => (iz35244 h)) (by omega)
          refine lv_aload_n hx hb dX8_advance_32 rfl (lv_at hl 0 rfl) ?_
          refine lv_dup hx hb dX8_advance_33 rfl ?_
          refine t_get (C := RX8) (T := TX8) (N := 8) X hT m0 g0 rfl rfl 2 (by decide) qw_195 inlX8 rfl dX8_advance_34 (fun v35249 hv35249 ov35249 => ?_)
          obtain rfl : v35249 = .int z35236 := hv35249.symm.trans qz35236
          refine lv_iconst (v := 1) hx hb dX8_advance_37 (by decide) ?_
          refine lv_iadd hx hb dX8_advance_38 ?_
          refine lv_topi (fun z35250 ez35250 => ?_)
          have hz35250 : z35250.toInt = z35236.toInt + 1 := ar_add ez35250 (rfl : z35236.toInt = z35236.toInt) (by decide : (1 : Int32).toInt = 1) (by omega) (by omega)
          have rz35250 : 1 ≤ z35250.toInt ∧ z35250.toInt ≤ 1000 := by omega
          refine t_put (C := RX8) (T := TX8) (N := 8) (v := .int z35250) X hT m0 g0 rfl tyX8 tyX8_ok nmX8 rfl 2 (by decide) qw_195 inlX8 rfl (by first | rfl | decide) (by first | rfl | decide) rfl (⟨_, rfl, (show 0 ≤ (z35250 : Int32).toInt from (by omega)), (show (z35250 : Int32).toInt ≤ 1000 from (by omega))⟩) dX8_advance_39 (fun F H locs hT v35251 h1v35251 h2v35251 => ?_)
          have qz35234 := (h1v35251 _ _ (Or.inr (by decide))).trans qz35234
          have qz35235 := (h1v35251 _ _ (Or.inr (by decide))).trans qz35235
          have pf0 := (h1v35251 _ _ (Or.inr (by decide))).trans pf0
          have hv35238 := (h1v35251 _ _ (Or.inr (by decide))).trans hv35238
          have hfr : (∀ b j : Nat, (tag b ≠ 24 ∨ j ≠ 2) → (tag b ≠ 24 ∨ j ≠ 3) → (tag b ≠ 24 ∨ j ≠ 4) → (tag b ≠ 24 ∨ j ≠ 5) → (tag b ≠ 24 ∨ j ≠ 6) → (tag b ≠ 24 ∨ j ≠ 7) → fld F b j = fld Fo b j) ∧ EF tag F Fo := ⟨fun b j n24_2 n24_3 n24_4 n24_5 n24_6 n24_7 => (h1v35251 b j (fr_ne g0 n24_2)).trans (hfr.1 b j n24_2 n24_3 n24_4 n24_5 n24_6 n24_7), fun b j hb => (h2v35251 b j).trans (hfr.2 b j hb)⟩
          refine lv_goto (tgt := 8) hx hb dX8_advance_42 (by decide) ?_
          exact ih8 z35234 z35235 z35250 _ _ _ _ (by omega) (by omega) (by omega) (by omega) hT hfr pf0 qz35234 qz35235 v35251 (lv_sub hl [0] rfl)
  refine lv_aload_n hx hb dX8_advance_0 rfl (lv_at hl 0 rfl) ?_
  refine lv_aload_n hx hb dX8_advance_1 rfl (lv_at hl 0 rfl) ?_
  refine t_get (C := RX8) (T := TX8) (N := 8) X hT m0 g0 rfl rfl 4 (by decide) qw_200 inlX8 rfl dX8_advance_2 (fun v35252 hv35252 ov35252 => ?_)
  obtain ⟨z35253, rfl, rz35253⟩ := okV_i ov35252
  refine t_put (C := RX8) (T := TX8) (N := 8) (v := .int z35253) X hT m0 g0 rfl tyX8 tyX8_ok nmX8 rfl 5 (by decide) qw_201 inlX8 rfl (by first | rfl | decide) (by first | rfl | decide) rfl (⟨_, rfl, (show (-2147483648) ≤ (z35253 : Int32).toInt from (by omega)), (show (z35253 : Int32).toInt ≤ 2147483647 from (by omega))⟩) dX8_advance_5 (fun F H locs hT v35254 h1v35254 h2v35254 => ?_)
  have pf0 := (h1v35254 _ _ (Or.inr (by decide))).trans pf0
  have hv35252 := (h1v35254 _ _ (Or.inr (by decide))).trans hv35252
  have hfr : (∀ b j : Nat, (tag b ≠ 24 ∨ j ≠ 2) → (tag b ≠ 24 ∨ j ≠ 3) → (tag b ≠ 24 ∨ j ≠ 4) → (tag b ≠ 24 ∨ j ≠ 5) → (tag b ≠ 24 ∨ j ≠ 6) → (tag b ≠ 24 ∨ j ≠ 7) → fld F b j = fld Fo b j) ∧ EF tag F Fo := ⟨fun b j n24_2 n24_3 n24_4 n24_5 n24_6 n24_7 => (h1v35254 b j (fr_ne g0 n24_5)).trans (hfr.1 b j n24_2 n24_3 n24_4 n24_5 n24_6 n24_7), fun b j hb => (h2v35254 b j).trans (hfr.2 b j hb)⟩
  obtain ⟨z35255, qz35255, rz35255⟩ := t_fld hT m0 g0 rfl 2 rfl
  have rz35255 : 0 ≤ z35255.toInt ∧ z35255.toInt ≤ 1000 := rz35255
  exact K8 1001 z35253 z35253 z35255 _ _ _ _ (by omega) (by omega) (by omega) (by omega) hT hfr pf0 hv35252 v35254 qz35255 (lv_sub hl [0] rfl)
set_option maxHeartbeats 4000000 in
set_option maxRecDepth 100000 in
theorem kt99_X8_begin (l : Launch) (G : KG) (tag : Nat → Nat) (L : List Nat) (Fo : Nat → va_E) (ho : okT G ttC tag L Fo) (p0 : Nat) (p1 : Nat) (p2 : Int32) (m0 : p0 ∈ L) (g0 : tag p0 = 24) (m1 : p1 ∈ L) (g1 : tag p1 = 1) (h2 : 0 ≤ p2.toInt ∧ p2.toInt ≤ 1000) : TMv l yX8_begin cX8_begin 3 { frames := 3, cells := 0, slots := 0, locals := 62 } G ttC tag L Fo [.ref p0, .ref p1, .int p2] (fun F1 => ((∀ b j : Nat, (tag b ≠ 24 ∨ j ≠ 0) → (tag b ≠ 24 ∨ j ≠ 1) → (tag b ≠ 24 ∨ j ≠ 2) → (tag b ≠ 24 ∨ j ≠ 3) → (tag b ≠ 24 ∨ j ≠ 4) → (tag b ≠ 24 ∨ j ≠ 5) → (tag b ≠ 24 ∨ j ≠ 6) → (tag b ≠ 24 ∨ j ≠ 7) → fld F1 b j = fld Fo b j) ∧ EF tag F1 Fo) ∧ (fld F1 p0 0 = .ref p1)) := by
  refine t_bodyv (y := yX8_begin) (cd := cX8_begin) (mL := 3) (rm := { frames := 3, cells := 0, slots := 0, locals := 62 }) (av := [.ref p0, .ref p1, .int p2]) (by decide) (Nat.le_of_ble_eq_true rfl) ho ?_
  intro p e s m args below meth c ls A Q hQ X hT hl
  have hx := X.1.1
  have hb := X.1.2.1
  have hl : lv_has ls 3 [(0, .ref p0), (1, .ref p1), (2, .int p2)] := hl
  obtain ⟨F, hFo⟩ : ∃ F : Nat → va_E, F = Fo := ⟨_, rfl⟩
  rw [← hFo] at hT
  have hfr : (∀ b j : Nat, (tag b ≠ 24 ∨ j ≠ 0) → (tag b ≠ 24 ∨ j ≠ 1) → (tag b ≠ 24 ∨ j ≠ 2) → (tag b ≠ 24 ∨ j ≠ 3) → (tag b ≠ 24 ∨ j ≠ 4) → (tag b ≠ 24 ∨ j ≠ 5) → (tag b ≠ 24 ∨ j ≠ 6) → (tag b ≠ 24 ∨ j ≠ 7) → fld F b j = fld Fo b j) ∧ EF tag F Fo := by
    rw [hFo]
    exact ⟨by intros; rfl, fun _ _ _ => rfl⟩
  refine lv_aload_n hx hb dX8_begin_0 rfl (lv_at hl 0 rfl) ?_
  refine lv_aload_n hx hb dX8_begin_1 rfl (lv_at hl 1 rfl) ?_
  refine t_put (C := RX8) (T := TX8) (N := 8) (v := .ref p1) X hT m0 g0 rfl tyX8 tyX8_ok nmX8 rfl 0 (by decide) qw_193 inlX8 rfl (by first | rfl | decide) (by first | rfl | decide) rfl (Or.inr ⟨_, rfl, m1, by rw [g1]; rfl⟩) dX8_begin_2 (fun F H locs hT v35297 h1v35297 h2v35297 => ?_)
  have hfr : (∀ b j : Nat, (tag b ≠ 24 ∨ j ≠ 0) → (tag b ≠ 24 ∨ j ≠ 1) → (tag b ≠ 24 ∨ j ≠ 2) → (tag b ≠ 24 ∨ j ≠ 3) → (tag b ≠ 24 ∨ j ≠ 4) → (tag b ≠ 24 ∨ j ≠ 5) → (tag b ≠ 24 ∨ j ≠ 6) → (tag b ≠ 24 ∨ j ≠ 7) → fld F b j = fld Fo b j) ∧ EF tag F Fo := ⟨fun b j n24_0 n24_1 n24_2 n24_3 n24_4 n24_5 n24_6 n24_7 => (h1v35297 b j (fr_ne g0 n24_0)).trans (hfr.1 b j n24_0 n24_1 n24_2 n24_3 n24_4 n24_5 n24_6 n24_7), fun b j hb => (h2v35297 b j).trans (hfr.2 b j hb)⟩
  refine lv_aload_n hx hb dX8_begin_5 rfl (lv_at hl 0 rfl) ?_
  refine lv_iload_n hx hb dX8_begin_6 rfl (lv_at hl 2 rfl) ?_
  refine t_put (C := RX8) (T := TX8) (N := 8) (v := .int p2) X hT m0 g0 rfl tyX8 tyX8_ok nmX8 rfl 1 (by decide) qw_194 inlX8 rfl (by first | rfl | decide) (by first | rfl | decide) rfl (⟨_, rfl, (show 0 ≤ (p2 : Int32).toInt from (by omega)), (show (p2 : Int32).toInt ≤ 1000 from (by omega))⟩) dX8_begin_7 (fun F H locs hT v35298 h1v35298 h2v35298 => ?_)
  have v35297 := (h1v35298 _ _ (Or.inr (by decide))).trans v35297
  have hfr : (∀ b j : Nat, (tag b ≠ 24 ∨ j ≠ 0) → (tag b ≠ 24 ∨ j ≠ 1) → (tag b ≠ 24 ∨ j ≠ 2) → (tag b ≠ 24 ∨ j ≠ 3) → (tag b ≠ 24 ∨ j ≠ 4) → (tag b ≠ 24 ∨ j ≠ 5) → (tag b ≠ 24 ∨ j ≠ 6) → (tag b ≠ 24 ∨ j ≠ 7) → fld F b j = fld Fo b j) ∧ EF tag F Fo := ⟨fun b j n24_0 n24_1 n24_2 n24_3 n24_4 n24_5 n24_6 n24_7 => (h1v35298 b j (fr_ne g0 n24_1)).trans (hfr.1 b j n24_0 n24_1 n24_2 n24_3 n24_4 n24_5 n24_6 n24_7), fun b j hb => (h2v35298 b j).trans (hfr.2 b j hb)⟩
  refine lv_aload_n hx hb dX8_begin_10 rfl (lv_at hl 0 rfl) ?_
  refine lv_iconst (v := 0) hx hb dX8_begin_11 (by decide) ?_
  refine t_put (C := RX8) (T := TX8) (N := 8) (v := .int 0) X hT m0 g0 rfl tyX8 tyX8_ok nmX8 rfl 2 (by decide) qw_195 inlX8 rfl (by first | rfl | decide) (by first | rfl | decide) rfl (⟨_, rfl, (show 0 ≤ (0 : Int32).toInt from (by decide)), (show (0 : Int32).toInt ≤ 1000 from (by decide))⟩) dX8_begin_12 (fun F H locs hT v35299 h1v35299 h2v35299 => ?_)
  have v35297 := (h1v35299 _ _ (Or.inr (by decide))).trans v35297
  have v35298 := (h1v35299 _ _ (Or.inr (by decide))).trans v35298
  have hfr : (∀ b j : Nat, (tag b ≠ 24 ∨ j ≠ 0) → (tag b ≠ 24 ∨ j ≠ 1) → (tag b ≠ 24 ∨ j ≠ 2) → (tag b ≠ 24 ∨ j ≠ 3) → (tag b ≠ 24 ∨ j ≠ 4) → (tag b ≠ 24 ∨ j ≠ 5) → (tag b ≠ 24 ∨ j ≠ 6) → (tag b ≠ 24 ∨ j ≠ 7) → fld F b j = fld Fo b j) ∧ EF tag F Fo := ⟨fun b j n24_0 n24_1 n24_2 n24_3 n24_4 n24_5 n24_6 n24_7 => (h1v35299 b j (fr_ne g0 n24_2)).trans (hfr.1 b j n24_0 n24_1 n24_2 n24_3 n24_4 n24_5 n24_6 n24_7), fun b j hb => (h2v35299 b j).trans (hfr.2 b j hb)⟩
  refine lv_aload_n hx hb dX8_begin_15 rfl (lv_at hl 0 rfl) ?_
  refine t_cVv (n := 0) (C := RX8) (T := TX8) (N := 8) (As := []) (rest := []) X hT (kt98_X8_advance l G tag L F hT.2.2.2 p0 p1 m0 g0 m1 g1 v35297) m0 g0 rfl rfl qw_196 qw_197 qw_198 qw_72 qw_199 ⟨rfl, by decide +kernel, by decide +kernel, by decide +kernel⟩ ⟨Nat.le_of_ble_eq_true rfl, Nat.le_of_ble_eq_true rfl⟩ hl rfl rfl (Nat.le_of_ble_eq_true rfl) dX8_begin_16 ⟨Nat.le_of_ble_eq_true rfl, Nat.le_of_ble_eq_true rfl⟩ (fun F H locs hT hz35300 => ?_)
  have yz35300 := hz35300
  have v35297 := (yz35300.1 _ 0 (Or.inr (by decide)) (Or.inr (by decide)) (Or.inr (by decide)) (Or.inr (by decide)) (Or.inr (by decide)) (Or.inr (by decide))).trans v35297
  have v35298 := (yz35300.1 _ 1 (Or.inr (by decide)) (Or.inr (by decide)) (Or.inr (by decide)) (Or.inr (by decide)) (Or.inr (by decide)) (Or.inr (by decide))).trans v35298
  have hfr : (∀ b j : Nat, (tag b ≠ 24 ∨ j ≠ 0) → (tag b ≠ 24 ∨ j ≠ 1) → (tag b ≠ 24 ∨ j ≠ 2) → (tag b ≠ 24 ∨ j ≠ 3) → (tag b ≠ 24 ∨ j ≠ 4) → (tag b ≠ 24 ∨ j ≠ 5) → (tag b ≠ 24 ∨ j ≠ 6) → (tag b ≠ 24 ∨ j ≠ 7) → fld F b j = fld Fo b j) ∧ EF tag F Fo := ⟨fun b j n24_0 n24_1 n24_2 n24_3 n24_4 n24_5 n24_6 n24_7 => (yz35300.1 b j n24_2 n24_3 n24_4 n24_5 n24_6 n24_7).trans (hfr.1 b j n24_0 n24_1 n24_2 n24_3 n24_4 n24_5 n24_6 n24_7), fun b j hb => (yz35300.2 b j hb).trans (hfr.2 b j hb)⟩
  exact t_vret hQ X hT ⟨hfr, v35297⟩ (Nat.le_of_ble_eq_true rfl) (Nat.le_of_ble_eq_true rfl) dX8_begin_19
