set_option maxHeartbeats 4000000 in
set_option maxRecDepth 100000 in
theorem km224_X13_canBe (l : Launch) (G : KG) (tag : Nat → Nat) (L : List Nat) (Fo : Nat → va_E) (ho : okT G ttC tag L Fo) (p0 : Nat) (x0 : Nat) (m0 : p0 ∈ L) (g0 : tag p0 = 46) (mx0 : x0 ∈ L) (gx0 : tag x0 = 45) (pf0 : fld Fo p0 3 = .ref x0) : TMi l yX13_canBe cX13_canBe 5 (some .boolean) { frames := 2, cells := 0, slots := 0, locals := 42 } G ttC tag L Fo [.ref p0] (fun r F1 => (0 ≤ r.toInt ∧ r.toInt ≤ 1) ∧ ((∀ b j : Nat, fld F1 b j = fld Fo b j) ∧ (∀ b j : Nat, tag b ≠ 33 → elm F1 b j = elm Fo b j))) := by
  refine t_bodyi (y := yX13_canBe) (cd := cX13_canBe) (mL := 5) (rt := (some .boolean)) (rm := { frames := 2, cells := 0, slots := 0, locals := 42 }) (av := [.ref p0]) (by decide) (Nat.le_of_ble_eq_true rfl) ho ?_
  intro p e s m args below meth c ls A Q hQ X hT hl
  have hx := X.1.1
  have hb := X.1.2.1
  have hl : lv_has ls 5 [(0, .ref p0)] := hl
  obtain ⟨F, hFo⟩ : ∃ F : Nat → va_E, F = Fo := ⟨_, rfl⟩
  rw [← hFo] at hT pf0
  have hfr : (∀ b j : Nat, fld F b j = fld Fo b j) ∧ (∀ b j : Nat, tag b ≠ 33 → elm F b j = elm Fo b j) := by
    rw [hFo]
    exact ⟨by intros; rfl, by intros; rfl⟩
  have K144 : ∀ (n : Nat) (z66112 : Int32) (z66113 : Int32) (z66114 : Int32) (z66115 : Int32) (F : Nat → va_E) (H : Heap) (locs : List Loc) (ls : Array Slot), (z66114.toInt - (-1) < (n : Int)) → (0 ≤ z66112.toInt ∧ z66112.toInt ≤ 6) → ((-1) ≤ z66114.toInt ∧ z66114.toInt ≤ 5) → (0 ≤ z66115.toInt ∧ z66115.toInt ≤ 6) → TH G ttC A s tag L F H locs → ((∀ b j : Nat, fld F b j = fld Fo b j) ∧ (∀ b j : Nat, tag b ≠ 33 → elm F b j = elm Fo b j)) → (fld F p0 3 = .ref x0) → (fld F x0 10 = .int z66115) → lv_has ls 5 [(0, .ref p0), (1, .int z66112), (2, .int z66113), (3, .int z66114)] → W p l e { frames := 2, cells := 0, slots := 0, locals := 42 } s m args below meth c H locs 0 0 Q (F0 m 144 ls []) := by
    intro n
    induction n with
    | zero =>
      intro z66112 z66113 z66114 z66115 F H locs ls hn rz66112 rz66114 rz66115 hT hfr pf0 qz66115 hl
      have rz66113 := rg_all z66113
      exfalso
      omega
    | succ n ih144 =>
      intro z66112 z66113 z66114 z66115 F H locs ls hn rz66112 rz66114 rz66115 hT hfr pf0 qz66115 hl
      have rz66113 := rg_all z66113
      refine lv_iload_n hx hb dX13_canBe_144 rfl (lv_at hl 3 rfl) ?_
      refine lv_if_lt (tgt := 178) hx hb dX13_canBe_145 (by decide) (fun c66116 => ?_) (fun c66116 => ?_)
      · have w66117 := cv_lt (rfl : z66114.toInt = z66114.toInt) (by decide : (0 : Int32).toInt = 0) c66116
        refine lv_iconst (v := 1) hx hb dX13_canBe_178 (by decide) ?_
        have k66118 : (1 : Int32).toInt = 1 := by decide
        exact t_zret hQ X hT (by decide) (⟨(by decide), hfr⟩) (Nat.le_of_ble_eq_true rfl) (Nat.le_of_ble_eq_true rfl) dX13_canBe_179
      · have w66119 := cv_nlt (rfl : z66114.toInt = z66114.toInt) (by decide : (0 : Int32).toInt = 0) c66116
        refine lv_iload_n hx hb dX13_canBe_148 rfl (lv_at hl 2 rfl) ?_
        refine lv_aload_n hx hb dX13_canBe_149 rfl (lv_at hl 0 rfl) ?_
        refine lv_aload_n hx hb dX13_canBe_150 rfl (lv_at hl 0 rfl) ?_
        refine t_get (C := RX13) (T := TX13) (N := 37) X hT m0 g0 rfl rfl 29 (by decide) qw_120 inlX13 rfl dX13_canBe_151 (fun v66120 hv66120 ov66120 => ?_)
        obtain ⟨b66121, rfl, mb66121, gb66121⟩ := okV_r ov66120
        have gb66121 : tag b66121 = 43 := tg_of gb66121
        refine lv_iload_n hx hb dX13_canBe_154 rfl (lv_at hl 3 rfl) ?_
        refine t_ild X hT mb66121 gb66121 rfl (by omega) dX13_canBe_155 (fun z66122 vz66122 rz66122 => ?_)
        have rz66122 : 0 ≤ z66122.toInt ∧ z66122.toInt ≤ 5 := rz66122
        refine t_cVi (n := 1) (C := RX13) (T := TX13) (N := 37) (As := [.int z66122]) (rest := [.int z66113]) X hT (km223_X13_before l G tag L F hT.2.2.2 p0 z66122 x0 m0 g0 (by omega) mx0 gx0 pf0) m0 g0 rfl rfl qw_1370 qw_1371 qw_1372 qw_5 qw_1373 ⟨rfl, by decide +kernel, by decide +kernel, by decide +kernel⟩ ⟨Nat.le_of_ble_eq_true rfl, Nat.le_of_ble_eq_true rfl⟩ hl rfl rfl (Nat.le_of_ble_eq_true rfl) dX13_canBe_156 ⟨Nat.le_of_ble_eq_true rfl, Nat.le_of_ble_eq_true rfl⟩ (fun z66123 F9 H locs hT hz66123 => ?_)
        obtain ⟨fz66123, hz66123⟩ := hz66123
        rw [fz66123] at hT
        refine t_cSi (n := 2) (As := [.int z66113, .int z66123]) (rest := []) X hT (km161_X13_least l G tag L F hT.2.2.2 z66113 z66123 ) qw_1065 qw_1066 qw_5 qw_1067 ⟨by decide +kernel, by decide +kernel, by decide +kernel⟩ ⟨Nat.le_of_ble_eq_true rfl, Nat.le_of_ble_eq_true rfl⟩ hl rfl rfl (Nat.le_of_ble_eq_true rfl) dX13_canBe_159 ⟨Nat.le_of_ble_eq_true rfl, Nat.le_of_ble_eq_true rfl⟩ (fun z66124 F9 H locs hT hz66124 => ?_)
        obtain ⟨fz66124, hz66124⟩ := hz66124
        rw [fz66124] at hT
        refine lv_iconst (v := 1) hx hb dX13_canBe_162 (by decide) ?_
        refine lv_isub hx hb dX13_canBe_163 ?_
        refine lv_topi (fun z66125 ez66125 => ?_)
        have rz66125 := rg_all z66125
        refine lv_istore_n (lv' := [(2, .int z66125), (0, .ref p0), (1, .int z66112), (3, .int z66114)]) hx hb dX13_canBe_164 rfl hl (by decide) rfl (fun ls hl => ?_)
        refine lv_aload_n hx hb dX13_canBe_165 rfl (lv_at hl 1 rfl) ?_
        refine t_get (C := RX13) (T := TX13) (N := 37) X hT m0 g0 rfl rfl 34 (by decide) qw_125 inlX13 rfl dX13_canBe_166 (fun v66126 hv66126 ov66126 => ?_)
        obtain ⟨b66127, rfl, mb66127, gb66127⟩ := okV_r ov66126
        have gb66127 : tag b66127 = 33 := tg_of gb66127
        refine lv_iload_n hx hb dX13_canBe_169 rfl (lv_at hl 3 rfl) ?_
        refine lv_iload_n hx hb dX13_canBe_170 rfl (lv_at hl 0 rfl) ?_
        refine t_ist X hT mb66127 gb66127 rfl (by omega) (show (-2147483648) ≤ (z66125 : Int32).toInt ∧ (z66125 : Int32).toInt ≤ 2147483647 from (rg_all _)) dX13_canBe_171 (fun F H locs hT v66128 h1v66128 h2v66128 => ?_)
        have qz66115 := (h2v66128 _ _).trans qz66115
        have pf0 := (h2v66128 _ _).trans pf0
        have hv66120 := (h2v66128 _ _).trans hv66120
        have vz66122 := (h1v66128 _ _ (Or.inl (tne gb66121 gb66127 (by decide)))).trans vz66122
        have hv66126 := (h2v66128 _ _).trans hv66126
        have hfr : (∀ b j : Nat, fld F b j = fld Fo b j) ∧ (∀ b j : Nat, tag b ≠ 33 → elm F b j = elm Fo b j) := ⟨fun b j  => (h2v66128 b j).trans (hfr.1 b j ), fun b j a33 => (h1v66128 b j (Or.inl (at_ne gb66127 a33))).trans (hfr.2 b j a33)⟩
        obtain ⟨z66129, ez66129⟩ : ∃ y : Int32, y = z66114 + (-1) := ⟨_, rfl⟩
        have hz66129 : z66129.toInt = z66114.toInt + (-1) := ar_add ez66129 rfl (by decide : ((-1) : Int32).toInt = (-1)) (by omega) (by omega)
        refine lv_iinc (v := z66129) (lv' := [(3, .int z66129), (2, .int z66125), (0, .ref p0), (1, .int z66112)]) hx hb dX13_canBe_172 hl (k := 3) rfl (by rw [ez66129]; rfl) (by decide) rfl (fun ls hl => ?_)
        refine lv_goto (tgt := 144) hx hb dX13_canBe_175 (by decide) ?_
        exact ih144 z66112 z66125 z66129 z66115 _ _ _ _ (by omega) (by omega) (by omega) (by omega) hT hfr pf0 qz66115 (lv_sub hl [2, 3, 1, 0] rfl)
  have K66 : ∀ (n : Nat) (z66130 : Int32) (z66131 : Int32) (z66132 : Int32) (z66133 : Int32) (F : Nat → va_E) (H : Heap) (locs : List Loc) (ls : Array Slot), (6 - z66132.toInt < (n : Int)) → (0 ≤ z66130.toInt ∧ z66130.toInt ≤ 6) → ((-1) ≤ z66131.toInt ∧ z66131.toInt ≤ 2147483646) → (0 ≤ z66132.toInt ∧ z66132.toInt ≤ 6) → (0 ≤ z66133.toInt ∧ z66133.toInt ≤ 6) → TH G ttC A s tag L F H locs → ((∀ b j : Nat, fld F b j = fld Fo b j) ∧ (∀ b j : Nat, tag b ≠ 33 → elm F b j = elm Fo b j)) → (fld F p0 3 = .ref x0) → (fld F x0 10 = .int z66133) → lv_has ls 5 [(0, .ref p0), (1, .int z66130), (2, .int z66131), (3, .int z66132)] → W p l e { frames := 2, cells := 0, slots := 0, locals := 42 } s m args below meth c H locs 0 0 Q (F0 m 66 ls []) := by
    intro n
    induction n with
    | zero =>
      intro z66130 z66131 z66132 z66133 F H locs ls hn rz66130 rz66131 rz66132 rz66133 hT hfr pf0 qz66133 hl
      exfalso
      omega
    | succ n ih66 =>
      intro z66130 z66131 z66132 z66133 F H locs ls hn rz66130 rz66131 rz66132 rz66133 hT hfr pf0 qz66133 hl
      have K101 : ∀ (z66136 : Int32) (z66137 : Int32) (z66138 : Int32) (F : Nat → va_E) (H : Heap) (locs : List Loc) (ls : Array Slot), (0 ≤ z66137.toInt ∧ z66137.toInt ≤ 2147483647) → (0 ≤ z66138.toInt ∧ z66138.toInt ≤ 6) → (1 ≤ z66130.toInt ∧ z66130.toInt ≤ 6) → (0 ≤ z66132.toInt ∧ z66132.toInt ≤ 5) → TH G ttC A s tag L F H locs → ((∀ b j : Nat, fld F b j = fld Fo b j) ∧ (∀ b j : Nat, tag b ≠ 33 → elm F b j = elm Fo b j)) → (fld F p0 3 = .ref x0) → (fld F x0 10 = .int z66138) → lv_has ls 5 [(0, .ref p0), (1, .int z66130), (2, .int z66131), (3, .int z66132), (4, .int z66136)] → W p l e { frames := 2, cells := 0, slots := 0, locals := 42 } s m args below meth c H locs 0 0 Q (F0 m 101 ls [.int z66137]) := by
        intro z66136 z66137 z66138 F H locs ls rz66137 rz66138 r9s66134 r9s66135 hT hfr pf0 qz66138 hl
        have rz66136 := rg_all z66136
        refine lv_istore_n (lv' := [(2, .int z66137), (0, .ref p0), (1, .int z66130), (3, .int z66132), (4, .int z66136)]) hx hb dX13_canBe_101 rfl hl (by decide) rfl (fun ls hl => ?_)
        refine lv_iload_n hx hb dX13_canBe_102 rfl (lv_at hl 0 rfl) ?_
        refine lv_aload_n hx hb dX13_canBe_103 rfl (lv_at hl 1 rfl) ?_
        refine lv_aload_n hx hb dX13_canBe_104 rfl (lv_at hl 1 rfl) ?_
        refine t_get (C := RX13) (T := TX13) (N := 37) X hT m0 g0 rfl rfl 29 (by decide) qw_120 inlX13 rfl dX13_canBe_105 (fun v66139 hv66139 ov66139 => ?_)
        obtain ⟨b66140, rfl, mb66140, gb66140⟩ := okV_r ov66139
        have gb66140 : tag b66140 = 43 := tg_of gb66140
        refine lv_iload_n hx hb dX13_canBe_108 rfl (lv_at hl 3 rfl) ?_
        refine t_ild X hT mb66140 gb66140 rfl (by omega) dX13_canBe_109 (fun z66141 vz66141 rz66141 => ?_)
        have rz66141 : 0 ≤ z66141.toInt ∧ z66141.toInt ≤ 5 := rz66141
        refine t_cVi (n := 1) (C := RX13) (T := TX13) (N := 37) (As := [.int z66141]) (rest := [.int z66137]) X hT (km223_X13_before l G tag L F hT.2.2.2 p0 z66141 x0 m0 g0 (by omega) mx0 gx0 pf0) m0 g0 rfl rfl qw_1370 qw_1371 qw_1372 qw_5 qw_1373 ⟨rfl, by decide +kernel, by decide +kernel, by decide +kernel⟩ ⟨Nat.le_of_ble_eq_true rfl, Nat.le_of_ble_eq_true rfl⟩ hl rfl rfl (Nat.le_of_ble_eq_true rfl) dX13_canBe_110 ⟨Nat.le_of_ble_eq_true rfl, Nat.le_of_ble_eq_true rfl⟩ (fun z66142 F9 H locs hT hz66142 => ?_)
        obtain ⟨fz66142, hz66142⟩ := hz66142
        rw [fz66142] at hT
        refine lv_icmp_lt (tgt := 118) hx hb dX13_canBe_113 (by decide) (fun c66143 => ?_) (fun c66143 => ?_)
        · have w66144 := cv_lt (rfl : z66137.toInt = z66137.toInt) (rfl : z66142.toInt = z66142.toInt) c66143
          refine lv_aload_n hx hb dX13_canBe_118 rfl (lv_at hl 1 rfl) ?_
          refine t_get (C := RX13) (T := TX13) (N := 37) X hT m0 g0 rfl rfl 33 (by decide) qw_124 inlX13 rfl dX13_canBe_119 (fun v66145 hv66145 ov66145 => ?_)
          obtain ⟨b66146, rfl, mb66146, gb66146⟩ := okV_r ov66145
          have gb66146 : tag b66146 = 33 := tg_of gb66146
          refine lv_iload_n hx hb dX13_canBe_122 rfl (lv_at hl 3 rfl) ?_
          refine lv_iload_n hx hb dX13_canBe_123 rfl (lv_at hl 0 rfl) ?_
          refine t_ist X hT mb66146 gb66146 rfl (by omega) (show (-2147483648) ≤ (z66137 : Int32).toInt ∧ (z66137 : Int32).toInt ≤ 2147483647 from (rg_all _)) dX13_canBe_124 (fun F H locs hT v66147 h1v66147 h2v66147 => ?_)
          have qz66138 := (h2v66147 _ _).trans qz66138
          have pf0 := (h2v66147 _ _).trans pf0
          have hv66139 := (h2v66147 _ _).trans hv66139
          have vz66141 := (h1v66147 _ _ (Or.inl (tne gb66140 gb66146 (by decide)))).trans vz66141
          have hv66145 := (h2v66147 _ _).trans hv66145
          have hfr : (∀ b j : Nat, fld F b j = fld Fo b j) ∧ (∀ b j : Nat, tag b ≠ 33 → elm F b j = elm Fo b j) := ⟨fun b j  => (h2v66147 b j).trans (hfr.1 b j ), fun b j a33 => (h1v66147 b j (Or.inl (at_ne gb66146 a33))).trans (hfr.2 b j a33)⟩
          obtain ⟨z66148, ez66148⟩ : ∃ y : Int32, y = z66132 + 1 := ⟨_, rfl⟩
          have hz66148 : z66148.toInt = z66132.toInt + 1 := ar_add ez66148 rfl (by decide : (1 : Int32).toInt = 1) (by omega) (by omega)
          refine lv_iinc (v := z66148) (lv' := [(3, .int z66148), (2, .int z66137), (0, .ref p0), (1, .int z66130), (4, .int z66136)]) hx hb dX13_canBe_125 hl (k := 3) rfl (by rw [ez66148]; rfl) (by decide) rfl (fun ls hl => ?_)
          refine lv_goto (tgt := 66) hx hb dX13_canBe_128 (by decide) ?_
          exact ih66 z66130 z66137 z66148 z66138 _ _ _ _ (by omega) (by omega) (by omega) (by omega) (by omega) hT hfr pf0 qz66138 (lv_sub hl [2, 3, 1, 0] rfl)
        · have w66149 := cv_nlt (rfl : z66137.toInt = z66137.toInt) (rfl : z66142.toInt = z66142.toInt) c66143
          refine lv_iconst (v := 0) hx hb dX13_canBe_116 (by decide) ?_
          have k66150 : (0 : Int32).toInt = 0 := by decide
          exact t_zret hQ X hT (by decide) (⟨(by decide), hfr⟩) (Nat.le_of_ble_eq_true rfl) (Nat.le_of_ble_eq_true rfl) dX13_canBe_117
      refine lv_iload_n hx hb dX13_canBe_66 rfl (lv_at hl 3 rfl) ?_
      refine lv_iload_n hx hb dX13_canBe_67 rfl (lv_at hl 1 rfl) ?_
      refine lv_icmp_ge (tgt := 131) hx hb dX13_canBe_68 (by decide) (fun c66151 => ?_) (fun c66151 => ?_)
      · have w66152 := cv_le (rfl : z66130.toInt = z66130.toInt) (rfl : z66132.toInt = z66132.toInt) c66151
        refine lv_aload_n hx hb dX13_canBe_131 rfl (lv_at hl 0 rfl) ?_
        refine t_get (C := RX13) (T := TX13) (N := 37) X hT m0 g0 rfl rfl 16 (by decide) qw_112 inlX13 rfl dX13_canBe_132 (fun v66153 hv66153 ov66153 => ?_)
        obtain ⟨b66154, rfl, mb66154, gb66154⟩ := okV_r ov66153
        have gb66154 : tag b66154 = 37 := tg_of gb66154
        refine lv_sipush (v := 210) hx hb dX13_canBe_135 (by decide) ?_
        refine t_ild X hT mb66154 gb66154 rfl (by decide) dX13_canBe_138 (fun z66155 vz66155 rz66155 => ?_)
        have oz66155 := rz66155
        have rz66155 := rg_all z66155
        refine lv_istore_n (lv' := [(2, .int z66155), (0, .ref p0), (1, .int z66130), (3, .int z66132)]) hx hb dX13_canBe_139 rfl hl (by decide) rfl (fun ls hl => ?_)
        refine lv_iload_n hx hb dX13_canBe_140 rfl (lv_at hl 2 rfl) ?_
        refine lv_iconst (v := 1) hx hb dX13_canBe_141 (by decide) ?_
        refine lv_isub hx hb dX13_canBe_142 ?_
        refine lv_topi (fun z66156 ez66156 => ?_)
        have hz66156 : z66156.toInt = z66130.toInt - 1 := ar_sub ez66156 (rfl : z66130.toInt = z66130.toInt) (by decide : (1 : Int32).toInt = 1) (by omega) (by omega)
        have rz66156 : (-1) ≤ z66156.toInt ∧ z66156.toInt ≤ 5 := by omega
        refine lv_istore_n (lv' := [(3, .int z66156), (2, .int z66155), (0, .ref p0), (1, .int z66130)]) hx hb dX13_canBe_143 rfl hl (by decide) rfl (fun ls hl => ?_)
        exact K144 7 z66130 z66155 z66156 z66133 _ _ _ _ (by omega) (by omega) (by omega) (by omega) hT hfr pf0 qz66133 (lv_sub hl [2, 3, 1, 0] rfl)
      · have w66157 := cv_nle (rfl : z66130.toInt = z66130.toInt) (rfl : z66132.toInt = z66132.toInt) c66151
        refine lv_aload_n hx hb dX13_canBe_71 rfl (lv_at hl 0 rfl) ?_
        refine t_get (C := RX13) (T := TX13) (N := 37) X hT m0 g0 rfl rfl 3 (by decide) qw_481 inlX13 rfl dX13_canBe_72 (fun v66158 hv66158 ov66158 => ?_)
        obtain rfl : v66158 = .ref x0 := hv66158.symm.trans pf0
        refine t_getN (C := RX12) (T := TX12) (N := 31) X hT mx0 gx0 rfl rfl 25 (by decide) (List.mem_of_getElem? (i := 29) rfl) inlX12 rfl dX13_canBe_75 (fun v66159 hv66159 ov66159 => ?_)
        obtain ⟨b66160, rfl, mb66160, gb66160⟩ := okV_r ov66159
        have gb66160 : tag b66160 = 33 := tg_of gb66160
        refine lv_aload_n hx hb dX13_canBe_78 rfl (lv_at hl 0 rfl) ?_
        refine t_get (C := RX13) (T := TX13) (N := 37) X hT m0 g0 rfl rfl 29 (by decide) qw_120 inlX13 rfl dX13_canBe_79 (fun v66161 hv66161 ov66161 => ?_)
        obtain ⟨b66162, rfl, mb66162, gb66162⟩ := okV_r ov66161
        have gb66162 : tag b66162 = 43 := tg_of gb66162
        refine lv_iload_n hx hb dX13_canBe_82 rfl (lv_at hl 3 rfl) ?_
        refine t_ild X hT mb66162 gb66162 rfl (by omega) dX13_canBe_83 (fun z66163 vz66163 rz66163 => ?_)
        have rz66163 : 0 ≤ z66163.toInt ∧ z66163.toInt ≤ 5 := rz66163
        refine t_ild X hT mb66160 gb66160 rfl (by omega) dX13_canBe_84 (fun z66164 vz66164 rz66164 => ?_)
        have rz66164 : (-2147483648) ≤ z66164.toInt ∧ z66164.toInt ≤ 2147483647 := rz66164
        refine lv_istore (lv' := [(4, .int z66164), (0, .ref p0), (1, .int z66130), (2, .int z66131), (3, .int z66132)]) hx hb dX13_canBe_85 hl (by decide) rfl (fun ls hl => ?_)
        refine lv_iload hx hb dX13_canBe_87 (lv_at hl 0 rfl) ?_
        refine lv_iload_n hx hb dX13_canBe_89 rfl (lv_at hl 3 rfl) ?_
        refine lv_icmp_le (tgt := 98) hx hb dX13_canBe_90 (by decide) (fun c66165 => ?_) (fun c66165 => ?_)
        · have w66166 := cv_le (rfl : z66164.toInt = z66164.toInt) (rfl : z66131.toInt = z66131.toInt) c66165
          refine lv_iload_n hx hb dX13_canBe_98 rfl (lv_at hl 3 rfl) ?_
          refine lv_iconst (v := 1) hx hb dX13_canBe_99 (by decide) ?_
          refine lv_iadd hx hb dX13_canBe_100 ?_
          refine lv_topi (fun z66167 ez66167 => ?_)
          have hz66167 : z66167.toInt = z66131.toInt + 1 := ar_add ez66167 (rfl : z66131.toInt = z66131.toInt) (by decide : (1 : Int32).toInt = 1) (by omega) (by omega)
          have rz66167 : 0 ≤ z66167.toInt ∧ z66167.toInt ≤ 2147483647 := by omega
          exact K101 z66164 z66167 z66133 _ _ _ _ (by omega) (by omega) (by omega) (by omega) hT hfr pf0 qz66133 (lv_sub hl [1, 2, 3, 4, 0] rfl)
        · have w66168 := cv_nle (rfl : z66164.toInt = z66164.toInt) (rfl : z66131.toInt = z66131.toInt) c66165
          refine lv_iload hx hb dX13_canBe_93 (lv_at hl 0 rfl) ?_
          refine lv_goto (tgt := 101) hx hb dX13_canBe_95 (by decide) ?_
          exact K101 z66164 z66164 z66133 _ _ _ _ (by omega) (by omega) (by omega) (by omega) hT hfr pf0 qz66133 (lv_sub hl [1, 2, 3, 4, 0] rfl)
  have K10 : ∀ (n : Nat) (z66169 : Int32) (z66170 : Int32) (z66171 : Int32) (F : Nat → va_E) (H : Heap) (locs : List Loc) (ls : Array Slot), (6 - z66170.toInt < (n : Int)) → (0 ≤ z66169.toInt ∧ z66169.toInt ≤ 6) → (0 ≤ z66170.toInt ∧ z66170.toInt ≤ 6) → (0 ≤ z66171.toInt ∧ z66171.toInt ≤ 6) → TH G ttC A s tag L F H locs → ((∀ b j : Nat, fld F b j = fld Fo b j) ∧ (∀ b j : Nat, tag b ≠ 33 → elm F b j = elm Fo b j)) → (fld F p0 3 = .ref x0) → (fld F x0 10 = .int z66171) → lv_has ls 5 [(0, .ref p0), (1, .int z66169), (2, .int z66170)] → W p l e { frames := 2, cells := 0, slots := 0, locals := 42 } s m args below meth c H locs 0 0 Q (F0 m 10 ls []) := by
    intro n
    induction n with
    | zero =>
      intro z66169 z66170 z66171 F H locs ls hn rz66169 rz66170 rz66171 hT hfr pf0 qz66171 hl
      exfalso
      omega
    | succ n ih10 =>
      intro z66169 z66170 z66171 F H locs ls hn rz66169 rz66170 rz66171 hT hfr pf0 qz66171 hl
      have K17 : ∀ (n : Nat) (z66174 : Int32) (z66175 : Int32) (F : Nat → va_E) (H : Heap) (locs : List Loc) (ls : Array Slot), (5 - z66174.toInt < (n : Int)) → (0 ≤ z66174.toInt ∧ z66174.toInt ≤ 5) → (0 ≤ z66175.toInt ∧ z66175.toInt ≤ 6) → (1 ≤ z66169.toInt ∧ z66169.toInt ≤ 6) → (0 ≤ z66170.toInt ∧ z66170.toInt ≤ 5) → TH G ttC A s tag L F H locs → ((∀ b j : Nat, fld F b j = fld Fo b j) ∧ (∀ b j : Nat, tag b ≠ 33 → elm F b j = elm Fo b j)) → (fld F p0 3 = .ref x0) → (fld F x0 10 = .int z66175) → lv_has ls 5 [(0, .ref p0), (1, .int z66169), (2, .int z66170), (3, .int z66174)] → W p l e { frames := 2, cells := 0, slots := 0, locals := 42 } s m args below meth c H locs 0 0 Q (F0 m 17 ls []) := by
        intro n
        induction n with
        | zero =>
          intro z66174 z66175 F H locs ls hn rz66174 rz66175 r9s66172 r9s66173 hT hfr pf0 qz66175 hl
          exfalso
          omega
        | succ n ih17 =>
          intro z66174 z66175 F H locs ls hn rz66174 rz66175 r9s66172 r9s66173 hT hfr pf0 qz66175 hl
          refine lv_iload_n hx hb dX13_canBe_17 rfl (lv_at hl 3 rfl) ?_
          refine lv_iload_n hx hb dX13_canBe_18 rfl (lv_at hl 2 rfl) ?_
          refine lv_icmp_ge (tgt := 56) hx hb dX13_canBe_19 (by decide) (fun c66176 => ?_) (fun c66176 => ?_)
          · have w66177 := cv_le (rfl : z66170.toInt = z66170.toInt) (rfl : z66174.toInt = z66174.toInt) c66176
            obtain ⟨z66178, ez66178⟩ : ∃ y : Int32, y = z66170 + 1 := ⟨_, rfl⟩
            have hz66178 : z66178.toInt = z66170.toInt + 1 := ar_add ez66178 rfl (by decide : (1 : Int32).toInt = 1) (by omega) (by omega)
            refine lv_iinc (v := z66178) (lv' := [(2, .int z66178), (0, .ref p0), (1, .int z66169), (3, .int z66174)]) hx hb dX13_canBe_56 hl (k := 2) rfl (by rw [ez66178]; rfl) (by decide) rfl (fun ls hl => ?_)
            refine lv_goto (tgt := 10) hx hb dX13_canBe_59 (by decide) ?_
            exact ih10 z66169 z66178 z66175 _ _ _ _ (by omega) (by omega) (by omega) (by omega) hT hfr pf0 qz66175 (lv_sub hl [1, 2, 0] rfl)
          · have w66179 := cv_nle (rfl : z66170.toInt = z66170.toInt) (rfl : z66174.toInt = z66174.toInt) c66176
            refine lv_aload_n hx hb dX13_canBe_22 rfl (lv_at hl 0 rfl) ?_
            refine t_get (C := RX13) (T := TX13) (N := 37) X hT m0 g0 rfl rfl 3 (by decide) qw_481 inlX13 rfl dX13_canBe_23 (fun v66180 hv66180 ov66180 => ?_)
            obtain rfl : v66180 = .ref x0 := hv66180.symm.trans pf0
            refine t_getN (C := RX12) (T := TX12) (N := 31) X hT mx0 gx0 rfl rfl 24 (by decide) (List.mem_of_getElem? (i := 28) rfl) inlX12 rfl dX13_canBe_26 (fun v66181 hv66181 ov66181 => ?_)
            obtain ⟨b66182, rfl, mb66182, gb66182⟩ := okV_r ov66181
            have gb66182 : tag b66182 = 33 := tg_of gb66182
            refine lv_aload_n hx hb dX13_canBe_29 rfl (lv_at hl 0 rfl) ?_
            refine t_get (C := RX13) (T := TX13) (N := 37) X hT m0 g0 rfl rfl 29 (by decide) qw_120 inlX13 rfl dX13_canBe_30 (fun v66183 hv66183 ov66183 => ?_)
            obtain ⟨b66184, rfl, mb66184, gb66184⟩ := okV_r ov66183
            have gb66184 : tag b66184 = 43 := tg_of gb66184
            refine lv_iload_n hx hb dX13_canBe_33 rfl (lv_at hl 2 rfl) ?_
            refine t_ild X hT mb66184 gb66184 rfl (by omega) dX13_canBe_34 (fun z66185 vz66185 rz66185 => ?_)
            have rz66185 : 0 ≤ z66185.toInt ∧ z66185.toInt ≤ 5 := rz66185
            refine t_ild X hT mb66182 gb66182 rfl (by omega) dX13_canBe_35 (fun z66186 vz66186 rz66186 => ?_)
            have rz66186 : (-2147483648) ≤ z66186.toInt ∧ z66186.toInt ≤ 2147483647 := rz66186
            refine lv_aload_n hx hb dX13_canBe_36 rfl (lv_at hl 0 rfl) ?_
            refine t_get (C := RX13) (T := TX13) (N := 37) X hT m0 g0 rfl rfl 29 (by decide) qw_120 inlX13 rfl dX13_canBe_37 (fun v66187 hv66187 ov66187 => ?_)
            obtain rfl : v66187 = .ref b66184 := hv66187.symm.trans hv66183
            refine lv_iload_n hx hb dX13_canBe_40 rfl (lv_at hl 3 rfl) ?_
            refine t_ild X hT mb66184 gb66184 rfl (by omega) dX13_canBe_41 (fun z66188 vz66188 rz66188 => ?_)
            have rz66188 : 0 ≤ z66188.toInt ∧ z66188.toInt ≤ 5 := rz66188
            refine t_cSi (n := 2) (As := [.int z66186, .int z66188]) (rest := []) X hT (km24_X13_bit l G tag L F hT.2.2.2 z66186 z66188 ) qw_676 qw_677 qw_5 qw_678 ⟨by decide +kernel, by decide +kernel, by decide +kernel⟩ ⟨Nat.le_of_ble_eq_true rfl, Nat.le_of_ble_eq_true rfl⟩ hl rfl rfl (Nat.le_of_ble_eq_true rfl) dX13_canBe_42 ⟨Nat.le_of_ble_eq_true rfl, Nat.le_of_ble_eq_true rfl⟩ (fun z66189 F9 H locs hT hz66189 => ?_)
            obtain ⟨fz66189, hz66189⟩ := hz66189
            rw [fz66189] at hT
            refine lv_if_eq (tgt := 50) hx hb dX13_canBe_45 (by decide) (fun c66190 => ?_) (fun c66190 => ?_)
            · have w66191 := cv_eq (rfl : z66189.toInt = z66189.toInt) (by decide : (0 : Int32).toInt = 0) c66190
              obtain ⟨z66192, ez66192⟩ : ∃ y : Int32, y = z66174 + 1 := ⟨_, rfl⟩
              have hz66192 : z66192.toInt = z66174.toInt + 1 := ar_add ez66192 rfl (by decide : (1 : Int32).toInt = 1) (by omega) (by omega)
              refine lv_iinc (v := z66192) (lv' := [(3, .int z66192), (0, .ref p0), (1, .int z66169), (2, .int z66170)]) hx hb dX13_canBe_50 hl (k := 3) rfl (by rw [ez66192]; rfl) (by decide) rfl (fun ls hl => ?_)
              refine lv_goto (tgt := 17) hx hb dX13_canBe_53 (by decide) ?_
              exact ih17 z66192 z66175 _ _ _ _ (by omega) (by omega) (by omega) (by omega) (by omega) hT hfr pf0 qz66175 (lv_sub hl [1, 2, 3, 0] rfl)
            · have w66193 := cv_ne (rfl : z66189.toInt = z66189.toInt) (by decide : (0 : Int32).toInt = 0) c66190
              refine lv_iconst (v := 0) hx hb dX13_canBe_48 (by decide) ?_
              have k66194 : (0 : Int32).toInt = 0 := by decide
              exact t_zret hQ X hT (by decide) (⟨(by decide), hfr⟩) (Nat.le_of_ble_eq_true rfl) (Nat.le_of_ble_eq_true rfl) dX13_canBe_49
      refine lv_iload_n hx hb dX13_canBe_10 rfl (lv_at hl 2 rfl) ?_
      refine lv_iload_n hx hb dX13_canBe_11 rfl (lv_at hl 1 rfl) ?_
      refine lv_icmp_ge (tgt := 62) hx hb dX13_canBe_12 (by decide) (fun c66195 => ?_) (fun c66195 => ?_)
      · have w66196 := cv_le (rfl : z66169.toInt = z66169.toInt) (rfl : z66170.toInt = z66170.toInt) c66195
        refine lv_iconst (v := (-1)) hx hb dX13_canBe_62 (by decide) ?_
        refine lv_istore_n (lv' := [(2, .int (-1)), (0, .ref p0), (1, .int z66169)]) hx hb dX13_canBe_63 rfl hl (by decide) rfl (fun ls hl => ?_)
        refine lv_iconst (v := 0) hx hb dX13_canBe_64 (by decide) ?_
        refine lv_istore_n (lv' := [(3, .int 0), (2, .int (-1)), (0, .ref p0), (1, .int z66169)]) hx hb dX13_canBe_65 rfl hl (by decide) rfl (fun ls hl => ?_)
        have k66197 : ((-1) : Int32).toInt = (-1) := by decide
        have k66198 : (0 : Int32).toInt = 0 := by decide
        exact K66 7 z66169 (-1) 0 z66171 _ _ _ _ (by omega) (by omega) (by decide) (by decide) (by omega) hT hfr pf0 qz66171 (lv_sub hl [2, 3, 1, 0] rfl)
      · have w66199 := cv_nle (rfl : z66169.toInt = z66169.toInt) (rfl : z66170.toInt = z66170.toInt) c66195
        refine lv_iconst (v := 0) hx hb dX13_canBe_15 (by decide) ?_
        refine lv_istore_n (lv' := [(3, .int 0), (0, .ref p0), (1, .int z66169), (2, .int z66170)]) hx hb dX13_canBe_16 rfl hl (by decide) rfl (fun ls hl => ?_)
        have k66200 : (0 : Int32).toInt = 0 := by decide
        exact K17 6 0 z66171 _ _ _ _ (by omega) (by decide) (by omega) (by omega) (by omega) hT hfr pf0 qz66171 (lv_sub hl [1, 2, 3, 0] rfl)
  refine lv_aload_n hx hb dX13_canBe_0 rfl (lv_at hl 0 rfl) ?_
  refine t_get (C := RX13) (T := TX13) (N := 37) X hT m0 g0 rfl rfl 3 (by decide) qw_481 inlX13 rfl dX13_canBe_1 (fun v66201 hv66201 ov66201 => ?_)
  obtain rfl : v66201 = .ref x0 := hv66201.symm.trans pf0
  refine t_getN (C := RX12) (T := TX12) (N := 31) X hT mx0 gx0 rfl rfl 10 (by decide) (List.mem_of_getElem? (i := 14) rfl) inlX12 rfl dX13_canBe_4 (fun v66202 hv66202 ov66202 => ?_)
  obtain ⟨z66203, rfl, rz66203⟩ := okV_i ov66202
  refine lv_istore_n (lv' := [(1, .int z66203), (0, .ref p0)]) hx hb dX13_canBe_7 rfl hl (by decide) rfl (fun ls hl => ?_)
  refine lv_iconst (v := 0) hx hb dX13_canBe_8 (by decide) ?_
  refine lv_istore_n (lv' := [(2, .int 0), (1, .int z66203), (0, .ref p0)]) hx hb dX13_canBe_9 rfl hl (by decide) rfl (fun ls hl => ?_)
  have k66204 : (0 : Int32).toInt = 0 := by decide
  exact K10 7 z66203 0 z66203 _ _ _ _ (by omega) (by omega) (by decide) (by omega) hT hfr pf0 hv66202 (lv_sub hl [2, 1, 0] rfl)
set_option maxHeartbeats 4000000 in
set_option maxRecDepth 100000 in
theorem km225_X13_swaps (l : Launch) (G : KG) (tag : Nat → Nat) (L : List Nat) (Fo : Nat → va_E) (ho : okT G ttC tag L Fo) (p0 : Nat) (p1 : Int32) (p2 : Int32) (m0 : p0 ∈ L) (g0 : tag p0 = 43) (h1 : 0 ≤ p1.toInt ∧ p1.toInt ≤ 5) (h2 : 0 ≤ p2.toInt ∧ p2.toInt ≤ 5) : TMv l yX13_swaps cX13_swaps 4 { frames := 0, cells := 0, slots := 0, locals := 0 } G ttC tag L Fo [.ref p0, .int p1, .int p2] (fun F1 => ((∀ b j : Nat, fld F1 b j = fld Fo b j) ∧ (∀ b j : Nat, tag b ≠ 43 → elm F1 b j = elm Fo b j)) ∧ (SWP Fo F1 p0 p1.toNatClampNeg p2.toNatClampNeg)) := by
  refine t_bodyv (y := yX13_swaps) (cd := cX13_swaps) (mL := 4) (rm := { frames := 0, cells := 0, slots := 0, locals := 0 }) (av := [.ref p0, .int p1, .int p2]) (by decide) (Nat.le_of_ble_eq_true rfl) ho ?_
  intro p e s m args below meth c ls A Q hQ X hT hl
  have hx := X.1.1
  have hb := X.1.2.1
  have hl : lv_has ls 4 [(0, .ref p0), (1, .int p1), (2, .int p2)] := hl
  obtain ⟨F, hFo⟩ : ∃ F : Nat → va_E, F = Fo := ⟨_, rfl⟩
  rw [← hFo] at hT
  have hfr : (∀ b j : Nat, fld F b j = fld Fo b j) ∧ (∀ b j : Nat, tag b ≠ 43 → elm F b j = elm Fo b j) := by
    rw [hFo]
    exact ⟨by intros; rfl, by intros; rfl⟩
  have hgh : ∀ k : Nat, elm F p0 k = elm Fo p0 k := fun k => by rw [hFo]
  refine lv_aload_n hx hb dX13_swaps_0 rfl (lv_at hl 0 rfl) ?_
  refine lv_iload_n hx hb dX13_swaps_1 rfl (lv_at hl 1 rfl) ?_
  refine t_ild X hT m0 g0 rfl (by omega) dX13_swaps_2 (fun z66319 vz66319 rz66319 => ?_)
  have gz66319 := vz66319.symm.trans (hgh _)
  have rz66319 : 0 ≤ z66319.toInt ∧ z66319.toInt ≤ 5 := rz66319
  refine lv_istore_n (lv' := [(3, .int z66319), (0, .ref p0), (1, .int p1), (2, .int p2)]) hx hb dX13_swaps_3 rfl hl (by decide) rfl (fun ls hl => ?_)
  refine lv_aload_n hx hb dX13_swaps_4 rfl (lv_at hl 1 rfl) ?_
  refine lv_iload_n hx hb dX13_swaps_5 rfl (lv_at hl 2 rfl) ?_
  refine lv_aload_n hx hb dX13_swaps_6 rfl (lv_at hl 1 rfl) ?_
  refine lv_iload_n hx hb dX13_swaps_7 rfl (lv_at hl 3 rfl) ?_
  refine t_ild X hT m0 g0 rfl (by omega) dX13_swaps_8 (fun z66320 vz66320 rz66320 => ?_)
  have gz66320 := vz66320.symm.trans (hgh _)
  have rz66320 : 0 ≤ z66320.toInt ∧ z66320.toInt ≤ 5 := rz66320
  refine t_ist X hT m0 g0 rfl (by omega) (show 0 ≤ (z66320 : Int32).toInt ∧ (z66320 : Int32).toInt ≤ 5 from (by omega)) dX13_swaps_9 (fun F H locs hT v66321 h1v66321 h2v66321 => ?_)
  have hgh : ∀ k : Nat, elm F p0 k = if k = p1.toNatClampNeg then z66320 else elm Fo p0 k := fun k => by
    by_cases h9 : k = p1.toNatClampNeg
    · rw [if_pos h9, h9]; exact v66321
    · rw [if_neg h9]; exact (h1v66321 _ _ (Or.inr h9)).trans (hgh k)
  have hfr : (∀ b j : Nat, fld F b j = fld Fo b j) ∧ (∀ b j : Nat, tag b ≠ 43 → elm F b j = elm Fo b j) := ⟨fun b j  => (h2v66321 b j).trans (hfr.1 b j ), fun b j a43 => (h1v66321 b j (Or.inl (at_ne g0 a43))).trans (hfr.2 b j a43)⟩
  refine lv_aload_n hx hb dX13_swaps_10 rfl (lv_at hl 1 rfl) ?_
  refine lv_iload_n hx hb dX13_swaps_11 rfl (lv_at hl 3 rfl) ?_
  refine lv_iload_n hx hb dX13_swaps_12 rfl (lv_at hl 0 rfl) ?_
  refine t_ist X hT m0 g0 rfl (by omega) (show 0 ≤ (z66319 : Int32).toInt ∧ (z66319 : Int32).toInt ≤ 5 from (by omega)) dX13_swaps_13 (fun F H locs hT v66322 h1v66322 h2v66322 => ?_)
  have hgh : ∀ k : Nat, elm F p0 k = if k = p2.toNatClampNeg then z66319 else (if k = p1.toNatClampNeg then z66320 else elm Fo p0 k) := fun k => by
    by_cases h9 : k = p2.toNatClampNeg
    · rw [if_pos h9, h9]; exact v66322
    · rw [if_neg h9]; exact (h1v66322 _ _ (Or.inr h9)).trans (hgh k)
  have hfr : (∀ b j : Nat, fld F b j = fld Fo b j) ∧ (∀ b j : Nat, tag b ≠ 43 → elm F b j = elm Fo b j) := ⟨fun b j  => (h2v66322 b j).trans (hfr.1 b j ), fun b j a43 => (h1v66322 b j (Or.inl (at_ne g0 a43))).trans (hfr.2 b j a43)⟩
  exact t_vret hQ X hT ⟨hfr, (fun k => by rw [hgh k, gz66319, gz66320])⟩ (Nat.le_of_ble_eq_true rfl) (Nat.le_of_ble_eq_true rfl) dX13_swaps_14
set_option maxHeartbeats 4000000 in
set_option maxRecDepth 100000 in
theorem km226_X13_turns (l : Launch) (G : KG) (tag : Nat → Nat) (L : List Nat) (Fo : Nat → va_E) (ho : okT G ttC tag L Fo) (p0 : Nat) (p1 : Int32) (lx : Int) (m0 : p0 ∈ L) (g0 : tag p0 = 43) (h1 : 0 ≤ p1.toInt ∧ p1.toInt ≤ 6) (xh0 : CAR Fo p0 6 lx) : TMi l yX13_turns cX13_turns 6 (some .boolean) { frames := 1, cells := 0, slots := 0, locals := 23 } G ttC tag L Fo [.ref p0, .int p1] (fun r F1 => (0 ≤ r.toInt ∧ r.toInt ≤ 1) ∧ ((∀ b j : Nat, fld F1 b j = fld Fo b j) ∧ (∀ b j : Nat, tag b ≠ 43 → elm F1 b j = elm Fo b j)) ∧ (r.toInt ≠ 0 → ∃ lx9 : Int, CAR F1 p0 6 lx9 ∧ lx < lx9)) := by
  refine t_bodyi (y := yX13_turns) (cd := cX13_turns) (mL := 6) (rt := (some .boolean)) (rm := { frames := 1, cells := 0, slots := 0, locals := 23 }) (av := [.ref p0, .int p1]) (by decide) (Nat.le_of_ble_eq_true rfl) ho ?_
  intro p e s m args below meth c ls A Q hQ X hT hl
  have hx := X.1.1
  have hb := X.1.2.1
  have hl : lv_has ls 6 [(0, .ref p0), (1, .int p1)] := hl
  obtain ⟨F, hFo⟩ : ∃ F : Nat → va_E, F = Fo := ⟨_, rfl⟩
  rw [← hFo] at hT
  have hfr : (∀ b j : Nat, fld F b j = fld Fo b j) ∧ (∀ b j : Nat, tag b ≠ 43 → elm F b j = elm Fo b j) := by
    rw [hFo]
    exact ⟨by intros; rfl, by intros; rfl⟩
  have K66 : ∀ (n : Nat) (z66701 : Int32) (z66702 : Int32) (z66703 : Int32) (z66704 : Int32) (F : Nat → va_E) (H : Heap) (locs : List Loc) (ls : Array Slot), (5 - z66703.toInt < (n : Int)) → (0 ≤ z66701.toInt ∧ z66701.toInt ≤ 4) → (1 ≤ z66702.toInt ∧ z66702.toInt ≤ 5) → (1 ≤ z66703.toInt ∧ z66703.toInt ≤ 5) → ((-1) ≤ z66704.toInt ∧ z66704.toInt ≤ 5) → TH G ttC A s tag L F H locs → ((∀ b j : Nat, fld F b j = fld Fo b j) ∧ (∀ b j : Nat, tag b ≠ 43 → elm F b j = elm Fo b j)) → (DJ F p0 6) → (∀ k : Nat, k < z66701.toNatClampNeg → elm F p0 k = elm Fo p0 k) → ((elm Fo p0 z66701.toNatClampNeg).toInt < (elm F p0 z66701.toNatClampNeg).toInt) → (z66701.toInt + 1 ≤ z66703.toInt) → lv_has ls 6 [(0, .ref p0), (1, .int p1), (2, .int z66701), (3, .int z66702), (4, .int z66703), (5, .int z66704)] → W p l e { frames := 1, cells := 0, slots := 0, locals := 23 } s m args below meth c H locs 0 0 Q (F0 m 66 ls []) := by
    intro n
    induction n with
    | zero =>
      intro z66701 z66702 z66703 z66704 F H locs ls hn rz66701 rz66702 rz66703 rz66704 hT hfr ex66_0 ex66_1 ex66_2 ex66_3 hl
      exfalso
      omega
    | succ n ih66 =>
      intro z66701 z66702 z66703 z66704 F H locs ls hn rz66701 rz66702 rz66703 rz66704 hT hfr ex66_0 ex66_1 ex66_2 ex66_3 hl
      refine lv_iload hx hb dX13_turns_66 (lv_at hl 4 rfl) ?_
      refine lv_iload hx hb dX13_turns_68 (lv_at hl 5 rfl) ?_
      refine lv_icmp_ge (tgt := 90) hx hb dX13_turns_70 (by decide) (fun c66705 => ?_) (fun c66705 => ?_)
      · have w66706 := cv_le (rfl : z66704.toInt = z66704.toInt) (rfl : z66703.toInt = z66703.toInt) c66705
        refine lv_iconst (v := 1) hx hb dX13_turns_90 (by decide) ?_
        have k66707 : (1 : Int32).toInt = 1 := by decide
        exact t_zret hQ X hT (by decide) (⟨(by decide), hfr, (fun _ => tj_end (N := 6) (i := z66701) xh0 (t_rng hT m0 g0 rfl (by decide) (by decide)) ex66_0 ex66_1 ex66_2 (by omega) (by omega))⟩) (Nat.le_of_ble_eq_true rfl) (Nat.le_of_ble_eq_true rfl) dX13_turns_91
      · have w66708 := cv_nle (rfl : z66704.toInt = z66704.toInt) (rfl : z66703.toInt = z66703.toInt) c66705
        refine lv_aload_n hx hb dX13_turns_73 rfl (lv_at hl 0 rfl) ?_
        refine lv_iload hx hb dX13_turns_74 (lv_at hl 4 rfl) ?_
        refine lv_iload hx hb dX13_turns_76 (lv_at hl 5 rfl) ?_
        refine t_cSv (n := 3) (As := [.ref p0, .int z66703, .int z66704]) (rest := []) X hT (km225_X13_swaps l G tag L F hT.2.2.2 p0 z66703 z66704 m0 g0 (by omega) (by omega)) qw_1265 qw_1266 qw_5 qw_1267 ⟨by decide +kernel, by decide +kernel, by decide +kernel⟩ ⟨Nat.le_of_ble_eq_true rfl, Nat.le_of_ble_eq_true rfl⟩ hl rfl rfl (Nat.le_of_ble_eq_true rfl) dX13_turns_78 ⟨Nat.le_of_ble_eq_true rfl, Nat.le_of_ble_eq_true rfl⟩ (fun F H locs hT hz66709 => ?_)
        obtain ⟨yz66709, xz66709_0⟩ := hz66709
        have hfr : (∀ b j : Nat, fld F b j = fld Fo b j) ∧ (∀ b j : Nat, tag b ≠ 43 → elm F b j = elm Fo b j) := ⟨fun b j  => (yz66709.1 b j ).trans (hfr.1 b j ), fun b j a43 => (yz66709.2 b j a43).trans (hfr.2 b j a43)⟩
        have htj := tj_lp (N := 6) (i := z66701) ex66_0 ex66_1 ex66_2 xz66709_0 (by omega) (by omega) (by omega) (by omega)
        obtain ⟨z66710, ez66710⟩ : ∃ y : Int32, y = z66703 + 1 := ⟨_, rfl⟩
        have hz66710 : z66710.toInt = z66703.toInt + 1 := ar_add ez66710 rfl (by decide : (1 : Int32).toInt = 1) (by omega) (by omega)
        refine lv_iinc (v := z66710) (lv' := [(4, .int z66710), (0, .ref p0), (1, .int p1), (2, .int z66701), (3, .int z66702), (5, .int z66704)]) hx hb dX13_turns_81 hl (k := 4) rfl (by rw [ez66710]; rfl) (by decide) rfl (fun ls hl => ?_)
        obtain ⟨z66711, ez66711⟩ : ∃ y : Int32, y = z66704 + (-1) := ⟨_, rfl⟩
        have hz66711 : z66711.toInt = z66704.toInt + (-1) := ar_add ez66711 rfl (by decide : ((-1) : Int32).toInt = (-1)) (by omega) (by omega)
        refine lv_iinc (v := z66711) (lv' := [(5, .int z66711), (4, .int z66710), (0, .ref p0), (1, .int p1), (2, .int z66701), (3, .int z66702)]) hx hb dX13_turns_84 hl (k := 5) rfl (by rw [ez66711]; rfl) (by decide) rfl (fun ls hl => ?_)
        refine lv_goto (tgt := 66) hx hb dX13_turns_87 (by decide) ?_
        exact ih66 z66701 z66702 z66710 z66711 _ _ _ _ (by omega) (by omega) (by omega) (by omega) (by omega) hT hfr htj.1 htj.2.1 htj.2.2 (by omega) (lv_sub hl [2, 3, 4, 5, 1, 0] rfl)
  have K35 : ∀ (n : Nat) (z66712 : Int32) (z66713 : Int32) (F : Nat → va_E) (H : Heap) (locs : List Loc) (ls : Array Slot), (z66713.toInt - 0 < (n : Int)) → (0 ≤ z66712.toInt ∧ z66712.toInt ≤ 4) → ((-1) ≤ z66713.toInt ∧ z66713.toInt ≤ 5) → TH G ttC A s tag L F H locs → ((∀ b j : Nat, fld F b j = fld Fo b j) ∧ (∀ b j : Nat, tag b ≠ 43 → elm F b j = elm Fo b j)) → (∀ k : Nat, elm F p0 k = elm Fo p0 k) → (z66712.toInt + 1 ≤ z66713.toInt) → ((elm Fo p0 z66712.toNatClampNeg).toInt ≤ (elm Fo p0 (z66712.toNatClampNeg + 1)).toInt) → lv_has ls 6 [(0, .ref p0), (1, .int p1), (2, .int z66712), (3, .int z66713)] → W p l e { frames := 1, cells := 0, slots := 0, locals := 23 } s m args below meth c H locs 0 0 Q (F0 m 35 ls []) := by
    intro n
    induction n with
    | zero =>
      intro z66712 z66713 F H locs ls hn rz66712 rz66713 hT hfr ex35_0 ex35_1 ex35_2 hl
      exfalso
      omega
    | succ n ih35 =>
      intro z66712 z66713 F H locs ls hn rz66712 rz66713 hT hfr ex35_0 ex35_1 ex35_2 hl
      have w66714 : 1 ≤ z66713.toInt ∧ z66713.toInt ≤ 5 := by omega
      refine lv_aload_n hx hb dX13_turns_35 rfl (lv_at hl 0 rfl) ?_
      refine lv_iload_n hx hb dX13_turns_36 rfl (lv_at hl 3 rfl) ?_
      refine t_ild X hT m0 g0 rfl (by omega) dX13_turns_37 (fun z66715 vz66715 rz66715 => ?_)
      have rz66715 : 0 ≤ z66715.toInt ∧ z66715.toInt ≤ 5 := rz66715
      refine lv_aload_n hx hb dX13_turns_38 rfl (lv_at hl 0 rfl) ?_
      refine lv_iload_n hx hb dX13_turns_39 rfl (lv_at hl 2 rfl) ?_
      refine t_ild X hT m0 g0 rfl (by omega) dX13_turns_40 (fun z66716 vz66716 rz66716 => ?_)
      have rz66716 : 0 ≤ z66716.toInt ∧ z66716.toInt ≤ 5 := rz66716
      refine lv_icmp_ge (tgt := 50) hx hb dX13_turns_41 (by decide) (fun c66717 => ?_) (fun c66717 => ?_)
      · have w66718 := cv_le (rfl : z66716.toInt = z66716.toInt) (rfl : z66715.toInt = z66715.toInt) c66717
        refine lv_aload_n hx hb dX13_turns_50 rfl (lv_at hl 0 rfl) ?_
        refine lv_iload_n hx hb dX13_turns_51 rfl (lv_at hl 2 rfl) ?_
        refine lv_iload_n hx hb dX13_turns_52 rfl (lv_at hl 3 rfl) ?_
        refine t_cSv (n := 3) (As := [.ref p0, .int z66712, .int z66713]) (rest := []) X hT (km225_X13_swaps l G tag L F hT.2.2.2 p0 z66712 z66713 m0 g0 (by omega) (by omega)) qw_1265 qw_1266 qw_5 qw_1267 ⟨by decide +kernel, by decide +kernel, by decide +kernel⟩ ⟨Nat.le_of_ble_eq_true rfl, Nat.le_of_ble_eq_true rfl⟩ hl rfl rfl (Nat.le_of_ble_eq_true rfl) dX13_turns_53 ⟨Nat.le_of_ble_eq_true rfl, Nat.le_of_ble_eq_true rfl⟩ (fun F H locs hT hz66719 => ?_)
        obtain ⟨yz66719, xz66719_0⟩ := hz66719
        have hfr : (∀ b j : Nat, fld F b j = fld Fo b j) ∧ (∀ b j : Nat, tag b ≠ 43 → elm F b j = elm Fo b j) := ⟨fun b j  => (yz66719.1 b j ).trans (hfr.1 b j ), fun b j a43 => (yz66719.2 b j a43).trans (hfr.2 b j a43)⟩
        have htj := tj_in (N := 6) ex35_0 xh0 xz66719_0 (by omega) (by omega) (by omega) vz66716 vz66715 (by omega)
        refine lv_iload_n hx hb dX13_turns_56 rfl (lv_at hl 2 rfl) ?_
        refine lv_iconst (v := 1) hx hb dX13_turns_57 (by decide) ?_
        refine lv_iadd hx hb dX13_turns_58 ?_
        refine lv_topi (fun z66720 ez66720 => ?_)
        have hz66720 : z66720.toInt = z66712.toInt + 1 := ar_add ez66720 (rfl : z66712.toInt = z66712.toInt) (by decide : (1 : Int32).toInt = 1) (by omega) (by omega)
        have rz66720 : 1 ≤ z66720.toInt ∧ z66720.toInt ≤ 5 := by omega
        refine lv_istore (lv' := [(4, .int z66720), (0, .ref p0), (1, .int p1), (2, .int z66712), (3, .int z66713)]) hx hb dX13_turns_59 hl (by decide) rfl (fun ls hl => ?_)
        refine lv_iload_n hx hb dX13_turns_61 rfl (lv_at hl 2 rfl) ?_
        refine lv_iconst (v := 1) hx hb dX13_turns_62 (by decide) ?_
        refine lv_isub hx hb dX13_turns_63 ?_
        refine lv_topi (fun z66721 ez66721 => ?_)
        have hz66721 : z66721.toInt = p1.toInt - 1 := ar_sub ez66721 (rfl : p1.toInt = p1.toInt) (by decide : (1 : Int32).toInt = 1) (by omega) (by omega)
        have rz66721 : (-1) ≤ z66721.toInt ∧ z66721.toInt ≤ 5 := by omega
        refine lv_istore (lv' := [(5, .int z66721), (4, .int z66720), (0, .ref p0), (1, .int p1), (2, .int z66712), (3, .int z66713)]) hx hb dX13_turns_64 hl (by decide) rfl (fun ls hl => ?_)
        exact K66 5 z66712 z66713 z66720 z66721 _ _ _ _ (by omega) (by omega) (by omega) (by omega) (by omega) hT hfr htj.1 htj.2.1 htj.2.2 (by omega) (lv_sub hl [2, 3, 4, 5, 1, 0] rfl)
      · have w66722 := cv_nle (rfl : z66716.toInt = z66716.toInt) (rfl : z66715.toInt = z66715.toInt) c66717
        obtain ⟨z66723, ez66723⟩ : ∃ y : Int32, y = z66713 + (-1) := ⟨_, rfl⟩
        have hz66723 : z66723.toInt = z66713.toInt + (-1) := ar_add ez66723 rfl (by decide : ((-1) : Int32).toInt = (-1)) (by omega) (by omega)
        refine lv_iinc (v := z66723) (lv' := [(3, .int z66723), (0, .ref p0), (1, .int p1), (2, .int z66712)]) hx hb dX13_turns_44 hl (k := 3) rfl (by rw [ez66723]; rfl) (by decide) rfl (fun ls hl => ?_)
        refine lv_goto (tgt := 35) hx hb dX13_turns_47 (by decide) ?_
        exact ih35 z66712 z66723 _ _ _ _ (by omega) (by omega) (by omega) hT hfr (by first | exact ex35_0 | exact ex4_0 | exact fun k => by rw [hFo]) (by have h9 := tj_step ex35_0 vz66716 vz66715 (by omega) ex35_2 (by omega) (by omega); omega) ex35_2 (lv_sub hl [1, 2, 3, 0] rfl)
  have K4 : ∀ (n : Nat) (z66724 : Int32) (F : Nat → va_E) (H : Heap) (locs : List Loc) (ls : Array Slot), (z66724.toInt - (-1) < (n : Int)) → ((-2) ≤ z66724.toInt ∧ z66724.toInt ≤ 4) → TH G ttC A s tag L F H locs → ((∀ b j : Nat, fld F b j = fld Fo b j) ∧ (∀ b j : Nat, tag b ≠ 43 → elm F b j = elm Fo b j)) → (∀ k : Nat, elm F p0 k = elm Fo p0 k) → (z66724.toInt ≤ p1.toInt - 2) → lv_has ls 6 [(0, .ref p0), (1, .int p1), (2, .int z66724)] → W p l e { frames := 1, cells := 0, slots := 0, locals := 23 } s m args below meth c H locs 0 0 Q (F0 m 4 ls []) := by
    intro n
    induction n with
    | zero =>
      intro z66724 F H locs ls hn rz66724 hT hfr ex4_0 ex4_1 hl
      refine lv_iload_n hx hb dX13_turns_4 rfl (lv_at hl 2 rfl) ?_
      refine lv_if_lt (tgt := 25) hx hb dX13_turns_5 (by decide) (fun c66725 => ?_) (fun c66725 => ?_)
      · have w66726 := cv_lt (rfl : z66724.toInt = z66724.toInt) (by decide : (0 : Int32).toInt = 0) c66725
        refine lv_iload_n hx hb dX13_turns_25 rfl (lv_at hl 2 rfl) ?_
        refine lv_if_ge (tgt := 31) hx hb dX13_turns_26 (by decide) (fun c66727 => ?_) (fun c66727 => ?_)
        · have w66728 := cv_le (by decide : (0 : Int32).toInt = 0) (rfl : z66724.toInt = z66724.toInt) c66727
          exfalso
          omega
        · have w66729 := cv_nle (by decide : (0 : Int32).toInt = 0) (rfl : z66724.toInt = z66724.toInt) c66727
          refine lv_iconst (v := 0) hx hb dX13_turns_29 (by decide) ?_
          have k66730 : (0 : Int32).toInt = 0 := by decide
          exact t_zret hQ X hT (by decide) (⟨(by decide), hfr, (fun h9 => absurd (by decide) h9)⟩) (Nat.le_of_ble_eq_true rfl) (Nat.le_of_ble_eq_true rfl) dX13_turns_30
      · have w66731 := cv_nlt (rfl : z66724.toInt = z66724.toInt) (by decide : (0 : Int32).toInt = 0) c66725
        exfalso
        omega
    | succ n ih4 =>
      intro z66724 F H locs ls hn rz66724 hT hfr ex4_0 ex4_1 hl
      refine lv_iload_n hx hb dX13_turns_4 rfl (lv_at hl 2 rfl) ?_
      refine lv_if_lt (tgt := 25) hx hb dX13_turns_5 (by decide) (fun c66732 => ?_) (fun c66732 => ?_)
      · have w66733 := cv_lt (rfl : z66724.toInt = z66724.toInt) (by decide : (0 : Int32).toInt = 0) c66732
        refine lv_iload_n hx hb dX13_turns_25 rfl (lv_at hl 2 rfl) ?_
        refine lv_if_ge (tgt := 31) hx hb dX13_turns_26 (by decide) (fun c66734 => ?_) (fun c66734 => ?_)
        · have w66735 := cv_le (by decide : (0 : Int32).toInt = 0) (rfl : z66724.toInt = z66724.toInt) c66734
          exfalso
          omega
        · have w66736 := cv_nle (by decide : (0 : Int32).toInt = 0) (rfl : z66724.toInt = z66724.toInt) c66734
          refine lv_iconst (v := 0) hx hb dX13_turns_29 (by decide) ?_
          have k66737 : (0 : Int32).toInt = 0 := by decide
          exact t_zret hQ X hT (by decide) (⟨(by decide), hfr, (fun h9 => absurd (by decide) h9)⟩) (Nat.le_of_ble_eq_true rfl) (Nat.le_of_ble_eq_true rfl) dX13_turns_30
      · have w66738 := cv_nlt (rfl : z66724.toInt = z66724.toInt) (by decide : (0 : Int32).toInt = 0) c66732
        refine lv_aload_n hx hb dX13_turns_8 rfl (lv_at hl 0 rfl) ?_
        refine lv_iload_n hx hb dX13_turns_9 rfl (lv_at hl 2 rfl) ?_
        refine t_ild X hT m0 g0 rfl (by omega) dX13_turns_10 (fun z66739 vz66739 rz66739 => ?_)
        have rz66739 : 0 ≤ z66739.toInt ∧ z66739.toInt ≤ 5 := rz66739
        refine lv_aload_n hx hb dX13_turns_11 rfl (lv_at hl 0 rfl) ?_
        refine lv_iload_n hx hb dX13_turns_12 rfl (lv_at hl 2 rfl) ?_
        refine lv_iconst (v := 1) hx hb dX13_turns_13 (by decide) ?_
        refine lv_iadd hx hb dX13_turns_14 ?_
        refine lv_topi (fun z66740 ez66740 => ?_)
        have hz66740 : z66740.toInt = z66724.toInt + 1 := ar_add ez66740 (rfl : z66724.toInt = z66724.toInt) (by decide : (1 : Int32).toInt = 1) (by omega) (by omega)
        have rz66740 : 1 ≤ z66740.toInt ∧ z66740.toInt ≤ 5 := by omega
        refine t_ild X hT m0 g0 rfl (by omega) dX13_turns_15 (fun z66741 vz66741 rz66741 => ?_)
        have rz66741 : 0 ≤ z66741.toInt ∧ z66741.toInt ≤ 5 := rz66741
        refine lv_icmp_le (tgt := 25) hx hb dX13_turns_16 (by decide) (fun c66742 => ?_) (fun c66742 => ?_)
        · have w66743 := cv_le (rfl : z66739.toInt = z66739.toInt) (rfl : z66741.toInt = z66741.toInt) c66742
          refine lv_iload_n hx hb dX13_turns_25 rfl (lv_at hl 2 rfl) ?_
          refine lv_if_ge (tgt := 31) hx hb dX13_turns_26 (by decide) (fun c66744 => ?_) (fun c66744 => ?_)
          · have w66745 := cv_le (by decide : (0 : Int32).toInt = 0) (rfl : z66724.toInt = z66724.toInt) c66744
            refine lv_iload_n hx hb dX13_turns_31 rfl (lv_at hl 1 rfl) ?_
            refine lv_iconst (v := 1) hx hb dX13_turns_32 (by decide) ?_
            refine lv_isub hx hb dX13_turns_33 ?_
            refine lv_topi (fun z66746 ez66746 => ?_)
            have hz66746 : z66746.toInt = p1.toInt - 1 := ar_sub ez66746 (rfl : p1.toInt = p1.toInt) (by decide : (1 : Int32).toInt = 1) (by omega) (by omega)
            have rz66746 : (-1) ≤ z66746.toInt ∧ z66746.toInt ≤ 5 := by omega
            refine lv_istore_n (lv' := [(3, .int z66746), (0, .ref p0), (1, .int p1), (2, .int z66724)]) hx hb dX13_turns_34 rfl hl (by decide) rfl (fun ls hl => ?_)
            exact K35 6 z66724 z66746 _ _ _ _ (by omega) (by omega) (by omega) hT hfr (by first | exact ex35_0 | exact ex4_0 | exact fun k => by rw [hFo]) (by omega) (tj_le ex4_0 vz66739 vz66741 (by omega) (by omega) (by omega)) (lv_sub hl [1, 2, 3, 0] rfl)
          · have w66747 := cv_nle (by decide : (0 : Int32).toInt = 0) (rfl : z66724.toInt = z66724.toInt) c66744
            exfalso
            omega
        · have w66748 := cv_nle (rfl : z66739.toInt = z66739.toInt) (rfl : z66741.toInt = z66741.toInt) c66742
          obtain ⟨z66749, ez66749⟩ : ∃ y : Int32, y = z66724 + (-1) := ⟨_, rfl⟩
          have hz66749 : z66749.toInt = z66724.toInt + (-1) := ar_add ez66749 rfl (by decide : ((-1) : Int32).toInt = (-1)) (by omega) (by omega)
          refine lv_iinc (v := z66749) (lv' := [(2, .int z66749), (0, .ref p0), (1, .int p1)]) hx hb dX13_turns_19 hl (k := 2) rfl (by rw [ez66749]; rfl) (by decide) rfl (fun ls hl => ?_)
          refine lv_goto (tgt := 4) hx hb dX13_turns_22 (by decide) ?_
          exact ih4 z66749 _ _ _ _ (by omega) (by omega) hT hfr (by first | exact ex35_0 | exact ex4_0 | exact fun k => by rw [hFo]) (by omega) (lv_sub hl [1, 2, 0] rfl)
  refine lv_iload_n hx hb dX13_turns_0 rfl (lv_at hl 1 rfl) ?_
  refine lv_iconst (v := 2) hx hb dX13_turns_1 (by decide) ?_
  refine lv_isub hx hb dX13_turns_2 ?_
  refine lv_topi (fun z66750 ez66750 => ?_)
  have hz66750 : z66750.toInt = p1.toInt - 2 := ar_sub ez66750 (rfl : p1.toInt = p1.toInt) (by decide : (2 : Int32).toInt = 2) (by omega) (by omega)
  have rz66750 : (-2) ≤ z66750.toInt ∧ z66750.toInt ≤ 4 := by omega
  refine lv_istore_n (lv' := [(2, .int z66750), (0, .ref p0), (1, .int p1)]) hx hb dX13_turns_3 rfl hl (by decide) rfl (fun ls hl => ?_)
  exact K4 6 z66750 _ _ _ _ (by omega) (by omega) hT hfr (by first | exact ex35_0 | exact ex4_0 | exact fun k => by rw [hFo]) (by omega) (lv_sub hl [1, 2, 0] rfl)
set_option maxHeartbeats 4000000 in
set_option maxRecDepth 100000 in
theorem km227_X13_findsOrders (l : Launch) (G : KG) (tag : Nat → Nat) (L : List Nat) (Fo : Nat → va_E) (ho : okT G ttC tag L Fo) (p0 : Nat) (p1 : Int32) (x0 : Nat) (x1 : Nat) (m0 : p0 ∈ L) (g0 : tag p0 = 46) (mx0 : x0 ∈ L) (gx0 : tag x0 = 45) (pf0 : fld Fo p0 3 = .ref x0) (mx1 : x1 ∈ L) (gx1 : tag x1 = 43) (pf1 : fld Fo p0 29 = .ref x1) : TMv l yX13_findsOrders cX13_findsOrders 6 { frames := 3, cells := 0, slots := 0, locals := 66 } G ttC tag L Fo [.ref p0, .int p1] (fun F1 => ((∀ b j : Nat, (tag b ≠ 46 ∨ j ≠ 36) → fld F1 b j = fld Fo b j) ∧ (∀ b j : Nat, tag b ≠ 33 → tag b ≠ 43 → elm F1 b j = elm Fo b j))) := by
  refine t_bodyv (y := yX13_findsOrders) (cd := cX13_findsOrders) (mL := 6) (rm := { frames := 3, cells := 0, slots := 0, locals := 66 }) (av := [.ref p0, .int p1]) (by decide) (Nat.le_of_ble_eq_true rfl) ho ?_
  intro p e s m args below meth c ls A Q hQ X hT hl
  have hx := X.1.1
  have hb := X.1.2.1
  have hl : lv_has ls 6 [(0, .ref p0), (1, .int p1)] := hl
  have rp1 := rg_all p1
  obtain ⟨F, hFo⟩ : ∃ F : Nat → va_E, F = Fo := ⟨_, rfl⟩
  rw [← hFo] at hT pf0 pf1
  have hfr : (∀ b j : Nat, (tag b ≠ 46 ∨ j ≠ 36) → fld F b j = fld Fo b j) ∧ (∀ b j : Nat, tag b ≠ 33 → tag b ≠ 43 → elm F b j = elm Fo b j) := by
    rw [hFo]
    exact ⟨by intros; rfl, by intros; rfl⟩
  have K56 : ∀ (n : Nat) (lx : Int) (z72615 : Int32) (z72616 : Int32) (F : Nat → va_E) (H : Heap) (locs : List Loc) (ls : Array Slot), (46655 - lx < (n : Int)) → (1 ≤ z72615.toInt ∧ z72615.toInt ≤ 1) → TH G ttC A s tag L F H locs → ((∀ b j : Nat, (tag b ≠ 46 ∨ j ≠ 36) → fld F b j = fld Fo b j) ∧ (∀ b j : Nat, tag b ≠ 33 → tag b ≠ 43 → elm F b j = elm Fo b j)) → (fld F p0 3 = .ref x0) → (fld F p0 29 = .ref x1) → (fld F p0 36 = .int z72616) → (CAR F x1 6 lx) → lv_has ls 6 [(0, .ref p0), (1, .int p1), (2, .int z72615)] → W p l e { frames := 3, cells := 0, slots := 0, locals := 66 } s m args below meth c H locs 0 0 Q (F0 m 56 ls []) := by
    intro n
    induction n with
    | zero =>
      intro lx z72615 z72616 F H locs ls hn rz72615 hT hfr pf0 pf1 qz72616 hcar hl
      have rz72616 := rg_all z72616
      have h9 := car_b6 hcar
      exfalso
      omega
    | succ n ih56 =>
      intro lx z72615 z72616 F H locs ls hn rz72615 hT hfr pf0 pf1 qz72616 hcar hl
      have rz72616 := rg_all z72616
      have K226 : ∀ (z72617 : Int32) (F : Nat → va_E) (H : Heap) (locs : List Loc) (ls : Array Slot), TH G ttC A s tag L F H locs → ((∀ b j : Nat, (tag b ≠ 46 ∨ j ≠ 36) → fld F b j = fld Fo b j) ∧ (∀ b j : Nat, tag b ≠ 33 → tag b ≠ 43 → elm F b j = elm Fo b j)) → (fld F p0 3 = .ref x0) → (fld F p0 29 = .ref x1) → (fld F p0 36 = .int z72617) → (CAR F x1 6 lx) → lv_has ls 6 [(0, .ref p0), (1, .int p1), (2, .int z72615)] → W p l e { frames := 3, cells := 0, slots := 0, locals := 66 } s m args below meth c H locs 0 0 Q (F0 m 226 ls []) := by
        intro z72617 F H locs ls hT hfr pf0 pf1 qz72617 hcar hl
        have rz72617 := rg_all z72617
        refine lv_aload_n hx hb dX13_findsOrders_226 rfl (lv_at hl 0 rfl) ?_
        refine t_get (C := RX13) (T := TX13) (N := 37) X hT m0 g0 rfl rfl 29 (by decide) qw_120 inlX13 rfl dX13_findsOrders_227 (fun v72618 hv72618 ov72618 => ?_)
        obtain rfl : v72618 = .ref x1 := hv72618.symm.trans pf1
        refine lv_aload_n hx hb dX13_findsOrders_230 rfl (lv_at hl 0 rfl) ?_
        refine t_get (C := RX13) (T := TX13) (N := 37) X hT m0 g0 rfl rfl 3 (by decide) qw_481 inlX13 rfl dX13_findsOrders_231 (fun v72619 hv72619 ov72619 => ?_)
        obtain rfl : v72619 = .ref x0 := hv72619.symm.trans pf0
        refine t_getN (C := RX12) (T := TX12) (N := 31) X hT mx0 gx0 rfl rfl 10 (by decide) (List.mem_of_getElem? (i := 14) rfl) inlX12 rfl dX13_findsOrders_234 (fun v72620 hv72620 ov72620 => ?_)
        obtain ⟨z72621, rfl, rz72621⟩ := okV_i ov72620
        refine t_cSi (n := 2) (As := [.ref x1, .int z72621]) (rest := []) X hT (km226_X13_turns l G tag L F hT.2.2.2 x1 z72621 lx mx1 gx1 (by omega) hcar) qw_1262 qw_1263 qw_5 qw_1264 ⟨by decide +kernel, by decide +kernel, by decide +kernel⟩ ⟨Nat.le_of_ble_eq_true rfl, Nat.le_of_ble_eq_true rfl⟩ hl rfl rfl (Nat.le_of_ble_eq_true rfl) dX13_findsOrders_237 ⟨Nat.le_of_ble_eq_true rfl, Nat.le_of_ble_eq_true rfl⟩ (fun z72622 F H locs hT hz72622 => ?_)
        obtain ⟨hz72622, yz72622, xz72622_0⟩ := hz72622
        have qz72617 := (yz72622.1 _ 36 ).trans qz72617
        have pf0 := (yz72622.1 _ 3 ).trans pf0
        have pf1 := (yz72622.1 _ 29 ).trans pf1
        have hv72620 := (yz72622.1 _ 10 ).trans hv72620
        have hfr : (∀ b j : Nat, (tag b ≠ 46 ∨ j ≠ 36) → fld F b j = fld Fo b j) ∧ (∀ b j : Nat, tag b ≠ 33 → tag b ≠ 43 → elm F b j = elm Fo b j) := ⟨fun b j n46_36 => (yz72622.1 b j ).trans (hfr.1 b j n46_36), fun b j a33 a43 => (yz72622.2 b j a43).trans (hfr.2 b j a33 a43)⟩
        refine lv_istore_n (lv' := [(2, .int z72622), (0, .ref p0), (1, .int p1)]) hx hb dX13_findsOrders_240 rfl hl (by decide) rfl (fun ls hl => ?_)
        refine lv_goto (tgt := 52) hx hb dX13_findsOrders_241 (by decide) ?_
        refine lv_iload_n hx hb dX13_findsOrders_52 rfl (lv_at hl 0 rfl) ?_
        refine lv_if_eq (tgt := 244) hx hb dX13_findsOrders_53 (by decide) (fun c72623 => ?_) (fun c72623 => ?_)
        · have w72624 := cv_eq (rfl : z72622.toInt = z72622.toInt) (by decide : (0 : Int32).toInt = 0) c72623
          exact t_vret hQ X hT hfr (Nat.le_of_ble_eq_true rfl) (Nat.le_of_ble_eq_true rfl) dX13_findsOrders_244
        · have w72625 := cv_ne (rfl : z72622.toInt = z72622.toInt) (by decide : (0 : Int32).toInt = 0) c72623
          obtain ⟨lx72626, hcar, hlx72626⟩ := xz72622_0 (by omega)
          have h9k72627 := car_b6 hcar
          exact ih56 lx72626 z72622 z72617 _ _ _ _ (by omega) (by omega) hT hfr pf0 pf1 qz72617 hcar (lv_sub hl [1, 2, 0] rfl)
      have K68 : ∀ (n : Nat) (z72628 : Int32) (z72629 : Int32) (z72630 : Int32) (F : Nat → va_E) (H : Heap) (locs : List Loc) (ls : Array Slot), (6 - z72629.toInt < (n : Int)) → (0 ≤ z72628.toInt ∧ z72628.toInt ≤ 255) → (0 ≤ z72629.toInt ∧ z72629.toInt ≤ 6) → TH G ttC A s tag L F H locs → ((∀ b j : Nat, (tag b ≠ 46 ∨ j ≠ 36) → fld F b j = fld Fo b j) ∧ (∀ b j : Nat, tag b ≠ 33 → tag b ≠ 43 → elm F b j = elm Fo b j)) → (fld F p0 3 = .ref x0) → (fld F p0 29 = .ref x1) → (fld F p0 36 = .int z72630) → (CAR F x1 6 lx) → lv_has ls 6 [(0, .ref p0), (1, .int p1), (2, .int z72615), (3, .int z72628), (4, .int z72629)] → W p l e { frames := 3, cells := 0, slots := 0, locals := 66 } s m args below meth c H locs 0 0 Q (F0 m 68 ls []) := by
        intro n
        induction n with
        | zero =>
          intro z72628 z72629 z72630 F H locs ls hn rz72628 rz72629 hT hfr pf0 pf1 qz72630 hcar hl
          have rz72630 := rg_all z72630
          exfalso
          omega
        | succ n ih68 =>
          intro z72628 z72629 z72630 F H locs ls hn rz72628 rz72629 hT hfr pf0 pf1 qz72630 hcar hl
          have rz72630 := rg_all z72630
          have K192 : ∀ (z72632 : Int32) (z72633 : Int32) (z72634 : Int32) (F : Nat → va_E) (H : Heap) (locs : List Loc) (ls : Array Slot), (0 ≤ z72632.toInt ∧ z72632.toInt ≤ 5) → (1 ≤ z72634.toInt ∧ z72634.toInt ≤ 6) → (0 ≤ z72629.toInt ∧ z72629.toInt ≤ 5) → TH G ttC A s tag L F H locs → ((∀ b j : Nat, (tag b ≠ 46 ∨ j ≠ 36) → fld F b j = fld Fo b j) ∧ (∀ b j : Nat, tag b ≠ 33 → tag b ≠ 43 → elm F b j = elm Fo b j)) → (fld F p0 3 = .ref x0) → (fld F p0 29 = .ref x1) → (fld F p0 36 = .int z72633) → (fld F x0 10 = .int z72634) → (CAR F x1 6 lx) → lv_has ls 6 [(0, .ref p0), (1, .int p1), (2, .int z72615), (3, .int z72628), (4, .int z72629), (5, .int z72632)] → W p l e { frames := 3, cells := 0, slots := 0, locals := 66 } s m args below meth c H locs 0 0 Q (F0 m 192 ls []) := by
            intro z72632 z72633 z72634 F H locs ls rz72632 rz72634 r9s72631 hT hfr pf0 pf1 qz72633 qz72634 hcar hl
            have rz72633 := rg_all z72633
            refine lv_aload_n hx hb dX13_findsOrders_192 rfl (lv_at hl 0 rfl) ?_
            refine t_get (C := RX13) (T := TX13) (N := 37) X hT m0 g0 rfl rfl 32 (by decide) qw_123 inlX13 rfl dX13_findsOrders_193 (fun v72635 hv72635 ov72635 => ?_)
            obtain ⟨b72636, rfl, mb72636, gb72636⟩ := okV_r ov72635
            have gb72636 : tag b72636 = 33 := tg_of gb72636
            refine lv_iload hx hb dX13_findsOrders_196 (lv_at hl 5 rfl) ?_
            refine lv_dup2_11 hx hb dX13_findsOrders_198 rfl rfl ?_
            refine t_ild X hT mb72636 gb72636 rfl (by omega) dX13_findsOrders_199 (fun z72637 vz72637 rz72637 => ?_)
            have rz72637 : (-2147483648) ≤ z72637.toInt ∧ z72637.toInt ≤ 2147483647 := rz72637
            refine lv_iload_n hx hb dX13_findsOrders_200 rfl (lv_at hl 3 rfl) ?_
            refine lv_iand hx hb dX13_findsOrders_201 ?_
            refine lv_topi (fun z72638 ez72638 => ?_)
            have rz72638 := rg_all z72638
            refine t_ist X hT mb72636 gb72636 rfl (by omega) (show (-2147483648) ≤ (z72638 : Int32).toInt ∧ (z72638 : Int32).toInt ≤ 2147483647 from (rg_all _)) dX13_findsOrders_202 (fun F H locs hT v72639 h1v72639 h2v72639 => ?_)
            have qz72633 := (h2v72639 _ _).trans qz72633
            have qz72634 := (h2v72639 _ _).trans qz72634
            have pf0 := (h2v72639 _ _).trans pf0
            have pf1 := (h2v72639 _ _).trans pf1
            have hv72635 := (h2v72639 _ _).trans hv72635
            have hfr : (∀ b j : Nat, (tag b ≠ 46 ∨ j ≠ 36) → fld F b j = fld Fo b j) ∧ (∀ b j : Nat, tag b ≠ 33 → tag b ≠ 43 → elm F b j = elm Fo b j) := ⟨fun b j n46_36 => (h2v72639 b j).trans (hfr.1 b j n46_36), fun b j a33 a43 => (h1v72639 b j (Or.inl (at_ne gb72636 a33))).trans (hfr.2 b j a33 a43)⟩
            have hcar := car_of (fun j => h1v72639 _ j (Or.inl (tne gx1 gb72636 (by decide)))) hcar
            refine lv_iload_n hx hb dX13_findsOrders_203 rfl (lv_at hl 3 rfl) ?_
            refine lv_iconst (v := 1) hx hb dX13_findsOrders_204 (by decide) ?_
            refine lv_iload hx hb dX13_findsOrders_205 (lv_at hl 5 rfl) ?_
            refine lv_ishl hx hb dX13_findsOrders_207 ?_
            refine lv_topi (fun z72640 ez72640 => ?_)
            have hz72640 := ar_shl3 ez72640 (by omega)
            have rz72640 : 1 ≤ z72640.toInt ∧ z72640.toInt ≤ 32 := by omega
            refine lv_ior hx hb dX13_findsOrders_208 ?_
            refine lv_topi (fun z72641 ez72641 => ?_)
            have rz72641 : 0 ≤ z72641.toInt ∧ z72641.toInt ≤ 255 := ar_or ez72641 8 (by omega) (by omega) (by decide)
            refine lv_istore_n (lv' := [(3, .int z72641), (0, .ref p0), (1, .int p1), (2, .int z72615), (4, .int z72629), (5, .int z72632)]) hx hb dX13_findsOrders_209 rfl hl (by decide) rfl (fun ls hl => ?_)
            obtain ⟨z72642, ez72642⟩ : ∃ y : Int32, y = z72629 + 1 := ⟨_, rfl⟩
            have hz72642 : z72642.toInt = z72629.toInt + 1 := ar_add ez72642 rfl (by decide : (1 : Int32).toInt = 1) (by omega) (by omega)
            refine lv_iinc (v := z72642) (lv' := [(4, .int z72642), (3, .int z72641), (0, .ref p0), (1, .int p1), (2, .int z72615), (5, .int z72632)]) hx hb dX13_findsOrders_210 hl (k := 4) rfl (by rw [ez72642]; rfl) (by decide) rfl (fun ls hl => ?_)
            refine lv_goto (tgt := 68) hx hb dX13_findsOrders_213 (by decide) ?_
            exact ih68 z72641 z72642 z72633 _ _ _ _ (by omega) (by omega) (by omega) hT hfr pf0 pf1 qz72633 hcar (lv_sub hl [2, 3, 4, 1, 0] rfl)
          have K178 : ∀ (z72644 : Int32) (z72645 : Int32) (z72646 : Int32) (F : Nat → va_E) (H : Heap) (locs : List Loc) (ls : Array Slot), (0 ≤ z72644.toInt ∧ z72644.toInt ≤ 5) → (1 ≤ z72646.toInt ∧ z72646.toInt ≤ 6) → (0 ≤ z72629.toInt ∧ z72629.toInt ≤ 5) → TH G ttC A s tag L F H locs → ((∀ b j : Nat, (tag b ≠ 46 ∨ j ≠ 36) → fld F b j = fld Fo b j) ∧ (∀ b j : Nat, tag b ≠ 33 → tag b ≠ 43 → elm F b j = elm Fo b j)) → (fld F p0 3 = .ref x0) → (fld F p0 29 = .ref x1) → (fld F p0 36 = .int z72645) → (fld F x0 10 = .int z72646) → (CAR F x1 6 lx) → lv_has ls 6 [(0, .ref p0), (1, .int p1), (2, .int z72615), (3, .int z72628), (4, .int z72629), (5, .int z72644)] → W p l e { frames := 3, cells := 0, slots := 0, locals := 66 } s m args below meth c H locs 0 0 Q (F0 m 178 ls []) := by
            intro z72644 z72645 z72646 F H locs ls rz72644 rz72646 r9s72643 hT hfr pf0 pf1 qz72645 qz72646 hcar hl
            have rz72645 := rg_all z72645
            refine lv_aload_n hx hb dX13_findsOrders_178 rfl (lv_at hl 0 rfl) ?_
            refine t_get (C := RX13) (T := TX13) (N := 37) X hT m0 g0 rfl rfl 31 (by decide) qw_122 inlX13 rfl dX13_findsOrders_179 (fun v72647 hv72647 ov72647 => ?_)
            obtain ⟨b72648, rfl, mb72648, gb72648⟩ := okV_r ov72647
            have gb72648 : tag b72648 = 33 := tg_of gb72648
            refine lv_iload hx hb dX13_findsOrders_182 (lv_at hl 5 rfl) ?_
            refine lv_aload_n hx hb dX13_findsOrders_184 rfl (lv_at hl 0 rfl) ?_
            refine t_get (C := RX13) (T := TX13) (N := 37) X hT m0 g0 rfl rfl 34 (by decide) qw_125 inlX13 rfl dX13_findsOrders_185 (fun v72649 hv72649 ov72649 => ?_)
            obtain ⟨b72650, rfl, mb72650, gb72650⟩ := okV_r ov72649
            have gb72650 : tag b72650 = 33 := tg_of gb72650
            refine lv_iload hx hb dX13_findsOrders_188 (lv_at hl 4 rfl) ?_
            refine t_ild X hT mb72650 gb72650 rfl (by omega) dX13_findsOrders_190 (fun z72651 vz72651 rz72651 => ?_)
            have rz72651 : (-2147483648) ≤ z72651.toInt ∧ z72651.toInt ≤ 2147483647 := rz72651
            refine t_ist X hT mb72648 gb72648 rfl (by omega) (show (-2147483648) ≤ (z72651 : Int32).toInt ∧ (z72651 : Int32).toInt ≤ 2147483647 from (rg_all _)) dX13_findsOrders_191 (fun F H locs hT v72652 h1v72652 h2v72652 => ?_)
            have qz72645 := (h2v72652 _ _).trans qz72645
            have qz72646 := (h2v72652 _ _).trans qz72646
            have pf0 := (h2v72652 _ _).trans pf0
            have pf1 := (h2v72652 _ _).trans pf1
            have hv72647 := (h2v72652 _ _).trans hv72647
            have hv72649 := (h2v72652 _ _).trans hv72649
            have hfr : (∀ b j : Nat, (tag b ≠ 46 ∨ j ≠ 36) → fld F b j = fld Fo b j) ∧ (∀ b j : Nat, tag b ≠ 33 → tag b ≠ 43 → elm F b j = elm Fo b j) := ⟨fun b j n46_36 => (h2v72652 b j).trans (hfr.1 b j n46_36), fun b j a33 a43 => (h1v72652 b j (Or.inl (at_ne gb72648 a33))).trans (hfr.2 b j a33 a43)⟩
            have hcar := car_of (fun j => h1v72652 _ j (Or.inl (tne gx1 gb72648 (by decide)))) hcar
            exact K192 z72644 z72645 z72646 _ _ _ _ (by omega) (by omega) (by omega) hT hfr pf0 pf1 qz72645 qz72646 hcar (lv_sub hl [0, 1, 2, 3, 4, 5] rfl)
          have K149 : ∀ (z72654 : Int32) (z72655 : Int32) (z72656 : Int32) (F : Nat → va_E) (H : Heap) (locs : List Loc) (ls : Array Slot), (0 ≤ z72654.toInt ∧ z72654.toInt ≤ 5) → (1 ≤ z72656.toInt ∧ z72656.toInt ≤ 6) → (0 ≤ z72629.toInt ∧ z72629.toInt ≤ 5) → TH G ttC A s tag L F H locs → ((∀ b j : Nat, (tag b ≠ 46 ∨ j ≠ 36) → fld F b j = fld Fo b j) ∧ (∀ b j : Nat, tag b ≠ 33 → tag b ≠ 43 → elm F b j = elm Fo b j)) → (fld F p0 3 = .ref x0) → (fld F p0 29 = .ref x1) → (fld F p0 36 = .int z72655) → (fld F x0 10 = .int z72656) → (CAR F x1 6 lx) → lv_has ls 6 [(0, .ref p0), (1, .int p1), (2, .int z72615), (3, .int z72628), (4, .int z72629), (5, .int z72654)] → W p l e { frames := 3, cells := 0, slots := 0, locals := 66 } s m args below meth c H locs 0 0 Q (F0 m 149 ls []) := by
            intro z72654 z72655 z72656 F H locs ls rz72654 rz72656 r9s72653 hT hfr pf0 pf1 qz72655 qz72656 hcar hl
            have rz72655 := rg_all z72655
            refine lv_aload_n hx hb dX13_findsOrders_149 rfl (lv_at hl 0 rfl) ?_
            refine t_get (C := RX13) (T := TX13) (N := 37) X hT m0 g0 rfl rfl 31 (by decide) qw_122 inlX13 rfl dX13_findsOrders_150 (fun v72657 hv72657 ov72657 => ?_)
            obtain ⟨b72658, rfl, mb72658, gb72658⟩ := okV_r ov72657
            have gb72658 : tag b72658 = 33 := tg_of gb72658
            refine lv_iload hx hb dX13_findsOrders_153 (lv_at hl 5 rfl) ?_
            refine t_ild X hT mb72658 gb72658 rfl (by omega) dX13_findsOrders_155 (fun z72659 vz72659 rz72659 => ?_)
            have rz72659 : (-2147483648) ≤ z72659.toInt ∧ z72659.toInt ≤ 2147483647 := rz72659
            refine lv_bipush (v := (-2)) hx hb dX13_findsOrders_156 (by decide) ?_
            refine lv_icmp_eq (tgt := 178) hx hb dX13_findsOrders_158 (by decide) (fun c72660 => ?_) (fun c72660 => ?_)
            · have w72661 := cv_eq (rfl : z72659.toInt = z72659.toInt) (by decide : ((-2) : Int32).toInt = (-2)) c72660
              exact K178 z72654 z72655 z72656 _ _ _ _ (by omega) (by omega) (by omega) hT hfr pf0 pf1 qz72655 qz72656 hcar (lv_sub hl [0, 1, 2, 3, 4, 5] rfl)
            · have w72662 := cv_ne (rfl : z72659.toInt = z72659.toInt) (by decide : ((-2) : Int32).toInt = (-2)) c72660
              refine lv_aload_n hx hb dX13_findsOrders_161 rfl (lv_at hl 0 rfl) ?_
              refine t_get (C := RX13) (T := TX13) (N := 37) X hT m0 g0 rfl rfl 34 (by decide) qw_125 inlX13 rfl dX13_findsOrders_162 (fun v72663 hv72663 ov72663 => ?_)
              obtain ⟨b72664, rfl, mb72664, gb72664⟩ := okV_r ov72663
              have gb72664 : tag b72664 = 33 := tg_of gb72664
              refine lv_iload hx hb dX13_findsOrders_165 (lv_at hl 4 rfl) ?_
              refine t_ild X hT mb72664 gb72664 rfl (by omega) dX13_findsOrders_167 (fun z72665 vz72665 rz72665 => ?_)
              have rz72665 : (-2147483648) ≤ z72665.toInt ∧ z72665.toInt ≤ 2147483647 := rz72665
              refine lv_aload_n hx hb dX13_findsOrders_168 rfl (lv_at hl 0 rfl) ?_
              refine t_get (C := RX13) (T := TX13) (N := 37) X hT m0 g0 rfl rfl 31 (by decide) qw_122 inlX13 rfl dX13_findsOrders_169 (fun v72666 hv72666 ov72666 => ?_)
              obtain rfl : v72666 = .ref b72658 := hv72666.symm.trans hv72657
              refine lv_iload hx hb dX13_findsOrders_172 (lv_at hl 5 rfl) ?_
              refine t_ild X hT mb72658 gb72658 rfl (by omega) dX13_findsOrders_174 (fun z72667 vz72667 rz72667 => ?_)
              obtain rfl : z72659 = z72667 := vz72659.symm.trans vz72667
              refine lv_icmp_le (tgt := 192) hx hb dX13_findsOrders_175 (by decide) (fun c72668 => ?_) (fun c72668 => ?_)
              · have w72669 := cv_le (rfl : z72665.toInt = z72665.toInt) (rfl : z72659.toInt = z72659.toInt) c72668
                exact K192 z72654 z72655 z72656 _ _ _ _ (by omega) (by omega) (by omega) hT hfr pf0 pf1 qz72655 qz72656 hcar (lv_sub hl [0, 1, 2, 3, 4, 5] rfl)
              · have w72670 := cv_nle (rfl : z72665.toInt = z72665.toInt) (rfl : z72659.toInt = z72659.toInt) c72668
                exact K178 z72654 z72655 z72656 _ _ _ _ (by omega) (by omega) (by omega) hT hfr pf0 pf1 qz72655 qz72656 hcar (lv_sub hl [0, 1, 2, 3, 4, 5] rfl)
          have K135 : ∀ (z72672 : Int32) (z72673 : Int32) (z72674 : Int32) (F : Nat → va_E) (H : Heap) (locs : List Loc) (ls : Array Slot), (0 ≤ z72672.toInt ∧ z72672.toInt ≤ 5) → (1 ≤ z72674.toInt ∧ z72674.toInt ≤ 6) → (0 ≤ z72629.toInt ∧ z72629.toInt ≤ 5) → TH G ttC A s tag L F H locs → ((∀ b j : Nat, (tag b ≠ 46 ∨ j ≠ 36) → fld F b j = fld Fo b j) ∧ (∀ b j : Nat, tag b ≠ 33 → tag b ≠ 43 → elm F b j = elm Fo b j)) → (fld F p0 3 = .ref x0) → (fld F p0 29 = .ref x1) → (fld F p0 36 = .int z72673) → (fld F x0 10 = .int z72674) → (CAR F x1 6 lx) → lv_has ls 6 [(0, .ref p0), (1, .int p1), (2, .int z72615), (3, .int z72628), (4, .int z72629), (5, .int z72672)] → W p l e { frames := 3, cells := 0, slots := 0, locals := 66 } s m args below meth c H locs 0 0 Q (F0 m 135 ls []) := by
            intro z72672 z72673 z72674 F H locs ls rz72672 rz72674 r9s72671 hT hfr pf0 pf1 qz72673 qz72674 hcar hl
            have rz72673 := rg_all z72673
            refine lv_aload_n hx hb dX13_findsOrders_135 rfl (lv_at hl 0 rfl) ?_
            refine t_get (C := RX13) (T := TX13) (N := 37) X hT m0 g0 rfl rfl 30 (by decide) qw_121 inlX13 rfl dX13_findsOrders_136 (fun v72675 hv72675 ov72675 => ?_)
            obtain ⟨b72676, rfl, mb72676, gb72676⟩ := okV_r ov72675
            have gb72676 : tag b72676 = 33 := tg_of gb72676
            refine lv_iload hx hb dX13_findsOrders_139 (lv_at hl 5 rfl) ?_
            refine lv_aload_n hx hb dX13_findsOrders_141 rfl (lv_at hl 0 rfl) ?_
            refine t_get (C := RX13) (T := TX13) (N := 37) X hT m0 g0 rfl rfl 33 (by decide) qw_124 inlX13 rfl dX13_findsOrders_142 (fun v72677 hv72677 ov72677 => ?_)
            obtain ⟨b72678, rfl, mb72678, gb72678⟩ := okV_r ov72677
            have gb72678 : tag b72678 = 33 := tg_of gb72678
            refine lv_iload hx hb dX13_findsOrders_145 (lv_at hl 4 rfl) ?_
            refine t_ild X hT mb72678 gb72678 rfl (by omega) dX13_findsOrders_147 (fun z72679 vz72679 rz72679 => ?_)
            have rz72679 : (-2147483648) ≤ z72679.toInt ∧ z72679.toInt ≤ 2147483647 := rz72679
            refine t_ist X hT mb72676 gb72676 rfl (by omega) (show (-2147483648) ≤ (z72679 : Int32).toInt ∧ (z72679 : Int32).toInt ≤ 2147483647 from (rg_all _)) dX13_findsOrders_148 (fun F H locs hT v72680 h1v72680 h2v72680 => ?_)
            have qz72673 := (h2v72680 _ _).trans qz72673
            have qz72674 := (h2v72680 _ _).trans qz72674
            have pf0 := (h2v72680 _ _).trans pf0
            have pf1 := (h2v72680 _ _).trans pf1
            have hv72675 := (h2v72680 _ _).trans hv72675
            have hv72677 := (h2v72680 _ _).trans hv72677
            have hfr : (∀ b j : Nat, (tag b ≠ 46 ∨ j ≠ 36) → fld F b j = fld Fo b j) ∧ (∀ b j : Nat, tag b ≠ 33 → tag b ≠ 43 → elm F b j = elm Fo b j) := ⟨fun b j n46_36 => (h2v72680 b j).trans (hfr.1 b j n46_36), fun b j a33 a43 => (h1v72680 b j (Or.inl (at_ne gb72676 a33))).trans (hfr.2 b j a33 a43)⟩
            have hcar := car_of (fun j => h1v72680 _ j (Or.inl (tne gx1 gb72676 (by decide)))) hcar
            exact K149 z72672 z72673 z72674 _ _ _ _ (by omega) (by omega) (by omega) hT hfr pf0 pf1 qz72673 qz72674 hcar (lv_sub hl [0, 1, 2, 3, 4, 5] rfl)
          have K106 : ∀ (z72682 : Int32) (z72683 : Int32) (z72684 : Int32) (F : Nat → va_E) (H : Heap) (locs : List Loc) (ls : Array Slot), (0 ≤ z72682.toInt ∧ z72682.toInt ≤ 5) → (1 ≤ z72684.toInt ∧ z72684.toInt ≤ 6) → (0 ≤ z72629.toInt ∧ z72629.toInt ≤ 5) → TH G ttC A s tag L F H locs → ((∀ b j : Nat, (tag b ≠ 46 ∨ j ≠ 36) → fld F b j = fld Fo b j) ∧ (∀ b j : Nat, tag b ≠ 33 → tag b ≠ 43 → elm F b j = elm Fo b j)) → (fld F p0 3 = .ref x0) → (fld F p0 29 = .ref x1) → (fld F p0 36 = .int z72683) → (fld F x0 10 = .int z72684) → (CAR F x1 6 lx) → lv_has ls 6 [(0, .ref p0), (1, .int p1), (2, .int z72615), (3, .int z72628), (4, .int z72629), (5, .int z72682)] → W p l e { frames := 3, cells := 0, slots := 0, locals := 66 } s m args below meth c H locs 0 0 Q (F0 m 106 ls []) := by
            intro z72682 z72683 z72684 F H locs ls rz72682 rz72684 r9s72681 hT hfr pf0 pf1 qz72683 qz72684 hcar hl
            have rz72683 := rg_all z72683
            refine lv_aload_n hx hb dX13_findsOrders_106 rfl (lv_at hl 0 rfl) ?_
            refine t_get (C := RX13) (T := TX13) (N := 37) X hT m0 g0 rfl rfl 30 (by decide) qw_121 inlX13 rfl dX13_findsOrders_107 (fun v72685 hv72685 ov72685 => ?_)
            obtain ⟨b72686, rfl, mb72686, gb72686⟩ := okV_r ov72685
            have gb72686 : tag b72686 = 33 := tg_of gb72686
            refine lv_iload hx hb dX13_findsOrders_110 (lv_at hl 5 rfl) ?_
            refine t_ild X hT mb72686 gb72686 rfl (by omega) dX13_findsOrders_112 (fun z72687 vz72687 rz72687 => ?_)
            have rz72687 : (-2147483648) ≤ z72687.toInt ∧ z72687.toInt ≤ 2147483647 := rz72687
            refine lv_bipush (v := (-2)) hx hb dX13_findsOrders_113 (by decide) ?_
            refine lv_icmp_eq (tgt := 135) hx hb dX13_findsOrders_115 (by decide) (fun c72688 => ?_) (fun c72688 => ?_)
            · have w72689 := cv_eq (rfl : z72687.toInt = z72687.toInt) (by decide : ((-2) : Int32).toInt = (-2)) c72688
              exact K135 z72682 z72683 z72684 _ _ _ _ (by omega) (by omega) (by omega) hT hfr pf0 pf1 qz72683 qz72684 hcar (lv_sub hl [0, 1, 2, 3, 4, 5] rfl)
            · have w72690 := cv_ne (rfl : z72687.toInt = z72687.toInt) (by decide : ((-2) : Int32).toInt = (-2)) c72688
              refine lv_aload_n hx hb dX13_findsOrders_118 rfl (lv_at hl 0 rfl) ?_
              refine t_get (C := RX13) (T := TX13) (N := 37) X hT m0 g0 rfl rfl 33 (by decide) qw_124 inlX13 rfl dX13_findsOrders_119 (fun v72691 hv72691 ov72691 => ?_)
              obtain ⟨b72692, rfl, mb72692, gb72692⟩ := okV_r ov72691
              have gb72692 : tag b72692 = 33 := tg_of gb72692
              refine lv_iload hx hb dX13_findsOrders_122 (lv_at hl 4 rfl) ?_
              refine t_ild X hT mb72692 gb72692 rfl (by omega) dX13_findsOrders_124 (fun z72693 vz72693 rz72693 => ?_)
              have rz72693 : (-2147483648) ≤ z72693.toInt ∧ z72693.toInt ≤ 2147483647 := rz72693
              refine lv_aload_n hx hb dX13_findsOrders_125 rfl (lv_at hl 0 rfl) ?_
              refine t_get (C := RX13) (T := TX13) (N := 37) X hT m0 g0 rfl rfl 30 (by decide) qw_121 inlX13 rfl dX13_findsOrders_126 (fun v72694 hv72694 ov72694 => ?_)
              obtain rfl : v72694 = .ref b72686 := hv72694.symm.trans hv72685
              refine lv_iload hx hb dX13_findsOrders_129 (lv_at hl 5 rfl) ?_
              refine t_ild X hT mb72686 gb72686 rfl (by omega) dX13_findsOrders_131 (fun z72695 vz72695 rz72695 => ?_)
              obtain rfl : z72687 = z72695 := vz72687.symm.trans vz72695
              refine lv_icmp_ge (tgt := 149) hx hb dX13_findsOrders_132 (by decide) (fun c72696 => ?_) (fun c72696 => ?_)
              · have w72697 := cv_le (rfl : z72687.toInt = z72687.toInt) (rfl : z72693.toInt = z72693.toInt) c72696
                exact K149 z72682 z72683 z72684 _ _ _ _ (by omega) (by omega) (by omega) hT hfr pf0 pf1 qz72683 qz72684 hcar (lv_sub hl [0, 1, 2, 3, 4, 5] rfl)
              · have w72698 := cv_nle (rfl : z72687.toInt = z72687.toInt) (rfl : z72693.toInt = z72693.toInt) c72696
                exact K135 z72682 z72683 z72684 _ _ _ _ (by omega) (by omega) (by omega) hT hfr pf0 pf1 qz72683 qz72684 hcar (lv_sub hl [0, 1, 2, 3, 4, 5] rfl)
          refine lv_iload hx hb dX13_findsOrders_68 (lv_at hl 4 rfl) ?_
          refine lv_aload_n hx hb dX13_findsOrders_70 rfl (lv_at hl 0 rfl) ?_
          refine t_get (C := RX13) (T := TX13) (N := 37) X hT m0 g0 rfl rfl 3 (by decide) qw_481 inlX13 rfl dX13_findsOrders_71 (fun v72699 hv72699 ov72699 => ?_)
          obtain rfl : v72699 = .ref x0 := hv72699.symm.trans pf0
          refine t_getN (C := RX12) (T := TX12) (N := 31) X hT mx0 gx0 rfl rfl 10 (by decide) (List.mem_of_getElem? (i := 14) rfl) inlX12 rfl dX13_findsOrders_74 (fun v72700 hv72700 ov72700 => ?_)
          obtain ⟨z72701, rfl, rz72701⟩ := okV_i ov72700
          refine lv_icmp_ge (tgt := 216) hx hb dX13_findsOrders_77 (by decide) (fun c72702 => ?_) (fun c72702 => ?_)
          · have w72703 := cv_le (rfl : z72701.toInt = z72701.toInt) (rfl : z72629.toInt = z72629.toInt) c72702
            refine lv_aload_n hx hb dX13_findsOrders_216 rfl (lv_at hl 0 rfl) ?_
            refine lv_dup hx hb dX13_findsOrders_217 rfl ?_
            refine t_get (C := RX13) (T := TX13) (N := 37) X hT m0 g0 rfl rfl 36 (by decide) qw_1361 inlX13 rfl dX13_findsOrders_218 (fun v72704 hv72704 ov72704 => ?_)
            obtain rfl : v72704 = .int z72630 := hv72704.symm.trans qz72630
            refine lv_iconst (v := 1) hx hb dX13_findsOrders_221 (by decide) ?_
            refine lv_iadd hx hb dX13_findsOrders_222 ?_
            refine lv_topi (fun z72705 ez72705 => ?_)
            have rz72705 := rg_all z72705
            refine t_put (C := RX13) (T := TX13) (N := 37) (v := .int z72705) X hT m0 g0 rfl tyX13 tyX13_ok nmX13 rfl 36 (by decide) qw_1361 inlX13 rfl (by first | rfl | decide) (by first | rfl | decide) rfl (⟨_, rfl, (show (-2147483648) ≤ (z72705 : Int32).toInt from (by omega)), (show (z72705 : Int32).toInt ≤ 2147483647 from (by omega))⟩) dX13_findsOrders_223 (fun F H locs hT v72706 h1v72706 h2v72706 => ?_)
            have pf0 := (h1v72706 _ _ (Or.inr (by decide))).trans pf0
            have pf1 := (h1v72706 _ _ (Or.inr (by decide))).trans pf1
            have hv72700 := (h1v72706 _ _ (Or.inr (by decide))).trans hv72700
            have hfr : (∀ b j : Nat, (tag b ≠ 46 ∨ j ≠ 36) → fld F b j = fld Fo b j) ∧ (∀ b j : Nat, tag b ≠ 33 → tag b ≠ 43 → elm F b j = elm Fo b j) := ⟨fun b j n46_36 => (h1v72706 b j (fr_ne g0 n46_36)).trans (hfr.1 b j n46_36), fun b j a33 a43 => (h2v72706 b j).trans (hfr.2 b j a33 a43)⟩
            have hcar := car_of (fun j => h2v72706 _ j) hcar
            exact K226 z72705 _ _ _ _  hT hfr pf0 pf1 v72706 hcar (lv_sub hl [0, 1, 2] rfl)
          · have w72707 := cv_nle (rfl : z72701.toInt = z72701.toInt) (rfl : z72629.toInt = z72629.toInt) c72702
            refine lv_aload_n hx hb dX13_findsOrders_80 rfl (lv_at hl 0 rfl) ?_
            refine t_get (C := RX13) (T := TX13) (N := 37) X hT m0 g0 rfl rfl 29 (by decide) qw_120 inlX13 rfl dX13_findsOrders_81 (fun v72708 hv72708 ov72708 => ?_)
            obtain rfl : v72708 = .ref x1 := hv72708.symm.trans pf1
            refine lv_iload hx hb dX13_findsOrders_84 (lv_at hl 4 rfl) ?_
            refine t_ild X hT mx1 gx1 rfl (by omega) dX13_findsOrders_86 (fun z72709 vz72709 rz72709 => ?_)
            have rz72709 : 0 ≤ z72709.toInt ∧ z72709.toInt ≤ 5 := rz72709
            refine lv_istore (lv' := [(5, .int z72709), (0, .ref p0), (1, .int p1), (2, .int z72615), (3, .int z72628), (4, .int z72629)]) hx hb dX13_findsOrders_87 hl (by decide) rfl (fun ls hl => ?_)
            refine lv_aload_n hx hb dX13_findsOrders_89 rfl (lv_at hl 1 rfl) ?_
            refine t_get (C := RX13) (T := TX13) (N := 37) X hT m0 g0 rfl rfl 36 (by decide) qw_1361 inlX13 rfl dX13_findsOrders_90 (fun v72710 hv72710 ov72710 => ?_)
            obtain rfl : v72710 = .int z72630 := hv72710.symm.trans qz72630
            refine lv_iload_n hx hb dX13_findsOrders_93 rfl (lv_at hl 2 rfl) ?_
            refine lv_icmp_ne (tgt := 106) hx hb dX13_findsOrders_94 (by decide) (fun c72711 => ?_) (fun c72711 => ?_)
            · have w72712 := cv_ne (rfl : z72630.toInt = z72630.toInt) (rfl : p1.toInt = p1.toInt) c72711
              exact K106 z72709 z72630 z72701 _ _ _ _ (by omega) (by omega) (by omega) hT hfr pf0 pf1 qz72630 hv72700 hcar (lv_sub hl [1, 2, 3, 4, 5, 0] rfl)
            · have w72713 := cv_eq (rfl : z72630.toInt = z72630.toInt) (rfl : p1.toInt = p1.toInt) c72711
              refine lv_aload_n hx hb dX13_findsOrders_97 rfl (lv_at hl 1 rfl) ?_
              refine t_get (C := RX13) (T := TX13) (N := 37) X hT m0 g0 rfl rfl 35 (by decide) qw_126 inlX13 rfl dX13_findsOrders_98 (fun v72714 hv72714 ov72714 => ?_)
              obtain ⟨b72715, rfl, mb72715, gb72715⟩ := okV_r ov72714
              have gb72715 : tag b72715 = 33 := tg_of gb72715
              refine lv_iload hx hb dX13_findsOrders_101 (lv_at hl 5 rfl) ?_
              refine lv_iload hx hb dX13_findsOrders_103 (lv_at hl 0 rfl) ?_
              refine t_ist X hT mb72715 gb72715 rfl (by omega) (show (-2147483648) ≤ (z72709 : Int32).toInt ∧ (z72709 : Int32).toInt ≤ 2147483647 from (rg_all _)) dX13_findsOrders_105 (fun F H locs hT v72716 h1v72716 h2v72716 => ?_)
              have qz72630 := (h2v72716 _ _).trans qz72630
              have pf0 := (h2v72716 _ _).trans pf0
              have pf1 := (h2v72716 _ _).trans pf1
              have hv72700 := (h2v72716 _ _).trans hv72700
              have vz72709 := (h1v72716 _ _ (Or.inl (tne gx1 gb72715 (by decide)))).trans vz72709
              have hv72714 := (h2v72716 _ _).trans hv72714
              have hfr : (∀ b j : Nat, (tag b ≠ 46 ∨ j ≠ 36) → fld F b j = fld Fo b j) ∧ (∀ b j : Nat, tag b ≠ 33 → tag b ≠ 43 → elm F b j = elm Fo b j) := ⟨fun b j n46_36 => (h2v72716 b j).trans (hfr.1 b j n46_36), fun b j a33 a43 => (h1v72716 b j (Or.inl (at_ne gb72715 a33))).trans (hfr.2 b j a33 a43)⟩
              have hcar := car_of (fun j => h1v72716 _ j (Or.inl (tne gx1 gb72715 (by decide)))) hcar
              exact K106 z72709 z72630 z72701 _ _ _ _ (by omega) (by omega) (by omega) hT hfr pf0 pf1 qz72630 hv72700 hcar (lv_sub hl [1, 2, 3, 4, 5, 0] rfl)
      refine lv_aload_n hx hb dX13_findsOrders_56 rfl (lv_at hl 0 rfl) ?_
      refine t_cVi (n := 0) (C := RX13) (T := TX13) (N := 37) (As := []) (rest := []) X hT (km224_X13_canBe l G tag L F hT.2.2.2 p0 x0 m0 g0 mx0 gx0 pf0) m0 g0 rfl rfl qw_1366 qw_1367 qw_1368 qw_5 qw_1369 ⟨rfl, by decide +kernel, by decide +kernel, by decide +kernel⟩ ⟨Nat.le_of_ble_eq_true rfl, Nat.le_of_ble_eq_true rfl⟩ hl rfl rfl (Nat.le_of_ble_eq_true rfl) dX13_findsOrders_57 ⟨Nat.le_of_ble_eq_true rfl, Nat.le_of_ble_eq_true rfl⟩ (fun z72717 F H locs hT hz72717 => ?_)
      obtain ⟨hz72717, yz72717⟩ := hz72717
      have qz72616 := (yz72717.1 _ 36 ).trans qz72616
      have pf0 := (yz72717.1 _ 3 ).trans pf0
      have pf1 := (yz72717.1 _ 29 ).trans pf1
      have hfr : (∀ b j : Nat, (tag b ≠ 46 ∨ j ≠ 36) → fld F b j = fld Fo b j) ∧ (∀ b j : Nat, tag b ≠ 33 → tag b ≠ 43 → elm F b j = elm Fo b j) := ⟨fun b j n46_36 => (yz72717.1 b j ).trans (hfr.1 b j n46_36), fun b j a33 a43 => (yz72717.2 b j a33).trans (hfr.2 b j a33 a43)⟩
      have hcar := car_of (fun j => yz72717.2 _ j (by rw [gx1]; decide)) hcar
      refine lv_if_eq (tgt := 226) hx hb dX13_findsOrders_60 (by decide) (fun c72718 => ?_) (fun c72718 => ?_)
      · have w72719 := cv_eq (rfl : z72717.toInt = z72717.toInt) (by decide : (0 : Int32).toInt = 0) c72718
        exact K226 z72616 _ _ _ _  hT hfr pf0 pf1 qz72616 hcar (lv_sub hl [0, 1, 2] rfl)
      · have w72720 := cv_ne (rfl : z72717.toInt = z72717.toInt) (by decide : (0 : Int32).toInt = 0) c72718
        refine lv_iconst (v := 0) hx hb dX13_findsOrders_63 (by decide) ?_
        refine lv_istore_n (lv' := [(3, .int 0), (0, .ref p0), (1, .int p1), (2, .int z72615)]) hx hb dX13_findsOrders_64 rfl hl (by decide) rfl (fun ls hl => ?_)
        refine lv_iconst (v := 0) hx hb dX13_findsOrders_65 (by decide) ?_
        refine lv_istore (lv' := [(4, .int 0), (3, .int 0), (0, .ref p0), (1, .int p1), (2, .int z72615)]) hx hb dX13_findsOrders_66 hl (by decide) rfl (fun ls hl => ?_)
        have k72721 : (0 : Int32).toInt = 0 := by decide
        have k72722 : (0 : Int32).toInt = 0 := by decide
        exact K68 7 0 0 z72616 _ _ _ _ (by omega) (by decide) (by decide) hT hfr pf0 pf1 qz72616 hcar (lv_sub hl [2, 3, 4, 1, 0] rfl)
  refine lv_aload_n hx hb dX13_findsOrders_0 rfl (lv_at hl 0 rfl) ?_
  refine lv_iconst (v := 0) hx hb dX13_findsOrders_1 (by decide) ?_
  refine t_put (C := RX13) (T := TX13) (N := 37) (v := .int 0) X hT m0 g0 rfl tyX13 tyX13_ok nmX13 rfl 36 (by decide) qw_1361 inlX13 rfl (by first | rfl | decide) (by first | rfl | decide) rfl (⟨_, rfl, (show (-2147483648) ≤ (0 : Int32).toInt from (by decide)), (show (0 : Int32).toInt ≤ 2147483647 from (by decide))⟩) dX13_findsOrders_2 (fun F H locs hT v72723 h1v72723 h2v72723 => ?_)
  have pf0 := (h1v72723 _ _ (Or.inr (by decide))).trans pf0
  have pf1 := (h1v72723 _ _ (Or.inr (by decide))).trans pf1
  have hfr : (∀ b j : Nat, (tag b ≠ 46 ∨ j ≠ 36) → fld F b j = fld Fo b j) ∧ (∀ b j : Nat, tag b ≠ 33 → tag b ≠ 43 → elm F b j = elm Fo b j) := ⟨fun b j n46_36 => (h1v72723 b j (fr_ne g0 n46_36)).trans (hfr.1 b j n46_36), fun b j a33 a43 => (h2v72723 b j).trans (hfr.2 b j a33 a43)⟩
  refine lv_iconst (v := 0) hx hb dX13_findsOrders_5 (by decide) ?_
  refine lv_istore_n (lv' := [(2, .int 0), (0, .ref p0), (1, .int p1)]) hx hb dX13_findsOrders_6 rfl hl (by decide) rfl (fun ls hl => ?_)
  refine lv_iload_n hx hb dX13_findsOrders_7 rfl (lv_at hl 0 rfl) ?_
  refine lv_bipush (v := 6) hx hb dX13_findsOrders_8 (by decide) ?_
  refine lv_icmp_ge (tgt := 50) hx hb dX13_findsOrders_10 (by decide) (fun c9 => absurd c9 (by decide)) (fun _ => ?_)
  refine lv_aload_n hx hb dX13_findsOrders_13 rfl (lv_at hl 1 rfl) ?_
  refine t_get (C := RX13) (T := TX13) (N := 37) X hT m0 g0 rfl rfl 29 (by decide) qw_120 inlX13 rfl dX13_findsOrders_14 (fun v72724 hv72724 ov72724 => ?_)
  obtain rfl : v72724 = .ref x1 := hv72724.symm.trans pf1
  refine lv_iload_n hx hb dX13_findsOrders_17 rfl (lv_at hl 0 rfl) ?_
  refine lv_iload_n hx hb dX13_findsOrders_18 rfl (lv_at hl 0 rfl) ?_
  refine t_ist X hT mx1 gx1 rfl (by decide) (show 0 ≤ (0 : Int32).toInt ∧ (0 : Int32).toInt ≤ 5 from (by decide)) dX13_findsOrders_19 (fun F H locs hT v72725 h1v72725 h2v72725 => ?_)
  have pf0 := (h2v72725 _ _).trans pf0
  have pf1 := (h2v72725 _ _).trans pf1
  have v72723 := (h2v72725 _ _).trans v72723
  have hfr : (∀ b j : Nat, (tag b ≠ 46 ∨ j ≠ 36) → fld F b j = fld Fo b j) ∧ (∀ b j : Nat, tag b ≠ 33 → tag b ≠ 43 → elm F b j = elm Fo b j) := ⟨fun b j n46_36 => (h2v72725 b j).trans (hfr.1 b j n46_36), fun b j a33 a43 => (h1v72725 b j (Or.inl (at_ne gx1 a43))).trans (hfr.2 b j a33 a43)⟩
  refine lv_aload_n hx hb dX13_findsOrders_20 rfl (lv_at hl 1 rfl) ?_
  refine t_get (C := RX13) (T := TX13) (N := 37) X hT m0 g0 rfl rfl 30 (by decide) qw_121 inlX13 rfl dX13_findsOrders_21 (fun v72726 hv72726 ov72726 => ?_)
  obtain ⟨b72727, rfl, mb72727, gb72727⟩ := okV_r ov72726
  have gb72727 : tag b72727 = 33 := tg_of gb72727
  refine lv_iload_n hx hb dX13_findsOrders_24 rfl (lv_at hl 0 rfl) ?_
  refine lv_bipush (v := (-2)) hx hb dX13_findsOrders_25 (by decide) ?_
  refine t_ist X hT mb72727 gb72727 rfl (by decide) (show (-2147483648) ≤ ((-2) : Int32).toInt ∧ ((-2) : Int32).toInt ≤ 2147483647 from (rg_all _)) dX13_findsOrders_27 (fun F H locs hT v72728 h1v72728 h2v72728 => ?_)
  have pf0 := (h2v72728 _ _).trans pf0
  have pf1 := (h2v72728 _ _).trans pf1
  have v72723 := (h2v72728 _ _).trans v72723
  have v72725 := (h1v72728 _ _ (Or.inl (tne gx1 gb72727 (by decide)))).trans v72725
  have hv72726 := (h2v72728 _ _).trans hv72726
  have hfr : (∀ b j : Nat, (tag b ≠ 46 ∨ j ≠ 36) → fld F b j = fld Fo b j) ∧ (∀ b j : Nat, tag b ≠ 33 → tag b ≠ 43 → elm F b j = elm Fo b j) := ⟨fun b j n46_36 => (h2v72728 b j).trans (hfr.1 b j n46_36), fun b j a33 a43 => (h1v72728 b j (Or.inl (at_ne gb72727 a33))).trans (hfr.2 b j a33 a43)⟩
  refine lv_aload_n hx hb dX13_findsOrders_28 rfl (lv_at hl 1 rfl) ?_
  refine t_get (C := RX13) (T := TX13) (N := 37) X hT m0 g0 rfl rfl 31 (by decide) qw_122 inlX13 rfl dX13_findsOrders_29 (fun v72729 hv72729 ov72729 => ?_)
  obtain ⟨b72730, rfl, mb72730, gb72730⟩ := okV_r ov72729
  have gb72730 : tag b72730 = 33 := tg_of gb72730
  refine lv_iload_n hx hb dX13_findsOrders_32 rfl (lv_at hl 0 rfl) ?_
  refine lv_bipush (v := (-2)) hx hb dX13_findsOrders_33 (by decide) ?_
  refine t_ist X hT mb72730 gb72730 rfl (by decide) (show (-2147483648) ≤ ((-2) : Int32).toInt ∧ ((-2) : Int32).toInt ≤ 2147483647 from (rg_all _)) dX13_findsOrders_35 (fun F H locs hT v72731 h1v72731 h2v72731 => ?_)
  have pf0 := (h2v72731 _ _).trans pf0
  have pf1 := (h2v72731 _ _).trans pf1
  have v72723 := (h2v72731 _ _).trans v72723
  have v72725 := (h1v72731 _ _ (Or.inl (tne gx1 gb72730 (by decide)))).trans v72725
  have hv72726 := (h2v72731 _ _).trans hv72726
  have hv72729 := (h2v72731 _ _).trans hv72729
  have hfr : (∀ b j : Nat, (tag b ≠ 46 ∨ j ≠ 36) → fld F b j = fld Fo b j) ∧ (∀ b j : Nat, tag b ≠ 33 → tag b ≠ 43 → elm F b j = elm Fo b j) := ⟨fun b j n46_36 => (h2v72731 b j).trans (hfr.1 b j n46_36), fun b j a33 a43 => (h1v72731 b j (Or.inl (at_ne gb72730 a33))).trans (hfr.2 b j a33 a43)⟩
  refine lv_aload_n hx hb dX13_findsOrders_36 rfl (lv_at hl 1 rfl) ?_
  refine t_get (C := RX13) (T := TX13) (N := 37) X hT m0 g0 rfl rfl 32 (by decide) qw_123 inlX13 rfl dX13_findsOrders_37 (fun v72732 hv72732 ov72732 => ?_)
  obtain ⟨b72733, rfl, mb72733, gb72733⟩ := okV_r ov72732
  have gb72733 : tag b72733 = 33 := tg_of gb72733
  refine lv_iload_n hx hb dX13_findsOrders_40 rfl (lv_at hl 0 rfl) ?_
  refine lv_bipush (v := 63) hx hb dX13_findsOrders_41 (by decide) ?_
  refine t_ist X hT mb72733 gb72733 rfl (by decide) (show (-2147483648) ≤ (63 : Int32).toInt ∧ (63 : Int32).toInt ≤ 2147483647 from (rg_all _)) dX13_findsOrders_43 (fun F H locs hT v72734 h1v72734 h2v72734 => ?_)
  have pf0 := (h2v72734 _ _).trans pf0
  have pf1 := (h2v72734 _ _).trans pf1
  have v72723 := (h2v72734 _ _).trans v72723
  have v72725 := (h1v72734 _ _ (Or.inl (tne gx1 gb72733 (by decide)))).trans v72725
  have hv72726 := (h2v72734 _ _).trans hv72726
  have hv72729 := (h2v72734 _ _).trans hv72729
  have hv72732 := (h2v72734 _ _).trans hv72732
  have hfr : (∀ b j : Nat, (tag b ≠ 46 ∨ j ≠ 36) → fld F b j = fld Fo b j) ∧ (∀ b j : Nat, tag b ≠ 33 → tag b ≠ 43 → elm F b j = elm Fo b j) := ⟨fun b j n46_36 => (h2v72734 b j).trans (hfr.1 b j n46_36), fun b j a33 a43 => (h1v72734 b j (Or.inl (at_ne gb72733 a33))).trans (hfr.2 b j a33 a43)⟩
  refine lv_iinc (v := 1) (lv' := [(2, .int 1), (0, .ref p0), (1, .int p1)]) hx hb dX13_findsOrders_44 hl (k := 0) rfl (by decide) (by decide) rfl (fun ls hl => ?_)
  refine lv_goto (tgt := 7) hx hb dX13_findsOrders_47 (by decide) ?_
  refine lv_iload_n hx hb dX13_findsOrders_7 rfl (lv_at hl 0 rfl) ?_
  refine lv_bipush (v := 6) hx hb dX13_findsOrders_8 (by decide) ?_
  refine lv_icmp_ge (tgt := 50) hx hb dX13_findsOrders_10 (by decide) (fun c9 => absurd c9 (by decide)) (fun _ => ?_)
  refine lv_aload_n hx hb dX13_findsOrders_13 rfl (lv_at hl 1 rfl) ?_
  refine t_get (C := RX13) (T := TX13) (N := 37) X hT m0 g0 rfl rfl 29 (by decide) qw_120 inlX13 rfl dX13_findsOrders_14 (fun v72735 hv72735 ov72735 => ?_)
  obtain rfl : v72735 = .ref x1 := hv72735.symm.trans pf1
  refine lv_iload_n hx hb dX13_findsOrders_17 rfl (lv_at hl 0 rfl) ?_
  refine lv_iload_n hx hb dX13_findsOrders_18 rfl (lv_at hl 0 rfl) ?_
  refine t_ist X hT mx1 gx1 rfl (by decide) (show 0 ≤ (1 : Int32).toInt ∧ (1 : Int32).toInt ≤ 5 from (by decide)) dX13_findsOrders_19 (fun F H locs hT v72736 h1v72736 h2v72736 => ?_)
  have pf0 := (h2v72736 _ _).trans pf0
  have pf1 := (h2v72736 _ _).trans pf1
  have v72723 := (h2v72736 _ _).trans v72723
  have k72737 : (1 : Int32).toInt = 1 := by decide
  have k72738 : (0 : Int32).toInt = 0 := by decide
  have v72725 := (h1v72736 _ _ (Or.inr (ine (by omega) (by omega) (by omega)))).trans v72725
  have hv72726 := (h2v72736 _ _).trans hv72726
  have hv72729 := (h2v72736 _ _).trans hv72729
  have hv72732 := (h2v72736 _ _).trans hv72732
  have v72734 := (h1v72736 _ _ (Or.inl (tne gb72733 gx1 (by decide)))).trans v72734
  have hfr : (∀ b j : Nat, (tag b ≠ 46 ∨ j ≠ 36) → fld F b j = fld Fo b j) ∧ (∀ b j : Nat, tag b ≠ 33 → tag b ≠ 43 → elm F b j = elm Fo b j) := ⟨fun b j n46_36 => (h2v72736 b j).trans (hfr.1 b j n46_36), fun b j a33 a43 => (h1v72736 b j (Or.inl (at_ne gx1 a43))).trans (hfr.2 b j a33 a43)⟩
  refine lv_aload_n hx hb dX13_findsOrders_20 rfl (lv_at hl 1 rfl) ?_
  refine t_get (C := RX13) (T := TX13) (N := 37) X hT m0 g0 rfl rfl 30 (by decide) qw_121 inlX13 rfl dX13_findsOrders_21 (fun v72739 hv72739 ov72739 => ?_)
  obtain rfl : v72739 = .ref b72727 := hv72739.symm.trans hv72726
  refine lv_iload_n hx hb dX13_findsOrders_24 rfl (lv_at hl 0 rfl) ?_
  refine lv_bipush (v := (-2)) hx hb dX13_findsOrders_25 (by decide) ?_
  refine t_ist X hT mb72727 gb72727 rfl (by decide) (show (-2147483648) ≤ ((-2) : Int32).toInt ∧ ((-2) : Int32).toInt ≤ 2147483647 from (rg_all _)) dX13_findsOrders_27 (fun F H locs hT v72740 h1v72740 h2v72740 => ?_)
  have pf0 := (h2v72740 _ _).trans pf0
  have pf1 := (h2v72740 _ _).trans pf1
  have v72723 := (h2v72740 _ _).trans v72723
  have v72725 := (h1v72740 _ _ (Or.inl (tne gx1 gb72727 (by decide)))).trans v72725
  have hv72726 := (h2v72740 _ _).trans hv72726
  have hv72729 := (h2v72740 _ _).trans hv72729
  have hv72732 := (h2v72740 _ _).trans hv72732
  have k72741 : (1 : Int32).toInt = 1 := by decide
  have k72742 : (0 : Int32).toInt = 0 := by decide
  have v72734 := (h1v72740 _ _ (Or.inr (ine (by omega) (by omega) (by omega)))).trans v72734
  have v72736 := (h1v72740 _ _ (Or.inl (tne gx1 gb72727 (by decide)))).trans v72736
  have hfr : (∀ b j : Nat, (tag b ≠ 46 ∨ j ≠ 36) → fld F b j = fld Fo b j) ∧ (∀ b j : Nat, tag b ≠ 33 → tag b ≠ 43 → elm F b j = elm Fo b j) := ⟨fun b j n46_36 => (h2v72740 b j).trans (hfr.1 b j n46_36), fun b j a33 a43 => (h1v72740 b j (Or.inl (at_ne gb72727 a33))).trans (hfr.2 b j a33 a43)⟩
  refine lv_aload_n hx hb dX13_findsOrders_28 rfl (lv_at hl 1 rfl) ?_
  refine t_get (C := RX13) (T := TX13) (N := 37) X hT m0 g0 rfl rfl 31 (by decide) qw_122 inlX13 rfl dX13_findsOrders_29 (fun v72743 hv72743 ov72743 => ?_)
  obtain rfl : v72743 = .ref b72730 := hv72743.symm.trans hv72729
  refine lv_iload_n hx hb dX13_findsOrders_32 rfl (lv_at hl 0 rfl) ?_
  refine lv_bipush (v := (-2)) hx hb dX13_findsOrders_33 (by decide) ?_
  refine t_ist X hT mb72730 gb72730 rfl (by decide) (show (-2147483648) ≤ ((-2) : Int32).toInt ∧ ((-2) : Int32).toInt ≤ 2147483647 from (rg_all _)) dX13_findsOrders_35 (fun F H locs hT v72744 h1v72744 h2v72744 => ?_)
  have pf0 := (h2v72744 _ _).trans pf0
  have pf1 := (h2v72744 _ _).trans pf1
  have v72723 := (h2v72744 _ _).trans v72723
  have v72725 := (h1v72744 _ _ (Or.inl (tne gx1 gb72730 (by decide)))).trans v72725
  have hv72726 := (h2v72744 _ _).trans hv72726
  have hv72729 := (h2v72744 _ _).trans hv72729
  have hv72732 := (h2v72744 _ _).trans hv72732
  have k72745 : (1 : Int32).toInt = 1 := by decide
  have k72746 : (0 : Int32).toInt = 0 := by decide
  have v72734 := (h1v72744 _ _ (Or.inr (ine (by omega) (by omega) (by omega)))).trans v72734
  have v72736 := (h1v72744 _ _ (Or.inl (tne gx1 gb72730 (by decide)))).trans v72736
  have hfr : (∀ b j : Nat, (tag b ≠ 46 ∨ j ≠ 36) → fld F b j = fld Fo b j) ∧ (∀ b j : Nat, tag b ≠ 33 → tag b ≠ 43 → elm F b j = elm Fo b j) := ⟨fun b j n46_36 => (h2v72744 b j).trans (hfr.1 b j n46_36), fun b j a33 a43 => (h1v72744 b j (Or.inl (at_ne gb72730 a33))).trans (hfr.2 b j a33 a43)⟩
  refine lv_aload_n hx hb dX13_findsOrders_36 rfl (lv_at hl 1 rfl) ?_
  refine t_get (C := RX13) (T := TX13) (N := 37) X hT m0 g0 rfl rfl 32 (by decide) qw_123 inlX13 rfl dX13_findsOrders_37 (fun v72747 hv72747 ov72747 => ?_)
  obtain rfl : v72747 = .ref b72733 := hv72747.symm.trans hv72732
  refine lv_iload_n hx hb dX13_findsOrders_40 rfl (lv_at hl 0 rfl) ?_
  refine lv_bipush (v := 63) hx hb dX13_findsOrders_41 (by decide) ?_
  refine t_ist X hT mb72733 gb72733 rfl (by decide) (show (-2147483648) ≤ (63 : Int32).toInt ∧ (63 : Int32).toInt ≤ 2147483647 from (rg_all _)) dX13_findsOrders_43 (fun F H locs hT v72748 h1v72748 h2v72748 => ?_)
  have pf0 := (h2v72748 _ _).trans pf0
  have pf1 := (h2v72748 _ _).trans pf1
  have v72723 := (h2v72748 _ _).trans v72723
  have v72725 := (h1v72748 _ _ (Or.inl (tne gx1 gb72733 (by decide)))).trans v72725
  have hv72726 := (h2v72748 _ _).trans hv72726
  have hv72729 := (h2v72748 _ _).trans hv72729
  have hv72732 := (h2v72748 _ _).trans hv72732
  have k72749 : (1 : Int32).toInt = 1 := by decide
  have k72750 : (0 : Int32).toInt = 0 := by decide
  have v72734 := (h1v72748 _ _ (Or.inr (ine (by omega) (by omega) (by omega)))).trans v72734
  have v72736 := (h1v72748 _ _ (Or.inl (tne gx1 gb72733 (by decide)))).trans v72736
  have hfr : (∀ b j : Nat, (tag b ≠ 46 ∨ j ≠ 36) → fld F b j = fld Fo b j) ∧ (∀ b j : Nat, tag b ≠ 33 → tag b ≠ 43 → elm F b j = elm Fo b j) := ⟨fun b j n46_36 => (h2v72748 b j).trans (hfr.1 b j n46_36), fun b j a33 a43 => (h1v72748 b j (Or.inl (at_ne gb72733 a33))).trans (hfr.2 b j a33 a43)⟩
  refine lv_iinc (v := 2) (lv' := [(2, .int 2), (0, .ref p0), (1, .int p1)]) hx hb dX13_findsOrders_44 hl (k := 0) rfl (by decide) (by decide) rfl (fun ls hl => ?_)
  refine lv_goto (tgt := 7) hx hb dX13_findsOrders_47 (by decide) ?_
  refine lv_iload_n hx hb dX13_findsOrders_7 rfl (lv_at hl 0 rfl) ?_
  refine lv_bipush (v := 6) hx hb dX13_findsOrders_8 (by decide) ?_
  refine lv_icmp_ge (tgt := 50) hx hb dX13_findsOrders_10 (by decide) (fun c9 => absurd c9 (by decide)) (fun _ => ?_)
  refine lv_aload_n hx hb dX13_findsOrders_13 rfl (lv_at hl 1 rfl) ?_
  refine t_get (C := RX13) (T := TX13) (N := 37) X hT m0 g0 rfl rfl 29 (by decide) qw_120 inlX13 rfl dX13_findsOrders_14 (fun v72751 hv72751 ov72751 => ?_)
  obtain rfl : v72751 = .ref x1 := hv72751.symm.trans pf1
  refine lv_iload_n hx hb dX13_findsOrders_17 rfl (lv_at hl 0 rfl) ?_
  refine lv_iload_n hx hb dX13_findsOrders_18 rfl (lv_at hl 0 rfl) ?_
  refine t_ist X hT mx1 gx1 rfl (by decide) (show 0 ≤ (2 : Int32).toInt ∧ (2 : Int32).toInt ≤ 5 from (by decide)) dX13_findsOrders_19 (fun F H locs hT v72752 h1v72752 h2v72752 => ?_)
  have pf0 := (h2v72752 _ _).trans pf0
  have pf1 := (h2v72752 _ _).trans pf1
  have v72723 := (h2v72752 _ _).trans v72723
  have k72753 : (2 : Int32).toInt = 2 := by decide
  have k72754 : (0 : Int32).toInt = 0 := by decide
  have v72725 := (h1v72752 _ _ (Or.inr (ine (by omega) (by omega) (by omega)))).trans v72725
  have hv72726 := (h2v72752 _ _).trans hv72726
  have hv72729 := (h2v72752 _ _).trans hv72729
  have hv72732 := (h2v72752 _ _).trans hv72732
  have v72734 := (h1v72752 _ _ (Or.inl (tne gb72733 gx1 (by decide)))).trans v72734
  have k72755 : (2 : Int32).toInt = 2 := by decide
  have k72756 : (1 : Int32).toInt = 1 := by decide
  have v72736 := (h1v72752 _ _ (Or.inr (ine (by omega) (by omega) (by omega)))).trans v72736
  have v72748 := (h1v72752 _ _ (Or.inl (tne gb72733 gx1 (by decide)))).trans v72748
  have hfr : (∀ b j : Nat, (tag b ≠ 46 ∨ j ≠ 36) → fld F b j = fld Fo b j) ∧ (∀ b j : Nat, tag b ≠ 33 → tag b ≠ 43 → elm F b j = elm Fo b j) := ⟨fun b j n46_36 => (h2v72752 b j).trans (hfr.1 b j n46_36), fun b j a33 a43 => (h1v72752 b j (Or.inl (at_ne gx1 a43))).trans (hfr.2 b j a33 a43)⟩
  refine lv_aload_n hx hb dX13_findsOrders_20 rfl (lv_at hl 1 rfl) ?_
  refine t_get (C := RX13) (T := TX13) (N := 37) X hT m0 g0 rfl rfl 30 (by decide) qw_121 inlX13 rfl dX13_findsOrders_21 (fun v72757 hv72757 ov72757 => ?_)
  obtain rfl : v72757 = .ref b72727 := hv72757.symm.trans hv72726
  refine lv_iload_n hx hb dX13_findsOrders_24 rfl (lv_at hl 0 rfl) ?_
  refine lv_bipush (v := (-2)) hx hb dX13_findsOrders_25 (by decide) ?_
  refine t_ist X hT mb72727 gb72727 rfl (by decide) (show (-2147483648) ≤ ((-2) : Int32).toInt ∧ ((-2) : Int32).toInt ≤ 2147483647 from (rg_all _)) dX13_findsOrders_27 (fun F H locs hT v72758 h1v72758 h2v72758 => ?_)
  have pf0 := (h2v72758 _ _).trans pf0
  have pf1 := (h2v72758 _ _).trans pf1
  have v72723 := (h2v72758 _ _).trans v72723
  have v72725 := (h1v72758 _ _ (Or.inl (tne gx1 gb72727 (by decide)))).trans v72725
  have hv72726 := (h2v72758 _ _).trans hv72726
  have hv72729 := (h2v72758 _ _).trans hv72729
  have hv72732 := (h2v72758 _ _).trans hv72732
  have k72759 : (2 : Int32).toInt = 2 := by decide
  have k72760 : (0 : Int32).toInt = 0 := by decide
  have v72734 := (h1v72758 _ _ (Or.inr (ine (by omega) (by omega) (by omega)))).trans v72734
  have v72736 := (h1v72758 _ _ (Or.inl (tne gx1 gb72727 (by decide)))).trans v72736
  have k72761 : (2 : Int32).toInt = 2 := by decide
  have k72762 : (1 : Int32).toInt = 1 := by decide
  have v72748 := (h1v72758 _ _ (Or.inr (ine (by omega) (by omega) (by omega)))).trans v72748
  have v72752 := (h1v72758 _ _ (Or.inl (tne gx1 gb72727 (by decide)))).trans v72752
  have hfr : (∀ b j : Nat, (tag b ≠ 46 ∨ j ≠ 36) → fld F b j = fld Fo b j) ∧ (∀ b j : Nat, tag b ≠ 33 → tag b ≠ 43 → elm F b j = elm Fo b j) := ⟨fun b j n46_36 => (h2v72758 b j).trans (hfr.1 b j n46_36), fun b j a33 a43 => (h1v72758 b j (Or.inl (at_ne gb72727 a33))).trans (hfr.2 b j a33 a43)⟩
  refine lv_aload_n hx hb dX13_findsOrders_28 rfl (lv_at hl 1 rfl) ?_
  refine t_get (C := RX13) (T := TX13) (N := 37) X hT m0 g0 rfl rfl 31 (by decide) qw_122 inlX13 rfl dX13_findsOrders_29 (fun v72763 hv72763 ov72763 => ?_)
  obtain rfl : v72763 = .ref b72730 := hv72763.symm.trans hv72729
  refine lv_iload_n hx hb dX13_findsOrders_32 rfl (lv_at hl 0 rfl) ?_
  refine lv_bipush (v := (-2)) hx hb dX13_findsOrders_33 (by decide) ?_
  refine t_ist X hT mb72730 gb72730 rfl (by decide) (show (-2147483648) ≤ ((-2) : Int32).toInt ∧ ((-2) : Int32).toInt ≤ 2147483647 from (rg_all _)) dX13_findsOrders_35 (fun F H locs hT v72764 h1v72764 h2v72764 => ?_)
  have pf0 := (h2v72764 _ _).trans pf0
  have pf1 := (h2v72764 _ _).trans pf1
  have v72723 := (h2v72764 _ _).trans v72723
  have v72725 := (h1v72764 _ _ (Or.inl (tne gx1 gb72730 (by decide)))).trans v72725
  have hv72726 := (h2v72764 _ _).trans hv72726
  have hv72729 := (h2v72764 _ _).trans hv72729
  have hv72732 := (h2v72764 _ _).trans hv72732
  have k72765 : (2 : Int32).toInt = 2 := by decide
  have k72766 : (0 : Int32).toInt = 0 := by decide
  have v72734 := (h1v72764 _ _ (Or.inr (ine (by omega) (by omega) (by omega)))).trans v72734
  have v72736 := (h1v72764 _ _ (Or.inl (tne gx1 gb72730 (by decide)))).trans v72736
  have k72767 : (2 : Int32).toInt = 2 := by decide
  have k72768 : (1 : Int32).toInt = 1 := by decide
  have v72748 := (h1v72764 _ _ (Or.inr (ine (by omega) (by omega) (by omega)))).trans v72748
  have v72752 := (h1v72764 _ _ (Or.inl (tne gx1 gb72730 (by decide)))).trans v72752
  have hfr : (∀ b j : Nat, (tag b ≠ 46 ∨ j ≠ 36) → fld F b j = fld Fo b j) ∧ (∀ b j : Nat, tag b ≠ 33 → tag b ≠ 43 → elm F b j = elm Fo b j) := ⟨fun b j n46_36 => (h2v72764 b j).trans (hfr.1 b j n46_36), fun b j a33 a43 => (h1v72764 b j (Or.inl (at_ne gb72730 a33))).trans (hfr.2 b j a33 a43)⟩
  refine lv_aload_n hx hb dX13_findsOrders_36 rfl (lv_at hl 1 rfl) ?_
  refine t_get (C := RX13) (T := TX13) (N := 37) X hT m0 g0 rfl rfl 32 (by decide) qw_123 inlX13 rfl dX13_findsOrders_37 (fun v72769 hv72769 ov72769 => ?_)
  obtain rfl : v72769 = .ref b72733 := hv72769.symm.trans hv72732
  refine lv_iload_n hx hb dX13_findsOrders_40 rfl (lv_at hl 0 rfl) ?_
  refine lv_bipush (v := 63) hx hb dX13_findsOrders_41 (by decide) ?_
  refine t_ist X hT mb72733 gb72733 rfl (by decide) (show (-2147483648) ≤ (63 : Int32).toInt ∧ (63 : Int32).toInt ≤ 2147483647 from (rg_all _)) dX13_findsOrders_43 (fun F H locs hT v72770 h1v72770 h2v72770 => ?_)
  have pf0 := (h2v72770 _ _).trans pf0
  have pf1 := (h2v72770 _ _).trans pf1
  have v72723 := (h2v72770 _ _).trans v72723
  have v72725 := (h1v72770 _ _ (Or.inl (tne gx1 gb72733 (by decide)))).trans v72725
  have hv72726 := (h2v72770 _ _).trans hv72726
  have hv72729 := (h2v72770 _ _).trans hv72729
  have hv72732 := (h2v72770 _ _).trans hv72732
  have k72771 : (2 : Int32).toInt = 2 := by decide
  have k72772 : (0 : Int32).toInt = 0 := by decide
  have v72734 := (h1v72770 _ _ (Or.inr (ine (by omega) (by omega) (by omega)))).trans v72734
  have v72736 := (h1v72770 _ _ (Or.inl (tne gx1 gb72733 (by decide)))).trans v72736
  have k72773 : (2 : Int32).toInt = 2 := by decide
  have k72774 : (1 : Int32).toInt = 1 := by decide
  have v72748 := (h1v72770 _ _ (Or.inr (ine (by omega) (by omega) (by omega)))).trans v72748
  have v72752 := (h1v72770 _ _ (Or.inl (tne gx1 gb72733 (by decide)))).trans v72752
  have hfr : (∀ b j : Nat, (tag b ≠ 46 ∨ j ≠ 36) → fld F b j = fld Fo b j) ∧ (∀ b j : Nat, tag b ≠ 33 → tag b ≠ 43 → elm F b j = elm Fo b j) := ⟨fun b j n46_36 => (h2v72770 b j).trans (hfr.1 b j n46_36), fun b j a33 a43 => (h1v72770 b j (Or.inl (at_ne gb72733 a33))).trans (hfr.2 b j a33 a43)⟩
  refine lv_iinc (v := 3) (lv' := [(2, .int 3), (0, .ref p0), (1, .int p1)]) hx hb dX13_findsOrders_44 hl (k := 0) rfl (by decide) (by decide) rfl (fun ls hl => ?_)
  refine lv_goto (tgt := 7) hx hb dX13_findsOrders_47 (by decide) ?_
  refine lv_iload_n hx hb dX13_findsOrders_7 rfl (lv_at hl 0 rfl) ?_
  refine lv_bipush (v := 6) hx hb dX13_findsOrders_8 (by decide) ?_
  refine lv_icmp_ge (tgt := 50) hx hb dX13_findsOrders_10 (by decide) (fun c9 => absurd c9 (by decide)) (fun _ => ?_)
  refine lv_aload_n hx hb dX13_findsOrders_13 rfl (lv_at hl 1 rfl) ?_
  refine t_get (C := RX13) (T := TX13) (N := 37) X hT m0 g0 rfl rfl 29 (by decide) qw_120 inlX13 rfl dX13_findsOrders_14 (fun v72775 hv72775 ov72775 => ?_)
  obtain rfl : v72775 = .ref x1 := hv72775.symm.trans pf1
  refine lv_iload_n hx hb dX13_findsOrders_17 rfl (lv_at hl 0 rfl) ?_
  refine lv_iload_n hx hb dX13_findsOrders_18 rfl (lv_at hl 0 rfl) ?_
  refine t_ist X hT mx1 gx1 rfl (by decide) (show 0 ≤ (3 : Int32).toInt ∧ (3 : Int32).toInt ≤ 5 from (by decide)) dX13_findsOrders_19 (fun F H locs hT v72776 h1v72776 h2v72776 => ?_)
  have pf0 := (h2v72776 _ _).trans pf0
  have pf1 := (h2v72776 _ _).trans pf1
  have v72723 := (h2v72776 _ _).trans v72723
  have k72777 : (3 : Int32).toInt = 3 := by decide
  have k72778 : (0 : Int32).toInt = 0 := by decide
  have v72725 := (h1v72776 _ _ (Or.inr (ine (by omega) (by omega) (by omega)))).trans v72725
  have hv72726 := (h2v72776 _ _).trans hv72726
  have hv72729 := (h2v72776 _ _).trans hv72729
  have hv72732 := (h2v72776 _ _).trans hv72732
  have v72734 := (h1v72776 _ _ (Or.inl (tne gb72733 gx1 (by decide)))).trans v72734
  have k72779 : (3 : Int32).toInt = 3 := by decide
  have k72780 : (1 : Int32).toInt = 1 := by decide
  have v72736 := (h1v72776 _ _ (Or.inr (ine (by omega) (by omega) (by omega)))).trans v72736
  have v72748 := (h1v72776 _ _ (Or.inl (tne gb72733 gx1 (by decide)))).trans v72748
  have k72781 : (3 : Int32).toInt = 3 := by decide
  have k72782 : (2 : Int32).toInt = 2 := by decide
  have v72752 := (h1v72776 _ _ (Or.inr (ine (by omega) (by omega) (by omega)))).trans v72752
  have v72770 := (h1v72776 _ _ (Or.inl (tne gb72733 gx1 (by decide)))).trans v72770
  have hfr : (∀ b j : Nat, (tag b ≠ 46 ∨ j ≠ 36) → fld F b j = fld Fo b j) ∧ (∀ b j : Nat, tag b ≠ 33 → tag b ≠ 43 → elm F b j = elm Fo b j) := ⟨fun b j n46_36 => (h2v72776 b j).trans (hfr.1 b j n46_36), fun b j a33 a43 => (h1v72776 b j (Or.inl (at_ne gx1 a43))).trans (hfr.2 b j a33 a43)⟩
  refine lv_aload_n hx hb dX13_findsOrders_20 rfl (lv_at hl 1 rfl) ?_
  refine t_get (C := RX13) (T := TX13) (N := 37) X hT m0 g0 rfl rfl 30 (by decide) qw_121 inlX13 rfl dX13_findsOrders_21 (fun v72783 hv72783 ov72783 => ?_)
  obtain rfl : v72783 = .ref b72727 := hv72783.symm.trans hv72726
  refine lv_iload_n hx hb dX13_findsOrders_24 rfl (lv_at hl 0 rfl) ?_
  refine lv_bipush (v := (-2)) hx hb dX13_findsOrders_25 (by decide) ?_
  refine t_ist X hT mb72727 gb72727 rfl (by decide) (show (-2147483648) ≤ ((-2) : Int32).toInt ∧ ((-2) : Int32).toInt ≤ 2147483647 from (rg_all _)) dX13_findsOrders_27 (fun F H locs hT v72784 h1v72784 h2v72784 => ?_)
  have pf0 := (h2v72784 _ _).trans pf0
  have pf1 := (h2v72784 _ _).trans pf1
  have v72723 := (h2v72784 _ _).trans v72723
  have v72725 := (h1v72784 _ _ (Or.inl (tne gx1 gb72727 (by decide)))).trans v72725
  have hv72726 := (h2v72784 _ _).trans hv72726
  have hv72729 := (h2v72784 _ _).trans hv72729
  have hv72732 := (h2v72784 _ _).trans hv72732
  have k72785 : (3 : Int32).toInt = 3 := by decide
  have k72786 : (0 : Int32).toInt = 0 := by decide
  have v72734 := (h1v72784 _ _ (Or.inr (ine (by omega) (by omega) (by omega)))).trans v72734
  have v72736 := (h1v72784 _ _ (Or.inl (tne gx1 gb72727 (by decide)))).trans v72736
  have k72787 : (3 : Int32).toInt = 3 := by decide
  have k72788 : (1 : Int32).toInt = 1 := by decide
  have v72748 := (h1v72784 _ _ (Or.inr (ine (by omega) (by omega) (by omega)))).trans v72748
  have v72752 := (h1v72784 _ _ (Or.inl (tne gx1 gb72727 (by decide)))).trans v72752
  have k72789 : (3 : Int32).toInt = 3 := by decide
  have k72790 : (2 : Int32).toInt = 2 := by decide
  have v72770 := (h1v72784 _ _ (Or.inr (ine (by omega) (by omega) (by omega)))).trans v72770
  have v72776 := (h1v72784 _ _ (Or.inl (tne gx1 gb72727 (by decide)))).trans v72776
  have hfr : (∀ b j : Nat, (tag b ≠ 46 ∨ j ≠ 36) → fld F b j = fld Fo b j) ∧ (∀ b j : Nat, tag b ≠ 33 → tag b ≠ 43 → elm F b j = elm Fo b j) := ⟨fun b j n46_36 => (h2v72784 b j).trans (hfr.1 b j n46_36), fun b j a33 a43 => (h1v72784 b j (Or.inl (at_ne gb72727 a33))).trans (hfr.2 b j a33 a43)⟩
  refine lv_aload_n hx hb dX13_findsOrders_28 rfl (lv_at hl 1 rfl) ?_
  refine t_get (C := RX13) (T := TX13) (N := 37) X hT m0 g0 rfl rfl 31 (by decide) qw_122 inlX13 rfl dX13_findsOrders_29 (fun v72791 hv72791 ov72791 => ?_)
  obtain rfl : v72791 = .ref b72730 := hv72791.symm.trans hv72729
  refine lv_iload_n hx hb dX13_findsOrders_32 rfl (lv_at hl 0 rfl) ?_
  refine lv_bipush (v := (-2)) hx hb dX13_findsOrders_33 (by decide) ?_
  refine t_ist X hT mb72730 gb72730 rfl (by decide) (show (-2147483648) ≤ ((-2) : Int32).toInt ∧ ((-2) : Int32).toInt ≤ 2147483647 from (rg_all _)) dX13_findsOrders_35 (fun F H locs hT v72792 h1v72792 h2v72792 => ?_)
  have pf0 := (h2v72792 _ _).trans pf0
  have pf1 := (h2v72792 _ _).trans pf1
  have v72723 := (h2v72792 _ _).trans v72723
  have v72725 := (h1v72792 _ _ (Or.inl (tne gx1 gb72730 (by decide)))).trans v72725
  have hv72726 := (h2v72792 _ _).trans hv72726
  have hv72729 := (h2v72792 _ _).trans hv72729
  have hv72732 := (h2v72792 _ _).trans hv72732
  have k72793 : (3 : Int32).toInt = 3 := by decide
  have k72794 : (0 : Int32).toInt = 0 := by decide
  have v72734 := (h1v72792 _ _ (Or.inr (ine (by omega) (by omega) (by omega)))).trans v72734
  have v72736 := (h1v72792 _ _ (Or.inl (tne gx1 gb72730 (by decide)))).trans v72736
  have k72795 : (3 : Int32).toInt = 3 := by decide
  have k72796 : (1 : Int32).toInt = 1 := by decide
  have v72748 := (h1v72792 _ _ (Or.inr (ine (by omega) (by omega) (by omega)))).trans v72748
  have v72752 := (h1v72792 _ _ (Or.inl (tne gx1 gb72730 (by decide)))).trans v72752
  have k72797 : (3 : Int32).toInt = 3 := by decide
  have k72798 : (2 : Int32).toInt = 2 := by decide
  have v72770 := (h1v72792 _ _ (Or.inr (ine (by omega) (by omega) (by omega)))).trans v72770
  have v72776 := (h1v72792 _ _ (Or.inl (tne gx1 gb72730 (by decide)))).trans v72776
  have hfr : (∀ b j : Nat, (tag b ≠ 46 ∨ j ≠ 36) → fld F b j = fld Fo b j) ∧ (∀ b j : Nat, tag b ≠ 33 → tag b ≠ 43 → elm F b j = elm Fo b j) := ⟨fun b j n46_36 => (h2v72792 b j).trans (hfr.1 b j n46_36), fun b j a33 a43 => (h1v72792 b j (Or.inl (at_ne gb72730 a33))).trans (hfr.2 b j a33 a43)⟩
  refine lv_aload_n hx hb dX13_findsOrders_36 rfl (lv_at hl 1 rfl) ?_
  refine t_get (C := RX13) (T := TX13) (N := 37) X hT m0 g0 rfl rfl 32 (by decide) qw_123 inlX13 rfl dX13_findsOrders_37 (fun v72799 hv72799 ov72799 => ?_)
  obtain rfl : v72799 = .ref b72733 := hv72799.symm.trans hv72732
  refine lv_iload_n hx hb dX13_findsOrders_40 rfl (lv_at hl 0 rfl) ?_
  refine lv_bipush (v := 63) hx hb dX13_findsOrders_41 (by decide) ?_
  refine t_ist X hT mb72733 gb72733 rfl (by decide) (show (-2147483648) ≤ (63 : Int32).toInt ∧ (63 : Int32).toInt ≤ 2147483647 from (rg_all _)) dX13_findsOrders_43 (fun F H locs hT v72800 h1v72800 h2v72800 => ?_)
  have pf0 := (h2v72800 _ _).trans pf0
  have pf1 := (h2v72800 _ _).trans pf1
  have v72723 := (h2v72800 _ _).trans v72723
  have v72725 := (h1v72800 _ _ (Or.inl (tne gx1 gb72733 (by decide)))).trans v72725
  have hv72726 := (h2v72800 _ _).trans hv72726
  have hv72729 := (h2v72800 _ _).trans hv72729
  have hv72732 := (h2v72800 _ _).trans hv72732
  have k72801 : (3 : Int32).toInt = 3 := by decide
  have k72802 : (0 : Int32).toInt = 0 := by decide
  have v72734 := (h1v72800 _ _ (Or.inr (ine (by omega) (by omega) (by omega)))).trans v72734
  have v72736 := (h1v72800 _ _ (Or.inl (tne gx1 gb72733 (by decide)))).trans v72736
  have k72803 : (3 : Int32).toInt = 3 := by decide
  have k72804 : (1 : Int32).toInt = 1 := by decide
  have v72748 := (h1v72800 _ _ (Or.inr (ine (by omega) (by omega) (by omega)))).trans v72748
  have v72752 := (h1v72800 _ _ (Or.inl (tne gx1 gb72733 (by decide)))).trans v72752
  have k72805 : (3 : Int32).toInt = 3 := by decide
  have k72806 : (2 : Int32).toInt = 2 := by decide
  have v72770 := (h1v72800 _ _ (Or.inr (ine (by omega) (by omega) (by omega)))).trans v72770
  have v72776 := (h1v72800 _ _ (Or.inl (tne gx1 gb72733 (by decide)))).trans v72776
  have hfr : (∀ b j : Nat, (tag b ≠ 46 ∨ j ≠ 36) → fld F b j = fld Fo b j) ∧ (∀ b j : Nat, tag b ≠ 33 → tag b ≠ 43 → elm F b j = elm Fo b j) := ⟨fun b j n46_36 => (h2v72800 b j).trans (hfr.1 b j n46_36), fun b j a33 a43 => (h1v72800 b j (Or.inl (at_ne gb72733 a33))).trans (hfr.2 b j a33 a43)⟩
  refine lv_iinc (v := 4) (lv' := [(2, .int 4), (0, .ref p0), (1, .int p1)]) hx hb dX13_findsOrders_44 hl (k := 0) rfl (by decide) (by decide) rfl (fun ls hl => ?_)
  refine lv_goto (tgt := 7) hx hb dX13_findsOrders_47 (by decide) ?_
  refine lv_iload_n hx hb dX13_findsOrders_7 rfl (lv_at hl 0 rfl) ?_
  refine lv_bipush (v := 6) hx hb dX13_findsOrders_8 (by decide) ?_
  refine lv_icmp_ge (tgt := 50) hx hb dX13_findsOrders_10 (by decide) (fun c9 => absurd c9 (by decide)) (fun _ => ?_)
  refine lv_aload_n hx hb dX13_findsOrders_13 rfl (lv_at hl 1 rfl) ?_
  refine t_get (C := RX13) (T := TX13) (N := 37) X hT m0 g0 rfl rfl 29 (by decide) qw_120 inlX13 rfl dX13_findsOrders_14 (fun v72807 hv72807 ov72807 => ?_)
  obtain rfl : v72807 = .ref x1 := hv72807.symm.trans pf1
  refine lv_iload_n hx hb dX13_findsOrders_17 rfl (lv_at hl 0 rfl) ?_
  refine lv_iload_n hx hb dX13_findsOrders_18 rfl (lv_at hl 0 rfl) ?_
  refine t_ist X hT mx1 gx1 rfl (by decide) (show 0 ≤ (4 : Int32).toInt ∧ (4 : Int32).toInt ≤ 5 from (by decide)) dX13_findsOrders_19 (fun F H locs hT v72808 h1v72808 h2v72808 => ?_)
  have pf0 := (h2v72808 _ _).trans pf0
  have pf1 := (h2v72808 _ _).trans pf1
  have v72723 := (h2v72808 _ _).trans v72723
  have k72809 : (4 : Int32).toInt = 4 := by decide
  have k72810 : (0 : Int32).toInt = 0 := by decide
  have v72725 := (h1v72808 _ _ (Or.inr (ine (by omega) (by omega) (by omega)))).trans v72725
  have hv72726 := (h2v72808 _ _).trans hv72726
  have hv72729 := (h2v72808 _ _).trans hv72729
  have hv72732 := (h2v72808 _ _).trans hv72732
  have v72734 := (h1v72808 _ _ (Or.inl (tne gb72733 gx1 (by decide)))).trans v72734
  have k72811 : (4 : Int32).toInt = 4 := by decide
  have k72812 : (1 : Int32).toInt = 1 := by decide
  have v72736 := (h1v72808 _ _ (Or.inr (ine (by omega) (by omega) (by omega)))).trans v72736
  have v72748 := (h1v72808 _ _ (Or.inl (tne gb72733 gx1 (by decide)))).trans v72748
  have k72813 : (4 : Int32).toInt = 4 := by decide
  have k72814 : (2 : Int32).toInt = 2 := by decide
  have v72752 := (h1v72808 _ _ (Or.inr (ine (by omega) (by omega) (by omega)))).trans v72752
  have v72770 := (h1v72808 _ _ (Or.inl (tne gb72733 gx1 (by decide)))).trans v72770
  have k72815 : (4 : Int32).toInt = 4 := by decide
  have k72816 : (3 : Int32).toInt = 3 := by decide
  have v72776 := (h1v72808 _ _ (Or.inr (ine (by omega) (by omega) (by omega)))).trans v72776
  have v72800 := (h1v72808 _ _ (Or.inl (tne gb72733 gx1 (by decide)))).trans v72800
  have hfr : (∀ b j : Nat, (tag b ≠ 46 ∨ j ≠ 36) → fld F b j = fld Fo b j) ∧ (∀ b j : Nat, tag b ≠ 33 → tag b ≠ 43 → elm F b j = elm Fo b j) := ⟨fun b j n46_36 => (h2v72808 b j).trans (hfr.1 b j n46_36), fun b j a33 a43 => (h1v72808 b j (Or.inl (at_ne gx1 a43))).trans (hfr.2 b j a33 a43)⟩
  refine lv_aload_n hx hb dX13_findsOrders_20 rfl (lv_at hl 1 rfl) ?_
  refine t_get (C := RX13) (T := TX13) (N := 37) X hT m0 g0 rfl rfl 30 (by decide) qw_121 inlX13 rfl dX13_findsOrders_21 (fun v72817 hv72817 ov72817 => ?_)
  obtain rfl : v72817 = .ref b72727 := hv72817.symm.trans hv72726
  refine lv_iload_n hx hb dX13_findsOrders_24 rfl (lv_at hl 0 rfl) ?_
  refine lv_bipush (v := (-2)) hx hb dX13_findsOrders_25 (by decide) ?_
  refine t_ist X hT mb72727 gb72727 rfl (by decide) (show (-2147483648) ≤ ((-2) : Int32).toInt ∧ ((-2) : Int32).toInt ≤ 2147483647 from (rg_all _)) dX13_findsOrders_27 (fun F H locs hT v72818 h1v72818 h2v72818 => ?_)
  have pf0 := (h2v72818 _ _).trans pf0
  have pf1 := (h2v72818 _ _).trans pf1
  have v72723 := (h2v72818 _ _).trans v72723
  have v72725 := (h1v72818 _ _ (Or.inl (tne gx1 gb72727 (by decide)))).trans v72725
  have hv72726 := (h2v72818 _ _).trans hv72726
  have hv72729 := (h2v72818 _ _).trans hv72729
  have hv72732 := (h2v72818 _ _).trans hv72732
  have k72819 : (4 : Int32).toInt = 4 := by decide
  have k72820 : (0 : Int32).toInt = 0 := by decide
  have v72734 := (h1v72818 _ _ (Or.inr (ine (by omega) (by omega) (by omega)))).trans v72734
  have v72736 := (h1v72818 _ _ (Or.inl (tne gx1 gb72727 (by decide)))).trans v72736
  have k72821 : (4 : Int32).toInt = 4 := by decide
  have k72822 : (1 : Int32).toInt = 1 := by decide
  have v72748 := (h1v72818 _ _ (Or.inr (ine (by omega) (by omega) (by omega)))).trans v72748
  have v72752 := (h1v72818 _ _ (Or.inl (tne gx1 gb72727 (by decide)))).trans v72752
  have k72823 : (4 : Int32).toInt = 4 := by decide
  have k72824 : (2 : Int32).toInt = 2 := by decide
  have v72770 := (h1v72818 _ _ (Or.inr (ine (by omega) (by omega) (by omega)))).trans v72770
  have v72776 := (h1v72818 _ _ (Or.inl (tne gx1 gb72727 (by decide)))).trans v72776
  have k72825 : (4 : Int32).toInt = 4 := by decide
  have k72826 : (3 : Int32).toInt = 3 := by decide
  have v72800 := (h1v72818 _ _ (Or.inr (ine (by omega) (by omega) (by omega)))).trans v72800
  have v72808 := (h1v72818 _ _ (Or.inl (tne gx1 gb72727 (by decide)))).trans v72808
  have hfr : (∀ b j : Nat, (tag b ≠ 46 ∨ j ≠ 36) → fld F b j = fld Fo b j) ∧ (∀ b j : Nat, tag b ≠ 33 → tag b ≠ 43 → elm F b j = elm Fo b j) := ⟨fun b j n46_36 => (h2v72818 b j).trans (hfr.1 b j n46_36), fun b j a33 a43 => (h1v72818 b j (Or.inl (at_ne gb72727 a33))).trans (hfr.2 b j a33 a43)⟩
  refine lv_aload_n hx hb dX13_findsOrders_28 rfl (lv_at hl 1 rfl) ?_
  refine t_get (C := RX13) (T := TX13) (N := 37) X hT m0 g0 rfl rfl 31 (by decide) qw_122 inlX13 rfl dX13_findsOrders_29 (fun v72827 hv72827 ov72827 => ?_)
  obtain rfl : v72827 = .ref b72730 := hv72827.symm.trans hv72729
  refine lv_iload_n hx hb dX13_findsOrders_32 rfl (lv_at hl 0 rfl) ?_
  refine lv_bipush (v := (-2)) hx hb dX13_findsOrders_33 (by decide) ?_
  refine t_ist X hT mb72730 gb72730 rfl (by decide) (show (-2147483648) ≤ ((-2) : Int32).toInt ∧ ((-2) : Int32).toInt ≤ 2147483647 from (rg_all _)) dX13_findsOrders_35 (fun F H locs hT v72828 h1v72828 h2v72828 => ?_)
  have pf0 := (h2v72828 _ _).trans pf0
  have pf1 := (h2v72828 _ _).trans pf1
  have v72723 := (h2v72828 _ _).trans v72723
  have v72725 := (h1v72828 _ _ (Or.inl (tne gx1 gb72730 (by decide)))).trans v72725
  have hv72726 := (h2v72828 _ _).trans hv72726
  have hv72729 := (h2v72828 _ _).trans hv72729
  have hv72732 := (h2v72828 _ _).trans hv72732
  have k72829 : (4 : Int32).toInt = 4 := by decide
  have k72830 : (0 : Int32).toInt = 0 := by decide
  have v72734 := (h1v72828 _ _ (Or.inr (ine (by omega) (by omega) (by omega)))).trans v72734
  have v72736 := (h1v72828 _ _ (Or.inl (tne gx1 gb72730 (by decide)))).trans v72736
  have k72831 : (4 : Int32).toInt = 4 := by decide
  have k72832 : (1 : Int32).toInt = 1 := by decide
  have v72748 := (h1v72828 _ _ (Or.inr (ine (by omega) (by omega) (by omega)))).trans v72748
  have v72752 := (h1v72828 _ _ (Or.inl (tne gx1 gb72730 (by decide)))).trans v72752
  have k72833 : (4 : Int32).toInt = 4 := by decide
  have k72834 : (2 : Int32).toInt = 2 := by decide
  have v72770 := (h1v72828 _ _ (Or.inr (ine (by omega) (by omega) (by omega)))).trans v72770
  have v72776 := (h1v72828 _ _ (Or.inl (tne gx1 gb72730 (by decide)))).trans v72776
  have k72835 : (4 : Int32).toInt = 4 := by decide
  have k72836 : (3 : Int32).toInt = 3 := by decide
  have v72800 := (h1v72828 _ _ (Or.inr (ine (by omega) (by omega) (by omega)))).trans v72800
  have v72808 := (h1v72828 _ _ (Or.inl (tne gx1 gb72730 (by decide)))).trans v72808
  have hfr : (∀ b j : Nat, (tag b ≠ 46 ∨ j ≠ 36) → fld F b j = fld Fo b j) ∧ (∀ b j : Nat, tag b ≠ 33 → tag b ≠ 43 → elm F b j = elm Fo b j) := ⟨fun b j n46_36 => (h2v72828 b j).trans (hfr.1 b j n46_36), fun b j a33 a43 => (h1v72828 b j (Or.inl (at_ne gb72730 a33))).trans (hfr.2 b j a33 a43)⟩
  refine lv_aload_n hx hb dX13_findsOrders_36 rfl (lv_at hl 1 rfl) ?_
  refine t_get (C := RX13) (T := TX13) (N := 37) X hT m0 g0 rfl rfl 32 (by decide) qw_123 inlX13 rfl dX13_findsOrders_37 (fun v72837 hv72837 ov72837 => ?_)
  obtain rfl : v72837 = .ref b72733 := hv72837.symm.trans hv72732
  refine lv_iload_n hx hb dX13_findsOrders_40 rfl (lv_at hl 0 rfl) ?_
  refine lv_bipush (v := 63) hx hb dX13_findsOrders_41 (by decide) ?_
  refine t_ist X hT mb72733 gb72733 rfl (by decide) (show (-2147483648) ≤ (63 : Int32).toInt ∧ (63 : Int32).toInt ≤ 2147483647 from (rg_all _)) dX13_findsOrders_43 (fun F H locs hT v72838 h1v72838 h2v72838 => ?_)
  have pf0 := (h2v72838 _ _).trans pf0
  have pf1 := (h2v72838 _ _).trans pf1
  have v72723 := (h2v72838 _ _).trans v72723
  have v72725 := (h1v72838 _ _ (Or.inl (tne gx1 gb72733 (by decide)))).trans v72725
  have hv72726 := (h2v72838 _ _).trans hv72726
  have hv72729 := (h2v72838 _ _).trans hv72729
  have hv72732 := (h2v72838 _ _).trans hv72732
  have k72839 : (4 : Int32).toInt = 4 := by decide
  have k72840 : (0 : Int32).toInt = 0 := by decide
  have v72734 := (h1v72838 _ _ (Or.inr (ine (by omega) (by omega) (by omega)))).trans v72734
  have v72736 := (h1v72838 _ _ (Or.inl (tne gx1 gb72733 (by decide)))).trans v72736
  have k72841 : (4 : Int32).toInt = 4 := by decide
  have k72842 : (1 : Int32).toInt = 1 := by decide
  have v72748 := (h1v72838 _ _ (Or.inr (ine (by omega) (by omega) (by omega)))).trans v72748
  have v72752 := (h1v72838 _ _ (Or.inl (tne gx1 gb72733 (by decide)))).trans v72752
  have k72843 : (4 : Int32).toInt = 4 := by decide
  have k72844 : (2 : Int32).toInt = 2 := by decide
  have v72770 := (h1v72838 _ _ (Or.inr (ine (by omega) (by omega) (by omega)))).trans v72770
  have v72776 := (h1v72838 _ _ (Or.inl (tne gx1 gb72733 (by decide)))).trans v72776
  have k72845 : (4 : Int32).toInt = 4 := by decide
  have k72846 : (3 : Int32).toInt = 3 := by decide
  have v72800 := (h1v72838 _ _ (Or.inr (ine (by omega) (by omega) (by omega)))).trans v72800
  have v72808 := (h1v72838 _ _ (Or.inl (tne gx1 gb72733 (by decide)))).trans v72808
  have hfr : (∀ b j : Nat, (tag b ≠ 46 ∨ j ≠ 36) → fld F b j = fld Fo b j) ∧ (∀ b j : Nat, tag b ≠ 33 → tag b ≠ 43 → elm F b j = elm Fo b j) := ⟨fun b j n46_36 => (h2v72838 b j).trans (hfr.1 b j n46_36), fun b j a33 a43 => (h1v72838 b j (Or.inl (at_ne gb72733 a33))).trans (hfr.2 b j a33 a43)⟩
  refine lv_iinc (v := 5) (lv' := [(2, .int 5), (0, .ref p0), (1, .int p1)]) hx hb dX13_findsOrders_44 hl (k := 0) rfl (by decide) (by decide) rfl (fun ls hl => ?_)
  refine lv_goto (tgt := 7) hx hb dX13_findsOrders_47 (by decide) ?_
  refine lv_iload_n hx hb dX13_findsOrders_7 rfl (lv_at hl 0 rfl) ?_
  refine lv_bipush (v := 6) hx hb dX13_findsOrders_8 (by decide) ?_
  refine lv_icmp_ge (tgt := 50) hx hb dX13_findsOrders_10 (by decide) (fun c9 => absurd c9 (by decide)) (fun _ => ?_)
  refine lv_aload_n hx hb dX13_findsOrders_13 rfl (lv_at hl 1 rfl) ?_
  refine t_get (C := RX13) (T := TX13) (N := 37) X hT m0 g0 rfl rfl 29 (by decide) qw_120 inlX13 rfl dX13_findsOrders_14 (fun v72847 hv72847 ov72847 => ?_)
  obtain rfl : v72847 = .ref x1 := hv72847.symm.trans pf1
  refine lv_iload_n hx hb dX13_findsOrders_17 rfl (lv_at hl 0 rfl) ?_
  refine lv_iload_n hx hb dX13_findsOrders_18 rfl (lv_at hl 0 rfl) ?_
  refine t_ist X hT mx1 gx1 rfl (by decide) (show 0 ≤ (5 : Int32).toInt ∧ (5 : Int32).toInt ≤ 5 from (by decide)) dX13_findsOrders_19 (fun F H locs hT v72848 h1v72848 h2v72848 => ?_)
  have pf0 := (h2v72848 _ _).trans pf0
  have pf1 := (h2v72848 _ _).trans pf1
  have v72723 := (h2v72848 _ _).trans v72723
  have k72849 : (5 : Int32).toInt = 5 := by decide
  have k72850 : (0 : Int32).toInt = 0 := by decide
  have v72725 := (h1v72848 _ _ (Or.inr (ine (by omega) (by omega) (by omega)))).trans v72725
  have hv72726 := (h2v72848 _ _).trans hv72726
  have hv72729 := (h2v72848 _ _).trans hv72729
  have hv72732 := (h2v72848 _ _).trans hv72732
  have v72734 := (h1v72848 _ _ (Or.inl (tne gb72733 gx1 (by decide)))).trans v72734
  have k72851 : (5 : Int32).toInt = 5 := by decide
  have k72852 : (1 : Int32).toInt = 1 := by decide
  have v72736 := (h1v72848 _ _ (Or.inr (ine (by omega) (by omega) (by omega)))).trans v72736
  have v72748 := (h1v72848 _ _ (Or.inl (tne gb72733 gx1 (by decide)))).trans v72748
  have k72853 : (5 : Int32).toInt = 5 := by decide
  have k72854 : (2 : Int32).toInt = 2 := by decide
  have v72752 := (h1v72848 _ _ (Or.inr (ine (by omega) (by omega) (by omega)))).trans v72752
  have v72770 := (h1v72848 _ _ (Or.inl (tne gb72733 gx1 (by decide)))).trans v72770
  have k72855 : (5 : Int32).toInt = 5 := by decide
  have k72856 : (3 : Int32).toInt = 3 := by decide
  have v72776 := (h1v72848 _ _ (Or.inr (ine (by omega) (by omega) (by omega)))).trans v72776
  have v72800 := (h1v72848 _ _ (Or.inl (tne gb72733 gx1 (by decide)))).trans v72800
  have k72857 : (5 : Int32).toInt = 5 := by decide
  have k72858 : (4 : Int32).toInt = 4 := by decide
  have v72808 := (h1v72848 _ _ (Or.inr (ine (by omega) (by omega) (by omega)))).trans v72808
  have v72838 := (h1v72848 _ _ (Or.inl (tne gb72733 gx1 (by decide)))).trans v72838
  have hfr : (∀ b j : Nat, (tag b ≠ 46 ∨ j ≠ 36) → fld F b j = fld Fo b j) ∧ (∀ b j : Nat, tag b ≠ 33 → tag b ≠ 43 → elm F b j = elm Fo b j) := ⟨fun b j n46_36 => (h2v72848 b j).trans (hfr.1 b j n46_36), fun b j a33 a43 => (h1v72848 b j (Or.inl (at_ne gx1 a43))).trans (hfr.2 b j a33 a43)⟩
  refine lv_aload_n hx hb dX13_findsOrders_20 rfl (lv_at hl 1 rfl) ?_
  refine t_get (C := RX13) (T := TX13) (N := 37) X hT m0 g0 rfl rfl 30 (by decide) qw_121 inlX13 rfl dX13_findsOrders_21 (fun v72859 hv72859 ov72859 => ?_)
  obtain rfl : v72859 = .ref b72727 := hv72859.symm.trans hv72726
  refine lv_iload_n hx hb dX13_findsOrders_24 rfl (lv_at hl 0 rfl) ?_
  refine lv_bipush (v := (-2)) hx hb dX13_findsOrders_25 (by decide) ?_
  refine t_ist X hT mb72727 gb72727 rfl (by decide) (show (-2147483648) ≤ ((-2) : Int32).toInt ∧ ((-2) : Int32).toInt ≤ 2147483647 from (rg_all _)) dX13_findsOrders_27 (fun F H locs hT v72860 h1v72860 h2v72860 => ?_)
  have pf0 := (h2v72860 _ _).trans pf0
  have pf1 := (h2v72860 _ _).trans pf1
  have v72723 := (h2v72860 _ _).trans v72723
  have v72725 := (h1v72860 _ _ (Or.inl (tne gx1 gb72727 (by decide)))).trans v72725
  have hv72726 := (h2v72860 _ _).trans hv72726
  have hv72729 := (h2v72860 _ _).trans hv72729
  have hv72732 := (h2v72860 _ _).trans hv72732
  have k72861 : (5 : Int32).toInt = 5 := by decide
  have k72862 : (0 : Int32).toInt = 0 := by decide
  have v72734 := (h1v72860 _ _ (Or.inr (ine (by omega) (by omega) (by omega)))).trans v72734
  have v72736 := (h1v72860 _ _ (Or.inl (tne gx1 gb72727 (by decide)))).trans v72736
  have k72863 : (5 : Int32).toInt = 5 := by decide
  have k72864 : (1 : Int32).toInt = 1 := by decide
  have v72748 := (h1v72860 _ _ (Or.inr (ine (by omega) (by omega) (by omega)))).trans v72748
  have v72752 := (h1v72860 _ _ (Or.inl (tne gx1 gb72727 (by decide)))).trans v72752
  have k72865 : (5 : Int32).toInt = 5 := by decide
  have k72866 : (2 : Int32).toInt = 2 := by decide
  have v72770 := (h1v72860 _ _ (Or.inr (ine (by omega) (by omega) (by omega)))).trans v72770
  have v72776 := (h1v72860 _ _ (Or.inl (tne gx1 gb72727 (by decide)))).trans v72776
  have k72867 : (5 : Int32).toInt = 5 := by decide
  have k72868 : (3 : Int32).toInt = 3 := by decide
  have v72800 := (h1v72860 _ _ (Or.inr (ine (by omega) (by omega) (by omega)))).trans v72800
  have v72808 := (h1v72860 _ _ (Or.inl (tne gx1 gb72727 (by decide)))).trans v72808
  have k72869 : (5 : Int32).toInt = 5 := by decide
  have k72870 : (4 : Int32).toInt = 4 := by decide
  have v72838 := (h1v72860 _ _ (Or.inr (ine (by omega) (by omega) (by omega)))).trans v72838
  have v72848 := (h1v72860 _ _ (Or.inl (tne gx1 gb72727 (by decide)))).trans v72848
  have hfr : (∀ b j : Nat, (tag b ≠ 46 ∨ j ≠ 36) → fld F b j = fld Fo b j) ∧ (∀ b j : Nat, tag b ≠ 33 → tag b ≠ 43 → elm F b j = elm Fo b j) := ⟨fun b j n46_36 => (h2v72860 b j).trans (hfr.1 b j n46_36), fun b j a33 a43 => (h1v72860 b j (Or.inl (at_ne gb72727 a33))).trans (hfr.2 b j a33 a43)⟩
  refine lv_aload_n hx hb dX13_findsOrders_28 rfl (lv_at hl 1 rfl) ?_
  refine t_get (C := RX13) (T := TX13) (N := 37) X hT m0 g0 rfl rfl 31 (by decide) qw_122 inlX13 rfl dX13_findsOrders_29 (fun v72871 hv72871 ov72871 => ?_)
  obtain rfl : v72871 = .ref b72730 := hv72871.symm.trans hv72729
  refine lv_iload_n hx hb dX13_findsOrders_32 rfl (lv_at hl 0 rfl) ?_
  refine lv_bipush (v := (-2)) hx hb dX13_findsOrders_33 (by decide) ?_
  refine t_ist X hT mb72730 gb72730 rfl (by decide) (show (-2147483648) ≤ ((-2) : Int32).toInt ∧ ((-2) : Int32).toInt ≤ 2147483647 from (rg_all _)) dX13_findsOrders_35 (fun F H locs hT v72872 h1v72872 h2v72872 => ?_)
  have pf0 := (h2v72872 _ _).trans pf0
  have pf1 := (h2v72872 _ _).trans pf1
  have v72723 := (h2v72872 _ _).trans v72723
  have v72725 := (h1v72872 _ _ (Or.inl (tne gx1 gb72730 (by decide)))).trans v72725
  have hv72726 := (h2v72872 _ _).trans hv72726
  have hv72729 := (h2v72872 _ _).trans hv72729
  have hv72732 := (h2v72872 _ _).trans hv72732
  have k72873 : (5 : Int32).toInt = 5 := by decide
  have k72874 : (0 : Int32).toInt = 0 := by decide
  have v72734 := (h1v72872 _ _ (Or.inr (ine (by omega) (by omega) (by omega)))).trans v72734
  have v72736 := (h1v72872 _ _ (Or.inl (tne gx1 gb72730 (by decide)))).trans v72736
  have k72875 : (5 : Int32).toInt = 5 := by decide
  have k72876 : (1 : Int32).toInt = 1 := by decide
  have v72748 := (h1v72872 _ _ (Or.inr (ine (by omega) (by omega) (by omega)))).trans v72748
  have v72752 := (h1v72872 _ _ (Or.inl (tne gx1 gb72730 (by decide)))).trans v72752
  have k72877 : (5 : Int32).toInt = 5 := by decide
  have k72878 : (2 : Int32).toInt = 2 := by decide
  have v72770 := (h1v72872 _ _ (Or.inr (ine (by omega) (by omega) (by omega)))).trans v72770
  have v72776 := (h1v72872 _ _ (Or.inl (tne gx1 gb72730 (by decide)))).trans v72776
  have k72879 : (5 : Int32).toInt = 5 := by decide
  have k72880 : (3 : Int32).toInt = 3 := by decide
  have v72800 := (h1v72872 _ _ (Or.inr (ine (by omega) (by omega) (by omega)))).trans v72800
  have v72808 := (h1v72872 _ _ (Or.inl (tne gx1 gb72730 (by decide)))).trans v72808
  have k72881 : (5 : Int32).toInt = 5 := by decide
  have k72882 : (4 : Int32).toInt = 4 := by decide
  have v72838 := (h1v72872 _ _ (Or.inr (ine (by omega) (by omega) (by omega)))).trans v72838
  have v72848 := (h1v72872 _ _ (Or.inl (tne gx1 gb72730 (by decide)))).trans v72848
  have hfr : (∀ b j : Nat, (tag b ≠ 46 ∨ j ≠ 36) → fld F b j = fld Fo b j) ∧ (∀ b j : Nat, tag b ≠ 33 → tag b ≠ 43 → elm F b j = elm Fo b j) := ⟨fun b j n46_36 => (h2v72872 b j).trans (hfr.1 b j n46_36), fun b j a33 a43 => (h1v72872 b j (Or.inl (at_ne gb72730 a33))).trans (hfr.2 b j a33 a43)⟩
  refine lv_aload_n hx hb dX13_findsOrders_36 rfl (lv_at hl 1 rfl) ?_
  refine t_get (C := RX13) (T := TX13) (N := 37) X hT m0 g0 rfl rfl 32 (by decide) qw_123 inlX13 rfl dX13_findsOrders_37 (fun v72883 hv72883 ov72883 => ?_)
  obtain rfl : v72883 = .ref b72733 := hv72883.symm.trans hv72732
  refine lv_iload_n hx hb dX13_findsOrders_40 rfl (lv_at hl 0 rfl) ?_
  refine lv_bipush (v := 63) hx hb dX13_findsOrders_41 (by decide) ?_
  refine t_ist X hT mb72733 gb72733 rfl (by decide) (show (-2147483648) ≤ (63 : Int32).toInt ∧ (63 : Int32).toInt ≤ 2147483647 from (rg_all _)) dX13_findsOrders_43 (fun F H locs hT v72884 h1v72884 h2v72884 => ?_)
  have pf0 := (h2v72884 _ _).trans pf0
  have pf1 := (h2v72884 _ _).trans pf1
  have v72723 := (h2v72884 _ _).trans v72723
  have v72725 := (h1v72884 _ _ (Or.inl (tne gx1 gb72733 (by decide)))).trans v72725
  have hv72726 := (h2v72884 _ _).trans hv72726
  have hv72729 := (h2v72884 _ _).trans hv72729
  have hv72732 := (h2v72884 _ _).trans hv72732
  have k72885 : (5 : Int32).toInt = 5 := by decide
  have k72886 : (0 : Int32).toInt = 0 := by decide
  have v72734 := (h1v72884 _ _ (Or.inr (ine (by omega) (by omega) (by omega)))).trans v72734
  have v72736 := (h1v72884 _ _ (Or.inl (tne gx1 gb72733 (by decide)))).trans v72736
  have k72887 : (5 : Int32).toInt = 5 := by decide
  have k72888 : (1 : Int32).toInt = 1 := by decide
  have v72748 := (h1v72884 _ _ (Or.inr (ine (by omega) (by omega) (by omega)))).trans v72748
  have v72752 := (h1v72884 _ _ (Or.inl (tne gx1 gb72733 (by decide)))).trans v72752
  have k72889 : (5 : Int32).toInt = 5 := by decide
  have k72890 : (2 : Int32).toInt = 2 := by decide
  have v72770 := (h1v72884 _ _ (Or.inr (ine (by omega) (by omega) (by omega)))).trans v72770
  have v72776 := (h1v72884 _ _ (Or.inl (tne gx1 gb72733 (by decide)))).trans v72776
  have k72891 : (5 : Int32).toInt = 5 := by decide
  have k72892 : (3 : Int32).toInt = 3 := by decide
  have v72800 := (h1v72884 _ _ (Or.inr (ine (by omega) (by omega) (by omega)))).trans v72800
  have v72808 := (h1v72884 _ _ (Or.inl (tne gx1 gb72733 (by decide)))).trans v72808
  have k72893 : (5 : Int32).toInt = 5 := by decide
  have k72894 : (4 : Int32).toInt = 4 := by decide
  have v72838 := (h1v72884 _ _ (Or.inr (ine (by omega) (by omega) (by omega)))).trans v72838
  have v72848 := (h1v72884 _ _ (Or.inl (tne gx1 gb72733 (by decide)))).trans v72848
  have hfr : (∀ b j : Nat, (tag b ≠ 46 ∨ j ≠ 36) → fld F b j = fld Fo b j) ∧ (∀ b j : Nat, tag b ≠ 33 → tag b ≠ 43 → elm F b j = elm Fo b j) := ⟨fun b j n46_36 => (h2v72884 b j).trans (hfr.1 b j n46_36), fun b j a33 a43 => (h1v72884 b j (Or.inl (at_ne gb72733 a33))).trans (hfr.2 b j a33 a43)⟩
  refine lv_iinc (v := 6) (lv' := [(2, .int 6), (0, .ref p0), (1, .int p1)]) hx hb dX13_findsOrders_44 hl (k := 0) rfl (by decide) (by decide) rfl (fun ls hl => ?_)
  refine lv_goto (tgt := 7) hx hb dX13_findsOrders_47 (by decide) ?_
  refine lv_iload_n hx hb dX13_findsOrders_7 rfl (lv_at hl 0 rfl) ?_
  refine lv_bipush (v := 6) hx hb dX13_findsOrders_8 (by decide) ?_
  refine lv_icmp_ge (tgt := 50) hx hb dX13_findsOrders_10 (by decide) (fun _ => ?_) (fun c9 => absurd c9 (by decide))
  obtain ⟨lx, hcar⟩ := car_6 v72725 v72736 v72752 v72776 v72808 v72848
  refine lv_iconst (v := 1) hx hb dX13_findsOrders_50 (by decide) ?_
  refine lv_istore_n (lv' := [(2, .int 1), (0, .ref p0), (1, .int p1)]) hx hb dX13_findsOrders_51 rfl hl (by decide) rfl (fun ls hl => ?_)
  refine lv_iload_n hx hb dX13_findsOrders_52 rfl (lv_at hl 0 rfl) ?_
  refine lv_if_eq (tgt := 244) hx hb dX13_findsOrders_53 (by decide) (fun c9 => absurd c9 (by decide)) (fun _ => ?_)
  have k72895 : (1 : Int32).toInt = 1 := by decide
  have k72896 : (0 : Int32).toInt = 0 := by decide
  have h9k72897 := car_b6 hcar
  exact K56 46656 lx 1 0 _ _ _ _ (by omega) (by decide) hT hfr pf0 pf1 v72723 hcar (lv_sub hl [1, 2, 0] rfl)
