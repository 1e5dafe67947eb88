set_option maxHeartbeats 4000000 in
set_option maxRecDepth 100000 in
theorem kt139_X3_name (l : Launch) (G : KG) (tag : Nat → Nat) (L : List Nat) (Fo : Nat → va_E) (ho : okT G ttC tag L Fo) (p0 : Nat) (p1 : Int32) (x0 : Nat) (x1 : Nat) (x2 : Nat) (x3 : Nat) (x4 : Nat) (x5 : Nat) (m0 : p0 ∈ L) (g0 : tag p0 = 25) (h1 : 4 ≤ p1.toInt ∧ p1.toInt ≤ 4) (mx0 : x0 ∈ L) (gx0 : tag x0 = 24) (pf0 : fld Fo p0 0 = .ref x0) (mx1 : x1 ∈ L) (gx1 : tag x1 = 18) (pf1 : fld Fo p0 1 = .ref x1) (mx2 : x2 ∈ L) (gx2 : tag x2 = 19) (pf2 : fld Fo p0 2 = .ref x2) (mx3 : x3 ∈ L) (gx3 : tag x3 = 1) (pf3 : fld Fo x0 0 = .ref x3) (mx4 : x4 ∈ L) (gx4 : tag x4 = 14) (pf4 : fld Fo p0 10 = .ref x4) (mx5 : x5 ∈ L) (gx5 : tag x5 = 15) (pf5 : fld Fo p0 11 = .ref x5) (hrel : NSR Fo x4 x5) : TMi l yX3_name cX3_name 3 (some .int) { frames := 6, cells := 0, slots := 0, locals := 128 } G ttC tag L Fo [.ref p0, .int p1] (fun r F1 => (0 ≤ r.toInt ∧ r.toInt ≤ 3) ∧ ((∀ b j : Nat, (tag b ≠ 24 ∨ j ≠ 2) → (tag b ≠ 24 ∨ j ≠ 3) → (tag b ≠ 24 ∨ j ≠ 4) → (tag b ≠ 24 ∨ j ≠ 5) → (tag b ≠ 24 ∨ j ≠ 6) → (tag b ≠ 24 ∨ j ≠ 7) → (tag b ≠ 25 ∨ j ≠ 3) → (tag b ≠ 25 ∨ j ≠ 4) → fld F1 b j = fld Fo b j) ∧ EF tag F1 Fo) ∧ (NSR F1 x4 x5)) := by
  refine t_bodyi (y := yX3_name) (cd := cX3_name) (mL := 3) (rt := (some .int)) (rm := { frames := 6, cells := 0, slots := 0, locals := 128 }) (av := [.ref p0, .int p1]) (by decide) (Nat.le_of_ble_eq_true rfl) ho ?_
  intro p e s m args below meth c ls A Q hQ X hT hl
  have hx := X.1.1
  have hb := X.1.2.1
  have hl : lv_has ls 3 [(0, .ref p0), (1, .int p1)] := hl
  obtain ⟨F, hFo⟩ : ∃ F : Nat → va_E, F = Fo := ⟨_, rfl⟩
  rw [← hFo] at hT pf0 pf1 pf2 pf3 pf4 pf5 hrel
  have hfr : (∀ b j : Nat, (tag b ≠ 24 ∨ j ≠ 2) → (tag b ≠ 24 ∨ j ≠ 3) → (tag b ≠ 24 ∨ j ≠ 4) → (tag b ≠ 24 ∨ j ≠ 5) → (tag b ≠ 24 ∨ j ≠ 6) → (tag b ≠ 24 ∨ j ≠ 7) → (tag b ≠ 25 ∨ j ≠ 3) → (tag b ≠ 25 ∨ j ≠ 4) → fld F b j = fld Fo b j) ∧ EF tag F Fo := by
    rw [hFo]
    exact ⟨by intros; rfl, fun _ _ _ => rfl⟩
  refine lv_aload_n hx hb dX3_name_0 rfl (lv_at hl 0 rfl) ?_
  refine t_get (C := RX3) (T := TX3) (N := 13) X hT m0 g0 rfl rfl 0 (by decide) qw_73 inlX3 rfl dX3_name_1 (fun v55088 hv55088 ov55088 => ?_)
  obtain rfl : v55088 = .ref x0 := hv55088.symm.trans pf0
  refine t_get (C := RX8) (T := TX8) (N := 8) X hT mx0 gx0 rfl rfl 3 (by decide) qw_170 inlX8 rfl dX3_name_4 (fun v55089 hv55089 ov55089 => ?_)
  obtain ⟨z55090, rfl, rz55090⟩ := okV_i ov55089
  refine lv_iconst (v := 1) hx hb dX3_name_7 (by decide) ?_
  refine lv_icmp_ne (tgt := 19) hx hb dX3_name_8 (by decide) (fun c55091 => ?_) (fun c55091 => ?_)
  · have w55092 := cv_ne (rfl : z55090.toInt = z55090.toInt) (by decide : (1 : Int32).toInt = 1) c55091
    refine lv_aload_n hx hb dX3_name_19 rfl (lv_at hl 0 rfl) ?_
    refine lv_iconst (v := 1) hx hb dX3_name_20 (by decide) ?_
    refine lv_aload_n hx hb dX3_name_21 rfl (lv_at hl 0 rfl) ?_
    refine t_get (C := RX3) (T := TX3) (N := 13) X hT m0 g0 rfl rfl 0 (by decide) qw_73 inlX3 rfl dX3_name_22 (fun v55093 hv55093 ov55093 => ?_)
    obtain rfl : v55093 = .ref x0 := hv55093.symm.trans pf0
    refine t_get (C := RX8) (T := TX8) (N := 8) X hT mx0 gx0 rfl rfl 4 (by decide) qw_227 inlX8 rfl dX3_name_25 (fun v55094 hv55094 ov55094 => ?_)
    obtain ⟨z55095, rfl, rz55095⟩ := okV_i ov55094
    refine t_cVv (n := 2) (C := RX3) (T := TX3) (N := 13) (As := [.int 1, .int z55095]) (rest := []) X hT (kt111_X3_fail l G tag L F hT.2.2.2 p0 1 z55095 m0 g0 (by decide)) m0 g0 rfl rfl qw_287 qw_288 qw_289 qw_28 qw_290 ⟨rfl, by decide +kernel, by decide +kernel, by decide +kernel⟩ ⟨Nat.le_of_ble_eq_true rfl, Nat.le_of_ble_eq_true rfl⟩ hl rfl rfl (Nat.le_of_ble_eq_true rfl) dX3_name_28 ⟨Nat.le_of_ble_eq_true rfl, Nat.le_of_ble_eq_true rfl⟩ (fun F H locs hT hz55096 => ?_)
    obtain ⟨yz55096, xz55096_0⟩ := hz55096
    have pf0 := (yz55096.1 _ 0 (Or.inr (by decide)) (Or.inr (by decide))).trans pf0
    have pf1 := (yz55096.1 _ 1 (Or.inr (by decide)) (Or.inr (by decide))).trans pf1
    have pf2 := (yz55096.1 _ 2 (Or.inr (by decide)) (Or.inr (by decide))).trans pf2
    have pf3 := (yz55096.1 _ 0 (Or.inr (by decide)) (Or.inr (by decide))).trans pf3
    have pf4 := (yz55096.1 _ 10 (Or.inr (by decide)) (Or.inr (by decide))).trans pf4
    have pf5 := (yz55096.1 _ 11 (Or.inr (by decide)) (Or.inr (by decide))).trans pf5
    have hv55089 := (yz55096.1 _ 3 (Or.inl (by rw [gx0]; decide)) (Or.inr (by decide))).trans hv55089
    have hv55094 := (yz55096.1 _ 4 (Or.inr (by decide)) (Or.inl (by rw [gx0]; decide))).trans hv55094
    have hfr : (∀ b j : Nat, (tag b ≠ 24 ∨ j ≠ 2) → (tag b ≠ 24 ∨ j ≠ 3) → (tag b ≠ 24 ∨ j ≠ 4) → (tag b ≠ 24 ∨ j ≠ 5) → (tag b ≠ 24 ∨ j ≠ 6) → (tag b ≠ 24 ∨ j ≠ 7) → (tag b ≠ 25 ∨ j ≠ 3) → (tag b ≠ 25 ∨ j ≠ 4) → fld F b j = fld Fo b j) ∧ EF tag F Fo := ⟨fun b j n24_2 n24_3 n24_4 n24_5 n24_6 n24_7 n25_3 n25_4 => (yz55096.1 b j n25_3 n25_4).trans (hfr.1 b j n24_2 n24_3 n24_4 n24_5 n24_6 n24_7 n25_3 n25_4), fun b j hb => (yz55096.2 b j hb).trans (hfr.2 b j hb)⟩
    have hrel := nsr_of (fun j => yz55096.2 _ j (Or.inl gx4)) (fun j => yz55096.2 _ j (Or.inr gx5)) hrel
    obtain ⟨z55097, qz55097, rz55097⟩ := xz55096_0
    refine lv_aload_n hx hb dX3_name_31 rfl (lv_at hl 0 rfl) ?_
    refine t_cVi (n := 0) (C := RX3) (T := TX3) (N := 13) (As := []) (rest := []) X hT (kt113_X3_findName l G tag L F hT.2.2.2 p0 x0 x1 x2 x3 x4 x5 m0 g0 mx0 gx0 pf0 mx1 gx1 pf1 mx2 gx2 pf2 mx3 gx3 pf3 mx4 gx4 pf4 mx5 gx5 pf5) m0 g0 rfl rfl qw_361 qw_362 qw_363 qw_28 qw_364 ⟨rfl, by decide +kernel, by decide +kernel, by decide +kernel⟩ ⟨Nat.le_of_ble_eq_true rfl, Nat.le_of_ble_eq_true rfl⟩ hl rfl rfl (Nat.le_of_ble_eq_true rfl) dX3_name_32 ⟨Nat.le_of_ble_eq_true rfl, Nat.le_of_ble_eq_true rfl⟩ (fun z55098 F9 H locs hT hz55098 => ?_)
    obtain ⟨fz55098, hz55098⟩ := hz55098
    rw [fz55098] at hT
    refine lv_istore_n (lv' := [(2, .int z55098), (0, .ref p0), (1, .int p1)]) hx hb dX3_name_35 rfl hl (by decide) rfl (fun ls hl => ?_)
    refine lv_iload_n hx hb dX3_name_36 rfl (lv_at hl 0 rfl) ?_
    refine lv_iconst (v := (-1)) hx hb dX3_name_37 (by decide) ?_
    refine lv_icmp_eq (tgt := 51) hx hb dX3_name_38 (by decide) (fun c55099 => ?_) (fun c55099 => ?_)
    · have w55100 := cv_eq (rfl : z55098.toInt = z55098.toInt) (by decide : ((-1) : Int32).toInt = (-1)) c55099
      refine lv_aload_n hx hb dX3_name_51 rfl (lv_at hl 1 rfl) ?_
      refine lv_iconst (v := 2) hx hb dX3_name_52 (by decide) ?_
      refine lv_aload_n hx hb dX3_name_53 rfl (lv_at hl 1 rfl) ?_
      refine t_get (C := RX3) (T := TX3) (N := 13) X hT m0 g0 rfl rfl 0 (by decide) qw_73 inlX3 rfl dX3_name_54 (fun v55101 hv55101 ov55101 => ?_)
      obtain rfl : v55101 = .ref x0 := hv55101.symm.trans pf0
      refine t_get (C := RX8) (T := TX8) (N := 8) X hT mx0 gx0 rfl rfl 4 (by decide) qw_227 inlX8 rfl dX3_name_57 (fun v55102 hv55102 ov55102 => ?_)
      obtain rfl : v55102 = .int z55095 := hv55102.symm.trans hv55094
      refine t_cVv (n := 2) (C := RX3) (T := TX3) (N := 13) (As := [.int 2, .int z55095]) (rest := []) X hT (kt111_X3_fail l G tag L F hT.2.2.2 p0 2 z55095 m0 g0 (by decide)) m0 g0 rfl rfl qw_287 qw_288 qw_289 qw_28 qw_290 ⟨rfl, by decide +kernel, by decide +kernel, by decide +kernel⟩ ⟨Nat.le_of_ble_eq_true rfl, Nat.le_of_ble_eq_true rfl⟩ hl rfl rfl (Nat.le_of_ble_eq_true rfl) dX3_name_60 ⟨Nat.le_of_ble_eq_true rfl, Nat.le_of_ble_eq_true rfl⟩ (fun F H locs hT hz55103 => ?_)
      obtain ⟨yz55103, xz55103_0⟩ := hz55103
      have pf0 := (yz55103.1 _ 0 (Or.inr (by decide)) (Or.inr (by decide))).trans pf0
      have pf1 := (yz55103.1 _ 1 (Or.inr (by decide)) (Or.inr (by decide))).trans pf1
      have pf2 := (yz55103.1 _ 2 (Or.inr (by decide)) (Or.inr (by decide))).trans pf2
      have pf3 := (yz55103.1 _ 0 (Or.inr (by decide)) (Or.inr (by decide))).trans pf3
      have pf4 := (yz55103.1 _ 10 (Or.inr (by decide)) (Or.inr (by decide))).trans pf4
      have pf5 := (yz55103.1 _ 11 (Or.inr (by decide)) (Or.inr (by decide))).trans pf5
      have hv55089 := (yz55103.1 _ 3 (Or.inl (by rw [gx0]; decide)) (Or.inr (by decide))).trans hv55089
      have hv55094 := (yz55103.1 _ 4 (Or.inr (by decide)) (Or.inl (by rw [gx0]; decide))).trans hv55094
      have hfr : (∀ b j : Nat, (tag b ≠ 24 ∨ j ≠ 2) → (tag b ≠ 24 ∨ j ≠ 3) → (tag b ≠ 24 ∨ j ≠ 4) → (tag b ≠ 24 ∨ j ≠ 5) → (tag b ≠ 24 ∨ j ≠ 6) → (tag b ≠ 24 ∨ j ≠ 7) → (tag b ≠ 25 ∨ j ≠ 3) → (tag b ≠ 25 ∨ j ≠ 4) → fld F b j = fld Fo b j) ∧ EF tag F Fo := ⟨fun b j n24_2 n24_3 n24_4 n24_5 n24_6 n24_7 n25_3 n25_4 => (yz55103.1 b j n25_3 n25_4).trans (hfr.1 b j n24_2 n24_3 n24_4 n24_5 n24_6 n24_7 n25_3 n25_4), fun b j hb => (yz55103.2 b j hb).trans (hfr.2 b j hb)⟩
      have hrel := nsr_of (fun j => yz55103.2 _ j (Or.inl gx4)) (fun j => yz55103.2 _ j (Or.inr gx5)) hrel
      obtain ⟨z55104, qz55104, rz55104⟩ := xz55103_0
      refine lv_aload_n hx hb dX3_name_63 rfl (lv_at hl 1 rfl) ?_
      refine t_get (C := RX3) (T := TX3) (N := 13) X hT m0 g0 rfl rfl 3 (by decide) qw_163 inlX3 rfl dX3_name_64 (fun v55105 hv55105 ov55105 => ?_)
      obtain rfl : v55105 = .int z55104 := hv55105.symm.trans qz55104
      refine lv_if_ne (tgt := 75) hx hb dX3_name_67 (by decide) (fun c55106 => ?_) (fun c55106 => ?_)
      · have w55107 := cv_ne (rfl : z55104.toInt = z55104.toInt) (by decide : (0 : Int32).toInt = 0) c55106
        refine lv_iconst (v := 0) hx hb dX3_name_75 (by decide) ?_
        exact t_iret hQ X hT (⟨(by decide), hfr, hrel⟩) (Nat.le_of_ble_eq_true rfl) (Nat.le_of_ble_eq_true rfl) dX3_name_76
      · have w55108 := cv_eq (rfl : z55104.toInt = z55104.toInt) (by decide : (0 : Int32).toInt = 0) c55106
        exfalso
        omega
    · have w55109 := cv_ne (rfl : z55098.toInt = z55098.toInt) (by decide : ((-1) : Int32).toInt = (-1)) c55099
      refine lv_aload_n hx hb dX3_name_41 rfl (lv_at hl 1 rfl) ?_
      refine t_get (C := RX3) (T := TX3) (N := 13) X hT m0 g0 rfl rfl 10 (by decide) qw_75 inlX3 rfl dX3_name_42 (fun v55110 hv55110 ov55110 => ?_)
      obtain rfl : v55110 = .ref x4 := hv55110.symm.trans pf4
      refine lv_iload_n hx hb dX3_name_45 rfl (lv_at hl 0 rfl) ?_
      refine t_ild X hT mx4 gx4 rfl (by omega) dX3_name_46 (fun z55111 vz55111 rz55111 => ?_)
      have rz55111 : (-2147483648) ≤ z55111.toInt ∧ z55111.toInt ≤ 2147483647 := rz55111
      refine lv_iload_n hx hb dX3_name_47 rfl (lv_at hl 2 rfl) ?_
      refine lv_icmp_eq (tgt := 63) hx hb dX3_name_48 (by decide) (fun c55112 => ?_) (fun c55112 => ?_)
      · have w55113 := cv_eq (rfl : z55111.toInt = z55111.toInt) (rfl : p1.toInt = p1.toInt) c55112
        refine lv_aload_n hx hb dX3_name_63 rfl (lv_at hl 1 rfl) ?_
        refine t_get (C := RX3) (T := TX3) (N := 13) X hT m0 g0 rfl rfl 3 (by decide) qw_163 inlX3 rfl dX3_name_64 (fun v55114 hv55114 ov55114 => ?_)
        obtain rfl : v55114 = .int z55097 := hv55114.symm.trans qz55097
        refine lv_if_ne (tgt := 75) hx hb dX3_name_67 (by decide) (fun c55115 => ?_) (fun c55115 => ?_)
        · have w55116 := cv_ne (rfl : z55097.toInt = z55097.toInt) (by decide : (0 : Int32).toInt = 0) c55115
          refine lv_iconst (v := 0) hx hb dX3_name_75 (by decide) ?_
          exact t_iret hQ X hT (⟨(by decide), hfr, hrel⟩) (Nat.le_of_ble_eq_true rfl) (Nat.le_of_ble_eq_true rfl) dX3_name_76
        · have w55117 := cv_eq (rfl : z55097.toInt = z55097.toInt) (by decide : (0 : Int32).toInt = 0) c55115
          exfalso
          omega
      · have w55118 := cv_ne (rfl : z55111.toInt = z55111.toInt) (rfl : p1.toInt = p1.toInt) c55112
        refine lv_aload_n hx hb dX3_name_51 rfl (lv_at hl 1 rfl) ?_
        refine lv_iconst (v := 2) hx hb dX3_name_52 (by decide) ?_
        refine lv_aload_n hx hb dX3_name_53 rfl (lv_at hl 1 rfl) ?_
        refine t_get (C := RX3) (T := TX3) (N := 13) X hT m0 g0 rfl rfl 0 (by decide) qw_73 inlX3 rfl dX3_name_54 (fun v55119 hv55119 ov55119 => ?_)
        obtain rfl : v55119 = .ref x0 := hv55119.symm.trans pf0
        refine t_get (C := RX8) (T := TX8) (N := 8) X hT mx0 gx0 rfl rfl 4 (by decide) qw_227 inlX8 rfl dX3_name_57 (fun v55120 hv55120 ov55120 => ?_)
        obtain rfl : v55120 = .int z55095 := hv55120.symm.trans hv55094
        refine t_cVv (n := 2) (C := RX3) (T := TX3) (N := 13) (As := [.int 2, .int z55095]) (rest := []) X hT (kt111_X3_fail l G tag L F hT.2.2.2 p0 2 z55095 m0 g0 (by decide)) m0 g0 rfl rfl qw_287 qw_288 qw_289 qw_28 qw_290 ⟨rfl, by decide +kernel, by decide +kernel, by decide +kernel⟩ ⟨Nat.le_of_ble_eq_true rfl, Nat.le_of_ble_eq_true rfl⟩ hl rfl rfl (Nat.le_of_ble_eq_true rfl) dX3_name_60 ⟨Nat.le_of_ble_eq_true rfl, Nat.le_of_ble_eq_true rfl⟩ (fun F H locs hT hz55121 => ?_)
        obtain ⟨yz55121, xz55121_0⟩ := hz55121
        have pf0 := (yz55121.1 _ 0 (Or.inr (by decide)) (Or.inr (by decide))).trans pf0
        have pf1 := (yz55121.1 _ 1 (Or.inr (by decide)) (Or.inr (by decide))).trans pf1
        have pf2 := (yz55121.1 _ 2 (Or.inr (by decide)) (Or.inr (by decide))).trans pf2
        have pf3 := (yz55121.1 _ 0 (Or.inr (by decide)) (Or.inr (by decide))).trans pf3
        have pf4 := (yz55121.1 _ 10 (Or.inr (by decide)) (Or.inr (by decide))).trans pf4
        have pf5 := (yz55121.1 _ 11 (Or.inr (by decide)) (Or.inr (by decide))).trans pf5
        have hv55089 := (yz55121.1 _ 3 (Or.inl (by rw [gx0]; decide)) (Or.inr (by decide))).trans hv55089
        have hv55094 := (yz55121.1 _ 4 (Or.inr (by decide)) (Or.inl (by rw [gx0]; decide))).trans hv55094
        have vz55111 := (yz55121.2 _ _ (Or.inl gx4)).trans vz55111
        have hfr : (∀ b j : Nat, (tag b ≠ 24 ∨ j ≠ 2) → (tag b ≠ 24 ∨ j ≠ 3) → (tag b ≠ 24 ∨ j ≠ 4) → (tag b ≠ 24 ∨ j ≠ 5) → (tag b ≠ 24 ∨ j ≠ 6) → (tag b ≠ 24 ∨ j ≠ 7) → (tag b ≠ 25 ∨ j ≠ 3) → (tag b ≠ 25 ∨ j ≠ 4) → fld F b j = fld Fo b j) ∧ EF tag F Fo := ⟨fun b j n24_2 n24_3 n24_4 n24_5 n24_6 n24_7 n25_3 n25_4 => (yz55121.1 b j n25_3 n25_4).trans (hfr.1 b j n24_2 n24_3 n24_4 n24_5 n24_6 n24_7 n25_3 n25_4), fun b j hb => (yz55121.2 b j hb).trans (hfr.2 b j hb)⟩
        have hrel := nsr_of (fun j => yz55121.2 _ j (Or.inl gx4)) (fun j => yz55121.2 _ j (Or.inr gx5)) hrel
        obtain ⟨z55122, qz55122, rz55122⟩ := xz55121_0
        refine lv_aload_n hx hb dX3_name_63 rfl (lv_at hl 1 rfl) ?_
        refine t_get (C := RX3) (T := TX3) (N := 13) X hT m0 g0 rfl rfl 3 (by decide) qw_163 inlX3 rfl dX3_name_64 (fun v55123 hv55123 ov55123 => ?_)
        obtain rfl : v55123 = .int z55122 := hv55123.symm.trans qz55122
        refine lv_if_ne (tgt := 75) hx hb dX3_name_67 (by decide) (fun c55124 => ?_) (fun c55124 => ?_)
        · have w55125 := cv_ne (rfl : z55122.toInt = z55122.toInt) (by decide : (0 : Int32).toInt = 0) c55124
          refine lv_iconst (v := 0) hx hb dX3_name_75 (by decide) ?_
          exact t_iret hQ X hT (⟨(by decide), hfr, hrel⟩) (Nat.le_of_ble_eq_true rfl) (Nat.le_of_ble_eq_true rfl) dX3_name_76
        · have w55126 := cv_eq (rfl : z55122.toInt = z55122.toInt) (by decide : (0 : Int32).toInt = 0) c55124
          exfalso
          omega
  · have w55127 := cv_eq (rfl : z55090.toInt = z55090.toInt) (by decide : (1 : Int32).toInt = 1) c55091
    refine lv_aload_n hx hb dX3_name_11 rfl (lv_at hl 0 rfl) ?_
    refine t_cVi (n := 0) (C := RX3) (T := TX3) (N := 13) (As := []) (rest := []) X hT (kt108_X3_lineSort l G tag L F hT.2.2.2 p0 x0 x1 x2 x3 x4 x5 m0 g0 mx0 gx0 pf0 mx1 gx1 pf1 mx2 gx2 pf2 mx3 gx3 pf3 mx4 gx4 pf4 mx5 gx5 pf5) m0 g0 rfl rfl qw_230 qw_231 qw_232 qw_28 qw_233 ⟨rfl, by decide +kernel, by decide +kernel, by decide +kernel⟩ ⟨Nat.le_of_ble_eq_true rfl, Nat.le_of_ble_eq_true rfl⟩ hl rfl rfl (Nat.le_of_ble_eq_true rfl) dX3_name_12 ⟨Nat.le_of_ble_eq_true rfl, Nat.le_of_ble_eq_true rfl⟩ (fun z55128 F9 H locs hT hz55128 => ?_)
    obtain ⟨fz55128, hz55128⟩ := hz55128
    rw [fz55128] at hT
    refine lv_iconst (v := (-1)) hx hb dX3_name_15 (by decide) ?_
    refine lv_icmp_eq (tgt := 31) hx hb dX3_name_16 (by decide) (fun c55129 => ?_) (fun c55129 => ?_)
    · have w55130 := cv_eq (rfl : z55128.toInt = z55128.toInt) (by decide : ((-1) : Int32).toInt = (-1)) c55129
      refine lv_aload_n hx hb dX3_name_31 rfl (lv_at hl 0 rfl) ?_
      refine t_cVi (n := 0) (C := RX3) (T := TX3) (N := 13) (As := []) (rest := []) X hT (kt113_X3_findName l G tag L F hT.2.2.2 p0 x0 x1 x2 x3 x4 x5 m0 g0 mx0 gx0 pf0 mx1 gx1 pf1 mx2 gx2 pf2 mx3 gx3 pf3 mx4 gx4 pf4 mx5 gx5 pf5) m0 g0 rfl rfl qw_361 qw_362 qw_363 qw_28 qw_364 ⟨rfl, by decide +kernel, by decide +kernel, by decide +kernel⟩ ⟨Nat.le_of_ble_eq_true rfl, Nat.le_of_ble_eq_true rfl⟩ hl rfl rfl (Nat.le_of_ble_eq_true rfl) dX3_name_32 ⟨Nat.le_of_ble_eq_true rfl, Nat.le_of_ble_eq_true rfl⟩ (fun z55131 F9 H locs hT hz55131 => ?_)
      obtain ⟨fz55131, hz55131⟩ := hz55131
      rw [fz55131] at hT
      refine lv_istore_n (lv' := [(2, .int z55131), (0, .ref p0), (1, .int p1)]) hx hb dX3_name_35 rfl hl (by decide) rfl (fun ls hl => ?_)
      refine lv_iload_n hx hb dX3_name_36 rfl (lv_at hl 0 rfl) ?_
      refine lv_iconst (v := (-1)) hx hb dX3_name_37 (by decide) ?_
      refine lv_icmp_eq (tgt := 51) hx hb dX3_name_38 (by decide) (fun c55132 => ?_) (fun c55132 => ?_)
      · have w55133 := cv_eq (rfl : z55131.toInt = z55131.toInt) (by decide : ((-1) : Int32).toInt = (-1)) c55132
        refine lv_aload_n hx hb dX3_name_51 rfl (lv_at hl 1 rfl) ?_
        refine lv_iconst (v := 2) hx hb dX3_name_52 (by decide) ?_
        refine lv_aload_n hx hb dX3_name_53 rfl (lv_at hl 1 rfl) ?_
        refine t_get (C := RX3) (T := TX3) (N := 13) X hT m0 g0 rfl rfl 0 (by decide) qw_73 inlX3 rfl dX3_name_54 (fun v55134 hv55134 ov55134 => ?_)
        obtain rfl : v55134 = .ref x0 := hv55134.symm.trans pf0
        refine t_get (C := RX8) (T := TX8) (N := 8) X hT mx0 gx0 rfl rfl 4 (by decide) qw_227 inlX8 rfl dX3_name_57 (fun v55135 hv55135 ov55135 => ?_)
        obtain ⟨z55136, rfl, rz55136⟩ := okV_i ov55135
        refine t_cVv (n := 2) (C := RX3) (T := TX3) (N := 13) (As := [.int 2, .int z55136]) (rest := []) X hT (kt111_X3_fail l G tag L F hT.2.2.2 p0 2 z55136 m0 g0 (by decide)) m0 g0 rfl rfl qw_287 qw_288 qw_289 qw_28 qw_290 ⟨rfl, by decide +kernel, by decide +kernel, by decide +kernel⟩ ⟨Nat.le_of_ble_eq_true rfl, Nat.le_of_ble_eq_true rfl⟩ hl rfl rfl (Nat.le_of_ble_eq_true rfl) dX3_name_60 ⟨Nat.le_of_ble_eq_true rfl, Nat.le_of_ble_eq_true rfl⟩ (fun F H locs hT hz55137 => ?_)
        obtain ⟨yz55137, xz55137_0⟩ := hz55137
        have pf0 := (yz55137.1 _ 0 (Or.inr (by decide)) (Or.inr (by decide))).trans pf0
        have pf1 := (yz55137.1 _ 1 (Or.inr (by decide)) (Or.inr (by decide))).trans pf1
        have pf2 := (yz55137.1 _ 2 (Or.inr (by decide)) (Or.inr (by decide))).trans pf2
        have pf3 := (yz55137.1 _ 0 (Or.inr (by decide)) (Or.inr (by decide))).trans pf3
        have pf4 := (yz55137.1 _ 10 (Or.inr (by decide)) (Or.inr (by decide))).trans pf4
        have pf5 := (yz55137.1 _ 11 (Or.inr (by decide)) (Or.inr (by decide))).trans pf5
        have hv55089 := (yz55137.1 _ 3 (Or.inl (by rw [gx0]; decide)) (Or.inr (by decide))).trans hv55089
        have hv55135 := (yz55137.1 _ 4 (Or.inr (by decide)) (Or.inl (by rw [gx0]; decide))).trans hv55135
        have hfr : (∀ b j : Nat, (tag b ≠ 24 ∨ j ≠ 2) → (tag b ≠ 24 ∨ j ≠ 3) → (tag b ≠ 24 ∨ j ≠ 4) → (tag b ≠ 24 ∨ j ≠ 5) → (tag b ≠ 24 ∨ j ≠ 6) → (tag b ≠ 24 ∨ j ≠ 7) → (tag b ≠ 25 ∨ j ≠ 3) → (tag b ≠ 25 ∨ j ≠ 4) → fld F b j = fld Fo b j) ∧ EF tag F Fo := ⟨fun b j n24_2 n24_3 n24_4 n24_5 n24_6 n24_7 n25_3 n25_4 => (yz55137.1 b j n25_3 n25_4).trans (hfr.1 b j n24_2 n24_3 n24_4 n24_5 n24_6 n24_7 n25_3 n25_4), fun b j hb => (yz55137.2 b j hb).trans (hfr.2 b j hb)⟩
        have hrel := nsr_of (fun j => yz55137.2 _ j (Or.inl gx4)) (fun j => yz55137.2 _ j (Or.inr gx5)) hrel
        obtain ⟨z55138, qz55138, rz55138⟩ := xz55137_0
        refine lv_aload_n hx hb dX3_name_63 rfl (lv_at hl 1 rfl) ?_
        refine t_get (C := RX3) (T := TX3) (N := 13) X hT m0 g0 rfl rfl 3 (by decide) qw_163 inlX3 rfl dX3_name_64 (fun v55139 hv55139 ov55139 => ?_)
        obtain rfl : v55139 = .int z55138 := hv55139.symm.trans qz55138
        refine lv_if_ne (tgt := 75) hx hb dX3_name_67 (by decide) (fun c55140 => ?_) (fun c55140 => ?_)
        · have w55141 := cv_ne (rfl : z55138.toInt = z55138.toInt) (by decide : (0 : Int32).toInt = 0) c55140
          refine lv_iconst (v := 0) hx hb dX3_name_75 (by decide) ?_
          exact t_iret hQ X hT (⟨(by decide), hfr, hrel⟩) (Nat.le_of_ble_eq_true rfl) (Nat.le_of_ble_eq_true rfl) dX3_name_76
        · have w55142 := cv_eq (rfl : z55138.toInt = z55138.toInt) (by decide : (0 : Int32).toInt = 0) c55140
          exfalso
          omega
      · have w55143 := cv_ne (rfl : z55131.toInt = z55131.toInt) (by decide : ((-1) : Int32).toInt = (-1)) c55132
        refine lv_aload_n hx hb dX3_name_41 rfl (lv_at hl 1 rfl) ?_
        refine t_get (C := RX3) (T := TX3) (N := 13) X hT m0 g0 rfl rfl 10 (by decide) qw_75 inlX3 rfl dX3_name_42 (fun v55144 hv55144 ov55144 => ?_)
        obtain rfl : v55144 = .ref x4 := hv55144.symm.trans pf4
        refine lv_iload_n hx hb dX3_name_45 rfl (lv_at hl 0 rfl) ?_
        refine t_ild X hT mx4 gx4 rfl (by omega) dX3_name_46 (fun z55145 vz55145 rz55145 => ?_)
        have rz55145 : (-2147483648) ≤ z55145.toInt ∧ z55145.toInt ≤ 2147483647 := rz55145
        refine lv_iload_n hx hb dX3_name_47 rfl (lv_at hl 2 rfl) ?_
        refine lv_icmp_eq (tgt := 63) hx hb dX3_name_48 (by decide) (fun c55146 => ?_) (fun c55146 => ?_)
        · have w55147 := cv_eq (rfl : z55145.toInt = z55145.toInt) (rfl : p1.toInt = p1.toInt) c55146
          refine lv_aload_n hx hb dX3_name_63 rfl (lv_at hl 1 rfl) ?_
          refine t_get (C := RX3) (T := TX3) (N := 13) X hT m0 g0 rfl rfl 3 (by decide) qw_163 inlX3 rfl dX3_name_64 (fun v55148 hv55148 ov55148 => ?_)
          obtain ⟨z55149, rfl, rz55149⟩ := okV_i ov55148
          refine lv_if_ne (tgt := 75) hx hb dX3_name_67 (by decide) (fun c55150 => ?_) (fun c55150 => ?_)
          · have w55151 := cv_ne (rfl : z55149.toInt = z55149.toInt) (by decide : (0 : Int32).toInt = 0) c55150
            refine lv_iconst (v := 0) hx hb dX3_name_75 (by decide) ?_
            exact t_iret hQ X hT (⟨(by decide), hfr, hrel⟩) (Nat.le_of_ble_eq_true rfl) (Nat.le_of_ble_eq_true rfl) dX3_name_76
          · have w55152 := cv_eq (rfl : z55149.toInt = z55149.toInt) (by decide : (0 : Int32).toInt = 0) c55150
            refine lv_iload_n hx hb dX3_name_70 rfl (lv_at hl 0 rfl) ?_
            refine lv_iconst (v := (-1)) hx hb dX3_name_71 (by decide) ?_
            refine lv_icmp_ne (tgt := 77) hx hb dX3_name_72 (by decide) (fun c55153 => ?_) (fun c55153 => ?_)
            · have w55154 := cv_ne (rfl : z55131.toInt = z55131.toInt) (by decide : ((-1) : Int32).toInt = (-1)) c55153
              refine lv_aload_n hx hb dX3_name_77 rfl (lv_at hl 1 rfl) ?_
              refine t_get (C := RX3) (T := TX3) (N := 13) X hT m0 g0 rfl rfl 0 (by decide) qw_73 inlX3 rfl dX3_name_78 (fun v55155 hv55155 ov55155 => ?_)
              obtain rfl : v55155 = .ref x0 := hv55155.symm.trans pf0
              refine t_cVv (n := 0) (C := RX8) (T := TX8) (N := 8) (As := []) (rest := []) X hT (kt98_X8_advance l G tag L F hT.2.2.2 x0 x3 mx0 gx0 mx3 gx3 pf3) mx0 gx0 rfl rfl qw_305 qw_197 qw_198 qw_72 qw_199 ⟨rfl, by decide +kernel, by decide +kernel, by decide +kernel⟩ ⟨Nat.le_of_ble_eq_true rfl, Nat.le_of_ble_eq_true rfl⟩ hl rfl rfl (Nat.le_of_ble_eq_true rfl) dX3_name_81 ⟨Nat.le_of_ble_eq_true rfl, Nat.le_of_ble_eq_true rfl⟩ (fun F H locs hT hz55156 => ?_)
              have yz55156 := hz55156
              have pf0 := (yz55156.1 _ 0 (Or.inr (by decide)) (Or.inr (by decide)) (Or.inr (by decide)) (Or.inr (by decide)) (Or.inr (by decide)) (Or.inr (by decide))).trans pf0
              have pf1 := (yz55156.1 _ 1 (Or.inr (by decide)) (Or.inr (by decide)) (Or.inr (by decide)) (Or.inr (by decide)) (Or.inr (by decide)) (Or.inr (by decide))).trans pf1
              have pf2 := (yz55156.1 _ 2 (Or.inl (by rw [g0]; decide)) (Or.inr (by decide)) (Or.inr (by decide)) (Or.inr (by decide)) (Or.inr (by decide)) (Or.inr (by decide))).trans pf2
              have pf3 := (yz55156.1 _ 0 (Or.inr (by decide)) (Or.inr (by decide)) (Or.inr (by decide)) (Or.inr (by decide)) (Or.inr (by decide)) (Or.inr (by decide))).trans pf3
              have pf4 := (yz55156.1 _ 10 (Or.inr (by decide)) (Or.inr (by decide)) (Or.inr (by decide)) (Or.inr (by decide)) (Or.inr (by decide)) (Or.inr (by decide))).trans pf4
              have pf5 := (yz55156.1 _ 11 (Or.inr (by decide)) (Or.inr (by decide)) (Or.inr (by decide)) (Or.inr (by decide)) (Or.inr (by decide)) (Or.inr (by decide))).trans pf5
              have vz55145 := (yz55156.2 _ _ (Or.inl gx4)).trans vz55145
              have hv55148 := (yz55156.1 _ 3 (Or.inr (by decide)) (Or.inl (by rw [g0]; decide)) (Or.inr (by decide)) (Or.inr (by decide)) (Or.inr (by decide)) (Or.inr (by decide))).trans hv55148
              have hfr : (∀ b j : Nat, (tag b ≠ 24 ∨ j ≠ 2) → (tag b ≠ 24 ∨ j ≠ 3) → (tag b ≠ 24 ∨ j ≠ 4) → (tag b ≠ 24 ∨ j ≠ 5) → (tag b ≠ 24 ∨ j ≠ 6) → (tag b ≠ 24 ∨ j ≠ 7) → (tag b ≠ 25 ∨ j ≠ 3) → (tag b ≠ 25 ∨ j ≠ 4) → fld F b j = fld Fo b j) ∧ EF tag F Fo := ⟨fun b j n24_2 n24_3 n24_4 n24_5 n24_6 n24_7 n25_3 n25_4 => (yz55156.1 b j n24_2 n24_3 n24_4 n24_5 n24_6 n24_7).trans (hfr.1 b j n24_2 n24_3 n24_4 n24_5 n24_6 n24_7 n25_3 n25_4), fun b j hb => (yz55156.2 b j hb).trans (hfr.2 b j hb)⟩
              have hrel := nsr_of (fun j => yz55156.2 _ j (Or.inl gx4)) (fun j => yz55156.2 _ j (Or.inr gx5)) hrel
              refine lv_aload_n hx hb dX3_name_84 rfl (lv_at hl 1 rfl) ?_
              refine t_get (C := RX3) (T := TX3) (N := 13) X hT m0 g0 rfl rfl 11 (by decide) qw_76 inlX3 rfl dX3_name_85 (fun v55157 hv55157 ov55157 => ?_)
              obtain rfl : v55157 = .ref x5 := hv55157.symm.trans pf5
              refine lv_iload_n hx hb dX3_name_88 rfl (lv_at hl 0 rfl) ?_
              refine t_ild X hT mx5 gx5 rfl (by omega) dX3_name_89 (fun z55158 vz55158 rz55158 => ?_)
              have rz55158 : (-2147483648) ≤ z55158.toInt ∧ z55158.toInt ≤ 2147483647 := rz55158
              have rz55158 := nsr_4 hrel vz55145 vz55158 (by omega)
              exact t_iret hQ X hT (⟨(by omega), hfr, hrel⟩) (Nat.le_of_ble_eq_true rfl) (Nat.le_of_ble_eq_true rfl) dX3_name_90
            · have w55159 := cv_eq (rfl : z55131.toInt = z55131.toInt) (by decide : ((-1) : Int32).toInt = (-1)) c55153
              exfalso
              omega
        · have w55160 := cv_ne (rfl : z55145.toInt = z55145.toInt) (rfl : p1.toInt = p1.toInt) c55146
          refine lv_aload_n hx hb dX3_name_51 rfl (lv_at hl 1 rfl) ?_
          refine lv_iconst (v := 2) hx hb dX3_name_52 (by decide) ?_
          refine lv_aload_n hx hb dX3_name_53 rfl (lv_at hl 1 rfl) ?_
          refine t_get (C := RX3) (T := TX3) (N := 13) X hT m0 g0 rfl rfl 0 (by decide) qw_73 inlX3 rfl dX3_name_54 (fun v55161 hv55161 ov55161 => ?_)
          obtain rfl : v55161 = .ref x0 := hv55161.symm.trans pf0
          refine t_get (C := RX8) (T := TX8) (N := 8) X hT mx0 gx0 rfl rfl 4 (by decide) qw_227 inlX8 rfl dX3_name_57 (fun v55162 hv55162 ov55162 => ?_)
          obtain ⟨z55163, rfl, rz55163⟩ := okV_i ov55162
          refine t_cVv (n := 2) (C := RX3) (T := TX3) (N := 13) (As := [.int 2, .int z55163]) (rest := []) X hT (kt111_X3_fail l G tag L F hT.2.2.2 p0 2 z55163 m0 g0 (by decide)) m0 g0 rfl rfl qw_287 qw_288 qw_289 qw_28 qw_290 ⟨rfl, by decide +kernel, by decide +kernel, by decide +kernel⟩ ⟨Nat.le_of_ble_eq_true rfl, Nat.le_of_ble_eq_true rfl⟩ hl rfl rfl (Nat.le_of_ble_eq_true rfl) dX3_name_60 ⟨Nat.le_of_ble_eq_true rfl, Nat.le_of_ble_eq_true rfl⟩ (fun F H locs hT hz55164 => ?_)
          obtain ⟨yz55164, xz55164_0⟩ := hz55164
          have pf0 := (yz55164.1 _ 0 (Or.inr (by decide)) (Or.inr (by decide))).trans pf0
          have pf1 := (yz55164.1 _ 1 (Or.inr (by decide)) (Or.inr (by decide))).trans pf1
          have pf2 := (yz55164.1 _ 2 (Or.inr (by decide)) (Or.inr (by decide))).trans pf2
          have pf3 := (yz55164.1 _ 0 (Or.inr (by decide)) (Or.inr (by decide))).trans pf3
          have pf4 := (yz55164.1 _ 10 (Or.inr (by decide)) (Or.inr (by decide))).trans pf4
          have pf5 := (yz55164.1 _ 11 (Or.inr (by decide)) (Or.inr (by decide))).trans pf5
          have hv55089 := (yz55164.1 _ 3 (Or.inl (by rw [gx0]; decide)) (Or.inr (by decide))).trans hv55089
          have vz55145 := (yz55164.2 _ _ (Or.inl gx4)).trans vz55145
          have hv55162 := (yz55164.1 _ 4 (Or.inr (by decide)) (Or.inl (by rw [gx0]; decide))).trans hv55162
          have hfr : (∀ b j : Nat, (tag b ≠ 24 ∨ j ≠ 2) → (tag b ≠ 24 ∨ j ≠ 3) → (tag b ≠ 24 ∨ j ≠ 4) → (tag b ≠ 24 ∨ j ≠ 5) → (tag b ≠ 24 ∨ j ≠ 6) → (tag b ≠ 24 ∨ j ≠ 7) → (tag b ≠ 25 ∨ j ≠ 3) → (tag b ≠ 25 ∨ j ≠ 4) → fld F b j = fld Fo b j) ∧ EF tag F Fo := ⟨fun b j n24_2 n24_3 n24_4 n24_5 n24_6 n24_7 n25_3 n25_4 => (yz55164.1 b j n25_3 n25_4).trans (hfr.1 b j n24_2 n24_3 n24_4 n24_5 n24_6 n24_7 n25_3 n25_4), fun b j hb => (yz55164.2 b j hb).trans (hfr.2 b j hb)⟩
          have hrel := nsr_of (fun j => yz55164.2 _ j (Or.inl gx4)) (fun j => yz55164.2 _ j (Or.inr gx5)) hrel
          obtain ⟨z55165, qz55165, rz55165⟩ := xz55164_0
          refine lv_aload_n hx hb dX3_name_63 rfl (lv_at hl 1 rfl) ?_
          refine t_get (C := RX3) (T := TX3) (N := 13) X hT m0 g0 rfl rfl 3 (by decide) qw_163 inlX3 rfl dX3_name_64 (fun v55166 hv55166 ov55166 => ?_)
          obtain rfl : v55166 = .int z55165 := hv55166.symm.trans qz55165
          refine lv_if_ne (tgt := 75) hx hb dX3_name_67 (by decide) (fun c55167 => ?_) (fun c55167 => ?_)
          · have w55168 := cv_ne (rfl : z55165.toInt = z55165.toInt) (by decide : (0 : Int32).toInt = 0) c55167
            refine lv_iconst (v := 0) hx hb dX3_name_75 (by decide) ?_
            exact t_iret hQ X hT (⟨(by decide), hfr, hrel⟩) (Nat.le_of_ble_eq_true rfl) (Nat.le_of_ble_eq_true rfl) dX3_name_76
          · have w55169 := cv_eq (rfl : z55165.toInt = z55165.toInt) (by decide : (0 : Int32).toInt = 0) c55167
            exfalso
            omega
    · have w55170 := cv_ne (rfl : z55128.toInt = z55128.toInt) (by decide : ((-1) : Int32).toInt = (-1)) c55129
      refine lv_aload_n hx hb dX3_name_19 rfl (lv_at hl 0 rfl) ?_
      refine lv_iconst (v := 1) hx hb dX3_name_20 (by decide) ?_
      refine lv_aload_n hx hb dX3_name_21 rfl (lv_at hl 0 rfl) ?_
      refine t_get (C := RX3) (T := TX3) (N := 13) X hT m0 g0 rfl rfl 0 (by decide) qw_73 inlX3 rfl dX3_name_22 (fun v55171 hv55171 ov55171 => ?_)
      obtain rfl : v55171 = .ref x0 := hv55171.symm.trans pf0
      refine t_get (C := RX8) (T := TX8) (N := 8) X hT mx0 gx0 rfl rfl 4 (by decide) qw_227 inlX8 rfl dX3_name_25 (fun v55172 hv55172 ov55172 => ?_)
      obtain ⟨z55173, rfl, rz55173⟩ := okV_i ov55172
      refine t_cVv (n := 2) (C := RX3) (T := TX3) (N := 13) (As := [.int 1, .int z55173]) (rest := []) X hT (kt111_X3_fail l G tag L F hT.2.2.2 p0 1 z55173 m0 g0 (by decide)) m0 g0 rfl rfl qw_287 qw_288 qw_289 qw_28 qw_290 ⟨rfl, by decide +kernel, by decide +kernel, by decide +kernel⟩ ⟨Nat.le_of_ble_eq_true rfl, Nat.le_of_ble_eq_true rfl⟩ hl rfl rfl (Nat.le_of_ble_eq_true rfl) dX3_name_28 ⟨Nat.le_of_ble_eq_true rfl, Nat.le_of_ble_eq_true rfl⟩ (fun F H locs hT hz55174 => ?_)
      obtain ⟨yz55174, xz55174_0⟩ := hz55174
      have pf0 := (yz55174.1 _ 0 (Or.inr (by decide)) (Or.inr (by decide))).trans pf0
      have pf1 := (yz55174.1 _ 1 (Or.inr (by decide)) (Or.inr (by decide))).trans pf1
      have pf2 := (yz55174.1 _ 2 (Or.inr (by decide)) (Or.inr (by decide))).trans pf2
      have pf3 := (yz55174.1 _ 0 (Or.inr (by decide)) (Or.inr (by decide))).trans pf3
      have pf4 := (yz55174.1 _ 10 (Or.inr (by decide)) (Or.inr (by decide))).trans pf4
      have pf5 := (yz55174.1 _ 11 (Or.inr (by decide)) (Or.inr (by decide))).trans pf5
      have hv55089 := (yz55174.1 _ 3 (Or.inl (by rw [gx0]; decide)) (Or.inr (by decide))).trans hv55089
      have hv55172 := (yz55174.1 _ 4 (Or.inr (by decide)) (Or.inl (by rw [gx0]; decide))).trans hv55172
      have hfr : (∀ b j : Nat, (tag b ≠ 24 ∨ j ≠ 2) → (tag b ≠ 24 ∨ j ≠ 3) → (tag b ≠ 24 ∨ j ≠ 4) → (tag b ≠ 24 ∨ j ≠ 5) → (tag b ≠ 24 ∨ j ≠ 6) → (tag b ≠ 24 ∨ j ≠ 7) → (tag b ≠ 25 ∨ j ≠ 3) → (tag b ≠ 25 ∨ j ≠ 4) → fld F b j = fld Fo b j) ∧ EF tag F Fo := ⟨fun b j n24_2 n24_3 n24_4 n24_5 n24_6 n24_7 n25_3 n25_4 => (yz55174.1 b j n25_3 n25_4).trans (hfr.1 b j n24_2 n24_3 n24_4 n24_5 n24_6 n24_7 n25_3 n25_4), fun b j hb => (yz55174.2 b j hb).trans (hfr.2 b j hb)⟩
      have hrel := nsr_of (fun j => yz55174.2 _ j (Or.inl gx4)) (fun j => yz55174.2 _ j (Or.inr gx5)) hrel
      obtain ⟨z55175, qz55175, rz55175⟩ := xz55174_0
      refine lv_aload_n hx hb dX3_name_31 rfl (lv_at hl 0 rfl) ?_
      refine t_cVi (n := 0) (C := RX3) (T := TX3) (N := 13) (As := []) (rest := []) X hT (kt113_X3_findName l G tag L F hT.2.2.2 p0 x0 x1 x2 x3 x4 x5 m0 g0 mx0 gx0 pf0 mx1 gx1 pf1 mx2 gx2 pf2 mx3 gx3 pf3 mx4 gx4 pf4 mx5 gx5 pf5) m0 g0 rfl rfl qw_361 qw_362 qw_363 qw_28 qw_364 ⟨rfl, by decide +kernel, by decide +kernel, by decide +kernel⟩ ⟨Nat.le_of_ble_eq_true rfl, Nat.le_of_ble_eq_true rfl⟩ hl rfl rfl (Nat.le_of_ble_eq_true rfl) dX3_name_32 ⟨Nat.le_of_ble_eq_true rfl, Nat.le_of_ble_eq_true rfl⟩ (fun z55176 F9 H locs hT hz55176 => ?_)
      obtain ⟨fz55176, hz55176⟩ := hz55176
      rw [fz55176] at hT
      refine lv_istore_n (lv' := [(2, .int z55176), (0, .ref p0), (1, .int p1)]) hx hb dX3_name_35 rfl hl (by decide) rfl (fun ls hl => ?_)
      refine lv_iload_n hx hb dX3_name_36 rfl (lv_at hl 0 rfl) ?_
      refine lv_iconst (v := (-1)) hx hb dX3_name_37 (by decide) ?_
      refine lv_icmp_eq (tgt := 51) hx hb dX3_name_38 (by decide) (fun c55177 => ?_) (fun c55177 => ?_)
      · have w55178 := cv_eq (rfl : z55176.toInt = z55176.toInt) (by decide : ((-1) : Int32).toInt = (-1)) c55177
        refine lv_aload_n hx hb dX3_name_51 rfl (lv_at hl 1 rfl) ?_
        refine lv_iconst (v := 2) hx hb dX3_name_52 (by decide) ?_
        refine lv_aload_n hx hb dX3_name_53 rfl (lv_at hl 1 rfl) ?_
        refine t_get (C := RX3) (T := TX3) (N := 13) X hT m0 g0 rfl rfl 0 (by decide) qw_73 inlX3 rfl dX3_name_54 (fun v55179 hv55179 ov55179 => ?_)
        obtain rfl : v55179 = .ref x0 := hv55179.symm.trans pf0
        refine t_get (C := RX8) (T := TX8) (N := 8) X hT mx0 gx0 rfl rfl 4 (by decide) qw_227 inlX8 rfl dX3_name_57 (fun v55180 hv55180 ov55180 => ?_)
        obtain rfl : v55180 = .int z55173 := hv55180.symm.trans hv55172
        refine t_cVv (n := 2) (C := RX3) (T := TX3) (N := 13) (As := [.int 2, .int z55173]) (rest := []) X hT (kt111_X3_fail l G tag L F hT.2.2.2 p0 2 z55173 m0 g0 (by decide)) m0 g0 rfl rfl qw_287 qw_288 qw_289 qw_28 qw_290 ⟨rfl, by decide +kernel, by decide +kernel, by decide +kernel⟩ ⟨Nat.le_of_ble_eq_true rfl, Nat.le_of_ble_eq_true rfl⟩ hl rfl rfl (Nat.le_of_ble_eq_true rfl) dX3_name_60 ⟨Nat.le_of_ble_eq_true rfl, Nat.le_of_ble_eq_true rfl⟩ (fun F H locs hT hz55181 => ?_)
        obtain ⟨yz55181, xz55181_0⟩ := hz55181
        have pf0 := (yz55181.1 _ 0 (Or.inr (by decide)) (Or.inr (by decide))).trans pf0
        have pf1 := (yz55181.1 _ 1 (Or.inr (by decide)) (Or.inr (by decide))).trans pf1
        have pf2 := (yz55181.1 _ 2 (Or.inr (by decide)) (Or.inr (by decide))).trans pf2
        have pf3 := (yz55181.1 _ 0 (Or.inr (by decide)) (Or.inr (by decide))).trans pf3
        have pf4 := (yz55181.1 _ 10 (Or.inr (by decide)) (Or.inr (by decide))).trans pf4
        have pf5 := (yz55181.1 _ 11 (Or.inr (by decide)) (Or.inr (by decide))).trans pf5
        have hv55089 := (yz55181.1 _ 3 (Or.inl (by rw [gx0]; decide)) (Or.inr (by decide))).trans hv55089
        have hv55172 := (yz55181.1 _ 4 (Or.inr (by decide)) (Or.inl (by rw [gx0]; decide))).trans hv55172
        have hfr : (∀ b j : Nat, (tag b ≠ 24 ∨ j ≠ 2) → (tag b ≠ 24 ∨ j ≠ 3) → (tag b ≠ 24 ∨ j ≠ 4) → (tag b ≠ 24 ∨ j ≠ 5) → (tag b ≠ 24 ∨ j ≠ 6) → (tag b ≠ 24 ∨ j ≠ 7) → (tag b ≠ 25 ∨ j ≠ 3) → (tag b ≠ 25 ∨ j ≠ 4) → fld F b j = fld Fo b j) ∧ EF tag F Fo := ⟨fun b j n24_2 n24_3 n24_4 n24_5 n24_6 n24_7 n25_3 n25_4 => (yz55181.1 b j n25_3 n25_4).trans (hfr.1 b j n24_2 n24_3 n24_4 n24_5 n24_6 n24_7 n25_3 n25_4), fun b j hb => (yz55181.2 b j hb).trans (hfr.2 b j hb)⟩
        have hrel := nsr_of (fun j => yz55181.2 _ j (Or.inl gx4)) (fun j => yz55181.2 _ j (Or.inr gx5)) hrel
        obtain ⟨z55182, qz55182, rz55182⟩ := xz55181_0
        refine lv_aload_n hx hb dX3_name_63 rfl (lv_at hl 1 rfl) ?_
        refine t_get (C := RX3) (T := TX3) (N := 13) X hT m0 g0 rfl rfl 3 (by decide) qw_163 inlX3 rfl dX3_name_64 (fun v55183 hv55183 ov55183 => ?_)
        obtain rfl : v55183 = .int z55182 := hv55183.symm.trans qz55182
        refine lv_if_ne (tgt := 75) hx hb dX3_name_67 (by decide) (fun c55184 => ?_) (fun c55184 => ?_)
        · have w55185 := cv_ne (rfl : z55182.toInt = z55182.toInt) (by decide : (0 : Int32).toInt = 0) c55184
          refine lv_iconst (v := 0) hx hb dX3_name_75 (by decide) ?_
          exact t_iret hQ X hT (⟨(by decide), hfr, hrel⟩) (Nat.le_of_ble_eq_true rfl) (Nat.le_of_ble_eq_true rfl) dX3_name_76
        · have w55186 := cv_eq (rfl : z55182.toInt = z55182.toInt) (by decide : (0 : Int32).toInt = 0) c55184
          exfalso
          omega
      · have w55187 := cv_ne (rfl : z55176.toInt = z55176.toInt) (by decide : ((-1) : Int32).toInt = (-1)) c55177
        refine lv_aload_n hx hb dX3_name_41 rfl (lv_at hl 1 rfl) ?_
        refine t_get (C := RX3) (T := TX3) (N := 13) X hT m0 g0 rfl rfl 10 (by decide) qw_75 inlX3 rfl dX3_name_42 (fun v55188 hv55188 ov55188 => ?_)
        obtain rfl : v55188 = .ref x4 := hv55188.symm.trans pf4
        refine lv_iload_n hx hb dX3_name_45 rfl (lv_at hl 0 rfl) ?_
        refine t_ild X hT mx4 gx4 rfl (by omega) dX3_name_46 (fun z55189 vz55189 rz55189 => ?_)
        have rz55189 : (-2147483648) ≤ z55189.toInt ∧ z55189.toInt ≤ 2147483647 := rz55189
        refine lv_iload_n hx hb dX3_name_47 rfl (lv_at hl 2 rfl) ?_
        refine lv_icmp_eq (tgt := 63) hx hb dX3_name_48 (by decide) (fun c55190 => ?_) (fun c55190 => ?_)
        · have w55191 := cv_eq (rfl : z55189.toInt = z55189.toInt) (rfl : p1.toInt = p1.toInt) c55190
          refine lv_aload_n hx hb dX3_name_63 rfl (lv_at hl 1 rfl) ?_
          refine t_get (C := RX3) (T := TX3) (N := 13) X hT m0 g0 rfl rfl 3 (by decide) qw_163 inlX3 rfl dX3_name_64 (fun v55192 hv55192 ov55192 => ?_)
          obtain rfl : v55192 = .int z55175 := hv55192.symm.trans qz55175
          refine lv_if_ne (tgt := 75) hx hb dX3_name_67 (by decide) (fun c55193 => ?_) (fun c55193 => ?_)
          · have w55194 := cv_ne (rfl : z55175.toInt = z55175.toInt) (by decide : (0 : Int32).toInt = 0) c55193
            refine lv_iconst (v := 0) hx hb dX3_name_75 (by decide) ?_
            exact t_iret hQ X hT (⟨(by decide), hfr, hrel⟩) (Nat.le_of_ble_eq_true rfl) (Nat.le_of_ble_eq_true rfl) dX3_name_76
          · have w55195 := cv_eq (rfl : z55175.toInt = z55175.toInt) (by decide : (0 : Int32).toInt = 0) c55193
            exfalso
            omega
        · have w55196 := cv_ne (rfl : z55189.toInt = z55189.toInt) (rfl : p1.toInt = p1.toInt) c55190
          refine lv_aload_n hx hb dX3_name_51 rfl (lv_at hl 1 rfl) ?_
          refine lv_iconst (v := 2) hx hb dX3_name_52 (by decide) ?_
          refine lv_aload_n hx hb dX3_name_53 rfl (lv_at hl 1 rfl) ?_
          refine t_get (C := RX3) (T := TX3) (N := 13) X hT m0 g0 rfl rfl 0 (by decide) qw_73 inlX3 rfl dX3_name_54 (fun v55197 hv55197 ov55197 => ?_)
          obtain rfl : v55197 = .ref x0 := hv55197.symm.trans pf0
          refine t_get (C := RX8) (T := TX8) (N := 8) X hT mx0 gx0 rfl rfl 4 (by decide) qw_227 inlX8 rfl dX3_name_57 (fun v55198 hv55198 ov55198 => ?_)
          obtain rfl : v55198 = .int z55173 := hv55198.symm.trans hv55172
          refine t_cVv (n := 2) (C := RX3) (T := TX3) (N := 13) (As := [.int 2, .int z55173]) (rest := []) X hT (kt111_X3_fail l G tag L F hT.2.2.2 p0 2 z55173 m0 g0 (by decide)) m0 g0 rfl rfl qw_287 qw_288 qw_289 qw_28 qw_290 ⟨rfl, by decide +kernel, by decide +kernel, by decide +kernel⟩ ⟨Nat.le_of_ble_eq_true rfl, Nat.le_of_ble_eq_true rfl⟩ hl rfl rfl (Nat.le_of_ble_eq_true rfl) dX3_name_60 ⟨Nat.le_of_ble_eq_true rfl, Nat.le_of_ble_eq_true rfl⟩ (fun F H locs hT hz55199 => ?_)
          obtain ⟨yz55199, xz55199_0⟩ := hz55199
          have pf0 := (yz55199.1 _ 0 (Or.inr (by decide)) (Or.inr (by decide))).trans pf0
          have pf1 := (yz55199.1 _ 1 (Or.inr (by decide)) (Or.inr (by decide))).trans pf1
          have pf2 := (yz55199.1 _ 2 (Or.inr (by decide)) (Or.inr (by decide))).trans pf2
          have pf3 := (yz55199.1 _ 0 (Or.inr (by decide)) (Or.inr (by decide))).trans pf3
          have pf4 := (yz55199.1 _ 10 (Or.inr (by decide)) (Or.inr (by decide))).trans pf4
          have pf5 := (yz55199.1 _ 11 (Or.inr (by decide)) (Or.inr (by decide))).trans pf5
          have hv55089 := (yz55199.1 _ 3 (Or.inl (by rw [gx0]; decide)) (Or.inr (by decide))).trans hv55089
          have hv55172 := (yz55199.1 _ 4 (Or.inr (by decide)) (Or.inl (by rw [gx0]; decide))).trans hv55172
          have vz55189 := (yz55199.2 _ _ (Or.inl gx4)).trans vz55189
          have hfr : (∀ b j : Nat, (tag b ≠ 24 ∨ j ≠ 2) → (tag b ≠ 24 ∨ j ≠ 3) → (tag b ≠ 24 ∨ j ≠ 4) → (tag b ≠ 24 ∨ j ≠ 5) → (tag b ≠ 24 ∨ j ≠ 6) → (tag b ≠ 24 ∨ j ≠ 7) → (tag b ≠ 25 ∨ j ≠ 3) → (tag b ≠ 25 ∨ j ≠ 4) → fld F b j = fld Fo b j) ∧ EF tag F Fo := ⟨fun b j n24_2 n24_3 n24_4 n24_5 n24_6 n24_7 n25_3 n25_4 => (yz55199.1 b j n25_3 n25_4).trans (hfr.1 b j n24_2 n24_3 n24_4 n24_5 n24_6 n24_7 n25_3 n25_4), fun b j hb => (yz55199.2 b j hb).trans (hfr.2 b j hb)⟩
          have hrel := nsr_of (fun j => yz55199.2 _ j (Or.inl gx4)) (fun j => yz55199.2 _ j (Or.inr gx5)) hrel
          obtain ⟨z55200, qz55200, rz55200⟩ := xz55199_0
          refine lv_aload_n hx hb dX3_name_63 rfl (lv_at hl 1 rfl) ?_
          refine t_get (C := RX3) (T := TX3) (N := 13) X hT m0 g0 rfl rfl 3 (by decide) qw_163 inlX3 rfl dX3_name_64 (fun v55201 hv55201 ov55201 => ?_)
          obtain rfl : v55201 = .int z55200 := hv55201.symm.trans qz55200
          refine lv_if_ne (tgt := 75) hx hb dX3_name_67 (by decide) (fun c55202 => ?_) (fun c55202 => ?_)
          · have w55203 := cv_ne (rfl : z55200.toInt = z55200.toInt) (by decide : (0 : Int32).toInt = 0) c55202
            refine lv_iconst (v := 0) hx hb dX3_name_75 (by decide) ?_
            exact t_iret hQ X hT (⟨(by decide), hfr, hrel⟩) (Nat.le_of_ble_eq_true rfl) (Nat.le_of_ble_eq_true rfl) dX3_name_76
          · have w55204 := cv_eq (rfl : z55200.toInt = z55200.toInt) (by decide : (0 : Int32).toInt = 0) c55202
            exfalso
            omega
set_option maxHeartbeats 4000000 in
set_option maxRecDepth 100000 in
theorem kt140_X3_whole (l : Launch) (G : KG) (tag : Nat → Nat) (L : List Nat) (Fo : Nat → va_E) (ho : okT G ttC tag L Fo) (p0 : Nat) (p1 : Int32) (p2 : Int32) (x0 : Nat) (x1 : Nat) (x2 : Nat) (x3 : Nat) (x4 : Nat) (x5 : Nat) (m0 : p0 ∈ L) (g0 : tag p0 = 25) (h1 : 0 ≤ p1.toInt ∧ p1.toInt ≤ 0) (h2 : 0 ≤ p2.toInt ∧ p2.toInt ≤ 12) (mx0 : x0 ∈ L) (gx0 : tag x0 = 24) (pf0 : fld Fo p0 0 = .ref x0) (mx1 : x1 ∈ L) (gx1 : tag x1 = 18) (pf1 : fld Fo p0 1 = .ref x1) (mx2 : x2 ∈ L) (gx2 : tag x2 = 19) (pf2 : fld Fo p0 2 = .ref x2) (mx3 : x3 ∈ L) (gx3 : tag x3 = 1) (pf3 : fld Fo x0 0 = .ref x3) (mx4 : x4 ∈ L) (gx4 : tag x4 = 14) (pf4 : fld Fo p0 10 = .ref x4) (mx5 : x5 ∈ L) (gx5 : tag x5 = 15) (pf5 : fld Fo p0 11 = .ref x5) : TMi l yX3_whole cX3_whole 4 (some .int) { frames := 3, cells := 0, slots := 0, locals := 62 } G ttC tag L Fo [.ref p0, .int p1, .int p2] (fun r F1 => (0 ≤ r.toInt ∧ r.toInt ≤ 12) ∧ ((∀ b j : Nat, (tag b ≠ 24 ∨ j ≠ 2) → (tag b ≠ 24 ∨ j ≠ 3) → (tag b ≠ 24 ∨ j ≠ 4) → (tag b ≠ 24 ∨ j ≠ 5) → (tag b ≠ 24 ∨ j ≠ 6) → (tag b ≠ 24 ∨ j ≠ 7) → (tag b ≠ 25 ∨ j ≠ 3) → (tag b ≠ 25 ∨ j ≠ 4) → fld F1 b j = fld Fo b j) ∧ EF tag F1 Fo)) := by
  refine t_bodyi (y := yX3_whole) (cd := cX3_whole) (mL := 4) (rt := (some .int)) (rm := { frames := 3, cells := 0, slots := 0, locals := 62 }) (av := [.ref p0, .int p1, .int p2]) (by decide) (Nat.le_of_ble_eq_true rfl) ho ?_
  intro p e s m args below meth c ls A Q hQ X hT hl
  have hx := X.1.1
  have hb := X.1.2.1
  have hl : lv_has ls 4 [(0, .ref p0), (1, .int p1), (2, .int p2)] := hl
  obtain ⟨F, hFo⟩ : ∃ F : Nat → va_E, F = Fo := ⟨_, rfl⟩
  rw [← hFo] at hT pf0 pf1 pf2 pf3 pf4 pf5
  have hfr : (∀ b j : Nat, (tag b ≠ 24 ∨ j ≠ 2) → (tag b ≠ 24 ∨ j ≠ 3) → (tag b ≠ 24 ∨ j ≠ 4) → (tag b ≠ 24 ∨ j ≠ 5) → (tag b ≠ 24 ∨ j ≠ 6) → (tag b ≠ 24 ∨ j ≠ 7) → (tag b ≠ 25 ∨ j ≠ 3) → (tag b ≠ 25 ∨ j ≠ 4) → fld F b j = fld Fo b j) ∧ EF tag F Fo := by
    rw [hFo]
    exact ⟨by intros; rfl, fun _ _ _ => rfl⟩
  refine lv_aload_n hx hb dX3_whole_0 rfl (lv_at hl 0 rfl) ?_
  refine t_get (C := RX3) (T := TX3) (N := 13) X hT m0 g0 rfl rfl 0 (by decide) qw_73 inlX3 rfl dX3_whole_1 (fun v55856 hv55856 ov55856 => ?_)
  obtain rfl : v55856 = .ref x0 := hv55856.symm.trans pf0
  refine t_get (C := RX8) (T := TX8) (N := 8) X hT mx0 gx0 rfl rfl 3 (by decide) qw_170 inlX8 rfl dX3_whole_4 (fun v55857 hv55857 ov55857 => ?_)
  obtain ⟨z55858, rfl, rz55858⟩ := okV_i ov55857
  refine lv_iconst (v := 2) hx hb dX3_whole_7 (by decide) ?_
  refine lv_icmp_eq (tgt := 26) hx hb dX3_whole_8 (by decide) (fun c55859 => ?_) (fun c55859 => ?_)
  · have w55860 := cv_eq (rfl : z55858.toInt = z55858.toInt) (by decide : (2 : Int32).toInt = 2) c55859
    refine lv_aload_n hx hb dX3_whole_26 rfl (lv_at hl 0 rfl) ?_
    refine t_get (C := RX3) (T := TX3) (N := 13) X hT m0 g0 rfl rfl 0 (by decide) qw_73 inlX3 rfl dX3_whole_27 (fun v55861 hv55861 ov55861 => ?_)
    obtain rfl : v55861 = .ref x0 := hv55861.symm.trans pf0
    refine t_get (C := RX8) (T := TX8) (N := 8) X hT mx0 gx0 rfl rfl 6 (by decide) qw_322 inlX8 rfl dX3_whole_30 (fun v55862 hv55862 ov55862 => ?_)
    obtain ⟨z55863, rfl, rz55863⟩ := okV_i ov55862
    refine lv_iload_n hx hb dX3_whole_33 rfl (lv_at hl 1 rfl) ?_
    refine lv_icmp_lt (tgt := 48) hx hb dX3_whole_34 (by decide) (fun c55864 => ?_) (fun c55864 => ?_)
    · have w55865 := cv_lt (rfl : z55863.toInt = z55863.toInt) (rfl : p1.toInt = p1.toInt) c55864
      refine lv_aload_n hx hb dX3_whole_48 rfl (lv_at hl 0 rfl) ?_
      refine lv_iconst (v := 4) hx hb dX3_whole_49 (by decide) ?_
      refine lv_aload_n hx hb dX3_whole_50 rfl (lv_at hl 0 rfl) ?_
      refine t_get (C := RX3) (T := TX3) (N := 13) X hT m0 g0 rfl rfl 0 (by decide) qw_73 inlX3 rfl dX3_whole_51 (fun v55866 hv55866 ov55866 => ?_)
      obtain rfl : v55866 = .ref x0 := hv55866.symm.trans pf0
      refine t_get (C := RX8) (T := TX8) (N := 8) X hT mx0 gx0 rfl rfl 4 (by decide) qw_227 inlX8 rfl dX3_whole_54 (fun v55867 hv55867 ov55867 => ?_)
      obtain ⟨z55868, rfl, rz55868⟩ := okV_i ov55867
      refine t_cVv (n := 2) (C := RX3) (T := TX3) (N := 13) (As := [.int 4, .int z55868]) (rest := []) X hT (kt111_X3_fail l G tag L F hT.2.2.2 p0 4 z55868 m0 g0 (by decide)) m0 g0 rfl rfl qw_287 qw_288 qw_289 qw_28 qw_290 ⟨rfl, by decide +kernel, by decide +kernel, by decide +kernel⟩ ⟨Nat.le_of_ble_eq_true rfl, Nat.le_of_ble_eq_true rfl⟩ hl rfl rfl (Nat.le_of_ble_eq_true rfl) dX3_whole_57 ⟨Nat.le_of_ble_eq_true rfl, Nat.le_of_ble_eq_true rfl⟩ (fun F H locs hT hz55869 => ?_)
      obtain ⟨yz55869, xz55869_0⟩ := hz55869
      have pf0 := (yz55869.1 _ 0 (Or.inr (by decide)) (Or.inr (by decide))).trans pf0
      have pf1 := (yz55869.1 _ 1 (Or.inr (by decide)) (Or.inr (by decide))).trans pf1
      have pf2 := (yz55869.1 _ 2 (Or.inr (by decide)) (Or.inr (by decide))).trans pf2
      have pf3 := (yz55869.1 _ 0 (Or.inr (by decide)) (Or.inr (by decide))).trans pf3
      have pf4 := (yz55869.1 _ 10 (Or.inr (by decide)) (Or.inr (by decide))).trans pf4
      have pf5 := (yz55869.1 _ 11 (Or.inr (by decide)) (Or.inr (by decide))).trans pf5
      have hv55857 := (yz55869.1 _ 3 (Or.inl (by rw [gx0]; decide)) (Or.inr (by decide))).trans hv55857
      have hv55862 := (yz55869.1 _ 6 (Or.inr (by decide)) (Or.inr (by decide))).trans hv55862
      have hv55867 := (yz55869.1 _ 4 (Or.inr (by decide)) (Or.inl (by rw [gx0]; decide))).trans hv55867
      have hfr : (∀ b j : Nat, (tag b ≠ 24 ∨ j ≠ 2) → (tag b ≠ 24 ∨ j ≠ 3) → (tag b ≠ 24 ∨ j ≠ 4) → (tag b ≠ 24 ∨ j ≠ 5) → (tag b ≠ 24 ∨ j ≠ 6) → (tag b ≠ 24 ∨ j ≠ 7) → (tag b ≠ 25 ∨ j ≠ 3) → (tag b ≠ 25 ∨ j ≠ 4) → fld F b j = fld Fo b j) ∧ EF tag F Fo := ⟨fun b j n24_2 n24_3 n24_4 n24_5 n24_6 n24_7 n25_3 n25_4 => (yz55869.1 b j n25_3 n25_4).trans (hfr.1 b j n24_2 n24_3 n24_4 n24_5 n24_6 n24_7 n25_3 n25_4), fun b j hb => (yz55869.2 b j hb).trans (hfr.2 b j hb)⟩
      obtain ⟨z55870, qz55870, rz55870⟩ := xz55869_0
      refine lv_aload_n hx hb dX3_whole_60 rfl (lv_at hl 0 rfl) ?_
      refine t_get (C := RX3) (T := TX3) (N := 13) X hT m0 g0 rfl rfl 3 (by decide) qw_163 inlX3 rfl dX3_whole_61 (fun v55871 hv55871 ov55871 => ?_)
      obtain rfl : v55871 = .int z55870 := hv55871.symm.trans qz55870
      refine lv_if_eq (tgt := 69) hx hb dX3_whole_64 (by decide) (fun c55872 => ?_) (fun c55872 => ?_)
      · have w55873 := cv_eq (rfl : z55870.toInt = z55870.toInt) (by decide : (0 : Int32).toInt = 0) c55872
        exfalso
        omega
      · have w55874 := cv_ne (rfl : z55870.toInt = z55870.toInt) (by decide : (0 : Int32).toInt = 0) c55872
        refine lv_iload_n hx hb dX3_whole_67 rfl (lv_at hl 1 rfl) ?_
        exact t_iret hQ X hT (⟨(by omega), hfr⟩) (Nat.le_of_ble_eq_true rfl) (Nat.le_of_ble_eq_true rfl) dX3_whole_68
    · have w55875 := cv_nlt (rfl : z55863.toInt = z55863.toInt) (rfl : p1.toInt = p1.toInt) c55864
      refine lv_aload_n hx hb dX3_whole_37 rfl (lv_at hl 0 rfl) ?_
      refine t_get (C := RX3) (T := TX3) (N := 13) X hT m0 g0 rfl rfl 0 (by decide) qw_73 inlX3 rfl dX3_whole_38 (fun v55876 hv55876 ov55876 => ?_)
      obtain rfl : v55876 = .ref x0 := hv55876.symm.trans pf0
      refine t_get (C := RX8) (T := TX8) (N := 8) X hT mx0 gx0 rfl rfl 6 (by decide) qw_322 inlX8 rfl dX3_whole_41 (fun v55877 hv55877 ov55877 => ?_)
      obtain rfl : v55877 = .int z55863 := hv55877.symm.trans hv55862
      refine lv_iload_n hx hb dX3_whole_44 rfl (lv_at hl 2 rfl) ?_
      refine lv_icmp_le (tgt := 60) hx hb dX3_whole_45 (by decide) (fun c55878 => ?_) (fun c55878 => ?_)
      · have w55879 := cv_le (rfl : z55863.toInt = z55863.toInt) (rfl : p2.toInt = p2.toInt) c55878
        refine lv_aload_n hx hb dX3_whole_60 rfl (lv_at hl 0 rfl) ?_
        refine t_get (C := RX3) (T := TX3) (N := 13) X hT m0 g0 rfl rfl 3 (by decide) qw_163 inlX3 rfl dX3_whole_61 (fun v55880 hv55880 ov55880 => ?_)
        obtain ⟨z55881, rfl, rz55881⟩ := okV_i ov55880
        refine lv_if_eq (tgt := 69) hx hb dX3_whole_64 (by decide) (fun c55882 => ?_) (fun c55882 => ?_)
        · have w55883 := cv_eq (rfl : z55881.toInt = z55881.toInt) (by decide : (0 : Int32).toInt = 0) c55882
          refine lv_aload_n hx hb dX3_whole_69 rfl (lv_at hl 0 rfl) ?_
          refine t_get (C := RX3) (T := TX3) (N := 13) X hT m0 g0 rfl rfl 0 (by decide) qw_73 inlX3 rfl dX3_whole_70 (fun v55884 hv55884 ov55884 => ?_)
          obtain rfl : v55884 = .ref x0 := hv55884.symm.trans pf0
          refine t_get (C := RX8) (T := TX8) (N := 8) X hT mx0 gx0 rfl rfl 6 (by decide) qw_322 inlX8 rfl dX3_whole_73 (fun v55885 hv55885 ov55885 => ?_)
          obtain rfl : v55885 = .int z55863 := hv55885.symm.trans hv55862
          refine lv_istore_n (lv' := [(3, .int z55863), (0, .ref p0), (1, .int p1), (2, .int p2)]) hx hb dX3_whole_76 rfl hl (by decide) rfl (fun ls hl => ?_)
          refine lv_aload_n hx hb dX3_whole_77 rfl (lv_at hl 1 rfl) ?_
          refine t_get (C := RX3) (T := TX3) (N := 13) X hT m0 g0 rfl rfl 0 (by decide) qw_73 inlX3 rfl dX3_whole_78 (fun v55886 hv55886 ov55886 => ?_)
          obtain rfl : v55886 = .ref x0 := hv55886.symm.trans pf0
          refine t_cVv (n := 0) (C := RX8) (T := TX8) (N := 8) (As := []) (rest := []) X hT (kt98_X8_advance l G tag L F hT.2.2.2 x0 x3 mx0 gx0 mx3 gx3 pf3) mx0 gx0 rfl rfl qw_305 qw_197 qw_198 qw_72 qw_199 ⟨rfl, by decide +kernel, by decide +kernel, by decide +kernel⟩ ⟨Nat.le_of_ble_eq_true rfl, Nat.le_of_ble_eq_true rfl⟩ hl rfl rfl (Nat.le_of_ble_eq_true rfl) dX3_whole_81 ⟨Nat.le_of_ble_eq_true rfl, Nat.le_of_ble_eq_true rfl⟩ (fun F H locs hT hz55887 => ?_)
          have yz55887 := hz55887
          have pf0 := (yz55887.1 _ 0 (Or.inr (by decide)) (Or.inr (by decide)) (Or.inr (by decide)) (Or.inr (by decide)) (Or.inr (by decide)) (Or.inr (by decide))).trans pf0
          have pf1 := (yz55887.1 _ 1 (Or.inr (by decide)) (Or.inr (by decide)) (Or.inr (by decide)) (Or.inr (by decide)) (Or.inr (by decide)) (Or.inr (by decide))).trans pf1
          have pf2 := (yz55887.1 _ 2 (Or.inl (by rw [g0]; decide)) (Or.inr (by decide)) (Or.inr (by decide)) (Or.inr (by decide)) (Or.inr (by decide)) (Or.inr (by decide))).trans pf2
          have pf3 := (yz55887.1 _ 0 (Or.inr (by decide)) (Or.inr (by decide)) (Or.inr (by decide)) (Or.inr (by decide)) (Or.inr (by decide)) (Or.inr (by decide))).trans pf3
          have pf4 := (yz55887.1 _ 10 (Or.inr (by decide)) (Or.inr (by decide)) (Or.inr (by decide)) (Or.inr (by decide)) (Or.inr (by decide)) (Or.inr (by decide))).trans pf4
          have pf5 := (yz55887.1 _ 11 (Or.inr (by decide)) (Or.inr (by decide)) (Or.inr (by decide)) (Or.inr (by decide)) (Or.inr (by decide)) (Or.inr (by decide))).trans pf5
          have hv55880 := (yz55887.1 _ 3 (Or.inr (by decide)) (Or.inl (by rw [g0]; decide)) (Or.inr (by decide)) (Or.inr (by decide)) (Or.inr (by decide)) (Or.inr (by decide))).trans hv55880
          have hfr : (∀ b j : Nat, (tag b ≠ 24 ∨ j ≠ 2) → (tag b ≠ 24 ∨ j ≠ 3) → (tag b ≠ 24 ∨ j ≠ 4) → (tag b ≠ 24 ∨ j ≠ 5) → (tag b ≠ 24 ∨ j ≠ 6) → (tag b ≠ 24 ∨ j ≠ 7) → (tag b ≠ 25 ∨ j ≠ 3) → (tag b ≠ 25 ∨ j ≠ 4) → fld F b j = fld Fo b j) ∧ EF tag F Fo := ⟨fun b j n24_2 n24_3 n24_4 n24_5 n24_6 n24_7 n25_3 n25_4 => (yz55887.1 b j n24_2 n24_3 n24_4 n24_5 n24_6 n24_7).trans (hfr.1 b j n24_2 n24_3 n24_4 n24_5 n24_6 n24_7 n25_3 n25_4), fun b j hb => (yz55887.2 b j hb).trans (hfr.2 b j hb)⟩
          refine lv_iload_n hx hb dX3_whole_84 rfl (lv_at hl 0 rfl) ?_
          exact t_iret hQ X hT (⟨(by omega), hfr⟩) (Nat.le_of_ble_eq_true rfl) (Nat.le_of_ble_eq_true rfl) dX3_whole_85
        · have w55888 := cv_ne (rfl : z55881.toInt = z55881.toInt) (by decide : (0 : Int32).toInt = 0) c55882
          refine lv_iload_n hx hb dX3_whole_67 rfl (lv_at hl 1 rfl) ?_
          exact t_iret hQ X hT (⟨(by omega), hfr⟩) (Nat.le_of_ble_eq_true rfl) (Nat.le_of_ble_eq_true rfl) dX3_whole_68
      · have w55889 := cv_nle (rfl : z55863.toInt = z55863.toInt) (rfl : p2.toInt = p2.toInt) c55878
        refine lv_aload_n hx hb dX3_whole_48 rfl (lv_at hl 0 rfl) ?_
        refine lv_iconst (v := 4) hx hb dX3_whole_49 (by decide) ?_
        refine lv_aload_n hx hb dX3_whole_50 rfl (lv_at hl 0 rfl) ?_
        refine t_get (C := RX3) (T := TX3) (N := 13) X hT m0 g0 rfl rfl 0 (by decide) qw_73 inlX3 rfl dX3_whole_51 (fun v55890 hv55890 ov55890 => ?_)
        obtain rfl : v55890 = .ref x0 := hv55890.symm.trans pf0
        refine t_get (C := RX8) (T := TX8) (N := 8) X hT mx0 gx0 rfl rfl 4 (by decide) qw_227 inlX8 rfl dX3_whole_54 (fun v55891 hv55891 ov55891 => ?_)
        obtain ⟨z55892, rfl, rz55892⟩ := okV_i ov55891
        refine t_cVv (n := 2) (C := RX3) (T := TX3) (N := 13) (As := [.int 4, .int z55892]) (rest := []) X hT (kt111_X3_fail l G tag L F hT.2.2.2 p0 4 z55892 m0 g0 (by decide)) m0 g0 rfl rfl qw_287 qw_288 qw_289 qw_28 qw_290 ⟨rfl, by decide +kernel, by decide +kernel, by decide +kernel⟩ ⟨Nat.le_of_ble_eq_true rfl, Nat.le_of_ble_eq_true rfl⟩ hl rfl rfl (Nat.le_of_ble_eq_true rfl) dX3_whole_57 ⟨Nat.le_of_ble_eq_true rfl, Nat.le_of_ble_eq_true rfl⟩ (fun F H locs hT hz55893 => ?_)
        obtain ⟨yz55893, xz55893_0⟩ := hz55893
        have pf0 := (yz55893.1 _ 0 (Or.inr (by decide)) (Or.inr (by decide))).trans pf0
        have pf1 := (yz55893.1 _ 1 (Or.inr (by decide)) (Or.inr (by decide))).trans pf1
        have pf2 := (yz55893.1 _ 2 (Or.inr (by decide)) (Or.inr (by decide))).trans pf2
        have pf3 := (yz55893.1 _ 0 (Or.inr (by decide)) (Or.inr (by decide))).trans pf3
        have pf4 := (yz55893.1 _ 10 (Or.inr (by decide)) (Or.inr (by decide))).trans pf4
        have pf5 := (yz55893.1 _ 11 (Or.inr (by decide)) (Or.inr (by decide))).trans pf5
        have hv55857 := (yz55893.1 _ 3 (Or.inl (by rw [gx0]; decide)) (Or.inr (by decide))).trans hv55857
        have hv55862 := (yz55893.1 _ 6 (Or.inr (by decide)) (Or.inr (by decide))).trans hv55862
        have hv55891 := (yz55893.1 _ 4 (Or.inr (by decide)) (Or.inl (by rw [gx0]; decide))).trans hv55891
        have hfr : (∀ b j : Nat, (tag b ≠ 24 ∨ j ≠ 2) → (tag b ≠ 24 ∨ j ≠ 3) → (tag b ≠ 24 ∨ j ≠ 4) → (tag b ≠ 24 ∨ j ≠ 5) → (tag b ≠ 24 ∨ j ≠ 6) → (tag b ≠ 24 ∨ j ≠ 7) → (tag b ≠ 25 ∨ j ≠ 3) → (tag b ≠ 25 ∨ j ≠ 4) → fld F b j = fld Fo b j) ∧ EF tag F Fo := ⟨fun b j n24_2 n24_3 n24_4 n24_5 n24_6 n24_7 n25_3 n25_4 => (yz55893.1 b j n25_3 n25_4).trans (hfr.1 b j n24_2 n24_3 n24_4 n24_5 n24_6 n24_7 n25_3 n25_4), fun b j hb => (yz55893.2 b j hb).trans (hfr.2 b j hb)⟩
        obtain ⟨z55894, qz55894, rz55894⟩ := xz55893_0
        refine lv_aload_n hx hb dX3_whole_60 rfl (lv_at hl 0 rfl) ?_
        refine t_get (C := RX3) (T := TX3) (N := 13) X hT m0 g0 rfl rfl 3 (by decide) qw_163 inlX3 rfl dX3_whole_61 (fun v55895 hv55895 ov55895 => ?_)
        obtain rfl : v55895 = .int z55894 := hv55895.symm.trans qz55894
        refine lv_if_eq (tgt := 69) hx hb dX3_whole_64 (by decide) (fun c55896 => ?_) (fun c55896 => ?_)
        · have w55897 := cv_eq (rfl : z55894.toInt = z55894.toInt) (by decide : (0 : Int32).toInt = 0) c55896
          exfalso
          omega
        · have w55898 := cv_ne (rfl : z55894.toInt = z55894.toInt) (by decide : (0 : Int32).toInt = 0) c55896
          refine lv_iload_n hx hb dX3_whole_67 rfl (lv_at hl 1 rfl) ?_
          exact t_iret hQ X hT (⟨(by omega), hfr⟩) (Nat.le_of_ble_eq_true rfl) (Nat.le_of_ble_eq_true rfl) dX3_whole_68
  · have w55899 := cv_ne (rfl : z55858.toInt = z55858.toInt) (by decide : (2 : Int32).toInt = 2) c55859
    refine lv_aload_n hx hb dX3_whole_11 rfl (lv_at hl 0 rfl) ?_
    refine lv_iconst (v := 1) hx hb dX3_whole_12 (by decide) ?_
    refine lv_aload_n hx hb dX3_whole_13 rfl (lv_at hl 0 rfl) ?_
    refine t_get (C := RX3) (T := TX3) (N := 13) X hT m0 g0 rfl rfl 0 (by decide) qw_73 inlX3 rfl dX3_whole_14 (fun v55900 hv55900 ov55900 => ?_)
    obtain rfl : v55900 = .ref x0 := hv55900.symm.trans pf0
    refine t_get (C := RX8) (T := TX8) (N := 8) X hT mx0 gx0 rfl rfl 4 (by decide) qw_227 inlX8 rfl dX3_whole_17 (fun v55901 hv55901 ov55901 => ?_)
    obtain ⟨z55902, rfl, rz55902⟩ := okV_i ov55901
    refine t_cVv (n := 2) (C := RX3) (T := TX3) (N := 13) (As := [.int 1, .int z55902]) (rest := []) X hT (kt111_X3_fail l G tag L F hT.2.2.2 p0 1 z55902 m0 g0 (by decide)) m0 g0 rfl rfl qw_287 qw_288 qw_289 qw_28 qw_290 ⟨rfl, by decide +kernel, by decide +kernel, by decide +kernel⟩ ⟨Nat.le_of_ble_eq_true rfl, Nat.le_of_ble_eq_true rfl⟩ hl rfl rfl (Nat.le_of_ble_eq_true rfl) dX3_whole_20 ⟨Nat.le_of_ble_eq_true rfl, Nat.le_of_ble_eq_true rfl⟩ (fun F H locs hT hz55903 => ?_)
    obtain ⟨yz55903, xz55903_0⟩ := hz55903
    have pf0 := (yz55903.1 _ 0 (Or.inr (by decide)) (Or.inr (by decide))).trans pf0
    have pf1 := (yz55903.1 _ 1 (Or.inr (by decide)) (Or.inr (by decide))).trans pf1
    have pf2 := (yz55903.1 _ 2 (Or.inr (by decide)) (Or.inr (by decide))).trans pf2
    have pf3 := (yz55903.1 _ 0 (Or.inr (by decide)) (Or.inr (by decide))).trans pf3
    have pf4 := (yz55903.1 _ 10 (Or.inr (by decide)) (Or.inr (by decide))).trans pf4
    have pf5 := (yz55903.1 _ 11 (Or.inr (by decide)) (Or.inr (by decide))).trans pf5
    have hv55857 := (yz55903.1 _ 3 (Or.inl (by rw [gx0]; decide)) (Or.inr (by decide))).trans hv55857
    have hv55901 := (yz55903.1 _ 4 (Or.inr (by decide)) (Or.inl (by rw [gx0]; decide))).trans hv55901
    have hfr : (∀ b j : Nat, (tag b ≠ 24 ∨ j ≠ 2) → (tag b ≠ 24 ∨ j ≠ 3) → (tag b ≠ 24 ∨ j ≠ 4) → (tag b ≠ 24 ∨ j ≠ 5) → (tag b ≠ 24 ∨ j ≠ 6) → (tag b ≠ 24 ∨ j ≠ 7) → (tag b ≠ 25 ∨ j ≠ 3) → (tag b ≠ 25 ∨ j ≠ 4) → fld F b j = fld Fo b j) ∧ EF tag F Fo := ⟨fun b j n24_2 n24_3 n24_4 n24_5 n24_6 n24_7 n25_3 n25_4 => (yz55903.1 b j n25_3 n25_4).trans (hfr.1 b j n24_2 n24_3 n24_4 n24_5 n24_6 n24_7 n25_3 n25_4), fun b j hb => (yz55903.2 b j hb).trans (hfr.2 b j hb)⟩
    obtain ⟨z55904, qz55904, rz55904⟩ := xz55903_0
    refine lv_goto (tgt := 60) hx hb dX3_whole_23 (by decide) ?_
    refine lv_aload_n hx hb dX3_whole_60 rfl (lv_at hl 0 rfl) ?_
    refine t_get (C := RX3) (T := TX3) (N := 13) X hT m0 g0 rfl rfl 3 (by decide) qw_163 inlX3 rfl dX3_whole_61 (fun v55905 hv55905 ov55905 => ?_)
    obtain rfl : v55905 = .int z55904 := hv55905.symm.trans qz55904
    refine lv_if_eq (tgt := 69) hx hb dX3_whole_64 (by decide) (fun c55906 => ?_) (fun c55906 => ?_)
    · have w55907 := cv_eq (rfl : z55904.toInt = z55904.toInt) (by decide : (0 : Int32).toInt = 0) c55906
      exfalso
      omega
    · have w55908 := cv_ne (rfl : z55904.toInt = z55904.toInt) (by decide : (0 : Int32).toInt = 0) c55906
      refine lv_iload_n hx hb dX3_whole_67 rfl (lv_at hl 1 rfl) ?_
      exact t_iret hQ X hT (⟨(by omega), hfr⟩) (Nat.le_of_ble_eq_true rfl) (Nat.le_of_ble_eq_true rfl) dX3_whole_68
