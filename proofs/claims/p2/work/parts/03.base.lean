def nestM : List (String × Nat × MethodName × String) := [("YearSkins", 15, ⟨"YearSkins$Land", "<init>", "()V"⟩, "YearSkins"), ("YearSkins", 25, ⟨"YearSkins$State", "<init>", "()V"⟩, "YearSkins"), ("YearSkins", 38, ⟨"YearSkins$Reader", "<init>", "()V"⟩, "YearSkins"), ("YearSkins$Reader", 11, ⟨"YearSkins$Tokens", "<init>", "()V"⟩, "YearSkins"), ("YearSkins", 45, ⟨"YearSkins$Years", "<init>", "()V"⟩, "YearSkins"), ("YearSkins", 52, ⟨"YearSkins$Burglar", "<init>", "()V"⟩, "YearSkins"), ("YearSkins", 59, ⟨"YearSkins$WallOrders", "<init>", "()V"⟩, "YearSkins"), ("YearSkins$Past", 20, ⟨"YearSkins$State", "<init>", "()V"⟩, "YearSkins"), ("YearSkinsModel", 413, ⟨"YearSkinsModel$Land", "<init>", "()V"⟩, "YearSkinsModel"), ("YearSkinsModel$Land", 82, ⟨"YearSkinsModel", "within", "(III)Z"⟩, "YearSkinsModel")]
def nestF : List (String × Nat × String × String × String × String) := [("YearSkins$Site", 60, "YearSkins", "SIDE_EAST", "[I", "YearSkins"), ("YearSkins$Site", 63, "YearSkins", "SIDE_SOUTH", "[I", "YearSkins"), ("YearSkins$Years", 115, "YearSkins", "ROWS_OF", "[I", "YearSkins"), ("YearSkins$WallOrders", 42, "YearSkins", "ROWS_OF", "[I", "YearSkins"), ("YearSkinsModel", 160, "YearSkinsModel$Land", "wide", "I", "YearSkinsModel"), ("YearSkinsModel", 168, "YearSkinsModel$Land", "high", "I", "YearSkinsModel"), ("YearSkinsModel", 223, "YearSkinsModel$Land", "year", "I", "YearSkinsModel"), ("YearSkinsModel", 296, "YearSkinsModel$Land", "births", "I", "YearSkinsModel"), ("YearSkinsModel", 298, "YearSkinsModel$Land", "fire", "I", "YearSkinsModel"), ("YearSkinsModel", 300, "YearSkinsModel$Land", "earns", "I", "YearSkinsModel"), ("YearSkinsModel", 302, "YearSkinsModel$Land", "waters", "I", "YearSkinsModel"), ("YearSkinsModel", 226, "YearSkinsModel$Land", "stones", "I", "YearSkinsModel"), ("YearSkinsModel", 229, "YearSkinsModel$Land", "houses", "I", "YearSkinsModel"), ("YearSkinsModel", 388, "YearSkinsModel$Land", "heirs", "I", "YearSkinsModel"), ("YearSkinsModel", 394, "YearSkinsModel$Land", "walls", "I", "YearSkinsModel"), ("YearSkinsModel", 401, "YearSkinsModel$Land", "olders", "I", "YearSkinsModel"), ("YearSkinsModel", 205, "YearSkinsModel$Land", "names", "I", "YearSkinsModel"), ("YearSkinsModel", 281, "YearSkinsModel$Land", "far", "Z", "YearSkinsModel"), ("YearSkinsModel", 284, "YearSkinsModel$Land", "share", "Z", "YearSkinsModel"), ("YearSkinsModel", 308, "YearSkinsModel$Land", "water", "[Z", "YearSkinsModel"), ("YearSkinsModel", 332, "YearSkinsModel$Land", "kind", "[I", "YearSkinsModel"), ("YearSkinsModel", 335, "YearSkinsModel$Land", "costs", "[I", "YearSkinsModel"), ("YearSkinsModel", 337, "YearSkinsModel$Land", "warm", "[I", "YearSkinsModel"), ("YearSkinsModel", 339, "YearSkinsModel$Land", "rots", "[I", "YearSkinsModel"), ("YearSkinsModel", 341, "YearSkinsModel$Land", "strong", "[I", "YearSkinsModel"), ("YearSkinsModel", 361, "YearSkinsModel$Land", "core", "[I", "YearSkinsModel"), ("YearSkinsModel", 364, "YearSkinsModel$Land", "stoneOf", "[I", "YearSkinsModel"), ("YearSkinsModel", 391, "YearSkinsModel$Land", "heirHouse", "[I", "YearSkinsModel"), ("YearSkinsModel", 404, "YearSkinsModel$Land", "older", "[I", "YearSkinsModel"), ("YearSkinsModel", 397, "YearSkinsModel$Land", "coin", "[I", "YearSkinsModel"), ("YearSkinsModel", 399, "YearSkinsModel$Land", "smell", "[I", "YearSkinsModel"), ("YearSkinsModel", 201, "YearSkinsModel$Land", "name", "[J", "YearSkinsModel"), ("YearSkinsModel", 208, "YearSkinsModel$Land", "nameSort", "[I", "YearSkinsModel"), ("YearSkinsModel", 211, "YearSkinsModel$Land", "nameNumber", "[I", "YearSkinsModel"), ("YearSkinsModel", 345, "YearSkinsModel$Land", "first", "[I", "YearSkinsModel")]
def strW : List (String × Nat × String) := [("YearSkins$Reader", 150, "land"), ("YearSkins$Reader", 155, "years"), ("YearSkins$Reader", 157, "water"), ("YearSkins$Reader", 159, "stone"), ("YearSkins$Reader", 161, "house"), ("YearSkins$Reader", 163, "skin"), ("YearSkins$Reader", 165, "heir"), ("YearSkins$Reader", 167, "wall"), ("YearSkins$Reader", 169, "older"), ("YearSkins$Reader", 171, "coin"), ("YearSkins$Reader", 173, "smell"), ("YearSkins$Reader", 181, "wide"), ("YearSkins$Reader", 193, "high"), ("YearSkins$Reader", 197, "doors"), ("YearSkins$Reader", 199, "near"), ("YearSkins$Reader", 201, "far"), ("YearSkins$Reader", 203, ""), ("YearSkins$Reader", 211, "share"), ("YearSkins$Reader", 213, "no"), ("YearSkins$Reader", 215, "yes"), ("YearSkins$Reader", 222, "births"), ("YearSkins$Reader", 226, "fire"), ("YearSkins$Reader", 230, "earns"), ("YearSkins$Reader", 247, "hard"), ("YearSkins$Reader", 249, "soft"), ("YearSkins$Reader", 251, "wood"), ("YearSkins$Reader", 257, "costs"), ("YearSkins$Reader", 259, "warm"), ("YearSkins$Reader", 261, "rots"), ("YearSkins$Reader", 263, "strong"), ("YearSkins$Reader", 265, "at"), ("YearSkins$Reader", 273, "of"), ("YearSkins$Reader", 279, "family"), ("YearSkins$Reader", 281, "gold"), ("YearSkins$Reader", 305, "north"), ("YearSkins$Reader", 307, "east"), ("YearSkins$Reader", 309, "south"), ("YearSkins$Reader", 311, "west"), ("YearSkins$Reader", 313, "lock"), ("YearSkinsModel", 171, "land"), ("YearSkinsModel", 263, "wide"), ("YearSkinsModel", 268, "high"), ("YearSkinsModel", 269, "doors"), ("YearSkinsModel", 271, "far"), ("YearSkinsModel", 273, "near"), ("YearSkinsModel", 275, "share"), ("YearSkinsModel", 277, "yes"), ("YearSkinsModel", 279, "no"), ("YearSkinsModel", 173, "years"), ("YearSkinsModel", 290, "births"), ("YearSkinsModel", 292, "fire"), ("YearSkinsModel", 294, "earns"), ("YearSkinsModel", 175, "water"), ("YearSkinsModel", 177, "stone"), ("YearSkinsModel", 179, "house"), ("YearSkinsModel", 181, "skin"), ("YearSkinsModel", 183, "heir"), ("YearSkinsModel", 185, "wall"), ("YearSkinsModel", 187, "older"), ("YearSkinsModel", 189, "coin"), ("YearSkinsModel", 191, "smell"), ("YearSkinsModel", 315, "hard"), ("YearSkinsModel", 317, "soft"), ("YearSkinsModel", 319, "wood"), ("YearSkinsModel", 321, "costs"), ("YearSkinsModel", 323, "warm"), ("YearSkinsModel", 325, "rots"), ("YearSkinsModel", 327, "strong"), ("YearSkinsModel", 343, "at"), ("YearSkinsModel", 352, "of"), ("YearSkinsModel", 357, "family"), ("YearSkinsModel", 359, "gold"), ("YearSkinsModel", 367, "north"), ("YearSkinsModel", 369, "east"), ("YearSkinsModel", 371, "south"), ("YearSkinsModel", 373, "west"), ("YearSkinsModel", 382, "lock")]
theorem gWL : wsL_law.all goodWord = true := by decide +kernel
theorem gT {Ts ws : List Cond} (hT : ∀ w ∈ wsL_law, w ∈ Ts) (h : ∀ w ∈ ws, w ∈ wsL_law) : GoodIn Ts ws := fun w hw => ⟨hT w (h w hw), good_of_word (List.all_eq_true.mp gWL w (h w hw))⟩
abbrev KG : Type := va_G × (Nat → ClassId)
abbrev KS : Type := (Nat → Nat) × (Nat → Nat → Int32)
abbrev TY (G : KG) : List (ClassId × FieldType) := [(G.2 0, .int), (G.2 1, .boolean), (G.2 2, .long), (G.2 3, .byte), (G.2 4, .object "YearSkins$State")]
/-- what every method's start says of the tables beyond the words that stay: links of nest mates, texts, arrays of State -/
def EN (U : State) : Prop := (∀ q ∈ nestM, va_Nw (.methodLinkNest q.1 q.2.1 q.2.2.1 q.2.2.2) U) ∧ (∀ q ∈ nestF, va_Nw (.fieldLinkNest q.1 q.2.1 q.2.2.1 q.2.2.2.1 q.2.2.2.2.1 q.2.2.2.2.2) U) ∧ (∀ q ∈ strW, ∃ a : Nat, vk_R q.1 q.2.1 q.2.2 a U) ∧ va_AO "YearSkins$State" U
theorem EN.same {u U : State} (h : u.vm = U.vm) (hE : EN u) : EN U := ⟨fun q hq => va_Nw.same rfl h (hE.1 q hq), fun q hq => va_Nw.same rfl h (hE.2.1 q hq), fun q hq => by obtain ⟨a, ha⟩ := hE.2.2.1 q hq; exact ⟨a, vk_R.same h.symm ha⟩, va_AO.moved (by rw [h]; exact Vm.Alike.refl _) hE.2.2.2⟩
theorem EN.warm {s U : State} (hW : s.WarmedH U.vm) (hE : EN s) : EN U := ⟨fun q hq => va_Nw.warmM hW (hE.1 q hq), fun q hq => va_Nw.warmF hW (hE.2.1 q hq), fun q hq => by obtain ⟨a, ha⟩ := hE.2.2.1 q hq; exact ⟨a, vk_R.warm hW ha⟩, va_AO.moved hW.alike hE.2.2.2⟩
def gEast (j : Nat) : Int32 := match j with
  | 1 => 1
  | 3 => -1
  | _ => 0
def gSouth (j : Nat) : Int32 := match j with
  | 0 => -1
  | 2 => 1
  | _ => 0
def gRows (j : Nat) : Int32 := match j with
  | 0 => 1
  | 1 => 1
  | 2 => 2
  | 3 => 6
  | 4 => 24
  | 5 => 120
  | _ => 720
def gNums (j : Nat) : Int32 := match j with
  | 1 => 1
  | 2 => 2
  | 3 => 3
  | _ => 0
theorem gEast_r (j : Nat) : -1 ≤ (gEast j).toInt ∧ (gEast j).toInt ≤ 1 := by unfold gEast; split <;> decide
theorem gSouth_r (j : Nat) : -1 ≤ (gSouth j).toInt ∧ (gSouth j).toInt ≤ 1 := by unfold gSouth; split <;> decide
theorem gRows_r (j : Nat) : 1 ≤ (gRows j).toInt ∧ (gRows j).toInt ≤ 720 := by unfold gRows; split <;> decide
theorem gNums_r (j : Nat) : 0 ≤ (gNums j).toInt ∧ (gNums j).toInt ≤ 3 := by unfold gNums; split <;> decide
def STa (t N : Nat) (n : String) (g : Nat → Int32) (A : Nat → Prop) (U : State) (H : Heap) : Prop := va_Z "YearSkins" n "[I" (.ref t) A U H ∧ va_T .int t N (fun j => .int (g j)) A U H
theorem STa.moved {t N : Nat} {n : String} {g : Nat → Int32} {A : Nat → Prop} {u U : State} {H : Heap} (hvm : u.vm.Alike U.vm) (h : STa t N n g A u H) : STa t N n g A U H := ⟨h.1.moved hvm, h.2.moved hvm⟩
theorem STa.kept {t N : Nat} {n : String} {g : Nat → Int32} {A : Nat → Prop} {U : State} {H H1 : Heap} (h : STa t N n g A U H) (hq : ∀ a : Nat, a < H.size → ¬ A a → H1[a]? = H[a]?) : STa t N n g A U H1 := ⟨h.1.kept hq, h.2.kept hq⟩
theorem STa.narrow {t N : Nat} {n : String} {g : Nat → Int32} {A B : Nat → Prop} {U : State} {H : Heap} (h : STa t N n g A U H) (hAB : ∀ q, B q → A q) : STa t N n g B U H := ⟨h.1.narrow hAB, h.2.narrow hAB⟩
/-- the class's own static arrays, at the addresses that G keeps -/
def ST4 (G : KG) (A : Nat → Prop) (U : State) (H : Heap) : Prop := STa (G.2 10) 4 "SIDE_EAST" gEast A U H ∧ STa (G.2 11) 4 "SIDE_SOUTH" gSouth A U H ∧ STa (G.2 12) 7 "ROWS_OF" gRows A U H ∧ STa (G.2 13) 4 "BY_NUMBERS" gNums A U H
theorem ST4.moved {G : KG} {A : Nat → Prop} {u U : State} {H : Heap} (hvm : u.vm.Alike U.vm) (h : ST4 G A u H) : ST4 G A U H := ⟨h.1.moved hvm, h.2.1.moved hvm, h.2.2.1.moved hvm, h.2.2.2.moved hvm⟩
theorem ST4.pre {G : KG} {A B : Nat → Prop} {s U : State} {H : Heap} {locs : List Loc} (h : ST4 G A s s.heap) (hS : va_S A s.heap H locs) (hAB : ∀ q, B q → A q) (hU : U.heap = H) (hW : s.WarmedH U.vm) : ST4 G B U U.heap := by
  rw [hU]
  exact ⟨((h.1.kept hS.2.1).narrow hAB).moved hW.alike, ((h.2.1.kept hS.2.1).narrow hAB).moved hW.alike, ((h.2.2.1.kept hS.2.1).narrow hAB).moved hW.alike, ((h.2.2.2.kept hS.2.1).narrow hAB).moved hW.alike⟩
/-- the String constants: their places, and what they hold -/
def lenL : List Nat := [4, 5, 5, 5, 5, 4, 4, 4, 5, 4, 5, 4, 4, 5, 4, 3, 0, 5, 2, 3, 6, 4, 5, 4, 4, 4, 5, 4, 4, 6, 2, 2, 6, 4, 5, 4, 5, 4, 4, 4, 4, 4, 5, 3, 4, 5, 3, 2, 5, 6, 4, 5, 5, 5, 5, 4, 4, 4, 5, 4, 5, 4, 4, 4, 5, 4, 4, 6, 2, 2, 6, 4, 5, 4, 5, 4, 4]
def bytL : List (List Int32) := [[108, 97, 110, 100], [121, 101, 97, 114, 115], [119, 97, 116, 101, 114], [115, 116, 111, 110, 101], [104, 111, 117, 115, 101], [115, 107, 105, 110], [104, 101, 105, 114], [119, 97, 108, 108], [111, 108, 100, 101, 114], [99, 111, 105, 110], [115, 109, 101, 108, 108], [119, 105, 100, 101], [104, 105, 103, 104], [100, 111, 111, 114, 115], [110, 101, 97, 114], [102, 97, 114], [], [115, 104, 97, 114, 101], [110, 111], [121, 101, 115], [98, 105, 114, 116, 104, 115], [102, 105, 114, 101], [101, 97, 114, 110, 115], [104, 97, 114, 100], [115, 111, 102, 116], [119, 111, 111, 100], [99, 111, 115, 116, 115], [119, 97, 114, 109], [114, 111, 116, 115], [115, 116, 114, 111, 110, 103], [97, 116], [111, 102], [102, 97, 109, 105, 108, 121], [103, 111, 108, 100], [110, 111, 114, 116, 104], [101, 97, 115, 116], [115, 111, 117, 116, 104], [119, 101, 115, 116], [108, 111, 99, 107], [108, 97, 110, 100], [119, 105, 100, 101], [104, 105, 103, 104], [100, 111, 111, 114, 115], [102, 97, 114], [110, 101, 97, 114], [115, 104, 97, 114, 101], [121, 101, 115], [110, 111], [121, 101, 97, 114, 115], [98, 105, 114, 116, 104, 115], [102, 105, 114, 101], [101, 97, 114, 110, 115], [119, 97, 116, 101, 114], [115, 116, 111, 110, 101], [104, 111, 117, 115, 101], [115, 107, 105, 110], [104, 101, 105, 114], [119, 97, 108, 108], [111, 108, 100, 101, 114], [99, 111, 105, 110], [115, 109, 101, 108, 108], [104, 97, 114, 100], [115, 111, 102, 116], [119, 111, 111, 100], [99, 111, 115, 116, 115], [119, 97, 114, 109], [114, 111, 116, 115], [115, 116, 114, 111, 110, 103], [97, 116], [111, 102], [102, 97, 109, 105, 108, 121], [103, 111, 108, 100], [110, 111, 114, 116, 104], [101, 97, 115, 116], [115, 111, 117, 116, 104], [119, 101, 115, 116], [108, 111, 99, 107]]
def lenS (k : Nat) : Nat := lenL.getD k 0
def bytS (k j : Nat) : Int32 := (bytL.getD k []).getD j 0
theorem lenS_le (k : Nat) : lenS k ≤ 8 := by
  unfold lenS
  rw [List.getD_eq_getElem?_getD]
  cases h : lenL[k]? with
  | none => simp
  | some x =>
    have h1 : ∀ x ∈ lenL, x ≤ 8 := by decide +kernel
    simpa using h1 x (List.mem_of_getElem? h)
def SSk (G : KG) (k : Nat) (w : String × Nat × String) (A : Nat → Prop) (U : State) (H : Heap) : Prop := vk_R w.1 w.2.1 w.2.2 (G.2 (100 + k)) U ∧ va_O "java/lang/String" (G.2 (100 + k)) A U H ∧ va_OF "java/lang/String" "coder" "B" (.int 0) (G.2 (100 + k)) A U H ∧ va_OF "java/lang/String" "value" "[B" (.ref (G.2 (300 + k))) (G.2 (100 + k)) A U H ∧ va_T .byte (G.2 (300 + k)) (lenS k) (fun j => .int (bytS k j)) A U H
def SS (G : KG) (A : Nat → Prop) (U : State) (H : Heap) : Prop := va_Z "java/lang/String" "COMPACT_STRINGS" "Z" (.int 1) A U H ∧ (va_Z "jdk/internal/util/Preconditions" "SIOOBE_FORMATTER" "Ljava/util/function/BiFunction;" .null A U H ∨ va_Z "jdk/internal/util/Preconditions" "SIOOBE_FORMATTER" "Ljava/util/function/BiFunction;" (.ref (G.2 20)) A U H) ∧ ∀ (k : Nat) (w : String × Nat × String), strW[k]? = some w → SSk G k w A U H
theorem SS.same {G : KG} {A : Nat → Prop} {u U : State} {H : Heap} (hv : U.vm = u.vm) (h : SS G A u H) : SS G A U H := by
  have hvm : u.vm.Alike U.vm := by rw [hv]; exact Vm.Alike.refl _
  exact ⟨h.1.moved hvm, h.2.1.imp (fun z => z.moved hvm) (fun z => z.moved hvm), fun k w hk => ⟨(h.2.2 k w hk).1.same hv, (h.2.2 k w hk).2.1.moved hvm, (h.2.2 k w hk).2.2.1.moved hvm, (h.2.2 k w hk).2.2.2.1.moved hvm, (h.2.2 k w hk).2.2.2.2.moved hvm⟩⟩
theorem SS.pre {G : KG} {A B : Nat → Prop} {s U : State} {H : Heap} {locs : List Loc} (h : SS G A s s.heap) (hS : va_S A s.heap H locs) (hAB : ∀ q, B q → A q) (hU : U.heap = H) (hW : s.WarmedH U.vm) : SS G B U U.heap := by
  rw [hU]
  exact ⟨((h.1.kept hS.2.1).narrow hAB).moved hW.alike, h.2.1.imp (fun z => ((z.kept hS.2.1).narrow hAB).moved hW.alike) (fun z => ((z.kept hS.2.1).narrow hAB).moved hW.alike), fun k w hk => ⟨(h.2.2 k w hk).1.warm hW, (((h.2.2 k w hk).2.1.kept hS.2.1).narrow hAB).moved hW.alike, (((h.2.2 k w hk).2.2.1.kept hS.2.1).narrow hAB).moved hW.alike, (((h.2.2 k w hk).2.2.2.1.kept hS.2.1).narrow hAB).moved hW.alike, (((h.2.2 k w hk).2.2.2.2.kept hS.2.1).narrow hAB).moved hW.alike⟩⟩
def ST (G : KG) (A : Nat → Prop) (U : State) (H : Heap) : Prop := ST4 G A U H ∧ SS G A U H
theorem ST.same {G : KG} {A : Nat → Prop} {u U : State} {H : Heap} (hv : U.vm = u.vm) (h : ST G A u H) : ST G A U H := ⟨h.1.moved (by rw [hv]; exact Vm.Alike.refl _), h.2.same hv⟩
theorem ST.pre {G : KG} {A B : Nat → Prop} {s U : State} {H : Heap} {locs : List Loc} (h : ST G A s s.heap) (hS : va_S A s.heap H locs) (hAB : ∀ q, B q → A q) (hU : U.heap = H) (hW : s.WarmedH U.vm) : ST G B U U.heap := ⟨h.1.pre hS hAB hU hW, h.2.pre hS hAB hU hW⟩
def Pw (G : KG) (ws : va_W) (sz : Nat) (U : State) : Prop := U.heap.size = sz ∧ va_P G.1 vwCl ws U.heap ∧ va_K G.1 vwCl (TY G) U ∧ va_D (fun _ => True) ws ∧ EN U ∧ ST G (va_A ws sz) U U.heap
def Bw (G : KG) (A : Nat → Prop) (w1 : va_W) (t : State) : Prop := va_P G.1 vwCl w1 t.heap ∧ va_D A w1
theorem Pw_blind {G : KG} {av : List Value} {ws : va_W} {sz : Nat} : FrameBlind (va_Pc av (Pw G ws sz)) := fun a U g mk h => ⟨h.1, h.2.1, h.2.2.1, va_K.moved (u := U) (U := U.calling g mk a) (Vm.Alike.refl U.vm) h.2.2.2.1, h.2.2.2.2.1, EN.same (u := U) rfl h.2.2.2.2.2.1, ST.same (u := U) (U := U.calling g mk a) rfl h.2.2.2.2.2.2⟩
def CX (p : Program) (s : State) (m : MethodId) (args : Array Value) (meth : Method) (c : Code) (cc : ByteArray) (nL : Nat) (own : String) (rt : Option FieldType) (G : KG) (A : Nat → Prop) (Ts : List Cond) : Prop :=
  CallFix p m c cc nL s args Ts own ∧ (∀ w ∈ wsL_law, w ∈ Ts) ∧ va_K G.1 vwCl (TY G) s ∧ (EN s ∧ ST G A s s.heap) ∧ (∀ q : Nat, s.heap.size ≤ q → A q) ∧ meth.sig.returnType = rt ∧ meth.locks = false
theorem m_body {l : Launch} {y : MethodName} {cd : ByteArray} {mL : Nat} {rt : Option FieldType} {rm : Room} {G : KG} {av : List Value} {wc : va_W} {Qf : (Nat → Prop) → Array Value → State → Outcome → State → Prop} {sz : Nat}
    (hy : plainName y.cls = true) (hlen : (lg_sl av).length ≤ mL)
    (body : ∀ (p : Program) (e : Env) (s : State) (m : MethodId) (args : Array Value) (below : List Frame) (meth : Method) (c : Code) (ls : Array Slot) (A : Nat → Prop), CX p s m args meth c cd mL y.cls rt G A (.code y cd mL rt :: wsL_law) → meth.name = y.name → va_P G.1 vwCl wc s.heap → va_D A wc → va_S A s.heap s.heap [] → lv_has ls mL (lv_args 0 av) →
      W p l e rm s m args below meth c s.heap [] 0 0 (MQ below (Qf A) args s rm.cells rm.slots A) (F0 m 0 ls [])) :
    Met l y (.code y cd mL rt :: wsL_law) rm (va_Pc av (Pw G wc sz)) (Qf (va_A wc sz)) rm.cells rm.slots (va_A wc sz) := by
  refine Met.ofW (cc := cd) (maxL := mL) (ret := rt) hy rfl ?_
  intro p e s m args below meth c s₁ B hml hv
  obtain ⟨rfl, hsz, hP, hK, hD0, hE⟩ := hv
  have hts := atoms_spec (ws := .code y cd mL rt :: wsL_law) B.pre
  have hown : s.vm.findClass y.cls = some m.cls := findClass_of_methodNamed B.named
  have hl := lv_entry av (n := mL) hlen
  rw [lg_entry_eq]
  generalize (lg_sl av ++ List.replicate (mL - (lg_sl av).length) Slot.unset).toArray = ls at hl ⊢
  exact body p e s m _ below meth c ls (va_A wc sz) ⟨⟨B.exec, B.bytes, hml, hown, hts⟩, fun w h => List.mem_cons_of_mem _ h, hK, hE, fun q h => Or.inr (hsz ▸ h), B.returns, B.notSynchronized⟩ (name_of_methodNamed B.named B.method).1 hP hD0.self va_S.rf hl
theorem RA_inj {s : State} {a b : ClassId} {ty : FieldType} (h1 : va_RA s a ty) (h2 : va_RA s b ty) : a = b := by
  cases ty with
  | object C =>
    obtain ⟨_, _, _, _, _, h1⟩ := h1
    obtain ⟨_, _, _, _, _, h2⟩ := h2
    exact Option.some.inj (h1.symm.trans h2)
  | _ =>
    have e1 : s.vm.findClass _ = some a := h1
    have e2 : s.vm.findClass _ = some b := h2
    exact Option.some.inj (e1.symm.trans e2)
theorem fm_of {α : Type} {f : Nat → Option α} : ∀ (l : List Nat) (w : List α), l.map f = w.map some → l.filterMap f = w
  | [], [], _ => rfl
  | [], _ :: _, h => by simp at h
  | _ :: _, [], h => by simp at h
  | i :: l, x :: w, h => by
    simp only [List.map_cons, List.cons.injEq] at h
    rw [List.filterMap_cons, h.1, fm_of l w h.2]
theorem vin {i : Int32} {n : Nat} (h : decide (¬ (i < 0 ∨ n ≤ i.toNatClampNeg)) = true) : vp_in i n := by
  unfold vp_in
  exact of_decide_eq_true h
section MB
variable {p : Program} {l : Launch} {e : Env} {R : Room} {s : State} {m : MethodId} {args : Array Value} {below : List Frame} {meth : Method} {c : Code} {H : Heap} {locs : List Loc} {cells slots : Nat} {Q : State → Prop}
variable {pc : Nat} {ls : Array Slot} {rest st : List Value} {cc : ByteArray} {nL : Nat} {own : String} {rt : Option FieldType} {G : KG} {A : Nat → Prop} {Ts : List Cond} {ws : va_W} {a : Nat}
theorem m_get (X : CX p s m args meth c cc nL own rt G A Ts) (hP : va_P G.1 vwCl ws H) {C : String} {T : u_T} {N ci index : Nat} (q0 : Nat) {fs : List Value} (he : ws[q0]? = some (a, .inr (ci, fs))) (hc : vwCl[ci]? = some (C, T, N)) (k : Nat) (hk : k < N) (hw : Cond.fieldLink own index (T k).1 (T k).2.1 (T k).2.2.1 ∈ wsL_law) (hin : ∀ w ∈ u_ws C T N, w ∈ wsL_law) {v : Value} (hv : fs[k]? = some v) (hdg : decode cc pc = .ok (.getfield index, 3))
    (kk : W p l e R s m args below meth c H locs cells slots Q (F0 m (pc + 3) ls (v :: rest))) : W p l e R s m args below meth c H locs cells slots Q (F0 m pc ls (.ref a :: rest)) :=
  va_get (D := G.1) X.1.1 X.1.2.1 X.1.2.2.2.2 (fun w h => X.2.1 w (hin w h)) X.1.2.2.2.1 X.2.2.1 hP q0 he hc k hk (X.1.2.2.2.2 _ (X.2.1 _ hw)) (fun _ h => h) hv hdg kk
theorem m_getN (X : CX p s m args meth c cc nL own rt G A Ts) (hP : va_P G.1 vwCl ws H) {C : String} {T : u_T} {N ci index : Nat} {host : String} (q0 : Nat) {fs : List Value} (he : ws[q0]? = some (a, .inr (ci, fs))) (hc : vwCl[ci]? = some (C, T, N)) (k : Nat) (hk : k < N) (hw : (own, index, (T k).1, (T k).2.1, (T k).2.2.1, host) ∈ nestF) (hin : ∀ w ∈ u_ws C T N, w ∈ wsL_law) {v : Value} (hv : fs[k]? = some v) (hdg : decode cc pc = .ok (.getfield index, 3))
    (kk : W p l e R s m args below meth c H locs cells slots Q (F0 m (pc + 3) ls (v :: rest))) : W p l e R s m args below meth c H locs cells slots Q (F0 m pc ls (.ref a :: rest)) :=
  va_getN (D := G.1) (host := host) X.1.1 X.1.2.1 X.1.2.2.2.2 (fun w h => X.2.1 w (hin w h)) X.1.2.2.2.1 X.2.2.1 hP q0 he hc k hk (va_Nw.use rfl (X.2.2.2.1.1.2.1 _ hw)) (fun _ h => h) hv hdg kk
theorem m_put (X : CX p s m args meth c cc nL own rt G A Ts) (hP : va_P G.1 vwCl ws H) (hD : va_D A ws) (hS : va_S A s.heap H locs) {C : String} {T : u_T} {N ci index : Nat} (ty0 : Nat → FieldType) (hty : ∀ k, k < N → parseFieldDescriptor (T k).2.2.1 = some (ty0 k)) (hnm : ∀ a, a < N → ∀ b, b < N → a ≠ b → (T a).2.1 ≠ (T b).2.1) (q0 : Nat) {fs : List Value} {ws' : va_W} (he : ws[q0]? = some (a, .inr (ci, fs))) (hc : vwCl[ci]? = some (C, T, N)) (k : Nat) (hk : k < N) (hw : Cond.fieldLink own index (T k).1 (T k).2.1 (T k).2.2.1 ∈ wsL_law) (hin : ∀ w ∈ u_ws C T N, w ∈ wsL_law) (hfin : (T k).2.2.2 = false) {v : Value} (hn : narrow (ty0 k) v = v) (hfit : fits (ty0 k) v = true) (hl : k < fs.length) (hws : ws.set q0 (a, .inr (ci, fs.set k v)) = ws') (hdg : decode cc pc = .ok (.putfield index, 3))
    (kk : ∀ (H1 : Heap) (locs1 : List Loc), va_P G.1 vwCl ws' H1 → va_D A ws' → va_S A s.heap H1 locs1 → W p l e R s m args below meth c H1 locs1 cells slots Q (F0 m (pc + 3) ls rest)) : W p l e R s m args below meth c H locs cells slots Q (F0 m pc ls (v :: .ref a :: rest)) := by
  subst hws
  exact va_put (D := G.1) X.1.1 X.1.2.1 X.1.2.2.2.2 (fun w h => X.2.1 w (hin w h)) ty0 hty hnm X.1.2.2.2.1 X.2.2.1 hP hD hS q0 he hc k hk (X.1.2.2.2.2 _ (X.2.1 _ hw)) (fun _ h => h) hfin (hty k hk) hn hfit hl hdg kk
theorem m_putF (X : CX p s m args meth c cc nL own rt G A Ts) (hi : meth.name = "<init>") (hP : va_P G.1 vwCl ws H) (hD : va_D A ws) (hS : va_S A s.heap H locs) {C : String} {T : u_T} {N ci index : Nat} (ty0 : Nat → FieldType) (hty : ∀ k, k < N → parseFieldDescriptor (T k).2.2.1 = some (ty0 k)) (hnm : ∀ a, a < N → ∀ b, b < N → a ≠ b → (T a).2.1 ≠ (T b).2.1) (q0 : Nat) {fs : List Value} {ws' : va_W} (he : ws[q0]? = some (a, .inr (ci, fs))) (hc : vwCl[ci]? = some (C, T, N)) (k : Nat) (hk : k < N) (hw : Cond.fieldLink own index (T k).1 (T k).2.1 (T k).2.2.1 ∈ wsL_law) (hin : ∀ w ∈ u_ws C T N, w ∈ wsL_law) (hfin : (T k).2.2.2 = true) (hdecl : (T k).1 = own) {v : Value} (hn : narrow (ty0 k) v = v) (hfit : fits (ty0 k) v = true) (hl : k < fs.length) (hws : ws.set q0 (a, .inr (ci, fs.set k v)) = ws') (hdg : decode cc pc = .ok (.putfield index, 3))
    (kk : ∀ (H1 : Heap) (locs1 : List Loc), va_P G.1 vwCl ws' H1 → va_D A ws' → va_S A s.heap H1 locs1 → W p l e R s m args below meth c H1 locs1 cells slots Q (F0 m (pc + 3) ls rest)) : W p l e R s m args below meth c H locs cells slots Q (F0 m pc ls (v :: .ref a :: rest)) := by
  subst hws
  exact va_putF (D := G.1) X.1.1 X.1.2.1 X.1.2.2.2.2 (fun w h => X.2.1 w (hin w h)) ty0 hty hnm X.1.2.2.2.1 X.2.2.1 hP hD hS q0 he hc k hk (X.1.2.2.2.2 _ (X.2.1 _ hw)) (fun _ h => h) hfin hi hdecl (hty k hk) hn hfit hl hdg kk
theorem m_new (X : CX p s m args meth c cc nL own rt G A Ts) (hP : va_P G.1 vwCl ws H) (hD : va_D A ws) (hS : va_S A s.heap H locs) {C : String} {T : u_T} {N ci index : Nat} (ty0 : Nat → FieldType) (hty : ∀ k, k < N → parseFieldDescriptor (T k).2.2.1 = some (ty0 k)) (hin : ∀ w ∈ u_ws C T N, w ∈ wsL_law) (h1 : Cond.classLink own index C ∈ wsL_law) (h2 : Cond.instantiable C N ∈ wsL_law) (h3 : Cond.initialized C ∈ wsL_law) (hc : vwCl[ci]? = some (C, T, N)) {fs : List Value} (hfs : (List.range N).all (fun j => decide (defaultValue (ty0 j) = vp_V fs j)) = true) (hcells : cells + 1 ≤ R.cells) (hslots : slots + N ≤ R.slots) (hdg : decode cc pc = .ok (.new index, 3))
    (kk : ∀ (q : Nat) (H1 : Heap), va_P G.1 vwCl (ws ++ [(q, .inr (ci, fs))]) H1 → va_D A (ws ++ [(q, .inr (ci, fs))]) → va_S A s.heap H1 locs → W p l e R s m args below meth c H1 locs (cells + 1) (slots + N) Q (F0 m (pc + 3) ls (.ref q :: rest))) : W p l e R s m args below meth c H locs cells slots Q (F0 m pc ls rest) :=
  va_new (D := G.1) X.1.1 X.1.2.1 X.1.2.2.2.2 (fun w h => X.2.1 w (hin w h)) ty0 hty X.1.2.2.2.1 (X.1.2.2.2.2 _ (X.2.1 _ h1)) (X.1.2.2.2.2 _ (X.2.1 _ h2)) (X.1.2.2.2.2 _ (X.2.1 _ h3)) X.2.2.1 hP hD hS X.2.2.2.2.1 hc (fun j hj => of_decide_eq_true (List.all_eq_true.mp hfs j (List.mem_range.mpr hj))) hcells hslots hdg kk
theorem m_newa (X : CX p s m args meth c cc nL own rt G A Ts) (hP : va_P G.1 vwCl ws H) (hD : va_D A ws) (hS : va_S A s.heap H locs) {atype : ArrayType} (t0 : Nat) {cA : ClassId} (ht : (TY G)[t0]? = some (cA, newarray.typeOf atype)) (hw : Cond.arrayClass (newarray.typeOf atype) ∈ wsL_law) {n : Int32} {N' : Nat} {a0 : vp_A} (ha : ∀ cA : ClassId, vp_cell cA a0 = arrV cA N' (fun _ => defaultValue (newarray.typeOf atype))) (hn : ¬ n < 0) (hN : n.toNatClampNeg = N') (hbytes : N' * componentBytes (newarray.typeOf atype) ≤ 536870912) (hcells : cells + 1 ≤ R.cells) (hslots : slots + N' ≤ R.slots) (hdg : decode cc pc = .ok (.newarray atype, 2))
    (kk : ∀ (q : Nat) (H1 : Heap), va_P G.1 vwCl (ws ++ [(q, .inl (cA, a0))]) H1 → va_D A (ws ++ [(q, .inl (cA, a0))]) → va_S A s.heap H1 locs → W p l e R s m args below meth c H1 locs (cells + 1) (slots + N') Q (F0 m (pc + 2) ls (.ref q :: rest))) : W p l e R s m args below meth c H locs cells slots Q (F0 m pc ls (.int n :: rest)) := by
  refine va_newa (D := G.1) (atype := atype) (a0 := a0) X.1.1 X.1.2.1 (X.1.2.2.2.2 _ (X.2.1 _ hw)) rfl X.2.2.1 hP hD hS X.2.2.2.2.1 ha hn hN hbytes hcells hslots hdg (fun q cB H1 hK hP hD hS => ?_)
  have e : cB = cA := RA_inj (hK.2 5 (cB, newarray.typeOf atype) rfl).2 (X.2.2.1.2 t0 _ ht).2
  subst e
  exact kk q H1 hP hD hS
theorem m_newo (X : CX p s m args meth c cc nL own rt G A Ts) (hP : va_P G.1 vwCl ws H) (hD : va_D A ws) (hS : va_S A s.heap H locs) {index : Nat} (hw : Cond.classLink own index "YearSkins$State" ∈ wsL_law) {n : Int32} {N' : Nat} (hn : ¬ n < 0) (hN : n.toNatClampNeg = N') (hbytes : N' * 4 ≤ 536870912) (hcells : cells + 1 ≤ R.cells) (hslots : slots + N' ≤ R.slots) (hdg : decode cc pc = .ok (.anewarray index, 3))
    (kk : ∀ (q : Nat) (H1 : Heap), va_P G.1 vwCl (ws ++ [(q, .inl (G.2 4, N', .inr (.inr (.inr (.inr (fun _ => none))))))]) H1 → va_D A (ws ++ [(q, .inl (G.2 4, N', .inr (.inr (.inr (.inr (fun _ => none))))))]) → va_S A s.heap H1 locs → W p l e R s m args below meth c H1 locs (cells + 1) (slots + N') Q (F0 m (pc + 3) ls (.ref q :: rest))) : W p l e R s m args below meth c H locs cells slots Q (F0 m pc ls (.int n :: rest)) := by
  refine va_newq (D := G.1) X.1.1 X.1.2.1 X.1.2.2.2.1 (X.1.2.2.2.2 _ (X.2.1 _ hw)) X.2.2.2.1.1.2.2.2 X.2.2.1 hP hD hS X.2.2.2.2.1 hn hN hbytes hcells hslots hdg (fun q cB H1 hK hP hD hS => ?_)
  have e : cB = G.2 4 := RA_inj (hK.2 5 (cB, .object "YearSkins$State") rfl).2 (X.2.2.1.2 4 _ rfl).2
  subst e
  exact kk q H1 hP hD hS
theorem m_iast (X : CX p s m args meth c cc nL own rt G A Ts) (hP : va_P G.1 vwCl ws H) (hD : va_D A ws) (hS : va_S A s.heap H locs) (q0 : Nat) {n : Nat} {f : Nat → Int32} {ws' : (Nat → Int32) → va_W} (ha : ws[q0]? = some (a, .inl (G.2 0, n, .inl f))) {i x : Int32} (hin : vp_in i n) (hws : ∀ f' : Nat → Int32, ws.set q0 (a, .inl (G.2 0, n, .inl f')) = ws' f') (hdg : decode cc pc = .ok (.iastore, 1))
    (kk : ∀ (f' : Nat → Int32) (H1 : Heap) (locs1 : List Loc), va_P G.1 vwCl (ws' f') H1 → va_D A (ws' f') → va_S A s.heap H1 locs1 → W p l e R s m args below meth c H1 locs1 cells slots Q (F0 m (pc + 1) ls rest)) : W p l e R s m args below meth c H locs cells slots Q (F0 m pc ls (.int x :: .int i :: .ref a :: rest)) :=
  va_iast (D := G.1) X.1.1 X.1.2.1 X.2.2.1 hP hD hS q0 0 ha rfl hin hdg (fun H1 locs1 h1 h2 h3 => kk _ H1 locs1 (hws _ ▸ h1) (hws _ ▸ h2) h3)
theorem m_zast (X : CX p s m args meth c cc nL own rt G A Ts) (hP : va_P G.1 vwCl ws H) (hD : va_D A ws) (hS : va_S A s.heap H locs) (q0 : Nat) {n : Nat} {f : Nat → Int32} {ws' : (Nat → Int32) → va_W} (ha : ws[q0]? = some (a, .inl (G.2 1, n, .inl f))) {i x : Int32} (hin : vp_in i n) (hws : ∀ f' : Nat → Int32, ws.set q0 (a, .inl (G.2 1, n, .inl f')) = ws' f') (hdg : decode cc pc = .ok (.bastore, 1))
    (kk : ∀ (f' : Nat → Int32) (H1 : Heap) (locs1 : List Loc), va_P G.1 vwCl (ws' f') H1 → va_D A (ws' f') → va_S A s.heap H1 locs1 → W p l e R s m args below meth c H1 locs1 cells slots Q (F0 m (pc + 1) ls rest)) : W p l e R s m args below meth c H locs cells slots Q (F0 m pc ls (.int x :: .int i :: .ref a :: rest)) :=
  va_zast (D := G.1) X.1.1 X.1.2.1 X.2.2.1 hP hD hS q0 1 ha rfl hin hdg (fun H1 locs1 h1 h2 h3 => kk _ H1 locs1 (hws _ ▸ h1) (hws _ ▸ h2) h3)
theorem m_bast (X : CX p s m args meth c cc nL own rt G A Ts) (hP : va_P G.1 vwCl ws H) (hD : va_D A ws) (hS : va_S A s.heap H locs) (q0 : Nat) {n : Nat} {f : Nat → Int32} {ws' : (Nat → Int32) → va_W} (ha : ws[q0]? = some (a, .inl (G.2 3, n, .inl f))) {i x : Int32} (hin : vp_in i n) (hws : ∀ f' : Nat → Int32, ws.set q0 (a, .inl (G.2 3, n, .inl f')) = ws' f') (hdg : decode cc pc = .ok (.bastore, 1))
    (kk : ∀ (f' : Nat → Int32) (H1 : Heap) (locs1 : List Loc), va_P G.1 vwCl (ws' f') H1 → va_D A (ws' f') → va_S A s.heap H1 locs1 → W p l e R s m args below meth c H1 locs1 cells slots Q (F0 m (pc + 1) ls rest)) : W p l e R s m args below meth c H locs cells slots Q (F0 m pc ls (.int x :: .int i :: .ref a :: rest)) :=
  va_bast (D := G.1) X.1.1 X.1.2.1 X.2.2.1 hP hD hS q0 3 ha rfl hin hdg (fun H1 locs1 h1 h2 h3 => kk _ H1 locs1 (hws _ ▸ h1) (hws _ ▸ h2) h3)
theorem m_astq (X : CX p s m args meth c cc nL own rt G A Ts) (hP : va_P G.1 vwCl ws H) (hD : va_D A ws) (hS : va_S A s.heap H locs) (q0 qk : Nat) {n v ci N : Nat} {T : u_T} {vs : List Value} {f : Nat → Option Nat} {ws' : (Nat → Option Nat) → va_W} (ha : ws[q0]? = some (a, .inl (G.2 4, n, .inr (.inr (.inr (.inr f)))))) (hv : ws[qk]? = some (v, .inr (ci, vs))) (hc : vwCl[ci]? = some ("YearSkins$State", T, N)) {i : Int32} (hin : vp_in i n) (hws : ∀ f' : Nat → Option Nat, ws.set q0 (a, .inl (G.2 4, n, .inr (.inr (.inr (.inr f'))))) = ws' f') (hdg : decode cc pc = .ok (.aastore, 1))
    (kk : ∀ (f' : Nat → Option Nat) (H1 : Heap) (locs1 : List Loc), va_P G.1 vwCl (ws' f') H1 → va_D A (ws' f') → va_S A s.heap H1 locs1 → W p l e R s m args below meth c H1 locs1 cells slots Q (F0 m (pc + 1) ls rest)) : W p l e R s m args below meth c H locs cells slots Q (F0 m pc ls (.ref v :: .int i :: .ref a :: rest)) :=
  va_astq (D := G.1) X.1.1 X.1.2.1 X.2.2.1 hP hD hS q0 4 qk ci ha rfl hv hc hin hdg (fun H1 locs1 h1 h2 h3 => kk _ H1 locs1 (hws _ ▸ h1) (hws _ ▸ h2) h3)
theorem m_alen (X : CX p s m args meth c cc nL own rt G A Ts) (hP : va_P G.1 vwCl ws H) (q0 t0 : Nat) {cA : ClassId} {x : vp_A} (ha : ws[q0]? = some (a, .inl (cA, x))) {ty : FieldType} (ht : (TY G)[t0]? = some (cA, ty)) {v : Int32} (hv : Int32.ofNat x.1 = v) (hdg : decode cc pc = .ok (.arraylength, 1)) (kk : W p l e R s m args below meth c H locs cells slots Q (F0 m (pc + 1) ls (.int v :: rest))) : W p l e R s m args below meth c H locs cells slots Q (F0 m pc ls (.ref a :: rest)) := va_alen (D := G.1) X.1.1 X.1.2.1 X.2.2.1 hP q0 t0 ha ht hv hdg kk
theorem m_objI (X : CX p s m args meth c cc nL own rt G A Ts) {lv : List (Nat × Value)} (hls : lv_has ls nL lv) {idx : Nat} (h1 : Cond.methodLink own idx Lib.objectInit ∈ wsL_law) (h2 : Cond.instanceMethod Lib.objectInit ∈ wsL_law) (h3 : Cond.code Lib.objectInit ⟨#[0xb1]⟩ 1 none ∈ wsL_law) (hd : decode cc pc = .ok (.invokespecial idx, 3)) (hframes : 1 ≤ R.frames) (hlocals : (rest.map fun v => v.category).sum + 12 ≤ R.locals)
    (kk : W p l e R s m args below meth c H locs cells slots Q (F0 m (pc + 3) ls rest)) : W p l e R s m args below meth c H locs cells slots Q (F0 m pc ls (.ref a :: rest)) := by
  refine W.objInit X.1.1 X.1.2.1 X.1.2.2.2.1 (X.1.2.2.2.2 _ (X.2.1 _ h1)) (X.1.2.2.2.2 _ (X.2.1 _ h2)) (X.1.2.2.2.2 _ (X.2.1 _ h3)) rfl (by rw [X.1.2.2.1]; exact hls.1) rfl hd hframes ?_ kk
  have e : 2 * (F0 m pc ls (.ref a :: rest)).monitorRoom = 0 := rfl
  rw [e]
  omega
theorem m_ldcS (X : CX p s m args meth c cc nL own rt G A Ts) {tx : String} {index : Nat} (hw : (own, index, tx) ∈ strW) (hdg : decode cc pc = .ok (.ldc index, 2))
    (kk : ∀ q : Nat, W p l e R s m args below meth c H locs cells slots Q (F0 m (pc + 2) ls (.ref q :: rest))) : W p l e R s m args below meth c H locs cells slots Q (F0 m pc ls rest) := by
  obtain ⟨q, hq⟩ := X.2.2.2.1.1.2.2.1 _ hw
  exact va_ldcS X.1.1 X.1.2.1 X.1.2.2.2.1 hq hdg (kk q)
theorem m_ldc (X : CX p s m args meth c cc nL own rt G A Ts) {v : Int32} {index : Nat} (hw : Cond.constant own index v ∈ wsL_law) (hdg : decode cc pc = .ok (.ldc index, 2))
    (kk : W p l e R s m args below meth c H locs cells slots Q (F0 m (pc + 2) ls (.int v :: rest))) : W p l e R s m args below meth c H locs cells slots Q (F0 m pc ls rest) := lv_ldc X.1.1 X.1.2.1 X.1.2.2.2.1 (X.1.2.2.2.2 _ (X.2.1 _ hw)) hdg kk
theorem m_iret (X : CX p s m args meth c cc nL own (some .int) G A Ts) (hP : va_P G.1 vwCl ws H) (hD : va_D A ws) (hS : va_S A s.heap H locs) {post : Int32 → KS → Prop} {w1 : KS → va_W} {v : Int32} {k n : Nat} (u : KS) (is : List Nat) (hnd : va_nd is = true) (hs : is.map (fun i => ws[i]?) = (w1 u).map some) (hp : post v u) (h1 : cells ≤ k) (h2 : slots ≤ n) (hdg : decode cc pc = .ok (.ireturn, 1)) :
    W p l e R s m args below meth c H locs cells slots (MQ below (va_Qi post (fun u t => Bw G A (w1 u) t) A) args s k n A) (F0 m pc ls [.int v]) := by
  refine W.widen h1 h2 ?_
  exact W.iret X.1.1 X.1.2.1 X.2.2.2.2.2.1 (fun t ht _ => ⟨⟨v, u, rfl, hp, by rw [ht]; exact hP.sub is (fm_of _ _ hs), hD.sub is hnd hs⟩, hS.F ht⟩) hS.2.2 hdg X.2.2.2.2.2.2
theorem m_zret (X : CX p s m args meth c cc nL own (some .boolean) G A Ts) (hP : va_P G.1 vwCl ws H) (hD : va_D A ws) (hS : va_S A s.heap H locs) {post : Int32 → KS → Prop} {w1 : KS → va_W} {v : Int32} {k n : Nat} (u : KS) (is : List Nat) (hnd : va_nd is = true) (hs : is.map (fun i => ws[i]?) = (w1 u).map some) (hnz : narrow .boolean (.int v) = .int v) (hp : post v u) (h1 : cells ≤ k) (h2 : slots ≤ n) (hdg : decode cc pc = .ok (.ireturn, 1)) :
    W p l e R s m args below meth c H locs cells slots (MQ below (va_Qi post (fun u t => Bw G A (w1 u) t) A) args s k n A) (F0 m pc ls [.int v]) := by
  refine W.widen h1 h2 ?_
  exact W.zret X.1.1 X.1.2.1 X.2.2.2.2.2.1 hnz (fun t ht _ => ⟨⟨v, u, rfl, hp, by rw [ht]; exact hP.sub is (fm_of _ _ hs), hD.sub is hnd hs⟩, hS.F ht⟩) hS.2.2 hdg X.2.2.2.2.2.2
theorem m_vret (X : CX p s m args meth c cc nL own none G A Ts) (hP : va_P G.1 vwCl ws H) (hD : va_D A ws) (hS : va_S A s.heap H locs) {post : KS → Prop} {w1 : KS → va_W} {k n : Nat} (u : KS) (is : List Nat) (hnd : va_nd is = true) (hs : is.map (fun i => ws[i]?) = (w1 u).map some) (hp : post u) (h1 : cells ≤ k) (h2 : slots ≤ n) (hdg : decode cc pc = .ok (.return_, 1)) :
    W p l e R s m args below meth c H locs cells slots (MQ below (va_Qv post (fun u t => Bw G A (w1 u) t) A) args s k n A) (F0 m pc ls []) := by
  refine W.widen h1 h2 ?_
  exact W.vret X.1.1 X.1.2.1 X.2.2.2.2.2.1 (fun t ht _ => ⟨⟨u, rfl, hp, by rw [ht]; exact hP.sub is (fm_of _ _ hs), hD.sub is hnd hs⟩, hS.F ht⟩) hS.2.2 hdg X.2.2.2.2.2.2
theorem m_pre {U0 : State} {wc : va_W} {av : List Value} (hKs : va_K G.1 vwCl (TY G) s) (hE : EN s ∧ ST G A s s.heap) (hPc : va_P G.1 vwCl wc H) (hDc : va_D A wc) (hS : va_S A s.heap H locs) (hFc : ∀ q, va_A wc H.size q → A q) : ∀ U : State, U.heap = H → s.WarmedH U.vm → va_Pc av (Pw G wc H.size) av.toArray U := fun U hU hW => ⟨rfl, by rw [hU], by rw [hU]; exact hPc, va_K.moved hW.alike hKs, hDc.weaken (fun _ _ _ _ => trivial), EN.warm hW hE.1, ST.pre hE.2 hS hFc hU hW⟩
variable {y : MethodName} {cd : ByteArray} {mL : Nat} {rt2 : Option FieldType} {rm : Room} {As : List Value} {b : Nat} {wc wr : va_W} {w1 : KS → va_W} {index n : Nat} {lv : List (Nat × Value)}
theorem m_cVi (X : CX p s m args meth c cc nL own rt G A Ts) (hP : va_P G.1 vwCl ws H) (hD : va_D A ws) (hS : va_S A s.heap H locs) {post : Int32 → KS → Prop}
    (K : ∀ sz : Nat, Met l y (.code y cd mL rt2 :: wsL_law) rm (va_Pc (.ref b :: As) (Pw G wc sz)) (va_Qi post (fun u t => Bw G (va_A wc sz) (w1 u) t) (va_A wc sz)) rm.cells rm.slots (va_A wc sz))
    (isC isR : List Nat) (hC : isC.map (fun i => ws[i]?) = wc.map some) (hR : isR.map (fun i => ws[i]?) = wr.map some) (hnC : va_nd isC = true) (hn : va_nd isR = true) (hdis : ∀ i ∈ isR, i ∉ isC)
    {C : String} {T : u_T} {N ci : Nat} {fs : List Value} (hc : vwCl[ci]? = some (C, T, N)) (he : wc[0]? = some (b, .inr (ci, fs)))
    (v1 : Cond.methodLink own index y ∈ wsL_law) (v2 : Cond.instanceMethod y ∈ wsL_law) (v3 : Cond.selects C y y ∈ wsL_law) (v4 : Cond.initialized C ∈ wsL_law) (v5 : Cond.code y cd mL rt2 ∈ wsL_law)
    (hd : y.cls = C ∧ y.cls ≠ "java/lang/invoke/MethodHandle" ∧ y.cls ≠ "java/lang/invoke/VarHandle" ∧ (parseMethodDescriptor y.desc).map (fun d => d.parameters.length) = some n) (hRm : rm.frames + 1 ≤ R.frames ∧ 8 + (mL + 11) + rm.locals ≤ R.locals) (hls : lv_has ls nL lv) (hst : st = As.reverse ++ .ref b :: rest) (hAs : As.length = n) (hW : (rest.map fun v => v.category).sum ≤ 8) (hdg : decode cc pc = .ok (.invokevirtual index, 3)) (hf : cells + rm.cells ≤ R.cells ∧ slots + rm.slots ≤ R.slots)
    (kk : ∀ (r : Int32) (u : KS) (H1 : Heap) (locs1 : List Loc), post r u → va_P G.1 vwCl (wr ++ w1 u) H1 → va_D A (wr ++ w1 u) → va_S A s.heap H1 locs1 → W p l e R s m args below meth c H1 locs1 (cells + rm.cells) (slots + rm.slots) Q (F0 m (pc + 3) ls (.int r :: rest))) : W p l e R s m args below meth c H locs cells slots Q (F0 m pc ls st) := by
  subst hst
  have hPc : va_P G.1 vwCl wc H := hP.sub isC (fm_of _ _ hC)
  have hDc := hD.sub isC hnC hC
  have hFc := va_free hD hS X.2.2.2.2.1 isC hC
  have hG : GoodIn Ts (wsV own index C y (.code y cd mL rt2 :: wsL_law)) := gT X.2.1 (fun w hw => by
    simp only [wsV, List.cons_append, List.nil_append, List.mem_cons] at hw
    rcases hw with rfl | rfl | rfl | rfl | rfl | hw
    · exact v1
    · exact v2
    · exact v3
    · exact v4
    · exact v5
    · exact hw)
  refine va_calli (va_runV (As := As) (rest := rest) X.1 (K H.size) (cwV n X.1.2.2.2.2 hG rfl rfl rfl hd hRm) ⟨Pw_blind, va_recv X.2.2.1 hPc hc he, fun U hU hW => m_pre (U0 := s) (av := .ref b :: As) X.2.2.1 X.2.2.2.1 hPc hDc hS hFc U hU hW⟩ rfl hAs hls.1 rfl (lv_room hW) hdg hf) hS (fun q _ h => hFc q h) hFc (fun r u t H1 locs1 ht hvm hw hB hz1 hk1 hS1 => ?_)
  obtain ⟨hP1, hD1⟩ := hB
  rw [ht] at hP1
  obtain ⟨hP2, hD2⟩ := va_join hP hD isC isR hC hR hn hdis hk1 hFc hP1 hD1
  exact kk r u H1 locs1 hw hP2 hD2 hS1
theorem m_cVv (X : CX p s m args meth c cc nL own rt G A Ts) (hP : va_P G.1 vwCl ws H) (hD : va_D A ws) (hS : va_S A s.heap H locs) {post : KS → Prop}
    (K : ∀ sz : Nat, Met l y (.code y cd mL rt2 :: wsL_law) rm (va_Pc (.ref b :: As) (Pw G wc sz)) (va_Qv post (fun u t => Bw G (va_A wc sz) (w1 u) t) (va_A wc sz)) rm.cells rm.slots (va_A wc sz))
    (isC isR : List Nat) (hC : isC.map (fun i => ws[i]?) = wc.map some) (hR : isR.map (fun i => ws[i]?) = wr.map some) (hnC : va_nd isC = true) (hn : va_nd isR = true) (hdis : ∀ i ∈ isR, i ∉ isC)
    {C : String} {T : u_T} {N ci : Nat} {fs : List Value} (hc : vwCl[ci]? = some (C, T, N)) (he : wc[0]? = some (b, .inr (ci, fs)))
    (v1 : Cond.methodLink own index y ∈ wsL_law) (v2 : Cond.instanceMethod y ∈ wsL_law) (v3 : Cond.selects C y y ∈ wsL_law) (v4 : Cond.initialized C ∈ wsL_law) (v5 : Cond.code y cd mL rt2 ∈ wsL_law)
    (hd : y.cls = C ∧ y.cls ≠ "java/lang/invoke/MethodHandle" ∧ y.cls ≠ "java/lang/invoke/VarHandle" ∧ (parseMethodDescriptor y.desc).map (fun d => d.parameters.length) = some n) (hRm : rm.frames + 1 ≤ R.frames ∧ 8 + (mL + 11) + rm.locals ≤ R.locals) (hls : lv_has ls nL lv) (hst : st = As.reverse ++ .ref b :: rest) (hAs : As.length = n) (hW : (rest.map fun v => v.category).sum ≤ 8) (hdg : decode cc pc = .ok (.invokevirtual index, 3)) (hf : cells + rm.cells ≤ R.cells ∧ slots + rm.slots ≤ R.slots)
    (kk : ∀ (u : KS) (H1 : Heap) (locs1 : List Loc), post u → va_P G.1 vwCl (wr ++ w1 u) H1 → va_D A (wr ++ w1 u) → va_S A s.heap H1 locs1 → W p l e R s m args below meth c H1 locs1 (cells + rm.cells) (slots + rm.slots) Q (F0 m (pc + 3) ls rest)) : W p l e R s m args below meth c H locs cells slots Q (F0 m pc ls st) := by
  subst hst
  have hPc : va_P G.1 vwCl wc H := hP.sub isC (fm_of _ _ hC)
  have hDc := hD.sub isC hnC hC
  have hFc := va_free hD hS X.2.2.2.2.1 isC hC
  have hG : GoodIn Ts (wsV own index C y (.code y cd mL rt2 :: wsL_law)) := gT X.2.1 (fun w hw => by
    simp only [wsV, List.cons_append, List.nil_append, List.mem_cons] at hw
    rcases hw with rfl | rfl | rfl | rfl | rfl | hw
    · exact v1
    · exact v2
    · exact v3
    · exact v4
    · exact v5
    · exact hw)
  refine va_callv (va_runV (As := As) (rest := rest) X.1 (K H.size) (cwV n X.1.2.2.2.2 hG rfl rfl rfl hd hRm) ⟨Pw_blind, va_recv X.2.2.1 hPc hc he, fun U hU hW => m_pre (U0 := s) (av := .ref b :: As) X.2.2.1 X.2.2.2.1 hPc hDc hS hFc U hU hW⟩ rfl hAs hls.1 rfl (lv_room hW) hdg hf) hS (fun q _ h => hFc q h) hFc (fun u t H1 locs1 ht hvm hw hB hz1 hk1 hS1 => ?_)
  obtain ⟨hP1, hD1⟩ := hB
  rw [ht] at hP1
  obtain ⟨hP2, hD2⟩ := va_join hP hD isC isR hC hR hn hdis hk1 hFc hP1 hD1
  exact kk u H1 locs1 hw hP2 hD2 hS1
theorem m_cSi (X : CX p s m args meth c cc nL own rt G A Ts) (hP : va_P G.1 vwCl ws H) (hD : va_D A ws) (hS : va_S A s.heap H locs) {post : Int32 → KS → Prop}
    (K : ∀ sz : Nat, Met l y (.code y cd mL rt2 :: wsL_law) rm (va_Pc As (Pw G wc sz)) (va_Qi post (fun u t => Bw G (va_A wc sz) (w1 u) t) (va_A wc sz)) rm.cells rm.slots (va_A wc sz))
    (isC isR : List Nat) (hC : isC.map (fun i => ws[i]?) = wc.map some) (hR : isR.map (fun i => ws[i]?) = wr.map some) (hnC : va_nd isC = true) (hn : va_nd isR = true) (hdis : ∀ i ∈ isR, i ∉ isC)
    (v1 : Cond.methodLink own index y ∈ wsL_law) (v2 : Cond.static y ∈ wsL_law) (v4 : Cond.initialized y.cls ∈ wsL_law) (v5 : Cond.code y cd mL rt2 ∈ wsL_law)
    (hd : y.cls ≠ "java/lang/invoke/MethodHandle" ∧ y.cls ≠ "java/lang/invoke/VarHandle" ∧ (parseMethodDescriptor y.desc).map (fun d => d.parameters.length) = some n) (hRm : rm.frames + 1 ≤ R.frames ∧ 8 + (mL + 11) + rm.locals ≤ R.locals) (hls : lv_has ls nL lv) (hst : st = As.reverse ++ rest) (hAs : As.length = n) (hW : (rest.map fun v => v.category).sum ≤ 8) (hdg : decode cc pc = .ok (.invokestatic index, 3)) (hf : cells + rm.cells ≤ R.cells ∧ slots + rm.slots ≤ R.slots)
    (kk : ∀ (r : Int32) (u : KS) (H1 : Heap) (locs1 : List Loc), post r u → va_P G.1 vwCl (wr ++ w1 u) H1 → va_D A (wr ++ w1 u) → va_S A s.heap H1 locs1 → W p l e R s m args below meth c H1 locs1 (cells + rm.cells) (slots + rm.slots) Q (F0 m (pc + 3) ls (.int r :: rest))) : W p l e R s m args below meth c H locs cells slots Q (F0 m pc ls st) := by
  subst hst
  have hPc : va_P G.1 vwCl wc H := hP.sub isC (fm_of _ _ hC)
  have hDc := hD.sub isC hnC hC
  have hFc := va_free hD hS X.2.2.2.2.1 isC hC
  have hG : GoodIn Ts (va_wsS own index y (.code y cd mL rt2 :: wsL_law)) := gT X.2.1 (fun w hw => by
    simp only [va_wsS, List.cons_append, List.nil_append, List.mem_cons] at hw
    rcases hw with rfl | rfl | rfl | rfl | hw
    · exact v1
    · exact v2
    · exact v4
    · exact v5
    · exact hw)
  refine va_calli (va_runS (As := As) (rest := rest) X.1 (K H.size) (va_cwS n X.1.2.2.2.2 hG rfl rfl rfl hd hRm) ⟨Pw_blind, fun U hU hW => m_pre (U0 := s) (av := As) X.2.2.1 X.2.2.2.1 hPc hDc hS hFc U hU hW⟩ rfl hAs hls.1 rfl (lv_room hW) hdg hf) hS (fun q _ h => hFc q h) hFc (fun r u t H1 locs1 ht hvm hw hB hz1 hk1 hS1 => ?_)
  obtain ⟨hP1, hD1⟩ := hB
  rw [ht] at hP1
  obtain ⟨hP2, hD2⟩ := va_join hP hD isC isR hC hR hn hdis hk1 hFc hP1 hD1
  exact kk r u H1 locs1 hw hP2 hD2 hS1
theorem m_cIv (X : CX p s m args meth c cc nL own rt G A Ts) (hP : va_P G.1 vwCl ws H) (hD : va_D A ws) (hS : va_S A s.heap H locs) {post : KS → Prop}
    (K : ∀ sz : Nat, Met l y (.code y cd mL none :: wsL_law) rm (va_Pc (.ref b :: As) (Pw G wc sz)) (va_Qv post (fun u t => Bw G (va_A wc sz) (w1 u) t) (va_A wc sz)) rm.cells rm.slots (va_A wc sz))
    (isC isR : List Nat) (hC : isC.map (fun i => ws[i]?) = wc.map some) (hR : isR.map (fun i => ws[i]?) = wr.map some) (hnC : va_nd isC = true) (hn : va_nd isR = true) (hdis : ∀ i ∈ isR, i ∉ isC)
    (v1 : Cond.methodLink own index y ∈ wsL_law) (v2 : Cond.instanceMethod y ∈ wsL_law) (v4 : Cond.initialized y.cls ∈ wsL_law) (v5 : Cond.code y cd mL none ∈ wsL_law) (hy1 : y.name = "<init>")
    (hd : y.cls ≠ "java/lang/invoke/MethodHandle" ∧ y.cls ≠ "java/lang/invoke/VarHandle" ∧ (parseMethodDescriptor y.desc).map (fun d => d.parameters.length) = some n) (hRm : rm.frames + 1 ≤ R.frames ∧ 8 + (mL + 11) + rm.locals ≤ R.locals) (hls : lv_has ls nL lv) (hst : st = As.reverse ++ .ref b :: rest) (hAs : As.length = n) (hW : (rest.map fun v => v.category).sum ≤ 8) (hdg : decode cc pc = .ok (.invokespecial index, 3)) (hf : cells + rm.cells ≤ R.cells ∧ slots + rm.slots ≤ R.slots)
    (kk : ∀ (u : KS) (H1 : Heap) (locs1 : List Loc), post u → va_P G.1 vwCl (wr ++ w1 u) H1 → va_D A (wr ++ w1 u) → va_S A s.heap H1 locs1 → W p l e R s m args below meth c H1 locs1 (cells + rm.cells) (slots + rm.slots) Q (F0 m (pc + 3) ls rest)) : W p l e R s m args below meth c H locs cells slots Q (F0 m pc ls st) := by
  subst hst
  have hPc : va_P G.1 vwCl wc H := hP.sub isC (fm_of _ _ hC)
  have hDc := hD.sub isC hnC hC
  have hFc := va_free hD hS X.2.2.2.2.1 isC hC
  have hG : GoodIn Ts (.code y cd mL none :: wsL_law) := gT X.2.1 (fun w hw => by
    rcases List.mem_cons.mp hw with rfl | hw
    · exact v5
    · exact hw)
  refine va_callv (va_runI (As := As) (rest := rest) X.1 (K H.size) (cwI n X.1.2.2.2.2 hG rfl rfl rfl (X.1.2.2.2.2 _ (X.2.1 _ v4)) (X.1.2.2.2.2 _ (X.2.1 _ v1)) (X.1.2.2.2.2 _ (X.2.1 _ v2)) hy1 hd hRm) ⟨Pw_blind, fun U hU hW => m_pre (U0 := s) (av := .ref b :: As) X.2.2.1 X.2.2.2.1 hPc hDc hS hFc U hU hW⟩ rfl hAs hls.1 rfl (lv_room hW) hdg hf) hS (fun q _ h => hFc q h) hFc (fun u t H1 locs1 ht hvm hw hB hz1 hk1 hS1 => ?_)
  obtain ⟨hP1, hD1⟩ := hB
  rw [ht] at hP1
  obtain ⟨hP2, hD2⟩ := va_join hP hD isC isR hC hR hn hdis hk1 hFc hP1 hD1
  exact kk u H1 locs1 hw hP2 hD2 hS1
theorem m_cIN (X : CX p s m args meth c cc nL own rt G A Ts) (hP : va_P G.1 vwCl ws H) (hD : va_D A ws) (hS : va_S A s.heap H locs) {post : KS → Prop} {host : String}
    (K : ∀ sz : Nat, Met l y (.code y cd mL none :: wsL_law) rm (va_Pc (.ref b :: As) (Pw G wc sz)) (va_Qv post (fun u t => Bw G (va_A wc sz) (w1 u) t) (va_A wc sz)) rm.cells rm.slots (va_A wc sz))
    (isC isR : List Nat) (hC : isC.map (fun i => ws[i]?) = wc.map some) (hR : isR.map (fun i => ws[i]?) = wr.map some) (hnC : va_nd isC = true) (hn : va_nd isR = true) (hdis : ∀ i ∈ isR, i ∉ isC)
    (v1 : (own, index, y, host) ∈ nestM) (v2 : Cond.instanceMethod y ∈ wsL_law) (v4 : Cond.initialized y.cls ∈ wsL_law) (v5 : Cond.code y cd mL none ∈ wsL_law) (hy1 : y.name = "<init>")
    (hd : y.cls ≠ "java/lang/invoke/MethodHandle" ∧ y.cls ≠ "java/lang/invoke/VarHandle" ∧ (parseMethodDescriptor y.desc).map (fun d => d.parameters.length) = some n) (hRm : rm.frames + 1 ≤ R.frames ∧ 8 + (mL + 11) + rm.locals ≤ R.locals) (hls : lv_has ls nL lv) (hst : st = As.reverse ++ .ref b :: rest) (hAs : As.length = n) (hW : (rest.map fun v => v.category).sum ≤ 8) (hdg : decode cc pc = .ok (.invokespecial index, 3)) (hf : cells + rm.cells ≤ R.cells ∧ slots + rm.slots ≤ R.slots)
    (kk : ∀ (u : KS) (H1 : Heap) (locs1 : List Loc), post u → va_P G.1 vwCl (wr ++ w1 u) H1 → va_D A (wr ++ w1 u) → va_S A s.heap H1 locs1 → W p l e R s m args below meth c H1 locs1 (cells + rm.cells) (slots + rm.slots) Q (F0 m (pc + 3) ls rest)) : W p l e R s m args below meth c H locs cells slots Q (F0 m pc ls st) := by
  subst hst
  have hPc : va_P G.1 vwCl wc H := hP.sub isC (fm_of _ _ hC)
  have hDc := hD.sub isC hnC hC
  have hFc := va_free hD hS X.2.2.2.2.1 isC hC
  have hG : GoodIn Ts (.code y cd mL none :: wsL_law) := gT X.2.1 (fun w hw => by
    rcases List.mem_cons.mp hw with rfl | hw
    · exact v5
    · exact hw)
  refine va_callv (va_runIN (host := host) (As := As) (rest := rest) X.1 (K H.size) ⟨va_cnB n X.1.2.2.2.2 hG rfl rfl rfl (X.2.2.2.1.1.1 _ v1) (X.1.2.2.2.2 _ (X.2.1 _ v4)) hd hRm, hy1, X.1.2.2.2.2 _ (X.2.1 _ v2)⟩ ⟨Pw_blind, fun U hU hW => m_pre (U0 := s) (av := .ref b :: As) X.2.2.1 X.2.2.2.1 hPc hDc hS hFc U hU hW⟩ rfl hAs hls.1 rfl (lv_room hW) hdg hf) hS (fun q _ h => hFc q h) hFc (fun u t H1 locs1 ht hvm hw hB hz1 hk1 hS1 => ?_)
  obtain ⟨hP1, hD1⟩ := hB
  rw [ht] at hP1
  obtain ⟨hP2, hD2⟩ := va_join hP hD isC isR hC hR hn hdis hk1 hFc hP1 hD1
  exact kk u H1 locs1 hw hP2 hD2 hS1
end MB
