section
-- ===== PART A: goes FIRST, ahead of the names: the tables' words, and 'selects' of the private methods out of them =====
/-- a private method of a class that the tables say can be made, by its rows of tables_1 -/
def lw_okq (q : MethodName × Nat) : Prop := (q.1.cls ≠ "java/lang/invoke/MethodHandle" ∧ q.1.cls ≠ "java/lang/invoke/VarHandle") ∧ Cond.instantiable q.1.cls q.2 ∈ tables_1 ∧ Cond.privateMethod q.1 ∈ tables_1 ∧ Cond.instanceMethod q.1 ∈ tables_1
theorem lw_p0 : lw_okq (⟨"YearSkins", "putNumber", "(I)V"⟩, 16) := ⟨⟨by decide +kernel, by decide +kernel⟩, List.mem_of_getElem? (i := 27) (by decide +kernel), List.mem_of_getElem? (i := 409) (by decide +kernel), List.mem_of_getElem? (i := 410) (by decide +kernel)⟩
theorem lw_p1 : lw_okq (⟨"YearSkins", "refuse", "(I)I"⟩, 16) := ⟨⟨by decide +kernel, by decide +kernel⟩, List.mem_of_getElem? (i := 27) (by decide +kernel), List.mem_of_getElem? (i := 417) (by decide +kernel), List.mem_of_getElem? (i := 418) (by decide +kernel)⟩
theorem lw_p2 : lw_okq (⟨"YearSkins$Tokens", "byteAt", "(I)I"⟩, 8) := ⟨⟨by decide +kernel, by decide +kernel⟩, List.mem_of_getElem? (i := 194) (by decide +kernel), List.mem_of_getElem? (i := 441) (by decide +kernel), List.mem_of_getElem? (i := 442) (by decide +kernel)⟩
theorem lw_p3 : lw_okq (⟨"YearSkins$Tokens", "takeWord", "()V"⟩, 8) := ⟨⟨by decide +kernel, by decide +kernel⟩, List.mem_of_getElem? (i := 194) (by decide +kernel), List.mem_of_getElem? (i := 448) (by decide +kernel), List.mem_of_getElem? (i := 449) (by decide +kernel)⟩
theorem lw_p4 : lw_okq (⟨"YearSkins$Tokens", "takeWhole", "()V"⟩, 8) := ⟨⟨by decide +kernel, by decide +kernel⟩, List.mem_of_getElem? (i := 194) (by decide +kernel), List.mem_of_getElem? (i := 455) (by decide +kernel), List.mem_of_getElem? (i := 456) (by decide +kernel)⟩
theorem lw_p5 : lw_okq (⟨"YearSkins$Reader", "readLine", "()V"⟩, 13) := ⟨⟨by decide +kernel, by decide +kernel⟩, List.mem_of_getElem? (i := 188) (by decide +kernel), List.mem_of_getElem? (i := 459) (by decide +kernel), List.mem_of_getElem? (i := 460) (by decide +kernel)⟩
theorem lw_p6 : lw_okq (⟨"YearSkins$Reader", "lineSort", "()I"⟩, 13) := ⟨⟨by decide +kernel, by decide +kernel⟩, List.mem_of_getElem? (i := 188) (by decide +kernel), List.mem_of_getElem? (i := 463) (by decide +kernel), List.mem_of_getElem? (i := 464) (by decide +kernel)⟩
theorem lw_p7 : lw_okq (⟨"YearSkins$Reader", "fail", "(II)V"⟩, 13) := ⟨⟨by decide +kernel, by decide +kernel⟩, List.mem_of_getElem? (i := 188) (by decide +kernel), List.mem_of_getElem? (i := 530) (by decide +kernel), List.mem_of_getElem? (i := 531) (by decide +kernel)⟩
theorem lw_p8 : lw_okq (⟨"YearSkins$Reader", "checkLine", "(I)V"⟩, 13) := ⟨⟨by decide +kernel, by decide +kernel⟩, List.mem_of_getElem? (i := 188) (by decide +kernel), List.mem_of_getElem? (i := 534) (by decide +kernel), List.mem_of_getElem? (i := 535) (by decide +kernel)⟩
theorem lw_p9 : lw_okq (⟨"YearSkins$Reader", "isLineAgain", "(I)Z"⟩, 13) := ⟨⟨by decide +kernel, by decide +kernel⟩, List.mem_of_getElem? (i := 188) (by decide +kernel), List.mem_of_getElem? (i := 538) (by decide +kernel), List.mem_of_getElem? (i := 539) (by decide +kernel)⟩
theorem lw_p10 : lw_okq (⟨"YearSkins$Reader", "isLineTooMany", "(I)Z"⟩, 13) := ⟨⟨by decide +kernel, by decide +kernel⟩, List.mem_of_getElem? (i := 188) (by decide +kernel), List.mem_of_getElem? (i := 542) (by decide +kernel), List.mem_of_getElem? (i := 543) (by decide +kernel)⟩
theorem lw_p11 : lw_okq (⟨"YearSkins$Reader", "readLand", "()V"⟩, 13) := ⟨⟨by decide +kernel, by decide +kernel⟩, List.mem_of_getElem? (i := 188) (by decide +kernel), List.mem_of_getElem? (i := 547) (by decide +kernel), List.mem_of_getElem? (i := 548) (by decide +kernel)⟩
theorem lw_p12 : lw_okq (⟨"YearSkins$Reader", "word", "(Ljava/lang/String;)V"⟩, 13) := ⟨⟨by decide +kernel, by decide +kernel⟩, List.mem_of_getElem? (i := 188) (by decide +kernel), List.mem_of_getElem? (i := 552) (by decide +kernel), List.mem_of_getElem? (i := 553) (by decide +kernel)⟩
theorem lw_p13 : lw_okq (⟨"YearSkins$Reader", "whole", "(II)I"⟩, 13) := ⟨⟨by decide +kernel, by decide +kernel⟩, List.mem_of_getElem? (i := 188) (by decide +kernel), List.mem_of_getElem? (i := 556) (by decide +kernel), List.mem_of_getElem? (i := 557) (by decide +kernel)⟩
theorem lw_p14 : lw_okq (⟨"YearSkins$Reader", "choice", "(Ljava/lang/String;Ljava/lang/String;Ljava/lang/String;Ljava/lang/String;)I"⟩, 13) := ⟨⟨by decide +kernel, by decide +kernel⟩, List.mem_of_getElem? (i := 188) (by decide +kernel), List.mem_of_getElem? (i := 565) (by decide +kernel), List.mem_of_getElem? (i := 566) (by decide +kernel)⟩
theorem lw_p15 : lw_okq (⟨"YearSkins$Reader", "readYears", "()V"⟩, 13) := ⟨⟨by decide +kernel, by decide +kernel⟩, List.mem_of_getElem? (i := 188) (by decide +kernel), List.mem_of_getElem? (i := 572) (by decide +kernel), List.mem_of_getElem? (i := 573) (by decide +kernel)⟩
def lw_privs_1 : List (MethodName × Nat) := [(⟨"YearSkins", "putNumber", "(I)V"⟩, 16), (⟨"YearSkins", "refuse", "(I)I"⟩, 16), (⟨"YearSkins$Tokens", "byteAt", "(I)I"⟩, 8), (⟨"YearSkins$Tokens", "takeWord", "()V"⟩, 8), (⟨"YearSkins$Tokens", "takeWhole", "()V"⟩, 8), (⟨"YearSkins$Reader", "readLine", "()V"⟩, 13), (⟨"YearSkins$Reader", "lineSort", "()I"⟩, 13), (⟨"YearSkins$Reader", "fail", "(II)V"⟩, 13), (⟨"YearSkins$Reader", "checkLine", "(I)V"⟩, 13), (⟨"YearSkins$Reader", "isLineAgain", "(I)Z"⟩, 13), (⟨"YearSkins$Reader", "isLineTooMany", "(I)Z"⟩, 13), (⟨"YearSkins$Reader", "readLand", "()V"⟩, 13), (⟨"YearSkins$Reader", "word", "(Ljava/lang/String;)V"⟩, 13), (⟨"YearSkins$Reader", "whole", "(II)I"⟩, 13), (⟨"YearSkins$Reader", "choice", "(Ljava/lang/String;Ljava/lang/String;Ljava/lang/String;Ljava/lang/String;)I"⟩, 13), (⟨"YearSkins$Reader", "readYears", "()V"⟩, 13)]
theorem lw_r1 : ∀ q ∈ lw_privs_1, lw_okq q := List.forall_mem_cons.mpr ⟨lw_p0, List.forall_mem_cons.mpr ⟨lw_p1, List.forall_mem_cons.mpr ⟨lw_p2, List.forall_mem_cons.mpr ⟨lw_p3, List.forall_mem_cons.mpr ⟨lw_p4, List.forall_mem_cons.mpr ⟨lw_p5, List.forall_mem_cons.mpr ⟨lw_p6, List.forall_mem_cons.mpr ⟨lw_p7, List.forall_mem_cons.mpr ⟨lw_p8, List.forall_mem_cons.mpr ⟨lw_p9, List.forall_mem_cons.mpr ⟨lw_p10, List.forall_mem_cons.mpr ⟨lw_p11, List.forall_mem_cons.mpr ⟨lw_p12, List.forall_mem_cons.mpr ⟨lw_p13, List.forall_mem_cons.mpr ⟨lw_p14, List.forall_mem_cons.mpr ⟨lw_p15, fun _ h => absurd h List.not_mem_nil⟩⟩⟩⟩⟩⟩⟩⟩⟩⟩⟩⟩⟩⟩⟩⟩
theorem lw_p16 : lw_okq (⟨"YearSkins$Reader", "readWater", "()V"⟩, 13) := ⟨⟨by decide +kernel, by decide +kernel⟩, List.mem_of_getElem? (i := 188) (by decide +kernel), List.mem_of_getElem? (i := 579) (by decide +kernel), List.mem_of_getElem? (i := 580) (by decide +kernel)⟩
theorem lw_p17 : lw_okq (⟨"YearSkins$Reader", "sign", "(C)V"⟩, 13) := ⟨⟨by decide +kernel, by decide +kernel⟩, List.mem_of_getElem? (i := 188) (by decide +kernel), List.mem_of_getElem? (i := 583) (by decide +kernel), List.mem_of_getElem? (i := 584) (by decide +kernel)⟩
theorem lw_p18 : lw_okq (⟨"YearSkins$Reader", "readStone", "()V"⟩, 13) := ⟨⟨by decide +kernel, by decide +kernel⟩, List.mem_of_getElem? (i := 188) (by decide +kernel), List.mem_of_getElem? (i := 595) (by decide +kernel), List.mem_of_getElem? (i := 596) (by decide +kernel)⟩
theorem lw_p19 : lw_okq (⟨"YearSkins$Reader", "newName", "(II)V"⟩, 13) := ⟨⟨by decide +kernel, by decide +kernel⟩, List.mem_of_getElem? (i := 188) (by decide +kernel), List.mem_of_getElem? (i := 599) (by decide +kernel), List.mem_of_getElem? (i := 600) (by decide +kernel)⟩
theorem lw_p20 : lw_okq (⟨"YearSkins$Reader", "findName", "()I"⟩, 13) := ⟨⟨by decide +kernel, by decide +kernel⟩, List.mem_of_getElem? (i := 188) (by decide +kernel), List.mem_of_getElem? (i := 603) (by decide +kernel), List.mem_of_getElem? (i := 604) (by decide +kernel)⟩
theorem lw_p21 : lw_okq (⟨"YearSkins$Reader", "readHouse", "()V"⟩, 13) := ⟨⟨by decide +kernel, by decide +kernel⟩, List.mem_of_getElem? (i := 188) (by decide +kernel), List.mem_of_getElem? (i := 618) (by decide +kernel), List.mem_of_getElem? (i := 619) (by decide +kernel)⟩
theorem lw_p22 : lw_okq (⟨"YearSkins$Reader", "name", "(I)I"⟩, 13) := ⟨⟨by decide +kernel, by decide +kernel⟩, List.mem_of_getElem? (i := 188) (by decide +kernel), List.mem_of_getElem? (i := 636) (by decide +kernel), List.mem_of_getElem? (i := 637) (by decide +kernel)⟩
theorem lw_p23 : lw_okq (⟨"YearSkins$Reader", "readSkin", "()V"⟩, 13) := ⟨⟨by decide +kernel, by decide +kernel⟩, List.mem_of_getElem? (i := 188) (by decide +kernel), List.mem_of_getElem? (i := 642) (by decide +kernel), List.mem_of_getElem? (i := 643) (by decide +kernel)⟩
theorem lw_p24 : lw_okq (⟨"YearSkins$Reader", "readHeir", "()V"⟩, 13) := ⟨⟨by decide +kernel, by decide +kernel⟩, List.mem_of_getElem? (i := 188) (by decide +kernel), List.mem_of_getElem? (i := 671) (by decide +kernel), List.mem_of_getElem? (i := 672) (by decide +kernel)⟩
theorem lw_p25 : lw_okq (⟨"YearSkins$Reader", "readWall", "()V"⟩, 13) := ⟨⟨by decide +kernel, by decide +kernel⟩, List.mem_of_getElem? (i := 188) (by decide +kernel), List.mem_of_getElem? (i := 675) (by decide +kernel), List.mem_of_getElem? (i := 676) (by decide +kernel)⟩
theorem lw_p26 : lw_okq (⟨"YearSkins$Reader", "readOlder", "()V"⟩, 13) := ⟨⟨by decide +kernel, by decide +kernel⟩, List.mem_of_getElem? (i := 188) (by decide +kernel), List.mem_of_getElem? (i := 679) (by decide +kernel), List.mem_of_getElem? (i := 680) (by decide +kernel)⟩
theorem lw_p27 : lw_okq (⟨"YearSkins$Reader", "readYearOfWall", "([I)V"⟩, 13) := ⟨⟨by decide +kernel, by decide +kernel⟩, List.mem_of_getElem? (i := 188) (by decide +kernel), List.mem_of_getElem? (i := 687) (by decide +kernel), List.mem_of_getElem? (i := 688) (by decide +kernel)⟩
theorem lw_p28 : lw_okq (⟨"YearSkins", "answer", "(I)I"⟩, 16) := ⟨⟨by decide +kernel, by decide +kernel⟩, List.mem_of_getElem? (i := 27) (by decide +kernel), List.mem_of_getElem? (i := 702) (by decide +kernel), List.mem_of_getElem? (i := 703) (by decide +kernel)⟩
theorem lw_p29 : lw_okq (⟨"YearSkins", "isHouse", "(I)Z"⟩, 16) := ⟨⟨by decide +kernel, by decide +kernel⟩, List.mem_of_getElem? (i := 27) (by decide +kernel), List.mem_of_getElem? (i := 742) (by decide +kernel), List.mem_of_getElem? (i := 743) (by decide +kernel)⟩
theorem lw_p30 : lw_okq (⟨"YearSkins", "isSkin", "(II)Z"⟩, 16) := ⟨⟨by decide +kernel, by decide +kernel⟩, List.mem_of_getElem? (i := 27) (by decide +kernel), List.mem_of_getElem? (i := 772) (by decide +kernel), List.mem_of_getElem? (i := 773) (by decide +kernel)⟩
theorem lw_p31 : lw_okq (⟨"YearSkins", "isRoom", "(II)Z"⟩, 16) := ⟨⟨by decide +kernel, by decide +kernel⟩, List.mem_of_getElem? (i := 27) (by decide +kernel), List.mem_of_getElem? (i := 776) (by decide +kernel), List.mem_of_getElem? (i := 777) (by decide +kernel)⟩
def lw_privs_2 : List (MethodName × Nat) := [(⟨"YearSkins$Reader", "readWater", "()V"⟩, 13), (⟨"YearSkins$Reader", "sign", "(C)V"⟩, 13), (⟨"YearSkins$Reader", "readStone", "()V"⟩, 13), (⟨"YearSkins$Reader", "newName", "(II)V"⟩, 13), (⟨"YearSkins$Reader", "findName", "()I"⟩, 13), (⟨"YearSkins$Reader", "readHouse", "()V"⟩, 13), (⟨"YearSkins$Reader", "name", "(I)I"⟩, 13), (⟨"YearSkins$Reader", "readSkin", "()V"⟩, 13), (⟨"YearSkins$Reader", "readHeir", "()V"⟩, 13), (⟨"YearSkins$Reader", "readWall", "()V"⟩, 13), (⟨"YearSkins$Reader", "readOlder", "()V"⟩, 13), (⟨"YearSkins$Reader", "readYearOfWall", "([I)V"⟩, 13), (⟨"YearSkins", "answer", "(I)I"⟩, 16), (⟨"YearSkins", "isHouse", "(I)Z"⟩, 16), (⟨"YearSkins", "isSkin", "(II)Z"⟩, 16), (⟨"YearSkins", "isRoom", "(II)Z"⟩, 16)]
theorem lw_r2 : ∀ q ∈ lw_privs_2, lw_okq q := List.forall_mem_cons.mpr ⟨lw_p16, List.forall_mem_cons.mpr ⟨lw_p17, List.forall_mem_cons.mpr ⟨lw_p18, List.forall_mem_cons.mpr ⟨lw_p19, List.forall_mem_cons.mpr ⟨lw_p20, List.forall_mem_cons.mpr ⟨lw_p21, List.forall_mem_cons.mpr ⟨lw_p22, List.forall_mem_cons.mpr ⟨lw_p23, List.forall_mem_cons.mpr ⟨lw_p24, List.forall_mem_cons.mpr ⟨lw_p25, List.forall_mem_cons.mpr ⟨lw_p26, List.forall_mem_cons.mpr ⟨lw_p27, List.forall_mem_cons.mpr ⟨lw_p28, List.forall_mem_cons.mpr ⟨lw_p29, List.forall_mem_cons.mpr ⟨lw_p30, List.forall_mem_cons.mpr ⟨lw_p31, fun _ h => absurd h List.not_mem_nil⟩⟩⟩⟩⟩⟩⟩⟩⟩⟩⟩⟩⟩⟩⟩⟩
theorem lw_p32 : lw_okq (⟨"YearSkins", "warmth", "(II)I"⟩, 16) := ⟨⟨by decide +kernel, by decide +kernel⟩, List.mem_of_getElem? (i := 27) (by decide +kernel), List.mem_of_getElem? (i := 785) (by decide +kernel), List.mem_of_getElem? (i := 786) (by decide +kernel)⟩
theorem lw_p33 : lw_okq (⟨"YearSkins", "isHeir", "(I)Z"⟩, 16) := ⟨⟨by decide +kernel, by decide +kernel⟩, List.mem_of_getElem? (i := 27) (by decide +kernel), List.mem_of_getElem? (i := 809) (by decide +kernel), List.mem_of_getElem? (i := 810) (by decide +kernel)⟩
theorem lw_p34 : lw_okq (⟨"YearSkins", "isStone", "(I)Z"⟩, 16) := ⟨⟨by decide +kernel, by decide +kernel⟩, List.mem_of_getElem? (i := 27) (by decide +kernel), List.mem_of_getElem? (i := 840) (by decide +kernel), List.mem_of_getElem? (i := 841) (by decide +kernel)⟩
theorem lw_p35 : lw_okq (⟨"YearSkins$Burglar", "goRound", "(I)V"⟩, 2) := ⟨⟨by decide +kernel, by decide +kernel⟩, List.mem_of_getElem? (i := 287) (by decide +kernel), List.mem_of_getElem? (i := 895) (by decide +kernel), List.mem_of_getElem? (i := 896) (by decide +kernel)⟩
theorem lw_p36 : lw_okq (⟨"YearSkins$Burglar", "goIn", "(LYearSkins$Land;LYearSkins$State;II)V"⟩, 2) := ⟨⟨by decide +kernel, by decide +kernel⟩, List.mem_of_getElem? (i := 287) (by decide +kernel), List.mem_of_getElem? (i := 899) (by decide +kernel), List.mem_of_getElem? (i := 900) (by decide +kernel)⟩
theorem lw_p37 : lw_okq (⟨"YearSkins$Burglar", "least", "(I)I"⟩, 2) := ⟨⟨by decide +kernel, by decide +kernel⟩, List.mem_of_getElem? (i := 287) (by decide +kernel), List.mem_of_getElem? (i := 907) (by decide +kernel), List.mem_of_getElem? (i := 908) (by decide +kernel)⟩
theorem lw_p38 : lw_okq (⟨"YearSkins", "goTo", "(I)V"⟩, 16) := ⟨⟨by decide +kernel, by decide +kernel⟩, List.mem_of_getElem? (i := 27) (by decide +kernel), List.mem_of_getElem? (i := 924) (by decide +kernel), List.mem_of_getElem? (i := 925) (by decide +kernel)⟩
theorem lw_p39 : lw_okq (⟨"YearSkins", "goldIn", "(II)I"⟩, 16) := ⟨⟨by decide +kernel, by decide +kernel⟩, List.mem_of_getElem? (i := 27) (by decide +kernel), List.mem_of_getElem? (i := 1033) (by decide +kernel), List.mem_of_getElem? (i := 1034) (by decide +kernel)⟩
theorem lw_p40 : lw_okq (⟨"YearSkins", "isLivedIn", "(II)Z"⟩, 16) := ⟨⟨by decide +kernel, by decide +kernel⟩, List.mem_of_getElem? (i := 27) (by decide +kernel), List.mem_of_getElem? (i := 1041) (by decide +kernel), List.mem_of_getElem? (i := 1042) (by decide +kernel)⟩
theorem lw_p41 : lw_okq (⟨"YearSkins$WallOrders", "canBe", "(LYearSkins$Land;I)Z"⟩, 6) := ⟨⟨by decide +kernel, by decide +kernel⟩, List.mem_of_getElem? (i := 300) (by decide +kernel), List.mem_of_getElem? (i := 1055) (by decide +kernel), List.mem_of_getElem? (i := 1056) (by decide +kernel)⟩
theorem lw_p42 : lw_okq (⟨"YearSkins$WallOrders", "noteRow", "(LYearSkins$Land;I)V"⟩, 6) := ⟨⟨by decide +kernel, by decide +kernel⟩, List.mem_of_getElem? (i := 300) (by decide +kernel), List.mem_of_getElem? (i := 1064) (by decide +kernel), List.mem_of_getElem? (i := 1065) (by decide +kernel)⟩
theorem lw_p43 : lw_okq (⟨"YearSkins", "isWall", "(I)Z"⟩, 16) := ⟨⟨by decide +kernel, by decide +kernel⟩, List.mem_of_getElem? (i := 27) (by decide +kernel), List.mem_of_getElem? (i := 1073) (by decide +kernel), List.mem_of_getElem? (i := 1074) (by decide +kernel)⟩
theorem lw_p44 : lw_okq (⟨"YearSkins", "no", "(I)Z"⟩, 16) := ⟨⟨by decide +kernel, by decide +kernel⟩, List.mem_of_getElem? (i := 27) (by decide +kernel), List.mem_of_getElem? (i := 1112) (by decide +kernel), List.mem_of_getElem? (i := 1113) (by decide +kernel)⟩
theorem lw_p45 : lw_okq (⟨"YearSkins", "yes", "()Z"⟩, 16) := ⟨⟨by decide +kernel, by decide +kernel⟩, List.mem_of_getElem? (i := 27) (by decide +kernel), List.mem_of_getElem? (i := 1118) (by decide +kernel), List.mem_of_getElem? (i := 1119) (by decide +kernel)⟩
theorem lw_p46 : lw_okq (⟨"YearSkins", "sizeTold", "(I)I"⟩, 16) := ⟨⟨by decide +kernel, by decide +kernel⟩, List.mem_of_getElem? (i := 27) (by decide +kernel), List.mem_of_getElem? (i := 1175) (by decide +kernel), List.mem_of_getElem? (i := 1176) (by decide +kernel)⟩
theorem lw_p47 : lw_okq (⟨"YearSkins", "sizeNow", "(I)I"⟩, 16) := ⟨⟨by decide +kernel, by decide +kernel⟩, List.mem_of_getElem? (i := 27) (by decide +kernel), List.mem_of_getElem? (i := 1179) (by decide +kernel), List.mem_of_getElem? (i := 1180) (by decide +kernel)⟩
def lw_privs_3 : List (MethodName × Nat) := [(⟨"YearSkins", "warmth", "(II)I"⟩, 16), (⟨"YearSkins", "isHeir", "(I)Z"⟩, 16), (⟨"YearSkins", "isStone", "(I)Z"⟩, 16), (⟨"YearSkins$Burglar", "goRound", "(I)V"⟩, 2), (⟨"YearSkins$Burglar", "goIn", "(LYearSkins$Land;LYearSkins$State;II)V"⟩, 2), (⟨"YearSkins$Burglar", "least", "(I)I"⟩, 2), (⟨"YearSkins", "goTo", "(I)V"⟩, 16), (⟨"YearSkins", "goldIn", "(II)I"⟩, 16), (⟨"YearSkins", "isLivedIn", "(II)Z"⟩, 16), (⟨"YearSkins$WallOrders", "canBe", "(LYearSkins$Land;I)Z"⟩, 6), (⟨"YearSkins$WallOrders", "noteRow", "(LYearSkins$Land;I)V"⟩, 6), (⟨"YearSkins", "isWall", "(I)Z"⟩, 16), (⟨"YearSkins", "no", "(I)Z"⟩, 16), (⟨"YearSkins", "yes", "()Z"⟩, 16), (⟨"YearSkins", "sizeTold", "(I)I"⟩, 16), (⟨"YearSkins", "sizeNow", "(I)I"⟩, 16)]
theorem lw_r3 : ∀ q ∈ lw_privs_3, lw_okq q := List.forall_mem_cons.mpr ⟨lw_p32, List.forall_mem_cons.mpr ⟨lw_p33, List.forall_mem_cons.mpr ⟨lw_p34, List.forall_mem_cons.mpr ⟨lw_p35, List.forall_mem_cons.mpr ⟨lw_p36, List.forall_mem_cons.mpr ⟨lw_p37, List.forall_mem_cons.mpr ⟨lw_p38, List.forall_mem_cons.mpr ⟨lw_p39, List.forall_mem_cons.mpr ⟨lw_p40, List.forall_mem_cons.mpr ⟨lw_p41, List.forall_mem_cons.mpr ⟨lw_p42, List.forall_mem_cons.mpr ⟨lw_p43, List.forall_mem_cons.mpr ⟨lw_p44, List.forall_mem_cons.mpr ⟨lw_p45, List.forall_mem_cons.mpr ⟨lw_p46, List.forall_mem_cons.mpr ⟨lw_p47, fun _ h => absurd h List.not_mem_nil⟩⟩⟩⟩⟩⟩⟩⟩⟩⟩⟩⟩⟩⟩⟩⟩
theorem lw_p48 : lw_okq (⟨"java/lang/Throwable", "fillInStackTrace", "(I)Ljava/lang/Throwable;"⟩, 6) := ⟨⟨by decide +kernel, by decide +kernel⟩, List.mem_of_getElem? (i := 1231) (by decide +kernel), List.mem_of_getElem? (i := 1229) (by decide +kernel), List.mem_of_getElem? (i := 1230) (by decide +kernel)⟩
theorem lw_p49 : lw_okq (⟨"YearSkinsModel", "refused", "(I)I"⟩, 37) := ⟨⟨by decide +kernel, by decide +kernel⟩, List.mem_of_getElem? (i := 1256) (by decide +kernel), List.mem_of_getElem? (i := 1386) (by decide +kernel), List.mem_of_getElem? (i := 1387) (by decide +kernel)⟩
theorem lw_p50 : lw_okq (⟨"YearSkinsModel", "goesOn", "()V"⟩, 37) := ⟨⟨by decide +kernel, by decide +kernel⟩, List.mem_of_getElem? (i := 1256) (by decide +kernel), List.mem_of_getElem? (i := 1510) (by decide +kernel), List.mem_of_getElem? (i := 1511) (by decide +kernel)⟩
theorem lw_p51 : lw_okq (⟨"YearSkinsModel", "byteAt", "(I)I"⟩, 37) := ⟨⟨by decide +kernel, by decide +kernel⟩, List.mem_of_getElem? (i := 1256) (by decide +kernel), List.mem_of_getElem? (i := 1514) (by decide +kernel), List.mem_of_getElem? (i := 1515) (by decide +kernel)⟩
theorem lw_p52 : lw_okq (⟨"YearSkinsModel", "readAll", "()V"⟩, 37) := ⟨⟨by decide +kernel, by decide +kernel⟩, List.mem_of_getElem? (i := 1256) (by decide +kernel), List.mem_of_getElem? (i := 1525) (by decide +kernel), List.mem_of_getElem? (i := 1526) (by decide +kernel)⟩
theorem lw_p53 : lw_okq (⟨"YearSkinsModel", "readLine", "()V"⟩, 37) := ⟨⟨by decide +kernel, by decide +kernel⟩, List.mem_of_getElem? (i := 1256) (by decide +kernel), List.mem_of_getElem? (i := 1529) (by decide +kernel), List.mem_of_getElem? (i := 1530) (by decide +kernel)⟩
theorem lw_p54 : lw_okq (⟨"YearSkinsModel", "isWord", "(Ljava/lang/String;)Z"⟩, 37) := ⟨⟨by decide +kernel, by decide +kernel⟩, List.mem_of_getElem? (i := 1256) (by decide +kernel), List.mem_of_getElem? (i := 1534) (by decide +kernel), List.mem_of_getElem? (i := 1535) (by decide +kernel)⟩
theorem lw_p55 : lw_okq (⟨"YearSkinsModel", "readLand", "()V"⟩, 37) := ⟨⟨by decide +kernel, by decide +kernel⟩, List.mem_of_getElem? (i := 1256) (by decide +kernel), List.mem_of_getElem? (i := 1543) (by decide +kernel), List.mem_of_getElem? (i := 1544) (by decide +kernel)⟩
theorem lw_p56 : lw_okq (⟨"YearSkinsModel", "flaw", "(I)V"⟩, 37) := ⟨⟨by decide +kernel, by decide +kernel⟩, List.mem_of_getElem? (i := 1256) (by decide +kernel), List.mem_of_getElem? (i := 1547) (by decide +kernel), List.mem_of_getElem? (i := 1548) (by decide +kernel)⟩
theorem lw_p57 : lw_okq (⟨"YearSkinsModel", "readPart", "(Ljava/lang/String;II)I"⟩, 37) := ⟨⟨by decide +kernel, by decide +kernel⟩, List.mem_of_getElem? (i := 1256) (by decide +kernel), List.mem_of_getElem? (i := 1552) (by decide +kernel), List.mem_of_getElem? (i := 1553) (by decide +kernel)⟩
theorem lw_p58 : lw_okq (⟨"YearSkinsModel", "needs", "(Ljava/lang/String;)V"⟩, 37) := ⟨⟨by decide +kernel, by decide +kernel⟩, List.mem_of_getElem? (i := 1256) (by decide +kernel), List.mem_of_getElem? (i := 1556) (by decide +kernel), List.mem_of_getElem? (i := 1557) (by decide +kernel)⟩
theorem lw_p59 : lw_okq (⟨"YearSkinsModel", "readWhole", "(II)I"⟩, 37) := ⟨⟨by decide +kernel, by decide +kernel⟩, List.mem_of_getElem? (i := 1256) (by decide +kernel), List.mem_of_getElem? (i := 1560) (by decide +kernel), List.mem_of_getElem? (i := 1561) (by decide +kernel)⟩
theorem lw_p60 : lw_okq (⟨"YearSkinsModel", "bounded", "(II)I"⟩, 37) := ⟨⟨by decide +kernel, by decide +kernel⟩, List.mem_of_getElem? (i := 1256) (by decide +kernel), List.mem_of_getElem? (i := 1564) (by decide +kernel), List.mem_of_getElem? (i := 1565) (by decide +kernel)⟩
theorem lw_p61 : lw_okq (⟨"YearSkinsModel", "readYears", "()V"⟩, 37) := ⟨⟨by decide +kernel, by decide +kernel⟩, List.mem_of_getElem? (i := 1256) (by decide +kernel), List.mem_of_getElem? (i := 1579) (by decide +kernel), List.mem_of_getElem? (i := 1580) (by decide +kernel)⟩
theorem lw_p62 : lw_okq (⟨"YearSkinsModel", "begins", "(II)V"⟩, 37) := ⟨⟨by decide +kernel, by decide +kernel⟩, List.mem_of_getElem? (i := 1256) (by decide +kernel), List.mem_of_getElem? (i := 1583) (by decide +kernel), List.mem_of_getElem? (i := 1584) (by decide +kernel)⟩
theorem lw_p63 : lw_okq (⟨"YearSkinsModel", "readWater", "()V"⟩, 37) := ⟨⟨by decide +kernel, by decide +kernel⟩, List.mem_of_getElem? (i := 1256) (by decide +kernel), List.mem_of_getElem? (i := 1591) (by decide +kernel), List.mem_of_getElem? (i := 1592) (by decide +kernel)⟩
def lw_privs_4 : List (MethodName × Nat) := [(⟨"java/lang/Throwable", "fillInStackTrace", "(I)Ljava/lang/Throwable;"⟩, 6), (⟨"YearSkinsModel", "refused", "(I)I"⟩, 37), (⟨"YearSkinsModel", "goesOn", "()V"⟩, 37), (⟨"YearSkinsModel", "byteAt", "(I)I"⟩, 37), (⟨"YearSkinsModel", "readAll", "()V"⟩, 37), (⟨"YearSkinsModel", "readLine", "()V"⟩, 37), (⟨"YearSkinsModel", "isWord", "(Ljava/lang/String;)Z"⟩, 37), (⟨"YearSkinsModel", "readLand", "()V"⟩, 37), (⟨"YearSkinsModel", "flaw", "(I)V"⟩, 37), (⟨"YearSkinsModel", "readPart", "(Ljava/lang/String;II)I"⟩, 37), (⟨"YearSkinsModel", "needs", "(Ljava/lang/String;)V"⟩, 37), (⟨"YearSkinsModel", "readWhole", "(II)I"⟩, 37), (⟨"YearSkinsModel", "bounded", "(II)I"⟩, 37), (⟨"YearSkinsModel", "readYears", "()V"⟩, 37), (⟨"YearSkinsModel", "begins", "(II)V"⟩, 37), (⟨"YearSkinsModel", "readWater", "()V"⟩, 37)]
theorem lw_r4 : ∀ q ∈ lw_privs_4, lw_okq q := List.forall_mem_cons.mpr ⟨lw_p48, List.forall_mem_cons.mpr ⟨lw_p49, List.forall_mem_cons.mpr ⟨lw_p50, List.forall_mem_cons.mpr ⟨lw_p51, List.forall_mem_cons.mpr ⟨lw_p52, List.forall_mem_cons.mpr ⟨lw_p53, List.forall_mem_cons.mpr ⟨lw_p54, List.forall_mem_cons.mpr ⟨lw_p55, List.forall_mem_cons.mpr ⟨lw_p56, List.forall_mem_cons.mpr ⟨lw_p57, List.forall_mem_cons.mpr ⟨lw_p58, List.forall_mem_cons.mpr ⟨lw_p59, List.forall_mem_cons.mpr ⟨lw_p60, List.forall_mem_cons.mpr ⟨lw_p61, List.forall_mem_cons.mpr ⟨lw_p62, List.forall_mem_cons.mpr ⟨lw_p63, fun _ h => absurd h List.not_mem_nil⟩⟩⟩⟩⟩⟩⟩⟩⟩⟩⟩⟩⟩⟩⟩⟩
theorem lw_p64 : lw_okq (⟨"YearSkinsModel", "knownCell", "()I"⟩, 37) := ⟨⟨by decide +kernel, by decide +kernel⟩, List.mem_of_getElem? (i := 1256) (by decide +kernel), List.mem_of_getElem? (i := 1595) (by decide +kernel), List.mem_of_getElem? (i := 1596) (by decide +kernel)⟩
theorem lw_p65 : lw_okq (⟨"YearSkinsModel", "needsSign", "(I)V"⟩, 37) := ⟨⟨by decide +kernel, by decide +kernel⟩, List.mem_of_getElem? (i := 1256) (by decide +kernel), List.mem_of_getElem? (i := 1599) (by decide +kernel), List.mem_of_getElem? (i := 1600) (by decide +kernel)⟩
theorem lw_p66 : lw_okq (⟨"YearSkinsModel", "readStone", "()V"⟩, 37) := ⟨⟨by decide +kernel, by decide +kernel⟩, List.mem_of_getElem? (i := 1256) (by decide +kernel), List.mem_of_getElem? (i := 1604) (by decide +kernel), List.mem_of_getElem? (i := 1605) (by decide +kernel)⟩
theorem lw_p67 : lw_okq (⟨"YearSkinsModel", "readFresh", "()J"⟩, 37) := ⟨⟨by decide +kernel, by decide +kernel⟩, List.mem_of_getElem? (i := 1256) (by decide +kernel), List.mem_of_getElem? (i := 1608) (by decide +kernel), List.mem_of_getElem? (i := 1609) (by decide +kernel)⟩
theorem lw_p68 : lw_okq (⟨"YearSkinsModel", "isName", "()Z"⟩, 37) := ⟨⟨by decide +kernel, by decide +kernel⟩, List.mem_of_getElem? (i := 1256) (by decide +kernel), List.mem_of_getElem? (i := 1612) (by decide +kernel), List.mem_of_getElem? (i := 1613) (by decide +kernel)⟩
theorem lw_p69 : lw_okq (⟨"YearSkinsModel", "names", "(JII)V"⟩, 37) := ⟨⟨by decide +kernel, by decide +kernel⟩, List.mem_of_getElem? (i := 1256) (by decide +kernel), List.mem_of_getElem? (i := 1634) (by decide +kernel), List.mem_of_getElem? (i := 1635) (by decide +kernel)⟩
theorem lw_p70 : lw_okq (⟨"YearSkinsModel", "readHouse", "()V"⟩, 37) := ⟨⟨by decide +kernel, by decide +kernel⟩, List.mem_of_getElem? (i := 1256) (by decide +kernel), List.mem_of_getElem? (i := 1638) (by decide +kernel), List.mem_of_getElem? (i := 1639) (by decide +kernel)⟩
theorem lw_p71 : lw_okq (⟨"YearSkinsModel", "readKnown", "(I)I"⟩, 37) := ⟨⟨by decide +kernel, by decide +kernel⟩, List.mem_of_getElem? (i := 1256) (by decide +kernel), List.mem_of_getElem? (i := 1659) (by decide +kernel), List.mem_of_getElem? (i := 1660) (by decide +kernel)⟩
theorem lw_p72 : lw_okq (⟨"YearSkinsModel", "known", "(I)I"⟩, 37) := ⟨⟨by decide +kernel, by decide +kernel⟩, List.mem_of_getElem? (i := 1256) (by decide +kernel), List.mem_of_getElem? (i := 1663) (by decide +kernel), List.mem_of_getElem? (i := 1664) (by decide +kernel)⟩
theorem lw_p73 : lw_okq (⟨"YearSkinsModel", "readSkin", "()V"⟩, 37) := ⟨⟨by decide +kernel, by decide +kernel⟩, List.mem_of_getElem? (i := 1256) (by decide +kernel), List.mem_of_getElem? (i := 1669) (by decide +kernel), List.mem_of_getElem? (i := 1670) (by decide +kernel)⟩
theorem lw_p74 : lw_okq (⟨"YearSkinsModel", "readSide", "()I"⟩, 37) := ⟨⟨by decide +kernel, by decide +kernel⟩, List.mem_of_getElem? (i := 1256) (by decide +kernel), List.mem_of_getElem? (i := 1683) (by decide +kernel), List.mem_of_getElem? (i := 1684) (by decide +kernel)⟩
theorem lw_p75 : lw_okq (⟨"YearSkinsModel", "readHeir", "()V"⟩, 37) := ⟨⟨by decide +kernel, by decide +kernel⟩, List.mem_of_getElem? (i := 1256) (by decide +kernel), List.mem_of_getElem? (i := 1698) (by decide +kernel), List.mem_of_getElem? (i := 1699) (by decide +kernel)⟩
theorem lw_p76 : lw_okq (⟨"YearSkinsModel", "readWall", "()V"⟩, 37) := ⟨⟨by decide +kernel, by decide +kernel⟩, List.mem_of_getElem? (i := 1256) (by decide +kernel), List.mem_of_getElem? (i := 1702) (by decide +kernel), List.mem_of_getElem? (i := 1703) (by decide +kernel)⟩
theorem lw_p77 : lw_okq (⟨"YearSkinsModel", "readOlder", "()V"⟩, 37) := ⟨⟨by decide +kernel, by decide +kernel⟩, List.mem_of_getElem? (i := 1256) (by decide +kernel), List.mem_of_getElem? (i := 1706) (by decide +kernel), List.mem_of_getElem? (i := 1707) (by decide +kernel)⟩
theorem lw_p78 : lw_okq (⟨"YearSkinsModel", "readSign", "(Z)V"⟩, 37) := ⟨⟨by decide +kernel, by decide +kernel⟩, List.mem_of_getElem? (i := 1256) (by decide +kernel), List.mem_of_getElem? (i := 1713) (by decide +kernel), List.mem_of_getElem? (i := 1714) (by decide +kernel)⟩
theorem lw_p79 : lw_okq (⟨"YearSkinsModel", "eatsSign", "(I)Z"⟩, 37) := ⟨⟨by decide +kernel, by decide +kernel⟩, List.mem_of_getElem? (i := 1256) (by decide +kernel), List.mem_of_getElem? (i := 1717) (by decide +kernel), List.mem_of_getElem? (i := 1718) (by decide +kernel)⟩
def lw_privs_5 : List (MethodName × Nat) := [(⟨"YearSkinsModel", "knownCell", "()I"⟩, 37), (⟨"YearSkinsModel", "needsSign", "(I)V"⟩, 37), (⟨"YearSkinsModel", "readStone", "()V"⟩, 37), (⟨"YearSkinsModel", "readFresh", "()J"⟩, 37), (⟨"YearSkinsModel", "isName", "()Z"⟩, 37), (⟨"YearSkinsModel", "names", "(JII)V"⟩, 37), (⟨"YearSkinsModel", "readHouse", "()V"⟩, 37), (⟨"YearSkinsModel", "readKnown", "(I)I"⟩, 37), (⟨"YearSkinsModel", "known", "(I)I"⟩, 37), (⟨"YearSkinsModel", "readSkin", "()V"⟩, 37), (⟨"YearSkinsModel", "readSide", "()I"⟩, 37), (⟨"YearSkinsModel", "readHeir", "()V"⟩, 37), (⟨"YearSkinsModel", "readWall", "()V"⟩, 37), (⟨"YearSkinsModel", "readOlder", "()V"⟩, 37), (⟨"YearSkinsModel", "readSign", "(Z)V"⟩, 37), (⟨"YearSkinsModel", "eatsSign", "(I)Z"⟩, 37)]
theorem lw_r5 : ∀ q ∈ lw_privs_5, lw_okq q := List.forall_mem_cons.mpr ⟨lw_p64, List.forall_mem_cons.mpr ⟨lw_p65, List.forall_mem_cons.mpr ⟨lw_p66, List.forall_mem_cons.mpr ⟨lw_p67, List.forall_mem_cons.mpr ⟨lw_p68, List.forall_mem_cons.mpr ⟨lw_p69, List.forall_mem_cons.mpr ⟨lw_p70, List.forall_mem_cons.mpr ⟨lw_p71, List.forall_mem_cons.mpr ⟨lw_p72, List.forall_mem_cons.mpr ⟨lw_p73, List.forall_mem_cons.mpr ⟨lw_p74, List.forall_mem_cons.mpr ⟨lw_p75, List.forall_mem_cons.mpr ⟨lw_p76, List.forall_mem_cons.mpr ⟨lw_p77, List.forall_mem_cons.mpr ⟨lw_p78, List.forall_mem_cons.mpr ⟨lw_p79, fun _ h => absurd h List.not_mem_nil⟩⟩⟩⟩⟩⟩⟩⟩⟩⟩⟩⟩⟩⟩⟩⟩
theorem lw_p80 : lw_okq (⟨"YearSkinsModel", "good", "(I)I"⟩, 37) := ⟨⟨by decide +kernel, by decide +kernel⟩, List.mem_of_getElem? (i := 1256) (by decide +kernel), List.mem_of_getElem? (i := 1721) (by decide +kernel), List.mem_of_getElem? (i := 1722) (by decide +kernel)⟩
theorem lw_p81 : lw_okq (⟨"YearSkinsModel", "isCell", "(II)Z"⟩, 37) := ⟨⟨by decide +kernel, by decide +kernel⟩, List.mem_of_getElem? (i := 1256) (by decide +kernel), List.mem_of_getElem? (i := 1737) (by decide +kernel), List.mem_of_getElem? (i := 1738) (by decide +kernel)⟩
theorem lw_p82 : lw_okq (⟨"YearSkinsModel", "owned", "(IIZ)I"⟩, 37) := ⟨⟨by decide +kernel, by decide +kernel⟩, List.mem_of_getElem? (i := 1256) (by decide +kernel), List.mem_of_getElem? (i := 1745) (by decide +kernel), List.mem_of_getElem? (i := 1746) (by decide +kernel)⟩
theorem lw_p83 : lw_okq (⟨"YearSkinsModel", "isHouse", "(I)Z"⟩, 37) := ⟨⟨by decide +kernel, by decide +kernel⟩, List.mem_of_getElem? (i := 1256) (by decide +kernel), List.mem_of_getElem? (i := 1764) (by decide +kernel), List.mem_of_getElem? (i := 1765) (by decide +kernel)⟩
theorem lw_p84 : lw_okq (⟨"YearSkinsModel", "isShut", "([II)Z"⟩, 37) := ⟨⟨by decide +kernel, by decide +kernel⟩, List.mem_of_getElem? (i := 1256) (by decide +kernel), List.mem_of_getElem? (i := 1768) (by decide +kernel), List.mem_of_getElem? (i := 1769) (by decide +kernel)⟩
theorem lw_p85 : lw_okq (⟨"YearSkinsModel", "isSkin", "(II)Z"⟩, 37) := ⟨⟨by decide +kernel, by decide +kernel⟩, List.mem_of_getElem? (i := 1256) (by decide +kernel), List.mem_of_getElem? (i := 1791) (by decide +kernel), List.mem_of_getElem? (i := 1792) (by decide +kernel)⟩
theorem lw_p86 : lw_okq (⟨"YearSkinsModel", "isDepth", "(II)Z"⟩, 37) := ⟨⟨by decide +kernel, by decide +kernel⟩, List.mem_of_getElem? (i := 1256) (by decide +kernel), List.mem_of_getElem? (i := 1799) (by decide +kernel), List.mem_of_getElem? (i := 1800) (by decide +kernel)⟩
theorem lw_p87 : lw_okq (⟨"YearSkinsModel", "warmth", "(II)I"⟩, 37) := ⟨⟨by decide +kernel, by decide +kernel⟩, List.mem_of_getElem? (i := 1256) (by decide +kernel), List.mem_of_getElem? (i := 1803) (by decide +kernel), List.mem_of_getElem? (i := 1804) (by decide +kernel)⟩
theorem lw_p88 : lw_okq (⟨"YearSkinsModel", "isHeir", "(I)Z"⟩, 37) := ⟨⟨by decide +kernel, by decide +kernel⟩, List.mem_of_getElem? (i := 1256) (by decide +kernel), List.mem_of_getElem? (i := 1815) (by decide +kernel), List.mem_of_getElem? (i := 1816) (by decide +kernel)⟩
theorem lw_p89 : lw_okq (⟨"YearSkinsModel", "findsDoor", "([II)Z"⟩, 37) := ⟨⟨by decide +kernel, by decide +kernel⟩, List.mem_of_getElem? (i := 1256) (by decide +kernel), List.mem_of_getElem? (i := 1827) (by decide +kernel), List.mem_of_getElem? (i := 1828) (by decide +kernel)⟩
theorem lw_p90 : lw_okq (⟨"YearSkinsModel", "isStone", "(I)Z"⟩, 37) := ⟨⟨by decide +kernel, by decide +kernel⟩, List.mem_of_getElem? (i := 1256) (by decide +kernel), List.mem_of_getElem? (i := 1847) (by decide +kernel), List.mem_of_getElem? (i := 1848) (by decide +kernel)⟩
theorem lw_p91 : lw_okq (⟨"YearSkinsModel", "costOf", "([III)I"⟩, 37) := ⟨⟨by decide +kernel, by decide +kernel⟩, List.mem_of_getElem? (i := 1256) (by decide +kernel), List.mem_of_getElem? (i := 1851) (by decide +kernel), List.mem_of_getElem? (i := 1852) (by decide +kernel)⟩
theorem lw_p92 : lw_okq (⟨"YearSkinsModel", "throughTo", "(II)I"⟩, 37) := ⟨⟨by decide +kernel, by decide +kernel⟩, List.mem_of_getElem? (i := 1256) (by decide +kernel), List.mem_of_getElem? (i := 1872) (by decide +kernel), List.mem_of_getElem? (i := 1873) (by decide +kernel)⟩
theorem lw_p93 : lw_okq (⟨"YearSkinsModel", "entry", "(IIZ)I"⟩, 37) := ⟨⟨by decide +kernel, by decide +kernel⟩, List.mem_of_getElem? (i := 1256) (by decide +kernel), List.mem_of_getElem? (i := 1877) (by decide +kernel), List.mem_of_getElem? (i := 1878) (by decide +kernel)⟩
theorem lw_p94 : lw_okq (⟨"YearSkinsModel", "refusesIn", "(ZII)I"⟩, 37) := ⟨⟨by decide +kernel, by decide +kernel⟩, List.mem_of_getElem? (i := 1256) (by decide +kernel), List.mem_of_getElem? (i := 1899) (by decide +kernel), List.mem_of_getElem? (i := 1900) (by decide +kernel)⟩
theorem lw_p95 : lw_okq (⟨"YearSkinsModel", "inYears", "(I)V"⟩, 37) := ⟨⟨by decide +kernel, by decide +kernel⟩, List.mem_of_getElem? (i := 1256) (by decide +kernel), List.mem_of_getElem? (i := 1903) (by decide +kernel), List.mem_of_getElem? (i := 1904) (by decide +kernel)⟩
def lw_privs_6 : List (MethodName × Nat) := [(⟨"YearSkinsModel", "good", "(I)I"⟩, 37), (⟨"YearSkinsModel", "isCell", "(II)Z"⟩, 37), (⟨"YearSkinsModel", "owned", "(IIZ)I"⟩, 37), (⟨"YearSkinsModel", "isHouse", "(I)Z"⟩, 37), (⟨"YearSkinsModel", "isShut", "([II)Z"⟩, 37), (⟨"YearSkinsModel", "isSkin", "(II)Z"⟩, 37), (⟨"YearSkinsModel", "isDepth", "(II)Z"⟩, 37), (⟨"YearSkinsModel", "warmth", "(II)I"⟩, 37), (⟨"YearSkinsModel", "isHeir", "(I)Z"⟩, 37), (⟨"YearSkinsModel", "findsDoor", "([II)Z"⟩, 37), (⟨"YearSkinsModel", "isStone", "(I)Z"⟩, 37), (⟨"YearSkinsModel", "costOf", "([III)I"⟩, 37), (⟨"YearSkinsModel", "throughTo", "(II)I"⟩, 37), (⟨"YearSkinsModel", "entry", "(IIZ)I"⟩, 37), (⟨"YearSkinsModel", "refusesIn", "(ZII)I"⟩, 37), (⟨"YearSkinsModel", "inYears", "(I)V"⟩, 37)]
theorem lw_r6 : ∀ q ∈ lw_privs_6, lw_okq q := List.forall_mem_cons.mpr ⟨lw_p80, List.forall_mem_cons.mpr ⟨lw_p81, List.forall_mem_cons.mpr ⟨lw_p82, List.forall_mem_cons.mpr ⟨lw_p83, List.forall_mem_cons.mpr ⟨lw_p84, List.forall_mem_cons.mpr ⟨lw_p85, List.forall_mem_cons.mpr ⟨lw_p86, List.forall_mem_cons.mpr ⟨lw_p87, List.forall_mem_cons.mpr ⟨lw_p88, List.forall_mem_cons.mpr ⟨lw_p89, List.forall_mem_cons.mpr ⟨lw_p90, List.forall_mem_cons.mpr ⟨lw_p91, List.forall_mem_cons.mpr ⟨lw_p92, List.forall_mem_cons.mpr ⟨lw_p93, List.forall_mem_cons.mpr ⟨lw_p94, List.forall_mem_cons.mpr ⟨lw_p95, fun _ h => absurd h List.not_mem_nil⟩⟩⟩⟩⟩⟩⟩⟩⟩⟩⟩⟩⟩⟩⟩⟩
theorem lw_p96 : lw_okq (⟨"YearSkinsModel", "copies", "()V"⟩, 37) := ⟨⟨by decide +kernel, by decide +kernel⟩, List.mem_of_getElem? (i := 1256) (by decide +kernel), List.mem_of_getElem? (i := 1907) (by decide +kernel), List.mem_of_getElem? (i := 1908) (by decide +kernel)⟩
theorem lw_p97 : lw_okq (⟨"YearSkinsModel", "byNumbers", "()V"⟩, 37) := ⟨⟨by decide +kernel, by decide +kernel⟩, List.mem_of_getElem? (i := 1256) (by decide +kernel), List.mem_of_getElem? (i := 1911) (by decide +kernel), List.mem_of_getElem? (i := 1912) (by decide +kernel)⟩
theorem lw_p98 : lw_okq (⟨"YearSkinsModel", "goesBy", "([I)V"⟩, 37) := ⟨⟨by decide +kernel, by decide +kernel⟩, List.mem_of_getElem? (i := 1256) (by decide +kernel), List.mem_of_getElem? (i := 1915) (by decide +kernel), List.mem_of_getElem? (i := 1916) (by decide +kernel)⟩
theorem lw_p99 : lw_okq (⟨"YearSkinsModel", "yearOf", "([II)V"⟩, 37) := ⟨⟨by decide +kernel, by decide +kernel⟩, List.mem_of_getElem? (i := 1256) (by decide +kernel), List.mem_of_getElem? (i := 1919) (by decide +kernel), List.mem_of_getElem? (i := 1920) (by decide +kernel)⟩
theorem lw_p100 : lw_okq (⟨"YearSkinsModel", "rots", "([III)V"⟩, 37) := ⟨⟨by decide +kernel, by decide +kernel⟩, List.mem_of_getElem? (i := 1256) (by decide +kernel), List.mem_of_getElem? (i := 1929) (by decide +kernel), List.mem_of_getElem? (i := 1930) (by decide +kernel)⟩
theorem lw_p101 : lw_okq (⟨"YearSkinsModel", "doMeet", "([III)Z"⟩, 37) := ⟨⟨by decide +kernel, by decide +kernel⟩, List.mem_of_getElem? (i := 1256) (by decide +kernel), List.mem_of_getElem? (i := 1944) (by decide +kernel), List.mem_of_getElem? (i := 1945) (by decide +kernel)⟩
theorem lw_p102 : lw_okq (⟨"YearSkinsModel", "findsFirst", "(I)V"⟩, 37) := ⟨⟨by decide +kernel, by decide +kernel⟩, List.mem_of_getElem? (i := 1256) (by decide +kernel), List.mem_of_getElem? (i := 1960) (by decide +kernel), List.mem_of_getElem? (i := 1961) (by decide +kernel)⟩
theorem lw_p103 : lw_okq (⟨"YearSkinsModel", "inmost", "(I)I"⟩, 37) := ⟨⟨by decide +kernel, by decide +kernel⟩, List.mem_of_getElem? (i := 1256) (by decide +kernel), List.mem_of_getElem? (i := 1983) (by decide +kernel), List.mem_of_getElem? (i := 1984) (by decide +kernel)⟩
theorem lw_p104 : lw_okq (⟨"YearSkinsModel", "goldOf", "(II)I"⟩, 37) := ⟨⟨by decide +kernel, by decide +kernel⟩, List.mem_of_getElem? (i := 1256) (by decide +kernel), List.mem_of_getElem? (i := 1987) (by decide +kernel), List.mem_of_getElem? (i := 1988) (by decide +kernel)⟩
theorem lw_p105 : lw_okq (⟨"YearSkinsModel", "isLivedIn", "(II)Z"⟩, 37) := ⟨⟨by decide +kernel, by decide +kernel⟩, List.mem_of_getElem? (i := 1256) (by decide +kernel), List.mem_of_getElem? (i := 1995) (by decide +kernel), List.mem_of_getElem? (i := 1996) (by decide +kernel)⟩
theorem lw_p106 : lw_okq (⟨"YearSkinsModel", "findsOrders", "(I)V"⟩, 37) := ⟨⟨by decide +kernel, by decide +kernel⟩, List.mem_of_getElem? (i := 1256) (by decide +kernel), List.mem_of_getElem? (i := 2003) (by decide +kernel), List.mem_of_getElem? (i := 2004) (by decide +kernel)⟩
theorem lw_p107 : lw_okq (⟨"YearSkinsModel", "canBe", "()Z"⟩, 37) := ⟨⟨by decide +kernel, by decide +kernel⟩, List.mem_of_getElem? (i := 1256) (by decide +kernel), List.mem_of_getElem? (i := 2007) (by decide +kernel), List.mem_of_getElem? (i := 2008) (by decide +kernel)⟩
theorem lw_p108 : lw_okq (⟨"YearSkinsModel", "before", "(I)I"⟩, 37) := ⟨⟨by decide +kernel, by decide +kernel⟩, List.mem_of_getElem? (i := 1256) (by decide +kernel), List.mem_of_getElem? (i := 2011) (by decide +kernel), List.mem_of_getElem? (i := 2012) (by decide +kernel)⟩
theorem lw_p109 : lw_okq (⟨"YearSkinsModel", "isWall", "(I)Z"⟩, 37) := ⟨⟨by decide +kernel, by decide +kernel⟩, List.mem_of_getElem? (i := 1256) (by decide +kernel), List.mem_of_getElem? (i := 2019) (by decide +kernel), List.mem_of_getElem? (i := 2020) (by decide +kernel)⟩
theorem lw_p110 : lw_okq (⟨"YearSkinsModel", "keeps", "()V"⟩, 37) := ⟨⟨by decide +kernel, by decide +kernel⟩, List.mem_of_getElem? (i := 1256) (by decide +kernel), List.mem_of_getElem? (i := 2039) (by decide +kernel), List.mem_of_getElem? (i := 2040) (by decide +kernel)⟩
theorem lw_p111 : lw_okq (⟨"YearSkinsModel", "denied", "(I)Z"⟩, 37) := ⟨⟨by decide +kernel, by decide +kernel⟩, List.mem_of_getElem? (i := 1256) (by decide +kernel), List.mem_of_getElem? (i := 2051) (by decide +kernel), List.mem_of_getElem? (i := 2052) (by decide +kernel)⟩
def lw_privs_7 : List (MethodName × Nat) := [(⟨"YearSkinsModel", "copies", "()V"⟩, 37), (⟨"YearSkinsModel", "byNumbers", "()V"⟩, 37), (⟨"YearSkinsModel", "goesBy", "([I)V"⟩, 37), (⟨"YearSkinsModel", "yearOf", "([II)V"⟩, 37), (⟨"YearSkinsModel", "rots", "([III)V"⟩, 37), (⟨"YearSkinsModel", "doMeet", "([III)Z"⟩, 37), (⟨"YearSkinsModel", "findsFirst", "(I)V"⟩, 37), (⟨"YearSkinsModel", "inmost", "(I)I"⟩, 37), (⟨"YearSkinsModel", "goldOf", "(II)I"⟩, 37), (⟨"YearSkinsModel", "isLivedIn", "(II)Z"⟩, 37), (⟨"YearSkinsModel", "findsOrders", "(I)V"⟩, 37), (⟨"YearSkinsModel", "canBe", "()Z"⟩, 37), (⟨"YearSkinsModel", "before", "(I)I"⟩, 37), (⟨"YearSkinsModel", "isWall", "(I)Z"⟩, 37), (⟨"YearSkinsModel", "keeps", "()V"⟩, 37), (⟨"YearSkinsModel", "denied", "(I)Z"⟩, 37)]
theorem lw_r7 : ∀ q ∈ lw_privs_7, lw_okq q := List.forall_mem_cons.mpr ⟨lw_p96, List.forall_mem_cons.mpr ⟨lw_p97, List.forall_mem_cons.mpr ⟨lw_p98, List.forall_mem_cons.mpr ⟨lw_p99, List.forall_mem_cons.mpr ⟨lw_p100, List.forall_mem_cons.mpr ⟨lw_p101, List.forall_mem_cons.mpr ⟨lw_p102, List.forall_mem_cons.mpr ⟨lw_p103, List.forall_mem_cons.mpr ⟨lw_p104, List.forall_mem_cons.mpr ⟨lw_p105, List.forall_mem_cons.mpr ⟨lw_p106, List.forall_mem_cons.mpr ⟨lw_p107, List.forall_mem_cons.mpr ⟨lw_p108, List.forall_mem_cons.mpr ⟨lw_p109, List.forall_mem_cons.mpr ⟨lw_p110, List.forall_mem_cons.mpr ⟨lw_p111, fun _ h => absurd h List.not_mem_nil⟩⟩⟩⟩⟩⟩⟩⟩⟩⟩⟩⟩⟩⟩⟩⟩
theorem lw_p112 : lw_okq (⟨"YearSkinsModel", "granted", "()Z"⟩, 37) := ⟨⟨by decide +kernel, by decide +kernel⟩, List.mem_of_getElem? (i := 1256) (by decide +kernel), List.mem_of_getElem? (i := 2055) (by decide +kernel), List.mem_of_getElem? (i := 2056) (by decide +kernel)⟩
def lw_privs_8 : List (MethodName × Nat) := [(⟨"YearSkinsModel", "granted", "()Z"⟩, 37)]
theorem lw_r8 : ∀ q ∈ lw_privs_8, lw_okq q := List.forall_mem_cons.mpr ⟨lw_p112, fun _ h => absurd h List.not_mem_nil⟩
def lw_privs : List (MethodName × Nat) := lw_privs_1 ++ (lw_privs_2 ++ (lw_privs_3 ++ (lw_privs_4 ++ (lw_privs_5 ++ (lw_privs_6 ++ (lw_privs_7 ++ (lw_privs_8)))))))
def lw_tbl : List Cond := k2_sels lw_privs ++ tables_1
theorem lw_privs_ok : ∀ q ∈ lw_privs, lw_okq q := by
  show ∀ q ∈ lw_privs_1 ++ (lw_privs_2 ++ (lw_privs_3 ++ (lw_privs_4 ++ (lw_privs_5 ++ (lw_privs_6 ++ (lw_privs_7 ++ (lw_privs_8))))))), lw_okq q
  exact List.forall_mem_append.mpr ⟨lw_r1, List.forall_mem_append.mpr ⟨lw_r2, List.forall_mem_append.mpr ⟨lw_r3, List.forall_mem_append.mpr ⟨lw_r4, List.forall_mem_append.mpr ⟨lw_r5, List.forall_mem_append.mpr ⟨lw_r6, List.forall_mem_append.mpr ⟨lw_r7, lw_r8⟩⟩⟩⟩⟩⟩⟩
end
section
/-! ===== BEGIN printed: names, fields, word lists, decode rows ===== -/
def RX0 : String := "YearSkins$Burglar"
def TX0 : u_T := fun k => match k with
  | 0 => ("YearSkins$Burglar", "here", "[I", false)
  | _ => ("YearSkins$Burglar", "within", "[I", false)
def tyX0 : Nat → FieldType := fun k => match k with
  | 0 => .array .int
  | _ => .array .int
abbrev wsX00 : List Cond := u_ws RX0 TX0 2
theorem nmX0 : ∀ a, a < 2 → ∀ b, b < 2 → a ≠ b → (TX0 a).2.1 ≠ (TX0 b).2.1 := by decide +kernel
theorem tyX0_ok : ∀ k, k < 2 → parseFieldDescriptor (TX0 k).2.2.1 = some (tyX0 k) := by decide +kernel
abbrev cX0_init : ByteArray := prog_2_method_1_code
def yX0_init : MethodName := ⟨RX0, "<init>", "()V"⟩
abbrev cX0_cheapest : ByteArray := prog_2_method_2_code
def yX0_cheapest : MethodName := ⟨RX0, "cheapest", "(LYearSkins$Land;LYearSkins$State;II)I"⟩
abbrev cX0_empty : ByteArray := prog_2_method_3_code
def yX0_empty : MethodName := ⟨RX0, "empty", "([I)V"⟩
abbrev cX0_byDoor : ByteArray := prog_2_method_4_code
def yX0_byDoor : MethodName := ⟨RX0, "byDoor", "(LYearSkins$State;II)I"⟩
abbrev cX0_byWall : ByteArray := prog_2_method_5_code
def yX0_byWall : MethodName := ⟨RX0, "byWall", "(LYearSkins$Land;LYearSkins$State;II)I"⟩
abbrev cX0_goRound : ByteArray := prog_2_method_6_code
def yX0_goRound : MethodName := ⟨RX0, "goRound", "(I)V"⟩
abbrev cX0_goIn : ByteArray := prog_2_method_7_code
def yX0_goIn : MethodName := ⟨RX0, "goIn", "(LYearSkins$Land;LYearSkins$State;II)V"⟩
abbrev cX0_least : ByteArray := prog_2_method_8_code
def yX0_least : MethodName := ⟨RX0, "least", "(I)I"⟩
def RX1 : String := "YearSkins$Land"
def TX1 : u_T := fun k => match k with
  | 0 => ("YearSkins$Land", "wide", "I", false)
  | 1 => ("YearSkins$Land", "high", "I", false)
  | 2 => ("YearSkins$Land", "far", "Z", false)
  | 3 => ("YearSkins$Land", "share", "Z", false)
  | 4 => ("YearSkins$Land", "births", "I", false)
  | 5 => ("YearSkins$Land", "fire", "I", false)
  | 6 => ("YearSkins$Land", "earns", "I", false)
  | 7 => ("YearSkins$Land", "wet", "[Z", true)
  | 8 => ("YearSkins$Land", "stones", "I", false)
  | 9 => ("YearSkins$Land", "stoneParts", "[I", true)
  | 10 => ("YearSkins$Land", "houses", "I", false)
  | 11 => ("YearSkins$Land", "coreX", "[I", true)
  | 12 => ("YearSkins$Land", "coreY", "[I", true)
  | 13 => ("YearSkins$Land", "houseStone", "[I", true)
  | 14 => ("YearSkins$Land", "heirs", "I", false)
  | 15 => ("YearSkins$Land", "heirHouse", "[I", true)
  | 16 => ("YearSkins$Land", "walls", "I", false)
  | 17 => ("YearSkins$Land", "needs", "[I", true)
  | 18 => ("YearSkins$Land", "coins", "[I", true)
  | _ => ("YearSkins$Land", "smells", "[I", true)
def tyX1 : Nat → FieldType := fun k => match k with
  | 0 => .int
  | 1 => .int
  | 2 => .boolean
  | 3 => .boolean
  | 4 => .int
  | 5 => .int
  | 6 => .int
  | 7 => .array .boolean
  | 8 => .int
  | 9 => .array .int
  | 10 => .int
  | 11 => .array .int
  | 12 => .array .int
  | 13 => .array .int
  | 14 => .int
  | 15 => .array .int
  | 16 => .int
  | 17 => .array .int
  | 18 => .array .int
  | _ => .array .int
abbrev wsX10 : List Cond := u_ws RX1 TX1 20
theorem nmX1 : ∀ a, a < 20 → ∀ b, b < 20 → a ≠ b → (TX1 a).2.1 ≠ (TX1 b).2.1 := by decide +kernel
theorem tyX1_ok : ∀ k, k < 20 → parseFieldDescriptor (TX1 k).2.2.1 = some (tyX1 k) := by decide +kernel
abbrev cX1_init : ByteArray := prog_3_method_1_code
def yX1_init : MethodName := ⟨RX1, "<init>", "()V"⟩
abbrev cX1_clear : ByteArray := prog_3_method_2_code
def yX1_clear : MethodName := ⟨RX1, "clear", "()V"⟩
abbrev cX1_isOn : ByteArray := prog_3_method_3_code
def yX1_isOn : MethodName := ⟨RX1, "isOn", "(II)Z"⟩
abbrev cX1_isWet : ByteArray := prog_3_method_4_code
def yX1_isWet : MethodName := ⟨RX1, "isWet", "(II)Z"⟩
abbrev cX1_addWater : ByteArray := prog_3_method_5_code
def yX1_addWater : MethodName := ⟨RX1, "addWater", "(II)V"⟩
abbrev cX1_stonePart : ByteArray := prog_3_method_6_code
def yX1_stonePart : MethodName := ⟨RX1, "stonePart", "(II)I"⟩
abbrev cX1_setStonePart : ByteArray := prog_3_method_7_code
def yX1_setStonePart : MethodName := ⟨RX1, "setStonePart", "(III)V"⟩
abbrev cX1_apart : ByteArray := prog_3_method_8_code
def yX1_apart : MethodName := ⟨RX1, "apart", "(III)I"⟩
abbrev cX1_isTold : ByteArray := prog_3_method_9_code
def yX1_isTold : MethodName := ⟨RX1, "isTold", "(II)Z"⟩
def RX2 : String := "YearSkins$Past"
def TX2 : u_T := fun k => match k with
  | 0 => ("YearSkins$Past", "kept", "[LYearSkins$State;", true)
  | 1 => ("YearSkins$Past", "marked", "[LYearSkins$State;", true)
  | 2 => ("YearSkins$Past", "oldest", "I", false)
  | 3 => ("YearSkins$Past", "acts", "I", false)
  | _ => ("YearSkins$Past", "marks", "I", false)
def tyX2 : Nat → FieldType := fun k => match k with
  | 0 => .array (.object "YearSkins$State")
  | 1 => .array (.object "YearSkins$State")
  | 2 => .int
  | 3 => .int
  | _ => .int
abbrev wsX20 : List Cond := u_ws RX2 TX2 5
theorem nmX2 : ∀ a, a < 5 → ∀ b, b < 5 → a ≠ b → (TX2 a).2.1 ≠ (TX2 b).2.1 := by decide +kernel
theorem tyX2_ok : ∀ k, k < 5 → parseFieldDescriptor (TX2 k).2.2.1 = some (tyX2 k) := by decide +kernel
abbrev cX2_init : ByteArray := prog_4_method_1_code
def yX2_init : MethodName := ⟨RX2, "<init>", "()V"⟩
abbrev cX2_forget : ByteArray := prog_4_method_2_code
def yX2_forget : MethodName := ⟨RX2, "forget", "()V"⟩
abbrev cX2_keep : ByteArray := prog_4_method_3_code
def yX2_keep : MethodName := ⟨RX2, "keep", "(LYearSkins$State;)V"⟩
abbrev cX2_stepBack : ByteArray := prog_4_method_4_code
def yX2_stepBack : MethodName := ⟨RX2, "stepBack", "(LYearSkins$State;)Z"⟩
abbrev cX2_addMark : ByteArray := prog_4_method_5_code
def yX2_addMark : MethodName := ⟨RX2, "addMark", "(LYearSkins$State;)I"⟩
abbrev cX2_goToMark : ByteArray := prog_4_method_6_code
def yX2_goToMark : MethodName := ⟨RX2, "goToMark", "(LYearSkins$State;I)Z"⟩
def RX3 : String := "YearSkins$Reader"
def TX3 : u_T := fun k => match k with
  | 0 => ("YearSkins$Reader", "tokens", "LYearSkins$Tokens;", true)
  | 1 => ("YearSkins$Reader", "land", "LYearSkins$Land;", false)
  | 2 => ("YearSkins$Reader", "state", "LYearSkins$State;", false)
  | 3 => ("YearSkins$Reader", "fault", "I", false)
  | 4 => ("YearSkins$Reader", "place", "I", false)
  | 5 => ("YearSkins$Reader", "landTold", "Z", false)
  | 6 => ("YearSkins$Reader", "yearsTold", "Z", false)
  | 7 => ("YearSkins$Reader", "waters", "I", false)
  | 8 => ("YearSkins$Reader", "olders", "I", false)
  | 9 => ("YearSkins$Reader", "names", "[J", true)
  | 10 => ("YearSkins$Reader", "sorts", "[I", true)
  | 11 => ("YearSkins$Reader", "numbers", "[I", true)
  | _ => ("YearSkins$Reader", "named", "I", false)
def tyX3 : Nat → FieldType := fun k => match k with
  | 0 => .object "YearSkins$Tokens"
  | 1 => .object "YearSkins$Land"
  | 2 => .object "YearSkins$State"
  | 3 => .int
  | 4 => .int
  | 5 => .boolean
  | 6 => .boolean
  | 7 => .int
  | 8 => .int
  | 9 => .array .long
  | 10 => .array .int
  | 11 => .array .int
  | _ => .int
abbrev wsX30 : List Cond := u_ws RX3 TX3 13
theorem nmX3 : ∀ a, a < 13 → ∀ b, b < 13 → a ≠ b → (TX3 a).2.1 ≠ (TX3 b).2.1 := by decide +kernel
theorem tyX3_ok : ∀ k, k < 13 → parseFieldDescriptor (TX3 k).2.2.1 = some (tyX3 k) := by decide +kernel
abbrev cX3_init : ByteArray := prog_5_method_1_code
def yX3_init : MethodName := ⟨RX3, "<init>", "()V"⟩
abbrev cX3_readAll : ByteArray := prog_5_method_2_code
def yX3_readAll : MethodName := ⟨RX3, "readAll", "([IILYearSkins$Land;LYearSkins$State;)V"⟩
abbrev cX3_fail : ByteArray := prog_5_method_3_code
def yX3_fail : MethodName := ⟨RX3, "fail", "(II)V"⟩
abbrev cX3_readLine : ByteArray := prog_5_method_4_code
def yX3_readLine : MethodName := ⟨RX3, "readLine", "()V"⟩
abbrev cX3_checkLine : ByteArray := prog_5_method_5_code
def yX3_checkLine : MethodName := ⟨RX3, "checkLine", "(I)V"⟩
abbrev cX3_lineSort : ByteArray := prog_5_method_6_code
def yX3_lineSort : MethodName := ⟨RX3, "lineSort", "()I"⟩
abbrev cX3_isLineAgain : ByteArray := prog_5_method_7_code
def yX3_isLineAgain : MethodName := ⟨RX3, "isLineAgain", "(I)Z"⟩
abbrev cX3_isLineTooMany : ByteArray := prog_5_method_8_code
def yX3_isLineTooMany : MethodName := ⟨RX3, "isLineTooMany", "(I)Z"⟩
abbrev cX3_readLand : ByteArray := prog_5_method_9_code
def yX3_readLand : MethodName := ⟨RX3, "readLand", "()V"⟩
abbrev cX3_readYears : ByteArray := prog_5_method_10_code
def yX3_readYears : MethodName := ⟨RX3, "readYears", "()V"⟩
abbrev cX3_readWater : ByteArray := prog_5_method_11_code
def yX3_readWater : MethodName := ⟨RX3, "readWater", "()V"⟩
abbrev cX3_readStone : ByteArray := prog_5_method_12_code
def yX3_readStone : MethodName := ⟨RX3, "readStone", "()V"⟩
abbrev cX3_readHouse : ByteArray := prog_5_method_13_code
def yX3_readHouse : MethodName := ⟨RX3, "readHouse", "()V"⟩
abbrev cX3_readSkin : ByteArray := prog_5_method_14_code
def yX3_readSkin : MethodName := ⟨RX3, "readSkin", "()V"⟩
abbrev cX3_readHeir : ByteArray := prog_5_method_15_code
def yX3_readHeir : MethodName := ⟨RX3, "readHeir", "()V"⟩
abbrev cX3_readWall : ByteArray := prog_5_method_16_code
def yX3_readWall : MethodName := ⟨RX3, "readWall", "()V"⟩
abbrev cX3_readOlder : ByteArray := prog_5_method_17_code
def yX3_readOlder : MethodName := ⟨RX3, "readOlder", "()V"⟩
abbrev cX3_readYearOfWall : ByteArray := prog_5_method_18_code
def yX3_readYearOfWall : MethodName := ⟨RX3, "readYearOfWall", "([I)V"⟩
abbrev cX3_word : ByteArray := prog_5_method_19_code
def yX3_word : MethodName := ⟨RX3, "word", "(Ljava/lang/String;)V"⟩
abbrev cX3_sign : ByteArray := prog_5_method_20_code
def yX3_sign : MethodName := ⟨RX3, "sign", "(C)V"⟩
abbrev cX3_choice : ByteArray := prog_5_method_21_code
def yX3_choice : MethodName := ⟨RX3, "choice", "(Ljava/lang/String;Ljava/lang/String;Ljava/lang/String;Ljava/lang/String;)I"⟩
abbrev cX3_whole : ByteArray := prog_5_method_22_code
def yX3_whole : MethodName := ⟨RX3, "whole", "(II)I"⟩
abbrev cX3_newName : ByteArray := prog_5_method_23_code
def yX3_newName : MethodName := ⟨RX3, "newName", "(II)V"⟩
abbrev cX3_name : ByteArray := prog_5_method_24_code
def yX3_name : MethodName := ⟨RX3, "name", "(I)I"⟩
abbrev cX3_findName : ByteArray := prog_5_method_25_code
def yX3_findName : MethodName := ⟨RX3, "findName", "()I"⟩
def RX4 : String := "YearSkins$Ring"
def TX4 : u_T := fun k => match k with
  | _ => ("", "", "", false)
def tyX4 : Nat → FieldType := fun k => match k with
  | _ => .int
abbrev wsX40 : List Cond := u_ws RX4 TX4 0
theorem nmX4 : ∀ a, a < 0 → ∀ b, b < 0 → a ≠ b → (TX4 a).2.1 ≠ (TX4 b).2.1 := by decide +kernel
theorem tyX4_ok : ∀ k, k < 0 → parseFieldDescriptor (TX4 k).2.2.1 = some (tyX4 k) := by decide +kernel
abbrev cX4_eastOf : ByteArray := prog_6_method_2_code
def yX4_eastOf : MethodName := ⟨RX4, "eastOf", "(II)I"⟩
abbrev cX4_southOf : ByteArray := prog_6_method_3_code
def yX4_southOf : MethodName := ⟨RX4, "southOf", "(II)I"⟩
abbrev cX4_doorPlace : ByteArray := prog_6_method_4_code
def yX4_doorPlace : MethodName := ⟨RX4, "doorPlace", "(III)I"⟩
abbrev cX4_isCorner : ByteArray := prog_6_method_5_code
def yX4_isCorner : MethodName := ⟨RX4, "isCorner", "(II)Z"⟩
abbrev cX4_inFront : ByteArray := prog_6_method_6_code
def yX4_inFront : MethodName := ⟨RX4, "inFront", "(II)I"⟩
abbrev cX4_between : ByteArray := prog_6_method_7_code
def yX4_between : MethodName := ⟨RX4, "between", "(III)I"⟩
def RX5 : String := "YearSkins$Rows"
def TX5 : u_T := fun k => match k with
  | _ => ("", "", "", false)
def tyX5 : Nat → FieldType := fun k => match k with
  | _ => .int
abbrev wsX50 : List Cond := u_ws RX5 TX5 0
theorem nmX5 : ∀ a, a < 0 → ∀ b, b < 0 → a ≠ b → (TX5 a).2.1 ≠ (TX5 b).2.1 := by decide +kernel
theorem tyX5_ok : ∀ k, k < 0 → parseFieldDescriptor (TX5 k).2.2.1 = some (tyX5 k) := by decide +kernel
abbrev cX5_begin : ByteArray := prog_7_method_2_code
def yX5_begin : MethodName := ⟨RX5, "begin", "([II)V"⟩
abbrev cX5_advance : ByteArray := prog_7_method_3_code
def yX5_advance : MethodName := ⟨RX5, "advance", "([II)V"⟩
abbrev cX5_swap : ByteArray := prog_7_method_4_code
def yX5_swap : MethodName := ⟨RX5, "swap", "([III)V"⟩
def RX6 : String := "YearSkins$Site"
def TX6 : u_T := fun k => match k with
  | _ => ("", "", "", false)
def tyX6 : Nat → FieldType := fun k => match k with
  | _ => .int
abbrev wsX60 : List Cond := u_ws RX6 TX6 0
theorem nmX6 : ∀ a, a < 0 → ∀ b, b < 0 → a ≠ b → (TX6 a).2.1 ≠ (TX6 b).2.1 := by decide +kernel
theorem tyX6_ok : ∀ k, k < 0 → parseFieldDescriptor (TX6 k).2.2.1 = some (tyX6 k) := by decide +kernel
abbrev cX6_ownersOf : ByteArray := prog_8_method_2_code
def yX6_ownersOf : MethodName := ⟨RX6, "ownersOf", "(LYearSkins$Land;LYearSkins$State;II)I"⟩
abbrev cX6_isFree : ByteArray := prog_8_method_3_code
def yX6_isFree : MethodName := ⟨RX6, "isFree", "(LYearSkins$Land;LYearSkins$State;II)Z"⟩
abbrev cX6_isFit : ByteArray := prog_8_method_4_code
def yX6_isFit : MethodName := ⟨RX6, "isFit", "(LYearSkins$Land;LYearSkins$State;I)Z"⟩
abbrev cX6_isLeftTo : ByteArray := prog_8_method_5_code
def yX6_isLeftTo : MethodName := ⟨RX6, "isLeftTo", "(LYearSkins$Land;LYearSkins$State;III)Z"⟩
abbrev cX6_isFrontFree : ByteArray := prog_8_method_6_code
def yX6_isFrontFree : MethodName := ⟨RX6, "isFrontFree", "(LYearSkins$Land;LYearSkins$State;IIII)Z"⟩
abbrev cX6_lawDoor : ByteArray := prog_8_method_7_code
def yX6_lawDoor : MethodName := ⟨RX6, "lawDoor", "(LYearSkins$Land;LYearSkins$State;I)I"⟩
abbrev cX6_isShut : ByteArray := prog_8_method_8_code
def yX6_isShut : MethodName := ⟨RX6, "isShut", "(LYearSkins$Land;LYearSkins$State;I)Z"⟩
abbrev cX6_isMet : ByteArray := prog_8_method_9_code
def yX6_isMet : MethodName := ⟨RX6, "isMet", "(LYearSkins$Land;LYearSkins$State;II)Z"⟩
abbrev cX6_priceOf : ByteArray := prog_8_method_10_code
def yX6_priceOf : MethodName := ⟨RX6, "priceOf", "(LYearSkins$Land;LYearSkins$State;II)I"⟩
def RX7 : String := "YearSkins$State"
def TX7 : u_T := fun k => match k with
  | 0 => ("YearSkins$State", "year", "I", false)
  | 1 => ("YearSkins$State", "seed", "I", false)
  | 2 => ("YearSkins$State", "counts", "[I", true)
  | 3 => ("YearSkins$State", "families", "[I", true)
  | 4 => ("YearSkins$State", "golds", "[I", true)
  | 5 => ("YearSkins$State", "rooms", "[I", true)
  | _ => ("YearSkins$State", "parts", "[I", true)
def tyX7 : Nat → FieldType := fun k => match k with
  | 0 => .int
  | 1 => .int
  | 2 => .array .int
  | 3 => .array .int
  | 4 => .array .int
  | 5 => .array .int
  | _ => .array .int
abbrev wsX70 : List Cond := u_ws RX7 TX7 7
theorem nmX7 : ∀ a, a < 7 → ∀ b, b < 7 → a ≠ b → (TX7 a).2.1 ≠ (TX7 b).2.1 := by decide +kernel
theorem tyX7_ok : ∀ k, k < 7 → parseFieldDescriptor (TX7 k).2.2.1 = some (tyX7 k) := by decide +kernel
abbrev cX7_init : ByteArray := prog_9_method_1_code
def yX7_init : MethodName := ⟨RX7, "<init>", "()V"⟩
abbrev cX7_copyFrom : ByteArray := prog_9_method_2_code
def yX7_copyFrom : MethodName := ⟨RX7, "copyFrom", "(LYearSkins$State;)V"⟩
abbrev cX7_clear : ByteArray := prog_9_method_3_code
def yX7_clear : MethodName := ⟨RX7, "clear", "()V"⟩
abbrev cX7_partOf : ByteArray := prog_9_method_4_code
def yX7_partOf : MethodName := ⟨RX7, "partOf", "(III)I"⟩
abbrev cX7_setPart : ByteArray := prog_9_method_5_code
def yX7_setPart : MethodName := ⟨RX7, "setPart", "(IIII)V"⟩
abbrev cX7_addSkin : ByteArray := prog_9_method_6_code
def yX7_addSkin : MethodName := ⟨RX7, "addSkin", "(IIIIII)V"⟩
abbrev cX7_stands : ByteArray := prog_9_method_7_code
def yX7_stands : MethodName := ⟨RX7, "stands", "(II)Z"⟩
abbrev cX7_isOpen : ByteArray := prog_9_method_8_code
def yX7_isOpen : MethodName := ⟨RX7, "isOpen", "(II)Z"⟩
abbrev cX7_isCrowded : ByteArray := prog_9_method_9_code
def yX7_isCrowded : MethodName := ⟨RX7, "isCrowded", "(I)Z"⟩
abbrev cX7_inmost : ByteArray := prog_9_method_10_code
def yX7_inmost : MethodName := ⟨RX7, "inmost", "(I)I"⟩
abbrev cX7_fallen : ByteArray := prog_9_method_11_code
def yX7_fallen : MethodName := ⟨RX7, "fallen", "(I)I"⟩
abbrev cX7_skinsOfAll : ByteArray := prog_9_method_12_code
def yX7_skinsOfAll : MethodName := ⟨RX7, "skinsOfAll", "()I"⟩
abbrev cX7_doorOf : ByteArray := prog_9_method_13_code
def yX7_doorOf : MethodName := ⟨RX7, "doorOf", "(II)I"⟩
abbrev cX7_roundIn : ByteArray := prog_9_method_14_code
def yX7_roundIn : MethodName := ⟨RX7, "roundIn", "(II)I"⟩
abbrev cX7_wayTo : ByteArray := prog_9_method_15_code
def yX7_wayTo : MethodName := ⟨RX7, "wayTo", "(II)I"⟩
abbrev cX7_draw : ByteArray := prog_9_method_16_code
def yX7_draw : MethodName := ⟨RX7, "draw", "()I"⟩
def RX8 : String := "YearSkins$Tokens"
def TX8 : u_T := fun k => match k with
  | 0 => ("YearSkins$Tokens", "tape", "[I", false)
  | 1 => ("YearSkins$Tokens", "end", "I", false)
  | 2 => ("YearSkins$Tokens", "at", "I", false)
  | 3 => ("YearSkins$Tokens", "kind", "I", false)
  | 4 => ("YearSkins$Tokens", "start", "I", false)
  | 5 => ("YearSkins$Tokens", "last", "I", false)
  | 6 => ("YearSkins$Tokens", "value", "I", false)
  | _ => ("YearSkins$Tokens", "letters", "J", false)
def tyX8 : Nat → FieldType := fun k => match k with
  | 0 => .array .int
  | 1 => .int
  | 2 => .int
  | 3 => .int
  | 4 => .int
  | 5 => .int
  | 6 => .int
  | _ => .long
abbrev wsX80 : List Cond := u_ws RX8 TX8 8
theorem nmX8 : ∀ a, a < 8 → ∀ b, b < 8 → a ≠ b → (TX8 a).2.1 ≠ (TX8 b).2.1 := by decide +kernel
theorem tyX8_ok : ∀ k, k < 8 → parseFieldDescriptor (TX8 k).2.2.1 = some (tyX8 k) := by decide +kernel
abbrev cX8_init : ByteArray := prog_10_method_1_code
def yX8_init : MethodName := ⟨RX8, "<init>", "()V"⟩
abbrev cX8_begin : ByteArray := prog_10_method_2_code
def yX8_begin : MethodName := ⟨RX8, "begin", "([II)V"⟩
abbrev cX8_byteAt : ByteArray := prog_10_method_3_code
def yX8_byteAt : MethodName := ⟨RX8, "byteAt", "(I)I"⟩
abbrev cX8_isLetter : ByteArray := prog_10_method_4_code
def yX8_isLetter : MethodName := ⟨RX8, "isLetter", "(I)Z"⟩
abbrev cX8_isDigit : ByteArray := prog_10_method_5_code
def yX8_isDigit : MethodName := ⟨RX8, "isDigit", "(I)Z"⟩
abbrev cX8_advance : ByteArray := prog_10_method_6_code
def yX8_advance : MethodName := ⟨RX8, "advance", "()V"⟩
abbrev cX8_takeWord : ByteArray := prog_10_method_7_code
def yX8_takeWord : MethodName := ⟨RX8, "takeWord", "()V"⟩
abbrev cX8_takeWhole : ByteArray := prog_10_method_8_code
def yX8_takeWhole : MethodName := ⟨RX8, "takeWhole", "()V"⟩
abbrev cX8_isWord : ByteArray := prog_10_method_9_code
def yX8_isWord : MethodName := ⟨RX8, "isWord", "(Ljava/lang/String;)Z"⟩
def RX9 : String := "YearSkins$WallOrders"
def TX9 : u_T := fun k => match k with
  | 0 => ("YearSkins$WallOrders", "row", "[I", true)
  | 1 => ("YearSkins$WallOrders", "rowYears", "[I", true)
  | 2 => ("YearSkins$WallOrders", "count", "I", false)
  | 3 => ("YearSkins$WallOrders", "soon", "[I", true)
  | 4 => ("YearSkins$WallOrders", "late", "[I", true)
  | _ => ("YearSkins$WallOrders", "sureAhead", "[I", true)
def tyX9 : Nat → FieldType := fun k => match k with
  | 0 => .array .int
  | 1 => .array .int
  | 2 => .int
  | 3 => .array .int
  | 4 => .array .int
  | _ => .array .int
abbrev wsX90 : List Cond := u_ws RX9 TX9 6
theorem nmX9 : ∀ a, a < 6 → ∀ b, b < 6 → a ≠ b → (TX9 a).2.1 ≠ (TX9 b).2.1 := by decide +kernel
theorem tyX9_ok : ∀ k, k < 6 → parseFieldDescriptor (TX9 k).2.2.1 = some (tyX9 k) := by decide +kernel
abbrev cX9_init : ByteArray := prog_11_method_1_code
def yX9_init : MethodName := ⟨RX9, "<init>", "()V"⟩
abbrev cX9_lookAtAll : ByteArray := prog_11_method_2_code
def yX9_lookAtAll : MethodName := ⟨RX9, "lookAtAll", "(LYearSkins$Land;I)V"⟩
abbrev cX9_wallAt : ByteArray := prog_11_method_3_code
def yX9_wallAt : MethodName := ⟨RX9, "wallAt", "(LYearSkins$Land;III)I"⟩
abbrev cX9_canBe : ByteArray := prog_11_method_4_code
def yX9_canBe : MethodName := ⟨RX9, "canBe", "(LYearSkins$Land;I)Z"⟩
abbrev cX9_lastFor : ByteArray := prog_11_method_5_code
def yX9_lastFor : MethodName := ⟨RX9, "lastFor", "(LYearSkins$Land;II)I"⟩
abbrev cX9_noteRow : ByteArray := prog_11_method_6_code
def yX9_noteRow : MethodName := ⟨RX9, "noteRow", "(LYearSkins$Land;I)V"⟩
def RX10 : String := "YearSkins$Years"
def TX10 : u_T := fun k => match k with
  | 0 => ("YearSkins$Years", "row", "[I", true)
  | _ => ("YearSkins$Years", "best", "[I", true)
def tyX10 : Nat → FieldType := fun k => match k with
  | 0 => .array .int
  | _ => .array .int
abbrev wsX100 : List Cond := u_ws RX10 TX10 2
theorem nmX10 : ∀ a, a < 2 → ∀ b, b < 2 → a ≠ b → (TX10 a).2.1 ≠ (TX10 b).2.1 := by decide +kernel
theorem tyX10_ok : ∀ k, k < 2 → parseFieldDescriptor (TX10 k).2.2.1 = some (tyX10 k) := by decide +kernel
abbrev cX10_init : ByteArray := prog_12_method_1_code
def yX10_init : MethodName := ⟨RX10, "<init>", "()V"⟩
abbrev cX10_pass : ByteArray := prog_12_method_2_code
def yX10_pass : MethodName := ⟨RX10, "pass", "(LYearSkins$Land;LYearSkins$State;[I)V"⟩
abbrev cX10_liveOn : ByteArray := prog_12_method_3_code
def yX10_liveOn : MethodName := ⟨RX10, "liveOn", "(LYearSkins$Land;LYearSkins$State;I)V"⟩
abbrev cX10_rotAll : ByteArray := prog_12_method_4_code
def yX10_rotAll : MethodName := ⟨RX10, "rotAll", "(LYearSkins$Land;LYearSkins$State;I)V"⟩
abbrev cX10_burn : ByteArray := prog_12_method_5_code
def yX10_burn : MethodName := ⟨RX10, "burn", "(LYearSkins$Land;LYearSkins$State;I)V"⟩
abbrev cX10_grow : ByteArray := prog_12_method_6_code
def yX10_grow : MethodName := ⟨RX10, "grow", "(LYearSkins$Land;LYearSkins$State;I)V"⟩
abbrev cX10_mostSkins : ByteArray := prog_12_method_7_code
def yX10_mostSkins : MethodName := ⟨RX10, "mostSkins", "(LYearSkins$Land;LYearSkins$State;LYearSkins$State;I)I"⟩
def RX11 : String := "YearSkins"
def TX11 : u_T := fun k => match k with
  | 0 => ("YearSkins", "tape", "[I", true)
  | 1 => ("YearSkins", "fed", "I", false)
  | 2 => ("YearSkins", "told", "Z", false)
  | 3 => ("YearSkins", "ground", "LYearSkins$Land;", false)
  | 4 => ("YearSkins", "draftGround", "LYearSkins$Land;", false)
  | 5 => ("YearSkins", "now", "LYearSkins$State;", true)
  | 6 => ("YearSkins", "draft", "LYearSkins$State;", true)
  | 7 => ("YearSkins", "then", "LYearSkins$State;", true)
  | 8 => ("YearSkins", "reader", "LYearSkins$Reader;", true)
  | 9 => ("YearSkins", "calendar", "LYearSkins$Years;", true)
  | 10 => ("YearSkins", "burglar", "LYearSkins$Burglar;", true)
  | 11 => ("YearSkins", "wallOrders", "LYearSkins$WallOrders;", true)
  | 12 => ("YearSkins", "past", "LYearSkins$Past;", true)
  | 13 => ("YearSkins", "lastTrouble", "I", false)
  | 14 => ("YearSkins", "lastFault", "I", false)
  | _ => ("YearSkins", "faultPlace", "I", false)
def tyX11 : Nat → FieldType := fun k => match k with
  | 0 => .array .int
  | 1 => .int
  | 2 => .boolean
  | 3 => .object "YearSkins$Land"
  | 4 => .object "YearSkins$Land"
  | 5 => .object "YearSkins$State"
  | 6 => .object "YearSkins$State"
  | 7 => .object "YearSkins$State"
  | 8 => .object "YearSkins$Reader"
  | 9 => .object "YearSkins$Years"
  | 10 => .object "YearSkins$Burglar"
  | 11 => .object "YearSkins$WallOrders"
  | 12 => .object "YearSkins$Past"
  | 13 => .int
  | 14 => .int
  | _ => .int
abbrev wsX110 : List Cond := u_ws RX11 TX11 16
theorem nmX11 : ∀ a, a < 16 → ∀ b, b < 16 → a ≠ b → (TX11 a).2.1 ≠ (TX11 b).2.1 := by decide +kernel
theorem tyX11_ok : ∀ k, k < 16 → parseFieldDescriptor (TX11 k).2.2.1 = some (tyX11 k) := by decide +kernel
abbrev cX11_init : ByteArray := prog_1_method_1_code
def yX11_init : MethodName := ⟨RX11, "<init>", "()V"⟩
abbrev cX11_feed : ByteArray := prog_1_method_2_code
def yX11_feed : MethodName := ⟨RX11, "feed", "(IIIII)I"⟩
abbrev cX11_putNumber : ByteArray := prog_1_method_3_code
def yX11_putNumber : MethodName := ⟨RX11, "putNumber", "(I)V"⟩
abbrev cX11_land : ByteArray := prog_1_method_4_code
def yX11_land : MethodName := ⟨RX11, "land", "(I)I"⟩
abbrev cX11_fault : ByteArray := prog_1_method_5_code
def yX11_fault : MethodName := ⟨RX11, "fault", "()I"⟩
abbrev cX11_where : ByteArray := prog_1_method_6_code
def yX11_where : MethodName := ⟨RX11, "where", "()I"⟩
abbrev cX11_whose : ByteArray := prog_1_method_7_code
def yX11_whose : MethodName := ⟨RX11, "whose", "(II)I"⟩
abbrev cX11_shared : ByteArray := prog_1_method_8_code
def yX11_shared : MethodName := ⟨RX11, "shared", "()I"⟩
abbrev cX11_free : ByteArray := prog_1_method_9_code
def yX11_free : MethodName := ⟨RX11, "free", "()I"⟩
abbrev cX11_house : ByteArray := prog_1_method_10_code
def yX11_house : MethodName := ⟨RX11, "house", "(II)I"⟩
abbrev cX11_skin : ByteArray := prog_1_method_11_code
def yX11_skin : MethodName := ⟨RX11, "skin", "(III)I"⟩
abbrev cX11_warm : ByteArray := prog_1_method_12_code
def yX11_warm : MethodName := ⟨RX11, "warm", "(II)I"⟩
abbrev cX11_warmth : ByteArray := prog_1_method_13_code
def yX11_warmth : MethodName := ⟨RX11, "warmth", "(II)I"⟩
abbrev cX11_light : ByteArray := prog_1_method_14_code
def yX11_light : MethodName := ⟨RX11, "light", "(II)I"⟩
abbrev cX11_heir : ByteArray := prog_1_method_15_code
def yX11_heir : MethodName := ⟨RX11, "heir", "(II)I"⟩
abbrev cX11_fits : ByteArray := prog_1_method_16_code
def yX11_fits : MethodName := ⟨RX11, "fits", "(I)I"⟩
abbrev cX11_door : ByteArray := prog_1_method_17_code
def yX11_door : MethodName := ⟨RX11, "door", "(I)I"⟩
abbrev cX11_costs : ByteArray := prog_1_method_18_code
def yX11_costs : MethodName := ⟨RX11, "costs", "(II)I"⟩
abbrev cX11_way : ByteArray := prog_1_method_19_code
def yX11_way : MethodName := ⟨RX11, "way", "(II)I"⟩
abbrev cX11_through : ByteArray := prog_1_method_20_code
def yX11_through : MethodName := ⟨RX11, "through", "(II)I"⟩
abbrev cX11_breaks : ByteArray := prog_1_method_21_code
def yX11_breaks : MethodName := ⟨RX11, "breaks", "(II)I"⟩
abbrev cX11_round : ByteArray := prog_1_method_22_code
def yX11_round : MethodName := ⟨RX11, "round", "(II)I"⟩
abbrev cX11_in : ByteArray := prog_1_method_23_code
def yX11_in : MethodName := ⟨RX11, "in", "(III)I"⟩
abbrev cX11_goTo : ByteArray := prog_1_method_24_code
def yX11_goTo : MethodName := ⟨RX11, "goTo", "(I)V"⟩
abbrev cX11_skinsIn : ByteArray := prog_1_method_25_code
def yX11_skinsIn : MethodName := ⟨RX11, "skinsIn", "(I)I"⟩
abbrev cX11_meet : ByteArray := prog_1_method_26_code
def yX11_meet : MethodName := ⟨RX11, "meet", "(III)I"⟩
abbrev cX11_falls : ByteArray := prog_1_method_27_code
def yX11_falls : MethodName := ⟨RX11, "falls", "(III)I"⟩
abbrev cX11_room : ByteArray := prog_1_method_28_code
def yX11_room : MethodName := ⟨RX11, "room", "(I)I"⟩
abbrev cX11_first : ByteArray := prog_1_method_29_code
def yX11_first : MethodName := ⟨RX11, "first", "(I)I"⟩
abbrev cX11_firstAt : ByteArray := prog_1_method_30_code
def yX11_firstAt : MethodName := ⟨RX11, "firstAt", "(II)I"⟩
abbrev cX11_heads : ByteArray := prog_1_method_31_code
def yX11_heads : MethodName := ⟨RX11, "heads", "(II)I"⟩
abbrev cX11_takes : ByteArray := prog_1_method_32_code
def yX11_takes : MethodName := ⟨RX11, "takes", "(I)I"⟩
abbrev cX11_goldIn : ByteArray := prog_1_method_33_code
def yX11_goldIn : MethodName := ⟨RX11, "goldIn", "(II)I"⟩
abbrev cX11_worth : ByteArray := prog_1_method_34_code
def yX11_worth : MethodName := ⟨RX11, "worth", "(I)I"⟩
abbrev cX11_orders : ByteArray := prog_1_method_35_code
def yX11_orders : MethodName := ⟨RX11, "orders", "()I"⟩
abbrev cX11_order : ByteArray := prog_1_method_36_code
def yX11_order : MethodName := ⟨RX11, "order", "(II)I"⟩
abbrev cX11_soonest : ByteArray := prog_1_method_37_code
def yX11_soonest : MethodName := ⟨RX11, "soonest", "(I)I"⟩
abbrev cX11_latest : ByteArray := prog_1_method_38_code
def yX11_latest : MethodName := ⟨RX11, "latest", "(I)I"⟩
abbrev cX11_surely : ByteArray := prog_1_method_39_code
def yX11_surely : MethodName := ⟨RX11, "surely", "(II)I"⟩
abbrev cX11_years : ByteArray := prog_1_method_40_code
def yX11_years : MethodName := ⟨RX11, "years", "(I)I"⟩
abbrev cX11_build : ByteArray := prog_1_method_41_code
def yX11_build : MethodName := ⟨RX11, "build", "(IIIII)I"⟩
abbrev cX11_fill : ByteArray := prog_1_method_42_code
def yX11_fill : MethodName := ⟨RX11, "fill", "(II)Z"⟩
abbrev cX11_take : ByteArray := prog_1_method_43_code
def yX11_take : MethodName := ⟨RX11, "take", "(I)I"⟩
abbrev cX11_lock : ByteArray := prog_1_method_44_code
def yX11_lock : MethodName := ⟨RX11, "lock", "(III)Z"⟩
abbrev cX11_move : ByteArray := prog_1_method_45_code
def yX11_move : MethodName := ⟨RX11, "move", "(II)Z"⟩
abbrev cX11_give : ByteArray := prog_1_method_46_code
def yX11_give : MethodName := ⟨RX11, "give", "(III)Z"⟩
abbrev cX11_seed : ByteArray := prog_1_method_47_code
def yX11_seed : MethodName := ⟨RX11, "seed", "(I)Z"⟩
abbrev cX11_undo : ByteArray := prog_1_method_48_code
def yX11_undo : MethodName := ⟨RX11, "undo", "()Z"⟩
abbrev cX11_mark : ByteArray := prog_1_method_49_code
def yX11_mark : MethodName := ⟨RX11, "mark", "()I"⟩
abbrev cX11_back : ByteArray := prog_1_method_50_code
def yX11_back : MethodName := ⟨RX11, "back", "(I)Z"⟩
abbrev cX11_stone : ByteArray := prog_1_method_51_code
def yX11_stone : MethodName := ⟨RX11, "stone", "(II)I"⟩
abbrev cX11_led : ByteArray := prog_1_method_52_code
def yX11_led : MethodName := ⟨RX11, "led", "(I)I"⟩
abbrev cX11_size : ByteArray := prog_1_method_53_code
def yX11_size : MethodName := ⟨RX11, "size", "(I)I"⟩
abbrev cX11_sizeTold : ByteArray := prog_1_method_54_code
def yX11_sizeTold : MethodName := ⟨RX11, "sizeTold", "(I)I"⟩
abbrev cX11_sizeNow : ByteArray := prog_1_method_55_code
def yX11_sizeNow : MethodName := ⟨RX11, "sizeNow", "(I)I"⟩
abbrev cX11_trouble : ByteArray := prog_1_method_56_code
def yX11_trouble : MethodName := ⟨RX11, "trouble", "()I"⟩
abbrev cX11_answer : ByteArray := prog_1_method_57_code
def yX11_answer : MethodName := ⟨RX11, "answer", "(I)I"⟩
abbrev cX11_refuse : ByteArray := prog_1_method_58_code
def yX11_refuse : MethodName := ⟨RX11, "refuse", "(I)I"⟩
abbrev cX11_yes : ByteArray := prog_1_method_59_code
def yX11_yes : MethodName := ⟨RX11, "yes", "()Z"⟩
abbrev cX11_no : ByteArray := prog_1_method_60_code
def yX11_no : MethodName := ⟨RX11, "no", "(I)Z"⟩
abbrev cX11_isHouse : ByteArray := prog_1_method_61_code
def yX11_isHouse : MethodName := ⟨RX11, "isHouse", "(I)Z"⟩
abbrev cX11_isStone : ByteArray := prog_1_method_62_code
def yX11_isStone : MethodName := ⟨RX11, "isStone", "(I)Z"⟩
abbrev cX11_isHeir : ByteArray := prog_1_method_63_code
def yX11_isHeir : MethodName := ⟨RX11, "isHeir", "(I)Z"⟩
abbrev cX11_isWall : ByteArray := prog_1_method_64_code
def yX11_isWall : MethodName := ⟨RX11, "isWall", "(I)Z"⟩
abbrev cX11_isRoom : ByteArray := prog_1_method_65_code
def yX11_isRoom : MethodName := ⟨RX11, "isRoom", "(II)Z"⟩
abbrev cX11_isSkin : ByteArray := prog_1_method_66_code
def yX11_isSkin : MethodName := ⟨RX11, "isSkin", "(II)Z"⟩
abbrev cX11_isLivedIn : ByteArray := prog_1_method_67_code
def yX11_isLivedIn : MethodName := ⟨RX11, "isLivedIn", "(II)Z"⟩
def RX12 : String := "YearSkinsModel$Land"
def TX12 : u_T := fun k => match k with
  | 0 => ("YearSkinsModel$Land", "wide", "I", false)
  | 1 => ("YearSkinsModel$Land", "high", "I", false)
  | 2 => ("YearSkinsModel$Land", "year", "I", false)
  | 3 => ("YearSkinsModel$Land", "births", "I", false)
  | 4 => ("YearSkinsModel$Land", "fire", "I", false)
  | 5 => ("YearSkinsModel$Land", "earns", "I", false)
  | 6 => ("YearSkinsModel$Land", "waters", "I", false)
  | 7 => ("YearSkinsModel$Land", "stones", "I", false)
  | 8 => ("YearSkinsModel$Land", "houses", "I", false)
  | 9 => ("YearSkinsModel$Land", "heirs", "I", false)
  | 10 => ("YearSkinsModel$Land", "walls", "I", false)
  | 11 => ("YearSkinsModel$Land", "olders", "I", false)
  | 12 => ("YearSkinsModel$Land", "names", "I", false)
  | 13 => ("YearSkinsModel$Land", "far", "Z", false)
  | 14 => ("YearSkinsModel$Land", "share", "Z", false)
  | 15 => ("YearSkinsModel$Land", "water", "[Z", true)
  | 16 => ("YearSkinsModel$Land", "kind", "[I", true)
  | 17 => ("YearSkinsModel$Land", "costs", "[I", true)
  | 18 => ("YearSkinsModel$Land", "warm", "[I", true)
  | 19 => ("YearSkinsModel$Land", "rots", "[I", true)
  | 20 => ("YearSkinsModel$Land", "strong", "[I", true)
  | 21 => ("YearSkinsModel$Land", "core", "[I", true)
  | 22 => ("YearSkinsModel$Land", "stoneOf", "[I", true)
  | 23 => ("YearSkinsModel$Land", "heirHouse", "[I", true)
  | 24 => ("YearSkinsModel$Land", "older", "[I", true)
  | 25 => ("YearSkinsModel$Land", "coin", "[I", true)
  | 26 => ("YearSkinsModel$Land", "smell", "[I", true)
  | 27 => ("YearSkinsModel$Land", "name", "[J", true)
  | 28 => ("YearSkinsModel$Land", "nameSort", "[I", true)
  | 29 => ("YearSkinsModel$Land", "nameNumber", "[I", true)
  | _ => ("YearSkinsModel$Land", "first", "[I", true)
def tyX12 : Nat → FieldType := fun k => match k with
  | 0 => .int
  | 1 => .int
  | 2 => .int
  | 3 => .int
  | 4 => .int
  | 5 => .int
  | 6 => .int
  | 7 => .int
  | 8 => .int
  | 9 => .int
  | 10 => .int
  | 11 => .int
  | 12 => .int
  | 13 => .boolean
  | 14 => .boolean
  | 15 => .array .boolean
  | 16 => .array .int
  | 17 => .array .int
  | 18 => .array .int
  | 19 => .array .int
  | 20 => .array .int
  | 21 => .array .int
  | 22 => .array .int
  | 23 => .array .int
  | 24 => .array .int
  | 25 => .array .int
  | 26 => .array .int
  | 27 => .array .long
  | 28 => .array .int
  | 29 => .array .int
  | _ => .array .int
abbrev wsX120 : List Cond := u_ws RX12 TX12 31
theorem nmX12 : ∀ a, a < 31 → ∀ b, b < 31 → a ≠ b → (TX12 a).2.1 ≠ (TX12 b).2.1 := by decide +kernel
theorem tyX12_ok : ∀ k, k < 31 → parseFieldDescriptor (TX12 k).2.2.1 = some (tyX12 k) := by decide +kernel
abbrev cX12_init : ByteArray := prog_15_method_1_code
def yX12_init : MethodName := ⟨RX12, "<init>", "()V"⟩
abbrev cX12_find : ByteArray := prog_15_method_2_code
def yX12_find : MethodName := ⟨RX12, "find", "(J)I"⟩
abbrev cX12_cells : ByteArray := prog_15_method_3_code
def yX12_cells : MethodName := ⟨RX12, "cells", "()I"⟩
abbrev cX12_x : ByteArray := prog_15_method_4_code
def yX12_x : MethodName := ⟨RX12, "x", "(I)I"⟩
abbrev cX12_y : ByteArray := prog_15_method_5_code
def yX12_y : MethodName := ⟨RX12, "y", "(I)I"⟩
abbrev cX12_far : ByteArray := prog_15_method_6_code
def yX12_far : MethodName := ⟨RX12, "far", "(III)I"⟩
abbrev cX12_isLand : ByteArray := prog_15_method_7_code
def yX12_isLand : MethodName := ⟨RX12, "isLand", "(II)Z"⟩
def RX13 : String := "YearSkinsModel"
def TX13 : u_T := fun k => match k with
  | 0 => ("YearSkinsModel", "thrown", "I", false)
  | 1 => ("YearSkinsModel", "trouble", "I", false)
  | 2 => ("YearSkinsModel", "where", "I", false)
  | 3 => ("YearSkinsModel", "land", "LYearSkinsModel$Land;", false)
  | 4 => ("YearSkinsModel", "read", "LYearSkinsModel$Land;", false)
  | 5 => ("YearSkinsModel", "tape", "[B", true)
  | 6 => ("YearSkinsModel", "taped", "I", false)
  | 7 => ("YearSkinsModel", "size", "I", false)
  | 8 => ("YearSkinsModel", "spot", "I", false)
  | 9 => ("YearSkinsModel", "sort", "I", false)
  | 10 => ("YearSkinsModel", "place", "I", false)
  | 11 => ("YearSkinsModel", "sign", "I", false)
  | 12 => ("YearSkinsModel", "number", "I", false)
  | 13 => ("YearSkinsModel", "fault", "I", false)
  | 14 => ("YearSkinsModel", "wrongAt", "I", false)
  | 15 => ("YearSkinsModel", "word", "J", false)
  | 16 => ("YearSkinsModel", "v", "[I", true)
  | 17 => ("YearSkinsModel", "w", "[I", true)
  | 18 => ("YearSkinsModel", "past", "[I", true)
  | 19 => ("YearSkinsModel", "kept", "[I", true)
  | 20 => ("YearSkinsModel", "acts", "I", false)
  | 21 => ("YearSkinsModel", "marks", "I", false)
  | 22 => ("YearSkinsModel", "newSide", "I", false)
  | 23 => ("YearSkinsModel", "newPlace", "I", false)
  | 24 => ("YearSkinsModel", "order", "[I", true)
  | 25 => ("YearSkinsModel", "bestOrder", "[I", true)
  | 26 => ("YearSkinsModel", "cost", "[I", true)
  | 27 => ("YearSkinsModel", "outer", "[I", true)
  | 28 => ("YearSkinsModel", "firstMost", "I", false)
  | 29 => ("YearSkinsModel", "row", "[I", true)
  | 30 => ("YearSkinsModel", "soonest", "[I", true)
  | 31 => ("YearSkinsModel", "latest", "[I", true)
  | 32 => ("YearSkinsModel", "ahead", "[I", true)
  | 33 => ("YearSkinsModel", "soonYear", "[I", true)
  | 34 => ("YearSkinsModel", "lateYear", "[I", true)
  | 35 => ("YearSkinsModel", "wanted", "[I", true)
  | _ => ("YearSkinsModel", "many", "I", false)
def tyX13 : Nat → FieldType := fun k => match k with
  | 0 => .int
  | 1 => .int
  | 2 => .int
  | 3 => .object "YearSkinsModel$Land"
  | 4 => .object "YearSkinsModel$Land"
  | 5 => .array .byte
  | 6 => .int
  | 7 => .int
  | 8 => .int
  | 9 => .int
  | 10 => .int
  | 11 => .int
  | 12 => .int
  | 13 => .int
  | 14 => .int
  | 15 => .long
  | 16 => .array .int
  | 17 => .array .int
  | 18 => .array .int
  | 19 => .array .int
  | 20 => .int
  | 21 => .int
  | 22 => .int
  | 23 => .int
  | 24 => .array .int
  | 25 => .array .int
  | 26 => .array .int
  | 27 => .array .int
  | 28 => .int
  | 29 => .array .int
  | 30 => .array .int
  | 31 => .array .int
  | 32 => .array .int
  | 33 => .array .int
  | 34 => .array .int
  | 35 => .array .int
  | _ => .int
abbrev wsX130 : List Cond := u_ws RX13 TX13 37
theorem nmX13 : ∀ a, a < 37 → ∀ b, b < 37 → a ≠ b → (TX13 a).2.1 ≠ (TX13 b).2.1 := by decide +kernel
theorem tyX13_ok : ∀ k, k < 37 → parseFieldDescriptor (TX13 k).2.2.1 = some (tyX13 k) := by decide +kernel
abbrev cX13_init : ByteArray := prog_14_method_1_code
def yX13_init : MethodName := ⟨RX13, "<init>", "()V"⟩
abbrev cX13_thrown : ByteArray := prog_14_method_2_code
def yX13_thrown : MethodName := ⟨RX13, "thrown", "()I"⟩
abbrev cX13_refused : ByteArray := prog_14_method_3_code
def yX13_refused : MethodName := ⟨RX13, "refused", "(I)I"⟩
abbrev cX13_denied : ByteArray := prog_14_method_4_code
def yX13_denied : MethodName := ⟨RX13, "denied", "(I)Z"⟩
abbrev cX13_good : ByteArray := prog_14_method_5_code
def yX13_good : MethodName := ⟨RX13, "good", "(I)I"⟩
abbrev cX13_granted : ByteArray := prog_14_method_6_code
def yX13_granted : MethodName := ⟨RX13, "granted", "()Z"⟩
abbrev cX13_within : ByteArray := prog_14_method_7_code
def yX13_within : MethodName := ⟨RX13, "within", "(III)Z"⟩
abbrev cX13_bit : ByteArray := prog_14_method_8_code
def yX13_bit : MethodName := ⟨RX13, "bit", "(II)Z"⟩
abbrev cX13_bits : ByteArray := prog_14_method_9_code
def yX13_bits : MethodName := ⟨RX13, "bits", "(I)I"⟩
abbrev cX13_byteAt : ByteArray := prog_14_method_10_code
def yX13_byteAt : MethodName := ⟨RX13, "byteAt", "(I)I"⟩
abbrev cX13_isLetter : ByteArray := prog_14_method_11_code
def yX13_isLetter : MethodName := ⟨RX13, "isLetter", "(I)Z"⟩
abbrev cX13_isDigit : ByteArray := prog_14_method_12_code
def yX13_isDigit : MethodName := ⟨RX13, "isDigit", "(I)Z"⟩
abbrev cX13_wordOf : ByteArray := prog_14_method_13_code
def yX13_wordOf : MethodName := ⟨RX13, "wordOf", "(Ljava/lang/String;)J"⟩
abbrev cX13_goesOn : ByteArray := prog_14_method_14_code
def yX13_goesOn : MethodName := ⟨RX13, "goesOn", "()V"⟩
abbrev cX13_flaw : ByteArray := prog_14_method_15_code
def yX13_flaw : MethodName := ⟨RX13, "flaw", "(I)V"⟩
abbrev cX13_isWord : ByteArray := prog_14_method_16_code
def yX13_isWord : MethodName := ⟨RX13, "isWord", "(Ljava/lang/String;)Z"⟩
abbrev cX13_eatsSign : ByteArray := prog_14_method_17_code
def yX13_eatsSign : MethodName := ⟨RX13, "eatsSign", "(I)Z"⟩
abbrev cX13_needs : ByteArray := prog_14_method_18_code
def yX13_needs : MethodName := ⟨RX13, "needs", "(Ljava/lang/String;)V"⟩
abbrev cX13_needsSign : ByteArray := prog_14_method_19_code
def yX13_needsSign : MethodName := ⟨RX13, "needsSign", "(I)V"⟩
abbrev cX13_bounded : ByteArray := prog_14_method_20_code
def yX13_bounded : MethodName := ⟨RX13, "bounded", "(II)I"⟩
abbrev cX13_readWhole : ByteArray := prog_14_method_21_code
def yX13_readWhole : MethodName := ⟨RX13, "readWhole", "(II)I"⟩
abbrev cX13_readPart : ByteArray := prog_14_method_22_code
def yX13_readPart : MethodName := ⟨RX13, "readPart", "(Ljava/lang/String;II)I"⟩
abbrev cX13_knownCell : ByteArray := prog_14_method_23_code
def yX13_knownCell : MethodName := ⟨RX13, "knownCell", "()I"⟩
abbrev cX13_isName : ByteArray := prog_14_method_24_code
def yX13_isName : MethodName := ⟨RX13, "isName", "()Z"⟩
abbrev cX13_begins : ByteArray := prog_14_method_25_code
def yX13_begins : MethodName := ⟨RX13, "begins", "(II)V"⟩
abbrev cX13_readFresh : ByteArray := prog_14_method_26_code
def yX13_readFresh : MethodName := ⟨RX13, "readFresh", "()J"⟩
abbrev cX13_names : ByteArray := prog_14_method_27_code
def yX13_names : MethodName := ⟨RX13, "names", "(JII)V"⟩
abbrev cX13_known : ByteArray := prog_14_method_28_code
def yX13_known : MethodName := ⟨RX13, "known", "(I)I"⟩
abbrev cX13_readKnown : ByteArray := prog_14_method_29_code
def yX13_readKnown : MethodName := ⟨RX13, "readKnown", "(I)I"⟩
abbrev cX13_readAll : ByteArray := prog_14_method_30_code
def yX13_readAll : MethodName := ⟨RX13, "readAll", "()V"⟩
abbrev cX13_readLine : ByteArray := prog_14_method_31_code
def yX13_readLine : MethodName := ⟨RX13, "readLine", "()V"⟩
abbrev cX13_readLand : ByteArray := prog_14_method_32_code
def yX13_readLand : MethodName := ⟨RX13, "readLand", "()V"⟩
abbrev cX13_readYears : ByteArray := prog_14_method_33_code
def yX13_readYears : MethodName := ⟨RX13, "readYears", "()V"⟩
abbrev cX13_readWater : ByteArray := prog_14_method_34_code
def yX13_readWater : MethodName := ⟨RX13, "readWater", "()V"⟩
abbrev cX13_readStone : ByteArray := prog_14_method_35_code
def yX13_readStone : MethodName := ⟨RX13, "readStone", "()V"⟩
abbrev cX13_readHouse : ByteArray := prog_14_method_36_code
def yX13_readHouse : MethodName := ⟨RX13, "readHouse", "()V"⟩
abbrev cX13_readSide : ByteArray := prog_14_method_37_code
def yX13_readSide : MethodName := ⟨RX13, "readSide", "()I"⟩
abbrev cX13_readSkin : ByteArray := prog_14_method_38_code
def yX13_readSkin : MethodName := ⟨RX13, "readSkin", "()V"⟩
abbrev cX13_readHeir : ByteArray := prog_14_method_39_code
def yX13_readHeir : MethodName := ⟨RX13, "readHeir", "()V"⟩
abbrev cX13_readWall : ByteArray := prog_14_method_40_code
def yX13_readWall : MethodName := ⟨RX13, "readWall", "()V"⟩
abbrev cX13_readOlder : ByteArray := prog_14_method_41_code
def yX13_readOlder : MethodName := ⟨RX13, "readOlder", "()V"⟩
abbrev cX13_readSign : ByteArray := prog_14_method_42_code
def yX13_readSign : MethodName := ⟨RX13, "readSign", "(Z)V"⟩
abbrev cX13_feed : ByteArray := prog_14_method_43_code
def yX13_feed : MethodName := ⟨RX13, "feed", "(IIIII)I"⟩
abbrev cX13_land : ByteArray := prog_14_method_44_code
def yX13_land : MethodName := ⟨RX13, "land", "(I)I"⟩
abbrev cX13_fault : ByteArray := prog_14_method_45_code
def yX13_fault : MethodName := ⟨RX13, "fault", "()I"⟩
abbrev cX13_where : ByteArray := prog_14_method_46_code
def yX13_where : MethodName := ⟨RX13, "where", "()I"⟩
abbrev cX13_part : ByteArray := prog_14_method_47_code
def yX13_part : MethodName := ⟨RX13, "part", "(III)I"⟩
abbrev cX13_adds : ByteArray := prog_14_method_48_code
def yX13_adds : MethodName := ⟨RX13, "adds", "([IIIIIII)V"⟩
abbrev cX13_ownersOf : ByteArray := prog_14_method_49_code
def yX13_ownersOf : MethodName := ⟨RX13, "ownersOf", "(LYearSkinsModel$Land;[III)I"⟩
abbrev cX13_fitsIn : ByteArray := prog_14_method_50_code
def yX13_fitsIn : MethodName := ⟨RX13, "fitsIn", "(LYearSkinsModel$Land;[II)Z"⟩
abbrev cX13_doorX : ByteArray := prog_14_method_51_code
def yX13_doorX : MethodName := ⟨RX13, "doorX", "(III)I"⟩
abbrev cX13_doorY : ByteArray := prog_14_method_52_code
def yX13_doorY : MethodName := ⟨RX13, "doorY", "(III)I"⟩
abbrev cX13_placeOf : ByteArray := prog_14_method_53_code
def yX13_placeOf : MethodName := ⟨RX13, "placeOf", "(III)I"⟩
abbrev cX13_outX : ByteArray := prog_14_method_54_code
def yX13_outX : MethodName := ⟨RX13, "outX", "(I)I"⟩
abbrev cX13_outY : ByteArray := prog_14_method_55_code
def yX13_outY : MethodName := ⟨RX13, "outY", "(I)I"⟩
abbrev cX13_doorPlace : ByteArray := prog_14_method_56_code
def yX13_doorPlace : MethodName := ⟨RX13, "doorPlace", "(III)I"⟩
abbrev cX13_frontPlace : ByteArray := prog_14_method_57_code
def yX13_frontPlace : MethodName := ⟨RX13, "frontPlace", "(III)I"⟩
abbrev cX13_roundOf : ByteArray := prog_14_method_58_code
def yX13_roundOf : MethodName := ⟨RX13, "roundOf", "(III)I"⟩
abbrev cX13_roundIn : ByteArray := prog_14_method_59_code
def yX13_roundIn : MethodName := ⟨RX13, "roundIn", "([III)I"⟩
abbrev cX13_plainWay : ByteArray := prog_14_method_60_code
def yX13_plainWay : MethodName := ⟨RX13, "plainWay", "([III)I"⟩
abbrev cX13_wayTo : ByteArray := prog_14_method_61_code
def yX13_wayTo : MethodName := ⟨RX13, "wayTo", "([III)I"⟩
abbrev cX13_isFree : ByteArray := prog_14_method_62_code
def yX13_isFree : MethodName := ⟨RX13, "isFree", "(LYearSkinsModel$Land;[IIIII)Z"⟩
abbrev cX13_isShut : ByteArray := prog_14_method_63_code
def yX13_isShut : MethodName := ⟨RX13, "isShut", "([II)Z"⟩
abbrev cX13_findsDoor : ByteArray := prog_14_method_64_code
def yX13_findsDoor : MethodName := ⟨RX13, "findsDoor", "([II)Z"⟩
abbrev cX13_costOf : ByteArray := prog_14_method_65_code
def yX13_costOf : MethodName := ⟨RX13, "costOf", "([III)I"⟩
abbrev cX13_drawn : ByteArray := prog_14_method_66_code
def yX13_drawn : MethodName := ⟨RX13, "drawn", "([I)I"⟩
abbrev cX13_least : ByteArray := prog_14_method_67_code
def yX13_least : MethodName := ⟨RX13, "least", "(II)I"⟩
abbrev cX13_yearOf : ByteArray := prog_14_method_68_code
def yX13_yearOf : MethodName := ⟨RX13, "yearOf", "([II)V"⟩
abbrev cX13_rots : ByteArray := prog_14_method_69_code
def yX13_rots : MethodName := ⟨RX13, "rots", "([III)V"⟩
abbrev cX13_byNumbers : ByteArray := prog_14_method_70_code
def yX13_byNumbers : MethodName := ⟨RX13, "byNumbers", "()V"⟩
abbrev cX13_goesBy : ByteArray := prog_14_method_71_code
def yX13_goesBy : MethodName := ⟨RX13, "goesBy", "([I)V"⟩
abbrev cX13_copies : ByteArray := prog_14_method_72_code
def yX13_copies : MethodName := ⟨RX13, "copies", "()V"⟩
abbrev cX13_inYears : ByteArray := prog_14_method_73_code
def yX13_inYears : MethodName := ⟨RX13, "inYears", "(I)V"⟩
abbrev cX13_allSkins : ByteArray := prog_14_method_74_code
def yX13_allSkins : MethodName := ⟨RX13, "allSkins", "([I)I"⟩
abbrev cX13_isHouse : ByteArray := prog_14_method_75_code
def yX13_isHouse : MethodName := ⟨RX13, "isHouse", "(I)Z"⟩
abbrev cX13_isSkin : ByteArray := prog_14_method_76_code
def yX13_isSkin : MethodName := ⟨RX13, "isSkin", "(II)Z"⟩
abbrev cX13_isStone : ByteArray := prog_14_method_77_code
def yX13_isStone : MethodName := ⟨RX13, "isStone", "(I)Z"⟩
abbrev cX13_isHeir : ByteArray := prog_14_method_78_code
def yX13_isHeir : MethodName := ⟨RX13, "isHeir", "(I)Z"⟩
abbrev cX13_isWall : ByteArray := prog_14_method_79_code
def yX13_isWall : MethodName := ⟨RX13, "isWall", "(I)Z"⟩
abbrev cX13_isCell : ByteArray := prog_14_method_80_code
def yX13_isCell : MethodName := ⟨RX13, "isCell", "(II)Z"⟩
abbrev cX13_whose : ByteArray := prog_14_method_81_code
def yX13_whose : MethodName := ⟨RX13, "whose", "(II)I"⟩
abbrev cX13_owned : ByteArray := prog_14_method_82_code
def yX13_owned : MethodName := ⟨RX13, "owned", "(IIZ)I"⟩
abbrev cX13_shared : ByteArray := prog_14_method_83_code
def yX13_shared : MethodName := ⟨RX13, "shared", "()I"⟩
abbrev cX13_free : ByteArray := prog_14_method_84_code
def yX13_free : MethodName := ⟨RX13, "free", "()I"⟩
abbrev cX13_house : ByteArray := prog_14_method_85_code
def yX13_house : MethodName := ⟨RX13, "house", "(II)I"⟩
abbrev cX13_skin : ByteArray := prog_14_method_86_code
def yX13_skin : MethodName := ⟨RX13, "skin", "(III)I"⟩
abbrev cX13_isDepth : ByteArray := prog_14_method_87_code
def yX13_isDepth : MethodName := ⟨RX13, "isDepth", "(II)Z"⟩
abbrev cX13_warmth : ByteArray := prog_14_method_88_code
def yX13_warmth : MethodName := ⟨RX13, "warmth", "(II)I"⟩
abbrev cX13_warm : ByteArray := prog_14_method_89_code
def yX13_warm : MethodName := ⟨RX13, "warm", "(II)I"⟩
abbrev cX13_light : ByteArray := prog_14_method_90_code
def yX13_light : MethodName := ⟨RX13, "light", "(II)I"⟩
abbrev cX13_heir : ByteArray := prog_14_method_91_code
def yX13_heir : MethodName := ⟨RX13, "heir", "(II)I"⟩
abbrev cX13_fits : ByteArray := prog_14_method_92_code
def yX13_fits : MethodName := ⟨RX13, "fits", "(I)I"⟩
abbrev cX13_door : ByteArray := prog_14_method_93_code
def yX13_door : MethodName := ⟨RX13, "door", "(I)I"⟩
abbrev cX13_costs : ByteArray := prog_14_method_94_code
def yX13_costs : MethodName := ⟨RX13, "costs", "(II)I"⟩
abbrev cX13_way : ByteArray := prog_14_method_95_code
def yX13_way : MethodName := ⟨RX13, "way", "(II)I"⟩
abbrev cX13_entry : ByteArray := prog_14_method_96_code
def yX13_entry : MethodName := ⟨RX13, "entry", "(IIZ)I"⟩
abbrev cX13_throughTo : ByteArray := prog_14_method_97_code
def yX13_throughTo : MethodName := ⟨RX13, "throughTo", "(II)I"⟩
abbrev cX13_inFront : ByteArray := prog_14_method_98_code
def yX13_inFront : MethodName := ⟨RX13, "inFront", "(II)I"⟩
abbrev cX13_through : ByteArray := prog_14_method_99_code
def yX13_through : MethodName := ⟨RX13, "through", "(II)I"⟩
abbrev cX13_breaks : ByteArray := prog_14_method_100_code
def yX13_breaks : MethodName := ⟨RX13, "breaks", "(II)I"⟩
abbrev cX13_round : ByteArray := prog_14_method_101_code
def yX13_round : MethodName := ⟨RX13, "round", "(II)I"⟩
abbrev cX13_refusesIn : ByteArray := prog_14_method_102_code
def yX13_refusesIn : MethodName := ⟨RX13, "refusesIn", "(ZII)I"⟩
abbrev cX13_in : ByteArray := prog_14_method_103_code
def yX13_in : MethodName := ⟨RX13, "in", "(III)I"⟩
abbrev cX13_skinsIn : ByteArray := prog_14_method_104_code
def yX13_skinsIn : MethodName := ⟨RX13, "skinsIn", "(I)I"⟩
abbrev cX13_doMeet : ByteArray := prog_14_method_105_code
def yX13_doMeet : MethodName := ⟨RX13, "doMeet", "([III)Z"⟩
abbrev cX13_meet : ByteArray := prog_14_method_106_code
def yX13_meet : MethodName := ⟨RX13, "meet", "(III)I"⟩
abbrev cX13_falls : ByteArray := prog_14_method_107_code
def yX13_falls : MethodName := ⟨RX13, "falls", "(III)I"⟩
abbrev cX13_room : ByteArray := prog_14_method_108_code
def yX13_room : MethodName := ⟨RX13, "room", "(I)I"⟩
abbrev cX13_findsFirst : ByteArray := prog_14_method_109_code
def yX13_findsFirst : MethodName := ⟨RX13, "findsFirst", "(I)V"⟩
abbrev cX13_turns : ByteArray := prog_14_method_110_code
def yX13_turns : MethodName := ⟨RX13, "turns", "([II)Z"⟩
abbrev cX13_swaps : ByteArray := prog_14_method_111_code
def yX13_swaps : MethodName := ⟨RX13, "swaps", "([III)V"⟩
abbrev cX13_first : ByteArray := prog_14_method_112_code
def yX13_first : MethodName := ⟨RX13, "first", "(I)I"⟩
abbrev cX13_firstAt : ByteArray := prog_14_method_113_code
def yX13_firstAt : MethodName := ⟨RX13, "firstAt", "(II)I"⟩
abbrev cX13_heads : ByteArray := prog_14_method_114_code
def yX13_heads : MethodName := ⟨RX13, "heads", "(II)I"⟩
abbrev cX13_inmost : ByteArray := prog_14_method_115_code
def yX13_inmost : MethodName := ⟨RX13, "inmost", "(I)I"⟩
abbrev cX13_goldOf : ByteArray := prog_14_method_116_code
def yX13_goldOf : MethodName := ⟨RX13, "goldOf", "(II)I"⟩
abbrev cX13_isLivedIn : ByteArray := prog_14_method_117_code
def yX13_isLivedIn : MethodName := ⟨RX13, "isLivedIn", "(II)Z"⟩
abbrev cX13_takes : ByteArray := prog_14_method_118_code
def yX13_takes : MethodName := ⟨RX13, "takes", "(I)I"⟩
abbrev cX13_worth : ByteArray := prog_14_method_119_code
def yX13_worth : MethodName := ⟨RX13, "worth", "(I)I"⟩
abbrev cX13_canBe : ByteArray := prog_14_method_120_code
def yX13_canBe : MethodName := ⟨RX13, "canBe", "()Z"⟩
abbrev cX13_before : ByteArray := prog_14_method_121_code
def yX13_before : MethodName := ⟨RX13, "before", "(I)I"⟩
abbrev cX13_findsOrders : ByteArray := prog_14_method_122_code
def yX13_findsOrders : MethodName := ⟨RX13, "findsOrders", "(I)V"⟩
abbrev cX13_orders : ByteArray := prog_14_method_123_code
def yX13_orders : MethodName := ⟨RX13, "orders", "()I"⟩
abbrev cX13_order : ByteArray := prog_14_method_124_code
def yX13_order : MethodName := ⟨RX13, "order", "(II)I"⟩
abbrev cX13_soonest : ByteArray := prog_14_method_125_code
def yX13_soonest : MethodName := ⟨RX13, "soonest", "(I)I"⟩
abbrev cX13_latest : ByteArray := prog_14_method_126_code
def yX13_latest : MethodName := ⟨RX13, "latest", "(I)I"⟩
abbrev cX13_surely : ByteArray := prog_14_method_127_code
def yX13_surely : MethodName := ⟨RX13, "surely", "(II)I"⟩
abbrev cX13_keeps : ByteArray := prog_14_method_128_code
def yX13_keeps : MethodName := ⟨RX13, "keeps", "()V"⟩
abbrev cX13_years : ByteArray := prog_14_method_129_code
def yX13_years : MethodName := ⟨RX13, "years", "(I)I"⟩
abbrev cX13_build : ByteArray := prog_14_method_130_code
def yX13_build : MethodName := ⟨RX13, "build", "(IIIII)I"⟩
abbrev cX13_fill : ByteArray := prog_14_method_131_code
def yX13_fill : MethodName := ⟨RX13, "fill", "(II)Z"⟩
abbrev cX13_take : ByteArray := prog_14_method_132_code
def yX13_take : MethodName := ⟨RX13, "take", "(I)I"⟩
abbrev cX13_lock : ByteArray := prog_14_method_133_code
def yX13_lock : MethodName := ⟨RX13, "lock", "(III)Z"⟩
abbrev cX13_move : ByteArray := prog_14_method_134_code
def yX13_move : MethodName := ⟨RX13, "move", "(II)Z"⟩
abbrev cX13_give : ByteArray := prog_14_method_135_code
def yX13_give : MethodName := ⟨RX13, "give", "(III)Z"⟩
abbrev cX13_seed : ByteArray := prog_14_method_136_code
def yX13_seed : MethodName := ⟨RX13, "seed", "(I)Z"⟩
abbrev cX13_undo : ByteArray := prog_14_method_137_code
def yX13_undo : MethodName := ⟨RX13, "undo", "()Z"⟩
abbrev cX13_mark : ByteArray := prog_14_method_138_code
def yX13_mark : MethodName := ⟨RX13, "mark", "()I"⟩
abbrev cX13_back : ByteArray := prog_14_method_139_code
def yX13_back : MethodName := ⟨RX13, "back", "(I)Z"⟩
abbrev cX13_stone : ByteArray := prog_14_method_140_code
def yX13_stone : MethodName := ⟨RX13, "stone", "(II)I"⟩
abbrev cX13_led : ByteArray := prog_14_method_141_code
def yX13_led : MethodName := ⟨RX13, "led", "(I)I"⟩
abbrev cX13_size : ByteArray := prog_14_method_142_code
def yX13_size : MethodName := ⟨RX13, "size", "(I)I"⟩
abbrev cX13_trouble : ByteArray := prog_14_method_143_code
def yX13_trouble : MethodName := ⟨RX13, "trouble", "()I"⟩
def RJx145de : String := "java/io/Serializable"
def TJx145de : u_T := fun k => match k with
  | _ => ("", "", "", false)
def tyJx145de : Nat → FieldType := fun k => match k with
  | _ => .int
abbrev wsJx145de0 : List Cond := u_ws RJx145de TJx145de 0
theorem nmJx145de : ∀ a, a < 0 → ∀ b, b < 0 → a ≠ b → (TJx145de a).2.1 ≠ (TJx145de b).2.1 := by decide +kernel
theorem tyJx145de_ok : ∀ k, k < 0 → parseFieldDescriptor (TJx145de k).2.2.1 = some (tyJx145de k) := by decide +kernel
def RJx9f9b0 : String := "java/lang/CharSequence"
def TJx9f9b0 : u_T := fun k => match k with
  | _ => ("", "", "", false)
def tyJx9f9b0 : Nat → FieldType := fun k => match k with
  | _ => .int
abbrev wsJx9f9b00 : List Cond := u_ws RJx9f9b0 TJx9f9b0 0
theorem nmJx9f9b0 : ∀ a, a < 0 → ∀ b, b < 0 → a ≠ b → (TJx9f9b0 a).2.1 ≠ (TJx9f9b0 b).2.1 := by decide +kernel
theorem tyJx9f9b0_ok : ∀ k, k < 0 → parseFieldDescriptor (TJx9f9b0 k).2.2.1 = some (tyJx9f9b0 k) := by decide +kernel
def RJxb160c : String := "java/lang/Comparable"
def TJxb160c : u_T := fun k => match k with
  | _ => ("", "", "", false)
def tyJxb160c : Nat → FieldType := fun k => match k with
  | _ => .int
abbrev wsJxb160c0 : List Cond := u_ws RJxb160c TJxb160c 0
theorem nmJxb160c : ∀ a, a < 0 → ∀ b, b < 0 → a ≠ b → (TJxb160c a).2.1 ≠ (TJxb160c b).2.1 := by decide +kernel
theorem tyJxb160c_ok : ∀ k, k < 0 → parseFieldDescriptor (TJxb160c k).2.2.1 = some (tyJxb160c k) := by decide +kernel
def RJ6 : String := "java/lang/Integer"
def TJ6 : u_T := fun k => match k with
  | _ => ("", "", "", false)
def tyJ6 : Nat → FieldType := fun k => match k with
  | _ => .int
abbrev wsJ60 : List Cond := u_ws RJ6 TJ6 0
theorem nmJ6 : ∀ a, a < 0 → ∀ b, b < 0 → a ≠ b → (TJ6 a).2.1 ≠ (TJ6 b).2.1 := by decide +kernel
theorem tyJ6_ok : ∀ k, k < 0 → parseFieldDescriptor (TJ6 k).2.2.1 = some (tyJ6 k) := by decide +kernel
abbrev cJ6_bitCount_0f7a4 : ByteArray := prog_20_method_49_code
def yJ6_bitCount_0f7a4 : MethodName := ⟨RJ6, "bitCount", "(I)I"⟩
def RJ9 : String := "java/lang/Math"
def TJ9 : u_T := fun k => match k with
  | _ => ("", "", "", false)
def tyJ9 : Nat → FieldType := fun k => match k with
  | _ => .int
abbrev wsJ90 : List Cond := u_ws RJ9 TJ9 0
theorem nmJ9 : ∀ a, a < 0 → ∀ b, b < 0 → a ≠ b → (TJ9 a).2.1 ≠ (TJ9 b).2.1 := by decide +kernel
theorem tyJ9_ok : ∀ k, k < 0 → parseFieldDescriptor (TJ9 k).2.2.1 = some (tyJ9 k) := by decide +kernel
abbrev cJ9_abs_0f7a4 : ByteArray := prog_21_method_59_code
def yJ9_abs_0f7a4 : MethodName := ⟨RJ9, "abs", "(I)I"⟩
abbrev cJ9_max_7cf53 : ByteArray := prog_21_method_65_code
def yJ9_max_7cf53 : MethodName := ⟨RJ9, "max", "(II)I"⟩
abbrev cJ9_min_7cf53 : ByteArray := prog_21_method_69_code
def yJ9_min_7cf53 : MethodName := ⟨RJ9, "min", "(II)I"⟩
def RJ0 : String := "java/lang/String"
def TJ0 : u_T := fun k => match k with
  | _ => ("", "", "", false)
def tyJ0 : Nat → FieldType := fun k => match k with
  | _ => .int
abbrev wsJ00 : List Cond := u_ws RJ0 TJ0 0
theorem nmJ0 : ∀ a, a < 0 → ∀ b, b < 0 → a ≠ b → (TJ0 a).2.1 ≠ (TJ0 b).2.1 := by decide +kernel
theorem tyJ0_ok : ∀ k, k < 0 → parseFieldDescriptor (TJ0 k).2.2.1 = some (tyJ0 k) := by decide +kernel
abbrev cJ0_length_8abf5 : ByteArray := prog_23_method_54_code
def yJ0_length_8abf5 : MethodName := ⟨RJ0, "length", "()I"⟩
abbrev cJ0_charAt_5068e : ByteArray := prog_23_method_56_code
def yJ0_charAt_5068e : MethodName := ⟨RJ0, "charAt", "(I)C"⟩
abbrev cJ0_coder_7d493 : ByteArray := prog_23_method_152_code
def yJ0_coder_7d493 : MethodName := ⟨RJ0, "coder", "()B"⟩
abbrev cJ0_isLatin1_aae02 : ByteArray := prog_23_method_154_code
def yJ0_isLatin1_aae02 : MethodName := ⟨RJ0, "isLatin1", "()Z"⟩
abbrev cJ0_checkIndex_df160 : ByteArray := prog_23_method_155_code
def yJ0_checkIndex_df160 : MethodName := ⟨RJ0, "checkIndex", "(II)V"⟩
def RJ1 : String := "java/lang/StringLatin1"
def TJ1 : u_T := fun k => match k with
  | _ => ("", "", "", false)
def tyJ1 : Nat → FieldType := fun k => match k with
  | _ => .int
abbrev wsJ10 : List Cond := u_ws RJ1 TJ1 0
theorem nmJ1 : ∀ a, a < 0 → ∀ b, b < 0 → a ≠ b → (TJ1 a).2.1 ≠ (TJ1 b).2.1 := by decide +kernel
theorem tyJ1_ok : ∀ k, k < 0 → parseFieldDescriptor (TJ1 k).2.2.1 = some (tyJ1 k) := by decide +kernel
abbrev cJ1_charAt_3b067 : ByteArray := prog_24_method_2_code
def yJ1_charAt_3b067 : MethodName := ⟨RJ1, "charAt", "([BI)C"⟩
def RJ2 : String := "java/lang/StringUTF16"
def TJ2 : u_T := fun k => match k with
  | _ => ("", "", "", false)
def tyJ2 : Nat → FieldType := fun k => match k with
  | _ => .int
abbrev wsJ20 : List Cond := u_ws RJ2 TJ2 0
theorem nmJ2 : ∀ a, a < 0 → ∀ b, b < 0 → a ≠ b → (TJ2 a).2.1 ≠ (TJ2 b).2.1 := by decide +kernel
theorem tyJ2_ok : ∀ k, k < 0 → parseFieldDescriptor (TJ2 k).2.2.1 = some (tyJ2 k) := by decide +kernel
abbrev cJ2_getChar_3b067 : ByteArray := prog_25_method_5_code
def yJ2_getChar_3b067 : MethodName := ⟨RJ2, "getChar", "([BI)C"⟩
abbrev cJ2_length_9d52b : ByteArray := prog_25_method_6_code
def yJ2_length_9d52b : MethodName := ⟨RJ2, "length", "([B)I"⟩
abbrev cJ2_charAt_3b067 : ByteArray := prog_25_method_83_code
def yJ2_charAt_3b067 : MethodName := ⟨RJ2, "charAt", "([BI)C"⟩
abbrev cJ2_checkIndex_2214a : ByteArray := prog_25_method_91_code
def yJ2_checkIndex_2214a : MethodName := ⟨RJ2, "checkIndex", "(I[B)V"⟩
def RJ10 : String := "java/lang/System"
def TJ10 : u_T := fun k => match k with
  | _ => ("", "", "", false)
def tyJ10 : Nat → FieldType := fun k => match k with
  | _ => .int
abbrev wsJ100 : List Cond := u_ws RJ10 TJ10 0
theorem nmJ10 : ∀ a, a < 0 → ∀ b, b < 0 → a ≠ b → (TJ10 a).2.1 ≠ (TJ10 b).2.1 := by decide +kernel
theorem tyJ10_ok : ∀ k, k < 0 → parseFieldDescriptor (TJ10 k).2.2.1 = some (tyJ10 k) := by decide +kernel
def RJxfd54e : String := "java/lang/constant/Constable"
def TJxfd54e : u_T := fun k => match k with
  | _ => ("", "", "", false)
def tyJxfd54e : Nat → FieldType := fun k => match k with
  | _ => .int
abbrev wsJxfd54e0 : List Cond := u_ws RJxfd54e TJxfd54e 0
theorem nmJxfd54e : ∀ a, a < 0 → ∀ b, b < 0 → a ≠ b → (TJxfd54e a).2.1 ≠ (TJxfd54e b).2.1 := by decide +kernel
theorem tyJxfd54e_ok : ∀ k, k < 0 → parseFieldDescriptor (TJxfd54e k).2.2.1 = some (tyJxfd54e k) := by decide +kernel
def RJx3cf43 : String := "java/lang/constant/ConstantDesc"
def TJx3cf43 : u_T := fun k => match k with
  | _ => ("", "", "", false)
def tyJx3cf43 : Nat → FieldType := fun k => match k with
  | _ => .int
abbrev wsJx3cf430 : List Cond := u_ws RJx3cf43 TJx3cf43 0
theorem nmJx3cf43 : ∀ a, a < 0 → ∀ b, b < 0 → a ≠ b → (TJx3cf43 a).2.1 ≠ (TJx3cf43 b).2.1 := by decide +kernel
theorem tyJx3cf43_ok : ∀ k, k < 0 → parseFieldDescriptor (TJx3cf43 k).2.2.1 = some (tyJx3cf43 k) := by decide +kernel
def RJ3 : String := "jdk/internal/util/Preconditions"
def TJ3 : u_T := fun k => match k with
  | _ => ("", "", "", false)
def tyJ3 : Nat → FieldType := fun k => match k with
  | _ => .int
abbrev wsJ30 : List Cond := u_ws RJ3 TJ3 0
theorem nmJ3 : ∀ a, a < 0 → ∀ b, b < 0 → a ≠ b → (TJ3 a).2.1 ≠ (TJ3 b).2.1 := by decide +kernel
theorem tyJ3_ok : ∀ k, k < 0 → parseFieldDescriptor (TJ3 k).2.2.1 = some (tyJ3 k) := by decide +kernel
abbrev cJ3_checkIndex_8e157 : ByteArray := prog_31_method_11_code
def yJ3_checkIndex_8e157 : MethodName := ⟨RJ3, "checkIndex", "(IILjava/util/function/BiFunction;)I"⟩
def RL : String := "YearSkinsLaw"
abbrev cL_led : ByteArray := method_3_code
def yL_led : MethodName := ⟨RL, "led", "(LYearSkins;I[J)I"⟩
abbrev cL_law : ByteArray := code
def yL_law : MethodName := ⟨RL, "law", "([I)Z"⟩
abbrev vwCl : List vw_C := [(RX0, TX0, 2), (RX1, TX1, 20), (RX2, TX2, 5), (RX3, TX3, 13), (RX7, TX7, 7), (RX8, TX8, 8), (RX9, TX9, 6), (RX10, TX10, 2), (RX11, TX11, 16), (RX12, TX12, 31), (RX13, TX13, 37)]
end
section
def WL_0 : List Cond := [Cond.classLink RL 8 RX11, Cond.instantiable RX11 16, Cond.initialized RX11, Cond.classLink RL 16 RX13, Cond.instantiable RX13 37, Cond.initialized RX13, Cond.arrayClass .long, Cond.methodLink RL 15 yX11_init, Cond.instanceMethod yX11_init, Cond.code yX11_init cX11_init 1 none, Cond.methodLink RX11 1 objectInit, Cond.instanceMethod objectInit, Cond.code objectInit ⟨#[0xb1]⟩ 1 none, Cond.arrayClass .int, Cond.fieldLink RX11 9 "YearSkins" "tape" "[I", Cond.classLink RX11 13 RX1]
theorem qt_0 : (Cond.classLink RL 8 RX11) ∈ lw_tbl := List.mem_of_getElem? (i := 139) (by decide +kernel)
theorem qt_1 : (Cond.instantiable RX11 16) ∈ lw_tbl := List.mem_of_getElem? (i := 140) (by decide +kernel)
theorem qt_2 : (Cond.initialized RX11) ∈ lw_tbl := List.mem_of_getElem? (i := 114) (by decide +kernel)
theorem qt_3 : (Cond.classLink RL 16 RX13) ∈ lw_tbl := List.mem_of_getElem? (i := 1368) (by decide +kernel)
theorem qt_4 : (Cond.instantiable RX13 37) ∈ lw_tbl := List.mem_of_getElem? (i := 1369) (by decide +kernel)
theorem qt_5 : (Cond.initialized RX13) ∈ lw_tbl := List.mem_of_getElem? (i := 123) (by decide +kernel)
theorem qt_6 : (Cond.arrayClass .long) ∈ lw_tbl := List.mem_of_getElem? (i := 384) (by decide +kernel)
theorem qt_7 : (Cond.methodLink RL 15 yX11_init) ∈ lw_tbl := List.mem_of_getElem? (i := 141) (by decide +kernel)
theorem qt_8 : (Cond.instanceMethod yX11_init) ∈ lw_tbl := List.mem_of_getElem? (i := 142) (by decide +kernel)
theorem qt_9 : (Cond.code yX11_init cX11_init 1 none) ∈ lw_tbl := List.mem_of_getElem? (i := 143) (by decide +kernel)
theorem qt_10 : (Cond.methodLink RX11 1 objectInit) ∈ lw_tbl := List.mem_of_getElem? (i := 144) (by decide +kernel)
theorem qt_11 : (Cond.instanceMethod objectInit) ∈ lw_tbl := List.mem_of_getElem? (i := 145) (by decide +kernel)
theorem qt_12 : (Cond.code objectInit ⟨#[0xb1]⟩ 1 none) ∈ lw_tbl := List.mem_of_getElem? (i := 146) (by decide +kernel)
theorem qt_13 : (Cond.arrayClass .int) ∈ lw_tbl := List.mem_of_getElem? (i := 253) (by decide +kernel)
theorem qt_14 : (Cond.fieldLink RX11 9 "YearSkins" "tape" "[I") ∈ lw_tbl := List.mem_of_getElem? (i := 468) (by decide +kernel)
theorem qt_15 : (Cond.classLink RX11 13 RX1) ∈ lw_tbl := List.mem_of_getElem? (i := 147) (by decide +kernel)
theorem WLr_0 : ∀ w ∈ WL_0, w ∈ lw_tbl := List.forall_mem_cons.mpr ⟨qt_0, List.forall_mem_cons.mpr ⟨qt_1, List.forall_mem_cons.mpr ⟨qt_2, List.forall_mem_cons.mpr ⟨qt_3, List.forall_mem_cons.mpr ⟨qt_4, List.forall_mem_cons.mpr ⟨qt_5, List.forall_mem_cons.mpr ⟨qt_6, List.forall_mem_cons.mpr ⟨qt_7, List.forall_mem_cons.mpr ⟨qt_8, List.forall_mem_cons.mpr ⟨qt_9, List.forall_mem_cons.mpr ⟨qt_10, List.forall_mem_cons.mpr ⟨qt_11, List.forall_mem_cons.mpr ⟨qt_12, List.forall_mem_cons.mpr ⟨qt_13, List.forall_mem_cons.mpr ⟨qt_14, List.forall_mem_cons.mpr ⟨qt_15, fun _ h => absurd h List.not_mem_nil⟩⟩⟩⟩⟩⟩⟩⟩⟩⟩⟩⟩⟩⟩⟩⟩
def WL_1 : List Cond := [Cond.instantiable RX1 20, Cond.initialized RX1, Cond.fieldLink RX11 16 "YearSkins" "ground" "LYearSkins$Land;", Cond.fieldLink RX11 20 "YearSkins" "draftGround" "LYearSkins$Land;", Cond.classLink RX11 23 RX7, Cond.instantiable RX7 7, Cond.initialized RX7, Cond.fieldLink RX11 26 "YearSkins" "now" "LYearSkins$State;", Cond.fieldLink RX11 30 "YearSkins" "draft" "LYearSkins$State;", Cond.fieldLink RX11 33 "YearSkins" "then" "LYearSkins$State;", Cond.classLink RX11 36 RX3, Cond.instantiable RX3 13, Cond.initialized RX3, Cond.fieldLink RX11 39 "YearSkins" "reader" "LYearSkins$Reader;", Cond.classLink RX11 43 RX10, Cond.instantiable RX10 2]
theorem qt_16 : (Cond.instantiable RX1 20) ∈ lw_tbl := List.mem_of_getElem? (i := 148) (by decide +kernel)
theorem qt_17 : (Cond.initialized RX1) ∈ lw_tbl := List.mem_of_getElem? (i := 115) (by decide +kernel)
theorem qt_18 : (Cond.fieldLink RX11 16 "YearSkins" "ground" "LYearSkins$Land;") ∈ lw_tbl := List.mem_of_getElem? (i := 471) (by decide +kernel)
theorem qt_19 : (Cond.fieldLink RX11 20 "YearSkins" "draftGround" "LYearSkins$Land;") ∈ lw_tbl := List.mem_of_getElem? (i := 472) (by decide +kernel)
theorem qt_20 : (Cond.classLink RX11 23 RX7) ∈ lw_tbl := List.mem_of_getElem? (i := 255) (by decide +kernel)
theorem qt_21 : (Cond.instantiable RX7 7) ∈ lw_tbl := List.mem_of_getElem? (i := 256) (by decide +kernel)
theorem qt_22 : (Cond.initialized RX7) ∈ lw_tbl := List.mem_of_getElem? (i := 116) (by decide +kernel)
theorem qt_23 : (Cond.fieldLink RX11 26 "YearSkins" "now" "LYearSkins$State;") ∈ lw_tbl := List.mem_of_getElem? (i := 473) (by decide +kernel)
theorem qt_24 : (Cond.fieldLink RX11 30 "YearSkins" "draft" "LYearSkins$State;") ∈ lw_tbl := List.mem_of_getElem? (i := 474) (by decide +kernel)
theorem qt_25 : (Cond.fieldLink RX11 33 "YearSkins" "then" "LYearSkins$State;") ∈ lw_tbl := List.mem_of_getElem? (i := 475) (by decide +kernel)
theorem qt_26 : (Cond.classLink RX11 36 RX3) ∈ lw_tbl := List.mem_of_getElem? (i := 300) (by decide +kernel)
theorem qt_27 : (Cond.instantiable RX3 13) ∈ lw_tbl := List.mem_of_getElem? (i := 301) (by decide +kernel)
theorem qt_28 : (Cond.initialized RX3) ∈ lw_tbl := List.mem_of_getElem? (i := 117) (by decide +kernel)
theorem qt_29 : (Cond.fieldLink RX11 39 "YearSkins" "reader" "LYearSkins$Reader;") ∈ lw_tbl := List.mem_of_getElem? (i := 476) (by decide +kernel)
theorem qt_30 : (Cond.classLink RX11 43 RX10) ∈ lw_tbl := List.mem_of_getElem? (i := 385) (by decide +kernel)
theorem qt_31 : (Cond.instantiable RX10 2) ∈ lw_tbl := List.mem_of_getElem? (i := 386) (by decide +kernel)
theorem WLr_1 : ∀ w ∈ WL_1, w ∈ lw_tbl := List.forall_mem_cons.mpr ⟨qt_16, List.forall_mem_cons.mpr ⟨qt_17, List.forall_mem_cons.mpr ⟨qt_18, List.forall_mem_cons.mpr ⟨qt_19, List.forall_mem_cons.mpr ⟨qt_20, List.forall_mem_cons.mpr ⟨qt_21, List.forall_mem_cons.mpr ⟨qt_22, List.forall_mem_cons.mpr ⟨qt_23, List.forall_mem_cons.mpr ⟨qt_24, List.forall_mem_cons.mpr ⟨qt_25, List.forall_mem_cons.mpr ⟨qt_26, List.forall_mem_cons.mpr ⟨qt_27, List.forall_mem_cons.mpr ⟨qt_28, List.forall_mem_cons.mpr ⟨qt_29, List.forall_mem_cons.mpr ⟨qt_30, List.forall_mem_cons.mpr ⟨qt_31, fun _ h => absurd h List.not_mem_nil⟩⟩⟩⟩⟩⟩⟩⟩⟩⟩⟩⟩⟩⟩⟩⟩
def WL_2 : List Cond := [Cond.initialized RX10, Cond.fieldLink RX11 46 "YearSkins" "calendar" "LYearSkins$Years;", Cond.classLink RX11 50 RX0, Cond.instantiable RX0 2, Cond.initialized RX0, Cond.fieldLink RX11 53 "YearSkins" "burglar" "LYearSkins$Burglar;", Cond.classLink RX11 57 RX9, Cond.instantiable RX9 6, Cond.initialized RX9, Cond.fieldLink RX11 60 "YearSkins" "wallOrders" "LYearSkins$WallOrders;", Cond.classLink RX11 64 RX2, Cond.instantiable RX2 5, Cond.initialized RX2, Cond.fieldLink RX11 67 "YearSkins" "past" "LYearSkins$Past;", Cond.instanceMethod yX1_init, Cond.code yX1_init cX1_init 1 none]
theorem qt_32 : (Cond.initialized RX10) ∈ lw_tbl := List.mem_of_getElem? (i := 119) (by decide +kernel)
theorem qt_33 : (Cond.fieldLink RX11 46 "YearSkins" "calendar" "LYearSkins$Years;") ∈ lw_tbl := List.mem_of_getElem? (i := 477) (by decide +kernel)
theorem qt_34 : (Cond.classLink RX11 50 RX0) ∈ lw_tbl := List.mem_of_getElem? (i := 399) (by decide +kernel)
theorem qt_35 : (Cond.instantiable RX0 2) ∈ lw_tbl := List.mem_of_getElem? (i := 400) (by decide +kernel)
theorem qt_36 : (Cond.initialized RX0) ∈ lw_tbl := List.mem_of_getElem? (i := 120) (by decide +kernel)
theorem qt_37 : (Cond.fieldLink RX11 53 "YearSkins" "burglar" "LYearSkins$Burglar;") ∈ lw_tbl := List.mem_of_getElem? (i := 478) (by decide +kernel)
theorem qt_38 : (Cond.classLink RX11 57 RX9) ∈ lw_tbl := List.mem_of_getElem? (i := 412) (by decide +kernel)
theorem qt_39 : (Cond.instantiable RX9 6) ∈ lw_tbl := List.mem_of_getElem? (i := 413) (by decide +kernel)
theorem qt_40 : (Cond.initialized RX9) ∈ lw_tbl := List.mem_of_getElem? (i := 121) (by decide +kernel)
theorem qt_41 : (Cond.fieldLink RX11 60 "YearSkins" "wallOrders" "LYearSkins$WallOrders;") ∈ lw_tbl := List.mem_of_getElem? (i := 479) (by decide +kernel)
theorem qt_42 : (Cond.classLink RX11 64 RX2) ∈ lw_tbl := List.mem_of_getElem? (i := 441) (by decide +kernel)
theorem qt_43 : (Cond.instantiable RX2 5) ∈ lw_tbl := List.mem_of_getElem? (i := 442) (by decide +kernel)
theorem qt_44 : (Cond.initialized RX2) ∈ lw_tbl := List.mem_of_getElem? (i := 122) (by decide +kernel)
theorem qt_45 : (Cond.fieldLink RX11 67 "YearSkins" "past" "LYearSkins$Past;") ∈ lw_tbl := List.mem_of_getElem? (i := 480) (by decide +kernel)
theorem qt_46 : (Cond.instanceMethod yX1_init) ∈ lw_tbl := List.mem_of_getElem? (i := 150) (by decide +kernel)
theorem qt_47 : (Cond.code yX1_init cX1_init 1 none) ∈ lw_tbl := List.mem_of_getElem? (i := 151) (by decide +kernel)
theorem WLr_2 : ∀ w ∈ WL_2, w ∈ lw_tbl := List.forall_mem_cons.mpr ⟨qt_32, List.forall_mem_cons.mpr ⟨qt_33, List.forall_mem_cons.mpr ⟨qt_34, List.forall_mem_cons.mpr ⟨qt_35, List.forall_mem_cons.mpr ⟨qt_36, List.forall_mem_cons.mpr ⟨qt_37, List.forall_mem_cons.mpr ⟨qt_38, List.forall_mem_cons.mpr ⟨qt_39, List.forall_mem_cons.mpr ⟨qt_40, List.forall_mem_cons.mpr ⟨qt_41, List.forall_mem_cons.mpr ⟨qt_42, List.forall_mem_cons.mpr ⟨qt_43, List.forall_mem_cons.mpr ⟨qt_44, List.forall_mem_cons.mpr ⟨qt_45, List.forall_mem_cons.mpr ⟨qt_46, List.forall_mem_cons.mpr ⟨qt_47, fun _ h => absurd h List.not_mem_nil⟩⟩⟩⟩⟩⟩⟩⟩⟩⟩⟩⟩⟩⟩⟩⟩
def WL_3 : List Cond := [Cond.methodLink RX1 3 objectInit, Cond.arrayClass .boolean, Cond.fieldLink RX1 9 "YearSkins$Land" "wet" "[Z", Cond.fieldLink RX1 15 "YearSkins$Land" "stoneParts" "[I", Cond.fieldLink RX1 19 "YearSkins$Land" "coreX" "[I", Cond.fieldLink RX1 22 "YearSkins$Land" "coreY" "[I", Cond.fieldLink RX1 25 "YearSkins$Land" "houseStone" "[I", Cond.fieldLink RX1 28 "YearSkins$Land" "heirHouse" "[I", Cond.fieldLink RX1 31 "YearSkins$Land" "needs" "[I", Cond.fieldLink RX1 34 "YearSkins$Land" "coins" "[I", Cond.fieldLink RX1 37 "YearSkins$Land" "smells" "[I", Cond.instanceMethod yX7_init, Cond.code yX7_init cX7_init 1 none, Cond.methodLink RX7 3 objectInit, Cond.fieldLink RX7 9 "YearSkins$State" "counts" "[I", Cond.fieldLink RX7 15 "YearSkins$State" "families" "[I"]
theorem qt_48 : (Cond.methodLink RX1 3 objectInit) ∈ lw_tbl := List.mem_of_getElem? (i := 152) (by decide +kernel)
theorem qt_49 : (Cond.arrayClass .boolean) ∈ lw_tbl := List.mem_of_getElem? (i := 254) (by decide +kernel)
theorem qt_50 : (Cond.fieldLink RX1 9 "YearSkins$Land" "wet" "[Z") ∈ lw_tbl := List.mem_of_getElem? (i := 171) (by decide +kernel)
theorem qt_51 : (Cond.fieldLink RX1 15 "YearSkins$Land" "stoneParts" "[I") ∈ lw_tbl := List.mem_of_getElem? (i := 175) (by decide +kernel)
theorem qt_52 : (Cond.fieldLink RX1 19 "YearSkins$Land" "coreX" "[I") ∈ lw_tbl := List.mem_of_getElem? (i := 181) (by decide +kernel)
theorem qt_53 : (Cond.fieldLink RX1 22 "YearSkins$Land" "coreY" "[I") ∈ lw_tbl := List.mem_of_getElem? (i := 185) (by decide +kernel)
theorem qt_54 : (Cond.fieldLink RX1 25 "YearSkins$Land" "houseStone" "[I") ∈ lw_tbl := List.mem_of_getElem? (i := 189) (by decide +kernel)
theorem qt_55 : (Cond.fieldLink RX1 28 "YearSkins$Land" "heirHouse" "[I") ∈ lw_tbl := List.mem_of_getElem? (i := 196) (by decide +kernel)
theorem qt_56 : (Cond.fieldLink RX1 31 "YearSkins$Land" "needs" "[I") ∈ lw_tbl := List.mem_of_getElem? (i := 203) (by decide +kernel)
theorem qt_57 : (Cond.fieldLink RX1 34 "YearSkins$Land" "coins" "[I") ∈ lw_tbl := List.mem_of_getElem? (i := 206) (by decide +kernel)
theorem qt_58 : (Cond.fieldLink RX1 37 "YearSkins$Land" "smells" "[I") ∈ lw_tbl := List.mem_of_getElem? (i := 209) (by decide +kernel)
theorem qt_59 : (Cond.instanceMethod yX7_init) ∈ lw_tbl := List.mem_of_getElem? (i := 258) (by decide +kernel)
theorem qt_60 : (Cond.code yX7_init cX7_init 1 none) ∈ lw_tbl := List.mem_of_getElem? (i := 259) (by decide +kernel)
theorem qt_61 : (Cond.methodLink RX7 3 objectInit) ∈ lw_tbl := List.mem_of_getElem? (i := 260) (by decide +kernel)
theorem qt_62 : (Cond.fieldLink RX7 9 "YearSkins$State" "counts" "[I") ∈ lw_tbl := List.mem_of_getElem? (i := 267) (by decide +kernel)
theorem qt_63 : (Cond.fieldLink RX7 15 "YearSkins$State" "families" "[I") ∈ lw_tbl := List.mem_of_getElem? (i := 273) (by decide +kernel)
theorem WLr_3 : ∀ w ∈ WL_3, w ∈ lw_tbl := List.forall_mem_cons.mpr ⟨qt_48, List.forall_mem_cons.mpr ⟨qt_49, List.forall_mem_cons.mpr ⟨qt_50, List.forall_mem_cons.mpr ⟨qt_51, List.forall_mem_cons.mpr ⟨qt_52, List.forall_mem_cons.mpr ⟨qt_53, List.forall_mem_cons.mpr ⟨qt_54, List.forall_mem_cons.mpr ⟨qt_55, List.forall_mem_cons.mpr ⟨qt_56, List.forall_mem_cons.mpr ⟨qt_57, List.forall_mem_cons.mpr ⟨qt_58, List.forall_mem_cons.mpr ⟨qt_59, List.forall_mem_cons.mpr ⟨qt_60, List.forall_mem_cons.mpr ⟨qt_61, List.forall_mem_cons.mpr ⟨qt_62, List.forall_mem_cons.mpr ⟨qt_63, fun _ h => absurd h List.not_mem_nil⟩⟩⟩⟩⟩⟩⟩⟩⟩⟩⟩⟩⟩⟩⟩⟩
def WL_4 : List Cond := [Cond.fieldLink RX7 18 "YearSkins$State" "golds" "[I", Cond.fieldLink RX7 21 "YearSkins$State" "rooms" "[I", Cond.fieldLink RX7 24 "YearSkins$State" "parts" "[I", Cond.instanceMethod yX3_init, Cond.code yX3_init cX3_init 1 none, Cond.methodLink RX3 3 objectInit, Cond.classLink RX3 9 RX8, Cond.instantiable RX8 8, Cond.initialized RX8, Cond.fieldLink RX3 12 "YearSkins$Reader" "tokens" "LYearSkins$Tokens;", Cond.fieldLink RX3 18 "YearSkins$Reader" "names" "[J", Cond.fieldLink RX3 22 "YearSkins$Reader" "sorts" "[I", Cond.fieldLink RX3 26 "YearSkins$Reader" "numbers" "[I", Cond.instanceMethod yX8_init, Cond.code yX8_init cX8_init 1 none, Cond.methodLink RX8 3 objectInit]
theorem qt_64 : (Cond.fieldLink RX7 18 "YearSkins$State" "golds" "[I") ∈ lw_tbl := List.mem_of_getElem? (i := 277) (by decide +kernel)
theorem qt_65 : (Cond.fieldLink RX7 21 "YearSkins$State" "rooms" "[I") ∈ lw_tbl := List.mem_of_getElem? (i := 281) (by decide +kernel)
theorem qt_66 : (Cond.fieldLink RX7 24 "YearSkins$State" "parts" "[I") ∈ lw_tbl := List.mem_of_getElem? (i := 284) (by decide +kernel)
theorem qt_67 : (Cond.instanceMethod yX3_init) ∈ lw_tbl := List.mem_of_getElem? (i := 303) (by decide +kernel)
theorem qt_68 : (Cond.code yX3_init cX3_init 1 none) ∈ lw_tbl := List.mem_of_getElem? (i := 304) (by decide +kernel)
theorem qt_69 : (Cond.methodLink RX3 3 objectInit) ∈ lw_tbl := List.mem_of_getElem? (i := 305) (by decide +kernel)
theorem qt_70 : (Cond.classLink RX3 9 RX8) ∈ lw_tbl := List.mem_of_getElem? (i := 306) (by decide +kernel)
theorem qt_71 : (Cond.instantiable RX8 8) ∈ lw_tbl := List.mem_of_getElem? (i := 307) (by decide +kernel)
theorem qt_72 : (Cond.initialized RX8) ∈ lw_tbl := List.mem_of_getElem? (i := 118) (by decide +kernel)
theorem qt_73 : (Cond.fieldLink RX3 12 "YearSkins$Reader" "tokens" "LYearSkins$Tokens;") ∈ lw_tbl := List.mem_of_getElem? (i := 342) (by decide +kernel)
theorem qt_74 : (Cond.fieldLink RX3 18 "YearSkins$Reader" "names" "[J") ∈ lw_tbl := List.mem_of_getElem? (i := 353) (by decide +kernel)
theorem qt_75 : (Cond.fieldLink RX3 22 "YearSkins$Reader" "sorts" "[I") ∈ lw_tbl := List.mem_of_getElem? (i := 354) (by decide +kernel)
theorem qt_76 : (Cond.fieldLink RX3 26 "YearSkins$Reader" "numbers" "[I") ∈ lw_tbl := List.mem_of_getElem? (i := 355) (by decide +kernel)
theorem qt_77 : (Cond.instanceMethod yX8_init) ∈ lw_tbl := List.mem_of_getElem? (i := 309) (by decide +kernel)
theorem qt_78 : (Cond.code yX8_init cX8_init 1 none) ∈ lw_tbl := List.mem_of_getElem? (i := 310) (by decide +kernel)
theorem qt_79 : (Cond.methodLink RX8 3 objectInit) ∈ lw_tbl := List.mem_of_getElem? (i := 311) (by decide +kernel)
theorem WLr_4 : ∀ w ∈ WL_4, w ∈ lw_tbl := List.forall_mem_cons.mpr ⟨qt_64, List.forall_mem_cons.mpr ⟨qt_65, List.forall_mem_cons.mpr ⟨qt_66, List.forall_mem_cons.mpr ⟨qt_67, List.forall_mem_cons.mpr ⟨qt_68, List.forall_mem_cons.mpr ⟨qt_69, List.forall_mem_cons.mpr ⟨qt_70, List.forall_mem_cons.mpr ⟨qt_71, List.forall_mem_cons.mpr ⟨qt_72, List.forall_mem_cons.mpr ⟨qt_73, List.forall_mem_cons.mpr ⟨qt_74, List.forall_mem_cons.mpr ⟨qt_75, List.forall_mem_cons.mpr ⟨qt_76, List.forall_mem_cons.mpr ⟨qt_77, List.forall_mem_cons.mpr ⟨qt_78, List.forall_mem_cons.mpr ⟨qt_79, fun _ h => absurd h List.not_mem_nil⟩⟩⟩⟩⟩⟩⟩⟩⟩⟩⟩⟩⟩⟩⟩⟩
def WL_5 : List Cond := [Cond.instanceMethod yX10_init, Cond.code yX10_init cX10_init 1 none, Cond.methodLink RX10 3 objectInit, Cond.fieldLink RX10 9 "YearSkins$Years" "row" "[I", Cond.fieldLink RX10 15 "YearSkins$Years" "best" "[I", Cond.instanceMethod yX0_init, Cond.code yX0_init cX0_init 1 none, Cond.methodLink RX0 3 objectInit, Cond.fieldLink RX0 9 "YearSkins$Burglar" "here" "[I", Cond.fieldLink RX0 15 "YearSkins$Burglar" "within" "[I", Cond.instanceMethod yX9_init, Cond.code yX9_init cX9_init 1 none, Cond.methodLink RX9 3 objectInit, Cond.fieldLink RX9 9 "YearSkins$WallOrders" "row" "[I", Cond.fieldLink RX9 15 "YearSkins$WallOrders" "rowYears" "[I", Cond.fieldLink RX9 18 "YearSkins$WallOrders" "soon" "[I"]
theorem qt_80 : (Cond.instanceMethod yX10_init) ∈ lw_tbl := List.mem_of_getElem? (i := 388) (by decide +kernel)
theorem qt_81 : (Cond.code yX10_init cX10_init 1 none) ∈ lw_tbl := List.mem_of_getElem? (i := 389) (by decide +kernel)
theorem qt_82 : (Cond.methodLink RX10 3 objectInit) ∈ lw_tbl := List.mem_of_getElem? (i := 390) (by decide +kernel)
theorem qt_83 : (Cond.fieldLink RX10 9 "YearSkins$Years" "row" "[I") ∈ lw_tbl := List.mem_of_getElem? (i := 391) (by decide +kernel)
theorem qt_84 : (Cond.fieldLink RX10 15 "YearSkins$Years" "best" "[I") ∈ lw_tbl := List.mem_of_getElem? (i := 392) (by decide +kernel)
theorem qt_85 : (Cond.instanceMethod yX0_init) ∈ lw_tbl := List.mem_of_getElem? (i := 402) (by decide +kernel)
theorem qt_86 : (Cond.code yX0_init cX0_init 1 none) ∈ lw_tbl := List.mem_of_getElem? (i := 403) (by decide +kernel)
theorem qt_87 : (Cond.methodLink RX0 3 objectInit) ∈ lw_tbl := List.mem_of_getElem? (i := 404) (by decide +kernel)
theorem qt_88 : (Cond.fieldLink RX0 9 "YearSkins$Burglar" "here" "[I") ∈ lw_tbl := List.mem_of_getElem? (i := 405) (by decide +kernel)
theorem qt_89 : (Cond.fieldLink RX0 15 "YearSkins$Burglar" "within" "[I") ∈ lw_tbl := List.mem_of_getElem? (i := 406) (by decide +kernel)
theorem qt_90 : (Cond.instanceMethod yX9_init) ∈ lw_tbl := List.mem_of_getElem? (i := 415) (by decide +kernel)
theorem qt_91 : (Cond.code yX9_init cX9_init 1 none) ∈ lw_tbl := List.mem_of_getElem? (i := 416) (by decide +kernel)
theorem qt_92 : (Cond.methodLink RX9 3 objectInit) ∈ lw_tbl := List.mem_of_getElem? (i := 417) (by decide +kernel)
theorem qt_93 : (Cond.fieldLink RX9 9 "YearSkins$WallOrders" "row" "[I") ∈ lw_tbl := List.mem_of_getElem? (i := 418) (by decide +kernel)
theorem qt_94 : (Cond.fieldLink RX9 15 "YearSkins$WallOrders" "rowYears" "[I") ∈ lw_tbl := List.mem_of_getElem? (i := 419) (by decide +kernel)
theorem qt_95 : (Cond.fieldLink RX9 18 "YearSkins$WallOrders" "soon" "[I") ∈ lw_tbl := List.mem_of_getElem? (i := 422) (by decide +kernel)
theorem WLr_5 : ∀ w ∈ WL_5, w ∈ lw_tbl := List.forall_mem_cons.mpr ⟨qt_80, List.forall_mem_cons.mpr ⟨qt_81, List.forall_mem_cons.mpr ⟨qt_82, List.forall_mem_cons.mpr ⟨qt_83, List.forall_mem_cons.mpr ⟨qt_84, List.forall_mem_cons.mpr ⟨qt_85, List.forall_mem_cons.mpr ⟨qt_86, List.forall_mem_cons.mpr ⟨qt_87, List.forall_mem_cons.mpr ⟨qt_88, List.forall_mem_cons.mpr ⟨qt_89, List.forall_mem_cons.mpr ⟨qt_90, List.forall_mem_cons.mpr ⟨qt_91, List.forall_mem_cons.mpr ⟨qt_92, List.forall_mem_cons.mpr ⟨qt_93, List.forall_mem_cons.mpr ⟨qt_94, List.forall_mem_cons.mpr ⟨qt_95, fun _ h => absurd h List.not_mem_nil⟩⟩⟩⟩⟩⟩⟩⟩⟩⟩⟩⟩⟩⟩⟩⟩
def WL_6 : List Cond := [Cond.fieldLink RX9 21 "YearSkins$WallOrders" "late" "[I", Cond.fieldLink RX9 24 "YearSkins$WallOrders" "sureAhead" "[I", Cond.methodLink RX11 66 yX2_init, Cond.instanceMethod yX2_init, Cond.code yX2_init cX2_init 2 none, Cond.methodLink RX2 3 objectInit, Cond.classLink RX2 9 RX7, Cond.fieldLink RX2 11 "YearSkins$Past" "kept" "[LYearSkins$State;", Cond.fieldLink RX2 17 "YearSkins$Past" "marked" "[LYearSkins$State;", Cond.methodLink RL 18 yX13_init, Cond.instanceMethod yX13_init, Cond.code yX13_init cX13_init 1 none, Cond.methodLink RX13 3 objectInit, Cond.fieldLink RX13 9 "YearSkinsModel" "where" "I", Cond.arrayClass .byte, Cond.fieldLink RX13 13 "YearSkinsModel" "tape" "[B"]
theorem qt_96 : (Cond.fieldLink RX9 21 "YearSkins$WallOrders" "late" "[I") ∈ lw_tbl := List.mem_of_getElem? (i := 424) (by decide +kernel)
theorem qt_97 : (Cond.fieldLink RX9 24 "YearSkins$WallOrders" "sureAhead" "[I") ∈ lw_tbl := List.mem_of_getElem? (i := 426) (by decide +kernel)
theorem qt_98 : (Cond.methodLink RX11 66 yX2_init) ∈ lw_tbl := List.mem_of_getElem? (i := 443) (by decide +kernel)
theorem qt_99 : (Cond.instanceMethod yX2_init) ∈ lw_tbl := List.mem_of_getElem? (i := 444) (by decide +kernel)
theorem qt_100 : (Cond.code yX2_init cX2_init 2 none) ∈ lw_tbl := List.mem_of_getElem? (i := 445) (by decide +kernel)
theorem qt_101 : (Cond.methodLink RX2 3 objectInit) ∈ lw_tbl := List.mem_of_getElem? (i := 446) (by decide +kernel)
theorem qt_102 : (Cond.classLink RX2 9 RX7) ∈ lw_tbl := List.mem_of_getElem? (i := 447) (by decide +kernel)
theorem qt_103 : (Cond.fieldLink RX2 11 "YearSkins$Past" "kept" "[LYearSkins$State;") ∈ lw_tbl := List.mem_of_getElem? (i := 450) (by decide +kernel)
theorem qt_104 : (Cond.fieldLink RX2 17 "YearSkins$Past" "marked" "[LYearSkins$State;") ∈ lw_tbl := List.mem_of_getElem? (i := 451) (by decide +kernel)
theorem qt_105 : (Cond.methodLink RL 18 yX13_init) ∈ lw_tbl := List.mem_of_getElem? (i := 1370) (by decide +kernel)
theorem qt_106 : (Cond.instanceMethod yX13_init) ∈ lw_tbl := List.mem_of_getElem? (i := 1371) (by decide +kernel)
theorem qt_107 : (Cond.code yX13_init cX13_init 1 none) ∈ lw_tbl := List.mem_of_getElem? (i := 1372) (by decide +kernel)
theorem qt_108 : (Cond.methodLink RX13 3 objectInit) ∈ lw_tbl := List.mem_of_getElem? (i := 1373) (by decide +kernel)
theorem qt_109 : (Cond.fieldLink RX13 9 "YearSkinsModel" "where" "I") ∈ lw_tbl := List.mem_of_getElem? (i := 1376) (by decide +kernel)
theorem qt_110 : (Cond.arrayClass .byte) ∈ lw_tbl := List.mem_of_getElem? (i := 818) (by decide +kernel)
theorem qt_111 : (Cond.fieldLink RX13 13 "YearSkinsModel" "tape" "[B") ∈ lw_tbl := List.mem_of_getElem? (i := 1379) (by decide +kernel)
theorem WLr_6 : ∀ w ∈ WL_6, w ∈ lw_tbl := List.forall_mem_cons.mpr ⟨qt_96, List.forall_mem_cons.mpr ⟨qt_97, List.forall_mem_cons.mpr ⟨qt_98, List.forall_mem_cons.mpr ⟨qt_99, List.forall_mem_cons.mpr ⟨qt_100, List.forall_mem_cons.mpr ⟨qt_101, List.forall_mem_cons.mpr ⟨qt_102, List.forall_mem_cons.mpr ⟨qt_103, List.forall_mem_cons.mpr ⟨qt_104, List.forall_mem_cons.mpr ⟨qt_105, List.forall_mem_cons.mpr ⟨qt_106, List.forall_mem_cons.mpr ⟨qt_107, List.forall_mem_cons.mpr ⟨qt_108, List.forall_mem_cons.mpr ⟨qt_109, List.forall_mem_cons.mpr ⟨qt_110, List.forall_mem_cons.mpr ⟨qt_111, fun _ h => absurd h List.not_mem_nil⟩⟩⟩⟩⟩⟩⟩⟩⟩⟩⟩⟩⟩⟩⟩⟩
def WL_7 : List Cond := [Cond.fieldLink RX13 17 "YearSkinsModel" "v" "[I", Cond.fieldLink RX13 21 "YearSkinsModel" "w" "[I", Cond.fieldLink RX13 24 "YearSkinsModel" "past" "[I", Cond.fieldLink RX13 27 "YearSkinsModel" "kept" "[I", Cond.fieldLink RX13 30 "YearSkinsModel" "order" "[I", Cond.fieldLink RX13 33 "YearSkinsModel" "bestOrder" "[I", Cond.fieldLink RX13 36 "YearSkinsModel" "cost" "[I", Cond.fieldLink RX13 39 "YearSkinsModel" "outer" "[I", Cond.fieldLink RX13 42 "YearSkinsModel" "row" "[I", Cond.fieldLink RX13 45 "YearSkinsModel" "soonest" "[I", Cond.fieldLink RX13 48 "YearSkinsModel" "latest" "[I", Cond.fieldLink RX13 51 "YearSkinsModel" "ahead" "[I", Cond.fieldLink RX13 54 "YearSkinsModel" "soonYear" "[I", Cond.fieldLink RX13 57 "YearSkinsModel" "lateYear" "[I", Cond.fieldLink RX13 60 "YearSkinsModel" "wanted" "[I", Cond.methodLink RL 19 yX11_feed]
theorem qt_112 : (Cond.fieldLink RX13 17 "YearSkinsModel" "v" "[I") ∈ lw_tbl := List.mem_of_getElem? (i := 1390) (by decide +kernel)
theorem qt_113 : (Cond.fieldLink RX13 21 "YearSkinsModel" "w" "[I") ∈ lw_tbl := List.mem_of_getElem? (i := 1391) (by decide +kernel)
theorem qt_114 : (Cond.fieldLink RX13 24 "YearSkinsModel" "past" "[I") ∈ lw_tbl := List.mem_of_getElem? (i := 1392) (by decide +kernel)
theorem qt_115 : (Cond.fieldLink RX13 27 "YearSkinsModel" "kept" "[I") ∈ lw_tbl := List.mem_of_getElem? (i := 1393) (by decide +kernel)
theorem qt_116 : (Cond.fieldLink RX13 30 "YearSkinsModel" "order" "[I") ∈ lw_tbl := List.mem_of_getElem? (i := 1398) (by decide +kernel)
theorem qt_117 : (Cond.fieldLink RX13 33 "YearSkinsModel" "bestOrder" "[I") ∈ lw_tbl := List.mem_of_getElem? (i := 1399) (by decide +kernel)
theorem qt_118 : (Cond.fieldLink RX13 36 "YearSkinsModel" "cost" "[I") ∈ lw_tbl := List.mem_of_getElem? (i := 1400) (by decide +kernel)
theorem qt_119 : (Cond.fieldLink RX13 39 "YearSkinsModel" "outer" "[I") ∈ lw_tbl := List.mem_of_getElem? (i := 1401) (by decide +kernel)
theorem qt_120 : (Cond.fieldLink RX13 42 "YearSkinsModel" "row" "[I") ∈ lw_tbl := List.mem_of_getElem? (i := 1403) (by decide +kernel)
theorem qt_121 : (Cond.fieldLink RX13 45 "YearSkinsModel" "soonest" "[I") ∈ lw_tbl := List.mem_of_getElem? (i := 1404) (by decide +kernel)
theorem qt_122 : (Cond.fieldLink RX13 48 "YearSkinsModel" "latest" "[I") ∈ lw_tbl := List.mem_of_getElem? (i := 1405) (by decide +kernel)
theorem qt_123 : (Cond.fieldLink RX13 51 "YearSkinsModel" "ahead" "[I") ∈ lw_tbl := List.mem_of_getElem? (i := 1406) (by decide +kernel)
theorem qt_124 : (Cond.fieldLink RX13 54 "YearSkinsModel" "soonYear" "[I") ∈ lw_tbl := List.mem_of_getElem? (i := 1407) (by decide +kernel)
theorem qt_125 : (Cond.fieldLink RX13 57 "YearSkinsModel" "lateYear" "[I") ∈ lw_tbl := List.mem_of_getElem? (i := 1408) (by decide +kernel)
theorem qt_126 : (Cond.fieldLink RX13 60 "YearSkinsModel" "wanted" "[I") ∈ lw_tbl := List.mem_of_getElem? (i := 1409) (by decide +kernel)
theorem qt_127 : (Cond.methodLink RL 19 yX11_feed) ∈ lw_tbl := List.mem_of_getElem? (i := 517) (by decide +kernel)
theorem WLr_7 : ∀ w ∈ WL_7, w ∈ lw_tbl := List.forall_mem_cons.mpr ⟨qt_112, List.forall_mem_cons.mpr ⟨qt_113, List.forall_mem_cons.mpr ⟨qt_114, List.forall_mem_cons.mpr ⟨qt_115, List.forall_mem_cons.mpr ⟨qt_116, List.forall_mem_cons.mpr ⟨qt_117, List.forall_mem_cons.mpr ⟨qt_118, List.forall_mem_cons.mpr ⟨qt_119, List.forall_mem_cons.mpr ⟨qt_120, List.forall_mem_cons.mpr ⟨qt_121, List.forall_mem_cons.mpr ⟨qt_122, List.forall_mem_cons.mpr ⟨qt_123, List.forall_mem_cons.mpr ⟨qt_124, List.forall_mem_cons.mpr ⟨qt_125, List.forall_mem_cons.mpr ⟨qt_126, List.forall_mem_cons.mpr ⟨qt_127, fun _ h => absurd h List.not_mem_nil⟩⟩⟩⟩⟩⟩⟩⟩⟩⟩⟩⟩⟩⟩⟩⟩
def WL_8 : List Cond := [Cond.instanceMethod yX11_feed, Cond.selects RX11 yX11_feed yX11_feed, Cond.code yX11_feed cX11_feed 6 (some .int), Cond.fieldLink RX11 71 "YearSkins" "fed" "I", Cond.methodLink RX11 75 yX11_putNumber, Cond.instanceMethod yX11_putNumber, Cond.selects RX11 yX11_putNumber yX11_putNumber, Cond.code yX11_putNumber cX11_putNumber 3 none, Cond.methodLink RL 23 yX13_feed, Cond.instanceMethod yX13_feed, Cond.selects RX13 yX13_feed yX13_feed, Cond.code yX13_feed cX13_feed 8 (some .int), Cond.fieldLink RX13 63 "YearSkinsModel" "thrown" "I", Cond.fieldLink RX13 410 "YearSkinsModel" "taped" "I", Cond.methodLink RL 24 yX11_land, Cond.instanceMethod yX11_land]
theorem qt_128 : (Cond.instanceMethod yX11_feed) ∈ lw_tbl := List.mem_of_getElem? (i := 518) (by decide +kernel)
theorem qt_129 : (Cond.selects RX11 yX11_feed yX11_feed) ∈ lw_tbl := List.mem_of_getElem? (i := 519) (by decide +kernel)
theorem qt_130 : (Cond.code yX11_feed cX11_feed 6 (some .int)) ∈ lw_tbl := List.mem_of_getElem? (i := 520) (by decide +kernel)
theorem qt_131 : (Cond.fieldLink RX11 71 "YearSkins" "fed" "I") ∈ lw_tbl := List.mem_of_getElem? (i := 469) (by decide +kernel)
theorem qt_132 : (Cond.methodLink RX11 75 yX11_putNumber) ∈ lw_tbl := List.mem_of_getElem? (i := 521) (by decide +kernel)
theorem qt_133 : (Cond.instanceMethod yX11_putNumber) ∈ lw_tbl := List.mem_of_getElem? (i := 523) (by decide +kernel)
theorem qt_134 : (Cond.selects RX11 yX11_putNumber yX11_putNumber) ∈ lw_tbl := List.mem_of_getElem? (i := 0) (by decide +kernel)
theorem qt_135 : (Cond.code yX11_putNumber cX11_putNumber 3 none) ∈ lw_tbl := List.mem_of_getElem? (i := 524) (by decide +kernel)
theorem qt_136 : (Cond.methodLink RL 23 yX13_feed) ∈ lw_tbl := List.mem_of_getElem? (i := 1490) (by decide +kernel)
theorem qt_137 : (Cond.instanceMethod yX13_feed) ∈ lw_tbl := List.mem_of_getElem? (i := 1491) (by decide +kernel)
theorem qt_138 : (Cond.selects RX13 yX13_feed yX13_feed) ∈ lw_tbl := List.mem_of_getElem? (i := 1492) (by decide +kernel)
theorem qt_139 : (Cond.code yX13_feed cX13_feed 8 (some .int)) ∈ lw_tbl := List.mem_of_getElem? (i := 1493) (by decide +kernel)
theorem qt_140 : (Cond.fieldLink RX13 63 "YearSkinsModel" "thrown" "I") ∈ lw_tbl := List.mem_of_getElem? (i := 1374) (by decide +kernel)
theorem qt_141 : (Cond.fieldLink RX13 410 "YearSkinsModel" "taped" "I") ∈ lw_tbl := List.mem_of_getElem? (i := 1380) (by decide +kernel)
theorem qt_142 : (Cond.methodLink RL 24 yX11_land) ∈ lw_tbl := List.mem_of_getElem? (i := 525) (by decide +kernel)
theorem qt_143 : (Cond.instanceMethod yX11_land) ∈ lw_tbl := List.mem_of_getElem? (i := 526) (by decide +kernel)
theorem WLr_8 : ∀ w ∈ WL_8, w ∈ lw_tbl := List.forall_mem_cons.mpr ⟨qt_128, List.forall_mem_cons.mpr ⟨qt_129, List.forall_mem_cons.mpr ⟨qt_130, List.forall_mem_cons.mpr ⟨qt_131, List.forall_mem_cons.mpr ⟨qt_132, List.forall_mem_cons.mpr ⟨qt_133, List.forall_mem_cons.mpr ⟨qt_134, List.forall_mem_cons.mpr ⟨qt_135, List.forall_mem_cons.mpr ⟨qt_136, List.forall_mem_cons.mpr ⟨qt_137, List.forall_mem_cons.mpr ⟨qt_138, List.forall_mem_cons.mpr ⟨qt_139, List.forall_mem_cons.mpr ⟨qt_140, List.forall_mem_cons.mpr ⟨qt_141, List.forall_mem_cons.mpr ⟨qt_142, List.forall_mem_cons.mpr ⟨qt_143, fun _ h => absurd h List.not_mem_nil⟩⟩⟩⟩⟩⟩⟩⟩⟩⟩⟩⟩⟩⟩⟩⟩
def WL_9 : List Cond := [Cond.selects RX11 yX11_land yX11_land, Cond.code yX11_land cX11_land 3 (some .int), Cond.fieldLink RX11 87 "YearSkins$Reader" "fault" "I", Cond.fieldLink RX11 90 "YearSkins" "lastFault" "I", Cond.fieldLink RX11 93 "YearSkins$Reader" "place" "I", Cond.fieldLink RX11 96 "YearSkins" "faultPlace" "I", Cond.fieldLink RX11 106 "YearSkins" "told" "Z", Cond.fieldLink RX11 110 "YearSkins$Land" "houses" "I", Cond.methodLink RX11 79 yX11_refuse, Cond.instanceMethod yX11_refuse, Cond.selects RX11 yX11_refuse yX11_refuse, Cond.code yX11_refuse cX11_refuse 2 (some .int), Cond.fieldLink RX11 116 "YearSkins" "lastTrouble" "I", Cond.methodLink RX11 83 yX3_readAll, Cond.instanceMethod yX3_readAll, Cond.selects RX3 yX3_readAll yX3_readAll]
theorem qt_144 : (Cond.selects RX11 yX11_land yX11_land) ∈ lw_tbl := List.mem_of_getElem? (i := 527) (by decide +kernel)
theorem qt_145 : (Cond.code yX11_land cX11_land 3 (some .int)) ∈ lw_tbl := List.mem_of_getElem? (i := 528) (by decide +kernel)
theorem qt_146 : (Cond.fieldLink RX11 87 "YearSkins$Reader" "fault" "I") ∈ lw_tbl := List.mem_of_getElem? (i := 346) (by decide +kernel)
theorem qt_147 : (Cond.fieldLink RX11 90 "YearSkins" "lastFault" "I") ∈ lw_tbl := List.mem_of_getElem? (i := 482) (by decide +kernel)
theorem qt_148 : (Cond.fieldLink RX11 93 "YearSkins$Reader" "place" "I") ∈ lw_tbl := List.mem_of_getElem? (i := 348) (by decide +kernel)
theorem qt_149 : (Cond.fieldLink RX11 96 "YearSkins" "faultPlace" "I") ∈ lw_tbl := List.mem_of_getElem? (i := 483) (by decide +kernel)
theorem qt_150 : (Cond.fieldLink RX11 106 "YearSkins" "told" "Z") ∈ lw_tbl := List.mem_of_getElem? (i := 470) (by decide +kernel)
theorem qt_151 : (Cond.fieldLink RX11 110 "YearSkins$Land" "houses" "I") ∈ lw_tbl := List.mem_of_getElem? (i := 180) (by decide +kernel)
theorem qt_152 : (Cond.methodLink RX11 79 yX11_refuse) ∈ lw_tbl := List.mem_of_getElem? (i := 529) (by decide +kernel)
theorem qt_153 : (Cond.instanceMethod yX11_refuse) ∈ lw_tbl := List.mem_of_getElem? (i := 531) (by decide +kernel)
theorem qt_154 : (Cond.selects RX11 yX11_refuse yX11_refuse) ∈ lw_tbl := List.mem_of_getElem? (i := 1) (by decide +kernel)
theorem qt_155 : (Cond.code yX11_refuse cX11_refuse 2 (some .int)) ∈ lw_tbl := List.mem_of_getElem? (i := 532) (by decide +kernel)
theorem qt_156 : (Cond.fieldLink RX11 116 "YearSkins" "lastTrouble" "I") ∈ lw_tbl := List.mem_of_getElem? (i := 481) (by decide +kernel)
theorem qt_157 : (Cond.methodLink RX11 83 yX3_readAll) ∈ lw_tbl := List.mem_of_getElem? (i := 533) (by decide +kernel)
theorem qt_158 : (Cond.instanceMethod yX3_readAll) ∈ lw_tbl := List.mem_of_getElem? (i := 534) (by decide +kernel)
theorem qt_159 : (Cond.selects RX3 yX3_readAll yX3_readAll) ∈ lw_tbl := List.mem_of_getElem? (i := 535) (by decide +kernel)
theorem WLr_9 : ∀ w ∈ WL_9, w ∈ lw_tbl := List.forall_mem_cons.mpr ⟨qt_144, List.forall_mem_cons.mpr ⟨qt_145, List.forall_mem_cons.mpr ⟨qt_146, List.forall_mem_cons.mpr ⟨qt_147, List.forall_mem_cons.mpr ⟨qt_148, List.forall_mem_cons.mpr ⟨qt_149, List.forall_mem_cons.mpr ⟨qt_150, List.forall_mem_cons.mpr ⟨qt_151, List.forall_mem_cons.mpr ⟨qt_152, List.forall_mem_cons.mpr ⟨qt_153, List.forall_mem_cons.mpr ⟨qt_154, List.forall_mem_cons.mpr ⟨qt_155, List.forall_mem_cons.mpr ⟨qt_156, List.forall_mem_cons.mpr ⟨qt_157, List.forall_mem_cons.mpr ⟨qt_158, List.forall_mem_cons.mpr ⟨qt_159, fun _ h => absurd h List.not_mem_nil⟩⟩⟩⟩⟩⟩⟩⟩⟩⟩⟩⟩⟩⟩⟩⟩
def WL_10 : List Cond := [Cond.code yX3_readAll cX3_readAll 6 none, Cond.fieldLink RX3 29 "YearSkins$Reader" "land" "LYearSkins$Land;", Cond.fieldLink RX3 33 "YearSkins$Reader" "state" "LYearSkins$State;", Cond.fieldLink RX3 45 "YearSkins$Reader" "fault" "I", Cond.fieldLink RX3 49 "YearSkins$Reader" "place" "I", Cond.fieldLink RX3 52 "YearSkins$Reader" "landTold" "Z", Cond.fieldLink RX3 56 "YearSkins$Reader" "yearsTold" "Z", Cond.fieldLink RX3 59 "YearSkins$Reader" "waters" "I", Cond.fieldLink RX3 62 "YearSkins$Reader" "olders" "I", Cond.fieldLink RX3 65 "YearSkins$Reader" "named" "I", Cond.fieldLink RX3 75 "YearSkins$Tokens" "kind" "I", Cond.fieldLink RX3 82 "YearSkins$Land" "stones" "I", Cond.fieldLink RX3 85 "YearSkins$Land" "houses" "I", Cond.methodLink RX3 37 yX1_clear, Cond.instanceMethod yX1_clear, Cond.selects RX1 yX1_clear yX1_clear]
theorem qt_160 : (Cond.code yX3_readAll cX3_readAll 6 none) ∈ lw_tbl := List.mem_of_getElem? (i := 536) (by decide +kernel)
theorem qt_161 : (Cond.fieldLink RX3 29 "YearSkins$Reader" "land" "LYearSkins$Land;") ∈ lw_tbl := List.mem_of_getElem? (i := 343) (by decide +kernel)
theorem qt_162 : (Cond.fieldLink RX3 33 "YearSkins$Reader" "state" "LYearSkins$State;") ∈ lw_tbl := List.mem_of_getElem? (i := 344) (by decide +kernel)
theorem qt_163 : (Cond.fieldLink RX3 45 "YearSkins$Reader" "fault" "I") ∈ lw_tbl := List.mem_of_getElem? (i := 345) (by decide +kernel)
theorem qt_164 : (Cond.fieldLink RX3 49 "YearSkins$Reader" "place" "I") ∈ lw_tbl := List.mem_of_getElem? (i := 347) (by decide +kernel)
theorem qt_165 : (Cond.fieldLink RX3 52 "YearSkins$Reader" "landTold" "Z") ∈ lw_tbl := List.mem_of_getElem? (i := 349) (by decide +kernel)
theorem qt_166 : (Cond.fieldLink RX3 56 "YearSkins$Reader" "yearsTold" "Z") ∈ lw_tbl := List.mem_of_getElem? (i := 350) (by decide +kernel)
theorem qt_167 : (Cond.fieldLink RX3 59 "YearSkins$Reader" "waters" "I") ∈ lw_tbl := List.mem_of_getElem? (i := 351) (by decide +kernel)
theorem qt_168 : (Cond.fieldLink RX3 62 "YearSkins$Reader" "olders" "I") ∈ lw_tbl := List.mem_of_getElem? (i := 352) (by decide +kernel)
theorem qt_169 : (Cond.fieldLink RX3 65 "YearSkins$Reader" "named" "I") ∈ lw_tbl := List.mem_of_getElem? (i := 356) (by decide +kernel)
theorem qt_170 : (Cond.fieldLink RX3 75 "YearSkins$Tokens" "kind" "I") ∈ lw_tbl := List.mem_of_getElem? (i := 315) (by decide +kernel)
theorem qt_171 : (Cond.fieldLink RX3 82 "YearSkins$Land" "stones" "I") ∈ lw_tbl := List.mem_of_getElem? (i := 173) (by decide +kernel)
theorem qt_172 : (Cond.fieldLink RX3 85 "YearSkins$Land" "houses" "I") ∈ lw_tbl := List.mem_of_getElem? (i := 179) (by decide +kernel)
theorem qt_173 : (Cond.methodLink RX3 37 yX1_clear) ∈ lw_tbl := List.mem_of_getElem? (i := 537) (by decide +kernel)
theorem qt_174 : (Cond.instanceMethod yX1_clear) ∈ lw_tbl := List.mem_of_getElem? (i := 538) (by decide +kernel)
theorem qt_175 : (Cond.selects RX1 yX1_clear yX1_clear) ∈ lw_tbl := List.mem_of_getElem? (i := 539) (by decide +kernel)
theorem WLr_10 : ∀ w ∈ WL_10, w ∈ lw_tbl := List.forall_mem_cons.mpr ⟨qt_160, List.forall_mem_cons.mpr ⟨qt_161, List.forall_mem_cons.mpr ⟨qt_162, List.forall_mem_cons.mpr ⟨qt_163, List.forall_mem_cons.mpr ⟨qt_164, List.forall_mem_cons.mpr ⟨qt_165, List.forall_mem_cons.mpr ⟨qt_166, List.forall_mem_cons.mpr ⟨qt_167, List.forall_mem_cons.mpr ⟨qt_168, List.forall_mem_cons.mpr ⟨qt_169, List.forall_mem_cons.mpr ⟨qt_170, List.forall_mem_cons.mpr ⟨qt_171, List.forall_mem_cons.mpr ⟨qt_172, List.forall_mem_cons.mpr ⟨qt_173, List.forall_mem_cons.mpr ⟨qt_174, List.forall_mem_cons.mpr ⟨qt_175, fun _ h => absurd h List.not_mem_nil⟩⟩⟩⟩⟩⟩⟩⟩⟩⟩⟩⟩⟩⟩⟩⟩
def WL_11 : List Cond := [Cond.code yX1_clear cX1_clear 2 none, Cond.fieldLink RX1 40 "YearSkins$Land" "wide" "I", Cond.fieldLink RX1 44 "YearSkins$Land" "high" "I", Cond.fieldLink RX1 47 "YearSkins$Land" "stones" "I", Cond.fieldLink RX1 50 "YearSkins$Land" "houses" "I", Cond.fieldLink RX1 53 "YearSkins$Land" "heirs" "I", Cond.fieldLink RX1 56 "YearSkins$Land" "walls" "I", Cond.methodLink RX3 42 yX7_clear, Cond.instanceMethod yX7_clear, Cond.selects RX7 yX7_clear yX7_clear, Cond.code yX7_clear cX7_clear 2 none, Cond.fieldLink RX7 27 "YearSkins$State" "year" "I", Cond.fieldLink RX7 31 "YearSkins$State" "seed" "I", Cond.methodLink RX3 68 yX8_begin, Cond.instanceMethod yX8_begin, Cond.selects RX8 yX8_begin yX8_begin]
theorem qt_176 : (Cond.code yX1_clear cX1_clear 2 none) ∈ lw_tbl := List.mem_of_getElem? (i := 540) (by decide +kernel)
theorem qt_177 : (Cond.fieldLink RX1 40 "YearSkins$Land" "wide" "I") ∈ lw_tbl := List.mem_of_getElem? (i := 153) (by decide +kernel)
theorem qt_178 : (Cond.fieldLink RX1 44 "YearSkins$Land" "high" "I") ∈ lw_tbl := List.mem_of_getElem? (i := 156) (by decide +kernel)
theorem qt_179 : (Cond.fieldLink RX1 47 "YearSkins$Land" "stones" "I") ∈ lw_tbl := List.mem_of_getElem? (i := 172) (by decide +kernel)
theorem qt_180 : (Cond.fieldLink RX1 50 "YearSkins$Land" "houses" "I") ∈ lw_tbl := List.mem_of_getElem? (i := 178) (by decide +kernel)
theorem qt_181 : (Cond.fieldLink RX1 53 "YearSkins$Land" "heirs" "I") ∈ lw_tbl := List.mem_of_getElem? (i := 193) (by decide +kernel)
theorem qt_182 : (Cond.fieldLink RX1 56 "YearSkins$Land" "walls" "I") ∈ lw_tbl := List.mem_of_getElem? (i := 199) (by decide +kernel)
theorem qt_183 : (Cond.methodLink RX3 42 yX7_clear) ∈ lw_tbl := List.mem_of_getElem? (i := 541) (by decide +kernel)
theorem qt_184 : (Cond.instanceMethod yX7_clear) ∈ lw_tbl := List.mem_of_getElem? (i := 542) (by decide +kernel)
theorem qt_185 : (Cond.selects RX7 yX7_clear yX7_clear) ∈ lw_tbl := List.mem_of_getElem? (i := 543) (by decide +kernel)
theorem qt_186 : (Cond.code yX7_clear cX7_clear 2 none) ∈ lw_tbl := List.mem_of_getElem? (i := 544) (by decide +kernel)
theorem qt_187 : (Cond.fieldLink RX7 27 "YearSkins$State" "year" "I") ∈ lw_tbl := List.mem_of_getElem? (i := 261) (by decide +kernel)
theorem qt_188 : (Cond.fieldLink RX7 31 "YearSkins$State" "seed" "I") ∈ lw_tbl := List.mem_of_getElem? (i := 265) (by decide +kernel)
theorem qt_189 : (Cond.methodLink RX3 68 yX8_begin) ∈ lw_tbl := List.mem_of_getElem? (i := 545) (by decide +kernel)
theorem qt_190 : (Cond.instanceMethod yX8_begin) ∈ lw_tbl := List.mem_of_getElem? (i := 546) (by decide +kernel)
theorem qt_191 : (Cond.selects RX8 yX8_begin yX8_begin) ∈ lw_tbl := List.mem_of_getElem? (i := 547) (by decide +kernel)
theorem WLr_11 : ∀ w ∈ WL_11, w ∈ lw_tbl := List.forall_mem_cons.mpr ⟨qt_176, List.forall_mem_cons.mpr ⟨qt_177, List.forall_mem_cons.mpr ⟨qt_178, List.forall_mem_cons.mpr ⟨qt_179, List.forall_mem_cons.mpr ⟨qt_180, List.forall_mem_cons.mpr ⟨qt_181, List.forall_mem_cons.mpr ⟨qt_182, List.forall_mem_cons.mpr ⟨qt_183, List.forall_mem_cons.mpr ⟨qt_184, List.forall_mem_cons.mpr ⟨qt_185, List.forall_mem_cons.mpr ⟨qt_186, List.forall_mem_cons.mpr ⟨qt_187, List.forall_mem_cons.mpr ⟨qt_188, List.forall_mem_cons.mpr ⟨qt_189, List.forall_mem_cons.mpr ⟨qt_190, List.forall_mem_cons.mpr ⟨qt_191, fun _ h => absurd h List.not_mem_nil⟩⟩⟩⟩⟩⟩⟩⟩⟩⟩⟩⟩⟩⟩⟩⟩
def WL_12 : List Cond := [Cond.code yX8_begin cX8_begin 3 none, Cond.fieldLink RX8 9 "YearSkins$Tokens" "tape" "[I", Cond.fieldLink RX8 15 "YearSkins$Tokens" "end" "I", Cond.fieldLink RX8 19 "YearSkins$Tokens" "at" "I", Cond.methodLink RX8 22 yX8_advance, Cond.instanceMethod yX8_advance, Cond.selects RX8 yX8_advance yX8_advance, Cond.code yX8_advance cX8_advance 2 none, Cond.fieldLink RX8 25 "YearSkins$Tokens" "start" "I", Cond.fieldLink RX8 28 "YearSkins$Tokens" "last" "I", Cond.fieldLink RX8 35 "YearSkins$Tokens" "kind" "I", Cond.fieldLink RX8 51 "YearSkins$Tokens" "value" "I", Cond.methodLink RX8 31 yX8_byteAt, Cond.instanceMethod yX8_byteAt, Cond.selects RX8 yX8_byteAt yX8_byteAt, Cond.code yX8_byteAt cX8_byteAt 2 (some .int)]
theorem qt_192 : (Cond.code yX8_begin cX8_begin 3 none) ∈ lw_tbl := List.mem_of_getElem? (i := 548) (by decide +kernel)
theorem qt_193 : (Cond.fieldLink RX8 9 "YearSkins$Tokens" "tape" "[I") ∈ lw_tbl := List.mem_of_getElem? (i := 312) (by decide +kernel)
theorem qt_194 : (Cond.fieldLink RX8 15 "YearSkins$Tokens" "end" "I") ∈ lw_tbl := List.mem_of_getElem? (i := 313) (by decide +kernel)
theorem qt_195 : (Cond.fieldLink RX8 19 "YearSkins$Tokens" "at" "I") ∈ lw_tbl := List.mem_of_getElem? (i := 314) (by decide +kernel)
theorem qt_196 : (Cond.methodLink RX8 22 yX8_advance) ∈ lw_tbl := List.mem_of_getElem? (i := 549) (by decide +kernel)
theorem qt_197 : (Cond.instanceMethod yX8_advance) ∈ lw_tbl := List.mem_of_getElem? (i := 550) (by decide +kernel)
theorem qt_198 : (Cond.selects RX8 yX8_advance yX8_advance) ∈ lw_tbl := List.mem_of_getElem? (i := 551) (by decide +kernel)
theorem qt_199 : (Cond.code yX8_advance cX8_advance 2 none) ∈ lw_tbl := List.mem_of_getElem? (i := 552) (by decide +kernel)
theorem qt_200 : (Cond.fieldLink RX8 25 "YearSkins$Tokens" "start" "I") ∈ lw_tbl := List.mem_of_getElem? (i := 318) (by decide +kernel)
theorem qt_201 : (Cond.fieldLink RX8 28 "YearSkins$Tokens" "last" "I") ∈ lw_tbl := List.mem_of_getElem? (i := 319) (by decide +kernel)
theorem qt_202 : (Cond.fieldLink RX8 35 "YearSkins$Tokens" "kind" "I") ∈ lw_tbl := List.mem_of_getElem? (i := 316) (by decide +kernel)
theorem qt_203 : (Cond.fieldLink RX8 51 "YearSkins$Tokens" "value" "I") ∈ lw_tbl := List.mem_of_getElem? (i := 321) (by decide +kernel)
theorem qt_204 : (Cond.methodLink RX8 31 yX8_byteAt) ∈ lw_tbl := List.mem_of_getElem? (i := 553) (by decide +kernel)
theorem qt_205 : (Cond.instanceMethod yX8_byteAt) ∈ lw_tbl := List.mem_of_getElem? (i := 555) (by decide +kernel)
theorem qt_206 : (Cond.selects RX8 yX8_byteAt yX8_byteAt) ∈ lw_tbl := List.mem_of_getElem? (i := 2) (by decide +kernel)
theorem qt_207 : (Cond.code yX8_byteAt cX8_byteAt 2 (some .int)) ∈ lw_tbl := List.mem_of_getElem? (i := 556) (by decide +kernel)
theorem WLr_12 : ∀ w ∈ WL_12, w ∈ lw_tbl := List.forall_mem_cons.mpr ⟨qt_192, List.forall_mem_cons.mpr ⟨qt_193, List.forall_mem_cons.mpr ⟨qt_194, List.forall_mem_cons.mpr ⟨qt_195, List.forall_mem_cons.mpr ⟨qt_196, List.forall_mem_cons.mpr ⟨qt_197, List.forall_mem_cons.mpr ⟨qt_198, List.forall_mem_cons.mpr ⟨qt_199, List.forall_mem_cons.mpr ⟨qt_200, List.forall_mem_cons.mpr ⟨qt_201, List.forall_mem_cons.mpr ⟨qt_202, List.forall_mem_cons.mpr ⟨qt_203, List.forall_mem_cons.mpr ⟨qt_204, List.forall_mem_cons.mpr ⟨qt_205, List.forall_mem_cons.mpr ⟨qt_206, List.forall_mem_cons.mpr ⟨qt_207, fun _ h => absurd h List.not_mem_nil⟩⟩⟩⟩⟩⟩⟩⟩⟩⟩⟩⟩⟩⟩⟩⟩
def WL_13 : List Cond := [Cond.methodLink RX8 38 yX8_isLetter, Cond.static yX8_isLetter, Cond.code yX8_isLetter cX8_isLetter 1 (some .boolean), Cond.methodLink RX8 42 yX8_takeWord, Cond.instanceMethod yX8_takeWord, Cond.selects RX8 yX8_takeWord yX8_takeWord, Cond.code yX8_takeWord cX8_takeWord 1 none, Cond.fieldLink RX8 54 "YearSkins$Tokens" "letters" "J", Cond.methodLink RX8 45 yX8_isDigit, Cond.static yX8_isDigit, Cond.code yX8_isDigit cX8_isDigit 1 (some .boolean), Cond.methodLink RX8 48 yX8_takeWhole, Cond.instanceMethod yX8_takeWhole, Cond.selects RX8 yX8_takeWhole yX8_takeWhole, Cond.code yX8_takeWhole cX8_takeWhole 1 none, Cond.methodLink RX3 72 yX3_readLine]
theorem qt_208 : (Cond.methodLink RX8 38 yX8_isLetter) ∈ lw_tbl := List.mem_of_getElem? (i := 557) (by decide +kernel)
theorem qt_209 : (Cond.static yX8_isLetter) ∈ lw_tbl := List.mem_of_getElem? (i := 558) (by decide +kernel)
theorem qt_210 : (Cond.code yX8_isLetter cX8_isLetter 1 (some .boolean)) ∈ lw_tbl := List.mem_of_getElem? (i := 559) (by decide +kernel)
theorem qt_211 : (Cond.methodLink RX8 42 yX8_takeWord) ∈ lw_tbl := List.mem_of_getElem? (i := 560) (by decide +kernel)
theorem qt_212 : (Cond.instanceMethod yX8_takeWord) ∈ lw_tbl := List.mem_of_getElem? (i := 562) (by decide +kernel)
theorem qt_213 : (Cond.selects RX8 yX8_takeWord yX8_takeWord) ∈ lw_tbl := List.mem_of_getElem? (i := 3) (by decide +kernel)
theorem qt_214 : (Cond.code yX8_takeWord cX8_takeWord 1 none) ∈ lw_tbl := List.mem_of_getElem? (i := 563) (by decide +kernel)
theorem qt_215 : (Cond.fieldLink RX8 54 "YearSkins$Tokens" "letters" "J") ∈ lw_tbl := List.mem_of_getElem? (i := 323) (by decide +kernel)
theorem qt_216 : (Cond.methodLink RX8 45 yX8_isDigit) ∈ lw_tbl := List.mem_of_getElem? (i := 564) (by decide +kernel)
theorem qt_217 : (Cond.static yX8_isDigit) ∈ lw_tbl := List.mem_of_getElem? (i := 565) (by decide +kernel)
theorem qt_218 : (Cond.code yX8_isDigit cX8_isDigit 1 (some .boolean)) ∈ lw_tbl := List.mem_of_getElem? (i := 566) (by decide +kernel)
theorem qt_219 : (Cond.methodLink RX8 48 yX8_takeWhole) ∈ lw_tbl := List.mem_of_getElem? (i := 567) (by decide +kernel)
theorem qt_220 : (Cond.instanceMethod yX8_takeWhole) ∈ lw_tbl := List.mem_of_getElem? (i := 569) (by decide +kernel)
theorem qt_221 : (Cond.selects RX8 yX8_takeWhole yX8_takeWhole) ∈ lw_tbl := List.mem_of_getElem? (i := 4) (by decide +kernel)
theorem qt_222 : (Cond.code yX8_takeWhole cX8_takeWhole 1 none) ∈ lw_tbl := List.mem_of_getElem? (i := 570) (by decide +kernel)
theorem qt_223 : (Cond.methodLink RX3 72 yX3_readLine) ∈ lw_tbl := List.mem_of_getElem? (i := 571) (by decide +kernel)
theorem WLr_13 : ∀ w ∈ WL_13, w ∈ lw_tbl := List.forall_mem_cons.mpr ⟨qt_208, List.forall_mem_cons.mpr ⟨qt_209, List.forall_mem_cons.mpr ⟨qt_210, List.forall_mem_cons.mpr ⟨qt_211, List.forall_mem_cons.mpr ⟨qt_212, List.forall_mem_cons.mpr ⟨qt_213, List.forall_mem_cons.mpr ⟨qt_214, List.forall_mem_cons.mpr ⟨qt_215, List.forall_mem_cons.mpr ⟨qt_216, List.forall_mem_cons.mpr ⟨qt_217, List.forall_mem_cons.mpr ⟨qt_218, List.forall_mem_cons.mpr ⟨qt_219, List.forall_mem_cons.mpr ⟨qt_220, List.forall_mem_cons.mpr ⟨qt_221, List.forall_mem_cons.mpr ⟨qt_222, List.forall_mem_cons.mpr ⟨qt_223, fun _ h => absurd h List.not_mem_nil⟩⟩⟩⟩⟩⟩⟩⟩⟩⟩⟩⟩⟩⟩⟩⟩
def WL_14 : List Cond := [Cond.instanceMethod yX3_readLine, Cond.selects RX3 yX3_readLine yX3_readLine, Cond.code yX3_readLine cX3_readLine 2 none, Cond.fieldLink RX3 96 "YearSkins$Tokens" "start" "I", Cond.fieldLink RX3 133 "YearSkins$Land" "coins" "[I", Cond.fieldLink RX3 136 "YearSkins$Land" "smells" "[I", Cond.methodLink RX3 92 yX3_lineSort, Cond.instanceMethod yX3_lineSort, Cond.selects RX3 yX3_lineSort yX3_lineSort, Cond.code yX3_lineSort cX3_lineSort 1 (some .int), Cond.methodLink RX3 151 yX8_isWord, Cond.instanceMethod yX8_isWord, Cond.selects RX8 yX8_isWord yX8_isWord, Cond.code yX8_isWord cX8_isWord 4 (some .boolean), Cond.methodLink RX8 58 yJ0_length_8abf5, Cond.instanceMethod yJ0_length_8abf5]
theorem qt_224 : (Cond.instanceMethod yX3_readLine) ∈ lw_tbl := List.mem_of_getElem? (i := 573) (by decide +kernel)
theorem qt_225 : (Cond.selects RX3 yX3_readLine yX3_readLine) ∈ lw_tbl := List.mem_of_getElem? (i := 5) (by decide +kernel)
theorem qt_226 : (Cond.code yX3_readLine cX3_readLine 2 none) ∈ lw_tbl := List.mem_of_getElem? (i := 574) (by decide +kernel)
theorem qt_227 : (Cond.fieldLink RX3 96 "YearSkins$Tokens" "start" "I") ∈ lw_tbl := List.mem_of_getElem? (i := 317) (by decide +kernel)
theorem qt_228 : (Cond.fieldLink RX3 133 "YearSkins$Land" "coins" "[I") ∈ lw_tbl := List.mem_of_getElem? (i := 208) (by decide +kernel)
theorem qt_229 : (Cond.fieldLink RX3 136 "YearSkins$Land" "smells" "[I") ∈ lw_tbl := List.mem_of_getElem? (i := 210) (by decide +kernel)
theorem qt_230 : (Cond.methodLink RX3 92 yX3_lineSort) ∈ lw_tbl := List.mem_of_getElem? (i := 575) (by decide +kernel)
theorem qt_231 : (Cond.instanceMethod yX3_lineSort) ∈ lw_tbl := List.mem_of_getElem? (i := 577) (by decide +kernel)
theorem qt_232 : (Cond.selects RX3 yX3_lineSort yX3_lineSort) ∈ lw_tbl := List.mem_of_getElem? (i := 6) (by decide +kernel)
theorem qt_233 : (Cond.code yX3_lineSort cX3_lineSort 1 (some .int)) ∈ lw_tbl := List.mem_of_getElem? (i := 578) (by decide +kernel)
theorem qt_234 : (Cond.methodLink RX3 151 yX8_isWord) ∈ lw_tbl := List.mem_of_getElem? (i := 580) (by decide +kernel)
theorem qt_235 : (Cond.instanceMethod yX8_isWord) ∈ lw_tbl := List.mem_of_getElem? (i := 581) (by decide +kernel)
theorem qt_236 : (Cond.selects RX8 yX8_isWord yX8_isWord) ∈ lw_tbl := List.mem_of_getElem? (i := 582) (by decide +kernel)
theorem qt_237 : (Cond.code yX8_isWord cX8_isWord 4 (some .boolean)) ∈ lw_tbl := List.mem_of_getElem? (i := 583) (by decide +kernel)
theorem qt_238 : (Cond.methodLink RX8 58 yJ0_length_8abf5) ∈ lw_tbl := List.mem_of_getElem? (i := 584) (by decide +kernel)
theorem qt_239 : (Cond.instanceMethod yJ0_length_8abf5) ∈ lw_tbl := List.mem_of_getElem? (i := 585) (by decide +kernel)
theorem WLr_14 : ∀ w ∈ WL_14, w ∈ lw_tbl := List.forall_mem_cons.mpr ⟨qt_224, List.forall_mem_cons.mpr ⟨qt_225, List.forall_mem_cons.mpr ⟨qt_226, List.forall_mem_cons.mpr ⟨qt_227, List.forall_mem_cons.mpr ⟨qt_228, List.forall_mem_cons.mpr ⟨qt_229, List.forall_mem_cons.mpr ⟨qt_230, List.forall_mem_cons.mpr ⟨qt_231, List.forall_mem_cons.mpr ⟨qt_232, List.forall_mem_cons.mpr ⟨qt_233, List.forall_mem_cons.mpr ⟨qt_234, List.forall_mem_cons.mpr ⟨qt_235, List.forall_mem_cons.mpr ⟨qt_236, List.forall_mem_cons.mpr ⟨qt_237, List.forall_mem_cons.mpr ⟨qt_238, List.forall_mem_cons.mpr ⟨qt_239, fun _ h => absurd h List.not_mem_nil⟩⟩⟩⟩⟩⟩⟩⟩⟩⟩⟩⟩⟩⟩⟩⟩
def WL_15 : List Cond := [Cond.selects RJ0 yJ0_length_8abf5 yJ0_length_8abf5, Cond.initialized RJ0, Cond.code yJ0_length_8abf5 cJ0_length_8abf5 1 (some .int), Cond.fieldLink RJ0 9 "java/lang/String" "value" "[B", Cond.methodLink RJ0 335 yJ0_coder_7d493, Cond.instanceMethod yJ0_coder_7d493, Cond.selects RJ0 yJ0_coder_7d493 yJ0_coder_7d493, Cond.code yJ0_coder_7d493 cJ0_coder_7d493 1 (some .byte), Cond.fieldLink RJ0 38 "java/lang/String" "COMPACT_STRINGS" "Z", Cond.fieldLink RJ0 15 "java/lang/String" "coder" "B", Cond.methodLink RX8 64 yJ0_charAt_5068e, Cond.instanceMethod yJ0_charAt_5068e, Cond.selects RJ0 yJ0_charAt_5068e yJ0_charAt_5068e, Cond.code yJ0_charAt_5068e cJ0_charAt_5068e 2 (some .char), Cond.methodLink RJ0 492 yJ0_isLatin1_aae02, Cond.instanceMethod yJ0_isLatin1_aae02]
theorem qt_240 : (Cond.selects RJ0 yJ0_length_8abf5 yJ0_length_8abf5) ∈ lw_tbl := List.mem_of_getElem? (i := 586) (by decide +kernel)
theorem qt_241 : (Cond.initialized RJ0) ∈ lw_tbl := List.mem_of_getElem? (i := 124) (by decide +kernel)
theorem qt_242 : (Cond.code yJ0_length_8abf5 cJ0_length_8abf5 1 (some .int)) ∈ lw_tbl := List.mem_of_getElem? (i := 587) (by decide +kernel)
theorem qt_243 : (Cond.fieldLink RJ0 9 "java/lang/String" "value" "[B") ∈ lw_tbl := List.mem_of_getElem? (i := 2234) (by decide +kernel)
theorem qt_244 : (Cond.methodLink RJ0 335 yJ0_coder_7d493) ∈ lw_tbl := List.mem_of_getElem? (i := 588) (by decide +kernel)
theorem qt_245 : (Cond.instanceMethod yJ0_coder_7d493) ∈ lw_tbl := List.mem_of_getElem? (i := 589) (by decide +kernel)
theorem qt_246 : (Cond.selects RJ0 yJ0_coder_7d493 yJ0_coder_7d493) ∈ lw_tbl := List.mem_of_getElem? (i := 590) (by decide +kernel)
theorem qt_247 : (Cond.code yJ0_coder_7d493 cJ0_coder_7d493 1 (some .byte)) ∈ lw_tbl := List.mem_of_getElem? (i := 591) (by decide +kernel)
theorem qt_248 : (Cond.fieldLink RJ0 38 "java/lang/String" "COMPACT_STRINGS" "Z") ∈ lw_tbl := List.mem_of_getElem? (i := 592) (by decide +kernel)
theorem qt_249 : (Cond.fieldLink RJ0 15 "java/lang/String" "coder" "B") ∈ lw_tbl := List.mem_of_getElem? (i := 2235) (by decide +kernel)
theorem qt_250 : (Cond.methodLink RX8 64 yJ0_charAt_5068e) ∈ lw_tbl := List.mem_of_getElem? (i := 594) (by decide +kernel)
theorem qt_251 : (Cond.instanceMethod yJ0_charAt_5068e) ∈ lw_tbl := List.mem_of_getElem? (i := 595) (by decide +kernel)
theorem qt_252 : (Cond.selects RJ0 yJ0_charAt_5068e yJ0_charAt_5068e) ∈ lw_tbl := List.mem_of_getElem? (i := 596) (by decide +kernel)
theorem qt_253 : (Cond.code yJ0_charAt_5068e cJ0_charAt_5068e 2 (some .char)) ∈ lw_tbl := List.mem_of_getElem? (i := 597) (by decide +kernel)
theorem qt_254 : (Cond.methodLink RJ0 492 yJ0_isLatin1_aae02) ∈ lw_tbl := List.mem_of_getElem? (i := 598) (by decide +kernel)
theorem qt_255 : (Cond.instanceMethod yJ0_isLatin1_aae02) ∈ lw_tbl := List.mem_of_getElem? (i := 599) (by decide +kernel)
theorem WLr_15 : ∀ w ∈ WL_15, w ∈ lw_tbl := List.forall_mem_cons.mpr ⟨qt_240, List.forall_mem_cons.mpr ⟨qt_241, List.forall_mem_cons.mpr ⟨qt_242, List.forall_mem_cons.mpr ⟨qt_243, List.forall_mem_cons.mpr ⟨qt_244, List.forall_mem_cons.mpr ⟨qt_245, List.forall_mem_cons.mpr ⟨qt_246, List.forall_mem_cons.mpr ⟨qt_247, List.forall_mem_cons.mpr ⟨qt_248, List.forall_mem_cons.mpr ⟨qt_249, List.forall_mem_cons.mpr ⟨qt_250, List.forall_mem_cons.mpr ⟨qt_251, List.forall_mem_cons.mpr ⟨qt_252, List.forall_mem_cons.mpr ⟨qt_253, List.forall_mem_cons.mpr ⟨qt_254, List.forall_mem_cons.mpr ⟨qt_255, fun _ h => absurd h List.not_mem_nil⟩⟩⟩⟩⟩⟩⟩⟩⟩⟩⟩⟩⟩⟩⟩⟩
def WL_16 : List Cond := [Cond.selects RJ0 yJ0_isLatin1_aae02 yJ0_isLatin1_aae02, Cond.code yJ0_isLatin1_aae02 cJ0_isLatin1_aae02 1 (some .boolean), Cond.methodLink RJ0 495 yJ1_charAt_3b067, Cond.static yJ1_charAt_3b067, Cond.initialized RJ1, Cond.code yJ1_charAt_3b067 cJ1_charAt_3b067 2 (some .char), Cond.methodLink RJ1 9 yJ0_checkIndex_df160, Cond.static yJ0_checkIndex_df160, Cond.code yJ0_checkIndex_df160 cJ0_checkIndex_df160 2 none, Cond.fieldLink RJ0 1053 "jdk/internal/util/Preconditions" "SIOOBE_FORMATTER" "Ljava/util/function/BiFunction;", Cond.methodLink RJ0 1059 yJ3_checkIndex_8e157, Cond.static yJ3_checkIndex_8e157, Cond.initialized RJ3, Cond.code yJ3_checkIndex_8e157 cJ3_checkIndex_8e157 3 (some .int), Cond.methodLink RJ0 498 yJ2_charAt_3b067, Cond.static yJ2_charAt_3b067]
theorem qt_256 : (Cond.selects RJ0 yJ0_isLatin1_aae02 yJ0_isLatin1_aae02) ∈ lw_tbl := List.mem_of_getElem? (i := 600) (by decide +kernel)
theorem qt_257 : (Cond.code yJ0_isLatin1_aae02 cJ0_isLatin1_aae02 1 (some .boolean)) ∈ lw_tbl := List.mem_of_getElem? (i := 601) (by decide +kernel)
theorem qt_258 : (Cond.methodLink RJ0 495 yJ1_charAt_3b067) ∈ lw_tbl := List.mem_of_getElem? (i := 602) (by decide +kernel)
theorem qt_259 : (Cond.static yJ1_charAt_3b067) ∈ lw_tbl := List.mem_of_getElem? (i := 603) (by decide +kernel)
theorem qt_260 : (Cond.initialized RJ1) ∈ lw_tbl := List.mem_of_getElem? (i := 125) (by decide +kernel)
theorem qt_261 : (Cond.code yJ1_charAt_3b067 cJ1_charAt_3b067 2 (some .char)) ∈ lw_tbl := List.mem_of_getElem? (i := 604) (by decide +kernel)
theorem qt_262 : (Cond.methodLink RJ1 9 yJ0_checkIndex_df160) ∈ lw_tbl := List.mem_of_getElem? (i := 605) (by decide +kernel)
theorem qt_263 : (Cond.static yJ0_checkIndex_df160) ∈ lw_tbl := List.mem_of_getElem? (i := 606) (by decide +kernel)
theorem qt_264 : (Cond.code yJ0_checkIndex_df160 cJ0_checkIndex_df160 2 none) ∈ lw_tbl := List.mem_of_getElem? (i := 607) (by decide +kernel)
theorem qt_265 : (Cond.fieldLink RJ0 1053 "jdk/internal/util/Preconditions" "SIOOBE_FORMATTER" "Ljava/util/function/BiFunction;") ∈ lw_tbl := List.mem_of_getElem? (i := 608) (by decide +kernel)
theorem qt_266 : (Cond.methodLink RJ0 1059 yJ3_checkIndex_8e157) ∈ lw_tbl := List.mem_of_getElem? (i := 610) (by decide +kernel)
theorem qt_267 : (Cond.static yJ3_checkIndex_8e157) ∈ lw_tbl := List.mem_of_getElem? (i := 611) (by decide +kernel)
theorem qt_268 : (Cond.initialized RJ3) ∈ lw_tbl := List.mem_of_getElem? (i := 126) (by decide +kernel)
theorem qt_269 : (Cond.code yJ3_checkIndex_8e157 cJ3_checkIndex_8e157 3 (some .int)) ∈ lw_tbl := List.mem_of_getElem? (i := 612) (by decide +kernel)
theorem qt_270 : (Cond.methodLink RJ0 498 yJ2_charAt_3b067) ∈ lw_tbl := List.mem_of_getElem? (i := 613) (by decide +kernel)
theorem qt_271 : (Cond.static yJ2_charAt_3b067) ∈ lw_tbl := List.mem_of_getElem? (i := 614) (by decide +kernel)
theorem WLr_16 : ∀ w ∈ WL_16, w ∈ lw_tbl := List.forall_mem_cons.mpr ⟨qt_256, List.forall_mem_cons.mpr ⟨qt_257, List.forall_mem_cons.mpr ⟨qt_258, List.forall_mem_cons.mpr ⟨qt_259, List.forall_mem_cons.mpr ⟨qt_260, List.forall_mem_cons.mpr ⟨qt_261, List.forall_mem_cons.mpr ⟨qt_262, List.forall_mem_cons.mpr ⟨qt_263, List.forall_mem_cons.mpr ⟨qt_264, List.forall_mem_cons.mpr ⟨qt_265, List.forall_mem_cons.mpr ⟨qt_266, List.forall_mem_cons.mpr ⟨qt_267, List.forall_mem_cons.mpr ⟨qt_268, List.forall_mem_cons.mpr ⟨qt_269, List.forall_mem_cons.mpr ⟨qt_270, List.forall_mem_cons.mpr ⟨qt_271, fun _ h => absurd h List.not_mem_nil⟩⟩⟩⟩⟩⟩⟩⟩⟩⟩⟩⟩⟩⟩⟩⟩
def WL_17 : List Cond := [Cond.initialized RJ2, Cond.code yJ2_charAt_3b067 cJ2_charAt_3b067 2 (some .char), Cond.methodLink RJ2 67 yJ2_checkIndex_2214a, Cond.static yJ2_checkIndex_2214a, Cond.code yJ2_checkIndex_2214a cJ2_checkIndex_2214a 2 none, Cond.methodLink RJ2 48 yJ2_length_9d52b, Cond.static yJ2_length_9d52b, Cond.code yJ2_length_9d52b cJ2_length_9d52b 1 (some .int), Cond.methodLink RJ2 414 yJ0_checkIndex_df160, Cond.methodLink RJ2 71 yJ2_getChar_3b067, Cond.static yJ2_getChar_3b067, Cond.code yJ2_getChar_3b067 cJ2_getChar_3b067 2 (some .char), Cond.fieldLink RJ2 44 "java/lang/StringUTF16" "$assertionsDisabled" "Z", Cond.fieldLink RJ2 59 "java/lang/StringUTF16" "HI_BYTE_SHIFT" "I", Cond.fieldLink RJ2 63 "java/lang/StringUTF16" "LO_BYTE_SHIFT" "I", Cond.methodLink RX3 88 yX3_fail]
theorem qt_272 : (Cond.initialized RJ2) ∈ lw_tbl := List.mem_of_getElem? (i := 127) (by decide +kernel)
theorem qt_273 : (Cond.code yJ2_charAt_3b067 cJ2_charAt_3b067 2 (some .char)) ∈ lw_tbl := List.mem_of_getElem? (i := 615) (by decide +kernel)
theorem qt_274 : (Cond.methodLink RJ2 67 yJ2_checkIndex_2214a) ∈ lw_tbl := List.mem_of_getElem? (i := 616) (by decide +kernel)
theorem qt_275 : (Cond.static yJ2_checkIndex_2214a) ∈ lw_tbl := List.mem_of_getElem? (i := 617) (by decide +kernel)
theorem qt_276 : (Cond.code yJ2_checkIndex_2214a cJ2_checkIndex_2214a 2 none) ∈ lw_tbl := List.mem_of_getElem? (i := 618) (by decide +kernel)
theorem qt_277 : (Cond.methodLink RJ2 48 yJ2_length_9d52b) ∈ lw_tbl := List.mem_of_getElem? (i := 619) (by decide +kernel)
theorem qt_278 : (Cond.static yJ2_length_9d52b) ∈ lw_tbl := List.mem_of_getElem? (i := 620) (by decide +kernel)
theorem qt_279 : (Cond.code yJ2_length_9d52b cJ2_length_9d52b 1 (some .int)) ∈ lw_tbl := List.mem_of_getElem? (i := 621) (by decide +kernel)
theorem qt_280 : (Cond.methodLink RJ2 414 yJ0_checkIndex_df160) ∈ lw_tbl := List.mem_of_getElem? (i := 622) (by decide +kernel)
theorem qt_281 : (Cond.methodLink RJ2 71 yJ2_getChar_3b067) ∈ lw_tbl := List.mem_of_getElem? (i := 623) (by decide +kernel)
theorem qt_282 : (Cond.static yJ2_getChar_3b067) ∈ lw_tbl := List.mem_of_getElem? (i := 624) (by decide +kernel)
theorem qt_283 : (Cond.code yJ2_getChar_3b067 cJ2_getChar_3b067 2 (some .char)) ∈ lw_tbl := List.mem_of_getElem? (i := 625) (by decide +kernel)
theorem qt_284 : (Cond.fieldLink RJ2 44 "java/lang/StringUTF16" "$assertionsDisabled" "Z") ∈ lw_tbl := List.mem_of_getElem? (i := 626) (by decide +kernel)
theorem qt_285 : (Cond.fieldLink RJ2 59 "java/lang/StringUTF16" "HI_BYTE_SHIFT" "I") ∈ lw_tbl := List.mem_of_getElem? (i := 628) (by decide +kernel)
theorem qt_286 : (Cond.fieldLink RJ2 63 "java/lang/StringUTF16" "LO_BYTE_SHIFT" "I") ∈ lw_tbl := List.mem_of_getElem? (i := 630) (by decide +kernel)
theorem qt_287 : (Cond.methodLink RX3 88 yX3_fail) ∈ lw_tbl := List.mem_of_getElem? (i := 642) (by decide +kernel)
theorem WLr_17 : ∀ w ∈ WL_17, w ∈ lw_tbl := List.forall_mem_cons.mpr ⟨qt_272, List.forall_mem_cons.mpr ⟨qt_273, List.forall_mem_cons.mpr ⟨qt_274, List.forall_mem_cons.mpr ⟨qt_275, List.forall_mem_cons.mpr ⟨qt_276, List.forall_mem_cons.mpr ⟨qt_277, List.forall_mem_cons.mpr ⟨qt_278, List.forall_mem_cons.mpr ⟨qt_279, List.forall_mem_cons.mpr ⟨qt_280, List.forall_mem_cons.mpr ⟨qt_281, List.forall_mem_cons.mpr ⟨qt_282, List.forall_mem_cons.mpr ⟨qt_283, List.forall_mem_cons.mpr ⟨qt_284, List.forall_mem_cons.mpr ⟨qt_285, List.forall_mem_cons.mpr ⟨qt_286, List.forall_mem_cons.mpr ⟨qt_287, fun _ h => absurd h List.not_mem_nil⟩⟩⟩⟩⟩⟩⟩⟩⟩⟩⟩⟩⟩⟩⟩⟩
def WL_18 : List Cond := [Cond.instanceMethod yX3_fail, Cond.selects RX3 yX3_fail yX3_fail, Cond.code yX3_fail cX3_fail 3 none, Cond.methodLink RX3 99 yX3_checkLine, Cond.instanceMethod yX3_checkLine, Cond.selects RX3 yX3_checkLine yX3_checkLine, Cond.code yX3_checkLine cX3_checkLine 2 none, Cond.methodLink RX3 143 yX3_isLineAgain, Cond.instanceMethod yX3_isLineAgain, Cond.selects RX3 yX3_isLineAgain yX3_isLineAgain, Cond.code yX3_isLineAgain cX3_isLineAgain 2 (some .boolean), Cond.methodLink RX3 147 yX3_isLineTooMany, Cond.instanceMethod yX3_isLineTooMany, Cond.selects RX3 yX3_isLineTooMany yX3_isLineTooMany, Cond.code yX3_isLineTooMany cX3_isLineTooMany 2 (some .boolean), Cond.fieldLink RX3 175 "YearSkins$Land" "heirs" "I"]
theorem qt_288 : (Cond.instanceMethod yX3_fail) ∈ lw_tbl := List.mem_of_getElem? (i := 644) (by decide +kernel)
theorem qt_289 : (Cond.selects RX3 yX3_fail yX3_fail) ∈ lw_tbl := List.mem_of_getElem? (i := 7) (by decide +kernel)
theorem qt_290 : (Cond.code yX3_fail cX3_fail 3 none) ∈ lw_tbl := List.mem_of_getElem? (i := 645) (by decide +kernel)
theorem qt_291 : (Cond.methodLink RX3 99 yX3_checkLine) ∈ lw_tbl := List.mem_of_getElem? (i := 646) (by decide +kernel)
theorem qt_292 : (Cond.instanceMethod yX3_checkLine) ∈ lw_tbl := List.mem_of_getElem? (i := 648) (by decide +kernel)
theorem qt_293 : (Cond.selects RX3 yX3_checkLine yX3_checkLine) ∈ lw_tbl := List.mem_of_getElem? (i := 8) (by decide +kernel)
theorem qt_294 : (Cond.code yX3_checkLine cX3_checkLine 2 none) ∈ lw_tbl := List.mem_of_getElem? (i := 649) (by decide +kernel)
theorem qt_295 : (Cond.methodLink RX3 143 yX3_isLineAgain) ∈ lw_tbl := List.mem_of_getElem? (i := 650) (by decide +kernel)
theorem qt_296 : (Cond.instanceMethod yX3_isLineAgain) ∈ lw_tbl := List.mem_of_getElem? (i := 652) (by decide +kernel)
theorem qt_297 : (Cond.selects RX3 yX3_isLineAgain yX3_isLineAgain) ∈ lw_tbl := List.mem_of_getElem? (i := 9) (by decide +kernel)
theorem qt_298 : (Cond.code yX3_isLineAgain cX3_isLineAgain 2 (some .boolean)) ∈ lw_tbl := List.mem_of_getElem? (i := 653) (by decide +kernel)
theorem qt_299 : (Cond.methodLink RX3 147 yX3_isLineTooMany) ∈ lw_tbl := List.mem_of_getElem? (i := 654) (by decide +kernel)
theorem qt_300 : (Cond.instanceMethod yX3_isLineTooMany) ∈ lw_tbl := List.mem_of_getElem? (i := 656) (by decide +kernel)
theorem qt_301 : (Cond.selects RX3 yX3_isLineTooMany yX3_isLineTooMany) ∈ lw_tbl := List.mem_of_getElem? (i := 10) (by decide +kernel)
theorem qt_302 : (Cond.code yX3_isLineTooMany cX3_isLineTooMany 2 (some .boolean)) ∈ lw_tbl := List.mem_of_getElem? (i := 657) (by decide +kernel)
theorem qt_303 : (Cond.fieldLink RX3 175 "YearSkins$Land" "heirs" "I") ∈ lw_tbl := List.mem_of_getElem? (i := 194) (by decide +kernel)
theorem WLr_18 : ∀ w ∈ WL_18, w ∈ lw_tbl := List.forall_mem_cons.mpr ⟨qt_288, List.forall_mem_cons.mpr ⟨qt_289, List.forall_mem_cons.mpr ⟨qt_290, List.forall_mem_cons.mpr ⟨qt_291, List.forall_mem_cons.mpr ⟨qt_292, List.forall_mem_cons.mpr ⟨qt_293, List.forall_mem_cons.mpr ⟨qt_294, List.forall_mem_cons.mpr ⟨qt_295, List.forall_mem_cons.mpr ⟨qt_296, List.forall_mem_cons.mpr ⟨qt_297, List.forall_mem_cons.mpr ⟨qt_298, List.forall_mem_cons.mpr ⟨qt_299, List.forall_mem_cons.mpr ⟨qt_300, List.forall_mem_cons.mpr ⟨qt_301, List.forall_mem_cons.mpr ⟨qt_302, List.forall_mem_cons.mpr ⟨qt_303, fun _ h => absurd h List.not_mem_nil⟩⟩⟩⟩⟩⟩⟩⟩⟩⟩⟩⟩⟩⟩⟩⟩
def WL_19 : List Cond := [Cond.fieldLink RX3 178 "YearSkins$Land" "walls" "I", Cond.methodLink RX3 103 yX8_advance, Cond.methodLink RX3 106 yX3_readLand, Cond.instanceMethod yX3_readLand, Cond.selects RX3 yX3_readLand yX3_readLand, Cond.code yX3_readLand cX3_readLand 1 none, Cond.fieldLink RX3 191 "YearSkins$Land" "wide" "I", Cond.fieldLink RX3 195 "YearSkins$Land" "high" "I", Cond.fieldLink RX3 209 "YearSkins$Land" "far" "Z", Cond.fieldLink RX3 217 "YearSkins$Land" "share" "Z", Cond.methodLink RX3 183 yX3_word, Cond.instanceMethod yX3_word, Cond.selects RX3 yX3_word yX3_word, Cond.code yX3_word cX3_word 2 none, Cond.methodLink RX3 187 yX3_whole, Cond.instanceMethod yX3_whole]
theorem qt_304 : (Cond.fieldLink RX3 178 "YearSkins$Land" "walls" "I") ∈ lw_tbl := List.mem_of_getElem? (i := 201) (by decide +kernel)
theorem qt_305 : (Cond.methodLink RX3 103 yX8_advance) ∈ lw_tbl := List.mem_of_getElem? (i := 658) (by decide +kernel)
theorem qt_306 : (Cond.methodLink RX3 106 yX3_readLand) ∈ lw_tbl := List.mem_of_getElem? (i := 659) (by decide +kernel)
theorem qt_307 : (Cond.instanceMethod yX3_readLand) ∈ lw_tbl := List.mem_of_getElem? (i := 661) (by decide +kernel)
theorem qt_308 : (Cond.selects RX3 yX3_readLand yX3_readLand) ∈ lw_tbl := List.mem_of_getElem? (i := 11) (by decide +kernel)
theorem qt_309 : (Cond.code yX3_readLand cX3_readLand 1 none) ∈ lw_tbl := List.mem_of_getElem? (i := 662) (by decide +kernel)
theorem qt_310 : (Cond.fieldLink RX3 191 "YearSkins$Land" "wide" "I") ∈ lw_tbl := List.mem_of_getElem? (i := 155) (by decide +kernel)
theorem qt_311 : (Cond.fieldLink RX3 195 "YearSkins$Land" "high" "I") ∈ lw_tbl := List.mem_of_getElem? (i := 158) (by decide +kernel)
theorem qt_312 : (Cond.fieldLink RX3 209 "YearSkins$Land" "far" "Z") ∈ lw_tbl := List.mem_of_getElem? (i := 160) (by decide +kernel)
theorem qt_313 : (Cond.fieldLink RX3 217 "YearSkins$Land" "share" "Z") ∈ lw_tbl := List.mem_of_getElem? (i := 163) (by decide +kernel)
theorem qt_314 : (Cond.methodLink RX3 183 yX3_word) ∈ lw_tbl := List.mem_of_getElem? (i := 664) (by decide +kernel)
theorem qt_315 : (Cond.instanceMethod yX3_word) ∈ lw_tbl := List.mem_of_getElem? (i := 666) (by decide +kernel)
theorem qt_316 : (Cond.selects RX3 yX3_word yX3_word) ∈ lw_tbl := List.mem_of_getElem? (i := 12) (by decide +kernel)
theorem qt_317 : (Cond.code yX3_word cX3_word 2 none) ∈ lw_tbl := List.mem_of_getElem? (i := 667) (by decide +kernel)
theorem qt_318 : (Cond.methodLink RX3 187 yX3_whole) ∈ lw_tbl := List.mem_of_getElem? (i := 668) (by decide +kernel)
theorem qt_319 : (Cond.instanceMethod yX3_whole) ∈ lw_tbl := List.mem_of_getElem? (i := 670) (by decide +kernel)
theorem WLr_19 : ∀ w ∈ WL_19, w ∈ lw_tbl := List.forall_mem_cons.mpr ⟨qt_304, List.forall_mem_cons.mpr ⟨qt_305, List.forall_mem_cons.mpr ⟨qt_306, List.forall_mem_cons.mpr ⟨qt_307, List.forall_mem_cons.mpr ⟨qt_308, List.forall_mem_cons.mpr ⟨qt_309, List.forall_mem_cons.mpr ⟨qt_310, List.forall_mem_cons.mpr ⟨qt_311, List.forall_mem_cons.mpr ⟨qt_312, List.forall_mem_cons.mpr ⟨qt_313, List.forall_mem_cons.mpr ⟨qt_314, List.forall_mem_cons.mpr ⟨qt_315, List.forall_mem_cons.mpr ⟨qt_316, List.forall_mem_cons.mpr ⟨qt_317, List.forall_mem_cons.mpr ⟨qt_318, List.forall_mem_cons.mpr ⟨qt_319, fun _ h => absurd h List.not_mem_nil⟩⟩⟩⟩⟩⟩⟩⟩⟩⟩⟩⟩⟩⟩⟩⟩
def WL_20 : List Cond := [Cond.selects RX3 yX3_whole yX3_whole, Cond.code yX3_whole cX3_whole 4 (some .int), Cond.fieldLink RX3 331 "YearSkins$Tokens" "value" "I", Cond.methodLink RX3 205 yX3_choice, Cond.instanceMethod yX3_choice, Cond.selects RX3 yX3_choice yX3_choice, Cond.code yX3_choice cX3_choice 6 (some .int), Cond.methodLink RX3 109 yX3_readYears, Cond.instanceMethod yX3_readYears, Cond.selects RX3 yX3_readYears yX3_readYears, Cond.code yX3_readYears cX3_readYears 1 none, Cond.fieldLink RX3 219 "YearSkins$State" "year" "I", Cond.fieldLink RX3 224 "YearSkins$Land" "births" "I", Cond.fieldLink RX3 228 "YearSkins$Land" "fire" "I", Cond.fieldLink RX3 232 "YearSkins$Land" "earns" "I", Cond.methodLink RX3 112 yX3_readWater]
theorem qt_320 : (Cond.selects RX3 yX3_whole yX3_whole) ∈ lw_tbl := List.mem_of_getElem? (i := 13) (by decide +kernel)
theorem qt_321 : (Cond.code yX3_whole cX3_whole 4 (some .int)) ∈ lw_tbl := List.mem_of_getElem? (i := 671) (by decide +kernel)
theorem qt_322 : (Cond.fieldLink RX3 331 "YearSkins$Tokens" "value" "I") ∈ lw_tbl := List.mem_of_getElem? (i := 322) (by decide +kernel)
theorem qt_323 : (Cond.methodLink RX3 205 yX3_choice) ∈ lw_tbl := List.mem_of_getElem? (i := 677) (by decide +kernel)
theorem qt_324 : (Cond.instanceMethod yX3_choice) ∈ lw_tbl := List.mem_of_getElem? (i := 679) (by decide +kernel)
theorem qt_325 : (Cond.selects RX3 yX3_choice yX3_choice) ∈ lw_tbl := List.mem_of_getElem? (i := 14) (by decide +kernel)
theorem qt_326 : (Cond.code yX3_choice cX3_choice 6 (some .int)) ∈ lw_tbl := List.mem_of_getElem? (i := 680) (by decide +kernel)
theorem qt_327 : (Cond.methodLink RX3 109 yX3_readYears) ∈ lw_tbl := List.mem_of_getElem? (i := 684) (by decide +kernel)
theorem qt_328 : (Cond.instanceMethod yX3_readYears) ∈ lw_tbl := List.mem_of_getElem? (i := 686) (by decide +kernel)
theorem qt_329 : (Cond.selects RX3 yX3_readYears yX3_readYears) ∈ lw_tbl := List.mem_of_getElem? (i := 15) (by decide +kernel)
theorem qt_330 : (Cond.code yX3_readYears cX3_readYears 1 none) ∈ lw_tbl := List.mem_of_getElem? (i := 687) (by decide +kernel)
theorem qt_331 : (Cond.fieldLink RX3 219 "YearSkins$State" "year" "I") ∈ lw_tbl := List.mem_of_getElem? (i := 263) (by decide +kernel)
theorem qt_332 : (Cond.fieldLink RX3 224 "YearSkins$Land" "births" "I") ∈ lw_tbl := List.mem_of_getElem? (i := 166) (by decide +kernel)
theorem qt_333 : (Cond.fieldLink RX3 228 "YearSkins$Land" "fire" "I") ∈ lw_tbl := List.mem_of_getElem? (i := 168) (by decide +kernel)
theorem qt_334 : (Cond.fieldLink RX3 232 "YearSkins$Land" "earns" "I") ∈ lw_tbl := List.mem_of_getElem? (i := 170) (by decide +kernel)
theorem qt_335 : (Cond.methodLink RX3 112 yX3_readWater) ∈ lw_tbl := List.mem_of_getElem? (i := 691) (by decide +kernel)
theorem WLr_20 : ∀ w ∈ WL_20, w ∈ lw_tbl := List.forall_mem_cons.mpr ⟨qt_320, List.forall_mem_cons.mpr ⟨qt_321, List.forall_mem_cons.mpr ⟨qt_322, List.forall_mem_cons.mpr ⟨qt_323, List.forall_mem_cons.mpr ⟨qt_324, List.forall_mem_cons.mpr ⟨qt_325, List.forall_mem_cons.mpr ⟨qt_326, List.forall_mem_cons.mpr ⟨qt_327, List.forall_mem_cons.mpr ⟨qt_328, List.forall_mem_cons.mpr ⟨qt_329, List.forall_mem_cons.mpr ⟨qt_330, List.forall_mem_cons.mpr ⟨qt_331, List.forall_mem_cons.mpr ⟨qt_332, List.forall_mem_cons.mpr ⟨qt_333, List.forall_mem_cons.mpr ⟨qt_334, List.forall_mem_cons.mpr ⟨qt_335, fun _ h => absurd h List.not_mem_nil⟩⟩⟩⟩⟩⟩⟩⟩⟩⟩⟩⟩⟩⟩⟩⟩
def WL_21 : List Cond := [Cond.instanceMethod yX3_readWater, Cond.selects RX3 yX3_readWater yX3_readWater, Cond.code yX3_readWater cX3_readWater 3 none, Cond.fieldLink RX3 238 "YearSkins$Tokens" "last" "I", Cond.methodLink RX3 78 yX3_sign, Cond.instanceMethod yX3_sign, Cond.selects RX3 yX3_sign yX3_sign, Cond.code yX3_sign cX3_sign 2 none, Cond.methodLink RX3 234 yX1_isWet, Cond.instanceMethod yX1_isWet, Cond.selects RX1 yX1_isWet yX1_isWet, Cond.code yX1_isWet cX1_isWet 4 (some .boolean), Cond.methodLink RX3 241 yX1_addWater, Cond.instanceMethod yX1_addWater, Cond.selects RX1 yX1_addWater yX1_addWater, Cond.code yX1_addWater cX1_addWater 4 none]
theorem qt_336 : (Cond.instanceMethod yX3_readWater) ∈ lw_tbl := List.mem_of_getElem? (i := 693) (by decide +kernel)
theorem qt_337 : (Cond.selects RX3 yX3_readWater yX3_readWater) ∈ lw_tbl := List.mem_of_getElem? (i := 16) (by decide +kernel)
theorem qt_338 : (Cond.code yX3_readWater cX3_readWater 3 none) ∈ lw_tbl := List.mem_of_getElem? (i := 694) (by decide +kernel)
theorem qt_339 : (Cond.fieldLink RX3 238 "YearSkins$Tokens" "last" "I") ∈ lw_tbl := List.mem_of_getElem? (i := 320) (by decide +kernel)
theorem qt_340 : (Cond.methodLink RX3 78 yX3_sign) ∈ lw_tbl := List.mem_of_getElem? (i := 695) (by decide +kernel)
theorem qt_341 : (Cond.instanceMethod yX3_sign) ∈ lw_tbl := List.mem_of_getElem? (i := 697) (by decide +kernel)
theorem qt_342 : (Cond.selects RX3 yX3_sign yX3_sign) ∈ lw_tbl := List.mem_of_getElem? (i := 17) (by decide +kernel)
theorem qt_343 : (Cond.code yX3_sign cX3_sign 2 none) ∈ lw_tbl := List.mem_of_getElem? (i := 698) (by decide +kernel)
theorem qt_344 : (Cond.methodLink RX3 234 yX1_isWet) ∈ lw_tbl := List.mem_of_getElem? (i := 699) (by decide +kernel)
theorem qt_345 : (Cond.instanceMethod yX1_isWet) ∈ lw_tbl := List.mem_of_getElem? (i := 700) (by decide +kernel)
theorem qt_346 : (Cond.selects RX1 yX1_isWet yX1_isWet) ∈ lw_tbl := List.mem_of_getElem? (i := 701) (by decide +kernel)
theorem qt_347 : (Cond.code yX1_isWet cX1_isWet 4 (some .boolean)) ∈ lw_tbl := List.mem_of_getElem? (i := 702) (by decide +kernel)
theorem qt_348 : (Cond.methodLink RX3 241 yX1_addWater) ∈ lw_tbl := List.mem_of_getElem? (i := 703) (by decide +kernel)
theorem qt_349 : (Cond.instanceMethod yX1_addWater) ∈ lw_tbl := List.mem_of_getElem? (i := 704) (by decide +kernel)
theorem qt_350 : (Cond.selects RX1 yX1_addWater yX1_addWater) ∈ lw_tbl := List.mem_of_getElem? (i := 705) (by decide +kernel)
theorem qt_351 : (Cond.code yX1_addWater cX1_addWater 4 none) ∈ lw_tbl := List.mem_of_getElem? (i := 706) (by decide +kernel)
theorem WLr_21 : ∀ w ∈ WL_21, w ∈ lw_tbl := List.forall_mem_cons.mpr ⟨qt_336, List.forall_mem_cons.mpr ⟨qt_337, List.forall_mem_cons.mpr ⟨qt_338, List.forall_mem_cons.mpr ⟨qt_339, List.forall_mem_cons.mpr ⟨qt_340, List.forall_mem_cons.mpr ⟨qt_341, List.forall_mem_cons.mpr ⟨qt_342, List.forall_mem_cons.mpr ⟨qt_343, List.forall_mem_cons.mpr ⟨qt_344, List.forall_mem_cons.mpr ⟨qt_345, List.forall_mem_cons.mpr ⟨qt_346, List.forall_mem_cons.mpr ⟨qt_347, List.forall_mem_cons.mpr ⟨qt_348, List.forall_mem_cons.mpr ⟨qt_349, List.forall_mem_cons.mpr ⟨qt_350, List.forall_mem_cons.mpr ⟨qt_351, fun _ h => absurd h List.not_mem_nil⟩⟩⟩⟩⟩⟩⟩⟩⟩⟩⟩⟩⟩⟩⟩⟩
def WL_22 : List Cond := [Cond.methodLink RX3 115 yX3_readStone, Cond.instanceMethod yX3_readStone, Cond.selects RX3 yX3_readStone yX3_readStone, Cond.code yX3_readStone cX3_readStone 2 none, Cond.methodLink RX3 244 yX3_newName, Cond.instanceMethod yX3_newName, Cond.selects RX3 yX3_newName yX3_newName, Cond.code yX3_newName cX3_newName 3 none, Cond.fieldLink RX3 337 "YearSkins$Tokens" "letters" "J", Cond.methodLink RX3 334 yX3_findName, Cond.instanceMethod yX3_findName, Cond.selects RX3 yX3_findName yX3_findName, Cond.code yX3_findName cX3_findName 2 (some .int), Cond.methodLink RX3 253 yX1_setStonePart, Cond.instanceMethod yX1_setStonePart, Cond.selects RX1 yX1_setStonePart yX1_setStonePart]
theorem qt_352 : (Cond.methodLink RX3 115 yX3_readStone) ∈ lw_tbl := List.mem_of_getElem? (i := 707) (by decide +kernel)
theorem qt_353 : (Cond.instanceMethod yX3_readStone) ∈ lw_tbl := List.mem_of_getElem? (i := 709) (by decide +kernel)
theorem qt_354 : (Cond.selects RX3 yX3_readStone yX3_readStone) ∈ lw_tbl := List.mem_of_getElem? (i := 18) (by decide +kernel)
theorem qt_355 : (Cond.code yX3_readStone cX3_readStone 2 none) ∈ lw_tbl := List.mem_of_getElem? (i := 710) (by decide +kernel)
theorem qt_356 : (Cond.methodLink RX3 244 yX3_newName) ∈ lw_tbl := List.mem_of_getElem? (i := 711) (by decide +kernel)
theorem qt_357 : (Cond.instanceMethod yX3_newName) ∈ lw_tbl := List.mem_of_getElem? (i := 713) (by decide +kernel)
theorem qt_358 : (Cond.selects RX3 yX3_newName yX3_newName) ∈ lw_tbl := List.mem_of_getElem? (i := 19) (by decide +kernel)
theorem qt_359 : (Cond.code yX3_newName cX3_newName 3 none) ∈ lw_tbl := List.mem_of_getElem? (i := 714) (by decide +kernel)
theorem qt_360 : (Cond.fieldLink RX3 337 "YearSkins$Tokens" "letters" "J") ∈ lw_tbl := List.mem_of_getElem? (i := 324) (by decide +kernel)
theorem qt_361 : (Cond.methodLink RX3 334 yX3_findName) ∈ lw_tbl := List.mem_of_getElem? (i := 715) (by decide +kernel)
theorem qt_362 : (Cond.instanceMethod yX3_findName) ∈ lw_tbl := List.mem_of_getElem? (i := 717) (by decide +kernel)
theorem qt_363 : (Cond.selects RX3 yX3_findName yX3_findName) ∈ lw_tbl := List.mem_of_getElem? (i := 20) (by decide +kernel)
theorem qt_364 : (Cond.code yX3_findName cX3_findName 2 (some .int)) ∈ lw_tbl := List.mem_of_getElem? (i := 718) (by decide +kernel)
theorem qt_365 : (Cond.methodLink RX3 253 yX1_setStonePart) ∈ lw_tbl := List.mem_of_getElem? (i := 722) (by decide +kernel)
theorem qt_366 : (Cond.instanceMethod yX1_setStonePart) ∈ lw_tbl := List.mem_of_getElem? (i := 723) (by decide +kernel)
theorem qt_367 : (Cond.selects RX1 yX1_setStonePart yX1_setStonePart) ∈ lw_tbl := List.mem_of_getElem? (i := 724) (by decide +kernel)
theorem WLr_22 : ∀ w ∈ WL_22, w ∈ lw_tbl := List.forall_mem_cons.mpr ⟨qt_352, List.forall_mem_cons.mpr ⟨qt_353, List.forall_mem_cons.mpr ⟨qt_354, List.forall_mem_cons.mpr ⟨qt_355, List.forall_mem_cons.mpr ⟨qt_356, List.forall_mem_cons.mpr ⟨qt_357, List.forall_mem_cons.mpr ⟨qt_358, List.forall_mem_cons.mpr ⟨qt_359, List.forall_mem_cons.mpr ⟨qt_360, List.forall_mem_cons.mpr ⟨qt_361, List.forall_mem_cons.mpr ⟨qt_362, List.forall_mem_cons.mpr ⟨qt_363, List.forall_mem_cons.mpr ⟨qt_364, List.forall_mem_cons.mpr ⟨qt_365, List.forall_mem_cons.mpr ⟨qt_366, List.forall_mem_cons.mpr ⟨qt_367, fun _ h => absurd h List.not_mem_nil⟩⟩⟩⟩⟩⟩⟩⟩⟩⟩⟩⟩⟩⟩⟩⟩
def WL_23 : List Cond := [Cond.code yX1_setStonePart cX1_setStonePart 5 none, Cond.methodLink RX3 118 yX3_readHouse, Cond.instanceMethod yX3_readHouse, Cond.selects RX3 yX3_readHouse yX3_readHouse, Cond.code yX3_readHouse cX3_readHouse 7 none, Cond.fieldLink RX3 283 "YearSkins$Land" "coreX" "[I", Cond.fieldLink RX3 286 "YearSkins$Land" "coreY" "[I", Cond.fieldLink RX3 289 "YearSkins$Land" "houseStone" "[I", Cond.fieldLink RX3 292 "YearSkins$State" "families" "[I", Cond.fieldLink RX3 295 "YearSkins$State" "golds" "[I", Cond.methodLink RX3 267 yX6_isFree, Cond.static yX6_isFree, Cond.initialized RX6, Cond.code yX6_isFree cX6_isFree 5 (some .boolean), Cond.fieldLink RX6 9 "YearSkins$Land" "houses" "I", Cond.fieldLink RX6 19 "YearSkins$State" "counts" "[I"]
theorem qt_368 : (Cond.code yX1_setStonePart cX1_setStonePart 5 none) ∈ lw_tbl := List.mem_of_getElem? (i := 725) (by decide +kernel)
theorem qt_369 : (Cond.methodLink RX3 118 yX3_readHouse) ∈ lw_tbl := List.mem_of_getElem? (i := 730) (by decide +kernel)
theorem qt_370 : (Cond.instanceMethod yX3_readHouse) ∈ lw_tbl := List.mem_of_getElem? (i := 732) (by decide +kernel)
theorem qt_371 : (Cond.selects RX3 yX3_readHouse yX3_readHouse) ∈ lw_tbl := List.mem_of_getElem? (i := 21) (by decide +kernel)
theorem qt_372 : (Cond.code yX3_readHouse cX3_readHouse 7 none) ∈ lw_tbl := List.mem_of_getElem? (i := 733) (by decide +kernel)
theorem qt_373 : (Cond.fieldLink RX3 283 "YearSkins$Land" "coreX" "[I") ∈ lw_tbl := List.mem_of_getElem? (i := 184) (by decide +kernel)
theorem qt_374 : (Cond.fieldLink RX3 286 "YearSkins$Land" "coreY" "[I") ∈ lw_tbl := List.mem_of_getElem? (i := 188) (by decide +kernel)
theorem qt_375 : (Cond.fieldLink RX3 289 "YearSkins$Land" "houseStone" "[I") ∈ lw_tbl := List.mem_of_getElem? (i := 192) (by decide +kernel)
theorem qt_376 : (Cond.fieldLink RX3 292 "YearSkins$State" "families" "[I") ∈ lw_tbl := List.mem_of_getElem? (i := 276) (by decide +kernel)
theorem qt_377 : (Cond.fieldLink RX3 295 "YearSkins$State" "golds" "[I") ∈ lw_tbl := List.mem_of_getElem? (i := 280) (by decide +kernel)
theorem qt_378 : (Cond.methodLink RX3 267 yX6_isFree) ∈ lw_tbl := List.mem_of_getElem? (i := 735) (by decide +kernel)
theorem qt_379 : (Cond.static yX6_isFree) ∈ lw_tbl := List.mem_of_getElem? (i := 736) (by decide +kernel)
theorem qt_380 : (Cond.initialized RX6) ∈ lw_tbl := List.mem_of_getElem? (i := 128) (by decide +kernel)
theorem qt_381 : (Cond.code yX6_isFree cX6_isFree 5 (some .boolean)) ∈ lw_tbl := List.mem_of_getElem? (i := 737) (by decide +kernel)
theorem qt_382 : (Cond.fieldLink RX6 9 "YearSkins$Land" "houses" "I") ∈ lw_tbl := List.mem_of_getElem? (i := 177) (by decide +kernel)
theorem qt_383 : (Cond.fieldLink RX6 19 "YearSkins$State" "counts" "[I") ∈ lw_tbl := List.mem_of_getElem? (i := 269) (by decide +kernel)
theorem WLr_23 : ∀ w ∈ WL_23, w ∈ lw_tbl := List.forall_mem_cons.mpr ⟨qt_368, List.forall_mem_cons.mpr ⟨qt_369, List.forall_mem_cons.mpr ⟨qt_370, List.forall_mem_cons.mpr ⟨qt_371, List.forall_mem_cons.mpr ⟨qt_372, List.forall_mem_cons.mpr ⟨qt_373, List.forall_mem_cons.mpr ⟨qt_374, List.forall_mem_cons.mpr ⟨qt_375, List.forall_mem_cons.mpr ⟨qt_376, List.forall_mem_cons.mpr ⟨qt_377, List.forall_mem_cons.mpr ⟨qt_378, List.forall_mem_cons.mpr ⟨qt_379, List.forall_mem_cons.mpr ⟨qt_380, List.forall_mem_cons.mpr ⟨qt_381, List.forall_mem_cons.mpr ⟨qt_382, List.forall_mem_cons.mpr ⟨qt_383, fun _ h => absurd h List.not_mem_nil⟩⟩⟩⟩⟩⟩⟩⟩⟩⟩⟩⟩⟩⟩⟩⟩
def WL_24 : List Cond := [Cond.methodLink RX6 25 yX1_isOn, Cond.instanceMethod yX1_isOn, Cond.selects RX1 yX1_isOn yX1_isOn, Cond.code yX1_isOn cX1_isOn 3 (some .boolean), Cond.methodLink RX6 29 yX1_isWet, Cond.methodLink RX6 15 yX1_apart, Cond.instanceMethod yX1_apart, Cond.selects RX1 yX1_apart yX1_apart, Cond.code yX1_apart cX1_apart 6 (some .int), Cond.methodLink RX3 275 yX3_name, Cond.instanceMethod yX3_name, Cond.selects RX3 yX3_name yX3_name, Cond.code yX3_name cX3_name 3 (some .int), Cond.methodLink RX3 121 yX3_readSkin, Cond.instanceMethod yX3_readSkin, Cond.selects RX3 yX3_readSkin yX3_readSkin]
theorem qt_384 : (Cond.methodLink RX6 25 yX1_isOn) ∈ lw_tbl := List.mem_of_getElem? (i := 738) (by decide +kernel)
theorem qt_385 : (Cond.instanceMethod yX1_isOn) ∈ lw_tbl := List.mem_of_getElem? (i := 739) (by decide +kernel)
theorem qt_386 : (Cond.selects RX1 yX1_isOn yX1_isOn) ∈ lw_tbl := List.mem_of_getElem? (i := 740) (by decide +kernel)
theorem qt_387 : (Cond.code yX1_isOn cX1_isOn 3 (some .boolean)) ∈ lw_tbl := List.mem_of_getElem? (i := 741) (by decide +kernel)
theorem qt_388 : (Cond.methodLink RX6 29 yX1_isWet) ∈ lw_tbl := List.mem_of_getElem? (i := 742) (by decide +kernel)
theorem qt_389 : (Cond.methodLink RX6 15 yX1_apart) ∈ lw_tbl := List.mem_of_getElem? (i := 743) (by decide +kernel)
theorem qt_390 : (Cond.instanceMethod yX1_apart) ∈ lw_tbl := List.mem_of_getElem? (i := 744) (by decide +kernel)
theorem qt_391 : (Cond.selects RX1 yX1_apart yX1_apart) ∈ lw_tbl := List.mem_of_getElem? (i := 745) (by decide +kernel)
theorem qt_392 : (Cond.code yX1_apart cX1_apart 6 (some .int)) ∈ lw_tbl := List.mem_of_getElem? (i := 746) (by decide +kernel)
theorem qt_393 : (Cond.methodLink RX3 275 yX3_name) ∈ lw_tbl := List.mem_of_getElem? (i := 748) (by decide +kernel)
theorem qt_394 : (Cond.instanceMethod yX3_name) ∈ lw_tbl := List.mem_of_getElem? (i := 750) (by decide +kernel)
theorem qt_395 : (Cond.selects RX3 yX3_name yX3_name) ∈ lw_tbl := List.mem_of_getElem? (i := 22) (by decide +kernel)
theorem qt_396 : (Cond.code yX3_name cX3_name 3 (some .int)) ∈ lw_tbl := List.mem_of_getElem? (i := 751) (by decide +kernel)
theorem qt_397 : (Cond.methodLink RX3 121 yX3_readSkin) ∈ lw_tbl := List.mem_of_getElem? (i := 754) (by decide +kernel)
theorem qt_398 : (Cond.instanceMethod yX3_readSkin) ∈ lw_tbl := List.mem_of_getElem? (i := 756) (by decide +kernel)
theorem qt_399 : (Cond.selects RX3 yX3_readSkin yX3_readSkin) ∈ lw_tbl := List.mem_of_getElem? (i := 23) (by decide +kernel)
theorem WLr_24 : ∀ w ∈ WL_24, w ∈ lw_tbl := List.forall_mem_cons.mpr ⟨qt_384, List.forall_mem_cons.mpr ⟨qt_385, List.forall_mem_cons.mpr ⟨qt_386, List.forall_mem_cons.mpr ⟨qt_387, List.forall_mem_cons.mpr ⟨qt_388, List.forall_mem_cons.mpr ⟨qt_389, List.forall_mem_cons.mpr ⟨qt_390, List.forall_mem_cons.mpr ⟨qt_391, List.forall_mem_cons.mpr ⟨qt_392, List.forall_mem_cons.mpr ⟨qt_393, List.forall_mem_cons.mpr ⟨qt_394, List.forall_mem_cons.mpr ⟨qt_395, List.forall_mem_cons.mpr ⟨qt_396, List.forall_mem_cons.mpr ⟨qt_397, List.forall_mem_cons.mpr ⟨qt_398, List.forall_mem_cons.mpr ⟨qt_399, fun _ h => absurd h List.not_mem_nil⟩⟩⟩⟩⟩⟩⟩⟩⟩⟩⟩⟩⟩⟩⟩⟩
def WL_25 : List Cond := [Cond.code yX3_readSkin cX3_readSkin 6 none, Cond.fieldLink RX3 298 "YearSkins$State" "counts" "[I", Cond.methodLink RX3 301 yX6_isFit, Cond.static yX6_isFit, Cond.code yX6_isFit cX6_isFit 9 (some .boolean), Cond.fieldLink RX6 32 "YearSkins$Land" "coreX" "[I", Cond.fieldLink RX6 35 "YearSkins$Land" "coreY" "[I", Cond.methodLink RX6 38 yX4_eastOf, Cond.static yX4_eastOf, Cond.initialized RX4, Cond.code yX4_eastOf cX4_eastOf 3 (some .int), Cond.methodLink RX6 44 yX4_southOf, Cond.static yX4_southOf, Cond.code yX4_southOf cX4_southOf 3 (some .int), Cond.methodLink RX6 47 yX6_isLeftTo, Cond.static yX6_isLeftTo]
theorem qt_400 : (Cond.code yX3_readSkin cX3_readSkin 6 none) ∈ lw_tbl := List.mem_of_getElem? (i := 757) (by decide +kernel)
theorem qt_401 : (Cond.fieldLink RX3 298 "YearSkins$State" "counts" "[I") ∈ lw_tbl := List.mem_of_getElem? (i := 272) (by decide +kernel)
theorem qt_402 : (Cond.methodLink RX3 301 yX6_isFit) ∈ lw_tbl := List.mem_of_getElem? (i := 758) (by decide +kernel)
theorem qt_403 : (Cond.static yX6_isFit) ∈ lw_tbl := List.mem_of_getElem? (i := 759) (by decide +kernel)
theorem qt_404 : (Cond.code yX6_isFit cX6_isFit 9 (some .boolean)) ∈ lw_tbl := List.mem_of_getElem? (i := 760) (by decide +kernel)
theorem qt_405 : (Cond.fieldLink RX6 32 "YearSkins$Land" "coreX" "[I") ∈ lw_tbl := List.mem_of_getElem? (i := 182) (by decide +kernel)
theorem qt_406 : (Cond.fieldLink RX6 35 "YearSkins$Land" "coreY" "[I") ∈ lw_tbl := List.mem_of_getElem? (i := 186) (by decide +kernel)
theorem qt_407 : (Cond.methodLink RX6 38 yX4_eastOf) ∈ lw_tbl := List.mem_of_getElem? (i := 761) (by decide +kernel)
theorem qt_408 : (Cond.static yX4_eastOf) ∈ lw_tbl := List.mem_of_getElem? (i := 762) (by decide +kernel)
theorem qt_409 : (Cond.initialized RX4) ∈ lw_tbl := List.mem_of_getElem? (i := 129) (by decide +kernel)
theorem qt_410 : (Cond.code yX4_eastOf cX4_eastOf 3 (some .int)) ∈ lw_tbl := List.mem_of_getElem? (i := 763) (by decide +kernel)
theorem qt_411 : (Cond.methodLink RX6 44 yX4_southOf) ∈ lw_tbl := List.mem_of_getElem? (i := 764) (by decide +kernel)
theorem qt_412 : (Cond.static yX4_southOf) ∈ lw_tbl := List.mem_of_getElem? (i := 765) (by decide +kernel)
theorem qt_413 : (Cond.code yX4_southOf cX4_southOf 3 (some .int)) ∈ lw_tbl := List.mem_of_getElem? (i := 766) (by decide +kernel)
theorem qt_414 : (Cond.methodLink RX6 47 yX6_isLeftTo) ∈ lw_tbl := List.mem_of_getElem? (i := 767) (by decide +kernel)
theorem qt_415 : (Cond.static yX6_isLeftTo) ∈ lw_tbl := List.mem_of_getElem? (i := 768) (by decide +kernel)
theorem WLr_25 : ∀ w ∈ WL_25, w ∈ lw_tbl := List.forall_mem_cons.mpr ⟨qt_400, List.forall_mem_cons.mpr ⟨qt_401, List.forall_mem_cons.mpr ⟨qt_402, List.forall_mem_cons.mpr ⟨qt_403, List.forall_mem_cons.mpr ⟨qt_404, List.forall_mem_cons.mpr ⟨qt_405, List.forall_mem_cons.mpr ⟨qt_406, List.forall_mem_cons.mpr ⟨qt_407, List.forall_mem_cons.mpr ⟨qt_408, List.forall_mem_cons.mpr ⟨qt_409, List.forall_mem_cons.mpr ⟨qt_410, List.forall_mem_cons.mpr ⟨qt_411, List.forall_mem_cons.mpr ⟨qt_412, List.forall_mem_cons.mpr ⟨qt_413, List.forall_mem_cons.mpr ⟨qt_414, List.forall_mem_cons.mpr ⟨qt_415, fun _ h => absurd h List.not_mem_nil⟩⟩⟩⟩⟩⟩⟩⟩⟩⟩⟩⟩⟩⟩⟩⟩
def WL_26 : List Cond := [Cond.code yX6_isLeftTo cX6_isLeftTo 8 (some .boolean), Cond.fieldLink RX6 53 "YearSkins$Land" "share" "Z", Cond.methodLink RX3 315 yX7_addSkin, Cond.instanceMethod yX7_addSkin, Cond.selects RX7 yX7_addSkin yX7_addSkin, Cond.code yX7_addSkin cX7_addSkin 8 none, Cond.methodLink RX7 40 yX7_setPart, Cond.instanceMethod yX7_setPart, Cond.selects RX7 yX7_setPart yX7_setPart, Cond.code yX7_setPart cX7_setPart 6 none, Cond.methodLink RX3 124 yX3_readHeir, Cond.instanceMethod yX3_readHeir, Cond.selects RX3 yX3_readHeir yX3_readHeir, Cond.code yX3_readHeir cX3_readHeir 4 none, Cond.fieldLink RX3 319 "YearSkins$Land" "heirHouse" "[I", Cond.fieldLink RX3 322 "YearSkins$State" "rooms" "[I"]
theorem qt_416 : (Cond.code yX6_isLeftTo cX6_isLeftTo 8 (some .boolean)) ∈ lw_tbl := List.mem_of_getElem? (i := 769) (by decide +kernel)
theorem qt_417 : (Cond.fieldLink RX6 53 "YearSkins$Land" "share" "Z") ∈ lw_tbl := List.mem_of_getElem? (i := 162) (by decide +kernel)
theorem qt_418 : (Cond.methodLink RX3 315 yX7_addSkin) ∈ lw_tbl := List.mem_of_getElem? (i := 775) (by decide +kernel)
theorem qt_419 : (Cond.instanceMethod yX7_addSkin) ∈ lw_tbl := List.mem_of_getElem? (i := 776) (by decide +kernel)
theorem qt_420 : (Cond.selects RX7 yX7_addSkin yX7_addSkin) ∈ lw_tbl := List.mem_of_getElem? (i := 777) (by decide +kernel)
theorem qt_421 : (Cond.code yX7_addSkin cX7_addSkin 8 none) ∈ lw_tbl := List.mem_of_getElem? (i := 778) (by decide +kernel)
theorem qt_422 : (Cond.methodLink RX7 40 yX7_setPart) ∈ lw_tbl := List.mem_of_getElem? (i := 779) (by decide +kernel)
theorem qt_423 : (Cond.instanceMethod yX7_setPart) ∈ lw_tbl := List.mem_of_getElem? (i := 780) (by decide +kernel)
theorem qt_424 : (Cond.selects RX7 yX7_setPart yX7_setPart) ∈ lw_tbl := List.mem_of_getElem? (i := 781) (by decide +kernel)
theorem qt_425 : (Cond.code yX7_setPart cX7_setPart 6 none) ∈ lw_tbl := List.mem_of_getElem? (i := 782) (by decide +kernel)
theorem qt_426 : (Cond.methodLink RX3 124 yX3_readHeir) ∈ lw_tbl := List.mem_of_getElem? (i := 783) (by decide +kernel)
theorem qt_427 : (Cond.instanceMethod yX3_readHeir) ∈ lw_tbl := List.mem_of_getElem? (i := 785) (by decide +kernel)
theorem qt_428 : (Cond.selects RX3 yX3_readHeir yX3_readHeir) ∈ lw_tbl := List.mem_of_getElem? (i := 24) (by decide +kernel)
theorem qt_429 : (Cond.code yX3_readHeir cX3_readHeir 4 none) ∈ lw_tbl := List.mem_of_getElem? (i := 786) (by decide +kernel)
theorem qt_430 : (Cond.fieldLink RX3 319 "YearSkins$Land" "heirHouse" "[I") ∈ lw_tbl := List.mem_of_getElem? (i := 198) (by decide +kernel)
theorem qt_431 : (Cond.fieldLink RX3 322 "YearSkins$State" "rooms" "[I") ∈ lw_tbl := List.mem_of_getElem? (i := 283) (by decide +kernel)
theorem WLr_26 : ∀ w ∈ WL_26, w ∈ lw_tbl := List.forall_mem_cons.mpr ⟨qt_416, List.forall_mem_cons.mpr ⟨qt_417, List.forall_mem_cons.mpr ⟨qt_418, List.forall_mem_cons.mpr ⟨qt_419, List.forall_mem_cons.mpr ⟨qt_420, List.forall_mem_cons.mpr ⟨qt_421, List.forall_mem_cons.mpr ⟨qt_422, List.forall_mem_cons.mpr ⟨qt_423, List.forall_mem_cons.mpr ⟨qt_424, List.forall_mem_cons.mpr ⟨qt_425, List.forall_mem_cons.mpr ⟨qt_426, List.forall_mem_cons.mpr ⟨qt_427, List.forall_mem_cons.mpr ⟨qt_428, List.forall_mem_cons.mpr ⟨qt_429, List.forall_mem_cons.mpr ⟨qt_430, List.forall_mem_cons.mpr ⟨qt_431, fun _ h => absurd h List.not_mem_nil⟩⟩⟩⟩⟩⟩⟩⟩⟩⟩⟩⟩⟩⟩⟩⟩
def WL_27 : List Cond := [Cond.methodLink RX3 127 yX3_readWall, Cond.instanceMethod yX3_readWall, Cond.selects RX3 yX3_readWall yX3_readWall, Cond.code yX3_readWall cX3_readWall 1 none, Cond.methodLink RX3 130 yX3_readOlder, Cond.instanceMethod yX3_readOlder, Cond.selects RX3 yX3_readOlder yX3_readOlder, Cond.code yX3_readOlder cX3_readOlder 3 none, Cond.fieldLink RX3 328 "YearSkins$Land" "needs" "[I", Cond.methodLink RX3 325 yX1_isTold, Cond.instanceMethod yX1_isTold, Cond.selects RX1 yX1_isTold yX1_isTold, Cond.code yX1_isTold cX1_isTold 3 (some .boolean), Cond.methodLink RX3 139 yX3_readYearOfWall, Cond.instanceMethod yX3_readYearOfWall, Cond.selects RX3 yX3_readYearOfWall yX3_readYearOfWall]
theorem qt_432 : (Cond.methodLink RX3 127 yX3_readWall) ∈ lw_tbl := List.mem_of_getElem? (i := 787) (by decide +kernel)
theorem qt_433 : (Cond.instanceMethod yX3_readWall) ∈ lw_tbl := List.mem_of_getElem? (i := 789) (by decide +kernel)
theorem qt_434 : (Cond.selects RX3 yX3_readWall yX3_readWall) ∈ lw_tbl := List.mem_of_getElem? (i := 25) (by decide +kernel)
theorem qt_435 : (Cond.code yX3_readWall cX3_readWall 1 none) ∈ lw_tbl := List.mem_of_getElem? (i := 790) (by decide +kernel)
theorem qt_436 : (Cond.methodLink RX3 130 yX3_readOlder) ∈ lw_tbl := List.mem_of_getElem? (i := 791) (by decide +kernel)
theorem qt_437 : (Cond.instanceMethod yX3_readOlder) ∈ lw_tbl := List.mem_of_getElem? (i := 793) (by decide +kernel)
theorem qt_438 : (Cond.selects RX3 yX3_readOlder yX3_readOlder) ∈ lw_tbl := List.mem_of_getElem? (i := 26) (by decide +kernel)
theorem qt_439 : (Cond.code yX3_readOlder cX3_readOlder 3 none) ∈ lw_tbl := List.mem_of_getElem? (i := 794) (by decide +kernel)
theorem qt_440 : (Cond.fieldLink RX3 328 "YearSkins$Land" "needs" "[I") ∈ lw_tbl := List.mem_of_getElem? (i := 205) (by decide +kernel)
theorem qt_441 : (Cond.methodLink RX3 325 yX1_isTold) ∈ lw_tbl := List.mem_of_getElem? (i := 795) (by decide +kernel)
theorem qt_442 : (Cond.instanceMethod yX1_isTold) ∈ lw_tbl := List.mem_of_getElem? (i := 796) (by decide +kernel)
theorem qt_443 : (Cond.selects RX1 yX1_isTold yX1_isTold) ∈ lw_tbl := List.mem_of_getElem? (i := 797) (by decide +kernel)
theorem qt_444 : (Cond.code yX1_isTold cX1_isTold 3 (some .boolean)) ∈ lw_tbl := List.mem_of_getElem? (i := 798) (by decide +kernel)
theorem qt_445 : (Cond.methodLink RX3 139 yX3_readYearOfWall) ∈ lw_tbl := List.mem_of_getElem? (i := 799) (by decide +kernel)
theorem qt_446 : (Cond.instanceMethod yX3_readYearOfWall) ∈ lw_tbl := List.mem_of_getElem? (i := 801) (by decide +kernel)
theorem qt_447 : (Cond.selects RX3 yX3_readYearOfWall yX3_readYearOfWall) ∈ lw_tbl := List.mem_of_getElem? (i := 27) (by decide +kernel)
theorem WLr_27 : ∀ w ∈ WL_27, w ∈ lw_tbl := List.forall_mem_cons.mpr ⟨qt_432, List.forall_mem_cons.mpr ⟨qt_433, List.forall_mem_cons.mpr ⟨qt_434, List.forall_mem_cons.mpr ⟨qt_435, List.forall_mem_cons.mpr ⟨qt_436, List.forall_mem_cons.mpr ⟨qt_437, List.forall_mem_cons.mpr ⟨qt_438, List.forall_mem_cons.mpr ⟨qt_439, List.forall_mem_cons.mpr ⟨qt_440, List.forall_mem_cons.mpr ⟨qt_441, List.forall_mem_cons.mpr ⟨qt_442, List.forall_mem_cons.mpr ⟨qt_443, List.forall_mem_cons.mpr ⟨qt_444, List.forall_mem_cons.mpr ⟨qt_445, List.forall_mem_cons.mpr ⟨qt_446, List.forall_mem_cons.mpr ⟨qt_447, fun _ h => absurd h List.not_mem_nil⟩⟩⟩⟩⟩⟩⟩⟩⟩⟩⟩⟩⟩⟩⟩⟩
def WL_28 : List Cond := [Cond.code yX3_readYearOfWall cX3_readYearOfWall 3 none, Cond.methodLink RX11 99 yX7_copyFrom, Cond.instanceMethod yX7_copyFrom, Cond.selects RX7 yX7_copyFrom yX7_copyFrom, Cond.code yX7_copyFrom cX7_copyFrom 2 none, Cond.methodLink RX7 34 arraycopyName, Cond.native arraycopyName, Cond.static arraycopyName, Cond.initialized "java/lang/System", Cond.methodLink RX11 103 yX2_forget, Cond.instanceMethod yX2_forget, Cond.selects RX2 yX2_forget yX2_forget, Cond.code yX2_forget cX2_forget 1 none, Cond.fieldLink RX2 21 "YearSkins$Past" "acts" "I", Cond.fieldLink RX2 25 "YearSkins$Past" "marks" "I", Cond.methodLink RX11 113 yX11_answer]
theorem qt_448 : (Cond.code yX3_readYearOfWall cX3_readYearOfWall 3 none) ∈ lw_tbl := List.mem_of_getElem? (i := 802) (by decide +kernel)
theorem qt_449 : (Cond.methodLink RX11 99 yX7_copyFrom) ∈ lw_tbl := List.mem_of_getElem? (i := 803) (by decide +kernel)
theorem qt_450 : (Cond.instanceMethod yX7_copyFrom) ∈ lw_tbl := List.mem_of_getElem? (i := 804) (by decide +kernel)
theorem qt_451 : (Cond.selects RX7 yX7_copyFrom yX7_copyFrom) ∈ lw_tbl := List.mem_of_getElem? (i := 805) (by decide +kernel)
theorem qt_452 : (Cond.code yX7_copyFrom cX7_copyFrom 2 none) ∈ lw_tbl := List.mem_of_getElem? (i := 806) (by decide +kernel)
theorem qt_453 : (Cond.methodLink RX7 34 arraycopyName) ∈ lw_tbl := List.mem_of_getElem? (i := 807) (by decide +kernel)
theorem qt_454 : (Cond.native arraycopyName) ∈ lw_tbl := List.mem_of_getElem? (i := 809) (by decide +kernel)
theorem qt_455 : (Cond.static arraycopyName) ∈ lw_tbl := List.mem_of_getElem? (i := 808) (by decide +kernel)
theorem qt_456 : (Cond.initialized "java/lang/System") ∈ lw_tbl := List.mem_of_getElem? (i := 130) (by decide +kernel)
theorem qt_457 : (Cond.methodLink RX11 103 yX2_forget) ∈ lw_tbl := List.mem_of_getElem? (i := 810) (by decide +kernel)
theorem qt_458 : (Cond.instanceMethod yX2_forget) ∈ lw_tbl := List.mem_of_getElem? (i := 811) (by decide +kernel)
theorem qt_459 : (Cond.selects RX2 yX2_forget yX2_forget) ∈ lw_tbl := List.mem_of_getElem? (i := 812) (by decide +kernel)
theorem qt_460 : (Cond.code yX2_forget cX2_forget 1 none) ∈ lw_tbl := List.mem_of_getElem? (i := 813) (by decide +kernel)
theorem qt_461 : (Cond.fieldLink RX2 21 "YearSkins$Past" "acts" "I") ∈ lw_tbl := List.mem_of_getElem? (i := 453) (by decide +kernel)
theorem qt_462 : (Cond.fieldLink RX2 25 "YearSkins$Past" "marks" "I") ∈ lw_tbl := List.mem_of_getElem? (i := 455) (by decide +kernel)
theorem qt_463 : (Cond.methodLink RX11 113 yX11_answer) ∈ lw_tbl := List.mem_of_getElem? (i := 814) (by decide +kernel)
theorem WLr_28 : ∀ w ∈ WL_28, w ∈ lw_tbl := List.forall_mem_cons.mpr ⟨qt_448, List.forall_mem_cons.mpr ⟨qt_449, List.forall_mem_cons.mpr ⟨qt_450, List.forall_mem_cons.mpr ⟨qt_451, List.forall_mem_cons.mpr ⟨qt_452, List.forall_mem_cons.mpr ⟨qt_453, List.forall_mem_cons.mpr ⟨qt_454, List.forall_mem_cons.mpr ⟨qt_455, List.forall_mem_cons.mpr ⟨qt_456, List.forall_mem_cons.mpr ⟨qt_457, List.forall_mem_cons.mpr ⟨qt_458, List.forall_mem_cons.mpr ⟨qt_459, List.forall_mem_cons.mpr ⟨qt_460, List.forall_mem_cons.mpr ⟨qt_461, List.forall_mem_cons.mpr ⟨qt_462, List.forall_mem_cons.mpr ⟨qt_463, fun _ h => absurd h List.not_mem_nil⟩⟩⟩⟩⟩⟩⟩⟩⟩⟩⟩⟩⟩⟩⟩⟩
def WL_29 : List Cond := [Cond.instanceMethod yX11_answer, Cond.selects RX11 yX11_answer yX11_answer, Cond.code yX11_answer cX11_answer 2 (some .int), Cond.methodLink RL 27 yX13_land, Cond.instanceMethod yX13_land, Cond.selects RX13 yX13_land yX13_land, Cond.code yX13_land cX13_land 3 (some .int), Cond.fieldLink RX13 76 "YearSkinsModel" "size" "I", Cond.fieldLink RX13 94 "YearSkinsModel" "spot" "I", Cond.fieldLink RX13 120 "YearSkinsModel" "fault" "I", Cond.classLink RX13 161 RX12, Cond.instantiable RX12 31, Cond.initialized RX12, Cond.fieldLink RX13 156 "YearSkinsModel" "read" "LYearSkinsModel$Land;", Cond.fieldLink RX13 91 "YearSkinsModel" "sort" "I", Cond.fieldLink RX13 66 "YearSkinsModel" "trouble" "I"]
theorem qt_464 : (Cond.instanceMethod yX11_answer) ∈ lw_tbl := List.mem_of_getElem? (i := 816) (by decide +kernel)
theorem qt_465 : (Cond.selects RX11 yX11_answer yX11_answer) ∈ lw_tbl := List.mem_of_getElem? (i := 28) (by decide +kernel)
theorem qt_466 : (Cond.code yX11_answer cX11_answer 2 (some .int)) ∈ lw_tbl := List.mem_of_getElem? (i := 817) (by decide +kernel)
theorem qt_467 : (Cond.methodLink RL 27 yX13_land) ∈ lw_tbl := List.mem_of_getElem? (i := 1494) (by decide +kernel)
theorem qt_468 : (Cond.instanceMethod yX13_land) ∈ lw_tbl := List.mem_of_getElem? (i := 1495) (by decide +kernel)
theorem qt_469 : (Cond.selects RX13 yX13_land yX13_land) ∈ lw_tbl := List.mem_of_getElem? (i := 1496) (by decide +kernel)
theorem qt_470 : (Cond.code yX13_land cX13_land 3 (some .int)) ∈ lw_tbl := List.mem_of_getElem? (i := 1497) (by decide +kernel)
theorem qt_471 : (Cond.fieldLink RX13 76 "YearSkinsModel" "size" "I") ∈ lw_tbl := List.mem_of_getElem? (i := 1381) (by decide +kernel)
theorem qt_472 : (Cond.fieldLink RX13 94 "YearSkinsModel" "spot" "I") ∈ lw_tbl := List.mem_of_getElem? (i := 1382) (by decide +kernel)
theorem qt_473 : (Cond.fieldLink RX13 120 "YearSkinsModel" "fault" "I") ∈ lw_tbl := List.mem_of_getElem? (i := 1387) (by decide +kernel)
theorem qt_474 : (Cond.classLink RX13 161 RX12) ∈ lw_tbl := List.mem_of_getElem? (i := 1502) (by decide +kernel)
theorem qt_475 : (Cond.instantiable RX12 31) ∈ lw_tbl := List.mem_of_getElem? (i := 1503) (by decide +kernel)
theorem qt_476 : (Cond.initialized RX12) ∈ lw_tbl := List.mem_of_getElem? (i := 131) (by decide +kernel)
theorem qt_477 : (Cond.fieldLink RX13 156 "YearSkinsModel" "read" "LYearSkinsModel$Land;") ∈ lw_tbl := List.mem_of_getElem? (i := 1378) (by decide +kernel)
theorem qt_478 : (Cond.fieldLink RX13 91 "YearSkinsModel" "sort" "I") ∈ lw_tbl := List.mem_of_getElem? (i := 1383) (by decide +kernel)
theorem qt_479 : (Cond.fieldLink RX13 66 "YearSkinsModel" "trouble" "I") ∈ lw_tbl := List.mem_of_getElem? (i := 1375) (by decide +kernel)
theorem WLr_29 : ∀ w ∈ WL_29, w ∈ lw_tbl := List.forall_mem_cons.mpr ⟨qt_464, List.forall_mem_cons.mpr ⟨qt_465, List.forall_mem_cons.mpr ⟨qt_466, List.forall_mem_cons.mpr ⟨qt_467, List.forall_mem_cons.mpr ⟨qt_468, List.forall_mem_cons.mpr ⟨qt_469, List.forall_mem_cons.mpr ⟨qt_470, List.forall_mem_cons.mpr ⟨qt_471, List.forall_mem_cons.mpr ⟨qt_472, List.forall_mem_cons.mpr ⟨qt_473, List.forall_mem_cons.mpr ⟨qt_474, List.forall_mem_cons.mpr ⟨qt_475, List.forall_mem_cons.mpr ⟨qt_476, List.forall_mem_cons.mpr ⟨qt_477, List.forall_mem_cons.mpr ⟨qt_478, List.forall_mem_cons.mpr ⟨qt_479, fun _ h => absurd h List.not_mem_nil⟩⟩⟩⟩⟩⟩⟩⟩⟩⟩⟩⟩⟩⟩⟩⟩
def WL_30 : List Cond := [Cond.fieldLink RX13 123 "YearSkinsModel" "wrongAt" "I", Cond.fieldLink RX13 417 "YearSkinsModel" "land" "LYearSkinsModel$Land;", Cond.fieldLink RX13 419 "YearSkinsModel" "acts" "I", Cond.fieldLink RX13 422 "YearSkinsModel" "marks" "I", Cond.methodLink RX13 69 yX13_refused, Cond.instanceMethod yX13_refused, Cond.selects RX13 yX13_refused yX13_refused, Cond.code yX13_refused cX13_refused 2 (some .int), Cond.instanceMethod yX12_init, Cond.code yX12_init cX12_init 1 none, Cond.methodLink RX12 3 objectInit, Cond.fieldLink RX12 9 "YearSkinsModel$Land" "year" "I", Cond.fieldLink RX12 15 "YearSkinsModel$Land" "water" "[Z", Cond.fieldLink RX12 19 "YearSkinsModel$Land" "kind" "[I", Cond.fieldLink RX12 23 "YearSkinsModel$Land" "costs" "[I", Cond.fieldLink RX12 26 "YearSkinsModel$Land" "warm" "[I"]
theorem qt_480 : (Cond.fieldLink RX13 123 "YearSkinsModel" "wrongAt" "I") ∈ lw_tbl := List.mem_of_getElem? (i := 1388) (by decide +kernel)
theorem qt_481 : (Cond.fieldLink RX13 417 "YearSkinsModel" "land" "LYearSkinsModel$Land;") ∈ lw_tbl := List.mem_of_getElem? (i := 1377) (by decide +kernel)
theorem qt_482 : (Cond.fieldLink RX13 419 "YearSkinsModel" "acts" "I") ∈ lw_tbl := List.mem_of_getElem? (i := 1394) (by decide +kernel)
theorem qt_483 : (Cond.fieldLink RX13 422 "YearSkinsModel" "marks" "I") ∈ lw_tbl := List.mem_of_getElem? (i := 1395) (by decide +kernel)
theorem qt_484 : (Cond.methodLink RX13 69 yX13_refused) ∈ lw_tbl := List.mem_of_getElem? (i := 1498) (by decide +kernel)
theorem qt_485 : (Cond.instanceMethod yX13_refused) ∈ lw_tbl := List.mem_of_getElem? (i := 1500) (by decide +kernel)
theorem qt_486 : (Cond.selects RX13 yX13_refused yX13_refused) ∈ lw_tbl := List.mem_of_getElem? (i := 49) (by decide +kernel)
theorem qt_487 : (Cond.code yX13_refused cX13_refused 2 (some .int)) ∈ lw_tbl := List.mem_of_getElem? (i := 1501) (by decide +kernel)
theorem qt_488 : (Cond.instanceMethod yX12_init) ∈ lw_tbl := List.mem_of_getElem? (i := 1505) (by decide +kernel)
theorem qt_489 : (Cond.code yX12_init cX12_init 1 none) ∈ lw_tbl := List.mem_of_getElem? (i := 1506) (by decide +kernel)
theorem qt_490 : (Cond.methodLink RX12 3 objectInit) ∈ lw_tbl := List.mem_of_getElem? (i := 1507) (by decide +kernel)
theorem qt_491 : (Cond.fieldLink RX12 9 "YearSkinsModel$Land" "year" "I") ∈ lw_tbl := List.mem_of_getElem? (i := 1512) (by decide +kernel)
theorem qt_492 : (Cond.fieldLink RX12 15 "YearSkinsModel$Land" "water" "[Z") ∈ lw_tbl := List.mem_of_getElem? (i := 1527) (by decide +kernel)
theorem qt_493 : (Cond.fieldLink RX12 19 "YearSkinsModel$Land" "kind" "[I") ∈ lw_tbl := List.mem_of_getElem? (i := 1529) (by decide +kernel)
theorem qt_494 : (Cond.fieldLink RX12 23 "YearSkinsModel$Land" "costs" "[I") ∈ lw_tbl := List.mem_of_getElem? (i := 1531) (by decide +kernel)
theorem qt_495 : (Cond.fieldLink RX12 26 "YearSkinsModel$Land" "warm" "[I") ∈ lw_tbl := List.mem_of_getElem? (i := 1533) (by decide +kernel)
theorem WLr_30 : ∀ w ∈ WL_30, w ∈ lw_tbl := List.forall_mem_cons.mpr ⟨qt_480, List.forall_mem_cons.mpr ⟨qt_481, List.forall_mem_cons.mpr ⟨qt_482, List.forall_mem_cons.mpr ⟨qt_483, List.forall_mem_cons.mpr ⟨qt_484, List.forall_mem_cons.mpr ⟨qt_485, List.forall_mem_cons.mpr ⟨qt_486, List.forall_mem_cons.mpr ⟨qt_487, List.forall_mem_cons.mpr ⟨qt_488, List.forall_mem_cons.mpr ⟨qt_489, List.forall_mem_cons.mpr ⟨qt_490, List.forall_mem_cons.mpr ⟨qt_491, List.forall_mem_cons.mpr ⟨qt_492, List.forall_mem_cons.mpr ⟨qt_493, List.forall_mem_cons.mpr ⟨qt_494, List.forall_mem_cons.mpr ⟨qt_495, fun _ h => absurd h List.not_mem_nil⟩⟩⟩⟩⟩⟩⟩⟩⟩⟩⟩⟩⟩⟩⟩⟩
def WL_31 : List Cond := [Cond.fieldLink RX12 29 "YearSkinsModel$Land" "rots" "[I", Cond.fieldLink RX12 32 "YearSkinsModel$Land" "strong" "[I", Cond.fieldLink RX12 35 "YearSkinsModel$Land" "core" "[I", Cond.fieldLink RX12 38 "YearSkinsModel$Land" "stoneOf" "[I", Cond.fieldLink RX12 41 "YearSkinsModel$Land" "heirHouse" "[I", Cond.fieldLink RX12 44 "YearSkinsModel$Land" "older" "[I", Cond.fieldLink RX12 47 "YearSkinsModel$Land" "coin" "[I", Cond.fieldLink RX12 50 "YearSkinsModel$Land" "smell" "[I", Cond.fieldLink RX12 53 "YearSkinsModel$Land" "name" "[J", Cond.fieldLink RX12 57 "YearSkinsModel$Land" "nameSort" "[I", Cond.fieldLink RX12 60 "YearSkinsModel$Land" "nameNumber" "[I", Cond.fieldLink RX12 63 "YearSkinsModel$Land" "first" "[I", Cond.methodLink RX13 130 yX13_goesOn, Cond.instanceMethod yX13_goesOn, Cond.selects RX13 yX13_goesOn yX13_goesOn, Cond.code yX13_goesOn cX13_goesOn 3 none]
theorem qt_496 : (Cond.fieldLink RX12 29 "YearSkinsModel$Land" "rots" "[I") ∈ lw_tbl := List.mem_of_getElem? (i := 1535) (by decide +kernel)
theorem qt_497 : (Cond.fieldLink RX12 32 "YearSkinsModel$Land" "strong" "[I") ∈ lw_tbl := List.mem_of_getElem? (i := 1537) (by decide +kernel)
theorem qt_498 : (Cond.fieldLink RX12 35 "YearSkinsModel$Land" "core" "[I") ∈ lw_tbl := List.mem_of_getElem? (i := 1539) (by decide +kernel)
theorem qt_499 : (Cond.fieldLink RX12 38 "YearSkinsModel$Land" "stoneOf" "[I") ∈ lw_tbl := List.mem_of_getElem? (i := 1541) (by decide +kernel)
theorem qt_500 : (Cond.fieldLink RX12 41 "YearSkinsModel$Land" "heirHouse" "[I") ∈ lw_tbl := List.mem_of_getElem? (i := 1543) (by decide +kernel)
theorem qt_501 : (Cond.fieldLink RX12 44 "YearSkinsModel$Land" "older" "[I") ∈ lw_tbl := List.mem_of_getElem? (i := 1545) (by decide +kernel)
theorem qt_502 : (Cond.fieldLink RX12 47 "YearSkinsModel$Land" "coin" "[I") ∈ lw_tbl := List.mem_of_getElem? (i := 1547) (by decide +kernel)
theorem qt_503 : (Cond.fieldLink RX12 50 "YearSkinsModel$Land" "smell" "[I") ∈ lw_tbl := List.mem_of_getElem? (i := 1549) (by decide +kernel)
theorem qt_504 : (Cond.fieldLink RX12 53 "YearSkinsModel$Land" "name" "[J") ∈ lw_tbl := List.mem_of_getElem? (i := 1551) (by decide +kernel)
theorem qt_505 : (Cond.fieldLink RX12 57 "YearSkinsModel$Land" "nameSort" "[I") ∈ lw_tbl := List.mem_of_getElem? (i := 1553) (by decide +kernel)
theorem qt_506 : (Cond.fieldLink RX12 60 "YearSkinsModel$Land" "nameNumber" "[I") ∈ lw_tbl := List.mem_of_getElem? (i := 1555) (by decide +kernel)
theorem qt_507 : (Cond.fieldLink RX12 63 "YearSkinsModel$Land" "first" "[I") ∈ lw_tbl := List.mem_of_getElem? (i := 1557) (by decide +kernel)
theorem qt_508 : (Cond.methodLink RX13 130 yX13_goesOn) ∈ lw_tbl := List.mem_of_getElem? (i := 1622) (by decide +kernel)
theorem qt_509 : (Cond.instanceMethod yX13_goesOn) ∈ lw_tbl := List.mem_of_getElem? (i := 1624) (by decide +kernel)
theorem qt_510 : (Cond.selects RX13 yX13_goesOn yX13_goesOn) ∈ lw_tbl := List.mem_of_getElem? (i := 50) (by decide +kernel)
theorem qt_511 : (Cond.code yX13_goesOn cX13_goesOn 3 none) ∈ lw_tbl := List.mem_of_getElem? (i := 1625) (by decide +kernel)
theorem WLr_31 : ∀ w ∈ WL_31, w ∈ lw_tbl := List.forall_mem_cons.mpr ⟨qt_496, List.forall_mem_cons.mpr ⟨qt_497, List.forall_mem_cons.mpr ⟨qt_498, List.forall_mem_cons.mpr ⟨qt_499, List.forall_mem_cons.mpr ⟨qt_500, List.forall_mem_cons.mpr ⟨qt_501, List.forall_mem_cons.mpr ⟨qt_502, List.forall_mem_cons.mpr ⟨qt_503, List.forall_mem_cons.mpr ⟨qt_504, List.forall_mem_cons.mpr ⟨qt_505, List.forall_mem_cons.mpr ⟨qt_506, List.forall_mem_cons.mpr ⟨qt_507, List.forall_mem_cons.mpr ⟨qt_508, List.forall_mem_cons.mpr ⟨qt_509, List.forall_mem_cons.mpr ⟨qt_510, List.forall_mem_cons.mpr ⟨qt_511, fun _ h => absurd h List.not_mem_nil⟩⟩⟩⟩⟩⟩⟩⟩⟩⟩⟩⟩⟩⟩⟩⟩
def WL_32 : List Cond := [Cond.fieldLink RX13 100 "YearSkinsModel" "place" "I", Cond.fieldLink RX13 103 "YearSkinsModel" "sign" "I", Cond.fieldLink RX13 110 "YearSkinsModel" "word" "J", Cond.constantLong RX13 85 (32), Cond.fieldLink RX13 117 "YearSkinsModel" "number" "I", Cond.methodLink RX13 97 yX13_byteAt, Cond.instanceMethod yX13_byteAt, Cond.selects RX13 yX13_byteAt yX13_byteAt, Cond.code yX13_byteAt cX13_byteAt 2 (some .int), Cond.methodLink RX13 106 yX13_isLetter, Cond.static yX13_isLetter, Cond.code yX13_isLetter cX13_isLetter 1 (some .boolean), Cond.methodLink RX13 114 yX13_isDigit, Cond.static yX13_isDigit, Cond.code yX13_isDigit cX13_isDigit 1 (some .boolean), Cond.methodLink RX13 414 yX13_readAll]
theorem qt_512 : (Cond.fieldLink RX13 100 "YearSkinsModel" "place" "I") ∈ lw_tbl := List.mem_of_getElem? (i := 1384) (by decide +kernel)
theorem qt_513 : (Cond.fieldLink RX13 103 "YearSkinsModel" "sign" "I") ∈ lw_tbl := List.mem_of_getElem? (i := 1385) (by decide +kernel)
theorem qt_514 : (Cond.fieldLink RX13 110 "YearSkinsModel" "word" "J") ∈ lw_tbl := List.mem_of_getElem? (i := 1389) (by decide +kernel)
theorem qt_515 : (Cond.constantLong RX13 85 (32)) ∈ lw_tbl := List.mem_of_getElem? (i := 1633) (by decide +kernel)
theorem qt_516 : (Cond.fieldLink RX13 117 "YearSkinsModel" "number" "I") ∈ lw_tbl := List.mem_of_getElem? (i := 1386) (by decide +kernel)
theorem qt_517 : (Cond.methodLink RX13 97 yX13_byteAt) ∈ lw_tbl := List.mem_of_getElem? (i := 1626) (by decide +kernel)
theorem qt_518 : (Cond.instanceMethod yX13_byteAt) ∈ lw_tbl := List.mem_of_getElem? (i := 1628) (by decide +kernel)
theorem qt_519 : (Cond.selects RX13 yX13_byteAt yX13_byteAt) ∈ lw_tbl := List.mem_of_getElem? (i := 51) (by decide +kernel)
theorem qt_520 : (Cond.code yX13_byteAt cX13_byteAt 2 (some .int)) ∈ lw_tbl := List.mem_of_getElem? (i := 1629) (by decide +kernel)
theorem qt_521 : (Cond.methodLink RX13 106 yX13_isLetter) ∈ lw_tbl := List.mem_of_getElem? (i := 1630) (by decide +kernel)
theorem qt_522 : (Cond.static yX13_isLetter) ∈ lw_tbl := List.mem_of_getElem? (i := 1631) (by decide +kernel)
theorem qt_523 : (Cond.code yX13_isLetter cX13_isLetter 1 (some .boolean)) ∈ lw_tbl := List.mem_of_getElem? (i := 1632) (by decide +kernel)
theorem qt_524 : (Cond.methodLink RX13 114 yX13_isDigit) ∈ lw_tbl := List.mem_of_getElem? (i := 1634) (by decide +kernel)
theorem qt_525 : (Cond.static yX13_isDigit) ∈ lw_tbl := List.mem_of_getElem? (i := 1635) (by decide +kernel)
theorem qt_526 : (Cond.code yX13_isDigit cX13_isDigit 1 (some .boolean)) ∈ lw_tbl := List.mem_of_getElem? (i := 1636) (by decide +kernel)
theorem qt_527 : (Cond.methodLink RX13 414 yX13_readAll) ∈ lw_tbl := List.mem_of_getElem? (i := 1637) (by decide +kernel)
theorem WLr_32 : ∀ w ∈ WL_32, w ∈ lw_tbl := List.forall_mem_cons.mpr ⟨qt_512, List.forall_mem_cons.mpr ⟨qt_513, List.forall_mem_cons.mpr ⟨qt_514, List.forall_mem_cons.mpr ⟨qt_515, List.forall_mem_cons.mpr ⟨qt_516, List.forall_mem_cons.mpr ⟨qt_517, List.forall_mem_cons.mpr ⟨qt_518, List.forall_mem_cons.mpr ⟨qt_519, List.forall_mem_cons.mpr ⟨qt_520, List.forall_mem_cons.mpr ⟨qt_521, List.forall_mem_cons.mpr ⟨qt_522, List.forall_mem_cons.mpr ⟨qt_523, List.forall_mem_cons.mpr ⟨qt_524, List.forall_mem_cons.mpr ⟨qt_525, List.forall_mem_cons.mpr ⟨qt_526, List.forall_mem_cons.mpr ⟨qt_527, fun _ h => absurd h List.not_mem_nil⟩⟩⟩⟩⟩⟩⟩⟩⟩⟩⟩⟩⟩⟩⟩⟩
def WL_33 : List Cond := [Cond.instanceMethod yX13_readAll, Cond.selects RX13 yX13_readAll yX13_readAll, Cond.code yX13_readAll cX13_readAll 2 none, Cond.methodLink RX13 217 yX13_readLine, Cond.instanceMethod yX13_readLine, Cond.selects RX13 yX13_readLine yX13_readLine, Cond.code yX13_readLine cX13_readLine 1 none, Cond.methodLink RX13 133 yX13_isWord, Cond.instanceMethod yX13_isWord, Cond.selects RX13 yX13_isWord yX13_isWord, Cond.code yX13_isWord cX13_isWord 2 (some .boolean), Cond.methodLink RX13 126 yX13_wordOf, Cond.static yX13_wordOf, Cond.code yX13_wordOf cX13_wordOf 4 (some .long), Cond.methodLink RX13 79 yJ0_length_8abf5, Cond.methodLink RX13 87 yJ0_charAt_5068e]
theorem qt_528 : (Cond.instanceMethod yX13_readAll) ∈ lw_tbl := List.mem_of_getElem? (i := 1639) (by decide +kernel)
theorem qt_529 : (Cond.selects RX13 yX13_readAll yX13_readAll) ∈ lw_tbl := List.mem_of_getElem? (i := 52) (by decide +kernel)
theorem qt_530 : (Cond.code yX13_readAll cX13_readAll 2 none) ∈ lw_tbl := List.mem_of_getElem? (i := 1640) (by decide +kernel)
theorem qt_531 : (Cond.methodLink RX13 217 yX13_readLine) ∈ lw_tbl := List.mem_of_getElem? (i := 1641) (by decide +kernel)
theorem qt_532 : (Cond.instanceMethod yX13_readLine) ∈ lw_tbl := List.mem_of_getElem? (i := 1643) (by decide +kernel)
theorem qt_533 : (Cond.selects RX13 yX13_readLine yX13_readLine) ∈ lw_tbl := List.mem_of_getElem? (i := 53) (by decide +kernel)
theorem qt_534 : (Cond.code yX13_readLine cX13_readLine 1 none) ∈ lw_tbl := List.mem_of_getElem? (i := 1644) (by decide +kernel)
theorem qt_535 : (Cond.methodLink RX13 133 yX13_isWord) ∈ lw_tbl := List.mem_of_getElem? (i := 1646) (by decide +kernel)
theorem qt_536 : (Cond.instanceMethod yX13_isWord) ∈ lw_tbl := List.mem_of_getElem? (i := 1648) (by decide +kernel)
theorem qt_537 : (Cond.selects RX13 yX13_isWord yX13_isWord) ∈ lw_tbl := List.mem_of_getElem? (i := 54) (by decide +kernel)
theorem qt_538 : (Cond.code yX13_isWord cX13_isWord 2 (some .boolean)) ∈ lw_tbl := List.mem_of_getElem? (i := 1649) (by decide +kernel)
theorem qt_539 : (Cond.methodLink RX13 126 yX13_wordOf) ∈ lw_tbl := List.mem_of_getElem? (i := 1650) (by decide +kernel)
theorem qt_540 : (Cond.static yX13_wordOf) ∈ lw_tbl := List.mem_of_getElem? (i := 1651) (by decide +kernel)
theorem qt_541 : (Cond.code yX13_wordOf cX13_wordOf 4 (some .long)) ∈ lw_tbl := List.mem_of_getElem? (i := 1652) (by decide +kernel)
theorem qt_542 : (Cond.methodLink RX13 79 yJ0_length_8abf5) ∈ lw_tbl := List.mem_of_getElem? (i := 1653) (by decide +kernel)
theorem qt_543 : (Cond.methodLink RX13 87 yJ0_charAt_5068e) ∈ lw_tbl := List.mem_of_getElem? (i := 1654) (by decide +kernel)
theorem WLr_33 : ∀ w ∈ WL_33, w ∈ lw_tbl := List.forall_mem_cons.mpr ⟨qt_528, List.forall_mem_cons.mpr ⟨qt_529, List.forall_mem_cons.mpr ⟨qt_530, List.forall_mem_cons.mpr ⟨qt_531, List.forall_mem_cons.mpr ⟨qt_532, List.forall_mem_cons.mpr ⟨qt_533, List.forall_mem_cons.mpr ⟨qt_534, List.forall_mem_cons.mpr ⟨qt_535, List.forall_mem_cons.mpr ⟨qt_536, List.forall_mem_cons.mpr ⟨qt_537, List.forall_mem_cons.mpr ⟨qt_538, List.forall_mem_cons.mpr ⟨qt_539, List.forall_mem_cons.mpr ⟨qt_540, List.forall_mem_cons.mpr ⟨qt_541, List.forall_mem_cons.mpr ⟨qt_542, List.forall_mem_cons.mpr ⟨qt_543, fun _ h => absurd h List.not_mem_nil⟩⟩⟩⟩⟩⟩⟩⟩⟩⟩⟩⟩⟩⟩⟩⟩
def WL_34 : List Cond := [Cond.methodLink RX13 232 yX13_readLand, Cond.instanceMethod yX13_readLand, Cond.selects RX13 yX13_readLand yX13_readLand, Cond.code yX13_readLand cX13_readLand 5 none, Cond.methodLink RX13 137 yX13_flaw, Cond.instanceMethod yX13_flaw, Cond.selects RX13 yX13_flaw yX13_flaw, Cond.code yX13_flaw cX13_flaw 2 none, Cond.methodLink RX13 264 yX13_readPart, Cond.instanceMethod yX13_readPart, Cond.selects RX13 yX13_readPart yX13_readPart, Cond.code yX13_readPart cX13_readPart 4 (some .int), Cond.methodLink RX13 149 yX13_needs, Cond.instanceMethod yX13_needs, Cond.selects RX13 yX13_needs yX13_needs, Cond.code yX13_needs cX13_needs 2 none]
theorem qt_544 : (Cond.methodLink RX13 232 yX13_readLand) ∈ lw_tbl := List.mem_of_getElem? (i := 1655) (by decide +kernel)
theorem qt_545 : (Cond.instanceMethod yX13_readLand) ∈ lw_tbl := List.mem_of_getElem? (i := 1657) (by decide +kernel)
theorem qt_546 : (Cond.selects RX13 yX13_readLand yX13_readLand) ∈ lw_tbl := List.mem_of_getElem? (i := 55) (by decide +kernel)
theorem qt_547 : (Cond.code yX13_readLand cX13_readLand 5 none) ∈ lw_tbl := List.mem_of_getElem? (i := 1658) (by decide +kernel)
theorem qt_548 : (Cond.methodLink RX13 137 yX13_flaw) ∈ lw_tbl := List.mem_of_getElem? (i := 1659) (by decide +kernel)
theorem qt_549 : (Cond.instanceMethod yX13_flaw) ∈ lw_tbl := List.mem_of_getElem? (i := 1661) (by decide +kernel)
theorem qt_550 : (Cond.selects RX13 yX13_flaw yX13_flaw) ∈ lw_tbl := List.mem_of_getElem? (i := 56) (by decide +kernel)
theorem qt_551 : (Cond.code yX13_flaw cX13_flaw 2 none) ∈ lw_tbl := List.mem_of_getElem? (i := 1662) (by decide +kernel)
theorem qt_552 : (Cond.methodLink RX13 264 yX13_readPart) ∈ lw_tbl := List.mem_of_getElem? (i := 1664) (by decide +kernel)
theorem qt_553 : (Cond.instanceMethod yX13_readPart) ∈ lw_tbl := List.mem_of_getElem? (i := 1666) (by decide +kernel)
theorem qt_554 : (Cond.selects RX13 yX13_readPart yX13_readPart) ∈ lw_tbl := List.mem_of_getElem? (i := 57) (by decide +kernel)
theorem qt_555 : (Cond.code yX13_readPart cX13_readPart 4 (some .int)) ∈ lw_tbl := List.mem_of_getElem? (i := 1667) (by decide +kernel)
theorem qt_556 : (Cond.methodLink RX13 149 yX13_needs) ∈ lw_tbl := List.mem_of_getElem? (i := 1668) (by decide +kernel)
theorem qt_557 : (Cond.instanceMethod yX13_needs) ∈ lw_tbl := List.mem_of_getElem? (i := 1670) (by decide +kernel)
theorem qt_558 : (Cond.selects RX13 yX13_needs yX13_needs) ∈ lw_tbl := List.mem_of_getElem? (i := 58) (by decide +kernel)
theorem qt_559 : (Cond.code yX13_needs cX13_needs 2 none) ∈ lw_tbl := List.mem_of_getElem? (i := 1671) (by decide +kernel)
theorem WLr_34 : ∀ w ∈ WL_34, w ∈ lw_tbl := List.forall_mem_cons.mpr ⟨qt_544, List.forall_mem_cons.mpr ⟨qt_545, List.forall_mem_cons.mpr ⟨qt_546, List.forall_mem_cons.mpr ⟨qt_547, List.forall_mem_cons.mpr ⟨qt_548, List.forall_mem_cons.mpr ⟨qt_549, List.forall_mem_cons.mpr ⟨qt_550, List.forall_mem_cons.mpr ⟨qt_551, List.forall_mem_cons.mpr ⟨qt_552, List.forall_mem_cons.mpr ⟨qt_553, List.forall_mem_cons.mpr ⟨qt_554, List.forall_mem_cons.mpr ⟨qt_555, List.forall_mem_cons.mpr ⟨qt_556, List.forall_mem_cons.mpr ⟨qt_557, List.forall_mem_cons.mpr ⟨qt_558, List.forall_mem_cons.mpr ⟨qt_559, fun _ h => absurd h List.not_mem_nil⟩⟩⟩⟩⟩⟩⟩⟩⟩⟩⟩⟩⟩⟩⟩⟩
def WL_35 : List Cond := [Cond.methodLink RX13 153 yX13_readWhole, Cond.instanceMethod yX13_readWhole, Cond.selects RX13 yX13_readWhole yX13_readWhole, Cond.code yX13_readWhole cX13_readWhole 4 (some .int), Cond.methodLink RX13 145 yX13_bounded, Cond.instanceMethod yX13_bounded, Cond.selects RX13 yX13_bounded yX13_bounded, Cond.code yX13_bounded cX13_bounded 3 (some .int), Cond.methodLink RX13 141 yX13_within, Cond.static yX13_within, Cond.code yX13_within cX13_within 3 (some .boolean), Cond.methodLink RX13 235 yX13_readYears, Cond.instanceMethod yX13_readYears, Cond.selects RX13 yX13_readYears yX13_readYears, Cond.code yX13_readYears cX13_readYears 5 none, Cond.methodLink RX13 286 yX13_begins]
theorem qt_560 : (Cond.methodLink RX13 153 yX13_readWhole) ∈ lw_tbl := List.mem_of_getElem? (i := 1672) (by decide +kernel)
theorem qt_561 : (Cond.instanceMethod yX13_readWhole) ∈ lw_tbl := List.mem_of_getElem? (i := 1674) (by decide +kernel)
theorem qt_562 : (Cond.selects RX13 yX13_readWhole yX13_readWhole) ∈ lw_tbl := List.mem_of_getElem? (i := 59) (by decide +kernel)
theorem qt_563 : (Cond.code yX13_readWhole cX13_readWhole 4 (some .int)) ∈ lw_tbl := List.mem_of_getElem? (i := 1675) (by decide +kernel)
theorem qt_564 : (Cond.methodLink RX13 145 yX13_bounded) ∈ lw_tbl := List.mem_of_getElem? (i := 1676) (by decide +kernel)
theorem qt_565 : (Cond.instanceMethod yX13_bounded) ∈ lw_tbl := List.mem_of_getElem? (i := 1678) (by decide +kernel)
theorem qt_566 : (Cond.selects RX13 yX13_bounded yX13_bounded) ∈ lw_tbl := List.mem_of_getElem? (i := 60) (by decide +kernel)
theorem qt_567 : (Cond.code yX13_bounded cX13_bounded 3 (some .int)) ∈ lw_tbl := List.mem_of_getElem? (i := 1679) (by decide +kernel)
theorem qt_568 : (Cond.methodLink RX13 141 yX13_within) ∈ lw_tbl := List.mem_of_getElem? (i := 1680) (by decide +kernel)
theorem qt_569 : (Cond.static yX13_within) ∈ lw_tbl := List.mem_of_getElem? (i := 1681) (by decide +kernel)
theorem qt_570 : (Cond.code yX13_within cX13_within 3 (some .boolean)) ∈ lw_tbl := List.mem_of_getElem? (i := 1682) (by decide +kernel)
theorem qt_571 : (Cond.methodLink RX13 235 yX13_readYears) ∈ lw_tbl := List.mem_of_getElem? (i := 1691) (by decide +kernel)
theorem qt_572 : (Cond.instanceMethod yX13_readYears) ∈ lw_tbl := List.mem_of_getElem? (i := 1693) (by decide +kernel)
theorem qt_573 : (Cond.selects RX13 yX13_readYears yX13_readYears) ∈ lw_tbl := List.mem_of_getElem? (i := 61) (by decide +kernel)
theorem qt_574 : (Cond.code yX13_readYears cX13_readYears 5 none) ∈ lw_tbl := List.mem_of_getElem? (i := 1694) (by decide +kernel)
theorem qt_575 : (Cond.methodLink RX13 286 yX13_begins) ∈ lw_tbl := List.mem_of_getElem? (i := 1695) (by decide +kernel)
theorem WLr_35 : ∀ w ∈ WL_35, w ∈ lw_tbl := List.forall_mem_cons.mpr ⟨qt_560, List.forall_mem_cons.mpr ⟨qt_561, List.forall_mem_cons.mpr ⟨qt_562, List.forall_mem_cons.mpr ⟨qt_563, List.forall_mem_cons.mpr ⟨qt_564, List.forall_mem_cons.mpr ⟨qt_565, List.forall_mem_cons.mpr ⟨qt_566, List.forall_mem_cons.mpr ⟨qt_567, List.forall_mem_cons.mpr ⟨qt_568, List.forall_mem_cons.mpr ⟨qt_569, List.forall_mem_cons.mpr ⟨qt_570, List.forall_mem_cons.mpr ⟨qt_571, List.forall_mem_cons.mpr ⟨qt_572, List.forall_mem_cons.mpr ⟨qt_573, List.forall_mem_cons.mpr ⟨qt_574, List.forall_mem_cons.mpr ⟨qt_575, fun _ h => absurd h List.not_mem_nil⟩⟩⟩⟩⟩⟩⟩⟩⟩⟩⟩⟩⟩⟩⟩⟩
def WL_36 : List Cond := [Cond.instanceMethod yX13_begins, Cond.selects RX13 yX13_begins yX13_begins, Cond.code yX13_begins cX13_begins 3 none, Cond.methodLink RX13 238 yX13_readWater, Cond.instanceMethod yX13_readWater, Cond.selects RX13 yX13_readWater yX13_readWater, Cond.code yX13_readWater cX13_readWater 2 none, Cond.methodLink RX13 305 yX13_knownCell, Cond.instanceMethod yX13_knownCell, Cond.selects RX13 yX13_knownCell yX13_knownCell, Cond.code yX13_knownCell cX13_knownCell 2 (some .int), Cond.methodLink RX13 165 yX13_needsSign, Cond.instanceMethod yX13_needsSign, Cond.selects RX13 yX13_needsSign yX13_needsSign, Cond.code yX13_needsSign cX13_needsSign 2 none, Cond.methodLink RX13 241 yX13_readStone]
theorem qt_576 : (Cond.instanceMethod yX13_begins) ∈ lw_tbl := List.mem_of_getElem? (i := 1697) (by decide +kernel)
theorem qt_577 : (Cond.selects RX13 yX13_begins yX13_begins) ∈ lw_tbl := List.mem_of_getElem? (i := 62) (by decide +kernel)
theorem qt_578 : (Cond.code yX13_begins cX13_begins 3 none) ∈ lw_tbl := List.mem_of_getElem? (i := 1698) (by decide +kernel)
theorem qt_579 : (Cond.methodLink RX13 238 yX13_readWater) ∈ lw_tbl := List.mem_of_getElem? (i := 1703) (by decide +kernel)
theorem qt_580 : (Cond.instanceMethod yX13_readWater) ∈ lw_tbl := List.mem_of_getElem? (i := 1705) (by decide +kernel)
theorem qt_581 : (Cond.selects RX13 yX13_readWater yX13_readWater) ∈ lw_tbl := List.mem_of_getElem? (i := 63) (by decide +kernel)
theorem qt_582 : (Cond.code yX13_readWater cX13_readWater 2 none) ∈ lw_tbl := List.mem_of_getElem? (i := 1706) (by decide +kernel)
theorem qt_583 : (Cond.methodLink RX13 305 yX13_knownCell) ∈ lw_tbl := List.mem_of_getElem? (i := 1707) (by decide +kernel)
theorem qt_584 : (Cond.instanceMethod yX13_knownCell) ∈ lw_tbl := List.mem_of_getElem? (i := 1709) (by decide +kernel)
theorem qt_585 : (Cond.selects RX13 yX13_knownCell yX13_knownCell) ∈ lw_tbl := List.mem_of_getElem? (i := 64) (by decide +kernel)
theorem qt_586 : (Cond.code yX13_knownCell cX13_knownCell 2 (some .int)) ∈ lw_tbl := List.mem_of_getElem? (i := 1710) (by decide +kernel)
theorem qt_587 : (Cond.methodLink RX13 165 yX13_needsSign) ∈ lw_tbl := List.mem_of_getElem? (i := 1711) (by decide +kernel)
theorem qt_588 : (Cond.instanceMethod yX13_needsSign) ∈ lw_tbl := List.mem_of_getElem? (i := 1713) (by decide +kernel)
theorem qt_589 : (Cond.selects RX13 yX13_needsSign yX13_needsSign) ∈ lw_tbl := List.mem_of_getElem? (i := 65) (by decide +kernel)
theorem qt_590 : (Cond.code yX13_needsSign cX13_needsSign 2 none) ∈ lw_tbl := List.mem_of_getElem? (i := 1714) (by decide +kernel)
theorem qt_591 : (Cond.methodLink RX13 241 yX13_readStone) ∈ lw_tbl := List.mem_of_getElem? (i := 1716) (by decide +kernel)
theorem WLr_36 : ∀ w ∈ WL_36, w ∈ lw_tbl := List.forall_mem_cons.mpr ⟨qt_576, List.forall_mem_cons.mpr ⟨qt_577, List.forall_mem_cons.mpr ⟨qt_578, List.forall_mem_cons.mpr ⟨qt_579, List.forall_mem_cons.mpr ⟨qt_580, List.forall_mem_cons.mpr ⟨qt_581, List.forall_mem_cons.mpr ⟨qt_582, List.forall_mem_cons.mpr ⟨qt_583, List.forall_mem_cons.mpr ⟨qt_584, List.forall_mem_cons.mpr ⟨qt_585, List.forall_mem_cons.mpr ⟨qt_586, List.forall_mem_cons.mpr ⟨qt_587, List.forall_mem_cons.mpr ⟨qt_588, List.forall_mem_cons.mpr ⟨qt_589, List.forall_mem_cons.mpr ⟨qt_590, List.forall_mem_cons.mpr ⟨qt_591, fun _ h => absurd h List.not_mem_nil⟩⟩⟩⟩⟩⟩⟩⟩⟩⟩⟩⟩⟩⟩⟩⟩
def WL_37 : List Cond := [Cond.instanceMethod yX13_readStone, Cond.selects RX13 yX13_readStone yX13_readStone, Cond.code yX13_readStone cX13_readStone 9 none, Cond.methodLink RX13 311 yX13_readFresh, Cond.instanceMethod yX13_readFresh, Cond.selects RX13 yX13_readFresh yX13_readFresh, Cond.code yX13_readFresh cX13_readFresh 3 (some .long), Cond.methodLink RX13 193 yX13_isName, Cond.instanceMethod yX13_isName, Cond.selects RX13 yX13_isName yX13_isName, Cond.code yX13_isName cX13_isName 1 (some .boolean), Cond.methodLink RX13 197 yX12_find, Cond.instanceMethod yX12_find, Cond.selects RX12 yX12_find yX12_find, Cond.code yX12_find cX12_find 4 (some .int), Cond.fieldLink RX12 66 "YearSkinsModel$Land" "names" "I"]
theorem qt_592 : (Cond.instanceMethod yX13_readStone) ∈ lw_tbl := List.mem_of_getElem? (i := 1718) (by decide +kernel)
theorem qt_593 : (Cond.selects RX13 yX13_readStone yX13_readStone) ∈ lw_tbl := List.mem_of_getElem? (i := 66) (by decide +kernel)
theorem qt_594 : (Cond.code yX13_readStone cX13_readStone 9 none) ∈ lw_tbl := List.mem_of_getElem? (i := 1719) (by decide +kernel)
theorem qt_595 : (Cond.methodLink RX13 311 yX13_readFresh) ∈ lw_tbl := List.mem_of_getElem? (i := 1720) (by decide +kernel)
theorem qt_596 : (Cond.instanceMethod yX13_readFresh) ∈ lw_tbl := List.mem_of_getElem? (i := 1722) (by decide +kernel)
theorem qt_597 : (Cond.selects RX13 yX13_readFresh yX13_readFresh) ∈ lw_tbl := List.mem_of_getElem? (i := 67) (by decide +kernel)
theorem qt_598 : (Cond.code yX13_readFresh cX13_readFresh 3 (some .long)) ∈ lw_tbl := List.mem_of_getElem? (i := 1723) (by decide +kernel)
theorem qt_599 : (Cond.methodLink RX13 193 yX13_isName) ∈ lw_tbl := List.mem_of_getElem? (i := 1724) (by decide +kernel)
theorem qt_600 : (Cond.instanceMethod yX13_isName) ∈ lw_tbl := List.mem_of_getElem? (i := 1726) (by decide +kernel)
theorem qt_601 : (Cond.selects RX13 yX13_isName yX13_isName) ∈ lw_tbl := List.mem_of_getElem? (i := 68) (by decide +kernel)
theorem qt_602 : (Cond.code yX13_isName cX13_isName 1 (some .boolean)) ∈ lw_tbl := List.mem_of_getElem? (i := 1727) (by decide +kernel)
theorem qt_603 : (Cond.methodLink RX13 197 yX12_find) ∈ lw_tbl := List.mem_of_getElem? (i := 1735) (by decide +kernel)
theorem qt_604 : (Cond.instanceMethod yX12_find) ∈ lw_tbl := List.mem_of_getElem? (i := 1736) (by decide +kernel)
theorem qt_605 : (Cond.selects RX12 yX12_find yX12_find) ∈ lw_tbl := List.mem_of_getElem? (i := 1737) (by decide +kernel)
theorem qt_606 : (Cond.code yX12_find cX12_find 4 (some .int)) ∈ lw_tbl := List.mem_of_getElem? (i := 1738) (by decide +kernel)
theorem qt_607 : (Cond.fieldLink RX12 66 "YearSkinsModel$Land" "names" "I") ∈ lw_tbl := List.mem_of_getElem? (i := 1523) (by decide +kernel)
theorem WLr_37 : ∀ w ∈ WL_37, w ∈ lw_tbl := List.forall_mem_cons.mpr ⟨qt_592, List.forall_mem_cons.mpr ⟨qt_593, List.forall_mem_cons.mpr ⟨qt_594, List.forall_mem_cons.mpr ⟨qt_595, List.forall_mem_cons.mpr ⟨qt_596, List.forall_mem_cons.mpr ⟨qt_597, List.forall_mem_cons.mpr ⟨qt_598, List.forall_mem_cons.mpr ⟨qt_599, List.forall_mem_cons.mpr ⟨qt_600, List.forall_mem_cons.mpr ⟨qt_601, List.forall_mem_cons.mpr ⟨qt_602, List.forall_mem_cons.mpr ⟨qt_603, List.forall_mem_cons.mpr ⟨qt_604, List.forall_mem_cons.mpr ⟨qt_605, List.forall_mem_cons.mpr ⟨qt_606, List.forall_mem_cons.mpr ⟨qt_607, fun _ h => absurd h List.not_mem_nil⟩⟩⟩⟩⟩⟩⟩⟩⟩⟩⟩⟩⟩⟩⟩⟩
def WL_38 : List Cond := [Cond.methodLink RX13 329 yX13_names, Cond.instanceMethod yX13_names, Cond.selects RX13 yX13_names yX13_names, Cond.code yX13_names cX13_names 5 none, Cond.methodLink RX13 244 yX13_readHouse, Cond.instanceMethod yX13_readHouse, Cond.selects RX13 yX13_readHouse yX13_readHouse, Cond.code yX13_readHouse cX13_readHouse 8 none, Cond.methodLink RX13 348 yX13_ownersOf, Cond.static yX13_ownersOf, Cond.code yX13_ownersOf cX13_ownersOf 6 (some .int), Cond.methodLink RX13 429 yX12_far, Cond.instanceMethod yX12_far, Cond.selects RX12 yX12_far yX12_far, Cond.code yX12_far cX12_far 6 (some .int), Cond.methodLink RX12 75 yX12_x]
theorem qt_608 : (Cond.methodLink RX13 329 yX13_names) ∈ lw_tbl := List.mem_of_getElem? (i := 1746) (by decide +kernel)
theorem qt_609 : (Cond.instanceMethod yX13_names) ∈ lw_tbl := List.mem_of_getElem? (i := 1748) (by decide +kernel)
theorem qt_610 : (Cond.selects RX13 yX13_names yX13_names) ∈ lw_tbl := List.mem_of_getElem? (i := 69) (by decide +kernel)
theorem qt_611 : (Cond.code yX13_names cX13_names 5 none) ∈ lw_tbl := List.mem_of_getElem? (i := 1749) (by decide +kernel)
theorem qt_612 : (Cond.methodLink RX13 244 yX13_readHouse) ∈ lw_tbl := List.mem_of_getElem? (i := 1750) (by decide +kernel)
theorem qt_613 : (Cond.instanceMethod yX13_readHouse) ∈ lw_tbl := List.mem_of_getElem? (i := 1752) (by decide +kernel)
theorem qt_614 : (Cond.selects RX13 yX13_readHouse yX13_readHouse) ∈ lw_tbl := List.mem_of_getElem? (i := 70) (by decide +kernel)
theorem qt_615 : (Cond.code yX13_readHouse cX13_readHouse 8 none) ∈ lw_tbl := List.mem_of_getElem? (i := 1753) (by decide +kernel)
theorem qt_616 : (Cond.methodLink RX13 348 yX13_ownersOf) ∈ lw_tbl := List.mem_of_getElem? (i := 1755) (by decide +kernel)
theorem qt_617 : (Cond.static yX13_ownersOf) ∈ lw_tbl := List.mem_of_getElem? (i := 1756) (by decide +kernel)
theorem qt_618 : (Cond.code yX13_ownersOf cX13_ownersOf 6 (some .int)) ∈ lw_tbl := List.mem_of_getElem? (i := 1757) (by decide +kernel)
theorem qt_619 : (Cond.methodLink RX13 429 yX12_far) ∈ lw_tbl := List.mem_of_getElem? (i := 1758) (by decide +kernel)
theorem qt_620 : (Cond.instanceMethod yX12_far) ∈ lw_tbl := List.mem_of_getElem? (i := 1759) (by decide +kernel)
theorem qt_621 : (Cond.selects RX12 yX12_far yX12_far) ∈ lw_tbl := List.mem_of_getElem? (i := 1760) (by decide +kernel)
theorem qt_622 : (Cond.code yX12_far cX12_far 6 (some .int)) ∈ lw_tbl := List.mem_of_getElem? (i := 1761) (by decide +kernel)
theorem qt_623 : (Cond.methodLink RX12 75 yX12_x) ∈ lw_tbl := List.mem_of_getElem? (i := 1762) (by decide +kernel)
theorem WLr_38 : ∀ w ∈ WL_38, w ∈ lw_tbl := List.forall_mem_cons.mpr ⟨qt_608, List.forall_mem_cons.mpr ⟨qt_609, List.forall_mem_cons.mpr ⟨qt_610, List.forall_mem_cons.mpr ⟨qt_611, List.forall_mem_cons.mpr ⟨qt_612, List.forall_mem_cons.mpr ⟨qt_613, List.forall_mem_cons.mpr ⟨qt_614, List.forall_mem_cons.mpr ⟨qt_615, List.forall_mem_cons.mpr ⟨qt_616, List.forall_mem_cons.mpr ⟨qt_617, List.forall_mem_cons.mpr ⟨qt_618, List.forall_mem_cons.mpr ⟨qt_619, List.forall_mem_cons.mpr ⟨qt_620, List.forall_mem_cons.mpr ⟨qt_621, List.forall_mem_cons.mpr ⟨qt_622, List.forall_mem_cons.mpr ⟨qt_623, fun _ h => absurd h List.not_mem_nil⟩⟩⟩⟩⟩⟩⟩⟩⟩⟩⟩⟩⟩⟩⟩⟩
def WL_39 : List Cond := [Cond.instanceMethod yX12_x, Cond.selects RX12 yX12_x yX12_x, Cond.code yX12_x cX12_x 2 (some .int), Cond.fieldLink RX12 69 "YearSkinsModel$Land" "wide" "I", Cond.methodLink RX12 79 yX12_y, Cond.instanceMethod yX12_y, Cond.selects RX12 yX12_y yX12_y, Cond.code yX12_y cX12_y 2 (some .int), Cond.methodLink RX13 354 yX13_readKnown, Cond.instanceMethod yX13_readKnown, Cond.selects RX13 yX13_readKnown yX13_readKnown, Cond.code yX13_readKnown cX13_readKnown 3 (some .int), Cond.methodLink RX13 214 yX13_known, Cond.instanceMethod yX13_known, Cond.selects RX13 yX13_known yX13_known, Cond.code yX13_known cX13_known 3 (some .int)]
theorem qt_624 : (Cond.instanceMethod yX12_x) ∈ lw_tbl := List.mem_of_getElem? (i := 1763) (by decide +kernel)
theorem qt_625 : (Cond.selects RX12 yX12_x yX12_x) ∈ lw_tbl := List.mem_of_getElem? (i := 1764) (by decide +kernel)
theorem qt_626 : (Cond.code yX12_x cX12_x 2 (some .int)) ∈ lw_tbl := List.mem_of_getElem? (i := 1765) (by decide +kernel)
theorem qt_627 : (Cond.fieldLink RX12 69 "YearSkinsModel$Land" "wide" "I") ∈ lw_tbl := List.mem_of_getElem? (i := 1508) (by decide +kernel)
theorem qt_628 : (Cond.methodLink RX12 79 yX12_y) ∈ lw_tbl := List.mem_of_getElem? (i := 1766) (by decide +kernel)
theorem qt_629 : (Cond.instanceMethod yX12_y) ∈ lw_tbl := List.mem_of_getElem? (i := 1767) (by decide +kernel)
theorem qt_630 : (Cond.selects RX12 yX12_y yX12_y) ∈ lw_tbl := List.mem_of_getElem? (i := 1768) (by decide +kernel)
theorem qt_631 : (Cond.code yX12_y cX12_y 2 (some .int)) ∈ lw_tbl := List.mem_of_getElem? (i := 1769) (by decide +kernel)
theorem qt_632 : (Cond.methodLink RX13 354 yX13_readKnown) ∈ lw_tbl := List.mem_of_getElem? (i := 1771) (by decide +kernel)
theorem qt_633 : (Cond.instanceMethod yX13_readKnown) ∈ lw_tbl := List.mem_of_getElem? (i := 1773) (by decide +kernel)
theorem qt_634 : (Cond.selects RX13 yX13_readKnown yX13_readKnown) ∈ lw_tbl := List.mem_of_getElem? (i := 71) (by decide +kernel)
theorem qt_635 : (Cond.code yX13_readKnown cX13_readKnown 3 (some .int)) ∈ lw_tbl := List.mem_of_getElem? (i := 1774) (by decide +kernel)
theorem qt_636 : (Cond.methodLink RX13 214 yX13_known) ∈ lw_tbl := List.mem_of_getElem? (i := 1775) (by decide +kernel)
theorem qt_637 : (Cond.instanceMethod yX13_known) ∈ lw_tbl := List.mem_of_getElem? (i := 1777) (by decide +kernel)
theorem qt_638 : (Cond.selects RX13 yX13_known yX13_known) ∈ lw_tbl := List.mem_of_getElem? (i := 72) (by decide +kernel)
theorem qt_639 : (Cond.code yX13_known cX13_known 3 (some .int)) ∈ lw_tbl := List.mem_of_getElem? (i := 1778) (by decide +kernel)
theorem WLr_39 : ∀ w ∈ WL_39, w ∈ lw_tbl := List.forall_mem_cons.mpr ⟨qt_624, List.forall_mem_cons.mpr ⟨qt_625, List.forall_mem_cons.mpr ⟨qt_626, List.forall_mem_cons.mpr ⟨qt_627, List.forall_mem_cons.mpr ⟨qt_628, List.forall_mem_cons.mpr ⟨qt_629, List.forall_mem_cons.mpr ⟨qt_630, List.forall_mem_cons.mpr ⟨qt_631, List.forall_mem_cons.mpr ⟨qt_632, List.forall_mem_cons.mpr ⟨qt_633, List.forall_mem_cons.mpr ⟨qt_634, List.forall_mem_cons.mpr ⟨qt_635, List.forall_mem_cons.mpr ⟨qt_636, List.forall_mem_cons.mpr ⟨qt_637, List.forall_mem_cons.mpr ⟨qt_638, List.forall_mem_cons.mpr ⟨qt_639, fun _ h => absurd h List.not_mem_nil⟩⟩⟩⟩⟩⟩⟩⟩⟩⟩⟩⟩⟩⟩⟩⟩
def WL_40 : List Cond := [Cond.methodLink RX13 247 yX13_readSkin, Cond.instanceMethod yX13_readSkin, Cond.selects RX13 yX13_readSkin yX13_readSkin, Cond.code yX13_readSkin cX13_readSkin 6 none, Cond.methodLink RX13 375 yX13_fitsIn, Cond.static yX13_fitsIn, Cond.code yX13_fitsIn cX13_fitsIn 7 (some .boolean), Cond.methodLink RX13 431 yX12_y, Cond.methodLink RX13 434 yX12_x, Cond.methodLink RX13 437 yX12_isLand, Cond.instanceMethod yX12_isLand, Cond.selects RX12 yX12_isLand yX12_isLand, Cond.code yX12_isLand cX12_isLand 3 (some .boolean), Cond.fieldLink RX12 72 "YearSkinsModel$Land" "high" "I", Cond.methodLink RX13 379 yX13_readSide, Cond.instanceMethod yX13_readSide]
theorem qt_640 : (Cond.methodLink RX13 247 yX13_readSkin) ∈ lw_tbl := List.mem_of_getElem? (i := 1781) (by decide +kernel)
theorem qt_641 : (Cond.instanceMethod yX13_readSkin) ∈ lw_tbl := List.mem_of_getElem? (i := 1783) (by decide +kernel)
theorem qt_642 : (Cond.selects RX13 yX13_readSkin yX13_readSkin) ∈ lw_tbl := List.mem_of_getElem? (i := 73) (by decide +kernel)
theorem qt_643 : (Cond.code yX13_readSkin cX13_readSkin 6 none) ∈ lw_tbl := List.mem_of_getElem? (i := 1784) (by decide +kernel)
theorem qt_644 : (Cond.methodLink RX13 375 yX13_fitsIn) ∈ lw_tbl := List.mem_of_getElem? (i := 1785) (by decide +kernel)
theorem qt_645 : (Cond.static yX13_fitsIn) ∈ lw_tbl := List.mem_of_getElem? (i := 1786) (by decide +kernel)
theorem qt_646 : (Cond.code yX13_fitsIn cX13_fitsIn 7 (some .boolean)) ∈ lw_tbl := List.mem_of_getElem? (i := 1787) (by decide +kernel)
theorem qt_647 : (Cond.methodLink RX13 431 yX12_y) ∈ lw_tbl := List.mem_of_getElem? (i := 1788) (by decide +kernel)
theorem qt_648 : (Cond.methodLink RX13 434 yX12_x) ∈ lw_tbl := List.mem_of_getElem? (i := 1789) (by decide +kernel)
theorem qt_649 : (Cond.methodLink RX13 437 yX12_isLand) ∈ lw_tbl := List.mem_of_getElem? (i := 1790) (by decide +kernel)
theorem qt_650 : (Cond.instanceMethod yX12_isLand) ∈ lw_tbl := List.mem_of_getElem? (i := 1791) (by decide +kernel)
theorem qt_651 : (Cond.selects RX12 yX12_isLand yX12_isLand) ∈ lw_tbl := List.mem_of_getElem? (i := 1792) (by decide +kernel)
theorem qt_652 : (Cond.code yX12_isLand cX12_isLand 3 (some .boolean)) ∈ lw_tbl := List.mem_of_getElem? (i := 1793) (by decide +kernel)
theorem qt_653 : (Cond.fieldLink RX12 72 "YearSkinsModel$Land" "high" "I") ∈ lw_tbl := List.mem_of_getElem? (i := 1510) (by decide +kernel)
theorem qt_654 : (Cond.methodLink RX13 379 yX13_readSide) ∈ lw_tbl := List.mem_of_getElem? (i := 1795) (by decide +kernel)
theorem qt_655 : (Cond.instanceMethod yX13_readSide) ∈ lw_tbl := List.mem_of_getElem? (i := 1797) (by decide +kernel)
theorem WLr_40 : ∀ w ∈ WL_40, w ∈ lw_tbl := List.forall_mem_cons.mpr ⟨qt_640, List.forall_mem_cons.mpr ⟨qt_641, List.forall_mem_cons.mpr ⟨qt_642, List.forall_mem_cons.mpr ⟨qt_643, List.forall_mem_cons.mpr ⟨qt_644, List.forall_mem_cons.mpr ⟨qt_645, List.forall_mem_cons.mpr ⟨qt_646, List.forall_mem_cons.mpr ⟨qt_647, List.forall_mem_cons.mpr ⟨qt_648, List.forall_mem_cons.mpr ⟨qt_649, List.forall_mem_cons.mpr ⟨qt_650, List.forall_mem_cons.mpr ⟨qt_651, List.forall_mem_cons.mpr ⟨qt_652, List.forall_mem_cons.mpr ⟨qt_653, List.forall_mem_cons.mpr ⟨qt_654, List.forall_mem_cons.mpr ⟨qt_655, fun _ h => absurd h List.not_mem_nil⟩⟩⟩⟩⟩⟩⟩⟩⟩⟩⟩⟩⟩⟩⟩⟩
def WL_41 : List Cond := [Cond.selects RX13 yX13_readSide yX13_readSide, Cond.code yX13_readSide cX13_readSide 2 (some .int), Cond.methodLink RX13 384 yX13_adds, Cond.static yX13_adds, Cond.code yX13_adds cX13_adds 8 none, Cond.methodLink RX13 425 yX13_part, Cond.static yX13_part, Cond.code yX13_part cX13_part 3 (some .int), Cond.methodLink RX13 250 yX13_readHeir, Cond.instanceMethod yX13_readHeir, Cond.selects RX13 yX13_readHeir yX13_readHeir, Cond.code yX13_readHeir cX13_readHeir 5 none, Cond.methodLink RX13 253 yX13_readWall, Cond.instanceMethod yX13_readWall, Cond.selects RX13 yX13_readWall yX13_readWall, Cond.code yX13_readWall cX13_readWall 3 none]
theorem qt_656 : (Cond.selects RX13 yX13_readSide yX13_readSide) ∈ lw_tbl := List.mem_of_getElem? (i := 74) (by decide +kernel)
theorem qt_657 : (Cond.code yX13_readSide cX13_readSide 2 (some .int)) ∈ lw_tbl := List.mem_of_getElem? (i := 1798) (by decide +kernel)
theorem qt_658 : (Cond.methodLink RX13 384 yX13_adds) ∈ lw_tbl := List.mem_of_getElem? (i := 1804) (by decide +kernel)
theorem qt_659 : (Cond.static yX13_adds) ∈ lw_tbl := List.mem_of_getElem? (i := 1805) (by decide +kernel)
theorem qt_660 : (Cond.code yX13_adds cX13_adds 8 none) ∈ lw_tbl := List.mem_of_getElem? (i := 1806) (by decide +kernel)
theorem qt_661 : (Cond.methodLink RX13 425 yX13_part) ∈ lw_tbl := List.mem_of_getElem? (i := 1807) (by decide +kernel)
theorem qt_662 : (Cond.static yX13_part) ∈ lw_tbl := List.mem_of_getElem? (i := 1808) (by decide +kernel)
theorem qt_663 : (Cond.code yX13_part cX13_part 3 (some .int)) ∈ lw_tbl := List.mem_of_getElem? (i := 1809) (by decide +kernel)
theorem qt_664 : (Cond.methodLink RX13 250 yX13_readHeir) ∈ lw_tbl := List.mem_of_getElem? (i := 1810) (by decide +kernel)
theorem qt_665 : (Cond.instanceMethod yX13_readHeir) ∈ lw_tbl := List.mem_of_getElem? (i := 1812) (by decide +kernel)
theorem qt_666 : (Cond.selects RX13 yX13_readHeir yX13_readHeir) ∈ lw_tbl := List.mem_of_getElem? (i := 75) (by decide +kernel)
theorem qt_667 : (Cond.code yX13_readHeir cX13_readHeir 5 none) ∈ lw_tbl := List.mem_of_getElem? (i := 1813) (by decide +kernel)
theorem qt_668 : (Cond.methodLink RX13 253 yX13_readWall) ∈ lw_tbl := List.mem_of_getElem? (i := 1814) (by decide +kernel)
theorem qt_669 : (Cond.instanceMethod yX13_readWall) ∈ lw_tbl := List.mem_of_getElem? (i := 1816) (by decide +kernel)
theorem qt_670 : (Cond.selects RX13 yX13_readWall yX13_readWall) ∈ lw_tbl := List.mem_of_getElem? (i := 76) (by decide +kernel)
theorem qt_671 : (Cond.code yX13_readWall cX13_readWall 3 none) ∈ lw_tbl := List.mem_of_getElem? (i := 1817) (by decide +kernel)
theorem WLr_41 : ∀ w ∈ WL_41, w ∈ lw_tbl := List.forall_mem_cons.mpr ⟨qt_656, List.forall_mem_cons.mpr ⟨qt_657, List.forall_mem_cons.mpr ⟨qt_658, List.forall_mem_cons.mpr ⟨qt_659, List.forall_mem_cons.mpr ⟨qt_660, List.forall_mem_cons.mpr ⟨qt_661, List.forall_mem_cons.mpr ⟨qt_662, List.forall_mem_cons.mpr ⟨qt_663, List.forall_mem_cons.mpr ⟨qt_664, List.forall_mem_cons.mpr ⟨qt_665, List.forall_mem_cons.mpr ⟨qt_666, List.forall_mem_cons.mpr ⟨qt_667, List.forall_mem_cons.mpr ⟨qt_668, List.forall_mem_cons.mpr ⟨qt_669, List.forall_mem_cons.mpr ⟨qt_670, List.forall_mem_cons.mpr ⟨qt_671, fun _ h => absurd h List.not_mem_nil⟩⟩⟩⟩⟩⟩⟩⟩⟩⟩⟩⟩⟩⟩⟩⟩
def WL_42 : List Cond := [Cond.methodLink RX13 256 yX13_readOlder, Cond.instanceMethod yX13_readOlder, Cond.selects RX13 yX13_readOlder yX13_readOlder, Cond.code yX13_readOlder cX13_readOlder 3 none, Cond.methodLink RX13 406 yX13_bit, Cond.static yX13_bit, Cond.code yX13_bit cX13_bit 2 (some .boolean), Cond.methodLink RX13 259 yX13_readSign, Cond.instanceMethod yX13_readSign, Cond.selects RX13 yX13_readSign yX13_readSign, Cond.code yX13_readSign cX13_readSign 4 none, Cond.methodLink RX13 220 yX13_eatsSign, Cond.instanceMethod yX13_eatsSign, Cond.selects RX13 yX13_eatsSign yX13_eatsSign, Cond.code yX13_eatsSign cX13_eatsSign 3 (some .boolean), Cond.methodLink RX13 73 yX13_good]
theorem qt_672 : (Cond.methodLink RX13 256 yX13_readOlder) ∈ lw_tbl := List.mem_of_getElem? (i := 1818) (by decide +kernel)
theorem qt_673 : (Cond.instanceMethod yX13_readOlder) ∈ lw_tbl := List.mem_of_getElem? (i := 1820) (by decide +kernel)
theorem qt_674 : (Cond.selects RX13 yX13_readOlder yX13_readOlder) ∈ lw_tbl := List.mem_of_getElem? (i := 77) (by decide +kernel)
theorem qt_675 : (Cond.code yX13_readOlder cX13_readOlder 3 none) ∈ lw_tbl := List.mem_of_getElem? (i := 1821) (by decide +kernel)
theorem qt_676 : (Cond.methodLink RX13 406 yX13_bit) ∈ lw_tbl := List.mem_of_getElem? (i := 1822) (by decide +kernel)
theorem qt_677 : (Cond.static yX13_bit) ∈ lw_tbl := List.mem_of_getElem? (i := 1823) (by decide +kernel)
theorem qt_678 : (Cond.code yX13_bit cX13_bit 2 (some .boolean)) ∈ lw_tbl := List.mem_of_getElem? (i := 1824) (by decide +kernel)
theorem qt_679 : (Cond.methodLink RX13 259 yX13_readSign) ∈ lw_tbl := List.mem_of_getElem? (i := 1825) (by decide +kernel)
theorem qt_680 : (Cond.instanceMethod yX13_readSign) ∈ lw_tbl := List.mem_of_getElem? (i := 1827) (by decide +kernel)
theorem qt_681 : (Cond.selects RX13 yX13_readSign yX13_readSign) ∈ lw_tbl := List.mem_of_getElem? (i := 78) (by decide +kernel)
theorem qt_682 : (Cond.code yX13_readSign cX13_readSign 4 none) ∈ lw_tbl := List.mem_of_getElem? (i := 1828) (by decide +kernel)
theorem qt_683 : (Cond.methodLink RX13 220 yX13_eatsSign) ∈ lw_tbl := List.mem_of_getElem? (i := 1829) (by decide +kernel)
theorem qt_684 : (Cond.instanceMethod yX13_eatsSign) ∈ lw_tbl := List.mem_of_getElem? (i := 1831) (by decide +kernel)
theorem qt_685 : (Cond.selects RX13 yX13_eatsSign yX13_eatsSign) ∈ lw_tbl := List.mem_of_getElem? (i := 79) (by decide +kernel)
theorem qt_686 : (Cond.code yX13_eatsSign cX13_eatsSign 3 (some .boolean)) ∈ lw_tbl := List.mem_of_getElem? (i := 1832) (by decide +kernel)
theorem qt_687 : (Cond.methodLink RX13 73 yX13_good) ∈ lw_tbl := List.mem_of_getElem? (i := 1833) (by decide +kernel)
theorem WLr_42 : ∀ w ∈ WL_42, w ∈ lw_tbl := List.forall_mem_cons.mpr ⟨qt_672, List.forall_mem_cons.mpr ⟨qt_673, List.forall_mem_cons.mpr ⟨qt_674, List.forall_mem_cons.mpr ⟨qt_675, List.forall_mem_cons.mpr ⟨qt_676, List.forall_mem_cons.mpr ⟨qt_677, List.forall_mem_cons.mpr ⟨qt_678, List.forall_mem_cons.mpr ⟨qt_679, List.forall_mem_cons.mpr ⟨qt_680, List.forall_mem_cons.mpr ⟨qt_681, List.forall_mem_cons.mpr ⟨qt_682, List.forall_mem_cons.mpr ⟨qt_683, List.forall_mem_cons.mpr ⟨qt_684, List.forall_mem_cons.mpr ⟨qt_685, List.forall_mem_cons.mpr ⟨qt_686, List.forall_mem_cons.mpr ⟨qt_687, fun _ h => absurd h List.not_mem_nil⟩⟩⟩⟩⟩⟩⟩⟩⟩⟩⟩⟩⟩⟩⟩⟩
def WL_43 : List Cond := [Cond.instanceMethod yX13_good, Cond.selects RX13 yX13_good yX13_good, Cond.code yX13_good cX13_good 2 (some .int), Cond.methodLink RL 28 yX11_fault, Cond.instanceMethod yX11_fault, Cond.selects RX11 yX11_fault yX11_fault, Cond.code yX11_fault cX11_fault 1 (some .int), Cond.methodLink RL 32 yX13_fault, Cond.instanceMethod yX13_fault, Cond.selects RX13 yX13_fault yX13_fault, Cond.code yX13_fault cX13_fault 1 (some .int), Cond.methodLink RL 33 yX11_where, Cond.instanceMethod yX11_where, Cond.selects RX11 yX11_where yX11_where, Cond.code yX11_where cX11_where 1 (some .int), Cond.methodLink RL 36 yX13_where]
theorem qt_688 : (Cond.instanceMethod yX13_good) ∈ lw_tbl := List.mem_of_getElem? (i := 1835) (by decide +kernel)
theorem qt_689 : (Cond.selects RX13 yX13_good yX13_good) ∈ lw_tbl := List.mem_of_getElem? (i := 80) (by decide +kernel)
theorem qt_690 : (Cond.code yX13_good cX13_good 2 (some .int)) ∈ lw_tbl := List.mem_of_getElem? (i := 1836) (by decide +kernel)
theorem qt_691 : (Cond.methodLink RL 28 yX11_fault) ∈ lw_tbl := List.mem_of_getElem? (i := 819) (by decide +kernel)
theorem qt_692 : (Cond.instanceMethod yX11_fault) ∈ lw_tbl := List.mem_of_getElem? (i := 820) (by decide +kernel)
theorem qt_693 : (Cond.selects RX11 yX11_fault yX11_fault) ∈ lw_tbl := List.mem_of_getElem? (i := 821) (by decide +kernel)
theorem qt_694 : (Cond.code yX11_fault cX11_fault 1 (some .int)) ∈ lw_tbl := List.mem_of_getElem? (i := 822) (by decide +kernel)
theorem qt_695 : (Cond.methodLink RL 32 yX13_fault) ∈ lw_tbl := List.mem_of_getElem? (i := 1837) (by decide +kernel)
theorem qt_696 : (Cond.instanceMethod yX13_fault) ∈ lw_tbl := List.mem_of_getElem? (i := 1838) (by decide +kernel)
theorem qt_697 : (Cond.selects RX13 yX13_fault yX13_fault) ∈ lw_tbl := List.mem_of_getElem? (i := 1839) (by decide +kernel)
theorem qt_698 : (Cond.code yX13_fault cX13_fault 1 (some .int)) ∈ lw_tbl := List.mem_of_getElem? (i := 1840) (by decide +kernel)
theorem qt_699 : (Cond.methodLink RL 33 yX11_where) ∈ lw_tbl := List.mem_of_getElem? (i := 823) (by decide +kernel)
theorem qt_700 : (Cond.instanceMethod yX11_where) ∈ lw_tbl := List.mem_of_getElem? (i := 824) (by decide +kernel)
theorem qt_701 : (Cond.selects RX11 yX11_where yX11_where) ∈ lw_tbl := List.mem_of_getElem? (i := 825) (by decide +kernel)
theorem qt_702 : (Cond.code yX11_where cX11_where 1 (some .int)) ∈ lw_tbl := List.mem_of_getElem? (i := 826) (by decide +kernel)
theorem qt_703 : (Cond.methodLink RL 36 yX13_where) ∈ lw_tbl := List.mem_of_getElem? (i := 1841) (by decide +kernel)
theorem WLr_43 : ∀ w ∈ WL_43, w ∈ lw_tbl := List.forall_mem_cons.mpr ⟨qt_688, List.forall_mem_cons.mpr ⟨qt_689, List.forall_mem_cons.mpr ⟨qt_690, List.forall_mem_cons.mpr ⟨qt_691, List.forall_mem_cons.mpr ⟨qt_692, List.forall_mem_cons.mpr ⟨qt_693, List.forall_mem_cons.mpr ⟨qt_694, List.forall_mem_cons.mpr ⟨qt_695, List.forall_mem_cons.mpr ⟨qt_696, List.forall_mem_cons.mpr ⟨qt_697, List.forall_mem_cons.mpr ⟨qt_698, List.forall_mem_cons.mpr ⟨qt_699, List.forall_mem_cons.mpr ⟨qt_700, List.forall_mem_cons.mpr ⟨qt_701, List.forall_mem_cons.mpr ⟨qt_702, List.forall_mem_cons.mpr ⟨qt_703, fun _ h => absurd h List.not_mem_nil⟩⟩⟩⟩⟩⟩⟩⟩⟩⟩⟩⟩⟩⟩⟩⟩
def WL_44 : List Cond := [Cond.instanceMethod yX13_where, Cond.selects RX13 yX13_where yX13_where, Cond.code yX13_where cX13_where 1 (some .int), Cond.methodLink RL 37 yX11_whose, Cond.instanceMethod yX11_whose, Cond.selects RX11 yX11_whose yX11_whose, Cond.code yX11_whose cX11_whose 3 (some .int), Cond.methodLink RX11 119 yX1_isOn, Cond.methodLink RX11 123 yX6_ownersOf, Cond.static yX6_ownersOf, Cond.code yX6_ownersOf cX6_ownersOf 6 (some .int), Cond.methodLink RL 41 yX13_whose, Cond.instanceMethod yX13_whose, Cond.selects RX13 yX13_whose yX13_whose, Cond.code yX13_whose cX13_whose 3 (some .int), Cond.methodLink RX13 521 yX13_isCell]
theorem qt_704 : (Cond.instanceMethod yX13_where) ∈ lw_tbl := List.mem_of_getElem? (i := 1842) (by decide +kernel)
theorem qt_705 : (Cond.selects RX13 yX13_where yX13_where) ∈ lw_tbl := List.mem_of_getElem? (i := 1843) (by decide +kernel)
theorem qt_706 : (Cond.code yX13_where cX13_where 1 (some .int)) ∈ lw_tbl := List.mem_of_getElem? (i := 1844) (by decide +kernel)
theorem qt_707 : (Cond.methodLink RL 37 yX11_whose) ∈ lw_tbl := List.mem_of_getElem? (i := 827) (by decide +kernel)
theorem qt_708 : (Cond.instanceMethod yX11_whose) ∈ lw_tbl := List.mem_of_getElem? (i := 828) (by decide +kernel)
theorem qt_709 : (Cond.selects RX11 yX11_whose yX11_whose) ∈ lw_tbl := List.mem_of_getElem? (i := 829) (by decide +kernel)
theorem qt_710 : (Cond.code yX11_whose cX11_whose 3 (some .int)) ∈ lw_tbl := List.mem_of_getElem? (i := 830) (by decide +kernel)
theorem qt_711 : (Cond.methodLink RX11 119 yX1_isOn) ∈ lw_tbl := List.mem_of_getElem? (i := 831) (by decide +kernel)
theorem qt_712 : (Cond.methodLink RX11 123 yX6_ownersOf) ∈ lw_tbl := List.mem_of_getElem? (i := 832) (by decide +kernel)
theorem qt_713 : (Cond.static yX6_ownersOf) ∈ lw_tbl := List.mem_of_getElem? (i := 833) (by decide +kernel)
theorem qt_714 : (Cond.code yX6_ownersOf cX6_ownersOf 6 (some .int)) ∈ lw_tbl := List.mem_of_getElem? (i := 834) (by decide +kernel)
theorem qt_715 : (Cond.methodLink RL 41 yX13_whose) ∈ lw_tbl := List.mem_of_getElem? (i := 1845) (by decide +kernel)
theorem qt_716 : (Cond.instanceMethod yX13_whose) ∈ lw_tbl := List.mem_of_getElem? (i := 1846) (by decide +kernel)
theorem qt_717 : (Cond.selects RX13 yX13_whose yX13_whose) ∈ lw_tbl := List.mem_of_getElem? (i := 1847) (by decide +kernel)
theorem qt_718 : (Cond.code yX13_whose cX13_whose 3 (some .int)) ∈ lw_tbl := List.mem_of_getElem? (i := 1848) (by decide +kernel)
theorem qt_719 : (Cond.methodLink RX13 521 yX13_isCell) ∈ lw_tbl := List.mem_of_getElem? (i := 1849) (by decide +kernel)
theorem WLr_44 : ∀ w ∈ WL_44, w ∈ lw_tbl := List.forall_mem_cons.mpr ⟨qt_704, List.forall_mem_cons.mpr ⟨qt_705, List.forall_mem_cons.mpr ⟨qt_706, List.forall_mem_cons.mpr ⟨qt_707, List.forall_mem_cons.mpr ⟨qt_708, List.forall_mem_cons.mpr ⟨qt_709, List.forall_mem_cons.mpr ⟨qt_710, List.forall_mem_cons.mpr ⟨qt_711, List.forall_mem_cons.mpr ⟨qt_712, List.forall_mem_cons.mpr ⟨qt_713, List.forall_mem_cons.mpr ⟨qt_714, List.forall_mem_cons.mpr ⟨qt_715, List.forall_mem_cons.mpr ⟨qt_716, List.forall_mem_cons.mpr ⟨qt_717, List.forall_mem_cons.mpr ⟨qt_718, List.forall_mem_cons.mpr ⟨qt_719, fun _ h => absurd h List.not_mem_nil⟩⟩⟩⟩⟩⟩⟩⟩⟩⟩⟩⟩⟩⟩⟩⟩
def WL_45 : List Cond := [Cond.instanceMethod yX13_isCell, Cond.selects RX13 yX13_isCell yX13_isCell, Cond.code yX13_isCell cX13_isCell 3 (some .boolean), Cond.methodLink RL 42 yX11_shared, Cond.instanceMethod yX11_shared, Cond.selects RX11 yX11_shared yX11_shared, Cond.code yX11_shared cX11_shared 4 (some .int), Cond.fieldLink RX11 129 "YearSkins$Land" "high" "I", Cond.fieldLink RX11 132 "YearSkins$Land" "wide" "I", Cond.methodLink RX11 135 yJ6_bitCount_0f7a4, Cond.static yJ6_bitCount_0f7a4, Cond.initialized RJ6, Cond.code yJ6_bitCount_0f7a4 cJ6_bitCount_0f7a4 1 (some .int), Cond.constant RJ6 265 (1431655765), Cond.constant RJ6 266 (858993459), Cond.constant RJ6 267 (252645135)]
theorem qt_720 : (Cond.instanceMethod yX13_isCell) ∈ lw_tbl := List.mem_of_getElem? (i := 1851) (by decide +kernel)
theorem qt_721 : (Cond.selects RX13 yX13_isCell yX13_isCell) ∈ lw_tbl := List.mem_of_getElem? (i := 81) (by decide +kernel)
theorem qt_722 : (Cond.code yX13_isCell cX13_isCell 3 (some .boolean)) ∈ lw_tbl := List.mem_of_getElem? (i := 1852) (by decide +kernel)
theorem qt_723 : (Cond.methodLink RL 42 yX11_shared) ∈ lw_tbl := List.mem_of_getElem? (i := 835) (by decide +kernel)
theorem qt_724 : (Cond.instanceMethod yX11_shared) ∈ lw_tbl := List.mem_of_getElem? (i := 836) (by decide +kernel)
theorem qt_725 : (Cond.selects RX11 yX11_shared yX11_shared) ∈ lw_tbl := List.mem_of_getElem? (i := 837) (by decide +kernel)
theorem qt_726 : (Cond.code yX11_shared cX11_shared 4 (some .int)) ∈ lw_tbl := List.mem_of_getElem? (i := 838) (by decide +kernel)
theorem qt_727 : (Cond.fieldLink RX11 129 "YearSkins$Land" "high" "I") ∈ lw_tbl := List.mem_of_getElem? (i := 157) (by decide +kernel)
theorem qt_728 : (Cond.fieldLink RX11 132 "YearSkins$Land" "wide" "I") ∈ lw_tbl := List.mem_of_getElem? (i := 154) (by decide +kernel)
theorem qt_729 : (Cond.methodLink RX11 135 yJ6_bitCount_0f7a4) ∈ lw_tbl := List.mem_of_getElem? (i := 839) (by decide +kernel)
theorem qt_730 : (Cond.static yJ6_bitCount_0f7a4) ∈ lw_tbl := List.mem_of_getElem? (i := 840) (by decide +kernel)
theorem qt_731 : (Cond.initialized RJ6) ∈ lw_tbl := List.mem_of_getElem? (i := 132) (by decide +kernel)
theorem qt_732 : (Cond.code yJ6_bitCount_0f7a4 cJ6_bitCount_0f7a4 1 (some .int)) ∈ lw_tbl := List.mem_of_getElem? (i := 841) (by decide +kernel)
theorem qt_733 : (Cond.constant RJ6 265 (1431655765)) ∈ lw_tbl := List.mem_of_getElem? (i := 842) (by decide +kernel)
theorem qt_734 : (Cond.constant RJ6 266 (858993459)) ∈ lw_tbl := List.mem_of_getElem? (i := 843) (by decide +kernel)
theorem qt_735 : (Cond.constant RJ6 267 (252645135)) ∈ lw_tbl := List.mem_of_getElem? (i := 844) (by decide +kernel)
theorem WLr_45 : ∀ w ∈ WL_45, w ∈ lw_tbl := List.forall_mem_cons.mpr ⟨qt_720, List.forall_mem_cons.mpr ⟨qt_721, List.forall_mem_cons.mpr ⟨qt_722, List.forall_mem_cons.mpr ⟨qt_723, List.forall_mem_cons.mpr ⟨qt_724, List.forall_mem_cons.mpr ⟨qt_725, List.forall_mem_cons.mpr ⟨qt_726, List.forall_mem_cons.mpr ⟨qt_727, List.forall_mem_cons.mpr ⟨qt_728, List.forall_mem_cons.mpr ⟨qt_729, List.forall_mem_cons.mpr ⟨qt_730, List.forall_mem_cons.mpr ⟨qt_731, List.forall_mem_cons.mpr ⟨qt_732, List.forall_mem_cons.mpr ⟨qt_733, List.forall_mem_cons.mpr ⟨qt_734, List.forall_mem_cons.mpr ⟨qt_735, fun _ h => absurd h List.not_mem_nil⟩⟩⟩⟩⟩⟩⟩⟩⟩⟩⟩⟩⟩⟩⟩⟩
def WL_46 : List Cond := [Cond.methodLink RL 45 yX13_shared, Cond.instanceMethod yX13_shared, Cond.selects RX13 yX13_shared yX13_shared, Cond.code yX13_shared cX13_shared 1 (some .int), Cond.methodLink RX13 530 yX13_owned, Cond.instanceMethod yX13_owned, Cond.selects RX13 yX13_owned yX13_owned, Cond.code yX13_owned cX13_owned 6 (some .int), Cond.methodLink RX13 524 yX12_cells, Cond.instanceMethod yX12_cells, Cond.selects RX12 yX12_cells yX12_cells, Cond.code yX12_cells cX12_cells 1 (some .int), Cond.methodLink RX13 527 yX13_bits, Cond.static yX13_bits, Cond.code yX13_bits cX13_bits 3 (some .int), Cond.methodLink RL 46 yX11_free]
theorem qt_736 : (Cond.methodLink RL 45 yX13_shared) ∈ lw_tbl := List.mem_of_getElem? (i := 1853) (by decide +kernel)
theorem qt_737 : (Cond.instanceMethod yX13_shared) ∈ lw_tbl := List.mem_of_getElem? (i := 1854) (by decide +kernel)
theorem qt_738 : (Cond.selects RX13 yX13_shared yX13_shared) ∈ lw_tbl := List.mem_of_getElem? (i := 1855) (by decide +kernel)
theorem qt_739 : (Cond.code yX13_shared cX13_shared 1 (some .int)) ∈ lw_tbl := List.mem_of_getElem? (i := 1856) (by decide +kernel)
theorem qt_740 : (Cond.methodLink RX13 530 yX13_owned) ∈ lw_tbl := List.mem_of_getElem? (i := 1857) (by decide +kernel)
theorem qt_741 : (Cond.instanceMethod yX13_owned) ∈ lw_tbl := List.mem_of_getElem? (i := 1859) (by decide +kernel)
theorem qt_742 : (Cond.selects RX13 yX13_owned yX13_owned) ∈ lw_tbl := List.mem_of_getElem? (i := 82) (by decide +kernel)
theorem qt_743 : (Cond.code yX13_owned cX13_owned 6 (some .int)) ∈ lw_tbl := List.mem_of_getElem? (i := 1860) (by decide +kernel)
theorem qt_744 : (Cond.methodLink RX13 524 yX12_cells) ∈ lw_tbl := List.mem_of_getElem? (i := 1861) (by decide +kernel)
theorem qt_745 : (Cond.instanceMethod yX12_cells) ∈ lw_tbl := List.mem_of_getElem? (i := 1862) (by decide +kernel)
theorem qt_746 : (Cond.selects RX12 yX12_cells yX12_cells) ∈ lw_tbl := List.mem_of_getElem? (i := 1863) (by decide +kernel)
theorem qt_747 : (Cond.code yX12_cells cX12_cells 1 (some .int)) ∈ lw_tbl := List.mem_of_getElem? (i := 1864) (by decide +kernel)
theorem qt_748 : (Cond.methodLink RX13 527 yX13_bits) ∈ lw_tbl := List.mem_of_getElem? (i := 1865) (by decide +kernel)
theorem qt_749 : (Cond.static yX13_bits) ∈ lw_tbl := List.mem_of_getElem? (i := 1866) (by decide +kernel)
theorem qt_750 : (Cond.code yX13_bits cX13_bits 3 (some .int)) ∈ lw_tbl := List.mem_of_getElem? (i := 1867) (by decide +kernel)
theorem qt_751 : (Cond.methodLink RL 46 yX11_free) ∈ lw_tbl := List.mem_of_getElem? (i := 845) (by decide +kernel)
theorem WLr_46 : ∀ w ∈ WL_46, w ∈ lw_tbl := List.forall_mem_cons.mpr ⟨qt_736, List.forall_mem_cons.mpr ⟨qt_737, List.forall_mem_cons.mpr ⟨qt_738, List.forall_mem_cons.mpr ⟨qt_739, List.forall_mem_cons.mpr ⟨qt_740, List.forall_mem_cons.mpr ⟨qt_741, List.forall_mem_cons.mpr ⟨qt_742, List.forall_mem_cons.mpr ⟨qt_743, List.forall_mem_cons.mpr ⟨qt_744, List.forall_mem_cons.mpr ⟨qt_745, List.forall_mem_cons.mpr ⟨qt_746, List.forall_mem_cons.mpr ⟨qt_747, List.forall_mem_cons.mpr ⟨qt_748, List.forall_mem_cons.mpr ⟨qt_749, List.forall_mem_cons.mpr ⟨qt_750, List.forall_mem_cons.mpr ⟨qt_751, fun _ h => absurd h List.not_mem_nil⟩⟩⟩⟩⟩⟩⟩⟩⟩⟩⟩⟩⟩⟩⟩⟩
def WL_47 : List Cond := [Cond.instanceMethod yX11_free, Cond.selects RX11 yX11_free yX11_free, Cond.code yX11_free cX11_free 4 (some .int), Cond.methodLink RX11 140 yX6_isFree, Cond.methodLink RL 49 yX13_free, Cond.instanceMethod yX13_free, Cond.selects RX13 yX13_free yX13_free, Cond.code yX13_free cX13_free 1 (some .int), Cond.methodLink RL 50 yX11_house, Cond.instanceMethod yX11_house, Cond.selects RX11 yX11_house yX11_house, Cond.code yX11_house cX11_house 3 (some .int), Cond.fieldLink RX11 148 "YearSkins$Land" "coreY" "[I", Cond.fieldLink RX11 151 "YearSkins$Land" "coreX" "[I", Cond.fieldLink RX11 154 "YearSkins$State" "counts" "[I", Cond.fieldLink RX11 157 "YearSkins$State" "families" "[I"]
theorem qt_752 : (Cond.instanceMethod yX11_free) ∈ lw_tbl := List.mem_of_getElem? (i := 846) (by decide +kernel)
theorem qt_753 : (Cond.selects RX11 yX11_free yX11_free) ∈ lw_tbl := List.mem_of_getElem? (i := 847) (by decide +kernel)
theorem qt_754 : (Cond.code yX11_free cX11_free 4 (some .int)) ∈ lw_tbl := List.mem_of_getElem? (i := 848) (by decide +kernel)
theorem qt_755 : (Cond.methodLink RX11 140 yX6_isFree) ∈ lw_tbl := List.mem_of_getElem? (i := 849) (by decide +kernel)
theorem qt_756 : (Cond.methodLink RL 49 yX13_free) ∈ lw_tbl := List.mem_of_getElem? (i := 1868) (by decide +kernel)
theorem qt_757 : (Cond.instanceMethod yX13_free) ∈ lw_tbl := List.mem_of_getElem? (i := 1869) (by decide +kernel)
theorem qt_758 : (Cond.selects RX13 yX13_free yX13_free) ∈ lw_tbl := List.mem_of_getElem? (i := 1870) (by decide +kernel)
theorem qt_759 : (Cond.code yX13_free cX13_free 1 (some .int)) ∈ lw_tbl := List.mem_of_getElem? (i := 1871) (by decide +kernel)
theorem qt_760 : (Cond.methodLink RL 50 yX11_house) ∈ lw_tbl := List.mem_of_getElem? (i := 850) (by decide +kernel)
theorem qt_761 : (Cond.instanceMethod yX11_house) ∈ lw_tbl := List.mem_of_getElem? (i := 851) (by decide +kernel)
theorem qt_762 : (Cond.selects RX11 yX11_house yX11_house) ∈ lw_tbl := List.mem_of_getElem? (i := 852) (by decide +kernel)
theorem qt_763 : (Cond.code yX11_house cX11_house 3 (some .int)) ∈ lw_tbl := List.mem_of_getElem? (i := 853) (by decide +kernel)
theorem qt_764 : (Cond.fieldLink RX11 148 "YearSkins$Land" "coreY" "[I") ∈ lw_tbl := List.mem_of_getElem? (i := 187) (by decide +kernel)
theorem qt_765 : (Cond.fieldLink RX11 151 "YearSkins$Land" "coreX" "[I") ∈ lw_tbl := List.mem_of_getElem? (i := 183) (by decide +kernel)
theorem qt_766 : (Cond.fieldLink RX11 154 "YearSkins$State" "counts" "[I") ∈ lw_tbl := List.mem_of_getElem? (i := 271) (by decide +kernel)
theorem qt_767 : (Cond.fieldLink RX11 157 "YearSkins$State" "families" "[I") ∈ lw_tbl := List.mem_of_getElem? (i := 275) (by decide +kernel)
theorem WLr_47 : ∀ w ∈ WL_47, w ∈ lw_tbl := List.forall_mem_cons.mpr ⟨qt_752, List.forall_mem_cons.mpr ⟨qt_753, List.forall_mem_cons.mpr ⟨qt_754, List.forall_mem_cons.mpr ⟨qt_755, List.forall_mem_cons.mpr ⟨qt_756, List.forall_mem_cons.mpr ⟨qt_757, List.forall_mem_cons.mpr ⟨qt_758, List.forall_mem_cons.mpr ⟨qt_759, List.forall_mem_cons.mpr ⟨qt_760, List.forall_mem_cons.mpr ⟨qt_761, List.forall_mem_cons.mpr ⟨qt_762, List.forall_mem_cons.mpr ⟨qt_763, List.forall_mem_cons.mpr ⟨qt_764, List.forall_mem_cons.mpr ⟨qt_765, List.forall_mem_cons.mpr ⟨qt_766, List.forall_mem_cons.mpr ⟨qt_767, fun _ h => absurd h List.not_mem_nil⟩⟩⟩⟩⟩⟩⟩⟩⟩⟩⟩⟩⟩⟩⟩⟩
def WL_48 : List Cond := [Cond.fieldLink RX11 160 "YearSkins$State" "golds" "[I", Cond.fieldLink RX11 163 "YearSkins$Land" "houseStone" "[I", Cond.methodLink RX11 144 yX11_isHouse, Cond.instanceMethod yX11_isHouse, Cond.selects RX11 yX11_isHouse yX11_isHouse, Cond.code yX11_isHouse cX11_isHouse 2 (some .boolean), Cond.methodLink RX11 166 yX6_isShut, Cond.static yX6_isShut, Cond.code yX6_isShut cX6_isShut 5 (some .boolean), Cond.methodLink RX6 86 yX7_partOf, Cond.instanceMethod yX7_partOf, Cond.selects RX7 yX7_partOf yX7_partOf, Cond.code yX7_partOf cX7_partOf 5 (some .int), Cond.methodLink RX6 82 yX6_isFrontFree, Cond.static yX6_isFrontFree, Cond.code yX6_isFrontFree cX6_isFrontFree 9 (some .boolean)]
theorem qt_768 : (Cond.fieldLink RX11 160 "YearSkins$State" "golds" "[I") ∈ lw_tbl := List.mem_of_getElem? (i := 279) (by decide +kernel)
theorem qt_769 : (Cond.fieldLink RX11 163 "YearSkins$Land" "houseStone" "[I") ∈ lw_tbl := List.mem_of_getElem? (i := 191) (by decide +kernel)
theorem qt_770 : (Cond.methodLink RX11 144 yX11_isHouse) ∈ lw_tbl := List.mem_of_getElem? (i := 854) (by decide +kernel)
theorem qt_771 : (Cond.instanceMethod yX11_isHouse) ∈ lw_tbl := List.mem_of_getElem? (i := 856) (by decide +kernel)
theorem qt_772 : (Cond.selects RX11 yX11_isHouse yX11_isHouse) ∈ lw_tbl := List.mem_of_getElem? (i := 29) (by decide +kernel)
theorem qt_773 : (Cond.code yX11_isHouse cX11_isHouse 2 (some .boolean)) ∈ lw_tbl := List.mem_of_getElem? (i := 857) (by decide +kernel)
theorem qt_774 : (Cond.methodLink RX11 166 yX6_isShut) ∈ lw_tbl := List.mem_of_getElem? (i := 858) (by decide +kernel)
theorem qt_775 : (Cond.static yX6_isShut) ∈ lw_tbl := List.mem_of_getElem? (i := 859) (by decide +kernel)
theorem qt_776 : (Cond.code yX6_isShut cX6_isShut 5 (some .boolean)) ∈ lw_tbl := List.mem_of_getElem? (i := 860) (by decide +kernel)
theorem qt_777 : (Cond.methodLink RX6 86 yX7_partOf) ∈ lw_tbl := List.mem_of_getElem? (i := 861) (by decide +kernel)
theorem qt_778 : (Cond.instanceMethod yX7_partOf) ∈ lw_tbl := List.mem_of_getElem? (i := 862) (by decide +kernel)
theorem qt_779 : (Cond.selects RX7 yX7_partOf yX7_partOf) ∈ lw_tbl := List.mem_of_getElem? (i := 863) (by decide +kernel)
theorem qt_780 : (Cond.code yX7_partOf cX7_partOf 5 (some .int)) ∈ lw_tbl := List.mem_of_getElem? (i := 864) (by decide +kernel)
theorem qt_781 : (Cond.methodLink RX6 82 yX6_isFrontFree) ∈ lw_tbl := List.mem_of_getElem? (i := 865) (by decide +kernel)
theorem qt_782 : (Cond.static yX6_isFrontFree) ∈ lw_tbl := List.mem_of_getElem? (i := 866) (by decide +kernel)
theorem qt_783 : (Cond.code yX6_isFrontFree cX6_isFrontFree 9 (some .boolean)) ∈ lw_tbl := List.mem_of_getElem? (i := 867) (by decide +kernel)
theorem WLr_48 : ∀ w ∈ WL_48, w ∈ lw_tbl := List.forall_mem_cons.mpr ⟨qt_768, List.forall_mem_cons.mpr ⟨qt_769, List.forall_mem_cons.mpr ⟨qt_770, List.forall_mem_cons.mpr ⟨qt_771, List.forall_mem_cons.mpr ⟨qt_772, List.forall_mem_cons.mpr ⟨qt_773, List.forall_mem_cons.mpr ⟨qt_774, List.forall_mem_cons.mpr ⟨qt_775, List.forall_mem_cons.mpr ⟨qt_776, List.forall_mem_cons.mpr ⟨qt_777, List.forall_mem_cons.mpr ⟨qt_778, List.forall_mem_cons.mpr ⟨qt_779, List.forall_mem_cons.mpr ⟨qt_780, List.forall_mem_cons.mpr ⟨qt_781, List.forall_mem_cons.mpr ⟨qt_782, List.forall_mem_cons.mpr ⟨qt_783, fun _ h => absurd h List.not_mem_nil⟩⟩⟩⟩⟩⟩⟩⟩⟩⟩⟩⟩⟩⟩⟩⟩
def WL_49 : List Cond := [Cond.methodLink RX6 57 yX4_doorPlace, Cond.static yX4_doorPlace, Cond.code yX4_doorPlace cX4_doorPlace 3 (some .int), Cond.methodLink RX6 66 yX6_isFree, Cond.methodLink RX11 170 yX7_isCrowded, Cond.instanceMethod yX7_isCrowded, Cond.selects RX7 yX7_isCrowded yX7_isCrowded, Cond.code yX7_isCrowded cX7_isCrowded 3 (some .boolean), Cond.methodLink RL 53 yX13_house, Cond.instanceMethod yX13_house, Cond.selects RX13 yX13_house yX13_house, Cond.code yX13_house cX13_house 3 (some .int), Cond.methodLink RX13 518 yX13_isHouse, Cond.instanceMethod yX13_isHouse, Cond.selects RX13 yX13_isHouse yX13_isHouse, Cond.code yX13_isHouse cX13_isHouse 2 (some .boolean)]
theorem qt_784 : (Cond.methodLink RX6 57 yX4_doorPlace) ∈ lw_tbl := List.mem_of_getElem? (i := 868) (by decide +kernel)
theorem qt_785 : (Cond.static yX4_doorPlace) ∈ lw_tbl := List.mem_of_getElem? (i := 869) (by decide +kernel)
theorem qt_786 : (Cond.code yX4_doorPlace cX4_doorPlace 3 (some .int)) ∈ lw_tbl := List.mem_of_getElem? (i := 870) (by decide +kernel)
theorem qt_787 : (Cond.methodLink RX6 66 yX6_isFree) ∈ lw_tbl := List.mem_of_getElem? (i := 875) (by decide +kernel)
theorem qt_788 : (Cond.methodLink RX11 170 yX7_isCrowded) ∈ lw_tbl := List.mem_of_getElem? (i := 876) (by decide +kernel)
theorem qt_789 : (Cond.instanceMethod yX7_isCrowded) ∈ lw_tbl := List.mem_of_getElem? (i := 877) (by decide +kernel)
theorem qt_790 : (Cond.selects RX7 yX7_isCrowded yX7_isCrowded) ∈ lw_tbl := List.mem_of_getElem? (i := 878) (by decide +kernel)
theorem qt_791 : (Cond.code yX7_isCrowded cX7_isCrowded 3 (some .boolean)) ∈ lw_tbl := List.mem_of_getElem? (i := 879) (by decide +kernel)
theorem qt_792 : (Cond.methodLink RL 53 yX13_house) ∈ lw_tbl := List.mem_of_getElem? (i := 1872) (by decide +kernel)
theorem qt_793 : (Cond.instanceMethod yX13_house) ∈ lw_tbl := List.mem_of_getElem? (i := 1873) (by decide +kernel)
theorem qt_794 : (Cond.selects RX13 yX13_house yX13_house) ∈ lw_tbl := List.mem_of_getElem? (i := 1874) (by decide +kernel)
theorem qt_795 : (Cond.code yX13_house cX13_house 3 (some .int)) ∈ lw_tbl := List.mem_of_getElem? (i := 1875) (by decide +kernel)
theorem qt_796 : (Cond.methodLink RX13 518 yX13_isHouse) ∈ lw_tbl := List.mem_of_getElem? (i := 1876) (by decide +kernel)
theorem qt_797 : (Cond.instanceMethod yX13_isHouse) ∈ lw_tbl := List.mem_of_getElem? (i := 1878) (by decide +kernel)
theorem qt_798 : (Cond.selects RX13 yX13_isHouse yX13_isHouse) ∈ lw_tbl := List.mem_of_getElem? (i := 83) (by decide +kernel)
theorem qt_799 : (Cond.code yX13_isHouse cX13_isHouse 2 (some .boolean)) ∈ lw_tbl := List.mem_of_getElem? (i := 1879) (by decide +kernel)
theorem WLr_49 : ∀ w ∈ WL_49, w ∈ lw_tbl := List.forall_mem_cons.mpr ⟨qt_784, List.forall_mem_cons.mpr ⟨qt_785, List.forall_mem_cons.mpr ⟨qt_786, List.forall_mem_cons.mpr ⟨qt_787, List.forall_mem_cons.mpr ⟨qt_788, List.forall_mem_cons.mpr ⟨qt_789, List.forall_mem_cons.mpr ⟨qt_790, List.forall_mem_cons.mpr ⟨qt_791, List.forall_mem_cons.mpr ⟨qt_792, List.forall_mem_cons.mpr ⟨qt_793, List.forall_mem_cons.mpr ⟨qt_794, List.forall_mem_cons.mpr ⟨qt_795, List.forall_mem_cons.mpr ⟨qt_796, List.forall_mem_cons.mpr ⟨qt_797, List.forall_mem_cons.mpr ⟨qt_798, List.forall_mem_cons.mpr ⟨qt_799, fun _ h => absurd h List.not_mem_nil⟩⟩⟩⟩⟩⟩⟩⟩⟩⟩⟩⟩⟩⟩⟩⟩
def WL_50 : List Cond := [Cond.methodLink RX13 534 yX13_isShut, Cond.instanceMethod yX13_isShut, Cond.selects RX13 yX13_isShut yX13_isShut, Cond.code yX13_isShut cX13_isShut 4 (some .boolean), Cond.methodLink RX13 471 yX13_isFree, Cond.static yX13_isFree, Cond.code yX13_isFree cX13_isFree 8 (some .boolean), Cond.methodLink RX13 440 yX13_doorX, Cond.static yX13_doorX, Cond.code yX13_doorX cX13_doorX 3 (some .int), Cond.methodLink RX13 449 yX13_outX, Cond.static yX13_outX, Cond.code yX13_outX cX13_outX 1 (some .int), Cond.methodLink RX13 443 yX13_doorY, Cond.static yX13_doorY, Cond.code yX13_doorY cX13_doorY 3 (some .int)]
theorem qt_800 : (Cond.methodLink RX13 534 yX13_isShut) ∈ lw_tbl := List.mem_of_getElem? (i := 1880) (by decide +kernel)
theorem qt_801 : (Cond.instanceMethod yX13_isShut) ∈ lw_tbl := List.mem_of_getElem? (i := 1882) (by decide +kernel)
theorem qt_802 : (Cond.selects RX13 yX13_isShut yX13_isShut) ∈ lw_tbl := List.mem_of_getElem? (i := 84) (by decide +kernel)
theorem qt_803 : (Cond.code yX13_isShut cX13_isShut 4 (some .boolean)) ∈ lw_tbl := List.mem_of_getElem? (i := 1883) (by decide +kernel)
theorem qt_804 : (Cond.methodLink RX13 471 yX13_isFree) ∈ lw_tbl := List.mem_of_getElem? (i := 1884) (by decide +kernel)
theorem qt_805 : (Cond.static yX13_isFree) ∈ lw_tbl := List.mem_of_getElem? (i := 1885) (by decide +kernel)
theorem qt_806 : (Cond.code yX13_isFree cX13_isFree 8 (some .boolean)) ∈ lw_tbl := List.mem_of_getElem? (i := 1886) (by decide +kernel)
theorem qt_807 : (Cond.methodLink RX13 440 yX13_doorX) ∈ lw_tbl := List.mem_of_getElem? (i := 1887) (by decide +kernel)
theorem qt_808 : (Cond.static yX13_doorX) ∈ lw_tbl := List.mem_of_getElem? (i := 1888) (by decide +kernel)
theorem qt_809 : (Cond.code yX13_doorX cX13_doorX 3 (some .int)) ∈ lw_tbl := List.mem_of_getElem? (i := 1889) (by decide +kernel)
theorem qt_810 : (Cond.methodLink RX13 449 yX13_outX) ∈ lw_tbl := List.mem_of_getElem? (i := 1890) (by decide +kernel)
theorem qt_811 : (Cond.static yX13_outX) ∈ lw_tbl := List.mem_of_getElem? (i := 1891) (by decide +kernel)
theorem qt_812 : (Cond.code yX13_outX cX13_outX 1 (some .int)) ∈ lw_tbl := List.mem_of_getElem? (i := 1892) (by decide +kernel)
theorem qt_813 : (Cond.methodLink RX13 443 yX13_doorY) ∈ lw_tbl := List.mem_of_getElem? (i := 1893) (by decide +kernel)
theorem qt_814 : (Cond.static yX13_doorY) ∈ lw_tbl := List.mem_of_getElem? (i := 1894) (by decide +kernel)
theorem qt_815 : (Cond.code yX13_doorY cX13_doorY 3 (some .int)) ∈ lw_tbl := List.mem_of_getElem? (i := 1895) (by decide +kernel)
theorem WLr_50 : ∀ w ∈ WL_50, w ∈ lw_tbl := List.forall_mem_cons.mpr ⟨qt_800, List.forall_mem_cons.mpr ⟨qt_801, List.forall_mem_cons.mpr ⟨qt_802, List.forall_mem_cons.mpr ⟨qt_803, List.forall_mem_cons.mpr ⟨qt_804, List.forall_mem_cons.mpr ⟨qt_805, List.forall_mem_cons.mpr ⟨qt_806, List.forall_mem_cons.mpr ⟨qt_807, List.forall_mem_cons.mpr ⟨qt_808, List.forall_mem_cons.mpr ⟨qt_809, List.forall_mem_cons.mpr ⟨qt_810, List.forall_mem_cons.mpr ⟨qt_811, List.forall_mem_cons.mpr ⟨qt_812, List.forall_mem_cons.mpr ⟨qt_813, List.forall_mem_cons.mpr ⟨qt_814, List.forall_mem_cons.mpr ⟨qt_815, fun _ h => absurd h List.not_mem_nil⟩⟩⟩⟩⟩⟩⟩⟩⟩⟩⟩⟩⟩⟩⟩⟩
def WL_51 : List Cond := [Cond.methodLink RX13 452 yX13_outY, Cond.static yX13_outY, Cond.code yX13_outY cX13_outY 1 (some .int), Cond.methodLink RL 54 yX11_skin, Cond.instanceMethod yX11_skin, Cond.selects RX11 yX11_skin yX11_skin, Cond.code yX11_skin cX11_skin 4 (some .int), Cond.methodLink RX11 173 yX11_isSkin, Cond.instanceMethod yX11_isSkin, Cond.selects RX11 yX11_isSkin yX11_isSkin, Cond.code yX11_isSkin cX11_isSkin 3 (some .boolean), Cond.methodLink RX11 180 yX11_isRoom, Cond.instanceMethod yX11_isRoom, Cond.selects RX11 yX11_isRoom yX11_isRoom, Cond.code yX11_isRoom cX11_isRoom 3 (some .boolean), Cond.methodLink RX11 176 yX7_partOf]
theorem qt_816 : (Cond.methodLink RX13 452 yX13_outY) ∈ lw_tbl := List.mem_of_getElem? (i := 1896) (by decide +kernel)
theorem qt_817 : (Cond.static yX13_outY) ∈ lw_tbl := List.mem_of_getElem? (i := 1897) (by decide +kernel)
theorem qt_818 : (Cond.code yX13_outY cX13_outY 1 (some .int)) ∈ lw_tbl := List.mem_of_getElem? (i := 1898) (by decide +kernel)
theorem qt_819 : (Cond.methodLink RL 54 yX11_skin) ∈ lw_tbl := List.mem_of_getElem? (i := 880) (by decide +kernel)
theorem qt_820 : (Cond.instanceMethod yX11_skin) ∈ lw_tbl := List.mem_of_getElem? (i := 881) (by decide +kernel)
theorem qt_821 : (Cond.selects RX11 yX11_skin yX11_skin) ∈ lw_tbl := List.mem_of_getElem? (i := 882) (by decide +kernel)
theorem qt_822 : (Cond.code yX11_skin cX11_skin 4 (some .int)) ∈ lw_tbl := List.mem_of_getElem? (i := 883) (by decide +kernel)
theorem qt_823 : (Cond.methodLink RX11 173 yX11_isSkin) ∈ lw_tbl := List.mem_of_getElem? (i := 884) (by decide +kernel)
theorem qt_824 : (Cond.instanceMethod yX11_isSkin) ∈ lw_tbl := List.mem_of_getElem? (i := 886) (by decide +kernel)
theorem qt_825 : (Cond.selects RX11 yX11_isSkin yX11_isSkin) ∈ lw_tbl := List.mem_of_getElem? (i := 30) (by decide +kernel)
theorem qt_826 : (Cond.code yX11_isSkin cX11_isSkin 3 (some .boolean)) ∈ lw_tbl := List.mem_of_getElem? (i := 887) (by decide +kernel)
theorem qt_827 : (Cond.methodLink RX11 180 yX11_isRoom) ∈ lw_tbl := List.mem_of_getElem? (i := 888) (by decide +kernel)
theorem qt_828 : (Cond.instanceMethod yX11_isRoom) ∈ lw_tbl := List.mem_of_getElem? (i := 890) (by decide +kernel)
theorem qt_829 : (Cond.selects RX11 yX11_isRoom yX11_isRoom) ∈ lw_tbl := List.mem_of_getElem? (i := 31) (by decide +kernel)
theorem qt_830 : (Cond.code yX11_isRoom cX11_isRoom 3 (some .boolean)) ∈ lw_tbl := List.mem_of_getElem? (i := 891) (by decide +kernel)
theorem qt_831 : (Cond.methodLink RX11 176 yX7_partOf) ∈ lw_tbl := List.mem_of_getElem? (i := 892) (by decide +kernel)
theorem WLr_51 : ∀ w ∈ WL_51, w ∈ lw_tbl := List.forall_mem_cons.mpr ⟨qt_816, List.forall_mem_cons.mpr ⟨qt_817, List.forall_mem_cons.mpr ⟨qt_818, List.forall_mem_cons.mpr ⟨qt_819, List.forall_mem_cons.mpr ⟨qt_820, List.forall_mem_cons.mpr ⟨qt_821, List.forall_mem_cons.mpr ⟨qt_822, List.forall_mem_cons.mpr ⟨qt_823, List.forall_mem_cons.mpr ⟨qt_824, List.forall_mem_cons.mpr ⟨qt_825, List.forall_mem_cons.mpr ⟨qt_826, List.forall_mem_cons.mpr ⟨qt_827, List.forall_mem_cons.mpr ⟨qt_828, List.forall_mem_cons.mpr ⟨qt_829, List.forall_mem_cons.mpr ⟨qt_830, List.forall_mem_cons.mpr ⟨qt_831, fun _ h => absurd h List.not_mem_nil⟩⟩⟩⟩⟩⟩⟩⟩⟩⟩⟩⟩⟩⟩⟩⟩
def WL_52 : List Cond := [Cond.methodLink RL 58 yX13_skin, Cond.instanceMethod yX13_skin, Cond.selects RX13 yX13_skin yX13_skin, Cond.code yX13_skin cX13_skin 4 (some .int), Cond.methodLink RX13 537 yX13_isSkin, Cond.instanceMethod yX13_isSkin, Cond.selects RX13 yX13_isSkin yX13_isSkin, Cond.code yX13_isSkin cX13_isSkin 3 (some .boolean), Cond.methodLink RL 59 yX11_warm, Cond.instanceMethod yX11_warm, Cond.selects RX11 yX11_warm yX11_warm, Cond.code yX11_warm cX11_warm 3 (some .int), Cond.methodLink RX11 183 yX11_warmth, Cond.instanceMethod yX11_warmth, Cond.selects RX11 yX11_warmth yX11_warmth, Cond.code yX11_warmth cX11_warmth 5 (some .int)]
theorem qt_832 : (Cond.methodLink RL 58 yX13_skin) ∈ lw_tbl := List.mem_of_getElem? (i := 1899) (by decide +kernel)
theorem qt_833 : (Cond.instanceMethod yX13_skin) ∈ lw_tbl := List.mem_of_getElem? (i := 1900) (by decide +kernel)
theorem qt_834 : (Cond.selects RX13 yX13_skin yX13_skin) ∈ lw_tbl := List.mem_of_getElem? (i := 1901) (by decide +kernel)
theorem qt_835 : (Cond.code yX13_skin cX13_skin 4 (some .int)) ∈ lw_tbl := List.mem_of_getElem? (i := 1902) (by decide +kernel)
theorem qt_836 : (Cond.methodLink RX13 537 yX13_isSkin) ∈ lw_tbl := List.mem_of_getElem? (i := 1903) (by decide +kernel)
theorem qt_837 : (Cond.instanceMethod yX13_isSkin) ∈ lw_tbl := List.mem_of_getElem? (i := 1905) (by decide +kernel)
theorem qt_838 : (Cond.selects RX13 yX13_isSkin yX13_isSkin) ∈ lw_tbl := List.mem_of_getElem? (i := 85) (by decide +kernel)
theorem qt_839 : (Cond.code yX13_isSkin cX13_isSkin 3 (some .boolean)) ∈ lw_tbl := List.mem_of_getElem? (i := 1906) (by decide +kernel)
theorem qt_840 : (Cond.methodLink RL 59 yX11_warm) ∈ lw_tbl := List.mem_of_getElem? (i := 893) (by decide +kernel)
theorem qt_841 : (Cond.instanceMethod yX11_warm) ∈ lw_tbl := List.mem_of_getElem? (i := 894) (by decide +kernel)
theorem qt_842 : (Cond.selects RX11 yX11_warm yX11_warm) ∈ lw_tbl := List.mem_of_getElem? (i := 895) (by decide +kernel)
theorem qt_843 : (Cond.code yX11_warm cX11_warm 3 (some .int)) ∈ lw_tbl := List.mem_of_getElem? (i := 896) (by decide +kernel)
theorem qt_844 : (Cond.methodLink RX11 183 yX11_warmth) ∈ lw_tbl := List.mem_of_getElem? (i := 897) (by decide +kernel)
theorem qt_845 : (Cond.instanceMethod yX11_warmth) ∈ lw_tbl := List.mem_of_getElem? (i := 899) (by decide +kernel)
theorem qt_846 : (Cond.selects RX11 yX11_warmth yX11_warmth) ∈ lw_tbl := List.mem_of_getElem? (i := 32) (by decide +kernel)
theorem qt_847 : (Cond.code yX11_warmth cX11_warmth 5 (some .int)) ∈ lw_tbl := List.mem_of_getElem? (i := 900) (by decide +kernel)
theorem WLr_52 : ∀ w ∈ WL_52, w ∈ lw_tbl := List.forall_mem_cons.mpr ⟨qt_832, List.forall_mem_cons.mpr ⟨qt_833, List.forall_mem_cons.mpr ⟨qt_834, List.forall_mem_cons.mpr ⟨qt_835, List.forall_mem_cons.mpr ⟨qt_836, List.forall_mem_cons.mpr ⟨qt_837, List.forall_mem_cons.mpr ⟨qt_838, List.forall_mem_cons.mpr ⟨qt_839, List.forall_mem_cons.mpr ⟨qt_840, List.forall_mem_cons.mpr ⟨qt_841, List.forall_mem_cons.mpr ⟨qt_842, List.forall_mem_cons.mpr ⟨qt_843, List.forall_mem_cons.mpr ⟨qt_844, List.forall_mem_cons.mpr ⟨qt_845, List.forall_mem_cons.mpr ⟨qt_846, List.forall_mem_cons.mpr ⟨qt_847, fun _ h => absurd h List.not_mem_nil⟩⟩⟩⟩⟩⟩⟩⟩⟩⟩⟩⟩⟩⟩⟩⟩
def WL_53 : List Cond := [Cond.methodLink RX11 187 Lib.Math.max.name, Cond.static Lib.Math.max.name, Cond.initialized "java/lang/Math", Cond.code Lib.Math.max.name Lib.Math.max.code 2 (some .int), Cond.methodLink RX11 192 yX7_stands, Cond.instanceMethod yX7_stands, Cond.selects RX7 yX7_stands yX7_stands, Cond.code yX7_stands cX7_stands 3 (some .boolean), Cond.methodLink RX7 44 yX7_partOf, Cond.methodLink RX11 195 yX1_stonePart, Cond.instanceMethod yX1_stonePart, Cond.selects RX1 yX1_stonePart yX1_stonePart, Cond.code yX1_stonePart cX1_stonePart 4 (some .int), Cond.methodLink RL 62 yX13_warm, Cond.instanceMethod yX13_warm, Cond.selects RX13 yX13_warm yX13_warm]
theorem qt_848 : (Cond.methodLink RX11 187 Lib.Math.max.name) ∈ lw_tbl := List.mem_of_getElem? (i := 901) (by decide +kernel)
theorem qt_849 : (Cond.static Lib.Math.max.name) ∈ lw_tbl := List.mem_of_getElem? (i := 902) (by decide +kernel)
theorem qt_850 : (Cond.initialized "java/lang/Math") ∈ lw_tbl := List.mem_of_getElem? (i := 133) (by decide +kernel)
theorem qt_851 : (Cond.code Lib.Math.max.name Lib.Math.max.code 2 (some .int)) ∈ lw_tbl := List.mem_of_getElem? (i := 903) (by decide +kernel)
theorem qt_852 : (Cond.methodLink RX11 192 yX7_stands) ∈ lw_tbl := List.mem_of_getElem? (i := 904) (by decide +kernel)
theorem qt_853 : (Cond.instanceMethod yX7_stands) ∈ lw_tbl := List.mem_of_getElem? (i := 905) (by decide +kernel)
theorem qt_854 : (Cond.selects RX7 yX7_stands yX7_stands) ∈ lw_tbl := List.mem_of_getElem? (i := 906) (by decide +kernel)
theorem qt_855 : (Cond.code yX7_stands cX7_stands 3 (some .boolean)) ∈ lw_tbl := List.mem_of_getElem? (i := 907) (by decide +kernel)
theorem qt_856 : (Cond.methodLink RX7 44 yX7_partOf) ∈ lw_tbl := List.mem_of_getElem? (i := 908) (by decide +kernel)
theorem qt_857 : (Cond.methodLink RX11 195 yX1_stonePart) ∈ lw_tbl := List.mem_of_getElem? (i := 909) (by decide +kernel)
theorem qt_858 : (Cond.instanceMethod yX1_stonePart) ∈ lw_tbl := List.mem_of_getElem? (i := 910) (by decide +kernel)
theorem qt_859 : (Cond.selects RX1 yX1_stonePart yX1_stonePart) ∈ lw_tbl := List.mem_of_getElem? (i := 911) (by decide +kernel)
theorem qt_860 : (Cond.code yX1_stonePart cX1_stonePart 4 (some .int)) ∈ lw_tbl := List.mem_of_getElem? (i := 912) (by decide +kernel)
theorem qt_861 : (Cond.methodLink RL 62 yX13_warm) ∈ lw_tbl := List.mem_of_getElem? (i := 1907) (by decide +kernel)
theorem qt_862 : (Cond.instanceMethod yX13_warm) ∈ lw_tbl := List.mem_of_getElem? (i := 1908) (by decide +kernel)
theorem qt_863 : (Cond.selects RX13 yX13_warm yX13_warm) ∈ lw_tbl := List.mem_of_getElem? (i := 1909) (by decide +kernel)
theorem WLr_53 : ∀ w ∈ WL_53, w ∈ lw_tbl := List.forall_mem_cons.mpr ⟨qt_848, List.forall_mem_cons.mpr ⟨qt_849, List.forall_mem_cons.mpr ⟨qt_850, List.forall_mem_cons.mpr ⟨qt_851, List.forall_mem_cons.mpr ⟨qt_852, List.forall_mem_cons.mpr ⟨qt_853, List.forall_mem_cons.mpr ⟨qt_854, List.forall_mem_cons.mpr ⟨qt_855, List.forall_mem_cons.mpr ⟨qt_856, List.forall_mem_cons.mpr ⟨qt_857, List.forall_mem_cons.mpr ⟨qt_858, List.forall_mem_cons.mpr ⟨qt_859, List.forall_mem_cons.mpr ⟨qt_860, List.forall_mem_cons.mpr ⟨qt_861, List.forall_mem_cons.mpr ⟨qt_862, List.forall_mem_cons.mpr ⟨qt_863, fun _ h => absurd h List.not_mem_nil⟩⟩⟩⟩⟩⟩⟩⟩⟩⟩⟩⟩⟩⟩⟩⟩
def WL_54 : List Cond := [Cond.code yX13_warm cX13_warm 3 (some .int), Cond.methodLink RX13 540 yX13_isDepth, Cond.instanceMethod yX13_isDepth, Cond.selects RX13 yX13_isDepth yX13_isDepth, Cond.code yX13_isDepth cX13_isDepth 3 (some .boolean), Cond.methodLink RX13 543 yX13_warmth, Cond.instanceMethod yX13_warmth, Cond.selects RX13 yX13_warmth yX13_warmth, Cond.code yX13_warmth cX13_warmth 5 (some .int), Cond.methodLink RL 63 yX11_light, Cond.instanceMethod yX11_light, Cond.selects RX11 yX11_light yX11_light, Cond.code yX11_light cX11_light 3 (some .int), Cond.methodLink RL 66 yX13_light, Cond.instanceMethod yX13_light, Cond.selects RX13 yX13_light yX13_light]
theorem qt_864 : (Cond.code yX13_warm cX13_warm 3 (some .int)) ∈ lw_tbl := List.mem_of_getElem? (i := 1910) (by decide +kernel)
theorem qt_865 : (Cond.methodLink RX13 540 yX13_isDepth) ∈ lw_tbl := List.mem_of_getElem? (i := 1911) (by decide +kernel)
theorem qt_866 : (Cond.instanceMethod yX13_isDepth) ∈ lw_tbl := List.mem_of_getElem? (i := 1913) (by decide +kernel)
theorem qt_867 : (Cond.selects RX13 yX13_isDepth yX13_isDepth) ∈ lw_tbl := List.mem_of_getElem? (i := 86) (by decide +kernel)
theorem qt_868 : (Cond.code yX13_isDepth cX13_isDepth 3 (some .boolean)) ∈ lw_tbl := List.mem_of_getElem? (i := 1914) (by decide +kernel)
theorem qt_869 : (Cond.methodLink RX13 543 yX13_warmth) ∈ lw_tbl := List.mem_of_getElem? (i := 1915) (by decide +kernel)
theorem qt_870 : (Cond.instanceMethod yX13_warmth) ∈ lw_tbl := List.mem_of_getElem? (i := 1917) (by decide +kernel)
theorem qt_871 : (Cond.selects RX13 yX13_warmth yX13_warmth) ∈ lw_tbl := List.mem_of_getElem? (i := 87) (by decide +kernel)
theorem qt_872 : (Cond.code yX13_warmth cX13_warmth 5 (some .int)) ∈ lw_tbl := List.mem_of_getElem? (i := 1918) (by decide +kernel)
theorem qt_873 : (Cond.methodLink RL 63 yX11_light) ∈ lw_tbl := List.mem_of_getElem? (i := 913) (by decide +kernel)
theorem qt_874 : (Cond.instanceMethod yX11_light) ∈ lw_tbl := List.mem_of_getElem? (i := 914) (by decide +kernel)
theorem qt_875 : (Cond.selects RX11 yX11_light yX11_light) ∈ lw_tbl := List.mem_of_getElem? (i := 915) (by decide +kernel)
theorem qt_876 : (Cond.code yX11_light cX11_light 3 (some .int)) ∈ lw_tbl := List.mem_of_getElem? (i := 916) (by decide +kernel)
theorem qt_877 : (Cond.methodLink RL 66 yX13_light) ∈ lw_tbl := List.mem_of_getElem? (i := 1919) (by decide +kernel)
theorem qt_878 : (Cond.instanceMethod yX13_light) ∈ lw_tbl := List.mem_of_getElem? (i := 1920) (by decide +kernel)
theorem qt_879 : (Cond.selects RX13 yX13_light yX13_light) ∈ lw_tbl := List.mem_of_getElem? (i := 1921) (by decide +kernel)
theorem WLr_54 : ∀ w ∈ WL_54, w ∈ lw_tbl := List.forall_mem_cons.mpr ⟨qt_864, List.forall_mem_cons.mpr ⟨qt_865, List.forall_mem_cons.mpr ⟨qt_866, List.forall_mem_cons.mpr ⟨qt_867, List.forall_mem_cons.mpr ⟨qt_868, List.forall_mem_cons.mpr ⟨qt_869, List.forall_mem_cons.mpr ⟨qt_870, List.forall_mem_cons.mpr ⟨qt_871, List.forall_mem_cons.mpr ⟨qt_872, List.forall_mem_cons.mpr ⟨qt_873, List.forall_mem_cons.mpr ⟨qt_874, List.forall_mem_cons.mpr ⟨qt_875, List.forall_mem_cons.mpr ⟨qt_876, List.forall_mem_cons.mpr ⟨qt_877, List.forall_mem_cons.mpr ⟨qt_878, List.forall_mem_cons.mpr ⟨qt_879, fun _ h => absurd h List.not_mem_nil⟩⟩⟩⟩⟩⟩⟩⟩⟩⟩⟩⟩⟩⟩⟩⟩
def WL_55 : List Cond := [Cond.code yX13_light cX13_light 4 (some .int), Cond.methodLink RL 67 yX11_heir, Cond.instanceMethod yX11_heir, Cond.selects RX11 yX11_heir yX11_heir, Cond.code yX11_heir cX11_heir 3 (some .int), Cond.fieldLink RX11 201 "YearSkins$Land" "heirHouse" "[I", Cond.fieldLink RX11 204 "YearSkins$State" "rooms" "[I", Cond.methodLink RX11 198 yX11_isHeir, Cond.instanceMethod yX11_isHeir, Cond.selects RX11 yX11_isHeir yX11_isHeir, Cond.code yX11_isHeir cX11_isHeir 2 (some .boolean), Cond.fieldLink RX11 356 "YearSkins$Land" "heirs" "I", Cond.methodLink RL 70 yX13_heir, Cond.instanceMethod yX13_heir, Cond.selects RX13 yX13_heir yX13_heir, Cond.code yX13_heir cX13_heir 3 (some .int)]
theorem qt_880 : (Cond.code yX13_light cX13_light 4 (some .int)) ∈ lw_tbl := List.mem_of_getElem? (i := 1922) (by decide +kernel)
theorem qt_881 : (Cond.methodLink RL 67 yX11_heir) ∈ lw_tbl := List.mem_of_getElem? (i := 917) (by decide +kernel)
theorem qt_882 : (Cond.instanceMethod yX11_heir) ∈ lw_tbl := List.mem_of_getElem? (i := 918) (by decide +kernel)
theorem qt_883 : (Cond.selects RX11 yX11_heir yX11_heir) ∈ lw_tbl := List.mem_of_getElem? (i := 919) (by decide +kernel)
theorem qt_884 : (Cond.code yX11_heir cX11_heir 3 (some .int)) ∈ lw_tbl := List.mem_of_getElem? (i := 920) (by decide +kernel)
theorem qt_885 : (Cond.fieldLink RX11 201 "YearSkins$Land" "heirHouse" "[I") ∈ lw_tbl := List.mem_of_getElem? (i := 197) (by decide +kernel)
theorem qt_886 : (Cond.fieldLink RX11 204 "YearSkins$State" "rooms" "[I") ∈ lw_tbl := List.mem_of_getElem? (i := 282) (by decide +kernel)
theorem qt_887 : (Cond.methodLink RX11 198 yX11_isHeir) ∈ lw_tbl := List.mem_of_getElem? (i := 921) (by decide +kernel)
theorem qt_888 : (Cond.instanceMethod yX11_isHeir) ∈ lw_tbl := List.mem_of_getElem? (i := 923) (by decide +kernel)
theorem qt_889 : (Cond.selects RX11 yX11_isHeir yX11_isHeir) ∈ lw_tbl := List.mem_of_getElem? (i := 33) (by decide +kernel)
theorem qt_890 : (Cond.code yX11_isHeir cX11_isHeir 2 (some .boolean)) ∈ lw_tbl := List.mem_of_getElem? (i := 924) (by decide +kernel)
theorem qt_891 : (Cond.fieldLink RX11 356 "YearSkins$Land" "heirs" "I") ∈ lw_tbl := List.mem_of_getElem? (i := 195) (by decide +kernel)
theorem qt_892 : (Cond.methodLink RL 70 yX13_heir) ∈ lw_tbl := List.mem_of_getElem? (i := 1923) (by decide +kernel)
theorem qt_893 : (Cond.instanceMethod yX13_heir) ∈ lw_tbl := List.mem_of_getElem? (i := 1924) (by decide +kernel)
theorem qt_894 : (Cond.selects RX13 yX13_heir yX13_heir) ∈ lw_tbl := List.mem_of_getElem? (i := 1925) (by decide +kernel)
theorem qt_895 : (Cond.code yX13_heir cX13_heir 3 (some .int)) ∈ lw_tbl := List.mem_of_getElem? (i := 1926) (by decide +kernel)
theorem WLr_55 : ∀ w ∈ WL_55, w ∈ lw_tbl := List.forall_mem_cons.mpr ⟨qt_880, List.forall_mem_cons.mpr ⟨qt_881, List.forall_mem_cons.mpr ⟨qt_882, List.forall_mem_cons.mpr ⟨qt_883, List.forall_mem_cons.mpr ⟨qt_884, List.forall_mem_cons.mpr ⟨qt_885, List.forall_mem_cons.mpr ⟨qt_886, List.forall_mem_cons.mpr ⟨qt_887, List.forall_mem_cons.mpr ⟨qt_888, List.forall_mem_cons.mpr ⟨qt_889, List.forall_mem_cons.mpr ⟨qt_890, List.forall_mem_cons.mpr ⟨qt_891, List.forall_mem_cons.mpr ⟨qt_892, List.forall_mem_cons.mpr ⟨qt_893, List.forall_mem_cons.mpr ⟨qt_894, List.forall_mem_cons.mpr ⟨qt_895, fun _ h => absurd h List.not_mem_nil⟩⟩⟩⟩⟩⟩⟩⟩⟩⟩⟩⟩⟩⟩⟩⟩
def WL_56 : List Cond := [Cond.methodLink RX13 546 yX13_isHeir, Cond.instanceMethod yX13_isHeir, Cond.selects RX13 yX13_isHeir yX13_isHeir, Cond.code yX13_isHeir cX13_isHeir 2 (some .boolean), Cond.methodLink RL 71 yX11_fits, Cond.instanceMethod yX11_fits, Cond.selects RX11 yX11_fits yX11_fits, Cond.code yX11_fits cX11_fits 2 (some .int), Cond.methodLink RX11 207 yX6_isFit, Cond.methodLink RL 74 yX13_fits, Cond.instanceMethod yX13_fits, Cond.selects RX13 yX13_fits yX13_fits, Cond.code yX13_fits cX13_fits 2 (some .int), Cond.methodLink RL 75 yX11_door, Cond.instanceMethod yX11_door, Cond.selects RX11 yX11_door yX11_door]
theorem qt_896 : (Cond.methodLink RX13 546 yX13_isHeir) ∈ lw_tbl := List.mem_of_getElem? (i := 1927) (by decide +kernel)
theorem qt_897 : (Cond.instanceMethod yX13_isHeir) ∈ lw_tbl := List.mem_of_getElem? (i := 1929) (by decide +kernel)
theorem qt_898 : (Cond.selects RX13 yX13_isHeir yX13_isHeir) ∈ lw_tbl := List.mem_of_getElem? (i := 88) (by decide +kernel)
theorem qt_899 : (Cond.code yX13_isHeir cX13_isHeir 2 (some .boolean)) ∈ lw_tbl := List.mem_of_getElem? (i := 1930) (by decide +kernel)
theorem qt_900 : (Cond.methodLink RL 71 yX11_fits) ∈ lw_tbl := List.mem_of_getElem? (i := 925) (by decide +kernel)
theorem qt_901 : (Cond.instanceMethod yX11_fits) ∈ lw_tbl := List.mem_of_getElem? (i := 926) (by decide +kernel)
theorem qt_902 : (Cond.selects RX11 yX11_fits yX11_fits) ∈ lw_tbl := List.mem_of_getElem? (i := 927) (by decide +kernel)
theorem qt_903 : (Cond.code yX11_fits cX11_fits 2 (some .int)) ∈ lw_tbl := List.mem_of_getElem? (i := 928) (by decide +kernel)
theorem qt_904 : (Cond.methodLink RX11 207 yX6_isFit) ∈ lw_tbl := List.mem_of_getElem? (i := 929) (by decide +kernel)
theorem qt_905 : (Cond.methodLink RL 74 yX13_fits) ∈ lw_tbl := List.mem_of_getElem? (i := 1931) (by decide +kernel)
theorem qt_906 : (Cond.instanceMethod yX13_fits) ∈ lw_tbl := List.mem_of_getElem? (i := 1932) (by decide +kernel)
theorem qt_907 : (Cond.selects RX13 yX13_fits yX13_fits) ∈ lw_tbl := List.mem_of_getElem? (i := 1933) (by decide +kernel)
theorem qt_908 : (Cond.code yX13_fits cX13_fits 2 (some .int)) ∈ lw_tbl := List.mem_of_getElem? (i := 1934) (by decide +kernel)
theorem qt_909 : (Cond.methodLink RL 75 yX11_door) ∈ lw_tbl := List.mem_of_getElem? (i := 930) (by decide +kernel)
theorem qt_910 : (Cond.instanceMethod yX11_door) ∈ lw_tbl := List.mem_of_getElem? (i := 931) (by decide +kernel)
theorem qt_911 : (Cond.selects RX11 yX11_door yX11_door) ∈ lw_tbl := List.mem_of_getElem? (i := 932) (by decide +kernel)
theorem WLr_56 : ∀ w ∈ WL_56, w ∈ lw_tbl := List.forall_mem_cons.mpr ⟨qt_896, List.forall_mem_cons.mpr ⟨qt_897, List.forall_mem_cons.mpr ⟨qt_898, List.forall_mem_cons.mpr ⟨qt_899, List.forall_mem_cons.mpr ⟨qt_900, List.forall_mem_cons.mpr ⟨qt_901, List.forall_mem_cons.mpr ⟨qt_902, List.forall_mem_cons.mpr ⟨qt_903, List.forall_mem_cons.mpr ⟨qt_904, List.forall_mem_cons.mpr ⟨qt_905, List.forall_mem_cons.mpr ⟨qt_906, List.forall_mem_cons.mpr ⟨qt_907, List.forall_mem_cons.mpr ⟨qt_908, List.forall_mem_cons.mpr ⟨qt_909, List.forall_mem_cons.mpr ⟨qt_910, List.forall_mem_cons.mpr ⟨qt_911, fun _ h => absurd h List.not_mem_nil⟩⟩⟩⟩⟩⟩⟩⟩⟩⟩⟩⟩⟩⟩⟩⟩
def WL_57 : List Cond := [Cond.code yX11_door cX11_door 2 (some .int), Cond.methodLink RX11 210 yX6_lawDoor, Cond.static yX6_lawDoor, Cond.code yX6_lawDoor cX6_lawDoor 12 (some .int), Cond.fieldLink RX6 79 "YearSkins$Land" "far" "Z", Cond.methodLink RX6 70 yX7_doorOf, Cond.instanceMethod yX7_doorOf, Cond.selects RX7 yX7_doorOf yX7_doorOf, Cond.code yX7_doorOf cX7_doorOf 3 (some .int), Cond.methodLink RX7 52 yX4_doorPlace, Cond.methodLink RX6 73 yX4_inFront, Cond.static yX4_inFront, Cond.code yX4_inFront cX4_inFront 4 (some .int), Cond.methodLink RX6 76 yX4_between, Cond.static yX4_between, Cond.code yX4_between cX4_between 5 (some .int)]
theorem qt_912 : (Cond.code yX11_door cX11_door 2 (some .int)) ∈ lw_tbl := List.mem_of_getElem? (i := 933) (by decide +kernel)
theorem qt_913 : (Cond.methodLink RX11 210 yX6_lawDoor) ∈ lw_tbl := List.mem_of_getElem? (i := 934) (by decide +kernel)
theorem qt_914 : (Cond.static yX6_lawDoor) ∈ lw_tbl := List.mem_of_getElem? (i := 935) (by decide +kernel)
theorem qt_915 : (Cond.code yX6_lawDoor cX6_lawDoor 12 (some .int)) ∈ lw_tbl := List.mem_of_getElem? (i := 936) (by decide +kernel)
theorem qt_916 : (Cond.fieldLink RX6 79 "YearSkins$Land" "far" "Z") ∈ lw_tbl := List.mem_of_getElem? (i := 159) (by decide +kernel)
theorem qt_917 : (Cond.methodLink RX6 70 yX7_doorOf) ∈ lw_tbl := List.mem_of_getElem? (i := 937) (by decide +kernel)
theorem qt_918 : (Cond.instanceMethod yX7_doorOf) ∈ lw_tbl := List.mem_of_getElem? (i := 938) (by decide +kernel)
theorem qt_919 : (Cond.selects RX7 yX7_doorOf yX7_doorOf) ∈ lw_tbl := List.mem_of_getElem? (i := 939) (by decide +kernel)
theorem qt_920 : (Cond.code yX7_doorOf cX7_doorOf 3 (some .int)) ∈ lw_tbl := List.mem_of_getElem? (i := 940) (by decide +kernel)
theorem qt_921 : (Cond.methodLink RX7 52 yX4_doorPlace) ∈ lw_tbl := List.mem_of_getElem? (i := 941) (by decide +kernel)
theorem qt_922 : (Cond.methodLink RX6 73 yX4_inFront) ∈ lw_tbl := List.mem_of_getElem? (i := 942) (by decide +kernel)
theorem qt_923 : (Cond.static yX4_inFront) ∈ lw_tbl := List.mem_of_getElem? (i := 943) (by decide +kernel)
theorem qt_924 : (Cond.code yX4_inFront cX4_inFront 4 (some .int)) ∈ lw_tbl := List.mem_of_getElem? (i := 944) (by decide +kernel)
theorem qt_925 : (Cond.methodLink RX6 76 yX4_between) ∈ lw_tbl := List.mem_of_getElem? (i := 945) (by decide +kernel)
theorem qt_926 : (Cond.static yX4_between) ∈ lw_tbl := List.mem_of_getElem? (i := 946) (by decide +kernel)
theorem qt_927 : (Cond.code yX4_between cX4_between 5 (some .int)) ∈ lw_tbl := List.mem_of_getElem? (i := 947) (by decide +kernel)
theorem WLr_57 : ∀ w ∈ WL_57, w ∈ lw_tbl := List.forall_mem_cons.mpr ⟨qt_912, List.forall_mem_cons.mpr ⟨qt_913, List.forall_mem_cons.mpr ⟨qt_914, List.forall_mem_cons.mpr ⟨qt_915, List.forall_mem_cons.mpr ⟨qt_916, List.forall_mem_cons.mpr ⟨qt_917, List.forall_mem_cons.mpr ⟨qt_918, List.forall_mem_cons.mpr ⟨qt_919, List.forall_mem_cons.mpr ⟨qt_920, List.forall_mem_cons.mpr ⟨qt_921, List.forall_mem_cons.mpr ⟨qt_922, List.forall_mem_cons.mpr ⟨qt_923, List.forall_mem_cons.mpr ⟨qt_924, List.forall_mem_cons.mpr ⟨qt_925, List.forall_mem_cons.mpr ⟨qt_926, List.forall_mem_cons.mpr ⟨qt_927, fun _ h => absurd h List.not_mem_nil⟩⟩⟩⟩⟩⟩⟩⟩⟩⟩⟩⟩⟩⟩⟩⟩
def WL_58 : List Cond := [Cond.methodLink RL 78 yX13_door, Cond.instanceMethod yX13_door, Cond.selects RX13 yX13_door yX13_door, Cond.code yX13_door cX13_door 2 (some .int), Cond.fieldLink RX13 475 "YearSkinsModel" "newSide" "I", Cond.fieldLink RX13 478 "YearSkinsModel" "newPlace" "I", Cond.methodLink RX13 497 yX13_findsDoor, Cond.instanceMethod yX13_findsDoor, Cond.selects RX13 yX13_findsDoor yX13_findsDoor, Cond.code yX13_findsDoor cX13_findsDoor 8 (some .boolean), Cond.methodLink RX13 455 yX13_doorPlace, Cond.static yX13_doorPlace, Cond.code yX13_doorPlace cX13_doorPlace 3 (some .int), Cond.methodLink RX13 446 yX13_placeOf, Cond.static yX13_placeOf, Cond.code yX13_placeOf cX13_placeOf 3 (some .int)]
theorem qt_928 : (Cond.methodLink RL 78 yX13_door) ∈ lw_tbl := List.mem_of_getElem? (i := 1935) (by decide +kernel)
theorem qt_929 : (Cond.instanceMethod yX13_door) ∈ lw_tbl := List.mem_of_getElem? (i := 1936) (by decide +kernel)
theorem qt_930 : (Cond.selects RX13 yX13_door yX13_door) ∈ lw_tbl := List.mem_of_getElem? (i := 1937) (by decide +kernel)
theorem qt_931 : (Cond.code yX13_door cX13_door 2 (some .int)) ∈ lw_tbl := List.mem_of_getElem? (i := 1938) (by decide +kernel)
theorem qt_932 : (Cond.fieldLink RX13 475 "YearSkinsModel" "newSide" "I") ∈ lw_tbl := List.mem_of_getElem? (i := 1396) (by decide +kernel)
theorem qt_933 : (Cond.fieldLink RX13 478 "YearSkinsModel" "newPlace" "I") ∈ lw_tbl := List.mem_of_getElem? (i := 1397) (by decide +kernel)
theorem qt_934 : (Cond.methodLink RX13 497 yX13_findsDoor) ∈ lw_tbl := List.mem_of_getElem? (i := 1939) (by decide +kernel)
theorem qt_935 : (Cond.instanceMethod yX13_findsDoor) ∈ lw_tbl := List.mem_of_getElem? (i := 1941) (by decide +kernel)
theorem qt_936 : (Cond.selects RX13 yX13_findsDoor yX13_findsDoor) ∈ lw_tbl := List.mem_of_getElem? (i := 89) (by decide +kernel)
theorem qt_937 : (Cond.code yX13_findsDoor cX13_findsDoor 8 (some .boolean)) ∈ lw_tbl := List.mem_of_getElem? (i := 1942) (by decide +kernel)
theorem qt_938 : (Cond.methodLink RX13 455 yX13_doorPlace) ∈ lw_tbl := List.mem_of_getElem? (i := 1943) (by decide +kernel)
theorem qt_939 : (Cond.static yX13_doorPlace) ∈ lw_tbl := List.mem_of_getElem? (i := 1944) (by decide +kernel)
theorem qt_940 : (Cond.code yX13_doorPlace cX13_doorPlace 3 (some .int)) ∈ lw_tbl := List.mem_of_getElem? (i := 1945) (by decide +kernel)
theorem qt_941 : (Cond.methodLink RX13 446 yX13_placeOf) ∈ lw_tbl := List.mem_of_getElem? (i := 1946) (by decide +kernel)
theorem qt_942 : (Cond.static yX13_placeOf) ∈ lw_tbl := List.mem_of_getElem? (i := 1947) (by decide +kernel)
theorem qt_943 : (Cond.code yX13_placeOf cX13_placeOf 3 (some .int)) ∈ lw_tbl := List.mem_of_getElem? (i := 1948) (by decide +kernel)
theorem WLr_58 : ∀ w ∈ WL_58, w ∈ lw_tbl := List.forall_mem_cons.mpr ⟨qt_928, List.forall_mem_cons.mpr ⟨qt_929, List.forall_mem_cons.mpr ⟨qt_930, List.forall_mem_cons.mpr ⟨qt_931, List.forall_mem_cons.mpr ⟨qt_932, List.forall_mem_cons.mpr ⟨qt_933, List.forall_mem_cons.mpr ⟨qt_934, List.forall_mem_cons.mpr ⟨qt_935, List.forall_mem_cons.mpr ⟨qt_936, List.forall_mem_cons.mpr ⟨qt_937, List.forall_mem_cons.mpr ⟨qt_938, List.forall_mem_cons.mpr ⟨qt_939, List.forall_mem_cons.mpr ⟨qt_940, List.forall_mem_cons.mpr ⟨qt_941, List.forall_mem_cons.mpr ⟨qt_942, List.forall_mem_cons.mpr ⟨qt_943, fun _ h => absurd h List.not_mem_nil⟩⟩⟩⟩⟩⟩⟩⟩⟩⟩⟩⟩⟩⟩⟩⟩
def WL_59 : List Cond := [Cond.methodLink RX13 458 yX13_frontPlace, Cond.static yX13_frontPlace, Cond.code yX13_frontPlace cX13_frontPlace 3 (some .int), Cond.methodLink RX13 461 yX13_roundOf, Cond.static yX13_roundOf, Cond.code yX13_roundOf cX13_roundOf 4 (some .int), Cond.methodLink RL 79 yX11_costs, Cond.instanceMethod yX11_costs, Cond.selects RX11 yX11_costs yX11_costs, Cond.code yX11_costs cX11_costs 3 (some .int), Cond.methodLink RX11 214 yX11_isStone, Cond.instanceMethod yX11_isStone, Cond.selects RX11 yX11_isStone yX11_isStone, Cond.code yX11_isStone cX11_isStone 2 (some .boolean), Cond.fieldLink RX11 353 "YearSkins$Land" "stones" "I", Cond.methodLink RX11 217 yX6_priceOf]
theorem qt_944 : (Cond.methodLink RX13 458 yX13_frontPlace) ∈ lw_tbl := List.mem_of_getElem? (i := 1949) (by decide +kernel)
theorem qt_945 : (Cond.static yX13_frontPlace) ∈ lw_tbl := List.mem_of_getElem? (i := 1950) (by decide +kernel)
theorem qt_946 : (Cond.code yX13_frontPlace cX13_frontPlace 3 (some .int)) ∈ lw_tbl := List.mem_of_getElem? (i := 1951) (by decide +kernel)
theorem qt_947 : (Cond.methodLink RX13 461 yX13_roundOf) ∈ lw_tbl := List.mem_of_getElem? (i := 1952) (by decide +kernel)
theorem qt_948 : (Cond.static yX13_roundOf) ∈ lw_tbl := List.mem_of_getElem? (i := 1953) (by decide +kernel)
theorem qt_949 : (Cond.code yX13_roundOf cX13_roundOf 4 (some .int)) ∈ lw_tbl := List.mem_of_getElem? (i := 1954) (by decide +kernel)
theorem qt_950 : (Cond.methodLink RL 79 yX11_costs) ∈ lw_tbl := List.mem_of_getElem? (i := 948) (by decide +kernel)
theorem qt_951 : (Cond.instanceMethod yX11_costs) ∈ lw_tbl := List.mem_of_getElem? (i := 949) (by decide +kernel)
theorem qt_952 : (Cond.selects RX11 yX11_costs yX11_costs) ∈ lw_tbl := List.mem_of_getElem? (i := 950) (by decide +kernel)
theorem qt_953 : (Cond.code yX11_costs cX11_costs 3 (some .int)) ∈ lw_tbl := List.mem_of_getElem? (i := 951) (by decide +kernel)
theorem qt_954 : (Cond.methodLink RX11 214 yX11_isStone) ∈ lw_tbl := List.mem_of_getElem? (i := 952) (by decide +kernel)
theorem qt_955 : (Cond.instanceMethod yX11_isStone) ∈ lw_tbl := List.mem_of_getElem? (i := 954) (by decide +kernel)
theorem qt_956 : (Cond.selects RX11 yX11_isStone yX11_isStone) ∈ lw_tbl := List.mem_of_getElem? (i := 34) (by decide +kernel)
theorem qt_957 : (Cond.code yX11_isStone cX11_isStone 2 (some .boolean)) ∈ lw_tbl := List.mem_of_getElem? (i := 955) (by decide +kernel)
theorem qt_958 : (Cond.fieldLink RX11 353 "YearSkins$Land" "stones" "I") ∈ lw_tbl := List.mem_of_getElem? (i := 174) (by decide +kernel)
theorem qt_959 : (Cond.methodLink RX11 217 yX6_priceOf) ∈ lw_tbl := List.mem_of_getElem? (i := 956) (by decide +kernel)
theorem WLr_59 : ∀ w ∈ WL_59, w ∈ lw_tbl := List.forall_mem_cons.mpr ⟨qt_944, List.forall_mem_cons.mpr ⟨qt_945, List.forall_mem_cons.mpr ⟨qt_946, List.forall_mem_cons.mpr ⟨qt_947, List.forall_mem_cons.mpr ⟨qt_948, List.forall_mem_cons.mpr ⟨qt_949, List.forall_mem_cons.mpr ⟨qt_950, List.forall_mem_cons.mpr ⟨qt_951, List.forall_mem_cons.mpr ⟨qt_952, List.forall_mem_cons.mpr ⟨qt_953, List.forall_mem_cons.mpr ⟨qt_954, List.forall_mem_cons.mpr ⟨qt_955, List.forall_mem_cons.mpr ⟨qt_956, List.forall_mem_cons.mpr ⟨qt_957, List.forall_mem_cons.mpr ⟨qt_958, List.forall_mem_cons.mpr ⟨qt_959, fun _ h => absurd h List.not_mem_nil⟩⟩⟩⟩⟩⟩⟩⟩⟩⟩⟩⟩⟩⟩⟩⟩
def WL_60 : List Cond := [Cond.static yX6_priceOf, Cond.code yX6_priceOf cX6_priceOf 4 (some .int), Cond.methodLink RX6 101 yX1_stonePart, Cond.methodLink RL 82 yX13_costs, Cond.instanceMethod yX13_costs, Cond.selects RX13 yX13_costs yX13_costs, Cond.code yX13_costs cX13_costs 3 (some .int), Cond.methodLink RX13 549 yX13_isStone, Cond.instanceMethod yX13_isStone, Cond.selects RX13 yX13_isStone yX13_isStone, Cond.code yX13_isStone cX13_isStone 2 (some .boolean), Cond.methodLink RX13 501 yX13_costOf, Cond.instanceMethod yX13_costOf, Cond.selects RX13 yX13_costOf yX13_costOf, Cond.code yX13_costOf cX13_costOf 4 (some .int), Cond.methodLink RL 83 yX11_way]
theorem qt_960 : (Cond.static yX6_priceOf) ∈ lw_tbl := List.mem_of_getElem? (i := 957) (by decide +kernel)
theorem qt_961 : (Cond.code yX6_priceOf cX6_priceOf 4 (some .int)) ∈ lw_tbl := List.mem_of_getElem? (i := 958) (by decide +kernel)
theorem qt_962 : (Cond.methodLink RX6 101 yX1_stonePart) ∈ lw_tbl := List.mem_of_getElem? (i := 959) (by decide +kernel)
theorem qt_963 : (Cond.methodLink RL 82 yX13_costs) ∈ lw_tbl := List.mem_of_getElem? (i := 1955) (by decide +kernel)
theorem qt_964 : (Cond.instanceMethod yX13_costs) ∈ lw_tbl := List.mem_of_getElem? (i := 1956) (by decide +kernel)
theorem qt_965 : (Cond.selects RX13 yX13_costs yX13_costs) ∈ lw_tbl := List.mem_of_getElem? (i := 1957) (by decide +kernel)
theorem qt_966 : (Cond.code yX13_costs cX13_costs 3 (some .int)) ∈ lw_tbl := List.mem_of_getElem? (i := 1958) (by decide +kernel)
theorem qt_967 : (Cond.methodLink RX13 549 yX13_isStone) ∈ lw_tbl := List.mem_of_getElem? (i := 1959) (by decide +kernel)
theorem qt_968 : (Cond.instanceMethod yX13_isStone) ∈ lw_tbl := List.mem_of_getElem? (i := 1961) (by decide +kernel)
theorem qt_969 : (Cond.selects RX13 yX13_isStone yX13_isStone) ∈ lw_tbl := List.mem_of_getElem? (i := 90) (by decide +kernel)
theorem qt_970 : (Cond.code yX13_isStone cX13_isStone 2 (some .boolean)) ∈ lw_tbl := List.mem_of_getElem? (i := 1962) (by decide +kernel)
theorem qt_971 : (Cond.methodLink RX13 501 yX13_costOf) ∈ lw_tbl := List.mem_of_getElem? (i := 1963) (by decide +kernel)
theorem qt_972 : (Cond.instanceMethod yX13_costOf) ∈ lw_tbl := List.mem_of_getElem? (i := 1965) (by decide +kernel)
theorem qt_973 : (Cond.selects RX13 yX13_costOf yX13_costOf) ∈ lw_tbl := List.mem_of_getElem? (i := 91) (by decide +kernel)
theorem qt_974 : (Cond.code yX13_costOf cX13_costOf 4 (some .int)) ∈ lw_tbl := List.mem_of_getElem? (i := 1966) (by decide +kernel)
theorem qt_975 : (Cond.methodLink RL 83 yX11_way) ∈ lw_tbl := List.mem_of_getElem? (i := 960) (by decide +kernel)
theorem WLr_60 : ∀ w ∈ WL_60, w ∈ lw_tbl := List.forall_mem_cons.mpr ⟨qt_960, List.forall_mem_cons.mpr ⟨qt_961, List.forall_mem_cons.mpr ⟨qt_962, List.forall_mem_cons.mpr ⟨qt_963, List.forall_mem_cons.mpr ⟨qt_964, List.forall_mem_cons.mpr ⟨qt_965, List.forall_mem_cons.mpr ⟨qt_966, List.forall_mem_cons.mpr ⟨qt_967, List.forall_mem_cons.mpr ⟨qt_968, List.forall_mem_cons.mpr ⟨qt_969, List.forall_mem_cons.mpr ⟨qt_970, List.forall_mem_cons.mpr ⟨qt_971, List.forall_mem_cons.mpr ⟨qt_972, List.forall_mem_cons.mpr ⟨qt_973, List.forall_mem_cons.mpr ⟨qt_974, List.forall_mem_cons.mpr ⟨qt_975, fun _ h => absurd h List.not_mem_nil⟩⟩⟩⟩⟩⟩⟩⟩⟩⟩⟩⟩⟩⟩⟩⟩
def WL_61 : List Cond := [Cond.instanceMethod yX11_way, Cond.selects RX11 yX11_way yX11_way, Cond.code yX11_way cX11_way 3 (some .int), Cond.methodLink RX11 220 yX7_wayTo, Cond.instanceMethod yX7_wayTo, Cond.selects RX7 yX7_wayTo yX7_wayTo, Cond.code yX7_wayTo cX7_wayTo 6 (some .int), Cond.methodLink RX7 67 yX7_isOpen, Cond.instanceMethod yX7_isOpen, Cond.selects RX7 yX7_isOpen yX7_isOpen, Cond.code yX7_isOpen cX7_isOpen 3 (some .boolean), Cond.methodLink RX7 48 yX7_stands, Cond.methodLink RX7 70 yX7_roundIn, Cond.instanceMethod yX7_roundIn, Cond.selects RX7 yX7_roundIn yX7_roundIn, Cond.code yX7_roundIn cX7_roundIn 3 (some .int)]
theorem qt_976 : (Cond.instanceMethod yX11_way) ∈ lw_tbl := List.mem_of_getElem? (i := 961) (by decide +kernel)
theorem qt_977 : (Cond.selects RX11 yX11_way yX11_way) ∈ lw_tbl := List.mem_of_getElem? (i := 962) (by decide +kernel)
theorem qt_978 : (Cond.code yX11_way cX11_way 3 (some .int)) ∈ lw_tbl := List.mem_of_getElem? (i := 963) (by decide +kernel)
theorem qt_979 : (Cond.methodLink RX11 220 yX7_wayTo) ∈ lw_tbl := List.mem_of_getElem? (i := 964) (by decide +kernel)
theorem qt_980 : (Cond.instanceMethod yX7_wayTo) ∈ lw_tbl := List.mem_of_getElem? (i := 965) (by decide +kernel)
theorem qt_981 : (Cond.selects RX7 yX7_wayTo yX7_wayTo) ∈ lw_tbl := List.mem_of_getElem? (i := 966) (by decide +kernel)
theorem qt_982 : (Cond.code yX7_wayTo cX7_wayTo 6 (some .int)) ∈ lw_tbl := List.mem_of_getElem? (i := 967) (by decide +kernel)
theorem qt_983 : (Cond.methodLink RX7 67 yX7_isOpen) ∈ lw_tbl := List.mem_of_getElem? (i := 968) (by decide +kernel)
theorem qt_984 : (Cond.instanceMethod yX7_isOpen) ∈ lw_tbl := List.mem_of_getElem? (i := 969) (by decide +kernel)
theorem qt_985 : (Cond.selects RX7 yX7_isOpen yX7_isOpen) ∈ lw_tbl := List.mem_of_getElem? (i := 970) (by decide +kernel)
theorem qt_986 : (Cond.code yX7_isOpen cX7_isOpen 3 (some .boolean)) ∈ lw_tbl := List.mem_of_getElem? (i := 971) (by decide +kernel)
theorem qt_987 : (Cond.methodLink RX7 48 yX7_stands) ∈ lw_tbl := List.mem_of_getElem? (i := 972) (by decide +kernel)
theorem qt_988 : (Cond.methodLink RX7 70 yX7_roundIn) ∈ lw_tbl := List.mem_of_getElem? (i := 973) (by decide +kernel)
theorem qt_989 : (Cond.instanceMethod yX7_roundIn) ∈ lw_tbl := List.mem_of_getElem? (i := 974) (by decide +kernel)
theorem qt_990 : (Cond.selects RX7 yX7_roundIn yX7_roundIn) ∈ lw_tbl := List.mem_of_getElem? (i := 975) (by decide +kernel)
theorem qt_991 : (Cond.code yX7_roundIn cX7_roundIn 3 (some .int)) ∈ lw_tbl := List.mem_of_getElem? (i := 976) (by decide +kernel)
theorem WLr_61 : ∀ w ∈ WL_61, w ∈ lw_tbl := List.forall_mem_cons.mpr ⟨qt_976, List.forall_mem_cons.mpr ⟨qt_977, List.forall_mem_cons.mpr ⟨qt_978, List.forall_mem_cons.mpr ⟨qt_979, List.forall_mem_cons.mpr ⟨qt_980, List.forall_mem_cons.mpr ⟨qt_981, List.forall_mem_cons.mpr ⟨qt_982, List.forall_mem_cons.mpr ⟨qt_983, List.forall_mem_cons.mpr ⟨qt_984, List.forall_mem_cons.mpr ⟨qt_985, List.forall_mem_cons.mpr ⟨qt_986, List.forall_mem_cons.mpr ⟨qt_987, List.forall_mem_cons.mpr ⟨qt_988, List.forall_mem_cons.mpr ⟨qt_989, List.forall_mem_cons.mpr ⟨qt_990, List.forall_mem_cons.mpr ⟨qt_991, fun _ h => absurd h List.not_mem_nil⟩⟩⟩⟩⟩⟩⟩⟩⟩⟩⟩⟩⟩⟩⟩⟩
def WL_62 : List Cond := [Cond.methodLink RX7 57 yX7_doorOf, Cond.methodLink RX7 61 yX4_inFront, Cond.methodLink RX7 64 yX4_between, Cond.methodLink RL 86 yX13_way, Cond.instanceMethod yX13_way, Cond.selects RX13 yX13_way yX13_way, Cond.code yX13_way cX13_way 3 (some .int), Cond.methodLink RX13 552 yX13_wayTo, Cond.static yX13_wayTo, Cond.code yX13_wayTo cX13_wayTo 4 (some .int), Cond.methodLink RX13 468 yX13_plainWay, Cond.static yX13_plainWay, Cond.code yX13_plainWay cX13_plainWay 5 (some .int), Cond.methodLink RX13 464 yX13_roundIn, Cond.static yX13_roundIn, Cond.code yX13_roundIn cX13_roundIn 3 (some .int)]
theorem qt_992 : (Cond.methodLink RX7 57 yX7_doorOf) ∈ lw_tbl := List.mem_of_getElem? (i := 977) (by decide +kernel)
theorem qt_993 : (Cond.methodLink RX7 61 yX4_inFront) ∈ lw_tbl := List.mem_of_getElem? (i := 978) (by decide +kernel)
theorem qt_994 : (Cond.methodLink RX7 64 yX4_between) ∈ lw_tbl := List.mem_of_getElem? (i := 979) (by decide +kernel)
theorem qt_995 : (Cond.methodLink RL 86 yX13_way) ∈ lw_tbl := List.mem_of_getElem? (i := 1967) (by decide +kernel)
theorem qt_996 : (Cond.instanceMethod yX13_way) ∈ lw_tbl := List.mem_of_getElem? (i := 1968) (by decide +kernel)
theorem qt_997 : (Cond.selects RX13 yX13_way yX13_way) ∈ lw_tbl := List.mem_of_getElem? (i := 1969) (by decide +kernel)
theorem qt_998 : (Cond.code yX13_way cX13_way 3 (some .int)) ∈ lw_tbl := List.mem_of_getElem? (i := 1970) (by decide +kernel)
theorem qt_999 : (Cond.methodLink RX13 552 yX13_wayTo) ∈ lw_tbl := List.mem_of_getElem? (i := 1971) (by decide +kernel)
theorem qt_1000 : (Cond.static yX13_wayTo) ∈ lw_tbl := List.mem_of_getElem? (i := 1972) (by decide +kernel)
theorem qt_1001 : (Cond.code yX13_wayTo cX13_wayTo 4 (some .int)) ∈ lw_tbl := List.mem_of_getElem? (i := 1973) (by decide +kernel)
theorem qt_1002 : (Cond.methodLink RX13 468 yX13_plainWay) ∈ lw_tbl := List.mem_of_getElem? (i := 1974) (by decide +kernel)
theorem qt_1003 : (Cond.static yX13_plainWay) ∈ lw_tbl := List.mem_of_getElem? (i := 1975) (by decide +kernel)
theorem qt_1004 : (Cond.code yX13_plainWay cX13_plainWay 5 (some .int)) ∈ lw_tbl := List.mem_of_getElem? (i := 1976) (by decide +kernel)
theorem qt_1005 : (Cond.methodLink RX13 464 yX13_roundIn) ∈ lw_tbl := List.mem_of_getElem? (i := 1977) (by decide +kernel)
theorem qt_1006 : (Cond.static yX13_roundIn) ∈ lw_tbl := List.mem_of_getElem? (i := 1978) (by decide +kernel)
theorem qt_1007 : (Cond.code yX13_roundIn cX13_roundIn 3 (some .int)) ∈ lw_tbl := List.mem_of_getElem? (i := 1979) (by decide +kernel)
theorem WLr_62 : ∀ w ∈ WL_62, w ∈ lw_tbl := List.forall_mem_cons.mpr ⟨qt_992, List.forall_mem_cons.mpr ⟨qt_993, List.forall_mem_cons.mpr ⟨qt_994, List.forall_mem_cons.mpr ⟨qt_995, List.forall_mem_cons.mpr ⟨qt_996, List.forall_mem_cons.mpr ⟨qt_997, List.forall_mem_cons.mpr ⟨qt_998, List.forall_mem_cons.mpr ⟨qt_999, List.forall_mem_cons.mpr ⟨qt_1000, List.forall_mem_cons.mpr ⟨qt_1001, List.forall_mem_cons.mpr ⟨qt_1002, List.forall_mem_cons.mpr ⟨qt_1003, List.forall_mem_cons.mpr ⟨qt_1004, List.forall_mem_cons.mpr ⟨qt_1005, List.forall_mem_cons.mpr ⟨qt_1006, List.forall_mem_cons.mpr ⟨qt_1007, fun _ h => absurd h List.not_mem_nil⟩⟩⟩⟩⟩⟩⟩⟩⟩⟩⟩⟩⟩⟩⟩⟩
def WL_63 : List Cond := [Cond.methodLink RL 87 yX11_through, Cond.instanceMethod yX11_through, Cond.selects RX11 yX11_through yX11_through, Cond.code yX11_through cX11_through 3 (some .int), Cond.methodLink RX11 223 yX0_cheapest, Cond.instanceMethod yX0_cheapest, Cond.selects RX0 yX0_cheapest yX0_cheapest, Cond.code yX0_cheapest cX0_cheapest 9 (some .int), Cond.fieldLink RX0 18 "YearSkins$State" "counts" "[I", Cond.methodLink RX0 39 Lib.Math.min.name, Cond.static Lib.Math.min.name, Cond.code Lib.Math.min.name Lib.Math.min.code 2 (some .int), Cond.methodLink RX0 23 yX0_empty, Cond.static yX0_empty, Cond.code yX0_empty cX0_empty 2 none, Cond.constant RX0 56 (1000000)]
theorem qt_1008 : (Cond.methodLink RL 87 yX11_through) ∈ lw_tbl := List.mem_of_getElem? (i := 980) (by decide +kernel)
theorem qt_1009 : (Cond.instanceMethod yX11_through) ∈ lw_tbl := List.mem_of_getElem? (i := 981) (by decide +kernel)
theorem qt_1010 : (Cond.selects RX11 yX11_through yX11_through) ∈ lw_tbl := List.mem_of_getElem? (i := 982) (by decide +kernel)
theorem qt_1011 : (Cond.code yX11_through cX11_through 3 (some .int)) ∈ lw_tbl := List.mem_of_getElem? (i := 983) (by decide +kernel)
theorem qt_1012 : (Cond.methodLink RX11 223 yX0_cheapest) ∈ lw_tbl := List.mem_of_getElem? (i := 984) (by decide +kernel)
theorem qt_1013 : (Cond.instanceMethod yX0_cheapest) ∈ lw_tbl := List.mem_of_getElem? (i := 985) (by decide +kernel)
theorem qt_1014 : (Cond.selects RX0 yX0_cheapest yX0_cheapest) ∈ lw_tbl := List.mem_of_getElem? (i := 986) (by decide +kernel)
theorem qt_1015 : (Cond.code yX0_cheapest cX0_cheapest 9 (some .int)) ∈ lw_tbl := List.mem_of_getElem? (i := 987) (by decide +kernel)
theorem qt_1016 : (Cond.fieldLink RX0 18 "YearSkins$State" "counts" "[I") ∈ lw_tbl := List.mem_of_getElem? (i := 268) (by decide +kernel)
theorem qt_1017 : (Cond.methodLink RX0 39 Lib.Math.min.name) ∈ lw_tbl := List.mem_of_getElem? (i := 1004) (by decide +kernel)
theorem qt_1018 : (Cond.static Lib.Math.min.name) ∈ lw_tbl := List.mem_of_getElem? (i := 1005) (by decide +kernel)
theorem qt_1019 : (Cond.code Lib.Math.min.name Lib.Math.min.code 2 (some .int)) ∈ lw_tbl := List.mem_of_getElem? (i := 1006) (by decide +kernel)
theorem qt_1020 : (Cond.methodLink RX0 23 yX0_empty) ∈ lw_tbl := List.mem_of_getElem? (i := 988) (by decide +kernel)
theorem qt_1021 : (Cond.static yX0_empty) ∈ lw_tbl := List.mem_of_getElem? (i := 989) (by decide +kernel)
theorem qt_1022 : (Cond.code yX0_empty cX0_empty 2 none) ∈ lw_tbl := List.mem_of_getElem? (i := 990) (by decide +kernel)
theorem qt_1023 : (Cond.constant RX0 56 (1000000)) ∈ lw_tbl := List.mem_of_getElem? (i := 991) (by decide +kernel)
theorem WLr_63 : ∀ w ∈ WL_63, w ∈ lw_tbl := List.forall_mem_cons.mpr ⟨qt_1008, List.forall_mem_cons.mpr ⟨qt_1009, List.forall_mem_cons.mpr ⟨qt_1010, List.forall_mem_cons.mpr ⟨qt_1011, List.forall_mem_cons.mpr ⟨qt_1012, List.forall_mem_cons.mpr ⟨qt_1013, List.forall_mem_cons.mpr ⟨qt_1014, List.forall_mem_cons.mpr ⟨qt_1015, List.forall_mem_cons.mpr ⟨qt_1016, List.forall_mem_cons.mpr ⟨qt_1017, List.forall_mem_cons.mpr ⟨qt_1018, List.forall_mem_cons.mpr ⟨qt_1019, List.forall_mem_cons.mpr ⟨qt_1020, List.forall_mem_cons.mpr ⟨qt_1021, List.forall_mem_cons.mpr ⟨qt_1022, List.forall_mem_cons.mpr ⟨qt_1023, fun _ h => absurd h List.not_mem_nil⟩⟩⟩⟩⟩⟩⟩⟩⟩⟩⟩⟩⟩⟩⟩⟩
def WL_64 : List Cond := [Cond.methodLink RX0 27 yX7_doorOf, Cond.methodLink RX0 31 yX0_byDoor, Cond.static yX0_byDoor, Cond.code yX0_byDoor cX0_byDoor 3 (some .int), Cond.methodLink RX0 57 yX7_stands, Cond.methodLink RX0 61 yX7_isOpen, Cond.methodLink RX0 64 yX7_partOf, Cond.methodLink RX0 35 yX0_byWall, Cond.static yX0_byWall, Cond.code yX0_byWall cX0_byWall 5 (some .int), Cond.methodLink RX0 73 Lib.Math.max.name, Cond.methodLink RX0 68 yX1_stonePart, Cond.methodLink RX0 44 yX0_goRound, Cond.instanceMethod yX0_goRound, Cond.selects RX0 yX0_goRound yX0_goRound, Cond.code yX0_goRound cX0_goRound 5 none]
theorem qt_1024 : (Cond.methodLink RX0 27 yX7_doorOf) ∈ lw_tbl := List.mem_of_getElem? (i := 992) (by decide +kernel)
theorem qt_1025 : (Cond.methodLink RX0 31 yX0_byDoor) ∈ lw_tbl := List.mem_of_getElem? (i := 993) (by decide +kernel)
theorem qt_1026 : (Cond.static yX0_byDoor) ∈ lw_tbl := List.mem_of_getElem? (i := 994) (by decide +kernel)
theorem qt_1027 : (Cond.code yX0_byDoor cX0_byDoor 3 (some .int)) ∈ lw_tbl := List.mem_of_getElem? (i := 995) (by decide +kernel)
theorem qt_1028 : (Cond.methodLink RX0 57 yX7_stands) ∈ lw_tbl := List.mem_of_getElem? (i := 996) (by decide +kernel)
theorem qt_1029 : (Cond.methodLink RX0 61 yX7_isOpen) ∈ lw_tbl := List.mem_of_getElem? (i := 997) (by decide +kernel)
theorem qt_1030 : (Cond.methodLink RX0 64 yX7_partOf) ∈ lw_tbl := List.mem_of_getElem? (i := 998) (by decide +kernel)
theorem qt_1031 : (Cond.methodLink RX0 35 yX0_byWall) ∈ lw_tbl := List.mem_of_getElem? (i := 999) (by decide +kernel)
theorem qt_1032 : (Cond.static yX0_byWall) ∈ lw_tbl := List.mem_of_getElem? (i := 1000) (by decide +kernel)
theorem qt_1033 : (Cond.code yX0_byWall cX0_byWall 5 (some .int)) ∈ lw_tbl := List.mem_of_getElem? (i := 1001) (by decide +kernel)
theorem qt_1034 : (Cond.methodLink RX0 73 Lib.Math.max.name) ∈ lw_tbl := List.mem_of_getElem? (i := 1003) (by decide +kernel)
theorem qt_1035 : (Cond.methodLink RX0 68 yX1_stonePart) ∈ lw_tbl := List.mem_of_getElem? (i := 1002) (by decide +kernel)
theorem qt_1036 : (Cond.methodLink RX0 44 yX0_goRound) ∈ lw_tbl := List.mem_of_getElem? (i := 1007) (by decide +kernel)
theorem qt_1037 : (Cond.instanceMethod yX0_goRound) ∈ lw_tbl := List.mem_of_getElem? (i := 1009) (by decide +kernel)
theorem qt_1038 : (Cond.selects RX0 yX0_goRound yX0_goRound) ∈ lw_tbl := List.mem_of_getElem? (i := 35) (by decide +kernel)
theorem qt_1039 : (Cond.code yX0_goRound cX0_goRound 5 none) ∈ lw_tbl := List.mem_of_getElem? (i := 1010) (by decide +kernel)
theorem WLr_64 : ∀ w ∈ WL_64, w ∈ lw_tbl := List.forall_mem_cons.mpr ⟨qt_1024, List.forall_mem_cons.mpr ⟨qt_1025, List.forall_mem_cons.mpr ⟨qt_1026, List.forall_mem_cons.mpr ⟨qt_1027, List.forall_mem_cons.mpr ⟨qt_1028, List.forall_mem_cons.mpr ⟨qt_1029, List.forall_mem_cons.mpr ⟨qt_1030, List.forall_mem_cons.mpr ⟨qt_1031, List.forall_mem_cons.mpr ⟨qt_1032, List.forall_mem_cons.mpr ⟨qt_1033, List.forall_mem_cons.mpr ⟨qt_1034, List.forall_mem_cons.mpr ⟨qt_1035, List.forall_mem_cons.mpr ⟨qt_1036, List.forall_mem_cons.mpr ⟨qt_1037, List.forall_mem_cons.mpr ⟨qt_1038, List.forall_mem_cons.mpr ⟨qt_1039, fun _ h => absurd h List.not_mem_nil⟩⟩⟩⟩⟩⟩⟩⟩⟩⟩⟩⟩⟩⟩⟩⟩
def WL_65 : List Cond := [Cond.methodLink RX0 48 yX0_goIn, Cond.instanceMethod yX0_goIn, Cond.selects RX0 yX0_goIn yX0_goIn, Cond.code yX0_goIn cX0_goIn 10 none, Cond.methodLink RX0 76 yX4_inFront, Cond.methodLink RX0 81 yX4_isCorner, Cond.static yX4_isCorner, Cond.code yX4_isCorner cX4_isCorner 2 (some .boolean), Cond.methodLink RX0 52 yX0_least, Cond.instanceMethod yX0_least, Cond.selects RX0 yX0_least yX0_least, Cond.code yX0_least cX0_least 4 (some .int), Cond.methodLink RL 90 yX13_through, Cond.instanceMethod yX13_through, Cond.selects RX13 yX13_through yX13_through, Cond.code yX13_through cX13_through 3 (some .int)]
theorem qt_1040 : (Cond.methodLink RX0 48 yX0_goIn) ∈ lw_tbl := List.mem_of_getElem? (i := 1011) (by decide +kernel)
theorem qt_1041 : (Cond.instanceMethod yX0_goIn) ∈ lw_tbl := List.mem_of_getElem? (i := 1013) (by decide +kernel)
theorem qt_1042 : (Cond.selects RX0 yX0_goIn yX0_goIn) ∈ lw_tbl := List.mem_of_getElem? (i := 36) (by decide +kernel)
theorem qt_1043 : (Cond.code yX0_goIn cX0_goIn 10 none) ∈ lw_tbl := List.mem_of_getElem? (i := 1014) (by decide +kernel)
theorem qt_1044 : (Cond.methodLink RX0 76 yX4_inFront) ∈ lw_tbl := List.mem_of_getElem? (i := 1015) (by decide +kernel)
theorem qt_1045 : (Cond.methodLink RX0 81 yX4_isCorner) ∈ lw_tbl := List.mem_of_getElem? (i := 1016) (by decide +kernel)
theorem qt_1046 : (Cond.static yX4_isCorner) ∈ lw_tbl := List.mem_of_getElem? (i := 1017) (by decide +kernel)
theorem qt_1047 : (Cond.code yX4_isCorner cX4_isCorner 2 (some .boolean)) ∈ lw_tbl := List.mem_of_getElem? (i := 1018) (by decide +kernel)
theorem qt_1048 : (Cond.methodLink RX0 52 yX0_least) ∈ lw_tbl := List.mem_of_getElem? (i := 1019) (by decide +kernel)
theorem qt_1049 : (Cond.instanceMethod yX0_least) ∈ lw_tbl := List.mem_of_getElem? (i := 1021) (by decide +kernel)
theorem qt_1050 : (Cond.selects RX0 yX0_least yX0_least) ∈ lw_tbl := List.mem_of_getElem? (i := 37) (by decide +kernel)
theorem qt_1051 : (Cond.code yX0_least cX0_least 4 (some .int)) ∈ lw_tbl := List.mem_of_getElem? (i := 1022) (by decide +kernel)
theorem qt_1052 : (Cond.methodLink RL 90 yX13_through) ∈ lw_tbl := List.mem_of_getElem? (i := 1980) (by decide +kernel)
theorem qt_1053 : (Cond.instanceMethod yX13_through) ∈ lw_tbl := List.mem_of_getElem? (i := 1981) (by decide +kernel)
theorem qt_1054 : (Cond.selects RX13 yX13_through yX13_through) ∈ lw_tbl := List.mem_of_getElem? (i := 1982) (by decide +kernel)
theorem qt_1055 : (Cond.code yX13_through cX13_through 3 (some .int)) ∈ lw_tbl := List.mem_of_getElem? (i := 1983) (by decide +kernel)
theorem WLr_65 : ∀ w ∈ WL_65, w ∈ lw_tbl := List.forall_mem_cons.mpr ⟨qt_1040, List.forall_mem_cons.mpr ⟨qt_1041, List.forall_mem_cons.mpr ⟨qt_1042, List.forall_mem_cons.mpr ⟨qt_1043, List.forall_mem_cons.mpr ⟨qt_1044, List.forall_mem_cons.mpr ⟨qt_1045, List.forall_mem_cons.mpr ⟨qt_1046, List.forall_mem_cons.mpr ⟨qt_1047, List.forall_mem_cons.mpr ⟨qt_1048, List.forall_mem_cons.mpr ⟨qt_1049, List.forall_mem_cons.mpr ⟨qt_1050, List.forall_mem_cons.mpr ⟨qt_1051, List.forall_mem_cons.mpr ⟨qt_1052, List.forall_mem_cons.mpr ⟨qt_1053, List.forall_mem_cons.mpr ⟨qt_1054, List.forall_mem_cons.mpr ⟨qt_1055, fun _ h => absurd h List.not_mem_nil⟩⟩⟩⟩⟩⟩⟩⟩⟩⟩⟩⟩⟩⟩⟩⟩
def WL_66 : List Cond := [Cond.methodLink RX13 562 yX13_throughTo, Cond.instanceMethod yX13_throughTo, Cond.selects RX13 yX13_throughTo yX13_throughTo, Cond.code yX13_throughTo cX13_throughTo 9 (some .int), Cond.constant RX13 555 (100000), Cond.methodLink RX13 556 yX13_entry, Cond.instanceMethod yX13_entry, Cond.selects RX13 yX13_entry yX13_entry, Cond.code yX13_entry cX13_entry 6 (some .int), Cond.methodLink RX13 487 yX13_least, Cond.static yX13_least, Cond.code yX13_least cX13_least 2 (some .int), Cond.methodLink RX13 559 yX13_inFront, Cond.static yX13_inFront, Cond.code yX13_inFront cX13_inFront 2 (some .int), Cond.methodLink RL 91 yX11_breaks]
theorem qt_1056 : (Cond.methodLink RX13 562 yX13_throughTo) ∈ lw_tbl := List.mem_of_getElem? (i := 1984) (by decide +kernel)
theorem qt_1057 : (Cond.instanceMethod yX13_throughTo) ∈ lw_tbl := List.mem_of_getElem? (i := 1986) (by decide +kernel)
theorem qt_1058 : (Cond.selects RX13 yX13_throughTo yX13_throughTo) ∈ lw_tbl := List.mem_of_getElem? (i := 92) (by decide +kernel)
theorem qt_1059 : (Cond.code yX13_throughTo cX13_throughTo 9 (some .int)) ∈ lw_tbl := List.mem_of_getElem? (i := 1987) (by decide +kernel)
theorem qt_1060 : (Cond.constant RX13 555 (100000)) ∈ lw_tbl := List.mem_of_getElem? (i := 1988) (by decide +kernel)
theorem qt_1061 : (Cond.methodLink RX13 556 yX13_entry) ∈ lw_tbl := List.mem_of_getElem? (i := 1989) (by decide +kernel)
theorem qt_1062 : (Cond.instanceMethod yX13_entry) ∈ lw_tbl := List.mem_of_getElem? (i := 1991) (by decide +kernel)
theorem qt_1063 : (Cond.selects RX13 yX13_entry yX13_entry) ∈ lw_tbl := List.mem_of_getElem? (i := 93) (by decide +kernel)
theorem qt_1064 : (Cond.code yX13_entry cX13_entry 6 (some .int)) ∈ lw_tbl := List.mem_of_getElem? (i := 1992) (by decide +kernel)
theorem qt_1065 : (Cond.methodLink RX13 487 yX13_least) ∈ lw_tbl := List.mem_of_getElem? (i := 1993) (by decide +kernel)
theorem qt_1066 : (Cond.static yX13_least) ∈ lw_tbl := List.mem_of_getElem? (i := 1994) (by decide +kernel)
theorem qt_1067 : (Cond.code yX13_least cX13_least 2 (some .int)) ∈ lw_tbl := List.mem_of_getElem? (i := 1995) (by decide +kernel)
theorem qt_1068 : (Cond.methodLink RX13 559 yX13_inFront) ∈ lw_tbl := List.mem_of_getElem? (i := 1996) (by decide +kernel)
theorem qt_1069 : (Cond.static yX13_inFront) ∈ lw_tbl := List.mem_of_getElem? (i := 1997) (by decide +kernel)
theorem qt_1070 : (Cond.code yX13_inFront cX13_inFront 2 (some .int)) ∈ lw_tbl := List.mem_of_getElem? (i := 1998) (by decide +kernel)
theorem qt_1071 : (Cond.methodLink RL 91 yX11_breaks) ∈ lw_tbl := List.mem_of_getElem? (i := 1023) (by decide +kernel)
theorem WLr_66 : ∀ w ∈ WL_66, w ∈ lw_tbl := List.forall_mem_cons.mpr ⟨qt_1056, List.forall_mem_cons.mpr ⟨qt_1057, List.forall_mem_cons.mpr ⟨qt_1058, List.forall_mem_cons.mpr ⟨qt_1059, List.forall_mem_cons.mpr ⟨qt_1060, List.forall_mem_cons.mpr ⟨qt_1061, List.forall_mem_cons.mpr ⟨qt_1062, List.forall_mem_cons.mpr ⟨qt_1063, List.forall_mem_cons.mpr ⟨qt_1064, List.forall_mem_cons.mpr ⟨qt_1065, List.forall_mem_cons.mpr ⟨qt_1066, List.forall_mem_cons.mpr ⟨qt_1067, List.forall_mem_cons.mpr ⟨qt_1068, List.forall_mem_cons.mpr ⟨qt_1069, List.forall_mem_cons.mpr ⟨qt_1070, List.forall_mem_cons.mpr ⟨qt_1071, fun _ h => absurd h List.not_mem_nil⟩⟩⟩⟩⟩⟩⟩⟩⟩⟩⟩⟩⟩⟩⟩⟩
def WL_67 : List Cond := [Cond.instanceMethod yX11_breaks, Cond.selects RX11 yX11_breaks yX11_breaks, Cond.code yX11_breaks cX11_breaks 3 (some .int), Cond.methodLink RL 94 yX13_breaks, Cond.instanceMethod yX13_breaks, Cond.selects RX13 yX13_breaks yX13_breaks, Cond.code yX13_breaks cX13_breaks 3 (some .int), Cond.methodLink RL 95 yX11_round, Cond.instanceMethod yX11_round, Cond.selects RX11 yX11_round yX11_round, Cond.code yX11_round cX11_round 3 (some .int), Cond.methodLink RX11 226 yX7_roundIn, Cond.methodLink RL 98 yX13_round, Cond.instanceMethod yX13_round, Cond.selects RX13 yX13_round yX13_round, Cond.code yX13_round cX13_round 3 (some .int)]
theorem qt_1072 : (Cond.instanceMethod yX11_breaks) ∈ lw_tbl := List.mem_of_getElem? (i := 1024) (by decide +kernel)
theorem qt_1073 : (Cond.selects RX11 yX11_breaks yX11_breaks) ∈ lw_tbl := List.mem_of_getElem? (i := 1025) (by decide +kernel)
theorem qt_1074 : (Cond.code yX11_breaks cX11_breaks 3 (some .int)) ∈ lw_tbl := List.mem_of_getElem? (i := 1026) (by decide +kernel)
theorem qt_1075 : (Cond.methodLink RL 94 yX13_breaks) ∈ lw_tbl := List.mem_of_getElem? (i := 1999) (by decide +kernel)
theorem qt_1076 : (Cond.instanceMethod yX13_breaks) ∈ lw_tbl := List.mem_of_getElem? (i := 2000) (by decide +kernel)
theorem qt_1077 : (Cond.selects RX13 yX13_breaks yX13_breaks) ∈ lw_tbl := List.mem_of_getElem? (i := 2001) (by decide +kernel)
theorem qt_1078 : (Cond.code yX13_breaks cX13_breaks 3 (some .int)) ∈ lw_tbl := List.mem_of_getElem? (i := 2002) (by decide +kernel)
theorem qt_1079 : (Cond.methodLink RL 95 yX11_round) ∈ lw_tbl := List.mem_of_getElem? (i := 1027) (by decide +kernel)
theorem qt_1080 : (Cond.instanceMethod yX11_round) ∈ lw_tbl := List.mem_of_getElem? (i := 1028) (by decide +kernel)
theorem qt_1081 : (Cond.selects RX11 yX11_round yX11_round) ∈ lw_tbl := List.mem_of_getElem? (i := 1029) (by decide +kernel)
theorem qt_1082 : (Cond.code yX11_round cX11_round 3 (some .int)) ∈ lw_tbl := List.mem_of_getElem? (i := 1030) (by decide +kernel)
theorem qt_1083 : (Cond.methodLink RX11 226 yX7_roundIn) ∈ lw_tbl := List.mem_of_getElem? (i := 1031) (by decide +kernel)
theorem qt_1084 : (Cond.methodLink RL 98 yX13_round) ∈ lw_tbl := List.mem_of_getElem? (i := 2003) (by decide +kernel)
theorem qt_1085 : (Cond.instanceMethod yX13_round) ∈ lw_tbl := List.mem_of_getElem? (i := 2004) (by decide +kernel)
theorem qt_1086 : (Cond.selects RX13 yX13_round yX13_round) ∈ lw_tbl := List.mem_of_getElem? (i := 2005) (by decide +kernel)
theorem qt_1087 : (Cond.code yX13_round cX13_round 3 (some .int)) ∈ lw_tbl := List.mem_of_getElem? (i := 2006) (by decide +kernel)
theorem WLr_67 : ∀ w ∈ WL_67, w ∈ lw_tbl := List.forall_mem_cons.mpr ⟨qt_1072, List.forall_mem_cons.mpr ⟨qt_1073, List.forall_mem_cons.mpr ⟨qt_1074, List.forall_mem_cons.mpr ⟨qt_1075, List.forall_mem_cons.mpr ⟨qt_1076, List.forall_mem_cons.mpr ⟨qt_1077, List.forall_mem_cons.mpr ⟨qt_1078, List.forall_mem_cons.mpr ⟨qt_1079, List.forall_mem_cons.mpr ⟨qt_1080, List.forall_mem_cons.mpr ⟨qt_1081, List.forall_mem_cons.mpr ⟨qt_1082, List.forall_mem_cons.mpr ⟨qt_1083, List.forall_mem_cons.mpr ⟨qt_1084, List.forall_mem_cons.mpr ⟨qt_1085, List.forall_mem_cons.mpr ⟨qt_1086, List.forall_mem_cons.mpr ⟨qt_1087, fun _ h => absurd h List.not_mem_nil⟩⟩⟩⟩⟩⟩⟩⟩⟩⟩⟩⟩⟩⟩⟩⟩
def WL_68 : List Cond := [Cond.methodLink RL 99 yX11_in, Cond.instanceMethod yX11_in, Cond.selects RX11 yX11_in yX11_in, Cond.code yX11_in cX11_in 4 (some .int), Cond.methodLink RX11 229 yX11_goTo, Cond.instanceMethod yX11_goTo, Cond.selects RX11 yX11_goTo yX11_goTo, Cond.code yX11_goTo cX11_goTo 3 none, Cond.fieldLink RX11 235 "YearSkins" "BY_NUMBERS" "[I", Cond.methodLink RX11 238 yX10_pass, Cond.static yX10_pass, Cond.code yX10_pass cX10_pass 5 none, Cond.fieldLink RX10 18 "YearSkins$Land" "houses" "I", Cond.fieldLink RX10 24 "YearSkins$State" "families" "[I", Cond.fieldLink RX10 36 "YearSkins$State" "year" "I", Cond.methodLink RX10 29 yX10_liveOn]
theorem qt_1088 : (Cond.methodLink RL 99 yX11_in) ∈ lw_tbl := List.mem_of_getElem? (i := 1032) (by decide +kernel)
theorem qt_1089 : (Cond.instanceMethod yX11_in) ∈ lw_tbl := List.mem_of_getElem? (i := 1033) (by decide +kernel)
theorem qt_1090 : (Cond.selects RX11 yX11_in yX11_in) ∈ lw_tbl := List.mem_of_getElem? (i := 1034) (by decide +kernel)
theorem qt_1091 : (Cond.code yX11_in cX11_in 4 (some .int)) ∈ lw_tbl := List.mem_of_getElem? (i := 1035) (by decide +kernel)
theorem qt_1092 : (Cond.methodLink RX11 229 yX11_goTo) ∈ lw_tbl := List.mem_of_getElem? (i := 1036) (by decide +kernel)
theorem qt_1093 : (Cond.instanceMethod yX11_goTo) ∈ lw_tbl := List.mem_of_getElem? (i := 1038) (by decide +kernel)
theorem qt_1094 : (Cond.selects RX11 yX11_goTo yX11_goTo) ∈ lw_tbl := List.mem_of_getElem? (i := 38) (by decide +kernel)
theorem qt_1095 : (Cond.code yX11_goTo cX11_goTo 3 none) ∈ lw_tbl := List.mem_of_getElem? (i := 1039) (by decide +kernel)
theorem qt_1096 : (Cond.fieldLink RX11 235 "YearSkins" "BY_NUMBERS" "[I") ∈ lw_tbl := List.mem_of_getElem? (i := 1040) (by decide +kernel)
theorem qt_1097 : (Cond.methodLink RX11 238 yX10_pass) ∈ lw_tbl := List.mem_of_getElem? (i := 1042) (by decide +kernel)
theorem qt_1098 : (Cond.static yX10_pass) ∈ lw_tbl := List.mem_of_getElem? (i := 1043) (by decide +kernel)
theorem qt_1099 : (Cond.code yX10_pass cX10_pass 5 none) ∈ lw_tbl := List.mem_of_getElem? (i := 1044) (by decide +kernel)
theorem qt_1100 : (Cond.fieldLink RX10 18 "YearSkins$Land" "houses" "I") ∈ lw_tbl := List.mem_of_getElem? (i := 176) (by decide +kernel)
theorem qt_1101 : (Cond.fieldLink RX10 24 "YearSkins$State" "families" "[I") ∈ lw_tbl := List.mem_of_getElem? (i := 274) (by decide +kernel)
theorem qt_1102 : (Cond.fieldLink RX10 36 "YearSkins$State" "year" "I") ∈ lw_tbl := List.mem_of_getElem? (i := 262) (by decide +kernel)
theorem qt_1103 : (Cond.methodLink RX10 29 yX10_liveOn) ∈ lw_tbl := List.mem_of_getElem? (i := 1045) (by decide +kernel)
theorem WLr_68 : ∀ w ∈ WL_68, w ∈ lw_tbl := List.forall_mem_cons.mpr ⟨qt_1088, List.forall_mem_cons.mpr ⟨qt_1089, List.forall_mem_cons.mpr ⟨qt_1090, List.forall_mem_cons.mpr ⟨qt_1091, List.forall_mem_cons.mpr ⟨qt_1092, List.forall_mem_cons.mpr ⟨qt_1093, List.forall_mem_cons.mpr ⟨qt_1094, List.forall_mem_cons.mpr ⟨qt_1095, List.forall_mem_cons.mpr ⟨qt_1096, List.forall_mem_cons.mpr ⟨qt_1097, List.forall_mem_cons.mpr ⟨qt_1098, List.forall_mem_cons.mpr ⟨qt_1099, List.forall_mem_cons.mpr ⟨qt_1100, List.forall_mem_cons.mpr ⟨qt_1101, List.forall_mem_cons.mpr ⟨qt_1102, List.forall_mem_cons.mpr ⟨qt_1103, fun _ h => absurd h List.not_mem_nil⟩⟩⟩⟩⟩⟩⟩⟩⟩⟩⟩⟩⟩⟩⟩⟩
def WL_69 : List Cond := [Cond.static yX10_liveOn, Cond.code yX10_liveOn cX10_liveOn 3 none, Cond.fieldLink RX10 39 "YearSkins$State" "golds" "[I", Cond.fieldLink RX10 42 "YearSkins$Land" "earns" "I", Cond.methodLink RX10 45 Lib.Math.min.name, Cond.fieldLink RX10 55 "YearSkins$Land" "births" "I", Cond.fieldLink RX10 61 "YearSkins$Land" "fire" "I", Cond.methodLink RX10 51 yX7_draw, Cond.instanceMethod yX7_draw, Cond.selects RX7 yX7_draw yX7_draw, Cond.code yX7_draw cX7_draw 1 (some .int), Cond.constant RX7 73 (65537), Cond.methodLink RX10 58 yX10_rotAll, Cond.static yX10_rotAll, Cond.code yX10_rotAll cX10_rotAll 6 none, Cond.fieldLink RX10 67 "YearSkins$State" "counts" "[I"]
theorem qt_1104 : (Cond.static yX10_liveOn) ∈ lw_tbl := List.mem_of_getElem? (i := 1046) (by decide +kernel)
theorem qt_1105 : (Cond.code yX10_liveOn cX10_liveOn 3 none) ∈ lw_tbl := List.mem_of_getElem? (i := 1047) (by decide +kernel)
theorem qt_1106 : (Cond.fieldLink RX10 39 "YearSkins$State" "golds" "[I") ∈ lw_tbl := List.mem_of_getElem? (i := 278) (by decide +kernel)
theorem qt_1107 : (Cond.fieldLink RX10 42 "YearSkins$Land" "earns" "I") ∈ lw_tbl := List.mem_of_getElem? (i := 169) (by decide +kernel)
theorem qt_1108 : (Cond.methodLink RX10 45 Lib.Math.min.name) ∈ lw_tbl := List.mem_of_getElem? (i := 1048) (by decide +kernel)
theorem qt_1109 : (Cond.fieldLink RX10 55 "YearSkins$Land" "births" "I") ∈ lw_tbl := List.mem_of_getElem? (i := 165) (by decide +kernel)
theorem qt_1110 : (Cond.fieldLink RX10 61 "YearSkins$Land" "fire" "I") ∈ lw_tbl := List.mem_of_getElem? (i := 167) (by decide +kernel)
theorem qt_1111 : (Cond.methodLink RX10 51 yX7_draw) ∈ lw_tbl := List.mem_of_getElem? (i := 1049) (by decide +kernel)
theorem qt_1112 : (Cond.instanceMethod yX7_draw) ∈ lw_tbl := List.mem_of_getElem? (i := 1050) (by decide +kernel)
theorem qt_1113 : (Cond.selects RX7 yX7_draw yX7_draw) ∈ lw_tbl := List.mem_of_getElem? (i := 1051) (by decide +kernel)
theorem qt_1114 : (Cond.code yX7_draw cX7_draw 1 (some .int)) ∈ lw_tbl := List.mem_of_getElem? (i := 1052) (by decide +kernel)
theorem qt_1115 : (Cond.constant RX7 73 (65537)) ∈ lw_tbl := List.mem_of_getElem? (i := 1053) (by decide +kernel)
theorem qt_1116 : (Cond.methodLink RX10 58 yX10_rotAll) ∈ lw_tbl := List.mem_of_getElem? (i := 1054) (by decide +kernel)
theorem qt_1117 : (Cond.static yX10_rotAll) ∈ lw_tbl := List.mem_of_getElem? (i := 1055) (by decide +kernel)
theorem qt_1118 : (Cond.code yX10_rotAll cX10_rotAll 6 none) ∈ lw_tbl := List.mem_of_getElem? (i := 1056) (by decide +kernel)
theorem qt_1119 : (Cond.fieldLink RX10 67 "YearSkins$State" "counts" "[I") ∈ lw_tbl := List.mem_of_getElem? (i := 270) (by decide +kernel)
theorem WLr_69 : ∀ w ∈ WL_69, w ∈ lw_tbl := List.forall_mem_cons.mpr ⟨qt_1104, List.forall_mem_cons.mpr ⟨qt_1105, List.forall_mem_cons.mpr ⟨qt_1106, List.forall_mem_cons.mpr ⟨qt_1107, List.forall_mem_cons.mpr ⟨qt_1108, List.forall_mem_cons.mpr ⟨qt_1109, List.forall_mem_cons.mpr ⟨qt_1110, List.forall_mem_cons.mpr ⟨qt_1111, List.forall_mem_cons.mpr ⟨qt_1112, List.forall_mem_cons.mpr ⟨qt_1113, List.forall_mem_cons.mpr ⟨qt_1114, List.forall_mem_cons.mpr ⟨qt_1115, List.forall_mem_cons.mpr ⟨qt_1116, List.forall_mem_cons.mpr ⟨qt_1117, List.forall_mem_cons.mpr ⟨qt_1118, List.forall_mem_cons.mpr ⟨qt_1119, fun _ h => absurd h List.not_mem_nil⟩⟩⟩⟩⟩⟩⟩⟩⟩⟩⟩⟩⟩⟩⟩⟩
def WL_70 : List Cond := [Cond.methodLink RX10 70 yX7_isOpen, Cond.methodLink RX10 74 yX7_partOf, Cond.methodLink RX10 78 yX1_stonePart, Cond.methodLink RX10 81 yX7_stands, Cond.methodLink RX10 84 yX7_setPart, Cond.methodLink RX10 64 yX10_burn, Cond.static yX10_burn, Cond.code yX10_burn cX10_burn 5 none, Cond.methodLink RX10 33 yX10_grow, Cond.static yX10_grow, Cond.code yX10_grow cX10_grow 6 none, Cond.fieldLink RX10 88 "YearSkins$Land" "houseStone" "[I", Cond.methodLink RX10 91 yX6_priceOf, Cond.methodLink RX10 97 yX6_isFit, Cond.methodLink RX10 101 yX6_lawDoor, Cond.methodLink RX10 105 yX7_addSkin]
theorem qt_1120 : (Cond.methodLink RX10 70 yX7_isOpen) ∈ lw_tbl := List.mem_of_getElem? (i := 1057) (by decide +kernel)
theorem qt_1121 : (Cond.methodLink RX10 74 yX7_partOf) ∈ lw_tbl := List.mem_of_getElem? (i := 1058) (by decide +kernel)
theorem qt_1122 : (Cond.methodLink RX10 78 yX1_stonePart) ∈ lw_tbl := List.mem_of_getElem? (i := 1059) (by decide +kernel)
theorem qt_1123 : (Cond.methodLink RX10 81 yX7_stands) ∈ lw_tbl := List.mem_of_getElem? (i := 1060) (by decide +kernel)
theorem qt_1124 : (Cond.methodLink RX10 84 yX7_setPart) ∈ lw_tbl := List.mem_of_getElem? (i := 1061) (by decide +kernel)
theorem qt_1125 : (Cond.methodLink RX10 64 yX10_burn) ∈ lw_tbl := List.mem_of_getElem? (i := 1062) (by decide +kernel)
theorem qt_1126 : (Cond.static yX10_burn) ∈ lw_tbl := List.mem_of_getElem? (i := 1063) (by decide +kernel)
theorem qt_1127 : (Cond.code yX10_burn cX10_burn 5 none) ∈ lw_tbl := List.mem_of_getElem? (i := 1064) (by decide +kernel)
theorem qt_1128 : (Cond.methodLink RX10 33 yX10_grow) ∈ lw_tbl := List.mem_of_getElem? (i := 1065) (by decide +kernel)
theorem qt_1129 : (Cond.static yX10_grow) ∈ lw_tbl := List.mem_of_getElem? (i := 1066) (by decide +kernel)
theorem qt_1130 : (Cond.code yX10_grow cX10_grow 6 none) ∈ lw_tbl := List.mem_of_getElem? (i := 1067) (by decide +kernel)
theorem qt_1131 : (Cond.fieldLink RX10 88 "YearSkins$Land" "houseStone" "[I") ∈ lw_tbl := List.mem_of_getElem? (i := 190) (by decide +kernel)
theorem qt_1132 : (Cond.methodLink RX10 91 yX6_priceOf) ∈ lw_tbl := List.mem_of_getElem? (i := 1068) (by decide +kernel)
theorem qt_1133 : (Cond.methodLink RX10 97 yX6_isFit) ∈ lw_tbl := List.mem_of_getElem? (i := 1069) (by decide +kernel)
theorem qt_1134 : (Cond.methodLink RX10 101 yX6_lawDoor) ∈ lw_tbl := List.mem_of_getElem? (i := 1070) (by decide +kernel)
theorem qt_1135 : (Cond.methodLink RX10 105 yX7_addSkin) ∈ lw_tbl := List.mem_of_getElem? (i := 1071) (by decide +kernel)
theorem WLr_70 : ∀ w ∈ WL_70, w ∈ lw_tbl := List.forall_mem_cons.mpr ⟨qt_1120, List.forall_mem_cons.mpr ⟨qt_1121, List.forall_mem_cons.mpr ⟨qt_1122, List.forall_mem_cons.mpr ⟨qt_1123, List.forall_mem_cons.mpr ⟨qt_1124, List.forall_mem_cons.mpr ⟨qt_1125, List.forall_mem_cons.mpr ⟨qt_1126, List.forall_mem_cons.mpr ⟨qt_1127, List.forall_mem_cons.mpr ⟨qt_1128, List.forall_mem_cons.mpr ⟨qt_1129, List.forall_mem_cons.mpr ⟨qt_1130, List.forall_mem_cons.mpr ⟨qt_1131, List.forall_mem_cons.mpr ⟨qt_1132, List.forall_mem_cons.mpr ⟨qt_1133, List.forall_mem_cons.mpr ⟨qt_1134, List.forall_mem_cons.mpr ⟨qt_1135, fun _ h => absurd h List.not_mem_nil⟩⟩⟩⟩⟩⟩⟩⟩⟩⟩⟩⟩⟩⟩⟩⟩
def WL_71 : List Cond := [Cond.methodLink RX11 232 yX7_fallen, Cond.instanceMethod yX7_fallen, Cond.selects RX7 yX7_fallen yX7_fallen, Cond.code yX7_fallen cX7_fallen 4 (some .int), Cond.methodLink RL 102 yX13_in, Cond.instanceMethod yX13_in, Cond.selects RX13 yX13_in yX13_in, Cond.code yX13_in cX13_in 7 (some .int), Cond.methodLink RX13 565 yX13_refusesIn, Cond.instanceMethod yX13_refusesIn, Cond.selects RX13 yX13_refusesIn yX13_refusesIn, Cond.code yX13_refusesIn cX13_refusesIn 4 (some .int), Cond.methodLink RX13 569 yX13_inYears, Cond.instanceMethod yX13_inYears, Cond.selects RX13 yX13_inYears yX13_inYears, Cond.code yX13_inYears cX13_inYears 3 none]
theorem qt_1136 : (Cond.methodLink RX11 232 yX7_fallen) ∈ lw_tbl := List.mem_of_getElem? (i := 1072) (by decide +kernel)
theorem qt_1137 : (Cond.instanceMethod yX7_fallen) ∈ lw_tbl := List.mem_of_getElem? (i := 1073) (by decide +kernel)
theorem qt_1138 : (Cond.selects RX7 yX7_fallen yX7_fallen) ∈ lw_tbl := List.mem_of_getElem? (i := 1074) (by decide +kernel)
theorem qt_1139 : (Cond.code yX7_fallen cX7_fallen 4 (some .int)) ∈ lw_tbl := List.mem_of_getElem? (i := 1075) (by decide +kernel)
theorem qt_1140 : (Cond.methodLink RL 102 yX13_in) ∈ lw_tbl := List.mem_of_getElem? (i := 2007) (by decide +kernel)
theorem qt_1141 : (Cond.instanceMethod yX13_in) ∈ lw_tbl := List.mem_of_getElem? (i := 2008) (by decide +kernel)
theorem qt_1142 : (Cond.selects RX13 yX13_in yX13_in) ∈ lw_tbl := List.mem_of_getElem? (i := 2009) (by decide +kernel)
theorem qt_1143 : (Cond.code yX13_in cX13_in 7 (some .int)) ∈ lw_tbl := List.mem_of_getElem? (i := 2010) (by decide +kernel)
theorem qt_1144 : (Cond.methodLink RX13 565 yX13_refusesIn) ∈ lw_tbl := List.mem_of_getElem? (i := 2011) (by decide +kernel)
theorem qt_1145 : (Cond.instanceMethod yX13_refusesIn) ∈ lw_tbl := List.mem_of_getElem? (i := 2013) (by decide +kernel)
theorem qt_1146 : (Cond.selects RX13 yX13_refusesIn yX13_refusesIn) ∈ lw_tbl := List.mem_of_getElem? (i := 94) (by decide +kernel)
theorem qt_1147 : (Cond.code yX13_refusesIn cX13_refusesIn 4 (some .int)) ∈ lw_tbl := List.mem_of_getElem? (i := 2014) (by decide +kernel)
theorem qt_1148 : (Cond.methodLink RX13 569 yX13_inYears) ∈ lw_tbl := List.mem_of_getElem? (i := 2015) (by decide +kernel)
theorem qt_1149 : (Cond.instanceMethod yX13_inYears) ∈ lw_tbl := List.mem_of_getElem? (i := 2017) (by decide +kernel)
theorem qt_1150 : (Cond.selects RX13 yX13_inYears yX13_inYears) ∈ lw_tbl := List.mem_of_getElem? (i := 95) (by decide +kernel)
theorem qt_1151 : (Cond.code yX13_inYears cX13_inYears 3 none) ∈ lw_tbl := List.mem_of_getElem? (i := 2018) (by decide +kernel)
theorem WLr_71 : ∀ w ∈ WL_71, w ∈ lw_tbl := List.forall_mem_cons.mpr ⟨qt_1136, List.forall_mem_cons.mpr ⟨qt_1137, List.forall_mem_cons.mpr ⟨qt_1138, List.forall_mem_cons.mpr ⟨qt_1139, List.forall_mem_cons.mpr ⟨qt_1140, List.forall_mem_cons.mpr ⟨qt_1141, List.forall_mem_cons.mpr ⟨qt_1142, List.forall_mem_cons.mpr ⟨qt_1143, List.forall_mem_cons.mpr ⟨qt_1144, List.forall_mem_cons.mpr ⟨qt_1145, List.forall_mem_cons.mpr ⟨qt_1146, List.forall_mem_cons.mpr ⟨qt_1147, List.forall_mem_cons.mpr ⟨qt_1148, List.forall_mem_cons.mpr ⟨qt_1149, List.forall_mem_cons.mpr ⟨qt_1150, List.forall_mem_cons.mpr ⟨qt_1151, fun _ h => absurd h List.not_mem_nil⟩⟩⟩⟩⟩⟩⟩⟩⟩⟩⟩⟩⟩⟩⟩⟩
def WL_72 : List Cond := [Cond.methodLink RX13 508 yX13_copies, Cond.instanceMethod yX13_copies, Cond.selects RX13 yX13_copies yX13_copies, Cond.code yX13_copies cX13_copies 2 none, Cond.methodLink RX13 511 yX13_byNumbers, Cond.instanceMethod yX13_byNumbers, Cond.selects RX13 yX13_byNumbers yX13_byNumbers, Cond.code yX13_byNumbers cX13_byNumbers 2 none, Cond.methodLink RX13 514 yX13_goesBy, Cond.instanceMethod yX13_goesBy, Cond.selects RX13 yX13_goesBy yX13_goesBy, Cond.code yX13_goesBy cX13_goesBy 3 none, Cond.methodLink RX13 504 yX13_yearOf, Cond.instanceMethod yX13_yearOf, Cond.selects RX13 yX13_yearOf yX13_yearOf, Cond.code yX13_yearOf cX13_yearOf 4 none]
theorem qt_1152 : (Cond.methodLink RX13 508 yX13_copies) ∈ lw_tbl := List.mem_of_getElem? (i := 2019) (by decide +kernel)
theorem qt_1153 : (Cond.instanceMethod yX13_copies) ∈ lw_tbl := List.mem_of_getElem? (i := 2021) (by decide +kernel)
theorem qt_1154 : (Cond.selects RX13 yX13_copies yX13_copies) ∈ lw_tbl := List.mem_of_getElem? (i := 96) (by decide +kernel)
theorem qt_1155 : (Cond.code yX13_copies cX13_copies 2 none) ∈ lw_tbl := List.mem_of_getElem? (i := 2022) (by decide +kernel)
theorem qt_1156 : (Cond.methodLink RX13 511 yX13_byNumbers) ∈ lw_tbl := List.mem_of_getElem? (i := 2023) (by decide +kernel)
theorem qt_1157 : (Cond.instanceMethod yX13_byNumbers) ∈ lw_tbl := List.mem_of_getElem? (i := 2025) (by decide +kernel)
theorem qt_1158 : (Cond.selects RX13 yX13_byNumbers yX13_byNumbers) ∈ lw_tbl := List.mem_of_getElem? (i := 97) (by decide +kernel)
theorem qt_1159 : (Cond.code yX13_byNumbers cX13_byNumbers 2 none) ∈ lw_tbl := List.mem_of_getElem? (i := 2026) (by decide +kernel)
theorem qt_1160 : (Cond.methodLink RX13 514 yX13_goesBy) ∈ lw_tbl := List.mem_of_getElem? (i := 2027) (by decide +kernel)
theorem qt_1161 : (Cond.instanceMethod yX13_goesBy) ∈ lw_tbl := List.mem_of_getElem? (i := 2029) (by decide +kernel)
theorem qt_1162 : (Cond.selects RX13 yX13_goesBy yX13_goesBy) ∈ lw_tbl := List.mem_of_getElem? (i := 98) (by decide +kernel)
theorem qt_1163 : (Cond.code yX13_goesBy cX13_goesBy 3 none) ∈ lw_tbl := List.mem_of_getElem? (i := 2030) (by decide +kernel)
theorem qt_1164 : (Cond.methodLink RX13 504 yX13_yearOf) ∈ lw_tbl := List.mem_of_getElem? (i := 2031) (by decide +kernel)
theorem qt_1165 : (Cond.instanceMethod yX13_yearOf) ∈ lw_tbl := List.mem_of_getElem? (i := 2033) (by decide +kernel)
theorem qt_1166 : (Cond.selects RX13 yX13_yearOf yX13_yearOf) ∈ lw_tbl := List.mem_of_getElem? (i := 99) (by decide +kernel)
theorem qt_1167 : (Cond.code yX13_yearOf cX13_yearOf 4 none) ∈ lw_tbl := List.mem_of_getElem? (i := 2034) (by decide +kernel)
theorem WLr_72 : ∀ w ∈ WL_72, w ∈ lw_tbl := List.forall_mem_cons.mpr ⟨qt_1152, List.forall_mem_cons.mpr ⟨qt_1153, List.forall_mem_cons.mpr ⟨qt_1154, List.forall_mem_cons.mpr ⟨qt_1155, List.forall_mem_cons.mpr ⟨qt_1156, List.forall_mem_cons.mpr ⟨qt_1157, List.forall_mem_cons.mpr ⟨qt_1158, List.forall_mem_cons.mpr ⟨qt_1159, List.forall_mem_cons.mpr ⟨qt_1160, List.forall_mem_cons.mpr ⟨qt_1161, List.forall_mem_cons.mpr ⟨qt_1162, List.forall_mem_cons.mpr ⟨qt_1163, List.forall_mem_cons.mpr ⟨qt_1164, List.forall_mem_cons.mpr ⟨qt_1165, List.forall_mem_cons.mpr ⟨qt_1166, List.forall_mem_cons.mpr ⟨qt_1167, fun _ h => absurd h List.not_mem_nil⟩⟩⟩⟩⟩⟩⟩⟩⟩⟩⟩⟩⟩⟩⟩⟩
def WL_73 : List Cond := [Cond.methodLink RX13 490 yX13_drawn, Cond.static yX13_drawn, Cond.code yX13_drawn cX13_drawn 1 (some .int), Cond.constantLong RX13 481 (75), Cond.constantLong RX13 483 (74), Cond.constantLong RX13 485 (65537), Cond.methodLink RX13 494 yX13_rots, Cond.instanceMethod yX13_rots, Cond.selects RX13 yX13_rots yX13_rots, Cond.code yX13_rots cX13_rots 5 none, Cond.methodLink RL 103 yX11_skinsIn, Cond.instanceMethod yX11_skinsIn, Cond.selects RX11 yX11_skinsIn yX11_skinsIn, Cond.code yX11_skinsIn cX11_skinsIn 2 (some .int), Cond.methodLink RX11 242 yX7_skinsOfAll, Cond.instanceMethod yX7_skinsOfAll]
theorem qt_1168 : (Cond.methodLink RX13 490 yX13_drawn) ∈ lw_tbl := List.mem_of_getElem? (i := 2035) (by decide +kernel)
theorem qt_1169 : (Cond.static yX13_drawn) ∈ lw_tbl := List.mem_of_getElem? (i := 2036) (by decide +kernel)
theorem qt_1170 : (Cond.code yX13_drawn cX13_drawn 1 (some .int)) ∈ lw_tbl := List.mem_of_getElem? (i := 2037) (by decide +kernel)
theorem qt_1171 : (Cond.constantLong RX13 481 (75)) ∈ lw_tbl := List.mem_of_getElem? (i := 2038) (by decide +kernel)
theorem qt_1172 : (Cond.constantLong RX13 483 (74)) ∈ lw_tbl := List.mem_of_getElem? (i := 2039) (by decide +kernel)
theorem qt_1173 : (Cond.constantLong RX13 485 (65537)) ∈ lw_tbl := List.mem_of_getElem? (i := 2040) (by decide +kernel)
theorem qt_1174 : (Cond.methodLink RX13 494 yX13_rots) ∈ lw_tbl := List.mem_of_getElem? (i := 2041) (by decide +kernel)
theorem qt_1175 : (Cond.instanceMethod yX13_rots) ∈ lw_tbl := List.mem_of_getElem? (i := 2043) (by decide +kernel)
theorem qt_1176 : (Cond.selects RX13 yX13_rots yX13_rots) ∈ lw_tbl := List.mem_of_getElem? (i := 100) (by decide +kernel)
theorem qt_1177 : (Cond.code yX13_rots cX13_rots 5 none) ∈ lw_tbl := List.mem_of_getElem? (i := 2044) (by decide +kernel)
theorem qt_1178 : (Cond.methodLink RL 103 yX11_skinsIn) ∈ lw_tbl := List.mem_of_getElem? (i := 1076) (by decide +kernel)
theorem qt_1179 : (Cond.instanceMethod yX11_skinsIn) ∈ lw_tbl := List.mem_of_getElem? (i := 1077) (by decide +kernel)
theorem qt_1180 : (Cond.selects RX11 yX11_skinsIn yX11_skinsIn) ∈ lw_tbl := List.mem_of_getElem? (i := 1078) (by decide +kernel)
theorem qt_1181 : (Cond.code yX11_skinsIn cX11_skinsIn 2 (some .int)) ∈ lw_tbl := List.mem_of_getElem? (i := 1079) (by decide +kernel)
theorem qt_1182 : (Cond.methodLink RX11 242 yX7_skinsOfAll) ∈ lw_tbl := List.mem_of_getElem? (i := 1080) (by decide +kernel)
theorem qt_1183 : (Cond.instanceMethod yX7_skinsOfAll) ∈ lw_tbl := List.mem_of_getElem? (i := 1081) (by decide +kernel)
theorem WLr_73 : ∀ w ∈ WL_73, w ∈ lw_tbl := List.forall_mem_cons.mpr ⟨qt_1168, List.forall_mem_cons.mpr ⟨qt_1169, List.forall_mem_cons.mpr ⟨qt_1170, List.forall_mem_cons.mpr ⟨qt_1171, List.forall_mem_cons.mpr ⟨qt_1172, List.forall_mem_cons.mpr ⟨qt_1173, List.forall_mem_cons.mpr ⟨qt_1174, List.forall_mem_cons.mpr ⟨qt_1175, List.forall_mem_cons.mpr ⟨qt_1176, List.forall_mem_cons.mpr ⟨qt_1177, List.forall_mem_cons.mpr ⟨qt_1178, List.forall_mem_cons.mpr ⟨qt_1179, List.forall_mem_cons.mpr ⟨qt_1180, List.forall_mem_cons.mpr ⟨qt_1181, List.forall_mem_cons.mpr ⟨qt_1182, List.forall_mem_cons.mpr ⟨qt_1183, fun _ h => absurd h List.not_mem_nil⟩⟩⟩⟩⟩⟩⟩⟩⟩⟩⟩⟩⟩⟩⟩⟩
def WL_74 : List Cond := [Cond.selects RX7 yX7_skinsOfAll yX7_skinsOfAll, Cond.code yX7_skinsOfAll cX7_skinsOfAll 3 (some .int), Cond.methodLink RL 106 yX13_skinsIn, Cond.instanceMethod yX13_skinsIn, Cond.selects RX13 yX13_skinsIn yX13_skinsIn, Cond.code yX13_skinsIn cX13_skinsIn 3 (some .int), Cond.methodLink RX13 572 yX13_allSkins, Cond.static yX13_allSkins, Cond.code yX13_allSkins cX13_allSkins 3 (some .int), Cond.methodLink RL 107 yX11_meet, Cond.instanceMethod yX11_meet, Cond.selects RX11 yX11_meet yX11_meet, Cond.code yX11_meet cX11_meet 5 (some .int), Cond.methodLink RX11 246 yX6_isMet, Cond.static yX6_isMet, Cond.code yX6_isMet cX6_isMet 7 (some .boolean)]
theorem qt_1184 : (Cond.selects RX7 yX7_skinsOfAll yX7_skinsOfAll) ∈ lw_tbl := List.mem_of_getElem? (i := 1082) (by decide +kernel)
theorem qt_1185 : (Cond.code yX7_skinsOfAll cX7_skinsOfAll 3 (some .int)) ∈ lw_tbl := List.mem_of_getElem? (i := 1083) (by decide +kernel)
theorem qt_1186 : (Cond.methodLink RL 106 yX13_skinsIn) ∈ lw_tbl := List.mem_of_getElem? (i := 2045) (by decide +kernel)
theorem qt_1187 : (Cond.instanceMethod yX13_skinsIn) ∈ lw_tbl := List.mem_of_getElem? (i := 2046) (by decide +kernel)
theorem qt_1188 : (Cond.selects RX13 yX13_skinsIn yX13_skinsIn) ∈ lw_tbl := List.mem_of_getElem? (i := 2047) (by decide +kernel)
theorem qt_1189 : (Cond.code yX13_skinsIn cX13_skinsIn 3 (some .int)) ∈ lw_tbl := List.mem_of_getElem? (i := 2048) (by decide +kernel)
theorem qt_1190 : (Cond.methodLink RX13 572 yX13_allSkins) ∈ lw_tbl := List.mem_of_getElem? (i := 2049) (by decide +kernel)
theorem qt_1191 : (Cond.static yX13_allSkins) ∈ lw_tbl := List.mem_of_getElem? (i := 2050) (by decide +kernel)
theorem qt_1192 : (Cond.code yX13_allSkins cX13_allSkins 3 (some .int)) ∈ lw_tbl := List.mem_of_getElem? (i := 2051) (by decide +kernel)
theorem qt_1193 : (Cond.methodLink RL 107 yX11_meet) ∈ lw_tbl := List.mem_of_getElem? (i := 1084) (by decide +kernel)
theorem qt_1194 : (Cond.instanceMethod yX11_meet) ∈ lw_tbl := List.mem_of_getElem? (i := 1085) (by decide +kernel)
theorem qt_1195 : (Cond.selects RX11 yX11_meet yX11_meet) ∈ lw_tbl := List.mem_of_getElem? (i := 1086) (by decide +kernel)
theorem qt_1196 : (Cond.code yX11_meet cX11_meet 5 (some .int)) ∈ lw_tbl := List.mem_of_getElem? (i := 1087) (by decide +kernel)
theorem qt_1197 : (Cond.methodLink RX11 246 yX6_isMet) ∈ lw_tbl := List.mem_of_getElem? (i := 1088) (by decide +kernel)
theorem qt_1198 : (Cond.static yX6_isMet) ∈ lw_tbl := List.mem_of_getElem? (i := 1089) (by decide +kernel)
theorem qt_1199 : (Cond.code yX6_isMet cX6_isMet 7 (some .boolean)) ∈ lw_tbl := List.mem_of_getElem? (i := 1090) (by decide +kernel)
theorem WLr_74 : ∀ w ∈ WL_74, w ∈ lw_tbl := List.forall_mem_cons.mpr ⟨qt_1184, List.forall_mem_cons.mpr ⟨qt_1185, List.forall_mem_cons.mpr ⟨qt_1186, List.forall_mem_cons.mpr ⟨qt_1187, List.forall_mem_cons.mpr ⟨qt_1188, List.forall_mem_cons.mpr ⟨qt_1189, List.forall_mem_cons.mpr ⟨qt_1190, List.forall_mem_cons.mpr ⟨qt_1191, List.forall_mem_cons.mpr ⟨qt_1192, List.forall_mem_cons.mpr ⟨qt_1193, List.forall_mem_cons.mpr ⟨qt_1194, List.forall_mem_cons.mpr ⟨qt_1195, List.forall_mem_cons.mpr ⟨qt_1196, List.forall_mem_cons.mpr ⟨qt_1197, List.forall_mem_cons.mpr ⟨qt_1198, List.forall_mem_cons.mpr ⟨qt_1199, fun _ h => absurd h List.not_mem_nil⟩⟩⟩⟩⟩⟩⟩⟩⟩⟩⟩⟩⟩⟩⟩⟩
def WL_75 : List Cond := [Cond.methodLink RX6 89 Lib.Math.abs.name, Cond.static Lib.Math.abs.name, Cond.code Lib.Math.abs.name Lib.Math.abs.code 1 (some .int), Cond.methodLink RX6 95 Lib.Math.max.name, Cond.methodLink RX6 98 Lib.Math.min.name, Cond.methodLink RL 110 yX13_meet, Cond.instanceMethod yX13_meet, Cond.selects RX13 yX13_meet yX13_meet, Cond.code yX13_meet cX13_meet 6 (some .int), Cond.methodLink RX13 575 yX13_doMeet, Cond.instanceMethod yX13_doMeet, Cond.selects RX13 yX13_doMeet yX13_doMeet, Cond.code yX13_doMeet cX13_doMeet 8 (some .boolean), Cond.methodLink RL 111 yX11_falls, Cond.instanceMethod yX11_falls, Cond.selects RX11 yX11_falls yX11_falls]
theorem qt_1200 : (Cond.methodLink RX6 89 Lib.Math.abs.name) ∈ lw_tbl := List.mem_of_getElem? (i := 1091) (by decide +kernel)
theorem qt_1201 : (Cond.static Lib.Math.abs.name) ∈ lw_tbl := List.mem_of_getElem? (i := 1092) (by decide +kernel)
theorem qt_1202 : (Cond.code Lib.Math.abs.name Lib.Math.abs.code 1 (some .int)) ∈ lw_tbl := List.mem_of_getElem? (i := 1093) (by decide +kernel)
theorem qt_1203 : (Cond.methodLink RX6 95 Lib.Math.max.name) ∈ lw_tbl := List.mem_of_getElem? (i := 1094) (by decide +kernel)
theorem qt_1204 : (Cond.methodLink RX6 98 Lib.Math.min.name) ∈ lw_tbl := List.mem_of_getElem? (i := 1095) (by decide +kernel)
theorem qt_1205 : (Cond.methodLink RL 110 yX13_meet) ∈ lw_tbl := List.mem_of_getElem? (i := 2052) (by decide +kernel)
theorem qt_1206 : (Cond.instanceMethod yX13_meet) ∈ lw_tbl := List.mem_of_getElem? (i := 2053) (by decide +kernel)
theorem qt_1207 : (Cond.selects RX13 yX13_meet yX13_meet) ∈ lw_tbl := List.mem_of_getElem? (i := 2054) (by decide +kernel)
theorem qt_1208 : (Cond.code yX13_meet cX13_meet 6 (some .int)) ∈ lw_tbl := List.mem_of_getElem? (i := 2055) (by decide +kernel)
theorem qt_1209 : (Cond.methodLink RX13 575 yX13_doMeet) ∈ lw_tbl := List.mem_of_getElem? (i := 2056) (by decide +kernel)
theorem qt_1210 : (Cond.instanceMethod yX13_doMeet) ∈ lw_tbl := List.mem_of_getElem? (i := 2058) (by decide +kernel)
theorem qt_1211 : (Cond.selects RX13 yX13_doMeet yX13_doMeet) ∈ lw_tbl := List.mem_of_getElem? (i := 101) (by decide +kernel)
theorem qt_1212 : (Cond.code yX13_doMeet cX13_doMeet 8 (some .boolean)) ∈ lw_tbl := List.mem_of_getElem? (i := 2059) (by decide +kernel)
theorem qt_1213 : (Cond.methodLink RL 111 yX11_falls) ∈ lw_tbl := List.mem_of_getElem? (i := 1096) (by decide +kernel)
theorem qt_1214 : (Cond.instanceMethod yX11_falls) ∈ lw_tbl := List.mem_of_getElem? (i := 1097) (by decide +kernel)
theorem qt_1215 : (Cond.selects RX11 yX11_falls yX11_falls) ∈ lw_tbl := List.mem_of_getElem? (i := 1098) (by decide +kernel)
theorem WLr_75 : ∀ w ∈ WL_75, w ∈ lw_tbl := List.forall_mem_cons.mpr ⟨qt_1200, List.forall_mem_cons.mpr ⟨qt_1201, List.forall_mem_cons.mpr ⟨qt_1202, List.forall_mem_cons.mpr ⟨qt_1203, List.forall_mem_cons.mpr ⟨qt_1204, List.forall_mem_cons.mpr ⟨qt_1205, List.forall_mem_cons.mpr ⟨qt_1206, List.forall_mem_cons.mpr ⟨qt_1207, List.forall_mem_cons.mpr ⟨qt_1208, List.forall_mem_cons.mpr ⟨qt_1209, List.forall_mem_cons.mpr ⟨qt_1210, List.forall_mem_cons.mpr ⟨qt_1211, List.forall_mem_cons.mpr ⟨qt_1212, List.forall_mem_cons.mpr ⟨qt_1213, List.forall_mem_cons.mpr ⟨qt_1214, List.forall_mem_cons.mpr ⟨qt_1215, fun _ h => absurd h List.not_mem_nil⟩⟩⟩⟩⟩⟩⟩⟩⟩⟩⟩⟩⟩⟩⟩⟩
def WL_76 : List Cond := [Cond.code yX11_falls cX11_falls 5 (some .int), Cond.methodLink RL 114 yX13_falls, Cond.instanceMethod yX13_falls, Cond.selects RX13 yX13_falls yX13_falls, Cond.code yX13_falls cX13_falls 6 (some .int), Cond.methodLink RL 115 yX11_room, Cond.instanceMethod yX11_room, Cond.selects RX11 yX11_room yX11_room, Cond.code yX11_room cX11_room 5 (some .int), Cond.fieldLink RX11 249 "YearSkins$State" "year" "I", Cond.methodLink RX11 252 yX7_addSkin, Cond.methodLink RL 118 yX13_room, Cond.instanceMethod yX13_room, Cond.selects RX13 yX13_room yX13_room, Cond.code yX13_room cX13_room 3 (some .int), Cond.methodLink RL 119 yX11_first]
theorem qt_1216 : (Cond.code yX11_falls cX11_falls 5 (some .int)) ∈ lw_tbl := List.mem_of_getElem? (i := 1099) (by decide +kernel)
theorem qt_1217 : (Cond.methodLink RL 114 yX13_falls) ∈ lw_tbl := List.mem_of_getElem? (i := 2060) (by decide +kernel)
theorem qt_1218 : (Cond.instanceMethod yX13_falls) ∈ lw_tbl := List.mem_of_getElem? (i := 2061) (by decide +kernel)
theorem qt_1219 : (Cond.selects RX13 yX13_falls yX13_falls) ∈ lw_tbl := List.mem_of_getElem? (i := 2062) (by decide +kernel)
theorem qt_1220 : (Cond.code yX13_falls cX13_falls 6 (some .int)) ∈ lw_tbl := List.mem_of_getElem? (i := 2063) (by decide +kernel)
theorem qt_1221 : (Cond.methodLink RL 115 yX11_room) ∈ lw_tbl := List.mem_of_getElem? (i := 1100) (by decide +kernel)
theorem qt_1222 : (Cond.instanceMethod yX11_room) ∈ lw_tbl := List.mem_of_getElem? (i := 1101) (by decide +kernel)
theorem qt_1223 : (Cond.selects RX11 yX11_room yX11_room) ∈ lw_tbl := List.mem_of_getElem? (i := 1102) (by decide +kernel)
theorem qt_1224 : (Cond.code yX11_room cX11_room 5 (some .int)) ∈ lw_tbl := List.mem_of_getElem? (i := 1103) (by decide +kernel)
theorem qt_1225 : (Cond.fieldLink RX11 249 "YearSkins$State" "year" "I") ∈ lw_tbl := List.mem_of_getElem? (i := 264) (by decide +kernel)
theorem qt_1226 : (Cond.methodLink RX11 252 yX7_addSkin) ∈ lw_tbl := List.mem_of_getElem? (i := 1104) (by decide +kernel)
theorem qt_1227 : (Cond.methodLink RL 118 yX13_room) ∈ lw_tbl := List.mem_of_getElem? (i := 2064) (by decide +kernel)
theorem qt_1228 : (Cond.instanceMethod yX13_room) ∈ lw_tbl := List.mem_of_getElem? (i := 2065) (by decide +kernel)
theorem qt_1229 : (Cond.selects RX13 yX13_room yX13_room) ∈ lw_tbl := List.mem_of_getElem? (i := 2066) (by decide +kernel)
theorem qt_1230 : (Cond.code yX13_room cX13_room 3 (some .int)) ∈ lw_tbl := List.mem_of_getElem? (i := 2067) (by decide +kernel)
theorem qt_1231 : (Cond.methodLink RL 119 yX11_first) ∈ lw_tbl := List.mem_of_getElem? (i := 1105) (by decide +kernel)
theorem WLr_76 : ∀ w ∈ WL_76, w ∈ lw_tbl := List.forall_mem_cons.mpr ⟨qt_1216, List.forall_mem_cons.mpr ⟨qt_1217, List.forall_mem_cons.mpr ⟨qt_1218, List.forall_mem_cons.mpr ⟨qt_1219, List.forall_mem_cons.mpr ⟨qt_1220, List.forall_mem_cons.mpr ⟨qt_1221, List.forall_mem_cons.mpr ⟨qt_1222, List.forall_mem_cons.mpr ⟨qt_1223, List.forall_mem_cons.mpr ⟨qt_1224, List.forall_mem_cons.mpr ⟨qt_1225, List.forall_mem_cons.mpr ⟨qt_1226, List.forall_mem_cons.mpr ⟨qt_1227, List.forall_mem_cons.mpr ⟨qt_1228, List.forall_mem_cons.mpr ⟨qt_1229, List.forall_mem_cons.mpr ⟨qt_1230, List.forall_mem_cons.mpr ⟨qt_1231, fun _ h => absurd h List.not_mem_nil⟩⟩⟩⟩⟩⟩⟩⟩⟩⟩⟩⟩⟩⟩⟩⟩
def WL_77 : List Cond := [Cond.instanceMethod yX11_first, Cond.selects RX11 yX11_first yX11_first, Cond.code yX11_first cX11_first 2 (some .int), Cond.methodLink RX11 256 yX10_mostSkins, Cond.instanceMethod yX10_mostSkins, Cond.selects RX10 yX10_mostSkins yX10_mostSkins, Cond.code yX10_mostSkins cX10_mostSkins 8 (some .int), Cond.methodLink RX10 129 arraycopyName, Cond.methodLink RX10 109 yX5_begin, Cond.static yX5_begin, Cond.initialized RX5, Cond.code yX5_begin cX5_begin 3 none, Cond.methodLink RX10 118 yX7_copyFrom, Cond.methodLink RX10 122 yX10_pass, Cond.methodLink RX10 126 yX7_skinsOfAll, Cond.methodLink RX10 135 yX5_advance]
theorem qt_1232 : (Cond.instanceMethod yX11_first) ∈ lw_tbl := List.mem_of_getElem? (i := 1106) (by decide +kernel)
theorem qt_1233 : (Cond.selects RX11 yX11_first yX11_first) ∈ lw_tbl := List.mem_of_getElem? (i := 1107) (by decide +kernel)
theorem qt_1234 : (Cond.code yX11_first cX11_first 2 (some .int)) ∈ lw_tbl := List.mem_of_getElem? (i := 1108) (by decide +kernel)
theorem qt_1235 : (Cond.methodLink RX11 256 yX10_mostSkins) ∈ lw_tbl := List.mem_of_getElem? (i := 1109) (by decide +kernel)
theorem qt_1236 : (Cond.instanceMethod yX10_mostSkins) ∈ lw_tbl := List.mem_of_getElem? (i := 1110) (by decide +kernel)
theorem qt_1237 : (Cond.selects RX10 yX10_mostSkins yX10_mostSkins) ∈ lw_tbl := List.mem_of_getElem? (i := 1111) (by decide +kernel)
theorem qt_1238 : (Cond.code yX10_mostSkins cX10_mostSkins 8 (some .int)) ∈ lw_tbl := List.mem_of_getElem? (i := 1112) (by decide +kernel)
theorem qt_1239 : (Cond.methodLink RX10 129 arraycopyName) ∈ lw_tbl := List.mem_of_getElem? (i := 1121) (by decide +kernel)
theorem qt_1240 : (Cond.methodLink RX10 109 yX5_begin) ∈ lw_tbl := List.mem_of_getElem? (i := 1113) (by decide +kernel)
theorem qt_1241 : (Cond.static yX5_begin) ∈ lw_tbl := List.mem_of_getElem? (i := 1114) (by decide +kernel)
theorem qt_1242 : (Cond.initialized RX5) ∈ lw_tbl := List.mem_of_getElem? (i := 134) (by decide +kernel)
theorem qt_1243 : (Cond.code yX5_begin cX5_begin 3 none) ∈ lw_tbl := List.mem_of_getElem? (i := 1115) (by decide +kernel)
theorem qt_1244 : (Cond.methodLink RX10 118 yX7_copyFrom) ∈ lw_tbl := List.mem_of_getElem? (i := 1118) (by decide +kernel)
theorem qt_1245 : (Cond.methodLink RX10 122 yX10_pass) ∈ lw_tbl := List.mem_of_getElem? (i := 1119) (by decide +kernel)
theorem qt_1246 : (Cond.methodLink RX10 126 yX7_skinsOfAll) ∈ lw_tbl := List.mem_of_getElem? (i := 1120) (by decide +kernel)
theorem qt_1247 : (Cond.methodLink RX10 135 yX5_advance) ∈ lw_tbl := List.mem_of_getElem? (i := 1122) (by decide +kernel)
theorem WLr_77 : ∀ w ∈ WL_77, w ∈ lw_tbl := List.forall_mem_cons.mpr ⟨qt_1232, List.forall_mem_cons.mpr ⟨qt_1233, List.forall_mem_cons.mpr ⟨qt_1234, List.forall_mem_cons.mpr ⟨qt_1235, List.forall_mem_cons.mpr ⟨qt_1236, List.forall_mem_cons.mpr ⟨qt_1237, List.forall_mem_cons.mpr ⟨qt_1238, List.forall_mem_cons.mpr ⟨qt_1239, List.forall_mem_cons.mpr ⟨qt_1240, List.forall_mem_cons.mpr ⟨qt_1241, List.forall_mem_cons.mpr ⟨qt_1242, List.forall_mem_cons.mpr ⟨qt_1243, List.forall_mem_cons.mpr ⟨qt_1244, List.forall_mem_cons.mpr ⟨qt_1245, List.forall_mem_cons.mpr ⟨qt_1246, List.forall_mem_cons.mpr ⟨qt_1247, fun _ h => absurd h List.not_mem_nil⟩⟩⟩⟩⟩⟩⟩⟩⟩⟩⟩⟩⟩⟩⟩⟩
def WL_78 : List Cond := [Cond.static yX5_advance, Cond.code yX5_advance cX5_advance 6 none, Cond.methodLink RX5 7 yX5_swap, Cond.static yX5_swap, Cond.code yX5_swap cX5_swap 4 none, Cond.methodLink RL 122 yX13_first, Cond.instanceMethod yX13_first, Cond.selects RX13 yX13_first yX13_first, Cond.code yX13_first cX13_first 3 (some .int), Cond.fieldLink RX13 579 "YearSkinsModel" "firstMost" "I", Cond.methodLink RX13 588 yX13_findsFirst, Cond.instanceMethod yX13_findsFirst, Cond.selects RX13 yX13_findsFirst yX13_findsFirst, Cond.code yX13_findsFirst cX13_findsFirst 4 none, Cond.methodLink RX13 582 yX13_turns, Cond.static yX13_turns]
theorem qt_1248 : (Cond.static yX5_advance) ∈ lw_tbl := List.mem_of_getElem? (i := 1123) (by decide +kernel)
theorem qt_1249 : (Cond.code yX5_advance cX5_advance 6 none) ∈ lw_tbl := List.mem_of_getElem? (i := 1124) (by decide +kernel)
theorem qt_1250 : (Cond.methodLink RX5 7 yX5_swap) ∈ lw_tbl := List.mem_of_getElem? (i := 1125) (by decide +kernel)
theorem qt_1251 : (Cond.static yX5_swap) ∈ lw_tbl := List.mem_of_getElem? (i := 1126) (by decide +kernel)
theorem qt_1252 : (Cond.code yX5_swap cX5_swap 4 none) ∈ lw_tbl := List.mem_of_getElem? (i := 1127) (by decide +kernel)
theorem qt_1253 : (Cond.methodLink RL 122 yX13_first) ∈ lw_tbl := List.mem_of_getElem? (i := 2068) (by decide +kernel)
theorem qt_1254 : (Cond.instanceMethod yX13_first) ∈ lw_tbl := List.mem_of_getElem? (i := 2069) (by decide +kernel)
theorem qt_1255 : (Cond.selects RX13 yX13_first yX13_first) ∈ lw_tbl := List.mem_of_getElem? (i := 2070) (by decide +kernel)
theorem qt_1256 : (Cond.code yX13_first cX13_first 3 (some .int)) ∈ lw_tbl := List.mem_of_getElem? (i := 2071) (by decide +kernel)
theorem qt_1257 : (Cond.fieldLink RX13 579 "YearSkinsModel" "firstMost" "I") ∈ lw_tbl := List.mem_of_getElem? (i := 1402) (by decide +kernel)
theorem qt_1258 : (Cond.methodLink RX13 588 yX13_findsFirst) ∈ lw_tbl := List.mem_of_getElem? (i := 2072) (by decide +kernel)
theorem qt_1259 : (Cond.instanceMethod yX13_findsFirst) ∈ lw_tbl := List.mem_of_getElem? (i := 2074) (by decide +kernel)
theorem qt_1260 : (Cond.selects RX13 yX13_findsFirst yX13_findsFirst) ∈ lw_tbl := List.mem_of_getElem? (i := 102) (by decide +kernel)
theorem qt_1261 : (Cond.code yX13_findsFirst cX13_findsFirst 4 none) ∈ lw_tbl := List.mem_of_getElem? (i := 2075) (by decide +kernel)
theorem qt_1262 : (Cond.methodLink RX13 582 yX13_turns) ∈ lw_tbl := List.mem_of_getElem? (i := 2076) (by decide +kernel)
theorem qt_1263 : (Cond.static yX13_turns) ∈ lw_tbl := List.mem_of_getElem? (i := 2077) (by decide +kernel)
theorem WLr_78 : ∀ w ∈ WL_78, w ∈ lw_tbl := List.forall_mem_cons.mpr ⟨qt_1248, List.forall_mem_cons.mpr ⟨qt_1249, List.forall_mem_cons.mpr ⟨qt_1250, List.forall_mem_cons.mpr ⟨qt_1251, List.forall_mem_cons.mpr ⟨qt_1252, List.forall_mem_cons.mpr ⟨qt_1253, List.forall_mem_cons.mpr ⟨qt_1254, List.forall_mem_cons.mpr ⟨qt_1255, List.forall_mem_cons.mpr ⟨qt_1256, List.forall_mem_cons.mpr ⟨qt_1257, List.forall_mem_cons.mpr ⟨qt_1258, List.forall_mem_cons.mpr ⟨qt_1259, List.forall_mem_cons.mpr ⟨qt_1260, List.forall_mem_cons.mpr ⟨qt_1261, List.forall_mem_cons.mpr ⟨qt_1262, List.forall_mem_cons.mpr ⟨qt_1263, fun _ h => absurd h List.not_mem_nil⟩⟩⟩⟩⟩⟩⟩⟩⟩⟩⟩⟩⟩⟩⟩⟩
def WL_79 : List Cond := [Cond.code yX13_turns cX13_turns 6 (some .boolean), Cond.methodLink RX13 585 yX13_swaps, Cond.static yX13_swaps, Cond.code yX13_swaps cX13_swaps 4 none, Cond.methodLink RL 123 yX11_firstAt, Cond.instanceMethod yX11_firstAt, Cond.selects RX11 yX11_firstAt yX11_firstAt, Cond.code yX11_firstAt cX11_firstAt 3 (some .int), Cond.fieldLink RX11 260 "YearSkins$Years" "best" "[I", Cond.methodLink RL 126 yX13_firstAt, Cond.instanceMethod yX13_firstAt, Cond.selects RX13 yX13_firstAt yX13_firstAt, Cond.code yX13_firstAt cX13_firstAt 4 (some .int), Cond.methodLink RL 127 yX11_heads, Cond.instanceMethod yX11_heads, Cond.selects RX11 yX11_heads yX11_heads]
theorem qt_1264 : (Cond.code yX13_turns cX13_turns 6 (some .boolean)) ∈ lw_tbl := List.mem_of_getElem? (i := 2078) (by decide +kernel)
theorem qt_1265 : (Cond.methodLink RX13 585 yX13_swaps) ∈ lw_tbl := List.mem_of_getElem? (i := 2079) (by decide +kernel)
theorem qt_1266 : (Cond.static yX13_swaps) ∈ lw_tbl := List.mem_of_getElem? (i := 2080) (by decide +kernel)
theorem qt_1267 : (Cond.code yX13_swaps cX13_swaps 4 none) ∈ lw_tbl := List.mem_of_getElem? (i := 2081) (by decide +kernel)
theorem qt_1268 : (Cond.methodLink RL 123 yX11_firstAt) ∈ lw_tbl := List.mem_of_getElem? (i := 1128) (by decide +kernel)
theorem qt_1269 : (Cond.instanceMethod yX11_firstAt) ∈ lw_tbl := List.mem_of_getElem? (i := 1129) (by decide +kernel)
theorem qt_1270 : (Cond.selects RX11 yX11_firstAt yX11_firstAt) ∈ lw_tbl := List.mem_of_getElem? (i := 1130) (by decide +kernel)
theorem qt_1271 : (Cond.code yX11_firstAt cX11_firstAt 3 (some .int)) ∈ lw_tbl := List.mem_of_getElem? (i := 1131) (by decide +kernel)
theorem qt_1272 : (Cond.fieldLink RX11 260 "YearSkins$Years" "best" "[I") ∈ lw_tbl := List.mem_of_getElem? (i := 393) (by decide +kernel)
theorem qt_1273 : (Cond.methodLink RL 126 yX13_firstAt) ∈ lw_tbl := List.mem_of_getElem? (i := 2082) (by decide +kernel)
theorem qt_1274 : (Cond.instanceMethod yX13_firstAt) ∈ lw_tbl := List.mem_of_getElem? (i := 2083) (by decide +kernel)
theorem qt_1275 : (Cond.selects RX13 yX13_firstAt yX13_firstAt) ∈ lw_tbl := List.mem_of_getElem? (i := 2084) (by decide +kernel)
theorem qt_1276 : (Cond.code yX13_firstAt cX13_firstAt 4 (some .int)) ∈ lw_tbl := List.mem_of_getElem? (i := 2085) (by decide +kernel)
theorem qt_1277 : (Cond.methodLink RL 127 yX11_heads) ∈ lw_tbl := List.mem_of_getElem? (i := 1132) (by decide +kernel)
theorem qt_1278 : (Cond.instanceMethod yX11_heads) ∈ lw_tbl := List.mem_of_getElem? (i := 1133) (by decide +kernel)
theorem qt_1279 : (Cond.selects RX11 yX11_heads yX11_heads) ∈ lw_tbl := List.mem_of_getElem? (i := 1134) (by decide +kernel)
theorem WLr_79 : ∀ w ∈ WL_79, w ∈ lw_tbl := List.forall_mem_cons.mpr ⟨qt_1264, List.forall_mem_cons.mpr ⟨qt_1265, List.forall_mem_cons.mpr ⟨qt_1266, List.forall_mem_cons.mpr ⟨qt_1267, List.forall_mem_cons.mpr ⟨qt_1268, List.forall_mem_cons.mpr ⟨qt_1269, List.forall_mem_cons.mpr ⟨qt_1270, List.forall_mem_cons.mpr ⟨qt_1271, List.forall_mem_cons.mpr ⟨qt_1272, List.forall_mem_cons.mpr ⟨qt_1273, List.forall_mem_cons.mpr ⟨qt_1274, List.forall_mem_cons.mpr ⟨qt_1275, List.forall_mem_cons.mpr ⟨qt_1276, List.forall_mem_cons.mpr ⟨qt_1277, List.forall_mem_cons.mpr ⟨qt_1278, List.forall_mem_cons.mpr ⟨qt_1279, fun _ h => absurd h List.not_mem_nil⟩⟩⟩⟩⟩⟩⟩⟩⟩⟩⟩⟩⟩⟩⟩⟩
def WL_80 : List Cond := [Cond.code yX11_heads cX11_heads 5 (some .int), Cond.constant RX11 263 (65537), Cond.fieldLink RX11 264 "YearSkins$State" "seed" "I", Cond.methodLink RL 130 yX13_heads, Cond.instanceMethod yX13_heads, Cond.selects RX13 yX13_heads yX13_heads, Cond.code yX13_heads cX13_heads 6 (some .int), Cond.constant RX13 591 (65536), Cond.methodLink RL 131 yX11_takes, Cond.instanceMethod yX11_takes, Cond.selects RX11 yX11_takes yX11_takes, Cond.code yX11_takes cX11_takes 3 (some .int), Cond.methodLink RX11 267 yX7_inmost, Cond.instanceMethod yX7_inmost, Cond.selects RX7 yX7_inmost yX7_inmost, Cond.code yX7_inmost cX7_inmost 3 (some .int)]
theorem qt_1280 : (Cond.code yX11_heads cX11_heads 5 (some .int)) ∈ lw_tbl := List.mem_of_getElem? (i := 1135) (by decide +kernel)
theorem qt_1281 : (Cond.constant RX11 263 (65537)) ∈ lw_tbl := List.mem_of_getElem? (i := 1136) (by decide +kernel)
theorem qt_1282 : (Cond.fieldLink RX11 264 "YearSkins$State" "seed" "I") ∈ lw_tbl := List.mem_of_getElem? (i := 266) (by decide +kernel)
theorem qt_1283 : (Cond.methodLink RL 130 yX13_heads) ∈ lw_tbl := List.mem_of_getElem? (i := 2086) (by decide +kernel)
theorem qt_1284 : (Cond.instanceMethod yX13_heads) ∈ lw_tbl := List.mem_of_getElem? (i := 2087) (by decide +kernel)
theorem qt_1285 : (Cond.selects RX13 yX13_heads yX13_heads) ∈ lw_tbl := List.mem_of_getElem? (i := 2088) (by decide +kernel)
theorem qt_1286 : (Cond.code yX13_heads cX13_heads 6 (some .int)) ∈ lw_tbl := List.mem_of_getElem? (i := 2089) (by decide +kernel)
theorem qt_1287 : (Cond.constant RX13 591 (65536)) ∈ lw_tbl := List.mem_of_getElem? (i := 2090) (by decide +kernel)
theorem qt_1288 : (Cond.methodLink RL 131 yX11_takes) ∈ lw_tbl := List.mem_of_getElem? (i := 1137) (by decide +kernel)
theorem qt_1289 : (Cond.instanceMethod yX11_takes) ∈ lw_tbl := List.mem_of_getElem? (i := 1138) (by decide +kernel)
theorem qt_1290 : (Cond.selects RX11 yX11_takes yX11_takes) ∈ lw_tbl := List.mem_of_getElem? (i := 1139) (by decide +kernel)
theorem qt_1291 : (Cond.code yX11_takes cX11_takes 3 (some .int)) ∈ lw_tbl := List.mem_of_getElem? (i := 1140) (by decide +kernel)
theorem qt_1292 : (Cond.methodLink RX11 267 yX7_inmost) ∈ lw_tbl := List.mem_of_getElem? (i := 1141) (by decide +kernel)
theorem qt_1293 : (Cond.instanceMethod yX7_inmost) ∈ lw_tbl := List.mem_of_getElem? (i := 1142) (by decide +kernel)
theorem qt_1294 : (Cond.selects RX7 yX7_inmost yX7_inmost) ∈ lw_tbl := List.mem_of_getElem? (i := 1143) (by decide +kernel)
theorem qt_1295 : (Cond.code yX7_inmost cX7_inmost 3 (some .int)) ∈ lw_tbl := List.mem_of_getElem? (i := 1144) (by decide +kernel)
theorem WLr_80 : ∀ w ∈ WL_80, w ∈ lw_tbl := List.forall_mem_cons.mpr ⟨qt_1280, List.forall_mem_cons.mpr ⟨qt_1281, List.forall_mem_cons.mpr ⟨qt_1282, List.forall_mem_cons.mpr ⟨qt_1283, List.forall_mem_cons.mpr ⟨qt_1284, List.forall_mem_cons.mpr ⟨qt_1285, List.forall_mem_cons.mpr ⟨qt_1286, List.forall_mem_cons.mpr ⟨qt_1287, List.forall_mem_cons.mpr ⟨qt_1288, List.forall_mem_cons.mpr ⟨qt_1289, List.forall_mem_cons.mpr ⟨qt_1290, List.forall_mem_cons.mpr ⟨qt_1291, List.forall_mem_cons.mpr ⟨qt_1292, List.forall_mem_cons.mpr ⟨qt_1293, List.forall_mem_cons.mpr ⟨qt_1294, List.forall_mem_cons.mpr ⟨qt_1295, fun _ h => absurd h List.not_mem_nil⟩⟩⟩⟩⟩⟩⟩⟩⟩⟩⟩⟩⟩⟩⟩⟩
def WL_81 : List Cond := [Cond.methodLink RX11 270 yX11_goldIn, Cond.instanceMethod yX11_goldIn, Cond.selects RX11 yX11_goldIn yX11_goldIn, Cond.code yX11_goldIn cX11_goldIn 3 (some .int), Cond.methodLink RL 134 yX13_takes, Cond.instanceMethod yX13_takes, Cond.selects RX13 yX13_takes yX13_takes, Cond.code yX13_takes cX13_takes 2 (some .int), Cond.methodLink RX13 592 yX13_inmost, Cond.instanceMethod yX13_inmost, Cond.selects RX13 yX13_inmost yX13_inmost, Cond.code yX13_inmost cX13_inmost 3 (some .int), Cond.methodLink RX13 595 yX13_goldOf, Cond.instanceMethod yX13_goldOf, Cond.selects RX13 yX13_goldOf yX13_goldOf, Cond.code yX13_goldOf cX13_goldOf 3 (some .int)]
theorem qt_1296 : (Cond.methodLink RX11 270 yX11_goldIn) ∈ lw_tbl := List.mem_of_getElem? (i := 1145) (by decide +kernel)
theorem qt_1297 : (Cond.instanceMethod yX11_goldIn) ∈ lw_tbl := List.mem_of_getElem? (i := 1147) (by decide +kernel)
theorem qt_1298 : (Cond.selects RX11 yX11_goldIn yX11_goldIn) ∈ lw_tbl := List.mem_of_getElem? (i := 39) (by decide +kernel)
theorem qt_1299 : (Cond.code yX11_goldIn cX11_goldIn 3 (some .int)) ∈ lw_tbl := List.mem_of_getElem? (i := 1148) (by decide +kernel)
theorem qt_1300 : (Cond.methodLink RL 134 yX13_takes) ∈ lw_tbl := List.mem_of_getElem? (i := 2091) (by decide +kernel)
theorem qt_1301 : (Cond.instanceMethod yX13_takes) ∈ lw_tbl := List.mem_of_getElem? (i := 2092) (by decide +kernel)
theorem qt_1302 : (Cond.selects RX13 yX13_takes yX13_takes) ∈ lw_tbl := List.mem_of_getElem? (i := 2093) (by decide +kernel)
theorem qt_1303 : (Cond.code yX13_takes cX13_takes 2 (some .int)) ∈ lw_tbl := List.mem_of_getElem? (i := 2094) (by decide +kernel)
theorem qt_1304 : (Cond.methodLink RX13 592 yX13_inmost) ∈ lw_tbl := List.mem_of_getElem? (i := 2095) (by decide +kernel)
theorem qt_1305 : (Cond.instanceMethod yX13_inmost) ∈ lw_tbl := List.mem_of_getElem? (i := 2097) (by decide +kernel)
theorem qt_1306 : (Cond.selects RX13 yX13_inmost yX13_inmost) ∈ lw_tbl := List.mem_of_getElem? (i := 103) (by decide +kernel)
theorem qt_1307 : (Cond.code yX13_inmost cX13_inmost 3 (some .int)) ∈ lw_tbl := List.mem_of_getElem? (i := 2098) (by decide +kernel)
theorem qt_1308 : (Cond.methodLink RX13 595 yX13_goldOf) ∈ lw_tbl := List.mem_of_getElem? (i := 2099) (by decide +kernel)
theorem qt_1309 : (Cond.instanceMethod yX13_goldOf) ∈ lw_tbl := List.mem_of_getElem? (i := 2101) (by decide +kernel)
theorem qt_1310 : (Cond.selects RX13 yX13_goldOf yX13_goldOf) ∈ lw_tbl := List.mem_of_getElem? (i := 104) (by decide +kernel)
theorem qt_1311 : (Cond.code yX13_goldOf cX13_goldOf 3 (some .int)) ∈ lw_tbl := List.mem_of_getElem? (i := 2102) (by decide +kernel)
theorem WLr_81 : ∀ w ∈ WL_81, w ∈ lw_tbl := List.forall_mem_cons.mpr ⟨qt_1296, List.forall_mem_cons.mpr ⟨qt_1297, List.forall_mem_cons.mpr ⟨qt_1298, List.forall_mem_cons.mpr ⟨qt_1299, List.forall_mem_cons.mpr ⟨qt_1300, List.forall_mem_cons.mpr ⟨qt_1301, List.forall_mem_cons.mpr ⟨qt_1302, List.forall_mem_cons.mpr ⟨qt_1303, List.forall_mem_cons.mpr ⟨qt_1304, List.forall_mem_cons.mpr ⟨qt_1305, List.forall_mem_cons.mpr ⟨qt_1306, List.forall_mem_cons.mpr ⟨qt_1307, List.forall_mem_cons.mpr ⟨qt_1308, List.forall_mem_cons.mpr ⟨qt_1309, List.forall_mem_cons.mpr ⟨qt_1310, List.forall_mem_cons.mpr ⟨qt_1311, fun _ h => absurd h List.not_mem_nil⟩⟩⟩⟩⟩⟩⟩⟩⟩⟩⟩⟩⟩⟩⟩⟩
def WL_82 : List Cond := [Cond.methodLink RL 135 yX11_worth, Cond.instanceMethod yX11_worth, Cond.selects RX11 yX11_worth yX11_worth, Cond.code yX11_worth cX11_worth 4 (some .int), Cond.methodLink RX11 273 yX11_isLivedIn, Cond.instanceMethod yX11_isLivedIn, Cond.selects RX11 yX11_isLivedIn yX11_isLivedIn, Cond.code yX11_isLivedIn cX11_isLivedIn 4 (some .boolean), Cond.methodLink RL 138 yX13_worth, Cond.instanceMethod yX13_worth, Cond.selects RX13 yX13_worth yX13_worth, Cond.code yX13_worth cX13_worth 4 (some .int), Cond.methodLink RX13 598 yX13_isLivedIn, Cond.instanceMethod yX13_isLivedIn, Cond.selects RX13 yX13_isLivedIn yX13_isLivedIn, Cond.code yX13_isLivedIn cX13_isLivedIn 4 (some .boolean)]
theorem qt_1312 : (Cond.methodLink RL 135 yX11_worth) ∈ lw_tbl := List.mem_of_getElem? (i := 1149) (by decide +kernel)
theorem qt_1313 : (Cond.instanceMethod yX11_worth) ∈ lw_tbl := List.mem_of_getElem? (i := 1150) (by decide +kernel)
theorem qt_1314 : (Cond.selects RX11 yX11_worth yX11_worth) ∈ lw_tbl := List.mem_of_getElem? (i := 1151) (by decide +kernel)
theorem qt_1315 : (Cond.code yX11_worth cX11_worth 4 (some .int)) ∈ lw_tbl := List.mem_of_getElem? (i := 1152) (by decide +kernel)
theorem qt_1316 : (Cond.methodLink RX11 273 yX11_isLivedIn) ∈ lw_tbl := List.mem_of_getElem? (i := 1153) (by decide +kernel)
theorem qt_1317 : (Cond.instanceMethod yX11_isLivedIn) ∈ lw_tbl := List.mem_of_getElem? (i := 1155) (by decide +kernel)
theorem qt_1318 : (Cond.selects RX11 yX11_isLivedIn yX11_isLivedIn) ∈ lw_tbl := List.mem_of_getElem? (i := 40) (by decide +kernel)
theorem qt_1319 : (Cond.code yX11_isLivedIn cX11_isLivedIn 4 (some .boolean)) ∈ lw_tbl := List.mem_of_getElem? (i := 1156) (by decide +kernel)
theorem qt_1320 : (Cond.methodLink RL 138 yX13_worth) ∈ lw_tbl := List.mem_of_getElem? (i := 2103) (by decide +kernel)
theorem qt_1321 : (Cond.instanceMethod yX13_worth) ∈ lw_tbl := List.mem_of_getElem? (i := 2104) (by decide +kernel)
theorem qt_1322 : (Cond.selects RX13 yX13_worth yX13_worth) ∈ lw_tbl := List.mem_of_getElem? (i := 2105) (by decide +kernel)
theorem qt_1323 : (Cond.code yX13_worth cX13_worth 4 (some .int)) ∈ lw_tbl := List.mem_of_getElem? (i := 2106) (by decide +kernel)
theorem qt_1324 : (Cond.methodLink RX13 598 yX13_isLivedIn) ∈ lw_tbl := List.mem_of_getElem? (i := 2107) (by decide +kernel)
theorem qt_1325 : (Cond.instanceMethod yX13_isLivedIn) ∈ lw_tbl := List.mem_of_getElem? (i := 2109) (by decide +kernel)
theorem qt_1326 : (Cond.selects RX13 yX13_isLivedIn yX13_isLivedIn) ∈ lw_tbl := List.mem_of_getElem? (i := 105) (by decide +kernel)
theorem qt_1327 : (Cond.code yX13_isLivedIn cX13_isLivedIn 4 (some .boolean)) ∈ lw_tbl := List.mem_of_getElem? (i := 2110) (by decide +kernel)
theorem WLr_82 : ∀ w ∈ WL_82, w ∈ lw_tbl := List.forall_mem_cons.mpr ⟨qt_1312, List.forall_mem_cons.mpr ⟨qt_1313, List.forall_mem_cons.mpr ⟨qt_1314, List.forall_mem_cons.mpr ⟨qt_1315, List.forall_mem_cons.mpr ⟨qt_1316, List.forall_mem_cons.mpr ⟨qt_1317, List.forall_mem_cons.mpr ⟨qt_1318, List.forall_mem_cons.mpr ⟨qt_1319, List.forall_mem_cons.mpr ⟨qt_1320, List.forall_mem_cons.mpr ⟨qt_1321, List.forall_mem_cons.mpr ⟨qt_1322, List.forall_mem_cons.mpr ⟨qt_1323, List.forall_mem_cons.mpr ⟨qt_1324, List.forall_mem_cons.mpr ⟨qt_1325, List.forall_mem_cons.mpr ⟨qt_1326, List.forall_mem_cons.mpr ⟨qt_1327, fun _ h => absurd h List.not_mem_nil⟩⟩⟩⟩⟩⟩⟩⟩⟩⟩⟩⟩⟩⟩⟩⟩
def WL_83 : List Cond := [Cond.methodLink RL 139 yX11_orders, Cond.instanceMethod yX11_orders, Cond.selects RX11 yX11_orders yX11_orders, Cond.code yX11_orders cX11_orders 1 (some .int), Cond.fieldLink RX11 280 "YearSkins$WallOrders" "count" "I", Cond.methodLink RX11 276 yX9_lookAtAll, Cond.instanceMethod yX9_lookAtAll, Cond.selects RX9 yX9_lookAtAll yX9_lookAtAll, Cond.code yX9_lookAtAll cX9_lookAtAll 4 none, Cond.fieldLink RX9 27 "YearSkins$WallOrders" "count" "I", Cond.fieldLink RX9 31 "YearSkins$Land" "walls" "I", Cond.methodLink RX9 36 yX5_begin, Cond.methodLink RX9 45 yX9_canBe, Cond.instanceMethod yX9_canBe, Cond.selects RX9 yX9_canBe yX9_canBe, Cond.code yX9_canBe cX9_canBe 8 (some .boolean)]
theorem qt_1328 : (Cond.methodLink RL 139 yX11_orders) ∈ lw_tbl := List.mem_of_getElem? (i := 1157) (by decide +kernel)
theorem qt_1329 : (Cond.instanceMethod yX11_orders) ∈ lw_tbl := List.mem_of_getElem? (i := 1158) (by decide +kernel)
theorem qt_1330 : (Cond.selects RX11 yX11_orders yX11_orders) ∈ lw_tbl := List.mem_of_getElem? (i := 1159) (by decide +kernel)
theorem qt_1331 : (Cond.code yX11_orders cX11_orders 1 (some .int)) ∈ lw_tbl := List.mem_of_getElem? (i := 1160) (by decide +kernel)
theorem qt_1332 : (Cond.fieldLink RX11 280 "YearSkins$WallOrders" "count" "I") ∈ lw_tbl := List.mem_of_getElem? (i := 421) (by decide +kernel)
theorem qt_1333 : (Cond.methodLink RX11 276 yX9_lookAtAll) ∈ lw_tbl := List.mem_of_getElem? (i := 1161) (by decide +kernel)
theorem qt_1334 : (Cond.instanceMethod yX9_lookAtAll) ∈ lw_tbl := List.mem_of_getElem? (i := 1162) (by decide +kernel)
theorem qt_1335 : (Cond.selects RX9 yX9_lookAtAll yX9_lookAtAll) ∈ lw_tbl := List.mem_of_getElem? (i := 1163) (by decide +kernel)
theorem qt_1336 : (Cond.code yX9_lookAtAll cX9_lookAtAll 4 none) ∈ lw_tbl := List.mem_of_getElem? (i := 1164) (by decide +kernel)
theorem qt_1337 : (Cond.fieldLink RX9 27 "YearSkins$WallOrders" "count" "I") ∈ lw_tbl := List.mem_of_getElem? (i := 420) (by decide +kernel)
theorem qt_1338 : (Cond.fieldLink RX9 31 "YearSkins$Land" "walls" "I") ∈ lw_tbl := List.mem_of_getElem? (i := 200) (by decide +kernel)
theorem qt_1339 : (Cond.methodLink RX9 36 yX5_begin) ∈ lw_tbl := List.mem_of_getElem? (i := 1165) (by decide +kernel)
theorem qt_1340 : (Cond.methodLink RX9 45 yX9_canBe) ∈ lw_tbl := List.mem_of_getElem? (i := 1167) (by decide +kernel)
theorem qt_1341 : (Cond.instanceMethod yX9_canBe) ∈ lw_tbl := List.mem_of_getElem? (i := 1169) (by decide +kernel)
theorem qt_1342 : (Cond.selects RX9 yX9_canBe yX9_canBe) ∈ lw_tbl := List.mem_of_getElem? (i := 41) (by decide +kernel)
theorem qt_1343 : (Cond.code yX9_canBe cX9_canBe 8 (some .boolean)) ∈ lw_tbl := List.mem_of_getElem? (i := 1170) (by decide +kernel)
theorem WLr_83 : ∀ w ∈ WL_83, w ∈ lw_tbl := List.forall_mem_cons.mpr ⟨qt_1328, List.forall_mem_cons.mpr ⟨qt_1329, List.forall_mem_cons.mpr ⟨qt_1330, List.forall_mem_cons.mpr ⟨qt_1331, List.forall_mem_cons.mpr ⟨qt_1332, List.forall_mem_cons.mpr ⟨qt_1333, List.forall_mem_cons.mpr ⟨qt_1334, List.forall_mem_cons.mpr ⟨qt_1335, List.forall_mem_cons.mpr ⟨qt_1336, List.forall_mem_cons.mpr ⟨qt_1337, List.forall_mem_cons.mpr ⟨qt_1338, List.forall_mem_cons.mpr ⟨qt_1339, List.forall_mem_cons.mpr ⟨qt_1340, List.forall_mem_cons.mpr ⟨qt_1341, List.forall_mem_cons.mpr ⟨qt_1342, List.forall_mem_cons.mpr ⟨qt_1343, fun _ h => absurd h List.not_mem_nil⟩⟩⟩⟩⟩⟩⟩⟩⟩⟩⟩⟩⟩⟩⟩⟩
def WL_84 : List Cond := [Cond.fieldLink RX9 56 "YearSkins$Land" "needs" "[I", Cond.fieldLink RX9 59 "YearSkins$Land" "coins" "[I", Cond.methodLink RX9 62 Lib.Math.max.name, Cond.methodLink RX9 68 yX9_lastFor, Cond.static yX9_lastFor, Cond.code yX9_lastFor cX9_lastFor 4 (some .int), Cond.fieldLink RX9 72 "YearSkins$Land" "smells" "[I", Cond.methodLink RX9 75 Lib.Math.min.name, Cond.methodLink RX9 49 yX9_noteRow, Cond.instanceMethod yX9_noteRow, Cond.selects RX9 yX9_noteRow yX9_noteRow, Cond.code yX9_noteRow cX9_noteRow 7 none, Cond.methodLink RX9 53 yX5_advance, Cond.methodLink RL 142 yX13_orders, Cond.instanceMethod yX13_orders, Cond.selects RX13 yX13_orders yX13_orders]
theorem qt_1344 : (Cond.fieldLink RX9 56 "YearSkins$Land" "needs" "[I") ∈ lw_tbl := List.mem_of_getElem? (i := 204) (by decide +kernel)
theorem qt_1345 : (Cond.fieldLink RX9 59 "YearSkins$Land" "coins" "[I") ∈ lw_tbl := List.mem_of_getElem? (i := 207) (by decide +kernel)
theorem qt_1346 : (Cond.methodLink RX9 62 Lib.Math.max.name) ∈ lw_tbl := List.mem_of_getElem? (i := 1171) (by decide +kernel)
theorem qt_1347 : (Cond.methodLink RX9 68 yX9_lastFor) ∈ lw_tbl := List.mem_of_getElem? (i := 1172) (by decide +kernel)
theorem qt_1348 : (Cond.static yX9_lastFor) ∈ lw_tbl := List.mem_of_getElem? (i := 1173) (by decide +kernel)
theorem qt_1349 : (Cond.code yX9_lastFor cX9_lastFor 4 (some .int)) ∈ lw_tbl := List.mem_of_getElem? (i := 1174) (by decide +kernel)
theorem qt_1350 : (Cond.fieldLink RX9 72 "YearSkins$Land" "smells" "[I") ∈ lw_tbl := List.mem_of_getElem? (i := 211) (by decide +kernel)
theorem qt_1351 : (Cond.methodLink RX9 75 Lib.Math.min.name) ∈ lw_tbl := List.mem_of_getElem? (i := 1175) (by decide +kernel)
theorem qt_1352 : (Cond.methodLink RX9 49 yX9_noteRow) ∈ lw_tbl := List.mem_of_getElem? (i := 1176) (by decide +kernel)
theorem qt_1353 : (Cond.instanceMethod yX9_noteRow) ∈ lw_tbl := List.mem_of_getElem? (i := 1178) (by decide +kernel)
theorem qt_1354 : (Cond.selects RX9 yX9_noteRow yX9_noteRow) ∈ lw_tbl := List.mem_of_getElem? (i := 42) (by decide +kernel)
theorem qt_1355 : (Cond.code yX9_noteRow cX9_noteRow 7 none) ∈ lw_tbl := List.mem_of_getElem? (i := 1179) (by decide +kernel)
theorem qt_1356 : (Cond.methodLink RX9 53 yX5_advance) ∈ lw_tbl := List.mem_of_getElem? (i := 1180) (by decide +kernel)
theorem qt_1357 : (Cond.methodLink RL 142 yX13_orders) ∈ lw_tbl := List.mem_of_getElem? (i := 2111) (by decide +kernel)
theorem qt_1358 : (Cond.instanceMethod yX13_orders) ∈ lw_tbl := List.mem_of_getElem? (i := 2112) (by decide +kernel)
theorem qt_1359 : (Cond.selects RX13 yX13_orders yX13_orders) ∈ lw_tbl := List.mem_of_getElem? (i := 2113) (by decide +kernel)
theorem WLr_84 : ∀ w ∈ WL_84, w ∈ lw_tbl := List.forall_mem_cons.mpr ⟨qt_1344, List.forall_mem_cons.mpr ⟨qt_1345, List.forall_mem_cons.mpr ⟨qt_1346, List.forall_mem_cons.mpr ⟨qt_1347, List.forall_mem_cons.mpr ⟨qt_1348, List.forall_mem_cons.mpr ⟨qt_1349, List.forall_mem_cons.mpr ⟨qt_1350, List.forall_mem_cons.mpr ⟨qt_1351, List.forall_mem_cons.mpr ⟨qt_1352, List.forall_mem_cons.mpr ⟨qt_1353, List.forall_mem_cons.mpr ⟨qt_1354, List.forall_mem_cons.mpr ⟨qt_1355, List.forall_mem_cons.mpr ⟨qt_1356, List.forall_mem_cons.mpr ⟨qt_1357, List.forall_mem_cons.mpr ⟨qt_1358, List.forall_mem_cons.mpr ⟨qt_1359, fun _ h => absurd h List.not_mem_nil⟩⟩⟩⟩⟩⟩⟩⟩⟩⟩⟩⟩⟩⟩⟩⟩
def WL_85 : List Cond := [Cond.code yX13_orders cX13_orders 1 (some .int), Cond.fieldLink RX13 604 "YearSkinsModel" "many" "I", Cond.methodLink RX13 610 yX13_findsOrders, Cond.instanceMethod yX13_findsOrders, Cond.selects RX13 yX13_findsOrders yX13_findsOrders, Cond.code yX13_findsOrders cX13_findsOrders 6 none, Cond.methodLink RX13 607 yX13_canBe, Cond.instanceMethod yX13_canBe, Cond.selects RX13 yX13_canBe yX13_canBe, Cond.code yX13_canBe cX13_canBe 5 (some .boolean), Cond.methodLink RX13 601 yX13_before, Cond.instanceMethod yX13_before, Cond.selects RX13 yX13_before yX13_before, Cond.code yX13_before cX13_before 2 (some .int), Cond.methodLink RL 143 yX11_order, Cond.instanceMethod yX11_order]
theorem qt_1360 : (Cond.code yX13_orders cX13_orders 1 (some .int)) ∈ lw_tbl := List.mem_of_getElem? (i := 2114) (by decide +kernel)
theorem qt_1361 : (Cond.fieldLink RX13 604 "YearSkinsModel" "many" "I") ∈ lw_tbl := List.mem_of_getElem? (i := 1410) (by decide +kernel)
theorem qt_1362 : (Cond.methodLink RX13 610 yX13_findsOrders) ∈ lw_tbl := List.mem_of_getElem? (i := 2115) (by decide +kernel)
theorem qt_1363 : (Cond.instanceMethod yX13_findsOrders) ∈ lw_tbl := List.mem_of_getElem? (i := 2117) (by decide +kernel)
theorem qt_1364 : (Cond.selects RX13 yX13_findsOrders yX13_findsOrders) ∈ lw_tbl := List.mem_of_getElem? (i := 106) (by decide +kernel)
theorem qt_1365 : (Cond.code yX13_findsOrders cX13_findsOrders 6 none) ∈ lw_tbl := List.mem_of_getElem? (i := 2118) (by decide +kernel)
theorem qt_1366 : (Cond.methodLink RX13 607 yX13_canBe) ∈ lw_tbl := List.mem_of_getElem? (i := 2119) (by decide +kernel)
theorem qt_1367 : (Cond.instanceMethod yX13_canBe) ∈ lw_tbl := List.mem_of_getElem? (i := 2121) (by decide +kernel)
theorem qt_1368 : (Cond.selects RX13 yX13_canBe yX13_canBe) ∈ lw_tbl := List.mem_of_getElem? (i := 107) (by decide +kernel)
theorem qt_1369 : (Cond.code yX13_canBe cX13_canBe 5 (some .boolean)) ∈ lw_tbl := List.mem_of_getElem? (i := 2122) (by decide +kernel)
theorem qt_1370 : (Cond.methodLink RX13 601 yX13_before) ∈ lw_tbl := List.mem_of_getElem? (i := 2123) (by decide +kernel)
theorem qt_1371 : (Cond.instanceMethod yX13_before) ∈ lw_tbl := List.mem_of_getElem? (i := 2125) (by decide +kernel)
theorem qt_1372 : (Cond.selects RX13 yX13_before yX13_before) ∈ lw_tbl := List.mem_of_getElem? (i := 108) (by decide +kernel)
theorem qt_1373 : (Cond.code yX13_before cX13_before 2 (some .int)) ∈ lw_tbl := List.mem_of_getElem? (i := 2126) (by decide +kernel)
theorem qt_1374 : (Cond.methodLink RL 143 yX11_order) ∈ lw_tbl := List.mem_of_getElem? (i := 1181) (by decide +kernel)
theorem qt_1375 : (Cond.instanceMethod yX11_order) ∈ lw_tbl := List.mem_of_getElem? (i := 1182) (by decide +kernel)
theorem WLr_85 : ∀ w ∈ WL_85, w ∈ lw_tbl := List.forall_mem_cons.mpr ⟨qt_1360, List.forall_mem_cons.mpr ⟨qt_1361, List.forall_mem_cons.mpr ⟨qt_1362, List.forall_mem_cons.mpr ⟨qt_1363, List.forall_mem_cons.mpr ⟨qt_1364, List.forall_mem_cons.mpr ⟨qt_1365, List.forall_mem_cons.mpr ⟨qt_1366, List.forall_mem_cons.mpr ⟨qt_1367, List.forall_mem_cons.mpr ⟨qt_1368, List.forall_mem_cons.mpr ⟨qt_1369, List.forall_mem_cons.mpr ⟨qt_1370, List.forall_mem_cons.mpr ⟨qt_1371, List.forall_mem_cons.mpr ⟨qt_1372, List.forall_mem_cons.mpr ⟨qt_1373, List.forall_mem_cons.mpr ⟨qt_1374, List.forall_mem_cons.mpr ⟨qt_1375, fun _ h => absurd h List.not_mem_nil⟩⟩⟩⟩⟩⟩⟩⟩⟩⟩⟩⟩⟩⟩⟩⟩
def WL_86 : List Cond := [Cond.selects RX11 yX11_order yX11_order, Cond.code yX11_order cX11_order 4 (some .int), Cond.fieldLink RX11 286 "YearSkins" "ROWS_OF" "[I", Cond.methodLink RX11 283 yX11_isWall, Cond.instanceMethod yX11_isWall, Cond.selects RX11 yX11_isWall yX11_isWall, Cond.code yX11_isWall cX11_isWall 2 (some .boolean), Cond.fieldLink RX11 359 "YearSkins$Land" "walls" "I", Cond.methodLink RX11 289 yX9_wallAt, Cond.instanceMethod yX9_wallAt, Cond.selects RX9 yX9_wallAt yX9_wallAt, Cond.code yX9_wallAt cX9_wallAt 7 (some .int), Cond.methodLink RL 146 yX13_order, Cond.instanceMethod yX13_order, Cond.selects RX13 yX13_order yX13_order, Cond.code yX13_order cX13_order 3 (some .int)]
theorem qt_1376 : (Cond.selects RX11 yX11_order yX11_order) ∈ lw_tbl := List.mem_of_getElem? (i := 1183) (by decide +kernel)
theorem qt_1377 : (Cond.code yX11_order cX11_order 4 (some .int)) ∈ lw_tbl := List.mem_of_getElem? (i := 1184) (by decide +kernel)
theorem qt_1378 : (Cond.fieldLink RX11 286 "YearSkins" "ROWS_OF" "[I") ∈ lw_tbl := List.mem_of_getElem? (i := 1189) (by decide +kernel)
theorem qt_1379 : (Cond.methodLink RX11 283 yX11_isWall) ∈ lw_tbl := List.mem_of_getElem? (i := 1185) (by decide +kernel)
theorem qt_1380 : (Cond.instanceMethod yX11_isWall) ∈ lw_tbl := List.mem_of_getElem? (i := 1187) (by decide +kernel)
theorem qt_1381 : (Cond.selects RX11 yX11_isWall yX11_isWall) ∈ lw_tbl := List.mem_of_getElem? (i := 43) (by decide +kernel)
theorem qt_1382 : (Cond.code yX11_isWall cX11_isWall 2 (some .boolean)) ∈ lw_tbl := List.mem_of_getElem? (i := 1188) (by decide +kernel)
theorem qt_1383 : (Cond.fieldLink RX11 359 "YearSkins$Land" "walls" "I") ∈ lw_tbl := List.mem_of_getElem? (i := 202) (by decide +kernel)
theorem qt_1384 : (Cond.methodLink RX11 289 yX9_wallAt) ∈ lw_tbl := List.mem_of_getElem? (i := 1190) (by decide +kernel)
theorem qt_1385 : (Cond.instanceMethod yX9_wallAt) ∈ lw_tbl := List.mem_of_getElem? (i := 1191) (by decide +kernel)
theorem qt_1386 : (Cond.selects RX9 yX9_wallAt yX9_wallAt) ∈ lw_tbl := List.mem_of_getElem? (i := 1192) (by decide +kernel)
theorem qt_1387 : (Cond.code yX9_wallAt cX9_wallAt 7 (some .int)) ∈ lw_tbl := List.mem_of_getElem? (i := 1193) (by decide +kernel)
theorem qt_1388 : (Cond.methodLink RL 146 yX13_order) ∈ lw_tbl := List.mem_of_getElem? (i := 2127) (by decide +kernel)
theorem qt_1389 : (Cond.instanceMethod yX13_order) ∈ lw_tbl := List.mem_of_getElem? (i := 2128) (by decide +kernel)
theorem qt_1390 : (Cond.selects RX13 yX13_order yX13_order) ∈ lw_tbl := List.mem_of_getElem? (i := 2129) (by decide +kernel)
theorem qt_1391 : (Cond.code yX13_order cX13_order 3 (some .int)) ∈ lw_tbl := List.mem_of_getElem? (i := 2130) (by decide +kernel)
theorem WLr_86 : ∀ w ∈ WL_86, w ∈ lw_tbl := List.forall_mem_cons.mpr ⟨qt_1376, List.forall_mem_cons.mpr ⟨qt_1377, List.forall_mem_cons.mpr ⟨qt_1378, List.forall_mem_cons.mpr ⟨qt_1379, List.forall_mem_cons.mpr ⟨qt_1380, List.forall_mem_cons.mpr ⟨qt_1381, List.forall_mem_cons.mpr ⟨qt_1382, List.forall_mem_cons.mpr ⟨qt_1383, List.forall_mem_cons.mpr ⟨qt_1384, List.forall_mem_cons.mpr ⟨qt_1385, List.forall_mem_cons.mpr ⟨qt_1386, List.forall_mem_cons.mpr ⟨qt_1387, List.forall_mem_cons.mpr ⟨qt_1388, List.forall_mem_cons.mpr ⟨qt_1389, List.forall_mem_cons.mpr ⟨qt_1390, List.forall_mem_cons.mpr ⟨qt_1391, fun _ h => absurd h List.not_mem_nil⟩⟩⟩⟩⟩⟩⟩⟩⟩⟩⟩⟩⟩⟩⟩⟩
def WL_87 : List Cond := [Cond.methodLink RX13 613 yX13_isWall, Cond.instanceMethod yX13_isWall, Cond.selects RX13 yX13_isWall yX13_isWall, Cond.code yX13_isWall cX13_isWall 2 (some .boolean), Cond.methodLink RL 147 yX11_soonest, Cond.instanceMethod yX11_soonest, Cond.selects RX11 yX11_soonest yX11_soonest, Cond.code yX11_soonest cX11_soonest 2 (some .int), Cond.fieldLink RX11 293 "YearSkins$WallOrders" "soon" "[I", Cond.methodLink RL 150 yX13_soonest, Cond.instanceMethod yX13_soonest, Cond.selects RX13 yX13_soonest yX13_soonest, Cond.code yX13_soonest cX13_soonest 2 (some .int), Cond.methodLink RL 151 yX11_latest, Cond.instanceMethod yX11_latest, Cond.selects RX11 yX11_latest yX11_latest]
theorem qt_1392 : (Cond.methodLink RX13 613 yX13_isWall) ∈ lw_tbl := List.mem_of_getElem? (i := 2131) (by decide +kernel)
theorem qt_1393 : (Cond.instanceMethod yX13_isWall) ∈ lw_tbl := List.mem_of_getElem? (i := 2133) (by decide +kernel)
theorem qt_1394 : (Cond.selects RX13 yX13_isWall yX13_isWall) ∈ lw_tbl := List.mem_of_getElem? (i := 109) (by decide +kernel)
theorem qt_1395 : (Cond.code yX13_isWall cX13_isWall 2 (some .boolean)) ∈ lw_tbl := List.mem_of_getElem? (i := 2134) (by decide +kernel)
theorem qt_1396 : (Cond.methodLink RL 147 yX11_soonest) ∈ lw_tbl := List.mem_of_getElem? (i := 1194) (by decide +kernel)
theorem qt_1397 : (Cond.instanceMethod yX11_soonest) ∈ lw_tbl := List.mem_of_getElem? (i := 1195) (by decide +kernel)
theorem qt_1398 : (Cond.selects RX11 yX11_soonest yX11_soonest) ∈ lw_tbl := List.mem_of_getElem? (i := 1196) (by decide +kernel)
theorem qt_1399 : (Cond.code yX11_soonest cX11_soonest 2 (some .int)) ∈ lw_tbl := List.mem_of_getElem? (i := 1197) (by decide +kernel)
theorem qt_1400 : (Cond.fieldLink RX11 293 "YearSkins$WallOrders" "soon" "[I") ∈ lw_tbl := List.mem_of_getElem? (i := 423) (by decide +kernel)
theorem qt_1401 : (Cond.methodLink RL 150 yX13_soonest) ∈ lw_tbl := List.mem_of_getElem? (i := 2135) (by decide +kernel)
theorem qt_1402 : (Cond.instanceMethod yX13_soonest) ∈ lw_tbl := List.mem_of_getElem? (i := 2136) (by decide +kernel)
theorem qt_1403 : (Cond.selects RX13 yX13_soonest yX13_soonest) ∈ lw_tbl := List.mem_of_getElem? (i := 2137) (by decide +kernel)
theorem qt_1404 : (Cond.code yX13_soonest cX13_soonest 2 (some .int)) ∈ lw_tbl := List.mem_of_getElem? (i := 2138) (by decide +kernel)
theorem qt_1405 : (Cond.methodLink RL 151 yX11_latest) ∈ lw_tbl := List.mem_of_getElem? (i := 1198) (by decide +kernel)
theorem qt_1406 : (Cond.instanceMethod yX11_latest) ∈ lw_tbl := List.mem_of_getElem? (i := 1199) (by decide +kernel)
theorem qt_1407 : (Cond.selects RX11 yX11_latest yX11_latest) ∈ lw_tbl := List.mem_of_getElem? (i := 1200) (by decide +kernel)
theorem WLr_87 : ∀ w ∈ WL_87, w ∈ lw_tbl := List.forall_mem_cons.mpr ⟨qt_1392, List.forall_mem_cons.mpr ⟨qt_1393, List.forall_mem_cons.mpr ⟨qt_1394, List.forall_mem_cons.mpr ⟨qt_1395, List.forall_mem_cons.mpr ⟨qt_1396, List.forall_mem_cons.mpr ⟨qt_1397, List.forall_mem_cons.mpr ⟨qt_1398, List.forall_mem_cons.mpr ⟨qt_1399, List.forall_mem_cons.mpr ⟨qt_1400, List.forall_mem_cons.mpr ⟨qt_1401, List.forall_mem_cons.mpr ⟨qt_1402, List.forall_mem_cons.mpr ⟨qt_1403, List.forall_mem_cons.mpr ⟨qt_1404, List.forall_mem_cons.mpr ⟨qt_1405, List.forall_mem_cons.mpr ⟨qt_1406, List.forall_mem_cons.mpr ⟨qt_1407, fun _ h => absurd h List.not_mem_nil⟩⟩⟩⟩⟩⟩⟩⟩⟩⟩⟩⟩⟩⟩⟩⟩
def WL_88 : List Cond := [Cond.code yX11_latest cX11_latest 2 (some .int), Cond.fieldLink RX11 296 "YearSkins$WallOrders" "late" "[I", Cond.methodLink RL 154 yX13_latest, Cond.instanceMethod yX13_latest, Cond.selects RX13 yX13_latest yX13_latest, Cond.code yX13_latest cX13_latest 2 (some .int), Cond.methodLink RL 155 yX11_surely, Cond.instanceMethod yX11_surely, Cond.selects RX11 yX11_surely yX11_surely, Cond.code yX11_surely cX11_surely 4 (some .int), Cond.fieldLink RX11 299 "YearSkins$WallOrders" "sureAhead" "[I", Cond.methodLink RL 158 yX13_surely, Cond.instanceMethod yX13_surely, Cond.selects RX13 yX13_surely yX13_surely, Cond.code yX13_surely cX13_surely 3 (some .int), Cond.methodLink RL 159 yX11_years]
theorem qt_1408 : (Cond.code yX11_latest cX11_latest 2 (some .int)) ∈ lw_tbl := List.mem_of_getElem? (i := 1201) (by decide +kernel)
theorem qt_1409 : (Cond.fieldLink RX11 296 "YearSkins$WallOrders" "late" "[I") ∈ lw_tbl := List.mem_of_getElem? (i := 425) (by decide +kernel)
theorem qt_1410 : (Cond.methodLink RL 154 yX13_latest) ∈ lw_tbl := List.mem_of_getElem? (i := 2139) (by decide +kernel)
theorem qt_1411 : (Cond.instanceMethod yX13_latest) ∈ lw_tbl := List.mem_of_getElem? (i := 2140) (by decide +kernel)
theorem qt_1412 : (Cond.selects RX13 yX13_latest yX13_latest) ∈ lw_tbl := List.mem_of_getElem? (i := 2141) (by decide +kernel)
theorem qt_1413 : (Cond.code yX13_latest cX13_latest 2 (some .int)) ∈ lw_tbl := List.mem_of_getElem? (i := 2142) (by decide +kernel)
theorem qt_1414 : (Cond.methodLink RL 155 yX11_surely) ∈ lw_tbl := List.mem_of_getElem? (i := 1202) (by decide +kernel)
theorem qt_1415 : (Cond.instanceMethod yX11_surely) ∈ lw_tbl := List.mem_of_getElem? (i := 1203) (by decide +kernel)
theorem qt_1416 : (Cond.selects RX11 yX11_surely yX11_surely) ∈ lw_tbl := List.mem_of_getElem? (i := 1204) (by decide +kernel)
theorem qt_1417 : (Cond.code yX11_surely cX11_surely 4 (some .int)) ∈ lw_tbl := List.mem_of_getElem? (i := 1205) (by decide +kernel)
theorem qt_1418 : (Cond.fieldLink RX11 299 "YearSkins$WallOrders" "sureAhead" "[I") ∈ lw_tbl := List.mem_of_getElem? (i := 427) (by decide +kernel)
theorem qt_1419 : (Cond.methodLink RL 158 yX13_surely) ∈ lw_tbl := List.mem_of_getElem? (i := 2143) (by decide +kernel)
theorem qt_1420 : (Cond.instanceMethod yX13_surely) ∈ lw_tbl := List.mem_of_getElem? (i := 2144) (by decide +kernel)
theorem qt_1421 : (Cond.selects RX13 yX13_surely yX13_surely) ∈ lw_tbl := List.mem_of_getElem? (i := 2145) (by decide +kernel)
theorem qt_1422 : (Cond.code yX13_surely cX13_surely 3 (some .int)) ∈ lw_tbl := List.mem_of_getElem? (i := 2146) (by decide +kernel)
theorem qt_1423 : (Cond.methodLink RL 159 yX11_years) ∈ lw_tbl := List.mem_of_getElem? (i := 1206) (by decide +kernel)
theorem WLr_88 : ∀ w ∈ WL_88, w ∈ lw_tbl := List.forall_mem_cons.mpr ⟨qt_1408, List.forall_mem_cons.mpr ⟨qt_1409, List.forall_mem_cons.mpr ⟨qt_1410, List.forall_mem_cons.mpr ⟨qt_1411, List.forall_mem_cons.mpr ⟨qt_1412, List.forall_mem_cons.mpr ⟨qt_1413, List.forall_mem_cons.mpr ⟨qt_1414, List.forall_mem_cons.mpr ⟨qt_1415, List.forall_mem_cons.mpr ⟨qt_1416, List.forall_mem_cons.mpr ⟨qt_1417, List.forall_mem_cons.mpr ⟨qt_1418, List.forall_mem_cons.mpr ⟨qt_1419, List.forall_mem_cons.mpr ⟨qt_1420, List.forall_mem_cons.mpr ⟨qt_1421, List.forall_mem_cons.mpr ⟨qt_1422, List.forall_mem_cons.mpr ⟨qt_1423, fun _ h => absurd h List.not_mem_nil⟩⟩⟩⟩⟩⟩⟩⟩⟩⟩⟩⟩⟩⟩⟩⟩
def WL_89 : List Cond := [Cond.instanceMethod yX11_years, Cond.selects RX11 yX11_years yX11_years, Cond.code yX11_years cX11_years 3 (some .int), Cond.methodLink RX11 302 yX2_keep, Cond.instanceMethod yX2_keep, Cond.selects RX2 yX2_keep yX2_keep, Cond.code yX2_keep cX2_keep 2 none, Cond.fieldLink RX2 28 "YearSkins$Past" "oldest" "I", Cond.methodLink RX2 31 yX7_copyFrom, Cond.methodLink RL 162 yX13_years, Cond.instanceMethod yX13_years, Cond.selects RX13 yX13_years yX13_years, Cond.code yX13_years cX13_years 3 (some .int), Cond.methodLink RX13 616 yX13_keeps, Cond.instanceMethod yX13_keeps, Cond.selects RX13 yX13_keeps yX13_keeps]
theorem qt_1424 : (Cond.instanceMethod yX11_years) ∈ lw_tbl := List.mem_of_getElem? (i := 1207) (by decide +kernel)
theorem qt_1425 : (Cond.selects RX11 yX11_years yX11_years) ∈ lw_tbl := List.mem_of_getElem? (i := 1208) (by decide +kernel)
theorem qt_1426 : (Cond.code yX11_years cX11_years 3 (some .int)) ∈ lw_tbl := List.mem_of_getElem? (i := 1209) (by decide +kernel)
theorem qt_1427 : (Cond.methodLink RX11 302 yX2_keep) ∈ lw_tbl := List.mem_of_getElem? (i := 1210) (by decide +kernel)
theorem qt_1428 : (Cond.instanceMethod yX2_keep) ∈ lw_tbl := List.mem_of_getElem? (i := 1211) (by decide +kernel)
theorem qt_1429 : (Cond.selects RX2 yX2_keep yX2_keep) ∈ lw_tbl := List.mem_of_getElem? (i := 1212) (by decide +kernel)
theorem qt_1430 : (Cond.code yX2_keep cX2_keep 2 none) ∈ lw_tbl := List.mem_of_getElem? (i := 1213) (by decide +kernel)
theorem qt_1431 : (Cond.fieldLink RX2 28 "YearSkins$Past" "oldest" "I") ∈ lw_tbl := List.mem_of_getElem? (i := 452) (by decide +kernel)
theorem qt_1432 : (Cond.methodLink RX2 31 yX7_copyFrom) ∈ lw_tbl := List.mem_of_getElem? (i := 1214) (by decide +kernel)
theorem qt_1433 : (Cond.methodLink RL 162 yX13_years) ∈ lw_tbl := List.mem_of_getElem? (i := 2147) (by decide +kernel)
theorem qt_1434 : (Cond.instanceMethod yX13_years) ∈ lw_tbl := List.mem_of_getElem? (i := 2148) (by decide +kernel)
theorem qt_1435 : (Cond.selects RX13 yX13_years yX13_years) ∈ lw_tbl := List.mem_of_getElem? (i := 2149) (by decide +kernel)
theorem qt_1436 : (Cond.code yX13_years cX13_years 3 (some .int)) ∈ lw_tbl := List.mem_of_getElem? (i := 2150) (by decide +kernel)
theorem qt_1437 : (Cond.methodLink RX13 616 yX13_keeps) ∈ lw_tbl := List.mem_of_getElem? (i := 2151) (by decide +kernel)
theorem qt_1438 : (Cond.instanceMethod yX13_keeps) ∈ lw_tbl := List.mem_of_getElem? (i := 2153) (by decide +kernel)
theorem qt_1439 : (Cond.selects RX13 yX13_keeps yX13_keeps) ∈ lw_tbl := List.mem_of_getElem? (i := 110) (by decide +kernel)
theorem WLr_89 : ∀ w ∈ WL_89, w ∈ lw_tbl := List.forall_mem_cons.mpr ⟨qt_1424, List.forall_mem_cons.mpr ⟨qt_1425, List.forall_mem_cons.mpr ⟨qt_1426, List.forall_mem_cons.mpr ⟨qt_1427, List.forall_mem_cons.mpr ⟨qt_1428, List.forall_mem_cons.mpr ⟨qt_1429, List.forall_mem_cons.mpr ⟨qt_1430, List.forall_mem_cons.mpr ⟨qt_1431, List.forall_mem_cons.mpr ⟨qt_1432, List.forall_mem_cons.mpr ⟨qt_1433, List.forall_mem_cons.mpr ⟨qt_1434, List.forall_mem_cons.mpr ⟨qt_1435, List.forall_mem_cons.mpr ⟨qt_1436, List.forall_mem_cons.mpr ⟨qt_1437, List.forall_mem_cons.mpr ⟨qt_1438, List.forall_mem_cons.mpr ⟨qt_1439, fun _ h => absurd h List.not_mem_nil⟩⟩⟩⟩⟩⟩⟩⟩⟩⟩⟩⟩⟩⟩⟩⟩
def WL_90 : List Cond := [Cond.code yX13_keeps cX13_keeps 2 none, Cond.methodLink RL 163 yX11_build, Cond.instanceMethod yX11_build, Cond.selects RX11 yX11_build yX11_build, Cond.code yX11_build cX11_build 8 (some .int), Cond.methodLink RX11 305 yX6_isFrontFree, Cond.methodLink RL 166 yX13_build, Cond.instanceMethod yX13_build, Cond.selects RX13 yX13_build yX13_build, Cond.code yX13_build cX13_build 8 (some .int), Cond.methodLink RL 167 yX11_fill, Cond.instanceMethod yX11_fill, Cond.selects RX11 yX11_fill yX11_fill, Cond.code yX11_fill cX11_fill 3 (some .boolean), Cond.methodLink RX11 309 yX11_no, Cond.instanceMethod yX11_no]
theorem qt_1440 : (Cond.code yX13_keeps cX13_keeps 2 none) ∈ lw_tbl := List.mem_of_getElem? (i := 2154) (by decide +kernel)
theorem qt_1441 : (Cond.methodLink RL 163 yX11_build) ∈ lw_tbl := List.mem_of_getElem? (i := 1215) (by decide +kernel)
theorem qt_1442 : (Cond.instanceMethod yX11_build) ∈ lw_tbl := List.mem_of_getElem? (i := 1216) (by decide +kernel)
theorem qt_1443 : (Cond.selects RX11 yX11_build yX11_build) ∈ lw_tbl := List.mem_of_getElem? (i := 1217) (by decide +kernel)
theorem qt_1444 : (Cond.code yX11_build cX11_build 8 (some .int)) ∈ lw_tbl := List.mem_of_getElem? (i := 1218) (by decide +kernel)
theorem qt_1445 : (Cond.methodLink RX11 305 yX6_isFrontFree) ∈ lw_tbl := List.mem_of_getElem? (i := 1219) (by decide +kernel)
theorem qt_1446 : (Cond.methodLink RL 166 yX13_build) ∈ lw_tbl := List.mem_of_getElem? (i := 2155) (by decide +kernel)
theorem qt_1447 : (Cond.instanceMethod yX13_build) ∈ lw_tbl := List.mem_of_getElem? (i := 2156) (by decide +kernel)
theorem qt_1448 : (Cond.selects RX13 yX13_build yX13_build) ∈ lw_tbl := List.mem_of_getElem? (i := 2157) (by decide +kernel)
theorem qt_1449 : (Cond.code yX13_build cX13_build 8 (some .int)) ∈ lw_tbl := List.mem_of_getElem? (i := 2158) (by decide +kernel)
theorem qt_1450 : (Cond.methodLink RL 167 yX11_fill) ∈ lw_tbl := List.mem_of_getElem? (i := 1220) (by decide +kernel)
theorem qt_1451 : (Cond.instanceMethod yX11_fill) ∈ lw_tbl := List.mem_of_getElem? (i := 1221) (by decide +kernel)
theorem qt_1452 : (Cond.selects RX11 yX11_fill yX11_fill) ∈ lw_tbl := List.mem_of_getElem? (i := 1222) (by decide +kernel)
theorem qt_1453 : (Cond.code yX11_fill cX11_fill 3 (some .boolean)) ∈ lw_tbl := List.mem_of_getElem? (i := 1223) (by decide +kernel)
theorem qt_1454 : (Cond.methodLink RX11 309 yX11_no) ∈ lw_tbl := List.mem_of_getElem? (i := 1224) (by decide +kernel)
theorem qt_1455 : (Cond.instanceMethod yX11_no) ∈ lw_tbl := List.mem_of_getElem? (i := 1226) (by decide +kernel)
theorem WLr_90 : ∀ w ∈ WL_90, w ∈ lw_tbl := List.forall_mem_cons.mpr ⟨qt_1440, List.forall_mem_cons.mpr ⟨qt_1441, List.forall_mem_cons.mpr ⟨qt_1442, List.forall_mem_cons.mpr ⟨qt_1443, List.forall_mem_cons.mpr ⟨qt_1444, List.forall_mem_cons.mpr ⟨qt_1445, List.forall_mem_cons.mpr ⟨qt_1446, List.forall_mem_cons.mpr ⟨qt_1447, List.forall_mem_cons.mpr ⟨qt_1448, List.forall_mem_cons.mpr ⟨qt_1449, List.forall_mem_cons.mpr ⟨qt_1450, List.forall_mem_cons.mpr ⟨qt_1451, List.forall_mem_cons.mpr ⟨qt_1452, List.forall_mem_cons.mpr ⟨qt_1453, List.forall_mem_cons.mpr ⟨qt_1454, List.forall_mem_cons.mpr ⟨qt_1455, fun _ h => absurd h List.not_mem_nil⟩⟩⟩⟩⟩⟩⟩⟩⟩⟩⟩⟩⟩⟩⟩⟩
def WL_91 : List Cond := [Cond.selects RX11 yX11_no yX11_no, Cond.code yX11_no cX11_no 2 (some .boolean), Cond.methodLink RX11 312 yX7_isOpen, Cond.methodLink RX11 315 yX7_setPart, Cond.methodLink RX11 319 yX11_yes, Cond.instanceMethod yX11_yes, Cond.selects RX11 yX11_yes yX11_yes, Cond.code yX11_yes cX11_yes 1 (some .boolean), Cond.methodLink RL 171 yX13_fill, Cond.instanceMethod yX13_fill, Cond.selects RX13 yX13_fill yX13_fill, Cond.code yX13_fill cX13_fill 3 (some .boolean), Cond.methodLink RX13 619 yX13_denied, Cond.instanceMethod yX13_denied, Cond.selects RX13 yX13_denied yX13_denied, Cond.code yX13_denied cX13_denied 2 (some .boolean)]
theorem qt_1456 : (Cond.selects RX11 yX11_no yX11_no) ∈ lw_tbl := List.mem_of_getElem? (i := 44) (by decide +kernel)
theorem qt_1457 : (Cond.code yX11_no cX11_no 2 (some .boolean)) ∈ lw_tbl := List.mem_of_getElem? (i := 1227) (by decide +kernel)
theorem qt_1458 : (Cond.methodLink RX11 312 yX7_isOpen) ∈ lw_tbl := List.mem_of_getElem? (i := 1228) (by decide +kernel)
theorem qt_1459 : (Cond.methodLink RX11 315 yX7_setPart) ∈ lw_tbl := List.mem_of_getElem? (i := 1229) (by decide +kernel)
theorem qt_1460 : (Cond.methodLink RX11 319 yX11_yes) ∈ lw_tbl := List.mem_of_getElem? (i := 1230) (by decide +kernel)
theorem qt_1461 : (Cond.instanceMethod yX11_yes) ∈ lw_tbl := List.mem_of_getElem? (i := 1232) (by decide +kernel)
theorem qt_1462 : (Cond.selects RX11 yX11_yes yX11_yes) ∈ lw_tbl := List.mem_of_getElem? (i := 45) (by decide +kernel)
theorem qt_1463 : (Cond.code yX11_yes cX11_yes 1 (some .boolean)) ∈ lw_tbl := List.mem_of_getElem? (i := 1233) (by decide +kernel)
theorem qt_1464 : (Cond.methodLink RL 171 yX13_fill) ∈ lw_tbl := List.mem_of_getElem? (i := 2159) (by decide +kernel)
theorem qt_1465 : (Cond.instanceMethod yX13_fill) ∈ lw_tbl := List.mem_of_getElem? (i := 2160) (by decide +kernel)
theorem qt_1466 : (Cond.selects RX13 yX13_fill yX13_fill) ∈ lw_tbl := List.mem_of_getElem? (i := 2161) (by decide +kernel)
theorem qt_1467 : (Cond.code yX13_fill cX13_fill 3 (some .boolean)) ∈ lw_tbl := List.mem_of_getElem? (i := 2162) (by decide +kernel)
theorem qt_1468 : (Cond.methodLink RX13 619 yX13_denied) ∈ lw_tbl := List.mem_of_getElem? (i := 2163) (by decide +kernel)
theorem qt_1469 : (Cond.instanceMethod yX13_denied) ∈ lw_tbl := List.mem_of_getElem? (i := 2165) (by decide +kernel)
theorem qt_1470 : (Cond.selects RX13 yX13_denied yX13_denied) ∈ lw_tbl := List.mem_of_getElem? (i := 111) (by decide +kernel)
theorem qt_1471 : (Cond.code yX13_denied cX13_denied 2 (some .boolean)) ∈ lw_tbl := List.mem_of_getElem? (i := 2166) (by decide +kernel)
theorem WLr_91 : ∀ w ∈ WL_91, w ∈ lw_tbl := List.forall_mem_cons.mpr ⟨qt_1456, List.forall_mem_cons.mpr ⟨qt_1457, List.forall_mem_cons.mpr ⟨qt_1458, List.forall_mem_cons.mpr ⟨qt_1459, List.forall_mem_cons.mpr ⟨qt_1460, List.forall_mem_cons.mpr ⟨qt_1461, List.forall_mem_cons.mpr ⟨qt_1462, List.forall_mem_cons.mpr ⟨qt_1463, List.forall_mem_cons.mpr ⟨qt_1464, List.forall_mem_cons.mpr ⟨qt_1465, List.forall_mem_cons.mpr ⟨qt_1466, List.forall_mem_cons.mpr ⟨qt_1467, List.forall_mem_cons.mpr ⟨qt_1468, List.forall_mem_cons.mpr ⟨qt_1469, List.forall_mem_cons.mpr ⟨qt_1470, List.forall_mem_cons.mpr ⟨qt_1471, fun _ h => absurd h List.not_mem_nil⟩⟩⟩⟩⟩⟩⟩⟩⟩⟩⟩⟩⟩⟩⟩⟩
def WL_92 : List Cond := [Cond.methodLink RX13 622 yX13_granted, Cond.instanceMethod yX13_granted, Cond.selects RX13 yX13_granted yX13_granted, Cond.code yX13_granted cX13_granted 1 (some .boolean), Cond.methodLink RL 172 yX11_take, Cond.instanceMethod yX11_take, Cond.selects RX11 yX11_take yX11_take, Cond.code yX11_take cX11_take 4 (some .int), Cond.methodLink RX11 323 Lib.Math.min.name, Cond.methodLink RL 175 yX13_take, Cond.instanceMethod yX13_take, Cond.selects RX13 yX13_take yX13_take, Cond.code yX13_take cX13_take 4 (some .int), Cond.methodLink RL 176 yX11_lock, Cond.instanceMethod yX11_lock, Cond.selects RX11 yX11_lock yX11_lock]
theorem qt_1472 : (Cond.methodLink RX13 622 yX13_granted) ∈ lw_tbl := List.mem_of_getElem? (i := 2167) (by decide +kernel)
theorem qt_1473 : (Cond.instanceMethod yX13_granted) ∈ lw_tbl := List.mem_of_getElem? (i := 2169) (by decide +kernel)
theorem qt_1474 : (Cond.selects RX13 yX13_granted yX13_granted) ∈ lw_tbl := List.mem_of_getElem? (i := 112) (by decide +kernel)
theorem qt_1475 : (Cond.code yX13_granted cX13_granted 1 (some .boolean)) ∈ lw_tbl := List.mem_of_getElem? (i := 2170) (by decide +kernel)
theorem qt_1476 : (Cond.methodLink RL 172 yX11_take) ∈ lw_tbl := List.mem_of_getElem? (i := 1234) (by decide +kernel)
theorem qt_1477 : (Cond.instanceMethod yX11_take) ∈ lw_tbl := List.mem_of_getElem? (i := 1235) (by decide +kernel)
theorem qt_1478 : (Cond.selects RX11 yX11_take yX11_take) ∈ lw_tbl := List.mem_of_getElem? (i := 1236) (by decide +kernel)
theorem qt_1479 : (Cond.code yX11_take cX11_take 4 (some .int)) ∈ lw_tbl := List.mem_of_getElem? (i := 1237) (by decide +kernel)
theorem qt_1480 : (Cond.methodLink RX11 323 Lib.Math.min.name) ∈ lw_tbl := List.mem_of_getElem? (i := 1238) (by decide +kernel)
theorem qt_1481 : (Cond.methodLink RL 175 yX13_take) ∈ lw_tbl := List.mem_of_getElem? (i := 2171) (by decide +kernel)
theorem qt_1482 : (Cond.instanceMethod yX13_take) ∈ lw_tbl := List.mem_of_getElem? (i := 2172) (by decide +kernel)
theorem qt_1483 : (Cond.selects RX13 yX13_take yX13_take) ∈ lw_tbl := List.mem_of_getElem? (i := 2173) (by decide +kernel)
theorem qt_1484 : (Cond.code yX13_take cX13_take 4 (some .int)) ∈ lw_tbl := List.mem_of_getElem? (i := 2174) (by decide +kernel)
theorem qt_1485 : (Cond.methodLink RL 176 yX11_lock) ∈ lw_tbl := List.mem_of_getElem? (i := 1239) (by decide +kernel)
theorem qt_1486 : (Cond.instanceMethod yX11_lock) ∈ lw_tbl := List.mem_of_getElem? (i := 1240) (by decide +kernel)
theorem qt_1487 : (Cond.selects RX11 yX11_lock yX11_lock) ∈ lw_tbl := List.mem_of_getElem? (i := 1241) (by decide +kernel)
theorem WLr_92 : ∀ w ∈ WL_92, w ∈ lw_tbl := List.forall_mem_cons.mpr ⟨qt_1472, List.forall_mem_cons.mpr ⟨qt_1473, List.forall_mem_cons.mpr ⟨qt_1474, List.forall_mem_cons.mpr ⟨qt_1475, List.forall_mem_cons.mpr ⟨qt_1476, List.forall_mem_cons.mpr ⟨qt_1477, List.forall_mem_cons.mpr ⟨qt_1478, List.forall_mem_cons.mpr ⟨qt_1479, List.forall_mem_cons.mpr ⟨qt_1480, List.forall_mem_cons.mpr ⟨qt_1481, List.forall_mem_cons.mpr ⟨qt_1482, List.forall_mem_cons.mpr ⟨qt_1483, List.forall_mem_cons.mpr ⟨qt_1484, List.forall_mem_cons.mpr ⟨qt_1485, List.forall_mem_cons.mpr ⟨qt_1486, List.forall_mem_cons.mpr ⟨qt_1487, fun _ h => absurd h List.not_mem_nil⟩⟩⟩⟩⟩⟩⟩⟩⟩⟩⟩⟩⟩⟩⟩⟩
def WL_93 : List Cond := [Cond.code yX11_lock cX11_lock 4 (some .boolean), Cond.methodLink RL 180 yX13_lock, Cond.instanceMethod yX13_lock, Cond.selects RX13 yX13_lock yX13_lock, Cond.code yX13_lock cX13_lock 4 (some .boolean), Cond.methodLink RL 181 yX11_move, Cond.instanceMethod yX11_move, Cond.selects RX11 yX11_move yX11_move, Cond.code yX11_move cX11_move 3 (some .boolean), Cond.methodLink RL 184 yX13_move, Cond.instanceMethod yX13_move, Cond.selects RX13 yX13_move yX13_move, Cond.code yX13_move cX13_move 4 (some .boolean), Cond.methodLink RL 185 yX11_give, Cond.instanceMethod yX11_give, Cond.selects RX11 yX11_give yX11_give]
theorem qt_1488 : (Cond.code yX11_lock cX11_lock 4 (some .boolean)) ∈ lw_tbl := List.mem_of_getElem? (i := 1242) (by decide +kernel)
theorem qt_1489 : (Cond.methodLink RL 180 yX13_lock) ∈ lw_tbl := List.mem_of_getElem? (i := 2175) (by decide +kernel)
theorem qt_1490 : (Cond.instanceMethod yX13_lock) ∈ lw_tbl := List.mem_of_getElem? (i := 2176) (by decide +kernel)
theorem qt_1491 : (Cond.selects RX13 yX13_lock yX13_lock) ∈ lw_tbl := List.mem_of_getElem? (i := 2177) (by decide +kernel)
theorem qt_1492 : (Cond.code yX13_lock cX13_lock 4 (some .boolean)) ∈ lw_tbl := List.mem_of_getElem? (i := 2178) (by decide +kernel)
theorem qt_1493 : (Cond.methodLink RL 181 yX11_move) ∈ lw_tbl := List.mem_of_getElem? (i := 1243) (by decide +kernel)
theorem qt_1494 : (Cond.instanceMethod yX11_move) ∈ lw_tbl := List.mem_of_getElem? (i := 1244) (by decide +kernel)
theorem qt_1495 : (Cond.selects RX11 yX11_move yX11_move) ∈ lw_tbl := List.mem_of_getElem? (i := 1245) (by decide +kernel)
theorem qt_1496 : (Cond.code yX11_move cX11_move 3 (some .boolean)) ∈ lw_tbl := List.mem_of_getElem? (i := 1246) (by decide +kernel)
theorem qt_1497 : (Cond.methodLink RL 184 yX13_move) ∈ lw_tbl := List.mem_of_getElem? (i := 2179) (by decide +kernel)
theorem qt_1498 : (Cond.instanceMethod yX13_move) ∈ lw_tbl := List.mem_of_getElem? (i := 2180) (by decide +kernel)
theorem qt_1499 : (Cond.selects RX13 yX13_move yX13_move) ∈ lw_tbl := List.mem_of_getElem? (i := 2181) (by decide +kernel)
theorem qt_1500 : (Cond.code yX13_move cX13_move 4 (some .boolean)) ∈ lw_tbl := List.mem_of_getElem? (i := 2182) (by decide +kernel)
theorem qt_1501 : (Cond.methodLink RL 185 yX11_give) ∈ lw_tbl := List.mem_of_getElem? (i := 1247) (by decide +kernel)
theorem qt_1502 : (Cond.instanceMethod yX11_give) ∈ lw_tbl := List.mem_of_getElem? (i := 1248) (by decide +kernel)
theorem qt_1503 : (Cond.selects RX11 yX11_give yX11_give) ∈ lw_tbl := List.mem_of_getElem? (i := 1249) (by decide +kernel)
theorem WLr_93 : ∀ w ∈ WL_93, w ∈ lw_tbl := List.forall_mem_cons.mpr ⟨qt_1488, List.forall_mem_cons.mpr ⟨qt_1489, List.forall_mem_cons.mpr ⟨qt_1490, List.forall_mem_cons.mpr ⟨qt_1491, List.forall_mem_cons.mpr ⟨qt_1492, List.forall_mem_cons.mpr ⟨qt_1493, List.forall_mem_cons.mpr ⟨qt_1494, List.forall_mem_cons.mpr ⟨qt_1495, List.forall_mem_cons.mpr ⟨qt_1496, List.forall_mem_cons.mpr ⟨qt_1497, List.forall_mem_cons.mpr ⟨qt_1498, List.forall_mem_cons.mpr ⟨qt_1499, List.forall_mem_cons.mpr ⟨qt_1500, List.forall_mem_cons.mpr ⟨qt_1501, List.forall_mem_cons.mpr ⟨qt_1502, List.forall_mem_cons.mpr ⟨qt_1503, fun _ h => absurd h List.not_mem_nil⟩⟩⟩⟩⟩⟩⟩⟩⟩⟩⟩⟩⟩⟩⟩⟩
def WL_94 : List Cond := [Cond.code yX11_give cX11_give 4 (some .boolean), Cond.methodLink RL 188 yX13_give, Cond.instanceMethod yX13_give, Cond.selects RX13 yX13_give yX13_give, Cond.code yX13_give cX13_give 4 (some .boolean), Cond.methodLink RL 189 yX11_seed, Cond.instanceMethod yX11_seed, Cond.selects RX11 yX11_seed yX11_seed, Cond.code yX11_seed cX11_seed 2 (some .boolean), Cond.methodLink RL 193 yX13_seed, Cond.instanceMethod yX13_seed, Cond.selects RX13 yX13_seed yX13_seed, Cond.code yX13_seed cX13_seed 2 (some .boolean), Cond.methodLink RL 194 yX11_undo, Cond.instanceMethod yX11_undo, Cond.selects RX11 yX11_undo yX11_undo]
theorem qt_1504 : (Cond.code yX11_give cX11_give 4 (some .boolean)) ∈ lw_tbl := List.mem_of_getElem? (i := 1250) (by decide +kernel)
theorem qt_1505 : (Cond.methodLink RL 188 yX13_give) ∈ lw_tbl := List.mem_of_getElem? (i := 2183) (by decide +kernel)
theorem qt_1506 : (Cond.instanceMethod yX13_give) ∈ lw_tbl := List.mem_of_getElem? (i := 2184) (by decide +kernel)
theorem qt_1507 : (Cond.selects RX13 yX13_give yX13_give) ∈ lw_tbl := List.mem_of_getElem? (i := 2185) (by decide +kernel)
theorem qt_1508 : (Cond.code yX13_give cX13_give 4 (some .boolean)) ∈ lw_tbl := List.mem_of_getElem? (i := 2186) (by decide +kernel)
theorem qt_1509 : (Cond.methodLink RL 189 yX11_seed) ∈ lw_tbl := List.mem_of_getElem? (i := 1251) (by decide +kernel)
theorem qt_1510 : (Cond.instanceMethod yX11_seed) ∈ lw_tbl := List.mem_of_getElem? (i := 1252) (by decide +kernel)
theorem qt_1511 : (Cond.selects RX11 yX11_seed yX11_seed) ∈ lw_tbl := List.mem_of_getElem? (i := 1253) (by decide +kernel)
theorem qt_1512 : (Cond.code yX11_seed cX11_seed 2 (some .boolean)) ∈ lw_tbl := List.mem_of_getElem? (i := 1254) (by decide +kernel)
theorem qt_1513 : (Cond.methodLink RL 193 yX13_seed) ∈ lw_tbl := List.mem_of_getElem? (i := 2187) (by decide +kernel)
theorem qt_1514 : (Cond.instanceMethod yX13_seed) ∈ lw_tbl := List.mem_of_getElem? (i := 2188) (by decide +kernel)
theorem qt_1515 : (Cond.selects RX13 yX13_seed yX13_seed) ∈ lw_tbl := List.mem_of_getElem? (i := 2189) (by decide +kernel)
theorem qt_1516 : (Cond.code yX13_seed cX13_seed 2 (some .boolean)) ∈ lw_tbl := List.mem_of_getElem? (i := 2190) (by decide +kernel)
theorem qt_1517 : (Cond.methodLink RL 194 yX11_undo) ∈ lw_tbl := List.mem_of_getElem? (i := 1255) (by decide +kernel)
theorem qt_1518 : (Cond.instanceMethod yX11_undo) ∈ lw_tbl := List.mem_of_getElem? (i := 1256) (by decide +kernel)
theorem qt_1519 : (Cond.selects RX11 yX11_undo yX11_undo) ∈ lw_tbl := List.mem_of_getElem? (i := 1257) (by decide +kernel)
theorem WLr_94 : ∀ w ∈ WL_94, w ∈ lw_tbl := List.forall_mem_cons.mpr ⟨qt_1504, List.forall_mem_cons.mpr ⟨qt_1505, List.forall_mem_cons.mpr ⟨qt_1506, List.forall_mem_cons.mpr ⟨qt_1507, List.forall_mem_cons.mpr ⟨qt_1508, List.forall_mem_cons.mpr ⟨qt_1509, List.forall_mem_cons.mpr ⟨qt_1510, List.forall_mem_cons.mpr ⟨qt_1511, List.forall_mem_cons.mpr ⟨qt_1512, List.forall_mem_cons.mpr ⟨qt_1513, List.forall_mem_cons.mpr ⟨qt_1514, List.forall_mem_cons.mpr ⟨qt_1515, List.forall_mem_cons.mpr ⟨qt_1516, List.forall_mem_cons.mpr ⟨qt_1517, List.forall_mem_cons.mpr ⟨qt_1518, List.forall_mem_cons.mpr ⟨qt_1519, fun _ h => absurd h List.not_mem_nil⟩⟩⟩⟩⟩⟩⟩⟩⟩⟩⟩⟩⟩⟩⟩⟩
def WL_95 : List Cond := [Cond.code yX11_undo cX11_undo 1 (some .boolean), Cond.methodLink RX11 326 yX2_stepBack, Cond.instanceMethod yX2_stepBack, Cond.selects RX2 yX2_stepBack yX2_stepBack, Cond.code yX2_stepBack cX2_stepBack 2 (some .boolean), Cond.methodLink RL 198 yX13_undo, Cond.instanceMethod yX13_undo, Cond.selects RX13 yX13_undo yX13_undo, Cond.code yX13_undo cX13_undo 2 (some .boolean), Cond.methodLink RL 199 yX11_mark, Cond.instanceMethod yX11_mark, Cond.selects RX11 yX11_mark yX11_mark, Cond.code yX11_mark cX11_mark 2 (some .int), Cond.methodLink RX11 330 yX2_addMark, Cond.instanceMethod yX2_addMark, Cond.selects RX2 yX2_addMark yX2_addMark]
theorem qt_1520 : (Cond.code yX11_undo cX11_undo 1 (some .boolean)) ∈ lw_tbl := List.mem_of_getElem? (i := 1258) (by decide +kernel)
theorem qt_1521 : (Cond.methodLink RX11 326 yX2_stepBack) ∈ lw_tbl := List.mem_of_getElem? (i := 1259) (by decide +kernel)
theorem qt_1522 : (Cond.instanceMethod yX2_stepBack) ∈ lw_tbl := List.mem_of_getElem? (i := 1260) (by decide +kernel)
theorem qt_1523 : (Cond.selects RX2 yX2_stepBack yX2_stepBack) ∈ lw_tbl := List.mem_of_getElem? (i := 1261) (by decide +kernel)
theorem qt_1524 : (Cond.code yX2_stepBack cX2_stepBack 2 (some .boolean)) ∈ lw_tbl := List.mem_of_getElem? (i := 1262) (by decide +kernel)
theorem qt_1525 : (Cond.methodLink RL 198 yX13_undo) ∈ lw_tbl := List.mem_of_getElem? (i := 2191) (by decide +kernel)
theorem qt_1526 : (Cond.instanceMethod yX13_undo) ∈ lw_tbl := List.mem_of_getElem? (i := 2192) (by decide +kernel)
theorem qt_1527 : (Cond.selects RX13 yX13_undo yX13_undo) ∈ lw_tbl := List.mem_of_getElem? (i := 2193) (by decide +kernel)
theorem qt_1528 : (Cond.code yX13_undo cX13_undo 2 (some .boolean)) ∈ lw_tbl := List.mem_of_getElem? (i := 2194) (by decide +kernel)
theorem qt_1529 : (Cond.methodLink RL 199 yX11_mark) ∈ lw_tbl := List.mem_of_getElem? (i := 1263) (by decide +kernel)
theorem qt_1530 : (Cond.instanceMethod yX11_mark) ∈ lw_tbl := List.mem_of_getElem? (i := 1264) (by decide +kernel)
theorem qt_1531 : (Cond.selects RX11 yX11_mark yX11_mark) ∈ lw_tbl := List.mem_of_getElem? (i := 1265) (by decide +kernel)
theorem qt_1532 : (Cond.code yX11_mark cX11_mark 2 (some .int)) ∈ lw_tbl := List.mem_of_getElem? (i := 1266) (by decide +kernel)
theorem qt_1533 : (Cond.methodLink RX11 330 yX2_addMark) ∈ lw_tbl := List.mem_of_getElem? (i := 1267) (by decide +kernel)
theorem qt_1534 : (Cond.instanceMethod yX2_addMark) ∈ lw_tbl := List.mem_of_getElem? (i := 1268) (by decide +kernel)
theorem qt_1535 : (Cond.selects RX2 yX2_addMark yX2_addMark) ∈ lw_tbl := List.mem_of_getElem? (i := 1269) (by decide +kernel)
theorem WLr_95 : ∀ w ∈ WL_95, w ∈ lw_tbl := List.forall_mem_cons.mpr ⟨qt_1520, List.forall_mem_cons.mpr ⟨qt_1521, List.forall_mem_cons.mpr ⟨qt_1522, List.forall_mem_cons.mpr ⟨qt_1523, List.forall_mem_cons.mpr ⟨qt_1524, List.forall_mem_cons.mpr ⟨qt_1525, List.forall_mem_cons.mpr ⟨qt_1526, List.forall_mem_cons.mpr ⟨qt_1527, List.forall_mem_cons.mpr ⟨qt_1528, List.forall_mem_cons.mpr ⟨qt_1529, List.forall_mem_cons.mpr ⟨qt_1530, List.forall_mem_cons.mpr ⟨qt_1531, List.forall_mem_cons.mpr ⟨qt_1532, List.forall_mem_cons.mpr ⟨qt_1533, List.forall_mem_cons.mpr ⟨qt_1534, List.forall_mem_cons.mpr ⟨qt_1535, fun _ h => absurd h List.not_mem_nil⟩⟩⟩⟩⟩⟩⟩⟩⟩⟩⟩⟩⟩⟩⟩⟩
def WL_96 : List Cond := [Cond.code yX2_addMark cX2_addMark 2 (some .int), Cond.methodLink RL 202 yX13_mark, Cond.instanceMethod yX13_mark, Cond.selects RX13 yX13_mark yX13_mark, Cond.code yX13_mark cX13_mark 2 (some .int), Cond.methodLink RL 203 yX11_back, Cond.instanceMethod yX11_back, Cond.selects RX11 yX11_back yX11_back, Cond.code yX11_back cX11_back 2 (some .boolean), Cond.methodLink RX11 334 yX2_goToMark, Cond.instanceMethod yX2_goToMark, Cond.selects RX2 yX2_goToMark yX2_goToMark, Cond.code yX2_goToMark cX2_goToMark 3 (some .boolean), Cond.methodLink RL 206 yX13_back, Cond.instanceMethod yX13_back, Cond.selects RX13 yX13_back yX13_back]
theorem qt_1536 : (Cond.code yX2_addMark cX2_addMark 2 (some .int)) ∈ lw_tbl := List.mem_of_getElem? (i := 1270) (by decide +kernel)
theorem qt_1537 : (Cond.methodLink RL 202 yX13_mark) ∈ lw_tbl := List.mem_of_getElem? (i := 2195) (by decide +kernel)
theorem qt_1538 : (Cond.instanceMethod yX13_mark) ∈ lw_tbl := List.mem_of_getElem? (i := 2196) (by decide +kernel)
theorem qt_1539 : (Cond.selects RX13 yX13_mark yX13_mark) ∈ lw_tbl := List.mem_of_getElem? (i := 2197) (by decide +kernel)
theorem qt_1540 : (Cond.code yX13_mark cX13_mark 2 (some .int)) ∈ lw_tbl := List.mem_of_getElem? (i := 2198) (by decide +kernel)
theorem qt_1541 : (Cond.methodLink RL 203 yX11_back) ∈ lw_tbl := List.mem_of_getElem? (i := 1271) (by decide +kernel)
theorem qt_1542 : (Cond.instanceMethod yX11_back) ∈ lw_tbl := List.mem_of_getElem? (i := 1272) (by decide +kernel)
theorem qt_1543 : (Cond.selects RX11 yX11_back yX11_back) ∈ lw_tbl := List.mem_of_getElem? (i := 1273) (by decide +kernel)
theorem qt_1544 : (Cond.code yX11_back cX11_back 2 (some .boolean)) ∈ lw_tbl := List.mem_of_getElem? (i := 1274) (by decide +kernel)
theorem qt_1545 : (Cond.methodLink RX11 334 yX2_goToMark) ∈ lw_tbl := List.mem_of_getElem? (i := 1275) (by decide +kernel)
theorem qt_1546 : (Cond.instanceMethod yX2_goToMark) ∈ lw_tbl := List.mem_of_getElem? (i := 1276) (by decide +kernel)
theorem qt_1547 : (Cond.selects RX2 yX2_goToMark yX2_goToMark) ∈ lw_tbl := List.mem_of_getElem? (i := 1277) (by decide +kernel)
theorem qt_1548 : (Cond.code yX2_goToMark cX2_goToMark 3 (some .boolean)) ∈ lw_tbl := List.mem_of_getElem? (i := 1278) (by decide +kernel)
theorem qt_1549 : (Cond.methodLink RL 206 yX13_back) ∈ lw_tbl := List.mem_of_getElem? (i := 2199) (by decide +kernel)
theorem qt_1550 : (Cond.instanceMethod yX13_back) ∈ lw_tbl := List.mem_of_getElem? (i := 2200) (by decide +kernel)
theorem qt_1551 : (Cond.selects RX13 yX13_back yX13_back) ∈ lw_tbl := List.mem_of_getElem? (i := 2201) (by decide +kernel)
theorem WLr_96 : ∀ w ∈ WL_96, w ∈ lw_tbl := List.forall_mem_cons.mpr ⟨qt_1536, List.forall_mem_cons.mpr ⟨qt_1537, List.forall_mem_cons.mpr ⟨qt_1538, List.forall_mem_cons.mpr ⟨qt_1539, List.forall_mem_cons.mpr ⟨qt_1540, List.forall_mem_cons.mpr ⟨qt_1541, List.forall_mem_cons.mpr ⟨qt_1542, List.forall_mem_cons.mpr ⟨qt_1543, List.forall_mem_cons.mpr ⟨qt_1544, List.forall_mem_cons.mpr ⟨qt_1545, List.forall_mem_cons.mpr ⟨qt_1546, List.forall_mem_cons.mpr ⟨qt_1547, List.forall_mem_cons.mpr ⟨qt_1548, List.forall_mem_cons.mpr ⟨qt_1549, List.forall_mem_cons.mpr ⟨qt_1550, List.forall_mem_cons.mpr ⟨qt_1551, fun _ h => absurd h List.not_mem_nil⟩⟩⟩⟩⟩⟩⟩⟩⟩⟩⟩⟩⟩⟩⟩⟩
def WL_97 : List Cond := [Cond.code yX13_back cX13_back 3 (some .boolean), Cond.methodLink RL 207 yX11_stone, Cond.instanceMethod yX11_stone, Cond.selects RX11 yX11_stone yX11_stone, Cond.code yX11_stone cX11_stone 3 (some .int), Cond.methodLink RL 210 yX13_stone, Cond.instanceMethod yX13_stone, Cond.selects RX13 yX13_stone yX13_stone, Cond.code yX13_stone cX13_stone 3 (some .int), Cond.methodLink RL 211 yL_led, Cond.static yL_led, Cond.initialized RL, Cond.codeWith yL_led cL_led 4 (some .int) [(0, 9, 12, 13)], Cond.classLink RL 13 "java/util/NoSuchElementException", Cond.methodLink RL 7 yX11_led, Cond.instanceMethod yX11_led]
theorem qt_1552 : (Cond.code yX13_back cX13_back 3 (some .boolean)) ∈ lw_tbl := List.mem_of_getElem? (i := 2202) (by decide +kernel)
theorem qt_1553 : (Cond.methodLink RL 207 yX11_stone) ∈ lw_tbl := List.mem_of_getElem? (i := 1279) (by decide +kernel)
theorem qt_1554 : (Cond.instanceMethod yX11_stone) ∈ lw_tbl := List.mem_of_getElem? (i := 1280) (by decide +kernel)
theorem qt_1555 : (Cond.selects RX11 yX11_stone yX11_stone) ∈ lw_tbl := List.mem_of_getElem? (i := 1281) (by decide +kernel)
theorem qt_1556 : (Cond.code yX11_stone cX11_stone 3 (some .int)) ∈ lw_tbl := List.mem_of_getElem? (i := 1282) (by decide +kernel)
theorem qt_1557 : (Cond.methodLink RL 210 yX13_stone) ∈ lw_tbl := List.mem_of_getElem? (i := 2203) (by decide +kernel)
theorem qt_1558 : (Cond.instanceMethod yX13_stone) ∈ lw_tbl := List.mem_of_getElem? (i := 2204) (by decide +kernel)
theorem qt_1559 : (Cond.selects RX13 yX13_stone yX13_stone) ∈ lw_tbl := List.mem_of_getElem? (i := 2205) (by decide +kernel)
theorem qt_1560 : (Cond.code yX13_stone cX13_stone 3 (some .int)) ∈ lw_tbl := List.mem_of_getElem? (i := 2206) (by decide +kernel)
theorem qt_1561 : (Cond.methodLink RL 211 yL_led) ∈ lw_tbl := List.mem_of_getElem? (i := 1299) (by decide +kernel)
theorem qt_1562 : (Cond.static yL_led) ∈ lw_tbl := List.mem_of_getElem? (i := 1300) (by decide +kernel)
theorem qt_1563 : (Cond.initialized RL) ∈ lw_tbl := List.mem_of_getElem? (i := 113) (by decide +kernel)
theorem qt_1564 : (Cond.codeWith yL_led cL_led 4 (some .int) [(0, 9, 12, 13)]) ∈ lw_tbl := List.mem_of_getElem? (i := 1301) (by decide +kernel)
theorem qt_1565 : (Cond.classLink RL 13 "java/util/NoSuchElementException") ∈ lw_tbl := List.mem_of_getElem? (i := 1302) (by decide +kernel)
theorem qt_1566 : (Cond.methodLink RL 7 yX11_led) ∈ lw_tbl := List.mem_of_getElem? (i := 1303) (by decide +kernel)
theorem qt_1567 : (Cond.instanceMethod yX11_led) ∈ lw_tbl := List.mem_of_getElem? (i := 1304) (by decide +kernel)
theorem WLr_97 : ∀ w ∈ WL_97, w ∈ lw_tbl := List.forall_mem_cons.mpr ⟨qt_1552, List.forall_mem_cons.mpr ⟨qt_1553, List.forall_mem_cons.mpr ⟨qt_1554, List.forall_mem_cons.mpr ⟨qt_1555, List.forall_mem_cons.mpr ⟨qt_1556, List.forall_mem_cons.mpr ⟨qt_1557, List.forall_mem_cons.mpr ⟨qt_1558, List.forall_mem_cons.mpr ⟨qt_1559, List.forall_mem_cons.mpr ⟨qt_1560, List.forall_mem_cons.mpr ⟨qt_1561, List.forall_mem_cons.mpr ⟨qt_1562, List.forall_mem_cons.mpr ⟨qt_1563, List.forall_mem_cons.mpr ⟨qt_1564, List.forall_mem_cons.mpr ⟨qt_1565, List.forall_mem_cons.mpr ⟨qt_1566, List.forall_mem_cons.mpr ⟨qt_1567, fun _ h => absurd h List.not_mem_nil⟩⟩⟩⟩⟩⟩⟩⟩⟩⟩⟩⟩⟩⟩⟩⟩
def WL_98 : List Cond := [Cond.selects RX11 yX11_led yX11_led, Cond.code yX11_led cX11_led 4 (some .int), Cond.classLink RX11 338 "java/util/NoSuchElementException", Cond.initialized "java/util/NoSuchElementException", Cond.methodLink RL 216 yX13_led, Cond.instanceMethod yX13_led, Cond.selects RX13 yX13_led yX13_led, Cond.code yX13_led cX13_led 4 (some .int), Cond.methodLink RL 217 yX13_thrown, Cond.instanceMethod yX13_thrown, Cond.selects RX13 yX13_thrown yX13_thrown, Cond.code yX13_thrown cX13_thrown 1 (some .int), Cond.methodLink RL 220 yX11_size, Cond.instanceMethod yX11_size, Cond.selects RX11 yX11_size yX11_size, Cond.code yX11_size cX11_size 2 (some .int)]
theorem qt_1568 : (Cond.selects RX11 yX11_led yX11_led) ∈ lw_tbl := List.mem_of_getElem? (i := 1305) (by decide +kernel)
theorem qt_1569 : (Cond.code yX11_led cX11_led 4 (some .int)) ∈ lw_tbl := List.mem_of_getElem? (i := 1306) (by decide +kernel)
theorem qt_1570 : (Cond.classLink RX11 338 "java/util/NoSuchElementException") ∈ lw_tbl := List.mem_of_getElem? (i := 1307) (by decide +kernel)
theorem qt_1571 : (Cond.initialized "java/util/NoSuchElementException") ∈ lw_tbl := List.mem_of_getElem? (i := 138) (by decide +kernel)
theorem qt_1572 : (Cond.methodLink RL 216 yX13_led) ∈ lw_tbl := List.mem_of_getElem? (i := 2207) (by decide +kernel)
theorem qt_1573 : (Cond.instanceMethod yX13_led) ∈ lw_tbl := List.mem_of_getElem? (i := 2208) (by decide +kernel)
theorem qt_1574 : (Cond.selects RX13 yX13_led yX13_led) ∈ lw_tbl := List.mem_of_getElem? (i := 2209) (by decide +kernel)
theorem qt_1575 : (Cond.code yX13_led cX13_led 4 (some .int)) ∈ lw_tbl := List.mem_of_getElem? (i := 2210) (by decide +kernel)
theorem qt_1576 : (Cond.methodLink RL 217 yX13_thrown) ∈ lw_tbl := List.mem_of_getElem? (i := 1486) (by decide +kernel)
theorem qt_1577 : (Cond.instanceMethod yX13_thrown) ∈ lw_tbl := List.mem_of_getElem? (i := 1487) (by decide +kernel)
theorem qt_1578 : (Cond.selects RX13 yX13_thrown yX13_thrown) ∈ lw_tbl := List.mem_of_getElem? (i := 1488) (by decide +kernel)
theorem qt_1579 : (Cond.code yX13_thrown cX13_thrown 1 (some .int)) ∈ lw_tbl := List.mem_of_getElem? (i := 1489) (by decide +kernel)
theorem qt_1580 : (Cond.methodLink RL 220 yX11_size) ∈ lw_tbl := List.mem_of_getElem? (i := 1283) (by decide +kernel)
theorem qt_1581 : (Cond.instanceMethod yX11_size) ∈ lw_tbl := List.mem_of_getElem? (i := 1284) (by decide +kernel)
theorem qt_1582 : (Cond.selects RX11 yX11_size yX11_size) ∈ lw_tbl := List.mem_of_getElem? (i := 1285) (by decide +kernel)
theorem qt_1583 : (Cond.code yX11_size cX11_size 2 (some .int)) ∈ lw_tbl := List.mem_of_getElem? (i := 1286) (by decide +kernel)
theorem WLr_98 : ∀ w ∈ WL_98, w ∈ lw_tbl := List.forall_mem_cons.mpr ⟨qt_1568, List.forall_mem_cons.mpr ⟨qt_1569, List.forall_mem_cons.mpr ⟨qt_1570, List.forall_mem_cons.mpr ⟨qt_1571, List.forall_mem_cons.mpr ⟨qt_1572, List.forall_mem_cons.mpr ⟨qt_1573, List.forall_mem_cons.mpr ⟨qt_1574, List.forall_mem_cons.mpr ⟨qt_1575, List.forall_mem_cons.mpr ⟨qt_1576, List.forall_mem_cons.mpr ⟨qt_1577, List.forall_mem_cons.mpr ⟨qt_1578, List.forall_mem_cons.mpr ⟨qt_1579, List.forall_mem_cons.mpr ⟨qt_1580, List.forall_mem_cons.mpr ⟨qt_1581, List.forall_mem_cons.mpr ⟨qt_1582, List.forall_mem_cons.mpr ⟨qt_1583, fun _ h => absurd h List.not_mem_nil⟩⟩⟩⟩⟩⟩⟩⟩⟩⟩⟩⟩⟩⟩⟩⟩
def WL_99 : List Cond := [Cond.methodLink RX11 341 yX11_sizeTold, Cond.instanceMethod yX11_sizeTold, Cond.selects RX11 yX11_sizeTold yX11_sizeTold, Cond.code yX11_sizeTold cX11_sizeTold 2 (some .int), Cond.fieldLink RX11 347 "YearSkins$Land" "far" "Z", Cond.fieldLink RX11 350 "YearSkins$Land" "share" "Z", Cond.methodLink RX11 344 yX11_sizeNow, Cond.instanceMethod yX11_sizeNow, Cond.selects RX11 yX11_sizeNow yX11_sizeNow, Cond.code yX11_sizeNow cX11_sizeNow 2 (some .int), Cond.fieldLink RX11 362 "YearSkins$Past" "acts" "I", Cond.fieldLink RX11 365 "YearSkins$Past" "marks" "I", Cond.methodLink RL 223 yX13_size, Cond.instanceMethod yX13_size, Cond.selects RX13 yX13_size yX13_size, Cond.code yX13_size cX13_size 2 (some .int)]
theorem qt_1584 : (Cond.methodLink RX11 341 yX11_sizeTold) ∈ lw_tbl := List.mem_of_getElem? (i := 1287) (by decide +kernel)
theorem qt_1585 : (Cond.instanceMethod yX11_sizeTold) ∈ lw_tbl := List.mem_of_getElem? (i := 1289) (by decide +kernel)
theorem qt_1586 : (Cond.selects RX11 yX11_sizeTold yX11_sizeTold) ∈ lw_tbl := List.mem_of_getElem? (i := 46) (by decide +kernel)
theorem qt_1587 : (Cond.code yX11_sizeTold cX11_sizeTold 2 (some .int)) ∈ lw_tbl := List.mem_of_getElem? (i := 1290) (by decide +kernel)
theorem qt_1588 : (Cond.fieldLink RX11 347 "YearSkins$Land" "far" "Z") ∈ lw_tbl := List.mem_of_getElem? (i := 161) (by decide +kernel)
theorem qt_1589 : (Cond.fieldLink RX11 350 "YearSkins$Land" "share" "Z") ∈ lw_tbl := List.mem_of_getElem? (i := 164) (by decide +kernel)
theorem qt_1590 : (Cond.methodLink RX11 344 yX11_sizeNow) ∈ lw_tbl := List.mem_of_getElem? (i := 1291) (by decide +kernel)
theorem qt_1591 : (Cond.instanceMethod yX11_sizeNow) ∈ lw_tbl := List.mem_of_getElem? (i := 1293) (by decide +kernel)
theorem qt_1592 : (Cond.selects RX11 yX11_sizeNow yX11_sizeNow) ∈ lw_tbl := List.mem_of_getElem? (i := 47) (by decide +kernel)
theorem qt_1593 : (Cond.code yX11_sizeNow cX11_sizeNow 2 (some .int)) ∈ lw_tbl := List.mem_of_getElem? (i := 1294) (by decide +kernel)
theorem qt_1594 : (Cond.fieldLink RX11 362 "YearSkins$Past" "acts" "I") ∈ lw_tbl := List.mem_of_getElem? (i := 454) (by decide +kernel)
theorem qt_1595 : (Cond.fieldLink RX11 365 "YearSkins$Past" "marks" "I") ∈ lw_tbl := List.mem_of_getElem? (i := 456) (by decide +kernel)
theorem qt_1596 : (Cond.methodLink RL 223 yX13_size) ∈ lw_tbl := List.mem_of_getElem? (i := 2211) (by decide +kernel)
theorem qt_1597 : (Cond.instanceMethod yX13_size) ∈ lw_tbl := List.mem_of_getElem? (i := 2212) (by decide +kernel)
theorem qt_1598 : (Cond.selects RX13 yX13_size yX13_size) ∈ lw_tbl := List.mem_of_getElem? (i := 2213) (by decide +kernel)
theorem qt_1599 : (Cond.code yX13_size cX13_size 2 (some .int)) ∈ lw_tbl := List.mem_of_getElem? (i := 2214) (by decide +kernel)
theorem WLr_99 : ∀ w ∈ WL_99, w ∈ lw_tbl := List.forall_mem_cons.mpr ⟨qt_1584, List.forall_mem_cons.mpr ⟨qt_1585, List.forall_mem_cons.mpr ⟨qt_1586, List.forall_mem_cons.mpr ⟨qt_1587, List.forall_mem_cons.mpr ⟨qt_1588, List.forall_mem_cons.mpr ⟨qt_1589, List.forall_mem_cons.mpr ⟨qt_1590, List.forall_mem_cons.mpr ⟨qt_1591, List.forall_mem_cons.mpr ⟨qt_1592, List.forall_mem_cons.mpr ⟨qt_1593, List.forall_mem_cons.mpr ⟨qt_1594, List.forall_mem_cons.mpr ⟨qt_1595, List.forall_mem_cons.mpr ⟨qt_1596, List.forall_mem_cons.mpr ⟨qt_1597, List.forall_mem_cons.mpr ⟨qt_1598, List.forall_mem_cons.mpr ⟨qt_1599, fun _ h => absurd h List.not_mem_nil⟩⟩⟩⟩⟩⟩⟩⟩⟩⟩⟩⟩⟩⟩⟩⟩
def WL_100 : List Cond := [Cond.methodLink RL 224 yX11_trouble, Cond.instanceMethod yX11_trouble, Cond.selects RX11 yX11_trouble yX11_trouble, Cond.code yX11_trouble cX11_trouble 1 (some .int), Cond.methodLink RL 227 yX13_trouble, Cond.instanceMethod yX13_trouble, Cond.selects RX13 yX13_trouble yX13_trouble, Cond.code yX13_trouble cX13_trouble 1 (some .int)]
theorem qt_1600 : (Cond.methodLink RL 224 yX11_trouble) ∈ lw_tbl := List.mem_of_getElem? (i := 1295) (by decide +kernel)
theorem qt_1601 : (Cond.instanceMethod yX11_trouble) ∈ lw_tbl := List.mem_of_getElem? (i := 1296) (by decide +kernel)
theorem qt_1602 : (Cond.selects RX11 yX11_trouble yX11_trouble) ∈ lw_tbl := List.mem_of_getElem? (i := 1297) (by decide +kernel)
theorem qt_1603 : (Cond.code yX11_trouble cX11_trouble 1 (some .int)) ∈ lw_tbl := List.mem_of_getElem? (i := 1298) (by decide +kernel)
theorem qt_1604 : (Cond.methodLink RL 227 yX13_trouble) ∈ lw_tbl := List.mem_of_getElem? (i := 2215) (by decide +kernel)
theorem qt_1605 : (Cond.instanceMethod yX13_trouble) ∈ lw_tbl := List.mem_of_getElem? (i := 2216) (by decide +kernel)
theorem qt_1606 : (Cond.selects RX13 yX13_trouble yX13_trouble) ∈ lw_tbl := List.mem_of_getElem? (i := 2217) (by decide +kernel)
theorem qt_1607 : (Cond.code yX13_trouble cX13_trouble 1 (some .int)) ∈ lw_tbl := List.mem_of_getElem? (i := 2218) (by decide +kernel)
theorem WLr_100 : ∀ w ∈ WL_100, w ∈ lw_tbl := List.forall_mem_cons.mpr ⟨qt_1600, List.forall_mem_cons.mpr ⟨qt_1601, List.forall_mem_cons.mpr ⟨qt_1602, List.forall_mem_cons.mpr ⟨qt_1603, List.forall_mem_cons.mpr ⟨qt_1604, List.forall_mem_cons.mpr ⟨qt_1605, List.forall_mem_cons.mpr ⟨qt_1606, List.forall_mem_cons.mpr ⟨qt_1607, fun _ h => absurd h List.not_mem_nil⟩⟩⟩⟩⟩⟩⟩⟩
theorem inX0 : ∀ w ∈ wsX00, w ∈ lw_tbl := by decide +kernel
theorem inX1 : ∀ w ∈ wsX10, w ∈ lw_tbl := by decide +kernel
theorem inX2 : ∀ w ∈ wsX20, w ∈ lw_tbl := by decide +kernel
theorem inX3 : ∀ w ∈ wsX30, w ∈ lw_tbl := by decide +kernel
theorem inX7 : ∀ w ∈ wsX70, w ∈ lw_tbl := by decide +kernel
theorem inX8 : ∀ w ∈ wsX80, w ∈ lw_tbl := by decide +kernel
theorem inX9 : ∀ w ∈ wsX90, w ∈ lw_tbl := by decide +kernel
theorem inX10 : ∀ w ∈ wsX100, w ∈ lw_tbl := by decide +kernel
theorem inX11 : ∀ w ∈ wsX110, w ∈ lw_tbl := by decide +kernel
theorem inX12 : ∀ w ∈ wsX120, w ∈ lw_tbl := by decide +kernel
theorem inX13 : ∀ w ∈ wsX130, w ∈ lw_tbl := by decide +kernel
def wsL_law : List Cond := WL_0 ++ (WL_1 ++ (WL_2 ++ (WL_3 ++ (WL_4 ++ (WL_5 ++ (WL_6 ++ (WL_7 ++ (WL_8 ++ (WL_9 ++ (WL_10 ++ (WL_11 ++ (WL_12 ++ (WL_13 ++ (WL_14 ++ (WL_15 ++ (WL_16 ++ (WL_17 ++ (WL_18 ++ (WL_19 ++ (WL_20 ++ (WL_21 ++ (WL_22 ++ (WL_23 ++ (WL_24 ++ (WL_25 ++ (WL_26 ++ (WL_27 ++ (WL_28 ++ (WL_29 ++ (WL_30 ++ (WL_31 ++ (WL_32 ++ (WL_33 ++ (WL_34 ++ (WL_35 ++ (WL_36 ++ (WL_37 ++ (WL_38 ++ (WL_39 ++ (WL_40 ++ (WL_41 ++ (WL_42 ++ (WL_43 ++ (WL_44 ++ (WL_45 ++ (WL_46 ++ (WL_47 ++ (WL_48 ++ (WL_49 ++ (WL_50 ++ (WL_51 ++ (WL_52 ++ (WL_53 ++ (WL_54 ++ (WL_55 ++ (WL_56 ++ (WL_57 ++ (WL_58 ++ (WL_59 ++ (WL_60 ++ (WL_61 ++ (WL_62 ++ (WL_63 ++ (WL_64 ++ (WL_65 ++ (WL_66 ++ (WL_67 ++ (WL_68 ++ (WL_69 ++ (WL_70 ++ (WL_71 ++ (WL_72 ++ (WL_73 ++ (WL_74 ++ (WL_75 ++ (WL_76 ++ (WL_77 ++ (WL_78 ++ (WL_79 ++ (WL_80 ++ (WL_81 ++ (WL_82 ++ (WL_83 ++ (WL_84 ++ (WL_85 ++ (WL_86 ++ (WL_87 ++ (WL_88 ++ (WL_89 ++ (WL_90 ++ (WL_91 ++ (WL_92 ++ (WL_93 ++ (WL_94 ++ (WL_95 ++ (WL_96 ++ (WL_97 ++ (WL_98 ++ (WL_99 ++ (WL_100 ++ (wsX00 ++ (wsX10 ++ (wsX20 ++ (wsX30 ++ (wsX70 ++ (wsX80 ++ (wsX90 ++ (wsX100 ++ (wsX110 ++ (wsX120 ++ (wsX130)))))))))))))))))))))))))))))))))))))))))))))))))))))))))))))))))))))))))))))))))))))))))))))))))))))))))))))))
theorem wsL_law_in : ∀ w ∈ wsL_law, w ∈ lw_tbl := List.forall_mem_append.mpr ⟨WLr_0, List.forall_mem_append.mpr ⟨WLr_1, List.forall_mem_append.mpr ⟨WLr_2, List.forall_mem_append.mpr ⟨WLr_3, List.forall_mem_append.mpr ⟨WLr_4, List.forall_mem_append.mpr ⟨WLr_5, List.forall_mem_append.mpr ⟨WLr_6, List.forall_mem_append.mpr ⟨WLr_7, List.forall_mem_append.mpr ⟨WLr_8, List.forall_mem_append.mpr ⟨WLr_9, List.forall_mem_append.mpr ⟨WLr_10, List.forall_mem_append.mpr ⟨WLr_11, List.forall_mem_append.mpr ⟨WLr_12, List.forall_mem_append.mpr ⟨WLr_13, List.forall_mem_append.mpr ⟨WLr_14, List.forall_mem_append.mpr ⟨WLr_15, List.forall_mem_append.mpr ⟨WLr_16, List.forall_mem_append.mpr ⟨WLr_17, List.forall_mem_append.mpr ⟨WLr_18, List.forall_mem_append.mpr ⟨WLr_19, List.forall_mem_append.mpr ⟨WLr_20, List.forall_mem_append.mpr ⟨WLr_21, List.forall_mem_append.mpr ⟨WLr_22, List.forall_mem_append.mpr ⟨WLr_23, List.forall_mem_append.mpr ⟨WLr_24, List.forall_mem_append.mpr ⟨WLr_25, List.forall_mem_append.mpr ⟨WLr_26, List.forall_mem_append.mpr ⟨WLr_27, List.forall_mem_append.mpr ⟨WLr_28, List.forall_mem_append.mpr ⟨WLr_29, List.forall_mem_append.mpr ⟨WLr_30, List.forall_mem_append.mpr ⟨WLr_31, List.forall_mem_append.mpr ⟨WLr_32, List.forall_mem_append.mpr ⟨WLr_33, List.forall_mem_append.mpr ⟨WLr_34, List.forall_mem_append.mpr ⟨WLr_35, List.forall_mem_append.mpr ⟨WLr_36, List.forall_mem_append.mpr ⟨WLr_37, List.forall_mem_append.mpr ⟨WLr_38, List.forall_mem_append.mpr ⟨WLr_39, List.forall_mem_append.mpr ⟨WLr_40, List.forall_mem_append.mpr ⟨WLr_41, List.forall_mem_append.mpr ⟨WLr_42, List.forall_mem_append.mpr ⟨WLr_43, List.forall_mem_append.mpr ⟨WLr_44, List.forall_mem_append.mpr ⟨WLr_45, List.forall_mem_append.mpr ⟨WLr_46, List.forall_mem_append.mpr ⟨WLr_47, List.forall_mem_append.mpr ⟨WLr_48, List.forall_mem_append.mpr ⟨WLr_49, List.forall_mem_append.mpr ⟨WLr_50, List.forall_mem_append.mpr ⟨WLr_51, List.forall_mem_append.mpr ⟨WLr_52, List.forall_mem_append.mpr ⟨WLr_53, List.forall_mem_append.mpr ⟨WLr_54, List.forall_mem_append.mpr ⟨WLr_55, List.forall_mem_append.mpr ⟨WLr_56, List.forall_mem_append.mpr ⟨WLr_57, List.forall_mem_append.mpr ⟨WLr_58, List.forall_mem_append.mpr ⟨WLr_59, List.forall_mem_append.mpr ⟨WLr_60, List.forall_mem_append.mpr ⟨WLr_61, List.forall_mem_append.mpr ⟨WLr_62, List.forall_mem_append.mpr ⟨WLr_63, List.forall_mem_append.mpr ⟨WLr_64, List.forall_mem_append.mpr ⟨WLr_65, List.forall_mem_append.mpr ⟨WLr_66, List.forall_mem_append.mpr ⟨WLr_67, List.forall_mem_append.mpr ⟨WLr_68, List.forall_mem_append.mpr ⟨WLr_69, List.forall_mem_append.mpr ⟨WLr_70, List.forall_mem_append.mpr ⟨WLr_71, List.forall_mem_append.mpr ⟨WLr_72, List.forall_mem_append.mpr ⟨WLr_73, List.forall_mem_append.mpr ⟨WLr_74, List.forall_mem_append.mpr ⟨WLr_75, List.forall_mem_append.mpr ⟨WLr_76, List.forall_mem_append.mpr ⟨WLr_77, List.forall_mem_append.mpr ⟨WLr_78, List.forall_mem_append.mpr ⟨WLr_79, List.forall_mem_append.mpr ⟨WLr_80, List.forall_mem_append.mpr ⟨WLr_81, List.forall_mem_append.mpr ⟨WLr_82, List.forall_mem_append.mpr ⟨WLr_83, List.forall_mem_append.mpr ⟨WLr_84, List.forall_mem_append.mpr ⟨WLr_85, List.forall_mem_append.mpr ⟨WLr_86, List.forall_mem_append.mpr ⟨WLr_87, List.forall_mem_append.mpr ⟨WLr_88, List.forall_mem_append.mpr ⟨WLr_89, List.forall_mem_append.mpr ⟨WLr_90, List.forall_mem_append.mpr ⟨WLr_91, List.forall_mem_append.mpr ⟨WLr_92, List.forall_mem_append.mpr ⟨WLr_93, List.forall_mem_append.mpr ⟨WLr_94, List.forall_mem_append.mpr ⟨WLr_95, List.forall_mem_append.mpr ⟨WLr_96, List.forall_mem_append.mpr ⟨WLr_97, List.forall_mem_append.mpr ⟨WLr_98, List.forall_mem_append.mpr ⟨WLr_99, List.forall_mem_append.mpr ⟨WLr_100, List.forall_mem_append.mpr ⟨inX0, List.forall_mem_append.mpr ⟨inX1, List.forall_mem_append.mpr ⟨inX2, List.forall_mem_append.mpr ⟨inX3, List.forall_mem_append.mpr ⟨inX7, List.forall_mem_append.mpr ⟨inX8, List.forall_mem_append.mpr ⟨inX9, List.forall_mem_append.mpr ⟨inX10, List.forall_mem_append.mpr ⟨inX11, List.forall_mem_append.mpr ⟨inX12, inX13⟩⟩⟩⟩⟩⟩⟩⟩⟩⟩⟩⟩⟩⟩⟩⟩⟩⟩⟩⟩⟩⟩⟩⟩⟩⟩⟩⟩⟩⟩⟩⟩⟩⟩⟩⟩⟩⟩⟩⟩⟩⟩⟩⟩⟩⟩⟩⟩⟩⟩⟩⟩⟩⟩⟩⟩⟩⟩⟩⟩⟩⟩⟩⟩⟩⟩⟩⟩⟩⟩⟩⟩⟩⟩⟩⟩⟩⟩⟩⟩⟩⟩⟩⟩⟩⟩⟩⟩⟩⟩⟩⟩⟩⟩⟩⟩⟩⟩⟩⟩⟩⟩⟩⟩⟩⟩⟩⟩⟩⟩⟩
theorem WLi_0 : ∀ w ∈ WL_0, w ∈ wsL_law := fun _ h => List.mem_append_left _ (h)
theorem WLi_1 : ∀ w ∈ WL_1, w ∈ wsL_law := fun _ h => List.mem_append_right _ (List.mem_append_left _ (h))
theorem WLi_2 : ∀ w ∈ WL_2, w ∈ wsL_law := fun _ h => List.mem_append_right _ (List.mem_append_right _ (List.mem_append_left _ (h)))
theorem WLi_3 : ∀ w ∈ WL_3, w ∈ wsL_law := fun _ h => List.mem_append_right _ (List.mem_append_right _ (List.mem_append_right _ (List.mem_append_left _ (h))))
theorem WLi_4 : ∀ w ∈ WL_4, w ∈ wsL_law := fun _ h => List.mem_append_right _ (List.mem_append_right _ (List.mem_append_right _ (List.mem_append_right _ (List.mem_append_left _ (h)))))
theorem WLi_5 : ∀ w ∈ WL_5, w ∈ wsL_law := fun _ h => List.mem_append_right _ (List.mem_append_right _ (List.mem_append_right _ (List.mem_append_right _ (List.mem_append_right _ (List.mem_append_left _ (h))))))
theorem WLi_6 : ∀ w ∈ WL_6, w ∈ wsL_law := fun _ h => List.mem_append_right _ (List.mem_append_right _ (List.mem_append_right _ (List.mem_append_right _ (List.mem_append_right _ (List.mem_append_right _ (List.mem_append_left _ (h)))))))
theorem WLi_7 : ∀ w ∈ WL_7, w ∈ wsL_law := fun _ h => List.mem_append_right _ (List.mem_append_right _ (List.mem_append_right _ (List.mem_append_right _ (List.mem_append_right _ (List.mem_append_right _ (List.mem_append_right _ (List.mem_append_left _ (h))))))))
theorem WLi_8 : ∀ w ∈ WL_8, w ∈ wsL_law := fun _ h => List.mem_append_right _ (List.mem_append_right _ (List.mem_append_right _ (List.mem_append_right _ (List.mem_append_right _ (List.mem_append_right _ (List.mem_append_right _ (List.mem_append_right _ (List.mem_append_left _ (h)))))))))
theorem WLi_9 : ∀ w ∈ WL_9, w ∈ wsL_law := fun _ h => List.mem_append_right _ (List.mem_append_right _ (List.mem_append_right _ (List.mem_append_right _ (List.mem_append_right _ (List.mem_append_right _ (List.mem_append_right _ (List.mem_append_right _ (List.mem_append_right _ (List.mem_append_left _ (h))))))))))
theorem WLi_10 : ∀ w ∈ WL_10, w ∈ wsL_law := fun _ h => List.mem_append_right _ (List.mem_append_right _ (List.mem_append_right _ (List.mem_append_right _ (List.mem_append_right _ (List.mem_append_right _ (List.mem_append_right _ (List.mem_append_right _ (List.mem_append_right _ (List.mem_append_right _ (List.mem_append_left _ (h)))))))))))
theorem WLi_11 : ∀ w ∈ WL_11, w ∈ wsL_law := fun _ h => List.mem_append_right _ (List.mem_append_right _ (List.mem_append_right _ (List.mem_append_right _ (List.mem_append_right _ (List.mem_append_right _ (List.mem_append_right _ (List.mem_append_right _ (List.mem_append_right _ (List.mem_append_right _ (List.mem_append_right _ (List.mem_append_left _ (h))))))))))))
theorem WLi_12 : ∀ w ∈ WL_12, w ∈ wsL_law := fun _ h => List.mem_append_right _ (List.mem_append_right _ (List.mem_append_right _ (List.mem_append_right _ (List.mem_append_right _ (List.mem_append_right _ (List.mem_append_right _ (List.mem_append_right _ (List.mem_append_right _ (List.mem_append_right _ (List.mem_append_right _ (List.mem_append_right _ (List.mem_append_left _ (h)))))))))))))
theorem WLi_13 : ∀ w ∈ WL_13, w ∈ wsL_law := fun _ h => List.mem_append_right _ (List.mem_append_right _ (List.mem_append_right _ (List.mem_append_right _ (List.mem_append_right _ (List.mem_append_right _ (List.mem_append_right _ (List.mem_append_right _ (List.mem_append_right _ (List.mem_append_right _ (List.mem_append_right _ (List.mem_append_right _ (List.mem_append_right _ (List.mem_append_left _ (h))))))))))))))
theorem WLi_14 : ∀ w ∈ WL_14, w ∈ wsL_law := fun _ h => List.mem_append_right _ (List.mem_append_right _ (List.mem_append_right _ (List.mem_append_right _ (List.mem_append_right _ (List.mem_append_right _ (List.mem_append_right _ (List.mem_append_right _ (List.mem_append_right _ (List.mem_append_right _ (List.mem_append_right _ (List.mem_append_right _ (List.mem_append_right _ (List.mem_append_right _ (List.mem_append_left _ (h)))))))))))))))
theorem WLi_15 : ∀ w ∈ WL_15, w ∈ wsL_law := fun _ h => List.mem_append_right _ (List.mem_append_right _ (List.mem_append_right _ (List.mem_append_right _ (List.mem_append_right _ (List.mem_append_right _ (List.mem_append_right _ (List.mem_append_right _ (List.mem_append_right _ (List.mem_append_right _ (List.mem_append_right _ (List.mem_append_right _ (List.mem_append_right _ (List.mem_append_right _ (List.mem_append_right _ (List.mem_append_left _ (h))))))))))))))))
theorem WLi_16 : ∀ w ∈ WL_16, w ∈ wsL_law := fun _ h => List.mem_append_right _ (List.mem_append_right _ (List.mem_append_right _ (List.mem_append_right _ (List.mem_append_right _ (List.mem_append_right _ (List.mem_append_right _ (List.mem_append_right _ (List.mem_append_right _ (List.mem_append_right _ (List.mem_append_right _ (List.mem_append_right _ (List.mem_append_right _ (List.mem_append_right _ (List.mem_append_right _ (List.mem_append_right _ (List.mem_append_left _ (h)))))))))))))))))
theorem WLi_17 : ∀ w ∈ WL_17, w ∈ wsL_law := fun _ h => List.mem_append_right _ (List.mem_append_right _ (List.mem_append_right _ (List.mem_append_right _ (List.mem_append_right _ (List.mem_append_right _ (List.mem_append_right _ (List.mem_append_right _ (List.mem_append_right _ (List.mem_append_right _ (List.mem_append_right _ (List.mem_append_right _ (List.mem_append_right _ (List.mem_append_right _ (List.mem_append_right _ (List.mem_append_right _ (List.mem_append_right _ (List.mem_append_left _ (h))))))))))))))))))
theorem WLi_18 : ∀ w ∈ WL_18, w ∈ wsL_law := fun _ h => List.mem_append_right _ (List.mem_append_right _ (List.mem_append_right _ (List.mem_append_right _ (List.mem_append_right _ (List.mem_append_right _ (List.mem_append_right _ (List.mem_append_right _ (List.mem_append_right _ (List.mem_append_right _ (List.mem_append_right _ (List.mem_append_right _ (List.mem_append_right _ (List.mem_append_right _ (List.mem_append_right _ (List.mem_append_right _ (List.mem_append_right _ (List.mem_append_right _ (List.mem_append_left _ (h)))))))))))))))))))
theorem WLi_19 : ∀ w ∈ WL_19, w ∈ wsL_law := fun _ h => List.mem_append_right _ (List.mem_append_right _ (List.mem_append_right _ (List.mem_append_right _ (List.mem_append_right _ (List.mem_append_right _ (List.mem_append_right _ (List.mem_append_right _ (List.mem_append_right _ (List.mem_append_right _ (List.mem_append_right _ (List.mem_append_right _ (List.mem_append_right _ (List.mem_append_right _ (List.mem_append_right _ (List.mem_append_right _ (List.mem_append_right _ (List.mem_append_right _ (List.mem_append_right _ (List.mem_append_left _ (h))))))))))))))))))))
theorem WLi_20 : ∀ w ∈ WL_20, w ∈ wsL_law := fun _ h => List.mem_append_right _ (List.mem_append_right _ (List.mem_append_right _ (List.mem_append_right _ (List.mem_append_right _ (List.mem_append_right _ (List.mem_append_right _ (List.mem_append_right _ (List.mem_append_right _ (List.mem_append_right _ (List.mem_append_right _ (List.mem_append_right _ (List.mem_append_right _ (List.mem_append_right _ (List.mem_append_right _ (List.mem_append_right _ (List.mem_append_right _ (List.mem_append_right _ (List.mem_append_right _ (List.mem_append_right _ (List.mem_append_left _ (h)))))))))))))))))))))
theorem WLi_21 : ∀ w ∈ WL_21, w ∈ wsL_law := fun _ h => List.mem_append_right _ (List.mem_append_right _ (List.mem_append_right _ (List.mem_append_right _ (List.mem_append_right _ (List.mem_append_right _ (List.mem_append_right _ (List.mem_append_right _ (List.mem_append_right _ (List.mem_append_right _ (List.mem_append_right _ (List.mem_append_right _ (List.mem_append_right _ (List.mem_append_right _ (List.mem_append_right _ (List.mem_append_right _ (List.mem_append_right _ (List.mem_append_right _ (List.mem_append_right _ (List.mem_append_right _ (List.mem_append_right _ (List.mem_append_left _ (h))))))))))))))))))))))
theorem WLi_22 : ∀ w ∈ WL_22, w ∈ wsL_law := fun _ h => List.mem_append_right _ (List.mem_append_right _ (List.mem_append_right _ (List.mem_append_right _ (List.mem_append_right _ (List.mem_append_right _ (List.mem_append_right _ (List.mem_append_right _ (List.mem_append_right _ (List.mem_append_right _ (List.mem_append_right _ (List.mem_append_right _ (List.mem_append_right _ (List.mem_append_right _ (List.mem_append_right _ (List.mem_append_right _ (List.mem_append_right _ (List.mem_append_right _ (List.mem_append_right _ (List.mem_append_right _ (List.mem_append_right _ (List.mem_append_right _ (List.mem_append_left _ (h)))))))))))))))))))))))
theorem WLi_23 : ∀ w ∈ WL_23, w ∈ wsL_law := fun _ h => List.mem_append_right _ (List.mem_append_right _ (List.mem_append_right _ (List.mem_append_right _ (List.mem_append_right _ (List.mem_append_right _ (List.mem_append_right _ (List.mem_append_right _ (List.mem_append_right _ (List.mem_append_right _ (List.mem_append_right _ (List.mem_append_right _ (List.mem_append_right _ (List.mem_append_right _ (List.mem_append_right _ (List.mem_append_right _ (List.mem_append_right _ (List.mem_append_right _ (List.mem_append_right _ (List.mem_append_right _ (List.mem_append_right _ (List.mem_append_right _ (List.mem_append_right _ (List.mem_append_left _ (h))))))))))))))))))))))))
theorem WLi_24 : ∀ w ∈ WL_24, w ∈ wsL_law := fun _ h => List.mem_append_right _ (List.mem_append_right _ (List.mem_append_right _ (List.mem_append_right _ (List.mem_append_right _ (List.mem_append_right _ (List.mem_append_right _ (List.mem_append_right _ (List.mem_append_right _ (List.mem_append_right _ (List.mem_append_right _ (List.mem_append_right _ (List.mem_append_right _ (List.mem_append_right _ (List.mem_append_right _ (List.mem_append_right _ (List.mem_append_right _ (List.mem_append_right _ (List.mem_append_right _ (List.mem_append_right _ (List.mem_append_right _ (List.mem_append_right _ (List.mem_append_right _ (List.mem_append_right _ (List.mem_append_left _ (h)))))))))))))))))))))))))
theorem WLi_25 : ∀ w ∈ WL_25, w ∈ wsL_law := fun _ h => List.mem_append_right _ (List.mem_append_right _ (List.mem_append_right _ (List.mem_append_right _ (List.mem_append_right _ (List.mem_append_right _ (List.mem_append_right _ (List.mem_append_right _ (List.mem_append_right _ (List.mem_append_right _ (List.mem_append_right _ (List.mem_append_right _ (List.mem_append_right _ (List.mem_append_right _ (List.mem_append_right _ (List.mem_append_right _ (List.mem_append_right _ (List.mem_append_right _ (List.mem_append_right _ (List.mem_append_right _ (List.mem_append_right _ (List.mem_append_right _ (List.mem_append_right _ (List.mem_append_right _ (List.mem_append_right _ (List.mem_append_left _ (h))))))))))))))))))))))))))
theorem WLi_26 : ∀ w ∈ WL_26, w ∈ wsL_law := fun _ h => List.mem_append_right _ (List.mem_append_right _ (List.mem_append_right _ (List.mem_append_right _ (List.mem_append_right _ (List.mem_append_right _ (List.mem_append_right _ (List.mem_append_right _ (List.mem_append_right _ (List.mem_append_right _ (List.mem_append_right _ (List.mem_append_right _ (List.mem_append_right _ (List.mem_append_right _ (List.mem_append_right _ (List.mem_append_right _ (List.mem_append_right _ (List.mem_append_right _ (List.mem_append_right _ (List.mem_append_right _ (List.mem_append_right _ (List.mem_append_right _ (List.mem_append_right _ (List.mem_append_right _ (List.mem_append_right _ (List.mem_append_right _ (List.mem_append_left _ (h)))))))))))))))))))))))))))
theorem WLi_27 : ∀ w ∈ WL_27, w ∈ wsL_law := fun _ h => List.mem_append_right _ (List.mem_append_right _ (List.mem_append_right _ (List.mem_append_right _ (List.mem_append_right _ (List.mem_append_right _ (List.mem_append_right _ (List.mem_append_right _ (List.mem_append_right _ (List.mem_append_right _ (List.mem_append_right _ (List.mem_append_right _ (List.mem_append_right _ (List.mem_append_right _ (List.mem_append_right _ (List.mem_append_right _ (List.mem_append_right _ (List.mem_append_right _ (List.mem_append_right _ (List.mem_append_right _ (List.mem_append_right _ (List.mem_append_right _ (List.mem_append_right _ (List.mem_append_right _ (List.mem_append_right _ (List.mem_append_right _ (List.mem_append_right _ (List.mem_append_left _ (h))))))))))))))))))))))))))))
theorem WLi_28 : ∀ w ∈ WL_28, w ∈ wsL_law := fun _ h => List.mem_append_right _ (List.mem_append_right _ (List.mem_append_right _ (List.mem_append_right _ (List.mem_append_right _ (List.mem_append_right _ (List.mem_append_right _ (List.mem_append_right _ (List.mem_append_right _ (List.mem_append_right _ (List.mem_append_right _ (List.mem_append_right _ (List.mem_append_right _ (List.mem_append_right _ (List.mem_append_right _ (List.mem_append_right _ (List.mem_append_right _ (List.mem_append_right _ (List.mem_append_right _ (List.mem_append_right _ (List.mem_append_right _ (List.mem_append_right _ (List.mem_append_right _ (List.mem_append_right _ (List.mem_append_right _ (List.mem_append_right _ (List.mem_append_right _ (List.mem_append_right _ (List.mem_append_left _ (h)))))))))))))))))))))))))))))
theorem WLi_29 : ∀ w ∈ WL_29, w ∈ wsL_law := fun _ h => List.mem_append_right _ (List.mem_append_right _ (List.mem_append_right _ (List.mem_append_right _ (List.mem_append_right _ (List.mem_append_right _ (List.mem_append_right _ (List.mem_append_right _ (List.mem_append_right _ (List.mem_append_right _ (List.mem_append_right _ (List.mem_append_right _ (List.mem_append_right _ (List.mem_append_right _ (List.mem_append_right _ (List.mem_append_right _ (List.mem_append_right _ (List.mem_append_right _ (List.mem_append_right _ (List.mem_append_right _ (List.mem_append_right _ (List.mem_append_right _ (List.mem_append_right _ (List.mem_append_right _ (List.mem_append_right _ (List.mem_append_right _ (List.mem_append_right _ (List.mem_append_right _ (List.mem_append_right _ (List.mem_append_left _ (h))))))))))))))))))))))))))))))
theorem WLi_30 : ∀ w ∈ WL_30, w ∈ wsL_law := fun _ h => List.mem_append_right _ (List.mem_append_right _ (List.mem_append_right _ (List.mem_append_right _ (List.mem_append_right _ (List.mem_append_right _ (List.mem_append_right _ (List.mem_append_right _ (List.mem_append_right _ (List.mem_append_right _ (List.mem_append_right _ (List.mem_append_right _ (List.mem_append_right _ (List.mem_append_right _ (List.mem_append_right _ (List.mem_append_right _ (List.mem_append_right _ (List.mem_append_right _ (List.mem_append_right _ (List.mem_append_right _ (List.mem_append_right _ (List.mem_append_right _ (List.mem_append_right _ (List.mem_append_right _ (List.mem_append_right _ (List.mem_append_right _ (List.mem_append_right _ (List.mem_append_right _ (List.mem_append_right _ (List.mem_append_right _ (List.mem_append_left _ (h)))))))))))))))))))))))))))))))
theorem WLi_31 : ∀ w ∈ WL_31, w ∈ wsL_law := fun _ h => List.mem_append_right _ (List.mem_append_right _ (List.mem_append_right _ (List.mem_append_right _ (List.mem_append_right _ (List.mem_append_right _ (List.mem_append_right _ (List.mem_append_right _ (List.mem_append_right _ (List.mem_append_right _ (List.mem_append_right _ (List.mem_append_right _ (List.mem_append_right _ (List.mem_append_right _ (List.mem_append_right _ (List.mem_append_right _ (List.mem_append_right _ (List.mem_append_right _ (List.mem_append_right _ (List.mem_append_right _ (List.mem_append_right _ (List.mem_append_right _ (List.mem_append_right _ (List.mem_append_right _ (List.mem_append_right _ (List.mem_append_right _ (List.mem_append_right _ (List.mem_append_right _ (List.mem_append_right _ (List.mem_append_right _ (List.mem_append_right _ (List.mem_append_left _ (h))))))))))))))))))))))))))))))))
theorem WLi_32 : ∀ w ∈ WL_32, w ∈ wsL_law := fun _ h => List.mem_append_right _ (List.mem_append_right _ (List.mem_append_right _ (List.mem_append_right _ (List.mem_append_right _ (List.mem_append_right _ (List.mem_append_right _ (List.mem_append_right _ (List.mem_append_right _ (List.mem_append_right _ (List.mem_append_right _ (List.mem_append_right _ (List.mem_append_right _ (List.mem_append_right _ (List.mem_append_right _ (List.mem_append_right _ (List.mem_append_right _ (List.mem_append_right _ (List.mem_append_right _ (List.mem_append_right _ (List.mem_append_right _ (List.mem_append_right _ (List.mem_append_right _ (List.mem_append_right _ (List.mem_append_right _ (List.mem_append_right _ (List.mem_append_right _ (List.mem_append_right _ (List.mem_append_right _ (List.mem_append_right _ (List.mem_append_right _ (List.mem_append_right _ (List.mem_append_left _ (h)))))))))))))))))))))))))))))))))
theorem WLi_33 : ∀ w ∈ WL_33, w ∈ wsL_law := fun _ h => List.mem_append_right _ (List.mem_append_right _ (List.mem_append_right _ (List.mem_append_right _ (List.mem_append_right _ (List.mem_append_right _ (List.mem_append_right _ (List.mem_append_right _ (List.mem_append_right _ (List.mem_append_right _ (List.mem_append_right _ (List.mem_append_right _ (List.mem_append_right _ (List.mem_append_right _ (List.mem_append_right _ (List.mem_append_right _ (List.mem_append_right _ (List.mem_append_right _ (List.mem_append_right _ (List.mem_append_right _ (List.mem_append_right _ (List.mem_append_right _ (List.mem_append_right _ (List.mem_append_right _ (List.mem_append_right _ (List.mem_append_right _ (List.mem_append_right _ (List.mem_append_right _ (List.mem_append_right _ (List.mem_append_right _ (List.mem_append_right _ (List.mem_append_right _ (List.mem_append_right _ (List.mem_append_left _ (h))))))))))))))))))))))))))))))))))
theorem WLi_34 : ∀ w ∈ WL_34, w ∈ wsL_law := fun _ h => List.mem_append_right _ (List.mem_append_right _ (List.mem_append_right _ (List.mem_append_right _ (List.mem_append_right _ (List.mem_append_right _ (List.mem_append_right _ (List.mem_append_right _ (List.mem_append_right _ (List.mem_append_right _ (List.mem_append_right _ (List.mem_append_right _ (List.mem_append_right _ (List.mem_append_right _ (List.mem_append_right _ (List.mem_append_right _ (List.mem_append_right _ (List.mem_append_right _ (List.mem_append_right _ (List.mem_append_right _ (List.mem_append_right _ (List.mem_append_right _ (List.mem_append_right _ (List.mem_append_right _ (List.mem_append_right _ (List.mem_append_right _ (List.mem_append_right _ (List.mem_append_right _ (List.mem_append_right _ (List.mem_append_right _ (List.mem_append_right _ (List.mem_append_right _ (List.mem_append_right _ (List.mem_append_right _ (List.mem_append_left _ (h)))))))))))))))))))))))))))))))))))
theorem WLi_35 : ∀ w ∈ WL_35, w ∈ wsL_law := fun _ h => List.mem_append_right _ (List.mem_append_right _ (List.mem_append_right _ (List.mem_append_right _ (List.mem_append_right _ (List.mem_append_right _ (List.mem_append_right _ (List.mem_append_right _ (List.mem_append_right _ (List.mem_append_right _ (List.mem_append_right _ (List.mem_append_right _ (List.mem_append_right _ (List.mem_append_right _ (List.mem_append_right _ (List.mem_append_right _ (List.mem_append_right _ (List.mem_append_right _ (List.mem_append_right _ (List.mem_append_right _ (List.mem_append_right _ (List.mem_append_right _ (List.mem_append_right _ (List.mem_append_right _ (List.mem_append_right _ (List.mem_append_right _ (List.mem_append_right _ (List.mem_append_right _ (List.mem_append_right _ (List.mem_append_right _ (List.mem_append_right _ (List.mem_append_right _ (List.mem_append_right _ (List.mem_append_right _ (List.mem_append_right _ (List.mem_append_left _ (h))))))))))))))))))))))))))))))))))))
theorem WLi_36 : ∀ w ∈ WL_36, w ∈ wsL_law := fun _ h => List.mem_append_right _ (List.mem_append_right _ (List.mem_append_right _ (List.mem_append_right _ (List.mem_append_right _ (List.mem_append_right _ (List.mem_append_right _ (List.mem_append_right _ (List.mem_append_right _ (List.mem_append_right _ (List.mem_append_right _ (List.mem_append_right _ (List.mem_append_right _ (List.mem_append_right _ (List.mem_append_right _ (List.mem_append_right _ (List.mem_append_right _ (List.mem_append_right _ (List.mem_append_right _ (List.mem_append_right _ (List.mem_append_right _ (List.mem_append_right _ (List.mem_append_right _ (List.mem_append_right _ (List.mem_append_right _ (List.mem_append_right _ (List.mem_append_right _ (List.mem_append_right _ (List.mem_append_right _ (List.mem_append_right _ (List.mem_append_right _ (List.mem_append_right _ (List.mem_append_right _ (List.mem_append_right _ (List.mem_append_right _ (List.mem_append_right _ (List.mem_append_left _ (h)))))))))))))))))))))))))))))))))))))
theorem WLi_37 : ∀ w ∈ WL_37, w ∈ wsL_law := fun _ h => List.mem_append_right _ (List.mem_append_right _ (List.mem_append_right _ (List.mem_append_right _ (List.mem_append_right _ (List.mem_append_right _ (List.mem_append_right _ (List.mem_append_right _ (List.mem_append_right _ (List.mem_append_right _ (List.mem_append_right _ (List.mem_append_right _ (List.mem_append_right _ (List.mem_append_right _ (List.mem_append_right _ (List.mem_append_right _ (List.mem_append_right _ (List.mem_append_right _ (List.mem_append_right _ (List.mem_append_right _ (List.mem_append_right _ (List.mem_append_right _ (List.mem_append_right _ (List.mem_append_right _ (List.mem_append_right _ (List.mem_append_right _ (List.mem_append_right _ (List.mem_append_right _ (List.mem_append_right _ (List.mem_append_right _ (List.mem_append_right _ (List.mem_append_right _ (List.mem_append_right _ (List.mem_append_right _ (List.mem_append_right _ (List.mem_append_right _ (List.mem_append_right _ (List.mem_append_left _ (h))))))))))))))))))))))))))))))))))))))
theorem WLi_38 : ∀ w ∈ WL_38, w ∈ wsL_law := fun _ h => List.mem_append_right _ (List.mem_append_right _ (List.mem_append_right _ (List.mem_append_right _ (List.mem_append_right _ (List.mem_append_right _ (List.mem_append_right _ (List.mem_append_right _ (List.mem_append_right _ (List.mem_append_right _ (List.mem_append_right _ (List.mem_append_right _ (List.mem_append_right _ (List.mem_append_right _ (List.mem_append_right _ (List.mem_append_right _ (List.mem_append_right _ (List.mem_append_right _ (List.mem_append_right _ (List.mem_append_right _ (List.mem_append_right _ (List.mem_append_right _ (List.mem_append_right _ (List.mem_append_right _ (List.mem_append_right _ (List.mem_append_right _ (List.mem_append_right _ (List.mem_append_right _ (List.mem_append_right _ (List.mem_append_right _ (List.mem_append_right _ (List.mem_append_right _ (List.mem_append_right _ (List.mem_append_right _ (List.mem_append_right _ (List.mem_append_right _ (List.mem_append_right _ (List.mem_append_right _ (List.mem_append_left _ (h)))))))))))))))))))))))))))))))))))))))
theorem WLi_39 : ∀ w ∈ WL_39, w ∈ wsL_law := fun _ h => List.mem_append_right _ (List.mem_append_right _ (List.mem_append_right _ (List.mem_append_right _ (List.mem_append_right _ (List.mem_append_right _ (List.mem_append_right _ (List.mem_append_right _ (List.mem_append_right _ (List.mem_append_right _ (List.mem_append_right _ (List.mem_append_right _ (List.mem_append_right _ (List.mem_append_right _ (List.mem_append_right _ (List.mem_append_right _ (List.mem_append_right _ (List.mem_append_right _ (List.mem_append_right _ (List.mem_append_right _ (List.mem_append_right _ (List.mem_append_right _ (List.mem_append_right _ (List.mem_append_right _ (List.mem_append_right _ (List.mem_append_right _ (List.mem_append_right _ (List.mem_append_right _ (List.mem_append_right _ (List.mem_append_right _ (List.mem_append_right _ (List.mem_append_right _ (List.mem_append_right _ (List.mem_append_right _ (List.mem_append_right _ (List.mem_append_right _ (List.mem_append_right _ (List.mem_append_right _ (List.mem_append_right _ (List.mem_append_left _ (h))))))))))))))))))))))))))))))))))))))))
theorem WLi_40 : ∀ w ∈ WL_40, w ∈ wsL_law := fun _ h => List.mem_append_right _ (List.mem_append_right _ (List.mem_append_right _ (List.mem_append_right _ (List.mem_append_right _ (List.mem_append_right _ (List.mem_append_right _ (List.mem_append_right _ (List.mem_append_right _ (List.mem_append_right _ (List.mem_append_right _ (List.mem_append_right _ (List.mem_append_right _ (List.mem_append_right _ (List.mem_append_right _ (List.mem_append_right _ (List.mem_append_right _ (List.mem_append_right _ (List.mem_append_right _ (List.mem_append_right _ (List.mem_append_right _ (List.mem_append_right _ (List.mem_append_right _ (List.mem_append_right _ (List.mem_append_right _ (List.mem_append_right _ (List.mem_append_right _ (List.mem_append_right _ (List.mem_append_right _ (List.mem_append_right _ (List.mem_append_right _ (List.mem_append_right _ (List.mem_append_right _ (List.mem_append_right _ (List.mem_append_right _ (List.mem_append_right _ (List.mem_append_right _ (List.mem_append_right _ (List.mem_append_right _ (List.mem_append_right _ (List.mem_append_left _ (h)))))))))))))))))))))))))))))))))))))))))
theorem WLi_41 : ∀ w ∈ WL_41, w ∈ wsL_law := fun _ h => List.mem_append_right _ (List.mem_append_right _ (List.mem_append_right _ (List.mem_append_right _ (List.mem_append_right _ (List.mem_append_right _ (List.mem_append_right _ (List.mem_append_right _ (List.mem_append_right _ (List.mem_append_right _ (List.mem_append_right _ (List.mem_append_right _ (List.mem_append_right _ (List.mem_append_right _ (List.mem_append_right _ (List.mem_append_right _ (List.mem_append_right _ (List.mem_append_right _ (List.mem_append_right _ (List.mem_append_right _ (List.mem_append_right _ (List.mem_append_right _ (List.mem_append_right _ (List.mem_append_right _ (List.mem_append_right _ (List.mem_append_right _ (List.mem_append_right _ (List.mem_append_right _ (List.mem_append_right _ (List.mem_append_right _ (List.mem_append_right _ (List.mem_append_right _ (List.mem_append_right _ (List.mem_append_right _ (List.mem_append_right _ (List.mem_append_right _ (List.mem_append_right _ (List.mem_append_right _ (List.mem_append_right _ (List.mem_append_right _ (List.mem_append_right _ (List.mem_append_left _ (h))))))))))))))))))))))))))))))))))))))))))
theorem WLi_42 : ∀ w ∈ WL_42, w ∈ wsL_law := fun _ h => List.mem_append_right _ (List.mem_append_right _ (List.mem_append_right _ (List.mem_append_right _ (List.mem_append_right _ (List.mem_append_right _ (List.mem_append_right _ (List.mem_append_right _ (List.mem_append_right _ (List.mem_append_right _ (List.mem_append_right _ (List.mem_append_right _ (List.mem_append_right _ (List.mem_append_right _ (List.mem_append_right _ (List.mem_append_right _ (List.mem_append_right _ (List.mem_append_right _ (List.mem_append_right _ (List.mem_append_right _ (List.mem_append_right _ (List.mem_append_right _ (List.mem_append_right _ (List.mem_append_right _ (List.mem_append_right _ (List.mem_append_right _ (List.mem_append_right _ (List.mem_append_right _ (List.mem_append_right _ (List.mem_append_right _ (List.mem_append_right _ (List.mem_append_right _ (List.mem_append_right _ (List.mem_append_right _ (List.mem_append_right _ (List.mem_append_right _ (List.mem_append_right _ (List.mem_append_right _ (List.mem_append_right _ (List.mem_append_right _ (List.mem_append_right _ (List.mem_append_right _ (List.mem_append_left _ (h)))))))))))))))))))))))))))))))))))))))))))
theorem WLi_43 : ∀ w ∈ WL_43, w ∈ wsL_law := fun _ h => List.mem_append_right _ (List.mem_append_right _ (List.mem_append_right _ (List.mem_append_right _ (List.mem_append_right _ (List.mem_append_right _ (List.mem_append_right _ (List.mem_append_right _ (List.mem_append_right _ (List.mem_append_right _ (List.mem_append_right _ (List.mem_append_right _ (List.mem_append_right _ (List.mem_append_right _ (List.mem_append_right _ (List.mem_append_right _ (List.mem_append_right _ (List.mem_append_right _ (List.mem_append_right _ (List.mem_append_right _ (List.mem_append_right _ (List.mem_append_right _ (List.mem_append_right _ (List.mem_append_right _ (List.mem_append_right _ (List.mem_append_right _ (List.mem_append_right _ (List.mem_append_right _ (List.mem_append_right _ (List.mem_append_right _ (List.mem_append_right _ (List.mem_append_right _ (List.mem_append_right _ (List.mem_append_right _ (List.mem_append_right _ (List.mem_append_right _ (List.mem_append_right _ (List.mem_append_right _ (List.mem_append_right _ (List.mem_append_right _ (List.mem_append_right _ (List.mem_append_right _ (List.mem_append_right _ (List.mem_append_left _ (h))))))))))))))))))))))))))))))))))))))))))))
theorem WLi_44 : ∀ w ∈ WL_44, w ∈ wsL_law := fun _ h => List.mem_append_right _ (List.mem_append_right _ (List.mem_append_right _ (List.mem_append_right _ (List.mem_append_right _ (List.mem_append_right _ (List.mem_append_right _ (List.mem_append_right _ (List.mem_append_right _ (List.mem_append_right _ (List.mem_append_right _ (List.mem_append_right _ (List.mem_append_right _ (List.mem_append_right _ (List.mem_append_right _ (List.mem_append_right _ (List.mem_append_right _ (List.mem_append_right _ (List.mem_append_right _ (List.mem_append_right _ (List.mem_append_right _ (List.mem_append_right _ (List.mem_append_right _ (List.mem_append_right _ (List.mem_append_right _ (List.mem_append_right _ (List.mem_append_right _ (List.mem_append_right _ (List.mem_append_right _ (List.mem_append_right _ (List.mem_append_right _ (List.mem_append_right _ (List.mem_append_right _ (List.mem_append_right _ (List.mem_append_right _ (List.mem_append_right _ (List.mem_append_right _ (List.mem_append_right _ (List.mem_append_right _ (List.mem_append_right _ (List.mem_append_right _ (List.mem_append_right _ (List.mem_append_right _ (List.mem_append_right _ (List.mem_append_left _ (h)))))))))))))))))))))))))))))))))))))))))))))
theorem WLi_45 : ∀ w ∈ WL_45, w ∈ wsL_law := fun _ h => List.mem_append_right _ (List.mem_append_right _ (List.mem_append_right _ (List.mem_append_right _ (List.mem_append_right _ (List.mem_append_right _ (List.mem_append_right _ (List.mem_append_right _ (List.mem_append_right _ (List.mem_append_right _ (List.mem_append_right _ (List.mem_append_right _ (List.mem_append_right _ (List.mem_append_right _ (List.mem_append_right _ (List.mem_append_right _ (List.mem_append_right _ (List.mem_append_right _ (List.mem_append_right _ (List.mem_append_right _ (List.mem_append_right _ (List.mem_append_right _ (List.mem_append_right _ (List.mem_append_right _ (List.mem_append_right _ (List.mem_append_right _ (List.mem_append_right _ (List.mem_append_right _ (List.mem_append_right _ (List.mem_append_right _ (List.mem_append_right _ (List.mem_append_right _ (List.mem_append_right _ (List.mem_append_right _ (List.mem_append_right _ (List.mem_append_right _ (List.mem_append_right _ (List.mem_append_right _ (List.mem_append_right _ (List.mem_append_right _ (List.mem_append_right _ (List.mem_append_right _ (List.mem_append_right _ (List.mem_append_right _ (List.mem_append_right _ (List.mem_append_left _ (h))))))))))))))))))))))))))))))))))))))))))))))
theorem WLi_46 : ∀ w ∈ WL_46, w ∈ wsL_law := fun _ h => List.mem_append_right _ (List.mem_append_right _ (List.mem_append_right _ (List.mem_append_right _ (List.mem_append_right _ (List.mem_append_right _ (List.mem_append_right _ (List.mem_append_right _ (List.mem_append_right _ (List.mem_append_right _ (List.mem_append_right _ (List.mem_append_right _ (List.mem_append_right _ (List.mem_append_right _ (List.mem_append_right _ (List.mem_append_right _ (List.mem_append_right _ (List.mem_append_right _ (List.mem_append_right _ (List.mem_append_right _ (List.mem_append_right _ (List.mem_append_right _ (List.mem_append_right _ (List.mem_append_right _ (List.mem_append_right _ (List.mem_append_right _ (List.mem_append_right _ (List.mem_append_right _ (List.mem_append_right _ (List.mem_append_right _ (List.mem_append_right _ (List.mem_append_right _ (List.mem_append_right _ (List.mem_append_right _ (List.mem_append_right _ (List.mem_append_right _ (List.mem_append_right _ (List.mem_append_right _ (List.mem_append_right _ (List.mem_append_right _ (List.mem_append_right _ (List.mem_append_right _ (List.mem_append_right _ (List.mem_append_right _ (List.mem_append_right _ (List.mem_append_right _ (List.mem_append_left _ (h)))))))))))))))))))))))))))))))))))))))))))))))
theorem WLi_47 : ∀ w ∈ WL_47, w ∈ wsL_law := fun _ h => List.mem_append_right _ (List.mem_append_right _ (List.mem_append_right _ (List.mem_append_right _ (List.mem_append_right _ (List.mem_append_right _ (List.mem_append_right _ (List.mem_append_right _ (List.mem_append_right _ (List.mem_append_right _ (List.mem_append_right _ (List.mem_append_right _ (List.mem_append_right _ (List.mem_append_right _ (List.mem_append_right _ (List.mem_append_right _ (List.mem_append_right _ (List.mem_append_right _ (List.mem_append_right _ (List.mem_append_right _ (List.mem_append_right _ (List.mem_append_right _ (List.mem_append_right _ (List.mem_append_right _ (List.mem_append_right _ (List.mem_append_right _ (List.mem_append_right _ (List.mem_append_right _ (List.mem_append_right _ (List.mem_append_right _ (List.mem_append_right _ (List.mem_append_right _ (List.mem_append_right _ (List.mem_append_right _ (List.mem_append_right _ (List.mem_append_right _ (List.mem_append_right _ (List.mem_append_right _ (List.mem_append_right _ (List.mem_append_right _ (List.mem_append_right _ (List.mem_append_right _ (List.mem_append_right _ (List.mem_append_right _ (List.mem_append_right _ (List.mem_append_right _ (List.mem_append_right _ (List.mem_append_left _ (h))))))))))))))))))))))))))))))))))))))))))))))))
theorem WLi_48 : ∀ w ∈ WL_48, w ∈ wsL_law := fun _ h => List.mem_append_right _ (List.mem_append_right _ (List.mem_append_right _ (List.mem_append_right _ (List.mem_append_right _ (List.mem_append_right _ (List.mem_append_right _ (List.mem_append_right _ (List.mem_append_right _ (List.mem_append_right _ (List.mem_append_right _ (List.mem_append_right _ (List.mem_append_right _ (List.mem_append_right _ (List.mem_append_right _ (List.mem_append_right _ (List.mem_append_right _ (List.mem_append_right _ (List.mem_append_right _ (List.mem_append_right _ (List.mem_append_right _ (List.mem_append_right _ (List.mem_append_right _ (List.mem_append_right _ (List.mem_append_right _ (List.mem_append_right _ (List.mem_append_right _ (List.mem_append_right _ (List.mem_append_right _ (List.mem_append_right _ (List.mem_append_right _ (List.mem_append_right _ (List.mem_append_right _ (List.mem_append_right _ (List.mem_append_right _ (List.mem_append_right _ (List.mem_append_right _ (List.mem_append_right _ (List.mem_append_right _ (List.mem_append_right _ (List.mem_append_right _ (List.mem_append_right _ (List.mem_append_right _ (List.mem_append_right _ (List.mem_append_right _ (List.mem_append_right _ (List.mem_append_right _ (List.mem_append_right _ (List.mem_append_left _ (h)))))))))))))))))))))))))))))))))))))))))))))))))
theorem WLi_49 : ∀ w ∈ WL_49, w ∈ wsL_law := fun _ h => List.mem_append_right _ (List.mem_append_right _ (List.mem_append_right _ (List.mem_append_right _ (List.mem_append_right _ (List.mem_append_right _ (List.mem_append_right _ (List.mem_append_right _ (List.mem_append_right _ (List.mem_append_right _ (List.mem_append_right _ (List.mem_append_right _ (List.mem_append_right _ (List.mem_append_right _ (List.mem_append_right _ (List.mem_append_right _ (List.mem_append_right _ (List.mem_append_right _ (List.mem_append_right _ (List.mem_append_right _ (List.mem_append_right _ (List.mem_append_right _ (List.mem_append_right _ (List.mem_append_right _ (List.mem_append_right _ (List.mem_append_right _ (List.mem_append_right _ (List.mem_append_right _ (List.mem_append_right _ (List.mem_append_right _ (List.mem_append_right _ (List.mem_append_right _ (List.mem_append_right _ (List.mem_append_right _ (List.mem_append_right _ (List.mem_append_right _ (List.mem_append_right _ (List.mem_append_right _ (List.mem_append_right _ (List.mem_append_right _ (List.mem_append_right _ (List.mem_append_right _ (List.mem_append_right _ (List.mem_append_right _ (List.mem_append_right _ (List.mem_append_right _ (List.mem_append_right _ (List.mem_append_right _ (List.mem_append_right _ (List.mem_append_left _ (h))))))))))))))))))))))))))))))))))))))))))))))))))
theorem WLi_50 : ∀ w ∈ WL_50, w ∈ wsL_law := fun _ h => List.mem_append_right _ (List.mem_append_right _ (List.mem_append_right _ (List.mem_append_right _ (List.mem_append_right _ (List.mem_append_right _ (List.mem_append_right _ (List.mem_append_right _ (List.mem_append_right _ (List.mem_append_right _ (List.mem_append_right _ (List.mem_append_right _ (List.mem_append_right _ (List.mem_append_right _ (List.mem_append_right _ (List.mem_append_right _ (List.mem_append_right _ (List.mem_append_right _ (List.mem_append_right _ (List.mem_append_right _ (List.mem_append_right _ (List.mem_append_right _ (List.mem_append_right _ (List.mem_append_right _ (List.mem_append_right _ (List.mem_append_right _ (List.mem_append_right _ (List.mem_append_right _ (List.mem_append_right _ (List.mem_append_right _ (List.mem_append_right _ (List.mem_append_right _ (List.mem_append_right _ (List.mem_append_right _ (List.mem_append_right _ (List.mem_append_right _ (List.mem_append_right _ (List.mem_append_right _ (List.mem_append_right _ (List.mem_append_right _ (List.mem_append_right _ (List.mem_append_right _ (List.mem_append_right _ (List.mem_append_right _ (List.mem_append_right _ (List.mem_append_right _ (List.mem_append_right _ (List.mem_append_right _ (List.mem_append_right _ (List.mem_append_right _ (List.mem_append_left _ (h)))))))))))))))))))))))))))))))))))))))))))))))))))
theorem WLi_51 : ∀ w ∈ WL_51, w ∈ wsL_law := fun _ h => List.mem_append_right _ (List.mem_append_right _ (List.mem_append_right _ (List.mem_append_right _ (List.mem_append_right _ (List.mem_append_right _ (List.mem_append_right _ (List.mem_append_right _ (List.mem_append_right _ (List.mem_append_right _ (List.mem_append_right _ (List.mem_append_right _ (List.mem_append_right _ (List.mem_append_right _ (List.mem_append_right _ (List.mem_append_right _ (List.mem_append_right _ (List.mem_append_right _ (List.mem_append_right _ (List.mem_append_right _ (List.mem_append_right _ (List.mem_append_right _ (List.mem_append_right _ (List.mem_append_right _ (List.mem_append_right _ (List.mem_append_right _ (List.mem_append_right _ (List.mem_append_right _ (List.mem_append_right _ (List.mem_append_right _ (List.mem_append_right _ (List.mem_append_right _ (List.mem_append_right _ (List.mem_append_right _ (List.mem_append_right _ (List.mem_append_right _ (List.mem_append_right _ (List.mem_append_right _ (List.mem_append_right _ (List.mem_append_right _ (List.mem_append_right _ (List.mem_append_right _ (List.mem_append_right _ (List.mem_append_right _ (List.mem_append_right _ (List.mem_append_right _ (List.mem_append_right _ (List.mem_append_right _ (List.mem_append_right _ (List.mem_append_right _ (List.mem_append_right _ (List.mem_append_left _ (h))))))))))))))))))))))))))))))))))))))))))))))))))))
theorem WLi_52 : ∀ w ∈ WL_52, w ∈ wsL_law := fun _ h => List.mem_append_right _ (List.mem_append_right _ (List.mem_append_right _ (List.mem_append_right _ (List.mem_append_right _ (List.mem_append_right _ (List.mem_append_right _ (List.mem_append_right _ (List.mem_append_right _ (List.mem_append_right _ (List.mem_append_right _ (List.mem_append_right _ (List.mem_append_right _ (List.mem_append_right _ (List.mem_append_right _ (List.mem_append_right _ (List.mem_append_right _ (List.mem_append_right _ (List.mem_append_right _ (List.mem_append_right _ (List.mem_append_right _ (List.mem_append_right _ (List.mem_append_right _ (List.mem_append_right _ (List.mem_append_right _ (List.mem_append_right _ (List.mem_append_right _ (List.mem_append_right _ (List.mem_append_right _ (List.mem_append_right _ (List.mem_append_right _ (List.mem_append_right _ (List.mem_append_right _ (List.mem_append_right _ (List.mem_append_right _ (List.mem_append_right _ (List.mem_append_right _ (List.mem_append_right _ (List.mem_append_right _ (List.mem_append_right _ (List.mem_append_right _ (List.mem_append_right _ (List.mem_append_right _ (List.mem_append_right _ (List.mem_append_right _ (List.mem_append_right _ (List.mem_append_right _ (List.mem_append_right _ (List.mem_append_right _ (List.mem_append_right _ (List.mem_append_right _ (List.mem_append_right _ (List.mem_append_left _ (h)))))))))))))))))))))))))))))))))))))))))))))))))))))
theorem WLi_53 : ∀ w ∈ WL_53, w ∈ wsL_law := fun _ h => List.mem_append_right _ (List.mem_append_right _ (List.mem_append_right _ (List.mem_append_right _ (List.mem_append_right _ (List.mem_append_right _ (List.mem_append_right _ (List.mem_append_right _ (List.mem_append_right _ (List.mem_append_right _ (List.mem_append_right _ (List.mem_append_right _ (List.mem_append_right _ (List.mem_append_right _ (List.mem_append_right _ (List.mem_append_right _ (List.mem_append_right _ (List.mem_append_right _ (List.mem_append_right _ (List.mem_append_right _ (List.mem_append_right _ (List.mem_append_right _ (List.mem_append_right _ (List.mem_append_right _ (List.mem_append_right _ (List.mem_append_right _ (List.mem_append_right _ (List.mem_append_right _ (List.mem_append_right _ (List.mem_append_right _ (List.mem_append_right _ (List.mem_append_right _ (List.mem_append_right _ (List.mem_append_right _ (List.mem_append_right _ (List.mem_append_right _ (List.mem_append_right _ (List.mem_append_right _ (List.mem_append_right _ (List.mem_append_right _ (List.mem_append_right _ (List.mem_append_right _ (List.mem_append_right _ (List.mem_append_right _ (List.mem_append_right _ (List.mem_append_right _ (List.mem_append_right _ (List.mem_append_right _ (List.mem_append_right _ (List.mem_append_right _ (List.mem_append_right _ (List.mem_append_right _ (List.mem_append_right _ (List.mem_append_left _ (h))))))))))))))))))))))))))))))))))))))))))))))))))))))
theorem WLi_54 : ∀ w ∈ WL_54, w ∈ wsL_law := fun _ h => List.mem_append_right _ (List.mem_append_right _ (List.mem_append_right _ (List.mem_append_right _ (List.mem_append_right _ (List.mem_append_right _ (List.mem_append_right _ (List.mem_append_right _ (List.mem_append_right _ (List.mem_append_right _ (List.mem_append_right _ (List.mem_append_right _ (List.mem_append_right _ (List.mem_append_right _ (List.mem_append_right _ (List.mem_append_right _ (List.mem_append_right _ (List.mem_append_right _ (List.mem_append_right _ (List.mem_append_right _ (List.mem_append_right _ (List.mem_append_right _ (List.mem_append_right _ (List.mem_append_right _ (List.mem_append_right _ (List.mem_append_right _ (List.mem_append_right _ (List.mem_append_right _ (List.mem_append_right _ (List.mem_append_right _ (List.mem_append_right _ (List.mem_append_right _ (List.mem_append_right _ (List.mem_append_right _ (List.mem_append_right _ (List.mem_append_right _ (List.mem_append_right _ (List.mem_append_right _ (List.mem_append_right _ (List.mem_append_right _ (List.mem_append_right _ (List.mem_append_right _ (List.mem_append_right _ (List.mem_append_right _ (List.mem_append_right _ (List.mem_append_right _ (List.mem_append_right _ (List.mem_append_right _ (List.mem_append_right _ (List.mem_append_right _ (List.mem_append_right _ (List.mem_append_right _ (List.mem_append_right _ (List.mem_append_right _ (List.mem_append_left _ (h)))))))))))))))))))))))))))))))))))))))))))))))))))))))
theorem WLi_55 : ∀ w ∈ WL_55, w ∈ wsL_law := fun _ h => List.mem_append_right _ (List.mem_append_right _ (List.mem_append_right _ (List.mem_append_right _ (List.mem_append_right _ (List.mem_append_right _ (List.mem_append_right _ (List.mem_append_right _ (List.mem_append_right _ (List.mem_append_right _ (List.mem_append_right _ (List.mem_append_right _ (List.mem_append_right _ (List.mem_append_right _ (List.mem_append_right _ (List.mem_append_right _ (List.mem_append_right _ (List.mem_append_right _ (List.mem_append_right _ (List.mem_append_right _ (List.mem_append_right _ (List.mem_append_right _ (List.mem_append_right _ (List.mem_append_right _ (List.mem_append_right _ (List.mem_append_right _ (List.mem_append_right _ (List.mem_append_right _ (List.mem_append_right _ (List.mem_append_right _ (List.mem_append_right _ (List.mem_append_right _ (List.mem_append_right _ (List.mem_append_right _ (List.mem_append_right _ (List.mem_append_right _ (List.mem_append_right _ (List.mem_append_right _ (List.mem_append_right _ (List.mem_append_right _ (List.mem_append_right _ (List.mem_append_right _ (List.mem_append_right _ (List.mem_append_right _ (List.mem_append_right _ (List.mem_append_right _ (List.mem_append_right _ (List.mem_append_right _ (List.mem_append_right _ (List.mem_append_right _ (List.mem_append_right _ (List.mem_append_right _ (List.mem_append_right _ (List.mem_append_right _ (List.mem_append_right _ (List.mem_append_left _ (h))))))))))))))))))))))))))))))))))))))))))))))))))))))))
theorem WLi_56 : ∀ w ∈ WL_56, w ∈ wsL_law := fun _ h => List.mem_append_right _ (List.mem_append_right _ (List.mem_append_right _ (List.mem_append_right _ (List.mem_append_right _ (List.mem_append_right _ (List.mem_append_right _ (List.mem_append_right _ (List.mem_append_right _ (List.mem_append_right _ (List.mem_append_right _ (List.mem_append_right _ (List.mem_append_right _ (List.mem_append_right _ (List.mem_append_right _ (List.mem_append_right _ (List.mem_append_right _ (List.mem_append_right _ (List.mem_append_right _ (List.mem_append_right _ (List.mem_append_right _ (List.mem_append_right _ (List.mem_append_right _ (List.mem_append_right _ (List.mem_append_right _ (List.mem_append_right _ (List.mem_append_right _ (List.mem_append_right _ (List.mem_append_right _ (List.mem_append_right _ (List.mem_append_right _ (List.mem_append_right _ (List.mem_append_right _ (List.mem_append_right _ (List.mem_append_right _ (List.mem_append_right _ (List.mem_append_right _ (List.mem_append_right _ (List.mem_append_right _ (List.mem_append_right _ (List.mem_append_right _ (List.mem_append_right _ (List.mem_append_right _ (List.mem_append_right _ (List.mem_append_right _ (List.mem_append_right _ (List.mem_append_right _ (List.mem_append_right _ (List.mem_append_right _ (List.mem_append_right _ (List.mem_append_right _ (List.mem_append_right _ (List.mem_append_right _ (List.mem_append_right _ (List.mem_append_right _ (List.mem_append_right _ (List.mem_append_left _ (h)))))))))))))))))))))))))))))))))))))))))))))))))))))))))
theorem WLi_57 : ∀ w ∈ WL_57, w ∈ wsL_law := fun _ h => List.mem_append_right _ (List.mem_append_right _ (List.mem_append_right _ (List.mem_append_right _ (List.mem_append_right _ (List.mem_append_right _ (List.mem_append_right _ (List.mem_append_right _ (List.mem_append_right _ (List.mem_append_right _ (List.mem_append_right _ (List.mem_append_right _ (List.mem_append_right _ (List.mem_append_right _ (List.mem_append_right _ (List.mem_append_right _ (List.mem_append_right _ (List.mem_append_right _ (List.mem_append_right _ (List.mem_append_right _ (List.mem_append_right _ (List.mem_append_right _ (List.mem_append_right _ (List.mem_append_right _ (List.mem_append_right _ (List.mem_append_right _ (List.mem_append_right _ (List.mem_append_right _ (List.mem_append_right _ (List.mem_append_right _ (List.mem_append_right _ (List.mem_append_right _ (List.mem_append_right _ (List.mem_append_right _ (List.mem_append_right _ (List.mem_append_right _ (List.mem_append_right _ (List.mem_append_right _ (List.mem_append_right _ (List.mem_append_right _ (List.mem_append_right _ (List.mem_append_right _ (List.mem_append_right _ (List.mem_append_right _ (List.mem_append_right _ (List.mem_append_right _ (List.mem_append_right _ (List.mem_append_right _ (List.mem_append_right _ (List.mem_append_right _ (List.mem_append_right _ (List.mem_append_right _ (List.mem_append_right _ (List.mem_append_right _ (List.mem_append_right _ (List.mem_append_right _ (List.mem_append_right _ (List.mem_append_left _ (h))))))))))))))))))))))))))))))))))))))))))))))))))))))))))
theorem WLi_58 : ∀ w ∈ WL_58, w ∈ wsL_law := fun _ h => List.mem_append_right _ (List.mem_append_right _ (List.mem_append_right _ (List.mem_append_right _ (List.mem_append_right _ (List.mem_append_right _ (List.mem_append_right _ (List.mem_append_right _ (List.mem_append_right _ (List.mem_append_right _ (List.mem_append_right _ (List.mem_append_right _ (List.mem_append_right _ (List.mem_append_right _ (List.mem_append_right _ (List.mem_append_right _ (List.mem_append_right _ (List.mem_append_right _ (List.mem_append_right _ (List.mem_append_right _ (List.mem_append_right _ (List.mem_append_right _ (List.mem_append_right _ (List.mem_append_right _ (List.mem_append_right _ (List.mem_append_right _ (List.mem_append_right _ (List.mem_append_right _ (List.mem_append_right _ (List.mem_append_right _ (List.mem_append_right _ (List.mem_append_right _ (List.mem_append_right _ (List.mem_append_right _ (List.mem_append_right _ (List.mem_append_right _ (List.mem_append_right _ (List.mem_append_right _ (List.mem_append_right _ (List.mem_append_right _ (List.mem_append_right _ (List.mem_append_right _ (List.mem_append_right _ (List.mem_append_right _ (List.mem_append_right _ (List.mem_append_right _ (List.mem_append_right _ (List.mem_append_right _ (List.mem_append_right _ (List.mem_append_right _ (List.mem_append_right _ (List.mem_append_right _ (List.mem_append_right _ (List.mem_append_right _ (List.mem_append_right _ (List.mem_append_right _ (List.mem_append_right _ (List.mem_append_right _ (List.mem_append_left _ (h)))))))))))))))))))))))))))))))))))))))))))))))))))))))))))
theorem WLi_59 : ∀ w ∈ WL_59, w ∈ wsL_law := fun _ h => List.mem_append_right _ (List.mem_append_right _ (List.mem_append_right _ (List.mem_append_right _ (List.mem_append_right _ (List.mem_append_right _ (List.mem_append_right _ (List.mem_append_right _ (List.mem_append_right _ (List.mem_append_right _ (List.mem_append_right _ (List.mem_append_right _ (List.mem_append_right _ (List.mem_append_right _ (List.mem_append_right _ (List.mem_append_right _ (List.mem_append_right _ (List.mem_append_right _ (List.mem_append_right _ (List.mem_append_right _ (List.mem_append_right _ (List.mem_append_right _ (List.mem_append_right _ (List.mem_append_right _ (List.mem_append_right _ (List.mem_append_right _ (List.mem_append_right _ (List.mem_append_right _ (List.mem_append_right _ (List.mem_append_right _ (List.mem_append_right _ (List.mem_append_right _ (List.mem_append_right _ (List.mem_append_right _ (List.mem_append_right _ (List.mem_append_right _ (List.mem_append_right _ (List.mem_append_right _ (List.mem_append_right _ (List.mem_append_right _ (List.mem_append_right _ (List.mem_append_right _ (List.mem_append_right _ (List.mem_append_right _ (List.mem_append_right _ (List.mem_append_right _ (List.mem_append_right _ (List.mem_append_right _ (List.mem_append_right _ (List.mem_append_right _ (List.mem_append_right _ (List.mem_append_right _ (List.mem_append_right _ (List.mem_append_right _ (List.mem_append_right _ (List.mem_append_right _ (List.mem_append_right _ (List.mem_append_right _ (List.mem_append_right _ (List.mem_append_left _ (h))))))))))))))))))))))))))))))))))))))))))))))))))))))))))))
theorem WLi_60 : ∀ w ∈ WL_60, w ∈ wsL_law := fun _ h => List.mem_append_right _ (List.mem_append_right _ (List.mem_append_right _ (List.mem_append_right _ (List.mem_append_right _ (List.mem_append_right _ (List.mem_append_right _ (List.mem_append_right _ (List.mem_append_right _ (List.mem_append_right _ (List.mem_append_right _ (List.mem_append_right _ (List.mem_append_right _ (List.mem_append_right _ (List.mem_append_right _ (List.mem_append_right _ (List.mem_append_right _ (List.mem_append_right _ (List.mem_append_right _ (List.mem_append_right _ (List.mem_append_right _ (List.mem_append_right _ (List.mem_append_right _ (List.mem_append_right _ (List.mem_append_right _ (List.mem_append_right _ (List.mem_append_right _ (List.mem_append_right _ (List.mem_append_right _ (List.mem_append_right _ (List.mem_append_right _ (List.mem_append_right _ (List.mem_append_right _ (List.mem_append_right _ (List.mem_append_right _ (List.mem_append_right _ (List.mem_append_right _ (List.mem_append_right _ (List.mem_append_right _ (List.mem_append_right _ (List.mem_append_right _ (List.mem_append_right _ (List.mem_append_right _ (List.mem_append_right _ (List.mem_append_right _ (List.mem_append_right _ (List.mem_append_right _ (List.mem_append_right _ (List.mem_append_right _ (List.mem_append_right _ (List.mem_append_right _ (List.mem_append_right _ (List.mem_append_right _ (List.mem_append_right _ (List.mem_append_right _ (List.mem_append_right _ (List.mem_append_right _ (List.mem_append_right _ (List.mem_append_right _ (List.mem_append_right _ (List.mem_append_left _ (h)))))))))))))))))))))))))))))))))))))))))))))))))))))))))))))
theorem WLi_61 : ∀ w ∈ WL_61, w ∈ wsL_law := fun _ h => List.mem_append_right _ (List.mem_append_right _ (List.mem_append_right _ (List.mem_append_right _ (List.mem_append_right _ (List.mem_append_right _ (List.mem_append_right _ (List.mem_append_right _ (List.mem_append_right _ (List.mem_append_right _ (List.mem_append_right _ (List.mem_append_right _ (List.mem_append_right _ (List.mem_append_right _ (List.mem_append_right _ (List.mem_append_right _ (List.mem_append_right _ (List.mem_append_right _ (List.mem_append_right _ (List.mem_append_right _ (List.mem_append_right _ (List.mem_append_right _ (List.mem_append_right _ (List.mem_append_right _ (List.mem_append_right _ (List.mem_append_right _ (List.mem_append_right _ (List.mem_append_right _ (List.mem_append_right _ (List.mem_append_right _ (List.mem_append_right _ (List.mem_append_right _ (List.mem_append_right _ (List.mem_append_right _ (List.mem_append_right _ (List.mem_append_right _ (List.mem_append_right _ (List.mem_append_right _ (List.mem_append_right _ (List.mem_append_right _ (List.mem_append_right _ (List.mem_append_right _ (List.mem_append_right _ (List.mem_append_right _ (List.mem_append_right _ (List.mem_append_right _ (List.mem_append_right _ (List.mem_append_right _ (List.mem_append_right _ (List.mem_append_right _ (List.mem_append_right _ (List.mem_append_right _ (List.mem_append_right _ (List.mem_append_right _ (List.mem_append_right _ (List.mem_append_right _ (List.mem_append_right _ (List.mem_append_right _ (List.mem_append_right _ (List.mem_append_right _ (List.mem_append_right _ (List.mem_append_left _ (h))))))))))))))))))))))))))))))))))))))))))))))))))))))))))))))
theorem WLi_62 : ∀ w ∈ WL_62, w ∈ wsL_law := fun _ h => List.mem_append_right _ (List.mem_append_right _ (List.mem_append_right _ (List.mem_append_right _ (List.mem_append_right _ (List.mem_append_right _ (List.mem_append_right _ (List.mem_append_right _ (List.mem_append_right _ (List.mem_append_right _ (List.mem_append_right _ (List.mem_append_right _ (List.mem_append_right _ (List.mem_append_right _ (List.mem_append_right _ (List.mem_append_right _ (List.mem_append_right _ (List.mem_append_right _ (List.mem_append_right _ (List.mem_append_right _ (List.mem_append_right _ (List.mem_append_right _ (List.mem_append_right _ (List.mem_append_right _ (List.mem_append_right _ (List.mem_append_right _ (List.mem_append_right _ (List.mem_append_right _ (List.mem_append_right _ (List.mem_append_right _ (List.mem_append_right _ (List.mem_append_right _ (List.mem_append_right _ (List.mem_append_right _ (List.mem_append_right _ (List.mem_append_right _ (List.mem_append_right _ (List.mem_append_right _ (List.mem_append_right _ (List.mem_append_right _ (List.mem_append_right _ (List.mem_append_right _ (List.mem_append_right _ (List.mem_append_right _ (List.mem_append_right _ (List.mem_append_right _ (List.mem_append_right _ (List.mem_append_right _ (List.mem_append_right _ (List.mem_append_right _ (List.mem_append_right _ (List.mem_append_right _ (List.mem_append_right _ (List.mem_append_right _ (List.mem_append_right _ (List.mem_append_right _ (List.mem_append_right _ (List.mem_append_right _ (List.mem_append_right _ (List.mem_append_right _ (List.mem_append_right _ (List.mem_append_right _ (List.mem_append_left _ (h)))))))))))))))))))))))))))))))))))))))))))))))))))))))))))))))
theorem WLi_63 : ∀ w ∈ WL_63, w ∈ wsL_law := fun _ h => List.mem_append_right _ (List.mem_append_right _ (List.mem_append_right _ (List.mem_append_right _ (List.mem_append_right _ (List.mem_append_right _ (List.mem_append_right _ (List.mem_append_right _ (List.mem_append_right _ (List.mem_append_right _ (List.mem_append_right _ (List.mem_append_right _ (List.mem_append_right _ (List.mem_append_right _ (List.mem_append_right _ (List.mem_append_right _ (List.mem_append_right _ (List.mem_append_right _ (List.mem_append_right _ (List.mem_append_right _ (List.mem_append_right _ (List.mem_append_right _ (List.mem_append_right _ (List.mem_append_right _ (List.mem_append_right _ (List.mem_append_right _ (List.mem_append_right _ (List.mem_append_right _ (List.mem_append_right _ (List.mem_append_right _ (List.mem_append_right _ (List.mem_append_right _ (List.mem_append_right _ (List.mem_append_right _ (List.mem_append_right _ (List.mem_append_right _ (List.mem_append_right _ (List.mem_append_right _ (List.mem_append_right _ (List.mem_append_right _ (List.mem_append_right _ (List.mem_append_right _ (List.mem_append_right _ (List.mem_append_right _ (List.mem_append_right _ (List.mem_append_right _ (List.mem_append_right _ (List.mem_append_right _ (List.mem_append_right _ (List.mem_append_right _ (List.mem_append_right _ (List.mem_append_right _ (List.mem_append_right _ (List.mem_append_right _ (List.mem_append_right _ (List.mem_append_right _ (List.mem_append_right _ (List.mem_append_right _ (List.mem_append_right _ (List.mem_append_right _ (List.mem_append_right _ (List.mem_append_right _ (List.mem_append_right _ (List.mem_append_left _ (h))))))))))))))))))))))))))))))))))))))))))))))))))))))))))))))))
theorem WLi_64 : ∀ w ∈ WL_64, w ∈ wsL_law := fun _ h => List.mem_append_right _ (List.mem_append_right _ (List.mem_append_right _ (List.mem_append_right _ (List.mem_append_right _ (List.mem_append_right _ (List.mem_append_right _ (List.mem_append_right _ (List.mem_append_right _ (List.mem_append_right _ (List.mem_append_right _ (List.mem_append_right _ (List.mem_append_right _ (List.mem_append_right _ (List.mem_append_right _ (List.mem_append_right _ (List.mem_append_right _ (List.mem_append_right _ (List.mem_append_right _ (List.mem_append_right _ (List.mem_append_right _ (List.mem_append_right _ (List.mem_append_right _ (List.mem_append_right _ (List.mem_append_right _ (List.mem_append_right _ (List.mem_append_right _ (List.mem_append_right _ (List.mem_append_right _ (List.mem_append_right _ (List.mem_append_right _ (List.mem_append_right _ (List.mem_append_right _ (List.mem_append_right _ (List.mem_append_right _ (List.mem_append_right _ (List.mem_append_right _ (List.mem_append_right _ (List.mem_append_right _ (List.mem_append_right _ (List.mem_append_right _ (List.mem_append_right _ (List.mem_append_right _ (List.mem_append_right _ (List.mem_append_right _ (List.mem_append_right _ (List.mem_append_right _ (List.mem_append_right _ (List.mem_append_right _ (List.mem_append_right _ (List.mem_append_right _ (List.mem_append_right _ (List.mem_append_right _ (List.mem_append_right _ (List.mem_append_right _ (List.mem_append_right _ (List.mem_append_right _ (List.mem_append_right _ (List.mem_append_right _ (List.mem_append_right _ (List.mem_append_right _ (List.mem_append_right _ (List.mem_append_right _ (List.mem_append_right _ (List.mem_append_left _ (h)))))))))))))))))))))))))))))))))))))))))))))))))))))))))))))))))
theorem WLi_65 : ∀ w ∈ WL_65, w ∈ wsL_law := fun _ h => List.mem_append_right _ (List.mem_append_right _ (List.mem_append_right _ (List.mem_append_right _ (List.mem_append_right _ (List.mem_append_right _ (List.mem_append_right _ (List.mem_append_right _ (List.mem_append_right _ (List.mem_append_right _ (List.mem_append_right _ (List.mem_append_right _ (List.mem_append_right _ (List.mem_append_right _ (List.mem_append_right _ (List.mem_append_right _ (List.mem_append_right _ (List.mem_append_right _ (List.mem_append_right _ (List.mem_append_right _ (List.mem_append_right _ (List.mem_append_right _ (List.mem_append_right _ (List.mem_append_right _ (List.mem_append_right _ (List.mem_append_right _ (List.mem_append_right _ (List.mem_append_right _ (List.mem_append_right _ (List.mem_append_right _ (List.mem_append_right _ (List.mem_append_right _ (List.mem_append_right _ (List.mem_append_right _ (List.mem_append_right _ (List.mem_append_right _ (List.mem_append_right _ (List.mem_append_right _ (List.mem_append_right _ (List.mem_append_right _ (List.mem_append_right _ (List.mem_append_right _ (List.mem_append_right _ (List.mem_append_right _ (List.mem_append_right _ (List.mem_append_right _ (List.mem_append_right _ (List.mem_append_right _ (List.mem_append_right _ (List.mem_append_right _ (List.mem_append_right _ (List.mem_append_right _ (List.mem_append_right _ (List.mem_append_right _ (List.mem_append_right _ (List.mem_append_right _ (List.mem_append_right _ (List.mem_append_right _ (List.mem_append_right _ (List.mem_append_right _ (List.mem_append_right _ (List.mem_append_right _ (List.mem_append_right _ (List.mem_append_right _ (List.mem_append_right _ (List.mem_append_left _ (h))))))))))))))))))))))))))))))))))))))))))))))))))))))))))))))))))
theorem WLi_66 : ∀ w ∈ WL_66, w ∈ wsL_law := fun _ h => List.mem_append_right _ (List.mem_append_right _ (List.mem_append_right _ (List.mem_append_right _ (List.mem_append_right _ (List.mem_append_right _ (List.mem_append_right _ (List.mem_append_right _ (List.mem_append_right _ (List.mem_append_right _ (List.mem_append_right _ (List.mem_append_right _ (List.mem_append_right _ (List.mem_append_right _ (List.mem_append_right _ (List.mem_append_right _ (List.mem_append_right _ (List.mem_append_right _ (List.mem_append_right _ (List.mem_append_right _ (List.mem_append_right _ (List.mem_append_right _ (List.mem_append_right _ (List.mem_append_right _ (List.mem_append_right _ (List.mem_append_right _ (List.mem_append_right _ (List.mem_append_right _ (List.mem_append_right _ (List.mem_append_right _ (List.mem_append_right _ (List.mem_append_right _ (List.mem_append_right _ (List.mem_append_right _ (List.mem_append_right _ (List.mem_append_right _ (List.mem_append_right _ (List.mem_append_right _ (List.mem_append_right _ (List.mem_append_right _ (List.mem_append_right _ (List.mem_append_right _ (List.mem_append_right _ (List.mem_append_right _ (List.mem_append_right _ (List.mem_append_right _ (List.mem_append_right _ (List.mem_append_right _ (List.mem_append_right _ (List.mem_append_right _ (List.mem_append_right _ (List.mem_append_right _ (List.mem_append_right _ (List.mem_append_right _ (List.mem_append_right _ (List.mem_append_right _ (List.mem_append_right _ (List.mem_append_right _ (List.mem_append_right _ (List.mem_append_right _ (List.mem_append_right _ (List.mem_append_right _ (List.mem_append_right _ (List.mem_append_right _ (List.mem_append_right _ (List.mem_append_right _ (List.mem_append_left _ (h)))))))))))))))))))))))))))))))))))))))))))))))))))))))))))))))))))
theorem WLi_67 : ∀ w ∈ WL_67, w ∈ wsL_law := fun _ h => List.mem_append_right _ (List.mem_append_right _ (List.mem_append_right _ (List.mem_append_right _ (List.mem_append_right _ (List.mem_append_right _ (List.mem_append_right _ (List.mem_append_right _ (List.mem_append_right _ (List.mem_append_right _ (List.mem_append_right _ (List.mem_append_right _ (List.mem_append_right _ (List.mem_append_right _ (List.mem_append_right _ (List.mem_append_right _ (List.mem_append_right _ (List.mem_append_right _ (List.mem_append_right _ (List.mem_append_right _ (List.mem_append_right _ (List.mem_append_right _ (List.mem_append_right _ (List.mem_append_right _ (List.mem_append_right _ (List.mem_append_right _ (List.mem_append_right _ (List.mem_append_right _ (List.mem_append_right _ (List.mem_append_right _ (List.mem_append_right _ (List.mem_append_right _ (List.mem_append_right _ (List.mem_append_right _ (List.mem_append_right _ (List.mem_append_right _ (List.mem_append_right _ (List.mem_append_right _ (List.mem_append_right _ (List.mem_append_right _ (List.mem_append_right _ (List.mem_append_right _ (List.mem_append_right _ (List.mem_append_right _ (List.mem_append_right _ (List.mem_append_right _ (List.mem_append_right _ (List.mem_append_right _ (List.mem_append_right _ (List.mem_append_right _ (List.mem_append_right _ (List.mem_append_right _ (List.mem_append_right _ (List.mem_append_right _ (List.mem_append_right _ (List.mem_append_right _ (List.mem_append_right _ (List.mem_append_right _ (List.mem_append_right _ (List.mem_append_right _ (List.mem_append_right _ (List.mem_append_right _ (List.mem_append_right _ (List.mem_append_right _ (List.mem_append_right _ (List.mem_append_right _ (List.mem_append_right _ (List.mem_append_left _ (h))))))))))))))))))))))))))))))))))))))))))))))))))))))))))))))))))))
theorem WLi_68 : ∀ w ∈ WL_68, w ∈ wsL_law := fun _ h => List.mem_append_right _ (List.mem_append_right _ (List.mem_append_right _ (List.mem_append_right _ (List.mem_append_right _ (List.mem_append_right _ (List.mem_append_right _ (List.mem_append_right _ (List.mem_append_right _ (List.mem_append_right _ (List.mem_append_right _ (List.mem_append_right _ (List.mem_append_right _ (List.mem_append_right _ (List.mem_append_right _ (List.mem_append_right _ (List.mem_append_right _ (List.mem_append_right _ (List.mem_append_right _ (List.mem_append_right _ (List.mem_append_right _ (List.mem_append_right _ (List.mem_append_right _ (List.mem_append_right _ (List.mem_append_right _ (List.mem_append_right _ (List.mem_append_right _ (List.mem_append_right _ (List.mem_append_right _ (List.mem_append_right _ (List.mem_append_right _ (List.mem_append_right _ (List.mem_append_right _ (List.mem_append_right _ (List.mem_append_right _ (List.mem_append_right _ (List.mem_append_right _ (List.mem_append_right _ (List.mem_append_right _ (List.mem_append_right _ (List.mem_append_right _ (List.mem_append_right _ (List.mem_append_right _ (List.mem_append_right _ (List.mem_append_right _ (List.mem_append_right _ (List.mem_append_right _ (List.mem_append_right _ (List.mem_append_right _ (List.mem_append_right _ (List.mem_append_right _ (List.mem_append_right _ (List.mem_append_right _ (List.mem_append_right _ (List.mem_append_right _ (List.mem_append_right _ (List.mem_append_right _ (List.mem_append_right _ (List.mem_append_right _ (List.mem_append_right _ (List.mem_append_right _ (List.mem_append_right _ (List.mem_append_right _ (List.mem_append_right _ (List.mem_append_right _ (List.mem_append_right _ (List.mem_append_right _ (List.mem_append_right _ (List.mem_append_left _ (h)))))))))))))))))))))))))))))))))))))))))))))))))))))))))))))))))))))
theorem WLi_69 : ∀ w ∈ WL_69, w ∈ wsL_law := fun _ h => List.mem_append_right _ (List.mem_append_right _ (List.mem_append_right _ (List.mem_append_right _ (List.mem_append_right _ (List.mem_append_right _ (List.mem_append_right _ (List.mem_append_right _ (List.mem_append_right _ (List.mem_append_right _ (List.mem_append_right _ (List.mem_append_right _ (List.mem_append_right _ (List.mem_append_right _ (List.mem_append_right _ (List.mem_append_right _ (List.mem_append_right _ (List.mem_append_right _ (List.mem_append_right _ (List.mem_append_right _ (List.mem_append_right _ (List.mem_append_right _ (List.mem_append_right _ (List.mem_append_right _ (List.mem_append_right _ (List.mem_append_right _ (List.mem_append_right _ (List.mem_append_right _ (List.mem_append_right _ (List.mem_append_right _ (List.mem_append_right _ (List.mem_append_right _ (List.mem_append_right _ (List.mem_append_right _ (List.mem_append_right _ (List.mem_append_right _ (List.mem_append_right _ (List.mem_append_right _ (List.mem_append_right _ (List.mem_append_right _ (List.mem_append_right _ (List.mem_append_right _ (List.mem_append_right _ (List.mem_append_right _ (List.mem_append_right _ (List.mem_append_right _ (List.mem_append_right _ (List.mem_append_right _ (List.mem_append_right _ (List.mem_append_right _ (List.mem_append_right _ (List.mem_append_right _ (List.mem_append_right _ (List.mem_append_right _ (List.mem_append_right _ (List.mem_append_right _ (List.mem_append_right _ (List.mem_append_right _ (List.mem_append_right _ (List.mem_append_right _ (List.mem_append_right _ (List.mem_append_right _ (List.mem_append_right _ (List.mem_append_right _ (List.mem_append_right _ (List.mem_append_right _ (List.mem_append_right _ (List.mem_append_right _ (List.mem_append_right _ (List.mem_append_left _ (h))))))))))))))))))))))))))))))))))))))))))))))))))))))))))))))))))))))
theorem WLi_70 : ∀ w ∈ WL_70, w ∈ wsL_law := fun _ h => List.mem_append_right _ (List.mem_append_right _ (List.mem_append_right _ (List.mem_append_right _ (List.mem_append_right _ (List.mem_append_right _ (List.mem_append_right _ (List.mem_append_right _ (List.mem_append_right _ (List.mem_append_right _ (List.mem_append_right _ (List.mem_append_right _ (List.mem_append_right _ (List.mem_append_right _ (List.mem_append_right _ (List.mem_append_right _ (List.mem_append_right _ (List.mem_append_right _ (List.mem_append_right _ (List.mem_append_right _ (List.mem_append_right _ (List.mem_append_right _ (List.mem_append_right _ (List.mem_append_right _ (List.mem_append_right _ (List.mem_append_right _ (List.mem_append_right _ (List.mem_append_right _ (List.mem_append_right _ (List.mem_append_right _ (List.mem_append_right _ (List.mem_append_right _ (List.mem_append_right _ (List.mem_append_right _ (List.mem_append_right _ (List.mem_append_right _ (List.mem_append_right _ (List.mem_append_right _ (List.mem_append_right _ (List.mem_append_right _ (List.mem_append_right _ (List.mem_append_right _ (List.mem_append_right _ (List.mem_append_right _ (List.mem_append_right _ (List.mem_append_right _ (List.mem_append_right _ (List.mem_append_right _ (List.mem_append_right _ (List.mem_append_right _ (List.mem_append_right _ (List.mem_append_right _ (List.mem_append_right _ (List.mem_append_right _ (List.mem_append_right _ (List.mem_append_right _ (List.mem_append_right _ (List.mem_append_right _ (List.mem_append_right _ (List.mem_append_right _ (List.mem_append_right _ (List.mem_append_right _ (List.mem_append_right _ (List.mem_append_right _ (List.mem_append_right _ (List.mem_append_right _ (List.mem_append_right _ (List.mem_append_right _ (List.mem_append_right _ (List.mem_append_right _ (List.mem_append_left _ (h)))))))))))))))))))))))))))))))))))))))))))))))))))))))))))))))))))))))
theorem WLi_71 : ∀ w ∈ WL_71, w ∈ wsL_law := fun _ h => List.mem_append_right _ (List.mem_append_right _ (List.mem_append_right _ (List.mem_append_right _ (List.mem_append_right _ (List.mem_append_right _ (List.mem_append_right _ (List.mem_append_right _ (List.mem_append_right _ (List.mem_append_right _ (List.mem_append_right _ (List.mem_append_right _ (List.mem_append_right _ (List.mem_append_right _ (List.mem_append_right _ (List.mem_append_right _ (List.mem_append_right _ (List.mem_append_right _ (List.mem_append_right _ (List.mem_append_right _ (List.mem_append_right _ (List.mem_append_right _ (List.mem_append_right _ (List.mem_append_right _ (List.mem_append_right _ (List.mem_append_right _ (List.mem_append_right _ (List.mem_append_right _ (List.mem_append_right _ (List.mem_append_right _ (List.mem_append_right _ (List.mem_append_right _ (List.mem_append_right _ (List.mem_append_right _ (List.mem_append_right _ (List.mem_append_right _ (List.mem_append_right _ (List.mem_append_right _ (List.mem_append_right _ (List.mem_append_right _ (List.mem_append_right _ (List.mem_append_right _ (List.mem_append_right _ (List.mem_append_right _ (List.mem_append_right _ (List.mem_append_right _ (List.mem_append_right _ (List.mem_append_right _ (List.mem_append_right _ (List.mem_append_right _ (List.mem_append_right _ (List.mem_append_right _ (List.mem_append_right _ (List.mem_append_right _ (List.mem_append_right _ (List.mem_append_right _ (List.mem_append_right _ (List.mem_append_right _ (List.mem_append_right _ (List.mem_append_right _ (List.mem_append_right _ (List.mem_append_right _ (List.mem_append_right _ (List.mem_append_right _ (List.mem_append_right _ (List.mem_append_right _ (List.mem_append_right _ (List.mem_append_right _ (List.mem_append_right _ (List.mem_append_right _ (List.mem_append_right _ (List.mem_append_left _ (h))))))))))))))))))))))))))))))))))))))))))))))))))))))))))))))))))))))))
theorem WLi_72 : ∀ w ∈ WL_72, w ∈ wsL_law := fun _ h => List.mem_append_right _ (List.mem_append_right _ (List.mem_append_right _ (List.mem_append_right _ (List.mem_append_right _ (List.mem_append_right _ (List.mem_append_right _ (List.mem_append_right _ (List.mem_append_right _ (List.mem_append_right _ (List.mem_append_right _ (List.mem_append_right _ (List.mem_append_right _ (List.mem_append_right _ (List.mem_append_right _ (List.mem_append_right _ (List.mem_append_right _ (List.mem_append_right _ (List.mem_append_right _ (List.mem_append_right _ (List.mem_append_right _ (List.mem_append_right _ (List.mem_append_right _ (List.mem_append_right _ (List.mem_append_right _ (List.mem_append_right _ (List.mem_append_right _ (List.mem_append_right _ (List.mem_append_right _ (List.mem_append_right _ (List.mem_append_right _ (List.mem_append_right _ (List.mem_append_right _ (List.mem_append_right _ (List.mem_append_right _ (List.mem_append_right _ (List.mem_append_right _ (List.mem_append_right _ (List.mem_append_right _ (List.mem_append_right _ (List.mem_append_right _ (List.mem_append_right _ (List.mem_append_right _ (List.mem_append_right _ (List.mem_append_right _ (List.mem_append_right _ (List.mem_append_right _ (List.mem_append_right _ (List.mem_append_right _ (List.mem_append_right _ (List.mem_append_right _ (List.mem_append_right _ (List.mem_append_right _ (List.mem_append_right _ (List.mem_append_right _ (List.mem_append_right _ (List.mem_append_right _ (List.mem_append_right _ (List.mem_append_right _ (List.mem_append_right _ (List.mem_append_right _ (List.mem_append_right _ (List.mem_append_right _ (List.mem_append_right _ (List.mem_append_right _ (List.mem_append_right _ (List.mem_append_right _ (List.mem_append_right _ (List.mem_append_right _ (List.mem_append_right _ (List.mem_append_right _ (List.mem_append_right _ (List.mem_append_left _ (h)))))))))))))))))))))))))))))))))))))))))))))))))))))))))))))))))))))))))
theorem WLi_73 : ∀ w ∈ WL_73, w ∈ wsL_law := fun _ h => List.mem_append_right _ (List.mem_append_right _ (List.mem_append_right _ (List.mem_append_right _ (List.mem_append_right _ (List.mem_append_right _ (List.mem_append_right _ (List.mem_append_right _ (List.mem_append_right _ (List.mem_append_right _ (List.mem_append_right _ (List.mem_append_right _ (List.mem_append_right _ (List.mem_append_right _ (List.mem_append_right _ (List.mem_append_right _ (List.mem_append_right _ (List.mem_append_right _ (List.mem_append_right _ (List.mem_append_right _ (List.mem_append_right _ (List.mem_append_right _ (List.mem_append_right _ (List.mem_append_right _ (List.mem_append_right _ (List.mem_append_right _ (List.mem_append_right _ (List.mem_append_right _ (List.mem_append_right _ (List.mem_append_right _ (List.mem_append_right _ (List.mem_append_right _ (List.mem_append_right _ (List.mem_append_right _ (List.mem_append_right _ (List.mem_append_right _ (List.mem_append_right _ (List.mem_append_right _ (List.mem_append_right _ (List.mem_append_right _ (List.mem_append_right _ (List.mem_append_right _ (List.mem_append_right _ (List.mem_append_right _ (List.mem_append_right _ (List.mem_append_right _ (List.mem_append_right _ (List.mem_append_right _ (List.mem_append_right _ (List.mem_append_right _ (List.mem_append_right _ (List.mem_append_right _ (List.mem_append_right _ (List.mem_append_right _ (List.mem_append_right _ (List.mem_append_right _ (List.mem_append_right _ (List.mem_append_right _ (List.mem_append_right _ (List.mem_append_right _ (List.mem_append_right _ (List.mem_append_right _ (List.mem_append_right _ (List.mem_append_right _ (List.mem_append_right _ (List.mem_append_right _ (List.mem_append_right _ (List.mem_append_right _ (List.mem_append_right _ (List.mem_append_right _ (List.mem_append_right _ (List.mem_append_right _ (List.mem_append_right _ (List.mem_append_left _ (h))))))))))))))))))))))))))))))))))))))))))))))))))))))))))))))))))))))))))
theorem WLi_74 : ∀ w ∈ WL_74, w ∈ wsL_law := fun _ h => List.mem_append_right _ (List.mem_append_right _ (List.mem_append_right _ (List.mem_append_right _ (List.mem_append_right _ (List.mem_append_right _ (List.mem_append_right _ (List.mem_append_right _ (List.mem_append_right _ (List.mem_append_right _ (List.mem_append_right _ (List.mem_append_right _ (List.mem_append_right _ (List.mem_append_right _ (List.mem_append_right _ (List.mem_append_right _ (List.mem_append_right _ (List.mem_append_right _ (List.mem_append_right _ (List.mem_append_right _ (List.mem_append_right _ (List.mem_append_right _ (List.mem_append_right _ (List.mem_append_right _ (List.mem_append_right _ (List.mem_append_right _ (List.mem_append_right _ (List.mem_append_right _ (List.mem_append_right _ (List.mem_append_right _ (List.mem_append_right _ (List.mem_append_right _ (List.mem_append_right _ (List.mem_append_right _ (List.mem_append_right _ (List.mem_append_right _ (List.mem_append_right _ (List.mem_append_right _ (List.mem_append_right _ (List.mem_append_right _ (List.mem_append_right _ (List.mem_append_right _ (List.mem_append_right _ (List.mem_append_right _ (List.mem_append_right _ (List.mem_append_right _ (List.mem_append_right _ (List.mem_append_right _ (List.mem_append_right _ (List.mem_append_right _ (List.mem_append_right _ (List.mem_append_right _ (List.mem_append_right _ (List.mem_append_right _ (List.mem_append_right _ (List.mem_append_right _ (List.mem_append_right _ (List.mem_append_right _ (List.mem_append_right _ (List.mem_append_right _ (List.mem_append_right _ (List.mem_append_right _ (List.mem_append_right _ (List.mem_append_right _ (List.mem_append_right _ (List.mem_append_right _ (List.mem_append_right _ (List.mem_append_right _ (List.mem_append_right _ (List.mem_append_right _ (List.mem_append_right _ (List.mem_append_right _ (List.mem_append_right _ (List.mem_append_right _ (List.mem_append_left _ (h)))))))))))))))))))))))))))))))))))))))))))))))))))))))))))))))))))))))))))
theorem WLi_75 : ∀ w ∈ WL_75, w ∈ wsL_law := fun _ h => List.mem_append_right _ (List.mem_append_right _ (List.mem_append_right _ (List.mem_append_right _ (List.mem_append_right _ (List.mem_append_right _ (List.mem_append_right _ (List.mem_append_right _ (List.mem_append_right _ (List.mem_append_right _ (List.mem_append_right _ (List.mem_append_right _ (List.mem_append_right _ (List.mem_append_right _ (List.mem_append_right _ (List.mem_append_right _ (List.mem_append_right _ (List.mem_append_right _ (List.mem_append_right _ (List.mem_append_right _ (List.mem_append_right _ (List.mem_append_right _ (List.mem_append_right _ (List.mem_append_right _ (List.mem_append_right _ (List.mem_append_right _ (List.mem_append_right _ (List.mem_append_right _ (List.mem_append_right _ (List.mem_append_right _ (List.mem_append_right _ (List.mem_append_right _ (List.mem_append_right _ (List.mem_append_right _ (List.mem_append_right _ (List.mem_append_right _ (List.mem_append_right _ (List.mem_append_right _ (List.mem_append_right _ (List.mem_append_right _ (List.mem_append_right _ (List.mem_append_right _ (List.mem_append_right _ (List.mem_append_right _ (List.mem_append_right _ (List.mem_append_right _ (List.mem_append_right _ (List.mem_append_right _ (List.mem_append_right _ (List.mem_append_right _ (List.mem_append_right _ (List.mem_append_right _ (List.mem_append_right _ (List.mem_append_right _ (List.mem_append_right _ (List.mem_append_right _ (List.mem_append_right _ (List.mem_append_right _ (List.mem_append_right _ (List.mem_append_right _ (List.mem_append_right _ (List.mem_append_right _ (List.mem_append_right _ (List.mem_append_right _ (List.mem_append_right _ (List.mem_append_right _ (List.mem_append_right _ (List.mem_append_right _ (List.mem_append_right _ (List.mem_append_right _ (List.mem_append_right _ (List.mem_append_right _ (List.mem_append_right _ (List.mem_append_right _ (List.mem_append_right _ (List.mem_append_left _ (h))))))))))))))))))))))))))))))))))))))))))))))))))))))))))))))))))))))))))))
theorem WLi_76 : ∀ w ∈ WL_76, w ∈ wsL_law := fun _ h => List.mem_append_right _ (List.mem_append_right _ (List.mem_append_right _ (List.mem_append_right _ (List.mem_append_right _ (List.mem_append_right _ (List.mem_append_right _ (List.mem_append_right _ (List.mem_append_right _ (List.mem_append_right _ (List.mem_append_right _ (List.mem_append_right _ (List.mem_append_right _ (List.mem_append_right _ (List.mem_append_right _ (List.mem_append_right _ (List.mem_append_right _ (List.mem_append_right _ (List.mem_append_right _ (List.mem_append_right _ (List.mem_append_right _ (List.mem_append_right _ (List.mem_append_right _ (List.mem_append_right _ (List.mem_append_right _ (List.mem_append_right _ (List.mem_append_right _ (List.mem_append_right _ (List.mem_append_right _ (List.mem_append_right _ (List.mem_append_right _ (List.mem_append_right _ (List.mem_append_right _ (List.mem_append_right _ (List.mem_append_right _ (List.mem_append_right _ (List.mem_append_right _ (List.mem_append_right _ (List.mem_append_right _ (List.mem_append_right _ (List.mem_append_right _ (List.mem_append_right _ (List.mem_append_right _ (List.mem_append_right _ (List.mem_append_right _ (List.mem_append_right _ (List.mem_append_right _ (List.mem_append_right _ (List.mem_append_right _ (List.mem_append_right _ (List.mem_append_right _ (List.mem_append_right _ (List.mem_append_right _ (List.mem_append_right _ (List.mem_append_right _ (List.mem_append_right _ (List.mem_append_right _ (List.mem_append_right _ (List.mem_append_right _ (List.mem_append_right _ (List.mem_append_right _ (List.mem_append_right _ (List.mem_append_right _ (List.mem_append_right _ (List.mem_append_right _ (List.mem_append_right _ (List.mem_append_right _ (List.mem_append_right _ (List.mem_append_right _ (List.mem_append_right _ (List.mem_append_right _ (List.mem_append_right _ (List.mem_append_right _ (List.mem_append_right _ (List.mem_append_right _ (List.mem_append_right _ (List.mem_append_left _ (h)))))))))))))))))))))))))))))))))))))))))))))))))))))))))))))))))))))))))))))
theorem WLi_77 : ∀ w ∈ WL_77, w ∈ wsL_law := fun _ h => List.mem_append_right _ (List.mem_append_right _ (List.mem_append_right _ (List.mem_append_right _ (List.mem_append_right _ (List.mem_append_right _ (List.mem_append_right _ (List.mem_append_right _ (List.mem_append_right _ (List.mem_append_right _ (List.mem_append_right _ (List.mem_append_right _ (List.mem_append_right _ (List.mem_append_right _ (List.mem_append_right _ (List.mem_append_right _ (List.mem_append_right _ (List.mem_append_right _ (List.mem_append_right _ (List.mem_append_right _ (List.mem_append_right _ (List.mem_append_right _ (List.mem_append_right _ (List.mem_append_right _ (List.mem_append_right _ (List.mem_append_right _ (List.mem_append_right _ (List.mem_append_right _ (List.mem_append_right _ (List.mem_append_right _ (List.mem_append_right _ (List.mem_append_right _ (List.mem_append_right _ (List.mem_append_right _ (List.mem_append_right _ (List.mem_append_right _ (List.mem_append_right _ (List.mem_append_right _ (List.mem_append_right _ (List.mem_append_right _ (List.mem_append_right _ (List.mem_append_right _ (List.mem_append_right _ (List.mem_append_right _ (List.mem_append_right _ (List.mem_append_right _ (List.mem_append_right _ (List.mem_append_right _ (List.mem_append_right _ (List.mem_append_right _ (List.mem_append_right _ (List.mem_append_right _ (List.mem_append_right _ (List.mem_append_right _ (List.mem_append_right _ (List.mem_append_right _ (List.mem_append_right _ (List.mem_append_right _ (List.mem_append_right _ (List.mem_append_right _ (List.mem_append_right _ (List.mem_append_right _ (List.mem_append_right _ (List.mem_append_right _ (List.mem_append_right _ (List.mem_append_right _ (List.mem_append_right _ (List.mem_append_right _ (List.mem_append_right _ (List.mem_append_right _ (List.mem_append_right _ (List.mem_append_right _ (List.mem_append_right _ (List.mem_append_right _ (List.mem_append_right _ (List.mem_append_right _ (List.mem_append_right _ (List.mem_append_left _ (h))))))))))))))))))))))))))))))))))))))))))))))))))))))))))))))))))))))))))))))
theorem WLi_78 : ∀ w ∈ WL_78, w ∈ wsL_law := fun _ h => List.mem_append_right _ (List.mem_append_right _ (List.mem_append_right _ (List.mem_append_right _ (List.mem_append_right _ (List.mem_append_right _ (List.mem_append_right _ (List.mem_append_right _ (List.mem_append_right _ (List.mem_append_right _ (List.mem_append_right _ (List.mem_append_right _ (List.mem_append_right _ (List.mem_append_right _ (List.mem_append_right _ (List.mem_append_right _ (List.mem_append_right _ (List.mem_append_right _ (List.mem_append_right _ (List.mem_append_right _ (List.mem_append_right _ (List.mem_append_right _ (List.mem_append_right _ (List.mem_append_right _ (List.mem_append_right _ (List.mem_append_right _ (List.mem_append_right _ (List.mem_append_right _ (List.mem_append_right _ (List.mem_append_right _ (List.mem_append_right _ (List.mem_append_right _ (List.mem_append_right _ (List.mem_append_right _ (List.mem_append_right _ (List.mem_append_right _ (List.mem_append_right _ (List.mem_append_right _ (List.mem_append_right _ (List.mem_append_right _ (List.mem_append_right _ (List.mem_append_right _ (List.mem_append_right _ (List.mem_append_right _ (List.mem_append_right _ (List.mem_append_right _ (List.mem_append_right _ (List.mem_append_right _ (List.mem_append_right _ (List.mem_append_right _ (List.mem_append_right _ (List.mem_append_right _ (List.mem_append_right _ (List.mem_append_right _ (List.mem_append_right _ (List.mem_append_right _ (List.mem_append_right _ (List.mem_append_right _ (List.mem_append_right _ (List.mem_append_right _ (List.mem_append_right _ (List.mem_append_right _ (List.mem_append_right _ (List.mem_append_right _ (List.mem_append_right _ (List.mem_append_right _ (List.mem_append_right _ (List.mem_append_right _ (List.mem_append_right _ (List.mem_append_right _ (List.mem_append_right _ (List.mem_append_right _ (List.mem_append_right _ (List.mem_append_right _ (List.mem_append_right _ (List.mem_append_right _ (List.mem_append_right _ (List.mem_append_right _ (List.mem_append_left _ (h)))))))))))))))))))))))))))))))))))))))))))))))))))))))))))))))))))))))))))))))
theorem WLi_79 : ∀ w ∈ WL_79, w ∈ wsL_law := fun _ h => List.mem_append_right _ (List.mem_append_right _ (List.mem_append_right _ (List.mem_append_right _ (List.mem_append_right _ (List.mem_append_right _ (List.mem_append_right _ (List.mem_append_right _ (List.mem_append_right _ (List.mem_append_right _ (List.mem_append_right _ (List.mem_append_right _ (List.mem_append_right _ (List.mem_append_right _ (List.mem_append_right _ (List.mem_append_right _ (List.mem_append_right _ (List.mem_append_right _ (List.mem_append_right _ (List.mem_append_right _ (List.mem_append_right _ (List.mem_append_right _ (List.mem_append_right _ (List.mem_append_right _ (List.mem_append_right _ (List.mem_append_right _ (List.mem_append_right _ (List.mem_append_right _ (List.mem_append_right _ (List.mem_append_right _ (List.mem_append_right _ (List.mem_append_right _ (List.mem_append_right _ (List.mem_append_right _ (List.mem_append_right _ (List.mem_append_right _ (List.mem_append_right _ (List.mem_append_right _ (List.mem_append_right _ (List.mem_append_right _ (List.mem_append_right _ (List.mem_append_right _ (List.mem_append_right _ (List.mem_append_right _ (List.mem_append_right _ (List.mem_append_right _ (List.mem_append_right _ (List.mem_append_right _ (List.mem_append_right _ (List.mem_append_right _ (List.mem_append_right _ (List.mem_append_right _ (List.mem_append_right _ (List.mem_append_right _ (List.mem_append_right _ (List.mem_append_right _ (List.mem_append_right _ (List.mem_append_right _ (List.mem_append_right _ (List.mem_append_right _ (List.mem_append_right _ (List.mem_append_right _ (List.mem_append_right _ (List.mem_append_right _ (List.mem_append_right _ (List.mem_append_right _ (List.mem_append_right _ (List.mem_append_right _ (List.mem_append_right _ (List.mem_append_right _ (List.mem_append_right _ (List.mem_append_right _ (List.mem_append_right _ (List.mem_append_right _ (List.mem_append_right _ (List.mem_append_right _ (List.mem_append_right _ (List.mem_append_right _ (List.mem_append_right _ (List.mem_append_left _ (h))))))))))))))))))))))))))))))))))))))))))))))))))))))))))))))))))))))))))))))))
theorem WLi_80 : ∀ w ∈ WL_80, w ∈ wsL_law := fun _ h => List.mem_append_right _ (List.mem_append_right _ (List.mem_append_right _ (List.mem_append_right _ (List.mem_append_right _ (List.mem_append_right _ (List.mem_append_right _ (List.mem_append_right _ (List.mem_append_right _ (List.mem_append_right _ (List.mem_append_right _ (List.mem_append_right _ (List.mem_append_right _ (List.mem_append_right _ (List.mem_append_right _ (List.mem_append_right _ (List.mem_append_right _ (List.mem_append_right _ (List.mem_append_right _ (List.mem_append_right _ (List.mem_append_right _ (List.mem_append_right _ (List.mem_append_right _ (List.mem_append_right _ (List.mem_append_right _ (List.mem_append_right _ (List.mem_append_right _ (List.mem_append_right _ (List.mem_append_right _ (List.mem_append_right _ (List.mem_append_right _ (List.mem_append_right _ (List.mem_append_right _ (List.mem_append_right _ (List.mem_append_right _ (List.mem_append_right _ (List.mem_append_right _ (List.mem_append_right _ (List.mem_append_right _ (List.mem_append_right _ (List.mem_append_right _ (List.mem_append_right _ (List.mem_append_right _ (List.mem_append_right _ (List.mem_append_right _ (List.mem_append_right _ (List.mem_append_right _ (List.mem_append_right _ (List.mem_append_right _ (List.mem_append_right _ (List.mem_append_right _ (List.mem_append_right _ (List.mem_append_right _ (List.mem_append_right _ (List.mem_append_right _ (List.mem_append_right _ (List.mem_append_right _ (List.mem_append_right _ (List.mem_append_right _ (List.mem_append_right _ (List.mem_append_right _ (List.mem_append_right _ (List.mem_append_right _ (List.mem_append_right _ (List.mem_append_right _ (List.mem_append_right _ (List.mem_append_right _ (List.mem_append_right _ (List.mem_append_right _ (List.mem_append_right _ (List.mem_append_right _ (List.mem_append_right _ (List.mem_append_right _ (List.mem_append_right _ (List.mem_append_right _ (List.mem_append_right _ (List.mem_append_right _ (List.mem_append_right _ (List.mem_append_right _ (List.mem_append_right _ (List.mem_append_left _ (h)))))))))))))))))))))))))))))))))))))))))))))))))))))))))))))))))))))))))))))))))
theorem WLi_81 : ∀ w ∈ WL_81, w ∈ wsL_law := fun _ h => List.mem_append_right _ (List.mem_append_right _ (List.mem_append_right _ (List.mem_append_right _ (List.mem_append_right _ (List.mem_append_right _ (List.mem_append_right _ (List.mem_append_right _ (List.mem_append_right _ (List.mem_append_right _ (List.mem_append_right _ (List.mem_append_right _ (List.mem_append_right _ (List.mem_append_right _ (List.mem_append_right _ (List.mem_append_right _ (List.mem_append_right _ (List.mem_append_right _ (List.mem_append_right _ (List.mem_append_right _ (List.mem_append_right _ (List.mem_append_right _ (List.mem_append_right _ (List.mem_append_right _ (List.mem_append_right _ (List.mem_append_right _ (List.mem_append_right _ (List.mem_append_right _ (List.mem_append_right _ (List.mem_append_right _ (List.mem_append_right _ (List.mem_append_right _ (List.mem_append_right _ (List.mem_append_right _ (List.mem_append_right _ (List.mem_append_right _ (List.mem_append_right _ (List.mem_append_right _ (List.mem_append_right _ (List.mem_append_right _ (List.mem_append_right _ (List.mem_append_right _ (List.mem_append_right _ (List.mem_append_right _ (List.mem_append_right _ (List.mem_append_right _ (List.mem_append_right _ (List.mem_append_right _ (List.mem_append_right _ (List.mem_append_right _ (List.mem_append_right _ (List.mem_append_right _ (List.mem_append_right _ (List.mem_append_right _ (List.mem_append_right _ (List.mem_append_right _ (List.mem_append_right _ (List.mem_append_right _ (List.mem_append_right _ (List.mem_append_right _ (List.mem_append_right _ (List.mem_append_right _ (List.mem_append_right _ (List.mem_append_right _ (List.mem_append_right _ (List.mem_append_right _ (List.mem_append_right _ (List.mem_append_right _ (List.mem_append_right _ (List.mem_append_right _ (List.mem_append_right _ (List.mem_append_right _ (List.mem_append_right _ (List.mem_append_right _ (List.mem_append_right _ (List.mem_append_right _ (List.mem_append_right _ (List.mem_append_right _ (List.mem_append_right _ (List.mem_append_right _ (List.mem_append_right _ (List.mem_append_left _ (h))))))))))))))))))))))))))))))))))))))))))))))))))))))))))))))))))))))))))))))))))
theorem WLi_82 : ∀ w ∈ WL_82, w ∈ wsL_law := fun _ h => List.mem_append_right _ (List.mem_append_right _ (List.mem_append_right _ (List.mem_append_right _ (List.mem_append_right _ (List.mem_append_right _ (List.mem_append_right _ (List.mem_append_right _ (List.mem_append_right _ (List.mem_append_right _ (List.mem_append_right _ (List.mem_append_right _ (List.mem_append_right _ (List.mem_append_right _ (List.mem_append_right _ (List.mem_append_right _ (List.mem_append_right _ (List.mem_append_right _ (List.mem_append_right _ (List.mem_append_right _ (List.mem_append_right _ (List.mem_append_right _ (List.mem_append_right _ (List.mem_append_right _ (List.mem_append_right _ (List.mem_append_right _ (List.mem_append_right _ (List.mem_append_right _ (List.mem_append_right _ (List.mem_append_right _ (List.mem_append_right _ (List.mem_append_right _ (List.mem_append_right _ (List.mem_append_right _ (List.mem_append_right _ (List.mem_append_right _ (List.mem_append_right _ (List.mem_append_right _ (List.mem_append_right _ (List.mem_append_right _ (List.mem_append_right _ (List.mem_append_right _ (List.mem_append_right _ (List.mem_append_right _ (List.mem_append_right _ (List.mem_append_right _ (List.mem_append_right _ (List.mem_append_right _ (List.mem_append_right _ (List.mem_append_right _ (List.mem_append_right _ (List.mem_append_right _ (List.mem_append_right _ (List.mem_append_right _ (List.mem_append_right _ (List.mem_append_right _ (List.mem_append_right _ (List.mem_append_right _ (List.mem_append_right _ (List.mem_append_right _ (List.mem_append_right _ (List.mem_append_right _ (List.mem_append_right _ (List.mem_append_right _ (List.mem_append_right _ (List.mem_append_right _ (List.mem_append_right _ (List.mem_append_right _ (List.mem_append_right _ (List.mem_append_right _ (List.mem_append_right _ (List.mem_append_right _ (List.mem_append_right _ (List.mem_append_right _ (List.mem_append_right _ (List.mem_append_right _ (List.mem_append_right _ (List.mem_append_right _ (List.mem_append_right _ (List.mem_append_right _ (List.mem_append_right _ (List.mem_append_right _ (List.mem_append_left _ (h)))))))))))))))))))))))))))))))))))))))))))))))))))))))))))))))))))))))))))))))))))
theorem WLi_83 : ∀ w ∈ WL_83, w ∈ wsL_law := fun _ h => List.mem_append_right _ (List.mem_append_right _ (List.mem_append_right _ (List.mem_append_right _ (List.mem_append_right _ (List.mem_append_right _ (List.mem_append_right _ (List.mem_append_right _ (List.mem_append_right _ (List.mem_append_right _ (List.mem_append_right _ (List.mem_append_right _ (List.mem_append_right _ (List.mem_append_right _ (List.mem_append_right _ (List.mem_append_right _ (List.mem_append_right _ (List.mem_append_right _ (List.mem_append_right _ (List.mem_append_right _ (List.mem_append_right _ (List.mem_append_right _ (List.mem_append_right _ (List.mem_append_right _ (List.mem_append_right _ (List.mem_append_right _ (List.mem_append_right _ (List.mem_append_right _ (List.mem_append_right _ (List.mem_append_right _ (List.mem_append_right _ (List.mem_append_right _ (List.mem_append_right _ (List.mem_append_right _ (List.mem_append_right _ (List.mem_append_right _ (List.mem_append_right _ (List.mem_append_right _ (List.mem_append_right _ (List.mem_append_right _ (List.mem_append_right _ (List.mem_append_right _ (List.mem_append_right _ (List.mem_append_right _ (List.mem_append_right _ (List.mem_append_right _ (List.mem_append_right _ (List.mem_append_right _ (List.mem_append_right _ (List.mem_append_right _ (List.mem_append_right _ (List.mem_append_right _ (List.mem_append_right _ (List.mem_append_right _ (List.mem_append_right _ (List.mem_append_right _ (List.mem_append_right _ (List.mem_append_right _ (List.mem_append_right _ (List.mem_append_right _ (List.mem_append_right _ (List.mem_append_right _ (List.mem_append_right _ (List.mem_append_right _ (List.mem_append_right _ (List.mem_append_right _ (List.mem_append_right _ (List.mem_append_right _ (List.mem_append_right _ (List.mem_append_right _ (List.mem_append_right _ (List.mem_append_right _ (List.mem_append_right _ (List.mem_append_right _ (List.mem_append_right _ (List.mem_append_right _ (List.mem_append_right _ (List.mem_append_right _ (List.mem_append_right _ (List.mem_append_right _ (List.mem_append_right _ (List.mem_append_right _ (List.mem_append_right _ (List.mem_append_left _ (h))))))))))))))))))))))))))))))))))))))))))))))))))))))))))))))))))))))))))))))))))))
theorem WLi_84 : ∀ w ∈ WL_84, w ∈ wsL_law := fun _ h => List.mem_append_right _ (List.mem_append_right _ (List.mem_append_right _ (List.mem_append_right _ (List.mem_append_right _ (List.mem_append_right _ (List.mem_append_right _ (List.mem_append_right _ (List.mem_append_right _ (List.mem_append_right _ (List.mem_append_right _ (List.mem_append_right _ (List.mem_append_right _ (List.mem_append_right _ (List.mem_append_right _ (List.mem_append_right _ (List.mem_append_right _ (List.mem_append_right _ (List.mem_append_right _ (List.mem_append_right _ (List.mem_append_right _ (List.mem_append_right _ (List.mem_append_right _ (List.mem_append_right _ (List.mem_append_right _ (List.mem_append_right _ (List.mem_append_right _ (List.mem_append_right _ (List.mem_append_right _ (List.mem_append_right _ (List.mem_append_right _ (List.mem_append_right _ (List.mem_append_right _ (List.mem_append_right _ (List.mem_append_right _ (List.mem_append_right _ (List.mem_append_right _ (List.mem_append_right _ (List.mem_append_right _ (List.mem_append_right _ (List.mem_append_right _ (List.mem_append_right _ (List.mem_append_right _ (List.mem_append_right _ (List.mem_append_right _ (List.mem_append_right _ (List.mem_append_right _ (List.mem_append_right _ (List.mem_append_right _ (List.mem_append_right _ (List.mem_append_right _ (List.mem_append_right _ (List.mem_append_right _ (List.mem_append_right _ (List.mem_append_right _ (List.mem_append_right _ (List.mem_append_right _ (List.mem_append_right _ (List.mem_append_right _ (List.mem_append_right _ (List.mem_append_right _ (List.mem_append_right _ (List.mem_append_right _ (List.mem_append_right _ (List.mem_append_right _ (List.mem_append_right _ (List.mem_append_right _ (List.mem_append_right _ (List.mem_append_right _ (List.mem_append_right _ (List.mem_append_right _ (List.mem_append_right _ (List.mem_append_right _ (List.mem_append_right _ (List.mem_append_right _ (List.mem_append_right _ (List.mem_append_right _ (List.mem_append_right _ (List.mem_append_right _ (List.mem_append_right _ (List.mem_append_right _ (List.mem_append_right _ (List.mem_append_right _ (List.mem_append_right _ (List.mem_append_left _ (h)))))))))))))))))))))))))))))))))))))))))))))))))))))))))))))))))))))))))))))))))))))
theorem WLi_85 : ∀ w ∈ WL_85, w ∈ wsL_law := fun _ h => List.mem_append_right _ (List.mem_append_right _ (List.mem_append_right _ (List.mem_append_right _ (List.mem_append_right _ (List.mem_append_right _ (List.mem_append_right _ (List.mem_append_right _ (List.mem_append_right _ (List.mem_append_right _ (List.mem_append_right _ (List.mem_append_right _ (List.mem_append_right _ (List.mem_append_right _ (List.mem_append_right _ (List.mem_append_right _ (List.mem_append_right _ (List.mem_append_right _ (List.mem_append_right _ (List.mem_append_right _ (List.mem_append_right _ (List.mem_append_right _ (List.mem_append_right _ (List.mem_append_right _ (List.mem_append_right _ (List.mem_append_right _ (List.mem_append_right _ (List.mem_append_right _ (List.mem_append_right _ (List.mem_append_right _ (List.mem_append_right _ (List.mem_append_right _ (List.mem_append_right _ (List.mem_append_right _ (List.mem_append_right _ (List.mem_append_right _ (List.mem_append_right _ (List.mem_append_right _ (List.mem_append_right _ (List.mem_append_right _ (List.mem_append_right _ (List.mem_append_right _ (List.mem_append_right _ (List.mem_append_right _ (List.mem_append_right _ (List.mem_append_right _ (List.mem_append_right _ (List.mem_append_right _ (List.mem_append_right _ (List.mem_append_right _ (List.mem_append_right _ (List.mem_append_right _ (List.mem_append_right _ (List.mem_append_right _ (List.mem_append_right _ (List.mem_append_right _ (List.mem_append_right _ (List.mem_append_right _ (List.mem_append_right _ (List.mem_append_right _ (List.mem_append_right _ (List.mem_append_right _ (List.mem_append_right _ (List.mem_append_right _ (List.mem_append_right _ (List.mem_append_right _ (List.mem_append_right _ (List.mem_append_right _ (List.mem_append_right _ (List.mem_append_right _ (List.mem_append_right _ (List.mem_append_right _ (List.mem_append_right _ (List.mem_append_right _ (List.mem_append_right _ (List.mem_append_right _ (List.mem_append_right _ (List.mem_append_right _ (List.mem_append_right _ (List.mem_append_right _ (List.mem_append_right _ (List.mem_append_right _ (List.mem_append_right _ (List.mem_append_right _ (List.mem_append_right _ (List.mem_append_left _ (h))))))))))))))))))))))))))))))))))))))))))))))))))))))))))))))))))))))))))))))))))))))
theorem WLi_86 : ∀ w ∈ WL_86, w ∈ wsL_law := fun _ h => List.mem_append_right _ (List.mem_append_right _ (List.mem_append_right _ (List.mem_append_right _ (List.mem_append_right _ (List.mem_append_right _ (List.mem_append_right _ (List.mem_append_right _ (List.mem_append_right _ (List.mem_append_right _ (List.mem_append_right _ (List.mem_append_right _ (List.mem_append_right _ (List.mem_append_right _ (List.mem_append_right _ (List.mem_append_right _ (List.mem_append_right _ (List.mem_append_right _ (List.mem_append_right _ (List.mem_append_right _ (List.mem_append_right _ (List.mem_append_right _ (List.mem_append_right _ (List.mem_append_right _ (List.mem_append_right _ (List.mem_append_right _ (List.mem_append_right _ (List.mem_append_right _ (List.mem_append_right _ (List.mem_append_right _ (List.mem_append_right _ (List.mem_append_right _ (List.mem_append_right _ (List.mem_append_right _ (List.mem_append_right _ (List.mem_append_right _ (List.mem_append_right _ (List.mem_append_right _ (List.mem_append_right _ (List.mem_append_right _ (List.mem_append_right _ (List.mem_append_right _ (List.mem_append_right _ (List.mem_append_right _ (List.mem_append_right _ (List.mem_append_right _ (List.mem_append_right _ (List.mem_append_right _ (List.mem_append_right _ (List.mem_append_right _ (List.mem_append_right _ (List.mem_append_right _ (List.mem_append_right _ (List.mem_append_right _ (List.mem_append_right _ (List.mem_append_right _ (List.mem_append_right _ (List.mem_append_right _ (List.mem_append_right _ (List.mem_append_right _ (List.mem_append_right _ (List.mem_append_right _ (List.mem_append_right _ (List.mem_append_right _ (List.mem_append_right _ (List.mem_append_right _ (List.mem_append_right _ (List.mem_append_right _ (List.mem_append_right _ (List.mem_append_right _ (List.mem_append_right _ (List.mem_append_right _ (List.mem_append_right _ (List.mem_append_right _ (List.mem_append_right _ (List.mem_append_right _ (List.mem_append_right _ (List.mem_append_right _ (List.mem_append_right _ (List.mem_append_right _ (List.mem_append_right _ (List.mem_append_right _ (List.mem_append_right _ (List.mem_append_right _ (List.mem_append_right _ (List.mem_append_right _ (List.mem_append_left _ (h)))))))))))))))))))))))))))))))))))))))))))))))))))))))))))))))))))))))))))))))))))))))
theorem WLi_87 : ∀ w ∈ WL_87, w ∈ wsL_law := fun _ h => List.mem_append_right _ (List.mem_append_right _ (List.mem_append_right _ (List.mem_append_right _ (List.mem_append_right _ (List.mem_append_right _ (List.mem_append_right _ (List.mem_append_right _ (List.mem_append_right _ (List.mem_append_right _ (List.mem_append_right _ (List.mem_append_right _ (List.mem_append_right _ (List.mem_append_right _ (List.mem_append_right _ (List.mem_append_right _ (List.mem_append_right _ (List.mem_append_right _ (List.mem_append_right _ (List.mem_append_right _ (List.mem_append_right _ (List.mem_append_right _ (List.mem_append_right _ (List.mem_append_right _ (List.mem_append_right _ (List.mem_append_right _ (List.mem_append_right _ (List.mem_append_right _ (List.mem_append_right _ (List.mem_append_right _ (List.mem_append_right _ (List.mem_append_right _ (List.mem_append_right _ (List.mem_append_right _ (List.mem_append_right _ (List.mem_append_right _ (List.mem_append_right _ (List.mem_append_right _ (List.mem_append_right _ (List.mem_append_right _ (List.mem_append_right _ (List.mem_append_right _ (List.mem_append_right _ (List.mem_append_right _ (List.mem_append_right _ (List.mem_append_right _ (List.mem_append_right _ (List.mem_append_right _ (List.mem_append_right _ (List.mem_append_right _ (List.mem_append_right _ (List.mem_append_right _ (List.mem_append_right _ (List.mem_append_right _ (List.mem_append_right _ (List.mem_append_right _ (List.mem_append_right _ (List.mem_append_right _ (List.mem_append_right _ (List.mem_append_right _ (List.mem_append_right _ (List.mem_append_right _ (List.mem_append_right _ (List.mem_append_right _ (List.mem_append_right _ (List.mem_append_right _ (List.mem_append_right _ (List.mem_append_right _ (List.mem_append_right _ (List.mem_append_right _ (List.mem_append_right _ (List.mem_append_right _ (List.mem_append_right _ (List.mem_append_right _ (List.mem_append_right _ (List.mem_append_right _ (List.mem_append_right _ (List.mem_append_right _ (List.mem_append_right _ (List.mem_append_right _ (List.mem_append_right _ (List.mem_append_right _ (List.mem_append_right _ (List.mem_append_right _ (List.mem_append_right _ (List.mem_append_right _ (List.mem_append_right _ (List.mem_append_left _ (h))))))))))))))))))))))))))))))))))))))))))))))))))))))))))))))))))))))))))))))))))))))))
theorem WLi_88 : ∀ w ∈ WL_88, w ∈ wsL_law := fun _ h => List.mem_append_right _ (List.mem_append_right _ (List.mem_append_right _ (List.mem_append_right _ (List.mem_append_right _ (List.mem_append_right _ (List.mem_append_right _ (List.mem_append_right _ (List.mem_append_right _ (List.mem_append_right _ (List.mem_append_right _ (List.mem_append_right _ (List.mem_append_right _ (List.mem_append_right _ (List.mem_append_right _ (List.mem_append_right _ (List.mem_append_right _ (List.mem_append_right _ (List.mem_append_right _ (List.mem_append_right _ (List.mem_append_right _ (List.mem_append_right _ (List.mem_append_right _ (List.mem_append_right _ (List.mem_append_right _ (List.mem_append_right _ (List.mem_append_right _ (List.mem_append_right _ (List.mem_append_right _ (List.mem_append_right _ (List.mem_append_right _ (List.mem_append_right _ (List.mem_append_right _ (List.mem_append_right _ (List.mem_append_right _ (List.mem_append_right _ (List.mem_append_right _ (List.mem_append_right _ (List.mem_append_right _ (List.mem_append_right _ (List.mem_append_right _ (List.mem_append_right _ (List.mem_append_right _ (List.mem_append_right _ (List.mem_append_right _ (List.mem_append_right _ (List.mem_append_right _ (List.mem_append_right _ (List.mem_append_right _ (List.mem_append_right _ (List.mem_append_right _ (List.mem_append_right _ (List.mem_append_right _ (List.mem_append_right _ (List.mem_append_right _ (List.mem_append_right _ (List.mem_append_right _ (List.mem_append_right _ (List.mem_append_right _ (List.mem_append_right _ (List.mem_append_right _ (List.mem_append_right _ (List.mem_append_right _ (List.mem_append_right _ (List.mem_append_right _ (List.mem_append_right _ (List.mem_append_right _ (List.mem_append_right _ (List.mem_append_right _ (List.mem_append_right _ (List.mem_append_right _ (List.mem_append_right _ (List.mem_append_right _ (List.mem_append_right _ (List.mem_append_right _ (List.mem_append_right _ (List.mem_append_right _ (List.mem_append_right _ (List.mem_append_right _ (List.mem_append_right _ (List.mem_append_right _ (List.mem_append_right _ (List.mem_append_right _ (List.mem_append_right _ (List.mem_append_right _ (List.mem_append_right _ (List.mem_append_right _ (List.mem_append_right _ (List.mem_append_left _ (h)))))))))))))))))))))))))))))))))))))))))))))))))))))))))))))))))))))))))))))))))))))))))
theorem WLi_89 : ∀ w ∈ WL_89, w ∈ wsL_law := fun _ h => List.mem_append_right _ (List.mem_append_right _ (List.mem_append_right _ (List.mem_append_right _ (List.mem_append_right _ (List.mem_append_right _ (List.mem_append_right _ (List.mem_append_right _ (List.mem_append_right _ (List.mem_append_right _ (List.mem_append_right _ (List.mem_append_right _ (List.mem_append_right _ (List.mem_append_right _ (List.mem_append_right _ (List.mem_append_right _ (List.mem_append_right _ (List.mem_append_right _ (List.mem_append_right _ (List.mem_append_right _ (List.mem_append_right _ (List.mem_append_right _ (List.mem_append_right _ (List.mem_append_right _ (List.mem_append_right _ (List.mem_append_right _ (List.mem_append_right _ (List.mem_append_right _ (List.mem_append_right _ (List.mem_append_right _ (List.mem_append_right _ (List.mem_append_right _ (List.mem_append_right _ (List.mem_append_right _ (List.mem_append_right _ (List.mem_append_right _ (List.mem_append_right _ (List.mem_append_right _ (List.mem_append_right _ (List.mem_append_right _ (List.mem_append_right _ (List.mem_append_right _ (List.mem_append_right _ (List.mem_append_right _ (List.mem_append_right _ (List.mem_append_right _ (List.mem_append_right _ (List.mem_append_right _ (List.mem_append_right _ (List.mem_append_right _ (List.mem_append_right _ (List.mem_append_right _ (List.mem_append_right _ (List.mem_append_right _ (List.mem_append_right _ (List.mem_append_right _ (List.mem_append_right _ (List.mem_append_right _ (List.mem_append_right _ (List.mem_append_right _ (List.mem_append_right _ (List.mem_append_right _ (List.mem_append_right _ (List.mem_append_right _ (List.mem_append_right _ (List.mem_append_right _ (List.mem_append_right _ (List.mem_append_right _ (List.mem_append_right _ (List.mem_append_right _ (List.mem_append_right _ (List.mem_append_right _ (List.mem_append_right _ (List.mem_append_right _ (List.mem_append_right _ (List.mem_append_right _ (List.mem_append_right _ (List.mem_append_right _ (List.mem_append_right _ (List.mem_append_right _ (List.mem_append_right _ (List.mem_append_right _ (List.mem_append_right _ (List.mem_append_right _ (List.mem_append_right _ (List.mem_append_right _ (List.mem_append_right _ (List.mem_append_right _ (List.mem_append_right _ (List.mem_append_left _ (h))))))))))))))))))))))))))))))))))))))))))))))))))))))))))))))))))))))))))))))))))))))))))
theorem WLi_90 : ∀ w ∈ WL_90, w ∈ wsL_law := fun _ h => List.mem_append_right _ (List.mem_append_right _ (List.mem_append_right _ (List.mem_append_right _ (List.mem_append_right _ (List.mem_append_right _ (List.mem_append_right _ (List.mem_append_right _ (List.mem_append_right _ (List.mem_append_right _ (List.mem_append_right _ (List.mem_append_right _ (List.mem_append_right _ (List.mem_append_right _ (List.mem_append_right _ (List.mem_append_right _ (List.mem_append_right _ (List.mem_append_right _ (List.mem_append_right _ (List.mem_append_right _ (List.mem_append_right _ (List.mem_append_right _ (List.mem_append_right _ (List.mem_append_right _ (List.mem_append_right _ (List.mem_append_right _ (List.mem_append_right _ (List.mem_append_right _ (List.mem_append_right _ (List.mem_append_right _ (List.mem_append_right _ (List.mem_append_right _ (List.mem_append_right _ (List.mem_append_right _ (List.mem_append_right _ (List.mem_append_right _ (List.mem_append_right _ (List.mem_append_right _ (List.mem_append_right _ (List.mem_append_right _ (List.mem_append_right _ (List.mem_append_right _ (List.mem_append_right _ (List.mem_append_right _ (List.mem_append_right _ (List.mem_append_right _ (List.mem_append_right _ (List.mem_append_right _ (List.mem_append_right _ (List.mem_append_right _ (List.mem_append_right _ (List.mem_append_right _ (List.mem_append_right _ (List.mem_append_right _ (List.mem_append_right _ (List.mem_append_right _ (List.mem_append_right _ (List.mem_append_right _ (List.mem_append_right _ (List.mem_append_right _ (List.mem_append_right _ (List.mem_append_right _ (List.mem_append_right _ (List.mem_append_right _ (List.mem_append_right _ (List.mem_append_right _ (List.mem_append_right _ (List.mem_append_right _ (List.mem_append_right _ (List.mem_append_right _ (List.mem_append_right _ (List.mem_append_right _ (List.mem_append_right _ (List.mem_append_right _ (List.mem_append_right _ (List.mem_append_right _ (List.mem_append_right _ (List.mem_append_right _ (List.mem_append_right _ (List.mem_append_right _ (List.mem_append_right _ (List.mem_append_right _ (List.mem_append_right _ (List.mem_append_right _ (List.mem_append_right _ (List.mem_append_right _ (List.mem_append_right _ (List.mem_append_right _ (List.mem_append_right _ (List.mem_append_right _ (List.mem_append_left _ (h)))))))))))))))))))))))))))))))))))))))))))))))))))))))))))))))))))))))))))))))))))))))))))
theorem WLi_91 : ∀ w ∈ WL_91, w ∈ wsL_law := fun _ h => List.mem_append_right _ (List.mem_append_right _ (List.mem_append_right _ (List.mem_append_right _ (List.mem_append_right _ (List.mem_append_right _ (List.mem_append_right _ (List.mem_append_right _ (List.mem_append_right _ (List.mem_append_right _ (List.mem_append_right _ (List.mem_append_right _ (List.mem_append_right _ (List.mem_append_right _ (List.mem_append_right _ (List.mem_append_right _ (List.mem_append_right _ (List.mem_append_right _ (List.mem_append_right _ (List.mem_append_right _ (List.mem_append_right _ (List.mem_append_right _ (List.mem_append_right _ (List.mem_append_right _ (List.mem_append_right _ (List.mem_append_right _ (List.mem_append_right _ (List.mem_append_right _ (List.mem_append_right _ (List.mem_append_right _ (List.mem_append_right _ (List.mem_append_right _ (List.mem_append_right _ (List.mem_append_right _ (List.mem_append_right _ (List.mem_append_right _ (List.mem_append_right _ (List.mem_append_right _ (List.mem_append_right _ (List.mem_append_right _ (List.mem_append_right _ (List.mem_append_right _ (List.mem_append_right _ (List.mem_append_right _ (List.mem_append_right _ (List.mem_append_right _ (List.mem_append_right _ (List.mem_append_right _ (List.mem_append_right _ (List.mem_append_right _ (List.mem_append_right _ (List.mem_append_right _ (List.mem_append_right _ (List.mem_append_right _ (List.mem_append_right _ (List.mem_append_right _ (List.mem_append_right _ (List.mem_append_right _ (List.mem_append_right _ (List.mem_append_right _ (List.mem_append_right _ (List.mem_append_right _ (List.mem_append_right _ (List.mem_append_right _ (List.mem_append_right _ (List.mem_append_right _ (List.mem_append_right _ (List.mem_append_right _ (List.mem_append_right _ (List.mem_append_right _ (List.mem_append_right _ (List.mem_append_right _ (List.mem_append_right _ (List.mem_append_right _ (List.mem_append_right _ (List.mem_append_right _ (List.mem_append_right _ (List.mem_append_right _ (List.mem_append_right _ (List.mem_append_right _ (List.mem_append_right _ (List.mem_append_right _ (List.mem_append_right _ (List.mem_append_right _ (List.mem_append_right _ (List.mem_append_right _ (List.mem_append_right _ (List.mem_append_right _ (List.mem_append_right _ (List.mem_append_right _ (List.mem_append_right _ (List.mem_append_left _ (h))))))))))))))))))))))))))))))))))))))))))))))))))))))))))))))))))))))))))))))))))))))))))))
theorem WLi_92 : ∀ w ∈ WL_92, w ∈ wsL_law := fun _ h => List.mem_append_right _ (List.mem_append_right _ (List.mem_append_right _ (List.mem_append_right _ (List.mem_append_right _ (List.mem_append_right _ (List.mem_append_right _ (List.mem_append_right _ (List.mem_append_right _ (List.mem_append_right _ (List.mem_append_right _ (List.mem_append_right _ (List.mem_append_right _ (List.mem_append_right _ (List.mem_append_right _ (List.mem_append_right _ (List.mem_append_right _ (List.mem_append_right _ (List.mem_append_right _ (List.mem_append_right _ (List.mem_append_right _ (List.mem_append_right _ (List.mem_append_right _ (List.mem_append_right _ (List.mem_append_right _ (List.mem_append_right _ (List.mem_append_right _ (List.mem_append_right _ (List.mem_append_right _ (List.mem_append_right _ (List.mem_append_right _ (List.mem_append_right _ (List.mem_append_right _ (List.mem_append_right _ (List.mem_append_right _ (List.mem_append_right _ (List.mem_append_right _ (List.mem_append_right _ (List.mem_append_right _ (List.mem_append_right _ (List.mem_append_right _ (List.mem_append_right _ (List.mem_append_right _ (List.mem_append_right _ (List.mem_append_right _ (List.mem_append_right _ (List.mem_append_right _ (List.mem_append_right _ (List.mem_append_right _ (List.mem_append_right _ (List.mem_append_right _ (List.mem_append_right _ (List.mem_append_right _ (List.mem_append_right _ (List.mem_append_right _ (List.mem_append_right _ (List.mem_append_right _ (List.mem_append_right _ (List.mem_append_right _ (List.mem_append_right _ (List.mem_append_right _ (List.mem_append_right _ (List.mem_append_right _ (List.mem_append_right _ (List.mem_append_right _ (List.mem_append_right _ (List.mem_append_right _ (List.mem_append_right _ (List.mem_append_right _ (List.mem_append_right _ (List.mem_append_right _ (List.mem_append_right _ (List.mem_append_right _ (List.mem_append_right _ (List.mem_append_right _ (List.mem_append_right _ (List.mem_append_right _ (List.mem_append_right _ (List.mem_append_right _ (List.mem_append_right _ (List.mem_append_right _ (List.mem_append_right _ (List.mem_append_right _ (List.mem_append_right _ (List.mem_append_right _ (List.mem_append_right _ (List.mem_append_right _ (List.mem_append_right _ (List.mem_append_right _ (List.mem_append_right _ (List.mem_append_right _ (List.mem_append_right _ (List.mem_append_left _ (h)))))))))))))))))))))))))))))))))))))))))))))))))))))))))))))))))))))))))))))))))))))))))))))
theorem WLi_93 : ∀ w ∈ WL_93, w ∈ wsL_law := fun _ h => List.mem_append_right _ (List.mem_append_right _ (List.mem_append_right _ (List.mem_append_right _ (List.mem_append_right _ (List.mem_append_right _ (List.mem_append_right _ (List.mem_append_right _ (List.mem_append_right _ (List.mem_append_right _ (List.mem_append_right _ (List.mem_append_right _ (List.mem_append_right _ (List.mem_append_right _ (List.mem_append_right _ (List.mem_append_right _ (List.mem_append_right _ (List.mem_append_right _ (List.mem_append_right _ (List.mem_append_right _ (List.mem_append_right _ (List.mem_append_right _ (List.mem_append_right _ (List.mem_append_right _ (List.mem_append_right _ (List.mem_append_right _ (List.mem_append_right _ (List.mem_append_right _ (List.mem_append_right _ (List.mem_append_right _ (List.mem_append_right _ (List.mem_append_right _ (List.mem_append_right _ (List.mem_append_right _ (List.mem_append_right _ (List.mem_append_right _ (List.mem_append_right _ (List.mem_append_right _ (List.mem_append_right _ (List.mem_append_right _ (List.mem_append_right _ (List.mem_append_right _ (List.mem_append_right _ (List.mem_append_right _ (List.mem_append_right _ (List.mem_append_right _ (List.mem_append_right _ (List.mem_append_right _ (List.mem_append_right _ (List.mem_append_right _ (List.mem_append_right _ (List.mem_append_right _ (List.mem_append_right _ (List.mem_append_right _ (List.mem_append_right _ (List.mem_append_right _ (List.mem_append_right _ (List.mem_append_right _ (List.mem_append_right _ (List.mem_append_right _ (List.mem_append_right _ (List.mem_append_right _ (List.mem_append_right _ (List.mem_append_right _ (List.mem_append_right _ (List.mem_append_right _ (List.mem_append_right _ (List.mem_append_right _ (List.mem_append_right _ (List.mem_append_right _ (List.mem_append_right _ (List.mem_append_right _ (List.mem_append_right _ (List.mem_append_right _ (List.mem_append_right _ (List.mem_append_right _ (List.mem_append_right _ (List.mem_append_right _ (List.mem_append_right _ (List.mem_append_right _ (List.mem_append_right _ (List.mem_append_right _ (List.mem_append_right _ (List.mem_append_right _ (List.mem_append_right _ (List.mem_append_right _ (List.mem_append_right _ (List.mem_append_right _ (List.mem_append_right _ (List.mem_append_right _ (List.mem_append_right _ (List.mem_append_right _ (List.mem_append_right _ (List.mem_append_left _ (h))))))))))))))))))))))))))))))))))))))))))))))))))))))))))))))))))))))))))))))))))))))))))))))
theorem WLi_94 : ∀ w ∈ WL_94, w ∈ wsL_law := fun _ h => List.mem_append_right _ (List.mem_append_right _ (List.mem_append_right _ (List.mem_append_right _ (List.mem_append_right _ (List.mem_append_right _ (List.mem_append_right _ (List.mem_append_right _ (List.mem_append_right _ (List.mem_append_right _ (List.mem_append_right _ (List.mem_append_right _ (List.mem_append_right _ (List.mem_append_right _ (List.mem_append_right _ (List.mem_append_right _ (List.mem_append_right _ (List.mem_append_right _ (List.mem_append_right _ (List.mem_append_right _ (List.mem_append_right _ (List.mem_append_right _ (List.mem_append_right _ (List.mem_append_right _ (List.mem_append_right _ (List.mem_append_right _ (List.mem_append_right _ (List.mem_append_right _ (List.mem_append_right _ (List.mem_append_right _ (List.mem_append_right _ (List.mem_append_right _ (List.mem_append_right _ (List.mem_append_right _ (List.mem_append_right _ (List.mem_append_right _ (List.mem_append_right _ (List.mem_append_right _ (List.mem_append_right _ (List.mem_append_right _ (List.mem_append_right _ (List.mem_append_right _ (List.mem_append_right _ (List.mem_append_right _ (List.mem_append_right _ (List.mem_append_right _ (List.mem_append_right _ (List.mem_append_right _ (List.mem_append_right _ (List.mem_append_right _ (List.mem_append_right _ (List.mem_append_right _ (List.mem_append_right _ (List.mem_append_right _ (List.mem_append_right _ (List.mem_append_right _ (List.mem_append_right _ (List.mem_append_right _ (List.mem_append_right _ (List.mem_append_right _ (List.mem_append_right _ (List.mem_append_right _ (List.mem_append_right _ (List.mem_append_right _ (List.mem_append_right _ (List.mem_append_right _ (List.mem_append_right _ (List.mem_append_right _ (List.mem_append_right _ (List.mem_append_right _ (List.mem_append_right _ (List.mem_append_right _ (List.mem_append_right _ (List.mem_append_right _ (List.mem_append_right _ (List.mem_append_right _ (List.mem_append_right _ (List.mem_append_right _ (List.mem_append_right _ (List.mem_append_right _ (List.mem_append_right _ (List.mem_append_right _ (List.mem_append_right _ (List.mem_append_right _ (List.mem_append_right _ (List.mem_append_right _ (List.mem_append_right _ (List.mem_append_right _ (List.mem_append_right _ (List.mem_append_right _ (List.mem_append_right _ (List.mem_append_right _ (List.mem_append_right _ (List.mem_append_right _ (List.mem_append_left _ (h)))))))))))))))))))))))))))))))))))))))))))))))))))))))))))))))))))))))))))))))))))))))))))))))
theorem WLi_95 : ∀ w ∈ WL_95, w ∈ wsL_law := fun _ h => List.mem_append_right _ (List.mem_append_right _ (List.mem_append_right _ (List.mem_append_right _ (List.mem_append_right _ (List.mem_append_right _ (List.mem_append_right _ (List.mem_append_right _ (List.mem_append_right _ (List.mem_append_right _ (List.mem_append_right _ (List.mem_append_right _ (List.mem_append_right _ (List.mem_append_right _ (List.mem_append_right _ (List.mem_append_right _ (List.mem_append_right _ (List.mem_append_right _ (List.mem_append_right _ (List.mem_append_right _ (List.mem_append_right _ (List.mem_append_right _ (List.mem_append_right _ (List.mem_append_right _ (List.mem_append_right _ (List.mem_append_right _ (List.mem_append_right _ (List.mem_append_right _ (List.mem_append_right _ (List.mem_append_right _ (List.mem_append_right _ (List.mem_append_right _ (List.mem_append_right _ (List.mem_append_right _ (List.mem_append_right _ (List.mem_append_right _ (List.mem_append_right _ (List.mem_append_right _ (List.mem_append_right _ (List.mem_append_right _ (List.mem_append_right _ (List.mem_append_right _ (List.mem_append_right _ (List.mem_append_right _ (List.mem_append_right _ (List.mem_append_right _ (List.mem_append_right _ (List.mem_append_right _ (List.mem_append_right _ (List.mem_append_right _ (List.mem_append_right _ (List.mem_append_right _ (List.mem_append_right _ (List.mem_append_right _ (List.mem_append_right _ (List.mem_append_right _ (List.mem_append_right _ (List.mem_append_right _ (List.mem_append_right _ (List.mem_append_right _ (List.mem_append_right _ (List.mem_append_right _ (List.mem_append_right _ (List.mem_append_right _ (List.mem_append_right _ (List.mem_append_right _ (List.mem_append_right _ (List.mem_append_right _ (List.mem_append_right _ (List.mem_append_right _ (List.mem_append_right _ (List.mem_append_right _ (List.mem_append_right _ (List.mem_append_right _ (List.mem_append_right _ (List.mem_append_right _ (List.mem_append_right _ (List.mem_append_right _ (List.mem_append_right _ (List.mem_append_right _ (List.mem_append_right _ (List.mem_append_right _ (List.mem_append_right _ (List.mem_append_right _ (List.mem_append_right _ (List.mem_append_right _ (List.mem_append_right _ (List.mem_append_right _ (List.mem_append_right _ (List.mem_append_right _ (List.mem_append_right _ (List.mem_append_right _ (List.mem_append_right _ (List.mem_append_right _ (List.mem_append_right _ (List.mem_append_left _ (h))))))))))))))))))))))))))))))))))))))))))))))))))))))))))))))))))))))))))))))))))))))))))))))))
theorem WLi_96 : ∀ w ∈ WL_96, w ∈ wsL_law := fun _ h => List.mem_append_right _ (List.mem_append_right _ (List.mem_append_right _ (List.mem_append_right _ (List.mem_append_right _ (List.mem_append_right _ (List.mem_append_right _ (List.mem_append_right _ (List.mem_append_right _ (List.mem_append_right _ (List.mem_append_right _ (List.mem_append_right _ (List.mem_append_right _ (List.mem_append_right _ (List.mem_append_right _ (List.mem_append_right _ (List.mem_append_right _ (List.mem_append_right _ (List.mem_append_right _ (List.mem_append_right _ (List.mem_append_right _ (List.mem_append_right _ (List.mem_append_right _ (List.mem_append_right _ (List.mem_append_right _ (List.mem_append_right _ (List.mem_append_right _ (List.mem_append_right _ (List.mem_append_right _ (List.mem_append_right _ (List.mem_append_right _ (List.mem_append_right _ (List.mem_append_right _ (List.mem_append_right _ (List.mem_append_right _ (List.mem_append_right _ (List.mem_append_right _ (List.mem_append_right _ (List.mem_append_right _ (List.mem_append_right _ (List.mem_append_right _ (List.mem_append_right _ (List.mem_append_right _ (List.mem_append_right _ (List.mem_append_right _ (List.mem_append_right _ (List.mem_append_right _ (List.mem_append_right _ (List.mem_append_right _ (List.mem_append_right _ (List.mem_append_right _ (List.mem_append_right _ (List.mem_append_right _ (List.mem_append_right _ (List.mem_append_right _ (List.mem_append_right _ (List.mem_append_right _ (List.mem_append_right _ (List.mem_append_right _ (List.mem_append_right _ (List.mem_append_right _ (List.mem_append_right _ (List.mem_append_right _ (List.mem_append_right _ (List.mem_append_right _ (List.mem_append_right _ (List.mem_append_right _ (List.mem_append_right _ (List.mem_append_right _ (List.mem_append_right _ (List.mem_append_right _ (List.mem_append_right _ (List.mem_append_right _ (List.mem_append_right _ (List.mem_append_right _ (List.mem_append_right _ (List.mem_append_right _ (List.mem_append_right _ (List.mem_append_right _ (List.mem_append_right _ (List.mem_append_right _ (List.mem_append_right _ (List.mem_append_right _ (List.mem_append_right _ (List.mem_append_right _ (List.mem_append_right _ (List.mem_append_right _ (List.mem_append_right _ (List.mem_append_right _ (List.mem_append_right _ (List.mem_append_right _ (List.mem_append_right _ (List.mem_append_right _ (List.mem_append_right _ (List.mem_append_right _ (List.mem_append_right _ (List.mem_append_left _ (h)))))))))))))))))))))))))))))))))))))))))))))))))))))))))))))))))))))))))))))))))))))))))))))))))
theorem WLi_97 : ∀ w ∈ WL_97, w ∈ wsL_law := fun _ h => List.mem_append_right _ (List.mem_append_right _ (List.mem_append_right _ (List.mem_append_right _ (List.mem_append_right _ (List.mem_append_right _ (List.mem_append_right _ (List.mem_append_right _ (List.mem_append_right _ (List.mem_append_right _ (List.mem_append_right _ (List.mem_append_right _ (List.mem_append_right _ (List.mem_append_right _ (List.mem_append_right _ (List.mem_append_right _ (List.mem_append_right _ (List.mem_append_right _ (List.mem_append_right _ (List.mem_append_right _ (List.mem_append_right _ (List.mem_append_right _ (List.mem_append_right _ (List.mem_append_right _ (List.mem_append_right _ (List.mem_append_right _ (List.mem_append_right _ (List.mem_append_right _ (List.mem_append_right _ (List.mem_append_right _ (List.mem_append_right _ (List.mem_append_right _ (List.mem_append_right _ (List.mem_append_right _ (List.mem_append_right _ (List.mem_append_right _ (List.mem_append_right _ (List.mem_append_right _ (List.mem_append_right _ (List.mem_append_right _ (List.mem_append_right _ (List.mem_append_right _ (List.mem_append_right _ (List.mem_append_right _ (List.mem_append_right _ (List.mem_append_right _ (List.mem_append_right _ (List.mem_append_right _ (List.mem_append_right _ (List.mem_append_right _ (List.mem_append_right _ (List.mem_append_right _ (List.mem_append_right _ (List.mem_append_right _ (List.mem_append_right _ (List.mem_append_right _ (List.mem_append_right _ (List.mem_append_right _ (List.mem_append_right _ (List.mem_append_right _ (List.mem_append_right _ (List.mem_append_right _ (List.mem_append_right _ (List.mem_append_right _ (List.mem_append_right _ (List.mem_append_right _ (List.mem_append_right _ (List.mem_append_right _ (List.mem_append_right _ (List.mem_append_right _ (List.mem_append_right _ (List.mem_append_right _ (List.mem_append_right _ (List.mem_append_right _ (List.mem_append_right _ (List.mem_append_right _ (List.mem_append_right _ (List.mem_append_right _ (List.mem_append_right _ (List.mem_append_right _ (List.mem_append_right _ (List.mem_append_right _ (List.mem_append_right _ (List.mem_append_right _ (List.mem_append_right _ (List.mem_append_right _ (List.mem_append_right _ (List.mem_append_right _ (List.mem_append_right _ (List.mem_append_right _ (List.mem_append_right _ (List.mem_append_right _ (List.mem_append_right _ (List.mem_append_right _ (List.mem_append_right _ (List.mem_append_right _ (List.mem_append_right _ (List.mem_append_left _ (h))))))))))))))))))))))))))))))))))))))))))))))))))))))))))))))))))))))))))))))))))))))))))))))))))
theorem WLi_98 : ∀ w ∈ WL_98, w ∈ wsL_law := fun _ h => List.mem_append_right _ (List.mem_append_right _ (List.mem_append_right _ (List.mem_append_right _ (List.mem_append_right _ (List.mem_append_right _ (List.mem_append_right _ (List.mem_append_right _ (List.mem_append_right _ (List.mem_append_right _ (List.mem_append_right _ (List.mem_append_right _ (List.mem_append_right _ (List.mem_append_right _ (List.mem_append_right _ (List.mem_append_right _ (List.mem_append_right _ (List.mem_append_right _ (List.mem_append_right _ (List.mem_append_right _ (List.mem_append_right _ (List.mem_append_right _ (List.mem_append_right _ (List.mem_append_right _ (List.mem_append_right _ (List.mem_append_right _ (List.mem_append_right _ (List.mem_append_right _ (List.mem_append_right _ (List.mem_append_right _ (List.mem_append_right _ (List.mem_append_right _ (List.mem_append_right _ (List.mem_append_right _ (List.mem_append_right _ (List.mem_append_right _ (List.mem_append_right _ (List.mem_append_right _ (List.mem_append_right _ (List.mem_append_right _ (List.mem_append_right _ (List.mem_append_right _ (List.mem_append_right _ (List.mem_append_right _ (List.mem_append_right _ (List.mem_append_right _ (List.mem_append_right _ (List.mem_append_right _ (List.mem_append_right _ (List.mem_append_right _ (List.mem_append_right _ (List.mem_append_right _ (List.mem_append_right _ (List.mem_append_right _ (List.mem_append_right _ (List.mem_append_right _ (List.mem_append_right _ (List.mem_append_right _ (List.mem_append_right _ (List.mem_append_right _ (List.mem_append_right _ (List.mem_append_right _ (List.mem_append_right _ (List.mem_append_right _ (List.mem_append_right _ (List.mem_append_right _ (List.mem_append_right _ (List.mem_append_right _ (List.mem_append_right _ (List.mem_append_right _ (List.mem_append_right _ (List.mem_append_right _ (List.mem_append_right _ (List.mem_append_right _ (List.mem_append_right _ (List.mem_append_right _ (List.mem_append_right _ (List.mem_append_right _ (List.mem_append_right _ (List.mem_append_right _ (List.mem_append_right _ (List.mem_append_right _ (List.mem_append_right _ (List.mem_append_right _ (List.mem_append_right _ (List.mem_append_right _ (List.mem_append_right _ (List.mem_append_right _ (List.mem_append_right _ (List.mem_append_right _ (List.mem_append_right _ (List.mem_append_right _ (List.mem_append_right _ (List.mem_append_right _ (List.mem_append_right _ (List.mem_append_right _ (List.mem_append_right _ (List.mem_append_right _ (List.mem_append_left _ (h)))))))))))))))))))))))))))))))))))))))))))))))))))))))))))))))))))))))))))))))))))))))))))))))))))
theorem WLi_99 : ∀ w ∈ WL_99, w ∈ wsL_law := fun _ h => List.mem_append_right _ (List.mem_append_right _ (List.mem_append_right _ (List.mem_append_right _ (List.mem_append_right _ (List.mem_append_right _ (List.mem_append_right _ (List.mem_append_right _ (List.mem_append_right _ (List.mem_append_right _ (List.mem_append_right _ (List.mem_append_right _ (List.mem_append_right _ (List.mem_append_right _ (List.mem_append_right _ (List.mem_append_right _ (List.mem_append_right _ (List.mem_append_right _ (List.mem_append_right _ (List.mem_append_right _ (List.mem_append_right _ (List.mem_append_right _ (List.mem_append_right _ (List.mem_append_right _ (List.mem_append_right _ (List.mem_append_right _ (List.mem_append_right _ (List.mem_append_right _ (List.mem_append_right _ (List.mem_append_right _ (List.mem_append_right _ (List.mem_append_right _ (List.mem_append_right _ (List.mem_append_right _ (List.mem_append_right _ (List.mem_append_right _ (List.mem_append_right _ (List.mem_append_right _ (List.mem_append_right _ (List.mem_append_right _ (List.mem_append_right _ (List.mem_append_right _ (List.mem_append_right _ (List.mem_append_right _ (List.mem_append_right _ (List.mem_append_right _ (List.mem_append_right _ (List.mem_append_right _ (List.mem_append_right _ (List.mem_append_right _ (List.mem_append_right _ (List.mem_append_right _ (List.mem_append_right _ (List.mem_append_right _ (List.mem_append_right _ (List.mem_append_right _ (List.mem_append_right _ (List.mem_append_right _ (List.mem_append_right _ (List.mem_append_right _ (List.mem_append_right _ (List.mem_append_right _ (List.mem_append_right _ (List.mem_append_right _ (List.mem_append_right _ (List.mem_append_right _ (List.mem_append_right _ (List.mem_append_right _ (List.mem_append_right _ (List.mem_append_right _ (List.mem_append_right _ (List.mem_append_right _ (List.mem_append_right _ (List.mem_append_right _ (List.mem_append_right _ (List.mem_append_right _ (List.mem_append_right _ (List.mem_append_right _ (List.mem_append_right _ (List.mem_append_right _ (List.mem_append_right _ (List.mem_append_right _ (List.mem_append_right _ (List.mem_append_right _ (List.mem_append_right _ (List.mem_append_right _ (List.mem_append_right _ (List.mem_append_right _ (List.mem_append_right _ (List.mem_append_right _ (List.mem_append_right _ (List.mem_append_right _ (List.mem_append_right _ (List.mem_append_right _ (List.mem_append_right _ (List.mem_append_right _ (List.mem_append_right _ (List.mem_append_right _ (List.mem_append_right _ (List.mem_append_left _ (h))))))))))))))))))))))))))))))))))))))))))))))))))))))))))))))))))))))))))))))))))))))))))))))))))))
theorem WLi_100 : ∀ w ∈ WL_100, w ∈ wsL_law := fun _ h => List.mem_append_right _ (List.mem_append_right _ (List.mem_append_right _ (List.mem_append_right _ (List.mem_append_right _ (List.mem_append_right _ (List.mem_append_right _ (List.mem_append_right _ (List.mem_append_right _ (List.mem_append_right _ (List.mem_append_right _ (List.mem_append_right _ (List.mem_append_right _ (List.mem_append_right _ (List.mem_append_right _ (List.mem_append_right _ (List.mem_append_right _ (List.mem_append_right _ (List.mem_append_right _ (List.mem_append_right _ (List.mem_append_right _ (List.mem_append_right _ (List.mem_append_right _ (List.mem_append_right _ (List.mem_append_right _ (List.mem_append_right _ (List.mem_append_right _ (List.mem_append_right _ (List.mem_append_right _ (List.mem_append_right _ (List.mem_append_right _ (List.mem_append_right _ (List.mem_append_right _ (List.mem_append_right _ (List.mem_append_right _ (List.mem_append_right _ (List.mem_append_right _ (List.mem_append_right _ (List.mem_append_right _ (List.mem_append_right _ (List.mem_append_right _ (List.mem_append_right _ (List.mem_append_right _ (List.mem_append_right _ (List.mem_append_right _ (List.mem_append_right _ (List.mem_append_right _ (List.mem_append_right _ (List.mem_append_right _ (List.mem_append_right _ (List.mem_append_right _ (List.mem_append_right _ (List.mem_append_right _ (List.mem_append_right _ (List.mem_append_right _ (List.mem_append_right _ (List.mem_append_right _ (List.mem_append_right _ (List.mem_append_right _ (List.mem_append_right _ (List.mem_append_right _ (List.mem_append_right _ (List.mem_append_right _ (List.mem_append_right _ (List.mem_append_right _ (List.mem_append_right _ (List.mem_append_right _ (List.mem_append_right _ (List.mem_append_right _ (List.mem_append_right _ (List.mem_append_right _ (List.mem_append_right _ (List.mem_append_right _ (List.mem_append_right _ (List.mem_append_right _ (List.mem_append_right _ (List.mem_append_right _ (List.mem_append_right _ (List.mem_append_right _ (List.mem_append_right _ (List.mem_append_right _ (List.mem_append_right _ (List.mem_append_right _ (List.mem_append_right _ (List.mem_append_right _ (List.mem_append_right _ (List.mem_append_right _ (List.mem_append_right _ (List.mem_append_right _ (List.mem_append_right _ (List.mem_append_right _ (List.mem_append_right _ (List.mem_append_right _ (List.mem_append_right _ (List.mem_append_right _ (List.mem_append_right _ (List.mem_append_right _ (List.mem_append_right _ (List.mem_append_right _ (List.mem_append_right _ (List.mem_append_left _ (h)))))))))))))))))))))))))))))))))))))))))))))))))))))))))))))))))))))))))))))))))))))))))))))))))))))
theorem inlX0 : ∀ w ∈ wsX00, w ∈ wsL_law := fun _ h => List.mem_append_right _ (List.mem_append_right _ (List.mem_append_right _ (List.mem_append_right _ (List.mem_append_right _ (List.mem_append_right _ (List.mem_append_right _ (List.mem_append_right _ (List.mem_append_right _ (List.mem_append_right _ (List.mem_append_right _ (List.mem_append_right _ (List.mem_append_right _ (List.mem_append_right _ (List.mem_append_right _ (List.mem_append_right _ (List.mem_append_right _ (List.mem_append_right _ (List.mem_append_right _ (List.mem_append_right _ (List.mem_append_right _ (List.mem_append_right _ (List.mem_append_right _ (List.mem_append_right _ (List.mem_append_right _ (List.mem_append_right _ (List.mem_append_right _ (List.mem_append_right _ (List.mem_append_right _ (List.mem_append_right _ (List.mem_append_right _ (List.mem_append_right _ (List.mem_append_right _ (List.mem_append_right _ (List.mem_append_right _ (List.mem_append_right _ (List.mem_append_right _ (List.mem_append_right _ (List.mem_append_right _ (List.mem_append_right _ (List.mem_append_right _ (List.mem_append_right _ (List.mem_append_right _ (List.mem_append_right _ (List.mem_append_right _ (List.mem_append_right _ (List.mem_append_right _ (List.mem_append_right _ (List.mem_append_right _ (List.mem_append_right _ (List.mem_append_right _ (List.mem_append_right _ (List.mem_append_right _ (List.mem_append_right _ (List.mem_append_right _ (List.mem_append_right _ (List.mem_append_right _ (List.mem_append_right _ (List.mem_append_right _ (List.mem_append_right _ (List.mem_append_right _ (List.mem_append_right _ (List.mem_append_right _ (List.mem_append_right _ (List.mem_append_right _ (List.mem_append_right _ (List.mem_append_right _ (List.mem_append_right _ (List.mem_append_right _ (List.mem_append_right _ (List.mem_append_right _ (List.mem_append_right _ (List.mem_append_right _ (List.mem_append_right _ (List.mem_append_right _ (List.mem_append_right _ (List.mem_append_right _ (List.mem_append_right _ (List.mem_append_right _ (List.mem_append_right _ (List.mem_append_right _ (List.mem_append_right _ (List.mem_append_right _ (List.mem_append_right _ (List.mem_append_right _ (List.mem_append_right _ (List.mem_append_right _ (List.mem_append_right _ (List.mem_append_right _ (List.mem_append_right _ (List.mem_append_right _ (List.mem_append_right _ (List.mem_append_right _ (List.mem_append_right _ (List.mem_append_right _ (List.mem_append_right _ (List.mem_append_right _ (List.mem_append_right _ (List.mem_append_right _ (List.mem_append_right _ (List.mem_append_right _ (List.mem_append_left _ (h))))))))))))))))))))))))))))))))))))))))))))))))))))))))))))))))))))))))))))))))))))))))))))))))))))))
theorem inlX1 : ∀ w ∈ wsX10, w ∈ wsL_law := fun _ h => List.mem_append_right _ (List.mem_append_right _ (List.mem_append_right _ (List.mem_append_right _ (List.mem_append_right _ (List.mem_append_right _ (List.mem_append_right _ (List.mem_append_right _ (List.mem_append_right _ (List.mem_append_right _ (List.mem_append_right _ (List.mem_append_right _ (List.mem_append_right _ (List.mem_append_right _ (List.mem_append_right _ (List.mem_append_right _ (List.mem_append_right _ (List.mem_append_right _ (List.mem_append_right _ (List.mem_append_right _ (List.mem_append_right _ (List.mem_append_right _ (List.mem_append_right _ (List.mem_append_right _ (List.mem_append_right _ (List.mem_append_right _ (List.mem_append_right _ (List.mem_append_right _ (List.mem_append_right _ (List.mem_append_right _ (List.mem_append_right _ (List.mem_append_right _ (List.mem_append_right _ (List.mem_append_right _ (List.mem_append_right _ (List.mem_append_right _ (List.mem_append_right _ (List.mem_append_right _ (List.mem_append_right _ (List.mem_append_right _ (List.mem_append_right _ (List.mem_append_right _ (List.mem_append_right _ (List.mem_append_right _ (List.mem_append_right _ (List.mem_append_right _ (List.mem_append_right _ (List.mem_append_right _ (List.mem_append_right _ (List.mem_append_right _ (List.mem_append_right _ (List.mem_append_right _ (List.mem_append_right _ (List.mem_append_right _ (List.mem_append_right _ (List.mem_append_right _ (List.mem_append_right _ (List.mem_append_right _ (List.mem_append_right _ (List.mem_append_right _ (List.mem_append_right _ (List.mem_append_right _ (List.mem_append_right _ (List.mem_append_right _ (List.mem_append_right _ (List.mem_append_right _ (List.mem_append_right _ (List.mem_append_right _ (List.mem_append_right _ (List.mem_append_right _ (List.mem_append_right _ (List.mem_append_right _ (List.mem_append_right _ (List.mem_append_right _ (List.mem_append_right _ (List.mem_append_right _ (List.mem_append_right _ (List.mem_append_right _ (List.mem_append_right _ (List.mem_append_right _ (List.mem_append_right _ (List.mem_append_right _ (List.mem_append_right _ (List.mem_append_right _ (List.mem_append_right _ (List.mem_append_right _ (List.mem_append_right _ (List.mem_append_right _ (List.mem_append_right _ (List.mem_append_right _ (List.mem_append_right _ (List.mem_append_right _ (List.mem_append_right _ (List.mem_append_right _ (List.mem_append_right _ (List.mem_append_right _ (List.mem_append_right _ (List.mem_append_right _ (List.mem_append_right _ (List.mem_append_right _ (List.mem_append_right _ (List.mem_append_right _ (List.mem_append_left _ (h)))))))))))))))))))))))))))))))))))))))))))))))))))))))))))))))))))))))))))))))))))))))))))))))))))))))
theorem inlX2 : ∀ w ∈ wsX20, w ∈ wsL_law := fun _ h => List.mem_append_right _ (List.mem_append_right _ (List.mem_append_right _ (List.mem_append_right _ (List.mem_append_right _ (List.mem_append_right _ (List.mem_append_right _ (List.mem_append_right _ (List.mem_append_right _ (List.mem_append_right _ (List.mem_append_right _ (List.mem_append_right _ (List.mem_append_right _ (List.mem_append_right _ (List.mem_append_right _ (List.mem_append_right _ (List.mem_append_right _ (List.mem_append_right _ (List.mem_append_right _ (List.mem_append_right _ (List.mem_append_right _ (List.mem_append_right _ (List.mem_append_right _ (List.mem_append_right _ (List.mem_append_right _ (List.mem_append_right _ (List.mem_append_right _ (List.mem_append_right _ (List.mem_append_right _ (List.mem_append_right _ (List.mem_append_right _ (List.mem_append_right _ (List.mem_append_right _ (List.mem_append_right _ (List.mem_append_right _ (List.mem_append_right _ (List.mem_append_right _ (List.mem_append_right _ (List.mem_append_right _ (List.mem_append_right _ (List.mem_append_right _ (List.mem_append_right _ (List.mem_append_right _ (List.mem_append_right _ (List.mem_append_right _ (List.mem_append_right _ (List.mem_append_right _ (List.mem_append_right _ (List.mem_append_right _ (List.mem_append_right _ (List.mem_append_right _ (List.mem_append_right _ (List.mem_append_right _ (List.mem_append_right _ (List.mem_append_right _ (List.mem_append_right _ (List.mem_append_right _ (List.mem_append_right _ (List.mem_append_right _ (List.mem_append_right _ (List.mem_append_right _ (List.mem_append_right _ (List.mem_append_right _ (List.mem_append_right _ (List.mem_append_right _ (List.mem_append_right _ (List.mem_append_right _ (List.mem_append_right _ (List.mem_append_right _ (List.mem_append_right _ (List.mem_append_right _ (List.mem_append_right _ (List.mem_append_right _ (List.mem_append_right _ (List.mem_append_right _ (List.mem_append_right _ (List.mem_append_right _ (List.mem_append_right _ (List.mem_append_right _ (List.mem_append_right _ (List.mem_append_right _ (List.mem_append_right _ (List.mem_append_right _ (List.mem_append_right _ (List.mem_append_right _ (List.mem_append_right _ (List.mem_append_right _ (List.mem_append_right _ (List.mem_append_right _ (List.mem_append_right _ (List.mem_append_right _ (List.mem_append_right _ (List.mem_append_right _ (List.mem_append_right _ (List.mem_append_right _ (List.mem_append_right _ (List.mem_append_right _ (List.mem_append_right _ (List.mem_append_right _ (List.mem_append_right _ (List.mem_append_right _ (List.mem_append_right _ (List.mem_append_right _ (List.mem_append_left _ (h))))))))))))))))))))))))))))))))))))))))))))))))))))))))))))))))))))))))))))))))))))))))))))))))))))))))
theorem inlX3 : ∀ w ∈ wsX30, w ∈ wsL_law := fun _ h => List.mem_append_right _ (List.mem_append_right _ (List.mem_append_right _ (List.mem_append_right _ (List.mem_append_right _ (List.mem_append_right _ (List.mem_append_right _ (List.mem_append_right _ (List.mem_append_right _ (List.mem_append_right _ (List.mem_append_right _ (List.mem_append_right _ (List.mem_append_right _ (List.mem_append_right _ (List.mem_append_right _ (List.mem_append_right _ (List.mem_append_right _ (List.mem_append_right _ (List.mem_append_right _ (List.mem_append_right _ (List.mem_append_right _ (List.mem_append_right _ (List.mem_append_right _ (List.mem_append_right _ (List.mem_append_right _ (List.mem_append_right _ (List.mem_append_right _ (List.mem_append_right _ (List.mem_append_right _ (List.mem_append_right _ (List.mem_append_right _ (List.mem_append_right _ (List.mem_append_right _ (List.mem_append_right _ (List.mem_append_right _ (List.mem_append_right _ (List.mem_append_right _ (List.mem_append_right _ (List.mem_append_right _ (List.mem_append_right _ (List.mem_append_right _ (List.mem_append_right _ (List.mem_append_right _ (List.mem_append_right _ (List.mem_append_right _ (List.mem_append_right _ (List.mem_append_right _ (List.mem_append_right _ (List.mem_append_right _ (List.mem_append_right _ (List.mem_append_right _ (List.mem_append_right _ (List.mem_append_right _ (List.mem_append_right _ (List.mem_append_right _ (List.mem_append_right _ (List.mem_append_right _ (List.mem_append_right _ (List.mem_append_right _ (List.mem_append_right _ (List.mem_append_right _ (List.mem_append_right _ (List.mem_append_right _ (List.mem_append_right _ (List.mem_append_right _ (List.mem_append_right _ (List.mem_append_right _ (List.mem_append_right _ (List.mem_append_right _ (List.mem_append_right _ (List.mem_append_right _ (List.mem_append_right _ (List.mem_append_right _ (List.mem_append_right _ (List.mem_append_right _ (List.mem_append_right _ (List.mem_append_right _ (List.mem_append_right _ (List.mem_append_right _ (List.mem_append_right _ (List.mem_append_right _ (List.mem_append_right _ (List.mem_append_right _ (List.mem_append_right _ (List.mem_append_right _ (List.mem_append_right _ (List.mem_append_right _ (List.mem_append_right _ (List.mem_append_right _ (List.mem_append_right _ (List.mem_append_right _ (List.mem_append_right _ (List.mem_append_right _ (List.mem_append_right _ (List.mem_append_right _ (List.mem_append_right _ (List.mem_append_right _ (List.mem_append_right _ (List.mem_append_right _ (List.mem_append_right _ (List.mem_append_right _ (List.mem_append_right _ (List.mem_append_right _ (List.mem_append_right _ (List.mem_append_left _ (h)))))))))))))))))))))))))))))))))))))))))))))))))))))))))))))))))))))))))))))))))))))))))))))))))))))))))
theorem inlX7 : ∀ w ∈ wsX70, w ∈ wsL_law := fun _ h => List.mem_append_right _ (List.mem_append_right _ (List.mem_append_right _ (List.mem_append_right _ (List.mem_append_right _ (List.mem_append_right _ (List.mem_append_right _ (List.mem_append_right _ (List.mem_append_right _ (List.mem_append_right _ (List.mem_append_right _ (List.mem_append_right _ (List.mem_append_right _ (List.mem_append_right _ (List.mem_append_right _ (List.mem_append_right _ (List.mem_append_right _ (List.mem_append_right _ (List.mem_append_right _ (List.mem_append_right _ (List.mem_append_right _ (List.mem_append_right _ (List.mem_append_right _ (List.mem_append_right _ (List.mem_append_right _ (List.mem_append_right _ (List.mem_append_right _ (List.mem_append_right _ (List.mem_append_right _ (List.mem_append_right _ (List.mem_append_right _ (List.mem_append_right _ (List.mem_append_right _ (List.mem_append_right _ (List.mem_append_right _ (List.mem_append_right _ (List.mem_append_right _ (List.mem_append_right _ (List.mem_append_right _ (List.mem_append_right _ (List.mem_append_right _ (List.mem_append_right _ (List.mem_append_right _ (List.mem_append_right _ (List.mem_append_right _ (List.mem_append_right _ (List.mem_append_right _ (List.mem_append_right _ (List.mem_append_right _ (List.mem_append_right _ (List.mem_append_right _ (List.mem_append_right _ (List.mem_append_right _ (List.mem_append_right _ (List.mem_append_right _ (List.mem_append_right _ (List.mem_append_right _ (List.mem_append_right _ (List.mem_append_right _ (List.mem_append_right _ (List.mem_append_right _ (List.mem_append_right _ (List.mem_append_right _ (List.mem_append_right _ (List.mem_append_right _ (List.mem_append_right _ (List.mem_append_right _ (List.mem_append_right _ (List.mem_append_right _ (List.mem_append_right _ (List.mem_append_right _ (List.mem_append_right _ (List.mem_append_right _ (List.mem_append_right _ (List.mem_append_right _ (List.mem_append_right _ (List.mem_append_right _ (List.mem_append_right _ (List.mem_append_right _ (List.mem_append_right _ (List.mem_append_right _ (List.mem_append_right _ (List.mem_append_right _ (List.mem_append_right _ (List.mem_append_right _ (List.mem_append_right _ (List.mem_append_right _ (List.mem_append_right _ (List.mem_append_right _ (List.mem_append_right _ (List.mem_append_right _ (List.mem_append_right _ (List.mem_append_right _ (List.mem_append_right _ (List.mem_append_right _ (List.mem_append_right _ (List.mem_append_right _ (List.mem_append_right _ (List.mem_append_right _ (List.mem_append_right _ (List.mem_append_right _ (List.mem_append_right _ (List.mem_append_right _ (List.mem_append_right _ (List.mem_append_right _ (List.mem_append_left _ (h))))))))))))))))))))))))))))))))))))))))))))))))))))))))))))))))))))))))))))))))))))))))))))))))))))))))))
theorem inlX8 : ∀ w ∈ wsX80, w ∈ wsL_law := fun _ h => List.mem_append_right _ (List.mem_append_right _ (List.mem_append_right _ (List.mem_append_right _ (List.mem_append_right _ (List.mem_append_right _ (List.mem_append_right _ (List.mem_append_right _ (List.mem_append_right _ (List.mem_append_right _ (List.mem_append_right _ (List.mem_append_right _ (List.mem_append_right _ (List.mem_append_right _ (List.mem_append_right _ (List.mem_append_right _ (List.mem_append_right _ (List.mem_append_right _ (List.mem_append_right _ (List.mem_append_right _ (List.mem_append_right _ (List.mem_append_right _ (List.mem_append_right _ (List.mem_append_right _ (List.mem_append_right _ (List.mem_append_right _ (List.mem_append_right _ (List.mem_append_right _ (List.mem_append_right _ (List.mem_append_right _ (List.mem_append_right _ (List.mem_append_right _ (List.mem_append_right _ (List.mem_append_right _ (List.mem_append_right _ (List.mem_append_right _ (List.mem_append_right _ (List.mem_append_right _ (List.mem_append_right _ (List.mem_append_right _ (List.mem_append_right _ (List.mem_append_right _ (List.mem_append_right _ (List.mem_append_right _ (List.mem_append_right _ (List.mem_append_right _ (List.mem_append_right _ (List.mem_append_right _ (List.mem_append_right _ (List.mem_append_right _ (List.mem_append_right _ (List.mem_append_right _ (List.mem_append_right _ (List.mem_append_right _ (List.mem_append_right _ (List.mem_append_right _ (List.mem_append_right _ (List.mem_append_right _ (List.mem_append_right _ (List.mem_append_right _ (List.mem_append_right _ (List.mem_append_right _ (List.mem_append_right _ (List.mem_append_right _ (List.mem_append_right _ (List.mem_append_right _ (List.mem_append_right _ (List.mem_append_right _ (List.mem_append_right _ (List.mem_append_right _ (List.mem_append_right _ (List.mem_append_right _ (List.mem_append_right _ (List.mem_append_right _ (List.mem_append_right _ (List.mem_append_right _ (List.mem_append_right _ (List.mem_append_right _ (List.mem_append_right _ (List.mem_append_right _ (List.mem_append_right _ (List.mem_append_right _ (List.mem_append_right _ (List.mem_append_right _ (List.mem_append_right _ (List.mem_append_right _ (List.mem_append_right _ (List.mem_append_right _ (List.mem_append_right _ (List.mem_append_right _ (List.mem_append_right _ (List.mem_append_right _ (List.mem_append_right _ (List.mem_append_right _ (List.mem_append_right _ (List.mem_append_right _ (List.mem_append_right _ (List.mem_append_right _ (List.mem_append_right _ (List.mem_append_right _ (List.mem_append_right _ (List.mem_append_right _ (List.mem_append_right _ (List.mem_append_right _ (List.mem_append_right _ (List.mem_append_right _ (List.mem_append_left _ (h)))))))))))))))))))))))))))))))))))))))))))))))))))))))))))))))))))))))))))))))))))))))))))))))))))))))))))
theorem inlX9 : ∀ w ∈ wsX90, w ∈ wsL_law := fun _ h => List.mem_append_right _ (List.mem_append_right _ (List.mem_append_right _ (List.mem_append_right _ (List.mem_append_right _ (List.mem_append_right _ (List.mem_append_right _ (List.mem_append_right _ (List.mem_append_right _ (List.mem_append_right _ (List.mem_append_right _ (List.mem_append_right _ (List.mem_append_right _ (List.mem_append_right _ (List.mem_append_right _ (List.mem_append_right _ (List.mem_append_right _ (List.mem_append_right _ (List.mem_append_right _ (List.mem_append_right _ (List.mem_append_right _ (List.mem_append_right _ (List.mem_append_right _ (List.mem_append_right _ (List.mem_append_right _ (List.mem_append_right _ (List.mem_append_right _ (List.mem_append_right _ (List.mem_append_right _ (List.mem_append_right _ (List.mem_append_right _ (List.mem_append_right _ (List.mem_append_right _ (List.mem_append_right _ (List.mem_append_right _ (List.mem_append_right _ (List.mem_append_right _ (List.mem_append_right _ (List.mem_append_right _ (List.mem_append_right _ (List.mem_append_right _ (List.mem_append_right _ (List.mem_append_right _ (List.mem_append_right _ (List.mem_append_right _ (List.mem_append_right _ (List.mem_append_right _ (List.mem_append_right _ (List.mem_append_right _ (List.mem_append_right _ (List.mem_append_right _ (List.mem_append_right _ (List.mem_append_right _ (List.mem_append_right _ (List.mem_append_right _ (List.mem_append_right _ (List.mem_append_right _ (List.mem_append_right _ (List.mem_append_right _ (List.mem_append_right _ (List.mem_append_right _ (List.mem_append_right _ (List.mem_append_right _ (List.mem_append_right _ (List.mem_append_right _ (List.mem_append_right _ (List.mem_append_right _ (List.mem_append_right _ (List.mem_append_right _ (List.mem_append_right _ (List.mem_append_right _ (List.mem_append_right _ (List.mem_append_right _ (List.mem_append_right _ (List.mem_append_right _ (List.mem_append_right _ (List.mem_append_right _ (List.mem_append_right _ (List.mem_append_right _ (List.mem_append_right _ (List.mem_append_right _ (List.mem_append_right _ (List.mem_append_right _ (List.mem_append_right _ (List.mem_append_right _ (List.mem_append_right _ (List.mem_append_right _ (List.mem_append_right _ (List.mem_append_right _ (List.mem_append_right _ (List.mem_append_right _ (List.mem_append_right _ (List.mem_append_right _ (List.mem_append_right _ (List.mem_append_right _ (List.mem_append_right _ (List.mem_append_right _ (List.mem_append_right _ (List.mem_append_right _ (List.mem_append_right _ (List.mem_append_right _ (List.mem_append_right _ (List.mem_append_right _ (List.mem_append_right _ (List.mem_append_right _ (List.mem_append_right _ (List.mem_append_right _ (List.mem_append_left _ (h))))))))))))))))))))))))))))))))))))))))))))))))))))))))))))))))))))))))))))))))))))))))))))))))))))))))))))
theorem inlX10 : ∀ w ∈ wsX100, w ∈ wsL_law := fun _ h => List.mem_append_right _ (List.mem_append_right _ (List.mem_append_right _ (List.mem_append_right _ (List.mem_append_right _ (List.mem_append_right _ (List.mem_append_right _ (List.mem_append_right _ (List.mem_append_right _ (List.mem_append_right _ (List.mem_append_right _ (List.mem_append_right _ (List.mem_append_right _ (List.mem_append_right _ (List.mem_append_right _ (List.mem_append_right _ (List.mem_append_right _ (List.mem_append_right _ (List.mem_append_right _ (List.mem_append_right _ (List.mem_append_right _ (List.mem_append_right _ (List.mem_append_right _ (List.mem_append_right _ (List.mem_append_right _ (List.mem_append_right _ (List.mem_append_right _ (List.mem_append_right _ (List.mem_append_right _ (List.mem_append_right _ (List.mem_append_right _ (List.mem_append_right _ (List.mem_append_right _ (List.mem_append_right _ (List.mem_append_right _ (List.mem_append_right _ (List.mem_append_right _ (List.mem_append_right _ (List.mem_append_right _ (List.mem_append_right _ (List.mem_append_right _ (List.mem_append_right _ (List.mem_append_right _ (List.mem_append_right _ (List.mem_append_right _ (List.mem_append_right _ (List.mem_append_right _ (List.mem_append_right _ (List.mem_append_right _ (List.mem_append_right _ (List.mem_append_right _ (List.mem_append_right _ (List.mem_append_right _ (List.mem_append_right _ (List.mem_append_right _ (List.mem_append_right _ (List.mem_append_right _ (List.mem_append_right _ (List.mem_append_right _ (List.mem_append_right _ (List.mem_append_right _ (List.mem_append_right _ (List.mem_append_right _ (List.mem_append_right _ (List.mem_append_right _ (List.mem_append_right _ (List.mem_append_right _ (List.mem_append_right _ (List.mem_append_right _ (List.mem_append_right _ (List.mem_append_right _ (List.mem_append_right _ (List.mem_append_right _ (List.mem_append_right _ (List.mem_append_right _ (List.mem_append_right _ (List.mem_append_right _ (List.mem_append_right _ (List.mem_append_right _ (List.mem_append_right _ (List.mem_append_right _ (List.mem_append_right _ (List.mem_append_right _ (List.mem_append_right _ (List.mem_append_right _ (List.mem_append_right _ (List.mem_append_right _ (List.mem_append_right _ (List.mem_append_right _ (List.mem_append_right _ (List.mem_append_right _ (List.mem_append_right _ (List.mem_append_right _ (List.mem_append_right _ (List.mem_append_right _ (List.mem_append_right _ (List.mem_append_right _ (List.mem_append_right _ (List.mem_append_right _ (List.mem_append_right _ (List.mem_append_right _ (List.mem_append_right _ (List.mem_append_right _ (List.mem_append_right _ (List.mem_append_right _ (List.mem_append_right _ (List.mem_append_right _ (List.mem_append_right _ (List.mem_append_left _ (h)))))))))))))))))))))))))))))))))))))))))))))))))))))))))))))))))))))))))))))))))))))))))))))))))))))))))))))
theorem inlX11 : ∀ w ∈ wsX110, w ∈ wsL_law := fun _ h => List.mem_append_right _ (List.mem_append_right _ (List.mem_append_right _ (List.mem_append_right _ (List.mem_append_right _ (List.mem_append_right _ (List.mem_append_right _ (List.mem_append_right _ (List.mem_append_right _ (List.mem_append_right _ (List.mem_append_right _ (List.mem_append_right _ (List.mem_append_right _ (List.mem_append_right _ (List.mem_append_right _ (List.mem_append_right _ (List.mem_append_right _ (List.mem_append_right _ (List.mem_append_right _ (List.mem_append_right _ (List.mem_append_right _ (List.mem_append_right _ (List.mem_append_right _ (List.mem_append_right _ (List.mem_append_right _ (List.mem_append_right _ (List.mem_append_right _ (List.mem_append_right _ (List.mem_append_right _ (List.mem_append_right _ (List.mem_append_right _ (List.mem_append_right _ (List.mem_append_right _ (List.mem_append_right _ (List.mem_append_right _ (List.mem_append_right _ (List.mem_append_right _ (List.mem_append_right _ (List.mem_append_right _ (List.mem_append_right _ (List.mem_append_right _ (List.mem_append_right _ (List.mem_append_right _ (List.mem_append_right _ (List.mem_append_right _ (List.mem_append_right _ (List.mem_append_right _ (List.mem_append_right _ (List.mem_append_right _ (List.mem_append_right _ (List.mem_append_right _ (List.mem_append_right _ (List.mem_append_right _ (List.mem_append_right _ (List.mem_append_right _ (List.mem_append_right _ (List.mem_append_right _ (List.mem_append_right _ (List.mem_append_right _ (List.mem_append_right _ (List.mem_append_right _ (List.mem_append_right _ (List.mem_append_right _ (List.mem_append_right _ (List.mem_append_right _ (List.mem_append_right _ (List.mem_append_right _ (List.mem_append_right _ (List.mem_append_right _ (List.mem_append_right _ (List.mem_append_right _ (List.mem_append_right _ (List.mem_append_right _ (List.mem_append_right _ (List.mem_append_right _ (List.mem_append_right _ (List.mem_append_right _ (List.mem_append_right _ (List.mem_append_right _ (List.mem_append_right _ (List.mem_append_right _ (List.mem_append_right _ (List.mem_append_right _ (List.mem_append_right _ (List.mem_append_right _ (List.mem_append_right _ (List.mem_append_right _ (List.mem_append_right _ (List.mem_append_right _ (List.mem_append_right _ (List.mem_append_right _ (List.mem_append_right _ (List.mem_append_right _ (List.mem_append_right _ (List.mem_append_right _ (List.mem_append_right _ (List.mem_append_right _ (List.mem_append_right _ (List.mem_append_right _ (List.mem_append_right _ (List.mem_append_right _ (List.mem_append_right _ (List.mem_append_right _ (List.mem_append_right _ (List.mem_append_right _ (List.mem_append_right _ (List.mem_append_right _ (List.mem_append_right _ (List.mem_append_right _ (List.mem_append_left _ (h))))))))))))))))))))))))))))))))))))))))))))))))))))))))))))))))))))))))))))))))))))))))))))))))))))))))))))))
theorem inlX12 : ∀ w ∈ wsX120, w ∈ wsL_law := fun _ h => List.mem_append_right _ (List.mem_append_right _ (List.mem_append_right _ (List.mem_append_right _ (List.mem_append_right _ (List.mem_append_right _ (List.mem_append_right _ (List.mem_append_right _ (List.mem_append_right _ (List.mem_append_right _ (List.mem_append_right _ (List.mem_append_right _ (List.mem_append_right _ (List.mem_append_right _ (List.mem_append_right _ (List.mem_append_right _ (List.mem_append_right _ (List.mem_append_right _ (List.mem_append_right _ (List.mem_append_right _ (List.mem_append_right _ (List.mem_append_right _ (List.mem_append_right _ (List.mem_append_right _ (List.mem_append_right _ (List.mem_append_right _ (List.mem_append_right _ (List.mem_append_right _ (List.mem_append_right _ (List.mem_append_right _ (List.mem_append_right _ (List.mem_append_right _ (List.mem_append_right _ (List.mem_append_right _ (List.mem_append_right _ (List.mem_append_right _ (List.mem_append_right _ (List.mem_append_right _ (List.mem_append_right _ (List.mem_append_right _ (List.mem_append_right _ (List.mem_append_right _ (List.mem_append_right _ (List.mem_append_right _ (List.mem_append_right _ (List.mem_append_right _ (List.mem_append_right _ (List.mem_append_right _ (List.mem_append_right _ (List.mem_append_right _ (List.mem_append_right _ (List.mem_append_right _ (List.mem_append_right _ (List.mem_append_right _ (List.mem_append_right _ (List.mem_append_right _ (List.mem_append_right _ (List.mem_append_right _ (List.mem_append_right _ (List.mem_append_right _ (List.mem_append_right _ (List.mem_append_right _ (List.mem_append_right _ (List.mem_append_right _ (List.mem_append_right _ (List.mem_append_right _ (List.mem_append_right _ (List.mem_append_right _ (List.mem_append_right _ (List.mem_append_right _ (List.mem_append_right _ (List.mem_append_right _ (List.mem_append_right _ (List.mem_append_right _ (List.mem_append_right _ (List.mem_append_right _ (List.mem_append_right _ (List.mem_append_right _ (List.mem_append_right _ (List.mem_append_right _ (List.mem_append_right _ (List.mem_append_right _ (List.mem_append_right _ (List.mem_append_right _ (List.mem_append_right _ (List.mem_append_right _ (List.mem_append_right _ (List.mem_append_right _ (List.mem_append_right _ (List.mem_append_right _ (List.mem_append_right _ (List.mem_append_right _ (List.mem_append_right _ (List.mem_append_right _ (List.mem_append_right _ (List.mem_append_right _ (List.mem_append_right _ (List.mem_append_right _ (List.mem_append_right _ (List.mem_append_right _ (List.mem_append_right _ (List.mem_append_right _ (List.mem_append_right _ (List.mem_append_right _ (List.mem_append_right _ (List.mem_append_right _ (List.mem_append_right _ (List.mem_append_right _ (List.mem_append_right _ (List.mem_append_right _ (List.mem_append_left _ (h)))))))))))))))))))))))))))))))))))))))))))))))))))))))))))))))))))))))))))))))))))))))))))))))))))))))))))))))
theorem inlX13 : ∀ w ∈ wsX130, w ∈ wsL_law := fun _ h => List.mem_append_right _ (List.mem_append_right _ (List.mem_append_right _ (List.mem_append_right _ (List.mem_append_right _ (List.mem_append_right _ (List.mem_append_right _ (List.mem_append_right _ (List.mem_append_right _ (List.mem_append_right _ (List.mem_append_right _ (List.mem_append_right _ (List.mem_append_right _ (List.mem_append_right _ (List.mem_append_right _ (List.mem_append_right _ (List.mem_append_right _ (List.mem_append_right _ (List.mem_append_right _ (List.mem_append_right _ (List.mem_append_right _ (List.mem_append_right _ (List.mem_append_right _ (List.mem_append_right _ (List.mem_append_right _ (List.mem_append_right _ (List.mem_append_right _ (List.mem_append_right _ (List.mem_append_right _ (List.mem_append_right _ (List.mem_append_right _ (List.mem_append_right _ (List.mem_append_right _ (List.mem_append_right _ (List.mem_append_right _ (List.mem_append_right _ (List.mem_append_right _ (List.mem_append_right _ (List.mem_append_right _ (List.mem_append_right _ (List.mem_append_right _ (List.mem_append_right _ (List.mem_append_right _ (List.mem_append_right _ (List.mem_append_right _ (List.mem_append_right _ (List.mem_append_right _ (List.mem_append_right _ (List.mem_append_right _ (List.mem_append_right _ (List.mem_append_right _ (List.mem_append_right _ (List.mem_append_right _ (List.mem_append_right _ (List.mem_append_right _ (List.mem_append_right _ (List.mem_append_right _ (List.mem_append_right _ (List.mem_append_right _ (List.mem_append_right _ (List.mem_append_right _ (List.mem_append_right _ (List.mem_append_right _ (List.mem_append_right _ (List.mem_append_right _ (List.mem_append_right _ (List.mem_append_right _ (List.mem_append_right _ (List.mem_append_right _ (List.mem_append_right _ (List.mem_append_right _ (List.mem_append_right _ (List.mem_append_right _ (List.mem_append_right _ (List.mem_append_right _ (List.mem_append_right _ (List.mem_append_right _ (List.mem_append_right _ (List.mem_append_right _ (List.mem_append_right _ (List.mem_append_right _ (List.mem_append_right _ (List.mem_append_right _ (List.mem_append_right _ (List.mem_append_right _ (List.mem_append_right _ (List.mem_append_right _ (List.mem_append_right _ (List.mem_append_right _ (List.mem_append_right _ (List.mem_append_right _ (List.mem_append_right _ (List.mem_append_right _ (List.mem_append_right _ (List.mem_append_right _ (List.mem_append_right _ (List.mem_append_right _ (List.mem_append_right _ (List.mem_append_right _ (List.mem_append_right _ (List.mem_append_right _ (List.mem_append_right _ (List.mem_append_right _ (List.mem_append_right _ (List.mem_append_right _ (List.mem_append_right _ (List.mem_append_right _ (List.mem_append_right _ (List.mem_append_right _ (List.mem_append_right _ (List.mem_append_right _ (h)))))))))))))))))))))))))))))))))))))))))))))))))))))))))))))))))))))))))))))))))))))))))))))))))))))))))))))))
theorem qw_0 : (Cond.classLink RL 8 RX11) ∈ wsL_law := WLi_0 _ (List.mem_of_getElem? (i := 0) rfl)
theorem qw_1 : (Cond.instantiable RX11 16) ∈ wsL_law := WLi_0 _ (List.mem_of_getElem? (i := 1) rfl)
theorem qw_2 : (Cond.initialized RX11) ∈ wsL_law := WLi_0 _ (List.mem_of_getElem? (i := 2) rfl)
theorem qw_3 : (Cond.classLink RL 16 RX13) ∈ wsL_law := WLi_0 _ (List.mem_of_getElem? (i := 3) rfl)
theorem qw_4 : (Cond.instantiable RX13 37) ∈ wsL_law := WLi_0 _ (List.mem_of_getElem? (i := 4) rfl)
theorem qw_5 : (Cond.initialized RX13) ∈ wsL_law := WLi_0 _ (List.mem_of_getElem? (i := 5) rfl)
theorem qw_6 : (Cond.arrayClass .long) ∈ wsL_law := WLi_0 _ (List.mem_of_getElem? (i := 6) rfl)
theorem qw_7 : (Cond.methodLink RL 15 yX11_init) ∈ wsL_law := WLi_0 _ (List.mem_of_getElem? (i := 7) rfl)
theorem qw_8 : (Cond.instanceMethod yX11_init) ∈ wsL_law := WLi_0 _ (List.mem_of_getElem? (i := 8) rfl)
theorem qw_9 : (Cond.code yX11_init cX11_init 1 none) ∈ wsL_law := WLi_0 _ (List.mem_of_getElem? (i := 9) rfl)
theorem qw_10 : (Cond.methodLink RX11 1 objectInit) ∈ wsL_law := WLi_0 _ (List.mem_of_getElem? (i := 10) rfl)
theorem qw_11 : (Cond.instanceMethod objectInit) ∈ wsL_law := WLi_0 _ (List.mem_of_getElem? (i := 11) rfl)
theorem qw_12 : (Cond.code objectInit ⟨#[0xb1]⟩ 1 none) ∈ wsL_law := WLi_0 _ (List.mem_of_getElem? (i := 12) rfl)
theorem qw_13 : (Cond.arrayClass .int) ∈ wsL_law := WLi_0 _ (List.mem_of_getElem? (i := 13) rfl)
theorem qw_14 : (Cond.fieldLink RX11 9 "YearSkins" "tape" "[I") ∈ wsL_law := WLi_0 _ (List.mem_of_getElem? (i := 14) rfl)
theorem qw_15 : (Cond.classLink RX11 13 RX1) ∈ wsL_law := WLi_0 _ (List.mem_of_getElem? (i := 15) rfl)
theorem qw_16 : (Cond.instantiable RX1 20) ∈ wsL_law := WLi_1 _ (List.mem_of_getElem? (i := 0) rfl)
theorem qw_17 : (Cond.initialized RX1) ∈ wsL_law := WLi_1 _ (List.mem_of_getElem? (i := 1) rfl)
theorem qw_18 : (Cond.fieldLink RX11 16 "YearSkins" "ground" "LYearSkins$Land;") ∈ wsL_law := WLi_1 _ (List.mem_of_getElem? (i := 2) rfl)
theorem qw_19 : (Cond.fieldLink RX11 20 "YearSkins" "draftGround" "LYearSkins$Land;") ∈ wsL_law := WLi_1 _ (List.mem_of_getElem? (i := 3) rfl)
theorem qw_20 : (Cond.classLink RX11 23 RX7) ∈ wsL_law := WLi_1 _ (List.mem_of_getElem? (i := 4) rfl)
theorem qw_21 : (Cond.instantiable RX7 7) ∈ wsL_law := WLi_1 _ (List.mem_of_getElem? (i := 5) rfl)
theorem qw_22 : (Cond.initialized RX7) ∈ wsL_law := WLi_1 _ (List.mem_of_getElem? (i := 6) rfl)
theorem qw_23 : (Cond.fieldLink RX11 26 "YearSkins" "now" "LYearSkins$State;") ∈ wsL_law := WLi_1 _ (List.mem_of_getElem? (i := 7) rfl)
theorem qw_24 : (Cond.fieldLink RX11 30 "YearSkins" "draft" "LYearSkins$State;") ∈ wsL_law := WLi_1 _ (List.mem_of_getElem? (i := 8) rfl)
theorem qw_25 : (Cond.fieldLink RX11 33 "YearSkins" "then" "LYearSkins$State;") ∈ wsL_law := WLi_1 _ (List.mem_of_getElem? (i := 9) rfl)
theorem qw_26 : (Cond.classLink RX11 36 RX3) ∈ wsL_law := WLi_1 _ (List.mem_of_getElem? (i := 10) rfl)
theorem qw_27 : (Cond.instantiable RX3 13) ∈ wsL_law := WLi_1 _ (List.mem_of_getElem? (i := 11) rfl)
theorem qw_28 : (Cond.initialized RX3) ∈ wsL_law := WLi_1 _ (List.mem_of_getElem? (i := 12) rfl)
theorem qw_29 : (Cond.fieldLink RX11 39 "YearSkins" "reader" "LYearSkins$Reader;") ∈ wsL_law := WLi_1 _ (List.mem_of_getElem? (i := 13) rfl)
theorem qw_30 : (Cond.classLink RX11 43 RX10) ∈ wsL_law := WLi_1 _ (List.mem_of_getElem? (i := 14) rfl)
theorem qw_31 : (Cond.instantiable RX10 2) ∈ wsL_law := WLi_1 _ (List.mem_of_getElem? (i := 15) rfl)
theorem qw_32 : (Cond.initialized RX10) ∈ wsL_law := WLi_2 _ (List.mem_of_getElem? (i := 0) rfl)
theorem qw_33 : (Cond.fieldLink RX11 46 "YearSkins" "calendar" "LYearSkins$Years;") ∈ wsL_law := WLi_2 _ (List.mem_of_getElem? (i := 1) rfl)
theorem qw_34 : (Cond.classLink RX11 50 RX0) ∈ wsL_law := WLi_2 _ (List.mem_of_getElem? (i := 2) rfl)
theorem qw_35 : (Cond.instantiable RX0 2) ∈ wsL_law := WLi_2 _ (List.mem_of_getElem? (i := 3) rfl)
theorem qw_36 : (Cond.initialized RX0) ∈ wsL_law := WLi_2 _ (List.mem_of_getElem? (i := 4) rfl)
theorem qw_37 : (Cond.fieldLink RX11 53 "YearSkins" "burglar" "LYearSkins$Burglar;") ∈ wsL_law := WLi_2 _ (List.mem_of_getElem? (i := 5) rfl)
theorem qw_38 : (Cond.classLink RX11 57 RX9) ∈ wsL_law := WLi_2 _ (List.mem_of_getElem? (i := 6) rfl)
theorem qw_39 : (Cond.instantiable RX9 6) ∈ wsL_law := WLi_2 _ (List.mem_of_getElem? (i := 7) rfl)
theorem qw_40 : (Cond.initialized RX9) ∈ wsL_law := WLi_2 _ (List.mem_of_getElem? (i := 8) rfl)
theorem qw_41 : (Cond.fieldLink RX11 60 "YearSkins" "wallOrders" "LYearSkins$WallOrders;") ∈ wsL_law := WLi_2 _ (List.mem_of_getElem? (i := 9) rfl)
theorem qw_42 : (Cond.classLink RX11 64 RX2) ∈ wsL_law := WLi_2 _ (List.mem_of_getElem? (i := 10) rfl)
theorem qw_43 : (Cond.instantiable RX2 5) ∈ wsL_law := WLi_2 _ (List.mem_of_getElem? (i := 11) rfl)
theorem qw_44 : (Cond.initialized RX2) ∈ wsL_law := WLi_2 _ (List.mem_of_getElem? (i := 12) rfl)
theorem qw_45 : (Cond.fieldLink RX11 67 "YearSkins" "past" "LYearSkins$Past;") ∈ wsL_law := WLi_2 _ (List.mem_of_getElem? (i := 13) rfl)
theorem qw_46 : (Cond.instanceMethod yX1_init) ∈ wsL_law := WLi_2 _ (List.mem_of_getElem? (i := 14) rfl)
theorem qw_47 : (Cond.code yX1_init cX1_init 1 none) ∈ wsL_law := WLi_2 _ (List.mem_of_getElem? (i := 15) rfl)
theorem qw_48 : (Cond.methodLink RX1 3 objectInit) ∈ wsL_law := WLi_3 _ (List.mem_of_getElem? (i := 0) rfl)
theorem qw_49 : (Cond.arrayClass .boolean) ∈ wsL_law := WLi_3 _ (List.mem_of_getElem? (i := 1) rfl)
theorem qw_50 : (Cond.fieldLink RX1 9 "YearSkins$Land" "wet" "[Z") ∈ wsL_law := WLi_3 _ (List.mem_of_getElem? (i := 2) rfl)
theorem qw_51 : (Cond.fieldLink RX1 15 "YearSkins$Land" "stoneParts" "[I") ∈ wsL_law := WLi_3 _ (List.mem_of_getElem? (i := 3) rfl)
theorem qw_52 : (Cond.fieldLink RX1 19 "YearSkins$Land" "coreX" "[I") ∈ wsL_law := WLi_3 _ (List.mem_of_getElem? (i := 4) rfl)
theorem qw_53 : (Cond.fieldLink RX1 22 "YearSkins$Land" "coreY" "[I") ∈ wsL_law := WLi_3 _ (List.mem_of_getElem? (i := 5) rfl)
theorem qw_54 : (Cond.fieldLink RX1 25 "YearSkins$Land" "houseStone" "[I") ∈ wsL_law := WLi_3 _ (List.mem_of_getElem? (i := 6) rfl)
theorem qw_55 : (Cond.fieldLink RX1 28 "YearSkins$Land" "heirHouse" "[I") ∈ wsL_law := WLi_3 _ (List.mem_of_getElem? (i := 7) rfl)
theorem qw_56 : (Cond.fieldLink RX1 31 "YearSkins$Land" "needs" "[I") ∈ wsL_law := WLi_3 _ (List.mem_of_getElem? (i := 8) rfl)
theorem qw_57 : (Cond.fieldLink RX1 34 "YearSkins$Land" "coins" "[I") ∈ wsL_law := WLi_3 _ (List.mem_of_getElem? (i := 9) rfl)
theorem qw_58 : (Cond.fieldLink RX1 37 "YearSkins$Land" "smells" "[I") ∈ wsL_law := WLi_3 _ (List.mem_of_getElem? (i := 10) rfl)
theorem qw_59 : (Cond.instanceMethod yX7_init) ∈ wsL_law := WLi_3 _ (List.mem_of_getElem? (i := 11) rfl)
theorem qw_60 : (Cond.code yX7_init cX7_init 1 none) ∈ wsL_law := WLi_3 _ (List.mem_of_getElem? (i := 12) rfl)
theorem qw_61 : (Cond.methodLink RX7 3 objectInit) ∈ wsL_law := WLi_3 _ (List.mem_of_getElem? (i := 13) rfl)
theorem qw_62 : (Cond.fieldLink RX7 9 "YearSkins$State" "counts" "[I") ∈ wsL_law := WLi_3 _ (List.mem_of_getElem? (i := 14) rfl)
theorem qw_63 : (Cond.fieldLink RX7 15 "YearSkins$State" "families" "[I") ∈ wsL_law := WLi_3 _ (List.mem_of_getElem? (i := 15) rfl)
theorem qw_64 : (Cond.fieldLink RX7 18 "YearSkins$State" "golds" "[I") ∈ wsL_law := WLi_4 _ (List.mem_of_getElem? (i := 0) rfl)
theorem qw_65 : (Cond.fieldLink RX7 21 "YearSkins$State" "rooms" "[I") ∈ wsL_law := WLi_4 _ (List.mem_of_getElem? (i := 1) rfl)
theorem qw_66 : (Cond.fieldLink RX7 24 "YearSkins$State" "parts" "[I") ∈ wsL_law := WLi_4 _ (List.mem_of_getElem? (i := 2) rfl)
theorem qw_67 : (Cond.instanceMethod yX3_init) ∈ wsL_law := WLi_4 _ (List.mem_of_getElem? (i := 3) rfl)
theorem qw_68 : (Cond.code yX3_init cX3_init 1 none) ∈ wsL_law := WLi_4 _ (List.mem_of_getElem? (i := 4) rfl)
theorem qw_69 : (Cond.methodLink RX3 3 objectInit) ∈ wsL_law := WLi_4 _ (List.mem_of_getElem? (i := 5) rfl)
theorem qw_70 : (Cond.classLink RX3 9 RX8) ∈ wsL_law := WLi_4 _ (List.mem_of_getElem? (i := 6) rfl)
theorem qw_71 : (Cond.instantiable RX8 8) ∈ wsL_law := WLi_4 _ (List.mem_of_getElem? (i := 7) rfl)
theorem qw_72 : (Cond.initialized RX8) ∈ wsL_law := WLi_4 _ (List.mem_of_getElem? (i := 8) rfl)
theorem qw_73 : (Cond.fieldLink RX3 12 "YearSkins$Reader" "tokens" "LYearSkins$Tokens;") ∈ wsL_law := WLi_4 _ (List.mem_of_getElem? (i := 9) rfl)
theorem qw_74 : (Cond.fieldLink RX3 18 "YearSkins$Reader" "names" "[J") ∈ wsL_law := WLi_4 _ (List.mem_of_getElem? (i := 10) rfl)
theorem qw_75 : (Cond.fieldLink RX3 22 "YearSkins$Reader" "sorts" "[I") ∈ wsL_law := WLi_4 _ (List.mem_of_getElem? (i := 11) rfl)
theorem qw_76 : (Cond.fieldLink RX3 26 "YearSkins$Reader" "numbers" "[I") ∈ wsL_law := WLi_4 _ (List.mem_of_getElem? (i := 12) rfl)
theorem qw_77 : (Cond.instanceMethod yX8_init) ∈ wsL_law := WLi_4 _ (List.mem_of_getElem? (i := 13) rfl)
theorem qw_78 : (Cond.code yX8_init cX8_init 1 none) ∈ wsL_law := WLi_4 _ (List.mem_of_getElem? (i := 14) rfl)
theorem qw_79 : (Cond.methodLink RX8 3 objectInit) ∈ wsL_law := WLi_4 _ (List.mem_of_getElem? (i := 15) rfl)
theorem qw_80 : (Cond.instanceMethod yX10_init) ∈ wsL_law := WLi_5 _ (List.mem_of_getElem? (i := 0) rfl)
theorem qw_81 : (Cond.code yX10_init cX10_init 1 none) ∈ wsL_law := WLi_5 _ (List.mem_of_getElem? (i := 1) rfl)
theorem qw_82 : (Cond.methodLink RX10 3 objectInit) ∈ wsL_law := WLi_5 _ (List.mem_of_getElem? (i := 2) rfl)
theorem qw_83 : (Cond.fieldLink RX10 9 "YearSkins$Years" "row" "[I") ∈ wsL_law := WLi_5 _ (List.mem_of_getElem? (i := 3) rfl)
theorem qw_84 : (Cond.fieldLink RX10 15 "YearSkins$Years" "best" "[I") ∈ wsL_law := WLi_5 _ (List.mem_of_getElem? (i := 4) rfl)
theorem qw_85 : (Cond.instanceMethod yX0_init) ∈ wsL_law := WLi_5 _ (List.mem_of_getElem? (i := 5) rfl)
theorem qw_86 : (Cond.code yX0_init cX0_init 1 none) ∈ wsL_law := WLi_5 _ (List.mem_of_getElem? (i := 6) rfl)
theorem qw_87 : (Cond.methodLink RX0 3 objectInit) ∈ wsL_law := WLi_5 _ (List.mem_of_getElem? (i := 7) rfl)
theorem qw_88 : (Cond.fieldLink RX0 9 "YearSkins$Burglar" "here" "[I") ∈ wsL_law := WLi_5 _ (List.mem_of_getElem? (i := 8) rfl)
theorem qw_89 : (Cond.fieldLink RX0 15 "YearSkins$Burglar" "within" "[I") ∈ wsL_law := WLi_5 _ (List.mem_of_getElem? (i := 9) rfl)
theorem qw_90 : (Cond.instanceMethod yX9_init) ∈ wsL_law := WLi_5 _ (List.mem_of_getElem? (i := 10) rfl)
theorem qw_91 : (Cond.code yX9_init cX9_init 1 none) ∈ wsL_law := WLi_5 _ (List.mem_of_getElem? (i := 11) rfl)
theorem qw_92 : (Cond.methodLink RX9 3 objectInit) ∈ wsL_law := WLi_5 _ (List.mem_of_getElem? (i := 12) rfl)
theorem qw_93 : (Cond.fieldLink RX9 9 "YearSkins$WallOrders" "row" "[I") ∈ wsL_law := WLi_5 _ (List.mem_of_getElem? (i := 13) rfl)
theorem qw_94 : (Cond.fieldLink RX9 15 "YearSkins$WallOrders" "rowYears" "[I") ∈ wsL_law := WLi_5 _ (List.mem_of_getElem? (i := 14) rfl)
theorem qw_95 : (Cond.fieldLink RX9 18 "YearSkins$WallOrders" "soon" "[I") ∈ wsL_law := WLi_5 _ (List.mem_of_getElem? (i := 15) rfl)
theorem qw_96 : (Cond.fieldLink RX9 21 "YearSkins$WallOrders" "late" "[I") ∈ wsL_law := WLi_6 _ (List.mem_of_getElem? (i := 0) rfl)
theorem qw_97 : (Cond.fieldLink RX9 24 "YearSkins$WallOrders" "sureAhead" "[I") ∈ wsL_law := WLi_6 _ (List.mem_of_getElem? (i := 1) rfl)
theorem qw_98 : (Cond.methodLink RX11 66 yX2_init) ∈ wsL_law := WLi_6 _ (List.mem_of_getElem? (i := 2) rfl)
theorem qw_99 : (Cond.instanceMethod yX2_init) ∈ wsL_law := WLi_6 _ (List.mem_of_getElem? (i := 3) rfl)
theorem qw_100 : (Cond.code yX2_init cX2_init 2 none) ∈ wsL_law := WLi_6 _ (List.mem_of_getElem? (i := 4) rfl)
theorem qw_101 : (Cond.methodLink RX2 3 objectInit) ∈ wsL_law := WLi_6 _ (List.mem_of_getElem? (i := 5) rfl)
theorem qw_102 : (Cond.classLink RX2 9 RX7) ∈ wsL_law := WLi_6 _ (List.mem_of_getElem? (i := 6) rfl)
theorem qw_103 : (Cond.fieldLink RX2 11 "YearSkins$Past" "kept" "[LYearSkins$State;") ∈ wsL_law := WLi_6 _ (List.mem_of_getElem? (i := 7) rfl)
theorem qw_104 : (Cond.fieldLink RX2 17 "YearSkins$Past" "marked" "[LYearSkins$State;") ∈ wsL_law := WLi_6 _ (List.mem_of_getElem? (i := 8) rfl)
theorem qw_105 : (Cond.methodLink RL 18 yX13_init) ∈ wsL_law := WLi_6 _ (List.mem_of_getElem? (i := 9) rfl)
theorem qw_106 : (Cond.instanceMethod yX13_init) ∈ wsL_law := WLi_6 _ (List.mem_of_getElem? (i := 10) rfl)
theorem qw_107 : (Cond.code yX13_init cX13_init 1 none) ∈ wsL_law := WLi_6 _ (List.mem_of_getElem? (i := 11) rfl)
theorem qw_108 : (Cond.methodLink RX13 3 objectInit) ∈ wsL_law := WLi_6 _ (List.mem_of_getElem? (i := 12) rfl)
theorem qw_109 : (Cond.fieldLink RX13 9 "YearSkinsModel" "where" "I") ∈ wsL_law := WLi_6 _ (List.mem_of_getElem? (i := 13) rfl)
theorem qw_110 : (Cond.arrayClass .byte) ∈ wsL_law := WLi_6 _ (List.mem_of_getElem? (i := 14) rfl)
theorem qw_111 : (Cond.fieldLink RX13 13 "YearSkinsModel" "tape" "[B") ∈ wsL_law := WLi_6 _ (List.mem_of_getElem? (i := 15) rfl)
theorem qw_112 : (Cond.fieldLink RX13 17 "YearSkinsModel" "v" "[I") ∈ wsL_law := WLi_7 _ (List.mem_of_getElem? (i := 0) rfl)
theorem qw_113 : (Cond.fieldLink RX13 21 "YearSkinsModel" "w" "[I") ∈ wsL_law := WLi_7 _ (List.mem_of_getElem? (i := 1) rfl)
theorem qw_114 : (Cond.fieldLink RX13 24 "YearSkinsModel" "past" "[I") ∈ wsL_law := WLi_7 _ (List.mem_of_getElem? (i := 2) rfl)
theorem qw_115 : (Cond.fieldLink RX13 27 "YearSkinsModel" "kept" "[I") ∈ wsL_law := WLi_7 _ (List.mem_of_getElem? (i := 3) rfl)
theorem qw_116 : (Cond.fieldLink RX13 30 "YearSkinsModel" "order" "[I") ∈ wsL_law := WLi_7 _ (List.mem_of_getElem? (i := 4) rfl)
theorem qw_117 : (Cond.fieldLink RX13 33 "YearSkinsModel" "bestOrder" "[I") ∈ wsL_law := WLi_7 _ (List.mem_of_getElem? (i := 5) rfl)
theorem qw_118 : (Cond.fieldLink RX13 36 "YearSkinsModel" "cost" "[I") ∈ wsL_law := WLi_7 _ (List.mem_of_getElem? (i := 6) rfl)
theorem qw_119 : (Cond.fieldLink RX13 39 "YearSkinsModel" "outer" "[I") ∈ wsL_law := WLi_7 _ (List.mem_of_getElem? (i := 7) rfl)
theorem qw_120 : (Cond.fieldLink RX13 42 "YearSkinsModel" "row" "[I") ∈ wsL_law := WLi_7 _ (List.mem_of_getElem? (i := 8) rfl)
theorem qw_121 : (Cond.fieldLink RX13 45 "YearSkinsModel" "soonest" "[I") ∈ wsL_law := WLi_7 _ (List.mem_of_getElem? (i := 9) rfl)
theorem qw_122 : (Cond.fieldLink RX13 48 "YearSkinsModel" "latest" "[I") ∈ wsL_law := WLi_7 _ (List.mem_of_getElem? (i := 10) rfl)
theorem qw_123 : (Cond.fieldLink RX13 51 "YearSkinsModel" "ahead" "[I") ∈ wsL_law := WLi_7 _ (List.mem_of_getElem? (i := 11) rfl)
theorem qw_124 : (Cond.fieldLink RX13 54 "YearSkinsModel" "soonYear" "[I") ∈ wsL_law := WLi_7 _ (List.mem_of_getElem? (i := 12) rfl)
theorem qw_125 : (Cond.fieldLink RX13 57 "YearSkinsModel" "lateYear" "[I") ∈ wsL_law := WLi_7 _ (List.mem_of_getElem? (i := 13) rfl)
theorem qw_126 : (Cond.fieldLink RX13 60 "YearSkinsModel" "wanted" "[I") ∈ wsL_law := WLi_7 _ (List.mem_of_getElem? (i := 14) rfl)
theorem qw_127 : (Cond.methodLink RL 19 yX11_feed) ∈ wsL_law := WLi_7 _ (List.mem_of_getElem? (i := 15) rfl)
theorem qw_128 : (Cond.instanceMethod yX11_feed) ∈ wsL_law := WLi_8 _ (List.mem_of_getElem? (i := 0) rfl)
theorem qw_129 : (Cond.selects RX11 yX11_feed yX11_feed) ∈ wsL_law := WLi_8 _ (List.mem_of_getElem? (i := 1) rfl)
theorem qw_130 : (Cond.code yX11_feed cX11_feed 6 (some .int)) ∈ wsL_law := WLi_8 _ (List.mem_of_getElem? (i := 2) rfl)
theorem qw_131 : (Cond.fieldLink RX11 71 "YearSkins" "fed" "I") ∈ wsL_law := WLi_8 _ (List.mem_of_getElem? (i := 3) rfl)
theorem qw_132 : (Cond.methodLink RX11 75 yX11_putNumber) ∈ wsL_law := WLi_8 _ (List.mem_of_getElem? (i := 4) rfl)
theorem qw_133 : (Cond.instanceMethod yX11_putNumber) ∈ wsL_law := WLi_8 _ (List.mem_of_getElem? (i := 5) rfl)
theorem qw_134 : (Cond.selects RX11 yX11_putNumber yX11_putNumber) ∈ wsL_law := WLi_8 _ (List.mem_of_getElem? (i := 6) rfl)
theorem qw_135 : (Cond.code yX11_putNumber cX11_putNumber 3 none) ∈ wsL_law := WLi_8 _ (List.mem_of_getElem? (i := 7) rfl)
theorem qw_136 : (Cond.methodLink RL 23 yX13_feed) ∈ wsL_law := WLi_8 _ (List.mem_of_getElem? (i := 8) rfl)
theorem qw_137 : (Cond.instanceMethod yX13_feed) ∈ wsL_law := WLi_8 _ (List.mem_of_getElem? (i := 9) rfl)
theorem qw_138 : (Cond.selects RX13 yX13_feed yX13_feed) ∈ wsL_law := WLi_8 _ (List.mem_of_getElem? (i := 10) rfl)
theorem qw_139 : (Cond.code yX13_feed cX13_feed 8 (some .int)) ∈ wsL_law := WLi_8 _ (List.mem_of_getElem? (i := 11) rfl)
theorem qw_140 : (Cond.fieldLink RX13 63 "YearSkinsModel" "thrown" "I") ∈ wsL_law := WLi_8 _ (List.mem_of_getElem? (i := 12) rfl)
theorem qw_141 : (Cond.fieldLink RX13 410 "YearSkinsModel" "taped" "I") ∈ wsL_law := WLi_8 _ (List.mem_of_getElem? (i := 13) rfl)
theorem qw_142 : (Cond.methodLink RL 24 yX11_land) ∈ wsL_law := WLi_8 _ (List.mem_of_getElem? (i := 14) rfl)
theorem qw_143 : (Cond.instanceMethod yX11_land) ∈ wsL_law := WLi_8 _ (List.mem_of_getElem? (i := 15) rfl)
theorem qw_144 : (Cond.selects RX11 yX11_land yX11_land) ∈ wsL_law := WLi_9 _ (List.mem_of_getElem? (i := 0) rfl)
theorem qw_145 : (Cond.code yX11_land cX11_land 3 (some .int)) ∈ wsL_law := WLi_9 _ (List.mem_of_getElem? (i := 1) rfl)
theorem qw_146 : (Cond.fieldLink RX11 87 "YearSkins$Reader" "fault" "I") ∈ wsL_law := WLi_9 _ (List.mem_of_getElem? (i := 2) rfl)
theorem qw_147 : (Cond.fieldLink RX11 90 "YearSkins" "lastFault" "I") ∈ wsL_law := WLi_9 _ (List.mem_of_getElem? (i := 3) rfl)
theorem qw_148 : (Cond.fieldLink RX11 93 "YearSkins$Reader" "place" "I") ∈ wsL_law := WLi_9 _ (List.mem_of_getElem? (i := 4) rfl)
theorem qw_149 : (Cond.fieldLink RX11 96 "YearSkins" "faultPlace" "I") ∈ wsL_law := WLi_9 _ (List.mem_of_getElem? (i := 5) rfl)
theorem qw_150 : (Cond.fieldLink RX11 106 "YearSkins" "told" "Z") ∈ wsL_law := WLi_9 _ (List.mem_of_getElem? (i := 6) rfl)
theorem qw_151 : (Cond.fieldLink RX11 110 "YearSkins$Land" "houses" "I") ∈ wsL_law := WLi_9 _ (List.mem_of_getElem? (i := 7) rfl)
theorem qw_152 : (Cond.methodLink RX11 79 yX11_refuse) ∈ wsL_law := WLi_9 _ (List.mem_of_getElem? (i := 8) rfl)
theorem qw_153 : (Cond.instanceMethod yX11_refuse) ∈ wsL_law := WLi_9 _ (List.mem_of_getElem? (i := 9) rfl)
theorem qw_154 : (Cond.selects RX11 yX11_refuse yX11_refuse) ∈ wsL_law := WLi_9 _ (List.mem_of_getElem? (i := 10) rfl)
theorem qw_155 : (Cond.code yX11_refuse cX11_refuse 2 (some .int)) ∈ wsL_law := WLi_9 _ (List.mem_of_getElem? (i := 11) rfl)
theorem qw_156 : (Cond.fieldLink RX11 116 "YearSkins" "lastTrouble" "I") ∈ wsL_law := WLi_9 _ (List.mem_of_getElem? (i := 12) rfl)
theorem qw_157 : (Cond.methodLink RX11 83 yX3_readAll) ∈ wsL_law := WLi_9 _ (List.mem_of_getElem? (i := 13) rfl)
theorem qw_158 : (Cond.instanceMethod yX3_readAll) ∈ wsL_law := WLi_9 _ (List.mem_of_getElem? (i := 14) rfl)
theorem qw_159 : (Cond.selects RX3 yX3_readAll yX3_readAll) ∈ wsL_law := WLi_9 _ (List.mem_of_getElem? (i := 15) rfl)
theorem qw_160 : (Cond.code yX3_readAll cX3_readAll 6 none) ∈ wsL_law := WLi_10 _ (List.mem_of_getElem? (i := 0) rfl)
theorem qw_161 : (Cond.fieldLink RX3 29 "YearSkins$Reader" "land" "LYearSkins$Land;") ∈ wsL_law := WLi_10 _ (List.mem_of_getElem? (i := 1) rfl)
theorem qw_162 : (Cond.fieldLink RX3 33 "YearSkins$Reader" "state" "LYearSkins$State;") ∈ wsL_law := WLi_10 _ (List.mem_of_getElem? (i := 2) rfl)
theorem qw_163 : (Cond.fieldLink RX3 45 "YearSkins$Reader" "fault" "I") ∈ wsL_law := WLi_10 _ (List.mem_of_getElem? (i := 3) rfl)
theorem qw_164 : (Cond.fieldLink RX3 49 "YearSkins$Reader" "place" "I") ∈ wsL_law := WLi_10 _ (List.mem_of_getElem? (i := 4) rfl)
theorem qw_165 : (Cond.fieldLink RX3 52 "YearSkins$Reader" "landTold" "Z") ∈ wsL_law := WLi_10 _ (List.mem_of_getElem? (i := 5) rfl)
theorem qw_166 : (Cond.fieldLink RX3 56 "YearSkins$Reader" "yearsTold" "Z") ∈ wsL_law := WLi_10 _ (List.mem_of_getElem? (i := 6) rfl)
theorem qw_167 : (Cond.fieldLink RX3 59 "YearSkins$Reader" "waters" "I") ∈ wsL_law := WLi_10 _ (List.mem_of_getElem? (i := 7) rfl)
theorem qw_168 : (Cond.fieldLink RX3 62 "YearSkins$Reader" "olders" "I") ∈ wsL_law := WLi_10 _ (List.mem_of_getElem? (i := 8) rfl)
theorem qw_169 : (Cond.fieldLink RX3 65 "YearSkins$Reader" "named" "I") ∈ wsL_law := WLi_10 _ (List.mem_of_getElem? (i := 9) rfl)
theorem qw_170 : (Cond.fieldLink RX3 75 "YearSkins$Tokens" "kind" "I") ∈ wsL_law := WLi_10 _ (List.mem_of_getElem? (i := 10) rfl)
theorem qw_171 : (Cond.fieldLink RX3 82 "YearSkins$Land" "stones" "I") ∈ wsL_law := WLi_10 _ (List.mem_of_getElem? (i := 11) rfl)
theorem qw_172 : (Cond.fieldLink RX3 85 "YearSkins$Land" "houses" "I") ∈ wsL_law := WLi_10 _ (List.mem_of_getElem? (i := 12) rfl)
theorem qw_173 : (Cond.methodLink RX3 37 yX1_clear) ∈ wsL_law := WLi_10 _ (List.mem_of_getElem? (i := 13) rfl)
theorem qw_174 : (Cond.instanceMethod yX1_clear) ∈ wsL_law := WLi_10 _ (List.mem_of_getElem? (i := 14) rfl)
theorem qw_175 : (Cond.selects RX1 yX1_clear yX1_clear) ∈ wsL_law := WLi_10 _ (List.mem_of_getElem? (i := 15) rfl)
theorem qw_176 : (Cond.code yX1_clear cX1_clear 2 none) ∈ wsL_law := WLi_11 _ (List.mem_of_getElem? (i := 0) rfl)
theorem qw_177 : (Cond.fieldLink RX1 40 "YearSkins$Land" "wide" "I") ∈ wsL_law := WLi_11 _ (List.mem_of_getElem? (i := 1) rfl)
theorem qw_178 : (Cond.fieldLink RX1 44 "YearSkins$Land" "high" "I") ∈ wsL_law := WLi_11 _ (List.mem_of_getElem? (i := 2) rfl)
theorem qw_179 : (Cond.fieldLink RX1 47 "YearSkins$Land" "stones" "I") ∈ wsL_law := WLi_11 _ (List.mem_of_getElem? (i := 3) rfl)
theorem qw_180 : (Cond.fieldLink RX1 50 "YearSkins$Land" "houses" "I") ∈ wsL_law := WLi_11 _ (List.mem_of_getElem? (i := 4) rfl)
theorem qw_181 : (Cond.fieldLink RX1 53 "YearSkins$Land" "heirs" "I") ∈ wsL_law := WLi_11 _ (List.mem_of_getElem? (i := 5) rfl)
theorem qw_182 : (Cond.fieldLink RX1 56 "YearSkins$Land" "walls" "I") ∈ wsL_law := WLi_11 _ (List.mem_of_getElem? (i := 6) rfl)
theorem qw_183 : (Cond.methodLink RX3 42 yX7_clear) ∈ wsL_law := WLi_11 _ (List.mem_of_getElem? (i := 7) rfl)
theorem qw_184 : (Cond.instanceMethod yX7_clear) ∈ wsL_law := WLi_11 _ (List.mem_of_getElem? (i := 8) rfl)
theorem qw_185 : (Cond.selects RX7 yX7_clear yX7_clear) ∈ wsL_law := WLi_11 _ (List.mem_of_getElem? (i := 9) rfl)
theorem qw_186 : (Cond.code yX7_clear cX7_clear 2 none) ∈ wsL_law := WLi_11 _ (List.mem_of_getElem? (i := 10) rfl)
theorem qw_187 : (Cond.fieldLink RX7 27 "YearSkins$State" "year" "I") ∈ wsL_law := WLi_11 _ (List.mem_of_getElem? (i := 11) rfl)
theorem qw_188 : (Cond.fieldLink RX7 31 "YearSkins$State" "seed" "I") ∈ wsL_law := WLi_11 _ (List.mem_of_getElem? (i := 12) rfl)
theorem qw_189 : (Cond.methodLink RX3 68 yX8_begin) ∈ wsL_law := WLi_11 _ (List.mem_of_getElem? (i := 13) rfl)
theorem qw_190 : (Cond.instanceMethod yX8_begin) ∈ wsL_law := WLi_11 _ (List.mem_of_getElem? (i := 14) rfl)
theorem qw_191 : (Cond.selects RX8 yX8_begin yX8_begin) ∈ wsL_law := WLi_11 _ (List.mem_of_getElem? (i := 15) rfl)
theorem qw_192 : (Cond.code yX8_begin cX8_begin 3 none) ∈ wsL_law := WLi_12 _ (List.mem_of_getElem? (i := 0) rfl)
theorem qw_193 : (Cond.fieldLink RX8 9 "YearSkins$Tokens" "tape" "[I") ∈ wsL_law := WLi_12 _ (List.mem_of_getElem? (i := 1) rfl)
theorem qw_194 : (Cond.fieldLink RX8 15 "YearSkins$Tokens" "end" "I") ∈ wsL_law := WLi_12 _ (List.mem_of_getElem? (i := 2) rfl)
theorem qw_195 : (Cond.fieldLink RX8 19 "YearSkins$Tokens" "at" "I") ∈ wsL_law := WLi_12 _ (List.mem_of_getElem? (i := 3) rfl)
theorem qw_196 : (Cond.methodLink RX8 22 yX8_advance) ∈ wsL_law := WLi_12 _ (List.mem_of_getElem? (i := 4) rfl)
theorem qw_197 : (Cond.instanceMethod yX8_advance) ∈ wsL_law := WLi_12 _ (List.mem_of_getElem? (i := 5) rfl)
theorem qw_198 : (Cond.selects RX8 yX8_advance yX8_advance) ∈ wsL_law := WLi_12 _ (List.mem_of_getElem? (i := 6) rfl)
theorem qw_199 : (Cond.code yX8_advance cX8_advance 2 none) ∈ wsL_law := WLi_12 _ (List.mem_of_getElem? (i := 7) rfl)
theorem qw_200 : (Cond.fieldLink RX8 25 "YearSkins$Tokens" "start" "I") ∈ wsL_law := WLi_12 _ (List.mem_of_getElem? (i := 8) rfl)
theorem qw_201 : (Cond.fieldLink RX8 28 "YearSkins$Tokens" "last" "I") ∈ wsL_law := WLi_12 _ (List.mem_of_getElem? (i := 9) rfl)
theorem qw_202 : (Cond.fieldLink RX8 35 "YearSkins$Tokens" "kind" "I") ∈ wsL_law := WLi_12 _ (List.mem_of_getElem? (i := 10) rfl)
theorem qw_203 : (Cond.fieldLink RX8 51 "YearSkins$Tokens" "value" "I") ∈ wsL_law := WLi_12 _ (List.mem_of_getElem? (i := 11) rfl)
theorem qw_204 : (Cond.methodLink RX8 31 yX8_byteAt) ∈ wsL_law := WLi_12 _ (List.mem_of_getElem? (i := 12) rfl)
theorem qw_205 : (Cond.instanceMethod yX8_byteAt) ∈ wsL_law := WLi_12 _ (List.mem_of_getElem? (i := 13) rfl)
theorem qw_206 : (Cond.selects RX8 yX8_byteAt yX8_byteAt) ∈ wsL_law := WLi_12 _ (List.mem_of_getElem? (i := 14) rfl)
theorem qw_207 : (Cond.code yX8_byteAt cX8_byteAt 2 (some .int)) ∈ wsL_law := WLi_12 _ (List.mem_of_getElem? (i := 15) rfl)
theorem qw_208 : (Cond.methodLink RX8 38 yX8_isLetter) ∈ wsL_law := WLi_13 _ (List.mem_of_getElem? (i := 0) rfl)
theorem qw_209 : (Cond.static yX8_isLetter) ∈ wsL_law := WLi_13 _ (List.mem_of_getElem? (i := 1) rfl)
theorem qw_210 : (Cond.code yX8_isLetter cX8_isLetter 1 (some .boolean)) ∈ wsL_law := WLi_13 _ (List.mem_of_getElem? (i := 2) rfl)
theorem qw_211 : (Cond.methodLink RX8 42 yX8_takeWord) ∈ wsL_law := WLi_13 _ (List.mem_of_getElem? (i := 3) rfl)
theorem qw_212 : (Cond.instanceMethod yX8_takeWord) ∈ wsL_law := WLi_13 _ (List.mem_of_getElem? (i := 4) rfl)
theorem qw_213 : (Cond.selects RX8 yX8_takeWord yX8_takeWord) ∈ wsL_law := WLi_13 _ (List.mem_of_getElem? (i := 5) rfl)
theorem qw_214 : (Cond.code yX8_takeWord cX8_takeWord 1 none) ∈ wsL_law := WLi_13 _ (List.mem_of_getElem? (i := 6) rfl)
theorem qw_215 : (Cond.fieldLink RX8 54 "YearSkins$Tokens" "letters" "J") ∈ wsL_law := WLi_13 _ (List.mem_of_getElem? (i := 7) rfl)
theorem qw_216 : (Cond.methodLink RX8 45 yX8_isDigit) ∈ wsL_law := WLi_13 _ (List.mem_of_getElem? (i := 8) rfl)
theorem qw_217 : (Cond.static yX8_isDigit) ∈ wsL_law := WLi_13 _ (List.mem_of_getElem? (i := 9) rfl)
theorem qw_218 : (Cond.code yX8_isDigit cX8_isDigit 1 (some .boolean)) ∈ wsL_law := WLi_13 _ (List.mem_of_getElem? (i := 10) rfl)
theorem qw_219 : (Cond.methodLink RX8 48 yX8_takeWhole) ∈ wsL_law := WLi_13 _ (List.mem_of_getElem? (i := 11) rfl)
theorem qw_220 : (Cond.instanceMethod yX8_takeWhole) ∈ wsL_law := WLi_13 _ (List.mem_of_getElem? (i := 12) rfl)
theorem qw_221 : (Cond.selects RX8 yX8_takeWhole yX8_takeWhole) ∈ wsL_law := WLi_13 _ (List.mem_of_getElem? (i := 13) rfl)
theorem qw_222 : (Cond.code yX8_takeWhole cX8_takeWhole 1 none) ∈ wsL_law := WLi_13 _ (List.mem_of_getElem? (i := 14) rfl)
theorem qw_223 : (Cond.methodLink RX3 72 yX3_readLine) ∈ wsL_law := WLi_13 _ (List.mem_of_getElem? (i := 15) rfl)
theorem qw_224 : (Cond.instanceMethod yX3_readLine) ∈ wsL_law := WLi_14 _ (List.mem_of_getElem? (i := 0) rfl)
theorem qw_225 : (Cond.selects RX3 yX3_readLine yX3_readLine) ∈ wsL_law := WLi_14 _ (List.mem_of_getElem? (i := 1) rfl)
theorem qw_226 : (Cond.code yX3_readLine cX3_readLine 2 none) ∈ wsL_law := WLi_14 _ (List.mem_of_getElem? (i := 2) rfl)
theorem qw_227 : (Cond.fieldLink RX3 96 "YearSkins$Tokens" "start" "I") ∈ wsL_law := WLi_14 _ (List.mem_of_getElem? (i := 3) rfl)
theorem qw_228 : (Cond.fieldLink RX3 133 "YearSkins$Land" "coins" "[I") ∈ wsL_law := WLi_14 _ (List.mem_of_getElem? (i := 4) rfl)
theorem qw_229 : (Cond.fieldLink RX3 136 "YearSkins$Land" "smells" "[I") ∈ wsL_law := WLi_14 _ (List.mem_of_getElem? (i := 5) rfl)
theorem qw_230 : (Cond.methodLink RX3 92 yX3_lineSort) ∈ wsL_law := WLi_14 _ (List.mem_of_getElem? (i := 6) rfl)
theorem qw_231 : (Cond.instanceMethod yX3_lineSort) ∈ wsL_law := WLi_14 _ (List.mem_of_getElem? (i := 7) rfl)
theorem qw_232 : (Cond.selects RX3 yX3_lineSort yX3_lineSort) ∈ wsL_law := WLi_14 _ (List.mem_of_getElem? (i := 8) rfl)
theorem qw_233 : (Cond.code yX3_lineSort cX3_lineSort 1 (some .int)) ∈ wsL_law := WLi_14 _ (List.mem_of_getElem? (i := 9) rfl)
theorem qw_234 : (Cond.methodLink RX3 151 yX8_isWord) ∈ wsL_law := WLi_14 _ (List.mem_of_getElem? (i := 10) rfl)
theorem qw_235 : (Cond.instanceMethod yX8_isWord) ∈ wsL_law := WLi_14 _ (List.mem_of_getElem? (i := 11) rfl)
theorem qw_236 : (Cond.selects RX8 yX8_isWord yX8_isWord) ∈ wsL_law := WLi_14 _ (List.mem_of_getElem? (i := 12) rfl)
theorem qw_237 : (Cond.code yX8_isWord cX8_isWord 4 (some .boolean)) ∈ wsL_law := WLi_14 _ (List.mem_of_getElem? (i := 13) rfl)
theorem qw_238 : (Cond.methodLink RX8 58 yJ0_length_8abf5) ∈ wsL_law := WLi_14 _ (List.mem_of_getElem? (i := 14) rfl)
theorem qw_239 : (Cond.instanceMethod yJ0_length_8abf5) ∈ wsL_law := WLi_14 _ (List.mem_of_getElem? (i := 15) rfl)
theorem qw_240 : (Cond.selects RJ0 yJ0_length_8abf5 yJ0_length_8abf5) ∈ wsL_law := WLi_15 _ (List.mem_of_getElem? (i := 0) rfl)
theorem qw_241 : (Cond.initialized RJ0) ∈ wsL_law := WLi_15 _ (List.mem_of_getElem? (i := 1) rfl)
theorem qw_242 : (Cond.code yJ0_length_8abf5 cJ0_length_8abf5 1 (some .int)) ∈ wsL_law := WLi_15 _ (List.mem_of_getElem? (i := 2) rfl)
theorem qw_243 : (Cond.fieldLink RJ0 9 "java/lang/String" "value" "[B") ∈ wsL_law := WLi_15 _ (List.mem_of_getElem? (i := 3) rfl)
theorem qw_244 : (Cond.methodLink RJ0 335 yJ0_coder_7d493) ∈ wsL_law := WLi_15 _ (List.mem_of_getElem? (i := 4) rfl)
theorem qw_245 : (Cond.instanceMethod yJ0_coder_7d493) ∈ wsL_law := WLi_15 _ (List.mem_of_getElem? (i := 5) rfl)
theorem qw_246 : (Cond.selects RJ0 yJ0_coder_7d493 yJ0_coder_7d493) ∈ wsL_law := WLi_15 _ (List.mem_of_getElem? (i := 6) rfl)
theorem qw_247 : (Cond.code yJ0_coder_7d493 cJ0_coder_7d493 1 (some .byte)) ∈ wsL_law := WLi_15 _ (List.mem_of_getElem? (i := 7) rfl)
theorem qw_248 : (Cond.fieldLink RJ0 38 "java/lang/String" "COMPACT_STRINGS" "Z") ∈ wsL_law := WLi_15 _ (List.mem_of_getElem? (i := 8) rfl)
theorem qw_249 : (Cond.fieldLink RJ0 15 "java/lang/String" "coder" "B") ∈ wsL_law := WLi_15 _ (List.mem_of_getElem? (i := 9) rfl)
theorem qw_250 : (Cond.methodLink RX8 64 yJ0_charAt_5068e) ∈ wsL_law := WLi_15 _ (List.mem_of_getElem? (i := 10) rfl)
theorem qw_251 : (Cond.instanceMethod yJ0_charAt_5068e) ∈ wsL_law := WLi_15 _ (List.mem_of_getElem? (i := 11) rfl)
theorem qw_252 : (Cond.selects RJ0 yJ0_charAt_5068e yJ0_charAt_5068e) ∈ wsL_law := WLi_15 _ (List.mem_of_getElem? (i := 12) rfl)
theorem qw_253 : (Cond.code yJ0_charAt_5068e cJ0_charAt_5068e 2 (some .char)) ∈ wsL_law := WLi_15 _ (List.mem_of_getElem? (i := 13) rfl)
theorem qw_254 : (Cond.methodLink RJ0 492 yJ0_isLatin1_aae02) ∈ wsL_law := WLi_15 _ (List.mem_of_getElem? (i := 14) rfl)
theorem qw_255 : (Cond.instanceMethod yJ0_isLatin1_aae02) ∈ wsL_law := WLi_15 _ (List.mem_of_getElem? (i := 15) rfl)
theorem qw_256 : (Cond.selects RJ0 yJ0_isLatin1_aae02 yJ0_isLatin1_aae02) ∈ wsL_law := WLi_16 _ (List.mem_of_getElem? (i := 0) rfl)
theorem qw_257 : (Cond.code yJ0_isLatin1_aae02 cJ0_isLatin1_aae02 1 (some .boolean)) ∈ wsL_law := WLi_16 _ (List.mem_of_getElem? (i := 1) rfl)
theorem qw_258 : (Cond.methodLink RJ0 495 yJ1_charAt_3b067) ∈ wsL_law := WLi_16 _ (List.mem_of_getElem? (i := 2) rfl)
theorem qw_259 : (Cond.static yJ1_charAt_3b067) ∈ wsL_law := WLi_16 _ (List.mem_of_getElem? (i := 3) rfl)
theorem qw_260 : (Cond.initialized RJ1) ∈ wsL_law := WLi_16 _ (List.mem_of_getElem? (i := 4) rfl)
theorem qw_261 : (Cond.code yJ1_charAt_3b067 cJ1_charAt_3b067 2 (some .char)) ∈ wsL_law := WLi_16 _ (List.mem_of_getElem? (i := 5) rfl)
theorem qw_262 : (Cond.methodLink RJ1 9 yJ0_checkIndex_df160) ∈ wsL_law := WLi_16 _ (List.mem_of_getElem? (i := 6) rfl)
theorem qw_263 : (Cond.static yJ0_checkIndex_df160) ∈ wsL_law := WLi_16 _ (List.mem_of_getElem? (i := 7) rfl)
theorem qw_264 : (Cond.code yJ0_checkIndex_df160 cJ0_checkIndex_df160 2 none) ∈ wsL_law := WLi_16 _ (List.mem_of_getElem? (i := 8) rfl)
theorem qw_265 : (Cond.fieldLink RJ0 1053 "jdk/internal/util/Preconditions" "SIOOBE_FORMATTER" "Ljava/util/function/BiFunction;") ∈ wsL_law := WLi_16 _ (List.mem_of_getElem? (i := 9) rfl)
theorem qw_266 : (Cond.methodLink RJ0 1059 yJ3_checkIndex_8e157) ∈ wsL_law := WLi_16 _ (List.mem_of_getElem? (i := 10) rfl)
theorem qw_267 : (Cond.static yJ3_checkIndex_8e157) ∈ wsL_law := WLi_16 _ (List.mem_of_getElem? (i := 11) rfl)
theorem qw_268 : (Cond.initialized RJ3) ∈ wsL_law := WLi_16 _ (List.mem_of_getElem? (i := 12) rfl)
theorem qw_269 : (Cond.code yJ3_checkIndex_8e157 cJ3_checkIndex_8e157 3 (some .int)) ∈ wsL_law := WLi_16 _ (List.mem_of_getElem? (i := 13) rfl)
theorem qw_270 : (Cond.methodLink RJ0 498 yJ2_charAt_3b067) ∈ wsL_law := WLi_16 _ (List.mem_of_getElem? (i := 14) rfl)
theorem qw_271 : (Cond.static yJ2_charAt_3b067) ∈ wsL_law := WLi_16 _ (List.mem_of_getElem? (i := 15) rfl)
theorem qw_272 : (Cond.initialized RJ2) ∈ wsL_law := WLi_17 _ (List.mem_of_getElem? (i := 0) rfl)
theorem qw_273 : (Cond.code yJ2_charAt_3b067 cJ2_charAt_3b067 2 (some .char)) ∈ wsL_law := WLi_17 _ (List.mem_of_getElem? (i := 1) rfl)
theorem qw_274 : (Cond.methodLink RJ2 67 yJ2_checkIndex_2214a) ∈ wsL_law := WLi_17 _ (List.mem_of_getElem? (i := 2) rfl)
theorem qw_275 : (Cond.static yJ2_checkIndex_2214a) ∈ wsL_law := WLi_17 _ (List.mem_of_getElem? (i := 3) rfl)
theorem qw_276 : (Cond.code yJ2_checkIndex_2214a cJ2_checkIndex_2214a 2 none) ∈ wsL_law := WLi_17 _ (List.mem_of_getElem? (i := 4) rfl)
theorem qw_277 : (Cond.methodLink RJ2 48 yJ2_length_9d52b) ∈ wsL_law := WLi_17 _ (List.mem_of_getElem? (i := 5) rfl)
theorem qw_278 : (Cond.static yJ2_length_9d52b) ∈ wsL_law := WLi_17 _ (List.mem_of_getElem? (i := 6) rfl)
theorem qw_279 : (Cond.code yJ2_length_9d52b cJ2_length_9d52b 1 (some .int)) ∈ wsL_law := WLi_17 _ (List.mem_of_getElem? (i := 7) rfl)
theorem qw_280 : (Cond.methodLink RJ2 414 yJ0_checkIndex_df160) ∈ wsL_law := WLi_17 _ (List.mem_of_getElem? (i := 8) rfl)
theorem qw_281 : (Cond.methodLink RJ2 71 yJ2_getChar_3b067) ∈ wsL_law := WLi_17 _ (List.mem_of_getElem? (i := 9) rfl)
theorem qw_282 : (Cond.static yJ2_getChar_3b067) ∈ wsL_law := WLi_17 _ (List.mem_of_getElem? (i := 10) rfl)
theorem qw_283 : (Cond.code yJ2_getChar_3b067 cJ2_getChar_3b067 2 (some .char)) ∈ wsL_law := WLi_17 _ (List.mem_of_getElem? (i := 11) rfl)
theorem qw_284 : (Cond.fieldLink RJ2 44 "java/lang/StringUTF16" "$assertionsDisabled" "Z") ∈ wsL_law := WLi_17 _ (List.mem_of_getElem? (i := 12) rfl)
theorem qw_285 : (Cond.fieldLink RJ2 59 "java/lang/StringUTF16" "HI_BYTE_SHIFT" "I") ∈ wsL_law := WLi_17 _ (List.mem_of_getElem? (i := 13) rfl)
theorem qw_286 : (Cond.fieldLink RJ2 63 "java/lang/StringUTF16" "LO_BYTE_SHIFT" "I") ∈ wsL_law := WLi_17 _ (List.mem_of_getElem? (i := 14) rfl)
theorem qw_287 : (Cond.methodLink RX3 88 yX3_fail) ∈ wsL_law := WLi_17 _ (List.mem_of_getElem? (i := 15) rfl)
theorem qw_288 : (Cond.instanceMethod yX3_fail) ∈ wsL_law := WLi_18 _ (List.mem_of_getElem? (i := 0) rfl)
theorem qw_289 : (Cond.selects RX3 yX3_fail yX3_fail) ∈ wsL_law := WLi_18 _ (List.mem_of_getElem? (i := 1) rfl)
theorem qw_290 : (Cond.code yX3_fail cX3_fail 3 none) ∈ wsL_law := WLi_18 _ (List.mem_of_getElem? (i := 2) rfl)
theorem qw_291 : (Cond.methodLink RX3 99 yX3_checkLine) ∈ wsL_law := WLi_18 _ (List.mem_of_getElem? (i := 3) rfl)
theorem qw_292 : (Cond.instanceMethod yX3_checkLine) ∈ wsL_law := WLi_18 _ (List.mem_of_getElem? (i := 4) rfl)
theorem qw_293 : (Cond.selects RX3 yX3_checkLine yX3_checkLine) ∈ wsL_law := WLi_18 _ (List.mem_of_getElem? (i := 5) rfl)
theorem qw_294 : (Cond.code yX3_checkLine cX3_checkLine 2 none) ∈ wsL_law := WLi_18 _ (List.mem_of_getElem? (i := 6) rfl)
theorem qw_295 : (Cond.methodLink RX3 143 yX3_isLineAgain) ∈ wsL_law := WLi_18 _ (List.mem_of_getElem? (i := 7) rfl)
theorem qw_296 : (Cond.instanceMethod yX3_isLineAgain) ∈ wsL_law := WLi_18 _ (List.mem_of_getElem? (i := 8) rfl)
theorem qw_297 : (Cond.selects RX3 yX3_isLineAgain yX3_isLineAgain) ∈ wsL_law := WLi_18 _ (List.mem_of_getElem? (i := 9) rfl)
theorem qw_298 : (Cond.code yX3_isLineAgain cX3_isLineAgain 2 (some .boolean)) ∈ wsL_law := WLi_18 _ (List.mem_of_getElem? (i := 10) rfl)
theorem qw_299 : (Cond.methodLink RX3 147 yX3_isLineTooMany) ∈ wsL_law := WLi_18 _ (List.mem_of_getElem? (i := 11) rfl)
theorem qw_300 : (Cond.instanceMethod yX3_isLineTooMany) ∈ wsL_law := WLi_18 _ (List.mem_of_getElem? (i := 12) rfl)
theorem qw_301 : (Cond.selects RX3 yX3_isLineTooMany yX3_isLineTooMany) ∈ wsL_law := WLi_18 _ (List.mem_of_getElem? (i := 13) rfl)
theorem qw_302 : (Cond.code yX3_isLineTooMany cX3_isLineTooMany 2 (some .boolean)) ∈ wsL_law := WLi_18 _ (List.mem_of_getElem? (i := 14) rfl)
theorem qw_303 : (Cond.fieldLink RX3 175 "YearSkins$Land" "heirs" "I") ∈ wsL_law := WLi_18 _ (List.mem_of_getElem? (i := 15) rfl)
theorem qw_304 : (Cond.fieldLink RX3 178 "YearSkins$Land" "walls" "I") ∈ wsL_law := WLi_19 _ (List.mem_of_getElem? (i := 0) rfl)
theorem qw_305 : (Cond.methodLink RX3 103 yX8_advance) ∈ wsL_law := WLi_19 _ (List.mem_of_getElem? (i := 1) rfl)
theorem qw_306 : (Cond.methodLink RX3 106 yX3_readLand) ∈ wsL_law := WLi_19 _ (List.mem_of_getElem? (i := 2) rfl)
theorem qw_307 : (Cond.instanceMethod yX3_readLand) ∈ wsL_law := WLi_19 _ (List.mem_of_getElem? (i := 3) rfl)
theorem qw_308 : (Cond.selects RX3 yX3_readLand yX3_readLand) ∈ wsL_law := WLi_19 _ (List.mem_of_getElem? (i := 4) rfl)
theorem qw_309 : (Cond.code yX3_readLand cX3_readLand 1 none) ∈ wsL_law := WLi_19 _ (List.mem_of_getElem? (i := 5) rfl)
theorem qw_310 : (Cond.fieldLink RX3 191 "YearSkins$Land" "wide" "I") ∈ wsL_law := WLi_19 _ (List.mem_of_getElem? (i := 6) rfl)
theorem qw_311 : (Cond.fieldLink RX3 195 "YearSkins$Land" "high" "I") ∈ wsL_law := WLi_19 _ (List.mem_of_getElem? (i := 7) rfl)
theorem qw_312 : (Cond.fieldLink RX3 209 "YearSkins$Land" "far" "Z") ∈ wsL_law := WLi_19 _ (List.mem_of_getElem? (i := 8) rfl)
theorem qw_313 : (Cond.fieldLink RX3 217 "YearSkins$Land" "share" "Z") ∈ wsL_law := WLi_19 _ (List.mem_of_getElem? (i := 9) rfl)
theorem qw_314 : (Cond.methodLink RX3 183 yX3_word) ∈ wsL_law := WLi_19 _ (List.mem_of_getElem? (i := 10) rfl)
theorem qw_315 : (Cond.instanceMethod yX3_word) ∈ wsL_law := WLi_19 _ (List.mem_of_getElem? (i := 11) rfl)
theorem qw_316 : (Cond.selects RX3 yX3_word yX3_word) ∈ wsL_law := WLi_19 _ (List.mem_of_getElem? (i := 12) rfl)
theorem qw_317 : (Cond.code yX3_word cX3_word 2 none) ∈ wsL_law := WLi_19 _ (List.mem_of_getElem? (i := 13) rfl)
theorem qw_318 : (Cond.methodLink RX3 187 yX3_whole) ∈ wsL_law := WLi_19 _ (List.mem_of_getElem? (i := 14) rfl)
theorem qw_319 : (Cond.instanceMethod yX3_whole) ∈ wsL_law := WLi_19 _ (List.mem_of_getElem? (i := 15) rfl)
theorem qw_320 : (Cond.selects RX3 yX3_whole yX3_whole) ∈ wsL_law := WLi_20 _ (List.mem_of_getElem? (i := 0) rfl)
theorem qw_321 : (Cond.code yX3_whole cX3_whole 4 (some .int)) ∈ wsL_law := WLi_20 _ (List.mem_of_getElem? (i := 1) rfl)
theorem qw_322 : (Cond.fieldLink RX3 331 "YearSkins$Tokens" "value" "I") ∈ wsL_law := WLi_20 _ (List.mem_of_getElem? (i := 2) rfl)
theorem qw_323 : (Cond.methodLink RX3 205 yX3_choice) ∈ wsL_law := WLi_20 _ (List.mem_of_getElem? (i := 3) rfl)
theorem qw_324 : (Cond.instanceMethod yX3_choice) ∈ wsL_law := WLi_20 _ (List.mem_of_getElem? (i := 4) rfl)
theorem qw_325 : (Cond.selects RX3 yX3_choice yX3_choice) ∈ wsL_law := WLi_20 _ (List.mem_of_getElem? (i := 5) rfl)
theorem qw_326 : (Cond.code yX3_choice cX3_choice 6 (some .int)) ∈ wsL_law := WLi_20 _ (List.mem_of_getElem? (i := 6) rfl)
theorem qw_327 : (Cond.methodLink RX3 109 yX3_readYears) ∈ wsL_law := WLi_20 _ (List.mem_of_getElem? (i := 7) rfl)
theorem qw_328 : (Cond.instanceMethod yX3_readYears) ∈ wsL_law := WLi_20 _ (List.mem_of_getElem? (i := 8) rfl)
theorem qw_329 : (Cond.selects RX3 yX3_readYears yX3_readYears) ∈ wsL_law := WLi_20 _ (List.mem_of_getElem? (i := 9) rfl)
theorem qw_330 : (Cond.code yX3_readYears cX3_readYears 1 none) ∈ wsL_law := WLi_20 _ (List.mem_of_getElem? (i := 10) rfl)
theorem qw_331 : (Cond.fieldLink RX3 219 "YearSkins$State" "year" "I") ∈ wsL_law := WLi_20 _ (List.mem_of_getElem? (i := 11) rfl)
theorem qw_332 : (Cond.fieldLink RX3 224 "YearSkins$Land" "births" "I") ∈ wsL_law := WLi_20 _ (List.mem_of_getElem? (i := 12) rfl)
theorem qw_333 : (Cond.fieldLink RX3 228 "YearSkins$Land" "fire" "I") ∈ wsL_law := WLi_20 _ (List.mem_of_getElem? (i := 13) rfl)
theorem qw_334 : (Cond.fieldLink RX3 232 "YearSkins$Land" "earns" "I") ∈ wsL_law := WLi_20 _ (List.mem_of_getElem? (i := 14) rfl)
theorem qw_335 : (Cond.methodLink RX3 112 yX3_readWater) ∈ wsL_law := WLi_20 _ (List.mem_of_getElem? (i := 15) rfl)
theorem qw_336 : (Cond.instanceMethod yX3_readWater) ∈ wsL_law := WLi_21 _ (List.mem_of_getElem? (i := 0) rfl)
theorem qw_337 : (Cond.selects RX3 yX3_readWater yX3_readWater) ∈ wsL_law := WLi_21 _ (List.mem_of_getElem? (i := 1) rfl)
theorem qw_338 : (Cond.code yX3_readWater cX3_readWater 3 none) ∈ wsL_law := WLi_21 _ (List.mem_of_getElem? (i := 2) rfl)
theorem qw_339 : (Cond.fieldLink RX3 238 "YearSkins$Tokens" "last" "I") ∈ wsL_law := WLi_21 _ (List.mem_of_getElem? (i := 3) rfl)
theorem qw_340 : (Cond.methodLink RX3 78 yX3_sign) ∈ wsL_law := WLi_21 _ (List.mem_of_getElem? (i := 4) rfl)
theorem qw_341 : (Cond.instanceMethod yX3_sign) ∈ wsL_law := WLi_21 _ (List.mem_of_getElem? (i := 5) rfl)
theorem qw_342 : (Cond.selects RX3 yX3_sign yX3_sign) ∈ wsL_law := WLi_21 _ (List.mem_of_getElem? (i := 6) rfl)
theorem qw_343 : (Cond.code yX3_sign cX3_sign 2 none) ∈ wsL_law := WLi_21 _ (List.mem_of_getElem? (i := 7) rfl)
theorem qw_344 : (Cond.methodLink RX3 234 yX1_isWet) ∈ wsL_law := WLi_21 _ (List.mem_of_getElem? (i := 8) rfl)
theorem qw_345 : (Cond.instanceMethod yX1_isWet) ∈ wsL_law := WLi_21 _ (List.mem_of_getElem? (i := 9) rfl)
theorem qw_346 : (Cond.selects RX1 yX1_isWet yX1_isWet) ∈ wsL_law := WLi_21 _ (List.mem_of_getElem? (i := 10) rfl)
theorem qw_347 : (Cond.code yX1_isWet cX1_isWet 4 (some .boolean)) ∈ wsL_law := WLi_21 _ (List.mem_of_getElem? (i := 11) rfl)
theorem qw_348 : (Cond.methodLink RX3 241 yX1_addWater) ∈ wsL_law := WLi_21 _ (List.mem_of_getElem? (i := 12) rfl)
theorem qw_349 : (Cond.instanceMethod yX1_addWater) ∈ wsL_law := WLi_21 _ (List.mem_of_getElem? (i := 13) rfl)
theorem qw_350 : (Cond.selects RX1 yX1_addWater yX1_addWater) ∈ wsL_law := WLi_21 _ (List.mem_of_getElem? (i := 14) rfl)
theorem qw_351 : (Cond.code yX1_addWater cX1_addWater 4 none) ∈ wsL_law := WLi_21 _ (List.mem_of_getElem? (i := 15) rfl)
theorem qw_352 : (Cond.methodLink RX3 115 yX3_readStone) ∈ wsL_law := WLi_22 _ (List.mem_of_getElem? (i := 0) rfl)
theorem qw_353 : (Cond.instanceMethod yX3_readStone) ∈ wsL_law := WLi_22 _ (List.mem_of_getElem? (i := 1) rfl)
theorem qw_354 : (Cond.selects RX3 yX3_readStone yX3_readStone) ∈ wsL_law := WLi_22 _ (List.mem_of_getElem? (i := 2) rfl)
theorem qw_355 : (Cond.code yX3_readStone cX3_readStone 2 none) ∈ wsL_law := WLi_22 _ (List.mem_of_getElem? (i := 3) rfl)
theorem qw_356 : (Cond.methodLink RX3 244 yX3_newName) ∈ wsL_law := WLi_22 _ (List.mem_of_getElem? (i := 4) rfl)
theorem qw_357 : (Cond.instanceMethod yX3_newName) ∈ wsL_law := WLi_22 _ (List.mem_of_getElem? (i := 5) rfl)
theorem qw_358 : (Cond.selects RX3 yX3_newName yX3_newName) ∈ wsL_law := WLi_22 _ (List.mem_of_getElem? (i := 6) rfl)
theorem qw_359 : (Cond.code yX3_newName cX3_newName 3 none) ∈ wsL_law := WLi_22 _ (List.mem_of_getElem? (i := 7) rfl)
theorem qw_360 : (Cond.fieldLink RX3 337 "YearSkins$Tokens" "letters" "J") ∈ wsL_law := WLi_22 _ (List.mem_of_getElem? (i := 8) rfl)
theorem qw_361 : (Cond.methodLink RX3 334 yX3_findName) ∈ wsL_law := WLi_22 _ (List.mem_of_getElem? (i := 9) rfl)
theorem qw_362 : (Cond.instanceMethod yX3_findName) ∈ wsL_law := WLi_22 _ (List.mem_of_getElem? (i := 10) rfl)
theorem qw_363 : (Cond.selects RX3 yX3_findName yX3_findName) ∈ wsL_law := WLi_22 _ (List.mem_of_getElem? (i := 11) rfl)
theorem qw_364 : (Cond.code yX3_findName cX3_findName 2 (some .int)) ∈ wsL_law := WLi_22 _ (List.mem_of_getElem? (i := 12) rfl)
theorem qw_365 : (Cond.methodLink RX3 253 yX1_setStonePart) ∈ wsL_law := WLi_22 _ (List.mem_of_getElem? (i := 13) rfl)
theorem qw_366 : (Cond.instanceMethod yX1_setStonePart) ∈ wsL_law := WLi_22 _ (List.mem_of_getElem? (i := 14) rfl)
theorem qw_367 : (Cond.selects RX1 yX1_setStonePart yX1_setStonePart) ∈ wsL_law := WLi_22 _ (List.mem_of_getElem? (i := 15) rfl)
theorem qw_368 : (Cond.code yX1_setStonePart cX1_setStonePart 5 none) ∈ wsL_law := WLi_23 _ (List.mem_of_getElem? (i := 0) rfl)
theorem qw_369 : (Cond.methodLink RX3 118 yX3_readHouse) ∈ wsL_law := WLi_23 _ (List.mem_of_getElem? (i := 1) rfl)
theorem qw_370 : (Cond.instanceMethod yX3_readHouse) ∈ wsL_law := WLi_23 _ (List.mem_of_getElem? (i := 2) rfl)
theorem qw_371 : (Cond.selects RX3 yX3_readHouse yX3_readHouse) ∈ wsL_law := WLi_23 _ (List.mem_of_getElem? (i := 3) rfl)
theorem qw_372 : (Cond.code yX3_readHouse cX3_readHouse 7 none) ∈ wsL_law := WLi_23 _ (List.mem_of_getElem? (i := 4) rfl)
theorem qw_373 : (Cond.fieldLink RX3 283 "YearSkins$Land" "coreX" "[I") ∈ wsL_law := WLi_23 _ (List.mem_of_getElem? (i := 5) rfl)
theorem qw_374 : (Cond.fieldLink RX3 286 "YearSkins$Land" "coreY" "[I") ∈ wsL_law := WLi_23 _ (List.mem_of_getElem? (i := 6) rfl)
theorem qw_375 : (Cond.fieldLink RX3 289 "YearSkins$Land" "houseStone" "[I") ∈ wsL_law := WLi_23 _ (List.mem_of_getElem? (i := 7) rfl)
theorem qw_376 : (Cond.fieldLink RX3 292 "YearSkins$State" "families" "[I") ∈ wsL_law := WLi_23 _ (List.mem_of_getElem? (i := 8) rfl)
theorem qw_377 : (Cond.fieldLink RX3 295 "YearSkins$State" "golds" "[I") ∈ wsL_law := WLi_23 _ (List.mem_of_getElem? (i := 9) rfl)
theorem qw_378 : (Cond.methodLink RX3 267 yX6_isFree) ∈ wsL_law := WLi_23 _ (List.mem_of_getElem? (i := 10) rfl)
theorem qw_379 : (Cond.static yX6_isFree) ∈ wsL_law := WLi_23 _ (List.mem_of_getElem? (i := 11) rfl)
theorem qw_380 : (Cond.initialized RX6) ∈ wsL_law := WLi_23 _ (List.mem_of_getElem? (i := 12) rfl)
theorem qw_381 : (Cond.code yX6_isFree cX6_isFree 5 (some .boolean)) ∈ wsL_law := WLi_23 _ (List.mem_of_getElem? (i := 13) rfl)
theorem qw_382 : (Cond.fieldLink RX6 9 "YearSkins$Land" "houses" "I") ∈ wsL_law := WLi_23 _ (List.mem_of_getElem? (i := 14) rfl)
theorem qw_383 : (Cond.fieldLink RX6 19 "YearSkins$State" "counts" "[I") ∈ wsL_law := WLi_23 _ (List.mem_of_getElem? (i := 15) rfl)
theorem qw_384 : (Cond.methodLink RX6 25 yX1_isOn) ∈ wsL_law := WLi_24 _ (List.mem_of_getElem? (i := 0) rfl)
theorem qw_385 : (Cond.instanceMethod yX1_isOn) ∈ wsL_law := WLi_24 _ (List.mem_of_getElem? (i := 1) rfl)
theorem qw_386 : (Cond.selects RX1 yX1_isOn yX1_isOn) ∈ wsL_law := WLi_24 _ (List.mem_of_getElem? (i := 2) rfl)
theorem qw_387 : (Cond.code yX1_isOn cX1_isOn 3 (some .boolean)) ∈ wsL_law := WLi_24 _ (List.mem_of_getElem? (i := 3) rfl)
theorem qw_388 : (Cond.methodLink RX6 29 yX1_isWet) ∈ wsL_law := WLi_24 _ (List.mem_of_getElem? (i := 4) rfl)
theorem qw_389 : (Cond.methodLink RX6 15 yX1_apart) ∈ wsL_law := WLi_24 _ (List.mem_of_getElem? (i := 5) rfl)
theorem qw_390 : (Cond.instanceMethod yX1_apart) ∈ wsL_law := WLi_24 _ (List.mem_of_getElem? (i := 6) rfl)
theorem qw_391 : (Cond.selects RX1 yX1_apart yX1_apart) ∈ wsL_law := WLi_24 _ (List.mem_of_getElem? (i := 7) rfl)
theorem qw_392 : (Cond.code yX1_apart cX1_apart 6 (some .int)) ∈ wsL_law := WLi_24 _ (List.mem_of_getElem? (i := 8) rfl)
theorem qw_393 : (Cond.methodLink RX3 275 yX3_name) ∈ wsL_law := WLi_24 _ (List.mem_of_getElem? (i := 9) rfl)
theorem qw_394 : (Cond.instanceMethod yX3_name) ∈ wsL_law := WLi_24 _ (List.mem_of_getElem? (i := 10) rfl)
theorem qw_395 : (Cond.selects RX3 yX3_name yX3_name) ∈ wsL_law := WLi_24 _ (List.mem_of_getElem? (i := 11) rfl)
theorem qw_396 : (Cond.code yX3_name cX3_name 3 (some .int)) ∈ wsL_law := WLi_24 _ (List.mem_of_getElem? (i := 12) rfl)
theorem qw_397 : (Cond.methodLink RX3 121 yX3_readSkin) ∈ wsL_law := WLi_24 _ (List.mem_of_getElem? (i := 13) rfl)
theorem qw_398 : (Cond.instanceMethod yX3_readSkin) ∈ wsL_law := WLi_24 _ (List.mem_of_getElem? (i := 14) rfl)
theorem qw_399 : (Cond.selects RX3 yX3_readSkin yX3_readSkin) ∈ wsL_law := WLi_24 _ (List.mem_of_getElem? (i := 15) rfl)
theorem qw_400 : (Cond.code yX3_readSkin cX3_readSkin 6 none) ∈ wsL_law := WLi_25 _ (List.mem_of_getElem? (i := 0) rfl)
theorem qw_401 : (Cond.fieldLink RX3 298 "YearSkins$State" "counts" "[I") ∈ wsL_law := WLi_25 _ (List.mem_of_getElem? (i := 1) rfl)
theorem qw_402 : (Cond.methodLink RX3 301 yX6_isFit) ∈ wsL_law := WLi_25 _ (List.mem_of_getElem? (i := 2) rfl)
theorem qw_403 : (Cond.static yX6_isFit) ∈ wsL_law := WLi_25 _ (List.mem_of_getElem? (i := 3) rfl)
theorem qw_404 : (Cond.code yX6_isFit cX6_isFit 9 (some .boolean)) ∈ wsL_law := WLi_25 _ (List.mem_of_getElem? (i := 4) rfl)
theorem qw_405 : (Cond.fieldLink RX6 32 "YearSkins$Land" "coreX" "[I") ∈ wsL_law := WLi_25 _ (List.mem_of_getElem? (i := 5) rfl)
theorem qw_406 : (Cond.fieldLink RX6 35 "YearSkins$Land" "coreY" "[I") ∈ wsL_law := WLi_25 _ (List.mem_of_getElem? (i := 6) rfl)
theorem qw_407 : (Cond.methodLink RX6 38 yX4_eastOf) ∈ wsL_law := WLi_25 _ (List.mem_of_getElem? (i := 7) rfl)
theorem qw_408 : (Cond.static yX4_eastOf) ∈ wsL_law := WLi_25 _ (List.mem_of_getElem? (i := 8) rfl)
theorem qw_409 : (Cond.initialized RX4) ∈ wsL_law := WLi_25 _ (List.mem_of_getElem? (i := 9) rfl)
theorem qw_410 : (Cond.code yX4_eastOf cX4_eastOf 3 (some .int)) ∈ wsL_law := WLi_25 _ (List.mem_of_getElem? (i := 10) rfl)
theorem qw_411 : (Cond.methodLink RX6 44 yX4_southOf) ∈ wsL_law := WLi_25 _ (List.mem_of_getElem? (i := 11) rfl)
theorem qw_412 : (Cond.static yX4_southOf) ∈ wsL_law := WLi_25 _ (List.mem_of_getElem? (i := 12) rfl)
theorem qw_413 : (Cond.code yX4_southOf cX4_southOf 3 (some .int)) ∈ wsL_law := WLi_25 _ (List.mem_of_getElem? (i := 13) rfl)
theorem qw_414 : (Cond.methodLink RX6 47 yX6_isLeftTo) ∈ wsL_law := WLi_25 _ (List.mem_of_getElem? (i := 14) rfl)
theorem qw_415 : (Cond.static yX6_isLeftTo) ∈ wsL_law := WLi_25 _ (List.mem_of_getElem? (i := 15) rfl)
theorem qw_416 : (Cond.code yX6_isLeftTo cX6_isLeftTo 8 (some .boolean)) ∈ wsL_law := WLi_26 _ (List.mem_of_getElem? (i := 0) rfl)
theorem qw_417 : (Cond.fieldLink RX6 53 "YearSkins$Land" "share" "Z") ∈ wsL_law := WLi_26 _ (List.mem_of_getElem? (i := 1) rfl)
theorem qw_418 : (Cond.methodLink RX3 315 yX7_addSkin) ∈ wsL_law := WLi_26 _ (List.mem_of_getElem? (i := 2) rfl)
theorem qw_419 : (Cond.instanceMethod yX7_addSkin) ∈ wsL_law := WLi_26 _ (List.mem_of_getElem? (i := 3) rfl)
theorem qw_420 : (Cond.selects RX7 yX7_addSkin yX7_addSkin) ∈ wsL_law := WLi_26 _ (List.mem_of_getElem? (i := 4) rfl)
theorem qw_421 : (Cond.code yX7_addSkin cX7_addSkin 8 none) ∈ wsL_law := WLi_26 _ (List.mem_of_getElem? (i := 5) rfl)
theorem qw_422 : (Cond.methodLink RX7 40 yX7_setPart) ∈ wsL_law := WLi_26 _ (List.mem_of_getElem? (i := 6) rfl)
theorem qw_423 : (Cond.instanceMethod yX7_setPart) ∈ wsL_law := WLi_26 _ (List.mem_of_getElem? (i := 7) rfl)
theorem qw_424 : (Cond.selects RX7 yX7_setPart yX7_setPart) ∈ wsL_law := WLi_26 _ (List.mem_of_getElem? (i := 8) rfl)
theorem qw_425 : (Cond.code yX7_setPart cX7_setPart 6 none) ∈ wsL_law := WLi_26 _ (List.mem_of_getElem? (i := 9) rfl)
theorem qw_426 : (Cond.methodLink RX3 124 yX3_readHeir) ∈ wsL_law := WLi_26 _ (List.mem_of_getElem? (i := 10) rfl)
theorem qw_427 : (Cond.instanceMethod yX3_readHeir) ∈ wsL_law := WLi_26 _ (List.mem_of_getElem? (i := 11) rfl)
theorem qw_428 : (Cond.selects RX3 yX3_readHeir yX3_readHeir) ∈ wsL_law := WLi_26 _ (List.mem_of_getElem? (i := 12) rfl)
theorem qw_429 : (Cond.code yX3_readHeir cX3_readHeir 4 none) ∈ wsL_law := WLi_26 _ (List.mem_of_getElem? (i := 13) rfl)
theorem qw_430 : (Cond.fieldLink RX3 319 "YearSkins$Land" "heirHouse" "[I") ∈ wsL_law := WLi_26 _ (List.mem_of_getElem? (i := 14) rfl)
theorem qw_431 : (Cond.fieldLink RX3 322 "YearSkins$State" "rooms" "[I") ∈ wsL_law := WLi_26 _ (List.mem_of_getElem? (i := 15) rfl)
theorem qw_432 : (Cond.methodLink RX3 127 yX3_readWall) ∈ wsL_law := WLi_27 _ (List.mem_of_getElem? (i := 0) rfl)
theorem qw_433 : (Cond.instanceMethod yX3_readWall) ∈ wsL_law := WLi_27 _ (List.mem_of_getElem? (i := 1) rfl)
theorem qw_434 : (Cond.selects RX3 yX3_readWall yX3_readWall) ∈ wsL_law := WLi_27 _ (List.mem_of_getElem? (i := 2) rfl)
theorem qw_435 : (Cond.code yX3_readWall cX3_readWall 1 none) ∈ wsL_law := WLi_27 _ (List.mem_of_getElem? (i := 3) rfl)
theorem qw_436 : (Cond.methodLink RX3 130 yX3_readOlder) ∈ wsL_law := WLi_27 _ (List.mem_of_getElem? (i := 4) rfl)
theorem qw_437 : (Cond.instanceMethod yX3_readOlder) ∈ wsL_law := WLi_27 _ (List.mem_of_getElem? (i := 5) rfl)
theorem qw_438 : (Cond.selects RX3 yX3_readOlder yX3_readOlder) ∈ wsL_law := WLi_27 _ (List.mem_of_getElem? (i := 6) rfl)
theorem qw_439 : (Cond.code yX3_readOlder cX3_readOlder 3 none) ∈ wsL_law := WLi_27 _ (List.mem_of_getElem? (i := 7) rfl)
theorem qw_440 : (Cond.fieldLink RX3 328 "YearSkins$Land" "needs" "[I") ∈ wsL_law := WLi_27 _ (List.mem_of_getElem? (i := 8) rfl)
theorem qw_441 : (Cond.methodLink RX3 325 yX1_isTold) ∈ wsL_law := WLi_27 _ (List.mem_of_getElem? (i := 9) rfl)
theorem qw_442 : (Cond.instanceMethod yX1_isTold) ∈ wsL_law := WLi_27 _ (List.mem_of_getElem? (i := 10) rfl)
theorem qw_443 : (Cond.selects RX1 yX1_isTold yX1_isTold) ∈ wsL_law := WLi_27 _ (List.mem_of_getElem? (i := 11) rfl)
theorem qw_444 : (Cond.code yX1_isTold cX1_isTold 3 (some .boolean)) ∈ wsL_law := WLi_27 _ (List.mem_of_getElem? (i := 12) rfl)
theorem qw_445 : (Cond.methodLink RX3 139 yX3_readYearOfWall) ∈ wsL_law := WLi_27 _ (List.mem_of_getElem? (i := 13) rfl)
theorem qw_446 : (Cond.instanceMethod yX3_readYearOfWall) ∈ wsL_law := WLi_27 _ (List.mem_of_getElem? (i := 14) rfl)
theorem qw_447 : (Cond.selects RX3 yX3_readYearOfWall yX3_readYearOfWall) ∈ wsL_law := WLi_27 _ (List.mem_of_getElem? (i := 15) rfl)
theorem qw_448 : (Cond.code yX3_readYearOfWall cX3_readYearOfWall 3 none) ∈ wsL_law := WLi_28 _ (List.mem_of_getElem? (i := 0) rfl)
theorem qw_449 : (Cond.methodLink RX11 99 yX7_copyFrom) ∈ wsL_law := WLi_28 _ (List.mem_of_getElem? (i := 1) rfl)
theorem qw_450 : (Cond.instanceMethod yX7_copyFrom) ∈ wsL_law := WLi_28 _ (List.mem_of_getElem? (i := 2) rfl)
theorem qw_451 : (Cond.selects RX7 yX7_copyFrom yX7_copyFrom) ∈ wsL_law := WLi_28 _ (List.mem_of_getElem? (i := 3) rfl)
theorem qw_452 : (Cond.code yX7_copyFrom cX7_copyFrom 2 none) ∈ wsL_law := WLi_28 _ (List.mem_of_getElem? (i := 4) rfl)
theorem qw_453 : (Cond.methodLink RX7 34 arraycopyName) ∈ wsL_law := WLi_28 _ (List.mem_of_getElem? (i := 5) rfl)
theorem qw_454 : (Cond.native arraycopyName) ∈ wsL_law := WLi_28 _ (List.mem_of_getElem? (i := 6) rfl)
theorem qw_455 : (Cond.static arraycopyName) ∈ wsL_law := WLi_28 _ (List.mem_of_getElem? (i := 7) rfl)
theorem qw_456 : (Cond.initialized "java/lang/System") ∈ wsL_law := WLi_28 _ (List.mem_of_getElem? (i := 8) rfl)
theorem qw_457 : (Cond.methodLink RX11 103 yX2_forget) ∈ wsL_law := WLi_28 _ (List.mem_of_getElem? (i := 9) rfl)
theorem qw_458 : (Cond.instanceMethod yX2_forget) ∈ wsL_law := WLi_28 _ (List.mem_of_getElem? (i := 10) rfl)
theorem qw_459 : (Cond.selects RX2 yX2_forget yX2_forget) ∈ wsL_law := WLi_28 _ (List.mem_of_getElem? (i := 11) rfl)
theorem qw_460 : (Cond.code yX2_forget cX2_forget 1 none) ∈ wsL_law := WLi_28 _ (List.mem_of_getElem? (i := 12) rfl)
theorem qw_461 : (Cond.fieldLink RX2 21 "YearSkins$Past" "acts" "I") ∈ wsL_law := WLi_28 _ (List.mem_of_getElem? (i := 13) rfl)
theorem qw_462 : (Cond.fieldLink RX2 25 "YearSkins$Past" "marks" "I") ∈ wsL_law := WLi_28 _ (List.mem_of_getElem? (i := 14) rfl)
theorem qw_463 : (Cond.methodLink RX11 113 yX11_answer) ∈ wsL_law := WLi_28 _ (List.mem_of_getElem? (i := 15) rfl)
theorem qw_464 : (Cond.instanceMethod yX11_answer) ∈ wsL_law := WLi_29 _ (List.mem_of_getElem? (i := 0) rfl)
theorem qw_465 : (Cond.selects RX11 yX11_answer yX11_answer) ∈ wsL_law := WLi_29 _ (List.mem_of_getElem? (i := 1) rfl)
theorem qw_466 : (Cond.code yX11_answer cX11_answer 2 (some .int)) ∈ wsL_law := WLi_29 _ (List.mem_of_getElem? (i := 2) rfl)
theorem qw_467 : (Cond.methodLink RL 27 yX13_land) ∈ wsL_law := WLi_29 _ (List.mem_of_getElem? (i := 3) rfl)
theorem qw_468 : (Cond.instanceMethod yX13_land) ∈ wsL_law := WLi_29 _ (List.mem_of_getElem? (i := 4) rfl)
theorem qw_469 : (Cond.selects RX13 yX13_land yX13_land) ∈ wsL_law := WLi_29 _ (List.mem_of_getElem? (i := 5) rfl)
theorem qw_470 : (Cond.code yX13_land cX13_land 3 (some .int)) ∈ wsL_law := WLi_29 _ (List.mem_of_getElem? (i := 6) rfl)
theorem qw_471 : (Cond.fieldLink RX13 76 "YearSkinsModel" "size" "I") ∈ wsL_law := WLi_29 _ (List.mem_of_getElem? (i := 7) rfl)
theorem qw_472 : (Cond.fieldLink RX13 94 "YearSkinsModel" "spot" "I") ∈ wsL_law := WLi_29 _ (List.mem_of_getElem? (i := 8) rfl)
theorem qw_473 : (Cond.fieldLink RX13 120 "YearSkinsModel" "fault" "I") ∈ wsL_law := WLi_29 _ (List.mem_of_getElem? (i := 9) rfl)
theorem qw_474 : (Cond.classLink RX13 161 RX12) ∈ wsL_law := WLi_29 _ (List.mem_of_getElem? (i := 10) rfl)
theorem qw_475 : (Cond.instantiable RX12 31) ∈ wsL_law := WLi_29 _ (List.mem_of_getElem? (i := 11) rfl)
theorem qw_476 : (Cond.initialized RX12) ∈ wsL_law := WLi_29 _ (List.mem_of_getElem? (i := 12) rfl)
theorem qw_477 : (Cond.fieldLink RX13 156 "YearSkinsModel" "read" "LYearSkinsModel$Land;") ∈ wsL_law := WLi_29 _ (List.mem_of_getElem? (i := 13) rfl)
theorem qw_478 : (Cond.fieldLink RX13 91 "YearSkinsModel" "sort" "I") ∈ wsL_law := WLi_29 _ (List.mem_of_getElem? (i := 14) rfl)
theorem qw_479 : (Cond.fieldLink RX13 66 "YearSkinsModel" "trouble" "I") ∈ wsL_law := WLi_29 _ (List.mem_of_getElem? (i := 15) rfl)
theorem qw_480 : (Cond.fieldLink RX13 123 "YearSkinsModel" "wrongAt" "I") ∈ wsL_law := WLi_30 _ (List.mem_of_getElem? (i := 0) rfl)
theorem qw_481 : (Cond.fieldLink RX13 417 "YearSkinsModel" "land" "LYearSkinsModel$Land;") ∈ wsL_law := WLi_30 _ (List.mem_of_getElem? (i := 1) rfl)
theorem qw_482 : (Cond.fieldLink RX13 419 "YearSkinsModel" "acts" "I") ∈ wsL_law := WLi_30 _ (List.mem_of_getElem? (i := 2) rfl)
theorem qw_483 : (Cond.fieldLink RX13 422 "YearSkinsModel" "marks" "I") ∈ wsL_law := WLi_30 _ (List.mem_of_getElem? (i := 3) rfl)
theorem qw_484 : (Cond.methodLink RX13 69 yX13_refused) ∈ wsL_law := WLi_30 _ (List.mem_of_getElem? (i := 4) rfl)
theorem qw_485 : (Cond.instanceMethod yX13_refused) ∈ wsL_law := WLi_30 _ (List.mem_of_getElem? (i := 5) rfl)
theorem qw_486 : (Cond.selects RX13 yX13_refused yX13_refused) ∈ wsL_law := WLi_30 _ (List.mem_of_getElem? (i := 6) rfl)
theorem qw_487 : (Cond.code yX13_refused cX13_refused 2 (some .int)) ∈ wsL_law := WLi_30 _ (List.mem_of_getElem? (i := 7) rfl)
theorem qw_488 : (Cond.instanceMethod yX12_init) ∈ wsL_law := WLi_30 _ (List.mem_of_getElem? (i := 8) rfl)
theorem qw_489 : (Cond.code yX12_init cX12_init 1 none) ∈ wsL_law := WLi_30 _ (List.mem_of_getElem? (i := 9) rfl)
theorem qw_490 : (Cond.methodLink RX12 3 objectInit) ∈ wsL_law := WLi_30 _ (List.mem_of_getElem? (i := 10) rfl)
theorem qw_491 : (Cond.fieldLink RX12 9 "YearSkinsModel$Land" "year" "I") ∈ wsL_law := WLi_30 _ (List.mem_of_getElem? (i := 11) rfl)
theorem qw_492 : (Cond.fieldLink RX12 15 "YearSkinsModel$Land" "water" "[Z") ∈ wsL_law := WLi_30 _ (List.mem_of_getElem? (i := 12) rfl)
theorem qw_493 : (Cond.fieldLink RX12 19 "YearSkinsModel$Land" "kind" "[I") ∈ wsL_law := WLi_30 _ (List.mem_of_getElem? (i := 13) rfl)
theorem qw_494 : (Cond.fieldLink RX12 23 "YearSkinsModel$Land" "costs" "[I") ∈ wsL_law := WLi_30 _ (List.mem_of_getElem? (i := 14) rfl)
theorem qw_495 : (Cond.fieldLink RX12 26 "YearSkinsModel$Land" "warm" "[I") ∈ wsL_law := WLi_30 _ (List.mem_of_getElem? (i := 15) rfl)
theorem qw_496 : (Cond.fieldLink RX12 29 "YearSkinsModel$Land" "rots" "[I") ∈ wsL_law := WLi_31 _ (List.mem_of_getElem? (i := 0) rfl)
theorem qw_497 : (Cond.fieldLink RX12 32 "YearSkinsModel$Land" "strong" "[I") ∈ wsL_law := WLi_31 _ (List.mem_of_getElem? (i := 1) rfl)
theorem qw_498 : (Cond.fieldLink RX12 35 "YearSkinsModel$Land" "core" "[I") ∈ wsL_law := WLi_31 _ (List.mem_of_getElem? (i := 2) rfl)
theorem qw_499 : (Cond.fieldLink RX12 38 "YearSkinsModel$Land" "stoneOf" "[I") ∈ wsL_law := WLi_31 _ (List.mem_of_getElem? (i := 3) rfl)
theorem qw_500 : (Cond.fieldLink RX12 41 "YearSkinsModel$Land" "heirHouse" "[I") ∈ wsL_law := WLi_31 _ (List.mem_of_getElem? (i := 4) rfl)
theorem qw_501 : (Cond.fieldLink RX12 44 "YearSkinsModel$Land" "older" "[I") ∈ wsL_law := WLi_31 _ (List.mem_of_getElem? (i := 5) rfl)
theorem qw_502 : (Cond.fieldLink RX12 47 "YearSkinsModel$Land" "coin" "[I") ∈ wsL_law := WLi_31 _ (List.mem_of_getElem? (i := 6) rfl)
theorem qw_503 : (Cond.fieldLink RX12 50 "YearSkinsModel$Land" "smell" "[I") ∈ wsL_law := WLi_31 _ (List.mem_of_getElem? (i := 7) rfl)
theorem qw_504 : (Cond.fieldLink RX12 53 "YearSkinsModel$Land" "name" "[J") ∈ wsL_law := WLi_31 _ (List.mem_of_getElem? (i := 8) rfl)
theorem qw_505 : (Cond.fieldLink RX12 57 "YearSkinsModel$Land" "nameSort" "[I") ∈ wsL_law := WLi_31 _ (List.mem_of_getElem? (i := 9) rfl)
theorem qw_506 : (Cond.fieldLink RX12 60 "YearSkinsModel$Land" "nameNumber" "[I") ∈ wsL_law := WLi_31 _ (List.mem_of_getElem? (i := 10) rfl)
theorem qw_507 : (Cond.fieldLink RX12 63 "YearSkinsModel$Land" "first" "[I") ∈ wsL_law := WLi_31 _ (List.mem_of_getElem? (i := 11) rfl)
theorem qw_508 : (Cond.methodLink RX13 130 yX13_goesOn) ∈ wsL_law := WLi_31 _ (List.mem_of_getElem? (i := 12) rfl)
theorem qw_509 : (Cond.instanceMethod yX13_goesOn) ∈ wsL_law := WLi_31 _ (List.mem_of_getElem? (i := 13) rfl)
theorem qw_510 : (Cond.selects RX13 yX13_goesOn yX13_goesOn) ∈ wsL_law := WLi_31 _ (List.mem_of_getElem? (i := 14) rfl)
theorem qw_511 : (Cond.code yX13_goesOn cX13_goesOn 3 none) ∈ wsL_law := WLi_31 _ (List.mem_of_getElem? (i := 15) rfl)
theorem qw_512 : (Cond.fieldLink RX13 100 "YearSkinsModel" "place" "I") ∈ wsL_law := WLi_32 _ (List.mem_of_getElem? (i := 0) rfl)
theorem qw_513 : (Cond.fieldLink RX13 103 "YearSkinsModel" "sign" "I") ∈ wsL_law := WLi_32 _ (List.mem_of_getElem? (i := 1) rfl)
theorem qw_514 : (Cond.fieldLink RX13 110 "YearSkinsModel" "word" "J") ∈ wsL_law := WLi_32 _ (List.mem_of_getElem? (i := 2) rfl)
theorem qw_515 : (Cond.constantLong RX13 85 (32)) ∈ wsL_law := WLi_32 _ (List.mem_of_getElem? (i := 3) rfl)
theorem qw_516 : (Cond.fieldLink RX13 117 "YearSkinsModel" "number" "I") ∈ wsL_law := WLi_32 _ (List.mem_of_getElem? (i := 4) rfl)
theorem qw_517 : (Cond.methodLink RX13 97 yX13_byteAt) ∈ wsL_law := WLi_32 _ (List.mem_of_getElem? (i := 5) rfl)
theorem qw_518 : (Cond.instanceMethod yX13_byteAt) ∈ wsL_law := WLi_32 _ (List.mem_of_getElem? (i := 6) rfl)
theorem qw_519 : (Cond.selects RX13 yX13_byteAt yX13_byteAt) ∈ wsL_law := WLi_32 _ (List.mem_of_getElem? (i := 7) rfl)
theorem qw_520 : (Cond.code yX13_byteAt cX13_byteAt 2 (some .int)) ∈ wsL_law := WLi_32 _ (List.mem_of_getElem? (i := 8) rfl)
theorem qw_521 : (Cond.methodLink RX13 106 yX13_isLetter) ∈ wsL_law := WLi_32 _ (List.mem_of_getElem? (i := 9) rfl)
theorem qw_522 : (Cond.static yX13_isLetter) ∈ wsL_law := WLi_32 _ (List.mem_of_getElem? (i := 10) rfl)
theorem qw_523 : (Cond.code yX13_isLetter cX13_isLetter 1 (some .boolean)) ∈ wsL_law := WLi_32 _ (List.mem_of_getElem? (i := 11) rfl)
theorem qw_524 : (Cond.methodLink RX13 114 yX13_isDigit) ∈ wsL_law := WLi_32 _ (List.mem_of_getElem? (i := 12) rfl)
theorem qw_525 : (Cond.static yX13_isDigit) ∈ wsL_law := WLi_32 _ (List.mem_of_getElem? (i := 13) rfl)
theorem qw_526 : (Cond.code yX13_isDigit cX13_isDigit 1 (some .boolean)) ∈ wsL_law := WLi_32 _ (List.mem_of_getElem? (i := 14) rfl)
theorem qw_527 : (Cond.methodLink RX13 414 yX13_readAll) ∈ wsL_law := WLi_32 _ (List.mem_of_getElem? (i := 15) rfl)
theorem qw_528 : (Cond.instanceMethod yX13_readAll) ∈ wsL_law := WLi_33 _ (List.mem_of_getElem? (i := 0) rfl)
theorem qw_529 : (Cond.selects RX13 yX13_readAll yX13_readAll) ∈ wsL_law := WLi_33 _ (List.mem_of_getElem? (i := 1) rfl)
theorem qw_530 : (Cond.code yX13_readAll cX13_readAll 2 none) ∈ wsL_law := WLi_33 _ (List.mem_of_getElem? (i := 2) rfl)
theorem qw_531 : (Cond.methodLink RX13 217 yX13_readLine) ∈ wsL_law := WLi_33 _ (List.mem_of_getElem? (i := 3) rfl)
theorem qw_532 : (Cond.instanceMethod yX13_readLine) ∈ wsL_law := WLi_33 _ (List.mem_of_getElem? (i := 4) rfl)
theorem qw_533 : (Cond.selects RX13 yX13_readLine yX13_readLine) ∈ wsL_law := WLi_33 _ (List.mem_of_getElem? (i := 5) rfl)
theorem qw_534 : (Cond.code yX13_readLine cX13_readLine 1 none) ∈ wsL_law := WLi_33 _ (List.mem_of_getElem? (i := 6) rfl)
theorem qw_535 : (Cond.methodLink RX13 133 yX13_isWord) ∈ wsL_law := WLi_33 _ (List.mem_of_getElem? (i := 7) rfl)
theorem qw_536 : (Cond.instanceMethod yX13_isWord) ∈ wsL_law := WLi_33 _ (List.mem_of_getElem? (i := 8) rfl)
theorem qw_537 : (Cond.selects RX13 yX13_isWord yX13_isWord) ∈ wsL_law := WLi_33 _ (List.mem_of_getElem? (i := 9) rfl)
theorem qw_538 : (Cond.code yX13_isWord cX13_isWord 2 (some .boolean)) ∈ wsL_law := WLi_33 _ (List.mem_of_getElem? (i := 10) rfl)
theorem qw_539 : (Cond.methodLink RX13 126 yX13_wordOf) ∈ wsL_law := WLi_33 _ (List.mem_of_getElem? (i := 11) rfl)
theorem qw_540 : (Cond.static yX13_wordOf) ∈ wsL_law := WLi_33 _ (List.mem_of_getElem? (i := 12) rfl)
theorem qw_541 : (Cond.code yX13_wordOf cX13_wordOf 4 (some .long)) ∈ wsL_law := WLi_33 _ (List.mem_of_getElem? (i := 13) rfl)
theorem qw_542 : (Cond.methodLink RX13 79 yJ0_length_8abf5) ∈ wsL_law := WLi_33 _ (List.mem_of_getElem? (i := 14) rfl)
theorem qw_543 : (Cond.methodLink RX13 87 yJ0_charAt_5068e) ∈ wsL_law := WLi_33 _ (List.mem_of_getElem? (i := 15) rfl)
theorem qw_544 : (Cond.methodLink RX13 232 yX13_readLand) ∈ wsL_law := WLi_34 _ (List.mem_of_getElem? (i := 0) rfl)
theorem qw_545 : (Cond.instanceMethod yX13_readLand) ∈ wsL_law := WLi_34 _ (List.mem_of_getElem? (i := 1) rfl)
theorem qw_546 : (Cond.selects RX13 yX13_readLand yX13_readLand) ∈ wsL_law := WLi_34 _ (List.mem_of_getElem? (i := 2) rfl)
theorem qw_547 : (Cond.code yX13_readLand cX13_readLand 5 none) ∈ wsL_law := WLi_34 _ (List.mem_of_getElem? (i := 3) rfl)
theorem qw_548 : (Cond.methodLink RX13 137 yX13_flaw) ∈ wsL_law := WLi_34 _ (List.mem_of_getElem? (i := 4) rfl)
theorem qw_549 : (Cond.instanceMethod yX13_flaw) ∈ wsL_law := WLi_34 _ (List.mem_of_getElem? (i := 5) rfl)
theorem qw_550 : (Cond.selects RX13 yX13_flaw yX13_flaw) ∈ wsL_law := WLi_34 _ (List.mem_of_getElem? (i := 6) rfl)
theorem qw_551 : (Cond.code yX13_flaw cX13_flaw 2 none) ∈ wsL_law := WLi_34 _ (List.mem_of_getElem? (i := 7) rfl)
theorem qw_552 : (Cond.methodLink RX13 264 yX13_readPart) ∈ wsL_law := WLi_34 _ (List.mem_of_getElem? (i := 8) rfl)
theorem qw_553 : (Cond.instanceMethod yX13_readPart) ∈ wsL_law := WLi_34 _ (List.mem_of_getElem? (i := 9) rfl)
theorem qw_554 : (Cond.selects RX13 yX13_readPart yX13_readPart) ∈ wsL_law := WLi_34 _ (List.mem_of_getElem? (i := 10) rfl)
theorem qw_555 : (Cond.code yX13_readPart cX13_readPart 4 (some .int)) ∈ wsL_law := WLi_34 _ (List.mem_of_getElem? (i := 11) rfl)
theorem qw_556 : (Cond.methodLink RX13 149 yX13_needs) ∈ wsL_law := WLi_34 _ (List.mem_of_getElem? (i := 12) rfl)
theorem qw_557 : (Cond.instanceMethod yX13_needs) ∈ wsL_law := WLi_34 _ (List.mem_of_getElem? (i := 13) rfl)
theorem qw_558 : (Cond.selects RX13 yX13_needs yX13_needs) ∈ wsL_law := WLi_34 _ (List.mem_of_getElem? (i := 14) rfl)
theorem qw_559 : (Cond.code yX13_needs cX13_needs 2 none) ∈ wsL_law := WLi_34 _ (List.mem_of_getElem? (i := 15) rfl)
theorem qw_560 : (Cond.methodLink RX13 153 yX13_readWhole) ∈ wsL_law := WLi_35 _ (List.mem_of_getElem? (i := 0) rfl)
theorem qw_561 : (Cond.instanceMethod yX13_readWhole) ∈ wsL_law := WLi_35 _ (List.mem_of_getElem? (i := 1) rfl)
theorem qw_562 : (Cond.selects RX13 yX13_readWhole yX13_readWhole) ∈ wsL_law := WLi_35 _ (List.mem_of_getElem? (i := 2) rfl)
theorem qw_563 : (Cond.code yX13_readWhole cX13_readWhole 4 (some .int)) ∈ wsL_law := WLi_35 _ (List.mem_of_getElem? (i := 3) rfl)
theorem qw_564 : (Cond.methodLink RX13 145 yX13_bounded) ∈ wsL_law := WLi_35 _ (List.mem_of_getElem? (i := 4) rfl)
theorem qw_565 : (Cond.instanceMethod yX13_bounded) ∈ wsL_law := WLi_35 _ (List.mem_of_getElem? (i := 5) rfl)
theorem qw_566 : (Cond.selects RX13 yX13_bounded yX13_bounded) ∈ wsL_law := WLi_35 _ (List.mem_of_getElem? (i := 6) rfl)
theorem qw_567 : (Cond.code yX13_bounded cX13_bounded 3 (some .int)) ∈ wsL_law := WLi_35 _ (List.mem_of_getElem? (i := 7) rfl)
theorem qw_568 : (Cond.methodLink RX13 141 yX13_within) ∈ wsL_law := WLi_35 _ (List.mem_of_getElem? (i := 8) rfl)
theorem qw_569 : (Cond.static yX13_within) ∈ wsL_law := WLi_35 _ (List.mem_of_getElem? (i := 9) rfl)
theorem qw_570 : (Cond.code yX13_within cX13_within 3 (some .boolean)) ∈ wsL_law := WLi_35 _ (List.mem_of_getElem? (i := 10) rfl)
theorem qw_571 : (Cond.methodLink RX13 235 yX13_readYears) ∈ wsL_law := WLi_35 _ (List.mem_of_getElem? (i := 11) rfl)
theorem qw_572 : (Cond.instanceMethod yX13_readYears) ∈ wsL_law := WLi_35 _ (List.mem_of_getElem? (i := 12) rfl)
theorem qw_573 : (Cond.selects RX13 yX13_readYears yX13_readYears) ∈ wsL_law := WLi_35 _ (List.mem_of_getElem? (i := 13) rfl)
theorem qw_574 : (Cond.code yX13_readYears cX13_readYears 5 none) ∈ wsL_law := WLi_35 _ (List.mem_of_getElem? (i := 14) rfl)
theorem qw_575 : (Cond.methodLink RX13 286 yX13_begins) ∈ wsL_law := WLi_35 _ (List.mem_of_getElem? (i := 15) rfl)
theorem qw_576 : (Cond.instanceMethod yX13_begins) ∈ wsL_law := WLi_36 _ (List.mem_of_getElem? (i := 0) rfl)
theorem qw_577 : (Cond.selects RX13 yX13_begins yX13_begins) ∈ wsL_law := WLi_36 _ (List.mem_of_getElem? (i := 1) rfl)
theorem qw_578 : (Cond.code yX13_begins cX13_begins 3 none) ∈ wsL_law := WLi_36 _ (List.mem_of_getElem? (i := 2) rfl)
theorem qw_579 : (Cond.methodLink RX13 238 yX13_readWater) ∈ wsL_law := WLi_36 _ (List.mem_of_getElem? (i := 3) rfl)
theorem qw_580 : (Cond.instanceMethod yX13_readWater) ∈ wsL_law := WLi_36 _ (List.mem_of_getElem? (i := 4) rfl)
theorem qw_581 : (Cond.selects RX13 yX13_readWater yX13_readWater) ∈ wsL_law := WLi_36 _ (List.mem_of_getElem? (i := 5) rfl)
theorem qw_582 : (Cond.code yX13_readWater cX13_readWater 2 none) ∈ wsL_law := WLi_36 _ (List.mem_of_getElem? (i := 6) rfl)
theorem qw_583 : (Cond.methodLink RX13 305 yX13_knownCell) ∈ wsL_law := WLi_36 _ (List.mem_of_getElem? (i := 7) rfl)
theorem qw_584 : (Cond.instanceMethod yX13_knownCell) ∈ wsL_law := WLi_36 _ (List.mem_of_getElem? (i := 8) rfl)
theorem qw_585 : (Cond.selects RX13 yX13_knownCell yX13_knownCell) ∈ wsL_law := WLi_36 _ (List.mem_of_getElem? (i := 9) rfl)
theorem qw_586 : (Cond.code yX13_knownCell cX13_knownCell 2 (some .int)) ∈ wsL_law := WLi_36 _ (List.mem_of_getElem? (i := 10) rfl)
theorem qw_587 : (Cond.methodLink RX13 165 yX13_needsSign) ∈ wsL_law := WLi_36 _ (List.mem_of_getElem? (i := 11) rfl)
theorem qw_588 : (Cond.instanceMethod yX13_needsSign) ∈ wsL_law := WLi_36 _ (List.mem_of_getElem? (i := 12) rfl)
theorem qw_589 : (Cond.selects RX13 yX13_needsSign yX13_needsSign) ∈ wsL_law := WLi_36 _ (List.mem_of_getElem? (i := 13) rfl)
theorem qw_590 : (Cond.code yX13_needsSign cX13_needsSign 2 none) ∈ wsL_law := WLi_36 _ (List.mem_of_getElem? (i := 14) rfl)
theorem qw_591 : (Cond.methodLink RX13 241 yX13_readStone) ∈ wsL_law := WLi_36 _ (List.mem_of_getElem? (i := 15) rfl)
theorem qw_592 : (Cond.instanceMethod yX13_readStone) ∈ wsL_law := WLi_37 _ (List.mem_of_getElem? (i := 0) rfl)
theorem qw_593 : (Cond.selects RX13 yX13_readStone yX13_readStone) ∈ wsL_law := WLi_37 _ (List.mem_of_getElem? (i := 1) rfl)
theorem qw_594 : (Cond.code yX13_readStone cX13_readStone 9 none) ∈ wsL_law := WLi_37 _ (List.mem_of_getElem? (i := 2) rfl)
theorem qw_595 : (Cond.methodLink RX13 311 yX13_readFresh) ∈ wsL_law := WLi_37 _ (List.mem_of_getElem? (i := 3) rfl)
theorem qw_596 : (Cond.instanceMethod yX13_readFresh) ∈ wsL_law := WLi_37 _ (List.mem_of_getElem? (i := 4) rfl)
theorem qw_597 : (Cond.selects RX13 yX13_readFresh yX13_readFresh) ∈ wsL_law := WLi_37 _ (List.mem_of_getElem? (i := 5) rfl)
theorem qw_598 : (Cond.code yX13_readFresh cX13_readFresh 3 (some .long)) ∈ wsL_law := WLi_37 _ (List.mem_of_getElem? (i := 6) rfl)
theorem qw_599 : (Cond.methodLink RX13 193 yX13_isName) ∈ wsL_law := WLi_37 _ (List.mem_of_getElem? (i := 7) rfl)
theorem qw_600 : (Cond.instanceMethod yX13_isName) ∈ wsL_law := WLi_37 _ (List.mem_of_getElem? (i := 8) rfl)
theorem qw_601 : (Cond.selects RX13 yX13_isName yX13_isName) ∈ wsL_law := WLi_37 _ (List.mem_of_getElem? (i := 9) rfl)
theorem qw_602 : (Cond.code yX13_isName cX13_isName 1 (some .boolean)) ∈ wsL_law := WLi_37 _ (List.mem_of_getElem? (i := 10) rfl)
theorem qw_603 : (Cond.methodLink RX13 197 yX12_find) ∈ wsL_law := WLi_37 _ (List.mem_of_getElem? (i := 11) rfl)
theorem qw_604 : (Cond.instanceMethod yX12_find) ∈ wsL_law := WLi_37 _ (List.mem_of_getElem? (i := 12) rfl)
theorem qw_605 : (Cond.selects RX12 yX12_find yX12_find) ∈ wsL_law := WLi_37 _ (List.mem_of_getElem? (i := 13) rfl)
theorem qw_606 : (Cond.code yX12_find cX12_find 4 (some .int)) ∈ wsL_law := WLi_37 _ (List.mem_of_getElem? (i := 14) rfl)
theorem qw_607 : (Cond.fieldLink RX12 66 "YearSkinsModel$Land" "names" "I") ∈ wsL_law := WLi_37 _ (List.mem_of_getElem? (i := 15) rfl)
theorem qw_608 : (Cond.methodLink RX13 329 yX13_names) ∈ wsL_law := WLi_38 _ (List.mem_of_getElem? (i := 0) rfl)
theorem qw_609 : (Cond.instanceMethod yX13_names) ∈ wsL_law := WLi_38 _ (List.mem_of_getElem? (i := 1) rfl)
theorem qw_610 : (Cond.selects RX13 yX13_names yX13_names) ∈ wsL_law := WLi_38 _ (List.mem_of_getElem? (i := 2) rfl)
theorem qw_611 : (Cond.code yX13_names cX13_names 5 none) ∈ wsL_law := WLi_38 _ (List.mem_of_getElem? (i := 3) rfl)
theorem qw_612 : (Cond.methodLink RX13 244 yX13_readHouse) ∈ wsL_law := WLi_38 _ (List.mem_of_getElem? (i := 4) rfl)
theorem qw_613 : (Cond.instanceMethod yX13_readHouse) ∈ wsL_law := WLi_38 _ (List.mem_of_getElem? (i := 5) rfl)
theorem qw_614 : (Cond.selects RX13 yX13_readHouse yX13_readHouse) ∈ wsL_law := WLi_38 _ (List.mem_of_getElem? (i := 6) rfl)
theorem qw_615 : (Cond.code yX13_readHouse cX13_readHouse 8 none) ∈ wsL_law := WLi_38 _ (List.mem_of_getElem? (i := 7) rfl)
theorem qw_616 : (Cond.methodLink RX13 348 yX13_ownersOf) ∈ wsL_law := WLi_38 _ (List.mem_of_getElem? (i := 8) rfl)
theorem qw_617 : (Cond.static yX13_ownersOf) ∈ wsL_law := WLi_38 _ (List.mem_of_getElem? (i := 9) rfl)
theorem qw_618 : (Cond.code yX13_ownersOf cX13_ownersOf 6 (some .int)) ∈ wsL_law := WLi_38 _ (List.mem_of_getElem? (i := 10) rfl)
theorem qw_619 : (Cond.methodLink RX13 429 yX12_far) ∈ wsL_law := WLi_38 _ (List.mem_of_getElem? (i := 11) rfl)
theorem qw_620 : (Cond.instanceMethod yX12_far) ∈ wsL_law := WLi_38 _ (List.mem_of_getElem? (i := 12) rfl)
theorem qw_621 : (Cond.selects RX12 yX12_far yX12_far) ∈ wsL_law := WLi_38 _ (List.mem_of_getElem? (i := 13) rfl)
theorem qw_622 : (Cond.code yX12_far cX12_far 6 (some .int)) ∈ wsL_law := WLi_38 _ (List.mem_of_getElem? (i := 14) rfl)
theorem qw_623 : (Cond.methodLink RX12 75 yX12_x) ∈ wsL_law := WLi_38 _ (List.mem_of_getElem? (i := 15) rfl)
theorem qw_624 : (Cond.instanceMethod yX12_x) ∈ wsL_law := WLi_39 _ (List.mem_of_getElem? (i := 0) rfl)
theorem qw_625 : (Cond.selects RX12 yX12_x yX12_x) ∈ wsL_law := WLi_39 _ (List.mem_of_getElem? (i := 1) rfl)
theorem qw_626 : (Cond.code yX12_x cX12_x 2 (some .int)) ∈ wsL_law := WLi_39 _ (List.mem_of_getElem? (i := 2) rfl)
theorem qw_627 : (Cond.fieldLink RX12 69 "YearSkinsModel$Land" "wide" "I") ∈ wsL_law := WLi_39 _ (List.mem_of_getElem? (i := 3) rfl)
theorem qw_628 : (Cond.methodLink RX12 79 yX12_y) ∈ wsL_law := WLi_39 _ (List.mem_of_getElem? (i := 4) rfl)
theorem qw_629 : (Cond.instanceMethod yX12_y) ∈ wsL_law := WLi_39 _ (List.mem_of_getElem? (i := 5) rfl)
theorem qw_630 : (Cond.selects RX12 yX12_y yX12_y) ∈ wsL_law := WLi_39 _ (List.mem_of_getElem? (i := 6) rfl)
theorem qw_631 : (Cond.code yX12_y cX12_y 2 (some .int)) ∈ wsL_law := WLi_39 _ (List.mem_of_getElem? (i := 7) rfl)
theorem qw_632 : (Cond.methodLink RX13 354 yX13_readKnown) ∈ wsL_law := WLi_39 _ (List.mem_of_getElem? (i := 8) rfl)
theorem qw_633 : (Cond.instanceMethod yX13_readKnown) ∈ wsL_law := WLi_39 _ (List.mem_of_getElem? (i := 9) rfl)
theorem qw_634 : (Cond.selects RX13 yX13_readKnown yX13_readKnown) ∈ wsL_law := WLi_39 _ (List.mem_of_getElem? (i := 10) rfl)
theorem qw_635 : (Cond.code yX13_readKnown cX13_readKnown 3 (some .int)) ∈ wsL_law := WLi_39 _ (List.mem_of_getElem? (i := 11) rfl)
theorem qw_636 : (Cond.methodLink RX13 214 yX13_known) ∈ wsL_law := WLi_39 _ (List.mem_of_getElem? (i := 12) rfl)
theorem qw_637 : (Cond.instanceMethod yX13_known) ∈ wsL_law := WLi_39 _ (List.mem_of_getElem? (i := 13) rfl)
theorem qw_638 : (Cond.selects RX13 yX13_known yX13_known) ∈ wsL_law := WLi_39 _ (List.mem_of_getElem? (i := 14) rfl)
theorem qw_639 : (Cond.code yX13_known cX13_known 3 (some .int)) ∈ wsL_law := WLi_39 _ (List.mem_of_getElem? (i := 15) rfl)
theorem qw_640 : (Cond.methodLink RX13 247 yX13_readSkin) ∈ wsL_law := WLi_40 _ (List.mem_of_getElem? (i := 0) rfl)
theorem qw_641 : (Cond.instanceMethod yX13_readSkin) ∈ wsL_law := WLi_40 _ (List.mem_of_getElem? (i := 1) rfl)
theorem qw_642 : (Cond.selects RX13 yX13_readSkin yX13_readSkin) ∈ wsL_law := WLi_40 _ (List.mem_of_getElem? (i := 2) rfl)
theorem qw_643 : (Cond.code yX13_readSkin cX13_readSkin 6 none) ∈ wsL_law := WLi_40 _ (List.mem_of_getElem? (i := 3) rfl)
theorem qw_644 : (Cond.methodLink RX13 375 yX13_fitsIn) ∈ wsL_law := WLi_40 _ (List.mem_of_getElem? (i := 4) rfl)
theorem qw_645 : (Cond.static yX13_fitsIn) ∈ wsL_law := WLi_40 _ (List.mem_of_getElem? (i := 5) rfl)
theorem qw_646 : (Cond.code yX13_fitsIn cX13_fitsIn 7 (some .boolean)) ∈ wsL_law := WLi_40 _ (List.mem_of_getElem? (i := 6) rfl)
theorem qw_647 : (Cond.methodLink RX13 431 yX12_y) ∈ wsL_law := WLi_40 _ (List.mem_of_getElem? (i := 7) rfl)
theorem qw_648 : (Cond.methodLink RX13 434 yX12_x) ∈ wsL_law := WLi_40 _ (List.mem_of_getElem? (i := 8) rfl)
theorem qw_649 : (Cond.methodLink RX13 437 yX12_isLand) ∈ wsL_law := WLi_40 _ (List.mem_of_getElem? (i := 9) rfl)
theorem qw_650 : (Cond.instanceMethod yX12_isLand) ∈ wsL_law := WLi_40 _ (List.mem_of_getElem? (i := 10) rfl)
theorem qw_651 : (Cond.selects RX12 yX12_isLand yX12_isLand) ∈ wsL_law := WLi_40 _ (List.mem_of_getElem? (i := 11) rfl)
theorem qw_652 : (Cond.code yX12_isLand cX12_isLand 3 (some .boolean)) ∈ wsL_law := WLi_40 _ (List.mem_of_getElem? (i := 12) rfl)
theorem qw_653 : (Cond.fieldLink RX12 72 "YearSkinsModel$Land" "high" "I") ∈ wsL_law := WLi_40 _ (List.mem_of_getElem? (i := 13) rfl)
theorem qw_654 : (Cond.methodLink RX13 379 yX13_readSide) ∈ wsL_law := WLi_40 _ (List.mem_of_getElem? (i := 14) rfl)
theorem qw_655 : (Cond.instanceMethod yX13_readSide) ∈ wsL_law := WLi_40 _ (List.mem_of_getElem? (i := 15) rfl)
theorem qw_656 : (Cond.selects RX13 yX13_readSide yX13_readSide) ∈ wsL_law := WLi_41 _ (List.mem_of_getElem? (i := 0) rfl)
theorem qw_657 : (Cond.code yX13_readSide cX13_readSide 2 (some .int)) ∈ wsL_law := WLi_41 _ (List.mem_of_getElem? (i := 1) rfl)
theorem qw_658 : (Cond.methodLink RX13 384 yX13_adds) ∈ wsL_law := WLi_41 _ (List.mem_of_getElem? (i := 2) rfl)
theorem qw_659 : (Cond.static yX13_adds) ∈ wsL_law := WLi_41 _ (List.mem_of_getElem? (i := 3) rfl)
theorem qw_660 : (Cond.code yX13_adds cX13_adds 8 none) ∈ wsL_law := WLi_41 _ (List.mem_of_getElem? (i := 4) rfl)
theorem qw_661 : (Cond.methodLink RX13 425 yX13_part) ∈ wsL_law := WLi_41 _ (List.mem_of_getElem? (i := 5) rfl)
theorem qw_662 : (Cond.static yX13_part) ∈ wsL_law := WLi_41 _ (List.mem_of_getElem? (i := 6) rfl)
theorem qw_663 : (Cond.code yX13_part cX13_part 3 (some .int)) ∈ wsL_law := WLi_41 _ (List.mem_of_getElem? (i := 7) rfl)
theorem qw_664 : (Cond.methodLink RX13 250 yX13_readHeir) ∈ wsL_law := WLi_41 _ (List.mem_of_getElem? (i := 8) rfl)
theorem qw_665 : (Cond.instanceMethod yX13_readHeir) ∈ wsL_law := WLi_41 _ (List.mem_of_getElem? (i := 9) rfl)
theorem qw_666 : (Cond.selects RX13 yX13_readHeir yX13_readHeir) ∈ wsL_law := WLi_41 _ (List.mem_of_getElem? (i := 10) rfl)
theorem qw_667 : (Cond.code yX13_readHeir cX13_readHeir 5 none) ∈ wsL_law := WLi_41 _ (List.mem_of_getElem? (i := 11) rfl)
theorem qw_668 : (Cond.methodLink RX13 253 yX13_readWall) ∈ wsL_law := WLi_41 _ (List.mem_of_getElem? (i := 12) rfl)
theorem qw_669 : (Cond.instanceMethod yX13_readWall) ∈ wsL_law := WLi_41 _ (List.mem_of_getElem? (i := 13) rfl)
theorem qw_670 : (Cond.selects RX13 yX13_readWall yX13_readWall) ∈ wsL_law := WLi_41 _ (List.mem_of_getElem? (i := 14) rfl)
theorem qw_671 : (Cond.code yX13_readWall cX13_readWall 3 none) ∈ wsL_law := WLi_41 _ (List.mem_of_getElem? (i := 15) rfl)
theorem qw_672 : (Cond.methodLink RX13 256 yX13_readOlder) ∈ wsL_law := WLi_42 _ (List.mem_of_getElem? (i := 0) rfl)
theorem qw_673 : (Cond.instanceMethod yX13_readOlder) ∈ wsL_law := WLi_42 _ (List.mem_of_getElem? (i := 1) rfl)
theorem qw_674 : (Cond.selects RX13 yX13_readOlder yX13_readOlder) ∈ wsL_law := WLi_42 _ (List.mem_of_getElem? (i := 2) rfl)
theorem qw_675 : (Cond.code yX13_readOlder cX13_readOlder 3 none) ∈ wsL_law := WLi_42 _ (List.mem_of_getElem? (i := 3) rfl)
theorem qw_676 : (Cond.methodLink RX13 406 yX13_bit) ∈ wsL_law := WLi_42 _ (List.mem_of_getElem? (i := 4) rfl)
theorem qw_677 : (Cond.static yX13_bit) ∈ wsL_law := WLi_42 _ (List.mem_of_getElem? (i := 5) rfl)
theorem qw_678 : (Cond.code yX13_bit cX13_bit 2 (some .boolean)) ∈ wsL_law := WLi_42 _ (List.mem_of_getElem? (i := 6) rfl)
theorem qw_679 : (Cond.methodLink RX13 259 yX13_readSign) ∈ wsL_law := WLi_42 _ (List.mem_of_getElem? (i := 7) rfl)
theorem qw_680 : (Cond.instanceMethod yX13_readSign) ∈ wsL_law := WLi_42 _ (List.mem_of_getElem? (i := 8) rfl)
theorem qw_681 : (Cond.selects RX13 yX13_readSign yX13_readSign) ∈ wsL_law := WLi_42 _ (List.mem_of_getElem? (i := 9) rfl)
theorem qw_682 : (Cond.code yX13_readSign cX13_readSign 4 none) ∈ wsL_law := WLi_42 _ (List.mem_of_getElem? (i := 10) rfl)
theorem qw_683 : (Cond.methodLink RX13 220 yX13_eatsSign) ∈ wsL_law := WLi_42 _ (List.mem_of_getElem? (i := 11) rfl)
theorem qw_684 : (Cond.instanceMethod yX13_eatsSign) ∈ wsL_law := WLi_42 _ (List.mem_of_getElem? (i := 12) rfl)
theorem qw_685 : (Cond.selects RX13 yX13_eatsSign yX13_eatsSign) ∈ wsL_law := WLi_42 _ (List.mem_of_getElem? (i := 13) rfl)
theorem qw_686 : (Cond.code yX13_eatsSign cX13_eatsSign 3 (some .boolean)) ∈ wsL_law := WLi_42 _ (List.mem_of_getElem? (i := 14) rfl)
theorem qw_687 : (Cond.methodLink RX13 73 yX13_good) ∈ wsL_law := WLi_42 _ (List.mem_of_getElem? (i := 15) rfl)
theorem qw_688 : (Cond.instanceMethod yX13_good) ∈ wsL_law := WLi_43 _ (List.mem_of_getElem? (i := 0) rfl)
theorem qw_689 : (Cond.selects RX13 yX13_good yX13_good) ∈ wsL_law := WLi_43 _ (List.mem_of_getElem? (i := 1) rfl)
theorem qw_690 : (Cond.code yX13_good cX13_good 2 (some .int)) ∈ wsL_law := WLi_43 _ (List.mem_of_getElem? (i := 2) rfl)
theorem qw_691 : (Cond.methodLink RL 28 yX11_fault) ∈ wsL_law := WLi_43 _ (List.mem_of_getElem? (i := 3) rfl)
theorem qw_692 : (Cond.instanceMethod yX11_fault) ∈ wsL_law := WLi_43 _ (List.mem_of_getElem? (i := 4) rfl)
theorem qw_693 : (Cond.selects RX11 yX11_fault yX11_fault) ∈ wsL_law := WLi_43 _ (List.mem_of_getElem? (i := 5) rfl)
theorem qw_694 : (Cond.code yX11_fault cX11_fault 1 (some .int)) ∈ wsL_law := WLi_43 _ (List.mem_of_getElem? (i := 6) rfl)
theorem qw_695 : (Cond.methodLink RL 32 yX13_fault) ∈ wsL_law := WLi_43 _ (List.mem_of_getElem? (i := 7) rfl)
theorem qw_696 : (Cond.instanceMethod yX13_fault) ∈ wsL_law := WLi_43 _ (List.mem_of_getElem? (i := 8) rfl)
theorem qw_697 : (Cond.selects RX13 yX13_fault yX13_fault) ∈ wsL_law := WLi_43 _ (List.mem_of_getElem? (i := 9) rfl)
theorem qw_698 : (Cond.code yX13_fault cX13_fault 1 (some .int)) ∈ wsL_law := WLi_43 _ (List.mem_of_getElem? (i := 10) rfl)
theorem qw_699 : (Cond.methodLink RL 33 yX11_where) ∈ wsL_law := WLi_43 _ (List.mem_of_getElem? (i := 11) rfl)
theorem qw_700 : (Cond.instanceMethod yX11_where) ∈ wsL_law := WLi_43 _ (List.mem_of_getElem? (i := 12) rfl)
theorem qw_701 : (Cond.selects RX11 yX11_where yX11_where) ∈ wsL_law := WLi_43 _ (List.mem_of_getElem? (i := 13) rfl)
theorem qw_702 : (Cond.code yX11_where cX11_where 1 (some .int)) ∈ wsL_law := WLi_43 _ (List.mem_of_getElem? (i := 14) rfl)
theorem qw_703 : (Cond.methodLink RL 36 yX13_where) ∈ wsL_law := WLi_43 _ (List.mem_of_getElem? (i := 15) rfl)
theorem qw_704 : (Cond.instanceMethod yX13_where) ∈ wsL_law := WLi_44 _ (List.mem_of_getElem? (i := 0) rfl)
theorem qw_705 : (Cond.selects RX13 yX13_where yX13_where) ∈ wsL_law := WLi_44 _ (List.mem_of_getElem? (i := 1) rfl)
theorem qw_706 : (Cond.code yX13_where cX13_where 1 (some .int)) ∈ wsL_law := WLi_44 _ (List.mem_of_getElem? (i := 2) rfl)
theorem qw_707 : (Cond.methodLink RL 37 yX11_whose) ∈ wsL_law := WLi_44 _ (List.mem_of_getElem? (i := 3) rfl)
theorem qw_708 : (Cond.instanceMethod yX11_whose) ∈ wsL_law := WLi_44 _ (List.mem_of_getElem? (i := 4) rfl)
theorem qw_709 : (Cond.selects RX11 yX11_whose yX11_whose) ∈ wsL_law := WLi_44 _ (List.mem_of_getElem? (i := 5) rfl)
theorem qw_710 : (Cond.code yX11_whose cX11_whose 3 (some .int)) ∈ wsL_law := WLi_44 _ (List.mem_of_getElem? (i := 6) rfl)
theorem qw_711 : (Cond.methodLink RX11 119 yX1_isOn) ∈ wsL_law := WLi_44 _ (List.mem_of_getElem? (i := 7) rfl)
theorem qw_712 : (Cond.methodLink RX11 123 yX6_ownersOf) ∈ wsL_law := WLi_44 _ (List.mem_of_getElem? (i := 8) rfl)
theorem qw_713 : (Cond.static yX6_ownersOf) ∈ wsL_law := WLi_44 _ (List.mem_of_getElem? (i := 9) rfl)
theorem qw_714 : (Cond.code yX6_ownersOf cX6_ownersOf 6 (some .int)) ∈ wsL_law := WLi_44 _ (List.mem_of_getElem? (i := 10) rfl)
theorem qw_715 : (Cond.methodLink RL 41 yX13_whose) ∈ wsL_law := WLi_44 _ (List.mem_of_getElem? (i := 11) rfl)
theorem qw_716 : (Cond.instanceMethod yX13_whose) ∈ wsL_law := WLi_44 _ (List.mem_of_getElem? (i := 12) rfl)
theorem qw_717 : (Cond.selects RX13 yX13_whose yX13_whose) ∈ wsL_law := WLi_44 _ (List.mem_of_getElem? (i := 13) rfl)
theorem qw_718 : (Cond.code yX13_whose cX13_whose 3 (some .int)) ∈ wsL_law := WLi_44 _ (List.mem_of_getElem? (i := 14) rfl)
theorem qw_719 : (Cond.methodLink RX13 521 yX13_isCell) ∈ wsL_law := WLi_44 _ (List.mem_of_getElem? (i := 15) rfl)
theorem qw_720 : (Cond.instanceMethod yX13_isCell) ∈ wsL_law := WLi_45 _ (List.mem_of_getElem? (i := 0) rfl)
theorem qw_721 : (Cond.selects RX13 yX13_isCell yX13_isCell) ∈ wsL_law := WLi_45 _ (List.mem_of_getElem? (i := 1) rfl)
theorem qw_722 : (Cond.code yX13_isCell cX13_isCell 3 (some .boolean)) ∈ wsL_law := WLi_45 _ (List.mem_of_getElem? (i := 2) rfl)
theorem qw_723 : (Cond.methodLink RL 42 yX11_shared) ∈ wsL_law := WLi_45 _ (List.mem_of_getElem? (i := 3) rfl)
theorem qw_724 : (Cond.instanceMethod yX11_shared) ∈ wsL_law := WLi_45 _ (List.mem_of_getElem? (i := 4) rfl)
theorem qw_725 : (Cond.selects RX11 yX11_shared yX11_shared) ∈ wsL_law := WLi_45 _ (List.mem_of_getElem? (i := 5) rfl)
theorem qw_726 : (Cond.code yX11_shared cX11_shared 4 (some .int)) ∈ wsL_law := WLi_45 _ (List.mem_of_getElem? (i := 6) rfl)
theorem qw_727 : (Cond.fieldLink RX11 129 "YearSkins$Land" "high" "I") ∈ wsL_law := WLi_45 _ (List.mem_of_getElem? (i := 7) rfl)
theorem qw_728 : (Cond.fieldLink RX11 132 "YearSkins$Land" "wide" "I") ∈ wsL_law := WLi_45 _ (List.mem_of_getElem? (i := 8) rfl)
theorem qw_729 : (Cond.methodLink RX11 135 yJ6_bitCount_0f7a4) ∈ wsL_law := WLi_45 _ (List.mem_of_getElem? (i := 9) rfl)
theorem qw_730 : (Cond.static yJ6_bitCount_0f7a4) ∈ wsL_law := WLi_45 _ (List.mem_of_getElem? (i := 10) rfl)
theorem qw_731 : (Cond.initialized RJ6) ∈ wsL_law := WLi_45 _ (List.mem_of_getElem? (i := 11) rfl)
theorem qw_732 : (Cond.code yJ6_bitCount_0f7a4 cJ6_bitCount_0f7a4 1 (some .int)) ∈ wsL_law := WLi_45 _ (List.mem_of_getElem? (i := 12) rfl)
theorem qw_733 : (Cond.constant RJ6 265 (1431655765)) ∈ wsL_law := WLi_45 _ (List.mem_of_getElem? (i := 13) rfl)
theorem qw_734 : (Cond.constant RJ6 266 (858993459)) ∈ wsL_law := WLi_45 _ (List.mem_of_getElem? (i := 14) rfl)
theorem qw_735 : (Cond.constant RJ6 267 (252645135)) ∈ wsL_law := WLi_45 _ (List.mem_of_getElem? (i := 15) rfl)
theorem qw_736 : (Cond.methodLink RL 45 yX13_shared) ∈ wsL_law := WLi_46 _ (List.mem_of_getElem? (i := 0) rfl)
theorem qw_737 : (Cond.instanceMethod yX13_shared) ∈ wsL_law := WLi_46 _ (List.mem_of_getElem? (i := 1) rfl)
theorem qw_738 : (Cond.selects RX13 yX13_shared yX13_shared) ∈ wsL_law := WLi_46 _ (List.mem_of_getElem? (i := 2) rfl)
theorem qw_739 : (Cond.code yX13_shared cX13_shared 1 (some .int)) ∈ wsL_law := WLi_46 _ (List.mem_of_getElem? (i := 3) rfl)
theorem qw_740 : (Cond.methodLink RX13 530 yX13_owned) ∈ wsL_law := WLi_46 _ (List.mem_of_getElem? (i := 4) rfl)
theorem qw_741 : (Cond.instanceMethod yX13_owned) ∈ wsL_law := WLi_46 _ (List.mem_of_getElem? (i := 5) rfl)
theorem qw_742 : (Cond.selects RX13 yX13_owned yX13_owned) ∈ wsL_law := WLi_46 _ (List.mem_of_getElem? (i := 6) rfl)
theorem qw_743 : (Cond.code yX13_owned cX13_owned 6 (some .int)) ∈ wsL_law := WLi_46 _ (List.mem_of_getElem? (i := 7) rfl)
theorem qw_744 : (Cond.methodLink RX13 524 yX12_cells) ∈ wsL_law := WLi_46 _ (List.mem_of_getElem? (i := 8) rfl)
theorem qw_745 : (Cond.instanceMethod yX12_cells) ∈ wsL_law := WLi_46 _ (List.mem_of_getElem? (i := 9) rfl)
theorem qw_746 : (Cond.selects RX12 yX12_cells yX12_cells) ∈ wsL_law := WLi_46 _ (List.mem_of_getElem? (i := 10) rfl)
theorem qw_747 : (Cond.code yX12_cells cX12_cells 1 (some .int)) ∈ wsL_law := WLi_46 _ (List.mem_of_getElem? (i := 11) rfl)
theorem qw_748 : (Cond.methodLink RX13 527 yX13_bits) ∈ wsL_law := WLi_46 _ (List.mem_of_getElem? (i := 12) rfl)
theorem qw_749 : (Cond.static yX13_bits) ∈ wsL_law := WLi_46 _ (List.mem_of_getElem? (i := 13) rfl)
theorem qw_750 : (Cond.code yX13_bits cX13_bits 3 (some .int)) ∈ wsL_law := WLi_46 _ (List.mem_of_getElem? (i := 14) rfl)
theorem qw_751 : (Cond.methodLink RL 46 yX11_free) ∈ wsL_law := WLi_46 _ (List.mem_of_getElem? (i := 15) rfl)
theorem qw_752 : (Cond.instanceMethod yX11_free) ∈ wsL_law := WLi_47 _ (List.mem_of_getElem? (i := 0) rfl)
theorem qw_753 : (Cond.selects RX11 yX11_free yX11_free) ∈ wsL_law := WLi_47 _ (List.mem_of_getElem? (i := 1) rfl)
theorem qw_754 : (Cond.code yX11_free cX11_free 4 (some .int)) ∈ wsL_law := WLi_47 _ (List.mem_of_getElem? (i := 2) rfl)
theorem qw_755 : (Cond.methodLink RX11 140 yX6_isFree) ∈ wsL_law := WLi_47 _ (List.mem_of_getElem? (i := 3) rfl)
theorem qw_756 : (Cond.methodLink RL 49 yX13_free) ∈ wsL_law := WLi_47 _ (List.mem_of_getElem? (i := 4) rfl)
theorem qw_757 : (Cond.instanceMethod yX13_free) ∈ wsL_law := WLi_47 _ (List.mem_of_getElem? (i := 5) rfl)
theorem qw_758 : (Cond.selects RX13 yX13_free yX13_free) ∈ wsL_law := WLi_47 _ (List.mem_of_getElem? (i := 6) rfl)
theorem qw_759 : (Cond.code yX13_free cX13_free 1 (some .int)) ∈ wsL_law := WLi_47 _ (List.mem_of_getElem? (i := 7) rfl)
theorem qw_760 : (Cond.methodLink RL 50 yX11_house) ∈ wsL_law := WLi_47 _ (List.mem_of_getElem? (i := 8) rfl)
theorem qw_761 : (Cond.instanceMethod yX11_house) ∈ wsL_law := WLi_47 _ (List.mem_of_getElem? (i := 9) rfl)
theorem qw_762 : (Cond.selects RX11 yX11_house yX11_house) ∈ wsL_law := WLi_47 _ (List.mem_of_getElem? (i := 10) rfl)
theorem qw_763 : (Cond.code yX11_house cX11_house 3 (some .int)) ∈ wsL_law := WLi_47 _ (List.mem_of_getElem? (i := 11) rfl)
theorem qw_764 : (Cond.fieldLink RX11 148 "YearSkins$Land" "coreY" "[I") ∈ wsL_law := WLi_47 _ (List.mem_of_getElem? (i := 12) rfl)
theorem qw_765 : (Cond.fieldLink RX11 151 "YearSkins$Land" "coreX" "[I") ∈ wsL_law := WLi_47 _ (List.mem_of_getElem? (i := 13) rfl)
theorem qw_766 : (Cond.fieldLink RX11 154 "YearSkins$State" "counts" "[I") ∈ wsL_law := WLi_47 _ (List.mem_of_getElem? (i := 14) rfl)
theorem qw_767 : (Cond.fieldLink RX11 157 "YearSkins$State" "families" "[I") ∈ wsL_law := WLi_47 _ (List.mem_of_getElem? (i := 15) rfl)
theorem qw_768 : (Cond.fieldLink RX11 160 "YearSkins$State" "golds" "[I") ∈ wsL_law := WLi_48 _ (List.mem_of_getElem? (i := 0) rfl)
theorem qw_769 : (Cond.fieldLink RX11 163 "YearSkins$Land" "houseStone" "[I") ∈ wsL_law := WLi_48 _ (List.mem_of_getElem? (i := 1) rfl)
theorem qw_770 : (Cond.methodLink RX11 144 yX11_isHouse) ∈ wsL_law := WLi_48 _ (List.mem_of_getElem? (i := 2) rfl)
theorem qw_771 : (Cond.instanceMethod yX11_isHouse) ∈ wsL_law := WLi_48 _ (List.mem_of_getElem? (i := 3) rfl)
theorem qw_772 : (Cond.selects RX11 yX11_isHouse yX11_isHouse) ∈ wsL_law := WLi_48 _ (List.mem_of_getElem? (i := 4) rfl)
theorem qw_773 : (Cond.code yX11_isHouse cX11_isHouse 2 (some .boolean)) ∈ wsL_law := WLi_48 _ (List.mem_of_getElem? (i := 5) rfl)
theorem qw_774 : (Cond.methodLink RX11 166 yX6_isShut) ∈ wsL_law := WLi_48 _ (List.mem_of_getElem? (i := 6) rfl)
theorem qw_775 : (Cond.static yX6_isShut) ∈ wsL_law := WLi_48 _ (List.mem_of_getElem? (i := 7) rfl)
theorem qw_776 : (Cond.code yX6_isShut cX6_isShut 5 (some .boolean)) ∈ wsL_law := WLi_48 _ (List.mem_of_getElem? (i := 8) rfl)
theorem qw_777 : (Cond.methodLink RX6 86 yX7_partOf) ∈ wsL_law := WLi_48 _ (List.mem_of_getElem? (i := 9) rfl)
theorem qw_778 : (Cond.instanceMethod yX7_partOf) ∈ wsL_law := WLi_48 _ (List.mem_of_getElem? (i := 10) rfl)
theorem qw_779 : (Cond.selects RX7 yX7_partOf yX7_partOf) ∈ wsL_law := WLi_48 _ (List.mem_of_getElem? (i := 11) rfl)
theorem qw_780 : (Cond.code yX7_partOf cX7_partOf 5 (some .int)) ∈ wsL_law := WLi_48 _ (List.mem_of_getElem? (i := 12) rfl)
theorem qw_781 : (Cond.methodLink RX6 82 yX6_isFrontFree) ∈ wsL_law := WLi_48 _ (List.mem_of_getElem? (i := 13) rfl)
theorem qw_782 : (Cond.static yX6_isFrontFree) ∈ wsL_law := WLi_48 _ (List.mem_of_getElem? (i := 14) rfl)
theorem qw_783 : (Cond.code yX6_isFrontFree cX6_isFrontFree 9 (some .boolean)) ∈ wsL_law := WLi_48 _ (List.mem_of_getElem? (i := 15) rfl)
theorem qw_784 : (Cond.methodLink RX6 57 yX4_doorPlace) ∈ wsL_law := WLi_49 _ (List.mem_of_getElem? (i := 0) rfl)
theorem qw_785 : (Cond.static yX4_doorPlace) ∈ wsL_law := WLi_49 _ (List.mem_of_getElem? (i := 1) rfl)
theorem qw_786 : (Cond.code yX4_doorPlace cX4_doorPlace 3 (some .int)) ∈ wsL_law := WLi_49 _ (List.mem_of_getElem? (i := 2) rfl)
theorem qw_787 : (Cond.methodLink RX6 66 yX6_isFree) ∈ wsL_law := WLi_49 _ (List.mem_of_getElem? (i := 3) rfl)
theorem qw_788 : (Cond.methodLink RX11 170 yX7_isCrowded) ∈ wsL_law := WLi_49 _ (List.mem_of_getElem? (i := 4) rfl)
theorem qw_789 : (Cond.instanceMethod yX7_isCrowded) ∈ wsL_law := WLi_49 _ (List.mem_of_getElem? (i := 5) rfl)
theorem qw_790 : (Cond.selects RX7 yX7_isCrowded yX7_isCrowded) ∈ wsL_law := WLi_49 _ (List.mem_of_getElem? (i := 6) rfl)
theorem qw_791 : (Cond.code yX7_isCrowded cX7_isCrowded 3 (some .boolean)) ∈ wsL_law := WLi_49 _ (List.mem_of_getElem? (i := 7) rfl)
theorem qw_792 : (Cond.methodLink RL 53 yX13_house) ∈ wsL_law := WLi_49 _ (List.mem_of_getElem? (i := 8) rfl)
theorem qw_793 : (Cond.instanceMethod yX13_house) ∈ wsL_law := WLi_49 _ (List.mem_of_getElem? (i := 9) rfl)
theorem qw_794 : (Cond.selects RX13 yX13_house yX13_house) ∈ wsL_law := WLi_49 _ (List.mem_of_getElem? (i := 10) rfl)
theorem qw_795 : (Cond.code yX13_house cX13_house 3 (some .int)) ∈ wsL_law := WLi_49 _ (List.mem_of_getElem? (i := 11) rfl)
theorem qw_796 : (Cond.methodLink RX13 518 yX13_isHouse) ∈ wsL_law := WLi_49 _ (List.mem_of_getElem? (i := 12) rfl)
theorem qw_797 : (Cond.instanceMethod yX13_isHouse) ∈ wsL_law := WLi_49 _ (List.mem_of_getElem? (i := 13) rfl)
theorem qw_798 : (Cond.selects RX13 yX13_isHouse yX13_isHouse) ∈ wsL_law := WLi_49 _ (List.mem_of_getElem? (i := 14) rfl)
theorem qw_799 : (Cond.code yX13_isHouse cX13_isHouse 2 (some .boolean)) ∈ wsL_law := WLi_49 _ (List.mem_of_getElem? (i := 15) rfl)
theorem qw_800 : (Cond.methodLink RX13 534 yX13_isShut) ∈ wsL_law := WLi_50 _ (List.mem_of_getElem? (i := 0) rfl)
theorem qw_801 : (Cond.instanceMethod yX13_isShut) ∈ wsL_law := WLi_50 _ (List.mem_of_getElem? (i := 1) rfl)
theorem qw_802 : (Cond.selects RX13 yX13_isShut yX13_isShut) ∈ wsL_law := WLi_50 _ (List.mem_of_getElem? (i := 2) rfl)
theorem qw_803 : (Cond.code yX13_isShut cX13_isShut 4 (some .boolean)) ∈ wsL_law := WLi_50 _ (List.mem_of_getElem? (i := 3) rfl)
theorem qw_804 : (Cond.methodLink RX13 471 yX13_isFree) ∈ wsL_law := WLi_50 _ (List.mem_of_getElem? (i := 4) rfl)
theorem qw_805 : (Cond.static yX13_isFree) ∈ wsL_law := WLi_50 _ (List.mem_of_getElem? (i := 5) rfl)
theorem qw_806 : (Cond.code yX13_isFree cX13_isFree 8 (some .boolean)) ∈ wsL_law := WLi_50 _ (List.mem_of_getElem? (i := 6) rfl)
theorem qw_807 : (Cond.methodLink RX13 440 yX13_doorX) ∈ wsL_law := WLi_50 _ (List.mem_of_getElem? (i := 7) rfl)
theorem qw_808 : (Cond.static yX13_doorX) ∈ wsL_law := WLi_50 _ (List.mem_of_getElem? (i := 8) rfl)
theorem qw_809 : (Cond.code yX13_doorX cX13_doorX 3 (some .int)) ∈ wsL_law := WLi_50 _ (List.mem_of_getElem? (i := 9) rfl)
theorem qw_810 : (Cond.methodLink RX13 449 yX13_outX) ∈ wsL_law := WLi_50 _ (List.mem_of_getElem? (i := 10) rfl)
theorem qw_811 : (Cond.static yX13_outX) ∈ wsL_law := WLi_50 _ (List.mem_of_getElem? (i := 11) rfl)
theorem qw_812 : (Cond.code yX13_outX cX13_outX 1 (some .int)) ∈ wsL_law := WLi_50 _ (List.mem_of_getElem? (i := 12) rfl)
theorem qw_813 : (Cond.methodLink RX13 443 yX13_doorY) ∈ wsL_law := WLi_50 _ (List.mem_of_getElem? (i := 13) rfl)
theorem qw_814 : (Cond.static yX13_doorY) ∈ wsL_law := WLi_50 _ (List.mem_of_getElem? (i := 14) rfl)
theorem qw_815 : (Cond.code yX13_doorY cX13_doorY 3 (some .int)) ∈ wsL_law := WLi_50 _ (List.mem_of_getElem? (i := 15) rfl)
theorem qw_816 : (Cond.methodLink RX13 452 yX13_outY) ∈ wsL_law := WLi_51 _ (List.mem_of_getElem? (i := 0) rfl)
theorem qw_817 : (Cond.static yX13_outY) ∈ wsL_law := WLi_51 _ (List.mem_of_getElem? (i := 1) rfl)
theorem qw_818 : (Cond.code yX13_outY cX13_outY 1 (some .int)) ∈ wsL_law := WLi_51 _ (List.mem_of_getElem? (i := 2) rfl)
theorem qw_819 : (Cond.methodLink RL 54 yX11_skin) ∈ wsL_law := WLi_51 _ (List.mem_of_getElem? (i := 3) rfl)
theorem qw_820 : (Cond.instanceMethod yX11_skin) ∈ wsL_law := WLi_51 _ (List.mem_of_getElem? (i := 4) rfl)
theorem qw_821 : (Cond.selects RX11 yX11_skin yX11_skin) ∈ wsL_law := WLi_51 _ (List.mem_of_getElem? (i := 5) rfl)
theorem qw_822 : (Cond.code yX11_skin cX11_skin 4 (some .int)) ∈ wsL_law := WLi_51 _ (List.mem_of_getElem? (i := 6) rfl)
theorem qw_823 : (Cond.methodLink RX11 173 yX11_isSkin) ∈ wsL_law := WLi_51 _ (List.mem_of_getElem? (i := 7) rfl)
theorem qw_824 : (Cond.instanceMethod yX11_isSkin) ∈ wsL_law := WLi_51 _ (List.mem_of_getElem? (i := 8) rfl)
theorem qw_825 : (Cond.selects RX11 yX11_isSkin yX11_isSkin) ∈ wsL_law := WLi_51 _ (List.mem_of_getElem? (i := 9) rfl)
theorem qw_826 : (Cond.code yX11_isSkin cX11_isSkin 3 (some .boolean)) ∈ wsL_law := WLi_51 _ (List.mem_of_getElem? (i := 10) rfl)
theorem qw_827 : (Cond.methodLink RX11 180 yX11_isRoom) ∈ wsL_law := WLi_51 _ (List.mem_of_getElem? (i := 11) rfl)
theorem qw_828 : (Cond.instanceMethod yX11_isRoom) ∈ wsL_law := WLi_51 _ (List.mem_of_getElem? (i := 12) rfl)
theorem qw_829 : (Cond.selects RX11 yX11_isRoom yX11_isRoom) ∈ wsL_law := WLi_51 _ (List.mem_of_getElem? (i := 13) rfl)
theorem qw_830 : (Cond.code yX11_isRoom cX11_isRoom 3 (some .boolean)) ∈ wsL_law := WLi_51 _ (List.mem_of_getElem? (i := 14) rfl)
theorem qw_831 : (Cond.methodLink RX11 176 yX7_partOf) ∈ wsL_law := WLi_51 _ (List.mem_of_getElem? (i := 15) rfl)
theorem qw_832 : (Cond.methodLink RL 58 yX13_skin) ∈ wsL_law := WLi_52 _ (List.mem_of_getElem? (i := 0) rfl)
theorem qw_833 : (Cond.instanceMethod yX13_skin) ∈ wsL_law := WLi_52 _ (List.mem_of_getElem? (i := 1) rfl)
theorem qw_834 : (Cond.selects RX13 yX13_skin yX13_skin) ∈ wsL_law := WLi_52 _ (List.mem_of_getElem? (i := 2) rfl)
theorem qw_835 : (Cond.code yX13_skin cX13_skin 4 (some .int)) ∈ wsL_law := WLi_52 _ (List.mem_of_getElem? (i := 3) rfl)
theorem qw_836 : (Cond.methodLink RX13 537 yX13_isSkin) ∈ wsL_law := WLi_52 _ (List.mem_of_getElem? (i := 4) rfl)
theorem qw_837 : (Cond.instanceMethod yX13_isSkin) ∈ wsL_law := WLi_52 _ (List.mem_of_getElem? (i := 5) rfl)
theorem qw_838 : (Cond.selects RX13 yX13_isSkin yX13_isSkin) ∈ wsL_law := WLi_52 _ (List.mem_of_getElem? (i := 6) rfl)
theorem qw_839 : (Cond.code yX13_isSkin cX13_isSkin 3 (some .boolean)) ∈ wsL_law := WLi_52 _ (List.mem_of_getElem? (i := 7) rfl)
theorem qw_840 : (Cond.methodLink RL 59 yX11_warm) ∈ wsL_law := WLi_52 _ (List.mem_of_getElem? (i := 8) rfl)
theorem qw_841 : (Cond.instanceMethod yX11_warm) ∈ wsL_law := WLi_52 _ (List.mem_of_getElem? (i := 9) rfl)
theorem qw_842 : (Cond.selects RX11 yX11_warm yX11_warm) ∈ wsL_law := WLi_52 _ (List.mem_of_getElem? (i := 10) rfl)
theorem qw_843 : (Cond.code yX11_warm cX11_warm 3 (some .int)) ∈ wsL_law := WLi_52 _ (List.mem_of_getElem? (i := 11) rfl)
theorem qw_844 : (Cond.methodLink RX11 183 yX11_warmth) ∈ wsL_law := WLi_52 _ (List.mem_of_getElem? (i := 12) rfl)
theorem qw_845 : (Cond.instanceMethod yX11_warmth) ∈ wsL_law := WLi_52 _ (List.mem_of_getElem? (i := 13) rfl)
theorem qw_846 : (Cond.selects RX11 yX11_warmth yX11_warmth) ∈ wsL_law := WLi_52 _ (List.mem_of_getElem? (i := 14) rfl)
theorem qw_847 : (Cond.code yX11_warmth cX11_warmth 5 (some .int)) ∈ wsL_law := WLi_52 _ (List.mem_of_getElem? (i := 15) rfl)
theorem qw_848 : (Cond.methodLink RX11 187 Lib.Math.max.name) ∈ wsL_law := WLi_53 _ (List.mem_of_getElem? (i := 0) rfl)
theorem qw_849 : (Cond.static Lib.Math.max.name) ∈ wsL_law := WLi_53 _ (List.mem_of_getElem? (i := 1) rfl)
theorem qw_850 : (Cond.initialized "java/lang/Math") ∈ wsL_law := WLi_53 _ (List.mem_of_getElem? (i := 2) rfl)
theorem qw_851 : (Cond.code Lib.Math.max.name Lib.Math.max.code 2 (some .int)) ∈ wsL_law := WLi_53 _ (List.mem_of_getElem? (i := 3) rfl)
theorem qw_852 : (Cond.methodLink RX11 192 yX7_stands) ∈ wsL_law := WLi_53 _ (List.mem_of_getElem? (i := 4) rfl)
theorem qw_853 : (Cond.instanceMethod yX7_stands) ∈ wsL_law := WLi_53 _ (List.mem_of_getElem? (i := 5) rfl)
theorem qw_854 : (Cond.selects RX7 yX7_stands yX7_stands) ∈ wsL_law := WLi_53 _ (List.mem_of_getElem? (i := 6) rfl)
theorem qw_855 : (Cond.code yX7_stands cX7_stands 3 (some .boolean)) ∈ wsL_law := WLi_53 _ (List.mem_of_getElem? (i := 7) rfl)
theorem qw_856 : (Cond.methodLink RX7 44 yX7_partOf) ∈ wsL_law := WLi_53 _ (List.mem_of_getElem? (i := 8) rfl)
theorem qw_857 : (Cond.methodLink RX11 195 yX1_stonePart) ∈ wsL_law := WLi_53 _ (List.mem_of_getElem? (i := 9) rfl)
theorem qw_858 : (Cond.instanceMethod yX1_stonePart) ∈ wsL_law := WLi_53 _ (List.mem_of_getElem? (i := 10) rfl)
theorem qw_859 : (Cond.selects RX1 yX1_stonePart yX1_stonePart) ∈ wsL_law := WLi_53 _ (List.mem_of_getElem? (i := 11) rfl)
theorem qw_860 : (Cond.code yX1_stonePart cX1_stonePart 4 (some .int)) ∈ wsL_law := WLi_53 _ (List.mem_of_getElem? (i := 12) rfl)
theorem qw_861 : (Cond.methodLink RL 62 yX13_warm) ∈ wsL_law := WLi_53 _ (List.mem_of_getElem? (i := 13) rfl)
theorem qw_862 : (Cond.instanceMethod yX13_warm) ∈ wsL_law := WLi_53 _ (List.mem_of_getElem? (i := 14) rfl)
theorem qw_863 : (Cond.selects RX13 yX13_warm yX13_warm) ∈ wsL_law := WLi_53 _ (List.mem_of_getElem? (i := 15) rfl)
theorem qw_864 : (Cond.code yX13_warm cX13_warm 3 (some .int)) ∈ wsL_law := WLi_54 _ (List.mem_of_getElem? (i := 0) rfl)
theorem qw_865 : (Cond.methodLink RX13 540 yX13_isDepth) ∈ wsL_law := WLi_54 _ (List.mem_of_getElem? (i := 1) rfl)
theorem qw_866 : (Cond.instanceMethod yX13_isDepth) ∈ wsL_law := WLi_54 _ (List.mem_of_getElem? (i := 2) rfl)
theorem qw_867 : (Cond.selects RX13 yX13_isDepth yX13_isDepth) ∈ wsL_law := WLi_54 _ (List.mem_of_getElem? (i := 3) rfl)
theorem qw_868 : (Cond.code yX13_isDepth cX13_isDepth 3 (some .boolean)) ∈ wsL_law := WLi_54 _ (List.mem_of_getElem? (i := 4) rfl)
theorem qw_869 : (Cond.methodLink RX13 543 yX13_warmth) ∈ wsL_law := WLi_54 _ (List.mem_of_getElem? (i := 5) rfl)
theorem qw_870 : (Cond.instanceMethod yX13_warmth) ∈ wsL_law := WLi_54 _ (List.mem_of_getElem? (i := 6) rfl)
theorem qw_871 : (Cond.selects RX13 yX13_warmth yX13_warmth) ∈ wsL_law := WLi_54 _ (List.mem_of_getElem? (i := 7) rfl)
theorem qw_872 : (Cond.code yX13_warmth cX13_warmth 5 (some .int)) ∈ wsL_law := WLi_54 _ (List.mem_of_getElem? (i := 8) rfl)
theorem qw_873 : (Cond.methodLink RL 63 yX11_light) ∈ wsL_law := WLi_54 _ (List.mem_of_getElem? (i := 9) rfl)
theorem qw_874 : (Cond.instanceMethod yX11_light) ∈ wsL_law := WLi_54 _ (List.mem_of_getElem? (i := 10) rfl)
theorem qw_875 : (Cond.selects RX11 yX11_light yX11_light) ∈ wsL_law := WLi_54 _ (List.mem_of_getElem? (i := 11) rfl)
theorem qw_876 : (Cond.code yX11_light cX11_light 3 (some .int)) ∈ wsL_law := WLi_54 _ (List.mem_of_getElem? (i := 12) rfl)
theorem qw_877 : (Cond.methodLink RL 66 yX13_light) ∈ wsL_law := WLi_54 _ (List.mem_of_getElem? (i := 13) rfl)
theorem qw_878 : (Cond.instanceMethod yX13_light) ∈ wsL_law := WLi_54 _ (List.mem_of_getElem? (i := 14) rfl)
theorem qw_879 : (Cond.selects RX13 yX13_light yX13_light) ∈ wsL_law := WLi_54 _ (List.mem_of_getElem? (i := 15) rfl)
theorem qw_880 : (Cond.code yX13_light cX13_light 4 (some .int)) ∈ wsL_law := WLi_55 _ (List.mem_of_getElem? (i := 0) rfl)
theorem qw_881 : (Cond.methodLink RL 67 yX11_heir) ∈ wsL_law := WLi_55 _ (List.mem_of_getElem? (i := 1) rfl)
theorem qw_882 : (Cond.instanceMethod yX11_heir) ∈ wsL_law := WLi_55 _ (List.mem_of_getElem? (i := 2) rfl)
theorem qw_883 : (Cond.selects RX11 yX11_heir yX11_heir) ∈ wsL_law := WLi_55 _ (List.mem_of_getElem? (i := 3) rfl)
theorem qw_884 : (Cond.code yX11_heir cX11_heir 3 (some .int)) ∈ wsL_law := WLi_55 _ (List.mem_of_getElem? (i := 4) rfl)
theorem qw_885 : (Cond.fieldLink RX11 201 "YearSkins$Land" "heirHouse" "[I") ∈ wsL_law := WLi_55 _ (List.mem_of_getElem? (i := 5) rfl)
theorem qw_886 : (Cond.fieldLink RX11 204 "YearSkins$State" "rooms" "[I") ∈ wsL_law := WLi_55 _ (List.mem_of_getElem? (i := 6) rfl)
theorem qw_887 : (Cond.methodLink RX11 198 yX11_isHeir) ∈ wsL_law := WLi_55 _ (List.mem_of_getElem? (i := 7) rfl)
theorem qw_888 : (Cond.instanceMethod yX11_isHeir) ∈ wsL_law := WLi_55 _ (List.mem_of_getElem? (i := 8) rfl)
theorem qw_889 : (Cond.selects RX11 yX11_isHeir yX11_isHeir) ∈ wsL_law := WLi_55 _ (List.mem_of_getElem? (i := 9) rfl)
theorem qw_890 : (Cond.code yX11_isHeir cX11_isHeir 2 (some .boolean)) ∈ wsL_law := WLi_55 _ (List.mem_of_getElem? (i := 10) rfl)
theorem qw_891 : (Cond.fieldLink RX11 356 "YearSkins$Land" "heirs" "I") ∈ wsL_law := WLi_55 _ (List.mem_of_getElem? (i := 11) rfl)
theorem qw_892 : (Cond.methodLink RL 70 yX13_heir) ∈ wsL_law := WLi_55 _ (List.mem_of_getElem? (i := 12) rfl)
theorem qw_893 : (Cond.instanceMethod yX13_heir) ∈ wsL_law := WLi_55 _ (List.mem_of_getElem? (i := 13) rfl)
theorem qw_894 : (Cond.selects RX13 yX13_heir yX13_heir) ∈ wsL_law := WLi_55 _ (List.mem_of_getElem? (i := 14) rfl)
theorem qw_895 : (Cond.code yX13_heir cX13_heir 3 (some .int)) ∈ wsL_law := WLi_55 _ (List.mem_of_getElem? (i := 15) rfl)
theorem qw_896 : (Cond.methodLink RX13 546 yX13_isHeir) ∈ wsL_law := WLi_56 _ (List.mem_of_getElem? (i := 0) rfl)
theorem qw_897 : (Cond.instanceMethod yX13_isHeir) ∈ wsL_law := WLi_56 _ (List.mem_of_getElem? (i := 1) rfl)
theorem qw_898 : (Cond.selects RX13 yX13_isHeir yX13_isHeir) ∈ wsL_law := WLi_56 _ (List.mem_of_getElem? (i := 2) rfl)
theorem qw_899 : (Cond.code yX13_isHeir cX13_isHeir 2 (some .boolean)) ∈ wsL_law := WLi_56 _ (List.mem_of_getElem? (i := 3) rfl)
theorem qw_900 : (Cond.methodLink RL 71 yX11_fits) ∈ wsL_law := WLi_56 _ (List.mem_of_getElem? (i := 4) rfl)
theorem qw_901 : (Cond.instanceMethod yX11_fits) ∈ wsL_law := WLi_56 _ (List.mem_of_getElem? (i := 5) rfl)
theorem qw_902 : (Cond.selects RX11 yX11_fits yX11_fits) ∈ wsL_law := WLi_56 _ (List.mem_of_getElem? (i := 6) rfl)
theorem qw_903 : (Cond.code yX11_fits cX11_fits 2 (some .int)) ∈ wsL_law := WLi_56 _ (List.mem_of_getElem? (i := 7) rfl)
theorem qw_904 : (Cond.methodLink RX11 207 yX6_isFit) ∈ wsL_law := WLi_56 _ (List.mem_of_getElem? (i := 8) rfl)
theorem qw_905 : (Cond.methodLink RL 74 yX13_fits) ∈ wsL_law := WLi_56 _ (List.mem_of_getElem? (i := 9) rfl)
theorem qw_906 : (Cond.instanceMethod yX13_fits) ∈ wsL_law := WLi_56 _ (List.mem_of_getElem? (i := 10) rfl)
theorem qw_907 : (Cond.selects RX13 yX13_fits yX13_fits) ∈ wsL_law := WLi_56 _ (List.mem_of_getElem? (i := 11) rfl)
theorem qw_908 : (Cond.code yX13_fits cX13_fits 2 (some .int)) ∈ wsL_law := WLi_56 _ (List.mem_of_getElem? (i := 12) rfl)
theorem qw_909 : (Cond.methodLink RL 75 yX11_door) ∈ wsL_law := WLi_56 _ (List.mem_of_getElem? (i := 13) rfl)
theorem qw_910 : (Cond.instanceMethod yX11_door) ∈ wsL_law := WLi_56 _ (List.mem_of_getElem? (i := 14) rfl)
theorem qw_911 : (Cond.selects RX11 yX11_door yX11_door) ∈ wsL_law := WLi_56 _ (List.mem_of_getElem? (i := 15) rfl)
theorem qw_912 : (Cond.code yX11_door cX11_door 2 (some .int)) ∈ wsL_law := WLi_57 _ (List.mem_of_getElem? (i := 0) rfl)
theorem qw_913 : (Cond.methodLink RX11 210 yX6_lawDoor) ∈ wsL_law := WLi_57 _ (List.mem_of_getElem? (i := 1) rfl)
theorem qw_914 : (Cond.static yX6_lawDoor) ∈ wsL_law := WLi_57 _ (List.mem_of_getElem? (i := 2) rfl)
theorem qw_915 : (Cond.code yX6_lawDoor cX6_lawDoor 12 (some .int)) ∈ wsL_law := WLi_57 _ (List.mem_of_getElem? (i := 3) rfl)
theorem qw_916 : (Cond.fieldLink RX6 79 "YearSkins$Land" "far" "Z") ∈ wsL_law := WLi_57 _ (List.mem_of_getElem? (i := 4) rfl)
theorem qw_917 : (Cond.methodLink RX6 70 yX7_doorOf) ∈ wsL_law := WLi_57 _ (List.mem_of_getElem? (i := 5) rfl)
theorem qw_918 : (Cond.instanceMethod yX7_doorOf) ∈ wsL_law := WLi_57 _ (List.mem_of_getElem? (i := 6) rfl)
theorem qw_919 : (Cond.selects RX7 yX7_doorOf yX7_doorOf) ∈ wsL_law := WLi_57 _ (List.mem_of_getElem? (i := 7) rfl)
theorem qw_920 : (Cond.code yX7_doorOf cX7_doorOf 3 (some .int)) ∈ wsL_law := WLi_57 _ (List.mem_of_getElem? (i := 8) rfl)
theorem qw_921 : (Cond.methodLink RX7 52 yX4_doorPlace) ∈ wsL_law := WLi_57 _ (List.mem_of_getElem? (i := 9) rfl)
theorem qw_922 : (Cond.methodLink RX6 73 yX4_inFront) ∈ wsL_law := WLi_57 _ (List.mem_of_getElem? (i := 10) rfl)
theorem qw_923 : (Cond.static yX4_inFront) ∈ wsL_law := WLi_57 _ (List.mem_of_getElem? (i := 11) rfl)
theorem qw_924 : (Cond.code yX4_inFront cX4_inFront 4 (some .int)) ∈ wsL_law := WLi_57 _ (List.mem_of_getElem? (i := 12) rfl)
theorem qw_925 : (Cond.methodLink RX6 76 yX4_between) ∈ wsL_law := WLi_57 _ (List.mem_of_getElem? (i := 13) rfl)
theorem qw_926 : (Cond.static yX4_between) ∈ wsL_law := WLi_57 _ (List.mem_of_getElem? (i := 14) rfl)
theorem qw_927 : (Cond.code yX4_between cX4_between 5 (some .int)) ∈ wsL_law := WLi_57 _ (List.mem_of_getElem? (i := 15) rfl)
theorem qw_928 : (Cond.methodLink RL 78 yX13_door) ∈ wsL_law := WLi_58 _ (List.mem_of_getElem? (i := 0) rfl)
theorem qw_929 : (Cond.instanceMethod yX13_door) ∈ wsL_law := WLi_58 _ (List.mem_of_getElem? (i := 1) rfl)
theorem qw_930 : (Cond.selects RX13 yX13_door yX13_door) ∈ wsL_law := WLi_58 _ (List.mem_of_getElem? (i := 2) rfl)
theorem qw_931 : (Cond.code yX13_door cX13_door 2 (some .int)) ∈ wsL_law := WLi_58 _ (List.mem_of_getElem? (i := 3) rfl)
theorem qw_932 : (Cond.fieldLink RX13 475 "YearSkinsModel" "newSide" "I") ∈ wsL_law := WLi_58 _ (List.mem_of_getElem? (i := 4) rfl)
theorem qw_933 : (Cond.fieldLink RX13 478 "YearSkinsModel" "newPlace" "I") ∈ wsL_law := WLi_58 _ (List.mem_of_getElem? (i := 5) rfl)
theorem qw_934 : (Cond.methodLink RX13 497 yX13_findsDoor) ∈ wsL_law := WLi_58 _ (List.mem_of_getElem? (i := 6) rfl)
theorem qw_935 : (Cond.instanceMethod yX13_findsDoor) ∈ wsL_law := WLi_58 _ (List.mem_of_getElem? (i := 7) rfl)
theorem qw_936 : (Cond.selects RX13 yX13_findsDoor yX13_findsDoor) ∈ wsL_law := WLi_58 _ (List.mem_of_getElem? (i := 8) rfl)
theorem qw_937 : (Cond.code yX13_findsDoor cX13_findsDoor 8 (some .boolean)) ∈ wsL_law := WLi_58 _ (List.mem_of_getElem? (i := 9) rfl)
theorem qw_938 : (Cond.methodLink RX13 455 yX13_doorPlace) ∈ wsL_law := WLi_58 _ (List.mem_of_getElem? (i := 10) rfl)
theorem qw_939 : (Cond.static yX13_doorPlace) ∈ wsL_law := WLi_58 _ (List.mem_of_getElem? (i := 11) rfl)
theorem qw_940 : (Cond.code yX13_doorPlace cX13_doorPlace 3 (some .int)) ∈ wsL_law := WLi_58 _ (List.mem_of_getElem? (i := 12) rfl)
theorem qw_941 : (Cond.methodLink RX13 446 yX13_placeOf) ∈ wsL_law := WLi_58 _ (List.mem_of_getElem? (i := 13) rfl)
theorem qw_942 : (Cond.static yX13_placeOf) ∈ wsL_law := WLi_58 _ (List.mem_of_getElem? (i := 14) rfl)
theorem qw_943 : (Cond.code yX13_placeOf cX13_placeOf 3 (some .int)) ∈ wsL_law := WLi_58 _ (List.mem_of_getElem? (i := 15) rfl)
theorem qw_944 : (Cond.methodLink RX13 458 yX13_frontPlace) ∈ wsL_law := WLi_59 _ (List.mem_of_getElem? (i := 0) rfl)
theorem qw_945 : (Cond.static yX13_frontPlace) ∈ wsL_law := WLi_59 _ (List.mem_of_getElem? (i := 1) rfl)
theorem qw_946 : (Cond.code yX13_frontPlace cX13_frontPlace 3 (some .int)) ∈ wsL_law := WLi_59 _ (List.mem_of_getElem? (i := 2) rfl)
theorem qw_947 : (Cond.methodLink RX13 461 yX13_roundOf) ∈ wsL_law := WLi_59 _ (List.mem_of_getElem? (i := 3) rfl)
theorem qw_948 : (Cond.static yX13_roundOf) ∈ wsL_law := WLi_59 _ (List.mem_of_getElem? (i := 4) rfl)
theorem qw_949 : (Cond.code yX13_roundOf cX13_roundOf 4 (some .int)) ∈ wsL_law := WLi_59 _ (List.mem_of_getElem? (i := 5) rfl)
theorem qw_950 : (Cond.methodLink RL 79 yX11_costs) ∈ wsL_law := WLi_59 _ (List.mem_of_getElem? (i := 6) rfl)
theorem qw_951 : (Cond.instanceMethod yX11_costs) ∈ wsL_law := WLi_59 _ (List.mem_of_getElem? (i := 7) rfl)
theorem qw_952 : (Cond.selects RX11 yX11_costs yX11_costs) ∈ wsL_law := WLi_59 _ (List.mem_of_getElem? (i := 8) rfl)
theorem qw_953 : (Cond.code yX11_costs cX11_costs 3 (some .int)) ∈ wsL_law := WLi_59 _ (List.mem_of_getElem? (i := 9) rfl)
theorem qw_954 : (Cond.methodLink RX11 214 yX11_isStone) ∈ wsL_law := WLi_59 _ (List.mem_of_getElem? (i := 10) rfl)
theorem qw_955 : (Cond.instanceMethod yX11_isStone) ∈ wsL_law := WLi_59 _ (List.mem_of_getElem? (i := 11) rfl)
theorem qw_956 : (Cond.selects RX11 yX11_isStone yX11_isStone) ∈ wsL_law := WLi_59 _ (List.mem_of_getElem? (i := 12) rfl)
theorem qw_957 : (Cond.code yX11_isStone cX11_isStone 2 (some .boolean)) ∈ wsL_law := WLi_59 _ (List.mem_of_getElem? (i := 13) rfl)
theorem qw_958 : (Cond.fieldLink RX11 353 "YearSkins$Land" "stones" "I") ∈ wsL_law := WLi_59 _ (List.mem_of_getElem? (i := 14) rfl)
theorem qw_959 : (Cond.methodLink RX11 217 yX6_priceOf) ∈ wsL_law := WLi_59 _ (List.mem_of_getElem? (i := 15) rfl)
theorem qw_960 : (Cond.static yX6_priceOf) ∈ wsL_law := WLi_60 _ (List.mem_of_getElem? (i := 0) rfl)
theorem qw_961 : (Cond.code yX6_priceOf cX6_priceOf 4 (some .int)) ∈ wsL_law := WLi_60 _ (List.mem_of_getElem? (i := 1) rfl)
theorem qw_962 : (Cond.methodLink RX6 101 yX1_stonePart) ∈ wsL_law := WLi_60 _ (List.mem_of_getElem? (i := 2) rfl)
theorem qw_963 : (Cond.methodLink RL 82 yX13_costs) ∈ wsL_law := WLi_60 _ (List.mem_of_getElem? (i := 3) rfl)
theorem qw_964 : (Cond.instanceMethod yX13_costs) ∈ wsL_law := WLi_60 _ (List.mem_of_getElem? (i := 4) rfl)
theorem qw_965 : (Cond.selects RX13 yX13_costs yX13_costs) ∈ wsL_law := WLi_60 _ (List.mem_of_getElem? (i := 5) rfl)
theorem qw_966 : (Cond.code yX13_costs cX13_costs 3 (some .int)) ∈ wsL_law := WLi_60 _ (List.mem_of_getElem? (i := 6) rfl)
theorem qw_967 : (Cond.methodLink RX13 549 yX13_isStone) ∈ wsL_law := WLi_60 _ (List.mem_of_getElem? (i := 7) rfl)
theorem qw_968 : (Cond.instanceMethod yX13_isStone) ∈ wsL_law := WLi_60 _ (List.mem_of_getElem? (i := 8) rfl)
theorem qw_969 : (Cond.selects RX13 yX13_isStone yX13_isStone) ∈ wsL_law := WLi_60 _ (List.mem_of_getElem? (i := 9) rfl)
theorem qw_970 : (Cond.code yX13_isStone cX13_isStone 2 (some .boolean)) ∈ wsL_law := WLi_60 _ (List.mem_of_getElem? (i := 10) rfl)
theorem qw_971 : (Cond.methodLink RX13 501 yX13_costOf) ∈ wsL_law := WLi_60 _ (List.mem_of_getElem? (i := 11) rfl)
theorem qw_972 : (Cond.instanceMethod yX13_costOf) ∈ wsL_law := WLi_60 _ (List.mem_of_getElem? (i := 12) rfl)
theorem qw_973 : (Cond.selects RX13 yX13_costOf yX13_costOf) ∈ wsL_law := WLi_60 _ (List.mem_of_getElem? (i := 13) rfl)
theorem qw_974 : (Cond.code yX13_costOf cX13_costOf 4 (some .int)) ∈ wsL_law := WLi_60 _ (List.mem_of_getElem? (i := 14) rfl)
theorem qw_975 : (Cond.methodLink RL 83 yX11_way) ∈ wsL_law := WLi_60 _ (List.mem_of_getElem? (i := 15) rfl)
theorem qw_976 : (Cond.instanceMethod yX11_way) ∈ wsL_law := WLi_61 _ (List.mem_of_getElem? (i := 0) rfl)
theorem qw_977 : (Cond.selects RX11 yX11_way yX11_way) ∈ wsL_law := WLi_61 _ (List.mem_of_getElem? (i := 1) rfl)
theorem qw_978 : (Cond.code yX11_way cX11_way 3 (some .int)) ∈ wsL_law := WLi_61 _ (List.mem_of_getElem? (i := 2) rfl)
theorem qw_979 : (Cond.methodLink RX11 220 yX7_wayTo) ∈ wsL_law := WLi_61 _ (List.mem_of_getElem? (i := 3) rfl)
theorem qw_980 : (Cond.instanceMethod yX7_wayTo) ∈ wsL_law := WLi_61 _ (List.mem_of_getElem? (i := 4) rfl)
theorem qw_981 : (Cond.selects RX7 yX7_wayTo yX7_wayTo) ∈ wsL_law := WLi_61 _ (List.mem_of_getElem? (i := 5) rfl)
theorem qw_982 : (Cond.code yX7_wayTo cX7_wayTo 6 (some .int)) ∈ wsL_law := WLi_61 _ (List.mem_of_getElem? (i := 6) rfl)
theorem qw_983 : (Cond.methodLink RX7 67 yX7_isOpen) ∈ wsL_law := WLi_61 _ (List.mem_of_getElem? (i := 7) rfl)
theorem qw_984 : (Cond.instanceMethod yX7_isOpen) ∈ wsL_law := WLi_61 _ (List.mem_of_getElem? (i := 8) rfl)
theorem qw_985 : (Cond.selects RX7 yX7_isOpen yX7_isOpen) ∈ wsL_law := WLi_61 _ (List.mem_of_getElem? (i := 9) rfl)
theorem qw_986 : (Cond.code yX7_isOpen cX7_isOpen 3 (some .boolean)) ∈ wsL_law := WLi_61 _ (List.mem_of_getElem? (i := 10) rfl)
theorem qw_987 : (Cond.methodLink RX7 48 yX7_stands) ∈ wsL_law := WLi_61 _ (List.mem_of_getElem? (i := 11) rfl)
theorem qw_988 : (Cond.methodLink RX7 70 yX7_roundIn) ∈ wsL_law := WLi_61 _ (List.mem_of_getElem? (i := 12) rfl)
theorem qw_989 : (Cond.instanceMethod yX7_roundIn) ∈ wsL_law := WLi_61 _ (List.mem_of_getElem? (i := 13) rfl)
theorem qw_990 : (Cond.selects RX7 yX7_roundIn yX7_roundIn) ∈ wsL_law := WLi_61 _ (List.mem_of_getElem? (i := 14) rfl)
theorem qw_991 : (Cond.code yX7_roundIn cX7_roundIn 3 (some .int)) ∈ wsL_law := WLi_61 _ (List.mem_of_getElem? (i := 15) rfl)
theorem qw_992 : (Cond.methodLink RX7 57 yX7_doorOf) ∈ wsL_law := WLi_62 _ (List.mem_of_getElem? (i := 0) rfl)
theorem qw_993 : (Cond.methodLink RX7 61 yX4_inFront) ∈ wsL_law := WLi_62 _ (List.mem_of_getElem? (i := 1) rfl)
theorem qw_994 : (Cond.methodLink RX7 64 yX4_between) ∈ wsL_law := WLi_62 _ (List.mem_of_getElem? (i := 2) rfl)
theorem qw_995 : (Cond.methodLink RL 86 yX13_way) ∈ wsL_law := WLi_62 _ (List.mem_of_getElem? (i := 3) rfl)
theorem qw_996 : (Cond.instanceMethod yX13_way) ∈ wsL_law := WLi_62 _ (List.mem_of_getElem? (i := 4) rfl)
theorem qw_997 : (Cond.selects RX13 yX13_way yX13_way) ∈ wsL_law := WLi_62 _ (List.mem_of_getElem? (i := 5) rfl)
theorem qw_998 : (Cond.code yX13_way cX13_way 3 (some .int)) ∈ wsL_law := WLi_62 _ (List.mem_of_getElem? (i := 6) rfl)
theorem qw_999 : (Cond.methodLink RX13 552 yX13_wayTo) ∈ wsL_law := WLi_62 _ (List.mem_of_getElem? (i := 7) rfl)
theorem qw_1000 : (Cond.static yX13_wayTo) ∈ wsL_law := WLi_62 _ (List.mem_of_getElem? (i := 8) rfl)
theorem qw_1001 : (Cond.code yX13_wayTo cX13_wayTo 4 (some .int)) ∈ wsL_law := WLi_62 _ (List.mem_of_getElem? (i := 9) rfl)
theorem qw_1002 : (Cond.methodLink RX13 468 yX13_plainWay) ∈ wsL_law := WLi_62 _ (List.mem_of_getElem? (i := 10) rfl)
theorem qw_1003 : (Cond.static yX13_plainWay) ∈ wsL_law := WLi_62 _ (List.mem_of_getElem? (i := 11) rfl)
theorem qw_1004 : (Cond.code yX13_plainWay cX13_plainWay 5 (some .int)) ∈ wsL_law := WLi_62 _ (List.mem_of_getElem? (i := 12) rfl)
theorem qw_1005 : (Cond.methodLink RX13 464 yX13_roundIn) ∈ wsL_law := WLi_62 _ (List.mem_of_getElem? (i := 13) rfl)
theorem qw_1006 : (Cond.static yX13_roundIn) ∈ wsL_law := WLi_62 _ (List.mem_of_getElem? (i := 14) rfl)
theorem qw_1007 : (Cond.code yX13_roundIn cX13_roundIn 3 (some .int)) ∈ wsL_law := WLi_62 _ (List.mem_of_getElem? (i := 15) rfl)
theorem qw_1008 : (Cond.methodLink RL 87 yX11_through) ∈ wsL_law := WLi_63 _ (List.mem_of_getElem? (i := 0) rfl)
theorem qw_1009 : (Cond.instanceMethod yX11_through) ∈ wsL_law := WLi_63 _ (List.mem_of_getElem? (i := 1) rfl)
theorem qw_1010 : (Cond.selects RX11 yX11_through yX11_through) ∈ wsL_law := WLi_63 _ (List.mem_of_getElem? (i := 2) rfl)
theorem qw_1011 : (Cond.code yX11_through cX11_through 3 (some .int)) ∈ wsL_law := WLi_63 _ (List.mem_of_getElem? (i := 3) rfl)
theorem qw_1012 : (Cond.methodLink RX11 223 yX0_cheapest) ∈ wsL_law := WLi_63 _ (List.mem_of_getElem? (i := 4) rfl)
theorem qw_1013 : (Cond.instanceMethod yX0_cheapest) ∈ wsL_law := WLi_63 _ (List.mem_of_getElem? (i := 5) rfl)
theorem qw_1014 : (Cond.selects RX0 yX0_cheapest yX0_cheapest) ∈ wsL_law := WLi_63 _ (List.mem_of_getElem? (i := 6) rfl)
theorem qw_1015 : (Cond.code yX0_cheapest cX0_cheapest 9 (some .int)) ∈ wsL_law := WLi_63 _ (List.mem_of_getElem? (i := 7) rfl)
theorem qw_1016 : (Cond.fieldLink RX0 18 "YearSkins$State" "counts" "[I") ∈ wsL_law := WLi_63 _ (List.mem_of_getElem? (i := 8) rfl)
theorem qw_1017 : (Cond.methodLink RX0 39 Lib.Math.min.name) ∈ wsL_law := WLi_63 _ (List.mem_of_getElem? (i := 9) rfl)
theorem qw_1018 : (Cond.static Lib.Math.min.name) ∈ wsL_law := WLi_63 _ (List.mem_of_getElem? (i := 10) rfl)
theorem qw_1019 : (Cond.code Lib.Math.min.name Lib.Math.min.code 2 (some .int)) ∈ wsL_law := WLi_63 _ (List.mem_of_getElem? (i := 11) rfl)
theorem qw_1020 : (Cond.methodLink RX0 23 yX0_empty) ∈ wsL_law := WLi_63 _ (List.mem_of_getElem? (i := 12) rfl)
theorem qw_1021 : (Cond.static yX0_empty) ∈ wsL_law := WLi_63 _ (List.mem_of_getElem? (i := 13) rfl)
theorem qw_1022 : (Cond.code yX0_empty cX0_empty 2 none) ∈ wsL_law := WLi_63 _ (List.mem_of_getElem? (i := 14) rfl)
theorem qw_1023 : (Cond.constant RX0 56 (1000000)) ∈ wsL_law := WLi_63 _ (List.mem_of_getElem? (i := 15) rfl)
theorem qw_1024 : (Cond.methodLink RX0 27 yX7_doorOf) ∈ wsL_law := WLi_64 _ (List.mem_of_getElem? (i := 0) rfl)
theorem qw_1025 : (Cond.methodLink RX0 31 yX0_byDoor) ∈ wsL_law := WLi_64 _ (List.mem_of_getElem? (i := 1) rfl)
theorem qw_1026 : (Cond.static yX0_byDoor) ∈ wsL_law := WLi_64 _ (List.mem_of_getElem? (i := 2) rfl)
theorem qw_1027 : (Cond.code yX0_byDoor cX0_byDoor 3 (some .int)) ∈ wsL_law := WLi_64 _ (List.mem_of_getElem? (i := 3) rfl)
theorem qw_1028 : (Cond.methodLink RX0 57 yX7_stands) ∈ wsL_law := WLi_64 _ (List.mem_of_getElem? (i := 4) rfl)
theorem qw_1029 : (Cond.methodLink RX0 61 yX7_isOpen) ∈ wsL_law := WLi_64 _ (List.mem_of_getElem? (i := 5) rfl)
theorem qw_1030 : (Cond.methodLink RX0 64 yX7_partOf) ∈ wsL_law := WLi_64 _ (List.mem_of_getElem? (i := 6) rfl)
theorem qw_1031 : (Cond.methodLink RX0 35 yX0_byWall) ∈ wsL_law := WLi_64 _ (List.mem_of_getElem? (i := 7) rfl)
theorem qw_1032 : (Cond.static yX0_byWall) ∈ wsL_law := WLi_64 _ (List.mem_of_getElem? (i := 8) rfl)
theorem qw_1033 : (Cond.code yX0_byWall cX0_byWall 5 (some .int)) ∈ wsL_law := WLi_64 _ (List.mem_of_getElem? (i := 9) rfl)
theorem qw_1034 : (Cond.methodLink RX0 73 Lib.Math.max.name) ∈ wsL_law := WLi_64 _ (List.mem_of_getElem? (i := 10) rfl)
theorem qw_1035 : (Cond.methodLink RX0 68 yX1_stonePart) ∈ wsL_law := WLi_64 _ (List.mem_of_getElem? (i := 11) rfl)
theorem qw_1036 : (Cond.methodLink RX0 44 yX0_goRound) ∈ wsL_law := WLi_64 _ (List.mem_of_getElem? (i := 12) rfl)
theorem qw_1037 : (Cond.instanceMethod yX0_goRound) ∈ wsL_law := WLi_64 _ (List.mem_of_getElem? (i := 13) rfl)
theorem qw_1038 : (Cond.selects RX0 yX0_goRound yX0_goRound) ∈ wsL_law := WLi_64 _ (List.mem_of_getElem? (i := 14) rfl)
theorem qw_1039 : (Cond.code yX0_goRound cX0_goRound 5 none) ∈ wsL_law := WLi_64 _ (List.mem_of_getElem? (i := 15) rfl)
theorem qw_1040 : (Cond.methodLink RX0 48 yX0_goIn) ∈ wsL_law := WLi_65 _ (List.mem_of_getElem? (i := 0) rfl)
theorem qw_1041 : (Cond.instanceMethod yX0_goIn) ∈ wsL_law := WLi_65 _ (List.mem_of_getElem? (i := 1) rfl)
theorem qw_1042 : (Cond.selects RX0 yX0_goIn yX0_goIn) ∈ wsL_law := WLi_65 _ (List.mem_of_getElem? (i := 2) rfl)
theorem qw_1043 : (Cond.code yX0_goIn cX0_goIn 10 none) ∈ wsL_law := WLi_65 _ (List.mem_of_getElem? (i := 3) rfl)
theorem qw_1044 : (Cond.methodLink RX0 76 yX4_inFront) ∈ wsL_law := WLi_65 _ (List.mem_of_getElem? (i := 4) rfl)
theorem qw_1045 : (Cond.methodLink RX0 81 yX4_isCorner) ∈ wsL_law := WLi_65 _ (List.mem_of_getElem? (i := 5) rfl)
theorem qw_1046 : (Cond.static yX4_isCorner) ∈ wsL_law := WLi_65 _ (List.mem_of_getElem? (i := 6) rfl)
theorem qw_1047 : (Cond.code yX4_isCorner cX4_isCorner 2 (some .boolean)) ∈ wsL_law := WLi_65 _ (List.mem_of_getElem? (i := 7) rfl)
theorem qw_1048 : (Cond.methodLink RX0 52 yX0_least) ∈ wsL_law := WLi_65 _ (List.mem_of_getElem? (i := 8) rfl)
theorem qw_1049 : (Cond.instanceMethod yX0_least) ∈ wsL_law := WLi_65 _ (List.mem_of_getElem? (i := 9) rfl)
theorem qw_1050 : (Cond.selects RX0 yX0_least yX0_least) ∈ wsL_law := WLi_65 _ (List.mem_of_getElem? (i := 10) rfl)
theorem qw_1051 : (Cond.code yX0_least cX0_least 4 (some .int)) ∈ wsL_law := WLi_65 _ (List.mem_of_getElem? (i := 11) rfl)
theorem qw_1052 : (Cond.methodLink RL 90 yX13_through) ∈ wsL_law := WLi_65 _ (List.mem_of_getElem? (i := 12) rfl)
theorem qw_1053 : (Cond.instanceMethod yX13_through) ∈ wsL_law := WLi_65 _ (List.mem_of_getElem? (i := 13) rfl)
theorem qw_1054 : (Cond.selects RX13 yX13_through yX13_through) ∈ wsL_law := WLi_65 _ (List.mem_of_getElem? (i := 14) rfl)
theorem qw_1055 : (Cond.code yX13_through cX13_through 3 (some .int)) ∈ wsL_law := WLi_65 _ (List.mem_of_getElem? (i := 15) rfl)
theorem qw_1056 : (Cond.methodLink RX13 562 yX13_throughTo) ∈ wsL_law := WLi_66 _ (List.mem_of_getElem? (i := 0) rfl)
theorem qw_1057 : (Cond.instanceMethod yX13_throughTo) ∈ wsL_law := WLi_66 _ (List.mem_of_getElem? (i := 1) rfl)
theorem qw_1058 : (Cond.selects RX13 yX13_throughTo yX13_throughTo) ∈ wsL_law := WLi_66 _ (List.mem_of_getElem? (i := 2) rfl)
theorem qw_1059 : (Cond.code yX13_throughTo cX13_throughTo 9 (some .int)) ∈ wsL_law := WLi_66 _ (List.mem_of_getElem? (i := 3) rfl)
theorem qw_1060 : (Cond.constant RX13 555 (100000)) ∈ wsL_law := WLi_66 _ (List.mem_of_getElem? (i := 4) rfl)
theorem qw_1061 : (Cond.methodLink RX13 556 yX13_entry) ∈ wsL_law := WLi_66 _ (List.mem_of_getElem? (i := 5) rfl)
theorem qw_1062 : (Cond.instanceMethod yX13_entry) ∈ wsL_law := WLi_66 _ (List.mem_of_getElem? (i := 6) rfl)
theorem qw_1063 : (Cond.selects RX13 yX13_entry yX13_entry) ∈ wsL_law := WLi_66 _ (List.mem_of_getElem? (i := 7) rfl)
theorem qw_1064 : (Cond.code yX13_entry cX13_entry 6 (some .int)) ∈ wsL_law := WLi_66 _ (List.mem_of_getElem? (i := 8) rfl)
theorem qw_1065 : (Cond.methodLink RX13 487 yX13_least) ∈ wsL_law := WLi_66 _ (List.mem_of_getElem? (i := 9) rfl)
theorem qw_1066 : (Cond.static yX13_least) ∈ wsL_law := WLi_66 _ (List.mem_of_getElem? (i := 10) rfl)
theorem qw_1067 : (Cond.code yX13_least cX13_least 2 (some .int)) ∈ wsL_law := WLi_66 _ (List.mem_of_getElem? (i := 11) rfl)
theorem qw_1068 : (Cond.methodLink RX13 559 yX13_inFront) ∈ wsL_law := WLi_66 _ (List.mem_of_getElem? (i := 12) rfl)
theorem qw_1069 : (Cond.static yX13_inFront) ∈ wsL_law := WLi_66 _ (List.mem_of_getElem? (i := 13) rfl)
theorem qw_1070 : (Cond.code yX13_inFront cX13_inFront 2 (some .int)) ∈ wsL_law := WLi_66 _ (List.mem_of_getElem? (i := 14) rfl)
theorem qw_1071 : (Cond.methodLink RL 91 yX11_breaks) ∈ wsL_law := WLi_66 _ (List.mem_of_getElem? (i := 15) rfl)
theorem qw_1072 : (Cond.instanceMethod yX11_breaks) ∈ wsL_law := WLi_67 _ (List.mem_of_getElem? (i := 0) rfl)
theorem qw_1073 : (Cond.selects RX11 yX11_breaks yX11_breaks) ∈ wsL_law := WLi_67 _ (List.mem_of_getElem? (i := 1) rfl)
theorem qw_1074 : (Cond.code yX11_breaks cX11_breaks 3 (some .int)) ∈ wsL_law := WLi_67 _ (List.mem_of_getElem? (i := 2) rfl)
theorem qw_1075 : (Cond.methodLink RL 94 yX13_breaks) ∈ wsL_law := WLi_67 _ (List.mem_of_getElem? (i := 3) rfl)
theorem qw_1076 : (Cond.instanceMethod yX13_breaks) ∈ wsL_law := WLi_67 _ (List.mem_of_getElem? (i := 4) rfl)
theorem qw_1077 : (Cond.selects RX13 yX13_breaks yX13_breaks) ∈ wsL_law := WLi_67 _ (List.mem_of_getElem? (i := 5) rfl)
theorem qw_1078 : (Cond.code yX13_breaks cX13_breaks 3 (some .int)) ∈ wsL_law := WLi_67 _ (List.mem_of_getElem? (i := 6) rfl)
theorem qw_1079 : (Cond.methodLink RL 95 yX11_round) ∈ wsL_law := WLi_67 _ (List.mem_of_getElem? (i := 7) rfl)
theorem qw_1080 : (Cond.instanceMethod yX11_round) ∈ wsL_law := WLi_67 _ (List.mem_of_getElem? (i := 8) rfl)
theorem qw_1081 : (Cond.selects RX11 yX11_round yX11_round) ∈ wsL_law := WLi_67 _ (List.mem_of_getElem? (i := 9) rfl)
theorem qw_1082 : (Cond.code yX11_round cX11_round 3 (some .int)) ∈ wsL_law := WLi_67 _ (List.mem_of_getElem? (i := 10) rfl)
theorem qw_1083 : (Cond.methodLink RX11 226 yX7_roundIn) ∈ wsL_law := WLi_67 _ (List.mem_of_getElem? (i := 11) rfl)
theorem qw_1084 : (Cond.methodLink RL 98 yX13_round) ∈ wsL_law := WLi_67 _ (List.mem_of_getElem? (i := 12) rfl)
theorem qw_1085 : (Cond.instanceMethod yX13_round) ∈ wsL_law := WLi_67 _ (List.mem_of_getElem? (i := 13) rfl)
theorem qw_1086 : (Cond.selects RX13 yX13_round yX13_round) ∈ wsL_law := WLi_67 _ (List.mem_of_getElem? (i := 14) rfl)
theorem qw_1087 : (Cond.code yX13_round cX13_round 3 (some .int)) ∈ wsL_law := WLi_67 _ (List.mem_of_getElem? (i := 15) rfl)
theorem qw_1088 : (Cond.methodLink RL 99 yX11_in) ∈ wsL_law := WLi_68 _ (List.mem_of_getElem? (i := 0) rfl)
theorem qw_1089 : (Cond.instanceMethod yX11_in) ∈ wsL_law := WLi_68 _ (List.mem_of_getElem? (i := 1) rfl)
theorem qw_1090 : (Cond.selects RX11 yX11_in yX11_in) ∈ wsL_law := WLi_68 _ (List.mem_of_getElem? (i := 2) rfl)
theorem qw_1091 : (Cond.code yX11_in cX11_in 4 (some .int)) ∈ wsL_law := WLi_68 _ (List.mem_of_getElem? (i := 3) rfl)
theorem qw_1092 : (Cond.methodLink RX11 229 yX11_goTo) ∈ wsL_law := WLi_68 _ (List.mem_of_getElem? (i := 4) rfl)
theorem qw_1093 : (Cond.instanceMethod yX11_goTo) ∈ wsL_law := WLi_68 _ (List.mem_of_getElem? (i := 5) rfl)
theorem qw_1094 : (Cond.selects RX11 yX11_goTo yX11_goTo) ∈ wsL_law := WLi_68 _ (List.mem_of_getElem? (i := 6) rfl)
theorem qw_1095 : (Cond.code yX11_goTo cX11_goTo 3 none) ∈ wsL_law := WLi_68 _ (List.mem_of_getElem? (i := 7) rfl)
theorem qw_1096 : (Cond.fieldLink RX11 235 "YearSkins" "BY_NUMBERS" "[I") ∈ wsL_law := WLi_68 _ (List.mem_of_getElem? (i := 8) rfl)
theorem qw_1097 : (Cond.methodLink RX11 238 yX10_pass) ∈ wsL_law := WLi_68 _ (List.mem_of_getElem? (i := 9) rfl)
theorem qw_1098 : (Cond.static yX10_pass) ∈ wsL_law := WLi_68 _ (List.mem_of_getElem? (i := 10) rfl)
theorem qw_1099 : (Cond.code yX10_pass cX10_pass 5 none) ∈ wsL_law := WLi_68 _ (List.mem_of_getElem? (i := 11) rfl)
theorem qw_1100 : (Cond.fieldLink RX10 18 "YearSkins$Land" "houses" "I") ∈ wsL_law := WLi_68 _ (List.mem_of_getElem? (i := 12) rfl)
theorem qw_1101 : (Cond.fieldLink RX10 24 "YearSkins$State" "families" "[I") ∈ wsL_law := WLi_68 _ (List.mem_of_getElem? (i := 13) rfl)
theorem qw_1102 : (Cond.fieldLink RX10 36 "YearSkins$State" "year" "I") ∈ wsL_law := WLi_68 _ (List.mem_of_getElem? (i := 14) rfl)
theorem qw_1103 : (Cond.methodLink RX10 29 yX10_liveOn) ∈ wsL_law := WLi_68 _ (List.mem_of_getElem? (i := 15) rfl)
theorem qw_1104 : (Cond.static yX10_liveOn) ∈ wsL_law := WLi_69 _ (List.mem_of_getElem? (i := 0) rfl)
theorem qw_1105 : (Cond.code yX10_liveOn cX10_liveOn 3 none) ∈ wsL_law := WLi_69 _ (List.mem_of_getElem? (i := 1) rfl)
theorem qw_1106 : (Cond.fieldLink RX10 39 "YearSkins$State" "golds" "[I") ∈ wsL_law := WLi_69 _ (List.mem_of_getElem? (i := 2) rfl)
theorem qw_1107 : (Cond.fieldLink RX10 42 "YearSkins$Land" "earns" "I") ∈ wsL_law := WLi_69 _ (List.mem_of_getElem? (i := 3) rfl)
theorem qw_1108 : (Cond.methodLink RX10 45 Lib.Math.min.name) ∈ wsL_law := WLi_69 _ (List.mem_of_getElem? (i := 4) rfl)
theorem qw_1109 : (Cond.fieldLink RX10 55 "YearSkins$Land" "births" "I") ∈ wsL_law := WLi_69 _ (List.mem_of_getElem? (i := 5) rfl)
theorem qw_1110 : (Cond.fieldLink RX10 61 "YearSkins$Land" "fire" "I") ∈ wsL_law := WLi_69 _ (List.mem_of_getElem? (i := 6) rfl)
theorem qw_1111 : (Cond.methodLink RX10 51 yX7_draw) ∈ wsL_law := WLi_69 _ (List.mem_of_getElem? (i := 7) rfl)
theorem qw_1112 : (Cond.instanceMethod yX7_draw) ∈ wsL_law := WLi_69 _ (List.mem_of_getElem? (i := 8) rfl)
theorem qw_1113 : (Cond.selects RX7 yX7_draw yX7_draw) ∈ wsL_law := WLi_69 _ (List.mem_of_getElem? (i := 9) rfl)
theorem qw_1114 : (Cond.code yX7_draw cX7_draw 1 (some .int)) ∈ wsL_law := WLi_69 _ (List.mem_of_getElem? (i := 10) rfl)
theorem qw_1115 : (Cond.constant RX7 73 (65537)) ∈ wsL_law := WLi_69 _ (List.mem_of_getElem? (i := 11) rfl)
theorem qw_1116 : (Cond.methodLink RX10 58 yX10_rotAll) ∈ wsL_law := WLi_69 _ (List.mem_of_getElem? (i := 12) rfl)
theorem qw_1117 : (Cond.static yX10_rotAll) ∈ wsL_law := WLi_69 _ (List.mem_of_getElem? (i := 13) rfl)
theorem qw_1118 : (Cond.code yX10_rotAll cX10_rotAll 6 none) ∈ wsL_law := WLi_69 _ (List.mem_of_getElem? (i := 14) rfl)
theorem qw_1119 : (Cond.fieldLink RX10 67 "YearSkins$State" "counts" "[I") ∈ wsL_law := WLi_69 _ (List.mem_of_getElem? (i := 15) rfl)
theorem qw_1120 : (Cond.methodLink RX10 70 yX7_isOpen) ∈ wsL_law := WLi_70 _ (List.mem_of_getElem? (i := 0) rfl)
theorem qw_1121 : (Cond.methodLink RX10 74 yX7_partOf) ∈ wsL_law := WLi_70 _ (List.mem_of_getElem? (i := 1) rfl)
theorem qw_1122 : (Cond.methodLink RX10 78 yX1_stonePart) ∈ wsL_law := WLi_70 _ (List.mem_of_getElem? (i := 2) rfl)
theorem qw_1123 : (Cond.methodLink RX10 81 yX7_stands) ∈ wsL_law := WLi_70 _ (List.mem_of_getElem? (i := 3) rfl)
theorem qw_1124 : (Cond.methodLink RX10 84 yX7_setPart) ∈ wsL_law := WLi_70 _ (List.mem_of_getElem? (i := 4) rfl)
theorem qw_1125 : (Cond.methodLink RX10 64 yX10_burn) ∈ wsL_law := WLi_70 _ (List.mem_of_getElem? (i := 5) rfl)
theorem qw_1126 : (Cond.static yX10_burn) ∈ wsL_law := WLi_70 _ (List.mem_of_getElem? (i := 6) rfl)
theorem qw_1127 : (Cond.code yX10_burn cX10_burn 5 none) ∈ wsL_law := WLi_70 _ (List.mem_of_getElem? (i := 7) rfl)
theorem qw_1128 : (Cond.methodLink RX10 33 yX10_grow) ∈ wsL_law := WLi_70 _ (List.mem_of_getElem? (i := 8) rfl)
theorem qw_1129 : (Cond.static yX10_grow) ∈ wsL_law := WLi_70 _ (List.mem_of_getElem? (i := 9) rfl)
theorem qw_1130 : (Cond.code yX10_grow cX10_grow 6 none) ∈ wsL_law := WLi_70 _ (List.mem_of_getElem? (i := 10) rfl)
theorem qw_1131 : (Cond.fieldLink RX10 88 "YearSkins$Land" "houseStone" "[I") ∈ wsL_law := WLi_70 _ (List.mem_of_getElem? (i := 11) rfl)
theorem qw_1132 : (Cond.methodLink RX10 91 yX6_priceOf) ∈ wsL_law := WLi_70 _ (List.mem_of_getElem? (i := 12) rfl)
theorem qw_1133 : (Cond.methodLink RX10 97 yX6_isFit) ∈ wsL_law := WLi_70 _ (List.mem_of_getElem? (i := 13) rfl)
theorem qw_1134 : (Cond.methodLink RX10 101 yX6_lawDoor) ∈ wsL_law := WLi_70 _ (List.mem_of_getElem? (i := 14) rfl)
theorem qw_1135 : (Cond.methodLink RX10 105 yX7_addSkin) ∈ wsL_law := WLi_70 _ (List.mem_of_getElem? (i := 15) rfl)
theorem qw_1136 : (Cond.methodLink RX11 232 yX7_fallen) ∈ wsL_law := WLi_71 _ (List.mem_of_getElem? (i := 0) rfl)
theorem qw_1137 : (Cond.instanceMethod yX7_fallen) ∈ wsL_law := WLi_71 _ (List.mem_of_getElem? (i := 1) rfl)
theorem qw_1138 : (Cond.selects RX7 yX7_fallen yX7_fallen) ∈ wsL_law := WLi_71 _ (List.mem_of_getElem? (i := 2) rfl)
theorem qw_1139 : (Cond.code yX7_fallen cX7_fallen 4 (some .int)) ∈ wsL_law := WLi_71 _ (List.mem_of_getElem? (i := 3) rfl)
theorem qw_1140 : (Cond.methodLink RL 102 yX13_in) ∈ wsL_law := WLi_71 _ (List.mem_of_getElem? (i := 4) rfl)
theorem qw_1141 : (Cond.instanceMethod yX13_in) ∈ wsL_law := WLi_71 _ (List.mem_of_getElem? (i := 5) rfl)
theorem qw_1142 : (Cond.selects RX13 yX13_in yX13_in) ∈ wsL_law := WLi_71 _ (List.mem_of_getElem? (i := 6) rfl)
theorem qw_1143 : (Cond.code yX13_in cX13_in 7 (some .int)) ∈ wsL_law := WLi_71 _ (List.mem_of_getElem? (i := 7) rfl)
theorem qw_1144 : (Cond.methodLink RX13 565 yX13_refusesIn) ∈ wsL_law := WLi_71 _ (List.mem_of_getElem? (i := 8) rfl)
theorem qw_1145 : (Cond.instanceMethod yX13_refusesIn) ∈ wsL_law := WLi_71 _ (List.mem_of_getElem? (i := 9) rfl)
theorem qw_1146 : (Cond.selects RX13 yX13_refusesIn yX13_refusesIn) ∈ wsL_law := WLi_71 _ (List.mem_of_getElem? (i := 10) rfl)
theorem qw_1147 : (Cond.code yX13_refusesIn cX13_refusesIn 4 (some .int)) ∈ wsL_law := WLi_71 _ (List.mem_of_getElem? (i := 11) rfl)
theorem qw_1148 : (Cond.methodLink RX13 569 yX13_inYears) ∈ wsL_law := WLi_71 _ (List.mem_of_getElem? (i := 12) rfl)
theorem qw_1149 : (Cond.instanceMethod yX13_inYears) ∈ wsL_law := WLi_71 _ (List.mem_of_getElem? (i := 13) rfl)
theorem qw_1150 : (Cond.selects RX13 yX13_inYears yX13_inYears) ∈ wsL_law := WLi_71 _ (List.mem_of_getElem? (i := 14) rfl)
theorem qw_1151 : (Cond.code yX13_inYears cX13_inYears 3 none) ∈ wsL_law := WLi_71 _ (List.mem_of_getElem? (i := 15) rfl)
theorem qw_1152 : (Cond.methodLink RX13 508 yX13_copies) ∈ wsL_law := WLi_72 _ (List.mem_of_getElem? (i := 0) rfl)
theorem qw_1153 : (Cond.instanceMethod yX13_copies) ∈ wsL_law := WLi_72 _ (List.mem_of_getElem? (i := 1) rfl)
theorem qw_1154 : (Cond.selects RX13 yX13_copies yX13_copies) ∈ wsL_law := WLi_72 _ (List.mem_of_getElem? (i := 2) rfl)
theorem qw_1155 : (Cond.code yX13_copies cX13_copies 2 none) ∈ wsL_law := WLi_72 _ (List.mem_of_getElem? (i := 3) rfl)
theorem qw_1156 : (Cond.methodLink RX13 511 yX13_byNumbers) ∈ wsL_law := WLi_72 _ (List.mem_of_getElem? (i := 4) rfl)
theorem qw_1157 : (Cond.instanceMethod yX13_byNumbers) ∈ wsL_law := WLi_72 _ (List.mem_of_getElem? (i := 5) rfl)
theorem qw_1158 : (Cond.selects RX13 yX13_byNumbers yX13_byNumbers) ∈ wsL_law := WLi_72 _ (List.mem_of_getElem? (i := 6) rfl)
theorem qw_1159 : (Cond.code yX13_byNumbers cX13_byNumbers 2 none) ∈ wsL_law := WLi_72 _ (List.mem_of_getElem? (i := 7) rfl)
theorem qw_1160 : (Cond.methodLink RX13 514 yX13_goesBy) ∈ wsL_law := WLi_72 _ (List.mem_of_getElem? (i := 8) rfl)
theorem qw_1161 : (Cond.instanceMethod yX13_goesBy) ∈ wsL_law := WLi_72 _ (List.mem_of_getElem? (i := 9) rfl)
theorem qw_1162 : (Cond.selects RX13 yX13_goesBy yX13_goesBy) ∈ wsL_law := WLi_72 _ (List.mem_of_getElem? (i := 10) rfl)
theorem qw_1163 : (Cond.code yX13_goesBy cX13_goesBy 3 none) ∈ wsL_law := WLi_72 _ (List.mem_of_getElem? (i := 11) rfl)
theorem qw_1164 : (Cond.methodLink RX13 504 yX13_yearOf) ∈ wsL_law := WLi_72 _ (List.mem_of_getElem? (i := 12) rfl)
theorem qw_1165 : (Cond.instanceMethod yX13_yearOf) ∈ wsL_law := WLi_72 _ (List.mem_of_getElem? (i := 13) rfl)
theorem qw_1166 : (Cond.selects RX13 yX13_yearOf yX13_yearOf) ∈ wsL_law := WLi_72 _ (List.mem_of_getElem? (i := 14) rfl)
theorem qw_1167 : (Cond.code yX13_yearOf cX13_yearOf 4 none) ∈ wsL_law := WLi_72 _ (List.mem_of_getElem? (i := 15) rfl)
theorem qw_1168 : (Cond.methodLink RX13 490 yX13_drawn) ∈ wsL_law := WLi_73 _ (List.mem_of_getElem? (i := 0) rfl)
theorem qw_1169 : (Cond.static yX13_drawn) ∈ wsL_law := WLi_73 _ (List.mem_of_getElem? (i := 1) rfl)
theorem qw_1170 : (Cond.code yX13_drawn cX13_drawn 1 (some .int)) ∈ wsL_law := WLi_73 _ (List.mem_of_getElem? (i := 2) rfl)
theorem qw_1171 : (Cond.constantLong RX13 481 (75)) ∈ wsL_law := WLi_73 _ (List.mem_of_getElem? (i := 3) rfl)
theorem qw_1172 : (Cond.constantLong RX13 483 (74)) ∈ wsL_law := WLi_73 _ (List.mem_of_getElem? (i := 4) rfl)
theorem qw_1173 : (Cond.constantLong RX13 485 (65537)) ∈ wsL_law := WLi_73 _ (List.mem_of_getElem? (i := 5) rfl)
theorem qw_1174 : (Cond.methodLink RX13 494 yX13_rots) ∈ wsL_law := WLi_73 _ (List.mem_of_getElem? (i := 6) rfl)
theorem qw_1175 : (Cond.instanceMethod yX13_rots) ∈ wsL_law := WLi_73 _ (List.mem_of_getElem? (i := 7) rfl)
theorem qw_1176 : (Cond.selects RX13 yX13_rots yX13_rots) ∈ wsL_law := WLi_73 _ (List.mem_of_getElem? (i := 8) rfl)
theorem qw_1177 : (Cond.code yX13_rots cX13_rots 5 none) ∈ wsL_law := WLi_73 _ (List.mem_of_getElem? (i := 9) rfl)
theorem qw_1178 : (Cond.methodLink RL 103 yX11_skinsIn) ∈ wsL_law := WLi_73 _ (List.mem_of_getElem? (i := 10) rfl)
theorem qw_1179 : (Cond.instanceMethod yX11_skinsIn) ∈ wsL_law := WLi_73 _ (List.mem_of_getElem? (i := 11) rfl)
theorem qw_1180 : (Cond.selects RX11 yX11_skinsIn yX11_skinsIn) ∈ wsL_law := WLi_73 _ (List.mem_of_getElem? (i := 12) rfl)
theorem qw_1181 : (Cond.code yX11_skinsIn cX11_skinsIn 2 (some .int)) ∈ wsL_law := WLi_73 _ (List.mem_of_getElem? (i := 13) rfl)
theorem qw_1182 : (Cond.methodLink RX11 242 yX7_skinsOfAll) ∈ wsL_law := WLi_73 _ (List.mem_of_getElem? (i := 14) rfl)
theorem qw_1183 : (Cond.instanceMethod yX7_skinsOfAll) ∈ wsL_law := WLi_73 _ (List.mem_of_getElem? (i := 15) rfl)
theorem qw_1184 : (Cond.selects RX7 yX7_skinsOfAll yX7_skinsOfAll) ∈ wsL_law := WLi_74 _ (List.mem_of_getElem? (i := 0) rfl)
theorem qw_1185 : (Cond.code yX7_skinsOfAll cX7_skinsOfAll 3 (some .int)) ∈ wsL_law := WLi_74 _ (List.mem_of_getElem? (i := 1) rfl)
theorem qw_1186 : (Cond.methodLink RL 106 yX13_skinsIn) ∈ wsL_law := WLi_74 _ (List.mem_of_getElem? (i := 2) rfl)
theorem qw_1187 : (Cond.instanceMethod yX13_skinsIn) ∈ wsL_law := WLi_74 _ (List.mem_of_getElem? (i := 3) rfl)
theorem qw_1188 : (Cond.selects RX13 yX13_skinsIn yX13_skinsIn) ∈ wsL_law := WLi_74 _ (List.mem_of_getElem? (i := 4) rfl)
theorem qw_1189 : (Cond.code yX13_skinsIn cX13_skinsIn 3 (some .int)) ∈ wsL_law := WLi_74 _ (List.mem_of_getElem? (i := 5) rfl)
theorem qw_1190 : (Cond.methodLink RX13 572 yX13_allSkins) ∈ wsL_law := WLi_74 _ (List.mem_of_getElem? (i := 6) rfl)
theorem qw_1191 : (Cond.static yX13_allSkins) ∈ wsL_law := WLi_74 _ (List.mem_of_getElem? (i := 7) rfl)
theorem qw_1192 : (Cond.code yX13_allSkins cX13_allSkins 3 (some .int)) ∈ wsL_law := WLi_74 _ (List.mem_of_getElem? (i := 8) rfl)
theorem qw_1193 : (Cond.methodLink RL 107 yX11_meet) ∈ wsL_law := WLi_74 _ (List.mem_of_getElem? (i := 9) rfl)
theorem qw_1194 : (Cond.instanceMethod yX11_meet) ∈ wsL_law := WLi_74 _ (List.mem_of_getElem? (i := 10) rfl)
theorem qw_1195 : (Cond.selects RX11 yX11_meet yX11_meet) ∈ wsL_law := WLi_74 _ (List.mem_of_getElem? (i := 11) rfl)
theorem qw_1196 : (Cond.code yX11_meet cX11_meet 5 (some .int)) ∈ wsL_law := WLi_74 _ (List.mem_of_getElem? (i := 12) rfl)
theorem qw_1197 : (Cond.methodLink RX11 246 yX6_isMet) ∈ wsL_law := WLi_74 _ (List.mem_of_getElem? (i := 13) rfl)
theorem qw_1198 : (Cond.static yX6_isMet) ∈ wsL_law := WLi_74 _ (List.mem_of_getElem? (i := 14) rfl)
theorem qw_1199 : (Cond.code yX6_isMet cX6_isMet 7 (some .boolean)) ∈ wsL_law := WLi_74 _ (List.mem_of_getElem? (i := 15) rfl)
theorem qw_1200 : (Cond.methodLink RX6 89 Lib.Math.abs.name) ∈ wsL_law := WLi_75 _ (List.mem_of_getElem? (i := 0) rfl)
theorem qw_1201 : (Cond.static Lib.Math.abs.name) ∈ wsL_law := WLi_75 _ (List.mem_of_getElem? (i := 1) rfl)
theorem qw_1202 : (Cond.code Lib.Math.abs.name Lib.Math.abs.code 1 (some .int)) ∈ wsL_law := WLi_75 _ (List.mem_of_getElem? (i := 2) rfl)
theorem qw_1203 : (Cond.methodLink RX6 95 Lib.Math.max.name) ∈ wsL_law := WLi_75 _ (List.mem_of_getElem? (i := 3) rfl)
theorem qw_1204 : (Cond.methodLink RX6 98 Lib.Math.min.name) ∈ wsL_law := WLi_75 _ (List.mem_of_getElem? (i := 4) rfl)
theorem qw_1205 : (Cond.methodLink RL 110 yX13_meet) ∈ wsL_law := WLi_75 _ (List.mem_of_getElem? (i := 5) rfl)
theorem qw_1206 : (Cond.instanceMethod yX13_meet) ∈ wsL_law := WLi_75 _ (List.mem_of_getElem? (i := 6) rfl)
theorem qw_1207 : (Cond.selects RX13 yX13_meet yX13_meet) ∈ wsL_law := WLi_75 _ (List.mem_of_getElem? (i := 7) rfl)
theorem qw_1208 : (Cond.code yX13_meet cX13_meet 6 (some .int)) ∈ wsL_law := WLi_75 _ (List.mem_of_getElem? (i := 8) rfl)
theorem qw_1209 : (Cond.methodLink RX13 575 yX13_doMeet) ∈ wsL_law := WLi_75 _ (List.mem_of_getElem? (i := 9) rfl)
theorem qw_1210 : (Cond.instanceMethod yX13_doMeet) ∈ wsL_law := WLi_75 _ (List.mem_of_getElem? (i := 10) rfl)
theorem qw_1211 : (Cond.selects RX13 yX13_doMeet yX13_doMeet) ∈ wsL_law := WLi_75 _ (List.mem_of_getElem? (i := 11) rfl)
theorem qw_1212 : (Cond.code yX13_doMeet cX13_doMeet 8 (some .boolean)) ∈ wsL_law := WLi_75 _ (List.mem_of_getElem? (i := 12) rfl)
theorem qw_1213 : (Cond.methodLink RL 111 yX11_falls) ∈ wsL_law := WLi_75 _ (List.mem_of_getElem? (i := 13) rfl)
theorem qw_1214 : (Cond.instanceMethod yX11_falls) ∈ wsL_law := WLi_75 _ (List.mem_of_getElem? (i := 14) rfl)
theorem qw_1215 : (Cond.selects RX11 yX11_falls yX11_falls) ∈ wsL_law := WLi_75 _ (List.mem_of_getElem? (i := 15) rfl)
theorem qw_1216 : (Cond.code yX11_falls cX11_falls 5 (some .int)) ∈ wsL_law := WLi_76 _ (List.mem_of_getElem? (i := 0) rfl)
theorem qw_1217 : (Cond.methodLink RL 114 yX13_falls) ∈ wsL_law := WLi_76 _ (List.mem_of_getElem? (i := 1) rfl)
theorem qw_1218 : (Cond.instanceMethod yX13_falls) ∈ wsL_law := WLi_76 _ (List.mem_of_getElem? (i := 2) rfl)
theorem qw_1219 : (Cond.selects RX13 yX13_falls yX13_falls) ∈ wsL_law := WLi_76 _ (List.mem_of_getElem? (i := 3) rfl)
theorem qw_1220 : (Cond.code yX13_falls cX13_falls 6 (some .int)) ∈ wsL_law := WLi_76 _ (List.mem_of_getElem? (i := 4) rfl)
theorem qw_1221 : (Cond.methodLink RL 115 yX11_room) ∈ wsL_law := WLi_76 _ (List.mem_of_getElem? (i := 5) rfl)
theorem qw_1222 : (Cond.instanceMethod yX11_room) ∈ wsL_law := WLi_76 _ (List.mem_of_getElem? (i := 6) rfl)
theorem qw_1223 : (Cond.selects RX11 yX11_room yX11_room) ∈ wsL_law := WLi_76 _ (List.mem_of_getElem? (i := 7) rfl)
theorem qw_1224 : (Cond.code yX11_room cX11_room 5 (some .int)) ∈ wsL_law := WLi_76 _ (List.mem_of_getElem? (i := 8) rfl)
theorem qw_1225 : (Cond.fieldLink RX11 249 "YearSkins$State" "year" "I") ∈ wsL_law := WLi_76 _ (List.mem_of_getElem? (i := 9) rfl)
theorem qw_1226 : (Cond.methodLink RX11 252 yX7_addSkin) ∈ wsL_law := WLi_76 _ (List.mem_of_getElem? (i := 10) rfl)
theorem qw_1227 : (Cond.methodLink RL 118 yX13_room) ∈ wsL_law := WLi_76 _ (List.mem_of_getElem? (i := 11) rfl)
theorem qw_1228 : (Cond.instanceMethod yX13_room) ∈ wsL_law := WLi_76 _ (List.mem_of_getElem? (i := 12) rfl)
theorem qw_1229 : (Cond.selects RX13 yX13_room yX13_room) ∈ wsL_law := WLi_76 _ (List.mem_of_getElem? (i := 13) rfl)
theorem qw_1230 : (Cond.code yX13_room cX13_room 3 (some .int)) ∈ wsL_law := WLi_76 _ (List.mem_of_getElem? (i := 14) rfl)
theorem qw_1231 : (Cond.methodLink RL 119 yX11_first) ∈ wsL_law := WLi_76 _ (List.mem_of_getElem? (i := 15) rfl)
theorem qw_1232 : (Cond.instanceMethod yX11_first) ∈ wsL_law := WLi_77 _ (List.mem_of_getElem? (i := 0) rfl)
theorem qw_1233 : (Cond.selects RX11 yX11_first yX11_first) ∈ wsL_law := WLi_77 _ (List.mem_of_getElem? (i := 1) rfl)
theorem qw_1234 : (Cond.code yX11_first cX11_first 2 (some .int)) ∈ wsL_law := WLi_77 _ (List.mem_of_getElem? (i := 2) rfl)
theorem qw_1235 : (Cond.methodLink RX11 256 yX10_mostSkins) ∈ wsL_law := WLi_77 _ (List.mem_of_getElem? (i := 3) rfl)
theorem qw_1236 : (Cond.instanceMethod yX10_mostSkins) ∈ wsL_law := WLi_77 _ (List.mem_of_getElem? (i := 4) rfl)
theorem qw_1237 : (Cond.selects RX10 yX10_mostSkins yX10_mostSkins) ∈ wsL_law := WLi_77 _ (List.mem_of_getElem? (i := 5) rfl)
theorem qw_1238 : (Cond.code yX10_mostSkins cX10_mostSkins 8 (some .int)) ∈ wsL_law := WLi_77 _ (List.mem_of_getElem? (i := 6) rfl)
theorem qw_1239 : (Cond.methodLink RX10 129 arraycopyName) ∈ wsL_law := WLi_77 _ (List.mem_of_getElem? (i := 7) rfl)
theorem qw_1240 : (Cond.methodLink RX10 109 yX5_begin) ∈ wsL_law := WLi_77 _ (List.mem_of_getElem? (i := 8) rfl)
theorem qw_1241 : (Cond.static yX5_begin) ∈ wsL_law := WLi_77 _ (List.mem_of_getElem? (i := 9) rfl)
theorem qw_1242 : (Cond.initialized RX5) ∈ wsL_law := WLi_77 _ (List.mem_of_getElem? (i := 10) rfl)
theorem qw_1243 : (Cond.code yX5_begin cX5_begin 3 none) ∈ wsL_law := WLi_77 _ (List.mem_of_getElem? (i := 11) rfl)
theorem qw_1244 : (Cond.methodLink RX10 118 yX7_copyFrom) ∈ wsL_law := WLi_77 _ (List.mem_of_getElem? (i := 12) rfl)
theorem qw_1245 : (Cond.methodLink RX10 122 yX10_pass) ∈ wsL_law := WLi_77 _ (List.mem_of_getElem? (i := 13) rfl)
theorem qw_1246 : (Cond.methodLink RX10 126 yX7_skinsOfAll) ∈ wsL_law := WLi_77 _ (List.mem_of_getElem? (i := 14) rfl)
theorem qw_1247 : (Cond.methodLink RX10 135 yX5_advance) ∈ wsL_law := WLi_77 _ (List.mem_of_getElem? (i := 15) rfl)
theorem qw_1248 : (Cond.static yX5_advance) ∈ wsL_law := WLi_78 _ (List.mem_of_getElem? (i := 0) rfl)
theorem qw_1249 : (Cond.code yX5_advance cX5_advance 6 none) ∈ wsL_law := WLi_78 _ (List.mem_of_getElem? (i := 1) rfl)
theorem qw_1250 : (Cond.methodLink RX5 7 yX5_swap) ∈ wsL_law := WLi_78 _ (List.mem_of_getElem? (i := 2) rfl)
theorem qw_1251 : (Cond.static yX5_swap) ∈ wsL_law := WLi_78 _ (List.mem_of_getElem? (i := 3) rfl)
theorem qw_1252 : (Cond.code yX5_swap cX5_swap 4 none) ∈ wsL_law := WLi_78 _ (List.mem_of_getElem? (i := 4) rfl)
theorem qw_1253 : (Cond.methodLink RL 122 yX13_first) ∈ wsL_law := WLi_78 _ (List.mem_of_getElem? (i := 5) rfl)
theorem qw_1254 : (Cond.instanceMethod yX13_first) ∈ wsL_law := WLi_78 _ (List.mem_of_getElem? (i := 6) rfl)
theorem qw_1255 : (Cond.selects RX13 yX13_first yX13_first) ∈ wsL_law := WLi_78 _ (List.mem_of_getElem? (i := 7) rfl)
theorem qw_1256 : (Cond.code yX13_first cX13_first 3 (some .int)) ∈ wsL_law := WLi_78 _ (List.mem_of_getElem? (i := 8) rfl)
theorem qw_1257 : (Cond.fieldLink RX13 579 "YearSkinsModel" "firstMost" "I") ∈ wsL_law := WLi_78 _ (List.mem_of_getElem? (i := 9) rfl)
theorem qw_1258 : (Cond.methodLink RX13 588 yX13_findsFirst) ∈ wsL_law := WLi_78 _ (List.mem_of_getElem? (i := 10) rfl)
theorem qw_1259 : (Cond.instanceMethod yX13_findsFirst) ∈ wsL_law := WLi_78 _ (List.mem_of_getElem? (i := 11) rfl)
theorem qw_1260 : (Cond.selects RX13 yX13_findsFirst yX13_findsFirst) ∈ wsL_law := WLi_78 _ (List.mem_of_getElem? (i := 12) rfl)
theorem qw_1261 : (Cond.code yX13_findsFirst cX13_findsFirst 4 none) ∈ wsL_law := WLi_78 _ (List.mem_of_getElem? (i := 13) rfl)
theorem qw_1262 : (Cond.methodLink RX13 582 yX13_turns) ∈ wsL_law := WLi_78 _ (List.mem_of_getElem? (i := 14) rfl)
theorem qw_1263 : (Cond.static yX13_turns) ∈ wsL_law := WLi_78 _ (List.mem_of_getElem? (i := 15) rfl)
theorem qw_1264 : (Cond.code yX13_turns cX13_turns 6 (some .boolean)) ∈ wsL_law := WLi_79 _ (List.mem_of_getElem? (i := 0) rfl)
theorem qw_1265 : (Cond.methodLink RX13 585 yX13_swaps) ∈ wsL_law := WLi_79 _ (List.mem_of_getElem? (i := 1) rfl)
theorem qw_1266 : (Cond.static yX13_swaps) ∈ wsL_law := WLi_79 _ (List.mem_of_getElem? (i := 2) rfl)
theorem qw_1267 : (Cond.code yX13_swaps cX13_swaps 4 none) ∈ wsL_law := WLi_79 _ (List.mem_of_getElem? (i := 3) rfl)
theorem qw_1268 : (Cond.methodLink RL 123 yX11_firstAt) ∈ wsL_law := WLi_79 _ (List.mem_of_getElem? (i := 4) rfl)
theorem qw_1269 : (Cond.instanceMethod yX11_firstAt) ∈ wsL_law := WLi_79 _ (List.mem_of_getElem? (i := 5) rfl)
theorem qw_1270 : (Cond.selects RX11 yX11_firstAt yX11_firstAt) ∈ wsL_law := WLi_79 _ (List.mem_of_getElem? (i := 6) rfl)
theorem qw_1271 : (Cond.code yX11_firstAt cX11_firstAt 3 (some .int)) ∈ wsL_law := WLi_79 _ (List.mem_of_getElem? (i := 7) rfl)
theorem qw_1272 : (Cond.fieldLink RX11 260 "YearSkins$Years" "best" "[I") ∈ wsL_law := WLi_79 _ (List.mem_of_getElem? (i := 8) rfl)
theorem qw_1273 : (Cond.methodLink RL 126 yX13_firstAt) ∈ wsL_law := WLi_79 _ (List.mem_of_getElem? (i := 9) rfl)
theorem qw_1274 : (Cond.instanceMethod yX13_firstAt) ∈ wsL_law := WLi_79 _ (List.mem_of_getElem? (i := 10) rfl)
theorem qw_1275 : (Cond.selects RX13 yX13_firstAt yX13_firstAt) ∈ wsL_law := WLi_79 _ (List.mem_of_getElem? (i := 11) rfl)
theorem qw_1276 : (Cond.code yX13_firstAt cX13_firstAt 4 (some .int)) ∈ wsL_law := WLi_79 _ (List.mem_of_getElem? (i := 12) rfl)
theorem qw_1277 : (Cond.methodLink RL 127 yX11_heads) ∈ wsL_law := WLi_79 _ (List.mem_of_getElem? (i := 13) rfl)
theorem qw_1278 : (Cond.instanceMethod yX11_heads) ∈ wsL_law := WLi_79 _ (List.mem_of_getElem? (i := 14) rfl)
theorem qw_1279 : (Cond.selects RX11 yX11_heads yX11_heads) ∈ wsL_law := WLi_79 _ (List.mem_of_getElem? (i := 15) rfl)
theorem qw_1280 : (Cond.code yX11_heads cX11_heads 5 (some .int)) ∈ wsL_law := WLi_80 _ (List.mem_of_getElem? (i := 0) rfl)
theorem qw_1281 : (Cond.constant RX11 263 (65537)) ∈ wsL_law := WLi_80 _ (List.mem_of_getElem? (i := 1) rfl)
theorem qw_1282 : (Cond.fieldLink RX11 264 "YearSkins$State" "seed" "I") ∈ wsL_law := WLi_80 _ (List.mem_of_getElem? (i := 2) rfl)
theorem qw_1283 : (Cond.methodLink RL 130 yX13_heads) ∈ wsL_law := WLi_80 _ (List.mem_of_getElem? (i := 3) rfl)
theorem qw_1284 : (Cond.instanceMethod yX13_heads) ∈ wsL_law := WLi_80 _ (List.mem_of_getElem? (i := 4) rfl)
theorem qw_1285 : (Cond.selects RX13 yX13_heads yX13_heads) ∈ wsL_law := WLi_80 _ (List.mem_of_getElem? (i := 5) rfl)
theorem qw_1286 : (Cond.code yX13_heads cX13_heads 6 (some .int)) ∈ wsL_law := WLi_80 _ (List.mem_of_getElem? (i := 6) rfl)
theorem qw_1287 : (Cond.constant RX13 591 (65536)) ∈ wsL_law := WLi_80 _ (List.mem_of_getElem? (i := 7) rfl)
theorem qw_1288 : (Cond.methodLink RL 131 yX11_takes) ∈ wsL_law := WLi_80 _ (List.mem_of_getElem? (i := 8) rfl)
theorem qw_1289 : (Cond.instanceMethod yX11_takes) ∈ wsL_law := WLi_80 _ (List.mem_of_getElem? (i := 9) rfl)
theorem qw_1290 : (Cond.selects RX11 yX11_takes yX11_takes) ∈ wsL_law := WLi_80 _ (List.mem_of_getElem? (i := 10) rfl)
theorem qw_1291 : (Cond.code yX11_takes cX11_takes 3 (some .int)) ∈ wsL_law := WLi_80 _ (List.mem_of_getElem? (i := 11) rfl)
theorem qw_1292 : (Cond.methodLink RX11 267 yX7_inmost) ∈ wsL_law := WLi_80 _ (List.mem_of_getElem? (i := 12) rfl)
theorem qw_1293 : (Cond.instanceMethod yX7_inmost) ∈ wsL_law := WLi_80 _ (List.mem_of_getElem? (i := 13) rfl)
theorem qw_1294 : (Cond.selects RX7 yX7_inmost yX7_inmost) ∈ wsL_law := WLi_80 _ (List.mem_of_getElem? (i := 14) rfl)
theorem qw_1295 : (Cond.code yX7_inmost cX7_inmost 3 (some .int)) ∈ wsL_law := WLi_80 _ (List.mem_of_getElem? (i := 15) rfl)
theorem qw_1296 : (Cond.methodLink RX11 270 yX11_goldIn) ∈ wsL_law := WLi_81 _ (List.mem_of_getElem? (i := 0) rfl)
theorem qw_1297 : (Cond.instanceMethod yX11_goldIn) ∈ wsL_law := WLi_81 _ (List.mem_of_getElem? (i := 1) rfl)
theorem qw_1298 : (Cond.selects RX11 yX11_goldIn yX11_goldIn) ∈ wsL_law := WLi_81 _ (List.mem_of_getElem? (i := 2) rfl)
theorem qw_1299 : (Cond.code yX11_goldIn cX11_goldIn 3 (some .int)) ∈ wsL_law := WLi_81 _ (List.mem_of_getElem? (i := 3) rfl)
theorem qw_1300 : (Cond.methodLink RL 134 yX13_takes) ∈ wsL_law := WLi_81 _ (List.mem_of_getElem? (i := 4) rfl)
theorem qw_1301 : (Cond.instanceMethod yX13_takes) ∈ wsL_law := WLi_81 _ (List.mem_of_getElem? (i := 5) rfl)
theorem qw_1302 : (Cond.selects RX13 yX13_takes yX13_takes) ∈ wsL_law := WLi_81 _ (List.mem_of_getElem? (i := 6) rfl)
theorem qw_1303 : (Cond.code yX13_takes cX13_takes 2 (some .int)) ∈ wsL_law := WLi_81 _ (List.mem_of_getElem? (i := 7) rfl)
theorem qw_1304 : (Cond.methodLink RX13 592 yX13_inmost) ∈ wsL_law := WLi_81 _ (List.mem_of_getElem? (i := 8) rfl)
theorem qw_1305 : (Cond.instanceMethod yX13_inmost) ∈ wsL_law := WLi_81 _ (List.mem_of_getElem? (i := 9) rfl)
theorem qw_1306 : (Cond.selects RX13 yX13_inmost yX13_inmost) ∈ wsL_law := WLi_81 _ (List.mem_of_getElem? (i := 10) rfl)
theorem qw_1307 : (Cond.code yX13_inmost cX13_inmost 3 (some .int)) ∈ wsL_law := WLi_81 _ (List.mem_of_getElem? (i := 11) rfl)
theorem qw_1308 : (Cond.methodLink RX13 595 yX13_goldOf) ∈ wsL_law := WLi_81 _ (List.mem_of_getElem? (i := 12) rfl)
theorem qw_1309 : (Cond.instanceMethod yX13_goldOf) ∈ wsL_law := WLi_81 _ (List.mem_of_getElem? (i := 13) rfl)
theorem qw_1310 : (Cond.selects RX13 yX13_goldOf yX13_goldOf) ∈ wsL_law := WLi_81 _ (List.mem_of_getElem? (i := 14) rfl)
theorem qw_1311 : (Cond.code yX13_goldOf cX13_goldOf 3 (some .int)) ∈ wsL_law := WLi_81 _ (List.mem_of_getElem? (i := 15) rfl)
theorem qw_1312 : (Cond.methodLink RL 135 yX11_worth) ∈ wsL_law := WLi_82 _ (List.mem_of_getElem? (i := 0) rfl)
theorem qw_1313 : (Cond.instanceMethod yX11_worth) ∈ wsL_law := WLi_82 _ (List.mem_of_getElem? (i := 1) rfl)
theorem qw_1314 : (Cond.selects RX11 yX11_worth yX11_worth) ∈ wsL_law := WLi_82 _ (List.mem_of_getElem? (i := 2) rfl)
theorem qw_1315 : (Cond.code yX11_worth cX11_worth 4 (some .int)) ∈ wsL_law := WLi_82 _ (List.mem_of_getElem? (i := 3) rfl)
theorem qw_1316 : (Cond.methodLink RX11 273 yX11_isLivedIn) ∈ wsL_law := WLi_82 _ (List.mem_of_getElem? (i := 4) rfl)
theorem qw_1317 : (Cond.instanceMethod yX11_isLivedIn) ∈ wsL_law := WLi_82 _ (List.mem_of_getElem? (i := 5) rfl)
theorem qw_1318 : (Cond.selects RX11 yX11_isLivedIn yX11_isLivedIn) ∈ wsL_law := WLi_82 _ (List.mem_of_getElem? (i := 6) rfl)
theorem qw_1319 : (Cond.code yX11_isLivedIn cX11_isLivedIn 4 (some .boolean)) ∈ wsL_law := WLi_82 _ (List.mem_of_getElem? (i := 7) rfl)
theorem qw_1320 : (Cond.methodLink RL 138 yX13_worth) ∈ wsL_law := WLi_82 _ (List.mem_of_getElem? (i := 8) rfl)
theorem qw_1321 : (Cond.instanceMethod yX13_worth) ∈ wsL_law := WLi_82 _ (List.mem_of_getElem? (i := 9) rfl)
theorem qw_1322 : (Cond.selects RX13 yX13_worth yX13_worth) ∈ wsL_law := WLi_82 _ (List.mem_of_getElem? (i := 10) rfl)
theorem qw_1323 : (Cond.code yX13_worth cX13_worth 4 (some .int)) ∈ wsL_law := WLi_82 _ (List.mem_of_getElem? (i := 11) rfl)
theorem qw_1324 : (Cond.methodLink RX13 598 yX13_isLivedIn) ∈ wsL_law := WLi_82 _ (List.mem_of_getElem? (i := 12) rfl)
theorem qw_1325 : (Cond.instanceMethod yX13_isLivedIn) ∈ wsL_law := WLi_82 _ (List.mem_of_getElem? (i := 13) rfl)
theorem qw_1326 : (Cond.selects RX13 yX13_isLivedIn yX13_isLivedIn) ∈ wsL_law := WLi_82 _ (List.mem_of_getElem? (i := 14) rfl)
theorem qw_1327 : (Cond.code yX13_isLivedIn cX13_isLivedIn 4 (some .boolean)) ∈ wsL_law := WLi_82 _ (List.mem_of_getElem? (i := 15) rfl)
theorem qw_1328 : (Cond.methodLink RL 139 yX11_orders) ∈ wsL_law := WLi_83 _ (List.mem_of_getElem? (i := 0) rfl)
theorem qw_1329 : (Cond.instanceMethod yX11_orders) ∈ wsL_law := WLi_83 _ (List.mem_of_getElem? (i := 1) rfl)
theorem qw_1330 : (Cond.selects RX11 yX11_orders yX11_orders) ∈ wsL_law := WLi_83 _ (List.mem_of_getElem? (i := 2) rfl)
theorem qw_1331 : (Cond.code yX11_orders cX11_orders 1 (some .int)) ∈ wsL_law := WLi_83 _ (List.mem_of_getElem? (i := 3) rfl)
theorem qw_1332 : (Cond.fieldLink RX11 280 "YearSkins$WallOrders" "count" "I") ∈ wsL_law := WLi_83 _ (List.mem_of_getElem? (i := 4) rfl)
theorem qw_1333 : (Cond.methodLink RX11 276 yX9_lookAtAll) ∈ wsL_law := WLi_83 _ (List.mem_of_getElem? (i := 5) rfl)
theorem qw_1334 : (Cond.instanceMethod yX9_lookAtAll) ∈ wsL_law := WLi_83 _ (List.mem_of_getElem? (i := 6) rfl)
theorem qw_1335 : (Cond.selects RX9 yX9_lookAtAll yX9_lookAtAll) ∈ wsL_law := WLi_83 _ (List.mem_of_getElem? (i := 7) rfl)
theorem qw_1336 : (Cond.code yX9_lookAtAll cX9_lookAtAll 4 none) ∈ wsL_law := WLi_83 _ (List.mem_of_getElem? (i := 8) rfl)
theorem qw_1337 : (Cond.fieldLink RX9 27 "YearSkins$WallOrders" "count" "I") ∈ wsL_law := WLi_83 _ (List.mem_of_getElem? (i := 9) rfl)
theorem qw_1338 : (Cond.fieldLink RX9 31 "YearSkins$Land" "walls" "I") ∈ wsL_law := WLi_83 _ (List.mem_of_getElem? (i := 10) rfl)
theorem qw_1339 : (Cond.methodLink RX9 36 yX5_begin) ∈ wsL_law := WLi_83 _ (List.mem_of_getElem? (i := 11) rfl)
theorem qw_1340 : (Cond.methodLink RX9 45 yX9_canBe) ∈ wsL_law := WLi_83 _ (List.mem_of_getElem? (i := 12) rfl)
theorem qw_1341 : (Cond.instanceMethod yX9_canBe) ∈ wsL_law := WLi_83 _ (List.mem_of_getElem? (i := 13) rfl)
theorem qw_1342 : (Cond.selects RX9 yX9_canBe yX9_canBe) ∈ wsL_law := WLi_83 _ (List.mem_of_getElem? (i := 14) rfl)
theorem qw_1343 : (Cond.code yX9_canBe cX9_canBe 8 (some .boolean)) ∈ wsL_law := WLi_83 _ (List.mem_of_getElem? (i := 15) rfl)
theorem qw_1344 : (Cond.fieldLink RX9 56 "YearSkins$Land" "needs" "[I") ∈ wsL_law := WLi_84 _ (List.mem_of_getElem? (i := 0) rfl)
theorem qw_1345 : (Cond.fieldLink RX9 59 "YearSkins$Land" "coins" "[I") ∈ wsL_law := WLi_84 _ (List.mem_of_getElem? (i := 1) rfl)
theorem qw_1346 : (Cond.methodLink RX9 62 Lib.Math.max.name) ∈ wsL_law := WLi_84 _ (List.mem_of_getElem? (i := 2) rfl)
theorem qw_1347 : (Cond.methodLink RX9 68 yX9_lastFor) ∈ wsL_law := WLi_84 _ (List.mem_of_getElem? (i := 3) rfl)
theorem qw_1348 : (Cond.static yX9_lastFor) ∈ wsL_law := WLi_84 _ (List.mem_of_getElem? (i := 4) rfl)
theorem qw_1349 : (Cond.code yX9_lastFor cX9_lastFor 4 (some .int)) ∈ wsL_law := WLi_84 _ (List.mem_of_getElem? (i := 5) rfl)
theorem qw_1350 : (Cond.fieldLink RX9 72 "YearSkins$Land" "smells" "[I") ∈ wsL_law := WLi_84 _ (List.mem_of_getElem? (i := 6) rfl)
theorem qw_1351 : (Cond.methodLink RX9 75 Lib.Math.min.name) ∈ wsL_law := WLi_84 _ (List.mem_of_getElem? (i := 7) rfl)
theorem qw_1352 : (Cond.methodLink RX9 49 yX9_noteRow) ∈ wsL_law := WLi_84 _ (List.mem_of_getElem? (i := 8) rfl)
theorem qw_1353 : (Cond.instanceMethod yX9_noteRow) ∈ wsL_law := WLi_84 _ (List.mem_of_getElem? (i := 9) rfl)
theorem qw_1354 : (Cond.selects RX9 yX9_noteRow yX9_noteRow) ∈ wsL_law := WLi_84 _ (List.mem_of_getElem? (i := 10) rfl)
theorem qw_1355 : (Cond.code yX9_noteRow cX9_noteRow 7 none) ∈ wsL_law := WLi_84 _ (List.mem_of_getElem? (i := 11) rfl)
theorem qw_1356 : (Cond.methodLink RX9 53 yX5_advance) ∈ wsL_law := WLi_84 _ (List.mem_of_getElem? (i := 12) rfl)
theorem qw_1357 : (Cond.methodLink RL 142 yX13_orders) ∈ wsL_law := WLi_84 _ (List.mem_of_getElem? (i := 13) rfl)
theorem qw_1358 : (Cond.instanceMethod yX13_orders) ∈ wsL_law := WLi_84 _ (List.mem_of_getElem? (i := 14) rfl)
theorem qw_1359 : (Cond.selects RX13 yX13_orders yX13_orders) ∈ wsL_law := WLi_84 _ (List.mem_of_getElem? (i := 15) rfl)
theorem qw_1360 : (Cond.code yX13_orders cX13_orders 1 (some .int)) ∈ wsL_law := WLi_85 _ (List.mem_of_getElem? (i := 0) rfl)
theorem qw_1361 : (Cond.fieldLink RX13 604 "YearSkinsModel" "many" "I") ∈ wsL_law := WLi_85 _ (List.mem_of_getElem? (i := 1) rfl)
theorem qw_1362 : (Cond.methodLink RX13 610 yX13_findsOrders) ∈ wsL_law := WLi_85 _ (List.mem_of_getElem? (i := 2) rfl)
theorem qw_1363 : (Cond.instanceMethod yX13_findsOrders) ∈ wsL_law := WLi_85 _ (List.mem_of_getElem? (i := 3) rfl)
theorem qw_1364 : (Cond.selects RX13 yX13_findsOrders yX13_findsOrders) ∈ wsL_law := WLi_85 _ (List.mem_of_getElem? (i := 4) rfl)
theorem qw_1365 : (Cond.code yX13_findsOrders cX13_findsOrders 6 none) ∈ wsL_law := WLi_85 _ (List.mem_of_getElem? (i := 5) rfl)
theorem qw_1366 : (Cond.methodLink RX13 607 yX13_canBe) ∈ wsL_law := WLi_85 _ (List.mem_of_getElem? (i := 6) rfl)
theorem qw_1367 : (Cond.instanceMethod yX13_canBe) ∈ wsL_law := WLi_85 _ (List.mem_of_getElem? (i := 7) rfl)
theorem qw_1368 : (Cond.selects RX13 yX13_canBe yX13_canBe) ∈ wsL_law := WLi_85 _ (List.mem_of_getElem? (i := 8) rfl)
theorem qw_1369 : (Cond.code yX13_canBe cX13_canBe 5 (some .boolean)) ∈ wsL_law := WLi_85 _ (List.mem_of_getElem? (i := 9) rfl)
theorem qw_1370 : (Cond.methodLink RX13 601 yX13_before) ∈ wsL_law := WLi_85 _ (List.mem_of_getElem? (i := 10) rfl)
theorem qw_1371 : (Cond.instanceMethod yX13_before) ∈ wsL_law := WLi_85 _ (List.mem_of_getElem? (i := 11) rfl)
theorem qw_1372 : (Cond.selects RX13 yX13_before yX13_before) ∈ wsL_law := WLi_85 _ (List.mem_of_getElem? (i := 12) rfl)
theorem qw_1373 : (Cond.code yX13_before cX13_before 2 (some .int)) ∈ wsL_law := WLi_85 _ (List.mem_of_getElem? (i := 13) rfl)
theorem qw_1374 : (Cond.methodLink RL 143 yX11_order) ∈ wsL_law := WLi_85 _ (List.mem_of_getElem? (i := 14) rfl)
theorem qw_1375 : (Cond.instanceMethod yX11_order) ∈ wsL_law := WLi_85 _ (List.mem_of_getElem? (i := 15) rfl)
theorem qw_1376 : (Cond.selects RX11 yX11_order yX11_order) ∈ wsL_law := WLi_86 _ (List.mem_of_getElem? (i := 0) rfl)
theorem qw_1377 : (Cond.code yX11_order cX11_order 4 (some .int)) ∈ wsL_law := WLi_86 _ (List.mem_of_getElem? (i := 1) rfl)
theorem qw_1378 : (Cond.fieldLink RX11 286 "YearSkins" "ROWS_OF" "[I") ∈ wsL_law := WLi_86 _ (List.mem_of_getElem? (i := 2) rfl)
theorem qw_1379 : (Cond.methodLink RX11 283 yX11_isWall) ∈ wsL_law := WLi_86 _ (List.mem_of_getElem? (i := 3) rfl)
theorem qw_1380 : (Cond.instanceMethod yX11_isWall) ∈ wsL_law := WLi_86 _ (List.mem_of_getElem? (i := 4) rfl)
theorem qw_1381 : (Cond.selects RX11 yX11_isWall yX11_isWall) ∈ wsL_law := WLi_86 _ (List.mem_of_getElem? (i := 5) rfl)
theorem qw_1382 : (Cond.code yX11_isWall cX11_isWall 2 (some .boolean)) ∈ wsL_law := WLi_86 _ (List.mem_of_getElem? (i := 6) rfl)
theorem qw_1383 : (Cond.fieldLink RX11 359 "YearSkins$Land" "walls" "I") ∈ wsL_law := WLi_86 _ (List.mem_of_getElem? (i := 7) rfl)
theorem qw_1384 : (Cond.methodLink RX11 289 yX9_wallAt) ∈ wsL_law := WLi_86 _ (List.mem_of_getElem? (i := 8) rfl)
theorem qw_1385 : (Cond.instanceMethod yX9_wallAt) ∈ wsL_law := WLi_86 _ (List.mem_of_getElem? (i := 9) rfl)
theorem qw_1386 : (Cond.selects RX9 yX9_wallAt yX9_wallAt) ∈ wsL_law := WLi_86 _ (List.mem_of_getElem? (i := 10) rfl)
theorem qw_1387 : (Cond.code yX9_wallAt cX9_wallAt 7 (some .int)) ∈ wsL_law := WLi_86 _ (List.mem_of_getElem? (i := 11) rfl)
theorem qw_1388 : (Cond.methodLink RL 146 yX13_order) ∈ wsL_law := WLi_86 _ (List.mem_of_getElem? (i := 12) rfl)
theorem qw_1389 : (Cond.instanceMethod yX13_order) ∈ wsL_law := WLi_86 _ (List.mem_of_getElem? (i := 13) rfl)
theorem qw_1390 : (Cond.selects RX13 yX13_order yX13_order) ∈ wsL_law := WLi_86 _ (List.mem_of_getElem? (i := 14) rfl)
theorem qw_1391 : (Cond.code yX13_order cX13_order 3 (some .int)) ∈ wsL_law := WLi_86 _ (List.mem_of_getElem? (i := 15) rfl)
theorem qw_1392 : (Cond.methodLink RX13 613 yX13_isWall) ∈ wsL_law := WLi_87 _ (List.mem_of_getElem? (i := 0) rfl)
theorem qw_1393 : (Cond.instanceMethod yX13_isWall) ∈ wsL_law := WLi_87 _ (List.mem_of_getElem? (i := 1) rfl)
theorem qw_1394 : (Cond.selects RX13 yX13_isWall yX13_isWall) ∈ wsL_law := WLi_87 _ (List.mem_of_getElem? (i := 2) rfl)
theorem qw_1395 : (Cond.code yX13_isWall cX13_isWall 2 (some .boolean)) ∈ wsL_law := WLi_87 _ (List.mem_of_getElem? (i := 3) rfl)
theorem qw_1396 : (Cond.methodLink RL 147 yX11_soonest) ∈ wsL_law := WLi_87 _ (List.mem_of_getElem? (i := 4) rfl)
theorem qw_1397 : (Cond.instanceMethod yX11_soonest) ∈ wsL_law := WLi_87 _ (List.mem_of_getElem? (i := 5) rfl)
theorem qw_1398 : (Cond.selects RX11 yX11_soonest yX11_soonest) ∈ wsL_law := WLi_87 _ (List.mem_of_getElem? (i := 6) rfl)
theorem qw_1399 : (Cond.code yX11_soonest cX11_soonest 2 (some .int)) ∈ wsL_law := WLi_87 _ (List.mem_of_getElem? (i := 7) rfl)
theorem qw_1400 : (Cond.fieldLink RX11 293 "YearSkins$WallOrders" "soon" "[I") ∈ wsL_law := WLi_87 _ (List.mem_of_getElem? (i := 8) rfl)
theorem qw_1401 : (Cond.methodLink RL 150 yX13_soonest) ∈ wsL_law := WLi_87 _ (List.mem_of_getElem? (i := 9) rfl)
theorem qw_1402 : (Cond.instanceMethod yX13_soonest) ∈ wsL_law := WLi_87 _ (List.mem_of_getElem? (i := 10) rfl)
theorem qw_1403 : (Cond.selects RX13 yX13_soonest yX13_soonest) ∈ wsL_law := WLi_87 _ (List.mem_of_getElem? (i := 11) rfl)
theorem qw_1404 : (Cond.code yX13_soonest cX13_soonest 2 (some .int)) ∈ wsL_law := WLi_87 _ (List.mem_of_getElem? (i := 12) rfl)
theorem qw_1405 : (Cond.methodLink RL 151 yX11_latest) ∈ wsL_law := WLi_87 _ (List.mem_of_getElem? (i := 13) rfl)
theorem qw_1406 : (Cond.instanceMethod yX11_latest) ∈ wsL_law := WLi_87 _ (List.mem_of_getElem? (i := 14) rfl)
theorem qw_1407 : (Cond.selects RX11 yX11_latest yX11_latest) ∈ wsL_law := WLi_87 _ (List.mem_of_getElem? (i := 15) rfl)
theorem qw_1408 : (Cond.code yX11_latest cX11_latest 2 (some .int)) ∈ wsL_law := WLi_88 _ (List.mem_of_getElem? (i := 0) rfl)
theorem qw_1409 : (Cond.fieldLink RX11 296 "YearSkins$WallOrders" "late" "[I") ∈ wsL_law := WLi_88 _ (List.mem_of_getElem? (i := 1) rfl)
theorem qw_1410 : (Cond.methodLink RL 154 yX13_latest) ∈ wsL_law := WLi_88 _ (List.mem_of_getElem? (i := 2) rfl)
theorem qw_1411 : (Cond.instanceMethod yX13_latest) ∈ wsL_law := WLi_88 _ (List.mem_of_getElem? (i := 3) rfl)
theorem qw_1412 : (Cond.selects RX13 yX13_latest yX13_latest) ∈ wsL_law := WLi_88 _ (List.mem_of_getElem? (i := 4) rfl)
theorem qw_1413 : (Cond.code yX13_latest cX13_latest 2 (some .int)) ∈ wsL_law := WLi_88 _ (List.mem_of_getElem? (i := 5) rfl)
theorem qw_1414 : (Cond.methodLink RL 155 yX11_surely) ∈ wsL_law := WLi_88 _ (List.mem_of_getElem? (i := 6) rfl)
theorem qw_1415 : (Cond.instanceMethod yX11_surely) ∈ wsL_law := WLi_88 _ (List.mem_of_getElem? (i := 7) rfl)
theorem qw_1416 : (Cond.selects RX11 yX11_surely yX11_surely) ∈ wsL_law := WLi_88 _ (List.mem_of_getElem? (i := 8) rfl)
theorem qw_1417 : (Cond.code yX11_surely cX11_surely 4 (some .int)) ∈ wsL_law := WLi_88 _ (List.mem_of_getElem? (i := 9) rfl)
theorem qw_1418 : (Cond.fieldLink RX11 299 "YearSkins$WallOrders" "sureAhead" "[I") ∈ wsL_law := WLi_88 _ (List.mem_of_getElem? (i := 10) rfl)
theorem qw_1419 : (Cond.methodLink RL 158 yX13_surely) ∈ wsL_law := WLi_88 _ (List.mem_of_getElem? (i := 11) rfl)
theorem qw_1420 : (Cond.instanceMethod yX13_surely) ∈ wsL_law := WLi_88 _ (List.mem_of_getElem? (i := 12) rfl)
theorem qw_1421 : (Cond.selects RX13 yX13_surely yX13_surely) ∈ wsL_law := WLi_88 _ (List.mem_of_getElem? (i := 13) rfl)
theorem qw_1422 : (Cond.code yX13_surely cX13_surely 3 (some .int)) ∈ wsL_law := WLi_88 _ (List.mem_of_getElem? (i := 14) rfl)
theorem qw_1423 : (Cond.methodLink RL 159 yX11_years) ∈ wsL_law := WLi_88 _ (List.mem_of_getElem? (i := 15) rfl)
theorem qw_1424 : (Cond.instanceMethod yX11_years) ∈ wsL_law := WLi_89 _ (List.mem_of_getElem? (i := 0) rfl)
theorem qw_1425 : (Cond.selects RX11 yX11_years yX11_years) ∈ wsL_law := WLi_89 _ (List.mem_of_getElem? (i := 1) rfl)
theorem qw_1426 : (Cond.code yX11_years cX11_years 3 (some .int)) ∈ wsL_law := WLi_89 _ (List.mem_of_getElem? (i := 2) rfl)
theorem qw_1427 : (Cond.methodLink RX11 302 yX2_keep) ∈ wsL_law := WLi_89 _ (List.mem_of_getElem? (i := 3) rfl)
theorem qw_1428 : (Cond.instanceMethod yX2_keep) ∈ wsL_law := WLi_89 _ (List.mem_of_getElem? (i := 4) rfl)
theorem qw_1429 : (Cond.selects RX2 yX2_keep yX2_keep) ∈ wsL_law := WLi_89 _ (List.mem_of_getElem? (i := 5) rfl)
theorem qw_1430 : (Cond.code yX2_keep cX2_keep 2 none) ∈ wsL_law := WLi_89 _ (List.mem_of_getElem? (i := 6) rfl)
theorem qw_1431 : (Cond.fieldLink RX2 28 "YearSkins$Past" "oldest" "I") ∈ wsL_law := WLi_89 _ (List.mem_of_getElem? (i := 7) rfl)
theorem qw_1432 : (Cond.methodLink RX2 31 yX7_copyFrom) ∈ wsL_law := WLi_89 _ (List.mem_of_getElem? (i := 8) rfl)
theorem qw_1433 : (Cond.methodLink RL 162 yX13_years) ∈ wsL_law := WLi_89 _ (List.mem_of_getElem? (i := 9) rfl)
theorem qw_1434 : (Cond.instanceMethod yX13_years) ∈ wsL_law := WLi_89 _ (List.mem_of_getElem? (i := 10) rfl)
theorem qw_1435 : (Cond.selects RX13 yX13_years yX13_years) ∈ wsL_law := WLi_89 _ (List.mem_of_getElem? (i := 11) rfl)
theorem qw_1436 : (Cond.code yX13_years cX13_years 3 (some .int)) ∈ wsL_law := WLi_89 _ (List.mem_of_getElem? (i := 12) rfl)
theorem qw_1437 : (Cond.methodLink RX13 616 yX13_keeps) ∈ wsL_law := WLi_89 _ (List.mem_of_getElem? (i := 13) rfl)
theorem qw_1438 : (Cond.instanceMethod yX13_keeps) ∈ wsL_law := WLi_89 _ (List.mem_of_getElem? (i := 14) rfl)
theorem qw_1439 : (Cond.selects RX13 yX13_keeps yX13_keeps) ∈ wsL_law := WLi_89 _ (List.mem_of_getElem? (i := 15) rfl)
theorem qw_1440 : (Cond.code yX13_keeps cX13_keeps 2 none) ∈ wsL_law := WLi_90 _ (List.mem_of_getElem? (i := 0) rfl)
theorem qw_1441 : (Cond.methodLink RL 163 yX11_build) ∈ wsL_law := WLi_90 _ (List.mem_of_getElem? (i := 1) rfl)
theorem qw_1442 : (Cond.instanceMethod yX11_build) ∈ wsL_law := WLi_90 _ (List.mem_of_getElem? (i := 2) rfl)
theorem qw_1443 : (Cond.selects RX11 yX11_build yX11_build) ∈ wsL_law := WLi_90 _ (List.mem_of_getElem? (i := 3) rfl)
theorem qw_1444 : (Cond.code yX11_build cX11_build 8 (some .int)) ∈ wsL_law := WLi_90 _ (List.mem_of_getElem? (i := 4) rfl)
theorem qw_1445 : (Cond.methodLink RX11 305 yX6_isFrontFree) ∈ wsL_law := WLi_90 _ (List.mem_of_getElem? (i := 5) rfl)
theorem qw_1446 : (Cond.methodLink RL 166 yX13_build) ∈ wsL_law := WLi_90 _ (List.mem_of_getElem? (i := 6) rfl)
theorem qw_1447 : (Cond.instanceMethod yX13_build) ∈ wsL_law := WLi_90 _ (List.mem_of_getElem? (i := 7) rfl)
theorem qw_1448 : (Cond.selects RX13 yX13_build yX13_build) ∈ wsL_law := WLi_90 _ (List.mem_of_getElem? (i := 8) rfl)
theorem qw_1449 : (Cond.code yX13_build cX13_build 8 (some .int)) ∈ wsL_law := WLi_90 _ (List.mem_of_getElem? (i := 9) rfl)
theorem qw_1450 : (Cond.methodLink RL 167 yX11_fill) ∈ wsL_law := WLi_90 _ (List.mem_of_getElem? (i := 10) rfl)
theorem qw_1451 : (Cond.instanceMethod yX11_fill) ∈ wsL_law := WLi_90 _ (List.mem_of_getElem? (i := 11) rfl)
theorem qw_1452 : (Cond.selects RX11 yX11_fill yX11_fill) ∈ wsL_law := WLi_90 _ (List.mem_of_getElem? (i := 12) rfl)
theorem qw_1453 : (Cond.code yX11_fill cX11_fill 3 (some .boolean)) ∈ wsL_law := WLi_90 _ (List.mem_of_getElem? (i := 13) rfl)
theorem qw_1454 : (Cond.methodLink RX11 309 yX11_no) ∈ wsL_law := WLi_90 _ (List.mem_of_getElem? (i := 14) rfl)
theorem qw_1455 : (Cond.instanceMethod yX11_no) ∈ wsL_law := WLi_90 _ (List.mem_of_getElem? (i := 15) rfl)
theorem qw_1456 : (Cond.selects RX11 yX11_no yX11_no) ∈ wsL_law := WLi_91 _ (List.mem_of_getElem? (i := 0) rfl)
theorem qw_1457 : (Cond.code yX11_no cX11_no 2 (some .boolean)) ∈ wsL_law := WLi_91 _ (List.mem_of_getElem? (i := 1) rfl)
theorem qw_1458 : (Cond.methodLink RX11 312 yX7_isOpen) ∈ wsL_law := WLi_91 _ (List.mem_of_getElem? (i := 2) rfl)
theorem qw_1459 : (Cond.methodLink RX11 315 yX7_setPart) ∈ wsL_law := WLi_91 _ (List.mem_of_getElem? (i := 3) rfl)
theorem qw_1460 : (Cond.methodLink RX11 319 yX11_yes) ∈ wsL_law := WLi_91 _ (List.mem_of_getElem? (i := 4) rfl)
theorem qw_1461 : (Cond.instanceMethod yX11_yes) ∈ wsL_law := WLi_91 _ (List.mem_of_getElem? (i := 5) rfl)
theorem qw_1462 : (Cond.selects RX11 yX11_yes yX11_yes) ∈ wsL_law := WLi_91 _ (List.mem_of_getElem? (i := 6) rfl)
theorem qw_1463 : (Cond.code yX11_yes cX11_yes 1 (some .boolean)) ∈ wsL_law := WLi_91 _ (List.mem_of_getElem? (i := 7) rfl)
theorem qw_1464 : (Cond.methodLink RL 171 yX13_fill) ∈ wsL_law := WLi_91 _ (List.mem_of_getElem? (i := 8) rfl)
theorem qw_1465 : (Cond.instanceMethod yX13_fill) ∈ wsL_law := WLi_91 _ (List.mem_of_getElem? (i := 9) rfl)
theorem qw_1466 : (Cond.selects RX13 yX13_fill yX13_fill) ∈ wsL_law := WLi_91 _ (List.mem_of_getElem? (i := 10) rfl)
theorem qw_1467 : (Cond.code yX13_fill cX13_fill 3 (some .boolean)) ∈ wsL_law := WLi_91 _ (List.mem_of_getElem? (i := 11) rfl)
theorem qw_1468 : (Cond.methodLink RX13 619 yX13_denied) ∈ wsL_law := WLi_91 _ (List.mem_of_getElem? (i := 12) rfl)
theorem qw_1469 : (Cond.instanceMethod yX13_denied) ∈ wsL_law := WLi_91 _ (List.mem_of_getElem? (i := 13) rfl)
theorem qw_1470 : (Cond.selects RX13 yX13_denied yX13_denied) ∈ wsL_law := WLi_91 _ (List.mem_of_getElem? (i := 14) rfl)
theorem qw_1471 : (Cond.code yX13_denied cX13_denied 2 (some .boolean)) ∈ wsL_law := WLi_91 _ (List.mem_of_getElem? (i := 15) rfl)
theorem qw_1472 : (Cond.methodLink RX13 622 yX13_granted) ∈ wsL_law := WLi_92 _ (List.mem_of_getElem? (i := 0) rfl)
theorem qw_1473 : (Cond.instanceMethod yX13_granted) ∈ wsL_law := WLi_92 _ (List.mem_of_getElem? (i := 1) rfl)
theorem qw_1474 : (Cond.selects RX13 yX13_granted yX13_granted) ∈ wsL_law := WLi_92 _ (List.mem_of_getElem? (i := 2) rfl)
theorem qw_1475 : (Cond.code yX13_granted cX13_granted 1 (some .boolean)) ∈ wsL_law := WLi_92 _ (List.mem_of_getElem? (i := 3) rfl)
theorem qw_1476 : (Cond.methodLink RL 172 yX11_take) ∈ wsL_law := WLi_92 _ (List.mem_of_getElem? (i := 4) rfl)
theorem qw_1477 : (Cond.instanceMethod yX11_take) ∈ wsL_law := WLi_92 _ (List.mem_of_getElem? (i := 5) rfl)
theorem qw_1478 : (Cond.selects RX11 yX11_take yX11_take) ∈ wsL_law := WLi_92 _ (List.mem_of_getElem? (i := 6) rfl)
theorem qw_1479 : (Cond.code yX11_take cX11_take 4 (some .int)) ∈ wsL_law := WLi_92 _ (List.mem_of_getElem? (i := 7) rfl)
theorem qw_1480 : (Cond.methodLink RX11 323 Lib.Math.min.name) ∈ wsL_law := WLi_92 _ (List.mem_of_getElem? (i := 8) rfl)
theorem qw_1481 : (Cond.methodLink RL 175 yX13_take) ∈ wsL_law := WLi_92 _ (List.mem_of_getElem? (i := 9) rfl)
theorem qw_1482 : (Cond.instanceMethod yX13_take) ∈ wsL_law := WLi_92 _ (List.mem_of_getElem? (i := 10) rfl)
theorem qw_1483 : (Cond.selects RX13 yX13_take yX13_take) ∈ wsL_law := WLi_92 _ (List.mem_of_getElem? (i := 11) rfl)
theorem qw_1484 : (Cond.code yX13_take cX13_take 4 (some .int)) ∈ wsL_law := WLi_92 _ (List.mem_of_getElem? (i := 12) rfl)
theorem qw_1485 : (Cond.methodLink RL 176 yX11_lock) ∈ wsL_law := WLi_92 _ (List.mem_of_getElem? (i := 13) rfl)
theorem qw_1486 : (Cond.instanceMethod yX11_lock) ∈ wsL_law := WLi_92 _ (List.mem_of_getElem? (i := 14) rfl)
theorem qw_1487 : (Cond.selects RX11 yX11_lock yX11_lock) ∈ wsL_law := WLi_92 _ (List.mem_of_getElem? (i := 15) rfl)
theorem qw_1488 : (Cond.code yX11_lock cX11_lock 4 (some .boolean)) ∈ wsL_law := WLi_93 _ (List.mem_of_getElem? (i := 0) rfl)
theorem qw_1489 : (Cond.methodLink RL 180 yX13_lock) ∈ wsL_law := WLi_93 _ (List.mem_of_getElem? (i := 1) rfl)
theorem qw_1490 : (Cond.instanceMethod yX13_lock) ∈ wsL_law := WLi_93 _ (List.mem_of_getElem? (i := 2) rfl)
theorem qw_1491 : (Cond.selects RX13 yX13_lock yX13_lock) ∈ wsL_law := WLi_93 _ (List.mem_of_getElem? (i := 3) rfl)
theorem qw_1492 : (Cond.code yX13_lock cX13_lock 4 (some .boolean)) ∈ wsL_law := WLi_93 _ (List.mem_of_getElem? (i := 4) rfl)
theorem qw_1493 : (Cond.methodLink RL 181 yX11_move) ∈ wsL_law := WLi_93 _ (List.mem_of_getElem? (i := 5) rfl)
theorem qw_1494 : (Cond.instanceMethod yX11_move) ∈ wsL_law := WLi_93 _ (List.mem_of_getElem? (i := 6) rfl)
theorem qw_1495 : (Cond.selects RX11 yX11_move yX11_move) ∈ wsL_law := WLi_93 _ (List.mem_of_getElem? (i := 7) rfl)
theorem qw_1496 : (Cond.code yX11_move cX11_move 3 (some .boolean)) ∈ wsL_law := WLi_93 _ (List.mem_of_getElem? (i := 8) rfl)
theorem qw_1497 : (Cond.methodLink RL 184 yX13_move) ∈ wsL_law := WLi_93 _ (List.mem_of_getElem? (i := 9) rfl)
theorem qw_1498 : (Cond.instanceMethod yX13_move) ∈ wsL_law := WLi_93 _ (List.mem_of_getElem? (i := 10) rfl)
theorem qw_1499 : (Cond.selects RX13 yX13_move yX13_move) ∈ wsL_law := WLi_93 _ (List.mem_of_getElem? (i := 11) rfl)
theorem qw_1500 : (Cond.code yX13_move cX13_move 4 (some .boolean)) ∈ wsL_law := WLi_93 _ (List.mem_of_getElem? (i := 12) rfl)
theorem qw_1501 : (Cond.methodLink RL 185 yX11_give) ∈ wsL_law := WLi_93 _ (List.mem_of_getElem? (i := 13) rfl)
theorem qw_1502 : (Cond.instanceMethod yX11_give) ∈ wsL_law := WLi_93 _ (List.mem_of_getElem? (i := 14) rfl)
theorem qw_1503 : (Cond.selects RX11 yX11_give yX11_give) ∈ wsL_law := WLi_93 _ (List.mem_of_getElem? (i := 15) rfl)
theorem qw_1504 : (Cond.code yX11_give cX11_give 4 (some .boolean)) ∈ wsL_law := WLi_94 _ (List.mem_of_getElem? (i := 0) rfl)
theorem qw_1505 : (Cond.methodLink RL 188 yX13_give) ∈ wsL_law := WLi_94 _ (List.mem_of_getElem? (i := 1) rfl)
theorem qw_1506 : (Cond.instanceMethod yX13_give) ∈ wsL_law := WLi_94 _ (List.mem_of_getElem? (i := 2) rfl)
theorem qw_1507 : (Cond.selects RX13 yX13_give yX13_give) ∈ wsL_law := WLi_94 _ (List.mem_of_getElem? (i := 3) rfl)
theorem qw_1508 : (Cond.code yX13_give cX13_give 4 (some .boolean)) ∈ wsL_law := WLi_94 _ (List.mem_of_getElem? (i := 4) rfl)
theorem qw_1509 : (Cond.methodLink RL 189 yX11_seed) ∈ wsL_law := WLi_94 _ (List.mem_of_getElem? (i := 5) rfl)
theorem qw_1510 : (Cond.instanceMethod yX11_seed) ∈ wsL_law := WLi_94 _ (List.mem_of_getElem? (i := 6) rfl)
theorem qw_1511 : (Cond.selects RX11 yX11_seed yX11_seed) ∈ wsL_law := WLi_94 _ (List.mem_of_getElem? (i := 7) rfl)
theorem qw_1512 : (Cond.code yX11_seed cX11_seed 2 (some .boolean)) ∈ wsL_law := WLi_94 _ (List.mem_of_getElem? (i := 8) rfl)
theorem qw_1513 : (Cond.methodLink RL 193 yX13_seed) ∈ wsL_law := WLi_94 _ (List.mem_of_getElem? (i := 9) rfl)
theorem qw_1514 : (Cond.instanceMethod yX13_seed) ∈ wsL_law := WLi_94 _ (List.mem_of_getElem? (i := 10) rfl)
theorem qw_1515 : (Cond.selects RX13 yX13_seed yX13_seed) ∈ wsL_law := WLi_94 _ (List.mem_of_getElem? (i := 11) rfl)
theorem qw_1516 : (Cond.code yX13_seed cX13_seed 2 (some .boolean)) ∈ wsL_law := WLi_94 _ (List.mem_of_getElem? (i := 12) rfl)
theorem qw_1517 : (Cond.methodLink RL 194 yX11_undo) ∈ wsL_law := WLi_94 _ (List.mem_of_getElem? (i := 13) rfl)
theorem qw_1518 : (Cond.instanceMethod yX11_undo) ∈ wsL_law := WLi_94 _ (List.mem_of_getElem? (i := 14) rfl)
theorem qw_1519 : (Cond.selects RX11 yX11_undo yX11_undo) ∈ wsL_law := WLi_94 _ (List.mem_of_getElem? (i := 15) rfl)
theorem qw_1520 : (Cond.code yX11_undo cX11_undo 1 (some .boolean)) ∈ wsL_law := WLi_95 _ (List.mem_of_getElem? (i := 0) rfl)
theorem qw_1521 : (Cond.methodLink RX11 326 yX2_stepBack) ∈ wsL_law := WLi_95 _ (List.mem_of_getElem? (i := 1) rfl)
theorem qw_1522 : (Cond.instanceMethod yX2_stepBack) ∈ wsL_law := WLi_95 _ (List.mem_of_getElem? (i := 2) rfl)
theorem qw_1523 : (Cond.selects RX2 yX2_stepBack yX2_stepBack) ∈ wsL_law := WLi_95 _ (List.mem_of_getElem? (i := 3) rfl)
theorem qw_1524 : (Cond.code yX2_stepBack cX2_stepBack 2 (some .boolean)) ∈ wsL_law := WLi_95 _ (List.mem_of_getElem? (i := 4) rfl)
theorem qw_1525 : (Cond.methodLink RL 198 yX13_undo) ∈ wsL_law := WLi_95 _ (List.mem_of_getElem? (i := 5) rfl)
theorem qw_1526 : (Cond.instanceMethod yX13_undo) ∈ wsL_law := WLi_95 _ (List.mem_of_getElem? (i := 6) rfl)
theorem qw_1527 : (Cond.selects RX13 yX13_undo yX13_undo) ∈ wsL_law := WLi_95 _ (List.mem_of_getElem? (i := 7) rfl)
theorem qw_1528 : (Cond.code yX13_undo cX13_undo 2 (some .boolean)) ∈ wsL_law := WLi_95 _ (List.mem_of_getElem? (i := 8) rfl)
theorem qw_1529 : (Cond.methodLink RL 199 yX11_mark) ∈ wsL_law := WLi_95 _ (List.mem_of_getElem? (i := 9) rfl)
theorem qw_1530 : (Cond.instanceMethod yX11_mark) ∈ wsL_law := WLi_95 _ (List.mem_of_getElem? (i := 10) rfl)
theorem qw_1531 : (Cond.selects RX11 yX11_mark yX11_mark) ∈ wsL_law := WLi_95 _ (List.mem_of_getElem? (i := 11) rfl)
theorem qw_1532 : (Cond.code yX11_mark cX11_mark 2 (some .int)) ∈ wsL_law := WLi_95 _ (List.mem_of_getElem? (i := 12) rfl)
theorem qw_1533 : (Cond.methodLink RX11 330 yX2_addMark) ∈ wsL_law := WLi_95 _ (List.mem_of_getElem? (i := 13) rfl)
theorem qw_1534 : (Cond.instanceMethod yX2_addMark) ∈ wsL_law := WLi_95 _ (List.mem_of_getElem? (i := 14) rfl)
theorem qw_1535 : (Cond.selects RX2 yX2_addMark yX2_addMark) ∈ wsL_law := WLi_95 _ (List.mem_of_getElem? (i := 15) rfl)
theorem qw_1536 : (Cond.code yX2_addMark cX2_addMark 2 (some .int)) ∈ wsL_law := WLi_96 _ (List.mem_of_getElem? (i := 0) rfl)
theorem qw_1537 : (Cond.methodLink RL 202 yX13_mark) ∈ wsL_law := WLi_96 _ (List.mem_of_getElem? (i := 1) rfl)
theorem qw_1538 : (Cond.instanceMethod yX13_mark) ∈ wsL_law := WLi_96 _ (List.mem_of_getElem? (i := 2) rfl)
theorem qw_1539 : (Cond.selects RX13 yX13_mark yX13_mark) ∈ wsL_law := WLi_96 _ (List.mem_of_getElem? (i := 3) rfl)
theorem qw_1540 : (Cond.code yX13_mark cX13_mark 2 (some .int)) ∈ wsL_law := WLi_96 _ (List.mem_of_getElem? (i := 4) rfl)
theorem qw_1541 : (Cond.methodLink RL 203 yX11_back) ∈ wsL_law := WLi_96 _ (List.mem_of_getElem? (i := 5) rfl)
theorem qw_1542 : (Cond.instanceMethod yX11_back) ∈ wsL_law := WLi_96 _ (List.mem_of_getElem? (i := 6) rfl)
theorem qw_1543 : (Cond.selects RX11 yX11_back yX11_back) ∈ wsL_law := WLi_96 _ (List.mem_of_getElem? (i := 7) rfl)
theorem qw_1544 : (Cond.code yX11_back cX11_back 2 (some .boolean)) ∈ wsL_law := WLi_96 _ (List.mem_of_getElem? (i := 8) rfl)
theorem qw_1545 : (Cond.methodLink RX11 334 yX2_goToMark) ∈ wsL_law := WLi_96 _ (List.mem_of_getElem? (i := 9) rfl)
theorem qw_1546 : (Cond.instanceMethod yX2_goToMark) ∈ wsL_law := WLi_96 _ (List.mem_of_getElem? (i := 10) rfl)
theorem qw_1547 : (Cond.selects RX2 yX2_goToMark yX2_goToMark) ∈ wsL_law := WLi_96 _ (List.mem_of_getElem? (i := 11) rfl)
theorem qw_1548 : (Cond.code yX2_goToMark cX2_goToMark 3 (some .boolean)) ∈ wsL_law := WLi_96 _ (List.mem_of_getElem? (i := 12) rfl)
theorem qw_1549 : (Cond.methodLink RL 206 yX13_back) ∈ wsL_law := WLi_96 _ (List.mem_of_getElem? (i := 13) rfl)
theorem qw_1550 : (Cond.instanceMethod yX13_back) ∈ wsL_law := WLi_96 _ (List.mem_of_getElem? (i := 14) rfl)
theorem qw_1551 : (Cond.selects RX13 yX13_back yX13_back) ∈ wsL_law := WLi_96 _ (List.mem_of_getElem? (i := 15) rfl)
theorem qw_1552 : (Cond.code yX13_back cX13_back 3 (some .boolean)) ∈ wsL_law := WLi_97 _ (List.mem_of_getElem? (i := 0) rfl)
theorem qw_1553 : (Cond.methodLink RL 207 yX11_stone) ∈ wsL_law := WLi_97 _ (List.mem_of_getElem? (i := 1) rfl)
theorem qw_1554 : (Cond.instanceMethod yX11_stone) ∈ wsL_law := WLi_97 _ (List.mem_of_getElem? (i := 2) rfl)
theorem qw_1555 : (Cond.selects RX11 yX11_stone yX11_stone) ∈ wsL_law := WLi_97 _ (List.mem_of_getElem? (i := 3) rfl)
theorem qw_1556 : (Cond.code yX11_stone cX11_stone 3 (some .int)) ∈ wsL_law := WLi_97 _ (List.mem_of_getElem? (i := 4) rfl)
theorem qw_1557 : (Cond.methodLink RL 210 yX13_stone) ∈ wsL_law := WLi_97 _ (List.mem_of_getElem? (i := 5) rfl)
theorem qw_1558 : (Cond.instanceMethod yX13_stone) ∈ wsL_law := WLi_97 _ (List.mem_of_getElem? (i := 6) rfl)
theorem qw_1559 : (Cond.selects RX13 yX13_stone yX13_stone) ∈ wsL_law := WLi_97 _ (List.mem_of_getElem? (i := 7) rfl)
theorem qw_1560 : (Cond.code yX13_stone cX13_stone 3 (some .int)) ∈ wsL_law := WLi_97 _ (List.mem_of_getElem? (i := 8) rfl)
theorem qw_1561 : (Cond.methodLink RL 211 yL_led) ∈ wsL_law := WLi_97 _ (List.mem_of_getElem? (i := 9) rfl)
theorem qw_1562 : (Cond.static yL_led) ∈ wsL_law := WLi_97 _ (List.mem_of_getElem? (i := 10) rfl)
theorem qw_1563 : (Cond.initialized RL) ∈ wsL_law := WLi_97 _ (List.mem_of_getElem? (i := 11) rfl)
theorem qw_1564 : (Cond.codeWith yL_led cL_led 4 (some .int) [(0, 9, 12, 13)]) ∈ wsL_law := WLi_97 _ (List.mem_of_getElem? (i := 12) rfl)
theorem qw_1565 : (Cond.classLink RL 13 "java/util/NoSuchElementException") ∈ wsL_law := WLi_97 _ (List.mem_of_getElem? (i := 13) rfl)
theorem qw_1566 : (Cond.methodLink RL 7 yX11_led) ∈ wsL_law := WLi_97 _ (List.mem_of_getElem? (i := 14) rfl)
theorem qw_1567 : (Cond.instanceMethod yX11_led) ∈ wsL_law := WLi_97 _ (List.mem_of_getElem? (i := 15) rfl)
theorem qw_1568 : (Cond.selects RX11 yX11_led yX11_led) ∈ wsL_law := WLi_98 _ (List.mem_of_getElem? (i := 0) rfl)
theorem qw_1569 : (Cond.code yX11_led cX11_led 4 (some .int)) ∈ wsL_law := WLi_98 _ (List.mem_of_getElem? (i := 1) rfl)
theorem qw_1570 : (Cond.classLink RX11 338 "java/util/NoSuchElementException") ∈ wsL_law := WLi_98 _ (List.mem_of_getElem? (i := 2) rfl)
theorem qw_1571 : (Cond.initialized "java/util/NoSuchElementException") ∈ wsL_law := WLi_98 _ (List.mem_of_getElem? (i := 3) rfl)
theorem qw_1572 : (Cond.methodLink RL 216 yX13_led) ∈ wsL_law := WLi_98 _ (List.mem_of_getElem? (i := 4) rfl)
theorem qw_1573 : (Cond.instanceMethod yX13_led) ∈ wsL_law := WLi_98 _ (List.mem_of_getElem? (i := 5) rfl)
theorem qw_1574 : (Cond.selects RX13 yX13_led yX13_led) ∈ wsL_law := WLi_98 _ (List.mem_of_getElem? (i := 6) rfl)
theorem qw_1575 : (Cond.code yX13_led cX13_led 4 (some .int)) ∈ wsL_law := WLi_98 _ (List.mem_of_getElem? (i := 7) rfl)
theorem qw_1576 : (Cond.methodLink RL 217 yX13_thrown) ∈ wsL_law := WLi_98 _ (List.mem_of_getElem? (i := 8) rfl)
theorem qw_1577 : (Cond.instanceMethod yX13_thrown) ∈ wsL_law := WLi_98 _ (List.mem_of_getElem? (i := 9) rfl)
theorem qw_1578 : (Cond.selects RX13 yX13_thrown yX13_thrown) ∈ wsL_law := WLi_98 _ (List.mem_of_getElem? (i := 10) rfl)
theorem qw_1579 : (Cond.code yX13_thrown cX13_thrown 1 (some .int)) ∈ wsL_law := WLi_98 _ (List.mem_of_getElem? (i := 11) rfl)
theorem qw_1580 : (Cond.methodLink RL 220 yX11_size) ∈ wsL_law := WLi_98 _ (List.mem_of_getElem? (i := 12) rfl)
theorem qw_1581 : (Cond.instanceMethod yX11_size) ∈ wsL_law := WLi_98 _ (List.mem_of_getElem? (i := 13) rfl)
theorem qw_1582 : (Cond.selects RX11 yX11_size yX11_size) ∈ wsL_law := WLi_98 _ (List.mem_of_getElem? (i := 14) rfl)
theorem qw_1583 : (Cond.code yX11_size cX11_size 2 (some .int)) ∈ wsL_law := WLi_98 _ (List.mem_of_getElem? (i := 15) rfl)
theorem qw_1584 : (Cond.methodLink RX11 341 yX11_sizeTold) ∈ wsL_law := WLi_99 _ (List.mem_of_getElem? (i := 0) rfl)
theorem qw_1585 : (Cond.instanceMethod yX11_sizeTold) ∈ wsL_law := WLi_99 _ (List.mem_of_getElem? (i := 1) rfl)
theorem qw_1586 : (Cond.selects RX11 yX11_sizeTold yX11_sizeTold) ∈ wsL_law := WLi_99 _ (List.mem_of_getElem? (i := 2) rfl)
theorem qw_1587 : (Cond.code yX11_sizeTold cX11_sizeTold 2 (some .int)) ∈ wsL_law := WLi_99 _ (List.mem_of_getElem? (i := 3) rfl)
theorem qw_1588 : (Cond.fieldLink RX11 347 "YearSkins$Land" "far" "Z") ∈ wsL_law := WLi_99 _ (List.mem_of_getElem? (i := 4) rfl)
theorem qw_1589 : (Cond.fieldLink RX11 350 "YearSkins$Land" "share" "Z") ∈ wsL_law := WLi_99 _ (List.mem_of_getElem? (i := 5) rfl)
theorem qw_1590 : (Cond.methodLink RX11 344 yX11_sizeNow) ∈ wsL_law := WLi_99 _ (List.mem_of_getElem? (i := 6) rfl)
theorem qw_1591 : (Cond.instanceMethod yX11_sizeNow) ∈ wsL_law := WLi_99 _ (List.mem_of_getElem? (i := 7) rfl)
theorem qw_1592 : (Cond.selects RX11 yX11_sizeNow yX11_sizeNow) ∈ wsL_law := WLi_99 _ (List.mem_of_getElem? (i := 8) rfl)
theorem qw_1593 : (Cond.code yX11_sizeNow cX11_sizeNow 2 (some .int)) ∈ wsL_law := WLi_99 _ (List.mem_of_getElem? (i := 9) rfl)
theorem qw_1594 : (Cond.fieldLink RX11 362 "YearSkins$Past" "acts" "I") ∈ wsL_law := WLi_99 _ (List.mem_of_getElem? (i := 10) rfl)
theorem qw_1595 : (Cond.fieldLink RX11 365 "YearSkins$Past" "marks" "I") ∈ wsL_law := WLi_99 _ (List.mem_of_getElem? (i := 11) rfl)
theorem qw_1596 : (Cond.methodLink RL 223 yX13_size) ∈ wsL_law := WLi_99 _ (List.mem_of_getElem? (i := 12) rfl)
theorem qw_1597 : (Cond.instanceMethod yX13_size) ∈ wsL_law := WLi_99 _ (List.mem_of_getElem? (i := 13) rfl)
theorem qw_1598 : (Cond.selects RX13 yX13_size yX13_size) ∈ wsL_law := WLi_99 _ (List.mem_of_getElem? (i := 14) rfl)
theorem qw_1599 : (Cond.code yX13_size cX13_size 2 (some .int)) ∈ wsL_law := WLi_99 _ (List.mem_of_getElem? (i := 15) rfl)
theorem qw_1600 : (Cond.methodLink RL 224 yX11_trouble) ∈ wsL_law := WLi_100 _ (List.mem_of_getElem? (i := 0) rfl)
theorem qw_1601 : (Cond.instanceMethod yX11_trouble) ∈ wsL_law := WLi_100 _ (List.mem_of_getElem? (i := 1) rfl)
theorem qw_1602 : (Cond.selects RX11 yX11_trouble yX11_trouble) ∈ wsL_law := WLi_100 _ (List.mem_of_getElem? (i := 2) rfl)
theorem qw_1603 : (Cond.code yX11_trouble cX11_trouble 1 (some .int)) ∈ wsL_law := WLi_100 _ (List.mem_of_getElem? (i := 3) rfl)
theorem qw_1604 : (Cond.methodLink RL 227 yX13_trouble) ∈ wsL_law := WLi_100 _ (List.mem_of_getElem? (i := 4) rfl)
theorem qw_1605 : (Cond.instanceMethod yX13_trouble) ∈ wsL_law := WLi_100 _ (List.mem_of_getElem? (i := 5) rfl)
theorem qw_1606 : (Cond.selects RX13 yX13_trouble yX13_trouble) ∈ wsL_law := WLi_100 _ (List.mem_of_getElem? (i := 6) rfl)
theorem qw_1607 : (Cond.code yX13_trouble cX13_trouble 1 (some .int)) ∈ wsL_law := WLi_100 _ (List.mem_of_getElem? (i := 7) rfl)
end
section
def nestM : List (String × Nat × MethodName × String) := [("YearSkins", 15, ⟨"YearSkins$Land", "<init>", "()V"⟩, "YearSkins"), ("YearSkins", 25, ⟨"YearSkins$State", "<init>", "()V"⟩, "YearSkins"), ("YearSkins", 38, ⟨"YearSkins$Reader", "<init>", "()V"⟩, "YearSkins"), ("YearSkins$Reader", 11, ⟨"YearSkins$Tokens", "<init>", "()V"⟩, "YearSkins"), ("YearSkins", 45, ⟨"YearSkins$Years", "<init>", "()V"⟩, "YearSkins"), ("YearSkins", 52, ⟨"YearSkins$Burglar", "<init>", "()V"⟩, "YearSkins"), ("YearSkins", 59, ⟨"YearSkins$WallOrders", "<init>", "()V"⟩, "YearSkins"), ("YearSkins$Past", 20, ⟨"YearSkins$State", "<init>", "()V"⟩, "YearSkins"), ("YearSkinsModel", 413, ⟨"YearSkinsModel$Land", "<init>", "()V"⟩, "YearSkinsModel"), ("YearSkinsModel$Land", 82, ⟨"YearSkinsModel", "within", "(III)Z"⟩, "YearSkinsModel")]
def nestF : List (String × Nat × String × String × String × String) := [("YearSkins$Site", 60, "YearSkins", "SIDE_EAST", "[I", "YearSkins"), ("YearSkins$Site", 63, "YearSkins", "SIDE_SOUTH", "[I", "YearSkins"), ("YearSkins$Years", 115, "YearSkins", "ROWS_OF", "[I", "YearSkins"), ("YearSkins$WallOrders", 42, "YearSkins", "ROWS_OF", "[I", "YearSkins"), ("YearSkinsModel", 160, "YearSkinsModel$Land", "wide", "I", "YearSkinsModel"), ("YearSkinsModel", 168, "YearSkinsModel$Land", "high", "I", "YearSkinsModel"), ("YearSkinsModel", 223, "YearSkinsModel$Land", "year", "I", "YearSkinsModel"), ("YearSkinsModel", 296, "YearSkinsModel$Land", "births", "I", "YearSkinsModel"), ("YearSkinsModel", 298, "YearSkinsModel$Land", "fire", "I", "YearSkinsModel"), ("YearSkinsModel", 300, "YearSkinsModel$Land", "earns", "I", "YearSkinsModel"), ("YearSkinsModel", 302, "YearSkinsModel$Land", "waters", "I", "YearSkinsModel"), ("YearSkinsModel", 226, "YearSkinsModel$Land", "stones", "I", "YearSkinsModel"), ("YearSkinsModel", 229, "YearSkinsModel$Land", "houses", "I", "YearSkinsModel"), ("YearSkinsModel", 388, "YearSkinsModel$Land", "heirs", "I", "YearSkinsModel"), ("YearSkinsModel", 394, "YearSkinsModel$Land", "walls", "I", "YearSkinsModel"), ("YearSkinsModel", 401, "YearSkinsModel$Land", "olders", "I", "YearSkinsModel"), ("YearSkinsModel", 205, "YearSkinsModel$Land", "names", "I", "YearSkinsModel"), ("YearSkinsModel", 281, "YearSkinsModel$Land", "far", "Z", "YearSkinsModel"), ("YearSkinsModel", 284, "YearSkinsModel$Land", "share", "Z", "YearSkinsModel"), ("YearSkinsModel", 308, "YearSkinsModel$Land", "water", "[Z", "YearSkinsModel"), ("YearSkinsModel", 332, "YearSkinsModel$Land", "kind", "[I", "YearSkinsModel"), ("YearSkinsModel", 335, "YearSkinsModel$Land", "costs", "[I", "YearSkinsModel"), ("YearSkinsModel", 337, "YearSkinsModel$Land", "warm", "[I", "YearSkinsModel"), ("YearSkinsModel", 339, "YearSkinsModel$Land", "rots", "[I", "YearSkinsModel"), ("YearSkinsModel", 341, "YearSkinsModel$Land", "strong", "[I", "YearSkinsModel"), ("YearSkinsModel", 361, "YearSkinsModel$Land", "core", "[I", "YearSkinsModel"), ("YearSkinsModel", 364, "YearSkinsModel$Land", "stoneOf", "[I", "YearSkinsModel"), ("YearSkinsModel", 391, "YearSkinsModel$Land", "heirHouse", "[I", "YearSkinsModel"), ("YearSkinsModel", 404, "YearSkinsModel$Land", "older", "[I", "YearSkinsModel"), ("YearSkinsModel", 397, "YearSkinsModel$Land", "coin", "[I", "YearSkinsModel"), ("YearSkinsModel", 399, "YearSkinsModel$Land", "smell", "[I", "YearSkinsModel"), ("YearSkinsModel", 201, "YearSkinsModel$Land", "name", "[J", "YearSkinsModel"), ("YearSkinsModel", 208, "YearSkinsModel$Land", "nameSort", "[I", "YearSkinsModel"), ("YearSkinsModel", 211, "YearSkinsModel$Land", "nameNumber", "[I", "YearSkinsModel"), ("YearSkinsModel", 345, "YearSkinsModel$Land", "first", "[I", "YearSkinsModel")]
def strW : List (String × Nat × String) := [("YearSkins$Reader", 150, "land"), ("YearSkins$Reader", 155, "years"), ("YearSkins$Reader", 157, "water"), ("YearSkins$Reader", 159, "stone"), ("YearSkins$Reader", 161, "house"), ("YearSkins$Reader", 163, "skin"), ("YearSkins$Reader", 165, "heir"), ("YearSkins$Reader", 167, "wall"), ("YearSkins$Reader", 169, "older"), ("YearSkins$Reader", 171, "coin"), ("YearSkins$Reader", 173, "smell"), ("YearSkins$Reader", 181, "wide"), ("YearSkins$Reader", 193, "high"), ("YearSkins$Reader", 197, "doors"), ("YearSkins$Reader", 199, "near"), ("YearSkins$Reader", 201, "far"), ("YearSkins$Reader", 203, ""), ("YearSkins$Reader", 211, "share"), ("YearSkins$Reader", 213, "no"), ("YearSkins$Reader", 215, "yes"), ("YearSkins$Reader", 222, "births"), ("YearSkins$Reader", 226, "fire"), ("YearSkins$Reader", 230, "earns"), ("YearSkins$Reader", 247, "hard"), ("YearSkins$Reader", 249, "soft"), ("YearSkins$Reader", 251, "wood"), ("YearSkins$Reader", 257, "costs"), ("YearSkins$Reader", 259, "warm"), ("YearSkins$Reader", 261, "rots"), ("YearSkins$Reader", 263, "strong"), ("YearSkins$Reader", 265, "at"), ("YearSkins$Reader", 273, "of"), ("YearSkins$Reader", 279, "family"), ("YearSkins$Reader", 281, "gold"), ("YearSkins$Reader", 305, "north"), ("YearSkins$Reader", 307, "east"), ("YearSkins$Reader", 309, "south"), ("YearSkins$Reader", 311, "west"), ("YearSkins$Reader", 313, "lock"), ("YearSkinsModel", 171, "land"), ("YearSkinsModel", 263, "wide"), ("YearSkinsModel", 268, "high"), ("YearSkinsModel", 269, "doors"), ("YearSkinsModel", 271, "far"), ("YearSkinsModel", 273, "near"), ("YearSkinsModel", 275, "share"), ("YearSkinsModel", 277, "yes"), ("YearSkinsModel", 279, "no"), ("YearSkinsModel", 173, "years"), ("YearSkinsModel", 290, "births"), ("YearSkinsModel", 292, "fire"), ("YearSkinsModel", 294, "earns"), ("YearSkinsModel", 175, "water"), ("YearSkinsModel", 177, "stone"), ("YearSkinsModel", 179, "house"), ("YearSkinsModel", 181, "skin"), ("YearSkinsModel", 183, "heir"), ("YearSkinsModel", 185, "wall"), ("YearSkinsModel", 187, "older"), ("YearSkinsModel", 189, "coin"), ("YearSkinsModel", 191, "smell"), ("YearSkinsModel", 315, "hard"), ("YearSkinsModel", 317, "soft"), ("YearSkinsModel", 319, "wood"), ("YearSkinsModel", 321, "costs"), ("YearSkinsModel", 323, "warm"), ("YearSkinsModel", 325, "rots"), ("YearSkinsModel", 327, "strong"), ("YearSkinsModel", 343, "at"), ("YearSkinsModel", 352, "of"), ("YearSkinsModel", 357, "family"), ("YearSkinsModel", 359, "gold"), ("YearSkinsModel", 367, "north"), ("YearSkinsModel", 369, "east"), ("YearSkinsModel", 371, "south"), ("YearSkinsModel", 373, "west"), ("YearSkinsModel", 382, "lock")]
theorem gWL : wsL_law.all goodWord = true := by decide +kernel
theorem gT {Ts ws : List Cond} (hT : ∀ w ∈ wsL_law, w ∈ Ts) (h : ∀ w ∈ ws, w ∈ wsL_law) : GoodIn Ts ws := fun w hw => ⟨hT w (h w hw), good_of_word (List.all_eq_true.mp gWL w (h w hw))⟩
abbrev KG : Type := va_G × (Nat → ClassId)
abbrev KS : Type := (Nat → Nat) × (Nat → Nat → Int32)
abbrev TY (G : KG) : List (ClassId × FieldType) := [(G.2 0, .int), (G.2 1, .boolean), (G.2 2, .long), (G.2 3, .byte), (G.2 4, .object "YearSkins$State")]
/-- what every method's start says of the tables beyond the words that stay: links of nest mates, texts, arrays of State -/
def EN (U : State) : Prop := (∀ q ∈ nestM, va_Nw (.methodLinkNest q.1 q.2.1 q.2.2.1 q.2.2.2) U) ∧ (∀ q ∈ nestF, va_Nw (.fieldLinkNest q.1 q.2.1 q.2.2.1 q.2.2.2.1 q.2.2.2.2.1 q.2.2.2.2.2) U) ∧ (∀ q ∈ strW, ∃ a : Nat, vk_R q.1 q.2.1 q.2.2 a U) ∧ va_AO "YearSkins$State" U
theorem EN.same {u U : State} (h : u.vm = U.vm) (hE : EN u) : EN U := ⟨fun q hq => va_Nw.same rfl h (hE.1 q hq), fun q hq => va_Nw.same rfl h (hE.2.1 q hq), fun q hq => by obtain ⟨a, ha⟩ := hE.2.2.1 q hq; exact ⟨a, vk_R.same h.symm ha⟩, va_AO.moved (by rw [h]; exact Vm.Alike.refl _) hE.2.2.2⟩
theorem EN.warm {s U : State} (hW : s.WarmedH U.vm) (hE : EN s) : EN U := ⟨fun q hq => va_Nw.warmM hW (hE.1 q hq), fun q hq => va_Nw.warmF hW (hE.2.1 q hq), fun q hq => by obtain ⟨a, ha⟩ := hE.2.2.1 q hq; exact ⟨a, vk_R.warm hW ha⟩, va_AO.moved hW.alike hE.2.2.2⟩
def Pw (G : KG) (ws : va_W) (sz : Nat) (U : State) : Prop := U.heap.size = sz ∧ va_P G.1 vwCl ws U.heap ∧ va_K G.1 vwCl (TY G) U ∧ va_D (fun _ => True) ws ∧ EN U
def Bw (G : KG) (A : Nat → Prop) (w1 : va_W) (t : State) : Prop := va_P G.1 vwCl w1 t.heap ∧ va_D A w1
theorem Pw_blind {G : KG} {av : List Value} {ws : va_W} {sz : Nat} : FrameBlind (va_Pc av (Pw G ws sz)) := fun a U g mk h => ⟨h.1, h.2.1, h.2.2.1, va_K.moved (u := U) (U := U.calling g mk a) (Vm.Alike.refl U.vm) h.2.2.2.1, h.2.2.2.2.1, EN.same (u := U) rfl h.2.2.2.2.2⟩
def CX (p : Program) (s : State) (m : MethodId) (args : Array Value) (meth : Method) (c : Code) (cc : ByteArray) (nL : Nat) (own : String) (rt : Option FieldType) (G : KG) (A : Nat → Prop) (Ts : List Cond) : Prop :=
  CallFix p m c cc nL s args Ts own ∧ (∀ w ∈ wsL_law, w ∈ Ts) ∧ va_K G.1 vwCl (TY G) s ∧ EN s ∧ (∀ q : Nat, s.heap.size ≤ q → A q) ∧ meth.sig.returnType = rt ∧ meth.locks = false
theorem m_body {l : Launch} {y : MethodName} {cd : ByteArray} {mL : Nat} {rt : Option FieldType} {rm : Room} {G : KG} {av : List Value} {wc : va_W} {Qf : (Nat → Prop) → Array Value → State → Outcome → State → Prop} {sz : Nat}
    (hy : plainName y.cls = true) (hlen : (lg_sl av).length ≤ mL)
    (body : ∀ (p : Program) (e : Env) (s : State) (m : MethodId) (args : Array Value) (below : List Frame) (meth : Method) (c : Code) (ls : Array Slot) (A : Nat → Prop), CX p s m args meth c cd mL y.cls rt G A (.code y cd mL rt :: wsL_law) → meth.name = y.name → va_P G.1 vwCl wc s.heap → va_D A wc → va_S A s.heap s.heap [] → lv_has ls mL (lv_args 0 av) →
      W p l e rm s m args below meth c s.heap [] 0 0 (MQ below (Qf A) args s rm.cells rm.slots A) (F0 m 0 ls [])) :
    Met l y (.code y cd mL rt :: wsL_law) rm (va_Pc av (Pw G wc sz)) (Qf (va_A wc sz)) rm.cells rm.slots (va_A wc sz) := by
  refine Met.ofW (cc := cd) (maxL := mL) (ret := rt) hy rfl ?_
  intro p e s m args below meth c s₁ B hml hv
  obtain ⟨rfl, hsz, hP, hK, hD0, hE⟩ := hv
  have hts := atoms_spec (ws := .code y cd mL rt :: wsL_law) B.pre
  have hown : s.vm.findClass y.cls = some m.cls := findClass_of_methodNamed B.named
  have hl := lv_entry av (n := mL) hlen
  rw [lg_entry_eq]
  generalize (lg_sl av ++ List.replicate (mL - (lg_sl av).length) Slot.unset).toArray = ls at hl ⊢
  exact body p e s m _ below meth c ls (va_A wc sz) ⟨⟨B.exec, B.bytes, hml, hown, hts⟩, fun w h => List.mem_cons_of_mem _ h, hK, hE, fun q h => Or.inr (hsz ▸ h), B.returns, B.notSynchronized⟩ (name_of_methodNamed B.named B.method).1 hP hD0.self va_S.rf hl
theorem RA_inj {s : State} {a b : ClassId} {ty : FieldType} (h1 : va_RA s a ty) (h2 : va_RA s b ty) : a = b := by
  cases ty with
  | object C =>
    obtain ⟨_, _, _, _, _, h1⟩ := h1
    obtain ⟨_, _, _, _, _, h2⟩ := h2
    exact Option.some.inj (h1.symm.trans h2)
  | _ =>
    have e1 : s.vm.findClass _ = some a := h1
    have e2 : s.vm.findClass _ = some b := h2
    exact Option.some.inj (e1.symm.trans e2)
theorem fm_of {α : Type} {f : Nat → Option α} : ∀ (l : List Nat) (w : List α), l.map f = w.map some → l.filterMap f = w
  | [], [], _ => rfl
  | [], _ :: _, h => by simp at h
  | _ :: _, [], h => by simp at h
  | i :: l, x :: w, h => by
    simp only [List.map_cons, List.cons.injEq] at h
    rw [List.filterMap_cons, h.1, fm_of l w h.2]
section MB
variable {p : Program} {l : Launch} {e : Env} {R : Room} {s : State} {m : MethodId} {args : Array Value} {below : List Frame} {meth : Method} {c : Code} {H : Heap} {locs : List Loc} {cells slots : Nat} {Q : State → Prop}
variable {pc : Nat} {ls : Array Slot} {rest st : List Value} {cc : ByteArray} {nL : Nat} {own : String} {rt : Option FieldType} {G : KG} {A : Nat → Prop} {Ts : List Cond} {ws : va_W} {a : Nat}
theorem m_get (X : CX p s m args meth c cc nL own rt G A Ts) (hP : va_P G.1 vwCl ws H) {C : String} {T : u_T} {N ci index : Nat} (q0 : Nat) {fs : List Value} (he : ws[q0]? = some (a, .inr (ci, fs))) (hc : vwCl[ci]? = some (C, T, N)) (k : Nat) (hk : k < N) (hw : Cond.fieldLink own index (T k).1 (T k).2.1 (T k).2.2.1 ∈ wsL_law) (hin : ∀ w ∈ u_ws C T N, w ∈ wsL_law) {v : Value} (hv : fs[k]? = some v) (hdg : decode cc pc = .ok (.getfield index, 3))
    (kk : W p l e R s m args below meth c H locs cells slots Q (F0 m (pc + 3) ls (v :: rest))) : W p l e R s m args below meth c H locs cells slots Q (F0 m pc ls (.ref a :: rest)) :=
  va_get (D := G.1) X.1.1 X.1.2.1 X.1.2.2.2.2 (fun w h => X.2.1 w (hin w h)) X.1.2.2.2.1 X.2.2.1 hP q0 he hc k hk (X.1.2.2.2.2 _ (X.2.1 _ hw)) (fun _ h => h) hv hdg kk
theorem m_getN (X : CX p s m args meth c cc nL own rt G A Ts) (hP : va_P G.1 vwCl ws H) {C : String} {T : u_T} {N ci index : Nat} {host : String} (q0 : Nat) {fs : List Value} (he : ws[q0]? = some (a, .inr (ci, fs))) (hc : vwCl[ci]? = some (C, T, N)) (k : Nat) (hk : k < N) (hw : (own, index, (T k).1, (T k).2.1, (T k).2.2.1, host) ∈ nestF) (hin : ∀ w ∈ u_ws C T N, w ∈ wsL_law) {v : Value} (hv : fs[k]? = some v) (hdg : decode cc pc = .ok (.getfield index, 3))
    (kk : W p l e R s m args below meth c H locs cells slots Q (F0 m (pc + 3) ls (v :: rest))) : W p l e R s m args below meth c H locs cells slots Q (F0 m pc ls (.ref a :: rest)) :=
  va_getN (D := G.1) (host := host) X.1.1 X.1.2.1 X.1.2.2.2.2 (fun w h => X.2.1 w (hin w h)) X.1.2.2.2.1 X.2.2.1 hP q0 he hc k hk (va_Nw.use rfl (X.2.2.2.1.2.1 _ hw)) (fun _ h => h) hv hdg kk
theorem m_put (X : CX p s m args meth c cc nL own rt G A Ts) (hP : va_P G.1 vwCl ws H) (hD : va_D A ws) (hS : va_S A s.heap H locs) {C : String} {T : u_T} {N ci index : Nat} (ty0 : Nat → FieldType) (hty : ∀ k, k < N → parseFieldDescriptor (T k).2.2.1 = some (ty0 k)) (hnm : ∀ a, a < N → ∀ b, b < N → a ≠ b → (T a).2.1 ≠ (T b).2.1) (q0 : Nat) {fs : List Value} {ws' : va_W} (he : ws[q0]? = some (a, .inr (ci, fs))) (hc : vwCl[ci]? = some (C, T, N)) (k : Nat) (hk : k < N) (hw : Cond.fieldLink own index (T k).1 (T k).2.1 (T k).2.2.1 ∈ wsL_law) (hin : ∀ w ∈ u_ws C T N, w ∈ wsL_law) (hfin : (T k).2.2.2 = false) {v : Value} (hn : narrow (ty0 k) v = v) (hfit : fits (ty0 k) v = true) (hl : k < fs.length) (hws : ws.set q0 (a, .inr (ci, fs.set k v)) = ws') (hdg : decode cc pc = .ok (.putfield index, 3))
    (kk : ∀ (H1 : Heap) (locs1 : List Loc), va_P G.1 vwCl ws' H1 → va_D A ws' → va_S A s.heap H1 locs1 → W p l e R s m args below meth c H1 locs1 cells slots Q (F0 m (pc + 3) ls rest)) : W p l e R s m args below meth c H locs cells slots Q (F0 m pc ls (v :: .ref a :: rest)) := by
  subst hws
  exact va_put (D := G.1) X.1.1 X.1.2.1 X.1.2.2.2.2 (fun w h => X.2.1 w (hin w h)) ty0 hty hnm X.1.2.2.2.1 X.2.2.1 hP hD hS q0 he hc k hk (X.1.2.2.2.2 _ (X.2.1 _ hw)) (fun _ h => h) hfin (hty k hk) hn hfit hl hdg kk
theorem m_putF (X : CX p s m args meth c cc nL own rt G A Ts) (hi : meth.name = "<init>") (hP : va_P G.1 vwCl ws H) (hD : va_D A ws) (hS : va_S A s.heap H locs) {C : String} {T : u_T} {N ci index : Nat} (ty0 : Nat → FieldType) (hty : ∀ k, k < N → parseFieldDescriptor (T k).2.2.1 = some (ty0 k)) (hnm : ∀ a, a < N → ∀ b, b < N → a ≠ b → (T a).2.1 ≠ (T b).2.1) (q0 : Nat) {fs : List Value} {ws' : va_W} (he : ws[q0]? = some (a, .inr (ci, fs))) (hc : vwCl[ci]? = some (C, T, N)) (k : Nat) (hk : k < N) (hw : Cond.fieldLink own index (T k).1 (T k).2.1 (T k).2.2.1 ∈ wsL_law) (hin : ∀ w ∈ u_ws C T N, w ∈ wsL_law) (hfin : (T k).2.2.2 = true) (hdecl : (T k).1 = own) {v : Value} (hn : narrow (ty0 k) v = v) (hfit : fits (ty0 k) v = true) (hl : k < fs.length) (hws : ws.set q0 (a, .inr (ci, fs.set k v)) = ws') (hdg : decode cc pc = .ok (.putfield index, 3))
    (kk : ∀ (H1 : Heap) (locs1 : List Loc), va_P G.1 vwCl ws' H1 → va_D A ws' → va_S A s.heap H1 locs1 → W p l e R s m args below meth c H1 locs1 cells slots Q (F0 m (pc + 3) ls rest)) : W p l e R s m args below meth c H locs cells slots Q (F0 m pc ls (v :: .ref a :: rest)) := by
  subst hws
  exact va_putF (D := G.1) X.1.1 X.1.2.1 X.1.2.2.2.2 (fun w h => X.2.1 w (hin w h)) ty0 hty hnm X.1.2.2.2.1 X.2.2.1 hP hD hS q0 he hc k hk (X.1.2.2.2.2 _ (X.2.1 _ hw)) (fun _ h => h) hfin hi hdecl (hty k hk) hn hfit hl hdg kk
theorem m_new (X : CX p s m args meth c cc nL own rt G A Ts) (hP : va_P G.1 vwCl ws H) (hD : va_D A ws) (hS : va_S A s.heap H locs) {C : String} {T : u_T} {N ci index : Nat} (ty0 : Nat → FieldType) (hty : ∀ k, k < N → parseFieldDescriptor (T k).2.2.1 = some (ty0 k)) (hin : ∀ w ∈ u_ws C T N, w ∈ wsL_law) (h1 : Cond.classLink own index C ∈ wsL_law) (h2 : Cond.instantiable C N ∈ wsL_law) (h3 : Cond.initialized C ∈ wsL_law) (hc : vwCl[ci]? = some (C, T, N)) {fs : List Value} (hfs : (List.range N).all (fun j => decide (defaultValue (ty0 j) = vp_V fs j)) = true) (hcells : cells + 1 ≤ R.cells) (hslots : slots + N ≤ R.slots) (hdg : decode cc pc = .ok (.new index, 3))
    (kk : ∀ (q : Nat) (H1 : Heap), va_P G.1 vwCl (ws ++ [(q, .inr (ci, fs))]) H1 → va_D A (ws ++ [(q, .inr (ci, fs))]) → va_S A s.heap H1 locs → W p l e R s m args below meth c H1 locs (cells + 1) (slots + N) Q (F0 m (pc + 3) ls (.ref q :: rest))) : W p l e R s m args below meth c H locs cells slots Q (F0 m pc ls rest) :=
  va_new (D := G.1) X.1.1 X.1.2.1 X.1.2.2.2.2 (fun w h => X.2.1 w (hin w h)) ty0 hty X.1.2.2.2.1 (X.1.2.2.2.2 _ (X.2.1 _ h1)) (X.1.2.2.2.2 _ (X.2.1 _ h2)) (X.1.2.2.2.2 _ (X.2.1 _ h3)) X.2.2.1 hP hD hS X.2.2.2.2.1 hc (fun j hj => of_decide_eq_true (List.all_eq_true.mp hfs j (List.mem_range.mpr hj))) hcells hslots hdg kk
theorem m_newa (X : CX p s m args meth c cc nL own rt G A Ts) (hP : va_P G.1 vwCl ws H) (hD : va_D A ws) (hS : va_S A s.heap H locs) {atype : ArrayType} (t0 : Nat) {cA : ClassId} (ht : (TY G)[t0]? = some (cA, newarray.typeOf atype)) (hw : Cond.arrayClass (newarray.typeOf atype) ∈ wsL_law) {n : Int32} {N' : Nat} {a0 : vp_A} (ha : ∀ cA : ClassId, vp_cell cA a0 = arrV cA N' (fun _ => defaultValue (newarray.typeOf atype))) (hn : ¬ n < 0) (hN : n.toNatClampNeg = N') (hbytes : N' * componentBytes (newarray.typeOf atype) ≤ 536870912) (hcells : cells + 1 ≤ R.cells) (hslots : slots + N' ≤ R.slots) (hdg : decode cc pc = .ok (.newarray atype, 2))
    (kk : ∀ (q : Nat) (H1 : Heap), va_P G.1 vwCl (ws ++ [(q, .inl (cA, a0))]) H1 → va_D A (ws ++ [(q, .inl (cA, a0))]) → va_S A s.heap H1 locs → W p l e R s m args below meth c H1 locs (cells + 1) (slots + N') Q (F0 m (pc + 2) ls (.ref q :: rest))) : W p l e R s m args below meth c H locs cells slots Q (F0 m pc ls (.int n :: rest)) := by
  refine va_newa (D := G.1) (atype := atype) (a0 := a0) X.1.1 X.1.2.1 (X.1.2.2.2.2 _ (X.2.1 _ hw)) rfl X.2.2.1 hP hD hS X.2.2.2.2.1 ha hn hN hbytes hcells hslots hdg (fun q cB H1 hK hP hD hS => ?_)
  have e : cB = cA := RA_inj (hK.2 5 (cB, newarray.typeOf atype) rfl).2 (X.2.2.1.2 t0 _ ht).2
  subst e
  exact kk q H1 hP hD hS
theorem m_newo (X : CX p s m args meth c cc nL own rt G A Ts) (hP : va_P G.1 vwCl ws H) (hD : va_D A ws) (hS : va_S A s.heap H locs) {index : Nat} (hw : Cond.classLink own index "YearSkins$State" ∈ wsL_law) {n : Int32} {N' : Nat} (hn : ¬ n < 0) (hN : n.toNatClampNeg = N') (hbytes : N' * 4 ≤ 536870912) (hcells : cells + 1 ≤ R.cells) (hslots : slots + N' ≤ R.slots) (hdg : decode cc pc = .ok (.anewarray index, 3))
    (kk : ∀ (q : Nat) (H1 : Heap), va_P G.1 vwCl (ws ++ [(q, .inl (G.2 4, N', .inr (.inr (.inr (.inr (fun _ => none))))))]) H1 → va_D A (ws ++ [(q, .inl (G.2 4, N', .inr (.inr (.inr (.inr (fun _ => none))))))]) → va_S A s.heap H1 locs → W p l e R s m args below meth c H1 locs (cells + 1) (slots + N') Q (F0 m (pc + 3) ls (.ref q :: rest))) : W p l e R s m args below meth c H locs cells slots Q (F0 m pc ls (.int n :: rest)) := by
  refine va_newq (D := G.1) X.1.1 X.1.2.1 X.1.2.2.2.1 (X.1.2.2.2.2 _ (X.2.1 _ hw)) X.2.2.2.1.2.2.2 X.2.2.1 hP hD hS X.2.2.2.2.1 hn hN hbytes hcells hslots hdg (fun q cB H1 hK hP hD hS => ?_)
  have e : cB = G.2 4 := RA_inj (hK.2 5 (cB, .object "YearSkins$State") rfl).2 (X.2.2.1.2 4 _ rfl).2
  subst e
  exact kk q H1 hP hD hS
theorem m_objI (X : CX p s m args meth c cc nL own rt G A Ts) {lv : List (Nat × Value)} (hls : lv_has ls nL lv) {idx : Nat} (h1 : Cond.methodLink own idx Lib.objectInit ∈ wsL_law) (h2 : Cond.instanceMethod Lib.objectInit ∈ wsL_law) (h3 : Cond.code Lib.objectInit ⟨#[0xb1]⟩ 1 none ∈ wsL_law) (hd : decode cc pc = .ok (.invokespecial idx, 3)) (hframes : 1 ≤ R.frames) (hlocals : (rest.map fun v => v.category).sum + 12 ≤ R.locals)
    (kk : W p l e R s m args below meth c H locs cells slots Q (F0 m (pc + 3) ls rest)) : W p l e R s m args below meth c H locs cells slots Q (F0 m pc ls (.ref a :: rest)) := by
  refine W.objInit X.1.1 X.1.2.1 X.1.2.2.2.1 (X.1.2.2.2.2 _ (X.2.1 _ h1)) (X.1.2.2.2.2 _ (X.2.1 _ h2)) (X.1.2.2.2.2 _ (X.2.1 _ h3)) rfl (by rw [X.1.2.2.1]; exact hls.1) rfl hd hframes ?_ kk
  have e : 2 * (F0 m pc ls (.ref a :: rest)).monitorRoom = 0 := rfl
  rw [e]
  omega
theorem m_ldcS (X : CX p s m args meth c cc nL own rt G A Ts) {tx : String} {index : Nat} (hw : (own, index, tx) ∈ strW) (hdg : decode cc pc = .ok (.ldc index, 2))
    (kk : ∀ q : Nat, W p l e R s m args below meth c H locs cells slots Q (F0 m (pc + 2) ls (.ref q :: rest))) : W p l e R s m args below meth c H locs cells slots Q (F0 m pc ls rest) := by
  obtain ⟨q, hq⟩ := X.2.2.2.1.2.2.1 _ hw
  exact va_ldcS X.1.1 X.1.2.1 X.1.2.2.2.1 hq hdg (kk q)
theorem m_ldc (X : CX p s m args meth c cc nL own rt G A Ts) {v : Int32} {index : Nat} (hw : Cond.constant own index v ∈ wsL_law) (hdg : decode cc pc = .ok (.ldc index, 2))
    (kk : W p l e R s m args below meth c H locs cells slots Q (F0 m (pc + 2) ls (.int v :: rest))) : W p l e R s m args below meth c H locs cells slots Q (F0 m pc ls rest) := lv_ldc X.1.1 X.1.2.1 X.1.2.2.2.1 (X.1.2.2.2.2 _ (X.2.1 _ hw)) hdg kk
theorem m_iret (X : CX p s m args meth c cc nL own (some .int) G A Ts) (hP : va_P G.1 vwCl ws H) (hD : va_D A ws) (hS : va_S A s.heap H locs) {post : Int32 → KS → Prop} {w1 : KS → va_W} {v : Int32} {k n : Nat} (u : KS) (is : List Nat) (hnd : va_nd is = true) (hs : is.map (fun i => ws[i]?) = (w1 u).map some) (hp : post v u) (h1 : cells ≤ k) (h2 : slots ≤ n) (hdg : decode cc pc = .ok (.ireturn, 1)) :
    W p l e R s m args below meth c H locs cells slots (MQ below (va_Qi post (fun u t => Bw G A (w1 u) t) A) args s k n A) (F0 m pc ls [.int v]) := by
  refine W.widen h1 h2 ?_
  exact W.iret X.1.1 X.1.2.1 X.2.2.2.2.2.1 (fun t ht _ => ⟨⟨v, u, rfl, hp, by rw [ht]; exact hP.sub is (fm_of _ _ hs), hD.sub is hnd hs⟩, hS.F ht⟩) hS.2.2 hdg X.2.2.2.2.2.2
theorem m_zret (X : CX p s m args meth c cc nL own (some .boolean) G A Ts) (hP : va_P G.1 vwCl ws H) (hD : va_D A ws) (hS : va_S A s.heap H locs) {post : Int32 → KS → Prop} {w1 : KS → va_W} {v : Int32} {k n : Nat} (u : KS) (is : List Nat) (hnd : va_nd is = true) (hs : is.map (fun i => ws[i]?) = (w1 u).map some) (hnz : narrow .boolean (.int v) = .int v) (hp : post v u) (h1 : cells ≤ k) (h2 : slots ≤ n) (hdg : decode cc pc = .ok (.ireturn, 1)) :
    W p l e R s m args below meth c H locs cells slots (MQ below (va_Qi post (fun u t => Bw G A (w1 u) t) A) args s k n A) (F0 m pc ls [.int v]) := by
  refine W.widen h1 h2 ?_
  exact W.zret X.1.1 X.1.2.1 X.2.2.2.2.2.1 hnz (fun t ht _ => ⟨⟨v, u, rfl, hp, by rw [ht]; exact hP.sub is (fm_of _ _ hs), hD.sub is hnd hs⟩, hS.F ht⟩) hS.2.2 hdg X.2.2.2.2.2.2
theorem m_vret (X : CX p s m args meth c cc nL own none G A Ts) (hP : va_P G.1 vwCl ws H) (hD : va_D A ws) (hS : va_S A s.heap H locs) {post : KS → Prop} {w1 : KS → va_W} {k n : Nat} (u : KS) (is : List Nat) (hnd : va_nd is = true) (hs : is.map (fun i => ws[i]?) = (w1 u).map some) (hp : post u) (h1 : cells ≤ k) (h2 : slots ≤ n) (hdg : decode cc pc = .ok (.return_, 1)) :
    W p l e R s m args below meth c H locs cells slots (MQ below (va_Qv post (fun u t => Bw G A (w1 u) t) A) args s k n A) (F0 m pc ls []) := by
  refine W.widen h1 h2 ?_
  exact W.vret X.1.1 X.1.2.1 X.2.2.2.2.2.1 (fun t ht _ => ⟨⟨u, rfl, hp, by rw [ht]; exact hP.sub is (fm_of _ _ hs), hD.sub is hnd hs⟩, hS.F ht⟩) hS.2.2 hdg X.2.2.2.2.2.2
theorem m_pre {U0 : State} {wc : va_W} {av : List Value} (hKs : va_K G.1 vwCl (TY G) s) (hE : EN s) (hPc : va_P G.1 vwCl wc H) (hDc : va_D A wc) : ∀ U : State, U.heap = H → s.WarmedH U.vm → va_Pc av (Pw G wc H.size) av.toArray U := fun U hU hW => ⟨rfl, by rw [hU], by rw [hU]; exact hPc, va_K.moved hW.alike hKs, hDc.weaken (fun _ _ _ _ => trivial), EN.warm hW hE⟩
variable {y : MethodName} {cd : ByteArray} {mL : Nat} {rt2 : Option FieldType} {rm : Room} {As : List Value} {b : Nat} {wc wr : va_W} {w1 : KS → va_W} {index n : Nat} {lv : List (Nat × Value)}
theorem m_cVi (X : CX p s m args meth c cc nL own rt G A Ts) (hP : va_P G.1 vwCl ws H) (hD : va_D A ws) (hS : va_S A s.heap H locs) {post : Int32 → KS → Prop}
    (K : ∀ sz : Nat, Met l y (.code y cd mL rt2 :: wsL_law) rm (va_Pc (.ref b :: As) (Pw G wc sz)) (va_Qi post (fun u t => Bw G (va_A wc sz) (w1 u) t) (va_A wc sz)) rm.cells rm.slots (va_A wc sz))
    (isC isR : List Nat) (hC : isC.map (fun i => ws[i]?) = wc.map some) (hR : isR.map (fun i => ws[i]?) = wr.map some) (hnC : va_nd isC = true) (hn : va_nd isR = true) (hdis : ∀ i ∈ isR, i ∉ isC)
    {C : String} {T : u_T} {N ci : Nat} {fs : List Value} (hc : vwCl[ci]? = some (C, T, N)) (he : wc[0]? = some (b, .inr (ci, fs)))
    (v1 : Cond.methodLink own index y ∈ wsL_law) (v2 : Cond.instanceMethod y ∈ wsL_law) (v3 : Cond.selects C y y ∈ wsL_law) (v4 : Cond.initialized C ∈ wsL_law) (v5 : Cond.code y cd mL rt2 ∈ wsL_law)
    (hd : y.cls = C ∧ y.cls ≠ "java/lang/invoke/MethodHandle" ∧ y.cls ≠ "java/lang/invoke/VarHandle" ∧ (parseMethodDescriptor y.desc).map (fun d => d.parameters.length) = some n) (hRm : rm.frames + 1 ≤ R.frames ∧ 8 + (mL + 11) + rm.locals ≤ R.locals) (hls : lv_has ls nL lv) (hst : st = As.reverse ++ .ref b :: rest) (hAs : As.length = n) (hW : (rest.map fun v => v.category).sum ≤ 8) (hdg : decode cc pc = .ok (.invokevirtual index, 3)) (hf : cells + rm.cells ≤ R.cells ∧ slots + rm.slots ≤ R.slots)
    (kk : ∀ (r : Int32) (u : KS) (H1 : Heap) (locs1 : List Loc), post r u → va_P G.1 vwCl (wr ++ w1 u) H1 → va_D A (wr ++ w1 u) → va_S A s.heap H1 locs1 → W p l e R s m args below meth c H1 locs1 (cells + rm.cells) (slots + rm.slots) Q (F0 m (pc + 3) ls (.int r :: rest))) : W p l e R s m args below meth c H locs cells slots Q (F0 m pc ls st) := by
  subst hst
  have hPc : va_P G.1 vwCl wc H := hP.sub isC (fm_of _ _ hC)
  have hDc := hD.sub isC hnC hC
  have hFc := va_free hD hS X.2.2.2.2.1 isC hC
  have hG : GoodIn Ts (wsV own index C y (.code y cd mL rt2 :: wsL_law)) := gT X.2.1 (fun w hw => by
    simp only [wsV, List.cons_append, List.nil_append, List.mem_cons] at hw
    rcases hw with rfl | rfl | rfl | rfl | rfl | hw
    · exact v1
    · exact v2
    · exact v3
    · exact v4
    · exact v5
    · exact hw)
  refine va_calli (va_runV (As := As) (rest := rest) X.1 (K H.size) (cwV n X.1.2.2.2.2 hG rfl rfl rfl hd hRm) ⟨Pw_blind, va_recv X.2.2.1 hPc hc he, fun U hU hW => m_pre (U0 := s) (av := .ref b :: As) X.2.2.1 X.2.2.2.1 hPc hDc U hU hW⟩ rfl hAs hls.1 rfl (lv_room hW) hdg hf) hS (fun q _ h => hFc q h) hFc (fun r u t H1 locs1 ht hvm hw hB hz1 hk1 hS1 => ?_)
  obtain ⟨hP1, hD1⟩ := hB
  rw [ht] at hP1
  obtain ⟨hP2, hD2⟩ := va_join hP hD isC isR hC hR hn hdis hk1 hFc hP1 hD1
  exact kk r u H1 locs1 hw hP2 hD2 hS1
theorem m_cVv (X : CX p s m args meth c cc nL own rt G A Ts) (hP : va_P G.1 vwCl ws H) (hD : va_D A ws) (hS : va_S A s.heap H locs) {post : KS → Prop}
    (K : ∀ sz : Nat, Met l y (.code y cd mL rt2 :: wsL_law) rm (va_Pc (.ref b :: As) (Pw G wc sz)) (va_Qv post (fun u t => Bw G (va_A wc sz) (w1 u) t) (va_A wc sz)) rm.cells rm.slots (va_A wc sz))
    (isC isR : List Nat) (hC : isC.map (fun i => ws[i]?) = wc.map some) (hR : isR.map (fun i => ws[i]?) = wr.map some) (hnC : va_nd isC = true) (hn : va_nd isR = true) (hdis : ∀ i ∈ isR, i ∉ isC)
    {C : String} {T : u_T} {N ci : Nat} {fs : List Value} (hc : vwCl[ci]? = some (C, T, N)) (he : wc[0]? = some (b, .inr (ci, fs)))
    (v1 : Cond.methodLink own index y ∈ wsL_law) (v2 : Cond.instanceMethod y ∈ wsL_law) (v3 : Cond.selects C y y ∈ wsL_law) (v4 : Cond.initialized C ∈ wsL_law) (v5 : Cond.code y cd mL rt2 ∈ wsL_law)
    (hd : y.cls = C ∧ y.cls ≠ "java/lang/invoke/MethodHandle" ∧ y.cls ≠ "java/lang/invoke/VarHandle" ∧ (parseMethodDescriptor y.desc).map (fun d => d.parameters.length) = some n) (hRm : rm.frames + 1 ≤ R.frames ∧ 8 + (mL + 11) + rm.locals ≤ R.locals) (hls : lv_has ls nL lv) (hst : st = As.reverse ++ .ref b :: rest) (hAs : As.length = n) (hW : (rest.map fun v => v.category).sum ≤ 8) (hdg : decode cc pc = .ok (.invokevirtual index, 3)) (hf : cells + rm.cells ≤ R.cells ∧ slots + rm.slots ≤ R.slots)
    (kk : ∀ (u : KS) (H1 : Heap) (locs1 : List Loc), post u → va_P G.1 vwCl (wr ++ w1 u) H1 → va_D A (wr ++ w1 u) → va_S A s.heap H1 locs1 → W p l e R s m args below meth c H1 locs1 (cells + rm.cells) (slots + rm.slots) Q (F0 m (pc + 3) ls rest)) : W p l e R s m args below meth c H locs cells slots Q (F0 m pc ls st) := by
  subst hst
  have hPc : va_P G.1 vwCl wc H := hP.sub isC (fm_of _ _ hC)
  have hDc := hD.sub isC hnC hC
  have hFc := va_free hD hS X.2.2.2.2.1 isC hC
  have hG : GoodIn Ts (wsV own index C y (.code y cd mL rt2 :: wsL_law)) := gT X.2.1 (fun w hw => by
    simp only [wsV, List.cons_append, List.nil_append, List.mem_cons] at hw
    rcases hw with rfl | rfl | rfl | rfl | rfl | hw
    · exact v1
    · exact v2
    · exact v3
    · exact v4
    · exact v5
    · exact hw)
  refine va_callv (va_runV (As := As) (rest := rest) X.1 (K H.size) (cwV n X.1.2.2.2.2 hG rfl rfl rfl hd hRm) ⟨Pw_blind, va_recv X.2.2.1 hPc hc he, fun U hU hW => m_pre (U0 := s) (av := .ref b :: As) X.2.2.1 X.2.2.2.1 hPc hDc U hU hW⟩ rfl hAs hls.1 rfl (lv_room hW) hdg hf) hS (fun q _ h => hFc q h) hFc (fun u t H1 locs1 ht hvm hw hB hz1 hk1 hS1 => ?_)
  obtain ⟨hP1, hD1⟩ := hB
  rw [ht] at hP1
  obtain ⟨hP2, hD2⟩ := va_join hP hD isC isR hC hR hn hdis hk1 hFc hP1 hD1
  exact kk u H1 locs1 hw hP2 hD2 hS1
theorem m_cSi (X : CX p s m args meth c cc nL own rt G A Ts) (hP : va_P G.1 vwCl ws H) (hD : va_D A ws) (hS : va_S A s.heap H locs) {post : Int32 → KS → Prop}
    (K : ∀ sz : Nat, Met l y (.code y cd mL rt2 :: wsL_law) rm (va_Pc As (Pw G wc sz)) (va_Qi post (fun u t => Bw G (va_A wc sz) (w1 u) t) (va_A wc sz)) rm.cells rm.slots (va_A wc sz))
    (isC isR : List Nat) (hC : isC.map (fun i => ws[i]?) = wc.map some) (hR : isR.map (fun i => ws[i]?) = wr.map some) (hnC : va_nd isC = true) (hn : va_nd isR = true) (hdis : ∀ i ∈ isR, i ∉ isC)
    (v1 : Cond.methodLink own index y ∈ wsL_law) (v2 : Cond.static y ∈ wsL_law) (v4 : Cond.initialized y.cls ∈ wsL_law) (v5 : Cond.code y cd mL rt2 ∈ wsL_law)
    (hd : y.cls ≠ "java/lang/invoke/MethodHandle" ∧ y.cls ≠ "java/lang/invoke/VarHandle" ∧ (parseMethodDescriptor y.desc).map (fun d => d.parameters.length) = some n) (hRm : rm.frames + 1 ≤ R.frames ∧ 8 + (mL + 11) + rm.locals ≤ R.locals) (hls : lv_has ls nL lv) (hst : st = As.reverse ++ rest) (hAs : As.length = n) (hW : (rest.map fun v => v.category).sum ≤ 8) (hdg : decode cc pc = .ok (.invokestatic index, 3)) (hf : cells + rm.cells ≤ R.cells ∧ slots + rm.slots ≤ R.slots)
    (kk : ∀ (r : Int32) (u : KS) (H1 : Heap) (locs1 : List Loc), post r u → va_P G.1 vwCl (wr ++ w1 u) H1 → va_D A (wr ++ w1 u) → va_S A s.heap H1 locs1 → W p l e R s m args below meth c H1 locs1 (cells + rm.cells) (slots + rm.slots) Q (F0 m (pc + 3) ls (.int r :: rest))) : W p l e R s m args below meth c H locs cells slots Q (F0 m pc ls st) := by
  subst hst
  have hPc : va_P G.1 vwCl wc H := hP.sub isC (fm_of _ _ hC)
  have hDc := hD.sub isC hnC hC
  have hFc := va_free hD hS X.2.2.2.2.1 isC hC
  have hG : GoodIn Ts (va_wsS own index y (.code y cd mL rt2 :: wsL_law)) := gT X.2.1 (fun w hw => by
    simp only [va_wsS, List.cons_append, List.nil_append, List.mem_cons] at hw
    rcases hw with rfl | rfl | rfl | rfl | hw
    · exact v1
    · exact v2
    · exact v4
    · exact v5
    · exact hw)
  refine va_calli (va_runS (As := As) (rest := rest) X.1 (K H.size) (va_cwS n X.1.2.2.2.2 hG rfl rfl rfl hd hRm) ⟨Pw_blind, fun U hU hW => m_pre (U0 := s) (av := As) X.2.2.1 X.2.2.2.1 hPc hDc U hU hW⟩ rfl hAs hls.1 rfl (lv_room hW) hdg hf) hS (fun q _ h => hFc q h) hFc (fun r u t H1 locs1 ht hvm hw hB hz1 hk1 hS1 => ?_)
  obtain ⟨hP1, hD1⟩ := hB
  rw [ht] at hP1
  obtain ⟨hP2, hD2⟩ := va_join hP hD isC isR hC hR hn hdis hk1 hFc hP1 hD1
  exact kk r u H1 locs1 hw hP2 hD2 hS1
theorem m_cIv (X : CX p s m args meth c cc nL own rt G A Ts) (hP : va_P G.1 vwCl ws H) (hD : va_D A ws) (hS : va_S A s.heap H locs) {post : KS → Prop}
    (K : ∀ sz : Nat, Met l y (.code y cd mL none :: wsL_law) rm (va_Pc (.ref b :: As) (Pw G wc sz)) (va_Qv post (fun u t => Bw G (va_A wc sz) (w1 u) t) (va_A wc sz)) rm.cells rm.slots (va_A wc sz))
    (isC isR : List Nat) (hC : isC.map (fun i => ws[i]?) = wc.map some) (hR : isR.map (fun i => ws[i]?) = wr.map some) (hnC : va_nd isC = true) (hn : va_nd isR = true) (hdis : ∀ i ∈ isR, i ∉ isC)
    (v1 : Cond.methodLink own index y ∈ wsL_law) (v2 : Cond.instanceMethod y ∈ wsL_law) (v4 : Cond.initialized y.cls ∈ wsL_law) (v5 : Cond.code y cd mL none ∈ wsL_law) (hy1 : y.name = "<init>")
    (hd : y.cls ≠ "java/lang/invoke/MethodHandle" ∧ y.cls ≠ "java/lang/invoke/VarHandle" ∧ (parseMethodDescriptor y.desc).map (fun d => d.parameters.length) = some n) (hRm : rm.frames + 1 ≤ R.frames ∧ 8 + (mL + 11) + rm.locals ≤ R.locals) (hls : lv_has ls nL lv) (hst : st = As.reverse ++ .ref b :: rest) (hAs : As.length = n) (hW : (rest.map fun v => v.category).sum ≤ 8) (hdg : decode cc pc = .ok (.invokespecial index, 3)) (hf : cells + rm.cells ≤ R.cells ∧ slots + rm.slots ≤ R.slots)
    (kk : ∀ (u : KS) (H1 : Heap) (locs1 : List Loc), post u → va_P G.1 vwCl (wr ++ w1 u) H1 → va_D A (wr ++ w1 u) → va_S A s.heap H1 locs1 → W p l e R s m args below meth c H1 locs1 (cells + rm.cells) (slots + rm.slots) Q (F0 m (pc + 3) ls rest)) : W p l e R s m args below meth c H locs cells slots Q (F0 m pc ls st) := by
  subst hst
  have hPc : va_P G.1 vwCl wc H := hP.sub isC (fm_of _ _ hC)
  have hDc := hD.sub isC hnC hC
  have hFc := va_free hD hS X.2.2.2.2.1 isC hC
  have hG : GoodIn Ts (.code y cd mL none :: wsL_law) := gT X.2.1 (fun w hw => by
    rcases List.mem_cons.mp hw with rfl | hw
    · exact v5
    · exact hw)
  refine va_callv (va_runI (As := As) (rest := rest) X.1 (K H.size) (cwI n X.1.2.2.2.2 hG rfl rfl rfl (X.1.2.2.2.2 _ (X.2.1 _ v4)) (X.1.2.2.2.2 _ (X.2.1 _ v1)) (X.1.2.2.2.2 _ (X.2.1 _ v2)) hy1 hd hRm) ⟨Pw_blind, fun U hU hW => m_pre (U0 := s) (av := .ref b :: As) X.2.2.1 X.2.2.2.1 hPc hDc U hU hW⟩ rfl hAs hls.1 rfl (lv_room hW) hdg hf) hS (fun q _ h => hFc q h) hFc (fun u t H1 locs1 ht hvm hw hB hz1 hk1 hS1 => ?_)
  obtain ⟨hP1, hD1⟩ := hB
  rw [ht] at hP1
  obtain ⟨hP2, hD2⟩ := va_join hP hD isC isR hC hR hn hdis hk1 hFc hP1 hD1
  exact kk u H1 locs1 hw hP2 hD2 hS1
theorem m_cIN (X : CX p s m args meth c cc nL own rt G A Ts) (hP : va_P G.1 vwCl ws H) (hD : va_D A ws) (hS : va_S A s.heap H locs) {post : KS → Prop} {host : String}
    (K : ∀ sz : Nat, Met l y (.code y cd mL none :: wsL_law) rm (va_Pc (.ref b :: As) (Pw G wc sz)) (va_Qv post (fun u t => Bw G (va_A wc sz) (w1 u) t) (va_A wc sz)) rm.cells rm.slots (va_A wc sz))
    (isC isR : List Nat) (hC : isC.map (fun i => ws[i]?) = wc.map some) (hR : isR.map (fun i => ws[i]?) = wr.map some) (hnC : va_nd isC = true) (hn : va_nd isR = true) (hdis : ∀ i ∈ isR, i ∉ isC)
    (v1 : (own, index, y, host) ∈ nestM) (v2 : Cond.instanceMethod y ∈ wsL_law) (v4 : Cond.initialized y.cls ∈ wsL_law) (v5 : Cond.code y cd mL none ∈ wsL_law) (hy1 : y.name = "<init>")
    (hd : y.cls ≠ "java/lang/invoke/MethodHandle" ∧ y.cls ≠ "java/lang/invoke/VarHandle" ∧ (parseMethodDescriptor y.desc).map (fun d => d.parameters.length) = some n) (hRm : rm.frames + 1 ≤ R.frames ∧ 8 + (mL + 11) + rm.locals ≤ R.locals) (hls : lv_has ls nL lv) (hst : st = As.reverse ++ .ref b :: rest) (hAs : As.length = n) (hW : (rest.map fun v => v.category).sum ≤ 8) (hdg : decode cc pc = .ok (.invokespecial index, 3)) (hf : cells + rm.cells ≤ R.cells ∧ slots + rm.slots ≤ R.slots)
    (kk : ∀ (u : KS) (H1 : Heap) (locs1 : List Loc), post u → va_P G.1 vwCl (wr ++ w1 u) H1 → va_D A (wr ++ w1 u) → va_S A s.heap H1 locs1 → W p l e R s m args below meth c H1 locs1 (cells + rm.cells) (slots + rm.slots) Q (F0 m (pc + 3) ls rest)) : W p l e R s m args below meth c H locs cells slots Q (F0 m pc ls st) := by
  subst hst
  have hPc : va_P G.1 vwCl wc H := hP.sub isC (fm_of _ _ hC)
  have hDc := hD.sub isC hnC hC
  have hFc := va_free hD hS X.2.2.2.2.1 isC hC
  have hG : GoodIn Ts (.code y cd mL none :: wsL_law) := gT X.2.1 (fun w hw => by
    rcases List.mem_cons.mp hw with rfl | hw
    · exact v5
    · exact hw)
  refine va_callv (va_runIN (host := host) (As := As) (rest := rest) X.1 (K H.size) ⟨va_cnB n X.1.2.2.2.2 hG rfl rfl rfl (X.2.2.2.1.1 _ v1) (X.1.2.2.2.2 _ (X.2.1 _ v4)) hd hRm, hy1, X.1.2.2.2.2 _ (X.2.1 _ v2)⟩ ⟨Pw_blind, fun U hU hW => m_pre (U0 := s) (av := .ref b :: As) X.2.2.1 X.2.2.2.1 hPc hDc U hU hW⟩ rfl hAs hls.1 rfl (lv_room hW) hdg hf) hS (fun q _ h => hFc q h) hFc (fun u t H1 locs1 ht hvm hw hB hz1 hk1 hS1 => ?_)
  obtain ⟨hP1, hD1⟩ := hB
  rw [ht] at hP1
  obtain ⟨hP2, hD2⟩ := va_join hP hD isC isR hC hR hn hdis hk1 hFc hP1 hD1
  exact kk u H1 locs1 hw hP2 hD2 hS1
end MB
end
section
theorem zz_look : True := trivial
end
