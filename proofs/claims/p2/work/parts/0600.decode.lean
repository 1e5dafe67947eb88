theorem dJ6_bitCount_0f7a4_0 : decode cJ6_bitCount_0f7a4 0 = .ok (.iload_n 0, 1) := by decide +kernel
theorem dJ6_bitCount_0f7a4_1 : decode cJ6_bitCount_0f7a4 1 = .ok (.iload_n 0, 1) := by decide +kernel
theorem dJ6_bitCount_0f7a4_2 : decode cJ6_bitCount_0f7a4 2 = .ok (.iconst 1, 1) := by decide +kernel
theorem dJ6_bitCount_0f7a4_3 : decode cJ6_bitCount_0f7a4 3 = .ok (.iushr, 1) := by decide +kernel
theorem dJ6_bitCount_0f7a4_4 : decode cJ6_bitCount_0f7a4 4 = .ok (.ldc_w 265, 3) := by decide +kernel
theorem dJ6_bitCount_0f7a4_7 : decode cJ6_bitCount_0f7a4 7 = .ok (.iand, 1) := by decide +kernel
theorem dJ6_bitCount_0f7a4_8 : decode cJ6_bitCount_0f7a4 8 = .ok (.isub, 1) := by decide +kernel
theorem dJ6_bitCount_0f7a4_9 : decode cJ6_bitCount_0f7a4 9 = .ok (.istore_n 0, 1) := by decide +kernel
theorem dJ6_bitCount_0f7a4_10 : decode cJ6_bitCount_0f7a4 10 = .ok (.iload_n 0, 1) := by decide +kernel
theorem dJ6_bitCount_0f7a4_11 : decode cJ6_bitCount_0f7a4 11 = .ok (.ldc_w 266, 3) := by decide +kernel
theorem dJ6_bitCount_0f7a4_14 : decode cJ6_bitCount_0f7a4 14 = .ok (.iand, 1) := by decide +kernel
theorem dJ6_bitCount_0f7a4_15 : decode cJ6_bitCount_0f7a4 15 = .ok (.iload_n 0, 1) := by decide +kernel
theorem dJ6_bitCount_0f7a4_16 : decode cJ6_bitCount_0f7a4 16 = .ok (.iconst 2, 1) := by decide +kernel
theorem dJ6_bitCount_0f7a4_17 : decode cJ6_bitCount_0f7a4 17 = .ok (.iushr, 1) := by decide +kernel
theorem dJ6_bitCount_0f7a4_18 : decode cJ6_bitCount_0f7a4 18 = .ok (.ldc_w 266, 3) := by decide +kernel
theorem dJ6_bitCount_0f7a4_21 : decode cJ6_bitCount_0f7a4 21 = .ok (.iand, 1) := by decide +kernel
theorem dJ6_bitCount_0f7a4_22 : decode cJ6_bitCount_0f7a4 22 = .ok (.iadd, 1) := by decide +kernel
theorem dJ6_bitCount_0f7a4_23 : decode cJ6_bitCount_0f7a4 23 = .ok (.istore_n 0, 1) := by decide +kernel
theorem dJ6_bitCount_0f7a4_24 : decode cJ6_bitCount_0f7a4 24 = .ok (.iload_n 0, 1) := by decide +kernel
theorem dJ6_bitCount_0f7a4_25 : decode cJ6_bitCount_0f7a4 25 = .ok (.iload_n 0, 1) := by decide +kernel
theorem dJ6_bitCount_0f7a4_26 : decode cJ6_bitCount_0f7a4 26 = .ok (.iconst 4, 1) := by decide +kernel
theorem dJ6_bitCount_0f7a4_27 : decode cJ6_bitCount_0f7a4 27 = .ok (.iushr, 1) := by decide +kernel
theorem dJ6_bitCount_0f7a4_28 : decode cJ6_bitCount_0f7a4 28 = .ok (.iadd, 1) := by decide +kernel
theorem dJ6_bitCount_0f7a4_29 : decode cJ6_bitCount_0f7a4 29 = .ok (.ldc_w 267, 3) := by decide +kernel
theorem dJ6_bitCount_0f7a4_32 : decode cJ6_bitCount_0f7a4 32 = .ok (.iand, 1) := by decide +kernel
theorem dJ6_bitCount_0f7a4_33 : decode cJ6_bitCount_0f7a4 33 = .ok (.istore_n 0, 1) := by decide +kernel
theorem dJ6_bitCount_0f7a4_34 : decode cJ6_bitCount_0f7a4 34 = .ok (.iload_n 0, 1) := by decide +kernel
theorem dJ6_bitCount_0f7a4_35 : decode cJ6_bitCount_0f7a4 35 = .ok (.iload_n 0, 1) := by decide +kernel
theorem dJ6_bitCount_0f7a4_36 : decode cJ6_bitCount_0f7a4 36 = .ok (.bipush 8, 2) := by decide +kernel
theorem dJ6_bitCount_0f7a4_38 : decode cJ6_bitCount_0f7a4 38 = .ok (.iushr, 1) := by decide +kernel
theorem dJ6_bitCount_0f7a4_39 : decode cJ6_bitCount_0f7a4 39 = .ok (.iadd, 1) := by decide +kernel
theorem dJ6_bitCount_0f7a4_40 : decode cJ6_bitCount_0f7a4 40 = .ok (.istore_n 0, 1) := by decide +kernel
theorem dJ6_bitCount_0f7a4_41 : decode cJ6_bitCount_0f7a4 41 = .ok (.iload_n 0, 1) := by decide +kernel
theorem dJ6_bitCount_0f7a4_42 : decode cJ6_bitCount_0f7a4 42 = .ok (.iload_n 0, 1) := by decide +kernel
theorem dJ6_bitCount_0f7a4_43 : decode cJ6_bitCount_0f7a4 43 = .ok (.bipush 16, 2) := by decide +kernel
theorem dJ6_bitCount_0f7a4_45 : decode cJ6_bitCount_0f7a4 45 = .ok (.iushr, 1) := by decide +kernel
theorem dJ6_bitCount_0f7a4_46 : decode cJ6_bitCount_0f7a4 46 = .ok (.iadd, 1) := by decide +kernel
theorem dJ6_bitCount_0f7a4_47 : decode cJ6_bitCount_0f7a4 47 = .ok (.istore_n 0, 1) := by decide +kernel
theorem dJ6_bitCount_0f7a4_48 : decode cJ6_bitCount_0f7a4 48 = .ok (.iload_n 0, 1) := by decide +kernel
theorem dJ6_bitCount_0f7a4_49 : decode cJ6_bitCount_0f7a4 49 = .ok (.bipush 63, 2) := by decide +kernel
theorem dJ6_bitCount_0f7a4_51 : decode cJ6_bitCount_0f7a4 51 = .ok (.iand, 1) := by decide +kernel
theorem dJ6_bitCount_0f7a4_52 : decode cJ6_bitCount_0f7a4 52 = .ok (.ireturn, 1) := by decide +kernel
theorem dX0_byDoor_0 : decode cX0_byDoor 0 = .ok (.aload_n 0, 1) := by decide +kernel
theorem dX0_byDoor_1 : decode cX0_byDoor 1 = .ok (.iload_n 1, 1) := by decide +kernel
theorem dX0_byDoor_2 : decode cX0_byDoor 2 = .ok (.iload_n 2, 1) := by decide +kernel
theorem dX0_byDoor_3 : decode cX0_byDoor 3 = .ok (.invokevirtual 57, 3) := by decide +kernel
theorem dX0_byDoor_6 : decode cX0_byDoor 6 = .ok (.ifCond .ne 6, 3) := by decide +kernel
theorem dX0_byDoor_9 : decode cX0_byDoor 9 = .ok (.bipush 8, 2) := by decide +kernel
theorem dX0_byDoor_11 : decode cX0_byDoor 11 = .ok (.ireturn, 1) := by decide +kernel
theorem dX0_byDoor_12 : decode cX0_byDoor 12 = .ok (.aload_n 0, 1) := by decide +kernel
theorem dX0_byDoor_13 : decode cX0_byDoor 13 = .ok (.iload_n 1, 1) := by decide +kernel
theorem dX0_byDoor_14 : decode cX0_byDoor 14 = .ok (.iload_n 2, 1) := by decide +kernel
theorem dX0_byDoor_15 : decode cX0_byDoor 15 = .ok (.invokevirtual 61, 3) := by decide +kernel
theorem dX0_byDoor_18 : decode cX0_byDoor 18 = .ok (.ifCond .ne 7, 3) := by decide +kernel
theorem dX0_byDoor_21 : decode cX0_byDoor 21 = .ok (.sipush 160, 3) := by decide +kernel
theorem dX0_byDoor_24 : decode cX0_byDoor 24 = .ok (.ireturn, 1) := by decide +kernel
theorem dX0_byDoor_25 : decode cX0_byDoor 25 = .ok (.aload_n 0, 1) := by decide +kernel
theorem dX0_byDoor_26 : decode cX0_byDoor 26 = .ok (.iload_n 1, 1) := by decide +kernel
theorem dX0_byDoor_27 : decode cX0_byDoor 27 = .ok (.iload_n 2, 1) := by decide +kernel
theorem dX0_byDoor_28 : decode cX0_byDoor 28 = .ok (.iconst 3, 1) := by decide +kernel
theorem dX0_byDoor_29 : decode cX0_byDoor 29 = .ok (.invokevirtual 64, 3) := by decide +kernel
theorem dX0_byDoor_32 : decode cX0_byDoor 32 = .ok (.iconst 1, 1) := by decide +kernel
theorem dX0_byDoor_33 : decode cX0_byDoor 33 = .ok (.iadd, 1) := by decide +kernel
theorem dX0_byDoor_34 : decode cX0_byDoor 34 = .ok (.bipush 8, 2) := by decide +kernel
theorem dX0_byDoor_36 : decode cX0_byDoor 36 = .ok (.imul, 1) := by decide +kernel
theorem dX0_byDoor_37 : decode cX0_byDoor 37 = .ok (.ireturn, 1) := by decide +kernel
theorem dX0_byWall_0 : decode cX0_byWall 0 = .ok (.aload_n 1, 1) := by decide +kernel
theorem dX0_byWall_1 : decode cX0_byWall 1 = .ok (.iload_n 2, 1) := by decide +kernel
theorem dX0_byWall_2 : decode cX0_byWall 2 = .ok (.iload_n 3, 1) := by decide +kernel
theorem dX0_byWall_3 : decode cX0_byWall 3 = .ok (.invokevirtual 57, 3) := by decide +kernel
theorem dX0_byWall_6 : decode cX0_byWall 6 = .ok (.ifCond .ne 6, 3) := by decide +kernel
theorem dX0_byWall_9 : decode cX0_byWall 9 = .ok (.bipush 9, 2) := by decide +kernel
theorem dX0_byWall_11 : decode cX0_byWall 11 = .ok (.ireturn, 1) := by decide +kernel
theorem dX0_byWall_12 : decode cX0_byWall 12 = .ok (.aload_n 1, 1) := by decide +kernel
theorem dX0_byWall_13 : decode cX0_byWall 13 = .ok (.iload_n 2, 1) := by decide +kernel
theorem dX0_byWall_14 : decode cX0_byWall 14 = .ok (.iload_n 3, 1) := by decide +kernel
theorem dX0_byWall_15 : decode cX0_byWall 15 = .ok (.invokevirtual 61, 3) := by decide +kernel
theorem dX0_byWall_18 : decode cX0_byWall 18 = .ok (.ifCond .ne 7, 3) := by decide +kernel
theorem dX0_byWall_21 : decode cX0_byWall 21 = .ok (.sipush 161, 3) := by decide +kernel
theorem dX0_byWall_24 : decode cX0_byWall 24 = .ok (.ireturn, 1) := by decide +kernel
theorem dX0_byWall_25 : decode cX0_byWall 25 = .ok (.aload_n 0, 1) := by decide +kernel
theorem dX0_byWall_26 : decode cX0_byWall 26 = .ok (.aload_n 1, 1) := by decide +kernel
theorem dX0_byWall_27 : decode cX0_byWall 27 = .ok (.iload_n 2, 1) := by decide +kernel
theorem dX0_byWall_28 : decode cX0_byWall 28 = .ok (.iload_n 3, 1) := by decide +kernel
theorem dX0_byWall_29 : decode cX0_byWall 29 = .ok (.iconst 0, 1) := by decide +kernel
theorem dX0_byWall_30 : decode cX0_byWall 30 = .ok (.invokevirtual 64, 3) := by decide +kernel
theorem dX0_byWall_33 : decode cX0_byWall 33 = .ok (.iconst 4, 1) := by decide +kernel
theorem dX0_byWall_34 : decode cX0_byWall 34 = .ok (.invokevirtual 68, 3) := by decide +kernel
theorem dX0_byWall_37 : decode cX0_byWall 37 = .ok (.istore 4, 2) := by decide +kernel
theorem dX0_byWall_39 : decode cX0_byWall 39 = .ok (.iconst 1, 1) := by decide +kernel
theorem dX0_byWall_40 : decode cX0_byWall 40 = .ok (.iload 4, 2) := by decide +kernel
theorem dX0_byWall_42 : decode cX0_byWall 42 = .ok (.aload_n 1, 1) := by decide +kernel
theorem dX0_byWall_43 : decode cX0_byWall 43 = .ok (.iload_n 2, 1) := by decide +kernel
theorem dX0_byWall_44 : decode cX0_byWall 44 = .ok (.iload_n 3, 1) := by decide +kernel
theorem dX0_byWall_45 : decode cX0_byWall 45 = .ok (.iconst 4, 1) := by decide +kernel
theorem dX0_byWall_46 : decode cX0_byWall 46 = .ok (.invokevirtual 64, 3) := by decide +kernel
theorem dX0_byWall_49 : decode cX0_byWall 49 = .ok (.isub, 1) := by decide +kernel
theorem dX0_byWall_50 : decode cX0_byWall 50 = .ok (.invokestatic 73, 3) := by decide +kernel
theorem dX0_byWall_53 : decode cX0_byWall 53 = .ok (.bipush 8, 2) := by decide +kernel
theorem dX0_byWall_55 : decode cX0_byWall 55 = .ok (.imul, 1) := by decide +kernel
theorem dX0_byWall_56 : decode cX0_byWall 56 = .ok (.iconst 1, 1) := by decide +kernel
theorem dX0_byWall_57 : decode cX0_byWall 57 = .ok (.iadd, 1) := by decide +kernel
theorem dX0_byWall_58 : decode cX0_byWall 58 = .ok (.ireturn, 1) := by decide +kernel
theorem dX0_cheapest_0 : decode cX0_cheapest 0 = .ok (.aload_n 2, 1) := by decide +kernel
theorem dX0_cheapest_1 : decode cX0_cheapest 1 = .ok (.getfield 18, 3) := by decide +kernel
theorem dX0_cheapest_4 : decode cX0_cheapest 4 = .ok (.iload_n 3, 1) := by decide +kernel
theorem dX0_cheapest_5 : decode cX0_cheapest 5 = .ok (.iaload, 1) := by decide +kernel
theorem dX0_cheapest_6 : decode cX0_cheapest 6 = .ok (.istore 5, 2) := by decide +kernel
theorem dX0_cheapest_8 : decode cX0_cheapest 8 = .ok (.iload 5, 2) := by decide +kernel
theorem dX0_cheapest_10 : decode cX0_cheapest 10 = .ok (.ifCond .ne 5, 3) := by decide +kernel
theorem dX0_cheapest_13 : decode cX0_cheapest 13 = .ok (.iconst 0, 1) := by decide +kernel
theorem dX0_cheapest_14 : decode cX0_cheapest 14 = .ok (.ireturn, 1) := by decide +kernel
theorem dX0_cheapest_15 : decode cX0_cheapest 15 = .ok (.iload 4, 2) := by decide +kernel
theorem dX0_cheapest_17 : decode cX0_cheapest 17 = .ok (.iconst 1, 1) := by decide +kernel
theorem dX0_cheapest_18 : decode cX0_cheapest 18 = .ok (.if_icmp .ge 7, 3) := by decide +kernel
theorem dX0_cheapest_21 : decode cX0_cheapest 21 = .ok (.iconst 1, 1) := by decide +kernel
theorem dX0_cheapest_22 : decode cX0_cheapest 22 = .ok (.goto 5, 3) := by decide +kernel
theorem dX0_cheapest_25 : decode cX0_cheapest 25 = .ok (.iload 4, 2) := by decide +kernel
theorem dX0_cheapest_27 : decode cX0_cheapest 27 = .ok (.istore 6, 2) := by decide +kernel
theorem dX0_cheapest_29 : decode cX0_cheapest 29 = .ok (.aload_n 0, 1) := by decide +kernel
theorem dX0_cheapest_30 : decode cX0_cheapest 30 = .ok (.getfield 9, 3) := by decide +kernel
theorem dX0_cheapest_33 : decode cX0_cheapest 33 = .ok (.invokestatic 23, 3) := by decide +kernel
theorem dX0_cheapest_36 : decode cX0_cheapest 36 = .ok (.aload_n 2, 1) := by decide +kernel
theorem dX0_cheapest_37 : decode cX0_cheapest 37 = .ok (.iload_n 3, 1) := by decide +kernel
theorem dX0_cheapest_38 : decode cX0_cheapest 38 = .ok (.iload 5, 2) := by decide +kernel
theorem dX0_cheapest_40 : decode cX0_cheapest 40 = .ok (.invokevirtual 27, 3) := by decide +kernel
theorem dX0_cheapest_43 : decode cX0_cheapest 43 = .ok (.istore 7, 2) := by decide +kernel
theorem dX0_cheapest_45 : decode cX0_cheapest 45 = .ok (.iload 7, 2) := by decide +kernel
theorem dX0_cheapest_47 : decode cX0_cheapest 47 = .ok (.ifCond .lt 38, 3) := by decide +kernel
theorem dX0_cheapest_50 : decode cX0_cheapest 50 = .ok (.iload 7, 2) := by decide +kernel
theorem dX0_cheapest_52 : decode cX0_cheapest 52 = .ok (.aload_n 0, 1) := by decide +kernel
theorem dX0_cheapest_53 : decode cX0_cheapest 53 = .ok (.getfield 9, 3) := by decide +kernel
theorem dX0_cheapest_56 : decode cX0_cheapest 56 = .ok (.arraylength, 1) := by decide +kernel
theorem dX0_cheapest_57 : decode cX0_cheapest 57 = .ok (.if_icmp .ge 28, 3) := by decide +kernel
theorem dX0_cheapest_60 : decode cX0_cheapest 60 = .ok (.aload_n 0, 1) := by decide +kernel
theorem dX0_cheapest_61 : decode cX0_cheapest 61 = .ok (.getfield 9, 3) := by decide +kernel
theorem dX0_cheapest_64 : decode cX0_cheapest 64 = .ok (.iload 7, 2) := by decide +kernel
theorem dX0_cheapest_66 : decode cX0_cheapest 66 = .ok (.aload_n 2, 1) := by decide +kernel
theorem dX0_cheapest_67 : decode cX0_cheapest 67 = .ok (.iload_n 3, 1) := by decide +kernel
theorem dX0_cheapest_68 : decode cX0_cheapest 68 = .ok (.iload 5, 2) := by decide +kernel
theorem dX0_cheapest_70 : decode cX0_cheapest 70 = .ok (.invokestatic 31, 3) := by decide +kernel
theorem dX0_cheapest_73 : decode cX0_cheapest 73 = .ok (.aload_n 1, 1) := by decide +kernel
theorem dX0_cheapest_74 : decode cX0_cheapest 74 = .ok (.aload_n 2, 1) := by decide +kernel
theorem dX0_cheapest_75 : decode cX0_cheapest 75 = .ok (.iload_n 3, 1) := by decide +kernel
theorem dX0_cheapest_76 : decode cX0_cheapest 76 = .ok (.iload 5, 2) := by decide +kernel
theorem dX0_cheapest_78 : decode cX0_cheapest 78 = .ok (.invokestatic 35, 3) := by decide +kernel
theorem dX0_cheapest_81 : decode cX0_cheapest 81 = .ok (.invokestatic 39, 3) := by decide +kernel
theorem dX0_cheapest_84 : decode cX0_cheapest 84 = .ok (.iastore, 1) := by decide +kernel
theorem dX0_cheapest_85 : decode cX0_cheapest 85 = .ok (.iload 5, 2) := by decide +kernel
theorem dX0_cheapest_87 : decode cX0_cheapest 87 = .ok (.iconst 1, 1) := by decide +kernel
theorem dX0_cheapest_88 : decode cX0_cheapest 88 = .ok (.isub, 1) := by decide +kernel
theorem dX0_cheapest_89 : decode cX0_cheapest 89 = .ok (.istore 8, 2) := by decide +kernel
theorem dX0_cheapest_91 : decode cX0_cheapest 91 = .ok (.iload 8, 2) := by decide +kernel
theorem dX0_cheapest_93 : decode cX0_cheapest 93 = .ok (.iload 6, 2) := by decide +kernel
theorem dX0_cheapest_95 : decode cX0_cheapest 95 = .ok (.if_icmp .lt 26, 3) := by decide +kernel
theorem dX0_cheapest_98 : decode cX0_cheapest 98 = .ok (.aload_n 0, 1) := by decide +kernel
theorem dX0_cheapest_99 : decode cX0_cheapest 99 = .ok (.iload 8, 2) := by decide +kernel
theorem dX0_cheapest_101 : decode cX0_cheapest 101 = .ok (.iconst 1, 1) := by decide +kernel
theorem dX0_cheapest_102 : decode cX0_cheapest 102 = .ok (.iadd, 1) := by decide +kernel
theorem dX0_cheapest_103 : decode cX0_cheapest 103 = .ok (.invokevirtual 44, 3) := by decide +kernel
theorem dX0_cheapest_106 : decode cX0_cheapest 106 = .ok (.aload_n 0, 1) := by decide +kernel
theorem dX0_cheapest_107 : decode cX0_cheapest 107 = .ok (.aload_n 1, 1) := by decide +kernel
theorem dX0_cheapest_108 : decode cX0_cheapest 108 = .ok (.aload_n 2, 1) := by decide +kernel
theorem dX0_cheapest_109 : decode cX0_cheapest 109 = .ok (.iload_n 3, 1) := by decide +kernel
theorem dX0_cheapest_110 : decode cX0_cheapest 110 = .ok (.iload 8, 2) := by decide +kernel
theorem dX0_cheapest_112 : decode cX0_cheapest 112 = .ok (.invokevirtual 48, 3) := by decide +kernel
theorem dX0_cheapest_115 : decode cX0_cheapest 115 = .ok (.iinc 8 (-1), 3) := by decide +kernel
theorem dX0_cheapest_118 : decode cX0_cheapest 118 = .ok (.goto (-27), 3) := by decide +kernel
theorem dX0_cheapest_121 : decode cX0_cheapest 121 = .ok (.aload_n 0, 1) := by decide +kernel
theorem dX0_cheapest_122 : decode cX0_cheapest 122 = .ok (.bipush 8, 2) := by decide +kernel
theorem dX0_cheapest_124 : decode cX0_cheapest 124 = .ok (.iload 6, 2) := by decide +kernel
theorem dX0_cheapest_126 : decode cX0_cheapest 126 = .ok (.imul, 1) := by decide +kernel
theorem dX0_cheapest_127 : decode cX0_cheapest 127 = .ok (.invokevirtual 52, 3) := by decide +kernel
theorem dX0_cheapest_130 : decode cX0_cheapest 130 = .ok (.iload 4, 2) := by decide +kernel
theorem dX0_cheapest_132 : decode cX0_cheapest 132 = .ok (.iconst 1, 1) := by decide +kernel
theorem dX0_cheapest_133 : decode cX0_cheapest 133 = .ok (.if_icmp .ge 8, 3) := by decide +kernel
theorem dX0_cheapest_136 : decode cX0_cheapest 136 = .ok (.bipush 8, 2) := by decide +kernel
theorem dX0_cheapest_138 : decode cX0_cheapest 138 = .ok (.goto 4, 3) := by decide +kernel
theorem dX0_cheapest_141 : decode cX0_cheapest 141 = .ok (.iconst 0, 1) := by decide +kernel
theorem dX0_cheapest_142 : decode cX0_cheapest 142 = .ok (.iadd, 1) := by decide +kernel
theorem dX0_cheapest_143 : decode cX0_cheapest 143 = .ok (.ireturn, 1) := by decide +kernel
theorem dX0_empty_0 : decode cX0_empty 0 = .ok (.iconst 0, 1) := by decide +kernel
theorem dX0_empty_1 : decode cX0_empty 1 = .ok (.istore_n 1, 1) := by decide +kernel
theorem dX0_empty_2 : decode cX0_empty 2 = .ok (.iload_n 1, 1) := by decide +kernel
theorem dX0_empty_3 : decode cX0_empty 3 = .ok (.aload_n 0, 1) := by decide +kernel
theorem dX0_empty_4 : decode cX0_empty 4 = .ok (.arraylength, 1) := by decide +kernel
theorem dX0_empty_5 : decode cX0_empty 5 = .ok (.if_icmp .ge 14, 3) := by decide +kernel
theorem dX0_empty_8 : decode cX0_empty 8 = .ok (.aload_n 0, 1) := by decide +kernel
theorem dX0_empty_9 : decode cX0_empty 9 = .ok (.iload_n 1, 1) := by decide +kernel
theorem dX0_empty_10 : decode cX0_empty 10 = .ok (.ldc 56, 2) := by decide +kernel
theorem dX0_empty_12 : decode cX0_empty 12 = .ok (.iastore, 1) := by decide +kernel
theorem dX0_empty_13 : decode cX0_empty 13 = .ok (.iinc 1 1, 3) := by decide +kernel
theorem dX0_empty_16 : decode cX0_empty 16 = .ok (.goto (-14), 3) := by decide +kernel
theorem dX0_empty_19 : decode cX0_empty 19 = .ok (.return_, 1) := by decide +kernel
theorem dX0_goIn_0 : decode cX0_goIn 0 = .ok (.aload_n 2, 1) := by decide +kernel
theorem dX0_goIn_1 : decode cX0_goIn 1 = .ok (.iload_n 3, 1) := by decide +kernel
theorem dX0_goIn_2 : decode cX0_goIn 2 = .ok (.iload 4, 2) := by decide +kernel
theorem dX0_goIn_4 : decode cX0_goIn 4 = .ok (.invokevirtual 27, 3) := by decide +kernel
theorem dX0_goIn_7 : decode cX0_goIn 7 = .ok (.istore 5, 2) := by decide +kernel
theorem dX0_goIn_9 : decode cX0_goIn 9 = .ok (.aload_n 1, 1) := by decide +kernel
theorem dX0_goIn_10 : decode cX0_goIn 10 = .ok (.aload_n 2, 1) := by decide +kernel
theorem dX0_goIn_11 : decode cX0_goIn 11 = .ok (.iload_n 3, 1) := by decide +kernel
theorem dX0_goIn_12 : decode cX0_goIn 12 = .ok (.iload 4, 2) := by decide +kernel
theorem dX0_goIn_14 : decode cX0_goIn 14 = .ok (.invokestatic 35, 3) := by decide +kernel
theorem dX0_goIn_17 : decode cX0_goIn 17 = .ok (.istore 6, 2) := by decide +kernel
theorem dX0_goIn_19 : decode cX0_goIn 19 = .ok (.iload 6, 2) := by decide +kernel
theorem dX0_goIn_21 : decode cX0_goIn 21 = .ok (.aload_n 2, 1) := by decide +kernel
theorem dX0_goIn_22 : decode cX0_goIn 22 = .ok (.iload_n 3, 1) := by decide +kernel
theorem dX0_goIn_23 : decode cX0_goIn 23 = .ok (.iload 4, 2) := by decide +kernel
theorem dX0_goIn_25 : decode cX0_goIn 25 = .ok (.invokestatic 31, 3) := by decide +kernel
theorem dX0_goIn_28 : decode cX0_goIn 28 = .ok (.invokestatic 39, 3) := by decide +kernel
theorem dX0_goIn_31 : decode cX0_goIn 31 = .ok (.istore 7, 2) := by decide +kernel
theorem dX0_goIn_33 : decode cX0_goIn 33 = .ok (.aload_n 0, 1) := by decide +kernel
theorem dX0_goIn_34 : decode cX0_goIn 34 = .ok (.getfield 15, 3) := by decide +kernel
theorem dX0_goIn_37 : decode cX0_goIn 37 = .ok (.invokestatic 23, 3) := by decide +kernel
theorem dX0_goIn_40 : decode cX0_goIn 40 = .ok (.iconst 0, 1) := by decide +kernel
theorem dX0_goIn_41 : decode cX0_goIn 41 = .ok (.istore 8, 2) := by decide +kernel
theorem dX0_goIn_43 : decode cX0_goIn 43 = .ok (.iload 8, 2) := by decide +kernel
theorem dX0_goIn_45 : decode cX0_goIn 45 = .ok (.bipush 8, 2) := by decide +kernel
theorem dX0_goIn_47 : decode cX0_goIn 47 = .ok (.iload 4, 2) := by decide +kernel
theorem dX0_goIn_49 : decode cX0_goIn 49 = .ok (.imul, 1) := by decide +kernel
theorem dX0_goIn_50 : decode cX0_goIn 50 = .ok (.if_icmp .ge 77, 3) := by decide +kernel
theorem dX0_goIn_53 : decode cX0_goIn 53 = .ok (.iload 8, 2) := by decide +kernel
theorem dX0_goIn_55 : decode cX0_goIn 55 = .ok (.aload_n 0, 1) := by decide +kernel
theorem dX0_goIn_56 : decode cX0_goIn 56 = .ok (.getfield 15, 3) := by decide +kernel
theorem dX0_goIn_59 : decode cX0_goIn 59 = .ok (.arraylength, 1) := by decide +kernel
theorem dX0_goIn_60 : decode cX0_goIn 60 = .ok (.if_icmp .ge 67, 3) := by decide +kernel
theorem dX0_goIn_63 : decode cX0_goIn 63 = .ok (.iload 4, 2) := by decide +kernel
theorem dX0_goIn_65 : decode cX0_goIn 65 = .ok (.iload 8, 2) := by decide +kernel
theorem dX0_goIn_67 : decode cX0_goIn 67 = .ok (.invokestatic 76, 3) := by decide +kernel
theorem dX0_goIn_70 : decode cX0_goIn 70 = .ok (.istore 9, 2) := by decide +kernel
theorem dX0_goIn_72 : decode cX0_goIn 72 = .ok (.iload 4, 2) := by decide +kernel
theorem dX0_goIn_74 : decode cX0_goIn 74 = .ok (.iload 8, 2) := by decide +kernel
theorem dX0_goIn_76 : decode cX0_goIn 76 = .ok (.invokestatic 81, 3) := by decide +kernel
theorem dX0_goIn_79 : decode cX0_goIn 79 = .ok (.ifCond .ne 42, 3) := by decide +kernel
theorem dX0_goIn_82 : decode cX0_goIn 82 = .ok (.iload 9, 2) := by decide +kernel
theorem dX0_goIn_84 : decode cX0_goIn 84 = .ok (.aload_n 0, 1) := by decide +kernel
theorem dX0_goIn_85 : decode cX0_goIn 85 = .ok (.getfield 9, 3) := by decide +kernel
theorem dX0_goIn_88 : decode cX0_goIn 88 = .ok (.arraylength, 1) := by decide +kernel
theorem dX0_goIn_89 : decode cX0_goIn 89 = .ok (.if_icmp .ge 32, 3) := by decide +kernel
theorem dX0_goIn_92 : decode cX0_goIn 92 = .ok (.aload_n 0, 1) := by decide +kernel
theorem dX0_goIn_93 : decode cX0_goIn 93 = .ok (.getfield 15, 3) := by decide +kernel
theorem dX0_goIn_96 : decode cX0_goIn 96 = .ok (.iload 8, 2) := by decide +kernel
theorem dX0_goIn_98 : decode cX0_goIn 98 = .ok (.aload_n 0, 1) := by decide +kernel
theorem dX0_goIn_99 : decode cX0_goIn 99 = .ok (.getfield 9, 3) := by decide +kernel
theorem dX0_goIn_102 : decode cX0_goIn 102 = .ok (.iload 9, 2) := by decide +kernel
theorem dX0_goIn_104 : decode cX0_goIn 104 = .ok (.iaload, 1) := by decide +kernel
theorem dX0_goIn_105 : decode cX0_goIn 105 = .ok (.iload 8, 2) := by decide +kernel
theorem dX0_goIn_107 : decode cX0_goIn 107 = .ok (.iload 5, 2) := by decide +kernel
theorem dX0_goIn_109 : decode cX0_goIn 109 = .ok (.if_icmp .ne 8, 3) := by decide +kernel
theorem dX0_goIn_112 : decode cX0_goIn 112 = .ok (.iload 7, 2) := by decide +kernel
theorem dX0_goIn_114 : decode cX0_goIn 114 = .ok (.goto 5, 3) := by decide +kernel
theorem dX0_goIn_117 : decode cX0_goIn 117 = .ok (.iload 6, 2) := by decide +kernel
theorem dX0_goIn_119 : decode cX0_goIn 119 = .ok (.iadd, 1) := by decide +kernel
theorem dX0_goIn_120 : decode cX0_goIn 120 = .ok (.iastore, 1) := by decide +kernel
theorem dX0_goIn_121 : decode cX0_goIn 121 = .ok (.iinc 8 1, 3) := by decide +kernel
theorem dX0_goIn_124 : decode cX0_goIn 124 = .ok (.goto (-81), 3) := by decide +kernel
theorem dX0_goIn_127 : decode cX0_goIn 127 = .ok (.aload_n 0, 1) := by decide +kernel
theorem dX0_goIn_128 : decode cX0_goIn 128 = .ok (.getfield 9, 3) := by decide +kernel
theorem dX0_goIn_131 : decode cX0_goIn 131 = .ok (.astore 8, 2) := by decide +kernel
theorem dX0_goIn_133 : decode cX0_goIn 133 = .ok (.aload_n 0, 1) := by decide +kernel
theorem dX0_goIn_134 : decode cX0_goIn 134 = .ok (.aload_n 0, 1) := by decide +kernel
theorem dX0_goIn_135 : decode cX0_goIn 135 = .ok (.getfield 15, 3) := by decide +kernel
theorem dX0_goIn_138 : decode cX0_goIn 138 = .ok (.putfield 9, 3) := by decide +kernel
theorem dX0_goIn_141 : decode cX0_goIn 141 = .ok (.aload_n 0, 1) := by decide +kernel
theorem dX0_goIn_142 : decode cX0_goIn 142 = .ok (.aload 8, 2) := by decide +kernel
theorem dX0_goIn_144 : decode cX0_goIn 144 = .ok (.putfield 15, 3) := by decide +kernel
theorem dX0_goIn_147 : decode cX0_goIn 147 = .ok (.return_, 1) := by decide +kernel
theorem dX0_goRound_0 : decode cX0_goRound 0 = .ok (.bipush 8, 2) := by decide +kernel
theorem dX0_goRound_2 : decode cX0_goRound 2 = .ok (.iload_n 1, 1) := by decide +kernel
theorem dX0_goRound_3 : decode cX0_goRound 3 = .ok (.imul, 1) := by decide +kernel
theorem dX0_goRound_4 : decode cX0_goRound 4 = .ok (.aload_n 0, 1) := by decide +kernel
theorem dX0_goRound_5 : decode cX0_goRound 5 = .ok (.getfield 9, 3) := by decide +kernel
theorem dX0_goRound_8 : decode cX0_goRound 8 = .ok (.arraylength, 1) := by decide +kernel
theorem dX0_goRound_9 : decode cX0_goRound 9 = .ok (.invokestatic 39, 3) := by decide +kernel
theorem dX0_goRound_12 : decode cX0_goRound 12 = .ok (.istore_n 2, 1) := by decide +kernel
theorem dX0_goRound_13 : decode cX0_goRound 13 = .ok (.iload_n 2, 1) := by decide +kernel
theorem dX0_goRound_14 : decode cX0_goRound 14 = .ok (.iconst 1, 1) := by decide +kernel
theorem dX0_goRound_15 : decode cX0_goRound 15 = .ok (.if_icmp .ge 4, 3) := by decide +kernel
theorem dX0_goRound_18 : decode cX0_goRound 18 = .ok (.return_, 1) := by decide +kernel
theorem dX0_goRound_19 : decode cX0_goRound 19 = .ok (.iconst 0, 1) := by decide +kernel
theorem dX0_goRound_20 : decode cX0_goRound 20 = .ok (.istore_n 3, 1) := by decide +kernel
theorem dX0_goRound_21 : decode cX0_goRound 21 = .ok (.iload_n 3, 1) := by decide +kernel
theorem dX0_goRound_22 : decode cX0_goRound 22 = .ok (.iconst 2, 1) := by decide +kernel
theorem dX0_goRound_23 : decode cX0_goRound 23 = .ok (.iload_n 2, 1) := by decide +kernel
theorem dX0_goRound_24 : decode cX0_goRound 24 = .ok (.imul, 1) := by decide +kernel
theorem dX0_goRound_25 : decode cX0_goRound 25 = .ok (.if_icmp .ge 44, 3) := by decide +kernel
theorem dX0_goRound_28 : decode cX0_goRound 28 = .ok (.iload_n 3, 1) := by decide +kernel
theorem dX0_goRound_29 : decode cX0_goRound 29 = .ok (.iconst 1, 1) := by decide +kernel
theorem dX0_goRound_30 : decode cX0_goRound 30 = .ok (.iadd, 1) := by decide +kernel
theorem dX0_goRound_31 : decode cX0_goRound 31 = .ok (.iload_n 2, 1) := by decide +kernel
theorem dX0_goRound_32 : decode cX0_goRound 32 = .ok (.irem, 1) := by decide +kernel
theorem dX0_goRound_33 : decode cX0_goRound 33 = .ok (.istore 4, 2) := by decide +kernel
theorem dX0_goRound_35 : decode cX0_goRound 35 = .ok (.aload_n 0, 1) := by decide +kernel
theorem dX0_goRound_36 : decode cX0_goRound 36 = .ok (.getfield 9, 3) := by decide +kernel
theorem dX0_goRound_39 : decode cX0_goRound 39 = .ok (.iload 4, 2) := by decide +kernel
theorem dX0_goRound_41 : decode cX0_goRound 41 = .ok (.aload_n 0, 1) := by decide +kernel
theorem dX0_goRound_42 : decode cX0_goRound 42 = .ok (.getfield 9, 3) := by decide +kernel
theorem dX0_goRound_45 : decode cX0_goRound 45 = .ok (.iload 4, 2) := by decide +kernel
theorem dX0_goRound_47 : decode cX0_goRound 47 = .ok (.iaload, 1) := by decide +kernel
theorem dX0_goRound_48 : decode cX0_goRound 48 = .ok (.aload_n 0, 1) := by decide +kernel
theorem dX0_goRound_49 : decode cX0_goRound 49 = .ok (.getfield 9, 3) := by decide +kernel
theorem dX0_goRound_52 : decode cX0_goRound 52 = .ok (.iload_n 3, 1) := by decide +kernel
theorem dX0_goRound_53 : decode cX0_goRound 53 = .ok (.iload_n 2, 1) := by decide +kernel
theorem dX0_goRound_54 : decode cX0_goRound 54 = .ok (.irem, 1) := by decide +kernel
theorem dX0_goRound_55 : decode cX0_goRound 55 = .ok (.iaload, 1) := by decide +kernel
theorem dX0_goRound_56 : decode cX0_goRound 56 = .ok (.bipush 8, 2) := by decide +kernel
theorem dX0_goRound_58 : decode cX0_goRound 58 = .ok (.iadd, 1) := by decide +kernel
theorem dX0_goRound_59 : decode cX0_goRound 59 = .ok (.invokestatic 39, 3) := by decide +kernel
theorem dX0_goRound_62 : decode cX0_goRound 62 = .ok (.iastore, 1) := by decide +kernel
theorem dX0_goRound_63 : decode cX0_goRound 63 = .ok (.iinc 3 1, 3) := by decide +kernel
theorem dX0_goRound_66 : decode cX0_goRound 66 = .ok (.goto (-45), 3) := by decide +kernel
theorem dX0_goRound_69 : decode cX0_goRound 69 = .ok (.iconst 2, 1) := by decide +kernel
theorem dX0_goRound_70 : decode cX0_goRound 70 = .ok (.iload_n 2, 1) := by decide +kernel
theorem dX0_goRound_71 : decode cX0_goRound 71 = .ok (.imul, 1) := by decide +kernel
theorem dX0_goRound_72 : decode cX0_goRound 72 = .ok (.istore_n 3, 1) := by decide +kernel
theorem dX0_goRound_73 : decode cX0_goRound 73 = .ok (.iload_n 3, 1) := by decide +kernel
theorem dX0_goRound_74 : decode cX0_goRound 74 = .ok (.ifCond .le 44, 3) := by decide +kernel
theorem dX0_goRound_77 : decode cX0_goRound 77 = .ok (.iload_n 3, 1) := by decide +kernel
theorem dX0_goRound_78 : decode cX0_goRound 78 = .ok (.iconst 1, 1) := by decide +kernel
theorem dX0_goRound_79 : decode cX0_goRound 79 = .ok (.isub, 1) := by decide +kernel
theorem dX0_goRound_80 : decode cX0_goRound 80 = .ok (.iload_n 2, 1) := by decide +kernel
theorem dX0_goRound_81 : decode cX0_goRound 81 = .ok (.irem, 1) := by decide +kernel
theorem dX0_goRound_82 : decode cX0_goRound 82 = .ok (.istore 4, 2) := by decide +kernel
theorem dX0_goRound_84 : decode cX0_goRound 84 = .ok (.aload_n 0, 1) := by decide +kernel
theorem dX0_goRound_85 : decode cX0_goRound 85 = .ok (.getfield 9, 3) := by decide +kernel
theorem dX0_goRound_88 : decode cX0_goRound 88 = .ok (.iload 4, 2) := by decide +kernel
theorem dX0_goRound_90 : decode cX0_goRound 90 = .ok (.aload_n 0, 1) := by decide +kernel
theorem dX0_goRound_91 : decode cX0_goRound 91 = .ok (.getfield 9, 3) := by decide +kernel
theorem dX0_goRound_94 : decode cX0_goRound 94 = .ok (.iload 4, 2) := by decide +kernel
theorem dX0_goRound_96 : decode cX0_goRound 96 = .ok (.iaload, 1) := by decide +kernel
theorem dX0_goRound_97 : decode cX0_goRound 97 = .ok (.aload_n 0, 1) := by decide +kernel
theorem dX0_goRound_98 : decode cX0_goRound 98 = .ok (.getfield 9, 3) := by decide +kernel
theorem dX0_goRound_101 : decode cX0_goRound 101 = .ok (.iload_n 3, 1) := by decide +kernel
theorem dX0_goRound_102 : decode cX0_goRound 102 = .ok (.iload_n 2, 1) := by decide +kernel
theorem dX0_goRound_103 : decode cX0_goRound 103 = .ok (.irem, 1) := by decide +kernel
theorem dX0_goRound_104 : decode cX0_goRound 104 = .ok (.iaload, 1) := by decide +kernel
theorem dX0_goRound_105 : decode cX0_goRound 105 = .ok (.bipush 8, 2) := by decide +kernel
theorem dX0_goRound_107 : decode cX0_goRound 107 = .ok (.iadd, 1) := by decide +kernel
theorem dX0_goRound_108 : decode cX0_goRound 108 = .ok (.invokestatic 39, 3) := by decide +kernel
theorem dX0_goRound_111 : decode cX0_goRound 111 = .ok (.iastore, 1) := by decide +kernel
theorem dX0_goRound_112 : decode cX0_goRound 112 = .ok (.iinc 3 (-1), 3) := by decide +kernel
theorem dX0_goRound_115 : decode cX0_goRound 115 = .ok (.goto (-42), 3) := by decide +kernel
theorem dX0_goRound_118 : decode cX0_goRound 118 = .ok (.return_, 1) := by decide +kernel
theorem dX0_least_0 : decode cX0_least 0 = .ok (.ldc 56, 2) := by decide +kernel
theorem dX0_least_2 : decode cX0_least 2 = .ok (.istore_n 2, 1) := by decide +kernel
theorem dX0_least_3 : decode cX0_least 3 = .ok (.iconst 0, 1) := by decide +kernel
theorem dX0_least_4 : decode cX0_least 4 = .ok (.istore_n 3, 1) := by decide +kernel
theorem dX0_least_5 : decode cX0_least 5 = .ok (.iload_n 3, 1) := by decide +kernel
theorem dX0_least_6 : decode cX0_least 6 = .ok (.iload_n 1, 1) := by decide +kernel
theorem dX0_least_7 : decode cX0_least 7 = .ok (.if_icmp .ge 29, 3) := by decide +kernel
theorem dX0_least_10 : decode cX0_least 10 = .ok (.iload_n 3, 1) := by decide +kernel
theorem dX0_least_11 : decode cX0_least 11 = .ok (.aload_n 0, 1) := by decide +kernel
theorem dX0_least_12 : decode cX0_least 12 = .ok (.getfield 9, 3) := by decide +kernel
theorem dX0_least_15 : decode cX0_least 15 = .ok (.arraylength, 1) := by decide +kernel
theorem dX0_least_16 : decode cX0_least 16 = .ok (.if_icmp .ge 20, 3) := by decide +kernel
theorem dX0_least_19 : decode cX0_least 19 = .ok (.iload_n 2, 1) := by decide +kernel
theorem dX0_least_20 : decode cX0_least 20 = .ok (.aload_n 0, 1) := by decide +kernel
theorem dX0_least_21 : decode cX0_least 21 = .ok (.getfield 9, 3) := by decide +kernel
theorem dX0_least_24 : decode cX0_least 24 = .ok (.iload_n 3, 1) := by decide +kernel
theorem dX0_least_25 : decode cX0_least 25 = .ok (.iaload, 1) := by decide +kernel
theorem dX0_least_26 : decode cX0_least 26 = .ok (.invokestatic 39, 3) := by decide +kernel
theorem dX0_least_29 : decode cX0_least 29 = .ok (.istore_n 2, 1) := by decide +kernel
theorem dX0_least_30 : decode cX0_least 30 = .ok (.iinc 3 1, 3) := by decide +kernel
theorem dX0_least_33 : decode cX0_least 33 = .ok (.goto (-28), 3) := by decide +kernel
theorem dX0_least_36 : decode cX0_least 36 = .ok (.iload_n 2, 1) := by decide +kernel
theorem dX0_least_37 : decode cX0_least 37 = .ok (.ireturn, 1) := by decide +kernel
theorem dX10_burn_0 : decode cX10_burn 0 = .ok (.iconst 1, 1) := by decide +kernel
theorem dX10_burn_1 : decode cX10_burn 1 = .ok (.istore_n 3, 1) := by decide +kernel
theorem dX10_burn_2 : decode cX10_burn 2 = .ok (.iload_n 3, 1) := by decide +kernel
theorem dX10_burn_3 : decode cX10_burn 3 = .ok (.aload_n 1, 1) := by decide +kernel
theorem dX10_burn_4 : decode cX10_burn 4 = .ok (.getfield 67, 3) := by decide +kernel
theorem dX10_burn_7 : decode cX10_burn 7 = .ok (.iload_n 2, 1) := by decide +kernel
theorem dX10_burn_8 : decode cX10_burn 8 = .ok (.iaload, 1) := by decide +kernel
theorem dX10_burn_9 : decode cX10_burn 9 = .ok (.if_icmp .gt 56, 3) := by decide +kernel
theorem dX10_burn_12 : decode cX10_burn 12 = .ok (.aload_n 0, 1) := by decide +kernel
theorem dX10_burn_13 : decode cX10_burn 13 = .ok (.aload_n 1, 1) := by decide +kernel
theorem dX10_burn_14 : decode cX10_burn 14 = .ok (.iload_n 2, 1) := by decide +kernel
theorem dX10_burn_15 : decode cX10_burn 15 = .ok (.iload_n 3, 1) := by decide +kernel
theorem dX10_burn_16 : decode cX10_burn 16 = .ok (.iconst 0, 1) := by decide +kernel
theorem dX10_burn_17 : decode cX10_burn 17 = .ok (.invokevirtual 74, 3) := by decide +kernel
theorem dX10_burn_20 : decode cX10_burn 20 = .ok (.iconst 0, 1) := by decide +kernel
theorem dX10_burn_21 : decode cX10_burn 21 = .ok (.invokevirtual 78, 3) := by decide +kernel
theorem dX10_burn_24 : decode cX10_burn 24 = .ok (.iconst 2, 1) := by decide +kernel
theorem dX10_burn_25 : decode cX10_burn 25 = .ok (.if_icmp .ne 7, 3) := by decide +kernel
theorem dX10_burn_28 : decode cX10_burn 28 = .ok (.iconst 1, 1) := by decide +kernel
theorem dX10_burn_29 : decode cX10_burn 29 = .ok (.goto 4, 3) := by decide +kernel
theorem dX10_burn_32 : decode cX10_burn 32 = .ok (.iconst 0, 1) := by decide +kernel
theorem dX10_burn_33 : decode cX10_burn 33 = .ok (.istore 4, 2) := by decide +kernel
theorem dX10_burn_35 : decode cX10_burn 35 = .ok (.iload 4, 2) := by decide +kernel
theorem dX10_burn_37 : decode cX10_burn 37 = .ok (.ifCond .eq 22, 3) := by decide +kernel
theorem dX10_burn_40 : decode cX10_burn 40 = .ok (.aload_n 1, 1) := by decide +kernel
theorem dX10_burn_41 : decode cX10_burn 41 = .ok (.iload_n 2, 1) := by decide +kernel
theorem dX10_burn_42 : decode cX10_burn 42 = .ok (.iload_n 3, 1) := by decide +kernel
theorem dX10_burn_43 : decode cX10_burn 43 = .ok (.bipush 6, 2) := by decide +kernel
theorem dX10_burn_45 : decode cX10_burn 45 = .ok (.invokevirtual 74, 3) := by decide +kernel
theorem dX10_burn_48 : decode cX10_burn 48 = .ok (.ifCond .ne 11, 3) := by decide +kernel
theorem dX10_burn_51 : decode cX10_burn 51 = .ok (.aload_n 1, 1) := by decide +kernel
theorem dX10_burn_52 : decode cX10_burn 52 = .ok (.iload_n 2, 1) := by decide +kernel
theorem dX10_burn_53 : decode cX10_burn 53 = .ok (.iload_n 3, 1) := by decide +kernel
theorem dX10_burn_54 : decode cX10_burn 54 = .ok (.iconst 5, 1) := by decide +kernel
theorem dX10_burn_55 : decode cX10_burn 55 = .ok (.iconst 1, 1) := by decide +kernel
theorem dX10_burn_56 : decode cX10_burn 56 = .ok (.invokevirtual 84, 3) := by decide +kernel
theorem dX10_burn_59 : decode cX10_burn 59 = .ok (.iinc 3 1, 3) := by decide +kernel
theorem dX10_burn_62 : decode cX10_burn 62 = .ok (.goto (-60), 3) := by decide +kernel
theorem dX10_burn_65 : decode cX10_burn 65 = .ok (.return_, 1) := by decide +kernel
theorem dX10_grow_0 : decode cX10_grow 0 = .ok (.aload_n 0, 1) := by decide +kernel
theorem dX10_grow_1 : decode cX10_grow 1 = .ok (.getfield 88, 3) := by decide +kernel
theorem dX10_grow_4 : decode cX10_grow 4 = .ok (.iload_n 2, 1) := by decide +kernel
theorem dX10_grow_5 : decode cX10_grow 5 = .ok (.iaload, 1) := by decide +kernel
theorem dX10_grow_6 : decode cX10_grow 6 = .ok (.istore_n 3, 1) := by decide +kernel
theorem dX10_grow_7 : decode cX10_grow 7 = .ok (.aload_n 0, 1) := by decide +kernel
theorem dX10_grow_8 : decode cX10_grow 8 = .ok (.aload_n 1, 1) := by decide +kernel
theorem dX10_grow_9 : decode cX10_grow 9 = .ok (.iload_n 2, 1) := by decide +kernel
theorem dX10_grow_10 : decode cX10_grow 10 = .ok (.iload_n 3, 1) := by decide +kernel
theorem dX10_grow_11 : decode cX10_grow 11 = .ok (.invokestatic 91, 3) := by decide +kernel
theorem dX10_grow_14 : decode cX10_grow 14 = .ok (.istore 4, 2) := by decide +kernel
theorem dX10_grow_16 : decode cX10_grow 16 = .ok (.iload 4, 2) := by decide +kernel
theorem dX10_grow_18 : decode cX10_grow 18 = .ok (.aload_n 1, 1) := by decide +kernel
theorem dX10_grow_19 : decode cX10_grow 19 = .ok (.getfield 39, 3) := by decide +kernel
theorem dX10_grow_22 : decode cX10_grow 22 = .ok (.iload_n 2, 1) := by decide +kernel
theorem dX10_grow_23 : decode cX10_grow 23 = .ok (.iaload, 1) := by decide +kernel
theorem dX10_grow_24 : decode cX10_grow 24 = .ok (.if_icmp .gt 12, 3) := by decide +kernel
theorem dX10_grow_27 : decode cX10_grow 27 = .ok (.aload_n 0, 1) := by decide +kernel
theorem dX10_grow_28 : decode cX10_grow 28 = .ok (.aload_n 1, 1) := by decide +kernel
theorem dX10_grow_29 : decode cX10_grow 29 = .ok (.iload_n 2, 1) := by decide +kernel
theorem dX10_grow_30 : decode cX10_grow 30 = .ok (.invokestatic 97, 3) := by decide +kernel
theorem dX10_grow_33 : decode cX10_grow 33 = .ok (.ifCond .ne 4, 3) := by decide +kernel
theorem dX10_grow_36 : decode cX10_grow 36 = .ok (.return_, 1) := by decide +kernel
theorem dX10_grow_37 : decode cX10_grow 37 = .ok (.aload_n 0, 1) := by decide +kernel
theorem dX10_grow_38 : decode cX10_grow 38 = .ok (.aload_n 1, 1) := by decide +kernel
theorem dX10_grow_39 : decode cX10_grow 39 = .ok (.iload_n 2, 1) := by decide +kernel
theorem dX10_grow_40 : decode cX10_grow 40 = .ok (.invokestatic 101, 3) := by decide +kernel
theorem dX10_grow_43 : decode cX10_grow 43 = .ok (.istore 5, 2) := by decide +kernel
theorem dX10_grow_45 : decode cX10_grow 45 = .ok (.iload 5, 2) := by decide +kernel
theorem dX10_grow_47 : decode cX10_grow 47 = .ok (.bipush (-2), 2) := by decide +kernel
theorem dX10_grow_49 : decode cX10_grow 49 = .ok (.if_icmp .ne 4, 3) := by decide +kernel
theorem dX10_grow_52 : decode cX10_grow 52 = .ok (.return_, 1) := by decide +kernel
theorem dX10_grow_53 : decode cX10_grow 53 = .ok (.aload_n 1, 1) := by decide +kernel
theorem dX10_grow_54 : decode cX10_grow 54 = .ok (.getfield 39, 3) := by decide +kernel
theorem dX10_grow_57 : decode cX10_grow 57 = .ok (.iload_n 2, 1) := by decide +kernel
theorem dX10_grow_58 : decode cX10_grow 58 = .ok (.dup2, 1) := by decide +kernel
theorem dX10_grow_59 : decode cX10_grow 59 = .ok (.iaload, 1) := by decide +kernel
theorem dX10_grow_60 : decode cX10_grow 60 = .ok (.iload 4, 2) := by decide +kernel
theorem dX10_grow_62 : decode cX10_grow 62 = .ok (.isub, 1) := by decide +kernel
theorem dX10_grow_63 : decode cX10_grow 63 = .ok (.iastore, 1) := by decide +kernel
theorem dX10_grow_64 : decode cX10_grow 64 = .ok (.aload_n 1, 1) := by decide +kernel
theorem dX10_grow_65 : decode cX10_grow 65 = .ok (.iload_n 2, 1) := by decide +kernel
theorem dX10_grow_66 : decode cX10_grow 66 = .ok (.iload_n 3, 1) := by decide +kernel
theorem dX10_grow_67 : decode cX10_grow 67 = .ok (.iload 5, 2) := by decide +kernel
theorem dX10_grow_69 : decode cX10_grow 69 = .ok (.bipush 100, 2) := by decide +kernel
theorem dX10_grow_71 : decode cX10_grow 71 = .ok (.idiv, 1) := by decide +kernel
theorem dX10_grow_72 : decode cX10_grow 72 = .ok (.iload 5, 2) := by decide +kernel
theorem dX10_grow_74 : decode cX10_grow 74 = .ok (.bipush 100, 2) := by decide +kernel
theorem dX10_grow_76 : decode cX10_grow 76 = .ok (.irem, 1) := by decide +kernel
theorem dX10_grow_77 : decode cX10_grow 77 = .ok (.aload_n 1, 1) := by decide +kernel
theorem dX10_grow_78 : decode cX10_grow 78 = .ok (.getfield 24, 3) := by decide +kernel
theorem dX10_grow_81 : decode cX10_grow 81 = .ok (.iload_n 2, 1) := by decide +kernel
theorem dX10_grow_82 : decode cX10_grow 82 = .ok (.iaload, 1) := by decide +kernel
theorem dX10_grow_83 : decode cX10_grow 83 = .ok (.bipush 10, 2) := by decide +kernel
theorem dX10_grow_85 : decode cX10_grow 85 = .ok (.irem, 1) := by decide +kernel
theorem dX10_grow_86 : decode cX10_grow 86 = .ok (.aload_n 1, 1) := by decide +kernel
theorem dX10_grow_87 : decode cX10_grow 87 = .ok (.getfield 36, 3) := by decide +kernel
theorem dX10_grow_90 : decode cX10_grow 90 = .ok (.invokevirtual 105, 3) := by decide +kernel
theorem dX10_grow_93 : decode cX10_grow 93 = .ok (.return_, 1) := by decide +kernel
theorem dX10_liveOn_0 : decode cX10_liveOn 0 = .ok (.aload_n 1, 1) := by decide +kernel
theorem dX10_liveOn_1 : decode cX10_liveOn 1 = .ok (.getfield 39, 3) := by decide +kernel
theorem dX10_liveOn_4 : decode cX10_liveOn 4 = .ok (.iload_n 2, 1) := by decide +kernel
theorem dX10_liveOn_5 : decode cX10_liveOn 5 = .ok (.sipush 999, 3) := by decide +kernel
theorem dX10_liveOn_8 : decode cX10_liveOn 8 = .ok (.aload_n 1, 1) := by decide +kernel
theorem dX10_liveOn_9 : decode cX10_liveOn 9 = .ok (.getfield 39, 3) := by decide +kernel
theorem dX10_liveOn_12 : decode cX10_liveOn 12 = .ok (.iload_n 2, 1) := by decide +kernel
theorem dX10_liveOn_13 : decode cX10_liveOn 13 = .ok (.iaload, 1) := by decide +kernel
theorem dX10_liveOn_14 : decode cX10_liveOn 14 = .ok (.aload_n 1, 1) := by decide +kernel
theorem dX10_liveOn_15 : decode cX10_liveOn 15 = .ok (.getfield 24, 3) := by decide +kernel
theorem dX10_liveOn_18 : decode cX10_liveOn 18 = .ok (.iload_n 2, 1) := by decide +kernel
theorem dX10_liveOn_19 : decode cX10_liveOn 19 = .ok (.iaload, 1) := by decide +kernel
theorem dX10_liveOn_20 : decode cX10_liveOn 20 = .ok (.aload_n 0, 1) := by decide +kernel
theorem dX10_liveOn_21 : decode cX10_liveOn 21 = .ok (.getfield 42, 3) := by decide +kernel
theorem dX10_liveOn_24 : decode cX10_liveOn 24 = .ok (.imul, 1) := by decide +kernel
theorem dX10_liveOn_25 : decode cX10_liveOn 25 = .ok (.iadd, 1) := by decide +kernel
theorem dX10_liveOn_26 : decode cX10_liveOn 26 = .ok (.invokestatic 45, 3) := by decide +kernel
theorem dX10_liveOn_29 : decode cX10_liveOn 29 = .ok (.iastore, 1) := by decide +kernel
theorem dX10_liveOn_30 : decode cX10_liveOn 30 = .ok (.aload_n 1, 1) := by decide +kernel
theorem dX10_liveOn_31 : decode cX10_liveOn 31 = .ok (.invokevirtual 51, 3) := by decide +kernel
theorem dX10_liveOn_34 : decode cX10_liveOn 34 = .ok (.bipush 100, 2) := by decide +kernel
theorem dX10_liveOn_36 : decode cX10_liveOn 36 = .ok (.irem, 1) := by decide +kernel
theorem dX10_liveOn_37 : decode cX10_liveOn 37 = .ok (.aload_n 0, 1) := by decide +kernel
theorem dX10_liveOn_38 : decode cX10_liveOn 38 = .ok (.getfield 55, 3) := by decide +kernel
theorem dX10_liveOn_41 : decode cX10_liveOn 41 = .ok (.if_icmp .ge 22, 3) := by decide +kernel
theorem dX10_liveOn_44 : decode cX10_liveOn 44 = .ok (.aload_n 1, 1) := by decide +kernel
theorem dX10_liveOn_45 : decode cX10_liveOn 45 = .ok (.getfield 24, 3) := by decide +kernel
theorem dX10_liveOn_48 : decode cX10_liveOn 48 = .ok (.iload_n 2, 1) := by decide +kernel
theorem dX10_liveOn_49 : decode cX10_liveOn 49 = .ok (.bipush 99, 2) := by decide +kernel
theorem dX10_liveOn_51 : decode cX10_liveOn 51 = .ok (.aload_n 1, 1) := by decide +kernel
theorem dX10_liveOn_52 : decode cX10_liveOn 52 = .ok (.getfield 24, 3) := by decide +kernel
theorem dX10_liveOn_55 : decode cX10_liveOn 55 = .ok (.iload_n 2, 1) := by decide +kernel
theorem dX10_liveOn_56 : decode cX10_liveOn 56 = .ok (.iaload, 1) := by decide +kernel
theorem dX10_liveOn_57 : decode cX10_liveOn 57 = .ok (.iconst 1, 1) := by decide +kernel
theorem dX10_liveOn_58 : decode cX10_liveOn 58 = .ok (.iadd, 1) := by decide +kernel
theorem dX10_liveOn_59 : decode cX10_liveOn 59 = .ok (.invokestatic 45, 3) := by decide +kernel
theorem dX10_liveOn_62 : decode cX10_liveOn 62 = .ok (.iastore, 1) := by decide +kernel
theorem dX10_liveOn_63 : decode cX10_liveOn 63 = .ok (.aload_n 0, 1) := by decide +kernel
theorem dX10_liveOn_64 : decode cX10_liveOn 64 = .ok (.aload_n 1, 1) := by decide +kernel
theorem dX10_liveOn_65 : decode cX10_liveOn 65 = .ok (.iload_n 2, 1) := by decide +kernel
theorem dX10_liveOn_66 : decode cX10_liveOn 66 = .ok (.invokestatic 58, 3) := by decide +kernel
theorem dX10_liveOn_69 : decode cX10_liveOn 69 = .ok (.aload_n 1, 1) := by decide +kernel
theorem dX10_liveOn_70 : decode cX10_liveOn 70 = .ok (.invokevirtual 51, 3) := by decide +kernel
theorem dX10_liveOn_73 : decode cX10_liveOn 73 = .ok (.bipush 100, 2) := by decide +kernel
theorem dX10_liveOn_75 : decode cX10_liveOn 75 = .ok (.irem, 1) := by decide +kernel
theorem dX10_liveOn_76 : decode cX10_liveOn 76 = .ok (.aload_n 0, 1) := by decide +kernel
theorem dX10_liveOn_77 : decode cX10_liveOn 77 = .ok (.getfield 61, 3) := by decide +kernel
theorem dX10_liveOn_80 : decode cX10_liveOn 80 = .ok (.if_icmp .ge 9, 3) := by decide +kernel
theorem dX10_liveOn_83 : decode cX10_liveOn 83 = .ok (.aload_n 0, 1) := by decide +kernel
theorem dX10_liveOn_84 : decode cX10_liveOn 84 = .ok (.aload_n 1, 1) := by decide +kernel
theorem dX10_liveOn_85 : decode cX10_liveOn 85 = .ok (.iload_n 2, 1) := by decide +kernel
theorem dX10_liveOn_86 : decode cX10_liveOn 86 = .ok (.invokestatic 64, 3) := by decide +kernel
theorem dX10_liveOn_89 : decode cX10_liveOn 89 = .ok (.return_, 1) := by decide +kernel
theorem dX10_mostSkins_0 : decode cX10_mostSkins 0 = .ok (.iconst (-1), 1) := by decide +kernel
theorem dX10_mostSkins_1 : decode cX10_mostSkins 1 = .ok (.istore 5, 2) := by decide +kernel
theorem dX10_mostSkins_3 : decode cX10_mostSkins 3 = .ok (.aload_n 0, 1) := by decide +kernel
theorem dX10_mostSkins_4 : decode cX10_mostSkins 4 = .ok (.getfield 9, 3) := by decide +kernel
theorem dX10_mostSkins_7 : decode cX10_mostSkins 7 = .ok (.aload_n 1, 1) := by decide +kernel
theorem dX10_mostSkins_8 : decode cX10_mostSkins 8 = .ok (.getfield 18, 3) := by decide +kernel
theorem dX10_mostSkins_11 : decode cX10_mostSkins 11 = .ok (.invokestatic 109, 3) := by decide +kernel
theorem dX10_mostSkins_14 : decode cX10_mostSkins 14 = .ok (.iconst 0, 1) := by decide +kernel
theorem dX10_mostSkins_15 : decode cX10_mostSkins 15 = .ok (.istore 6, 2) := by decide +kernel
theorem dX10_mostSkins_17 : decode cX10_mostSkins 17 = .ok (.iload 6, 2) := by decide +kernel
theorem dX10_mostSkins_19 : decode cX10_mostSkins 19 = .ok (.getstatic 115, 3) := by decide +kernel
theorem dX10_mostSkins_22 : decode cX10_mostSkins 22 = .ok (.aload_n 1, 1) := by decide +kernel
theorem dX10_mostSkins_23 : decode cX10_mostSkins 23 = .ok (.getfield 18, 3) := by decide +kernel
theorem dX10_mostSkins_26 : decode cX10_mostSkins 26 = .ok (.iaload, 1) := by decide +kernel
theorem dX10_mostSkins_27 : decode cX10_mostSkins 27 = .ok (.if_icmp .ge 81, 3) := by decide +kernel
theorem dX10_mostSkins_30 : decode cX10_mostSkins 30 = .ok (.aload_n 3, 1) := by decide +kernel
theorem dX10_mostSkins_31 : decode cX10_mostSkins 31 = .ok (.aload_n 2, 1) := by decide +kernel
theorem dX10_mostSkins_32 : decode cX10_mostSkins 32 = .ok (.invokevirtual 118, 3) := by decide +kernel
theorem dX10_mostSkins_35 : decode cX10_mostSkins 35 = .ok (.iconst 0, 1) := by decide +kernel
theorem dX10_mostSkins_36 : decode cX10_mostSkins 36 = .ok (.istore 7, 2) := by decide +kernel
theorem dX10_mostSkins_38 : decode cX10_mostSkins 38 = .ok (.iload 7, 2) := by decide +kernel
theorem dX10_mostSkins_40 : decode cX10_mostSkins 40 = .ok (.iload 4, 2) := by decide +kernel
theorem dX10_mostSkins_42 : decode cX10_mostSkins 42 = .ok (.if_icmp .ge 18, 3) := by decide +kernel
theorem dX10_mostSkins_45 : decode cX10_mostSkins 45 = .ok (.aload_n 1, 1) := by decide +kernel
theorem dX10_mostSkins_46 : decode cX10_mostSkins 46 = .ok (.aload_n 3, 1) := by decide +kernel
theorem dX10_mostSkins_47 : decode cX10_mostSkins 47 = .ok (.aload_n 0, 1) := by decide +kernel
theorem dX10_mostSkins_48 : decode cX10_mostSkins 48 = .ok (.getfield 9, 3) := by decide +kernel
theorem dX10_mostSkins_51 : decode cX10_mostSkins 51 = .ok (.invokestatic 122, 3) := by decide +kernel
theorem dX10_mostSkins_54 : decode cX10_mostSkins 54 = .ok (.iinc 7 1, 3) := by decide +kernel
theorem dX10_mostSkins_57 : decode cX10_mostSkins 57 = .ok (.goto (-19), 3) := by decide +kernel
theorem dX10_mostSkins_60 : decode cX10_mostSkins 60 = .ok (.aload_n 3, 1) := by decide +kernel
theorem dX10_mostSkins_61 : decode cX10_mostSkins 61 = .ok (.invokevirtual 126, 3) := by decide +kernel
theorem dX10_mostSkins_64 : decode cX10_mostSkins 64 = .ok (.istore 7, 2) := by decide +kernel
theorem dX10_mostSkins_66 : decode cX10_mostSkins 66 = .ok (.iload 7, 2) := by decide +kernel
theorem dX10_mostSkins_68 : decode cX10_mostSkins 68 = .ok (.iload 5, 2) := by decide +kernel
theorem dX10_mostSkins_70 : decode cX10_mostSkins 70 = .ok (.if_icmp .le 21, 3) := by decide +kernel
theorem dX10_mostSkins_73 : decode cX10_mostSkins 73 = .ok (.iload 7, 2) := by decide +kernel
theorem dX10_mostSkins_75 : decode cX10_mostSkins 75 = .ok (.istore 5, 2) := by decide +kernel
theorem dX10_mostSkins_77 : decode cX10_mostSkins 77 = .ok (.aload_n 0, 1) := by decide +kernel
theorem dX10_mostSkins_78 : decode cX10_mostSkins 78 = .ok (.getfield 9, 3) := by decide +kernel
theorem dX10_mostSkins_81 : decode cX10_mostSkins 81 = .ok (.iconst 0, 1) := by decide +kernel
theorem dX10_mostSkins_82 : decode cX10_mostSkins 82 = .ok (.aload_n 0, 1) := by decide +kernel
theorem dX10_mostSkins_83 : decode cX10_mostSkins 83 = .ok (.getfield 15, 3) := by decide +kernel
theorem dX10_mostSkins_86 : decode cX10_mostSkins 86 = .ok (.iconst 0, 1) := by decide +kernel
theorem dX10_mostSkins_87 : decode cX10_mostSkins 87 = .ok (.iconst 4, 1) := by decide +kernel
theorem dX10_mostSkins_88 : decode cX10_mostSkins 88 = .ok (.invokestatic 129, 3) := by decide +kernel
theorem dX10_mostSkins_91 : decode cX10_mostSkins 91 = .ok (.aload_n 0, 1) := by decide +kernel
theorem dX10_mostSkins_92 : decode cX10_mostSkins 92 = .ok (.getfield 9, 3) := by decide +kernel
theorem dX10_mostSkins_95 : decode cX10_mostSkins 95 = .ok (.aload_n 1, 1) := by decide +kernel
theorem dX10_mostSkins_96 : decode cX10_mostSkins 96 = .ok (.getfield 18, 3) := by decide +kernel
theorem dX10_mostSkins_99 : decode cX10_mostSkins 99 = .ok (.invokestatic 135, 3) := by decide +kernel
theorem dX10_mostSkins_102 : decode cX10_mostSkins 102 = .ok (.iinc 6 1, 3) := by decide +kernel
theorem dX10_mostSkins_105 : decode cX10_mostSkins 105 = .ok (.goto (-88), 3) := by decide +kernel
theorem dX10_mostSkins_108 : decode cX10_mostSkins 108 = .ok (.iload 5, 2) := by decide +kernel
theorem dX10_mostSkins_110 : decode cX10_mostSkins 110 = .ok (.ireturn, 1) := by decide +kernel
theorem dX10_pass_0 : decode cX10_pass 0 = .ok (.iconst 0, 1) := by decide +kernel
theorem dX10_pass_1 : decode cX10_pass 1 = .ok (.istore_n 3, 1) := by decide +kernel
theorem dX10_pass_2 : decode cX10_pass 2 = .ok (.iload_n 3, 1) := by decide +kernel
theorem dX10_pass_3 : decode cX10_pass 3 = .ok (.aload_n 0, 1) := by decide +kernel
theorem dX10_pass_4 : decode cX10_pass 4 = .ok (.getfield 18, 3) := by decide +kernel
theorem dX10_pass_7 : decode cX10_pass 7 = .ok (.if_icmp .ge 44, 3) := by decide +kernel
theorem dX10_pass_10 : decode cX10_pass 10 = .ok (.iload_n 3, 1) := by decide +kernel
theorem dX10_pass_11 : decode cX10_pass 11 = .ok (.aload_n 2, 1) := by decide +kernel
theorem dX10_pass_12 : decode cX10_pass 12 = .ok (.arraylength, 1) := by decide +kernel
theorem dX10_pass_13 : decode cX10_pass 13 = .ok (.if_icmp .ge 38, 3) := by decide +kernel
theorem dX10_pass_16 : decode cX10_pass 16 = .ok (.aload_n 2, 1) := by decide +kernel
theorem dX10_pass_17 : decode cX10_pass 17 = .ok (.iload_n 3, 1) := by decide +kernel
theorem dX10_pass_18 : decode cX10_pass 18 = .ok (.iaload, 1) := by decide +kernel
theorem dX10_pass_19 : decode cX10_pass 19 = .ok (.istore 4, 2) := by decide +kernel
theorem dX10_pass_21 : decode cX10_pass 21 = .ok (.aload_n 1, 1) := by decide +kernel
theorem dX10_pass_22 : decode cX10_pass 22 = .ok (.getfield 24, 3) := by decide +kernel
theorem dX10_pass_25 : decode cX10_pass 25 = .ok (.iload 4, 2) := by decide +kernel
theorem dX10_pass_27 : decode cX10_pass 27 = .ok (.iaload, 1) := by decide +kernel
theorem dX10_pass_28 : decode cX10_pass 28 = .ok (.ifCond .le 17, 3) := by decide +kernel
theorem dX10_pass_31 : decode cX10_pass 31 = .ok (.aload_n 0, 1) := by decide +kernel
theorem dX10_pass_32 : decode cX10_pass 32 = .ok (.aload_n 1, 1) := by decide +kernel
theorem dX10_pass_33 : decode cX10_pass 33 = .ok (.iload 4, 2) := by decide +kernel
theorem dX10_pass_35 : decode cX10_pass 35 = .ok (.invokestatic 29, 3) := by decide +kernel
theorem dX10_pass_38 : decode cX10_pass 38 = .ok (.aload_n 0, 1) := by decide +kernel
theorem dX10_pass_39 : decode cX10_pass 39 = .ok (.aload_n 1, 1) := by decide +kernel
theorem dX10_pass_40 : decode cX10_pass 40 = .ok (.iload 4, 2) := by decide +kernel
theorem dX10_pass_42 : decode cX10_pass 42 = .ok (.invokestatic 33, 3) := by decide +kernel
theorem dX10_pass_45 : decode cX10_pass 45 = .ok (.iinc 3 1, 3) := by decide +kernel
theorem dX10_pass_48 : decode cX10_pass 48 = .ok (.goto (-46), 3) := by decide +kernel
theorem dX10_pass_51 : decode cX10_pass 51 = .ok (.aload_n 1, 1) := by decide +kernel
theorem dX10_pass_52 : decode cX10_pass 52 = .ok (.dup, 1) := by decide +kernel
theorem dX10_pass_53 : decode cX10_pass 53 = .ok (.getfield 36, 3) := by decide +kernel
theorem dX10_pass_56 : decode cX10_pass 56 = .ok (.iconst 1, 1) := by decide +kernel
theorem dX10_pass_57 : decode cX10_pass 57 = .ok (.iadd, 1) := by decide +kernel
theorem dX10_pass_58 : decode cX10_pass 58 = .ok (.putfield 36, 3) := by decide +kernel
theorem dX10_pass_61 : decode cX10_pass 61 = .ok (.return_, 1) := by decide +kernel
theorem dX10_rotAll_0 : decode cX10_rotAll 0 = .ok (.iconst 1, 1) := by decide +kernel
theorem dX10_rotAll_1 : decode cX10_rotAll 1 = .ok (.istore_n 3, 1) := by decide +kernel
theorem dX10_rotAll_2 : decode cX10_rotAll 2 = .ok (.iload_n 3, 1) := by decide +kernel
theorem dX10_rotAll_3 : decode cX10_rotAll 3 = .ok (.aload_n 1, 1) := by decide +kernel
theorem dX10_rotAll_4 : decode cX10_rotAll 4 = .ok (.getfield 67, 3) := by decide +kernel
theorem dX10_rotAll_7 : decode cX10_rotAll 7 = .ok (.iload_n 2, 1) := by decide +kernel
theorem dX10_rotAll_8 : decode cX10_rotAll 8 = .ok (.iaload, 1) := by decide +kernel
theorem dX10_rotAll_9 : decode cX10_rotAll 9 = .ok (.if_icmp .gt 110, 3) := by decide +kernel
theorem dX10_rotAll_12 : decode cX10_rotAll 12 = .ok (.aload_n 1, 1) := by decide +kernel
theorem dX10_rotAll_13 : decode cX10_rotAll 13 = .ok (.iload_n 2, 1) := by decide +kernel
theorem dX10_rotAll_14 : decode cX10_rotAll 14 = .ok (.iload_n 3, 1) := by decide +kernel
theorem dX10_rotAll_15 : decode cX10_rotAll 15 = .ok (.invokevirtual 70, 3) := by decide +kernel
theorem dX10_rotAll_18 : decode cX10_rotAll 18 = .ok (.ifCond .eq 95, 3) := by decide +kernel
theorem dX10_rotAll_21 : decode cX10_rotAll 21 = .ok (.aload_n 1, 1) := by decide +kernel
theorem dX10_rotAll_22 : decode cX10_rotAll 22 = .ok (.iload_n 2, 1) := by decide +kernel
theorem dX10_rotAll_23 : decode cX10_rotAll 23 = .ok (.iload_n 3, 1) := by decide +kernel
theorem dX10_rotAll_24 : decode cX10_rotAll 24 = .ok (.iconst 0, 1) := by decide +kernel
theorem dX10_rotAll_25 : decode cX10_rotAll 25 = .ok (.invokevirtual 74, 3) := by decide +kernel
theorem dX10_rotAll_28 : decode cX10_rotAll 28 = .ok (.istore 4, 2) := by decide +kernel
theorem dX10_rotAll_30 : decode cX10_rotAll 30 = .ok (.aload_n 1, 1) := by decide +kernel
theorem dX10_rotAll_31 : decode cX10_rotAll 31 = .ok (.iload_n 2, 1) := by decide +kernel
theorem dX10_rotAll_32 : decode cX10_rotAll 32 = .ok (.iload_n 3, 1) := by decide +kernel
theorem dX10_rotAll_33 : decode cX10_rotAll 33 = .ok (.iconst 4, 1) := by decide +kernel
theorem dX10_rotAll_34 : decode cX10_rotAll 34 = .ok (.invokevirtual 74, 3) := by decide +kernel
theorem dX10_rotAll_37 : decode cX10_rotAll 37 = .ok (.aload_n 0, 1) := by decide +kernel
theorem dX10_rotAll_38 : decode cX10_rotAll 38 = .ok (.iload 4, 2) := by decide +kernel
theorem dX10_rotAll_40 : decode cX10_rotAll 40 = .ok (.iconst 3, 1) := by decide +kernel
theorem dX10_rotAll_41 : decode cX10_rotAll 41 = .ok (.invokevirtual 78, 3) := by decide +kernel
theorem dX10_rotAll_44 : decode cX10_rotAll 44 = .ok (.iadd, 1) := by decide +kernel
theorem dX10_rotAll_45 : decode cX10_rotAll 45 = .ok (.istore 5, 2) := by decide +kernel
theorem dX10_rotAll_47 : decode cX10_rotAll 47 = .ok (.iload_n 3, 1) := by decide +kernel
theorem dX10_rotAll_48 : decode cX10_rotAll 48 = .ok (.iconst 1, 1) := by decide +kernel
theorem dX10_rotAll_49 : decode cX10_rotAll 49 = .ok (.if_icmp .le 35, 3) := by decide +kernel
theorem dX10_rotAll_52 : decode cX10_rotAll 52 = .ok (.aload_n 1, 1) := by decide +kernel
theorem dX10_rotAll_53 : decode cX10_rotAll 53 = .ok (.iload_n 2, 1) := by decide +kernel
theorem dX10_rotAll_54 : decode cX10_rotAll 54 = .ok (.iload_n 3, 1) := by decide +kernel
theorem dX10_rotAll_55 : decode cX10_rotAll 55 = .ok (.iconst 1, 1) := by decide +kernel
theorem dX10_rotAll_56 : decode cX10_rotAll 56 = .ok (.isub, 1) := by decide +kernel
theorem dX10_rotAll_57 : decode cX10_rotAll 57 = .ok (.invokevirtual 81, 3) := by decide +kernel
theorem dX10_rotAll_60 : decode cX10_rotAll 60 = .ok (.ifCond .ne 24, 3) := by decide +kernel
theorem dX10_rotAll_63 : decode cX10_rotAll 63 = .ok (.iload 5, 2) := by decide +kernel
theorem dX10_rotAll_65 : decode cX10_rotAll 65 = .ok (.aload_n 0, 1) := by decide +kernel
theorem dX10_rotAll_66 : decode cX10_rotAll 66 = .ok (.iload 4, 2) := by decide +kernel
theorem dX10_rotAll_68 : decode cX10_rotAll 68 = .ok (.iconst 0, 1) := by decide +kernel
theorem dX10_rotAll_69 : decode cX10_rotAll 69 = .ok (.invokevirtual 78, 3) := by decide +kernel
theorem dX10_rotAll_72 : decode cX10_rotAll 72 = .ok (.iconst 1, 1) := by decide +kernel
theorem dX10_rotAll_73 : decode cX10_rotAll 73 = .ok (.if_icmp .ne 7, 3) := by decide +kernel
theorem dX10_rotAll_76 : decode cX10_rotAll 76 = .ok (.iconst 2, 1) := by decide +kernel
theorem dX10_rotAll_77 : decode cX10_rotAll 77 = .ok (.goto 4, 3) := by decide +kernel
theorem dX10_rotAll_80 : decode cX10_rotAll 80 = .ok (.iconst 1, 1) := by decide +kernel
theorem dX10_rotAll_81 : decode cX10_rotAll 81 = .ok (.iadd, 1) := by decide +kernel
theorem dX10_rotAll_82 : decode cX10_rotAll 82 = .ok (.istore 5, 2) := by decide +kernel
theorem dX10_rotAll_84 : decode cX10_rotAll 84 = .ok (.aload_n 1, 1) := by decide +kernel
theorem dX10_rotAll_85 : decode cX10_rotAll 85 = .ok (.iload_n 2, 1) := by decide +kernel
theorem dX10_rotAll_86 : decode cX10_rotAll 86 = .ok (.iload_n 3, 1) := by decide +kernel
theorem dX10_rotAll_87 : decode cX10_rotAll 87 = .ok (.iconst 4, 1) := by decide +kernel
theorem dX10_rotAll_88 : decode cX10_rotAll 88 = .ok (.iload 5, 2) := by decide +kernel
theorem dX10_rotAll_90 : decode cX10_rotAll 90 = .ok (.invokevirtual 84, 3) := by decide +kernel
theorem dX10_rotAll_93 : decode cX10_rotAll 93 = .ok (.iload 5, 2) := by decide +kernel
theorem dX10_rotAll_95 : decode cX10_rotAll 95 = .ok (.aload_n 0, 1) := by decide +kernel
theorem dX10_rotAll_96 : decode cX10_rotAll 96 = .ok (.iload 4, 2) := by decide +kernel
theorem dX10_rotAll_98 : decode cX10_rotAll 98 = .ok (.iconst 4, 1) := by decide +kernel
theorem dX10_rotAll_99 : decode cX10_rotAll 99 = .ok (.invokevirtual 78, 3) := by decide +kernel
theorem dX10_rotAll_102 : decode cX10_rotAll 102 = .ok (.if_icmp .lt 11, 3) := by decide +kernel
theorem dX10_rotAll_105 : decode cX10_rotAll 105 = .ok (.aload_n 1, 1) := by decide +kernel
theorem dX10_rotAll_106 : decode cX10_rotAll 106 = .ok (.iload_n 2, 1) := by decide +kernel
theorem dX10_rotAll_107 : decode cX10_rotAll 107 = .ok (.iload_n 3, 1) := by decide +kernel
theorem dX10_rotAll_108 : decode cX10_rotAll 108 = .ok (.iconst 5, 1) := by decide +kernel
theorem dX10_rotAll_109 : decode cX10_rotAll 109 = .ok (.iconst 1, 1) := by decide +kernel
theorem dX10_rotAll_110 : decode cX10_rotAll 110 = .ok (.invokevirtual 84, 3) := by decide +kernel
theorem dX10_rotAll_113 : decode cX10_rotAll 113 = .ok (.iinc 3 1, 3) := by decide +kernel
theorem dX10_rotAll_116 : decode cX10_rotAll 116 = .ok (.goto (-114), 3) := by decide +kernel
theorem dX10_rotAll_119 : decode cX10_rotAll 119 = .ok (.return_, 1) := by decide +kernel
theorem dX11_answer_0 : decode cX11_answer 0 = .ok (.aload_n 0, 1) := by decide +kernel
theorem dX11_answer_1 : decode cX11_answer 1 = .ok (.iconst 0, 1) := by decide +kernel
theorem dX11_answer_2 : decode cX11_answer 2 = .ok (.putfield 116, 3) := by decide +kernel
theorem dX11_answer_5 : decode cX11_answer 5 = .ok (.iload_n 1, 1) := by decide +kernel
theorem dX11_answer_6 : decode cX11_answer 6 = .ok (.ireturn, 1) := by decide +kernel
theorem dX11_back_0 : decode cX11_back 0 = .ok (.aload_n 0, 1) := by decide +kernel
theorem dX11_back_1 : decode cX11_back 1 = .ok (.getfield 67, 3) := by decide +kernel
theorem dX11_back_4 : decode cX11_back 4 = .ok (.aload_n 0, 1) := by decide +kernel
theorem dX11_back_5 : decode cX11_back 5 = .ok (.getfield 26, 3) := by decide +kernel
theorem dX11_back_8 : decode cX11_back 8 = .ok (.iload_n 1, 1) := by decide +kernel
theorem dX11_back_9 : decode cX11_back 9 = .ok (.invokevirtual 334, 3) := by decide +kernel
theorem dX11_back_12 : decode cX11_back 12 = .ok (.ifCond .eq 10, 3) := by decide +kernel
theorem dX11_back_15 : decode cX11_back 15 = .ok (.aload_n 0, 1) := by decide +kernel
theorem dX11_back_16 : decode cX11_back 16 = .ok (.invokevirtual 319, 3) := by decide +kernel
theorem dX11_back_19 : decode cX11_back 19 = .ok (.goto 8, 3) := by decide +kernel
theorem dX11_back_22 : decode cX11_back 22 = .ok (.aload_n 0, 1) := by decide +kernel
theorem dX11_back_23 : decode cX11_back 23 = .ok (.iconst 1, 1) := by decide +kernel
theorem dX11_back_24 : decode cX11_back 24 = .ok (.invokevirtual 309, 3) := by decide +kernel
theorem dX11_back_27 : decode cX11_back 27 = .ok (.ireturn, 1) := by decide +kernel
theorem dX11_breaks_0 : decode cX11_breaks 0 = .ok (.aload_n 0, 1) := by decide +kernel
theorem dX11_breaks_1 : decode cX11_breaks 1 = .ok (.iload_n 1, 1) := by decide +kernel
theorem dX11_breaks_2 : decode cX11_breaks 2 = .ok (.iload_n 2, 1) := by decide +kernel
theorem dX11_breaks_3 : decode cX11_breaks 3 = .ok (.invokevirtual 180, 3) := by decide +kernel
theorem dX11_breaks_6 : decode cX11_breaks 6 = .ok (.ifCond .ne 9, 3) := by decide +kernel
theorem dX11_breaks_9 : decode cX11_breaks 9 = .ok (.aload_n 0, 1) := by decide +kernel
theorem dX11_breaks_10 : decode cX11_breaks 10 = .ok (.iconst 1, 1) := by decide +kernel
theorem dX11_breaks_11 : decode cX11_breaks 11 = .ok (.invokevirtual 79, 3) := by decide +kernel
theorem dX11_breaks_14 : decode cX11_breaks 14 = .ok (.ireturn, 1) := by decide +kernel
theorem dX11_breaks_15 : decode cX11_breaks 15 = .ok (.aload_n 0, 1) := by decide +kernel
theorem dX11_breaks_16 : decode cX11_breaks 16 = .ok (.aload_n 0, 1) := by decide +kernel
theorem dX11_breaks_17 : decode cX11_breaks 17 = .ok (.getfield 53, 3) := by decide +kernel
theorem dX11_breaks_20 : decode cX11_breaks 20 = .ok (.aload_n 0, 1) := by decide +kernel
theorem dX11_breaks_21 : decode cX11_breaks 21 = .ok (.getfield 16, 3) := by decide +kernel
theorem dX11_breaks_24 : decode cX11_breaks 24 = .ok (.aload_n 0, 1) := by decide +kernel
theorem dX11_breaks_25 : decode cX11_breaks 25 = .ok (.getfield 26, 3) := by decide +kernel
theorem dX11_breaks_28 : decode cX11_breaks 28 = .ok (.iload_n 1, 1) := by decide +kernel
theorem dX11_breaks_29 : decode cX11_breaks 29 = .ok (.iload_n 2, 1) := by decide +kernel
theorem dX11_breaks_30 : decode cX11_breaks 30 = .ok (.invokevirtual 223, 3) := by decide +kernel
theorem dX11_breaks_33 : decode cX11_breaks 33 = .ok (.bipush 8, 2) := by decide +kernel
theorem dX11_breaks_35 : decode cX11_breaks 35 = .ok (.irem, 1) := by decide +kernel
theorem dX11_breaks_36 : decode cX11_breaks 36 = .ok (.invokevirtual 113, 3) := by decide +kernel
theorem dX11_breaks_39 : decode cX11_breaks 39 = .ok (.ireturn, 1) := by decide +kernel
theorem dX11_build_0 : decode cX11_build 0 = .ok (.aload_n 0, 1) := by decide +kernel
theorem dX11_build_1 : decode cX11_build 1 = .ok (.iload_n 1, 1) := by decide +kernel
theorem dX11_build_2 : decode cX11_build 2 = .ok (.invokevirtual 144, 3) := by decide +kernel
theorem dX11_build_5 : decode cX11_build 5 = .ok (.ifCond .eq 20, 3) := by decide +kernel
theorem dX11_build_8 : decode cX11_build 8 = .ok (.aload_n 0, 1) := by decide +kernel
theorem dX11_build_9 : decode cX11_build 9 = .ok (.iload_n 2, 1) := by decide +kernel
theorem dX11_build_10 : decode cX11_build 10 = .ok (.invokevirtual 214, 3) := by decide +kernel
theorem dX11_build_13 : decode cX11_build 13 = .ok (.ifCond .eq 12, 3) := by decide +kernel
theorem dX11_build_16 : decode cX11_build 16 = .ok (.iload_n 3, 1) := by decide +kernel
theorem dX11_build_17 : decode cX11_build 17 = .ok (.ifCond .lt 8, 3) := by decide +kernel
theorem dX11_build_20 : decode cX11_build 20 = .ok (.iload_n 3, 1) := by decide +kernel
theorem dX11_build_21 : decode cX11_build 21 = .ok (.iconst 4, 1) := by decide +kernel
theorem dX11_build_22 : decode cX11_build 22 = .ok (.if_icmp .lt 9, 3) := by decide +kernel
theorem dX11_build_25 : decode cX11_build 25 = .ok (.aload_n 0, 1) := by decide +kernel
theorem dX11_build_26 : decode cX11_build 26 = .ok (.iconst 1, 1) := by decide +kernel
theorem dX11_build_27 : decode cX11_build 27 = .ok (.invokevirtual 79, 3) := by decide +kernel
theorem dX11_build_30 : decode cX11_build 30 = .ok (.ireturn, 1) := by decide +kernel
theorem dX11_build_31 : decode cX11_build 31 = .ok (.aload_n 0, 1) := by decide +kernel
theorem dX11_build_32 : decode cX11_build 32 = .ok (.getfield 26, 3) := by decide +kernel
theorem dX11_build_35 : decode cX11_build 35 = .ok (.getfield 154, 3) := by decide +kernel
theorem dX11_build_38 : decode cX11_build 38 = .ok (.iload_n 1, 1) := by decide +kernel
theorem dX11_build_39 : decode cX11_build 39 = .ok (.iaload, 1) := by decide +kernel
theorem dX11_build_40 : decode cX11_build 40 = .ok (.iconst 1, 1) := by decide +kernel
theorem dX11_build_41 : decode cX11_build 41 = .ok (.iadd, 1) := by decide +kernel
theorem dX11_build_42 : decode cX11_build 42 = .ok (.istore 6, 2) := by decide +kernel
theorem dX11_build_44 : decode cX11_build 44 = .ok (.iload 6, 2) := by decide +kernel
theorem dX11_build_46 : decode cX11_build 46 = .ok (.bipush 6, 2) := by decide +kernel
theorem dX11_build_48 : decode cX11_build 48 = .ok (.if_icmp .le 9, 3) := by decide +kernel
theorem dX11_build_51 : decode cX11_build 51 = .ok (.aload_n 0, 1) := by decide +kernel
theorem dX11_build_52 : decode cX11_build 52 = .ok (.iconst 3, 1) := by decide +kernel
theorem dX11_build_53 : decode cX11_build 53 = .ok (.invokevirtual 79, 3) := by decide +kernel
theorem dX11_build_56 : decode cX11_build 56 = .ok (.ireturn, 1) := by decide +kernel
theorem dX11_build_57 : decode cX11_build 57 = .ok (.iload 4, 2) := by decide +kernel
theorem dX11_build_59 : decode cX11_build 59 = .ok (.ifCond .lt 26, 3) := by decide +kernel
theorem dX11_build_62 : decode cX11_build 62 = .ok (.iload 4, 2) := by decide +kernel
theorem dX11_build_64 : decode cX11_build 64 = .ok (.iconst 2, 1) := by decide +kernel
theorem dX11_build_65 : decode cX11_build 65 = .ok (.iload 6, 2) := by decide +kernel
theorem dX11_build_67 : decode cX11_build 67 = .ok (.imul, 1) := by decide +kernel
theorem dX11_build_68 : decode cX11_build 68 = .ok (.iconst 2, 1) := by decide +kernel
theorem dX11_build_69 : decode cX11_build 69 = .ok (.isub, 1) := by decide +kernel
theorem dX11_build_70 : decode cX11_build 70 = .ok (.if_icmp .gt 15, 3) := by decide +kernel
theorem dX11_build_73 : decode cX11_build 73 = .ok (.iload 5, 2) := by decide +kernel
theorem dX11_build_75 : decode cX11_build 75 = .ok (.ifCond .lt 10, 3) := by decide +kernel
theorem dX11_build_78 : decode cX11_build 78 = .ok (.iload 5, 2) := by decide +kernel
theorem dX11_build_80 : decode cX11_build 80 = .ok (.bipush 99, 2) := by decide +kernel
theorem dX11_build_82 : decode cX11_build 82 = .ok (.if_icmp .le 9, 3) := by decide +kernel
theorem dX11_build_85 : decode cX11_build 85 = .ok (.aload_n 0, 1) := by decide +kernel
theorem dX11_build_86 : decode cX11_build 86 = .ok (.iconst 2, 1) := by decide +kernel
theorem dX11_build_87 : decode cX11_build 87 = .ok (.invokevirtual 79, 3) := by decide +kernel
theorem dX11_build_90 : decode cX11_build 90 = .ok (.ireturn, 1) := by decide +kernel
theorem dX11_build_91 : decode cX11_build 91 = .ok (.aload_n 0, 1) := by decide +kernel
theorem dX11_build_92 : decode cX11_build 92 = .ok (.getfield 16, 3) := by decide +kernel
theorem dX11_build_95 : decode cX11_build 95 = .ok (.aload_n 0, 1) := by decide +kernel
theorem dX11_build_96 : decode cX11_build 96 = .ok (.getfield 26, 3) := by decide +kernel
theorem dX11_build_99 : decode cX11_build 99 = .ok (.iload_n 1, 1) := by decide +kernel
theorem dX11_build_100 : decode cX11_build 100 = .ok (.invokestatic 207, 3) := by decide +kernel
theorem dX11_build_103 : decode cX11_build 103 = .ok (.ifCond .eq 23, 3) := by decide +kernel
theorem dX11_build_106 : decode cX11_build 106 = .ok (.aload_n 0, 1) := by decide +kernel
theorem dX11_build_107 : decode cX11_build 107 = .ok (.getfield 16, 3) := by decide +kernel
theorem dX11_build_110 : decode cX11_build 110 = .ok (.aload_n 0, 1) := by decide +kernel
theorem dX11_build_111 : decode cX11_build 111 = .ok (.getfield 26, 3) := by decide +kernel
theorem dX11_build_114 : decode cX11_build 114 = .ok (.iload_n 1, 1) := by decide +kernel
theorem dX11_build_115 : decode cX11_build 115 = .ok (.iload 6, 2) := by decide +kernel
theorem dX11_build_117 : decode cX11_build 117 = .ok (.iload_n 3, 1) := by decide +kernel
theorem dX11_build_118 : decode cX11_build 118 = .ok (.iload 4, 2) := by decide +kernel
theorem dX11_build_120 : decode cX11_build 120 = .ok (.invokestatic 305, 3) := by decide +kernel
theorem dX11_build_123 : decode cX11_build 123 = .ok (.ifCond .ne 9, 3) := by decide +kernel
theorem dX11_build_126 : decode cX11_build 126 = .ok (.aload_n 0, 1) := by decide +kernel
theorem dX11_build_127 : decode cX11_build 127 = .ok (.iconst 5, 1) := by decide +kernel
theorem dX11_build_128 : decode cX11_build 128 = .ok (.invokevirtual 79, 3) := by decide +kernel
theorem dX11_build_131 : decode cX11_build 131 = .ok (.ireturn, 1) := by decide +kernel
theorem dX11_build_132 : decode cX11_build 132 = .ok (.aload_n 0, 1) := by decide +kernel
theorem dX11_build_133 : decode cX11_build 133 = .ok (.getfield 16, 3) := by decide +kernel
theorem dX11_build_136 : decode cX11_build 136 = .ok (.aload_n 0, 1) := by decide +kernel
theorem dX11_build_137 : decode cX11_build 137 = .ok (.getfield 26, 3) := by decide +kernel
theorem dX11_build_140 : decode cX11_build 140 = .ok (.iload_n 1, 1) := by decide +kernel
theorem dX11_build_141 : decode cX11_build 141 = .ok (.iload_n 2, 1) := by decide +kernel
theorem dX11_build_142 : decode cX11_build 142 = .ok (.invokestatic 217, 3) := by decide +kernel
theorem dX11_build_145 : decode cX11_build 145 = .ok (.istore 7, 2) := by decide +kernel
theorem dX11_build_147 : decode cX11_build 147 = .ok (.iload 7, 2) := by decide +kernel
theorem dX11_build_149 : decode cX11_build 149 = .ok (.aload_n 0, 1) := by decide +kernel
theorem dX11_build_150 : decode cX11_build 150 = .ok (.getfield 26, 3) := by decide +kernel
theorem dX11_build_153 : decode cX11_build 153 = .ok (.getfield 160, 3) := by decide +kernel
theorem dX11_build_156 : decode cX11_build 156 = .ok (.iload_n 1, 1) := by decide +kernel
theorem dX11_build_157 : decode cX11_build 157 = .ok (.iaload, 1) := by decide +kernel
theorem dX11_build_158 : decode cX11_build 158 = .ok (.if_icmp .le 10, 3) := by decide +kernel
theorem dX11_build_161 : decode cX11_build 161 = .ok (.aload_n 0, 1) := by decide +kernel
theorem dX11_build_162 : decode cX11_build 162 = .ok (.bipush 6, 2) := by decide +kernel
theorem dX11_build_164 : decode cX11_build 164 = .ok (.invokevirtual 79, 3) := by decide +kernel
theorem dX11_build_167 : decode cX11_build 167 = .ok (.ireturn, 1) := by decide +kernel
theorem dX11_build_168 : decode cX11_build 168 = .ok (.aload_n 0, 1) := by decide +kernel
theorem dX11_build_169 : decode cX11_build 169 = .ok (.getfield 67, 3) := by decide +kernel
theorem dX11_build_172 : decode cX11_build 172 = .ok (.aload_n 0, 1) := by decide +kernel
theorem dX11_build_173 : decode cX11_build 173 = .ok (.getfield 26, 3) := by decide +kernel
theorem dX11_build_176 : decode cX11_build 176 = .ok (.invokevirtual 302, 3) := by decide +kernel
theorem dX11_build_179 : decode cX11_build 179 = .ok (.aload_n 0, 1) := by decide +kernel
theorem dX11_build_180 : decode cX11_build 180 = .ok (.getfield 26, 3) := by decide +kernel
theorem dX11_build_183 : decode cX11_build 183 = .ok (.getfield 160, 3) := by decide +kernel
theorem dX11_build_186 : decode cX11_build 186 = .ok (.iload_n 1, 1) := by decide +kernel
theorem dX11_build_187 : decode cX11_build 187 = .ok (.dup2, 1) := by decide +kernel
theorem dX11_build_188 : decode cX11_build 188 = .ok (.iaload, 1) := by decide +kernel
theorem dX11_build_189 : decode cX11_build 189 = .ok (.iload 7, 2) := by decide +kernel
theorem dX11_build_191 : decode cX11_build 191 = .ok (.isub, 1) := by decide +kernel
theorem dX11_build_192 : decode cX11_build 192 = .ok (.iastore, 1) := by decide +kernel
theorem dX11_build_193 : decode cX11_build 193 = .ok (.aload_n 0, 1) := by decide +kernel
theorem dX11_build_194 : decode cX11_build 194 = .ok (.getfield 26, 3) := by decide +kernel
theorem dX11_build_197 : decode cX11_build 197 = .ok (.iload_n 1, 1) := by decide +kernel
theorem dX11_build_198 : decode cX11_build 198 = .ok (.iload_n 2, 1) := by decide +kernel
theorem dX11_build_199 : decode cX11_build 199 = .ok (.iload_n 3, 1) := by decide +kernel
theorem dX11_build_200 : decode cX11_build 200 = .ok (.iload 4, 2) := by decide +kernel
theorem dX11_build_202 : decode cX11_build 202 = .ok (.iload 5, 2) := by decide +kernel
theorem dX11_build_204 : decode cX11_build 204 = .ok (.aload_n 0, 1) := by decide +kernel
theorem dX11_build_205 : decode cX11_build 205 = .ok (.getfield 26, 3) := by decide +kernel
theorem dX11_build_208 : decode cX11_build 208 = .ok (.getfield 249, 3) := by decide +kernel
theorem dX11_build_211 : decode cX11_build 211 = .ok (.invokevirtual 252, 3) := by decide +kernel
theorem dX11_build_214 : decode cX11_build 214 = .ok (.aload_n 0, 1) := by decide +kernel
theorem dX11_build_215 : decode cX11_build 215 = .ok (.iload 7, 2) := by decide +kernel
theorem dX11_build_217 : decode cX11_build 217 = .ok (.invokevirtual 113, 3) := by decide +kernel
theorem dX11_build_220 : decode cX11_build 220 = .ok (.ireturn, 1) := by decide +kernel
theorem dX11_costs_0 : decode cX11_costs 0 = .ok (.aload_n 0, 1) := by decide +kernel
theorem dX11_costs_1 : decode cX11_costs 1 = .ok (.iload_n 1, 1) := by decide +kernel
theorem dX11_costs_2 : decode cX11_costs 2 = .ok (.invokevirtual 144, 3) := by decide +kernel
theorem dX11_costs_5 : decode cX11_costs 5 = .ok (.ifCond .eq 11, 3) := by decide +kernel
theorem dX11_costs_8 : decode cX11_costs 8 = .ok (.aload_n 0, 1) := by decide +kernel
theorem dX11_costs_9 : decode cX11_costs 9 = .ok (.iload_n 2, 1) := by decide +kernel
theorem dX11_costs_10 : decode cX11_costs 10 = .ok (.invokevirtual 214, 3) := by decide +kernel
theorem dX11_costs_13 : decode cX11_costs 13 = .ok (.ifCond .ne 9, 3) := by decide +kernel
theorem dX11_costs_16 : decode cX11_costs 16 = .ok (.aload_n 0, 1) := by decide +kernel
theorem dX11_costs_17 : decode cX11_costs 17 = .ok (.iconst 1, 1) := by decide +kernel
theorem dX11_costs_18 : decode cX11_costs 18 = .ok (.invokevirtual 79, 3) := by decide +kernel
theorem dX11_costs_21 : decode cX11_costs 21 = .ok (.ireturn, 1) := by decide +kernel
theorem dX11_costs_22 : decode cX11_costs 22 = .ok (.aload_n 0, 1) := by decide +kernel
theorem dX11_costs_23 : decode cX11_costs 23 = .ok (.getfield 26, 3) := by decide +kernel
theorem dX11_costs_26 : decode cX11_costs 26 = .ok (.getfield 154, 3) := by decide +kernel
theorem dX11_costs_29 : decode cX11_costs 29 = .ok (.iload_n 1, 1) := by decide +kernel
theorem dX11_costs_30 : decode cX11_costs 30 = .ok (.iaload, 1) := by decide +kernel
theorem dX11_costs_31 : decode cX11_costs 31 = .ok (.bipush 6, 2) := by decide +kernel
theorem dX11_costs_33 : decode cX11_costs 33 = .ok (.if_icmp .lt 9, 3) := by decide +kernel
theorem dX11_costs_36 : decode cX11_costs 36 = .ok (.aload_n 0, 1) := by decide +kernel
theorem dX11_costs_37 : decode cX11_costs 37 = .ok (.iconst 3, 1) := by decide +kernel
theorem dX11_costs_38 : decode cX11_costs 38 = .ok (.invokevirtual 79, 3) := by decide +kernel
theorem dX11_costs_41 : decode cX11_costs 41 = .ok (.ireturn, 1) := by decide +kernel
theorem dX11_costs_42 : decode cX11_costs 42 = .ok (.aload_n 0, 1) := by decide +kernel
theorem dX11_costs_43 : decode cX11_costs 43 = .ok (.aload_n 0, 1) := by decide +kernel
theorem dX11_costs_44 : decode cX11_costs 44 = .ok (.getfield 16, 3) := by decide +kernel
theorem dX11_costs_47 : decode cX11_costs 47 = .ok (.aload_n 0, 1) := by decide +kernel
theorem dX11_costs_48 : decode cX11_costs 48 = .ok (.getfield 26, 3) := by decide +kernel
theorem dX11_costs_51 : decode cX11_costs 51 = .ok (.iload_n 1, 1) := by decide +kernel
theorem dX11_costs_52 : decode cX11_costs 52 = .ok (.iload_n 2, 1) := by decide +kernel
theorem dX11_costs_53 : decode cX11_costs 53 = .ok (.invokestatic 217, 3) := by decide +kernel
theorem dX11_costs_56 : decode cX11_costs 56 = .ok (.invokevirtual 113, 3) := by decide +kernel
theorem dX11_costs_59 : decode cX11_costs 59 = .ok (.ireturn, 1) := by decide +kernel
theorem dX11_door_0 : decode cX11_door 0 = .ok (.aload_n 0, 1) := by decide +kernel
theorem dX11_door_1 : decode cX11_door 1 = .ok (.iload_n 1, 1) := by decide +kernel
theorem dX11_door_2 : decode cX11_door 2 = .ok (.invokevirtual 144, 3) := by decide +kernel
theorem dX11_door_5 : decode cX11_door 5 = .ok (.ifCond .ne 9, 3) := by decide +kernel
theorem dX11_door_8 : decode cX11_door 8 = .ok (.aload_n 0, 1) := by decide +kernel
theorem dX11_door_9 : decode cX11_door 9 = .ok (.iconst 1, 1) := by decide +kernel
theorem dX11_door_10 : decode cX11_door 10 = .ok (.invokevirtual 79, 3) := by decide +kernel
theorem dX11_door_13 : decode cX11_door 13 = .ok (.ireturn, 1) := by decide +kernel
theorem dX11_door_14 : decode cX11_door 14 = .ok (.aload_n 0, 1) := by decide +kernel
theorem dX11_door_15 : decode cX11_door 15 = .ok (.aload_n 0, 1) := by decide +kernel
theorem dX11_door_16 : decode cX11_door 16 = .ok (.getfield 16, 3) := by decide +kernel
theorem dX11_door_19 : decode cX11_door 19 = .ok (.aload_n 0, 1) := by decide +kernel
theorem dX11_door_20 : decode cX11_door 20 = .ok (.getfield 26, 3) := by decide +kernel
theorem dX11_door_23 : decode cX11_door 23 = .ok (.iload_n 1, 1) := by decide +kernel
theorem dX11_door_24 : decode cX11_door 24 = .ok (.invokestatic 207, 3) := by decide +kernel
theorem dX11_door_27 : decode cX11_door 27 = .ok (.ifCond .eq 18, 3) := by decide +kernel
theorem dX11_door_30 : decode cX11_door 30 = .ok (.aload_n 0, 1) := by decide +kernel
theorem dX11_door_31 : decode cX11_door 31 = .ok (.getfield 16, 3) := by decide +kernel
theorem dX11_door_34 : decode cX11_door 34 = .ok (.aload_n 0, 1) := by decide +kernel
theorem dX11_door_35 : decode cX11_door 35 = .ok (.getfield 26, 3) := by decide +kernel
theorem dX11_door_38 : decode cX11_door 38 = .ok (.iload_n 1, 1) := by decide +kernel
theorem dX11_door_39 : decode cX11_door 39 = .ok (.invokestatic 210, 3) := by decide +kernel
theorem dX11_door_42 : decode cX11_door 42 = .ok (.goto 5, 3) := by decide +kernel
theorem dX11_door_45 : decode cX11_door 45 = .ok (.bipush (-2), 2) := by decide +kernel
theorem dX11_door_47 : decode cX11_door 47 = .ok (.invokevirtual 113, 3) := by decide +kernel
theorem dX11_door_50 : decode cX11_door 50 = .ok (.ireturn, 1) := by decide +kernel
theorem dX11_falls_0 : decode cX11_falls 0 = .ok (.aload_n 0, 1) := by decide +kernel
theorem dX11_falls_1 : decode cX11_falls 1 = .ok (.iload_n 1, 1) := by decide +kernel
theorem dX11_falls_2 : decode cX11_falls 2 = .ok (.iload_n 2, 1) := by decide +kernel
theorem dX11_falls_3 : decode cX11_falls 3 = .ok (.invokevirtual 173, 3) := by decide +kernel
theorem dX11_falls_6 : decode cX11_falls 6 = .ok (.ifCond .ne 9, 3) := by decide +kernel
theorem dX11_falls_9 : decode cX11_falls 9 = .ok (.aload_n 0, 1) := by decide +kernel
theorem dX11_falls_10 : decode cX11_falls 10 = .ok (.iconst 1, 1) := by decide +kernel
theorem dX11_falls_11 : decode cX11_falls 11 = .ok (.invokevirtual 79, 3) := by decide +kernel
theorem dX11_falls_14 : decode cX11_falls 14 = .ok (.ireturn, 1) := by decide +kernel
theorem dX11_falls_15 : decode cX11_falls 15 = .ok (.iload_n 3, 1) := by decide +kernel
theorem dX11_falls_16 : decode cX11_falls 16 = .ok (.ifCond .lt 9, 3) := by decide +kernel
theorem dX11_falls_19 : decode cX11_falls 19 = .ok (.iload_n 3, 1) := by decide +kernel
theorem dX11_falls_20 : decode cX11_falls 20 = .ok (.bipush 60, 2) := by decide +kernel
theorem dX11_falls_22 : decode cX11_falls 22 = .ok (.if_icmp .le 9, 3) := by decide +kernel
theorem dX11_falls_25 : decode cX11_falls 25 = .ok (.aload_n 0, 1) := by decide +kernel
theorem dX11_falls_26 : decode cX11_falls 26 = .ok (.iconst 2, 1) := by decide +kernel
theorem dX11_falls_27 : decode cX11_falls 27 = .ok (.invokevirtual 79, 3) := by decide +kernel
theorem dX11_falls_30 : decode cX11_falls 30 = .ok (.ireturn, 1) := by decide +kernel
theorem dX11_falls_31 : decode cX11_falls 31 = .ok (.aload_n 0, 1) := by decide +kernel
theorem dX11_falls_32 : decode cX11_falls 32 = .ok (.getfield 33, 3) := by decide +kernel
theorem dX11_falls_35 : decode cX11_falls 35 = .ok (.aload_n 0, 1) := by decide +kernel
theorem dX11_falls_36 : decode cX11_falls 36 = .ok (.getfield 26, 3) := by decide +kernel
theorem dX11_falls_39 : decode cX11_falls 39 = .ok (.invokevirtual 99, 3) := by decide +kernel
theorem dX11_falls_42 : decode cX11_falls 42 = .ok (.iconst 0, 1) := by decide +kernel
theorem dX11_falls_43 : decode cX11_falls 43 = .ok (.istore 4, 2) := by decide +kernel
theorem dX11_falls_45 : decode cX11_falls 45 = .ok (.iload 4, 2) := by decide +kernel
theorem dX11_falls_47 : decode cX11_falls 47 = .ok (.iload_n 3, 1) := by decide +kernel
theorem dX11_falls_48 : decode cX11_falls 48 = .ok (.if_icmp .gt 42, 3) := by decide +kernel
theorem dX11_falls_51 : decode cX11_falls 51 = .ok (.aload_n 0, 1) := by decide +kernel
theorem dX11_falls_52 : decode cX11_falls 52 = .ok (.getfield 33, 3) := by decide +kernel
theorem dX11_falls_55 : decode cX11_falls 55 = .ok (.iload_n 1, 1) := by decide +kernel
theorem dX11_falls_56 : decode cX11_falls 56 = .ok (.iload_n 2, 1) := by decide +kernel
theorem dX11_falls_57 : decode cX11_falls 57 = .ok (.invokevirtual 192, 3) := by decide +kernel
theorem dX11_falls_60 : decode cX11_falls 60 = .ok (.ifCond .ne 10, 3) := by decide +kernel
theorem dX11_falls_63 : decode cX11_falls 63 = .ok (.aload_n 0, 1) := by decide +kernel
theorem dX11_falls_64 : decode cX11_falls 64 = .ok (.iload 4, 2) := by decide +kernel
theorem dX11_falls_66 : decode cX11_falls 66 = .ok (.invokevirtual 113, 3) := by decide +kernel
theorem dX11_falls_69 : decode cX11_falls 69 = .ok (.ireturn, 1) := by decide +kernel
theorem dX11_falls_70 : decode cX11_falls 70 = .ok (.aload_n 0, 1) := by decide +kernel
theorem dX11_falls_71 : decode cX11_falls 71 = .ok (.getfield 16, 3) := by decide +kernel
theorem dX11_falls_74 : decode cX11_falls 74 = .ok (.aload_n 0, 1) := by decide +kernel
theorem dX11_falls_75 : decode cX11_falls 75 = .ok (.getfield 33, 3) := by decide +kernel
theorem dX11_falls_78 : decode cX11_falls 78 = .ok (.getstatic 235, 3) := by decide +kernel
theorem dX11_falls_81 : decode cX11_falls 81 = .ok (.invokestatic 238, 3) := by decide +kernel
theorem dX11_falls_84 : decode cX11_falls 84 = .ok (.iinc 4 1, 3) := by decide +kernel
theorem dX11_falls_87 : decode cX11_falls 87 = .ok (.goto (-42), 3) := by decide +kernel
theorem dX11_falls_90 : decode cX11_falls 90 = .ok (.aload_n 0, 1) := by decide +kernel
theorem dX11_falls_91 : decode cX11_falls 91 = .ok (.bipush (-2), 2) := by decide +kernel
theorem dX11_falls_93 : decode cX11_falls 93 = .ok (.invokevirtual 113, 3) := by decide +kernel
theorem dX11_falls_96 : decode cX11_falls 96 = .ok (.ireturn, 1) := by decide +kernel
theorem dX11_fault_0 : decode cX11_fault 0 = .ok (.aload_n 0, 1) := by decide +kernel
theorem dX11_fault_1 : decode cX11_fault 1 = .ok (.getfield 90, 3) := by decide +kernel
theorem dX11_fault_4 : decode cX11_fault 4 = .ok (.ireturn, 1) := by decide +kernel
theorem dX11_feed_0 : decode cX11_feed 0 = .ok (.aload_n 0, 1) := by decide +kernel
theorem dX11_feed_1 : decode cX11_feed 1 = .ok (.getfield 71, 3) := by decide +kernel
theorem dX11_feed_4 : decode cX11_feed 4 = .ok (.bipush 20, 2) := by decide +kernel
theorem dX11_feed_6 : decode cX11_feed 6 = .ok (.iadd, 1) := by decide +kernel
theorem dX11_feed_7 : decode cX11_feed 7 = .ok (.sipush 1000, 3) := by decide +kernel
theorem dX11_feed_10 : decode cX11_feed 10 = .ok (.if_icmp .le 5, 3) := by decide +kernel
theorem dX11_feed_13 : decode cX11_feed 13 = .ok (.iconst (-1), 1) := by decide +kernel
theorem dX11_feed_14 : decode cX11_feed 14 = .ok (.ireturn, 1) := by decide +kernel
theorem dX11_feed_15 : decode cX11_feed 15 = .ok (.aload_n 0, 1) := by decide +kernel
theorem dX11_feed_16 : decode cX11_feed 16 = .ok (.iload_n 1, 1) := by decide +kernel
theorem dX11_feed_17 : decode cX11_feed 17 = .ok (.invokevirtual 75, 3) := by decide +kernel
theorem dX11_feed_20 : decode cX11_feed 20 = .ok (.aload_n 0, 1) := by decide +kernel
theorem dX11_feed_21 : decode cX11_feed 21 = .ok (.iload_n 2, 1) := by decide +kernel
theorem dX11_feed_22 : decode cX11_feed 22 = .ok (.invokevirtual 75, 3) := by decide +kernel
theorem dX11_feed_25 : decode cX11_feed 25 = .ok (.aload_n 0, 1) := by decide +kernel
theorem dX11_feed_26 : decode cX11_feed 26 = .ok (.iload_n 3, 1) := by decide +kernel
theorem dX11_feed_27 : decode cX11_feed 27 = .ok (.invokevirtual 75, 3) := by decide +kernel
theorem dX11_feed_30 : decode cX11_feed 30 = .ok (.aload_n 0, 1) := by decide +kernel
theorem dX11_feed_31 : decode cX11_feed 31 = .ok (.iload 4, 2) := by decide +kernel
theorem dX11_feed_33 : decode cX11_feed 33 = .ok (.invokevirtual 75, 3) := by decide +kernel
theorem dX11_feed_36 : decode cX11_feed 36 = .ok (.aload_n 0, 1) := by decide +kernel
theorem dX11_feed_37 : decode cX11_feed 37 = .ok (.iload 5, 2) := by decide +kernel
theorem dX11_feed_39 : decode cX11_feed 39 = .ok (.invokevirtual 75, 3) := by decide +kernel
theorem dX11_feed_42 : decode cX11_feed 42 = .ok (.aload_n 0, 1) := by decide +kernel
theorem dX11_feed_43 : decode cX11_feed 43 = .ok (.getfield 71, 3) := by decide +kernel
theorem dX11_feed_46 : decode cX11_feed 46 = .ok (.ireturn, 1) := by decide +kernel
theorem dX11_fill_0 : decode cX11_fill 0 = .ok (.aload_n 0, 1) := by decide +kernel
theorem dX11_fill_1 : decode cX11_fill 1 = .ok (.iload_n 1, 1) := by decide +kernel
theorem dX11_fill_2 : decode cX11_fill 2 = .ok (.iload_n 2, 1) := by decide +kernel
theorem dX11_fill_3 : decode cX11_fill 3 = .ok (.invokevirtual 173, 3) := by decide +kernel
theorem dX11_fill_6 : decode cX11_fill 6 = .ok (.ifCond .ne 9, 3) := by decide +kernel
theorem dX11_fill_9 : decode cX11_fill 9 = .ok (.aload_n 0, 1) := by decide +kernel
theorem dX11_fill_10 : decode cX11_fill 10 = .ok (.iconst 1, 1) := by decide +kernel
theorem dX11_fill_11 : decode cX11_fill 11 = .ok (.invokevirtual 309, 3) := by decide +kernel
theorem dX11_fill_14 : decode cX11_fill 14 = .ok (.ireturn, 1) := by decide +kernel
theorem dX11_fill_15 : decode cX11_fill 15 = .ok (.aload_n 0, 1) := by decide +kernel
theorem dX11_fill_16 : decode cX11_fill 16 = .ok (.getfield 26, 3) := by decide +kernel
theorem dX11_fill_19 : decode cX11_fill 19 = .ok (.iload_n 1, 1) := by decide +kernel
theorem dX11_fill_20 : decode cX11_fill 20 = .ok (.iload_n 2, 1) := by decide +kernel
theorem dX11_fill_21 : decode cX11_fill 21 = .ok (.invokevirtual 312, 3) := by decide +kernel
theorem dX11_fill_24 : decode cX11_fill 24 = .ok (.ifCond .eq 12, 3) := by decide +kernel
theorem dX11_fill_27 : decode cX11_fill 27 = .ok (.aload_n 0, 1) := by decide +kernel
theorem dX11_fill_28 : decode cX11_fill 28 = .ok (.iload_n 1, 1) := by decide +kernel
theorem dX11_fill_29 : decode cX11_fill 29 = .ok (.iload_n 2, 1) := by decide +kernel
theorem dX11_fill_30 : decode cX11_fill 30 = .ok (.invokevirtual 273, 3) := by decide +kernel
theorem dX11_fill_33 : decode cX11_fill 33 = .ok (.ifCond .eq 9, 3) := by decide +kernel
theorem dX11_fill_36 : decode cX11_fill 36 = .ok (.aload_n 0, 1) := by decide +kernel
theorem dX11_fill_37 : decode cX11_fill 37 = .ok (.iconst 5, 1) := by decide +kernel
theorem dX11_fill_38 : decode cX11_fill 38 = .ok (.invokevirtual 309, 3) := by decide +kernel
theorem dX11_fill_41 : decode cX11_fill 41 = .ok (.ireturn, 1) := by decide +kernel
theorem dX11_fill_42 : decode cX11_fill 42 = .ok (.aload_n 0, 1) := by decide +kernel
theorem dX11_fill_43 : decode cX11_fill 43 = .ok (.getfield 67, 3) := by decide +kernel
theorem dX11_fill_46 : decode cX11_fill 46 = .ok (.aload_n 0, 1) := by decide +kernel
theorem dX11_fill_47 : decode cX11_fill 47 = .ok (.getfield 26, 3) := by decide +kernel
theorem dX11_fill_50 : decode cX11_fill 50 = .ok (.invokevirtual 302, 3) := by decide +kernel
theorem dX11_fill_53 : decode cX11_fill 53 = .ok (.aload_n 0, 1) := by decide +kernel
theorem dX11_fill_54 : decode cX11_fill 54 = .ok (.getfield 26, 3) := by decide +kernel
theorem dX11_fill_57 : decode cX11_fill 57 = .ok (.iload_n 1, 1) := by decide +kernel
theorem dX11_fill_58 : decode cX11_fill 58 = .ok (.iload_n 2, 1) := by decide +kernel
theorem dX11_fill_59 : decode cX11_fill 59 = .ok (.bipush 6, 2) := by decide +kernel
theorem dX11_fill_61 : decode cX11_fill 61 = .ok (.iconst 1, 1) := by decide +kernel
theorem dX11_fill_62 : decode cX11_fill 62 = .ok (.invokevirtual 315, 3) := by decide +kernel
theorem dX11_fill_65 : decode cX11_fill 65 = .ok (.aload_n 0, 1) := by decide +kernel
theorem dX11_fill_66 : decode cX11_fill 66 = .ok (.invokevirtual 319, 3) := by decide +kernel
theorem dX11_fill_69 : decode cX11_fill 69 = .ok (.ireturn, 1) := by decide +kernel
theorem dX11_first_0 : decode cX11_first 0 = .ok (.aload_n 0, 1) := by decide +kernel
theorem dX11_first_1 : decode cX11_first 1 = .ok (.getfield 106, 3) := by decide +kernel
theorem dX11_first_4 : decode cX11_first 4 = .ok (.ifCond .ne 9, 3) := by decide +kernel
theorem dX11_first_7 : decode cX11_first 7 = .ok (.aload_n 0, 1) := by decide +kernel
theorem dX11_first_8 : decode cX11_first 8 = .ok (.iconst 1, 1) := by decide +kernel
theorem dX11_first_9 : decode cX11_first 9 = .ok (.invokevirtual 79, 3) := by decide +kernel
theorem dX11_first_12 : decode cX11_first 12 = .ok (.ireturn, 1) := by decide +kernel
theorem dX11_first_13 : decode cX11_first 13 = .ok (.iload_n 1, 1) := by decide +kernel
theorem dX11_first_14 : decode cX11_first 14 = .ok (.ifCond .lt 9, 3) := by decide +kernel
theorem dX11_first_17 : decode cX11_first 17 = .ok (.iload_n 1, 1) := by decide +kernel
theorem dX11_first_18 : decode cX11_first 18 = .ok (.bipush 30, 2) := by decide +kernel
theorem dX11_first_20 : decode cX11_first 20 = .ok (.if_icmp .le 9, 3) := by decide +kernel
theorem dX11_first_23 : decode cX11_first 23 = .ok (.aload_n 0, 1) := by decide +kernel
theorem dX11_first_24 : decode cX11_first 24 = .ok (.iconst 2, 1) := by decide +kernel
theorem dX11_first_25 : decode cX11_first 25 = .ok (.invokevirtual 79, 3) := by decide +kernel
theorem dX11_first_28 : decode cX11_first 28 = .ok (.ireturn, 1) := by decide +kernel
theorem dX11_first_29 : decode cX11_first 29 = .ok (.aload_n 0, 1) := by decide +kernel
theorem dX11_first_30 : decode cX11_first 30 = .ok (.aload_n 0, 1) := by decide +kernel
theorem dX11_first_31 : decode cX11_first 31 = .ok (.getfield 46, 3) := by decide +kernel
theorem dX11_first_34 : decode cX11_first 34 = .ok (.aload_n 0, 1) := by decide +kernel
theorem dX11_first_35 : decode cX11_first 35 = .ok (.getfield 16, 3) := by decide +kernel
theorem dX11_first_38 : decode cX11_first 38 = .ok (.aload_n 0, 1) := by decide +kernel
theorem dX11_first_39 : decode cX11_first 39 = .ok (.getfield 26, 3) := by decide +kernel
theorem dX11_first_42 : decode cX11_first 42 = .ok (.aload_n 0, 1) := by decide +kernel
theorem dX11_first_43 : decode cX11_first 43 = .ok (.getfield 33, 3) := by decide +kernel
theorem dX11_first_46 : decode cX11_first 46 = .ok (.iload_n 1, 1) := by decide +kernel
theorem dX11_first_47 : decode cX11_first 47 = .ok (.invokevirtual 256, 3) := by decide +kernel
theorem dX11_first_50 : decode cX11_first 50 = .ok (.invokevirtual 113, 3) := by decide +kernel
theorem dX11_first_53 : decode cX11_first 53 = .ok (.ireturn, 1) := by decide +kernel
theorem dX11_firstAt_0 : decode cX11_firstAt 0 = .ok (.aload_n 0, 1) := by decide +kernel
theorem dX11_firstAt_1 : decode cX11_firstAt 1 = .ok (.iload_n 2, 1) := by decide +kernel
theorem dX11_firstAt_2 : decode cX11_firstAt 2 = .ok (.invokevirtual 144, 3) := by decide +kernel
theorem dX11_firstAt_5 : decode cX11_firstAt 5 = .ok (.ifCond .ne 9, 3) := by decide +kernel
theorem dX11_firstAt_8 : decode cX11_firstAt 8 = .ok (.aload_n 0, 1) := by decide +kernel
theorem dX11_firstAt_9 : decode cX11_firstAt 9 = .ok (.iconst 1, 1) := by decide +kernel
theorem dX11_firstAt_10 : decode cX11_firstAt 10 = .ok (.invokevirtual 79, 3) := by decide +kernel
theorem dX11_firstAt_13 : decode cX11_firstAt 13 = .ok (.ireturn, 1) := by decide +kernel
theorem dX11_firstAt_14 : decode cX11_firstAt 14 = .ok (.iload_n 1, 1) := by decide +kernel
theorem dX11_firstAt_15 : decode cX11_firstAt 15 = .ok (.ifCond .lt 9, 3) := by decide +kernel
theorem dX11_firstAt_18 : decode cX11_firstAt 18 = .ok (.iload_n 1, 1) := by decide +kernel
theorem dX11_firstAt_19 : decode cX11_firstAt 19 = .ok (.bipush 30, 2) := by decide +kernel
theorem dX11_firstAt_21 : decode cX11_firstAt 21 = .ok (.if_icmp .le 9, 3) := by decide +kernel
theorem dX11_firstAt_24 : decode cX11_firstAt 24 = .ok (.aload_n 0, 1) := by decide +kernel
theorem dX11_firstAt_25 : decode cX11_firstAt 25 = .ok (.iconst 2, 1) := by decide +kernel
theorem dX11_firstAt_26 : decode cX11_firstAt 26 = .ok (.invokevirtual 79, 3) := by decide +kernel
theorem dX11_firstAt_29 : decode cX11_firstAt 29 = .ok (.ireturn, 1) := by decide +kernel
theorem dX11_firstAt_30 : decode cX11_firstAt 30 = .ok (.aload_n 0, 1) := by decide +kernel
theorem dX11_firstAt_31 : decode cX11_firstAt 31 = .ok (.getfield 46, 3) := by decide +kernel
theorem dX11_firstAt_34 : decode cX11_firstAt 34 = .ok (.aload_n 0, 1) := by decide +kernel
theorem dX11_firstAt_35 : decode cX11_firstAt 35 = .ok (.getfield 16, 3) := by decide +kernel
theorem dX11_firstAt_38 : decode cX11_firstAt 38 = .ok (.aload_n 0, 1) := by decide +kernel
theorem dX11_firstAt_39 : decode cX11_firstAt 39 = .ok (.getfield 26, 3) := by decide +kernel
theorem dX11_firstAt_42 : decode cX11_firstAt 42 = .ok (.aload_n 0, 1) := by decide +kernel
theorem dX11_firstAt_43 : decode cX11_firstAt 43 = .ok (.getfield 33, 3) := by decide +kernel
theorem dX11_firstAt_46 : decode cX11_firstAt 46 = .ok (.iload_n 1, 1) := by decide +kernel
theorem dX11_firstAt_47 : decode cX11_firstAt 47 = .ok (.invokevirtual 256, 3) := by decide +kernel
theorem dX11_firstAt_50 : decode cX11_firstAt 50 = .ok (.pop, 1) := by decide +kernel
theorem dX11_firstAt_51 : decode cX11_firstAt 51 = .ok (.aload_n 0, 1) := by decide +kernel
theorem dX11_firstAt_52 : decode cX11_firstAt 52 = .ok (.aload_n 0, 1) := by decide +kernel
theorem dX11_firstAt_53 : decode cX11_firstAt 53 = .ok (.getfield 46, 3) := by decide +kernel
theorem dX11_firstAt_56 : decode cX11_firstAt 56 = .ok (.getfield 260, 3) := by decide +kernel
theorem dX11_firstAt_59 : decode cX11_firstAt 59 = .ok (.iload_n 2, 1) := by decide +kernel
theorem dX11_firstAt_60 : decode cX11_firstAt 60 = .ok (.iaload, 1) := by decide +kernel
theorem dX11_firstAt_61 : decode cX11_firstAt 61 = .ok (.invokevirtual 113, 3) := by decide +kernel
theorem dX11_firstAt_64 : decode cX11_firstAt 64 = .ok (.ireturn, 1) := by decide +kernel
theorem dX11_fits_0 : decode cX11_fits 0 = .ok (.aload_n 0, 1) := by decide +kernel
theorem dX11_fits_1 : decode cX11_fits 1 = .ok (.iload_n 1, 1) := by decide +kernel
theorem dX11_fits_2 : decode cX11_fits 2 = .ok (.invokevirtual 144, 3) := by decide +kernel
theorem dX11_fits_5 : decode cX11_fits 5 = .ok (.ifCond .ne 9, 3) := by decide +kernel
theorem dX11_fits_8 : decode cX11_fits 8 = .ok (.aload_n 0, 1) := by decide +kernel
theorem dX11_fits_9 : decode cX11_fits 9 = .ok (.iconst 1, 1) := by decide +kernel
theorem dX11_fits_10 : decode cX11_fits 10 = .ok (.invokevirtual 79, 3) := by decide +kernel
theorem dX11_fits_13 : decode cX11_fits 13 = .ok (.ireturn, 1) := by decide +kernel
theorem dX11_fits_14 : decode cX11_fits 14 = .ok (.aload_n 0, 1) := by decide +kernel
theorem dX11_fits_15 : decode cX11_fits 15 = .ok (.aload_n 0, 1) := by decide +kernel
theorem dX11_fits_16 : decode cX11_fits 16 = .ok (.getfield 16, 3) := by decide +kernel
theorem dX11_fits_19 : decode cX11_fits 19 = .ok (.aload_n 0, 1) := by decide +kernel
theorem dX11_fits_20 : decode cX11_fits 20 = .ok (.getfield 26, 3) := by decide +kernel
theorem dX11_fits_23 : decode cX11_fits 23 = .ok (.iload_n 1, 1) := by decide +kernel
theorem dX11_fits_24 : decode cX11_fits 24 = .ok (.invokestatic 207, 3) := by decide +kernel
theorem dX11_fits_27 : decode cX11_fits 27 = .ok (.ifCond .eq 7, 3) := by decide +kernel
theorem dX11_fits_30 : decode cX11_fits 30 = .ok (.iconst 1, 1) := by decide +kernel
theorem dX11_fits_31 : decode cX11_fits 31 = .ok (.goto 4, 3) := by decide +kernel
theorem dX11_fits_34 : decode cX11_fits 34 = .ok (.iconst 0, 1) := by decide +kernel
theorem dX11_fits_35 : decode cX11_fits 35 = .ok (.invokevirtual 113, 3) := by decide +kernel
theorem dX11_fits_38 : decode cX11_fits 38 = .ok (.ireturn, 1) := by decide +kernel
theorem dX11_free_0 : decode cX11_free 0 = .ok (.aload_n 0, 1) := by decide +kernel
theorem dX11_free_1 : decode cX11_free 1 = .ok (.getfield 106, 3) := by decide +kernel
theorem dX11_free_4 : decode cX11_free 4 = .ok (.ifCond .ne 9, 3) := by decide +kernel
theorem dX11_free_7 : decode cX11_free 7 = .ok (.aload_n 0, 1) := by decide +kernel
theorem dX11_free_8 : decode cX11_free 8 = .ok (.iconst 1, 1) := by decide +kernel
theorem dX11_free_9 : decode cX11_free 9 = .ok (.invokevirtual 79, 3) := by decide +kernel
theorem dX11_free_12 : decode cX11_free 12 = .ok (.ireturn, 1) := by decide +kernel
theorem dX11_free_13 : decode cX11_free 13 = .ok (.iconst 0, 1) := by decide +kernel
theorem dX11_free_14 : decode cX11_free 14 = .ok (.istore_n 1, 1) := by decide +kernel
theorem dX11_free_15 : decode cX11_free 15 = .ok (.iconst 0, 1) := by decide +kernel
theorem dX11_free_16 : decode cX11_free 16 = .ok (.istore_n 2, 1) := by decide +kernel
theorem dX11_free_17 : decode cX11_free 17 = .ok (.iload_n 2, 1) := by decide +kernel
theorem dX11_free_18 : decode cX11_free 18 = .ok (.aload_n 0, 1) := by decide +kernel
theorem dX11_free_19 : decode cX11_free 19 = .ok (.getfield 16, 3) := by decide +kernel
theorem dX11_free_22 : decode cX11_free 22 = .ok (.getfield 129, 3) := by decide +kernel
theorem dX11_free_25 : decode cX11_free 25 = .ok (.if_icmp .ge 47, 3) := by decide +kernel
theorem dX11_free_28 : decode cX11_free 28 = .ok (.iconst 0, 1) := by decide +kernel
theorem dX11_free_29 : decode cX11_free 29 = .ok (.istore_n 3, 1) := by decide +kernel
theorem dX11_free_30 : decode cX11_free 30 = .ok (.iload_n 3, 1) := by decide +kernel
theorem dX11_free_31 : decode cX11_free 31 = .ok (.aload_n 0, 1) := by decide +kernel
theorem dX11_free_32 : decode cX11_free 32 = .ok (.getfield 16, 3) := by decide +kernel
theorem dX11_free_35 : decode cX11_free 35 = .ok (.getfield 132, 3) := by decide +kernel
theorem dX11_free_38 : decode cX11_free 38 = .ok (.if_icmp .ge 28, 3) := by decide +kernel
theorem dX11_free_41 : decode cX11_free 41 = .ok (.aload_n 0, 1) := by decide +kernel
theorem dX11_free_42 : decode cX11_free 42 = .ok (.getfield 16, 3) := by decide +kernel
theorem dX11_free_45 : decode cX11_free 45 = .ok (.aload_n 0, 1) := by decide +kernel
theorem dX11_free_46 : decode cX11_free 46 = .ok (.getfield 26, 3) := by decide +kernel
theorem dX11_free_49 : decode cX11_free 49 = .ok (.iload_n 3, 1) := by decide +kernel
theorem dX11_free_50 : decode cX11_free 50 = .ok (.iload_n 2, 1) := by decide +kernel
theorem dX11_free_51 : decode cX11_free 51 = .ok (.invokestatic 140, 3) := by decide +kernel
theorem dX11_free_54 : decode cX11_free 54 = .ok (.ifCond .eq 6, 3) := by decide +kernel
theorem dX11_free_57 : decode cX11_free 57 = .ok (.iinc 1 1, 3) := by decide +kernel
theorem dX11_free_60 : decode cX11_free 60 = .ok (.iinc 3 1, 3) := by decide +kernel
theorem dX11_free_63 : decode cX11_free 63 = .ok (.goto (-33), 3) := by decide +kernel
theorem dX11_free_66 : decode cX11_free 66 = .ok (.iinc 2 1, 3) := by decide +kernel
theorem dX11_free_69 : decode cX11_free 69 = .ok (.goto (-52), 3) := by decide +kernel
theorem dX11_free_72 : decode cX11_free 72 = .ok (.aload_n 0, 1) := by decide +kernel
theorem dX11_free_73 : decode cX11_free 73 = .ok (.iload_n 1, 1) := by decide +kernel
theorem dX11_free_74 : decode cX11_free 74 = .ok (.invokevirtual 113, 3) := by decide +kernel
theorem dX11_free_77 : decode cX11_free 77 = .ok (.ireturn, 1) := by decide +kernel
theorem dX11_give_0 : decode cX11_give 0 = .ok (.aload_n 0, 1) := by decide +kernel
theorem dX11_give_1 : decode cX11_give 1 = .ok (.iload_n 1, 1) := by decide +kernel
theorem dX11_give_2 : decode cX11_give 2 = .ok (.invokevirtual 144, 3) := by decide +kernel
theorem dX11_give_5 : decode cX11_give 5 = .ok (.ifCond .eq 16, 3) := by decide +kernel
theorem dX11_give_8 : decode cX11_give 8 = .ok (.aload_n 0, 1) := by decide +kernel
theorem dX11_give_9 : decode cX11_give 9 = .ok (.iload_n 2, 1) := by decide +kernel
theorem dX11_give_10 : decode cX11_give 10 = .ok (.invokevirtual 144, 3) := by decide +kernel
theorem dX11_give_13 : decode cX11_give 13 = .ok (.ifCond .eq 8, 3) := by decide +kernel
theorem dX11_give_16 : decode cX11_give 16 = .ok (.iload_n 1, 1) := by decide +kernel
theorem dX11_give_17 : decode cX11_give 17 = .ok (.iload_n 2, 1) := by decide +kernel
theorem dX11_give_18 : decode cX11_give 18 = .ok (.if_icmp .ne 9, 3) := by decide +kernel
theorem dX11_give_21 : decode cX11_give 21 = .ok (.aload_n 0, 1) := by decide +kernel
theorem dX11_give_22 : decode cX11_give 22 = .ok (.iconst 1, 1) := by decide +kernel
theorem dX11_give_23 : decode cX11_give 23 = .ok (.invokevirtual 309, 3) := by decide +kernel
theorem dX11_give_26 : decode cX11_give 26 = .ok (.ireturn, 1) := by decide +kernel
theorem dX11_give_27 : decode cX11_give 27 = .ok (.iload_n 3, 1) := by decide +kernel
theorem dX11_give_28 : decode cX11_give 28 = .ok (.iconst 1, 1) := by decide +kernel
theorem dX11_give_29 : decode cX11_give 29 = .ok (.if_icmp .lt 33, 3) := by decide +kernel
theorem dX11_give_32 : decode cX11_give 32 = .ok (.iload_n 3, 1) := by decide +kernel
theorem dX11_give_33 : decode cX11_give 33 = .ok (.aload_n 0, 1) := by decide +kernel
theorem dX11_give_34 : decode cX11_give 34 = .ok (.getfield 26, 3) := by decide +kernel
theorem dX11_give_37 : decode cX11_give 37 = .ok (.getfield 160, 3) := by decide +kernel
theorem dX11_give_40 : decode cX11_give 40 = .ok (.iload_n 1, 1) := by decide +kernel
theorem dX11_give_41 : decode cX11_give 41 = .ok (.iaload, 1) := by decide +kernel
theorem dX11_give_42 : decode cX11_give 42 = .ok (.if_icmp .gt 20, 3) := by decide +kernel
theorem dX11_give_45 : decode cX11_give 45 = .ok (.aload_n 0, 1) := by decide +kernel
theorem dX11_give_46 : decode cX11_give 46 = .ok (.getfield 26, 3) := by decide +kernel
theorem dX11_give_49 : decode cX11_give 49 = .ok (.getfield 160, 3) := by decide +kernel
theorem dX11_give_52 : decode cX11_give 52 = .ok (.iload_n 2, 1) := by decide +kernel
theorem dX11_give_53 : decode cX11_give 53 = .ok (.iaload, 1) := by decide +kernel
theorem dX11_give_54 : decode cX11_give 54 = .ok (.iload_n 3, 1) := by decide +kernel
theorem dX11_give_55 : decode cX11_give 55 = .ok (.iadd, 1) := by decide +kernel
theorem dX11_give_56 : decode cX11_give 56 = .ok (.sipush 999, 3) := by decide +kernel
theorem dX11_give_59 : decode cX11_give 59 = .ok (.if_icmp .le 9, 3) := by decide +kernel
theorem dX11_give_62 : decode cX11_give 62 = .ok (.aload_n 0, 1) := by decide +kernel
theorem dX11_give_63 : decode cX11_give 63 = .ok (.iconst 2, 1) := by decide +kernel
theorem dX11_give_64 : decode cX11_give 64 = .ok (.invokevirtual 309, 3) := by decide +kernel
theorem dX11_give_67 : decode cX11_give 67 = .ok (.ireturn, 1) := by decide +kernel
theorem dX11_give_68 : decode cX11_give 68 = .ok (.aload_n 0, 1) := by decide +kernel
theorem dX11_give_69 : decode cX11_give 69 = .ok (.getfield 67, 3) := by decide +kernel
theorem dX11_give_72 : decode cX11_give 72 = .ok (.aload_n 0, 1) := by decide +kernel
theorem dX11_give_73 : decode cX11_give 73 = .ok (.getfield 26, 3) := by decide +kernel
theorem dX11_give_76 : decode cX11_give 76 = .ok (.invokevirtual 302, 3) := by decide +kernel
theorem dX11_give_79 : decode cX11_give 79 = .ok (.aload_n 0, 1) := by decide +kernel
theorem dX11_give_80 : decode cX11_give 80 = .ok (.getfield 26, 3) := by decide +kernel
theorem dX11_give_83 : decode cX11_give 83 = .ok (.getfield 160, 3) := by decide +kernel
theorem dX11_give_86 : decode cX11_give 86 = .ok (.iload_n 1, 1) := by decide +kernel
theorem dX11_give_87 : decode cX11_give 87 = .ok (.dup2, 1) := by decide +kernel
theorem dX11_give_88 : decode cX11_give 88 = .ok (.iaload, 1) := by decide +kernel
theorem dX11_give_89 : decode cX11_give 89 = .ok (.iload_n 3, 1) := by decide +kernel
theorem dX11_give_90 : decode cX11_give 90 = .ok (.isub, 1) := by decide +kernel
theorem dX11_give_91 : decode cX11_give 91 = .ok (.iastore, 1) := by decide +kernel
theorem dX11_give_92 : decode cX11_give 92 = .ok (.aload_n 0, 1) := by decide +kernel
theorem dX11_give_93 : decode cX11_give 93 = .ok (.getfield 26, 3) := by decide +kernel
theorem dX11_give_96 : decode cX11_give 96 = .ok (.getfield 160, 3) := by decide +kernel
theorem dX11_give_99 : decode cX11_give 99 = .ok (.iload_n 2, 1) := by decide +kernel
theorem dX11_give_100 : decode cX11_give 100 = .ok (.dup2, 1) := by decide +kernel
theorem dX11_give_101 : decode cX11_give 101 = .ok (.iaload, 1) := by decide +kernel
theorem dX11_give_102 : decode cX11_give 102 = .ok (.iload_n 3, 1) := by decide +kernel
theorem dX11_give_103 : decode cX11_give 103 = .ok (.iadd, 1) := by decide +kernel
theorem dX11_give_104 : decode cX11_give 104 = .ok (.iastore, 1) := by decide +kernel
theorem dX11_give_105 : decode cX11_give 105 = .ok (.aload_n 0, 1) := by decide +kernel
theorem dX11_give_106 : decode cX11_give 106 = .ok (.invokevirtual 319, 3) := by decide +kernel
theorem dX11_give_109 : decode cX11_give 109 = .ok (.ireturn, 1) := by decide +kernel
theorem dX11_goTo_0 : decode cX11_goTo 0 = .ok (.aload_n 0, 1) := by decide +kernel
theorem dX11_goTo_1 : decode cX11_goTo 1 = .ok (.getfield 33, 3) := by decide +kernel
theorem dX11_goTo_4 : decode cX11_goTo 4 = .ok (.aload_n 0, 1) := by decide +kernel
theorem dX11_goTo_5 : decode cX11_goTo 5 = .ok (.getfield 26, 3) := by decide +kernel
theorem dX11_goTo_8 : decode cX11_goTo 8 = .ok (.invokevirtual 99, 3) := by decide +kernel
theorem dX11_goTo_11 : decode cX11_goTo 11 = .ok (.iconst 0, 1) := by decide +kernel
theorem dX11_goTo_12 : decode cX11_goTo 12 = .ok (.istore_n 2, 1) := by decide +kernel
theorem dX11_goTo_13 : decode cX11_goTo 13 = .ok (.iload_n 2, 1) := by decide +kernel
theorem dX11_goTo_14 : decode cX11_goTo 14 = .ok (.iload_n 1, 1) := by decide +kernel
theorem dX11_goTo_15 : decode cX11_goTo 15 = .ok (.if_icmp .ge 23, 3) := by decide +kernel
theorem dX11_goTo_18 : decode cX11_goTo 18 = .ok (.aload_n 0, 1) := by decide +kernel
theorem dX11_goTo_19 : decode cX11_goTo 19 = .ok (.getfield 16, 3) := by decide +kernel
theorem dX11_goTo_22 : decode cX11_goTo 22 = .ok (.aload_n 0, 1) := by decide +kernel
theorem dX11_goTo_23 : decode cX11_goTo 23 = .ok (.getfield 33, 3) := by decide +kernel
theorem dX11_goTo_26 : decode cX11_goTo 26 = .ok (.getstatic 235, 3) := by decide +kernel
theorem dX11_goTo_29 : decode cX11_goTo 29 = .ok (.invokestatic 238, 3) := by decide +kernel
theorem dX11_goTo_32 : decode cX11_goTo 32 = .ok (.iinc 2 1, 3) := by decide +kernel
theorem dX11_goTo_35 : decode cX11_goTo 35 = .ok (.goto (-22), 3) := by decide +kernel
theorem dX11_goTo_38 : decode cX11_goTo 38 = .ok (.return_, 1) := by decide +kernel
theorem dX11_goldIn_0 : decode cX11_goldIn 0 = .ok (.aload_n 0, 1) := by decide +kernel
theorem dX11_goldIn_1 : decode cX11_goldIn 1 = .ok (.getfield 16, 3) := by decide +kernel
theorem dX11_goldIn_4 : decode cX11_goldIn 4 = .ok (.aload_n 0, 1) := by decide +kernel
theorem dX11_goldIn_5 : decode cX11_goldIn 5 = .ok (.getfield 26, 3) := by decide +kernel
theorem dX11_goldIn_8 : decode cX11_goldIn 8 = .ok (.iload_n 1, 1) := by decide +kernel
theorem dX11_goldIn_9 : decode cX11_goldIn 9 = .ok (.iload_n 2, 1) := by decide +kernel
theorem dX11_goldIn_10 : decode cX11_goldIn 10 = .ok (.iconst 0, 1) := by decide +kernel
theorem dX11_goldIn_11 : decode cX11_goldIn 11 = .ok (.invokevirtual 176, 3) := by decide +kernel
theorem dX11_goldIn_14 : decode cX11_goldIn 14 = .ok (.iconst 1, 1) := by decide +kernel
theorem dX11_goldIn_15 : decode cX11_goldIn 15 = .ok (.invokevirtual 195, 3) := by decide +kernel
theorem dX11_goldIn_18 : decode cX11_goldIn 18 = .ok (.bipush 8, 2) := by decide +kernel
theorem dX11_goldIn_20 : decode cX11_goldIn 20 = .ok (.imul, 1) := by decide +kernel
theorem dX11_goldIn_21 : decode cX11_goldIn 21 = .ok (.iload_n 2, 1) := by decide +kernel
theorem dX11_goldIn_22 : decode cX11_goldIn 22 = .ok (.imul, 1) := by decide +kernel
theorem dX11_goldIn_23 : decode cX11_goldIn 23 = .ok (.iconst 2, 1) := by decide +kernel
theorem dX11_goldIn_24 : decode cX11_goldIn 24 = .ok (.idiv, 1) := by decide +kernel
theorem dX11_goldIn_25 : decode cX11_goldIn 25 = .ok (.ireturn, 1) := by decide +kernel
theorem dX11_heads_0 : decode cX11_heads 0 = .ok (.aload_n 0, 1) := by decide +kernel
theorem dX11_heads_1 : decode cX11_heads 1 = .ok (.getfield 106, 3) := by decide +kernel
theorem dX11_heads_4 : decode cX11_heads 4 = .ok (.ifCond .ne 9, 3) := by decide +kernel
theorem dX11_heads_7 : decode cX11_heads 7 = .ok (.aload_n 0, 1) := by decide +kernel
theorem dX11_heads_8 : decode cX11_heads 8 = .ok (.iconst 1, 1) := by decide +kernel
theorem dX11_heads_9 : decode cX11_heads 9 = .ok (.invokevirtual 79, 3) := by decide +kernel
theorem dX11_heads_12 : decode cX11_heads 12 = .ok (.ireturn, 1) := by decide +kernel
theorem dX11_heads_13 : decode cX11_heads 13 = .ok (.iload_n 1, 1) := by decide +kernel
theorem dX11_heads_14 : decode cX11_heads 14 = .ok (.ifCond .lt 20, 3) := by decide +kernel
theorem dX11_heads_17 : decode cX11_heads 17 = .ok (.iload_n 1, 1) := by decide +kernel
theorem dX11_heads_18 : decode cX11_heads 18 = .ok (.ldc_w 263, 3) := by decide +kernel
theorem dX11_heads_21 : decode cX11_heads 21 = .ok (.if_icmp .ge 13, 3) := by decide +kernel
theorem dX11_heads_24 : decode cX11_heads 24 = .ok (.iload_n 2, 1) := by decide +kernel
theorem dX11_heads_25 : decode cX11_heads 25 = .ok (.ifCond .lt 9, 3) := by decide +kernel
theorem dX11_heads_28 : decode cX11_heads 28 = .ok (.iload_n 2, 1) := by decide +kernel
theorem dX11_heads_29 : decode cX11_heads 29 = .ok (.bipush 60, 2) := by decide +kernel
theorem dX11_heads_31 : decode cX11_heads 31 = .ok (.if_icmp .le 9, 3) := by decide +kernel
theorem dX11_heads_34 : decode cX11_heads 34 = .ok (.aload_n 0, 1) := by decide +kernel
theorem dX11_heads_35 : decode cX11_heads 35 = .ok (.iconst 2, 1) := by decide +kernel
theorem dX11_heads_36 : decode cX11_heads 36 = .ok (.invokevirtual 79, 3) := by decide +kernel
theorem dX11_heads_39 : decode cX11_heads 39 = .ok (.ireturn, 1) := by decide +kernel
theorem dX11_heads_40 : decode cX11_heads 40 = .ok (.aload_n 0, 1) := by decide +kernel
theorem dX11_heads_41 : decode cX11_heads 41 = .ok (.getfield 33, 3) := by decide +kernel
theorem dX11_heads_44 : decode cX11_heads 44 = .ok (.aload_n 0, 1) := by decide +kernel
theorem dX11_heads_45 : decode cX11_heads 45 = .ok (.getfield 26, 3) := by decide +kernel
theorem dX11_heads_48 : decode cX11_heads 48 = .ok (.invokevirtual 99, 3) := by decide +kernel
theorem dX11_heads_51 : decode cX11_heads 51 = .ok (.aload_n 0, 1) := by decide +kernel
theorem dX11_heads_52 : decode cX11_heads 52 = .ok (.getfield 33, 3) := by decide +kernel
theorem dX11_heads_55 : decode cX11_heads 55 = .ok (.iload_n 1, 1) := by decide +kernel
theorem dX11_heads_56 : decode cX11_heads 56 = .ok (.putfield 264, 3) := by decide +kernel
theorem dX11_heads_59 : decode cX11_heads 59 = .ok (.iconst 0, 1) := by decide +kernel
theorem dX11_heads_60 : decode cX11_heads 60 = .ok (.istore_n 3, 1) := by decide +kernel
theorem dX11_heads_61 : decode cX11_heads 61 = .ok (.iload_n 3, 1) := by decide +kernel
theorem dX11_heads_62 : decode cX11_heads 62 = .ok (.iload_n 2, 1) := by decide +kernel
theorem dX11_heads_63 : decode cX11_heads 63 = .ok (.if_icmp .ge 23, 3) := by decide +kernel
theorem dX11_heads_66 : decode cX11_heads 66 = .ok (.aload_n 0, 1) := by decide +kernel
theorem dX11_heads_67 : decode cX11_heads 67 = .ok (.getfield 16, 3) := by decide +kernel
theorem dX11_heads_70 : decode cX11_heads 70 = .ok (.aload_n 0, 1) := by decide +kernel
theorem dX11_heads_71 : decode cX11_heads 71 = .ok (.getfield 33, 3) := by decide +kernel
theorem dX11_heads_74 : decode cX11_heads 74 = .ok (.getstatic 235, 3) := by decide +kernel
theorem dX11_heads_77 : decode cX11_heads 77 = .ok (.invokestatic 238, 3) := by decide +kernel
theorem dX11_heads_80 : decode cX11_heads 80 = .ok (.iinc 3 1, 3) := by decide +kernel
theorem dX11_heads_83 : decode cX11_heads 83 = .ok (.goto (-22), 3) := by decide +kernel
theorem dX11_heads_86 : decode cX11_heads 86 = .ok (.iconst 0, 1) := by decide +kernel
theorem dX11_heads_87 : decode cX11_heads 87 = .ok (.istore_n 3, 1) := by decide +kernel
theorem dX11_heads_88 : decode cX11_heads 88 = .ok (.iconst 0, 1) := by decide +kernel
theorem dX11_heads_89 : decode cX11_heads 89 = .ok (.istore 4, 2) := by decide +kernel
theorem dX11_heads_91 : decode cX11_heads 91 = .ok (.iload 4, 2) := by decide +kernel
theorem dX11_heads_93 : decode cX11_heads 93 = .ok (.aload_n 0, 1) := by decide +kernel
theorem dX11_heads_94 : decode cX11_heads 94 = .ok (.getfield 16, 3) := by decide +kernel
theorem dX11_heads_97 : decode cX11_heads 97 = .ok (.getfield 110, 3) := by decide +kernel
theorem dX11_heads_100 : decode cX11_heads 100 = .ok (.if_icmp .ge 22, 3) := by decide +kernel
theorem dX11_heads_103 : decode cX11_heads 103 = .ok (.iload_n 3, 1) := by decide +kernel
theorem dX11_heads_104 : decode cX11_heads 104 = .ok (.aload_n 0, 1) := by decide +kernel
theorem dX11_heads_105 : decode cX11_heads 105 = .ok (.getfield 33, 3) := by decide +kernel
theorem dX11_heads_108 : decode cX11_heads 108 = .ok (.getfield 157, 3) := by decide +kernel
theorem dX11_heads_111 : decode cX11_heads 111 = .ok (.iload 4, 2) := by decide +kernel
theorem dX11_heads_113 : decode cX11_heads 113 = .ok (.iaload, 1) := by decide +kernel
theorem dX11_heads_114 : decode cX11_heads 114 = .ok (.iadd, 1) := by decide +kernel
theorem dX11_heads_115 : decode cX11_heads 115 = .ok (.istore_n 3, 1) := by decide +kernel
theorem dX11_heads_116 : decode cX11_heads 116 = .ok (.iinc 4 1, 3) := by decide +kernel
theorem dX11_heads_119 : decode cX11_heads 119 = .ok (.goto (-28), 3) := by decide +kernel
theorem dX11_heads_122 : decode cX11_heads 122 = .ok (.aload_n 0, 1) := by decide +kernel
theorem dX11_heads_123 : decode cX11_heads 123 = .ok (.iload_n 3, 1) := by decide +kernel
theorem dX11_heads_124 : decode cX11_heads 124 = .ok (.invokevirtual 113, 3) := by decide +kernel
theorem dX11_heads_127 : decode cX11_heads 127 = .ok (.ireturn, 1) := by decide +kernel
theorem dX11_heir_0 : decode cX11_heir 0 = .ok (.aload_n 0, 1) := by decide +kernel
theorem dX11_heir_1 : decode cX11_heir 1 = .ok (.iload_n 1, 1) := by decide +kernel
theorem dX11_heir_2 : decode cX11_heir 2 = .ok (.invokevirtual 198, 3) := by decide +kernel
theorem dX11_heir_5 : decode cX11_heir 5 = .ok (.ifCond .ne 9, 3) := by decide +kernel
theorem dX11_heir_8 : decode cX11_heir 8 = .ok (.aload_n 0, 1) := by decide +kernel
theorem dX11_heir_9 : decode cX11_heir 9 = .ok (.iconst 1, 1) := by decide +kernel
theorem dX11_heir_10 : decode cX11_heir 10 = .ok (.invokevirtual 79, 3) := by decide +kernel
theorem dX11_heir_13 : decode cX11_heir 13 = .ok (.ireturn, 1) := by decide +kernel
theorem dX11_heir_14 : decode cX11_heir 14 = .ok (.iload_n 2, 1) := by decide +kernel
theorem dX11_heir_15 : decode cX11_heir 15 = .ok (.tableswitch 80 0 2 #[25, 39, 53], 25) := by decide +kernel
theorem dX11_heir_40 : decode cX11_heir 40 = .ok (.aload_n 0, 1) := by decide +kernel
theorem dX11_heir_41 : decode cX11_heir 41 = .ok (.aload_n 0, 1) := by decide +kernel
theorem dX11_heir_42 : decode cX11_heir 42 = .ok (.getfield 16, 3) := by decide +kernel
theorem dX11_heir_45 : decode cX11_heir 45 = .ok (.getfield 201, 3) := by decide +kernel
theorem dX11_heir_48 : decode cX11_heir 48 = .ok (.iload_n 1, 1) := by decide +kernel
theorem dX11_heir_49 : decode cX11_heir 49 = .ok (.iaload, 1) := by decide +kernel
theorem dX11_heir_50 : decode cX11_heir 50 = .ok (.invokevirtual 113, 3) := by decide +kernel
theorem dX11_heir_53 : decode cX11_heir 53 = .ok (.ireturn, 1) := by decide +kernel
theorem dX11_heir_54 : decode cX11_heir 54 = .ok (.aload_n 0, 1) := by decide +kernel
theorem dX11_heir_55 : decode cX11_heir 55 = .ok (.aload_n 0, 1) := by decide +kernel
theorem dX11_heir_56 : decode cX11_heir 56 = .ok (.getfield 26, 3) := by decide +kernel
theorem dX11_heir_59 : decode cX11_heir 59 = .ok (.getfield 204, 3) := by decide +kernel
theorem dX11_heir_62 : decode cX11_heir 62 = .ok (.iload_n 1, 1) := by decide +kernel
theorem dX11_heir_63 : decode cX11_heir 63 = .ok (.iaload, 1) := by decide +kernel
theorem dX11_heir_64 : decode cX11_heir 64 = .ok (.invokevirtual 113, 3) := by decide +kernel
theorem dX11_heir_67 : decode cX11_heir 67 = .ok (.ireturn, 1) := by decide +kernel
theorem dX11_heir_68 : decode cX11_heir 68 = .ok (.aload_n 0, 1) := by decide +kernel
theorem dX11_heir_69 : decode cX11_heir 69 = .ok (.aload_n 0, 1) := by decide +kernel
theorem dX11_heir_70 : decode cX11_heir 70 = .ok (.aload_n 0, 1) := by decide +kernel
theorem dX11_heir_71 : decode cX11_heir 71 = .ok (.getfield 16, 3) := by decide +kernel
theorem dX11_heir_74 : decode cX11_heir 74 = .ok (.getfield 201, 3) := by decide +kernel
theorem dX11_heir_77 : decode cX11_heir 77 = .ok (.iload_n 1, 1) := by decide +kernel
theorem dX11_heir_78 : decode cX11_heir 78 = .ok (.iaload, 1) := by decide +kernel
theorem dX11_heir_79 : decode cX11_heir 79 = .ok (.aload_n 0, 1) := by decide +kernel
theorem dX11_heir_80 : decode cX11_heir 80 = .ok (.getfield 26, 3) := by decide +kernel
theorem dX11_heir_83 : decode cX11_heir 83 = .ok (.getfield 204, 3) := by decide +kernel
theorem dX11_heir_86 : decode cX11_heir 86 = .ok (.iload_n 1, 1) := by decide +kernel
theorem dX11_heir_87 : decode cX11_heir 87 = .ok (.iaload, 1) := by decide +kernel
theorem dX11_heir_88 : decode cX11_heir 88 = .ok (.invokevirtual 183, 3) := by decide +kernel
theorem dX11_heir_91 : decode cX11_heir 91 = .ok (.invokevirtual 113, 3) := by decide +kernel
theorem dX11_heir_94 : decode cX11_heir 94 = .ok (.ireturn, 1) := by decide +kernel
theorem dX11_heir_95 : decode cX11_heir 95 = .ok (.aload_n 0, 1) := by decide +kernel
theorem dX11_heir_96 : decode cX11_heir 96 = .ok (.iconst 1, 1) := by decide +kernel
theorem dX11_heir_97 : decode cX11_heir 97 = .ok (.invokevirtual 79, 3) := by decide +kernel
theorem dX11_heir_100 : decode cX11_heir 100 = .ok (.ireturn, 1) := by decide +kernel
theorem dX11_house_0 : decode cX11_house 0 = .ok (.aload_n 0, 1) := by decide +kernel
theorem dX11_house_1 : decode cX11_house 1 = .ok (.iload_n 1, 1) := by decide +kernel
theorem dX11_house_2 : decode cX11_house 2 = .ok (.invokevirtual 144, 3) := by decide +kernel
theorem dX11_house_5 : decode cX11_house 5 = .ok (.ifCond .ne 9, 3) := by decide +kernel
theorem dX11_house_8 : decode cX11_house 8 = .ok (.aload_n 0, 1) := by decide +kernel
theorem dX11_house_9 : decode cX11_house 9 = .ok (.iconst 1, 1) := by decide +kernel
theorem dX11_house_10 : decode cX11_house 10 = .ok (.invokevirtual 79, 3) := by decide +kernel
theorem dX11_house_13 : decode cX11_house 13 = .ok (.ireturn, 1) := by decide +kernel
theorem dX11_house_14 : decode cX11_house 14 = .ok (.iload_n 2, 1) := by decide +kernel
theorem dX11_house_15 : decode cX11_house 15 = .ok (.tableswitch 175 0 6 #[41, 73, 87, 101, 115, 129, 154], 41) := by decide +kernel
theorem dX11_house_56 : decode cX11_house 56 = .ok (.aload_n 0, 1) := by decide +kernel
theorem dX11_house_57 : decode cX11_house 57 = .ok (.aload_n 0, 1) := by decide +kernel
theorem dX11_house_58 : decode cX11_house 58 = .ok (.getfield 16, 3) := by decide +kernel
theorem dX11_house_61 : decode cX11_house 61 = .ok (.getfield 148, 3) := by decide +kernel
theorem dX11_house_64 : decode cX11_house 64 = .ok (.iload_n 1, 1) := by decide +kernel
theorem dX11_house_65 : decode cX11_house 65 = .ok (.iaload, 1) := by decide +kernel
theorem dX11_house_66 : decode cX11_house 66 = .ok (.aload_n 0, 1) := by decide +kernel
theorem dX11_house_67 : decode cX11_house 67 = .ok (.getfield 16, 3) := by decide +kernel
theorem dX11_house_70 : decode cX11_house 70 = .ok (.getfield 132, 3) := by decide +kernel
theorem dX11_house_73 : decode cX11_house 73 = .ok (.imul, 1) := by decide +kernel
theorem dX11_house_74 : decode cX11_house 74 = .ok (.aload_n 0, 1) := by decide +kernel
theorem dX11_house_75 : decode cX11_house 75 = .ok (.getfield 16, 3) := by decide +kernel
theorem dX11_house_78 : decode cX11_house 78 = .ok (.getfield 151, 3) := by decide +kernel
theorem dX11_house_81 : decode cX11_house 81 = .ok (.iload_n 1, 1) := by decide +kernel
theorem dX11_house_82 : decode cX11_house 82 = .ok (.iaload, 1) := by decide +kernel
theorem dX11_house_83 : decode cX11_house 83 = .ok (.iadd, 1) := by decide +kernel
theorem dX11_house_84 : decode cX11_house 84 = .ok (.invokevirtual 113, 3) := by decide +kernel
theorem dX11_house_87 : decode cX11_house 87 = .ok (.ireturn, 1) := by decide +kernel
theorem dX11_house_88 : decode cX11_house 88 = .ok (.aload_n 0, 1) := by decide +kernel
theorem dX11_house_89 : decode cX11_house 89 = .ok (.aload_n 0, 1) := by decide +kernel
theorem dX11_house_90 : decode cX11_house 90 = .ok (.getfield 26, 3) := by decide +kernel
theorem dX11_house_93 : decode cX11_house 93 = .ok (.getfield 154, 3) := by decide +kernel
theorem dX11_house_96 : decode cX11_house 96 = .ok (.iload_n 1, 1) := by decide +kernel
theorem dX11_house_97 : decode cX11_house 97 = .ok (.iaload, 1) := by decide +kernel
theorem dX11_house_98 : decode cX11_house 98 = .ok (.invokevirtual 113, 3) := by decide +kernel
theorem dX11_house_101 : decode cX11_house 101 = .ok (.ireturn, 1) := by decide +kernel
theorem dX11_house_102 : decode cX11_house 102 = .ok (.aload_n 0, 1) := by decide +kernel
theorem dX11_house_103 : decode cX11_house 103 = .ok (.aload_n 0, 1) := by decide +kernel
theorem dX11_house_104 : decode cX11_house 104 = .ok (.getfield 26, 3) := by decide +kernel
theorem dX11_house_107 : decode cX11_house 107 = .ok (.getfield 157, 3) := by decide +kernel
theorem dX11_house_110 : decode cX11_house 110 = .ok (.iload_n 1, 1) := by decide +kernel
theorem dX11_house_111 : decode cX11_house 111 = .ok (.iaload, 1) := by decide +kernel
theorem dX11_house_112 : decode cX11_house 112 = .ok (.invokevirtual 113, 3) := by decide +kernel
theorem dX11_house_115 : decode cX11_house 115 = .ok (.ireturn, 1) := by decide +kernel
theorem dX11_house_116 : decode cX11_house 116 = .ok (.aload_n 0, 1) := by decide +kernel
theorem dX11_house_117 : decode cX11_house 117 = .ok (.aload_n 0, 1) := by decide +kernel
theorem dX11_house_118 : decode cX11_house 118 = .ok (.getfield 26, 3) := by decide +kernel
theorem dX11_house_121 : decode cX11_house 121 = .ok (.getfield 160, 3) := by decide +kernel
theorem dX11_house_124 : decode cX11_house 124 = .ok (.iload_n 1, 1) := by decide +kernel
theorem dX11_house_125 : decode cX11_house 125 = .ok (.iaload, 1) := by decide +kernel
theorem dX11_house_126 : decode cX11_house 126 = .ok (.invokevirtual 113, 3) := by decide +kernel
theorem dX11_house_129 : decode cX11_house 129 = .ok (.ireturn, 1) := by decide +kernel
theorem dX11_house_130 : decode cX11_house 130 = .ok (.aload_n 0, 1) := by decide +kernel
theorem dX11_house_131 : decode cX11_house 131 = .ok (.aload_n 0, 1) := by decide +kernel
theorem dX11_house_132 : decode cX11_house 132 = .ok (.getfield 16, 3) := by decide +kernel
theorem dX11_house_135 : decode cX11_house 135 = .ok (.getfield 163, 3) := by decide +kernel
theorem dX11_house_138 : decode cX11_house 138 = .ok (.iload_n 1, 1) := by decide +kernel
theorem dX11_house_139 : decode cX11_house 139 = .ok (.iaload, 1) := by decide +kernel
theorem dX11_house_140 : decode cX11_house 140 = .ok (.invokevirtual 113, 3) := by decide +kernel
theorem dX11_house_143 : decode cX11_house 143 = .ok (.ireturn, 1) := by decide +kernel
theorem dX11_house_144 : decode cX11_house 144 = .ok (.aload_n 0, 1) := by decide +kernel
theorem dX11_house_145 : decode cX11_house 145 = .ok (.aload_n 0, 1) := by decide +kernel
theorem dX11_house_146 : decode cX11_house 146 = .ok (.getfield 16, 3) := by decide +kernel
theorem dX11_house_149 : decode cX11_house 149 = .ok (.aload_n 0, 1) := by decide +kernel
theorem dX11_house_150 : decode cX11_house 150 = .ok (.getfield 26, 3) := by decide +kernel
theorem dX11_house_153 : decode cX11_house 153 = .ok (.iload_n 1, 1) := by decide +kernel
theorem dX11_house_154 : decode cX11_house 154 = .ok (.invokestatic 166, 3) := by decide +kernel
theorem dX11_house_157 : decode cX11_house 157 = .ok (.ifCond .eq 7, 3) := by decide +kernel
theorem dX11_house_160 : decode cX11_house 160 = .ok (.iconst 1, 1) := by decide +kernel
theorem dX11_house_161 : decode cX11_house 161 = .ok (.goto 4, 3) := by decide +kernel
theorem dX11_house_164 : decode cX11_house 164 = .ok (.iconst 0, 1) := by decide +kernel
theorem dX11_house_165 : decode cX11_house 165 = .ok (.invokevirtual 113, 3) := by decide +kernel
theorem dX11_house_168 : decode cX11_house 168 = .ok (.ireturn, 1) := by decide +kernel
theorem dX11_house_169 : decode cX11_house 169 = .ok (.aload_n 0, 1) := by decide +kernel
theorem dX11_house_170 : decode cX11_house 170 = .ok (.aload_n 0, 1) := by decide +kernel
theorem dX11_house_171 : decode cX11_house 171 = .ok (.getfield 26, 3) := by decide +kernel
theorem dX11_house_174 : decode cX11_house 174 = .ok (.iload_n 1, 1) := by decide +kernel
theorem dX11_house_175 : decode cX11_house 175 = .ok (.invokevirtual 170, 3) := by decide +kernel
theorem dX11_house_178 : decode cX11_house 178 = .ok (.ifCond .eq 7, 3) := by decide +kernel
theorem dX11_house_181 : decode cX11_house 181 = .ok (.iconst 1, 1) := by decide +kernel
theorem dX11_house_182 : decode cX11_house 182 = .ok (.goto 4, 3) := by decide +kernel
theorem dX11_house_185 : decode cX11_house 185 = .ok (.iconst 0, 1) := by decide +kernel
theorem dX11_house_186 : decode cX11_house 186 = .ok (.invokevirtual 113, 3) := by decide +kernel
theorem dX11_house_189 : decode cX11_house 189 = .ok (.ireturn, 1) := by decide +kernel
theorem dX11_house_190 : decode cX11_house 190 = .ok (.aload_n 0, 1) := by decide +kernel
theorem dX11_house_191 : decode cX11_house 191 = .ok (.iconst 1, 1) := by decide +kernel
theorem dX11_house_192 : decode cX11_house 192 = .ok (.invokevirtual 79, 3) := by decide +kernel
theorem dX11_house_195 : decode cX11_house 195 = .ok (.ireturn, 1) := by decide +kernel
theorem dX11_in_0 : decode cX11_in 0 = .ok (.aload_n 0, 1) := by decide +kernel
theorem dX11_in_1 : decode cX11_in 1 = .ok (.iload_n 1, 1) := by decide +kernel
theorem dX11_in_2 : decode cX11_in 2 = .ok (.invokevirtual 144, 3) := by decide +kernel
theorem dX11_in_5 : decode cX11_in 5 = .ok (.ifCond .eq 12, 3) := by decide +kernel
theorem dX11_in_8 : decode cX11_in 8 = .ok (.iload_n 3, 1) := by decide +kernel
theorem dX11_in_9 : decode cX11_in 9 = .ok (.ifCond .lt 8, 3) := by decide +kernel
theorem dX11_in_12 : decode cX11_in 12 = .ok (.iload_n 3, 1) := by decide +kernel
theorem dX11_in_13 : decode cX11_in 13 = .ok (.iconst 4, 1) := by decide +kernel
theorem dX11_in_14 : decode cX11_in 14 = .ok (.if_icmp .le 9, 3) := by decide +kernel
theorem dX11_in_17 : decode cX11_in 17 = .ok (.aload_n 0, 1) := by decide +kernel
theorem dX11_in_18 : decode cX11_in 18 = .ok (.iconst 1, 1) := by decide +kernel
theorem dX11_in_19 : decode cX11_in 19 = .ok (.invokevirtual 79, 3) := by decide +kernel
theorem dX11_in_22 : decode cX11_in 22 = .ok (.ireturn, 1) := by decide +kernel
theorem dX11_in_23 : decode cX11_in 23 = .ok (.iload_n 2, 1) := by decide +kernel
theorem dX11_in_24 : decode cX11_in 24 = .ok (.ifCond .lt 9, 3) := by decide +kernel
theorem dX11_in_27 : decode cX11_in 27 = .ok (.iload_n 2, 1) := by decide +kernel
theorem dX11_in_28 : decode cX11_in 28 = .ok (.bipush 60, 2) := by decide +kernel
theorem dX11_in_30 : decode cX11_in 30 = .ok (.if_icmp .le 9, 3) := by decide +kernel
theorem dX11_in_33 : decode cX11_in 33 = .ok (.aload_n 0, 1) := by decide +kernel
theorem dX11_in_34 : decode cX11_in 34 = .ok (.iconst 2, 1) := by decide +kernel
theorem dX11_in_35 : decode cX11_in 35 = .ok (.invokevirtual 79, 3) := by decide +kernel
theorem dX11_in_38 : decode cX11_in 38 = .ok (.ireturn, 1) := by decide +kernel
theorem dX11_in_39 : decode cX11_in 39 = .ok (.aload_n 0, 1) := by decide +kernel
theorem dX11_in_40 : decode cX11_in 40 = .ok (.iload_n 2, 1) := by decide +kernel
theorem dX11_in_41 : decode cX11_in 41 = .ok (.invokevirtual 229, 3) := by decide +kernel
theorem dX11_in_44 : decode cX11_in 44 = .ok (.iload_n 3, 1) := by decide +kernel
theorem dX11_in_45 : decode cX11_in 45 = .ok (.tableswitch 86 0 3 #[31, 45, 59, 73], 31) := by decide +kernel
theorem dX11_in_76 : decode cX11_in 76 = .ok (.aload_n 0, 1) := by decide +kernel
theorem dX11_in_77 : decode cX11_in 77 = .ok (.aload_n 0, 1) := by decide +kernel
theorem dX11_in_78 : decode cX11_in 78 = .ok (.getfield 33, 3) := by decide +kernel
theorem dX11_in_81 : decode cX11_in 81 = .ok (.getfield 154, 3) := by decide +kernel
theorem dX11_in_84 : decode cX11_in 84 = .ok (.iload_n 1, 1) := by decide +kernel
theorem dX11_in_85 : decode cX11_in 85 = .ok (.iaload, 1) := by decide +kernel
theorem dX11_in_86 : decode cX11_in 86 = .ok (.invokevirtual 113, 3) := by decide +kernel
theorem dX11_in_89 : decode cX11_in 89 = .ok (.ireturn, 1) := by decide +kernel
theorem dX11_in_90 : decode cX11_in 90 = .ok (.aload_n 0, 1) := by decide +kernel
theorem dX11_in_91 : decode cX11_in 91 = .ok (.aload_n 0, 1) := by decide +kernel
theorem dX11_in_92 : decode cX11_in 92 = .ok (.getfield 33, 3) := by decide +kernel
theorem dX11_in_95 : decode cX11_in 95 = .ok (.getfield 157, 3) := by decide +kernel
theorem dX11_in_98 : decode cX11_in 98 = .ok (.iload_n 1, 1) := by decide +kernel
theorem dX11_in_99 : decode cX11_in 99 = .ok (.iaload, 1) := by decide +kernel
theorem dX11_in_100 : decode cX11_in 100 = .ok (.invokevirtual 113, 3) := by decide +kernel
theorem dX11_in_103 : decode cX11_in 103 = .ok (.ireturn, 1) := by decide +kernel
theorem dX11_in_104 : decode cX11_in 104 = .ok (.aload_n 0, 1) := by decide +kernel
theorem dX11_in_105 : decode cX11_in 105 = .ok (.aload_n 0, 1) := by decide +kernel
theorem dX11_in_106 : decode cX11_in 106 = .ok (.getfield 33, 3) := by decide +kernel
theorem dX11_in_109 : decode cX11_in 109 = .ok (.getfield 160, 3) := by decide +kernel
theorem dX11_in_112 : decode cX11_in 112 = .ok (.iload_n 1, 1) := by decide +kernel
theorem dX11_in_113 : decode cX11_in 113 = .ok (.iaload, 1) := by decide +kernel
theorem dX11_in_114 : decode cX11_in 114 = .ok (.invokevirtual 113, 3) := by decide +kernel
theorem dX11_in_117 : decode cX11_in 117 = .ok (.ireturn, 1) := by decide +kernel
theorem dX11_in_118 : decode cX11_in 118 = .ok (.aload_n 0, 1) := by decide +kernel
theorem dX11_in_119 : decode cX11_in 119 = .ok (.aload_n 0, 1) := by decide +kernel
theorem dX11_in_120 : decode cX11_in 120 = .ok (.getfield 33, 3) := by decide +kernel
theorem dX11_in_123 : decode cX11_in 123 = .ok (.iload_n 1, 1) := by decide +kernel
theorem dX11_in_124 : decode cX11_in 124 = .ok (.invokevirtual 232, 3) := by decide +kernel
theorem dX11_in_127 : decode cX11_in 127 = .ok (.invokevirtual 113, 3) := by decide +kernel
theorem dX11_in_130 : decode cX11_in 130 = .ok (.ireturn, 1) := by decide +kernel
theorem dX11_in_131 : decode cX11_in 131 = .ok (.aload_n 0, 1) := by decide +kernel
theorem dX11_in_132 : decode cX11_in 132 = .ok (.aload_n 0, 1) := by decide +kernel
theorem dX11_in_133 : decode cX11_in 133 = .ok (.getfield 16, 3) := by decide +kernel
theorem dX11_in_136 : decode cX11_in 136 = .ok (.aload_n 0, 1) := by decide +kernel
theorem dX11_in_137 : decode cX11_in 137 = .ok (.getfield 33, 3) := by decide +kernel
theorem dX11_in_140 : decode cX11_in 140 = .ok (.iload_n 1, 1) := by decide +kernel
theorem dX11_in_141 : decode cX11_in 141 = .ok (.invokestatic 166, 3) := by decide +kernel
theorem dX11_in_144 : decode cX11_in 144 = .ok (.ifCond .eq 7, 3) := by decide +kernel
theorem dX11_in_147 : decode cX11_in 147 = .ok (.iconst 1, 1) := by decide +kernel
theorem dX11_in_148 : decode cX11_in 148 = .ok (.goto 4, 3) := by decide +kernel
theorem dX11_in_151 : decode cX11_in 151 = .ok (.iconst 0, 1) := by decide +kernel
theorem dX11_in_152 : decode cX11_in 152 = .ok (.invokevirtual 113, 3) := by decide +kernel
theorem dX11_in_155 : decode cX11_in 155 = .ok (.ireturn, 1) := by decide +kernel
theorem dX11_isHeir_0 : decode cX11_isHeir 0 = .ok (.aload_n 0, 1) := by decide +kernel
theorem dX11_isHeir_1 : decode cX11_isHeir 1 = .ok (.getfield 106, 3) := by decide +kernel
theorem dX11_isHeir_4 : decode cX11_isHeir 4 = .ok (.ifCond .eq 22, 3) := by decide +kernel
theorem dX11_isHeir_7 : decode cX11_isHeir 7 = .ok (.iload_n 1, 1) := by decide +kernel
theorem dX11_isHeir_8 : decode cX11_isHeir 8 = .ok (.ifCond .lt 18, 3) := by decide +kernel
theorem dX11_isHeir_11 : decode cX11_isHeir 11 = .ok (.iload_n 1, 1) := by decide +kernel
theorem dX11_isHeir_12 : decode cX11_isHeir 12 = .ok (.aload_n 0, 1) := by decide +kernel
theorem dX11_isHeir_13 : decode cX11_isHeir 13 = .ok (.getfield 16, 3) := by decide +kernel
theorem dX11_isHeir_16 : decode cX11_isHeir 16 = .ok (.getfield 356, 3) := by decide +kernel
theorem dX11_isHeir_19 : decode cX11_isHeir 19 = .ok (.if_icmp .ge 7, 3) := by decide +kernel
theorem dX11_isHeir_22 : decode cX11_isHeir 22 = .ok (.iconst 1, 1) := by decide +kernel
theorem dX11_isHeir_23 : decode cX11_isHeir 23 = .ok (.goto 4, 3) := by decide +kernel
theorem dX11_isHeir_26 : decode cX11_isHeir 26 = .ok (.iconst 0, 1) := by decide +kernel
theorem dX11_isHeir_27 : decode cX11_isHeir 27 = .ok (.ireturn, 1) := by decide +kernel
theorem dX11_isHouse_0 : decode cX11_isHouse 0 = .ok (.aload_n 0, 1) := by decide +kernel
theorem dX11_isHouse_1 : decode cX11_isHouse 1 = .ok (.getfield 106, 3) := by decide +kernel
theorem dX11_isHouse_4 : decode cX11_isHouse 4 = .ok (.ifCond .eq 22, 3) := by decide +kernel
theorem dX11_isHouse_7 : decode cX11_isHouse 7 = .ok (.iload_n 1, 1) := by decide +kernel
theorem dX11_isHouse_8 : decode cX11_isHouse 8 = .ok (.ifCond .lt 18, 3) := by decide +kernel
theorem dX11_isHouse_11 : decode cX11_isHouse 11 = .ok (.iload_n 1, 1) := by decide +kernel
theorem dX11_isHouse_12 : decode cX11_isHouse 12 = .ok (.aload_n 0, 1) := by decide +kernel
theorem dX11_isHouse_13 : decode cX11_isHouse 13 = .ok (.getfield 16, 3) := by decide +kernel
theorem dX11_isHouse_16 : decode cX11_isHouse 16 = .ok (.getfield 110, 3) := by decide +kernel
theorem dX11_isHouse_19 : decode cX11_isHouse 19 = .ok (.if_icmp .ge 7, 3) := by decide +kernel
theorem dX11_isHouse_22 : decode cX11_isHouse 22 = .ok (.iconst 1, 1) := by decide +kernel
theorem dX11_isHouse_23 : decode cX11_isHouse 23 = .ok (.goto 4, 3) := by decide +kernel
theorem dX11_isHouse_26 : decode cX11_isHouse 26 = .ok (.iconst 0, 1) := by decide +kernel
theorem dX11_isHouse_27 : decode cX11_isHouse 27 = .ok (.ireturn, 1) := by decide +kernel
theorem dX11_isLivedIn_0 : decode cX11_isLivedIn 0 = .ok (.iconst 0, 1) := by decide +kernel
theorem dX11_isLivedIn_1 : decode cX11_isLivedIn 1 = .ok (.istore_n 3, 1) := by decide +kernel
theorem dX11_isLivedIn_2 : decode cX11_isLivedIn 2 = .ok (.iload_n 3, 1) := by decide +kernel
theorem dX11_isLivedIn_3 : decode cX11_isLivedIn 3 = .ok (.aload_n 0, 1) := by decide +kernel
theorem dX11_isLivedIn_4 : decode cX11_isLivedIn 4 = .ok (.getfield 16, 3) := by decide +kernel
theorem dX11_isLivedIn_7 : decode cX11_isLivedIn 7 = .ok (.getfield 356, 3) := by decide +kernel
theorem dX11_isLivedIn_10 : decode cX11_isLivedIn 10 = .ok (.if_icmp .ge 37, 3) := by decide +kernel
theorem dX11_isLivedIn_13 : decode cX11_isLivedIn 13 = .ok (.aload_n 0, 1) := by decide +kernel
theorem dX11_isLivedIn_14 : decode cX11_isLivedIn 14 = .ok (.getfield 16, 3) := by decide +kernel
theorem dX11_isLivedIn_17 : decode cX11_isLivedIn 17 = .ok (.getfield 201, 3) := by decide +kernel
theorem dX11_isLivedIn_20 : decode cX11_isLivedIn 20 = .ok (.iload_n 3, 1) := by decide +kernel
theorem dX11_isLivedIn_21 : decode cX11_isLivedIn 21 = .ok (.iaload, 1) := by decide +kernel
theorem dX11_isLivedIn_22 : decode cX11_isLivedIn 22 = .ok (.iload_n 1, 1) := by decide +kernel
theorem dX11_isLivedIn_23 : decode cX11_isLivedIn 23 = .ok (.if_icmp .ne 18, 3) := by decide +kernel
theorem dX11_isLivedIn_26 : decode cX11_isLivedIn 26 = .ok (.aload_n 0, 1) := by decide +kernel
theorem dX11_isLivedIn_27 : decode cX11_isLivedIn 27 = .ok (.getfield 26, 3) := by decide +kernel
theorem dX11_isLivedIn_30 : decode cX11_isLivedIn 30 = .ok (.getfield 204, 3) := by decide +kernel
theorem dX11_isLivedIn_33 : decode cX11_isLivedIn 33 = .ok (.iload_n 3, 1) := by decide +kernel
theorem dX11_isLivedIn_34 : decode cX11_isLivedIn 34 = .ok (.iaload, 1) := by decide +kernel
theorem dX11_isLivedIn_35 : decode cX11_isLivedIn 35 = .ok (.iload_n 2, 1) := by decide +kernel
theorem dX11_isLivedIn_36 : decode cX11_isLivedIn 36 = .ok (.if_icmp .ne 5, 3) := by decide +kernel
theorem dX11_isLivedIn_39 : decode cX11_isLivedIn 39 = .ok (.iconst 1, 1) := by decide +kernel
theorem dX11_isLivedIn_40 : decode cX11_isLivedIn 40 = .ok (.ireturn, 1) := by decide +kernel
theorem dX11_isLivedIn_41 : decode cX11_isLivedIn 41 = .ok (.iinc 3 1, 3) := by decide +kernel
theorem dX11_isLivedIn_44 : decode cX11_isLivedIn 44 = .ok (.goto (-42), 3) := by decide +kernel
theorem dX11_isLivedIn_47 : decode cX11_isLivedIn 47 = .ok (.iconst 0, 1) := by decide +kernel
theorem dX11_isLivedIn_48 : decode cX11_isLivedIn 48 = .ok (.ireturn, 1) := by decide +kernel
theorem dX11_isRoom_0 : decode cX11_isRoom 0 = .ok (.aload_n 0, 1) := by decide +kernel
theorem dX11_isRoom_1 : decode cX11_isRoom 1 = .ok (.iload_n 1, 1) := by decide +kernel
theorem dX11_isRoom_2 : decode cX11_isRoom 2 = .ok (.invokevirtual 144, 3) := by decide +kernel
theorem dX11_isRoom_5 : decode cX11_isRoom 5 = .ok (.ifCond .eq 24, 3) := by decide +kernel
theorem dX11_isRoom_8 : decode cX11_isRoom 8 = .ok (.iload_n 2, 1) := by decide +kernel
theorem dX11_isRoom_9 : decode cX11_isRoom 9 = .ok (.ifCond .lt 20, 3) := by decide +kernel
theorem dX11_isRoom_12 : decode cX11_isRoom 12 = .ok (.iload_n 2, 1) := by decide +kernel
theorem dX11_isRoom_13 : decode cX11_isRoom 13 = .ok (.aload_n 0, 1) := by decide +kernel
theorem dX11_isRoom_14 : decode cX11_isRoom 14 = .ok (.getfield 26, 3) := by decide +kernel
theorem dX11_isRoom_17 : decode cX11_isRoom 17 = .ok (.getfield 154, 3) := by decide +kernel
theorem dX11_isRoom_20 : decode cX11_isRoom 20 = .ok (.iload_n 1, 1) := by decide +kernel
theorem dX11_isRoom_21 : decode cX11_isRoom 21 = .ok (.iaload, 1) := by decide +kernel
theorem dX11_isRoom_22 : decode cX11_isRoom 22 = .ok (.if_icmp .gt 7, 3) := by decide +kernel
theorem dX11_isRoom_25 : decode cX11_isRoom 25 = .ok (.iconst 1, 1) := by decide +kernel
theorem dX11_isRoom_26 : decode cX11_isRoom 26 = .ok (.goto 4, 3) := by decide +kernel
theorem dX11_isRoom_29 : decode cX11_isRoom 29 = .ok (.iconst 0, 1) := by decide +kernel
theorem dX11_isRoom_30 : decode cX11_isRoom 30 = .ok (.ireturn, 1) := by decide +kernel
theorem dX11_isSkin_0 : decode cX11_isSkin 0 = .ok (.iload_n 2, 1) := by decide +kernel
theorem dX11_isSkin_1 : decode cX11_isSkin 1 = .ok (.ifCond .le 16, 3) := by decide +kernel
theorem dX11_isSkin_4 : decode cX11_isSkin 4 = .ok (.aload_n 0, 1) := by decide +kernel
theorem dX11_isSkin_5 : decode cX11_isSkin 5 = .ok (.iload_n 1, 1) := by decide +kernel
theorem dX11_isSkin_6 : decode cX11_isSkin 6 = .ok (.iload_n 2, 1) := by decide +kernel
theorem dX11_isSkin_7 : decode cX11_isSkin 7 = .ok (.invokevirtual 180, 3) := by decide +kernel
theorem dX11_isSkin_10 : decode cX11_isSkin 10 = .ok (.ifCond .eq 7, 3) := by decide +kernel
theorem dX11_isSkin_13 : decode cX11_isSkin 13 = .ok (.iconst 1, 1) := by decide +kernel
theorem dX11_isSkin_14 : decode cX11_isSkin 14 = .ok (.goto 4, 3) := by decide +kernel
theorem dX11_isSkin_17 : decode cX11_isSkin 17 = .ok (.iconst 0, 1) := by decide +kernel
theorem dX11_isSkin_18 : decode cX11_isSkin 18 = .ok (.ireturn, 1) := by decide +kernel
theorem dX11_isStone_0 : decode cX11_isStone 0 = .ok (.aload_n 0, 1) := by decide +kernel
theorem dX11_isStone_1 : decode cX11_isStone 1 = .ok (.getfield 106, 3) := by decide +kernel
theorem dX11_isStone_4 : decode cX11_isStone 4 = .ok (.ifCond .eq 22, 3) := by decide +kernel
theorem dX11_isStone_7 : decode cX11_isStone 7 = .ok (.iload_n 1, 1) := by decide +kernel
theorem dX11_isStone_8 : decode cX11_isStone 8 = .ok (.ifCond .lt 18, 3) := by decide +kernel
theorem dX11_isStone_11 : decode cX11_isStone 11 = .ok (.iload_n 1, 1) := by decide +kernel
theorem dX11_isStone_12 : decode cX11_isStone 12 = .ok (.aload_n 0, 1) := by decide +kernel
theorem dX11_isStone_13 : decode cX11_isStone 13 = .ok (.getfield 16, 3) := by decide +kernel
theorem dX11_isStone_16 : decode cX11_isStone 16 = .ok (.getfield 353, 3) := by decide +kernel
theorem dX11_isStone_19 : decode cX11_isStone 19 = .ok (.if_icmp .ge 7, 3) := by decide +kernel
theorem dX11_isStone_22 : decode cX11_isStone 22 = .ok (.iconst 1, 1) := by decide +kernel
theorem dX11_isStone_23 : decode cX11_isStone 23 = .ok (.goto 4, 3) := by decide +kernel
theorem dX11_isStone_26 : decode cX11_isStone 26 = .ok (.iconst 0, 1) := by decide +kernel
theorem dX11_isStone_27 : decode cX11_isStone 27 = .ok (.ireturn, 1) := by decide +kernel
theorem dX11_isWall_0 : decode cX11_isWall 0 = .ok (.aload_n 0, 1) := by decide +kernel
theorem dX11_isWall_1 : decode cX11_isWall 1 = .ok (.getfield 106, 3) := by decide +kernel
theorem dX11_isWall_4 : decode cX11_isWall 4 = .ok (.ifCond .eq 22, 3) := by decide +kernel
theorem dX11_isWall_7 : decode cX11_isWall 7 = .ok (.iload_n 1, 1) := by decide +kernel
theorem dX11_isWall_8 : decode cX11_isWall 8 = .ok (.ifCond .lt 18, 3) := by decide +kernel
theorem dX11_isWall_11 : decode cX11_isWall 11 = .ok (.iload_n 1, 1) := by decide +kernel
theorem dX11_isWall_12 : decode cX11_isWall 12 = .ok (.aload_n 0, 1) := by decide +kernel
theorem dX11_isWall_13 : decode cX11_isWall 13 = .ok (.getfield 16, 3) := by decide +kernel
theorem dX11_isWall_16 : decode cX11_isWall 16 = .ok (.getfield 359, 3) := by decide +kernel
theorem dX11_isWall_19 : decode cX11_isWall 19 = .ok (.if_icmp .ge 7, 3) := by decide +kernel
theorem dX11_isWall_22 : decode cX11_isWall 22 = .ok (.iconst 1, 1) := by decide +kernel
theorem dX11_isWall_23 : decode cX11_isWall 23 = .ok (.goto 4, 3) := by decide +kernel
theorem dX11_isWall_26 : decode cX11_isWall 26 = .ok (.iconst 0, 1) := by decide +kernel
theorem dX11_isWall_27 : decode cX11_isWall 27 = .ok (.ireturn, 1) := by decide +kernel
theorem dX11_land_0 : decode cX11_land 0 = .ok (.iload_n 1, 1) := by decide +kernel
theorem dX11_land_1 : decode cX11_land 1 = .ok (.ifCond .lt 11, 3) := by decide +kernel
theorem dX11_land_4 : decode cX11_land 4 = .ok (.iload_n 1, 1) := by decide +kernel
theorem dX11_land_5 : decode cX11_land 5 = .ok (.aload_n 0, 1) := by decide +kernel
theorem dX11_land_6 : decode cX11_land 6 = .ok (.getfield 71, 3) := by decide +kernel
theorem dX11_land_9 : decode cX11_land 9 = .ok (.if_icmp .le 9, 3) := by decide +kernel
theorem dX11_land_12 : decode cX11_land 12 = .ok (.aload_n 0, 1) := by decide +kernel
theorem dX11_land_13 : decode cX11_land 13 = .ok (.iconst 2, 1) := by decide +kernel
theorem dX11_land_14 : decode cX11_land 14 = .ok (.invokevirtual 79, 3) := by decide +kernel
theorem dX11_land_17 : decode cX11_land 17 = .ok (.ireturn, 1) := by decide +kernel
theorem dX11_land_18 : decode cX11_land 18 = .ok (.aload_n 0, 1) := by decide +kernel
theorem dX11_land_19 : decode cX11_land 19 = .ok (.iconst 0, 1) := by decide +kernel
theorem dX11_land_20 : decode cX11_land 20 = .ok (.putfield 71, 3) := by decide +kernel
theorem dX11_land_23 : decode cX11_land 23 = .ok (.aload_n 0, 1) := by decide +kernel
theorem dX11_land_24 : decode cX11_land 24 = .ok (.getfield 39, 3) := by decide +kernel
theorem dX11_land_27 : decode cX11_land 27 = .ok (.aload_n 0, 1) := by decide +kernel
theorem dX11_land_28 : decode cX11_land 28 = .ok (.getfield 9, 3) := by decide +kernel
theorem dX11_land_31 : decode cX11_land 31 = .ok (.iload_n 1, 1) := by decide +kernel
theorem dX11_land_32 : decode cX11_land 32 = .ok (.aload_n 0, 1) := by decide +kernel
theorem dX11_land_33 : decode cX11_land 33 = .ok (.getfield 20, 3) := by decide +kernel
theorem dX11_land_36 : decode cX11_land 36 = .ok (.aload_n 0, 1) := by decide +kernel
theorem dX11_land_37 : decode cX11_land 37 = .ok (.getfield 30, 3) := by decide +kernel
theorem dX11_land_40 : decode cX11_land 40 = .ok (.invokevirtual 83, 3) := by decide +kernel
theorem dX11_land_43 : decode cX11_land 43 = .ok (.aload_n 0, 1) := by decide +kernel
theorem dX11_land_44 : decode cX11_land 44 = .ok (.aload_n 0, 1) := by decide +kernel
theorem dX11_land_45 : decode cX11_land 45 = .ok (.getfield 39, 3) := by decide +kernel
theorem dX11_land_48 : decode cX11_land 48 = .ok (.getfield 87, 3) := by decide +kernel
theorem dX11_land_51 : decode cX11_land 51 = .ok (.putfield 90, 3) := by decide +kernel
theorem dX11_land_54 : decode cX11_land 54 = .ok (.aload_n 0, 1) := by decide +kernel
theorem dX11_land_55 : decode cX11_land 55 = .ok (.aload_n 0, 1) := by decide +kernel
theorem dX11_land_56 : decode cX11_land 56 = .ok (.getfield 39, 3) := by decide +kernel
theorem dX11_land_59 : decode cX11_land 59 = .ok (.getfield 93, 3) := by decide +kernel
theorem dX11_land_62 : decode cX11_land 62 = .ok (.putfield 96, 3) := by decide +kernel
theorem dX11_land_65 : decode cX11_land 65 = .ok (.aload_n 0, 1) := by decide +kernel
theorem dX11_land_66 : decode cX11_land 66 = .ok (.getfield 90, 3) := by decide +kernel
theorem dX11_land_69 : decode cX11_land 69 = .ok (.ifCond .eq 9, 3) := by decide +kernel
theorem dX11_land_72 : decode cX11_land 72 = .ok (.aload_n 0, 1) := by decide +kernel
theorem dX11_land_73 : decode cX11_land 73 = .ok (.iconst 4, 1) := by decide +kernel
theorem dX11_land_74 : decode cX11_land 74 = .ok (.invokevirtual 79, 3) := by decide +kernel
theorem dX11_land_77 : decode cX11_land 77 = .ok (.ireturn, 1) := by decide +kernel
theorem dX11_land_78 : decode cX11_land 78 = .ok (.aload_n 0, 1) := by decide +kernel
theorem dX11_land_79 : decode cX11_land 79 = .ok (.getfield 16, 3) := by decide +kernel
theorem dX11_land_82 : decode cX11_land 82 = .ok (.astore_n 2, 1) := by decide +kernel
theorem dX11_land_83 : decode cX11_land 83 = .ok (.aload_n 0, 1) := by decide +kernel
theorem dX11_land_84 : decode cX11_land 84 = .ok (.aload_n 0, 1) := by decide +kernel
theorem dX11_land_85 : decode cX11_land 85 = .ok (.getfield 20, 3) := by decide +kernel
theorem dX11_land_88 : decode cX11_land 88 = .ok (.putfield 16, 3) := by decide +kernel
theorem dX11_land_91 : decode cX11_land 91 = .ok (.aload_n 0, 1) := by decide +kernel
theorem dX11_land_92 : decode cX11_land 92 = .ok (.aload_n 2, 1) := by decide +kernel
theorem dX11_land_93 : decode cX11_land 93 = .ok (.putfield 20, 3) := by decide +kernel
theorem dX11_land_96 : decode cX11_land 96 = .ok (.aload_n 0, 1) := by decide +kernel
theorem dX11_land_97 : decode cX11_land 97 = .ok (.getfield 26, 3) := by decide +kernel
theorem dX11_land_100 : decode cX11_land 100 = .ok (.aload_n 0, 1) := by decide +kernel
theorem dX11_land_101 : decode cX11_land 101 = .ok (.getfield 30, 3) := by decide +kernel
theorem dX11_land_104 : decode cX11_land 104 = .ok (.invokevirtual 99, 3) := by decide +kernel
theorem dX11_land_107 : decode cX11_land 107 = .ok (.aload_n 0, 1) := by decide +kernel
theorem dX11_land_108 : decode cX11_land 108 = .ok (.getfield 67, 3) := by decide +kernel
theorem dX11_land_111 : decode cX11_land 111 = .ok (.invokevirtual 103, 3) := by decide +kernel
theorem dX11_land_114 : decode cX11_land 114 = .ok (.aload_n 0, 1) := by decide +kernel
theorem dX11_land_115 : decode cX11_land 115 = .ok (.iconst 1, 1) := by decide +kernel
theorem dX11_land_116 : decode cX11_land 116 = .ok (.putfield 106, 3) := by decide +kernel
theorem dX11_land_119 : decode cX11_land 119 = .ok (.aload_n 0, 1) := by decide +kernel
theorem dX11_land_120 : decode cX11_land 120 = .ok (.aload_n 0, 1) := by decide +kernel
theorem dX11_land_121 : decode cX11_land 121 = .ok (.getfield 16, 3) := by decide +kernel
theorem dX11_land_124 : decode cX11_land 124 = .ok (.getfield 110, 3) := by decide +kernel
theorem dX11_land_127 : decode cX11_land 127 = .ok (.invokevirtual 113, 3) := by decide +kernel
theorem dX11_land_130 : decode cX11_land 130 = .ok (.ireturn, 1) := by decide +kernel
theorem dX11_latest_0 : decode cX11_latest 0 = .ok (.aload_n 0, 1) := by decide +kernel
theorem dX11_latest_1 : decode cX11_latest 1 = .ok (.iload_n 1, 1) := by decide +kernel
theorem dX11_latest_2 : decode cX11_latest 2 = .ok (.invokevirtual 283, 3) := by decide +kernel
theorem dX11_latest_5 : decode cX11_latest 5 = .ok (.ifCond .ne 9, 3) := by decide +kernel
theorem dX11_latest_8 : decode cX11_latest 8 = .ok (.aload_n 0, 1) := by decide +kernel
theorem dX11_latest_9 : decode cX11_latest 9 = .ok (.iconst 1, 1) := by decide +kernel
theorem dX11_latest_10 : decode cX11_latest 10 = .ok (.invokevirtual 79, 3) := by decide +kernel
theorem dX11_latest_13 : decode cX11_latest 13 = .ok (.ireturn, 1) := by decide +kernel
theorem dX11_latest_14 : decode cX11_latest 14 = .ok (.aload_n 0, 1) := by decide +kernel
theorem dX11_latest_15 : decode cX11_latest 15 = .ok (.getfield 60, 3) := by decide +kernel
theorem dX11_latest_18 : decode cX11_latest 18 = .ok (.aload_n 0, 1) := by decide +kernel
theorem dX11_latest_19 : decode cX11_latest 19 = .ok (.getfield 16, 3) := by decide +kernel
theorem dX11_latest_22 : decode cX11_latest 22 = .ok (.aload_n 0, 1) := by decide +kernel
theorem dX11_latest_23 : decode cX11_latest 23 = .ok (.getfield 26, 3) := by decide +kernel
theorem dX11_latest_26 : decode cX11_latest 26 = .ok (.getfield 249, 3) := by decide +kernel
theorem dX11_latest_29 : decode cX11_latest 29 = .ok (.invokevirtual 276, 3) := by decide +kernel
theorem dX11_latest_32 : decode cX11_latest 32 = .ok (.aload_n 0, 1) := by decide +kernel
theorem dX11_latest_33 : decode cX11_latest 33 = .ok (.aload_n 0, 1) := by decide +kernel
theorem dX11_latest_34 : decode cX11_latest 34 = .ok (.getfield 60, 3) := by decide +kernel
theorem dX11_latest_37 : decode cX11_latest 37 = .ok (.getfield 280, 3) := by decide +kernel
theorem dX11_latest_40 : decode cX11_latest 40 = .ok (.ifCond .ne 8, 3) := by decide +kernel
theorem dX11_latest_43 : decode cX11_latest 43 = .ok (.bipush (-2), 2) := by decide +kernel
theorem dX11_latest_45 : decode cX11_latest 45 = .ok (.goto 12, 3) := by decide +kernel
theorem dX11_latest_48 : decode cX11_latest 48 = .ok (.aload_n 0, 1) := by decide +kernel
theorem dX11_latest_49 : decode cX11_latest 49 = .ok (.getfield 60, 3) := by decide +kernel
theorem dX11_latest_52 : decode cX11_latest 52 = .ok (.getfield 296, 3) := by decide +kernel
theorem dX11_latest_55 : decode cX11_latest 55 = .ok (.iload_n 1, 1) := by decide +kernel
theorem dX11_latest_56 : decode cX11_latest 56 = .ok (.iaload, 1) := by decide +kernel
theorem dX11_latest_57 : decode cX11_latest 57 = .ok (.invokevirtual 113, 3) := by decide +kernel
theorem dX11_latest_60 : decode cX11_latest 60 = .ok (.ireturn, 1) := by decide +kernel
theorem dX11_light_0 : decode cX11_light 0 = .ok (.aload_n 0, 1) := by decide +kernel
theorem dX11_light_1 : decode cX11_light 1 = .ok (.iload_n 1, 1) := by decide +kernel
theorem dX11_light_2 : decode cX11_light 2 = .ok (.iload_n 2, 1) := by decide +kernel
theorem dX11_light_3 : decode cX11_light 3 = .ok (.invokevirtual 180, 3) := by decide +kernel
theorem dX11_light_6 : decode cX11_light 6 = .ok (.ifCond .ne 9, 3) := by decide +kernel
theorem dX11_light_9 : decode cX11_light 9 = .ok (.aload_n 0, 1) := by decide +kernel
theorem dX11_light_10 : decode cX11_light 10 = .ok (.iconst 1, 1) := by decide +kernel
theorem dX11_light_11 : decode cX11_light 11 = .ok (.invokevirtual 79, 3) := by decide +kernel
theorem dX11_light_14 : decode cX11_light 14 = .ok (.ireturn, 1) := by decide +kernel
theorem dX11_light_15 : decode cX11_light 15 = .ok (.aload_n 0, 1) := by decide +kernel
theorem dX11_light_16 : decode cX11_light 16 = .ok (.iconst 0, 1) := by decide +kernel
theorem dX11_light_17 : decode cX11_light 17 = .ok (.bipush 9, 2) := by decide +kernel
theorem dX11_light_19 : decode cX11_light 19 = .ok (.iconst 3, 1) := by decide +kernel
theorem dX11_light_20 : decode cX11_light 20 = .ok (.aload_n 0, 1) := by decide +kernel
theorem dX11_light_21 : decode cX11_light 21 = .ok (.getfield 26, 3) := by decide +kernel
theorem dX11_light_24 : decode cX11_light 24 = .ok (.getfield 154, 3) := by decide +kernel
theorem dX11_light_27 : decode cX11_light 27 = .ok (.iload_n 1, 1) := by decide +kernel
theorem dX11_light_28 : decode cX11_light 28 = .ok (.iaload, 1) := by decide +kernel
theorem dX11_light_29 : decode cX11_light 29 = .ok (.iload_n 2, 1) := by decide +kernel
theorem dX11_light_30 : decode cX11_light 30 = .ok (.isub, 1) := by decide +kernel
theorem dX11_light_31 : decode cX11_light 31 = .ok (.imul, 1) := by decide +kernel
theorem dX11_light_32 : decode cX11_light 32 = .ok (.isub, 1) := by decide +kernel
theorem dX11_light_33 : decode cX11_light 33 = .ok (.invokestatic 187, 3) := by decide +kernel
theorem dX11_light_36 : decode cX11_light 36 = .ok (.invokevirtual 113, 3) := by decide +kernel
theorem dX11_light_39 : decode cX11_light 39 = .ok (.ireturn, 1) := by decide +kernel
theorem dX11_lock_0 : decode cX11_lock 0 = .ok (.aload_n 0, 1) := by decide +kernel
theorem dX11_lock_1 : decode cX11_lock 1 = .ok (.iload_n 1, 1) := by decide +kernel
theorem dX11_lock_2 : decode cX11_lock 2 = .ok (.iload_n 2, 1) := by decide +kernel
theorem dX11_lock_3 : decode cX11_lock 3 = .ok (.invokevirtual 173, 3) := by decide +kernel
theorem dX11_lock_6 : decode cX11_lock 6 = .ok (.ifCond .ne 9, 3) := by decide +kernel
theorem dX11_lock_9 : decode cX11_lock 9 = .ok (.aload_n 0, 1) := by decide +kernel
theorem dX11_lock_10 : decode cX11_lock 10 = .ok (.iconst 1, 1) := by decide +kernel
theorem dX11_lock_11 : decode cX11_lock 11 = .ok (.invokevirtual 309, 3) := by decide +kernel
theorem dX11_lock_14 : decode cX11_lock 14 = .ok (.ireturn, 1) := by decide +kernel
theorem dX11_lock_15 : decode cX11_lock 15 = .ok (.iload_n 3, 1) := by decide +kernel
theorem dX11_lock_16 : decode cX11_lock 16 = .ok (.ifCond .lt 9, 3) := by decide +kernel
theorem dX11_lock_19 : decode cX11_lock 19 = .ok (.iload_n 3, 1) := by decide +kernel
theorem dX11_lock_20 : decode cX11_lock 20 = .ok (.bipush 99, 2) := by decide +kernel
theorem dX11_lock_22 : decode cX11_lock 22 = .ok (.if_icmp .le 9, 3) := by decide +kernel
theorem dX11_lock_25 : decode cX11_lock 25 = .ok (.aload_n 0, 1) := by decide +kernel
theorem dX11_lock_26 : decode cX11_lock 26 = .ok (.iconst 2, 1) := by decide +kernel
theorem dX11_lock_27 : decode cX11_lock 27 = .ok (.invokevirtual 309, 3) := by decide +kernel
theorem dX11_lock_30 : decode cX11_lock 30 = .ok (.ireturn, 1) := by decide +kernel
theorem dX11_lock_31 : decode cX11_lock 31 = .ok (.aload_n 0, 1) := by decide +kernel
theorem dX11_lock_32 : decode cX11_lock 32 = .ok (.getfield 26, 3) := by decide +kernel
theorem dX11_lock_35 : decode cX11_lock 35 = .ok (.iload_n 1, 1) := by decide +kernel
theorem dX11_lock_36 : decode cX11_lock 36 = .ok (.iload_n 2, 1) := by decide +kernel
theorem dX11_lock_37 : decode cX11_lock 37 = .ok (.iconst 3, 1) := by decide +kernel
theorem dX11_lock_38 : decode cX11_lock 38 = .ok (.invokevirtual 176, 3) := by decide +kernel
theorem dX11_lock_41 : decode cX11_lock 41 = .ok (.iload_n 3, 1) := by decide +kernel
theorem dX11_lock_42 : decode cX11_lock 42 = .ok (.if_icmp .ne 9, 3) := by decide +kernel
theorem dX11_lock_45 : decode cX11_lock 45 = .ok (.aload_n 0, 1) := by decide +kernel
theorem dX11_lock_46 : decode cX11_lock 46 = .ok (.iconst 5, 1) := by decide +kernel
theorem dX11_lock_47 : decode cX11_lock 47 = .ok (.invokevirtual 309, 3) := by decide +kernel
theorem dX11_lock_50 : decode cX11_lock 50 = .ok (.ireturn, 1) := by decide +kernel
theorem dX11_lock_51 : decode cX11_lock 51 = .ok (.aload_n 0, 1) := by decide +kernel
theorem dX11_lock_52 : decode cX11_lock 52 = .ok (.getfield 67, 3) := by decide +kernel
theorem dX11_lock_55 : decode cX11_lock 55 = .ok (.aload_n 0, 1) := by decide +kernel
theorem dX11_lock_56 : decode cX11_lock 56 = .ok (.getfield 26, 3) := by decide +kernel
theorem dX11_lock_59 : decode cX11_lock 59 = .ok (.invokevirtual 302, 3) := by decide +kernel
theorem dX11_lock_62 : decode cX11_lock 62 = .ok (.aload_n 0, 1) := by decide +kernel
theorem dX11_lock_63 : decode cX11_lock 63 = .ok (.getfield 26, 3) := by decide +kernel
theorem dX11_lock_66 : decode cX11_lock 66 = .ok (.iload_n 1, 1) := by decide +kernel
theorem dX11_lock_67 : decode cX11_lock 67 = .ok (.iload_n 2, 1) := by decide +kernel
theorem dX11_lock_68 : decode cX11_lock 68 = .ok (.iconst 3, 1) := by decide +kernel
theorem dX11_lock_69 : decode cX11_lock 69 = .ok (.iload_n 3, 1) := by decide +kernel
theorem dX11_lock_70 : decode cX11_lock 70 = .ok (.invokevirtual 315, 3) := by decide +kernel
theorem dX11_lock_73 : decode cX11_lock 73 = .ok (.aload_n 0, 1) := by decide +kernel
theorem dX11_lock_74 : decode cX11_lock 74 = .ok (.invokevirtual 319, 3) := by decide +kernel
theorem dX11_lock_77 : decode cX11_lock 77 = .ok (.ireturn, 1) := by decide +kernel
theorem dX11_mark_0 : decode cX11_mark 0 = .ok (.aload_n 0, 1) := by decide +kernel
theorem dX11_mark_1 : decode cX11_mark 1 = .ok (.getfield 106, 3) := by decide +kernel
theorem dX11_mark_4 : decode cX11_mark 4 = .ok (.ifCond .ne 9, 3) := by decide +kernel
theorem dX11_mark_7 : decode cX11_mark 7 = .ok (.aload_n 0, 1) := by decide +kernel
theorem dX11_mark_8 : decode cX11_mark 8 = .ok (.iconst 1, 1) := by decide +kernel
theorem dX11_mark_9 : decode cX11_mark 9 = .ok (.invokevirtual 79, 3) := by decide +kernel
theorem dX11_mark_12 : decode cX11_mark 12 = .ok (.ireturn, 1) := by decide +kernel
theorem dX11_mark_13 : decode cX11_mark 13 = .ok (.aload_n 0, 1) := by decide +kernel
theorem dX11_mark_14 : decode cX11_mark 14 = .ok (.getfield 67, 3) := by decide +kernel
theorem dX11_mark_17 : decode cX11_mark 17 = .ok (.aload_n 0, 1) := by decide +kernel
theorem dX11_mark_18 : decode cX11_mark 18 = .ok (.getfield 26, 3) := by decide +kernel
theorem dX11_mark_21 : decode cX11_mark 21 = .ok (.invokevirtual 330, 3) := by decide +kernel
theorem dX11_mark_24 : decode cX11_mark 24 = .ok (.istore_n 1, 1) := by decide +kernel
theorem dX11_mark_25 : decode cX11_mark 25 = .ok (.iload_n 1, 1) := by decide +kernel
theorem dX11_mark_26 : decode cX11_mark 26 = .ok (.iconst (-1), 1) := by decide +kernel
theorem dX11_mark_27 : decode cX11_mark 27 = .ok (.if_icmp .ne 11, 3) := by decide +kernel
theorem dX11_mark_30 : decode cX11_mark 30 = .ok (.aload_n 0, 1) := by decide +kernel
theorem dX11_mark_31 : decode cX11_mark 31 = .ok (.iconst 3, 1) := by decide +kernel
theorem dX11_mark_32 : decode cX11_mark 32 = .ok (.invokevirtual 79, 3) := by decide +kernel
theorem dX11_mark_35 : decode cX11_mark 35 = .ok (.goto 8, 3) := by decide +kernel
theorem dX11_mark_38 : decode cX11_mark 38 = .ok (.aload_n 0, 1) := by decide +kernel
theorem dX11_mark_39 : decode cX11_mark 39 = .ok (.iload_n 1, 1) := by decide +kernel
theorem dX11_mark_40 : decode cX11_mark 40 = .ok (.invokevirtual 113, 3) := by decide +kernel
theorem dX11_mark_43 : decode cX11_mark 43 = .ok (.ireturn, 1) := by decide +kernel
theorem dX11_meet_0 : decode cX11_meet 0 = .ok (.aload_n 0, 1) := by decide +kernel
theorem dX11_meet_1 : decode cX11_meet 1 = .ok (.iload_n 1, 1) := by decide +kernel
theorem dX11_meet_2 : decode cX11_meet 2 = .ok (.invokevirtual 144, 3) := by decide +kernel
theorem dX11_meet_5 : decode cX11_meet 5 = .ok (.ifCond .eq 16, 3) := by decide +kernel
theorem dX11_meet_8 : decode cX11_meet 8 = .ok (.aload_n 0, 1) := by decide +kernel
theorem dX11_meet_9 : decode cX11_meet 9 = .ok (.iload_n 2, 1) := by decide +kernel
theorem dX11_meet_10 : decode cX11_meet 10 = .ok (.invokevirtual 144, 3) := by decide +kernel
theorem dX11_meet_13 : decode cX11_meet 13 = .ok (.ifCond .eq 8, 3) := by decide +kernel
theorem dX11_meet_16 : decode cX11_meet 16 = .ok (.iload_n 1, 1) := by decide +kernel
theorem dX11_meet_17 : decode cX11_meet 17 = .ok (.iload_n 2, 1) := by decide +kernel
theorem dX11_meet_18 : decode cX11_meet 18 = .ok (.if_icmp .ne 9, 3) := by decide +kernel
theorem dX11_meet_21 : decode cX11_meet 21 = .ok (.aload_n 0, 1) := by decide +kernel
theorem dX11_meet_22 : decode cX11_meet 22 = .ok (.iconst 1, 1) := by decide +kernel
theorem dX11_meet_23 : decode cX11_meet 23 = .ok (.invokevirtual 79, 3) := by decide +kernel
theorem dX11_meet_26 : decode cX11_meet 26 = .ok (.ireturn, 1) := by decide +kernel
theorem dX11_meet_27 : decode cX11_meet 27 = .ok (.iload_n 3, 1) := by decide +kernel
theorem dX11_meet_28 : decode cX11_meet 28 = .ok (.ifCond .lt 9, 3) := by decide +kernel
theorem dX11_meet_31 : decode cX11_meet 31 = .ok (.iload_n 3, 1) := by decide +kernel
theorem dX11_meet_32 : decode cX11_meet 32 = .ok (.bipush 60, 2) := by decide +kernel
theorem dX11_meet_34 : decode cX11_meet 34 = .ok (.if_icmp .le 9, 3) := by decide +kernel
theorem dX11_meet_37 : decode cX11_meet 37 = .ok (.aload_n 0, 1) := by decide +kernel
theorem dX11_meet_38 : decode cX11_meet 38 = .ok (.iconst 2, 1) := by decide +kernel
theorem dX11_meet_39 : decode cX11_meet 39 = .ok (.invokevirtual 79, 3) := by decide +kernel
theorem dX11_meet_42 : decode cX11_meet 42 = .ok (.ireturn, 1) := by decide +kernel
theorem dX11_meet_43 : decode cX11_meet 43 = .ok (.aload_n 0, 1) := by decide +kernel
theorem dX11_meet_44 : decode cX11_meet 44 = .ok (.getfield 33, 3) := by decide +kernel
theorem dX11_meet_47 : decode cX11_meet 47 = .ok (.aload_n 0, 1) := by decide +kernel
theorem dX11_meet_48 : decode cX11_meet 48 = .ok (.getfield 26, 3) := by decide +kernel
theorem dX11_meet_51 : decode cX11_meet 51 = .ok (.invokevirtual 99, 3) := by decide +kernel
theorem dX11_meet_54 : decode cX11_meet 54 = .ok (.iconst 0, 1) := by decide +kernel
theorem dX11_meet_55 : decode cX11_meet 55 = .ok (.istore 4, 2) := by decide +kernel
theorem dX11_meet_57 : decode cX11_meet 57 = .ok (.iload 4, 2) := by decide +kernel
theorem dX11_meet_59 : decode cX11_meet 59 = .ok (.iload_n 3, 1) := by decide +kernel
theorem dX11_meet_60 : decode cX11_meet 60 = .ok (.if_icmp .gt 46, 3) := by decide +kernel
theorem dX11_meet_63 : decode cX11_meet 63 = .ok (.aload_n 0, 1) := by decide +kernel
theorem dX11_meet_64 : decode cX11_meet 64 = .ok (.getfield 16, 3) := by decide +kernel
theorem dX11_meet_67 : decode cX11_meet 67 = .ok (.aload_n 0, 1) := by decide +kernel
theorem dX11_meet_68 : decode cX11_meet 68 = .ok (.getfield 33, 3) := by decide +kernel
theorem dX11_meet_71 : decode cX11_meet 71 = .ok (.iload_n 1, 1) := by decide +kernel
theorem dX11_meet_72 : decode cX11_meet 72 = .ok (.iload_n 2, 1) := by decide +kernel
theorem dX11_meet_73 : decode cX11_meet 73 = .ok (.invokestatic 246, 3) := by decide +kernel
theorem dX11_meet_76 : decode cX11_meet 76 = .ok (.ifCond .eq 10, 3) := by decide +kernel
theorem dX11_meet_79 : decode cX11_meet 79 = .ok (.aload_n 0, 1) := by decide +kernel
theorem dX11_meet_80 : decode cX11_meet 80 = .ok (.iload 4, 2) := by decide +kernel
theorem dX11_meet_82 : decode cX11_meet 82 = .ok (.invokevirtual 113, 3) := by decide +kernel
theorem dX11_meet_85 : decode cX11_meet 85 = .ok (.ireturn, 1) := by decide +kernel
theorem dX11_meet_86 : decode cX11_meet 86 = .ok (.aload_n 0, 1) := by decide +kernel
theorem dX11_meet_87 : decode cX11_meet 87 = .ok (.getfield 16, 3) := by decide +kernel
theorem dX11_meet_90 : decode cX11_meet 90 = .ok (.aload_n 0, 1) := by decide +kernel
theorem dX11_meet_91 : decode cX11_meet 91 = .ok (.getfield 33, 3) := by decide +kernel
theorem dX11_meet_94 : decode cX11_meet 94 = .ok (.getstatic 235, 3) := by decide +kernel
theorem dX11_meet_97 : decode cX11_meet 97 = .ok (.invokestatic 238, 3) := by decide +kernel
theorem dX11_meet_100 : decode cX11_meet 100 = .ok (.iinc 4 1, 3) := by decide +kernel
theorem dX11_meet_103 : decode cX11_meet 103 = .ok (.goto (-46), 3) := by decide +kernel
theorem dX11_meet_106 : decode cX11_meet 106 = .ok (.aload_n 0, 1) := by decide +kernel
theorem dX11_meet_107 : decode cX11_meet 107 = .ok (.bipush (-2), 2) := by decide +kernel
theorem dX11_meet_109 : decode cX11_meet 109 = .ok (.invokevirtual 113, 3) := by decide +kernel
theorem dX11_meet_112 : decode cX11_meet 112 = .ok (.ireturn, 1) := by decide +kernel
theorem dX11_move_0 : decode cX11_move 0 = .ok (.aload_n 0, 1) := by decide +kernel
theorem dX11_move_1 : decode cX11_move 1 = .ok (.iload_n 1, 1) := by decide +kernel
theorem dX11_move_2 : decode cX11_move 2 = .ok (.invokevirtual 198, 3) := by decide +kernel
theorem dX11_move_5 : decode cX11_move 5 = .ok (.ifCond .eq 20, 3) := by decide +kernel
theorem dX11_move_8 : decode cX11_move 8 = .ok (.aload_n 0, 1) := by decide +kernel
theorem dX11_move_9 : decode cX11_move 9 = .ok (.aload_n 0, 1) := by decide +kernel
theorem dX11_move_10 : decode cX11_move 10 = .ok (.getfield 16, 3) := by decide +kernel
theorem dX11_move_13 : decode cX11_move 13 = .ok (.getfield 201, 3) := by decide +kernel
theorem dX11_move_16 : decode cX11_move 16 = .ok (.iload_n 1, 1) := by decide +kernel
theorem dX11_move_17 : decode cX11_move 17 = .ok (.iaload, 1) := by decide +kernel
theorem dX11_move_18 : decode cX11_move 18 = .ok (.iload_n 2, 1) := by decide +kernel
theorem dX11_move_19 : decode cX11_move 19 = .ok (.invokevirtual 180, 3) := by decide +kernel
theorem dX11_move_22 : decode cX11_move 22 = .ok (.ifCond .ne 9, 3) := by decide +kernel
theorem dX11_move_25 : decode cX11_move 25 = .ok (.aload_n 0, 1) := by decide +kernel
theorem dX11_move_26 : decode cX11_move 26 = .ok (.iconst 1, 1) := by decide +kernel
theorem dX11_move_27 : decode cX11_move 27 = .ok (.invokevirtual 309, 3) := by decide +kernel
theorem dX11_move_30 : decode cX11_move 30 = .ok (.ireturn, 1) := by decide +kernel
theorem dX11_move_31 : decode cX11_move 31 = .ok (.aload_n 0, 1) := by decide +kernel
theorem dX11_move_32 : decode cX11_move 32 = .ok (.getfield 26, 3) := by decide +kernel
theorem dX11_move_35 : decode cX11_move 35 = .ok (.getfield 204, 3) := by decide +kernel
theorem dX11_move_38 : decode cX11_move 38 = .ok (.iload_n 1, 1) := by decide +kernel
theorem dX11_move_39 : decode cX11_move 39 = .ok (.iaload, 1) := by decide +kernel
theorem dX11_move_40 : decode cX11_move 40 = .ok (.iload_n 2, 1) := by decide +kernel
theorem dX11_move_41 : decode cX11_move 41 = .ok (.if_icmp .eq 27, 3) := by decide +kernel
theorem dX11_move_44 : decode cX11_move 44 = .ok (.iload_n 2, 1) := by decide +kernel
theorem dX11_move_45 : decode cX11_move 45 = .ok (.ifCond .le 29, 3) := by decide +kernel
theorem dX11_move_48 : decode cX11_move 48 = .ok (.aload_n 0, 1) := by decide +kernel
theorem dX11_move_49 : decode cX11_move 49 = .ok (.getfield 26, 3) := by decide +kernel
theorem dX11_move_52 : decode cX11_move 52 = .ok (.aload_n 0, 1) := by decide +kernel
theorem dX11_move_53 : decode cX11_move 53 = .ok (.getfield 16, 3) := by decide +kernel
theorem dX11_move_56 : decode cX11_move 56 = .ok (.getfield 201, 3) := by decide +kernel
theorem dX11_move_59 : decode cX11_move 59 = .ok (.iload_n 1, 1) := by decide +kernel
theorem dX11_move_60 : decode cX11_move 60 = .ok (.iaload, 1) := by decide +kernel
theorem dX11_move_61 : decode cX11_move 61 = .ok (.iload_n 2, 1) := by decide +kernel
theorem dX11_move_62 : decode cX11_move 62 = .ok (.invokevirtual 312, 3) := by decide +kernel
theorem dX11_move_65 : decode cX11_move 65 = .ok (.ifCond .ne 9, 3) := by decide +kernel
theorem dX11_move_68 : decode cX11_move 68 = .ok (.aload_n 0, 1) := by decide +kernel
theorem dX11_move_69 : decode cX11_move 69 = .ok (.iconst 5, 1) := by decide +kernel
theorem dX11_move_70 : decode cX11_move 70 = .ok (.invokevirtual 309, 3) := by decide +kernel
theorem dX11_move_73 : decode cX11_move 73 = .ok (.ireturn, 1) := by decide +kernel
theorem dX11_move_74 : decode cX11_move 74 = .ok (.aload_n 0, 1) := by decide +kernel
theorem dX11_move_75 : decode cX11_move 75 = .ok (.getfield 67, 3) := by decide +kernel
theorem dX11_move_78 : decode cX11_move 78 = .ok (.aload_n 0, 1) := by decide +kernel
theorem dX11_move_79 : decode cX11_move 79 = .ok (.getfield 26, 3) := by decide +kernel
theorem dX11_move_82 : decode cX11_move 82 = .ok (.invokevirtual 302, 3) := by decide +kernel
theorem dX11_move_85 : decode cX11_move 85 = .ok (.aload_n 0, 1) := by decide +kernel
theorem dX11_move_86 : decode cX11_move 86 = .ok (.getfield 26, 3) := by decide +kernel
theorem dX11_move_89 : decode cX11_move 89 = .ok (.getfield 204, 3) := by decide +kernel
theorem dX11_move_92 : decode cX11_move 92 = .ok (.iload_n 1, 1) := by decide +kernel
theorem dX11_move_93 : decode cX11_move 93 = .ok (.iload_n 2, 1) := by decide +kernel
theorem dX11_move_94 : decode cX11_move 94 = .ok (.iastore, 1) := by decide +kernel
theorem dX11_move_95 : decode cX11_move 95 = .ok (.aload_n 0, 1) := by decide +kernel
theorem dX11_move_96 : decode cX11_move 96 = .ok (.invokevirtual 319, 3) := by decide +kernel
theorem dX11_move_99 : decode cX11_move 99 = .ok (.ireturn, 1) := by decide +kernel
theorem dX11_no_0 : decode cX11_no 0 = .ok (.aload_n 0, 1) := by decide +kernel
theorem dX11_no_1 : decode cX11_no 1 = .ok (.iload_n 1, 1) := by decide +kernel
theorem dX11_no_2 : decode cX11_no 2 = .ok (.putfield 116, 3) := by decide +kernel
theorem dX11_no_5 : decode cX11_no 5 = .ok (.iconst 0, 1) := by decide +kernel
theorem dX11_no_6 : decode cX11_no 6 = .ok (.ireturn, 1) := by decide +kernel
theorem dX11_order_0 : decode cX11_order 0 = .ok (.aload_n 0, 1) := by decide +kernel
theorem dX11_order_1 : decode cX11_order 1 = .ok (.iload_n 2, 1) := by decide +kernel
theorem dX11_order_2 : decode cX11_order 2 = .ok (.invokevirtual 283, 3) := by decide +kernel
theorem dX11_order_5 : decode cX11_order 5 = .ok (.ifCond .eq 17, 3) := by decide +kernel
theorem dX11_order_8 : decode cX11_order 8 = .ok (.iload_n 1, 1) := by decide +kernel
theorem dX11_order_9 : decode cX11_order 9 = .ok (.ifCond .lt 13, 3) := by decide +kernel
theorem dX11_order_12 : decode cX11_order 12 = .ok (.iload_n 1, 1) := by decide +kernel
theorem dX11_order_13 : decode cX11_order 13 = .ok (.getstatic 286, 3) := by decide +kernel
theorem dX11_order_16 : decode cX11_order 16 = .ok (.bipush 6, 2) := by decide +kernel
theorem dX11_order_18 : decode cX11_order 18 = .ok (.iaload, 1) := by decide +kernel
theorem dX11_order_19 : decode cX11_order 19 = .ok (.if_icmp .lt 9, 3) := by decide +kernel
theorem dX11_order_22 : decode cX11_order 22 = .ok (.aload_n 0, 1) := by decide +kernel
theorem dX11_order_23 : decode cX11_order 23 = .ok (.iconst 1, 1) := by decide +kernel
theorem dX11_order_24 : decode cX11_order 24 = .ok (.invokevirtual 79, 3) := by decide +kernel
theorem dX11_order_27 : decode cX11_order 27 = .ok (.ireturn, 1) := by decide +kernel
theorem dX11_order_28 : decode cX11_order 28 = .ok (.aload_n 0, 1) := by decide +kernel
theorem dX11_order_29 : decode cX11_order 29 = .ok (.getfield 60, 3) := by decide +kernel
theorem dX11_order_32 : decode cX11_order 32 = .ok (.aload_n 0, 1) := by decide +kernel
theorem dX11_order_33 : decode cX11_order 33 = .ok (.getfield 16, 3) := by decide +kernel
theorem dX11_order_36 : decode cX11_order 36 = .ok (.aload_n 0, 1) := by decide +kernel
theorem dX11_order_37 : decode cX11_order 37 = .ok (.getfield 26, 3) := by decide +kernel
theorem dX11_order_40 : decode cX11_order 40 = .ok (.getfield 249, 3) := by decide +kernel
theorem dX11_order_43 : decode cX11_order 43 = .ok (.iload_n 1, 1) := by decide +kernel
theorem dX11_order_44 : decode cX11_order 44 = .ok (.iload_n 2, 1) := by decide +kernel
theorem dX11_order_45 : decode cX11_order 45 = .ok (.invokevirtual 289, 3) := by decide +kernel
theorem dX11_order_48 : decode cX11_order 48 = .ok (.istore_n 3, 1) := by decide +kernel
theorem dX11_order_49 : decode cX11_order 49 = .ok (.iload_n 3, 1) := by decide +kernel
theorem dX11_order_50 : decode cX11_order 50 = .ok (.bipush (-2), 2) := by decide +kernel
theorem dX11_order_52 : decode cX11_order 52 = .ok (.if_icmp .ne 11, 3) := by decide +kernel
theorem dX11_order_55 : decode cX11_order 55 = .ok (.aload_n 0, 1) := by decide +kernel
theorem dX11_order_56 : decode cX11_order 56 = .ok (.iconst 1, 1) := by decide +kernel
theorem dX11_order_57 : decode cX11_order 57 = .ok (.invokevirtual 79, 3) := by decide +kernel
theorem dX11_order_60 : decode cX11_order 60 = .ok (.goto 8, 3) := by decide +kernel
theorem dX11_order_63 : decode cX11_order 63 = .ok (.aload_n 0, 1) := by decide +kernel
theorem dX11_order_64 : decode cX11_order 64 = .ok (.iload_n 3, 1) := by decide +kernel
theorem dX11_order_65 : decode cX11_order 65 = .ok (.invokevirtual 113, 3) := by decide +kernel
theorem dX11_order_68 : decode cX11_order 68 = .ok (.ireturn, 1) := by decide +kernel
theorem dX11_orders_0 : decode cX11_orders 0 = .ok (.aload_n 0, 1) := by decide +kernel
theorem dX11_orders_1 : decode cX11_orders 1 = .ok (.getfield 106, 3) := by decide +kernel
theorem dX11_orders_4 : decode cX11_orders 4 = .ok (.ifCond .ne 9, 3) := by decide +kernel
theorem dX11_orders_7 : decode cX11_orders 7 = .ok (.aload_n 0, 1) := by decide +kernel
theorem dX11_orders_8 : decode cX11_orders 8 = .ok (.iconst 1, 1) := by decide +kernel
theorem dX11_orders_9 : decode cX11_orders 9 = .ok (.invokevirtual 79, 3) := by decide +kernel
theorem dX11_orders_12 : decode cX11_orders 12 = .ok (.ireturn, 1) := by decide +kernel
theorem dX11_orders_13 : decode cX11_orders 13 = .ok (.aload_n 0, 1) := by decide +kernel
theorem dX11_orders_14 : decode cX11_orders 14 = .ok (.getfield 60, 3) := by decide +kernel
theorem dX11_orders_17 : decode cX11_orders 17 = .ok (.aload_n 0, 1) := by decide +kernel
theorem dX11_orders_18 : decode cX11_orders 18 = .ok (.getfield 16, 3) := by decide +kernel
theorem dX11_orders_21 : decode cX11_orders 21 = .ok (.aload_n 0, 1) := by decide +kernel
theorem dX11_orders_22 : decode cX11_orders 22 = .ok (.getfield 26, 3) := by decide +kernel
theorem dX11_orders_25 : decode cX11_orders 25 = .ok (.getfield 249, 3) := by decide +kernel
theorem dX11_orders_28 : decode cX11_orders 28 = .ok (.invokevirtual 276, 3) := by decide +kernel
theorem dX11_orders_31 : decode cX11_orders 31 = .ok (.aload_n 0, 1) := by decide +kernel
theorem dX11_orders_32 : decode cX11_orders 32 = .ok (.aload_n 0, 1) := by decide +kernel
theorem dX11_orders_33 : decode cX11_orders 33 = .ok (.getfield 60, 3) := by decide +kernel
theorem dX11_orders_36 : decode cX11_orders 36 = .ok (.getfield 280, 3) := by decide +kernel
theorem dX11_orders_39 : decode cX11_orders 39 = .ok (.invokevirtual 113, 3) := by decide +kernel
theorem dX11_orders_42 : decode cX11_orders 42 = .ok (.ireturn, 1) := by decide +kernel
theorem dX11_putNumber_0 : decode cX11_putNumber 0 = .ok (.bipush 24, 2) := by decide +kernel
theorem dX11_putNumber_2 : decode cX11_putNumber 2 = .ok (.istore_n 2, 1) := by decide +kernel
theorem dX11_putNumber_3 : decode cX11_putNumber 3 = .ok (.iload_n 2, 1) := by decide +kernel
theorem dX11_putNumber_4 : decode cX11_putNumber 4 = .ok (.ifCond .lt 45, 3) := by decide +kernel
theorem dX11_putNumber_7 : decode cX11_putNumber 7 = .ok (.aload_n 0, 1) := by decide +kernel
theorem dX11_putNumber_8 : decode cX11_putNumber 8 = .ok (.getfield 71, 3) := by decide +kernel
theorem dX11_putNumber_11 : decode cX11_putNumber 11 = .ok (.sipush 1000, 3) := by decide +kernel
theorem dX11_putNumber_14 : decode cX11_putNumber 14 = .ok (.if_icmp .ge 29, 3) := by decide +kernel
theorem dX11_putNumber_17 : decode cX11_putNumber 17 = .ok (.aload_n 0, 1) := by decide +kernel
theorem dX11_putNumber_18 : decode cX11_putNumber 18 = .ok (.getfield 9, 3) := by decide +kernel
theorem dX11_putNumber_21 : decode cX11_putNumber 21 = .ok (.aload_n 0, 1) := by decide +kernel
theorem dX11_putNumber_22 : decode cX11_putNumber 22 = .ok (.getfield 71, 3) := by decide +kernel
theorem dX11_putNumber_25 : decode cX11_putNumber 25 = .ok (.iload_n 1, 1) := by decide +kernel
theorem dX11_putNumber_26 : decode cX11_putNumber 26 = .ok (.iload_n 2, 1) := by decide +kernel
theorem dX11_putNumber_27 : decode cX11_putNumber 27 = .ok (.ishr, 1) := by decide +kernel
theorem dX11_putNumber_28 : decode cX11_putNumber 28 = .ok (.sipush 255, 3) := by decide +kernel
theorem dX11_putNumber_31 : decode cX11_putNumber 31 = .ok (.iand, 1) := by decide +kernel
theorem dX11_putNumber_32 : decode cX11_putNumber 32 = .ok (.iastore, 1) := by decide +kernel
theorem dX11_putNumber_33 : decode cX11_putNumber 33 = .ok (.aload_n 0, 1) := by decide +kernel
theorem dX11_putNumber_34 : decode cX11_putNumber 34 = .ok (.dup, 1) := by decide +kernel
theorem dX11_putNumber_35 : decode cX11_putNumber 35 = .ok (.getfield 71, 3) := by decide +kernel
theorem dX11_putNumber_38 : decode cX11_putNumber 38 = .ok (.iconst 1, 1) := by decide +kernel
theorem dX11_putNumber_39 : decode cX11_putNumber 39 = .ok (.iadd, 1) := by decide +kernel
theorem dX11_putNumber_40 : decode cX11_putNumber 40 = .ok (.putfield 71, 3) := by decide +kernel
theorem dX11_putNumber_43 : decode cX11_putNumber 43 = .ok (.iinc 2 (-8), 3) := by decide +kernel
theorem dX11_putNumber_46 : decode cX11_putNumber 46 = .ok (.goto (-43), 3) := by decide +kernel
theorem dX11_putNumber_49 : decode cX11_putNumber 49 = .ok (.return_, 1) := by decide +kernel
theorem dX11_refuse_0 : decode cX11_refuse 0 = .ok (.aload_n 0, 1) := by decide +kernel
theorem dX11_refuse_1 : decode cX11_refuse 1 = .ok (.iload_n 1, 1) := by decide +kernel
theorem dX11_refuse_2 : decode cX11_refuse 2 = .ok (.putfield 116, 3) := by decide +kernel
theorem dX11_refuse_5 : decode cX11_refuse 5 = .ok (.iconst (-1), 1) := by decide +kernel
theorem dX11_refuse_6 : decode cX11_refuse 6 = .ok (.ireturn, 1) := by decide +kernel
theorem dX11_room_0 : decode cX11_room 0 = .ok (.aload_n 0, 1) := by decide +kernel
theorem dX11_room_1 : decode cX11_room 1 = .ok (.iload_n 1, 1) := by decide +kernel
theorem dX11_room_2 : decode cX11_room 2 = .ok (.invokevirtual 144, 3) := by decide +kernel
theorem dX11_room_5 : decode cX11_room 5 = .ok (.ifCond .ne 9, 3) := by decide +kernel
theorem dX11_room_8 : decode cX11_room 8 = .ok (.aload_n 0, 1) := by decide +kernel
theorem dX11_room_9 : decode cX11_room 9 = .ok (.iconst 1, 1) := by decide +kernel
theorem dX11_room_10 : decode cX11_room 10 = .ok (.invokevirtual 79, 3) := by decide +kernel
theorem dX11_room_13 : decode cX11_room 13 = .ok (.ireturn, 1) := by decide +kernel
theorem dX11_room_14 : decode cX11_room 14 = .ok (.aload_n 0, 1) := by decide +kernel
theorem dX11_room_15 : decode cX11_room 15 = .ok (.getfield 33, 3) := by decide +kernel
theorem dX11_room_18 : decode cX11_room 18 = .ok (.aload_n 0, 1) := by decide +kernel
theorem dX11_room_19 : decode cX11_room 19 = .ok (.getfield 26, 3) := by decide +kernel
theorem dX11_room_22 : decode cX11_room 22 = .ok (.invokevirtual 99, 3) := by decide +kernel
theorem dX11_room_25 : decode cX11_room 25 = .ok (.iconst 0, 1) := by decide +kernel
theorem dX11_room_26 : decode cX11_room 26 = .ok (.istore_n 2, 1) := by decide +kernel
theorem dX11_room_27 : decode cX11_room 27 = .ok (.iconst 0, 1) := by decide +kernel
theorem dX11_room_28 : decode cX11_room 28 = .ok (.istore_n 3, 1) := by decide +kernel
theorem dX11_room_29 : decode cX11_room 29 = .ok (.iload_n 3, 1) := by decide +kernel
theorem dX11_room_30 : decode cX11_room 30 = .ok (.bipush 6, 2) := by decide +kernel
theorem dX11_room_32 : decode cX11_room 32 = .ok (.if_icmp .ge 86, 3) := by decide +kernel
theorem dX11_room_35 : decode cX11_room 35 = .ok (.aload_n 0, 1) := by decide +kernel
theorem dX11_room_36 : decode cX11_room 36 = .ok (.getfield 16, 3) := by decide +kernel
theorem dX11_room_39 : decode cX11_room 39 = .ok (.aload_n 0, 1) := by decide +kernel
theorem dX11_room_40 : decode cX11_room 40 = .ok (.getfield 33, 3) := by decide +kernel
theorem dX11_room_43 : decode cX11_room 43 = .ok (.iload_n 1, 1) := by decide +kernel
theorem dX11_room_44 : decode cX11_room 44 = .ok (.invokestatic 207, 3) := by decide +kernel
theorem dX11_room_47 : decode cX11_room 47 = .ok (.ifCond .eq 18, 3) := by decide +kernel
theorem dX11_room_50 : decode cX11_room 50 = .ok (.aload_n 0, 1) := by decide +kernel
theorem dX11_room_51 : decode cX11_room 51 = .ok (.getfield 16, 3) := by decide +kernel
theorem dX11_room_54 : decode cX11_room 54 = .ok (.aload_n 0, 1) := by decide +kernel
theorem dX11_room_55 : decode cX11_room 55 = .ok (.getfield 33, 3) := by decide +kernel
theorem dX11_room_58 : decode cX11_room 58 = .ok (.iload_n 1, 1) := by decide +kernel
theorem dX11_room_59 : decode cX11_room 59 = .ok (.invokestatic 210, 3) := by decide +kernel
theorem dX11_room_62 : decode cX11_room 62 = .ok (.goto 5, 3) := by decide +kernel
theorem dX11_room_65 : decode cX11_room 65 = .ok (.bipush (-2), 2) := by decide +kernel
theorem dX11_room_67 : decode cX11_room 67 = .ok (.istore 4, 2) := by decide +kernel
theorem dX11_room_69 : decode cX11_room 69 = .ok (.iload 4, 2) := by decide +kernel
theorem dX11_room_71 : decode cX11_room 71 = .ok (.bipush (-2), 2) := by decide +kernel
theorem dX11_room_73 : decode cX11_room 73 = .ok (.if_icmp .ne 9, 3) := by decide +kernel
theorem dX11_room_76 : decode cX11_room 76 = .ok (.aload_n 0, 1) := by decide +kernel
theorem dX11_room_77 : decode cX11_room 77 = .ok (.iload_n 2, 1) := by decide +kernel
theorem dX11_room_78 : decode cX11_room 78 = .ok (.invokevirtual 113, 3) := by decide +kernel
theorem dX11_room_81 : decode cX11_room 81 = .ok (.ireturn, 1) := by decide +kernel
theorem dX11_room_82 : decode cX11_room 82 = .ok (.aload_n 0, 1) := by decide +kernel
theorem dX11_room_83 : decode cX11_room 83 = .ok (.getfield 33, 3) := by decide +kernel
theorem dX11_room_86 : decode cX11_room 86 = .ok (.iload_n 1, 1) := by decide +kernel
theorem dX11_room_87 : decode cX11_room 87 = .ok (.iconst 0, 1) := by decide +kernel
theorem dX11_room_88 : decode cX11_room 88 = .ok (.iload 4, 2) := by decide +kernel
theorem dX11_room_90 : decode cX11_room 90 = .ok (.bipush 100, 2) := by decide +kernel
theorem dX11_room_92 : decode cX11_room 92 = .ok (.idiv, 1) := by decide +kernel
theorem dX11_room_93 : decode cX11_room 93 = .ok (.iload 4, 2) := by decide +kernel
theorem dX11_room_95 : decode cX11_room 95 = .ok (.bipush 100, 2) := by decide +kernel
theorem dX11_room_97 : decode cX11_room 97 = .ok (.irem, 1) := by decide +kernel
theorem dX11_room_98 : decode cX11_room 98 = .ok (.iconst 0, 1) := by decide +kernel
theorem dX11_room_99 : decode cX11_room 99 = .ok (.aload_n 0, 1) := by decide +kernel
theorem dX11_room_100 : decode cX11_room 100 = .ok (.getfield 33, 3) := by decide +kernel
theorem dX11_room_103 : decode cX11_room 103 = .ok (.getfield 249, 3) := by decide +kernel
theorem dX11_room_106 : decode cX11_room 106 = .ok (.invokevirtual 252, 3) := by decide +kernel
theorem dX11_room_109 : decode cX11_room 109 = .ok (.iinc 2 1, 3) := by decide +kernel
theorem dX11_room_112 : decode cX11_room 112 = .ok (.iinc 3 1, 3) := by decide +kernel
theorem dX11_room_115 : decode cX11_room 115 = .ok (.goto (-86), 3) := by decide +kernel
theorem dX11_room_118 : decode cX11_room 118 = .ok (.aload_n 0, 1) := by decide +kernel
theorem dX11_room_119 : decode cX11_room 119 = .ok (.iload_n 2, 1) := by decide +kernel
theorem dX11_room_120 : decode cX11_room 120 = .ok (.invokevirtual 113, 3) := by decide +kernel
theorem dX11_room_123 : decode cX11_room 123 = .ok (.ireturn, 1) := by decide +kernel
theorem dX11_round_0 : decode cX11_round 0 = .ok (.aload_n 0, 1) := by decide +kernel
theorem dX11_round_1 : decode cX11_round 1 = .ok (.iload_n 1, 1) := by decide +kernel
theorem dX11_round_2 : decode cX11_round 2 = .ok (.iload_n 2, 1) := by decide +kernel
theorem dX11_round_3 : decode cX11_round 3 = .ok (.invokevirtual 173, 3) := by decide +kernel
theorem dX11_round_6 : decode cX11_round 6 = .ok (.ifCond .eq 8, 3) := by decide +kernel
theorem dX11_round_9 : decode cX11_round 9 = .ok (.iload_n 2, 1) := by decide +kernel
theorem dX11_round_10 : decode cX11_round 10 = .ok (.iconst 2, 1) := by decide +kernel
theorem dX11_round_11 : decode cX11_round 11 = .ok (.if_icmp .ge 9, 3) := by decide +kernel
theorem dX11_round_14 : decode cX11_round 14 = .ok (.aload_n 0, 1) := by decide +kernel
theorem dX11_round_15 : decode cX11_round 15 = .ok (.iconst 1, 1) := by decide +kernel
theorem dX11_round_16 : decode cX11_round 16 = .ok (.invokevirtual 79, 3) := by decide +kernel
theorem dX11_round_19 : decode cX11_round 19 = .ok (.ireturn, 1) := by decide +kernel
theorem dX11_round_20 : decode cX11_round 20 = .ok (.aload_n 0, 1) := by decide +kernel
theorem dX11_round_21 : decode cX11_round 21 = .ok (.aload_n 0, 1) := by decide +kernel
theorem dX11_round_22 : decode cX11_round 22 = .ok (.getfield 26, 3) := by decide +kernel
theorem dX11_round_25 : decode cX11_round 25 = .ok (.iload_n 1, 1) := by decide +kernel
theorem dX11_round_26 : decode cX11_round 26 = .ok (.iload_n 2, 1) := by decide +kernel
theorem dX11_round_27 : decode cX11_round 27 = .ok (.invokevirtual 226, 3) := by decide +kernel
theorem dX11_round_30 : decode cX11_round 30 = .ok (.invokevirtual 113, 3) := by decide +kernel
theorem dX11_round_33 : decode cX11_round 33 = .ok (.ireturn, 1) := by decide +kernel
theorem dX11_seed_0 : decode cX11_seed 0 = .ok (.aload_n 0, 1) := by decide +kernel
theorem dX11_seed_1 : decode cX11_seed 1 = .ok (.getfield 106, 3) := by decide +kernel
theorem dX11_seed_4 : decode cX11_seed 4 = .ok (.ifCond .ne 9, 3) := by decide +kernel
theorem dX11_seed_7 : decode cX11_seed 7 = .ok (.aload_n 0, 1) := by decide +kernel
theorem dX11_seed_8 : decode cX11_seed 8 = .ok (.iconst 1, 1) := by decide +kernel
theorem dX11_seed_9 : decode cX11_seed 9 = .ok (.invokevirtual 309, 3) := by decide +kernel
theorem dX11_seed_12 : decode cX11_seed 12 = .ok (.ireturn, 1) := by decide +kernel
theorem dX11_seed_13 : decode cX11_seed 13 = .ok (.iload_n 1, 1) := by decide +kernel
theorem dX11_seed_14 : decode cX11_seed 14 = .ok (.ifCond .lt 10, 3) := by decide +kernel
theorem dX11_seed_17 : decode cX11_seed 17 = .ok (.iload_n 1, 1) := by decide +kernel
theorem dX11_seed_18 : decode cX11_seed 18 = .ok (.ldc_w 263, 3) := by decide +kernel
theorem dX11_seed_21 : decode cX11_seed 21 = .ok (.if_icmp .lt 9, 3) := by decide +kernel
theorem dX11_seed_24 : decode cX11_seed 24 = .ok (.aload_n 0, 1) := by decide +kernel
theorem dX11_seed_25 : decode cX11_seed 25 = .ok (.iconst 2, 1) := by decide +kernel
theorem dX11_seed_26 : decode cX11_seed 26 = .ok (.invokevirtual 309, 3) := by decide +kernel
theorem dX11_seed_29 : decode cX11_seed 29 = .ok (.ireturn, 1) := by decide +kernel
theorem dX11_seed_30 : decode cX11_seed 30 = .ok (.aload_n 0, 1) := by decide +kernel
theorem dX11_seed_31 : decode cX11_seed 31 = .ok (.getfield 26, 3) := by decide +kernel
theorem dX11_seed_34 : decode cX11_seed 34 = .ok (.iload_n 1, 1) := by decide +kernel
theorem dX11_seed_35 : decode cX11_seed 35 = .ok (.putfield 264, 3) := by decide +kernel
theorem dX11_seed_38 : decode cX11_seed 38 = .ok (.aload_n 0, 1) := by decide +kernel
theorem dX11_seed_39 : decode cX11_seed 39 = .ok (.invokevirtual 319, 3) := by decide +kernel
theorem dX11_seed_42 : decode cX11_seed 42 = .ok (.ireturn, 1) := by decide +kernel
theorem dX11_shared_0 : decode cX11_shared 0 = .ok (.aload_n 0, 1) := by decide +kernel
theorem dX11_shared_1 : decode cX11_shared 1 = .ok (.getfield 106, 3) := by decide +kernel
theorem dX11_shared_4 : decode cX11_shared 4 = .ok (.ifCond .ne 9, 3) := by decide +kernel
theorem dX11_shared_7 : decode cX11_shared 7 = .ok (.aload_n 0, 1) := by decide +kernel
theorem dX11_shared_8 : decode cX11_shared 8 = .ok (.iconst 1, 1) := by decide +kernel
theorem dX11_shared_9 : decode cX11_shared 9 = .ok (.invokevirtual 79, 3) := by decide +kernel
theorem dX11_shared_12 : decode cX11_shared 12 = .ok (.ireturn, 1) := by decide +kernel
theorem dX11_shared_13 : decode cX11_shared 13 = .ok (.iconst 0, 1) := by decide +kernel
theorem dX11_shared_14 : decode cX11_shared 14 = .ok (.istore_n 1, 1) := by decide +kernel
theorem dX11_shared_15 : decode cX11_shared 15 = .ok (.iconst 0, 1) := by decide +kernel
theorem dX11_shared_16 : decode cX11_shared 16 = .ok (.istore_n 2, 1) := by decide +kernel
theorem dX11_shared_17 : decode cX11_shared 17 = .ok (.iload_n 2, 1) := by decide +kernel
theorem dX11_shared_18 : decode cX11_shared 18 = .ok (.aload_n 0, 1) := by decide +kernel
theorem dX11_shared_19 : decode cX11_shared 19 = .ok (.getfield 16, 3) := by decide +kernel
theorem dX11_shared_22 : decode cX11_shared 22 = .ok (.getfield 129, 3) := by decide +kernel
theorem dX11_shared_25 : decode cX11_shared 25 = .ok (.if_icmp .ge 51, 3) := by decide +kernel
theorem dX11_shared_28 : decode cX11_shared 28 = .ok (.iconst 0, 1) := by decide +kernel
theorem dX11_shared_29 : decode cX11_shared 29 = .ok (.istore_n 3, 1) := by decide +kernel
theorem dX11_shared_30 : decode cX11_shared 30 = .ok (.iload_n 3, 1) := by decide +kernel
theorem dX11_shared_31 : decode cX11_shared 31 = .ok (.aload_n 0, 1) := by decide +kernel
theorem dX11_shared_32 : decode cX11_shared 32 = .ok (.getfield 16, 3) := by decide +kernel
theorem dX11_shared_35 : decode cX11_shared 35 = .ok (.getfield 132, 3) := by decide +kernel
theorem dX11_shared_38 : decode cX11_shared 38 = .ok (.if_icmp .ge 32, 3) := by decide +kernel
theorem dX11_shared_41 : decode cX11_shared 41 = .ok (.aload_n 0, 1) := by decide +kernel
theorem dX11_shared_42 : decode cX11_shared 42 = .ok (.getfield 16, 3) := by decide +kernel
theorem dX11_shared_45 : decode cX11_shared 45 = .ok (.aload_n 0, 1) := by decide +kernel
theorem dX11_shared_46 : decode cX11_shared 46 = .ok (.getfield 26, 3) := by decide +kernel
theorem dX11_shared_49 : decode cX11_shared 49 = .ok (.iload_n 3, 1) := by decide +kernel
theorem dX11_shared_50 : decode cX11_shared 50 = .ok (.iload_n 2, 1) := by decide +kernel
theorem dX11_shared_51 : decode cX11_shared 51 = .ok (.invokestatic 123, 3) := by decide +kernel
theorem dX11_shared_54 : decode cX11_shared 54 = .ok (.invokestatic 135, 3) := by decide +kernel
theorem dX11_shared_57 : decode cX11_shared 57 = .ok (.iconst 1, 1) := by decide +kernel
theorem dX11_shared_58 : decode cX11_shared 58 = .ok (.if_icmp .le 6, 3) := by decide +kernel
theorem dX11_shared_61 : decode cX11_shared 61 = .ok (.iinc 1 1, 3) := by decide +kernel
theorem dX11_shared_64 : decode cX11_shared 64 = .ok (.iinc 3 1, 3) := by decide +kernel
theorem dX11_shared_67 : decode cX11_shared 67 = .ok (.goto (-37), 3) := by decide +kernel
theorem dX11_shared_70 : decode cX11_shared 70 = .ok (.iinc 2 1, 3) := by decide +kernel
theorem dX11_shared_73 : decode cX11_shared 73 = .ok (.goto (-56), 3) := by decide +kernel
theorem dX11_shared_76 : decode cX11_shared 76 = .ok (.aload_n 0, 1) := by decide +kernel
theorem dX11_shared_77 : decode cX11_shared 77 = .ok (.iload_n 1, 1) := by decide +kernel
theorem dX11_shared_78 : decode cX11_shared 78 = .ok (.invokevirtual 113, 3) := by decide +kernel
theorem dX11_shared_81 : decode cX11_shared 81 = .ok (.ireturn, 1) := by decide +kernel
theorem dX11_size_0 : decode cX11_size 0 = .ok (.iload_n 1, 1) := by decide +kernel
theorem dX11_size_1 : decode cX11_size 1 = .ok (.bipush 12, 2) := by decide +kernel
theorem dX11_size_3 : decode cX11_size 3 = .ok (.if_icmp .ne 8, 3) := by decide +kernel
theorem dX11_size_6 : decode cX11_size 6 = .ok (.aload_n 0, 1) := by decide +kernel
theorem dX11_size_7 : decode cX11_size 7 = .ok (.getfield 71, 3) := by decide +kernel
theorem dX11_size_10 : decode cX11_size 10 = .ok (.ireturn, 1) := by decide +kernel
theorem dX11_size_11 : decode cX11_size 11 = .ok (.iload_n 1, 1) := by decide +kernel
theorem dX11_size_12 : decode cX11_size 12 = .ok (.ifCond .lt 9, 3) := by decide +kernel
theorem dX11_size_15 : decode cX11_size 15 = .ok (.iload_n 1, 1) := by decide +kernel
theorem dX11_size_16 : decode cX11_size 16 = .ok (.bipush 12, 2) := by decide +kernel
theorem dX11_size_18 : decode cX11_size 18 = .ok (.if_icmp .le 5, 3) := by decide +kernel
theorem dX11_size_21 : decode cX11_size 21 = .ok (.iconst (-1), 1) := by decide +kernel
theorem dX11_size_22 : decode cX11_size 22 = .ok (.ireturn, 1) := by decide +kernel
theorem dX11_size_23 : decode cX11_size 23 = .ok (.aload_n 0, 1) := by decide +kernel
theorem dX11_size_24 : decode cX11_size 24 = .ok (.getfield 106, 3) := by decide +kernel
theorem dX11_size_27 : decode cX11_size 27 = .ok (.ifCond .ne 5, 3) := by decide +kernel
theorem dX11_size_30 : decode cX11_size 30 = .ok (.iconst 0, 1) := by decide +kernel
theorem dX11_size_31 : decode cX11_size 31 = .ok (.ireturn, 1) := by decide +kernel
theorem dX11_size_32 : decode cX11_size 32 = .ok (.iload_n 1, 1) := by decide +kernel
theorem dX11_size_33 : decode cX11_size 33 = .ok (.bipush 8, 2) := by decide +kernel
theorem dX11_size_35 : decode cX11_size 35 = .ok (.if_icmp .ge 11, 3) := by decide +kernel
theorem dX11_size_38 : decode cX11_size 38 = .ok (.aload_n 0, 1) := by decide +kernel
theorem dX11_size_39 : decode cX11_size 39 = .ok (.iload_n 1, 1) := by decide +kernel
theorem dX11_size_40 : decode cX11_size 40 = .ok (.invokevirtual 341, 3) := by decide +kernel
theorem dX11_size_43 : decode cX11_size 43 = .ok (.goto 8, 3) := by decide +kernel
theorem dX11_size_46 : decode cX11_size 46 = .ok (.aload_n 0, 1) := by decide +kernel
theorem dX11_size_47 : decode cX11_size 47 = .ok (.iload_n 1, 1) := by decide +kernel
theorem dX11_size_48 : decode cX11_size 48 = .ok (.invokevirtual 344, 3) := by decide +kernel
theorem dX11_size_51 : decode cX11_size 51 = .ok (.ireturn, 1) := by decide +kernel
theorem dX11_sizeNow_0 : decode cX11_sizeNow 0 = .ok (.iload_n 1, 1) := by decide +kernel
theorem dX11_sizeNow_1 : decode cX11_sizeNow 1 = .ok (.tableswitch 51 8 10 #[27, 35, 43], 27) := by decide +kernel
theorem dX11_sizeNow_28 : decode cX11_sizeNow 28 = .ok (.aload_n 0, 1) := by decide +kernel
theorem dX11_sizeNow_29 : decode cX11_sizeNow 29 = .ok (.getfield 26, 3) := by decide +kernel
theorem dX11_sizeNow_32 : decode cX11_sizeNow 32 = .ok (.getfield 249, 3) := by decide +kernel
theorem dX11_sizeNow_35 : decode cX11_sizeNow 35 = .ok (.ireturn, 1) := by decide +kernel
theorem dX11_sizeNow_36 : decode cX11_sizeNow 36 = .ok (.aload_n 0, 1) := by decide +kernel
theorem dX11_sizeNow_37 : decode cX11_sizeNow 37 = .ok (.getfield 26, 3) := by decide +kernel
theorem dX11_sizeNow_40 : decode cX11_sizeNow 40 = .ok (.getfield 264, 3) := by decide +kernel
theorem dX11_sizeNow_43 : decode cX11_sizeNow 43 = .ok (.ireturn, 1) := by decide +kernel
theorem dX11_sizeNow_44 : decode cX11_sizeNow 44 = .ok (.aload_n 0, 1) := by decide +kernel
theorem dX11_sizeNow_45 : decode cX11_sizeNow 45 = .ok (.getfield 67, 3) := by decide +kernel
theorem dX11_sizeNow_48 : decode cX11_sizeNow 48 = .ok (.getfield 362, 3) := by decide +kernel
theorem dX11_sizeNow_51 : decode cX11_sizeNow 51 = .ok (.ireturn, 1) := by decide +kernel
theorem dX11_sizeNow_52 : decode cX11_sizeNow 52 = .ok (.aload_n 0, 1) := by decide +kernel
theorem dX11_sizeNow_53 : decode cX11_sizeNow 53 = .ok (.getfield 67, 3) := by decide +kernel
theorem dX11_sizeNow_56 : decode cX11_sizeNow 56 = .ok (.getfield 365, 3) := by decide +kernel
theorem dX11_sizeNow_59 : decode cX11_sizeNow 59 = .ok (.ireturn, 1) := by decide +kernel
theorem dX11_sizeTold_0 : decode cX11_sizeTold 0 = .ok (.iload_n 1, 1) := by decide +kernel
theorem dX11_sizeTold_1 : decode cX11_sizeTold 1 = .ok (.tableswitch 115 0 6 #[43, 51, 59, 75, 91, 99, 107], 43) := by decide +kernel
theorem dX11_sizeTold_44 : decode cX11_sizeTold 44 = .ok (.aload_n 0, 1) := by decide +kernel
theorem dX11_sizeTold_45 : decode cX11_sizeTold 45 = .ok (.getfield 16, 3) := by decide +kernel
theorem dX11_sizeTold_48 : decode cX11_sizeTold 48 = .ok (.getfield 132, 3) := by decide +kernel
theorem dX11_sizeTold_51 : decode cX11_sizeTold 51 = .ok (.ireturn, 1) := by decide +kernel
theorem dX11_sizeTold_52 : decode cX11_sizeTold 52 = .ok (.aload_n 0, 1) := by decide +kernel
theorem dX11_sizeTold_53 : decode cX11_sizeTold 53 = .ok (.getfield 16, 3) := by decide +kernel
theorem dX11_sizeTold_56 : decode cX11_sizeTold 56 = .ok (.getfield 129, 3) := by decide +kernel
theorem dX11_sizeTold_59 : decode cX11_sizeTold 59 = .ok (.ireturn, 1) := by decide +kernel
theorem dX11_sizeTold_60 : decode cX11_sizeTold 60 = .ok (.aload_n 0, 1) := by decide +kernel
theorem dX11_sizeTold_61 : decode cX11_sizeTold 61 = .ok (.getfield 16, 3) := by decide +kernel
theorem dX11_sizeTold_64 : decode cX11_sizeTold 64 = .ok (.getfield 347, 3) := by decide +kernel
theorem dX11_sizeTold_67 : decode cX11_sizeTold 67 = .ok (.ifCond .eq 7, 3) := by decide +kernel
theorem dX11_sizeTold_70 : decode cX11_sizeTold 70 = .ok (.iconst 1, 1) := by decide +kernel
theorem dX11_sizeTold_71 : decode cX11_sizeTold 71 = .ok (.goto 4, 3) := by decide +kernel
theorem dX11_sizeTold_74 : decode cX11_sizeTold 74 = .ok (.iconst 0, 1) := by decide +kernel
theorem dX11_sizeTold_75 : decode cX11_sizeTold 75 = .ok (.ireturn, 1) := by decide +kernel
theorem dX11_sizeTold_76 : decode cX11_sizeTold 76 = .ok (.aload_n 0, 1) := by decide +kernel
theorem dX11_sizeTold_77 : decode cX11_sizeTold 77 = .ok (.getfield 16, 3) := by decide +kernel
theorem dX11_sizeTold_80 : decode cX11_sizeTold 80 = .ok (.getfield 350, 3) := by decide +kernel
theorem dX11_sizeTold_83 : decode cX11_sizeTold 83 = .ok (.ifCond .eq 7, 3) := by decide +kernel
theorem dX11_sizeTold_86 : decode cX11_sizeTold 86 = .ok (.iconst 1, 1) := by decide +kernel
theorem dX11_sizeTold_87 : decode cX11_sizeTold 87 = .ok (.goto 4, 3) := by decide +kernel
theorem dX11_sizeTold_90 : decode cX11_sizeTold 90 = .ok (.iconst 0, 1) := by decide +kernel
theorem dX11_sizeTold_91 : decode cX11_sizeTold 91 = .ok (.ireturn, 1) := by decide +kernel
theorem dX11_sizeTold_92 : decode cX11_sizeTold 92 = .ok (.aload_n 0, 1) := by decide +kernel
theorem dX11_sizeTold_93 : decode cX11_sizeTold 93 = .ok (.getfield 16, 3) := by decide +kernel
theorem dX11_sizeTold_96 : decode cX11_sizeTold 96 = .ok (.getfield 353, 3) := by decide +kernel
theorem dX11_sizeTold_99 : decode cX11_sizeTold 99 = .ok (.ireturn, 1) := by decide +kernel
theorem dX11_sizeTold_100 : decode cX11_sizeTold 100 = .ok (.aload_n 0, 1) := by decide +kernel
theorem dX11_sizeTold_101 : decode cX11_sizeTold 101 = .ok (.getfield 16, 3) := by decide +kernel
theorem dX11_sizeTold_104 : decode cX11_sizeTold 104 = .ok (.getfield 110, 3) := by decide +kernel
theorem dX11_sizeTold_107 : decode cX11_sizeTold 107 = .ok (.ireturn, 1) := by decide +kernel
theorem dX11_sizeTold_108 : decode cX11_sizeTold 108 = .ok (.aload_n 0, 1) := by decide +kernel
theorem dX11_sizeTold_109 : decode cX11_sizeTold 109 = .ok (.getfield 16, 3) := by decide +kernel
theorem dX11_sizeTold_112 : decode cX11_sizeTold 112 = .ok (.getfield 356, 3) := by decide +kernel
theorem dX11_sizeTold_115 : decode cX11_sizeTold 115 = .ok (.ireturn, 1) := by decide +kernel
theorem dX11_sizeTold_116 : decode cX11_sizeTold 116 = .ok (.aload_n 0, 1) := by decide +kernel
theorem dX11_sizeTold_117 : decode cX11_sizeTold 117 = .ok (.getfield 16, 3) := by decide +kernel
theorem dX11_sizeTold_120 : decode cX11_sizeTold 120 = .ok (.getfield 359, 3) := by decide +kernel
theorem dX11_sizeTold_123 : decode cX11_sizeTold 123 = .ok (.ireturn, 1) := by decide +kernel
theorem dX11_skin_0 : decode cX11_skin 0 = .ok (.aload_n 0, 1) := by decide +kernel
theorem dX11_skin_1 : decode cX11_skin 1 = .ok (.iload_n 1, 1) := by decide +kernel
theorem dX11_skin_2 : decode cX11_skin 2 = .ok (.iload_n 2, 1) := by decide +kernel
theorem dX11_skin_3 : decode cX11_skin 3 = .ok (.invokevirtual 173, 3) := by decide +kernel
theorem dX11_skin_6 : decode cX11_skin 6 = .ok (.ifCond .eq 13, 3) := by decide +kernel
theorem dX11_skin_9 : decode cX11_skin 9 = .ok (.iload_n 3, 1) := by decide +kernel
theorem dX11_skin_10 : decode cX11_skin 10 = .ok (.ifCond .lt 9, 3) := by decide +kernel
theorem dX11_skin_13 : decode cX11_skin 13 = .ok (.iload_n 3, 1) := by decide +kernel
theorem dX11_skin_14 : decode cX11_skin 14 = .ok (.bipush 8, 2) := by decide +kernel
theorem dX11_skin_16 : decode cX11_skin 16 = .ok (.if_icmp .lt 9, 3) := by decide +kernel
theorem dX11_skin_19 : decode cX11_skin 19 = .ok (.aload_n 0, 1) := by decide +kernel
theorem dX11_skin_20 : decode cX11_skin 20 = .ok (.iconst 1, 1) := by decide +kernel
theorem dX11_skin_21 : decode cX11_skin 21 = .ok (.invokevirtual 79, 3) := by decide +kernel
theorem dX11_skin_24 : decode cX11_skin 24 = .ok (.ireturn, 1) := by decide +kernel
theorem dX11_skin_25 : decode cX11_skin 25 = .ok (.aload_n 0, 1) := by decide +kernel
theorem dX11_skin_26 : decode cX11_skin 26 = .ok (.aload_n 0, 1) := by decide +kernel
theorem dX11_skin_27 : decode cX11_skin 27 = .ok (.getfield 26, 3) := by decide +kernel
theorem dX11_skin_30 : decode cX11_skin 30 = .ok (.iload_n 1, 1) := by decide +kernel
theorem dX11_skin_31 : decode cX11_skin 31 = .ok (.iload_n 2, 1) := by decide +kernel
theorem dX11_skin_32 : decode cX11_skin 32 = .ok (.iload_n 3, 1) := by decide +kernel
theorem dX11_skin_33 : decode cX11_skin 33 = .ok (.invokevirtual 176, 3) := by decide +kernel
theorem dX11_skin_36 : decode cX11_skin 36 = .ok (.invokevirtual 113, 3) := by decide +kernel
theorem dX11_skin_39 : decode cX11_skin 39 = .ok (.ireturn, 1) := by decide +kernel
theorem dX11_skinsIn_0 : decode cX11_skinsIn 0 = .ok (.aload_n 0, 1) := by decide +kernel
theorem dX11_skinsIn_1 : decode cX11_skinsIn 1 = .ok (.getfield 106, 3) := by decide +kernel
theorem dX11_skinsIn_4 : decode cX11_skinsIn 4 = .ok (.ifCond .ne 9, 3) := by decide +kernel
theorem dX11_skinsIn_7 : decode cX11_skinsIn 7 = .ok (.aload_n 0, 1) := by decide +kernel
theorem dX11_skinsIn_8 : decode cX11_skinsIn 8 = .ok (.iconst 1, 1) := by decide +kernel
theorem dX11_skinsIn_9 : decode cX11_skinsIn 9 = .ok (.invokevirtual 79, 3) := by decide +kernel
theorem dX11_skinsIn_12 : decode cX11_skinsIn 12 = .ok (.ireturn, 1) := by decide +kernel
theorem dX11_skinsIn_13 : decode cX11_skinsIn 13 = .ok (.iload_n 1, 1) := by decide +kernel
theorem dX11_skinsIn_14 : decode cX11_skinsIn 14 = .ok (.ifCond .lt 9, 3) := by decide +kernel
theorem dX11_skinsIn_17 : decode cX11_skinsIn 17 = .ok (.iload_n 1, 1) := by decide +kernel
theorem dX11_skinsIn_18 : decode cX11_skinsIn 18 = .ok (.bipush 60, 2) := by decide +kernel
theorem dX11_skinsIn_20 : decode cX11_skinsIn 20 = .ok (.if_icmp .le 9, 3) := by decide +kernel
theorem dX11_skinsIn_23 : decode cX11_skinsIn 23 = .ok (.aload_n 0, 1) := by decide +kernel
theorem dX11_skinsIn_24 : decode cX11_skinsIn 24 = .ok (.iconst 2, 1) := by decide +kernel
theorem dX11_skinsIn_25 : decode cX11_skinsIn 25 = .ok (.invokevirtual 79, 3) := by decide +kernel
theorem dX11_skinsIn_28 : decode cX11_skinsIn 28 = .ok (.ireturn, 1) := by decide +kernel
theorem dX11_skinsIn_29 : decode cX11_skinsIn 29 = .ok (.aload_n 0, 1) := by decide +kernel
theorem dX11_skinsIn_30 : decode cX11_skinsIn 30 = .ok (.iload_n 1, 1) := by decide +kernel
theorem dX11_skinsIn_31 : decode cX11_skinsIn 31 = .ok (.invokevirtual 229, 3) := by decide +kernel
theorem dX11_skinsIn_34 : decode cX11_skinsIn 34 = .ok (.aload_n 0, 1) := by decide +kernel
theorem dX11_skinsIn_35 : decode cX11_skinsIn 35 = .ok (.aload_n 0, 1) := by decide +kernel
theorem dX11_skinsIn_36 : decode cX11_skinsIn 36 = .ok (.getfield 33, 3) := by decide +kernel
theorem dX11_skinsIn_39 : decode cX11_skinsIn 39 = .ok (.invokevirtual 242, 3) := by decide +kernel
theorem dX11_skinsIn_42 : decode cX11_skinsIn 42 = .ok (.invokevirtual 113, 3) := by decide +kernel
theorem dX11_skinsIn_45 : decode cX11_skinsIn 45 = .ok (.ireturn, 1) := by decide +kernel
theorem dX11_soonest_0 : decode cX11_soonest 0 = .ok (.aload_n 0, 1) := by decide +kernel
theorem dX11_soonest_1 : decode cX11_soonest 1 = .ok (.iload_n 1, 1) := by decide +kernel
theorem dX11_soonest_2 : decode cX11_soonest 2 = .ok (.invokevirtual 283, 3) := by decide +kernel
theorem dX11_soonest_5 : decode cX11_soonest 5 = .ok (.ifCond .ne 9, 3) := by decide +kernel
theorem dX11_soonest_8 : decode cX11_soonest 8 = .ok (.aload_n 0, 1) := by decide +kernel
theorem dX11_soonest_9 : decode cX11_soonest 9 = .ok (.iconst 1, 1) := by decide +kernel
theorem dX11_soonest_10 : decode cX11_soonest 10 = .ok (.invokevirtual 79, 3) := by decide +kernel
theorem dX11_soonest_13 : decode cX11_soonest 13 = .ok (.ireturn, 1) := by decide +kernel
theorem dX11_soonest_14 : decode cX11_soonest 14 = .ok (.aload_n 0, 1) := by decide +kernel
theorem dX11_soonest_15 : decode cX11_soonest 15 = .ok (.getfield 60, 3) := by decide +kernel
theorem dX11_soonest_18 : decode cX11_soonest 18 = .ok (.aload_n 0, 1) := by decide +kernel
theorem dX11_soonest_19 : decode cX11_soonest 19 = .ok (.getfield 16, 3) := by decide +kernel
theorem dX11_soonest_22 : decode cX11_soonest 22 = .ok (.aload_n 0, 1) := by decide +kernel
theorem dX11_soonest_23 : decode cX11_soonest 23 = .ok (.getfield 26, 3) := by decide +kernel
theorem dX11_soonest_26 : decode cX11_soonest 26 = .ok (.getfield 249, 3) := by decide +kernel
theorem dX11_soonest_29 : decode cX11_soonest 29 = .ok (.invokevirtual 276, 3) := by decide +kernel
theorem dX11_soonest_32 : decode cX11_soonest 32 = .ok (.aload_n 0, 1) := by decide +kernel
theorem dX11_soonest_33 : decode cX11_soonest 33 = .ok (.aload_n 0, 1) := by decide +kernel
theorem dX11_soonest_34 : decode cX11_soonest 34 = .ok (.getfield 60, 3) := by decide +kernel
theorem dX11_soonest_37 : decode cX11_soonest 37 = .ok (.getfield 280, 3) := by decide +kernel
theorem dX11_soonest_40 : decode cX11_soonest 40 = .ok (.ifCond .ne 8, 3) := by decide +kernel
theorem dX11_soonest_43 : decode cX11_soonest 43 = .ok (.bipush (-2), 2) := by decide +kernel
theorem dX11_soonest_45 : decode cX11_soonest 45 = .ok (.goto 12, 3) := by decide +kernel
theorem dX11_soonest_48 : decode cX11_soonest 48 = .ok (.aload_n 0, 1) := by decide +kernel
theorem dX11_soonest_49 : decode cX11_soonest 49 = .ok (.getfield 60, 3) := by decide +kernel
theorem dX11_soonest_52 : decode cX11_soonest 52 = .ok (.getfield 293, 3) := by decide +kernel
theorem dX11_soonest_55 : decode cX11_soonest 55 = .ok (.iload_n 1, 1) := by decide +kernel
theorem dX11_soonest_56 : decode cX11_soonest 56 = .ok (.iaload, 1) := by decide +kernel
theorem dX11_soonest_57 : decode cX11_soonest 57 = .ok (.invokevirtual 113, 3) := by decide +kernel
theorem dX11_soonest_60 : decode cX11_soonest 60 = .ok (.ireturn, 1) := by decide +kernel
theorem dX11_stone_0 : decode cX11_stone 0 = .ok (.aload_n 0, 1) := by decide +kernel
theorem dX11_stone_1 : decode cX11_stone 1 = .ok (.iload_n 1, 1) := by decide +kernel
theorem dX11_stone_2 : decode cX11_stone 2 = .ok (.invokevirtual 214, 3) := by decide +kernel
theorem dX11_stone_5 : decode cX11_stone 5 = .ok (.ifCond .eq 12, 3) := by decide +kernel
theorem dX11_stone_8 : decode cX11_stone 8 = .ok (.iload_n 2, 1) := by decide +kernel
theorem dX11_stone_9 : decode cX11_stone 9 = .ok (.ifCond .lt 8, 3) := by decide +kernel
theorem dX11_stone_12 : decode cX11_stone 12 = .ok (.iload_n 2, 1) := by decide +kernel
theorem dX11_stone_13 : decode cX11_stone 13 = .ok (.iconst 5, 1) := by decide +kernel
theorem dX11_stone_14 : decode cX11_stone 14 = .ok (.if_icmp .lt 9, 3) := by decide +kernel
theorem dX11_stone_17 : decode cX11_stone 17 = .ok (.aload_n 0, 1) := by decide +kernel
theorem dX11_stone_18 : decode cX11_stone 18 = .ok (.iconst 1, 1) := by decide +kernel
theorem dX11_stone_19 : decode cX11_stone 19 = .ok (.invokevirtual 79, 3) := by decide +kernel
theorem dX11_stone_22 : decode cX11_stone 22 = .ok (.ireturn, 1) := by decide +kernel
theorem dX11_stone_23 : decode cX11_stone 23 = .ok (.aload_n 0, 1) := by decide +kernel
theorem dX11_stone_24 : decode cX11_stone 24 = .ok (.aload_n 0, 1) := by decide +kernel
theorem dX11_stone_25 : decode cX11_stone 25 = .ok (.getfield 16, 3) := by decide +kernel
theorem dX11_stone_28 : decode cX11_stone 28 = .ok (.iload_n 1, 1) := by decide +kernel
theorem dX11_stone_29 : decode cX11_stone 29 = .ok (.iload_n 2, 1) := by decide +kernel
theorem dX11_stone_30 : decode cX11_stone 30 = .ok (.invokevirtual 195, 3) := by decide +kernel
theorem dX11_stone_33 : decode cX11_stone 33 = .ok (.invokevirtual 113, 3) := by decide +kernel
theorem dX11_stone_36 : decode cX11_stone 36 = .ok (.ireturn, 1) := by decide +kernel
theorem dX11_surely_0 : decode cX11_surely 0 = .ok (.aload_n 0, 1) := by decide +kernel
theorem dX11_surely_1 : decode cX11_surely 1 = .ok (.iload_n 1, 1) := by decide +kernel
theorem dX11_surely_2 : decode cX11_surely 2 = .ok (.invokevirtual 283, 3) := by decide +kernel
theorem dX11_surely_5 : decode cX11_surely 5 = .ok (.ifCond .eq 16, 3) := by decide +kernel
theorem dX11_surely_8 : decode cX11_surely 8 = .ok (.aload_n 0, 1) := by decide +kernel
theorem dX11_surely_9 : decode cX11_surely 9 = .ok (.iload_n 2, 1) := by decide +kernel
theorem dX11_surely_10 : decode cX11_surely 10 = .ok (.invokevirtual 283, 3) := by decide +kernel
theorem dX11_surely_13 : decode cX11_surely 13 = .ok (.ifCond .eq 8, 3) := by decide +kernel
theorem dX11_surely_16 : decode cX11_surely 16 = .ok (.iload_n 1, 1) := by decide +kernel
theorem dX11_surely_17 : decode cX11_surely 17 = .ok (.iload_n 2, 1) := by decide +kernel
theorem dX11_surely_18 : decode cX11_surely 18 = .ok (.if_icmp .ne 9, 3) := by decide +kernel
theorem dX11_surely_21 : decode cX11_surely 21 = .ok (.aload_n 0, 1) := by decide +kernel
theorem dX11_surely_22 : decode cX11_surely 22 = .ok (.iconst 1, 1) := by decide +kernel
theorem dX11_surely_23 : decode cX11_surely 23 = .ok (.invokevirtual 79, 3) := by decide +kernel
theorem dX11_surely_26 : decode cX11_surely 26 = .ok (.ireturn, 1) := by decide +kernel
theorem dX11_surely_27 : decode cX11_surely 27 = .ok (.aload_n 0, 1) := by decide +kernel
theorem dX11_surely_28 : decode cX11_surely 28 = .ok (.getfield 60, 3) := by decide +kernel
theorem dX11_surely_31 : decode cX11_surely 31 = .ok (.aload_n 0, 1) := by decide +kernel
theorem dX11_surely_32 : decode cX11_surely 32 = .ok (.getfield 16, 3) := by decide +kernel
theorem dX11_surely_35 : decode cX11_surely 35 = .ok (.aload_n 0, 1) := by decide +kernel
theorem dX11_surely_36 : decode cX11_surely 36 = .ok (.getfield 26, 3) := by decide +kernel
theorem dX11_surely_39 : decode cX11_surely 39 = .ok (.getfield 249, 3) := by decide +kernel
theorem dX11_surely_42 : decode cX11_surely 42 = .ok (.invokevirtual 276, 3) := by decide +kernel
theorem dX11_surely_45 : decode cX11_surely 45 = .ok (.aload_n 0, 1) := by decide +kernel
theorem dX11_surely_46 : decode cX11_surely 46 = .ok (.getfield 60, 3) := by decide +kernel
theorem dX11_surely_49 : decode cX11_surely 49 = .ok (.getfield 299, 3) := by decide +kernel
theorem dX11_surely_52 : decode cX11_surely 52 = .ok (.iload_n 2, 1) := by decide +kernel
theorem dX11_surely_53 : decode cX11_surely 53 = .ok (.iaload, 1) := by decide +kernel
theorem dX11_surely_54 : decode cX11_surely 54 = .ok (.iload_n 1, 1) := by decide +kernel
theorem dX11_surely_55 : decode cX11_surely 55 = .ok (.ishr, 1) := by decide +kernel
theorem dX11_surely_56 : decode cX11_surely 56 = .ok (.iconst 1, 1) := by decide +kernel
theorem dX11_surely_57 : decode cX11_surely 57 = .ok (.iand, 1) := by decide +kernel
theorem dX11_surely_58 : decode cX11_surely 58 = .ok (.iconst 1, 1) := by decide +kernel
theorem dX11_surely_59 : decode cX11_surely 59 = .ok (.if_icmp .ne 7, 3) := by decide +kernel
theorem dX11_surely_62 : decode cX11_surely 62 = .ok (.iconst 1, 1) := by decide +kernel
theorem dX11_surely_63 : decode cX11_surely 63 = .ok (.goto 4, 3) := by decide +kernel
theorem dX11_surely_66 : decode cX11_surely 66 = .ok (.iconst 0, 1) := by decide +kernel
theorem dX11_surely_67 : decode cX11_surely 67 = .ok (.istore_n 3, 1) := by decide +kernel
theorem dX11_surely_68 : decode cX11_surely 68 = .ok (.aload_n 0, 1) := by decide +kernel
theorem dX11_surely_69 : decode cX11_surely 69 = .ok (.aload_n 0, 1) := by decide +kernel
theorem dX11_surely_70 : decode cX11_surely 70 = .ok (.getfield 60, 3) := by decide +kernel
theorem dX11_surely_73 : decode cX11_surely 73 = .ok (.getfield 280, 3) := by decide +kernel
theorem dX11_surely_76 : decode cX11_surely 76 = .ok (.ifCond .le 11, 3) := by decide +kernel
theorem dX11_surely_79 : decode cX11_surely 79 = .ok (.iload_n 3, 1) := by decide +kernel
theorem dX11_surely_80 : decode cX11_surely 80 = .ok (.ifCond .eq 7, 3) := by decide +kernel
theorem dX11_surely_83 : decode cX11_surely 83 = .ok (.iconst 1, 1) := by decide +kernel
theorem dX11_surely_84 : decode cX11_surely 84 = .ok (.goto 4, 3) := by decide +kernel
theorem dX11_surely_87 : decode cX11_surely 87 = .ok (.iconst 0, 1) := by decide +kernel
theorem dX11_surely_88 : decode cX11_surely 88 = .ok (.invokevirtual 113, 3) := by decide +kernel
theorem dX11_surely_91 : decode cX11_surely 91 = .ok (.ireturn, 1) := by decide +kernel
theorem dX11_take_0 : decode cX11_take 0 = .ok (.aload_n 0, 1) := by decide +kernel
theorem dX11_take_1 : decode cX11_take 1 = .ok (.iload_n 1, 1) := by decide +kernel
theorem dX11_take_2 : decode cX11_take 2 = .ok (.invokevirtual 144, 3) := by decide +kernel
theorem dX11_take_5 : decode cX11_take 5 = .ok (.ifCond .ne 9, 3) := by decide +kernel
theorem dX11_take_8 : decode cX11_take 8 = .ok (.aload_n 0, 1) := by decide +kernel
theorem dX11_take_9 : decode cX11_take 9 = .ok (.iconst 1, 1) := by decide +kernel
theorem dX11_take_10 : decode cX11_take 10 = .ok (.invokevirtual 79, 3) := by decide +kernel
theorem dX11_take_13 : decode cX11_take 13 = .ok (.ireturn, 1) := by decide +kernel
theorem dX11_take_14 : decode cX11_take 14 = .ok (.aload_n 0, 1) := by decide +kernel
theorem dX11_take_15 : decode cX11_take 15 = .ok (.getfield 26, 3) := by decide +kernel
theorem dX11_take_18 : decode cX11_take 18 = .ok (.iload_n 1, 1) := by decide +kernel
theorem dX11_take_19 : decode cX11_take 19 = .ok (.invokevirtual 267, 3) := by decide +kernel
theorem dX11_take_22 : decode cX11_take 22 = .ok (.istore_n 2, 1) := by decide +kernel
theorem dX11_take_23 : decode cX11_take 23 = .ok (.iload_n 2, 1) := by decide +kernel
theorem dX11_take_24 : decode cX11_take 24 = .ok (.ifCond .ne 10, 3) := by decide +kernel
theorem dX11_take_27 : decode cX11_take 27 = .ok (.aload_n 0, 1) := by decide +kernel
theorem dX11_take_28 : decode cX11_take 28 = .ok (.bipush 6, 2) := by decide +kernel
theorem dX11_take_30 : decode cX11_take 30 = .ok (.invokevirtual 79, 3) := by decide +kernel
theorem dX11_take_33 : decode cX11_take 33 = .ok (.ireturn, 1) := by decide +kernel
theorem dX11_take_34 : decode cX11_take 34 = .ok (.aload_n 0, 1) := by decide +kernel
theorem dX11_take_35 : decode cX11_take 35 = .ok (.iload_n 1, 1) := by decide +kernel
theorem dX11_take_36 : decode cX11_take 36 = .ok (.iload_n 2, 1) := by decide +kernel
theorem dX11_take_37 : decode cX11_take 37 = .ok (.invokevirtual 273, 3) := by decide +kernel
theorem dX11_take_40 : decode cX11_take 40 = .ok (.ifCond .eq 9, 3) := by decide +kernel
theorem dX11_take_43 : decode cX11_take 43 = .ok (.aload_n 0, 1) := by decide +kernel
theorem dX11_take_44 : decode cX11_take 44 = .ok (.iconst 5, 1) := by decide +kernel
theorem dX11_take_45 : decode cX11_take 45 = .ok (.invokevirtual 79, 3) := by decide +kernel
theorem dX11_take_48 : decode cX11_take 48 = .ok (.ireturn, 1) := by decide +kernel
theorem dX11_take_49 : decode cX11_take 49 = .ok (.aload_n 0, 1) := by decide +kernel
theorem dX11_take_50 : decode cX11_take 50 = .ok (.getfield 67, 3) := by decide +kernel
theorem dX11_take_53 : decode cX11_take 53 = .ok (.aload_n 0, 1) := by decide +kernel
theorem dX11_take_54 : decode cX11_take 54 = .ok (.getfield 26, 3) := by decide +kernel
theorem dX11_take_57 : decode cX11_take 57 = .ok (.invokevirtual 302, 3) := by decide +kernel
theorem dX11_take_60 : decode cX11_take 60 = .ok (.aload_n 0, 1) := by decide +kernel
theorem dX11_take_61 : decode cX11_take 61 = .ok (.iload_n 1, 1) := by decide +kernel
theorem dX11_take_62 : decode cX11_take 62 = .ok (.iload_n 2, 1) := by decide +kernel
theorem dX11_take_63 : decode cX11_take 63 = .ok (.invokevirtual 270, 3) := by decide +kernel
theorem dX11_take_66 : decode cX11_take 66 = .ok (.istore_n 3, 1) := by decide +kernel
theorem dX11_take_67 : decode cX11_take 67 = .ok (.aload_n 0, 1) := by decide +kernel
theorem dX11_take_68 : decode cX11_take 68 = .ok (.getfield 26, 3) := by decide +kernel
theorem dX11_take_71 : decode cX11_take 71 = .ok (.getfield 160, 3) := by decide +kernel
theorem dX11_take_74 : decode cX11_take 74 = .ok (.iload_n 1, 1) := by decide +kernel
theorem dX11_take_75 : decode cX11_take 75 = .ok (.sipush 999, 3) := by decide +kernel
theorem dX11_take_78 : decode cX11_take 78 = .ok (.aload_n 0, 1) := by decide +kernel
theorem dX11_take_79 : decode cX11_take 79 = .ok (.getfield 26, 3) := by decide +kernel
theorem dX11_take_82 : decode cX11_take 82 = .ok (.getfield 160, 3) := by decide +kernel
theorem dX11_take_85 : decode cX11_take 85 = .ok (.iload_n 1, 1) := by decide +kernel
theorem dX11_take_86 : decode cX11_take 86 = .ok (.iaload, 1) := by decide +kernel
theorem dX11_take_87 : decode cX11_take 87 = .ok (.iload_n 3, 1) := by decide +kernel
theorem dX11_take_88 : decode cX11_take 88 = .ok (.iadd, 1) := by decide +kernel
theorem dX11_take_89 : decode cX11_take 89 = .ok (.invokestatic 323, 3) := by decide +kernel
theorem dX11_take_92 : decode cX11_take 92 = .ok (.iastore, 1) := by decide +kernel
theorem dX11_take_93 : decode cX11_take 93 = .ok (.aload_n 0, 1) := by decide +kernel
theorem dX11_take_94 : decode cX11_take 94 = .ok (.getfield 26, 3) := by decide +kernel
theorem dX11_take_97 : decode cX11_take 97 = .ok (.iload_n 1, 1) := by decide +kernel
theorem dX11_take_98 : decode cX11_take 98 = .ok (.iload_n 2, 1) := by decide +kernel
theorem dX11_take_99 : decode cX11_take 99 = .ok (.iconst 5, 1) := by decide +kernel
theorem dX11_take_100 : decode cX11_take 100 = .ok (.iconst 1, 1) := by decide +kernel
theorem dX11_take_101 : decode cX11_take 101 = .ok (.invokevirtual 315, 3) := by decide +kernel
theorem dX11_take_104 : decode cX11_take 104 = .ok (.aload_n 0, 1) := by decide +kernel
theorem dX11_take_105 : decode cX11_take 105 = .ok (.getfield 26, 3) := by decide +kernel
theorem dX11_take_108 : decode cX11_take 108 = .ok (.iload_n 1, 1) := by decide +kernel
theorem dX11_take_109 : decode cX11_take 109 = .ok (.iload_n 2, 1) := by decide +kernel
theorem dX11_take_110 : decode cX11_take 110 = .ok (.bipush 6, 2) := by decide +kernel
theorem dX11_take_112 : decode cX11_take 112 = .ok (.iconst 0, 1) := by decide +kernel
theorem dX11_take_113 : decode cX11_take 113 = .ok (.invokevirtual 315, 3) := by decide +kernel
theorem dX11_take_116 : decode cX11_take 116 = .ok (.aload_n 0, 1) := by decide +kernel
theorem dX11_take_117 : decode cX11_take 117 = .ok (.iload_n 3, 1) := by decide +kernel
theorem dX11_take_118 : decode cX11_take 118 = .ok (.invokevirtual 113, 3) := by decide +kernel
theorem dX11_take_121 : decode cX11_take 121 = .ok (.ireturn, 1) := by decide +kernel
theorem dX11_takes_0 : decode cX11_takes 0 = .ok (.aload_n 0, 1) := by decide +kernel
theorem dX11_takes_1 : decode cX11_takes 1 = .ok (.iload_n 1, 1) := by decide +kernel
theorem dX11_takes_2 : decode cX11_takes 2 = .ok (.invokevirtual 144, 3) := by decide +kernel
theorem dX11_takes_5 : decode cX11_takes 5 = .ok (.ifCond .ne 9, 3) := by decide +kernel
theorem dX11_takes_8 : decode cX11_takes 8 = .ok (.aload_n 0, 1) := by decide +kernel
theorem dX11_takes_9 : decode cX11_takes 9 = .ok (.iconst 1, 1) := by decide +kernel
theorem dX11_takes_10 : decode cX11_takes 10 = .ok (.invokevirtual 79, 3) := by decide +kernel
theorem dX11_takes_13 : decode cX11_takes 13 = .ok (.ireturn, 1) := by decide +kernel
theorem dX11_takes_14 : decode cX11_takes 14 = .ok (.aload_n 0, 1) := by decide +kernel
theorem dX11_takes_15 : decode cX11_takes 15 = .ok (.getfield 26, 3) := by decide +kernel
theorem dX11_takes_18 : decode cX11_takes 18 = .ok (.iload_n 1, 1) := by decide +kernel
theorem dX11_takes_19 : decode cX11_takes 19 = .ok (.invokevirtual 267, 3) := by decide +kernel
theorem dX11_takes_22 : decode cX11_takes 22 = .ok (.istore_n 2, 1) := by decide +kernel
theorem dX11_takes_23 : decode cX11_takes 23 = .ok (.aload_n 0, 1) := by decide +kernel
theorem dX11_takes_24 : decode cX11_takes 24 = .ok (.iload_n 2, 1) := by decide +kernel
theorem dX11_takes_25 : decode cX11_takes 25 = .ok (.ifCond .ne 8, 3) := by decide +kernel
theorem dX11_takes_28 : decode cX11_takes 28 = .ok (.bipush (-2), 2) := by decide +kernel
theorem dX11_takes_30 : decode cX11_takes 30 = .ok (.goto 9, 3) := by decide +kernel
theorem dX11_takes_33 : decode cX11_takes 33 = .ok (.aload_n 0, 1) := by decide +kernel
theorem dX11_takes_34 : decode cX11_takes 34 = .ok (.iload_n 1, 1) := by decide +kernel
theorem dX11_takes_35 : decode cX11_takes 35 = .ok (.iload_n 2, 1) := by decide +kernel
theorem dX11_takes_36 : decode cX11_takes 36 = .ok (.invokevirtual 270, 3) := by decide +kernel
theorem dX11_takes_39 : decode cX11_takes 39 = .ok (.invokevirtual 113, 3) := by decide +kernel
theorem dX11_takes_42 : decode cX11_takes 42 = .ok (.ireturn, 1) := by decide +kernel
theorem dX11_through_0 : decode cX11_through 0 = .ok (.aload_n 0, 1) := by decide +kernel
theorem dX11_through_1 : decode cX11_through 1 = .ok (.iload_n 1, 1) := by decide +kernel
theorem dX11_through_2 : decode cX11_through 2 = .ok (.iload_n 2, 1) := by decide +kernel
theorem dX11_through_3 : decode cX11_through 3 = .ok (.invokevirtual 180, 3) := by decide +kernel
theorem dX11_through_6 : decode cX11_through 6 = .ok (.ifCond .ne 9, 3) := by decide +kernel
theorem dX11_through_9 : decode cX11_through 9 = .ok (.aload_n 0, 1) := by decide +kernel
theorem dX11_through_10 : decode cX11_through 10 = .ok (.iconst 1, 1) := by decide +kernel
theorem dX11_through_11 : decode cX11_through 11 = .ok (.invokevirtual 79, 3) := by decide +kernel
theorem dX11_through_14 : decode cX11_through 14 = .ok (.ireturn, 1) := by decide +kernel
theorem dX11_through_15 : decode cX11_through 15 = .ok (.aload_n 0, 1) := by decide +kernel
theorem dX11_through_16 : decode cX11_through 16 = .ok (.aload_n 0, 1) := by decide +kernel
theorem dX11_through_17 : decode cX11_through 17 = .ok (.getfield 53, 3) := by decide +kernel
theorem dX11_through_20 : decode cX11_through 20 = .ok (.aload_n 0, 1) := by decide +kernel
theorem dX11_through_21 : decode cX11_through 21 = .ok (.getfield 16, 3) := by decide +kernel
theorem dX11_through_24 : decode cX11_through 24 = .ok (.aload_n 0, 1) := by decide +kernel
theorem dX11_through_25 : decode cX11_through 25 = .ok (.getfield 26, 3) := by decide +kernel
theorem dX11_through_28 : decode cX11_through 28 = .ok (.iload_n 1, 1) := by decide +kernel
theorem dX11_through_29 : decode cX11_through 29 = .ok (.iload_n 2, 1) := by decide +kernel
theorem dX11_through_30 : decode cX11_through 30 = .ok (.invokevirtual 223, 3) := by decide +kernel
theorem dX11_through_33 : decode cX11_through 33 = .ok (.bipush 8, 2) := by decide +kernel
theorem dX11_through_35 : decode cX11_through 35 = .ok (.idiv, 1) := by decide +kernel
theorem dX11_through_36 : decode cX11_through 36 = .ok (.invokevirtual 113, 3) := by decide +kernel
theorem dX11_through_39 : decode cX11_through 39 = .ok (.ireturn, 1) := by decide +kernel
theorem dX11_trouble_0 : decode cX11_trouble 0 = .ok (.aload_n 0, 1) := by decide +kernel
theorem dX11_trouble_1 : decode cX11_trouble 1 = .ok (.getfield 116, 3) := by decide +kernel
theorem dX11_trouble_4 : decode cX11_trouble 4 = .ok (.ireturn, 1) := by decide +kernel
theorem dX11_undo_0 : decode cX11_undo 0 = .ok (.aload_n 0, 1) := by decide +kernel
theorem dX11_undo_1 : decode cX11_undo 1 = .ok (.getfield 67, 3) := by decide +kernel
theorem dX11_undo_4 : decode cX11_undo 4 = .ok (.aload_n 0, 1) := by decide +kernel
theorem dX11_undo_5 : decode cX11_undo 5 = .ok (.getfield 26, 3) := by decide +kernel
theorem dX11_undo_8 : decode cX11_undo 8 = .ok (.invokevirtual 326, 3) := by decide +kernel
theorem dX11_undo_11 : decode cX11_undo 11 = .ok (.ifCond .eq 10, 3) := by decide +kernel
theorem dX11_undo_14 : decode cX11_undo 14 = .ok (.aload_n 0, 1) := by decide +kernel
theorem dX11_undo_15 : decode cX11_undo 15 = .ok (.invokevirtual 319, 3) := by decide +kernel
theorem dX11_undo_18 : decode cX11_undo 18 = .ok (.goto 9, 3) := by decide +kernel
theorem dX11_undo_21 : decode cX11_undo 21 = .ok (.aload_n 0, 1) := by decide +kernel
theorem dX11_undo_22 : decode cX11_undo 22 = .ok (.bipush 6, 2) := by decide +kernel
theorem dX11_undo_24 : decode cX11_undo 24 = .ok (.invokevirtual 309, 3) := by decide +kernel
theorem dX11_undo_27 : decode cX11_undo 27 = .ok (.ireturn, 1) := by decide +kernel
theorem dX11_warm_0 : decode cX11_warm 0 = .ok (.aload_n 0, 1) := by decide +kernel
theorem dX11_warm_1 : decode cX11_warm 1 = .ok (.iload_n 1, 1) := by decide +kernel
theorem dX11_warm_2 : decode cX11_warm 2 = .ok (.iload_n 2, 1) := by decide +kernel
theorem dX11_warm_3 : decode cX11_warm 3 = .ok (.invokevirtual 180, 3) := by decide +kernel
theorem dX11_warm_6 : decode cX11_warm 6 = .ok (.ifCond .ne 9, 3) := by decide +kernel
theorem dX11_warm_9 : decode cX11_warm 9 = .ok (.aload_n 0, 1) := by decide +kernel
theorem dX11_warm_10 : decode cX11_warm 10 = .ok (.iconst 1, 1) := by decide +kernel
theorem dX11_warm_11 : decode cX11_warm 11 = .ok (.invokevirtual 79, 3) := by decide +kernel
theorem dX11_warm_14 : decode cX11_warm 14 = .ok (.ireturn, 1) := by decide +kernel
theorem dX11_warm_15 : decode cX11_warm 15 = .ok (.aload_n 0, 1) := by decide +kernel
theorem dX11_warm_16 : decode cX11_warm 16 = .ok (.aload_n 0, 1) := by decide +kernel
theorem dX11_warm_17 : decode cX11_warm 17 = .ok (.iload_n 1, 1) := by decide +kernel
theorem dX11_warm_18 : decode cX11_warm 18 = .ok (.iload_n 2, 1) := by decide +kernel
theorem dX11_warm_19 : decode cX11_warm 19 = .ok (.invokevirtual 183, 3) := by decide +kernel
theorem dX11_warm_22 : decode cX11_warm 22 = .ok (.invokevirtual 113, 3) := by decide +kernel
theorem dX11_warm_25 : decode cX11_warm 25 = .ok (.ireturn, 1) := by decide +kernel
theorem dX11_warmth_0 : decode cX11_warmth 0 = .ok (.iconst 0, 1) := by decide +kernel
theorem dX11_warmth_1 : decode cX11_warmth 1 = .ok (.istore_n 3, 1) := by decide +kernel
theorem dX11_warmth_2 : decode cX11_warmth 2 = .ok (.iload_n 2, 1) := by decide +kernel
theorem dX11_warmth_3 : decode cX11_warmth 3 = .ok (.iconst 1, 1) := by decide +kernel
theorem dX11_warmth_4 : decode cX11_warmth 4 = .ok (.invokestatic 187, 3) := by decide +kernel
theorem dX11_warmth_7 : decode cX11_warmth 7 = .ok (.istore 4, 2) := by decide +kernel
theorem dX11_warmth_9 : decode cX11_warmth 9 = .ok (.iload 4, 2) := by decide +kernel
theorem dX11_warmth_11 : decode cX11_warmth 11 = .ok (.aload_n 0, 1) := by decide +kernel
theorem dX11_warmth_12 : decode cX11_warmth 12 = .ok (.getfield 26, 3) := by decide +kernel
theorem dX11_warmth_15 : decode cX11_warmth 15 = .ok (.getfield 154, 3) := by decide +kernel
theorem dX11_warmth_18 : decode cX11_warmth 18 = .ok (.iload_n 1, 1) := by decide +kernel
theorem dX11_warmth_19 : decode cX11_warmth 19 = .ok (.iaload, 1) := by decide +kernel
theorem dX11_warmth_20 : decode cX11_warmth 20 = .ok (.if_icmp .gt 44, 3) := by decide +kernel
theorem dX11_warmth_23 : decode cX11_warmth 23 = .ok (.aload_n 0, 1) := by decide +kernel
theorem dX11_warmth_24 : decode cX11_warmth 24 = .ok (.getfield 26, 3) := by decide +kernel
theorem dX11_warmth_27 : decode cX11_warmth 27 = .ok (.iload_n 1, 1) := by decide +kernel
theorem dX11_warmth_28 : decode cX11_warmth 28 = .ok (.iload 4, 2) := by decide +kernel
theorem dX11_warmth_30 : decode cX11_warmth 30 = .ok (.invokevirtual 192, 3) := by decide +kernel
theorem dX11_warmth_33 : decode cX11_warmth 33 = .ok (.ifCond .eq 25, 3) := by decide +kernel
theorem dX11_warmth_36 : decode cX11_warmth 36 = .ok (.iload_n 3, 1) := by decide +kernel
theorem dX11_warmth_37 : decode cX11_warmth 37 = .ok (.aload_n 0, 1) := by decide +kernel
theorem dX11_warmth_38 : decode cX11_warmth 38 = .ok (.getfield 16, 3) := by decide +kernel
theorem dX11_warmth_41 : decode cX11_warmth 41 = .ok (.aload_n 0, 1) := by decide +kernel
theorem dX11_warmth_42 : decode cX11_warmth 42 = .ok (.getfield 26, 3) := by decide +kernel
theorem dX11_warmth_45 : decode cX11_warmth 45 = .ok (.iload_n 1, 1) := by decide +kernel
theorem dX11_warmth_46 : decode cX11_warmth 46 = .ok (.iload 4, 2) := by decide +kernel
theorem dX11_warmth_48 : decode cX11_warmth 48 = .ok (.iconst 0, 1) := by decide +kernel
theorem dX11_warmth_49 : decode cX11_warmth 49 = .ok (.invokevirtual 176, 3) := by decide +kernel
theorem dX11_warmth_52 : decode cX11_warmth 52 = .ok (.iconst 2, 1) := by decide +kernel
theorem dX11_warmth_53 : decode cX11_warmth 53 = .ok (.invokevirtual 195, 3) := by decide +kernel
theorem dX11_warmth_56 : decode cX11_warmth 56 = .ok (.iadd, 1) := by decide +kernel
theorem dX11_warmth_57 : decode cX11_warmth 57 = .ok (.istore_n 3, 1) := by decide +kernel
theorem dX11_warmth_58 : decode cX11_warmth 58 = .ok (.iinc 4 1, 3) := by decide +kernel
theorem dX11_warmth_61 : decode cX11_warmth 61 = .ok (.goto (-52), 3) := by decide +kernel
theorem dX11_warmth_64 : decode cX11_warmth 64 = .ok (.iload_n 3, 1) := by decide +kernel
theorem dX11_warmth_65 : decode cX11_warmth 65 = .ok (.ireturn, 1) := by decide +kernel
theorem dX11_way_0 : decode cX11_way 0 = .ok (.aload_n 0, 1) := by decide +kernel
theorem dX11_way_1 : decode cX11_way 1 = .ok (.iload_n 1, 1) := by decide +kernel
theorem dX11_way_2 : decode cX11_way 2 = .ok (.iload_n 2, 1) := by decide +kernel
theorem dX11_way_3 : decode cX11_way 3 = .ok (.invokevirtual 180, 3) := by decide +kernel
theorem dX11_way_6 : decode cX11_way 6 = .ok (.ifCond .ne 9, 3) := by decide +kernel
theorem dX11_way_9 : decode cX11_way 9 = .ok (.aload_n 0, 1) := by decide +kernel
theorem dX11_way_10 : decode cX11_way 10 = .ok (.iconst 1, 1) := by decide +kernel
theorem dX11_way_11 : decode cX11_way 11 = .ok (.invokevirtual 79, 3) := by decide +kernel
theorem dX11_way_14 : decode cX11_way 14 = .ok (.ireturn, 1) := by decide +kernel
theorem dX11_way_15 : decode cX11_way 15 = .ok (.aload_n 0, 1) := by decide +kernel
theorem dX11_way_16 : decode cX11_way 16 = .ok (.aload_n 0, 1) := by decide +kernel
theorem dX11_way_17 : decode cX11_way 17 = .ok (.getfield 26, 3) := by decide +kernel
theorem dX11_way_20 : decode cX11_way 20 = .ok (.iload_n 1, 1) := by decide +kernel
theorem dX11_way_21 : decode cX11_way 21 = .ok (.iload_n 2, 1) := by decide +kernel
theorem dX11_way_22 : decode cX11_way 22 = .ok (.invokevirtual 220, 3) := by decide +kernel
theorem dX11_way_25 : decode cX11_way 25 = .ok (.invokevirtual 113, 3) := by decide +kernel
theorem dX11_way_28 : decode cX11_way 28 = .ok (.ireturn, 1) := by decide +kernel
theorem dX11_where_0 : decode cX11_where 0 = .ok (.aload_n 0, 1) := by decide +kernel
theorem dX11_where_1 : decode cX11_where 1 = .ok (.getfield 116, 3) := by decide +kernel
theorem dX11_where_4 : decode cX11_where 4 = .ok (.iconst 4, 1) := by decide +kernel
theorem dX11_where_5 : decode cX11_where 5 = .ok (.if_icmp .ne 10, 3) := by decide +kernel
theorem dX11_where_8 : decode cX11_where 8 = .ok (.aload_n 0, 1) := by decide +kernel
theorem dX11_where_9 : decode cX11_where 9 = .ok (.getfield 96, 3) := by decide +kernel
theorem dX11_where_12 : decode cX11_where 12 = .ok (.goto 4, 3) := by decide +kernel
theorem dX11_where_15 : decode cX11_where 15 = .ok (.iconst (-1), 1) := by decide +kernel
theorem dX11_where_16 : decode cX11_where 16 = .ok (.ireturn, 1) := by decide +kernel
theorem dX11_whose_0 : decode cX11_whose 0 = .ok (.aload_n 0, 1) := by decide +kernel
theorem dX11_whose_1 : decode cX11_whose 1 = .ok (.getfield 106, 3) := by decide +kernel
theorem dX11_whose_4 : decode cX11_whose 4 = .ok (.ifCond .eq 15, 3) := by decide +kernel
theorem dX11_whose_7 : decode cX11_whose 7 = .ok (.aload_n 0, 1) := by decide +kernel
theorem dX11_whose_8 : decode cX11_whose 8 = .ok (.getfield 16, 3) := by decide +kernel
theorem dX11_whose_11 : decode cX11_whose 11 = .ok (.iload_n 1, 1) := by decide +kernel
theorem dX11_whose_12 : decode cX11_whose 12 = .ok (.iload_n 2, 1) := by decide +kernel
theorem dX11_whose_13 : decode cX11_whose 13 = .ok (.invokevirtual 119, 3) := by decide +kernel
theorem dX11_whose_16 : decode cX11_whose 16 = .ok (.ifCond .ne 9, 3) := by decide +kernel
theorem dX11_whose_19 : decode cX11_whose 19 = .ok (.aload_n 0, 1) := by decide +kernel
theorem dX11_whose_20 : decode cX11_whose 20 = .ok (.iconst 1, 1) := by decide +kernel
theorem dX11_whose_21 : decode cX11_whose 21 = .ok (.invokevirtual 79, 3) := by decide +kernel
theorem dX11_whose_24 : decode cX11_whose 24 = .ok (.ireturn, 1) := by decide +kernel
theorem dX11_whose_25 : decode cX11_whose 25 = .ok (.aload_n 0, 1) := by decide +kernel
theorem dX11_whose_26 : decode cX11_whose 26 = .ok (.aload_n 0, 1) := by decide +kernel
theorem dX11_whose_27 : decode cX11_whose 27 = .ok (.getfield 16, 3) := by decide +kernel
theorem dX11_whose_30 : decode cX11_whose 30 = .ok (.aload_n 0, 1) := by decide +kernel
theorem dX11_whose_31 : decode cX11_whose 31 = .ok (.getfield 26, 3) := by decide +kernel
theorem dX11_whose_34 : decode cX11_whose 34 = .ok (.iload_n 1, 1) := by decide +kernel
theorem dX11_whose_35 : decode cX11_whose 35 = .ok (.iload_n 2, 1) := by decide +kernel
theorem dX11_whose_36 : decode cX11_whose 36 = .ok (.invokestatic 123, 3) := by decide +kernel
theorem dX11_whose_39 : decode cX11_whose 39 = .ok (.invokevirtual 113, 3) := by decide +kernel
theorem dX11_whose_42 : decode cX11_whose 42 = .ok (.ireturn, 1) := by decide +kernel
theorem dX11_worth_0 : decode cX11_worth 0 = .ok (.aload_n 0, 1) := by decide +kernel
theorem dX11_worth_1 : decode cX11_worth 1 = .ok (.iload_n 1, 1) := by decide +kernel
theorem dX11_worth_2 : decode cX11_worth 2 = .ok (.invokevirtual 144, 3) := by decide +kernel
theorem dX11_worth_5 : decode cX11_worth 5 = .ok (.ifCond .ne 9, 3) := by decide +kernel
theorem dX11_worth_8 : decode cX11_worth 8 = .ok (.aload_n 0, 1) := by decide +kernel
theorem dX11_worth_9 : decode cX11_worth 9 = .ok (.iconst 1, 1) := by decide +kernel
theorem dX11_worth_10 : decode cX11_worth 10 = .ok (.invokevirtual 79, 3) := by decide +kernel
theorem dX11_worth_13 : decode cX11_worth 13 = .ok (.ireturn, 1) := by decide +kernel
theorem dX11_worth_14 : decode cX11_worth 14 = .ok (.iconst 0, 1) := by decide +kernel
theorem dX11_worth_15 : decode cX11_worth 15 = .ok (.istore_n 2, 1) := by decide +kernel
theorem dX11_worth_16 : decode cX11_worth 16 = .ok (.iconst 1, 1) := by decide +kernel
theorem dX11_worth_17 : decode cX11_worth 17 = .ok (.istore_n 3, 1) := by decide +kernel
theorem dX11_worth_18 : decode cX11_worth 18 = .ok (.iload_n 3, 1) := by decide +kernel
theorem dX11_worth_19 : decode cX11_worth 19 = .ok (.aload_n 0, 1) := by decide +kernel
theorem dX11_worth_20 : decode cX11_worth 20 = .ok (.getfield 26, 3) := by decide +kernel
theorem dX11_worth_23 : decode cX11_worth 23 = .ok (.getfield 154, 3) := by decide +kernel
theorem dX11_worth_26 : decode cX11_worth 26 = .ok (.iload_n 1, 1) := by decide +kernel
theorem dX11_worth_27 : decode cX11_worth 27 = .ok (.iaload, 1) := by decide +kernel
theorem dX11_worth_28 : decode cX11_worth 28 = .ok (.if_icmp .ge 45, 3) := by decide +kernel
theorem dX11_worth_31 : decode cX11_worth 31 = .ok (.aload_n 0, 1) := by decide +kernel
theorem dX11_worth_32 : decode cX11_worth 32 = .ok (.getfield 26, 3) := by decide +kernel
theorem dX11_worth_35 : decode cX11_worth 35 = .ok (.iload_n 1, 1) := by decide +kernel
theorem dX11_worth_36 : decode cX11_worth 36 = .ok (.iload_n 3, 1) := by decide +kernel
theorem dX11_worth_37 : decode cX11_worth 37 = .ok (.invokevirtual 192, 3) := by decide +kernel
theorem dX11_worth_40 : decode cX11_worth 40 = .ok (.ifCond .eq 27, 3) := by decide +kernel
theorem dX11_worth_43 : decode cX11_worth 43 = .ok (.aload_n 0, 1) := by decide +kernel
theorem dX11_worth_44 : decode cX11_worth 44 = .ok (.iload_n 1, 1) := by decide +kernel
theorem dX11_worth_45 : decode cX11_worth 45 = .ok (.iload_n 3, 1) := by decide +kernel
theorem dX11_worth_46 : decode cX11_worth 46 = .ok (.invokevirtual 273, 3) := by decide +kernel
theorem dX11_worth_49 : decode cX11_worth 49 = .ok (.ifCond .eq 9, 3) := by decide +kernel
theorem dX11_worth_52 : decode cX11_worth 52 = .ok (.aload_n 0, 1) := by decide +kernel
theorem dX11_worth_53 : decode cX11_worth 53 = .ok (.iload_n 2, 1) := by decide +kernel
theorem dX11_worth_54 : decode cX11_worth 54 = .ok (.invokevirtual 113, 3) := by decide +kernel
theorem dX11_worth_57 : decode cX11_worth 57 = .ok (.ireturn, 1) := by decide +kernel
theorem dX11_worth_58 : decode cX11_worth 58 = .ok (.iload_n 2, 1) := by decide +kernel
theorem dX11_worth_59 : decode cX11_worth 59 = .ok (.aload_n 0, 1) := by decide +kernel
theorem dX11_worth_60 : decode cX11_worth 60 = .ok (.iload_n 1, 1) := by decide +kernel
theorem dX11_worth_61 : decode cX11_worth 61 = .ok (.iload_n 3, 1) := by decide +kernel
theorem dX11_worth_62 : decode cX11_worth 62 = .ok (.invokevirtual 270, 3) := by decide +kernel
theorem dX11_worth_65 : decode cX11_worth 65 = .ok (.iadd, 1) := by decide +kernel
theorem dX11_worth_66 : decode cX11_worth 66 = .ok (.istore_n 2, 1) := by decide +kernel
theorem dX11_worth_67 : decode cX11_worth 67 = .ok (.iinc 3 1, 3) := by decide +kernel
theorem dX11_worth_70 : decode cX11_worth 70 = .ok (.goto (-52), 3) := by decide +kernel
theorem dX11_worth_73 : decode cX11_worth 73 = .ok (.aload_n 0, 1) := by decide +kernel
theorem dX11_worth_74 : decode cX11_worth 74 = .ok (.iload_n 2, 1) := by decide +kernel
theorem dX11_worth_75 : decode cX11_worth 75 = .ok (.invokevirtual 113, 3) := by decide +kernel
theorem dX11_worth_78 : decode cX11_worth 78 = .ok (.ireturn, 1) := by decide +kernel
theorem dX11_years_0 : decode cX11_years 0 = .ok (.aload_n 0, 1) := by decide +kernel
theorem dX11_years_1 : decode cX11_years 1 = .ok (.getfield 106, 3) := by decide +kernel
theorem dX11_years_4 : decode cX11_years 4 = .ok (.ifCond .ne 9, 3) := by decide +kernel
theorem dX11_years_7 : decode cX11_years 7 = .ok (.aload_n 0, 1) := by decide +kernel
theorem dX11_years_8 : decode cX11_years 8 = .ok (.iconst 1, 1) := by decide +kernel
theorem dX11_years_9 : decode cX11_years 9 = .ok (.invokevirtual 79, 3) := by decide +kernel
theorem dX11_years_12 : decode cX11_years 12 = .ok (.ireturn, 1) := by decide +kernel
theorem dX11_years_13 : decode cX11_years 13 = .ok (.iload_n 1, 1) := by decide +kernel
theorem dX11_years_14 : decode cX11_years 14 = .ok (.iconst 1, 1) := by decide +kernel
theorem dX11_years_15 : decode cX11_years 15 = .ok (.if_icmp .lt 9, 3) := by decide +kernel
theorem dX11_years_18 : decode cX11_years 18 = .ok (.iload_n 1, 1) := by decide +kernel
theorem dX11_years_19 : decode cX11_years 19 = .ok (.bipush 20, 2) := by decide +kernel
theorem dX11_years_21 : decode cX11_years 21 = .ok (.if_icmp .le 9, 3) := by decide +kernel
theorem dX11_years_24 : decode cX11_years 24 = .ok (.aload_n 0, 1) := by decide +kernel
theorem dX11_years_25 : decode cX11_years 25 = .ok (.iconst 2, 1) := by decide +kernel
theorem dX11_years_26 : decode cX11_years 26 = .ok (.invokevirtual 79, 3) := by decide +kernel
theorem dX11_years_29 : decode cX11_years 29 = .ok (.ireturn, 1) := by decide +kernel
theorem dX11_years_30 : decode cX11_years 30 = .ok (.aload_n 0, 1) := by decide +kernel
theorem dX11_years_31 : decode cX11_years 31 = .ok (.getfield 26, 3) := by decide +kernel
theorem dX11_years_34 : decode cX11_years 34 = .ok (.getfield 249, 3) := by decide +kernel
theorem dX11_years_37 : decode cX11_years 37 = .ok (.iload_n 1, 1) := by decide +kernel
theorem dX11_years_38 : decode cX11_years 38 = .ok (.iadd, 1) := by decide +kernel
theorem dX11_years_39 : decode cX11_years 39 = .ok (.sipush 999, 3) := by decide +kernel
theorem dX11_years_42 : decode cX11_years 42 = .ok (.if_icmp .le 9, 3) := by decide +kernel
theorem dX11_years_45 : decode cX11_years 45 = .ok (.aload_n 0, 1) := by decide +kernel
theorem dX11_years_46 : decode cX11_years 46 = .ok (.iconst 3, 1) := by decide +kernel
theorem dX11_years_47 : decode cX11_years 47 = .ok (.invokevirtual 79, 3) := by decide +kernel
theorem dX11_years_50 : decode cX11_years 50 = .ok (.ireturn, 1) := by decide +kernel
theorem dX11_years_51 : decode cX11_years 51 = .ok (.aload_n 0, 1) := by decide +kernel
theorem dX11_years_52 : decode cX11_years 52 = .ok (.getfield 67, 3) := by decide +kernel
theorem dX11_years_55 : decode cX11_years 55 = .ok (.aload_n 0, 1) := by decide +kernel
theorem dX11_years_56 : decode cX11_years 56 = .ok (.getfield 26, 3) := by decide +kernel
theorem dX11_years_59 : decode cX11_years 59 = .ok (.invokevirtual 302, 3) := by decide +kernel
theorem dX11_years_62 : decode cX11_years 62 = .ok (.iconst 0, 1) := by decide +kernel
theorem dX11_years_63 : decode cX11_years 63 = .ok (.istore_n 2, 1) := by decide +kernel
theorem dX11_years_64 : decode cX11_years 64 = .ok (.iload_n 2, 1) := by decide +kernel
theorem dX11_years_65 : decode cX11_years 65 = .ok (.iload_n 1, 1) := by decide +kernel
theorem dX11_years_66 : decode cX11_years 66 = .ok (.if_icmp .ge 23, 3) := by decide +kernel
theorem dX11_years_69 : decode cX11_years 69 = .ok (.aload_n 0, 1) := by decide +kernel
theorem dX11_years_70 : decode cX11_years 70 = .ok (.getfield 16, 3) := by decide +kernel
theorem dX11_years_73 : decode cX11_years 73 = .ok (.aload_n 0, 1) := by decide +kernel
theorem dX11_years_74 : decode cX11_years 74 = .ok (.getfield 26, 3) := by decide +kernel
theorem dX11_years_77 : decode cX11_years 77 = .ok (.getstatic 235, 3) := by decide +kernel
theorem dX11_years_80 : decode cX11_years 80 = .ok (.invokestatic 238, 3) := by decide +kernel
theorem dX11_years_83 : decode cX11_years 83 = .ok (.iinc 2 1, 3) := by decide +kernel
theorem dX11_years_86 : decode cX11_years 86 = .ok (.goto (-22), 3) := by decide +kernel
theorem dX11_years_89 : decode cX11_years 89 = .ok (.aload_n 0, 1) := by decide +kernel
theorem dX11_years_90 : decode cX11_years 90 = .ok (.aload_n 0, 1) := by decide +kernel
theorem dX11_years_91 : decode cX11_years 91 = .ok (.getfield 26, 3) := by decide +kernel
theorem dX11_years_94 : decode cX11_years 94 = .ok (.invokevirtual 242, 3) := by decide +kernel
theorem dX11_years_97 : decode cX11_years 97 = .ok (.invokevirtual 113, 3) := by decide +kernel
theorem dX11_years_100 : decode cX11_years 100 = .ok (.ireturn, 1) := by decide +kernel
theorem dX11_yes_0 : decode cX11_yes 0 = .ok (.aload_n 0, 1) := by decide +kernel
theorem dX11_yes_1 : decode cX11_yes 1 = .ok (.iconst 0, 1) := by decide +kernel
theorem dX11_yes_2 : decode cX11_yes 2 = .ok (.putfield 116, 3) := by decide +kernel
theorem dX11_yes_5 : decode cX11_yes 5 = .ok (.iconst 1, 1) := by decide +kernel
theorem dX11_yes_6 : decode cX11_yes 6 = .ok (.ireturn, 1) := by decide +kernel
theorem dX1_addWater_0 : decode cX1_addWater 0 = .ok (.iload_n 2, 1) := by decide +kernel
theorem dX1_addWater_1 : decode cX1_addWater 1 = .ok (.aload_n 0, 1) := by decide +kernel
theorem dX1_addWater_2 : decode cX1_addWater 2 = .ok (.getfield 40, 3) := by decide +kernel
theorem dX1_addWater_5 : decode cX1_addWater 5 = .ok (.imul, 1) := by decide +kernel
theorem dX1_addWater_6 : decode cX1_addWater 6 = .ok (.iload_n 1, 1) := by decide +kernel
theorem dX1_addWater_7 : decode cX1_addWater 7 = .ok (.iadd, 1) := by decide +kernel
theorem dX1_addWater_8 : decode cX1_addWater 8 = .ok (.istore_n 3, 1) := by decide +kernel
theorem dX1_addWater_9 : decode cX1_addWater 9 = .ok (.iload_n 3, 1) := by decide +kernel
theorem dX1_addWater_10 : decode cX1_addWater 10 = .ok (.ifCond .lt 19, 3) := by decide +kernel
theorem dX1_addWater_13 : decode cX1_addWater 13 = .ok (.iload_n 3, 1) := by decide +kernel
theorem dX1_addWater_14 : decode cX1_addWater 14 = .ok (.aload_n 0, 1) := by decide +kernel
theorem dX1_addWater_15 : decode cX1_addWater 15 = .ok (.getfield 9, 3) := by decide +kernel
theorem dX1_addWater_18 : decode cX1_addWater 18 = .ok (.arraylength, 1) := by decide +kernel
theorem dX1_addWater_19 : decode cX1_addWater 19 = .ok (.if_icmp .ge 10, 3) := by decide +kernel
theorem dX1_addWater_22 : decode cX1_addWater 22 = .ok (.aload_n 0, 1) := by decide +kernel
theorem dX1_addWater_23 : decode cX1_addWater 23 = .ok (.getfield 9, 3) := by decide +kernel
theorem dX1_addWater_26 : decode cX1_addWater 26 = .ok (.iload_n 3, 1) := by decide +kernel
theorem dX1_addWater_27 : decode cX1_addWater 27 = .ok (.iconst 1, 1) := by decide +kernel
theorem dX1_addWater_28 : decode cX1_addWater 28 = .ok (.bastore, 1) := by decide +kernel
theorem dX1_addWater_29 : decode cX1_addWater 29 = .ok (.return_, 1) := by decide +kernel
theorem dX1_apart_0 : decode cX1_apart 0 = .ok (.iload_n 2, 1) := by decide +kernel
theorem dX1_apart_1 : decode cX1_apart 1 = .ok (.aload_n 0, 1) := by decide +kernel
theorem dX1_apart_2 : decode cX1_apart 2 = .ok (.getfield 19, 3) := by decide +kernel
theorem dX1_apart_5 : decode cX1_apart 5 = .ok (.iload_n 1, 1) := by decide +kernel
theorem dX1_apart_6 : decode cX1_apart 6 = .ok (.iaload, 1) := by decide +kernel
theorem dX1_apart_7 : decode cX1_apart 7 = .ok (.if_icmp .ge 14, 3) := by decide +kernel
theorem dX1_apart_10 : decode cX1_apart 10 = .ok (.aload_n 0, 1) := by decide +kernel
theorem dX1_apart_11 : decode cX1_apart 11 = .ok (.getfield 19, 3) := by decide +kernel
theorem dX1_apart_14 : decode cX1_apart 14 = .ok (.iload_n 1, 1) := by decide +kernel
theorem dX1_apart_15 : decode cX1_apart 15 = .ok (.iaload, 1) := by decide +kernel
theorem dX1_apart_16 : decode cX1_apart 16 = .ok (.iload_n 2, 1) := by decide +kernel
theorem dX1_apart_17 : decode cX1_apart 17 = .ok (.isub, 1) := by decide +kernel
theorem dX1_apart_18 : decode cX1_apart 18 = .ok (.goto 11, 3) := by decide +kernel
theorem dX1_apart_21 : decode cX1_apart 21 = .ok (.iload_n 2, 1) := by decide +kernel
theorem dX1_apart_22 : decode cX1_apart 22 = .ok (.aload_n 0, 1) := by decide +kernel
theorem dX1_apart_23 : decode cX1_apart 23 = .ok (.getfield 19, 3) := by decide +kernel
theorem dX1_apart_26 : decode cX1_apart 26 = .ok (.iload_n 1, 1) := by decide +kernel
theorem dX1_apart_27 : decode cX1_apart 27 = .ok (.iaload, 1) := by decide +kernel
theorem dX1_apart_28 : decode cX1_apart 28 = .ok (.isub, 1) := by decide +kernel
theorem dX1_apart_29 : decode cX1_apart 29 = .ok (.istore 4, 2) := by decide +kernel
theorem dX1_apart_31 : decode cX1_apart 31 = .ok (.iload_n 3, 1) := by decide +kernel
theorem dX1_apart_32 : decode cX1_apart 32 = .ok (.aload_n 0, 1) := by decide +kernel
theorem dX1_apart_33 : decode cX1_apart 33 = .ok (.getfield 22, 3) := by decide +kernel
theorem dX1_apart_36 : decode cX1_apart 36 = .ok (.iload_n 1, 1) := by decide +kernel
theorem dX1_apart_37 : decode cX1_apart 37 = .ok (.iaload, 1) := by decide +kernel
theorem dX1_apart_38 : decode cX1_apart 38 = .ok (.if_icmp .ge 14, 3) := by decide +kernel
theorem dX1_apart_41 : decode cX1_apart 41 = .ok (.aload_n 0, 1) := by decide +kernel
theorem dX1_apart_42 : decode cX1_apart 42 = .ok (.getfield 22, 3) := by decide +kernel
theorem dX1_apart_45 : decode cX1_apart 45 = .ok (.iload_n 1, 1) := by decide +kernel
theorem dX1_apart_46 : decode cX1_apart 46 = .ok (.iaload, 1) := by decide +kernel
theorem dX1_apart_47 : decode cX1_apart 47 = .ok (.iload_n 3, 1) := by decide +kernel
theorem dX1_apart_48 : decode cX1_apart 48 = .ok (.isub, 1) := by decide +kernel
theorem dX1_apart_49 : decode cX1_apart 49 = .ok (.goto 11, 3) := by decide +kernel
theorem dX1_apart_52 : decode cX1_apart 52 = .ok (.iload_n 3, 1) := by decide +kernel
theorem dX1_apart_53 : decode cX1_apart 53 = .ok (.aload_n 0, 1) := by decide +kernel
theorem dX1_apart_54 : decode cX1_apart 54 = .ok (.getfield 22, 3) := by decide +kernel
theorem dX1_apart_57 : decode cX1_apart 57 = .ok (.iload_n 1, 1) := by decide +kernel
theorem dX1_apart_58 : decode cX1_apart 58 = .ok (.iaload, 1) := by decide +kernel
theorem dX1_apart_59 : decode cX1_apart 59 = .ok (.isub, 1) := by decide +kernel
theorem dX1_apart_60 : decode cX1_apart 60 = .ok (.istore 5, 2) := by decide +kernel
theorem dX1_apart_62 : decode cX1_apart 62 = .ok (.iload 4, 2) := by decide +kernel
theorem dX1_apart_64 : decode cX1_apart 64 = .ok (.iload 5, 2) := by decide +kernel
theorem dX1_apart_66 : decode cX1_apart 66 = .ok (.if_icmp .ge 8, 3) := by decide +kernel
theorem dX1_apart_69 : decode cX1_apart 69 = .ok (.iload 5, 2) := by decide +kernel
theorem dX1_apart_71 : decode cX1_apart 71 = .ok (.goto 5, 3) := by decide +kernel
theorem dX1_apart_74 : decode cX1_apart 74 = .ok (.iload 4, 2) := by decide +kernel
theorem dX1_apart_76 : decode cX1_apart 76 = .ok (.ireturn, 1) := by decide +kernel
theorem dX1_clear_0 : decode cX1_clear 0 = .ok (.aload_n 0, 1) := by decide +kernel
theorem dX1_clear_1 : decode cX1_clear 1 = .ok (.iconst 0, 1) := by decide +kernel
theorem dX1_clear_2 : decode cX1_clear 2 = .ok (.putfield 40, 3) := by decide +kernel
theorem dX1_clear_5 : decode cX1_clear 5 = .ok (.aload_n 0, 1) := by decide +kernel
theorem dX1_clear_6 : decode cX1_clear 6 = .ok (.iconst 0, 1) := by decide +kernel
theorem dX1_clear_7 : decode cX1_clear 7 = .ok (.putfield 44, 3) := by decide +kernel
theorem dX1_clear_10 : decode cX1_clear 10 = .ok (.aload_n 0, 1) := by decide +kernel
theorem dX1_clear_11 : decode cX1_clear 11 = .ok (.iconst 0, 1) := by decide +kernel
theorem dX1_clear_12 : decode cX1_clear 12 = .ok (.putfield 47, 3) := by decide +kernel
theorem dX1_clear_15 : decode cX1_clear 15 = .ok (.aload_n 0, 1) := by decide +kernel
theorem dX1_clear_16 : decode cX1_clear 16 = .ok (.iconst 0, 1) := by decide +kernel
theorem dX1_clear_17 : decode cX1_clear 17 = .ok (.putfield 50, 3) := by decide +kernel
theorem dX1_clear_20 : decode cX1_clear 20 = .ok (.aload_n 0, 1) := by decide +kernel
theorem dX1_clear_21 : decode cX1_clear 21 = .ok (.iconst 0, 1) := by decide +kernel
theorem dX1_clear_22 : decode cX1_clear 22 = .ok (.putfield 53, 3) := by decide +kernel
theorem dX1_clear_25 : decode cX1_clear 25 = .ok (.aload_n 0, 1) := by decide +kernel
theorem dX1_clear_26 : decode cX1_clear 26 = .ok (.iconst 0, 1) := by decide +kernel
theorem dX1_clear_27 : decode cX1_clear 27 = .ok (.putfield 56, 3) := by decide +kernel
theorem dX1_clear_30 : decode cX1_clear 30 = .ok (.iconst 0, 1) := by decide +kernel
theorem dX1_clear_31 : decode cX1_clear 31 = .ok (.istore_n 1, 1) := by decide +kernel
theorem dX1_clear_32 : decode cX1_clear 32 = .ok (.iload_n 1, 1) := by decide +kernel
theorem dX1_clear_33 : decode cX1_clear 33 = .ok (.aload_n 0, 1) := by decide +kernel
theorem dX1_clear_34 : decode cX1_clear 34 = .ok (.getfield 9, 3) := by decide +kernel
theorem dX1_clear_37 : decode cX1_clear 37 = .ok (.arraylength, 1) := by decide +kernel
theorem dX1_clear_38 : decode cX1_clear 38 = .ok (.if_icmp .ge 16, 3) := by decide +kernel
theorem dX1_clear_41 : decode cX1_clear 41 = .ok (.aload_n 0, 1) := by decide +kernel
theorem dX1_clear_42 : decode cX1_clear 42 = .ok (.getfield 9, 3) := by decide +kernel
theorem dX1_clear_45 : decode cX1_clear 45 = .ok (.iload_n 1, 1) := by decide +kernel
theorem dX1_clear_46 : decode cX1_clear 46 = .ok (.iconst 0, 1) := by decide +kernel
theorem dX1_clear_47 : decode cX1_clear 47 = .ok (.bastore, 1) := by decide +kernel
theorem dX1_clear_48 : decode cX1_clear 48 = .ok (.iinc 1 1, 3) := by decide +kernel
theorem dX1_clear_51 : decode cX1_clear 51 = .ok (.goto (-19), 3) := by decide +kernel
theorem dX1_clear_54 : decode cX1_clear 54 = .ok (.iconst 0, 1) := by decide +kernel
theorem dX1_clear_55 : decode cX1_clear 55 = .ok (.istore_n 1, 1) := by decide +kernel
theorem dX1_clear_56 : decode cX1_clear 56 = .ok (.iload_n 1, 1) := by decide +kernel
theorem dX1_clear_57 : decode cX1_clear 57 = .ok (.bipush 6, 2) := by decide +kernel
theorem dX1_clear_59 : decode cX1_clear 59 = .ok (.if_icmp .ge 30, 3) := by decide +kernel
theorem dX1_clear_62 : decode cX1_clear 62 = .ok (.aload_n 0, 1) := by decide +kernel
theorem dX1_clear_63 : decode cX1_clear 63 = .ok (.getfield 31, 3) := by decide +kernel
theorem dX1_clear_66 : decode cX1_clear 66 = .ok (.iload_n 1, 1) := by decide +kernel
theorem dX1_clear_67 : decode cX1_clear 67 = .ok (.iconst 0, 1) := by decide +kernel
theorem dX1_clear_68 : decode cX1_clear 68 = .ok (.iastore, 1) := by decide +kernel
theorem dX1_clear_69 : decode cX1_clear 69 = .ok (.aload_n 0, 1) := by decide +kernel
theorem dX1_clear_70 : decode cX1_clear 70 = .ok (.getfield 34, 3) := by decide +kernel
theorem dX1_clear_73 : decode cX1_clear 73 = .ok (.iload_n 1, 1) := by decide +kernel
theorem dX1_clear_74 : decode cX1_clear 74 = .ok (.iconst (-1), 1) := by decide +kernel
theorem dX1_clear_75 : decode cX1_clear 75 = .ok (.iastore, 1) := by decide +kernel
theorem dX1_clear_76 : decode cX1_clear 76 = .ok (.aload_n 0, 1) := by decide +kernel
theorem dX1_clear_77 : decode cX1_clear 77 = .ok (.getfield 37, 3) := by decide +kernel
theorem dX1_clear_80 : decode cX1_clear 80 = .ok (.iload_n 1, 1) := by decide +kernel
theorem dX1_clear_81 : decode cX1_clear 81 = .ok (.iconst (-1), 1) := by decide +kernel
theorem dX1_clear_82 : decode cX1_clear 82 = .ok (.iastore, 1) := by decide +kernel
theorem dX1_clear_83 : decode cX1_clear 83 = .ok (.iinc 1 1, 3) := by decide +kernel
theorem dX1_clear_86 : decode cX1_clear 86 = .ok (.goto (-30), 3) := by decide +kernel
theorem dX1_clear_89 : decode cX1_clear 89 = .ok (.return_, 1) := by decide +kernel
theorem dX1_isOn_0 : decode cX1_isOn 0 = .ok (.iload_n 1, 1) := by decide +kernel
theorem dX1_isOn_1 : decode cX1_isOn 1 = .ok (.ifCond .lt 27, 3) := by decide +kernel
theorem dX1_isOn_4 : decode cX1_isOn 4 = .ok (.iload_n 1, 1) := by decide +kernel
theorem dX1_isOn_5 : decode cX1_isOn 5 = .ok (.aload_n 0, 1) := by decide +kernel
theorem dX1_isOn_6 : decode cX1_isOn 6 = .ok (.getfield 40, 3) := by decide +kernel
theorem dX1_isOn_9 : decode cX1_isOn 9 = .ok (.if_icmp .ge 19, 3) := by decide +kernel
theorem dX1_isOn_12 : decode cX1_isOn 12 = .ok (.iload_n 2, 1) := by decide +kernel
theorem dX1_isOn_13 : decode cX1_isOn 13 = .ok (.ifCond .lt 15, 3) := by decide +kernel
theorem dX1_isOn_16 : decode cX1_isOn 16 = .ok (.iload_n 2, 1) := by decide +kernel
theorem dX1_isOn_17 : decode cX1_isOn 17 = .ok (.aload_n 0, 1) := by decide +kernel
theorem dX1_isOn_18 : decode cX1_isOn 18 = .ok (.getfield 44, 3) := by decide +kernel
theorem dX1_isOn_21 : decode cX1_isOn 21 = .ok (.if_icmp .ge 7, 3) := by decide +kernel
theorem dX1_isOn_24 : decode cX1_isOn 24 = .ok (.iconst 1, 1) := by decide +kernel
theorem dX1_isOn_25 : decode cX1_isOn 25 = .ok (.goto 4, 3) := by decide +kernel
theorem dX1_isOn_28 : decode cX1_isOn 28 = .ok (.iconst 0, 1) := by decide +kernel
theorem dX1_isOn_29 : decode cX1_isOn 29 = .ok (.ireturn, 1) := by decide +kernel
theorem dX1_isTold_0 : decode cX1_isTold 0 = .ok (.aload_n 0, 1) := by decide +kernel
theorem dX1_isTold_1 : decode cX1_isTold 1 = .ok (.getfield 31, 3) := by decide +kernel
theorem dX1_isTold_4 : decode cX1_isTold 4 = .ok (.iload_n 2, 1) := by decide +kernel
theorem dX1_isTold_5 : decode cX1_isTold 5 = .ok (.iaload, 1) := by decide +kernel
theorem dX1_isTold_6 : decode cX1_isTold 6 = .ok (.iload_n 1, 1) := by decide +kernel
theorem dX1_isTold_7 : decode cX1_isTold 7 = .ok (.ishr, 1) := by decide +kernel
theorem dX1_isTold_8 : decode cX1_isTold 8 = .ok (.iconst 1, 1) := by decide +kernel
theorem dX1_isTold_9 : decode cX1_isTold 9 = .ok (.iand, 1) := by decide +kernel
theorem dX1_isTold_10 : decode cX1_isTold 10 = .ok (.iconst 1, 1) := by decide +kernel
theorem dX1_isTold_11 : decode cX1_isTold 11 = .ok (.if_icmp .eq 17, 3) := by decide +kernel
theorem dX1_isTold_14 : decode cX1_isTold 14 = .ok (.aload_n 0, 1) := by decide +kernel
theorem dX1_isTold_15 : decode cX1_isTold 15 = .ok (.getfield 31, 3) := by decide +kernel
theorem dX1_isTold_18 : decode cX1_isTold 18 = .ok (.iload_n 1, 1) := by decide +kernel
theorem dX1_isTold_19 : decode cX1_isTold 19 = .ok (.iaload, 1) := by decide +kernel
theorem dX1_isTold_20 : decode cX1_isTold 20 = .ok (.iload_n 2, 1) := by decide +kernel
theorem dX1_isTold_21 : decode cX1_isTold 21 = .ok (.ishr, 1) := by decide +kernel
theorem dX1_isTold_22 : decode cX1_isTold 22 = .ok (.iconst 1, 1) := by decide +kernel
theorem dX1_isTold_23 : decode cX1_isTold 23 = .ok (.iand, 1) := by decide +kernel
theorem dX1_isTold_24 : decode cX1_isTold 24 = .ok (.iconst 1, 1) := by decide +kernel
theorem dX1_isTold_25 : decode cX1_isTold 25 = .ok (.if_icmp .ne 7, 3) := by decide +kernel
theorem dX1_isTold_28 : decode cX1_isTold 28 = .ok (.iconst 1, 1) := by decide +kernel
theorem dX1_isTold_29 : decode cX1_isTold 29 = .ok (.goto 4, 3) := by decide +kernel
theorem dX1_isTold_32 : decode cX1_isTold 32 = .ok (.iconst 0, 1) := by decide +kernel
theorem dX1_isTold_33 : decode cX1_isTold 33 = .ok (.ireturn, 1) := by decide +kernel
theorem dX1_isWet_0 : decode cX1_isWet 0 = .ok (.iload_n 2, 1) := by decide +kernel
theorem dX1_isWet_1 : decode cX1_isWet 1 = .ok (.aload_n 0, 1) := by decide +kernel
theorem dX1_isWet_2 : decode cX1_isWet 2 = .ok (.getfield 40, 3) := by decide +kernel
theorem dX1_isWet_5 : decode cX1_isWet 5 = .ok (.imul, 1) := by decide +kernel
theorem dX1_isWet_6 : decode cX1_isWet 6 = .ok (.iload_n 1, 1) := by decide +kernel
theorem dX1_isWet_7 : decode cX1_isWet 7 = .ok (.iadd, 1) := by decide +kernel
theorem dX1_isWet_8 : decode cX1_isWet 8 = .ok (.istore_n 3, 1) := by decide +kernel
theorem dX1_isWet_9 : decode cX1_isWet 9 = .ok (.iload_n 3, 1) := by decide +kernel
theorem dX1_isWet_10 : decode cX1_isWet 10 = .ok (.ifCond .lt 25, 3) := by decide +kernel
theorem dX1_isWet_13 : decode cX1_isWet 13 = .ok (.iload_n 3, 1) := by decide +kernel
theorem dX1_isWet_14 : decode cX1_isWet 14 = .ok (.aload_n 0, 1) := by decide +kernel
theorem dX1_isWet_15 : decode cX1_isWet 15 = .ok (.getfield 9, 3) := by decide +kernel
theorem dX1_isWet_18 : decode cX1_isWet 18 = .ok (.arraylength, 1) := by decide +kernel
theorem dX1_isWet_19 : decode cX1_isWet 19 = .ok (.if_icmp .ge 16, 3) := by decide +kernel
theorem dX1_isWet_22 : decode cX1_isWet 22 = .ok (.aload_n 0, 1) := by decide +kernel
theorem dX1_isWet_23 : decode cX1_isWet 23 = .ok (.getfield 9, 3) := by decide +kernel
theorem dX1_isWet_26 : decode cX1_isWet 26 = .ok (.iload_n 3, 1) := by decide +kernel
theorem dX1_isWet_27 : decode cX1_isWet 27 = .ok (.baload, 1) := by decide +kernel
theorem dX1_isWet_28 : decode cX1_isWet 28 = .ok (.ifCond .eq 7, 3) := by decide +kernel
theorem dX1_isWet_31 : decode cX1_isWet 31 = .ok (.iconst 1, 1) := by decide +kernel
theorem dX1_isWet_32 : decode cX1_isWet 32 = .ok (.goto 4, 3) := by decide +kernel
theorem dX1_isWet_35 : decode cX1_isWet 35 = .ok (.iconst 0, 1) := by decide +kernel
theorem dX1_isWet_36 : decode cX1_isWet 36 = .ok (.ireturn, 1) := by decide +kernel
theorem dX1_setStonePart_0 : decode cX1_setStonePart 0 = .ok (.iload_n 1, 1) := by decide +kernel
theorem dX1_setStonePart_1 : decode cX1_setStonePart 1 = .ok (.iconst 5, 1) := by decide +kernel
theorem dX1_setStonePart_2 : decode cX1_setStonePart 2 = .ok (.imul, 1) := by decide +kernel
theorem dX1_setStonePart_3 : decode cX1_setStonePart 3 = .ok (.iload_n 2, 1) := by decide +kernel
theorem dX1_setStonePart_4 : decode cX1_setStonePart 4 = .ok (.iadd, 1) := by decide +kernel
theorem dX1_setStonePart_5 : decode cX1_setStonePart 5 = .ok (.istore 4, 2) := by decide +kernel
theorem dX1_setStonePart_7 : decode cX1_setStonePart 7 = .ok (.iload 4, 2) := by decide +kernel
theorem dX1_setStonePart_9 : decode cX1_setStonePart 9 = .ok (.ifCond .lt 21, 3) := by decide +kernel
theorem dX1_setStonePart_12 : decode cX1_setStonePart 12 = .ok (.iload 4, 2) := by decide +kernel
theorem dX1_setStonePart_14 : decode cX1_setStonePart 14 = .ok (.aload_n 0, 1) := by decide +kernel
theorem dX1_setStonePart_15 : decode cX1_setStonePart 15 = .ok (.getfield 15, 3) := by decide +kernel
theorem dX1_setStonePart_18 : decode cX1_setStonePart 18 = .ok (.arraylength, 1) := by decide +kernel
theorem dX1_setStonePart_19 : decode cX1_setStonePart 19 = .ok (.if_icmp .ge 11, 3) := by decide +kernel
theorem dX1_setStonePart_22 : decode cX1_setStonePart 22 = .ok (.aload_n 0, 1) := by decide +kernel
theorem dX1_setStonePart_23 : decode cX1_setStonePart 23 = .ok (.getfield 15, 3) := by decide +kernel
theorem dX1_setStonePart_26 : decode cX1_setStonePart 26 = .ok (.iload 4, 2) := by decide +kernel
theorem dX1_setStonePart_28 : decode cX1_setStonePart 28 = .ok (.iload_n 3, 1) := by decide +kernel
theorem dX1_setStonePart_29 : decode cX1_setStonePart 29 = .ok (.iastore, 1) := by decide +kernel
theorem dX1_setStonePart_30 : decode cX1_setStonePart 30 = .ok (.return_, 1) := by decide +kernel
theorem dX1_stonePart_0 : decode cX1_stonePart 0 = .ok (.iload_n 1, 1) := by decide +kernel
theorem dX1_stonePart_1 : decode cX1_stonePart 1 = .ok (.iconst 5, 1) := by decide +kernel
theorem dX1_stonePart_2 : decode cX1_stonePart 2 = .ok (.imul, 1) := by decide +kernel
theorem dX1_stonePart_3 : decode cX1_stonePart 3 = .ok (.iload_n 2, 1) := by decide +kernel
theorem dX1_stonePart_4 : decode cX1_stonePart 4 = .ok (.iadd, 1) := by decide +kernel
theorem dX1_stonePart_5 : decode cX1_stonePart 5 = .ok (.istore_n 3, 1) := by decide +kernel
theorem dX1_stonePart_6 : decode cX1_stonePart 6 = .ok (.iload_n 3, 1) := by decide +kernel
theorem dX1_stonePart_7 : decode cX1_stonePart 7 = .ok (.ifCond .lt 21, 3) := by decide +kernel
theorem dX1_stonePart_10 : decode cX1_stonePart 10 = .ok (.iload_n 3, 1) := by decide +kernel
theorem dX1_stonePart_11 : decode cX1_stonePart 11 = .ok (.aload_n 0, 1) := by decide +kernel
theorem dX1_stonePart_12 : decode cX1_stonePart 12 = .ok (.getfield 15, 3) := by decide +kernel
theorem dX1_stonePart_15 : decode cX1_stonePart 15 = .ok (.arraylength, 1) := by decide +kernel
theorem dX1_stonePart_16 : decode cX1_stonePart 16 = .ok (.if_icmp .ge 12, 3) := by decide +kernel
theorem dX1_stonePart_19 : decode cX1_stonePart 19 = .ok (.aload_n 0, 1) := by decide +kernel
theorem dX1_stonePart_20 : decode cX1_stonePart 20 = .ok (.getfield 15, 3) := by decide +kernel
theorem dX1_stonePart_23 : decode cX1_stonePart 23 = .ok (.iload_n 3, 1) := by decide +kernel
theorem dX1_stonePart_24 : decode cX1_stonePart 24 = .ok (.iaload, 1) := by decide +kernel
theorem dX1_stonePart_25 : decode cX1_stonePart 25 = .ok (.goto 4, 3) := by decide +kernel
theorem dX1_stonePart_28 : decode cX1_stonePart 28 = .ok (.iconst 0, 1) := by decide +kernel
theorem dX1_stonePart_29 : decode cX1_stonePart 29 = .ok (.ireturn, 1) := by decide +kernel
theorem dX2_addMark_0 : decode cX2_addMark 0 = .ok (.aload_n 0, 1) := by decide +kernel
theorem dX2_addMark_1 : decode cX2_addMark 1 = .ok (.getfield 25, 3) := by decide +kernel
theorem dX2_addMark_4 : decode cX2_addMark 4 = .ok (.iconst 3, 1) := by decide +kernel
theorem dX2_addMark_5 : decode cX2_addMark 5 = .ok (.if_icmp .lt 5, 3) := by decide +kernel
theorem dX2_addMark_8 : decode cX2_addMark 8 = .ok (.iconst (-1), 1) := by decide +kernel
theorem dX2_addMark_9 : decode cX2_addMark 9 = .ok (.ireturn, 1) := by decide +kernel
theorem dX2_addMark_10 : decode cX2_addMark 10 = .ok (.aload_n 0, 1) := by decide +kernel
theorem dX2_addMark_11 : decode cX2_addMark 11 = .ok (.getfield 17, 3) := by decide +kernel
theorem dX2_addMark_14 : decode cX2_addMark 14 = .ok (.aload_n 0, 1) := by decide +kernel
theorem dX2_addMark_15 : decode cX2_addMark 15 = .ok (.getfield 25, 3) := by decide +kernel
theorem dX2_addMark_18 : decode cX2_addMark 18 = .ok (.aaload, 1) := by decide +kernel
theorem dX2_addMark_19 : decode cX2_addMark 19 = .ok (.aload_n 1, 1) := by decide +kernel
theorem dX2_addMark_20 : decode cX2_addMark 20 = .ok (.invokevirtual 31, 3) := by decide +kernel
theorem dX2_addMark_23 : decode cX2_addMark 23 = .ok (.aload_n 0, 1) := by decide +kernel
theorem dX2_addMark_24 : decode cX2_addMark 24 = .ok (.dup, 1) := by decide +kernel
theorem dX2_addMark_25 : decode cX2_addMark 25 = .ok (.getfield 25, 3) := by decide +kernel
theorem dX2_addMark_28 : decode cX2_addMark 28 = .ok (.iconst 1, 1) := by decide +kernel
theorem dX2_addMark_29 : decode cX2_addMark 29 = .ok (.iadd, 1) := by decide +kernel
theorem dX2_addMark_30 : decode cX2_addMark 30 = .ok (.putfield 25, 3) := by decide +kernel
theorem dX2_addMark_33 : decode cX2_addMark 33 = .ok (.aload_n 0, 1) := by decide +kernel
theorem dX2_addMark_34 : decode cX2_addMark 34 = .ok (.getfield 25, 3) := by decide +kernel
theorem dX2_addMark_37 : decode cX2_addMark 37 = .ok (.iconst 1, 1) := by decide +kernel
theorem dX2_addMark_38 : decode cX2_addMark 38 = .ok (.isub, 1) := by decide +kernel
theorem dX2_addMark_39 : decode cX2_addMark 39 = .ok (.ireturn, 1) := by decide +kernel
theorem dX2_forget_0 : decode cX2_forget 0 = .ok (.aload_n 0, 1) := by decide +kernel
theorem dX2_forget_1 : decode cX2_forget 1 = .ok (.iconst 0, 1) := by decide +kernel
theorem dX2_forget_2 : decode cX2_forget 2 = .ok (.putfield 21, 3) := by decide +kernel
theorem dX2_forget_5 : decode cX2_forget 5 = .ok (.aload_n 0, 1) := by decide +kernel
theorem dX2_forget_6 : decode cX2_forget 6 = .ok (.iconst 0, 1) := by decide +kernel
theorem dX2_forget_7 : decode cX2_forget 7 = .ok (.putfield 25, 3) := by decide +kernel
theorem dX2_forget_10 : decode cX2_forget 10 = .ok (.return_, 1) := by decide +kernel
theorem dX2_goToMark_0 : decode cX2_goToMark 0 = .ok (.iload_n 2, 1) := by decide +kernel
theorem dX2_goToMark_1 : decode cX2_goToMark 1 = .ok (.ifCond .lt 11, 3) := by decide +kernel
theorem dX2_goToMark_4 : decode cX2_goToMark 4 = .ok (.iload_n 2, 1) := by decide +kernel
theorem dX2_goToMark_5 : decode cX2_goToMark 5 = .ok (.aload_n 0, 1) := by decide +kernel
theorem dX2_goToMark_6 : decode cX2_goToMark 6 = .ok (.getfield 25, 3) := by decide +kernel
theorem dX2_goToMark_9 : decode cX2_goToMark 9 = .ok (.if_icmp .lt 5, 3) := by decide +kernel
theorem dX2_goToMark_12 : decode cX2_goToMark 12 = .ok (.iconst 0, 1) := by decide +kernel
theorem dX2_goToMark_13 : decode cX2_goToMark 13 = .ok (.ireturn, 1) := by decide +kernel
theorem dX2_goToMark_14 : decode cX2_goToMark 14 = .ok (.aload_n 1, 1) := by decide +kernel
theorem dX2_goToMark_15 : decode cX2_goToMark 15 = .ok (.aload_n 0, 1) := by decide +kernel
theorem dX2_goToMark_16 : decode cX2_goToMark 16 = .ok (.getfield 17, 3) := by decide +kernel
theorem dX2_goToMark_19 : decode cX2_goToMark 19 = .ok (.iload_n 2, 1) := by decide +kernel
theorem dX2_goToMark_20 : decode cX2_goToMark 20 = .ok (.aaload, 1) := by decide +kernel
theorem dX2_goToMark_21 : decode cX2_goToMark 21 = .ok (.invokevirtual 31, 3) := by decide +kernel
theorem dX2_goToMark_24 : decode cX2_goToMark 24 = .ok (.aload_n 0, 1) := by decide +kernel
theorem dX2_goToMark_25 : decode cX2_goToMark 25 = .ok (.iconst 0, 1) := by decide +kernel
theorem dX2_goToMark_26 : decode cX2_goToMark 26 = .ok (.putfield 21, 3) := by decide +kernel
theorem dX2_goToMark_29 : decode cX2_goToMark 29 = .ok (.iconst 1, 1) := by decide +kernel
theorem dX2_goToMark_30 : decode cX2_goToMark 30 = .ok (.ireturn, 1) := by decide +kernel
theorem dX2_keep_0 : decode cX2_keep 0 = .ok (.aload_n 0, 1) := by decide +kernel
theorem dX2_keep_1 : decode cX2_keep 1 = .ok (.getfield 21, 3) := by decide +kernel
theorem dX2_keep_4 : decode cX2_keep 4 = .ok (.bipush 10, 2) := by decide +kernel
theorem dX2_keep_6 : decode cX2_keep 6 = .ok (.if_icmp .ne 26, 3) := by decide +kernel
theorem dX2_keep_9 : decode cX2_keep 9 = .ok (.aload_n 0, 1) := by decide +kernel
theorem dX2_keep_10 : decode cX2_keep 10 = .ok (.aload_n 0, 1) := by decide +kernel
theorem dX2_keep_11 : decode cX2_keep 11 = .ok (.getfield 28, 3) := by decide +kernel
theorem dX2_keep_14 : decode cX2_keep 14 = .ok (.iconst 1, 1) := by decide +kernel
theorem dX2_keep_15 : decode cX2_keep 15 = .ok (.iadd, 1) := by decide +kernel
theorem dX2_keep_16 : decode cX2_keep 16 = .ok (.bipush 10, 2) := by decide +kernel
theorem dX2_keep_18 : decode cX2_keep 18 = .ok (.irem, 1) := by decide +kernel
theorem dX2_keep_19 : decode cX2_keep 19 = .ok (.putfield 28, 3) := by decide +kernel
theorem dX2_keep_22 : decode cX2_keep 22 = .ok (.aload_n 0, 1) := by decide +kernel
theorem dX2_keep_23 : decode cX2_keep 23 = .ok (.dup, 1) := by decide +kernel
theorem dX2_keep_24 : decode cX2_keep 24 = .ok (.getfield 21, 3) := by decide +kernel
theorem dX2_keep_27 : decode cX2_keep 27 = .ok (.iconst 1, 1) := by decide +kernel
theorem dX2_keep_28 : decode cX2_keep 28 = .ok (.isub, 1) := by decide +kernel
theorem dX2_keep_29 : decode cX2_keep 29 = .ok (.putfield 21, 3) := by decide +kernel
theorem dX2_keep_32 : decode cX2_keep 32 = .ok (.aload_n 0, 1) := by decide +kernel
theorem dX2_keep_33 : decode cX2_keep 33 = .ok (.getfield 11, 3) := by decide +kernel
theorem dX2_keep_36 : decode cX2_keep 36 = .ok (.aload_n 0, 1) := by decide +kernel
theorem dX2_keep_37 : decode cX2_keep 37 = .ok (.getfield 28, 3) := by decide +kernel
theorem dX2_keep_40 : decode cX2_keep 40 = .ok (.aload_n 0, 1) := by decide +kernel
theorem dX2_keep_41 : decode cX2_keep 41 = .ok (.getfield 21, 3) := by decide +kernel
theorem dX2_keep_44 : decode cX2_keep 44 = .ok (.iadd, 1) := by decide +kernel
theorem dX2_keep_45 : decode cX2_keep 45 = .ok (.bipush 10, 2) := by decide +kernel
theorem dX2_keep_47 : decode cX2_keep 47 = .ok (.irem, 1) := by decide +kernel
theorem dX2_keep_48 : decode cX2_keep 48 = .ok (.aaload, 1) := by decide +kernel
theorem dX2_keep_49 : decode cX2_keep 49 = .ok (.aload_n 1, 1) := by decide +kernel
theorem dX2_keep_50 : decode cX2_keep 50 = .ok (.invokevirtual 31, 3) := by decide +kernel
theorem dX2_keep_53 : decode cX2_keep 53 = .ok (.aload_n 0, 1) := by decide +kernel
theorem dX2_keep_54 : decode cX2_keep 54 = .ok (.dup, 1) := by decide +kernel
theorem dX2_keep_55 : decode cX2_keep 55 = .ok (.getfield 21, 3) := by decide +kernel
theorem dX2_keep_58 : decode cX2_keep 58 = .ok (.iconst 1, 1) := by decide +kernel
theorem dX2_keep_59 : decode cX2_keep 59 = .ok (.iadd, 1) := by decide +kernel
theorem dX2_keep_60 : decode cX2_keep 60 = .ok (.putfield 21, 3) := by decide +kernel
theorem dX2_keep_63 : decode cX2_keep 63 = .ok (.return_, 1) := by decide +kernel
theorem dX2_stepBack_0 : decode cX2_stepBack 0 = .ok (.aload_n 0, 1) := by decide +kernel
theorem dX2_stepBack_1 : decode cX2_stepBack 1 = .ok (.getfield 21, 3) := by decide +kernel
theorem dX2_stepBack_4 : decode cX2_stepBack 4 = .ok (.ifCond .ne 5, 3) := by decide +kernel
theorem dX2_stepBack_7 : decode cX2_stepBack 7 = .ok (.iconst 0, 1) := by decide +kernel
theorem dX2_stepBack_8 : decode cX2_stepBack 8 = .ok (.ireturn, 1) := by decide +kernel
theorem dX2_stepBack_9 : decode cX2_stepBack 9 = .ok (.aload_n 0, 1) := by decide +kernel
theorem dX2_stepBack_10 : decode cX2_stepBack 10 = .ok (.dup, 1) := by decide +kernel
theorem dX2_stepBack_11 : decode cX2_stepBack 11 = .ok (.getfield 21, 3) := by decide +kernel
theorem dX2_stepBack_14 : decode cX2_stepBack 14 = .ok (.iconst 1, 1) := by decide +kernel
theorem dX2_stepBack_15 : decode cX2_stepBack 15 = .ok (.isub, 1) := by decide +kernel
theorem dX2_stepBack_16 : decode cX2_stepBack 16 = .ok (.putfield 21, 3) := by decide +kernel
theorem dX2_stepBack_19 : decode cX2_stepBack 19 = .ok (.aload_n 1, 1) := by decide +kernel
theorem dX2_stepBack_20 : decode cX2_stepBack 20 = .ok (.aload_n 0, 1) := by decide +kernel
theorem dX2_stepBack_21 : decode cX2_stepBack 21 = .ok (.getfield 11, 3) := by decide +kernel
theorem dX2_stepBack_24 : decode cX2_stepBack 24 = .ok (.aload_n 0, 1) := by decide +kernel
theorem dX2_stepBack_25 : decode cX2_stepBack 25 = .ok (.getfield 28, 3) := by decide +kernel
theorem dX2_stepBack_28 : decode cX2_stepBack 28 = .ok (.aload_n 0, 1) := by decide +kernel
theorem dX2_stepBack_29 : decode cX2_stepBack 29 = .ok (.getfield 21, 3) := by decide +kernel
theorem dX2_stepBack_32 : decode cX2_stepBack 32 = .ok (.iadd, 1) := by decide +kernel
theorem dX2_stepBack_33 : decode cX2_stepBack 33 = .ok (.bipush 10, 2) := by decide +kernel
theorem dX2_stepBack_35 : decode cX2_stepBack 35 = .ok (.irem, 1) := by decide +kernel
theorem dX2_stepBack_36 : decode cX2_stepBack 36 = .ok (.aaload, 1) := by decide +kernel
theorem dX2_stepBack_37 : decode cX2_stepBack 37 = .ok (.invokevirtual 31, 3) := by decide +kernel
theorem dX2_stepBack_40 : decode cX2_stepBack 40 = .ok (.iconst 1, 1) := by decide +kernel
theorem dX2_stepBack_41 : decode cX2_stepBack 41 = .ok (.ireturn, 1) := by decide +kernel
theorem dX3_checkLine_0 : decode cX3_checkLine 0 = .ok (.aload_n 0, 1) := by decide +kernel
theorem dX3_checkLine_1 : decode cX3_checkLine 1 = .ok (.iload_n 1, 1) := by decide +kernel
theorem dX3_checkLine_2 : decode cX3_checkLine 2 = .ok (.invokevirtual 143, 3) := by decide +kernel
theorem dX3_checkLine_5 : decode cX3_checkLine 5 = .ok (.ifCond .eq 18, 3) := by decide +kernel
theorem dX3_checkLine_8 : decode cX3_checkLine 8 = .ok (.aload_n 0, 1) := by decide +kernel
theorem dX3_checkLine_9 : decode cX3_checkLine 9 = .ok (.iconst 3, 1) := by decide +kernel
theorem dX3_checkLine_10 : decode cX3_checkLine 10 = .ok (.aload_n 0, 1) := by decide +kernel
theorem dX3_checkLine_11 : decode cX3_checkLine 11 = .ok (.getfield 12, 3) := by decide +kernel
theorem dX3_checkLine_14 : decode cX3_checkLine 14 = .ok (.getfield 96, 3) := by decide +kernel
theorem dX3_checkLine_17 : decode cX3_checkLine 17 = .ok (.invokevirtual 88, 3) := by decide +kernel
theorem dX3_checkLine_20 : decode cX3_checkLine 20 = .ok (.goto 65, 3) := by decide +kernel
theorem dX3_checkLine_23 : decode cX3_checkLine 23 = .ok (.aload_n 0, 1) := by decide +kernel
theorem dX3_checkLine_24 : decode cX3_checkLine 24 = .ok (.iload_n 1, 1) := by decide +kernel
theorem dX3_checkLine_25 : decode cX3_checkLine 25 = .ok (.invokevirtual 147, 3) := by decide +kernel
theorem dX3_checkLine_28 : decode cX3_checkLine 28 = .ok (.ifCond .eq 18, 3) := by decide +kernel
theorem dX3_checkLine_31 : decode cX3_checkLine 31 = .ok (.aload_n 0, 1) := by decide +kernel
theorem dX3_checkLine_32 : decode cX3_checkLine 32 = .ok (.iconst 5, 1) := by decide +kernel
theorem dX3_checkLine_33 : decode cX3_checkLine 33 = .ok (.aload_n 0, 1) := by decide +kernel
theorem dX3_checkLine_34 : decode cX3_checkLine 34 = .ok (.getfield 12, 3) := by decide +kernel
theorem dX3_checkLine_37 : decode cX3_checkLine 37 = .ok (.getfield 96, 3) := by decide +kernel
theorem dX3_checkLine_40 : decode cX3_checkLine 40 = .ok (.invokevirtual 88, 3) := by decide +kernel
theorem dX3_checkLine_43 : decode cX3_checkLine 43 = .ok (.goto 42, 3) := by decide +kernel
theorem dX3_checkLine_46 : decode cX3_checkLine 46 = .ok (.iload_n 1, 1) := by decide +kernel
theorem dX3_checkLine_47 : decode cX3_checkLine 47 = .ok (.ifCond .eq 10, 3) := by decide +kernel
theorem dX3_checkLine_50 : decode cX3_checkLine 50 = .ok (.aload_n 0, 1) := by decide +kernel
theorem dX3_checkLine_51 : decode cX3_checkLine 51 = .ok (.getfield 52, 3) := by decide +kernel
theorem dX3_checkLine_54 : decode cX3_checkLine 54 = .ok (.ifCond .eq 18, 3) := by decide +kernel
theorem dX3_checkLine_57 : decode cX3_checkLine 57 = .ok (.iload_n 1, 1) := by decide +kernel
theorem dX3_checkLine_58 : decode cX3_checkLine 58 = .ok (.iconst 2, 1) := by decide +kernel
theorem dX3_checkLine_59 : decode cX3_checkLine 59 = .ok (.if_icmp .ne 26, 3) := by decide +kernel
theorem dX3_checkLine_62 : decode cX3_checkLine 62 = .ok (.aload_n 0, 1) := by decide +kernel
theorem dX3_checkLine_63 : decode cX3_checkLine 63 = .ok (.getfield 29, 3) := by decide +kernel
theorem dX3_checkLine_66 : decode cX3_checkLine 66 = .ok (.getfield 85, 3) := by decide +kernel
theorem dX3_checkLine_69 : decode cX3_checkLine 69 = .ok (.ifCond .le 16, 3) := by decide +kernel
theorem dX3_checkLine_72 : decode cX3_checkLine 72 = .ok (.aload_n 0, 1) := by decide +kernel
theorem dX3_checkLine_73 : decode cX3_checkLine 73 = .ok (.bipush 6, 2) := by decide +kernel
theorem dX3_checkLine_75 : decode cX3_checkLine 75 = .ok (.aload_n 0, 1) := by decide +kernel
theorem dX3_checkLine_76 : decode cX3_checkLine 76 = .ok (.getfield 12, 3) := by decide +kernel
theorem dX3_checkLine_79 : decode cX3_checkLine 79 = .ok (.getfield 96, 3) := by decide +kernel
theorem dX3_checkLine_82 : decode cX3_checkLine 82 = .ok (.invokevirtual 88, 3) := by decide +kernel
theorem dX3_checkLine_85 : decode cX3_checkLine 85 = .ok (.return_, 1) := by decide +kernel
theorem dX3_choice_0 : decode cX3_choice 0 = .ok (.aload_n 0, 1) := by decide +kernel
theorem dX3_choice_1 : decode cX3_choice 1 = .ok (.getfield 12, 3) := by decide +kernel
theorem dX3_choice_4 : decode cX3_choice 4 = .ok (.aload_n 1, 1) := by decide +kernel
theorem dX3_choice_5 : decode cX3_choice 5 = .ok (.invokevirtual 151, 3) := by decide +kernel
theorem dX3_choice_8 : decode cX3_choice 8 = .ok (.ifCond .eq 7, 3) := by decide +kernel
theorem dX3_choice_11 : decode cX3_choice 11 = .ok (.iconst 0, 1) := by decide +kernel
theorem dX3_choice_12 : decode cX3_choice 12 = .ok (.goto 50, 3) := by decide +kernel
theorem dX3_choice_15 : decode cX3_choice 15 = .ok (.aload_n 0, 1) := by decide +kernel
theorem dX3_choice_16 : decode cX3_choice 16 = .ok (.getfield 12, 3) := by decide +kernel
theorem dX3_choice_19 : decode cX3_choice 19 = .ok (.aload_n 2, 1) := by decide +kernel
theorem dX3_choice_20 : decode cX3_choice 20 = .ok (.invokevirtual 151, 3) := by decide +kernel
theorem dX3_choice_23 : decode cX3_choice 23 = .ok (.ifCond .eq 7, 3) := by decide +kernel
theorem dX3_choice_26 : decode cX3_choice 26 = .ok (.iconst 1, 1) := by decide +kernel
theorem dX3_choice_27 : decode cX3_choice 27 = .ok (.goto 35, 3) := by decide +kernel
theorem dX3_choice_30 : decode cX3_choice 30 = .ok (.aload_n 0, 1) := by decide +kernel
theorem dX3_choice_31 : decode cX3_choice 31 = .ok (.getfield 12, 3) := by decide +kernel
theorem dX3_choice_34 : decode cX3_choice 34 = .ok (.aload_n 3, 1) := by decide +kernel
theorem dX3_choice_35 : decode cX3_choice 35 = .ok (.invokevirtual 151, 3) := by decide +kernel
theorem dX3_choice_38 : decode cX3_choice 38 = .ok (.ifCond .eq 7, 3) := by decide +kernel
theorem dX3_choice_41 : decode cX3_choice 41 = .ok (.iconst 2, 1) := by decide +kernel
theorem dX3_choice_42 : decode cX3_choice 42 = .ok (.goto 20, 3) := by decide +kernel
theorem dX3_choice_45 : decode cX3_choice 45 = .ok (.aload_n 0, 1) := by decide +kernel
theorem dX3_choice_46 : decode cX3_choice 46 = .ok (.getfield 12, 3) := by decide +kernel
theorem dX3_choice_49 : decode cX3_choice 49 = .ok (.aload 4, 2) := by decide +kernel
theorem dX3_choice_51 : decode cX3_choice 51 = .ok (.invokevirtual 151, 3) := by decide +kernel
theorem dX3_choice_54 : decode cX3_choice 54 = .ok (.ifCond .eq 7, 3) := by decide +kernel
theorem dX3_choice_57 : decode cX3_choice 57 = .ok (.iconst 3, 1) := by decide +kernel
theorem dX3_choice_58 : decode cX3_choice 58 = .ok (.goto 4, 3) := by decide +kernel
theorem dX3_choice_61 : decode cX3_choice 61 = .ok (.iconst (-1), 1) := by decide +kernel
theorem dX3_choice_62 : decode cX3_choice 62 = .ok (.istore 5, 2) := by decide +kernel
theorem dX3_choice_64 : decode cX3_choice 64 = .ok (.iload 5, 2) := by decide +kernel
theorem dX3_choice_66 : decode cX3_choice 66 = .ok (.iconst (-1), 1) := by decide +kernel
theorem dX3_choice_67 : decode cX3_choice 67 = .ok (.if_icmp .ne 15, 3) := by decide +kernel
theorem dX3_choice_70 : decode cX3_choice 70 = .ok (.aload_n 0, 1) := by decide +kernel
theorem dX3_choice_71 : decode cX3_choice 71 = .ok (.iconst 1, 1) := by decide +kernel
theorem dX3_choice_72 : decode cX3_choice 72 = .ok (.aload_n 0, 1) := by decide +kernel
theorem dX3_choice_73 : decode cX3_choice 73 = .ok (.getfield 12, 3) := by decide +kernel
theorem dX3_choice_76 : decode cX3_choice 76 = .ok (.getfield 96, 3) := by decide +kernel
theorem dX3_choice_79 : decode cX3_choice 79 = .ok (.invokevirtual 88, 3) := by decide +kernel
theorem dX3_choice_82 : decode cX3_choice 82 = .ok (.aload_n 0, 1) := by decide +kernel
theorem dX3_choice_83 : decode cX3_choice 83 = .ok (.getfield 45, 3) := by decide +kernel
theorem dX3_choice_86 : decode cX3_choice 86 = .ok (.ifCond .eq 5, 3) := by decide +kernel
theorem dX3_choice_89 : decode cX3_choice 89 = .ok (.iconst 0, 1) := by decide +kernel
theorem dX3_choice_90 : decode cX3_choice 90 = .ok (.ireturn, 1) := by decide +kernel
theorem dX3_choice_91 : decode cX3_choice 91 = .ok (.aload_n 0, 1) := by decide +kernel
theorem dX3_choice_92 : decode cX3_choice 92 = .ok (.getfield 12, 3) := by decide +kernel
theorem dX3_choice_95 : decode cX3_choice 95 = .ok (.invokevirtual 103, 3) := by decide +kernel
theorem dX3_choice_98 : decode cX3_choice 98 = .ok (.iload 5, 2) := by decide +kernel
theorem dX3_choice_100 : decode cX3_choice 100 = .ok (.ireturn, 1) := by decide +kernel
theorem dX3_fail_0 : decode cX3_fail 0 = .ok (.aload_n 0, 1) := by decide +kernel
theorem dX3_fail_1 : decode cX3_fail 1 = .ok (.getfield 45, 3) := by decide +kernel
theorem dX3_fail_4 : decode cX3_fail 4 = .ok (.ifCond .ne 13, 3) := by decide +kernel
theorem dX3_fail_7 : decode cX3_fail 7 = .ok (.aload_n 0, 1) := by decide +kernel
theorem dX3_fail_8 : decode cX3_fail 8 = .ok (.iload_n 1, 1) := by decide +kernel
theorem dX3_fail_9 : decode cX3_fail 9 = .ok (.putfield 45, 3) := by decide +kernel
theorem dX3_fail_12 : decode cX3_fail 12 = .ok (.aload_n 0, 1) := by decide +kernel
theorem dX3_fail_13 : decode cX3_fail 13 = .ok (.iload_n 2, 1) := by decide +kernel
theorem dX3_fail_14 : decode cX3_fail 14 = .ok (.putfield 49, 3) := by decide +kernel
theorem dX3_fail_17 : decode cX3_fail 17 = .ok (.return_, 1) := by decide +kernel
theorem dX3_findName_0 : decode cX3_findName 0 = .ok (.iconst 0, 1) := by decide +kernel
theorem dX3_findName_1 : decode cX3_findName 1 = .ok (.istore_n 1, 1) := by decide +kernel
theorem dX3_findName_2 : decode cX3_findName 2 = .ok (.iload_n 1, 1) := by decide +kernel
theorem dX3_findName_3 : decode cX3_findName 3 = .ok (.aload_n 0, 1) := by decide +kernel
theorem dX3_findName_4 : decode cX3_findName 4 = .ok (.getfield 65, 3) := by decide +kernel
theorem dX3_findName_7 : decode cX3_findName 7 = .ok (.if_icmp .ge 39, 3) := by decide +kernel
theorem dX3_findName_10 : decode cX3_findName 10 = .ok (.aload_n 0, 1) := by decide +kernel
theorem dX3_findName_11 : decode cX3_findName 11 = .ok (.getfield 12, 3) := by decide +kernel
theorem dX3_findName_14 : decode cX3_findName 14 = .ok (.getfield 75, 3) := by decide +kernel
theorem dX3_findName_17 : decode cX3_findName 17 = .ok (.iconst 1, 1) := by decide +kernel
theorem dX3_findName_18 : decode cX3_findName 18 = .ok (.if_icmp .ne 22, 3) := by decide +kernel
theorem dX3_findName_21 : decode cX3_findName 21 = .ok (.aload_n 0, 1) := by decide +kernel
theorem dX3_findName_22 : decode cX3_findName 22 = .ok (.getfield 18, 3) := by decide +kernel
theorem dX3_findName_25 : decode cX3_findName 25 = .ok (.iload_n 1, 1) := by decide +kernel
theorem dX3_findName_26 : decode cX3_findName 26 = .ok (.laload, 1) := by decide +kernel
theorem dX3_findName_27 : decode cX3_findName 27 = .ok (.aload_n 0, 1) := by decide +kernel
theorem dX3_findName_28 : decode cX3_findName 28 = .ok (.getfield 12, 3) := by decide +kernel
theorem dX3_findName_31 : decode cX3_findName 31 = .ok (.getfield 337, 3) := by decide +kernel
theorem dX3_findName_34 : decode cX3_findName 34 = .ok (.lcmp, 1) := by decide +kernel
theorem dX3_findName_35 : decode cX3_findName 35 = .ok (.ifCond .ne 5, 3) := by decide +kernel
theorem dX3_findName_38 : decode cX3_findName 38 = .ok (.iload_n 1, 1) := by decide +kernel
theorem dX3_findName_39 : decode cX3_findName 39 = .ok (.ireturn, 1) := by decide +kernel
theorem dX3_findName_40 : decode cX3_findName 40 = .ok (.iinc 1 1, 3) := by decide +kernel
theorem dX3_findName_43 : decode cX3_findName 43 = .ok (.goto (-41), 3) := by decide +kernel
theorem dX3_findName_46 : decode cX3_findName 46 = .ok (.iconst (-1), 1) := by decide +kernel
theorem dX3_findName_47 : decode cX3_findName 47 = .ok (.ireturn, 1) := by decide +kernel
theorem dX3_isLineAgain_0 : decode cX3_isLineAgain 0 = .ok (.iload_n 1, 1) := by decide +kernel
theorem dX3_isLineAgain_1 : decode cX3_isLineAgain 1 = .ok (.ifCond .ne 10, 3) := by decide +kernel
theorem dX3_isLineAgain_4 : decode cX3_isLineAgain 4 = .ok (.aload_n 0, 1) := by decide +kernel
theorem dX3_isLineAgain_5 : decode cX3_isLineAgain 5 = .ok (.getfield 52, 3) := by decide +kernel
theorem dX3_isLineAgain_8 : decode cX3_isLineAgain 8 = .ok (.ifCond .ne 15, 3) := by decide +kernel
theorem dX3_isLineAgain_11 : decode cX3_isLineAgain 11 = .ok (.iload_n 1, 1) := by decide +kernel
theorem dX3_isLineAgain_12 : decode cX3_isLineAgain 12 = .ok (.iconst 1, 1) := by decide +kernel
theorem dX3_isLineAgain_13 : decode cX3_isLineAgain 13 = .ok (.if_icmp .ne 14, 3) := by decide +kernel
theorem dX3_isLineAgain_16 : decode cX3_isLineAgain 16 = .ok (.aload_n 0, 1) := by decide +kernel
theorem dX3_isLineAgain_17 : decode cX3_isLineAgain 17 = .ok (.getfield 56, 3) := by decide +kernel
theorem dX3_isLineAgain_20 : decode cX3_isLineAgain 20 = .ok (.ifCond .eq 7, 3) := by decide +kernel
theorem dX3_isLineAgain_23 : decode cX3_isLineAgain 23 = .ok (.iconst 1, 1) := by decide +kernel
theorem dX3_isLineAgain_24 : decode cX3_isLineAgain 24 = .ok (.goto 4, 3) := by decide +kernel
theorem dX3_isLineAgain_27 : decode cX3_isLineAgain 27 = .ok (.iconst 0, 1) := by decide +kernel
theorem dX3_isLineAgain_28 : decode cX3_isLineAgain 28 = .ok (.ireturn, 1) := by decide +kernel
theorem dX3_isLineTooMany_0 : decode cX3_isLineTooMany 0 = .ok (.iload_n 1, 1) := by decide +kernel
theorem dX3_isLineTooMany_1 : decode cX3_isLineTooMany 1 = .ok (.tableswitch 143 2 8 #[43, 58, 75, 143, 92, 110, 128], 43) := by decide +kernel
theorem dX3_isLineTooMany_44 : decode cX3_isLineTooMany 44 = .ok (.aload_n 0, 1) := by decide +kernel
theorem dX3_isLineTooMany_45 : decode cX3_isLineTooMany 45 = .ok (.getfield 59, 3) := by decide +kernel
theorem dX3_isLineTooMany_48 : decode cX3_isLineTooMany 48 = .ok (.bipush 10, 2) := by decide +kernel
theorem dX3_isLineTooMany_50 : decode cX3_isLineTooMany 50 = .ok (.if_icmp .lt 7, 3) := by decide +kernel
theorem dX3_isLineTooMany_53 : decode cX3_isLineTooMany 53 = .ok (.iconst 1, 1) := by decide +kernel
theorem dX3_isLineTooMany_54 : decode cX3_isLineTooMany 54 = .ok (.goto 4, 3) := by decide +kernel
theorem dX3_isLineTooMany_57 : decode cX3_isLineTooMany 57 = .ok (.iconst 0, 1) := by decide +kernel
theorem dX3_isLineTooMany_58 : decode cX3_isLineTooMany 58 = .ok (.ireturn, 1) := by decide +kernel
theorem dX3_isLineTooMany_59 : decode cX3_isLineTooMany 59 = .ok (.aload_n 0, 1) := by decide +kernel
theorem dX3_isLineTooMany_60 : decode cX3_isLineTooMany 60 = .ok (.getfield 29, 3) := by decide +kernel
theorem dX3_isLineTooMany_63 : decode cX3_isLineTooMany 63 = .ok (.getfield 82, 3) := by decide +kernel
theorem dX3_isLineTooMany_66 : decode cX3_isLineTooMany 66 = .ok (.iconst 4, 1) := by decide +kernel
theorem dX3_isLineTooMany_67 : decode cX3_isLineTooMany 67 = .ok (.if_icmp .lt 7, 3) := by decide +kernel
theorem dX3_isLineTooMany_70 : decode cX3_isLineTooMany 70 = .ok (.iconst 1, 1) := by decide +kernel
theorem dX3_isLineTooMany_71 : decode cX3_isLineTooMany 71 = .ok (.goto 4, 3) := by decide +kernel
theorem dX3_isLineTooMany_74 : decode cX3_isLineTooMany 74 = .ok (.iconst 0, 1) := by decide +kernel
theorem dX3_isLineTooMany_75 : decode cX3_isLineTooMany 75 = .ok (.ireturn, 1) := by decide +kernel
theorem dX3_isLineTooMany_76 : decode cX3_isLineTooMany 76 = .ok (.aload_n 0, 1) := by decide +kernel
theorem dX3_isLineTooMany_77 : decode cX3_isLineTooMany 77 = .ok (.getfield 29, 3) := by decide +kernel
theorem dX3_isLineTooMany_80 : decode cX3_isLineTooMany 80 = .ok (.getfield 85, 3) := by decide +kernel
theorem dX3_isLineTooMany_83 : decode cX3_isLineTooMany 83 = .ok (.iconst 4, 1) := by decide +kernel
theorem dX3_isLineTooMany_84 : decode cX3_isLineTooMany 84 = .ok (.if_icmp .lt 7, 3) := by decide +kernel
theorem dX3_isLineTooMany_87 : decode cX3_isLineTooMany 87 = .ok (.iconst 1, 1) := by decide +kernel
theorem dX3_isLineTooMany_88 : decode cX3_isLineTooMany 88 = .ok (.goto 4, 3) := by decide +kernel
theorem dX3_isLineTooMany_91 : decode cX3_isLineTooMany 91 = .ok (.iconst 0, 1) := by decide +kernel
theorem dX3_isLineTooMany_92 : decode cX3_isLineTooMany 92 = .ok (.ireturn, 1) := by decide +kernel
theorem dX3_isLineTooMany_93 : decode cX3_isLineTooMany 93 = .ok (.aload_n 0, 1) := by decide +kernel
theorem dX3_isLineTooMany_94 : decode cX3_isLineTooMany 94 = .ok (.getfield 29, 3) := by decide +kernel
theorem dX3_isLineTooMany_97 : decode cX3_isLineTooMany 97 = .ok (.getfield 175, 3) := by decide +kernel
theorem dX3_isLineTooMany_100 : decode cX3_isLineTooMany 100 = .ok (.bipush 6, 2) := by decide +kernel
theorem dX3_isLineTooMany_102 : decode cX3_isLineTooMany 102 = .ok (.if_icmp .lt 7, 3) := by decide +kernel
theorem dX3_isLineTooMany_105 : decode cX3_isLineTooMany 105 = .ok (.iconst 1, 1) := by decide +kernel
theorem dX3_isLineTooMany_106 : decode cX3_isLineTooMany 106 = .ok (.goto 4, 3) := by decide +kernel
theorem dX3_isLineTooMany_109 : decode cX3_isLineTooMany 109 = .ok (.iconst 0, 1) := by decide +kernel
theorem dX3_isLineTooMany_110 : decode cX3_isLineTooMany 110 = .ok (.ireturn, 1) := by decide +kernel
theorem dX3_isLineTooMany_111 : decode cX3_isLineTooMany 111 = .ok (.aload_n 0, 1) := by decide +kernel
theorem dX3_isLineTooMany_112 : decode cX3_isLineTooMany 112 = .ok (.getfield 29, 3) := by decide +kernel
theorem dX3_isLineTooMany_115 : decode cX3_isLineTooMany 115 = .ok (.getfield 178, 3) := by decide +kernel
theorem dX3_isLineTooMany_118 : decode cX3_isLineTooMany 118 = .ok (.bipush 6, 2) := by decide +kernel
theorem dX3_isLineTooMany_120 : decode cX3_isLineTooMany 120 = .ok (.if_icmp .lt 7, 3) := by decide +kernel
theorem dX3_isLineTooMany_123 : decode cX3_isLineTooMany 123 = .ok (.iconst 1, 1) := by decide +kernel
theorem dX3_isLineTooMany_124 : decode cX3_isLineTooMany 124 = .ok (.goto 4, 3) := by decide +kernel
theorem dX3_isLineTooMany_127 : decode cX3_isLineTooMany 127 = .ok (.iconst 0, 1) := by decide +kernel
theorem dX3_isLineTooMany_128 : decode cX3_isLineTooMany 128 = .ok (.ireturn, 1) := by decide +kernel
theorem dX3_isLineTooMany_129 : decode cX3_isLineTooMany 129 = .ok (.aload_n 0, 1) := by decide +kernel
theorem dX3_isLineTooMany_130 : decode cX3_isLineTooMany 130 = .ok (.getfield 62, 3) := by decide +kernel
theorem dX3_isLineTooMany_133 : decode cX3_isLineTooMany 133 = .ok (.bipush 8, 2) := by decide +kernel
theorem dX3_isLineTooMany_135 : decode cX3_isLineTooMany 135 = .ok (.if_icmp .lt 7, 3) := by decide +kernel
theorem dX3_isLineTooMany_138 : decode cX3_isLineTooMany 138 = .ok (.iconst 1, 1) := by decide +kernel
theorem dX3_isLineTooMany_139 : decode cX3_isLineTooMany 139 = .ok (.goto 4, 3) := by decide +kernel
theorem dX3_isLineTooMany_142 : decode cX3_isLineTooMany 142 = .ok (.iconst 0, 1) := by decide +kernel
theorem dX3_isLineTooMany_143 : decode cX3_isLineTooMany 143 = .ok (.ireturn, 1) := by decide +kernel
theorem dX3_isLineTooMany_144 : decode cX3_isLineTooMany 144 = .ok (.iconst 0, 1) := by decide +kernel
theorem dX3_isLineTooMany_145 : decode cX3_isLineTooMany 145 = .ok (.ireturn, 1) := by decide +kernel
theorem dX3_lineSort_0 : decode cX3_lineSort 0 = .ok (.aload_n 0, 1) := by decide +kernel
theorem dX3_lineSort_1 : decode cX3_lineSort 1 = .ok (.getfield 12, 3) := by decide +kernel
theorem dX3_lineSort_4 : decode cX3_lineSort 4 = .ok (.ldc 150, 2) := by decide +kernel
theorem dX3_lineSort_6 : decode cX3_lineSort 6 = .ok (.invokevirtual 151, 3) := by decide +kernel
theorem dX3_lineSort_9 : decode cX3_lineSort 9 = .ok (.ifCond .eq 5, 3) := by decide +kernel
theorem dX3_lineSort_12 : decode cX3_lineSort 12 = .ok (.iconst 0, 1) := by decide +kernel
theorem dX3_lineSort_13 : decode cX3_lineSort 13 = .ok (.ireturn, 1) := by decide +kernel
theorem dX3_lineSort_14 : decode cX3_lineSort 14 = .ok (.aload_n 0, 1) := by decide +kernel
theorem dX3_lineSort_15 : decode cX3_lineSort 15 = .ok (.getfield 12, 3) := by decide +kernel
theorem dX3_lineSort_18 : decode cX3_lineSort 18 = .ok (.ldc 155, 2) := by decide +kernel
theorem dX3_lineSort_20 : decode cX3_lineSort 20 = .ok (.invokevirtual 151, 3) := by decide +kernel
theorem dX3_lineSort_23 : decode cX3_lineSort 23 = .ok (.ifCond .eq 5, 3) := by decide +kernel
theorem dX3_lineSort_26 : decode cX3_lineSort 26 = .ok (.iconst 1, 1) := by decide +kernel
theorem dX3_lineSort_27 : decode cX3_lineSort 27 = .ok (.ireturn, 1) := by decide +kernel
theorem dX3_lineSort_28 : decode cX3_lineSort 28 = .ok (.aload_n 0, 1) := by decide +kernel
theorem dX3_lineSort_29 : decode cX3_lineSort 29 = .ok (.getfield 12, 3) := by decide +kernel
theorem dX3_lineSort_32 : decode cX3_lineSort 32 = .ok (.ldc 157, 2) := by decide +kernel
theorem dX3_lineSort_34 : decode cX3_lineSort 34 = .ok (.invokevirtual 151, 3) := by decide +kernel
theorem dX3_lineSort_37 : decode cX3_lineSort 37 = .ok (.ifCond .eq 5, 3) := by decide +kernel
theorem dX3_lineSort_40 : decode cX3_lineSort 40 = .ok (.iconst 2, 1) := by decide +kernel
theorem dX3_lineSort_41 : decode cX3_lineSort 41 = .ok (.ireturn, 1) := by decide +kernel
theorem dX3_lineSort_42 : decode cX3_lineSort 42 = .ok (.aload_n 0, 1) := by decide +kernel
theorem dX3_lineSort_43 : decode cX3_lineSort 43 = .ok (.getfield 12, 3) := by decide +kernel
theorem dX3_lineSort_46 : decode cX3_lineSort 46 = .ok (.ldc 159, 2) := by decide +kernel
theorem dX3_lineSort_48 : decode cX3_lineSort 48 = .ok (.invokevirtual 151, 3) := by decide +kernel
theorem dX3_lineSort_51 : decode cX3_lineSort 51 = .ok (.ifCond .eq 5, 3) := by decide +kernel
theorem dX3_lineSort_54 : decode cX3_lineSort 54 = .ok (.iconst 3, 1) := by decide +kernel
theorem dX3_lineSort_55 : decode cX3_lineSort 55 = .ok (.ireturn, 1) := by decide +kernel
theorem dX3_lineSort_56 : decode cX3_lineSort 56 = .ok (.aload_n 0, 1) := by decide +kernel
theorem dX3_lineSort_57 : decode cX3_lineSort 57 = .ok (.getfield 12, 3) := by decide +kernel
theorem dX3_lineSort_60 : decode cX3_lineSort 60 = .ok (.ldc 161, 2) := by decide +kernel
theorem dX3_lineSort_62 : decode cX3_lineSort 62 = .ok (.invokevirtual 151, 3) := by decide +kernel
theorem dX3_lineSort_65 : decode cX3_lineSort 65 = .ok (.ifCond .eq 5, 3) := by decide +kernel
theorem dX3_lineSort_68 : decode cX3_lineSort 68 = .ok (.iconst 4, 1) := by decide +kernel
theorem dX3_lineSort_69 : decode cX3_lineSort 69 = .ok (.ireturn, 1) := by decide +kernel
theorem dX3_lineSort_70 : decode cX3_lineSort 70 = .ok (.aload_n 0, 1) := by decide +kernel
theorem dX3_lineSort_71 : decode cX3_lineSort 71 = .ok (.getfield 12, 3) := by decide +kernel
theorem dX3_lineSort_74 : decode cX3_lineSort 74 = .ok (.ldc 163, 2) := by decide +kernel
theorem dX3_lineSort_76 : decode cX3_lineSort 76 = .ok (.invokevirtual 151, 3) := by decide +kernel
theorem dX3_lineSort_79 : decode cX3_lineSort 79 = .ok (.ifCond .eq 5, 3) := by decide +kernel
theorem dX3_lineSort_82 : decode cX3_lineSort 82 = .ok (.iconst 5, 1) := by decide +kernel
theorem dX3_lineSort_83 : decode cX3_lineSort 83 = .ok (.ireturn, 1) := by decide +kernel
theorem dX3_lineSort_84 : decode cX3_lineSort 84 = .ok (.aload_n 0, 1) := by decide +kernel
theorem dX3_lineSort_85 : decode cX3_lineSort 85 = .ok (.getfield 12, 3) := by decide +kernel
theorem dX3_lineSort_88 : decode cX3_lineSort 88 = .ok (.ldc 165, 2) := by decide +kernel
theorem dX3_lineSort_90 : decode cX3_lineSort 90 = .ok (.invokevirtual 151, 3) := by decide +kernel
theorem dX3_lineSort_93 : decode cX3_lineSort 93 = .ok (.ifCond .eq 6, 3) := by decide +kernel
theorem dX3_lineSort_96 : decode cX3_lineSort 96 = .ok (.bipush 6, 2) := by decide +kernel
theorem dX3_lineSort_98 : decode cX3_lineSort 98 = .ok (.ireturn, 1) := by decide +kernel
theorem dX3_lineSort_99 : decode cX3_lineSort 99 = .ok (.aload_n 0, 1) := by decide +kernel
theorem dX3_lineSort_100 : decode cX3_lineSort 100 = .ok (.getfield 12, 3) := by decide +kernel
theorem dX3_lineSort_103 : decode cX3_lineSort 103 = .ok (.ldc 167, 2) := by decide +kernel
theorem dX3_lineSort_105 : decode cX3_lineSort 105 = .ok (.invokevirtual 151, 3) := by decide +kernel
theorem dX3_lineSort_108 : decode cX3_lineSort 108 = .ok (.ifCond .eq 6, 3) := by decide +kernel
theorem dX3_lineSort_111 : decode cX3_lineSort 111 = .ok (.bipush 7, 2) := by decide +kernel
theorem dX3_lineSort_113 : decode cX3_lineSort 113 = .ok (.ireturn, 1) := by decide +kernel
theorem dX3_lineSort_114 : decode cX3_lineSort 114 = .ok (.aload_n 0, 1) := by decide +kernel
theorem dX3_lineSort_115 : decode cX3_lineSort 115 = .ok (.getfield 12, 3) := by decide +kernel
theorem dX3_lineSort_118 : decode cX3_lineSort 118 = .ok (.ldc 169, 2) := by decide +kernel
theorem dX3_lineSort_120 : decode cX3_lineSort 120 = .ok (.invokevirtual 151, 3) := by decide +kernel
theorem dX3_lineSort_123 : decode cX3_lineSort 123 = .ok (.ifCond .eq 6, 3) := by decide +kernel
theorem dX3_lineSort_126 : decode cX3_lineSort 126 = .ok (.bipush 8, 2) := by decide +kernel
theorem dX3_lineSort_128 : decode cX3_lineSort 128 = .ok (.ireturn, 1) := by decide +kernel
theorem dX3_lineSort_129 : decode cX3_lineSort 129 = .ok (.aload_n 0, 1) := by decide +kernel
theorem dX3_lineSort_130 : decode cX3_lineSort 130 = .ok (.getfield 12, 3) := by decide +kernel
theorem dX3_lineSort_133 : decode cX3_lineSort 133 = .ok (.ldc 171, 2) := by decide +kernel
theorem dX3_lineSort_135 : decode cX3_lineSort 135 = .ok (.invokevirtual 151, 3) := by decide +kernel
theorem dX3_lineSort_138 : decode cX3_lineSort 138 = .ok (.ifCond .eq 6, 3) := by decide +kernel
theorem dX3_lineSort_141 : decode cX3_lineSort 141 = .ok (.bipush 9, 2) := by decide +kernel
theorem dX3_lineSort_143 : decode cX3_lineSort 143 = .ok (.ireturn, 1) := by decide +kernel
theorem dX3_lineSort_144 : decode cX3_lineSort 144 = .ok (.aload_n 0, 1) := by decide +kernel
theorem dX3_lineSort_145 : decode cX3_lineSort 145 = .ok (.getfield 12, 3) := by decide +kernel
theorem dX3_lineSort_148 : decode cX3_lineSort 148 = .ok (.ldc 173, 2) := by decide +kernel
theorem dX3_lineSort_150 : decode cX3_lineSort 150 = .ok (.invokevirtual 151, 3) := by decide +kernel
theorem dX3_lineSort_153 : decode cX3_lineSort 153 = .ok (.ifCond .eq 8, 3) := by decide +kernel
theorem dX3_lineSort_156 : decode cX3_lineSort 156 = .ok (.bipush 10, 2) := by decide +kernel
theorem dX3_lineSort_158 : decode cX3_lineSort 158 = .ok (.goto 4, 3) := by decide +kernel
theorem dX3_lineSort_161 : decode cX3_lineSort 161 = .ok (.iconst (-1), 1) := by decide +kernel
theorem dX3_lineSort_162 : decode cX3_lineSort 162 = .ok (.ireturn, 1) := by decide +kernel
theorem dX3_name_0 : decode cX3_name 0 = .ok (.aload_n 0, 1) := by decide +kernel
theorem dX3_name_1 : decode cX3_name 1 = .ok (.getfield 12, 3) := by decide +kernel
theorem dX3_name_4 : decode cX3_name 4 = .ok (.getfield 75, 3) := by decide +kernel
theorem dX3_name_7 : decode cX3_name 7 = .ok (.iconst 1, 1) := by decide +kernel
theorem dX3_name_8 : decode cX3_name 8 = .ok (.if_icmp .ne 11, 3) := by decide +kernel
theorem dX3_name_11 : decode cX3_name 11 = .ok (.aload_n 0, 1) := by decide +kernel
theorem dX3_name_12 : decode cX3_name 12 = .ok (.invokevirtual 92, 3) := by decide +kernel
theorem dX3_name_15 : decode cX3_name 15 = .ok (.iconst (-1), 1) := by decide +kernel
theorem dX3_name_16 : decode cX3_name 16 = .ok (.if_icmp .eq 15, 3) := by decide +kernel
theorem dX3_name_19 : decode cX3_name 19 = .ok (.aload_n 0, 1) := by decide +kernel
theorem dX3_name_20 : decode cX3_name 20 = .ok (.iconst 1, 1) := by decide +kernel
theorem dX3_name_21 : decode cX3_name 21 = .ok (.aload_n 0, 1) := by decide +kernel
theorem dX3_name_22 : decode cX3_name 22 = .ok (.getfield 12, 3) := by decide +kernel
theorem dX3_name_25 : decode cX3_name 25 = .ok (.getfield 96, 3) := by decide +kernel
theorem dX3_name_28 : decode cX3_name 28 = .ok (.invokevirtual 88, 3) := by decide +kernel
theorem dX3_name_31 : decode cX3_name 31 = .ok (.aload_n 0, 1) := by decide +kernel
theorem dX3_name_32 : decode cX3_name 32 = .ok (.invokevirtual 334, 3) := by decide +kernel
theorem dX3_name_35 : decode cX3_name 35 = .ok (.istore_n 2, 1) := by decide +kernel
theorem dX3_name_36 : decode cX3_name 36 = .ok (.iload_n 2, 1) := by decide +kernel
theorem dX3_name_37 : decode cX3_name 37 = .ok (.iconst (-1), 1) := by decide +kernel
theorem dX3_name_38 : decode cX3_name 38 = .ok (.if_icmp .eq 13, 3) := by decide +kernel
theorem dX3_name_41 : decode cX3_name 41 = .ok (.aload_n 0, 1) := by decide +kernel
theorem dX3_name_42 : decode cX3_name 42 = .ok (.getfield 22, 3) := by decide +kernel
theorem dX3_name_45 : decode cX3_name 45 = .ok (.iload_n 2, 1) := by decide +kernel
theorem dX3_name_46 : decode cX3_name 46 = .ok (.iaload, 1) := by decide +kernel
theorem dX3_name_47 : decode cX3_name 47 = .ok (.iload_n 1, 1) := by decide +kernel
theorem dX3_name_48 : decode cX3_name 48 = .ok (.if_icmp .eq 15, 3) := by decide +kernel
theorem dX3_name_51 : decode cX3_name 51 = .ok (.aload_n 0, 1) := by decide +kernel
theorem dX3_name_52 : decode cX3_name 52 = .ok (.iconst 2, 1) := by decide +kernel
theorem dX3_name_53 : decode cX3_name 53 = .ok (.aload_n 0, 1) := by decide +kernel
theorem dX3_name_54 : decode cX3_name 54 = .ok (.getfield 12, 3) := by decide +kernel
theorem dX3_name_57 : decode cX3_name 57 = .ok (.getfield 96, 3) := by decide +kernel
theorem dX3_name_60 : decode cX3_name 60 = .ok (.invokevirtual 88, 3) := by decide +kernel
theorem dX3_name_63 : decode cX3_name 63 = .ok (.aload_n 0, 1) := by decide +kernel
theorem dX3_name_64 : decode cX3_name 64 = .ok (.getfield 45, 3) := by decide +kernel
theorem dX3_name_67 : decode cX3_name 67 = .ok (.ifCond .ne 8, 3) := by decide +kernel
theorem dX3_name_70 : decode cX3_name 70 = .ok (.iload_n 2, 1) := by decide +kernel
theorem dX3_name_71 : decode cX3_name 71 = .ok (.iconst (-1), 1) := by decide +kernel
theorem dX3_name_72 : decode cX3_name 72 = .ok (.if_icmp .ne 5, 3) := by decide +kernel
theorem dX3_name_75 : decode cX3_name 75 = .ok (.iconst 0, 1) := by decide +kernel
theorem dX3_name_76 : decode cX3_name 76 = .ok (.ireturn, 1) := by decide +kernel
theorem dX3_name_77 : decode cX3_name 77 = .ok (.aload_n 0, 1) := by decide +kernel
theorem dX3_name_78 : decode cX3_name 78 = .ok (.getfield 12, 3) := by decide +kernel
theorem dX3_name_81 : decode cX3_name 81 = .ok (.invokevirtual 103, 3) := by decide +kernel
theorem dX3_name_84 : decode cX3_name 84 = .ok (.aload_n 0, 1) := by decide +kernel
theorem dX3_name_85 : decode cX3_name 85 = .ok (.getfield 26, 3) := by decide +kernel
theorem dX3_name_88 : decode cX3_name 88 = .ok (.iload_n 2, 1) := by decide +kernel
theorem dX3_name_89 : decode cX3_name 89 = .ok (.iaload, 1) := by decide +kernel
theorem dX3_name_90 : decode cX3_name 90 = .ok (.ireturn, 1) := by decide +kernel
theorem dX3_newName_0 : decode cX3_newName 0 = .ok (.aload_n 0, 1) := by decide +kernel
theorem dX3_newName_1 : decode cX3_newName 1 = .ok (.getfield 12, 3) := by decide +kernel
theorem dX3_newName_4 : decode cX3_newName 4 = .ok (.getfield 75, 3) := by decide +kernel
theorem dX3_newName_7 : decode cX3_newName 7 = .ok (.iconst 1, 1) := by decide +kernel
theorem dX3_newName_8 : decode cX3_newName 8 = .ok (.if_icmp .ne 11, 3) := by decide +kernel
theorem dX3_newName_11 : decode cX3_newName 11 = .ok (.aload_n 0, 1) := by decide +kernel
theorem dX3_newName_12 : decode cX3_newName 12 = .ok (.invokevirtual 92, 3) := by decide +kernel
theorem dX3_newName_15 : decode cX3_newName 15 = .ok (.iconst (-1), 1) := by decide +kernel
theorem dX3_newName_16 : decode cX3_newName 16 = .ok (.if_icmp .eq 15, 3) := by decide +kernel
theorem dX3_newName_19 : decode cX3_newName 19 = .ok (.aload_n 0, 1) := by decide +kernel
theorem dX3_newName_20 : decode cX3_newName 20 = .ok (.iconst 1, 1) := by decide +kernel
theorem dX3_newName_21 : decode cX3_newName 21 = .ok (.aload_n 0, 1) := by decide +kernel
theorem dX3_newName_22 : decode cX3_newName 22 = .ok (.getfield 12, 3) := by decide +kernel
theorem dX3_newName_25 : decode cX3_newName 25 = .ok (.getfield 96, 3) := by decide +kernel
theorem dX3_newName_28 : decode cX3_newName 28 = .ok (.invokevirtual 88, 3) := by decide +kernel
theorem dX3_newName_31 : decode cX3_newName 31 = .ok (.aload_n 0, 1) := by decide +kernel
theorem dX3_newName_32 : decode cX3_newName 32 = .ok (.invokevirtual 334, 3) := by decide +kernel
theorem dX3_newName_35 : decode cX3_newName 35 = .ok (.iconst (-1), 1) := by decide +kernel
theorem dX3_newName_36 : decode cX3_newName 36 = .ok (.if_icmp .eq 15, 3) := by decide +kernel
theorem dX3_newName_39 : decode cX3_newName 39 = .ok (.aload_n 0, 1) := by decide +kernel
theorem dX3_newName_40 : decode cX3_newName 40 = .ok (.iconst 3, 1) := by decide +kernel
theorem dX3_newName_41 : decode cX3_newName 41 = .ok (.aload_n 0, 1) := by decide +kernel
theorem dX3_newName_42 : decode cX3_newName 42 = .ok (.getfield 12, 3) := by decide +kernel
theorem dX3_newName_45 : decode cX3_newName 45 = .ok (.getfield 96, 3) := by decide +kernel
theorem dX3_newName_48 : decode cX3_newName 48 = .ok (.invokevirtual 88, 3) := by decide +kernel
theorem dX3_newName_51 : decode cX3_newName 51 = .ok (.aload_n 0, 1) := by decide +kernel
theorem dX3_newName_52 : decode cX3_newName 52 = .ok (.getfield 45, 3) := by decide +kernel
theorem dX3_newName_55 : decode cX3_newName 55 = .ok (.ifCond .ne 12, 3) := by decide +kernel
theorem dX3_newName_58 : decode cX3_newName 58 = .ok (.aload_n 0, 1) := by decide +kernel
theorem dX3_newName_59 : decode cX3_newName 59 = .ok (.getfield 65, 3) := by decide +kernel
theorem dX3_newName_62 : decode cX3_newName 62 = .ok (.bipush 20, 2) := by decide +kernel
theorem dX3_newName_64 : decode cX3_newName 64 = .ok (.if_icmp .lt 4, 3) := by decide +kernel
theorem dX3_newName_67 : decode cX3_newName 67 = .ok (.return_, 1) := by decide +kernel
theorem dX3_newName_68 : decode cX3_newName 68 = .ok (.aload_n 0, 1) := by decide +kernel
theorem dX3_newName_69 : decode cX3_newName 69 = .ok (.getfield 18, 3) := by decide +kernel
theorem dX3_newName_72 : decode cX3_newName 72 = .ok (.aload_n 0, 1) := by decide +kernel
theorem dX3_newName_73 : decode cX3_newName 73 = .ok (.getfield 65, 3) := by decide +kernel
theorem dX3_newName_76 : decode cX3_newName 76 = .ok (.aload_n 0, 1) := by decide +kernel
theorem dX3_newName_77 : decode cX3_newName 77 = .ok (.getfield 12, 3) := by decide +kernel
theorem dX3_newName_80 : decode cX3_newName 80 = .ok (.getfield 337, 3) := by decide +kernel
theorem dX3_newName_83 : decode cX3_newName 83 = .ok (.lastore, 1) := by decide +kernel
theorem dX3_newName_84 : decode cX3_newName 84 = .ok (.aload_n 0, 1) := by decide +kernel
theorem dX3_newName_85 : decode cX3_newName 85 = .ok (.getfield 22, 3) := by decide +kernel
theorem dX3_newName_88 : decode cX3_newName 88 = .ok (.aload_n 0, 1) := by decide +kernel
theorem dX3_newName_89 : decode cX3_newName 89 = .ok (.getfield 65, 3) := by decide +kernel
theorem dX3_newName_92 : decode cX3_newName 92 = .ok (.iload_n 1, 1) := by decide +kernel
theorem dX3_newName_93 : decode cX3_newName 93 = .ok (.iastore, 1) := by decide +kernel
theorem dX3_newName_94 : decode cX3_newName 94 = .ok (.aload_n 0, 1) := by decide +kernel
theorem dX3_newName_95 : decode cX3_newName 95 = .ok (.getfield 26, 3) := by decide +kernel
theorem dX3_newName_98 : decode cX3_newName 98 = .ok (.aload_n 0, 1) := by decide +kernel
theorem dX3_newName_99 : decode cX3_newName 99 = .ok (.getfield 65, 3) := by decide +kernel
theorem dX3_newName_102 : decode cX3_newName 102 = .ok (.iload_n 2, 1) := by decide +kernel
theorem dX3_newName_103 : decode cX3_newName 103 = .ok (.iastore, 1) := by decide +kernel
theorem dX3_newName_104 : decode cX3_newName 104 = .ok (.aload_n 0, 1) := by decide +kernel
theorem dX3_newName_105 : decode cX3_newName 105 = .ok (.dup, 1) := by decide +kernel
theorem dX3_newName_106 : decode cX3_newName 106 = .ok (.getfield 65, 3) := by decide +kernel
theorem dX3_newName_109 : decode cX3_newName 109 = .ok (.iconst 1, 1) := by decide +kernel
theorem dX3_newName_110 : decode cX3_newName 110 = .ok (.iadd, 1) := by decide +kernel
theorem dX3_newName_111 : decode cX3_newName 111 = .ok (.putfield 65, 3) := by decide +kernel
theorem dX3_newName_114 : decode cX3_newName 114 = .ok (.aload_n 0, 1) := by decide +kernel
theorem dX3_newName_115 : decode cX3_newName 115 = .ok (.getfield 12, 3) := by decide +kernel
theorem dX3_newName_118 : decode cX3_newName 118 = .ok (.invokevirtual 103, 3) := by decide +kernel
theorem dX3_newName_121 : decode cX3_newName 121 = .ok (.return_, 1) := by decide +kernel
theorem dX3_readAll_0 : decode cX3_readAll 0 = .ok (.aload_n 0, 1) := by decide +kernel
theorem dX3_readAll_1 : decode cX3_readAll 1 = .ok (.aload_n 3, 1) := by decide +kernel
theorem dX3_readAll_2 : decode cX3_readAll 2 = .ok (.putfield 29, 3) := by decide +kernel
theorem dX3_readAll_5 : decode cX3_readAll 5 = .ok (.aload_n 0, 1) := by decide +kernel
theorem dX3_readAll_6 : decode cX3_readAll 6 = .ok (.aload 4, 2) := by decide +kernel
theorem dX3_readAll_8 : decode cX3_readAll 8 = .ok (.putfield 33, 3) := by decide +kernel
theorem dX3_readAll_11 : decode cX3_readAll 11 = .ok (.aload_n 0, 1) := by decide +kernel
theorem dX3_readAll_12 : decode cX3_readAll 12 = .ok (.getfield 29, 3) := by decide +kernel
theorem dX3_readAll_15 : decode cX3_readAll 15 = .ok (.invokevirtual 37, 3) := by decide +kernel
theorem dX3_readAll_18 : decode cX3_readAll 18 = .ok (.aload_n 0, 1) := by decide +kernel
theorem dX3_readAll_19 : decode cX3_readAll 19 = .ok (.getfield 33, 3) := by decide +kernel
theorem dX3_readAll_22 : decode cX3_readAll 22 = .ok (.invokevirtual 42, 3) := by decide +kernel
theorem dX3_readAll_25 : decode cX3_readAll 25 = .ok (.aload_n 0, 1) := by decide +kernel
theorem dX3_readAll_26 : decode cX3_readAll 26 = .ok (.iconst 0, 1) := by decide +kernel
theorem dX3_readAll_27 : decode cX3_readAll 27 = .ok (.putfield 45, 3) := by decide +kernel
theorem dX3_readAll_30 : decode cX3_readAll 30 = .ok (.aload_n 0, 1) := by decide +kernel
theorem dX3_readAll_31 : decode cX3_readAll 31 = .ok (.iconst 0, 1) := by decide +kernel
theorem dX3_readAll_32 : decode cX3_readAll 32 = .ok (.putfield 49, 3) := by decide +kernel
theorem dX3_readAll_35 : decode cX3_readAll 35 = .ok (.aload_n 0, 1) := by decide +kernel
theorem dX3_readAll_36 : decode cX3_readAll 36 = .ok (.iconst 0, 1) := by decide +kernel
theorem dX3_readAll_37 : decode cX3_readAll 37 = .ok (.putfield 52, 3) := by decide +kernel
theorem dX3_readAll_40 : decode cX3_readAll 40 = .ok (.aload_n 0, 1) := by decide +kernel
theorem dX3_readAll_41 : decode cX3_readAll 41 = .ok (.iconst 0, 1) := by decide +kernel
theorem dX3_readAll_42 : decode cX3_readAll 42 = .ok (.putfield 56, 3) := by decide +kernel
theorem dX3_readAll_45 : decode cX3_readAll 45 = .ok (.aload_n 0, 1) := by decide +kernel
theorem dX3_readAll_46 : decode cX3_readAll 46 = .ok (.iconst 0, 1) := by decide +kernel
theorem dX3_readAll_47 : decode cX3_readAll 47 = .ok (.putfield 59, 3) := by decide +kernel
theorem dX3_readAll_50 : decode cX3_readAll 50 = .ok (.aload_n 0, 1) := by decide +kernel
theorem dX3_readAll_51 : decode cX3_readAll 51 = .ok (.iconst 0, 1) := by decide +kernel
theorem dX3_readAll_52 : decode cX3_readAll 52 = .ok (.putfield 62, 3) := by decide +kernel
theorem dX3_readAll_55 : decode cX3_readAll 55 = .ok (.aload_n 0, 1) := by decide +kernel
theorem dX3_readAll_56 : decode cX3_readAll 56 = .ok (.iconst 0, 1) := by decide +kernel
theorem dX3_readAll_57 : decode cX3_readAll 57 = .ok (.putfield 65, 3) := by decide +kernel
theorem dX3_readAll_60 : decode cX3_readAll 60 = .ok (.aload_n 0, 1) := by decide +kernel
theorem dX3_readAll_61 : decode cX3_readAll 61 = .ok (.getfield 12, 3) := by decide +kernel
theorem dX3_readAll_64 : decode cX3_readAll 64 = .ok (.aload_n 1, 1) := by decide +kernel
theorem dX3_readAll_65 : decode cX3_readAll 65 = .ok (.iload_n 2, 1) := by decide +kernel
theorem dX3_readAll_66 : decode cX3_readAll 66 = .ok (.invokevirtual 68, 3) := by decide +kernel
theorem dX3_readAll_69 : decode cX3_readAll 69 = .ok (.aload_n 0, 1) := by decide +kernel
theorem dX3_readAll_70 : decode cX3_readAll 70 = .ok (.invokevirtual 72, 3) := by decide +kernel
theorem dX3_readAll_73 : decode cX3_readAll 73 = .ok (.iconst 0, 1) := by decide +kernel
theorem dX3_readAll_74 : decode cX3_readAll 74 = .ok (.istore 5, 2) := by decide +kernel
theorem dX3_readAll_76 : decode cX3_readAll 76 = .ok (.iload 5, 2) := by decide +kernel
theorem dX3_readAll_78 : decode cX3_readAll 78 = .ok (.sipush 1000, 3) := by decide +kernel
theorem dX3_readAll_81 : decode cX3_readAll 81 = .ok (.if_icmp .ge 36, 3) := by decide +kernel
theorem dX3_readAll_84 : decode cX3_readAll 84 = .ok (.aload_n 0, 1) := by decide +kernel
theorem dX3_readAll_85 : decode cX3_readAll 85 = .ok (.getfield 45, 3) := by decide +kernel
theorem dX3_readAll_88 : decode cX3_readAll 88 = .ok (.ifCond .ne 29, 3) := by decide +kernel
theorem dX3_readAll_91 : decode cX3_readAll 91 = .ok (.aload_n 0, 1) := by decide +kernel
theorem dX3_readAll_92 : decode cX3_readAll 92 = .ok (.getfield 12, 3) := by decide +kernel
theorem dX3_readAll_95 : decode cX3_readAll 95 = .ok (.getfield 75, 3) := by decide +kernel
theorem dX3_readAll_98 : decode cX3_readAll 98 = .ok (.ifCond .eq 19, 3) := by decide +kernel
theorem dX3_readAll_101 : decode cX3_readAll 101 = .ok (.aload_n 0, 1) := by decide +kernel
theorem dX3_readAll_102 : decode cX3_readAll 102 = .ok (.bipush 59, 2) := by decide +kernel
theorem dX3_readAll_104 : decode cX3_readAll 104 = .ok (.invokevirtual 78, 3) := by decide +kernel
theorem dX3_readAll_107 : decode cX3_readAll 107 = .ok (.aload_n 0, 1) := by decide +kernel
theorem dX3_readAll_108 : decode cX3_readAll 108 = .ok (.invokevirtual 72, 3) := by decide +kernel
theorem dX3_readAll_111 : decode cX3_readAll 111 = .ok (.iinc 5 1, 3) := by decide +kernel
theorem dX3_readAll_114 : decode cX3_readAll 114 = .ok (.goto (-38), 3) := by decide +kernel
theorem dX3_readAll_117 : decode cX3_readAll 117 = .ok (.aload_n 0, 1) := by decide +kernel
theorem dX3_readAll_118 : decode cX3_readAll 118 = .ok (.getfield 56, 3) := by decide +kernel
theorem dX3_readAll_121 : decode cX3_readAll 121 = .ok (.ifCond .eq 23, 3) := by decide +kernel
theorem dX3_readAll_124 : decode cX3_readAll 124 = .ok (.aload_n 0, 1) := by decide +kernel
theorem dX3_readAll_125 : decode cX3_readAll 125 = .ok (.getfield 29, 3) := by decide +kernel
theorem dX3_readAll_128 : decode cX3_readAll 128 = .ok (.getfield 82, 3) := by decide +kernel
theorem dX3_readAll_131 : decode cX3_readAll 131 = .ok (.ifCond .eq 13, 3) := by decide +kernel
theorem dX3_readAll_134 : decode cX3_readAll 134 = .ok (.aload_n 0, 1) := by decide +kernel
theorem dX3_readAll_135 : decode cX3_readAll 135 = .ok (.getfield 29, 3) := by decide +kernel
theorem dX3_readAll_138 : decode cX3_readAll 138 = .ok (.getfield 85, 3) := by decide +kernel
theorem dX3_readAll_141 : decode cX3_readAll 141 = .ok (.ifCond .ne 10, 3) := by decide +kernel
theorem dX3_readAll_144 : decode cX3_readAll 144 = .ok (.aload_n 0, 1) := by decide +kernel
theorem dX3_readAll_145 : decode cX3_readAll 145 = .ok (.bipush 6, 2) := by decide +kernel
theorem dX3_readAll_147 : decode cX3_readAll 147 = .ok (.iload_n 2, 1) := by decide +kernel
theorem dX3_readAll_148 : decode cX3_readAll 148 = .ok (.invokevirtual 88, 3) := by decide +kernel
theorem dX3_readAll_151 : decode cX3_readAll 151 = .ok (.return_, 1) := by decide +kernel
theorem dX3_readHeir_0 : decode cX3_readHeir 0 = .ok (.aload_n 0, 1) := by decide +kernel
theorem dX3_readHeir_1 : decode cX3_readHeir 1 = .ok (.getfield 29, 3) := by decide +kernel
theorem dX3_readHeir_4 : decode cX3_readHeir 4 = .ok (.getfield 175, 3) := by decide +kernel
theorem dX3_readHeir_7 : decode cX3_readHeir 7 = .ok (.istore_n 1, 1) := by decide +kernel
theorem dX3_readHeir_8 : decode cX3_readHeir 8 = .ok (.aload_n 0, 1) := by decide +kernel
theorem dX3_readHeir_9 : decode cX3_readHeir 9 = .ok (.bipush 6, 2) := by decide +kernel
theorem dX3_readHeir_11 : decode cX3_readHeir 11 = .ok (.iload_n 1, 1) := by decide +kernel
theorem dX3_readHeir_12 : decode cX3_readHeir 12 = .ok (.invokevirtual 244, 3) := by decide +kernel
theorem dX3_readHeir_15 : decode cX3_readHeir 15 = .ok (.aload_n 0, 1) := by decide +kernel
theorem dX3_readHeir_16 : decode cX3_readHeir 16 = .ok (.iconst 4, 1) := by decide +kernel
theorem dX3_readHeir_17 : decode cX3_readHeir 17 = .ok (.invokevirtual 275, 3) := by decide +kernel
theorem dX3_readHeir_20 : decode cX3_readHeir 20 = .ok (.istore_n 2, 1) := by decide +kernel
theorem dX3_readHeir_21 : decode cX3_readHeir 21 = .ok (.aload_n 0, 1) := by decide +kernel
theorem dX3_readHeir_22 : decode cX3_readHeir 22 = .ok (.iconst 0, 1) := by decide +kernel
theorem dX3_readHeir_23 : decode cX3_readHeir 23 = .ok (.aload_n 0, 1) := by decide +kernel
theorem dX3_readHeir_24 : decode cX3_readHeir 24 = .ok (.getfield 33, 3) := by decide +kernel
theorem dX3_readHeir_27 : decode cX3_readHeir 27 = .ok (.getfield 298, 3) := by decide +kernel
theorem dX3_readHeir_30 : decode cX3_readHeir 30 = .ok (.iload_n 2, 1) := by decide +kernel
theorem dX3_readHeir_31 : decode cX3_readHeir 31 = .ok (.iaload, 1) := by decide +kernel
theorem dX3_readHeir_32 : decode cX3_readHeir 32 = .ok (.invokevirtual 187, 3) := by decide +kernel
theorem dX3_readHeir_35 : decode cX3_readHeir 35 = .ok (.istore_n 3, 1) := by decide +kernel
theorem dX3_readHeir_36 : decode cX3_readHeir 36 = .ok (.aload_n 0, 1) := by decide +kernel
theorem dX3_readHeir_37 : decode cX3_readHeir 37 = .ok (.getfield 45, 3) := by decide +kernel
theorem dX3_readHeir_40 : decode cX3_readHeir 40 = .ok (.ifCond .ne 42, 3) := by decide +kernel
theorem dX3_readHeir_43 : decode cX3_readHeir 43 = .ok (.iload_n 1, 1) := by decide +kernel
theorem dX3_readHeir_44 : decode cX3_readHeir 44 = .ok (.bipush 6, 2) := by decide +kernel
theorem dX3_readHeir_46 : decode cX3_readHeir 46 = .ok (.if_icmp .ge 36, 3) := by decide +kernel
theorem dX3_readHeir_49 : decode cX3_readHeir 49 = .ok (.aload_n 0, 1) := by decide +kernel
theorem dX3_readHeir_50 : decode cX3_readHeir 50 = .ok (.getfield 29, 3) := by decide +kernel
theorem dX3_readHeir_53 : decode cX3_readHeir 53 = .ok (.getfield 319, 3) := by decide +kernel
theorem dX3_readHeir_56 : decode cX3_readHeir 56 = .ok (.iload_n 1, 1) := by decide +kernel
theorem dX3_readHeir_57 : decode cX3_readHeir 57 = .ok (.iload_n 2, 1) := by decide +kernel
theorem dX3_readHeir_58 : decode cX3_readHeir 58 = .ok (.iastore, 1) := by decide +kernel
theorem dX3_readHeir_59 : decode cX3_readHeir 59 = .ok (.aload_n 0, 1) := by decide +kernel
theorem dX3_readHeir_60 : decode cX3_readHeir 60 = .ok (.getfield 33, 3) := by decide +kernel
theorem dX3_readHeir_63 : decode cX3_readHeir 63 = .ok (.getfield 322, 3) := by decide +kernel
theorem dX3_readHeir_66 : decode cX3_readHeir 66 = .ok (.iload_n 1, 1) := by decide +kernel
theorem dX3_readHeir_67 : decode cX3_readHeir 67 = .ok (.iload_n 3, 1) := by decide +kernel
theorem dX3_readHeir_68 : decode cX3_readHeir 68 = .ok (.iastore, 1) := by decide +kernel
theorem dX3_readHeir_69 : decode cX3_readHeir 69 = .ok (.aload_n 0, 1) := by decide +kernel
theorem dX3_readHeir_70 : decode cX3_readHeir 70 = .ok (.getfield 29, 3) := by decide +kernel
theorem dX3_readHeir_73 : decode cX3_readHeir 73 = .ok (.dup, 1) := by decide +kernel
theorem dX3_readHeir_74 : decode cX3_readHeir 74 = .ok (.getfield 175, 3) := by decide +kernel
theorem dX3_readHeir_77 : decode cX3_readHeir 77 = .ok (.iconst 1, 1) := by decide +kernel
theorem dX3_readHeir_78 : decode cX3_readHeir 78 = .ok (.iadd, 1) := by decide +kernel
theorem dX3_readHeir_79 : decode cX3_readHeir 79 = .ok (.putfield 175, 3) := by decide +kernel
theorem dX3_readHeir_82 : decode cX3_readHeir 82 = .ok (.return_, 1) := by decide +kernel
theorem dX3_readHouse_0 : decode cX3_readHouse 0 = .ok (.aload_n 0, 1) := by decide +kernel
theorem dX3_readHouse_1 : decode cX3_readHouse 1 = .ok (.getfield 29, 3) := by decide +kernel
theorem dX3_readHouse_4 : decode cX3_readHouse 4 = .ok (.getfield 85, 3) := by decide +kernel
theorem dX3_readHouse_7 : decode cX3_readHouse 7 = .ok (.istore_n 1, 1) := by decide +kernel
theorem dX3_readHouse_8 : decode cX3_readHouse 8 = .ok (.aload_n 0, 1) := by decide +kernel
theorem dX3_readHouse_9 : decode cX3_readHouse 9 = .ok (.iconst 4, 1) := by decide +kernel
theorem dX3_readHouse_10 : decode cX3_readHouse 10 = .ok (.iload_n 1, 1) := by decide +kernel
theorem dX3_readHouse_11 : decode cX3_readHouse 11 = .ok (.invokevirtual 244, 3) := by decide +kernel
theorem dX3_readHouse_14 : decode cX3_readHouse 14 = .ok (.aload_n 0, 1) := by decide +kernel
theorem dX3_readHouse_15 : decode cX3_readHouse 15 = .ok (.ldc_w 265, 3) := by decide +kernel
theorem dX3_readHouse_18 : decode cX3_readHouse 18 = .ok (.invokevirtual 183, 3) := by decide +kernel
theorem dX3_readHouse_21 : decode cX3_readHouse 21 = .ok (.aload_n 0, 1) := by decide +kernel
theorem dX3_readHouse_22 : decode cX3_readHouse 22 = .ok (.iconst 0, 1) := by decide +kernel
theorem dX3_readHouse_23 : decode cX3_readHouse 23 = .ok (.aload_n 0, 1) := by decide +kernel
theorem dX3_readHouse_24 : decode cX3_readHouse 24 = .ok (.getfield 29, 3) := by decide +kernel
theorem dX3_readHouse_27 : decode cX3_readHouse 27 = .ok (.getfield 191, 3) := by decide +kernel
theorem dX3_readHouse_30 : decode cX3_readHouse 30 = .ok (.iconst 1, 1) := by decide +kernel
theorem dX3_readHouse_31 : decode cX3_readHouse 31 = .ok (.isub, 1) := by decide +kernel
theorem dX3_readHouse_32 : decode cX3_readHouse 32 = .ok (.invokevirtual 187, 3) := by decide +kernel
theorem dX3_readHouse_35 : decode cX3_readHouse 35 = .ok (.istore_n 2, 1) := by decide +kernel
theorem dX3_readHouse_36 : decode cX3_readHouse 36 = .ok (.aload_n 0, 1) := by decide +kernel
theorem dX3_readHouse_37 : decode cX3_readHouse 37 = .ok (.bipush 44, 2) := by decide +kernel
theorem dX3_readHouse_39 : decode cX3_readHouse 39 = .ok (.invokevirtual 78, 3) := by decide +kernel
theorem dX3_readHouse_42 : decode cX3_readHouse 42 = .ok (.aload_n 0, 1) := by decide +kernel
theorem dX3_readHouse_43 : decode cX3_readHouse 43 = .ok (.iconst 0, 1) := by decide +kernel
theorem dX3_readHouse_44 : decode cX3_readHouse 44 = .ok (.aload_n 0, 1) := by decide +kernel
theorem dX3_readHouse_45 : decode cX3_readHouse 45 = .ok (.getfield 29, 3) := by decide +kernel
theorem dX3_readHouse_48 : decode cX3_readHouse 48 = .ok (.getfield 195, 3) := by decide +kernel
theorem dX3_readHouse_51 : decode cX3_readHouse 51 = .ok (.iconst 1, 1) := by decide +kernel
theorem dX3_readHouse_52 : decode cX3_readHouse 52 = .ok (.isub, 1) := by decide +kernel
theorem dX3_readHouse_53 : decode cX3_readHouse 53 = .ok (.invokevirtual 187, 3) := by decide +kernel
theorem dX3_readHouse_56 : decode cX3_readHouse 56 = .ok (.istore_n 3, 1) := by decide +kernel
theorem dX3_readHouse_57 : decode cX3_readHouse 57 = .ok (.aload_n 0, 1) := by decide +kernel
theorem dX3_readHouse_58 : decode cX3_readHouse 58 = .ok (.getfield 29, 3) := by decide +kernel
theorem dX3_readHouse_61 : decode cX3_readHouse 61 = .ok (.aload_n 0, 1) := by decide +kernel
theorem dX3_readHouse_62 : decode cX3_readHouse 62 = .ok (.getfield 33, 3) := by decide +kernel
theorem dX3_readHouse_65 : decode cX3_readHouse 65 = .ok (.iload_n 2, 1) := by decide +kernel
theorem dX3_readHouse_66 : decode cX3_readHouse 66 = .ok (.iload_n 3, 1) := by decide +kernel
theorem dX3_readHouse_67 : decode cX3_readHouse 67 = .ok (.invokestatic 267, 3) := by decide +kernel
theorem dX3_readHouse_70 : decode cX3_readHouse 70 = .ok (.ifCond .ne 16, 3) := by decide +kernel
theorem dX3_readHouse_73 : decode cX3_readHouse 73 = .ok (.aload_n 0, 1) := by decide +kernel
theorem dX3_readHouse_74 : decode cX3_readHouse 74 = .ok (.bipush 7, 2) := by decide +kernel
theorem dX3_readHouse_76 : decode cX3_readHouse 76 = .ok (.aload_n 0, 1) := by decide +kernel
theorem dX3_readHouse_77 : decode cX3_readHouse 77 = .ok (.getfield 12, 3) := by decide +kernel
theorem dX3_readHouse_80 : decode cX3_readHouse 80 = .ok (.getfield 238, 3) := by decide +kernel
theorem dX3_readHouse_83 : decode cX3_readHouse 83 = .ok (.invokevirtual 88, 3) := by decide +kernel
theorem dX3_readHouse_86 : decode cX3_readHouse 86 = .ok (.aload_n 0, 1) := by decide +kernel
theorem dX3_readHouse_87 : decode cX3_readHouse 87 = .ok (.ldc_w 273, 3) := by decide +kernel
theorem dX3_readHouse_90 : decode cX3_readHouse 90 = .ok (.invokevirtual 183, 3) := by decide +kernel
theorem dX3_readHouse_93 : decode cX3_readHouse 93 = .ok (.aload_n 0, 1) := by decide +kernel
theorem dX3_readHouse_94 : decode cX3_readHouse 94 = .ok (.iconst 3, 1) := by decide +kernel
theorem dX3_readHouse_95 : decode cX3_readHouse 95 = .ok (.invokevirtual 275, 3) := by decide +kernel
theorem dX3_readHouse_98 : decode cX3_readHouse 98 = .ok (.istore 4, 2) := by decide +kernel
theorem dX3_readHouse_100 : decode cX3_readHouse 100 = .ok (.aload_n 0, 1) := by decide +kernel
theorem dX3_readHouse_101 : decode cX3_readHouse 101 = .ok (.ldc_w 279, 3) := by decide +kernel
theorem dX3_readHouse_104 : decode cX3_readHouse 104 = .ok (.invokevirtual 183, 3) := by decide +kernel
theorem dX3_readHouse_107 : decode cX3_readHouse 107 = .ok (.aload_n 0, 1) := by decide +kernel
theorem dX3_readHouse_108 : decode cX3_readHouse 108 = .ok (.iconst 0, 1) := by decide +kernel
theorem dX3_readHouse_109 : decode cX3_readHouse 109 = .ok (.bipush 99, 2) := by decide +kernel
theorem dX3_readHouse_111 : decode cX3_readHouse 111 = .ok (.invokevirtual 187, 3) := by decide +kernel
theorem dX3_readHouse_114 : decode cX3_readHouse 114 = .ok (.istore 5, 2) := by decide +kernel
theorem dX3_readHouse_116 : decode cX3_readHouse 116 = .ok (.aload_n 0, 1) := by decide +kernel
theorem dX3_readHouse_117 : decode cX3_readHouse 117 = .ok (.ldc_w 281, 3) := by decide +kernel
theorem dX3_readHouse_120 : decode cX3_readHouse 120 = .ok (.invokevirtual 183, 3) := by decide +kernel
theorem dX3_readHouse_123 : decode cX3_readHouse 123 = .ok (.aload_n 0, 1) := by decide +kernel
theorem dX3_readHouse_124 : decode cX3_readHouse 124 = .ok (.iconst 0, 1) := by decide +kernel
theorem dX3_readHouse_125 : decode cX3_readHouse 125 = .ok (.sipush 999, 3) := by decide +kernel
theorem dX3_readHouse_128 : decode cX3_readHouse 128 = .ok (.invokevirtual 187, 3) := by decide +kernel
theorem dX3_readHouse_131 : decode cX3_readHouse 131 = .ok (.istore 6, 2) := by decide +kernel
theorem dX3_readHouse_133 : decode cX3_readHouse 133 = .ok (.aload_n 0, 1) := by decide +kernel
theorem dX3_readHouse_134 : decode cX3_readHouse 134 = .ok (.getfield 45, 3) := by decide +kernel
theorem dX3_readHouse_137 : decode cX3_readHouse 137 = .ok (.ifCond .ne 74, 3) := by decide +kernel
theorem dX3_readHouse_140 : decode cX3_readHouse 140 = .ok (.iload_n 1, 1) := by decide +kernel
theorem dX3_readHouse_141 : decode cX3_readHouse 141 = .ok (.iconst 4, 1) := by decide +kernel
theorem dX3_readHouse_142 : decode cX3_readHouse 142 = .ok (.if_icmp .ge 69, 3) := by decide +kernel
theorem dX3_readHouse_145 : decode cX3_readHouse 145 = .ok (.aload_n 0, 1) := by decide +kernel
theorem dX3_readHouse_146 : decode cX3_readHouse 146 = .ok (.getfield 29, 3) := by decide +kernel
theorem dX3_readHouse_149 : decode cX3_readHouse 149 = .ok (.getfield 283, 3) := by decide +kernel
theorem dX3_readHouse_152 : decode cX3_readHouse 152 = .ok (.iload_n 1, 1) := by decide +kernel
theorem dX3_readHouse_153 : decode cX3_readHouse 153 = .ok (.iload_n 2, 1) := by decide +kernel
theorem dX3_readHouse_154 : decode cX3_readHouse 154 = .ok (.iastore, 1) := by decide +kernel
theorem dX3_readHouse_155 : decode cX3_readHouse 155 = .ok (.aload_n 0, 1) := by decide +kernel
theorem dX3_readHouse_156 : decode cX3_readHouse 156 = .ok (.getfield 29, 3) := by decide +kernel
theorem dX3_readHouse_159 : decode cX3_readHouse 159 = .ok (.getfield 286, 3) := by decide +kernel
theorem dX3_readHouse_162 : decode cX3_readHouse 162 = .ok (.iload_n 1, 1) := by decide +kernel
theorem dX3_readHouse_163 : decode cX3_readHouse 163 = .ok (.iload_n 3, 1) := by decide +kernel
theorem dX3_readHouse_164 : decode cX3_readHouse 164 = .ok (.iastore, 1) := by decide +kernel
theorem dX3_readHouse_165 : decode cX3_readHouse 165 = .ok (.aload_n 0, 1) := by decide +kernel
theorem dX3_readHouse_166 : decode cX3_readHouse 166 = .ok (.getfield 29, 3) := by decide +kernel
theorem dX3_readHouse_169 : decode cX3_readHouse 169 = .ok (.getfield 289, 3) := by decide +kernel
theorem dX3_readHouse_172 : decode cX3_readHouse 172 = .ok (.iload_n 1, 1) := by decide +kernel
theorem dX3_readHouse_173 : decode cX3_readHouse 173 = .ok (.iload 4, 2) := by decide +kernel
theorem dX3_readHouse_175 : decode cX3_readHouse 175 = .ok (.iastore, 1) := by decide +kernel
theorem dX3_readHouse_176 : decode cX3_readHouse 176 = .ok (.aload_n 0, 1) := by decide +kernel
theorem dX3_readHouse_177 : decode cX3_readHouse 177 = .ok (.getfield 33, 3) := by decide +kernel
theorem dX3_readHouse_180 : decode cX3_readHouse 180 = .ok (.getfield 292, 3) := by decide +kernel
theorem dX3_readHouse_183 : decode cX3_readHouse 183 = .ok (.iload_n 1, 1) := by decide +kernel
theorem dX3_readHouse_184 : decode cX3_readHouse 184 = .ok (.iload 5, 2) := by decide +kernel
theorem dX3_readHouse_186 : decode cX3_readHouse 186 = .ok (.iastore, 1) := by decide +kernel
theorem dX3_readHouse_187 : decode cX3_readHouse 187 = .ok (.aload_n 0, 1) := by decide +kernel
theorem dX3_readHouse_188 : decode cX3_readHouse 188 = .ok (.getfield 33, 3) := by decide +kernel
theorem dX3_readHouse_191 : decode cX3_readHouse 191 = .ok (.getfield 295, 3) := by decide +kernel
theorem dX3_readHouse_194 : decode cX3_readHouse 194 = .ok (.iload_n 1, 1) := by decide +kernel
theorem dX3_readHouse_195 : decode cX3_readHouse 195 = .ok (.iload 6, 2) := by decide +kernel
theorem dX3_readHouse_197 : decode cX3_readHouse 197 = .ok (.iastore, 1) := by decide +kernel
theorem dX3_readHouse_198 : decode cX3_readHouse 198 = .ok (.aload_n 0, 1) := by decide +kernel
theorem dX3_readHouse_199 : decode cX3_readHouse 199 = .ok (.getfield 29, 3) := by decide +kernel
theorem dX3_readHouse_202 : decode cX3_readHouse 202 = .ok (.dup, 1) := by decide +kernel
theorem dX3_readHouse_203 : decode cX3_readHouse 203 = .ok (.getfield 85, 3) := by decide +kernel
theorem dX3_readHouse_206 : decode cX3_readHouse 206 = .ok (.iconst 1, 1) := by decide +kernel
theorem dX3_readHouse_207 : decode cX3_readHouse 207 = .ok (.iadd, 1) := by decide +kernel
theorem dX3_readHouse_208 : decode cX3_readHouse 208 = .ok (.putfield 85, 3) := by decide +kernel
theorem dX3_readHouse_211 : decode cX3_readHouse 211 = .ok (.return_, 1) := by decide +kernel
theorem dX3_readLand_0 : decode cX3_readLand 0 = .ok (.aload_n 0, 1) := by decide +kernel
theorem dX3_readLand_1 : decode cX3_readLand 1 = .ok (.ldc 181, 2) := by decide +kernel
theorem dX3_readLand_3 : decode cX3_readLand 3 = .ok (.invokevirtual 183, 3) := by decide +kernel
theorem dX3_readLand_6 : decode cX3_readLand 6 = .ok (.aload_n 0, 1) := by decide +kernel
theorem dX3_readLand_7 : decode cX3_readLand 7 = .ok (.getfield 29, 3) := by decide +kernel
theorem dX3_readLand_10 : decode cX3_readLand 10 = .ok (.aload_n 0, 1) := by decide +kernel
theorem dX3_readLand_11 : decode cX3_readLand 11 = .ok (.iconst 3, 1) := by decide +kernel
theorem dX3_readLand_12 : decode cX3_readLand 12 = .ok (.bipush 12, 2) := by decide +kernel
theorem dX3_readLand_14 : decode cX3_readLand 14 = .ok (.invokevirtual 187, 3) := by decide +kernel
theorem dX3_readLand_17 : decode cX3_readLand 17 = .ok (.putfield 191, 3) := by decide +kernel
theorem dX3_readLand_20 : decode cX3_readLand 20 = .ok (.aload_n 0, 1) := by decide +kernel
theorem dX3_readLand_21 : decode cX3_readLand 21 = .ok (.ldc 193, 2) := by decide +kernel
theorem dX3_readLand_23 : decode cX3_readLand 23 = .ok (.invokevirtual 183, 3) := by decide +kernel
theorem dX3_readLand_26 : decode cX3_readLand 26 = .ok (.aload_n 0, 1) := by decide +kernel
theorem dX3_readLand_27 : decode cX3_readLand 27 = .ok (.getfield 29, 3) := by decide +kernel
theorem dX3_readLand_30 : decode cX3_readLand 30 = .ok (.aload_n 0, 1) := by decide +kernel
theorem dX3_readLand_31 : decode cX3_readLand 31 = .ok (.iconst 3, 1) := by decide +kernel
theorem dX3_readLand_32 : decode cX3_readLand 32 = .ok (.bipush 12, 2) := by decide +kernel
theorem dX3_readLand_34 : decode cX3_readLand 34 = .ok (.invokevirtual 187, 3) := by decide +kernel
theorem dX3_readLand_37 : decode cX3_readLand 37 = .ok (.putfield 195, 3) := by decide +kernel
theorem dX3_readLand_40 : decode cX3_readLand 40 = .ok (.aload_n 0, 1) := by decide +kernel
theorem dX3_readLand_41 : decode cX3_readLand 41 = .ok (.ldc 197, 2) := by decide +kernel
theorem dX3_readLand_43 : decode cX3_readLand 43 = .ok (.invokevirtual 183, 3) := by decide +kernel
theorem dX3_readLand_46 : decode cX3_readLand 46 = .ok (.aload_n 0, 1) := by decide +kernel
theorem dX3_readLand_47 : decode cX3_readLand 47 = .ok (.getfield 29, 3) := by decide +kernel
theorem dX3_readLand_50 : decode cX3_readLand 50 = .ok (.aload_n 0, 1) := by decide +kernel
theorem dX3_readLand_51 : decode cX3_readLand 51 = .ok (.ldc 199, 2) := by decide +kernel
theorem dX3_readLand_53 : decode cX3_readLand 53 = .ok (.ldc 201, 2) := by decide +kernel
theorem dX3_readLand_55 : decode cX3_readLand 55 = .ok (.ldc 203, 2) := by decide +kernel
theorem dX3_readLand_57 : decode cX3_readLand 57 = .ok (.ldc 203, 2) := by decide +kernel
theorem dX3_readLand_59 : decode cX3_readLand 59 = .ok (.invokevirtual 205, 3) := by decide +kernel
theorem dX3_readLand_62 : decode cX3_readLand 62 = .ok (.iconst 1, 1) := by decide +kernel
theorem dX3_readLand_63 : decode cX3_readLand 63 = .ok (.if_icmp .ne 7, 3) := by decide +kernel
theorem dX3_readLand_66 : decode cX3_readLand 66 = .ok (.iconst 1, 1) := by decide +kernel
theorem dX3_readLand_67 : decode cX3_readLand 67 = .ok (.goto 4, 3) := by decide +kernel
theorem dX3_readLand_70 : decode cX3_readLand 70 = .ok (.iconst 0, 1) := by decide +kernel
theorem dX3_readLand_71 : decode cX3_readLand 71 = .ok (.putfield 209, 3) := by decide +kernel
theorem dX3_readLand_74 : decode cX3_readLand 74 = .ok (.aload_n 0, 1) := by decide +kernel
theorem dX3_readLand_75 : decode cX3_readLand 75 = .ok (.ldc 211, 2) := by decide +kernel
theorem dX3_readLand_77 : decode cX3_readLand 77 = .ok (.invokevirtual 183, 3) := by decide +kernel
theorem dX3_readLand_80 : decode cX3_readLand 80 = .ok (.aload_n 0, 1) := by decide +kernel
theorem dX3_readLand_81 : decode cX3_readLand 81 = .ok (.getfield 29, 3) := by decide +kernel
theorem dX3_readLand_84 : decode cX3_readLand 84 = .ok (.aload_n 0, 1) := by decide +kernel
theorem dX3_readLand_85 : decode cX3_readLand 85 = .ok (.ldc 213, 2) := by decide +kernel
theorem dX3_readLand_87 : decode cX3_readLand 87 = .ok (.ldc 215, 2) := by decide +kernel
theorem dX3_readLand_89 : decode cX3_readLand 89 = .ok (.ldc 203, 2) := by decide +kernel
theorem dX3_readLand_91 : decode cX3_readLand 91 = .ok (.ldc 203, 2) := by decide +kernel
theorem dX3_readLand_93 : decode cX3_readLand 93 = .ok (.invokevirtual 205, 3) := by decide +kernel
theorem dX3_readLand_96 : decode cX3_readLand 96 = .ok (.iconst 1, 1) := by decide +kernel
theorem dX3_readLand_97 : decode cX3_readLand 97 = .ok (.if_icmp .ne 7, 3) := by decide +kernel
theorem dX3_readLand_100 : decode cX3_readLand 100 = .ok (.iconst 1, 1) := by decide +kernel
theorem dX3_readLand_101 : decode cX3_readLand 101 = .ok (.goto 4, 3) := by decide +kernel
theorem dX3_readLand_104 : decode cX3_readLand 104 = .ok (.iconst 0, 1) := by decide +kernel
theorem dX3_readLand_105 : decode cX3_readLand 105 = .ok (.putfield 217, 3) := by decide +kernel
theorem dX3_readLand_108 : decode cX3_readLand 108 = .ok (.aload_n 0, 1) := by decide +kernel
theorem dX3_readLand_109 : decode cX3_readLand 109 = .ok (.iconst 1, 1) := by decide +kernel
theorem dX3_readLand_110 : decode cX3_readLand 110 = .ok (.putfield 52, 3) := by decide +kernel
theorem dX3_readLand_113 : decode cX3_readLand 113 = .ok (.return_, 1) := by decide +kernel
theorem dX3_readLine_0 : decode cX3_readLine 0 = .ok (.aload_n 0, 1) := by decide +kernel
theorem dX3_readLine_1 : decode cX3_readLine 1 = .ok (.invokevirtual 92, 3) := by decide +kernel
theorem dX3_readLine_4 : decode cX3_readLine 4 = .ok (.istore_n 1, 1) := by decide +kernel
theorem dX3_readLine_5 : decode cX3_readLine 5 = .ok (.iload_n 1, 1) := by decide +kernel
theorem dX3_readLine_6 : decode cX3_readLine 6 = .ok (.iconst (-1), 1) := by decide +kernel
theorem dX3_readLine_7 : decode cX3_readLine 7 = .ok (.if_icmp .ne 18, 3) := by decide +kernel
theorem dX3_readLine_10 : decode cX3_readLine 10 = .ok (.aload_n 0, 1) := by decide +kernel
theorem dX3_readLine_11 : decode cX3_readLine 11 = .ok (.iconst 1, 1) := by decide +kernel
theorem dX3_readLine_12 : decode cX3_readLine 12 = .ok (.aload_n 0, 1) := by decide +kernel
theorem dX3_readLine_13 : decode cX3_readLine 13 = .ok (.getfield 12, 3) := by decide +kernel
theorem dX3_readLine_16 : decode cX3_readLine 16 = .ok (.getfield 96, 3) := by decide +kernel
theorem dX3_readLine_19 : decode cX3_readLine 19 = .ok (.invokevirtual 88, 3) := by decide +kernel
theorem dX3_readLine_22 : decode cX3_readLine 22 = .ok (.goto 8, 3) := by decide +kernel
theorem dX3_readLine_25 : decode cX3_readLine 25 = .ok (.aload_n 0, 1) := by decide +kernel
theorem dX3_readLine_26 : decode cX3_readLine 26 = .ok (.iload_n 1, 1) := by decide +kernel
theorem dX3_readLine_27 : decode cX3_readLine 27 = .ok (.invokevirtual 99, 3) := by decide +kernel
theorem dX3_readLine_30 : decode cX3_readLine 30 = .ok (.aload_n 0, 1) := by decide +kernel
theorem dX3_readLine_31 : decode cX3_readLine 31 = .ok (.getfield 45, 3) := by decide +kernel
theorem dX3_readLine_34 : decode cX3_readLine 34 = .ok (.ifCond .eq 4, 3) := by decide +kernel
theorem dX3_readLine_37 : decode cX3_readLine 37 = .ok (.return_, 1) := by decide +kernel
theorem dX3_readLine_38 : decode cX3_readLine 38 = .ok (.aload_n 0, 1) := by decide +kernel
theorem dX3_readLine_39 : decode cX3_readLine 39 = .ok (.getfield 12, 3) := by decide +kernel
theorem dX3_readLine_42 : decode cX3_readLine 42 = .ok (.invokevirtual 103, 3) := by decide +kernel
theorem dX3_readLine_45 : decode cX3_readLine 45 = .ok (.iload_n 1, 1) := by decide +kernel
theorem dX3_readLine_46 : decode cX3_readLine 46 = .ok (.tableswitch 113 0 8 #[50, 57, 64, 71, 78, 85, 92, 99, 106], 50) := by decide +kernel
theorem dX3_readLine_96 : decode cX3_readLine 96 = .ok (.aload_n 0, 1) := by decide +kernel
theorem dX3_readLine_97 : decode cX3_readLine 97 = .ok (.invokevirtual 106, 3) := by decide +kernel
theorem dX3_readLine_100 : decode cX3_readLine 100 = .ok (.goto 86, 3) := by decide +kernel
theorem dX3_readLine_103 : decode cX3_readLine 103 = .ok (.aload_n 0, 1) := by decide +kernel
theorem dX3_readLine_104 : decode cX3_readLine 104 = .ok (.invokevirtual 109, 3) := by decide +kernel
theorem dX3_readLine_107 : decode cX3_readLine 107 = .ok (.goto 79, 3) := by decide +kernel
theorem dX3_readLine_110 : decode cX3_readLine 110 = .ok (.aload_n 0, 1) := by decide +kernel
theorem dX3_readLine_111 : decode cX3_readLine 111 = .ok (.invokevirtual 112, 3) := by decide +kernel
theorem dX3_readLine_114 : decode cX3_readLine 114 = .ok (.goto 72, 3) := by decide +kernel
theorem dX3_readLine_117 : decode cX3_readLine 117 = .ok (.aload_n 0, 1) := by decide +kernel
theorem dX3_readLine_118 : decode cX3_readLine 118 = .ok (.invokevirtual 115, 3) := by decide +kernel
theorem dX3_readLine_121 : decode cX3_readLine 121 = .ok (.goto 65, 3) := by decide +kernel
theorem dX3_readLine_124 : decode cX3_readLine 124 = .ok (.aload_n 0, 1) := by decide +kernel
theorem dX3_readLine_125 : decode cX3_readLine 125 = .ok (.invokevirtual 118, 3) := by decide +kernel
theorem dX3_readLine_128 : decode cX3_readLine 128 = .ok (.goto 58, 3) := by decide +kernel
theorem dX3_readLine_131 : decode cX3_readLine 131 = .ok (.aload_n 0, 1) := by decide +kernel
theorem dX3_readLine_132 : decode cX3_readLine 132 = .ok (.invokevirtual 121, 3) := by decide +kernel
theorem dX3_readLine_135 : decode cX3_readLine 135 = .ok (.goto 51, 3) := by decide +kernel
theorem dX3_readLine_138 : decode cX3_readLine 138 = .ok (.aload_n 0, 1) := by decide +kernel
theorem dX3_readLine_139 : decode cX3_readLine 139 = .ok (.invokevirtual 124, 3) := by decide +kernel
theorem dX3_readLine_142 : decode cX3_readLine 142 = .ok (.goto 44, 3) := by decide +kernel
theorem dX3_readLine_145 : decode cX3_readLine 145 = .ok (.aload_n 0, 1) := by decide +kernel
theorem dX3_readLine_146 : decode cX3_readLine 146 = .ok (.invokevirtual 127, 3) := by decide +kernel
theorem dX3_readLine_149 : decode cX3_readLine 149 = .ok (.goto 37, 3) := by decide +kernel
theorem dX3_readLine_152 : decode cX3_readLine 152 = .ok (.aload_n 0, 1) := by decide +kernel
theorem dX3_readLine_153 : decode cX3_readLine 153 = .ok (.invokevirtual 130, 3) := by decide +kernel
theorem dX3_readLine_156 : decode cX3_readLine 156 = .ok (.goto 30, 3) := by decide +kernel
theorem dX3_readLine_159 : decode cX3_readLine 159 = .ok (.aload_n 0, 1) := by decide +kernel
theorem dX3_readLine_160 : decode cX3_readLine 160 = .ok (.iload_n 1, 1) := by decide +kernel
theorem dX3_readLine_161 : decode cX3_readLine 161 = .ok (.bipush 9, 2) := by decide +kernel
theorem dX3_readLine_163 : decode cX3_readLine 163 = .ok (.if_icmp .ne 13, 3) := by decide +kernel
theorem dX3_readLine_166 : decode cX3_readLine 166 = .ok (.aload_n 0, 1) := by decide +kernel
theorem dX3_readLine_167 : decode cX3_readLine 167 = .ok (.getfield 29, 3) := by decide +kernel
theorem dX3_readLine_170 : decode cX3_readLine 170 = .ok (.getfield 133, 3) := by decide +kernel
theorem dX3_readLine_173 : decode cX3_readLine 173 = .ok (.goto 10, 3) := by decide +kernel
theorem dX3_readLine_176 : decode cX3_readLine 176 = .ok (.aload_n 0, 1) := by decide +kernel
theorem dX3_readLine_177 : decode cX3_readLine 177 = .ok (.getfield 29, 3) := by decide +kernel
theorem dX3_readLine_180 : decode cX3_readLine 180 = .ok (.getfield 136, 3) := by decide +kernel
theorem dX3_readLine_183 : decode cX3_readLine 183 = .ok (.invokevirtual 139, 3) := by decide +kernel
theorem dX3_readLine_186 : decode cX3_readLine 186 = .ok (.return_, 1) := by decide +kernel
theorem dX3_readOlder_0 : decode cX3_readOlder 0 = .ok (.aload_n 0, 1) := by decide +kernel
theorem dX3_readOlder_1 : decode cX3_readOlder 1 = .ok (.bipush 7, 2) := by decide +kernel
theorem dX3_readOlder_3 : decode cX3_readOlder 3 = .ok (.invokevirtual 275, 3) := by decide +kernel
theorem dX3_readOlder_6 : decode cX3_readOlder 6 = .ok (.istore_n 1, 1) := by decide +kernel
theorem dX3_readOlder_7 : decode cX3_readOlder 7 = .ok (.aload_n 0, 1) := by decide +kernel
theorem dX3_readOlder_8 : decode cX3_readOlder 8 = .ok (.bipush 7, 2) := by decide +kernel
theorem dX3_readOlder_10 : decode cX3_readOlder 10 = .ok (.invokevirtual 275, 3) := by decide +kernel
theorem dX3_readOlder_13 : decode cX3_readOlder 13 = .ok (.istore_n 2, 1) := by decide +kernel
theorem dX3_readOlder_14 : decode cX3_readOlder 14 = .ok (.iload_n 1, 1) := by decide +kernel
theorem dX3_readOlder_15 : decode cX3_readOlder 15 = .ok (.iload_n 2, 1) := by decide +kernel
theorem dX3_readOlder_16 : decode cX3_readOlder 16 = .ok (.if_icmp .eq 15, 3) := by decide +kernel
theorem dX3_readOlder_19 : decode cX3_readOlder 19 = .ok (.aload_n 0, 1) := by decide +kernel
theorem dX3_readOlder_20 : decode cX3_readOlder 20 = .ok (.getfield 29, 3) := by decide +kernel
theorem dX3_readOlder_23 : decode cX3_readOlder 23 = .ok (.iload_n 1, 1) := by decide +kernel
theorem dX3_readOlder_24 : decode cX3_readOlder 24 = .ok (.iload_n 2, 1) := by decide +kernel
theorem dX3_readOlder_25 : decode cX3_readOlder 25 = .ok (.invokevirtual 325, 3) := by decide +kernel
theorem dX3_readOlder_28 : decode cX3_readOlder 28 = .ok (.ifCond .eq 15, 3) := by decide +kernel
theorem dX3_readOlder_31 : decode cX3_readOlder 31 = .ok (.aload_n 0, 1) := by decide +kernel
theorem dX3_readOlder_32 : decode cX3_readOlder 32 = .ok (.iconst 3, 1) := by decide +kernel
theorem dX3_readOlder_33 : decode cX3_readOlder 33 = .ok (.aload_n 0, 1) := by decide +kernel
theorem dX3_readOlder_34 : decode cX3_readOlder 34 = .ok (.getfield 12, 3) := by decide +kernel
theorem dX3_readOlder_37 : decode cX3_readOlder 37 = .ok (.getfield 238, 3) := by decide +kernel
theorem dX3_readOlder_40 : decode cX3_readOlder 40 = .ok (.invokevirtual 88, 3) := by decide +kernel
theorem dX3_readOlder_43 : decode cX3_readOlder 43 = .ok (.aload_n 0, 1) := by decide +kernel
theorem dX3_readOlder_44 : decode cX3_readOlder 44 = .ok (.getfield 29, 3) := by decide +kernel
theorem dX3_readOlder_47 : decode cX3_readOlder 47 = .ok (.getfield 328, 3) := by decide +kernel
theorem dX3_readOlder_50 : decode cX3_readOlder 50 = .ok (.iload_n 2, 1) := by decide +kernel
theorem dX3_readOlder_51 : decode cX3_readOlder 51 = .ok (.dup2, 1) := by decide +kernel
theorem dX3_readOlder_52 : decode cX3_readOlder 52 = .ok (.iaload, 1) := by decide +kernel
theorem dX3_readOlder_53 : decode cX3_readOlder 53 = .ok (.iconst 1, 1) := by decide +kernel
theorem dX3_readOlder_54 : decode cX3_readOlder 54 = .ok (.iload_n 1, 1) := by decide +kernel
theorem dX3_readOlder_55 : decode cX3_readOlder 55 = .ok (.ishl, 1) := by decide +kernel
theorem dX3_readOlder_56 : decode cX3_readOlder 56 = .ok (.ior, 1) := by decide +kernel
theorem dX3_readOlder_57 : decode cX3_readOlder 57 = .ok (.iastore, 1) := by decide +kernel
theorem dX3_readOlder_58 : decode cX3_readOlder 58 = .ok (.aload_n 0, 1) := by decide +kernel
theorem dX3_readOlder_59 : decode cX3_readOlder 59 = .ok (.dup, 1) := by decide +kernel
theorem dX3_readOlder_60 : decode cX3_readOlder 60 = .ok (.getfield 62, 3) := by decide +kernel
theorem dX3_readOlder_63 : decode cX3_readOlder 63 = .ok (.iconst 1, 1) := by decide +kernel
theorem dX3_readOlder_64 : decode cX3_readOlder 64 = .ok (.iadd, 1) := by decide +kernel
theorem dX3_readOlder_65 : decode cX3_readOlder 65 = .ok (.putfield 62, 3) := by decide +kernel
theorem dX3_readOlder_68 : decode cX3_readOlder 68 = .ok (.return_, 1) := by decide +kernel
theorem dX3_readSkin_0 : decode cX3_readSkin 0 = .ok (.aload_n 0, 1) := by decide +kernel
theorem dX3_readSkin_1 : decode cX3_readSkin 1 = .ok (.iconst 4, 1) := by decide +kernel
theorem dX3_readSkin_2 : decode cX3_readSkin 2 = .ok (.invokevirtual 275, 3) := by decide +kernel
theorem dX3_readSkin_5 : decode cX3_readSkin 5 = .ok (.istore_n 1, 1) := by decide +kernel
theorem dX3_readSkin_6 : decode cX3_readSkin 6 = .ok (.aload_n 0, 1) := by decide +kernel
theorem dX3_readSkin_7 : decode cX3_readSkin 7 = .ok (.getfield 45, 3) := by decide +kernel
theorem dX3_readSkin_10 : decode cX3_readSkin 10 = .ok (.ifCond .eq 4, 3) := by decide +kernel
theorem dX3_readSkin_13 : decode cX3_readSkin 13 = .ok (.return_, 1) := by decide +kernel
theorem dX3_readSkin_14 : decode cX3_readSkin 14 = .ok (.aload_n 0, 1) := by decide +kernel
theorem dX3_readSkin_15 : decode cX3_readSkin 15 = .ok (.getfield 33, 3) := by decide +kernel
theorem dX3_readSkin_18 : decode cX3_readSkin 18 = .ok (.getfield 298, 3) := by decide +kernel
theorem dX3_readSkin_21 : decode cX3_readSkin 21 = .ok (.iload_n 1, 1) := by decide +kernel
theorem dX3_readSkin_22 : decode cX3_readSkin 22 = .ok (.iaload, 1) := by decide +kernel
theorem dX3_readSkin_23 : decode cX3_readSkin 23 = .ok (.bipush 6, 2) := by decide +kernel
theorem dX3_readSkin_25 : decode cX3_readSkin 25 = .ok (.if_icmp .lt 15, 3) := by decide +kernel
theorem dX3_readSkin_28 : decode cX3_readSkin 28 = .ok (.aload_n 0, 1) := by decide +kernel
theorem dX3_readSkin_29 : decode cX3_readSkin 29 = .ok (.iconst 5, 1) := by decide +kernel
theorem dX3_readSkin_30 : decode cX3_readSkin 30 = .ok (.aload_n 0, 1) := by decide +kernel
theorem dX3_readSkin_31 : decode cX3_readSkin 31 = .ok (.getfield 12, 3) := by decide +kernel
theorem dX3_readSkin_34 : decode cX3_readSkin 34 = .ok (.getfield 238, 3) := by decide +kernel
theorem dX3_readSkin_37 : decode cX3_readSkin 37 = .ok (.invokevirtual 88, 3) := by decide +kernel
theorem dX3_readSkin_40 : decode cX3_readSkin 40 = .ok (.aload_n 0, 1) := by decide +kernel
theorem dX3_readSkin_41 : decode cX3_readSkin 41 = .ok (.getfield 29, 3) := by decide +kernel
theorem dX3_readSkin_44 : decode cX3_readSkin 44 = .ok (.aload_n 0, 1) := by decide +kernel
theorem dX3_readSkin_45 : decode cX3_readSkin 45 = .ok (.getfield 33, 3) := by decide +kernel
theorem dX3_readSkin_48 : decode cX3_readSkin 48 = .ok (.iload_n 1, 1) := by decide +kernel
theorem dX3_readSkin_49 : decode cX3_readSkin 49 = .ok (.invokestatic 301, 3) := by decide +kernel
theorem dX3_readSkin_52 : decode cX3_readSkin 52 = .ok (.ifCond .ne 16, 3) := by decide +kernel
theorem dX3_readSkin_55 : decode cX3_readSkin 55 = .ok (.aload_n 0, 1) := by decide +kernel
theorem dX3_readSkin_56 : decode cX3_readSkin 56 = .ok (.bipush 7, 2) := by decide +kernel
theorem dX3_readSkin_58 : decode cX3_readSkin 58 = .ok (.aload_n 0, 1) := by decide +kernel
theorem dX3_readSkin_59 : decode cX3_readSkin 59 = .ok (.getfield 12, 3) := by decide +kernel
theorem dX3_readSkin_62 : decode cX3_readSkin 62 = .ok (.getfield 238, 3) := by decide +kernel
theorem dX3_readSkin_65 : decode cX3_readSkin 65 = .ok (.invokevirtual 88, 3) := by decide +kernel
theorem dX3_readSkin_68 : decode cX3_readSkin 68 = .ok (.aload_n 0, 1) := by decide +kernel
theorem dX3_readSkin_69 : decode cX3_readSkin 69 = .ok (.iconst 3, 1) := by decide +kernel
theorem dX3_readSkin_70 : decode cX3_readSkin 70 = .ok (.invokevirtual 275, 3) := by decide +kernel
theorem dX3_readSkin_73 : decode cX3_readSkin 73 = .ok (.istore_n 2, 1) := by decide +kernel
theorem dX3_readSkin_74 : decode cX3_readSkin 74 = .ok (.aload_n 0, 1) := by decide +kernel
theorem dX3_readSkin_75 : decode cX3_readSkin 75 = .ok (.ldc_w 305, 3) := by decide +kernel
theorem dX3_readSkin_78 : decode cX3_readSkin 78 = .ok (.ldc_w 307, 3) := by decide +kernel
theorem dX3_readSkin_81 : decode cX3_readSkin 81 = .ok (.ldc_w 309, 3) := by decide +kernel
theorem dX3_readSkin_84 : decode cX3_readSkin 84 = .ok (.ldc_w 311, 3) := by decide +kernel
theorem dX3_readSkin_87 : decode cX3_readSkin 87 = .ok (.invokevirtual 205, 3) := by decide +kernel
theorem dX3_readSkin_90 : decode cX3_readSkin 90 = .ok (.istore_n 3, 1) := by decide +kernel
theorem dX3_readSkin_91 : decode cX3_readSkin 91 = .ok (.aload_n 0, 1) := by decide +kernel
theorem dX3_readSkin_92 : decode cX3_readSkin 92 = .ok (.iconst 0, 1) := by decide +kernel
theorem dX3_readSkin_93 : decode cX3_readSkin 93 = .ok (.iconst 2, 1) := by decide +kernel
theorem dX3_readSkin_94 : decode cX3_readSkin 94 = .ok (.aload_n 0, 1) := by decide +kernel
theorem dX3_readSkin_95 : decode cX3_readSkin 95 = .ok (.getfield 33, 3) := by decide +kernel
theorem dX3_readSkin_98 : decode cX3_readSkin 98 = .ok (.getfield 298, 3) := by decide +kernel
theorem dX3_readSkin_101 : decode cX3_readSkin 101 = .ok (.iload_n 1, 1) := by decide +kernel
theorem dX3_readSkin_102 : decode cX3_readSkin 102 = .ok (.iaload, 1) := by decide +kernel
theorem dX3_readSkin_103 : decode cX3_readSkin 103 = .ok (.imul, 1) := by decide +kernel
theorem dX3_readSkin_104 : decode cX3_readSkin 104 = .ok (.invokevirtual 187, 3) := by decide +kernel
theorem dX3_readSkin_107 : decode cX3_readSkin 107 = .ok (.istore 4, 2) := by decide +kernel
theorem dX3_readSkin_109 : decode cX3_readSkin 109 = .ok (.aload_n 0, 1) := by decide +kernel
theorem dX3_readSkin_110 : decode cX3_readSkin 110 = .ok (.ldc_w 313, 3) := by decide +kernel
theorem dX3_readSkin_113 : decode cX3_readSkin 113 = .ok (.invokevirtual 183, 3) := by decide +kernel
theorem dX3_readSkin_116 : decode cX3_readSkin 116 = .ok (.aload_n 0, 1) := by decide +kernel
theorem dX3_readSkin_117 : decode cX3_readSkin 117 = .ok (.iconst 0, 1) := by decide +kernel
theorem dX3_readSkin_118 : decode cX3_readSkin 118 = .ok (.bipush 99, 2) := by decide +kernel
theorem dX3_readSkin_120 : decode cX3_readSkin 120 = .ok (.invokevirtual 187, 3) := by decide +kernel
theorem dX3_readSkin_123 : decode cX3_readSkin 123 = .ok (.istore 5, 2) := by decide +kernel
theorem dX3_readSkin_125 : decode cX3_readSkin 125 = .ok (.aload_n 0, 1) := by decide +kernel
theorem dX3_readSkin_126 : decode cX3_readSkin 126 = .ok (.getfield 45, 3) := by decide +kernel
theorem dX3_readSkin_129 : decode cX3_readSkin 129 = .ok (.ifCond .ne 19, 3) := by decide +kernel
theorem dX3_readSkin_132 : decode cX3_readSkin 132 = .ok (.aload_n 0, 1) := by decide +kernel
theorem dX3_readSkin_133 : decode cX3_readSkin 133 = .ok (.getfield 33, 3) := by decide +kernel
theorem dX3_readSkin_136 : decode cX3_readSkin 136 = .ok (.iload_n 1, 1) := by decide +kernel
theorem dX3_readSkin_137 : decode cX3_readSkin 137 = .ok (.iload_n 2, 1) := by decide +kernel
theorem dX3_readSkin_138 : decode cX3_readSkin 138 = .ok (.iload_n 3, 1) := by decide +kernel
theorem dX3_readSkin_139 : decode cX3_readSkin 139 = .ok (.iload 4, 2) := by decide +kernel
theorem dX3_readSkin_141 : decode cX3_readSkin 141 = .ok (.iload 5, 2) := by decide +kernel
theorem dX3_readSkin_143 : decode cX3_readSkin 143 = .ok (.bipush (-2), 2) := by decide +kernel
theorem dX3_readSkin_145 : decode cX3_readSkin 145 = .ok (.invokevirtual 315, 3) := by decide +kernel
theorem dX3_readSkin_148 : decode cX3_readSkin 148 = .ok (.return_, 1) := by decide +kernel
theorem dX3_readStone_0 : decode cX3_readStone 0 = .ok (.aload_n 0, 1) := by decide +kernel
theorem dX3_readStone_1 : decode cX3_readStone 1 = .ok (.getfield 29, 3) := by decide +kernel
theorem dX3_readStone_4 : decode cX3_readStone 4 = .ok (.getfield 82, 3) := by decide +kernel
theorem dX3_readStone_7 : decode cX3_readStone 7 = .ok (.istore_n 1, 1) := by decide +kernel
theorem dX3_readStone_8 : decode cX3_readStone 8 = .ok (.aload_n 0, 1) := by decide +kernel
theorem dX3_readStone_9 : decode cX3_readStone 9 = .ok (.iconst 3, 1) := by decide +kernel
theorem dX3_readStone_10 : decode cX3_readStone 10 = .ok (.iload_n 1, 1) := by decide +kernel
theorem dX3_readStone_11 : decode cX3_readStone 11 = .ok (.invokevirtual 244, 3) := by decide +kernel
theorem dX3_readStone_14 : decode cX3_readStone 14 = .ok (.aload_n 0, 1) := by decide +kernel
theorem dX3_readStone_15 : decode cX3_readStone 15 = .ok (.getfield 29, 3) := by decide +kernel
theorem dX3_readStone_18 : decode cX3_readStone 18 = .ok (.iload_n 1, 1) := by decide +kernel
theorem dX3_readStone_19 : decode cX3_readStone 19 = .ok (.iconst 0, 1) := by decide +kernel
theorem dX3_readStone_20 : decode cX3_readStone 20 = .ok (.aload_n 0, 1) := by decide +kernel
theorem dX3_readStone_21 : decode cX3_readStone 21 = .ok (.ldc 247, 2) := by decide +kernel
theorem dX3_readStone_23 : decode cX3_readStone 23 = .ok (.ldc 249, 2) := by decide +kernel
theorem dX3_readStone_25 : decode cX3_readStone 25 = .ok (.ldc 251, 2) := by decide +kernel
theorem dX3_readStone_27 : decode cX3_readStone 27 = .ok (.ldc 203, 2) := by decide +kernel
theorem dX3_readStone_29 : decode cX3_readStone 29 = .ok (.invokevirtual 205, 3) := by decide +kernel
theorem dX3_readStone_32 : decode cX3_readStone 32 = .ok (.invokevirtual 253, 3) := by decide +kernel
theorem dX3_readStone_35 : decode cX3_readStone 35 = .ok (.aload_n 0, 1) := by decide +kernel
theorem dX3_readStone_36 : decode cX3_readStone 36 = .ok (.ldc_w 257, 3) := by decide +kernel
theorem dX3_readStone_39 : decode cX3_readStone 39 = .ok (.invokevirtual 183, 3) := by decide +kernel
theorem dX3_readStone_42 : decode cX3_readStone 42 = .ok (.aload_n 0, 1) := by decide +kernel
theorem dX3_readStone_43 : decode cX3_readStone 43 = .ok (.getfield 29, 3) := by decide +kernel
theorem dX3_readStone_46 : decode cX3_readStone 46 = .ok (.iload_n 1, 1) := by decide +kernel
theorem dX3_readStone_47 : decode cX3_readStone 47 = .ok (.iconst 1, 1) := by decide +kernel
theorem dX3_readStone_48 : decode cX3_readStone 48 = .ok (.aload_n 0, 1) := by decide +kernel
theorem dX3_readStone_49 : decode cX3_readStone 49 = .ok (.iconst 1, 1) := by decide +kernel
theorem dX3_readStone_50 : decode cX3_readStone 50 = .ok (.bipush 9, 2) := by decide +kernel
theorem dX3_readStone_52 : decode cX3_readStone 52 = .ok (.invokevirtual 187, 3) := by decide +kernel
theorem dX3_readStone_55 : decode cX3_readStone 55 = .ok (.invokevirtual 253, 3) := by decide +kernel
theorem dX3_readStone_58 : decode cX3_readStone 58 = .ok (.aload_n 0, 1) := by decide +kernel
theorem dX3_readStone_59 : decode cX3_readStone 59 = .ok (.ldc_w 259, 3) := by decide +kernel
theorem dX3_readStone_62 : decode cX3_readStone 62 = .ok (.invokevirtual 183, 3) := by decide +kernel
theorem dX3_readStone_65 : decode cX3_readStone 65 = .ok (.aload_n 0, 1) := by decide +kernel
theorem dX3_readStone_66 : decode cX3_readStone 66 = .ok (.getfield 29, 3) := by decide +kernel
theorem dX3_readStone_69 : decode cX3_readStone 69 = .ok (.iload_n 1, 1) := by decide +kernel
theorem dX3_readStone_70 : decode cX3_readStone 70 = .ok (.iconst 2, 1) := by decide +kernel
theorem dX3_readStone_71 : decode cX3_readStone 71 = .ok (.aload_n 0, 1) := by decide +kernel
theorem dX3_readStone_72 : decode cX3_readStone 72 = .ok (.iconst 0, 1) := by decide +kernel
theorem dX3_readStone_73 : decode cX3_readStone 73 = .ok (.bipush 9, 2) := by decide +kernel
theorem dX3_readStone_75 : decode cX3_readStone 75 = .ok (.invokevirtual 187, 3) := by decide +kernel
theorem dX3_readStone_78 : decode cX3_readStone 78 = .ok (.invokevirtual 253, 3) := by decide +kernel
theorem dX3_readStone_81 : decode cX3_readStone 81 = .ok (.aload_n 0, 1) := by decide +kernel
theorem dX3_readStone_82 : decode cX3_readStone 82 = .ok (.ldc_w 261, 3) := by decide +kernel
theorem dX3_readStone_85 : decode cX3_readStone 85 = .ok (.invokevirtual 183, 3) := by decide +kernel
theorem dX3_readStone_88 : decode cX3_readStone 88 = .ok (.aload_n 0, 1) := by decide +kernel
theorem dX3_readStone_89 : decode cX3_readStone 89 = .ok (.getfield 29, 3) := by decide +kernel
theorem dX3_readStone_92 : decode cX3_readStone 92 = .ok (.iload_n 1, 1) := by decide +kernel
theorem dX3_readStone_93 : decode cX3_readStone 93 = .ok (.iconst 3, 1) := by decide +kernel
theorem dX3_readStone_94 : decode cX3_readStone 94 = .ok (.aload_n 0, 1) := by decide +kernel
theorem dX3_readStone_95 : decode cX3_readStone 95 = .ok (.iconst 0, 1) := by decide +kernel
theorem dX3_readStone_96 : decode cX3_readStone 96 = .ok (.bipush 9, 2) := by decide +kernel
theorem dX3_readStone_98 : decode cX3_readStone 98 = .ok (.invokevirtual 187, 3) := by decide +kernel
theorem dX3_readStone_101 : decode cX3_readStone 101 = .ok (.invokevirtual 253, 3) := by decide +kernel
theorem dX3_readStone_104 : decode cX3_readStone 104 = .ok (.aload_n 0, 1) := by decide +kernel
theorem dX3_readStone_105 : decode cX3_readStone 105 = .ok (.ldc_w 263, 3) := by decide +kernel
theorem dX3_readStone_108 : decode cX3_readStone 108 = .ok (.invokevirtual 183, 3) := by decide +kernel
theorem dX3_readStone_111 : decode cX3_readStone 111 = .ok (.aload_n 0, 1) := by decide +kernel
theorem dX3_readStone_112 : decode cX3_readStone 112 = .ok (.getfield 29, 3) := by decide +kernel
theorem dX3_readStone_115 : decode cX3_readStone 115 = .ok (.iload_n 1, 1) := by decide +kernel
theorem dX3_readStone_116 : decode cX3_readStone 116 = .ok (.iconst 4, 1) := by decide +kernel
theorem dX3_readStone_117 : decode cX3_readStone 117 = .ok (.aload_n 0, 1) := by decide +kernel
theorem dX3_readStone_118 : decode cX3_readStone 118 = .ok (.iconst 1, 1) := by decide +kernel
theorem dX3_readStone_119 : decode cX3_readStone 119 = .ok (.bipush 99, 2) := by decide +kernel
theorem dX3_readStone_121 : decode cX3_readStone 121 = .ok (.invokevirtual 187, 3) := by decide +kernel
theorem dX3_readStone_124 : decode cX3_readStone 124 = .ok (.invokevirtual 253, 3) := by decide +kernel
theorem dX3_readStone_127 : decode cX3_readStone 127 = .ok (.aload_n 0, 1) := by decide +kernel
theorem dX3_readStone_128 : decode cX3_readStone 128 = .ok (.getfield 29, 3) := by decide +kernel
theorem dX3_readStone_131 : decode cX3_readStone 131 = .ok (.dup, 1) := by decide +kernel
theorem dX3_readStone_132 : decode cX3_readStone 132 = .ok (.getfield 82, 3) := by decide +kernel
theorem dX3_readStone_135 : decode cX3_readStone 135 = .ok (.iconst 1, 1) := by decide +kernel
theorem dX3_readStone_136 : decode cX3_readStone 136 = .ok (.iadd, 1) := by decide +kernel
theorem dX3_readStone_137 : decode cX3_readStone 137 = .ok (.putfield 82, 3) := by decide +kernel
theorem dX3_readStone_140 : decode cX3_readStone 140 = .ok (.return_, 1) := by decide +kernel
theorem dX3_readWall_0 : decode cX3_readWall 0 = .ok (.aload_n 0, 1) := by decide +kernel
theorem dX3_readWall_1 : decode cX3_readWall 1 = .ok (.bipush 7, 2) := by decide +kernel
theorem dX3_readWall_3 : decode cX3_readWall 3 = .ok (.aload_n 0, 1) := by decide +kernel
theorem dX3_readWall_4 : decode cX3_readWall 4 = .ok (.getfield 29, 3) := by decide +kernel
theorem dX3_readWall_7 : decode cX3_readWall 7 = .ok (.getfield 178, 3) := by decide +kernel
theorem dX3_readWall_10 : decode cX3_readWall 10 = .ok (.invokevirtual 244, 3) := by decide +kernel
theorem dX3_readWall_13 : decode cX3_readWall 13 = .ok (.aload_n 0, 1) := by decide +kernel
theorem dX3_readWall_14 : decode cX3_readWall 14 = .ok (.getfield 29, 3) := by decide +kernel
theorem dX3_readWall_17 : decode cX3_readWall 17 = .ok (.dup, 1) := by decide +kernel
theorem dX3_readWall_18 : decode cX3_readWall 18 = .ok (.getfield 178, 3) := by decide +kernel
theorem dX3_readWall_21 : decode cX3_readWall 21 = .ok (.iconst 1, 1) := by decide +kernel
theorem dX3_readWall_22 : decode cX3_readWall 22 = .ok (.iadd, 1) := by decide +kernel
theorem dX3_readWall_23 : decode cX3_readWall 23 = .ok (.putfield 178, 3) := by decide +kernel
theorem dX3_readWall_26 : decode cX3_readWall 26 = .ok (.return_, 1) := by decide +kernel
theorem dX3_readWater_0 : decode cX3_readWater 0 = .ok (.aload_n 0, 1) := by decide +kernel
theorem dX3_readWater_1 : decode cX3_readWater 1 = .ok (.iconst 0, 1) := by decide +kernel
theorem dX3_readWater_2 : decode cX3_readWater 2 = .ok (.aload_n 0, 1) := by decide +kernel
theorem dX3_readWater_3 : decode cX3_readWater 3 = .ok (.getfield 29, 3) := by decide +kernel
theorem dX3_readWater_6 : decode cX3_readWater 6 = .ok (.getfield 191, 3) := by decide +kernel
theorem dX3_readWater_9 : decode cX3_readWater 9 = .ok (.iconst 1, 1) := by decide +kernel
theorem dX3_readWater_10 : decode cX3_readWater 10 = .ok (.isub, 1) := by decide +kernel
theorem dX3_readWater_11 : decode cX3_readWater 11 = .ok (.invokevirtual 187, 3) := by decide +kernel
theorem dX3_readWater_14 : decode cX3_readWater 14 = .ok (.istore_n 1, 1) := by decide +kernel
theorem dX3_readWater_15 : decode cX3_readWater 15 = .ok (.aload_n 0, 1) := by decide +kernel
theorem dX3_readWater_16 : decode cX3_readWater 16 = .ok (.bipush 44, 2) := by decide +kernel
theorem dX3_readWater_18 : decode cX3_readWater 18 = .ok (.invokevirtual 78, 3) := by decide +kernel
theorem dX3_readWater_21 : decode cX3_readWater 21 = .ok (.aload_n 0, 1) := by decide +kernel
theorem dX3_readWater_22 : decode cX3_readWater 22 = .ok (.iconst 0, 1) := by decide +kernel
theorem dX3_readWater_23 : decode cX3_readWater 23 = .ok (.aload_n 0, 1) := by decide +kernel
theorem dX3_readWater_24 : decode cX3_readWater 24 = .ok (.getfield 29, 3) := by decide +kernel
theorem dX3_readWater_27 : decode cX3_readWater 27 = .ok (.getfield 195, 3) := by decide +kernel
theorem dX3_readWater_30 : decode cX3_readWater 30 = .ok (.iconst 1, 1) := by decide +kernel
theorem dX3_readWater_31 : decode cX3_readWater 31 = .ok (.isub, 1) := by decide +kernel
theorem dX3_readWater_32 : decode cX3_readWater 32 = .ok (.invokevirtual 187, 3) := by decide +kernel
theorem dX3_readWater_35 : decode cX3_readWater 35 = .ok (.istore_n 2, 1) := by decide +kernel
theorem dX3_readWater_36 : decode cX3_readWater 36 = .ok (.aload_n 0, 1) := by decide +kernel
theorem dX3_readWater_37 : decode cX3_readWater 37 = .ok (.getfield 29, 3) := by decide +kernel
theorem dX3_readWater_40 : decode cX3_readWater 40 = .ok (.iload_n 1, 1) := by decide +kernel
theorem dX3_readWater_41 : decode cX3_readWater 41 = .ok (.iload_n 2, 1) := by decide +kernel
theorem dX3_readWater_42 : decode cX3_readWater 42 = .ok (.invokevirtual 234, 3) := by decide +kernel
theorem dX3_readWater_45 : decode cX3_readWater 45 = .ok (.ifCond .eq 15, 3) := by decide +kernel
theorem dX3_readWater_48 : decode cX3_readWater 48 = .ok (.aload_n 0, 1) := by decide +kernel
theorem dX3_readWater_49 : decode cX3_readWater 49 = .ok (.iconst 3, 1) := by decide +kernel
theorem dX3_readWater_50 : decode cX3_readWater 50 = .ok (.aload_n 0, 1) := by decide +kernel
theorem dX3_readWater_51 : decode cX3_readWater 51 = .ok (.getfield 12, 3) := by decide +kernel
theorem dX3_readWater_54 : decode cX3_readWater 54 = .ok (.getfield 238, 3) := by decide +kernel
theorem dX3_readWater_57 : decode cX3_readWater 57 = .ok (.invokevirtual 88, 3) := by decide +kernel
theorem dX3_readWater_60 : decode cX3_readWater 60 = .ok (.aload_n 0, 1) := by decide +kernel
theorem dX3_readWater_61 : decode cX3_readWater 61 = .ok (.getfield 29, 3) := by decide +kernel
theorem dX3_readWater_64 : decode cX3_readWater 64 = .ok (.iload_n 1, 1) := by decide +kernel
theorem dX3_readWater_65 : decode cX3_readWater 65 = .ok (.iload_n 2, 1) := by decide +kernel
theorem dX3_readWater_66 : decode cX3_readWater 66 = .ok (.invokevirtual 241, 3) := by decide +kernel
theorem dX3_readWater_69 : decode cX3_readWater 69 = .ok (.aload_n 0, 1) := by decide +kernel
theorem dX3_readWater_70 : decode cX3_readWater 70 = .ok (.dup, 1) := by decide +kernel
theorem dX3_readWater_71 : decode cX3_readWater 71 = .ok (.getfield 59, 3) := by decide +kernel
theorem dX3_readWater_74 : decode cX3_readWater 74 = .ok (.iconst 1, 1) := by decide +kernel
theorem dX3_readWater_75 : decode cX3_readWater 75 = .ok (.iadd, 1) := by decide +kernel
theorem dX3_readWater_76 : decode cX3_readWater 76 = .ok (.putfield 59, 3) := by decide +kernel
theorem dX3_readWater_79 : decode cX3_readWater 79 = .ok (.return_, 1) := by decide +kernel
theorem dX3_readYearOfWall_0 : decode cX3_readYearOfWall 0 = .ok (.aload_n 0, 1) := by decide +kernel
theorem dX3_readYearOfWall_1 : decode cX3_readYearOfWall 1 = .ok (.bipush 7, 2) := by decide +kernel
theorem dX3_readYearOfWall_3 : decode cX3_readYearOfWall 3 = .ok (.invokevirtual 275, 3) := by decide +kernel
theorem dX3_readYearOfWall_6 : decode cX3_readYearOfWall 6 = .ok (.istore_n 2, 1) := by decide +kernel
theorem dX3_readYearOfWall_7 : decode cX3_readYearOfWall 7 = .ok (.aload_n 1, 1) := by decide +kernel
theorem dX3_readYearOfWall_8 : decode cX3_readYearOfWall 8 = .ok (.iload_n 2, 1) := by decide +kernel
theorem dX3_readYearOfWall_9 : decode cX3_readYearOfWall 9 = .ok (.iaload, 1) := by decide +kernel
theorem dX3_readYearOfWall_10 : decode cX3_readYearOfWall 10 = .ok (.iconst (-1), 1) := by decide +kernel
theorem dX3_readYearOfWall_11 : decode cX3_readYearOfWall 11 = .ok (.if_icmp .eq 15, 3) := by decide +kernel
theorem dX3_readYearOfWall_14 : decode cX3_readYearOfWall 14 = .ok (.aload_n 0, 1) := by decide +kernel
theorem dX3_readYearOfWall_15 : decode cX3_readYearOfWall 15 = .ok (.iconst 3, 1) := by decide +kernel
theorem dX3_readYearOfWall_16 : decode cX3_readYearOfWall 16 = .ok (.aload_n 0, 1) := by decide +kernel
theorem dX3_readYearOfWall_17 : decode cX3_readYearOfWall 17 = .ok (.getfield 12, 3) := by decide +kernel
theorem dX3_readYearOfWall_20 : decode cX3_readYearOfWall 20 = .ok (.getfield 238, 3) := by decide +kernel
theorem dX3_readYearOfWall_23 : decode cX3_readYearOfWall 23 = .ok (.invokevirtual 88, 3) := by decide +kernel
theorem dX3_readYearOfWall_26 : decode cX3_readYearOfWall 26 = .ok (.aload_n 1, 1) := by decide +kernel
theorem dX3_readYearOfWall_27 : decode cX3_readYearOfWall 27 = .ok (.iload_n 2, 1) := by decide +kernel
theorem dX3_readYearOfWall_28 : decode cX3_readYearOfWall 28 = .ok (.aload_n 0, 1) := by decide +kernel
theorem dX3_readYearOfWall_29 : decode cX3_readYearOfWall 29 = .ok (.iconst 0, 1) := by decide +kernel
theorem dX3_readYearOfWall_30 : decode cX3_readYearOfWall 30 = .ok (.sipush 999, 3) := by decide +kernel
theorem dX3_readYearOfWall_33 : decode cX3_readYearOfWall 33 = .ok (.invokevirtual 187, 3) := by decide +kernel
theorem dX3_readYearOfWall_36 : decode cX3_readYearOfWall 36 = .ok (.iastore, 1) := by decide +kernel
theorem dX3_readYearOfWall_37 : decode cX3_readYearOfWall 37 = .ok (.return_, 1) := by decide +kernel
theorem dX3_readYears_0 : decode cX3_readYears 0 = .ok (.aload_n 0, 1) := by decide +kernel
theorem dX3_readYears_1 : decode cX3_readYears 1 = .ok (.getfield 33, 3) := by decide +kernel
theorem dX3_readYears_4 : decode cX3_readYears 4 = .ok (.aload_n 0, 1) := by decide +kernel
theorem dX3_readYears_5 : decode cX3_readYears 5 = .ok (.iconst 0, 1) := by decide +kernel
theorem dX3_readYears_6 : decode cX3_readYears 6 = .ok (.sipush 900, 3) := by decide +kernel
theorem dX3_readYears_9 : decode cX3_readYears 9 = .ok (.invokevirtual 187, 3) := by decide +kernel
theorem dX3_readYears_12 : decode cX3_readYears 12 = .ok (.putfield 219, 3) := by decide +kernel
theorem dX3_readYears_15 : decode cX3_readYears 15 = .ok (.aload_n 0, 1) := by decide +kernel
theorem dX3_readYears_16 : decode cX3_readYears 16 = .ok (.ldc 222, 2) := by decide +kernel
theorem dX3_readYears_18 : decode cX3_readYears 18 = .ok (.invokevirtual 183, 3) := by decide +kernel
theorem dX3_readYears_21 : decode cX3_readYears 21 = .ok (.aload_n 0, 1) := by decide +kernel
theorem dX3_readYears_22 : decode cX3_readYears 22 = .ok (.getfield 29, 3) := by decide +kernel
theorem dX3_readYears_25 : decode cX3_readYears 25 = .ok (.aload_n 0, 1) := by decide +kernel
theorem dX3_readYears_26 : decode cX3_readYears 26 = .ok (.iconst 0, 1) := by decide +kernel
theorem dX3_readYears_27 : decode cX3_readYears 27 = .ok (.bipush 100, 2) := by decide +kernel
theorem dX3_readYears_29 : decode cX3_readYears 29 = .ok (.invokevirtual 187, 3) := by decide +kernel
theorem dX3_readYears_32 : decode cX3_readYears 32 = .ok (.putfield 224, 3) := by decide +kernel
theorem dX3_readYears_35 : decode cX3_readYears 35 = .ok (.aload_n 0, 1) := by decide +kernel
theorem dX3_readYears_36 : decode cX3_readYears 36 = .ok (.ldc 226, 2) := by decide +kernel
theorem dX3_readYears_38 : decode cX3_readYears 38 = .ok (.invokevirtual 183, 3) := by decide +kernel
theorem dX3_readYears_41 : decode cX3_readYears 41 = .ok (.aload_n 0, 1) := by decide +kernel
theorem dX3_readYears_42 : decode cX3_readYears 42 = .ok (.getfield 29, 3) := by decide +kernel
theorem dX3_readYears_45 : decode cX3_readYears 45 = .ok (.aload_n 0, 1) := by decide +kernel
theorem dX3_readYears_46 : decode cX3_readYears 46 = .ok (.iconst 0, 1) := by decide +kernel
theorem dX3_readYears_47 : decode cX3_readYears 47 = .ok (.bipush 100, 2) := by decide +kernel
theorem dX3_readYears_49 : decode cX3_readYears 49 = .ok (.invokevirtual 187, 3) := by decide +kernel
theorem dX3_readYears_52 : decode cX3_readYears 52 = .ok (.putfield 228, 3) := by decide +kernel
theorem dX3_readYears_55 : decode cX3_readYears 55 = .ok (.aload_n 0, 1) := by decide +kernel
theorem dX3_readYears_56 : decode cX3_readYears 56 = .ok (.ldc 230, 2) := by decide +kernel
theorem dX3_readYears_58 : decode cX3_readYears 58 = .ok (.invokevirtual 183, 3) := by decide +kernel
theorem dX3_readYears_61 : decode cX3_readYears 61 = .ok (.aload_n 0, 1) := by decide +kernel
theorem dX3_readYears_62 : decode cX3_readYears 62 = .ok (.getfield 29, 3) := by decide +kernel
theorem dX3_readYears_65 : decode cX3_readYears 65 = .ok (.aload_n 0, 1) := by decide +kernel
theorem dX3_readYears_66 : decode cX3_readYears 66 = .ok (.iconst 0, 1) := by decide +kernel
theorem dX3_readYears_67 : decode cX3_readYears 67 = .ok (.bipush 9, 2) := by decide +kernel
theorem dX3_readYears_69 : decode cX3_readYears 69 = .ok (.invokevirtual 187, 3) := by decide +kernel
theorem dX3_readYears_72 : decode cX3_readYears 72 = .ok (.putfield 232, 3) := by decide +kernel
theorem dX3_readYears_75 : decode cX3_readYears 75 = .ok (.aload_n 0, 1) := by decide +kernel
theorem dX3_readYears_76 : decode cX3_readYears 76 = .ok (.iconst 1, 1) := by decide +kernel
theorem dX3_readYears_77 : decode cX3_readYears 77 = .ok (.putfield 56, 3) := by decide +kernel
theorem dX3_readYears_80 : decode cX3_readYears 80 = .ok (.return_, 1) := by decide +kernel
theorem dX3_sign_0 : decode cX3_sign 0 = .ok (.aload_n 0, 1) := by decide +kernel
theorem dX3_sign_1 : decode cX3_sign 1 = .ok (.getfield 45, 3) := by decide +kernel
theorem dX3_sign_4 : decode cX3_sign 4 = .ok (.ifCond .eq 4, 3) := by decide +kernel
theorem dX3_sign_7 : decode cX3_sign 7 = .ok (.return_, 1) := by decide +kernel
theorem dX3_sign_8 : decode cX3_sign 8 = .ok (.aload_n 0, 1) := by decide +kernel
theorem dX3_sign_9 : decode cX3_sign 9 = .ok (.getfield 12, 3) := by decide +kernel
theorem dX3_sign_12 : decode cX3_sign 12 = .ok (.getfield 75, 3) := by decide +kernel
theorem dX3_sign_15 : decode cX3_sign 15 = .ok (.iconst 3, 1) := by decide +kernel
theorem dX3_sign_16 : decode cX3_sign 16 = .ok (.if_icmp .ne 24, 3) := by decide +kernel
theorem dX3_sign_19 : decode cX3_sign 19 = .ok (.aload_n 0, 1) := by decide +kernel
theorem dX3_sign_20 : decode cX3_sign 20 = .ok (.getfield 12, 3) := by decide +kernel
theorem dX3_sign_23 : decode cX3_sign 23 = .ok (.getfield 331, 3) := by decide +kernel
theorem dX3_sign_26 : decode cX3_sign 26 = .ok (.iload_n 1, 1) := by decide +kernel
theorem dX3_sign_27 : decode cX3_sign 27 = .ok (.if_icmp .ne 13, 3) := by decide +kernel
theorem dX3_sign_30 : decode cX3_sign 30 = .ok (.aload_n 0, 1) := by decide +kernel
theorem dX3_sign_31 : decode cX3_sign 31 = .ok (.getfield 12, 3) := by decide +kernel
theorem dX3_sign_34 : decode cX3_sign 34 = .ok (.invokevirtual 103, 3) := by decide +kernel
theorem dX3_sign_37 : decode cX3_sign 37 = .ok (.goto 15, 3) := by decide +kernel
theorem dX3_sign_40 : decode cX3_sign 40 = .ok (.aload_n 0, 1) := by decide +kernel
theorem dX3_sign_41 : decode cX3_sign 41 = .ok (.iconst 1, 1) := by decide +kernel
theorem dX3_sign_42 : decode cX3_sign 42 = .ok (.aload_n 0, 1) := by decide +kernel
theorem dX3_sign_43 : decode cX3_sign 43 = .ok (.getfield 12, 3) := by decide +kernel
theorem dX3_sign_46 : decode cX3_sign 46 = .ok (.getfield 96, 3) := by decide +kernel
theorem dX3_sign_49 : decode cX3_sign 49 = .ok (.invokevirtual 88, 3) := by decide +kernel
theorem dX3_sign_52 : decode cX3_sign 52 = .ok (.return_, 1) := by decide +kernel
theorem dX3_whole_0 : decode cX3_whole 0 = .ok (.aload_n 0, 1) := by decide +kernel
theorem dX3_whole_1 : decode cX3_whole 1 = .ok (.getfield 12, 3) := by decide +kernel
theorem dX3_whole_4 : decode cX3_whole 4 = .ok (.getfield 75, 3) := by decide +kernel
theorem dX3_whole_7 : decode cX3_whole 7 = .ok (.iconst 2, 1) := by decide +kernel
theorem dX3_whole_8 : decode cX3_whole 8 = .ok (.if_icmp .eq 18, 3) := by decide +kernel
theorem dX3_whole_11 : decode cX3_whole 11 = .ok (.aload_n 0, 1) := by decide +kernel
theorem dX3_whole_12 : decode cX3_whole 12 = .ok (.iconst 1, 1) := by decide +kernel
theorem dX3_whole_13 : decode cX3_whole 13 = .ok (.aload_n 0, 1) := by decide +kernel
theorem dX3_whole_14 : decode cX3_whole 14 = .ok (.getfield 12, 3) := by decide +kernel
theorem dX3_whole_17 : decode cX3_whole 17 = .ok (.getfield 96, 3) := by decide +kernel
theorem dX3_whole_20 : decode cX3_whole 20 = .ok (.invokevirtual 88, 3) := by decide +kernel
theorem dX3_whole_23 : decode cX3_whole 23 = .ok (.goto 37, 3) := by decide +kernel
theorem dX3_whole_26 : decode cX3_whole 26 = .ok (.aload_n 0, 1) := by decide +kernel
theorem dX3_whole_27 : decode cX3_whole 27 = .ok (.getfield 12, 3) := by decide +kernel
theorem dX3_whole_30 : decode cX3_whole 30 = .ok (.getfield 331, 3) := by decide +kernel
theorem dX3_whole_33 : decode cX3_whole 33 = .ok (.iload_n 1, 1) := by decide +kernel
theorem dX3_whole_34 : decode cX3_whole 34 = .ok (.if_icmp .lt 14, 3) := by decide +kernel
theorem dX3_whole_37 : decode cX3_whole 37 = .ok (.aload_n 0, 1) := by decide +kernel
theorem dX3_whole_38 : decode cX3_whole 38 = .ok (.getfield 12, 3) := by decide +kernel
theorem dX3_whole_41 : decode cX3_whole 41 = .ok (.getfield 331, 3) := by decide +kernel
theorem dX3_whole_44 : decode cX3_whole 44 = .ok (.iload_n 2, 1) := by decide +kernel
theorem dX3_whole_45 : decode cX3_whole 45 = .ok (.if_icmp .le 15, 3) := by decide +kernel
theorem dX3_whole_48 : decode cX3_whole 48 = .ok (.aload_n 0, 1) := by decide +kernel
theorem dX3_whole_49 : decode cX3_whole 49 = .ok (.iconst 4, 1) := by decide +kernel
theorem dX3_whole_50 : decode cX3_whole 50 = .ok (.aload_n 0, 1) := by decide +kernel
theorem dX3_whole_51 : decode cX3_whole 51 = .ok (.getfield 12, 3) := by decide +kernel
theorem dX3_whole_54 : decode cX3_whole 54 = .ok (.getfield 96, 3) := by decide +kernel
theorem dX3_whole_57 : decode cX3_whole 57 = .ok (.invokevirtual 88, 3) := by decide +kernel
theorem dX3_whole_60 : decode cX3_whole 60 = .ok (.aload_n 0, 1) := by decide +kernel
theorem dX3_whole_61 : decode cX3_whole 61 = .ok (.getfield 45, 3) := by decide +kernel
theorem dX3_whole_64 : decode cX3_whole 64 = .ok (.ifCond .eq 5, 3) := by decide +kernel
theorem dX3_whole_67 : decode cX3_whole 67 = .ok (.iload_n 1, 1) := by decide +kernel
theorem dX3_whole_68 : decode cX3_whole 68 = .ok (.ireturn, 1) := by decide +kernel
theorem dX3_whole_69 : decode cX3_whole 69 = .ok (.aload_n 0, 1) := by decide +kernel
theorem dX3_whole_70 : decode cX3_whole 70 = .ok (.getfield 12, 3) := by decide +kernel
theorem dX3_whole_73 : decode cX3_whole 73 = .ok (.getfield 331, 3) := by decide +kernel
theorem dX3_whole_76 : decode cX3_whole 76 = .ok (.istore_n 3, 1) := by decide +kernel
theorem dX3_whole_77 : decode cX3_whole 77 = .ok (.aload_n 0, 1) := by decide +kernel
theorem dX3_whole_78 : decode cX3_whole 78 = .ok (.getfield 12, 3) := by decide +kernel
theorem dX3_whole_81 : decode cX3_whole 81 = .ok (.invokevirtual 103, 3) := by decide +kernel
theorem dX3_whole_84 : decode cX3_whole 84 = .ok (.iload_n 3, 1) := by decide +kernel
theorem dX3_whole_85 : decode cX3_whole 85 = .ok (.ireturn, 1) := by decide +kernel
theorem dX3_word_0 : decode cX3_word 0 = .ok (.aload_n 0, 1) := by decide +kernel
theorem dX3_word_1 : decode cX3_word 1 = .ok (.getfield 45, 3) := by decide +kernel
theorem dX3_word_4 : decode cX3_word 4 = .ok (.ifCond .eq 4, 3) := by decide +kernel
theorem dX3_word_7 : decode cX3_word 7 = .ok (.return_, 1) := by decide +kernel
theorem dX3_word_8 : decode cX3_word 8 = .ok (.aload_n 0, 1) := by decide +kernel
theorem dX3_word_9 : decode cX3_word 9 = .ok (.getfield 12, 3) := by decide +kernel
theorem dX3_word_12 : decode cX3_word 12 = .ok (.aload_n 1, 1) := by decide +kernel
theorem dX3_word_13 : decode cX3_word 13 = .ok (.invokevirtual 151, 3) := by decide +kernel
theorem dX3_word_16 : decode cX3_word 16 = .ok (.ifCond .eq 13, 3) := by decide +kernel
theorem dX3_word_19 : decode cX3_word 19 = .ok (.aload_n 0, 1) := by decide +kernel
theorem dX3_word_20 : decode cX3_word 20 = .ok (.getfield 12, 3) := by decide +kernel
theorem dX3_word_23 : decode cX3_word 23 = .ok (.invokevirtual 103, 3) := by decide +kernel
theorem dX3_word_26 : decode cX3_word 26 = .ok (.goto 15, 3) := by decide +kernel
theorem dX3_word_29 : decode cX3_word 29 = .ok (.aload_n 0, 1) := by decide +kernel
theorem dX3_word_30 : decode cX3_word 30 = .ok (.iconst 1, 1) := by decide +kernel
theorem dX3_word_31 : decode cX3_word 31 = .ok (.aload_n 0, 1) := by decide +kernel
theorem dX3_word_32 : decode cX3_word 32 = .ok (.getfield 12, 3) := by decide +kernel
theorem dX3_word_35 : decode cX3_word 35 = .ok (.getfield 96, 3) := by decide +kernel
theorem dX3_word_38 : decode cX3_word 38 = .ok (.invokevirtual 88, 3) := by decide +kernel
theorem dX3_word_41 : decode cX3_word 41 = .ok (.return_, 1) := by decide +kernel
theorem dX4_between_0 : decode cX4_between 0 = .ok (.iload_n 1, 1) := by decide +kernel
theorem dX4_between_1 : decode cX4_between 1 = .ok (.iload_n 2, 1) := by decide +kernel
theorem dX4_between_2 : decode cX4_between 2 = .ok (.if_icmp .ge 9, 3) := by decide +kernel
theorem dX4_between_5 : decode cX4_between 5 = .ok (.iload_n 2, 1) := by decide +kernel
theorem dX4_between_6 : decode cX4_between 6 = .ok (.iload_n 1, 1) := by decide +kernel
theorem dX4_between_7 : decode cX4_between 7 = .ok (.isub, 1) := by decide +kernel
theorem dX4_between_8 : decode cX4_between 8 = .ok (.goto 6, 3) := by decide +kernel
theorem dX4_between_11 : decode cX4_between 11 = .ok (.iload_n 1, 1) := by decide +kernel
theorem dX4_between_12 : decode cX4_between 12 = .ok (.iload_n 2, 1) := by decide +kernel
theorem dX4_between_13 : decode cX4_between 13 = .ok (.isub, 1) := by decide +kernel
theorem dX4_between_14 : decode cX4_between 14 = .ok (.istore_n 3, 1) := by decide +kernel
theorem dX4_between_15 : decode cX4_between 15 = .ok (.bipush 8, 2) := by decide +kernel
theorem dX4_between_17 : decode cX4_between 17 = .ok (.iload_n 0, 1) := by decide +kernel
theorem dX4_between_18 : decode cX4_between 18 = .ok (.imul, 1) := by decide +kernel
theorem dX4_between_19 : decode cX4_between 19 = .ok (.iload_n 3, 1) := by decide +kernel
theorem dX4_between_20 : decode cX4_between 20 = .ok (.isub, 1) := by decide +kernel
theorem dX4_between_21 : decode cX4_between 21 = .ok (.istore 4, 2) := by decide +kernel
theorem dX4_between_23 : decode cX4_between 23 = .ok (.iload_n 3, 1) := by decide +kernel
theorem dX4_between_24 : decode cX4_between 24 = .ok (.iload 4, 2) := by decide +kernel
theorem dX4_between_26 : decode cX4_between 26 = .ok (.if_icmp .ge 7, 3) := by decide +kernel
theorem dX4_between_29 : decode cX4_between 29 = .ok (.iload_n 3, 1) := by decide +kernel
theorem dX4_between_30 : decode cX4_between 30 = .ok (.goto 5, 3) := by decide +kernel
theorem dX4_between_33 : decode cX4_between 33 = .ok (.iload 4, 2) := by decide +kernel
theorem dX4_between_35 : decode cX4_between 35 = .ok (.ireturn, 1) := by decide +kernel
theorem dX4_doorPlace_0 : decode cX4_doorPlace 0 = .ok (.iload_n 1, 1) := by decide +kernel
theorem dX4_doorPlace_1 : decode cX4_doorPlace 1 = .ok (.tableswitch 48 0 2 #[27, 31, 39], 27) := by decide +kernel
theorem dX4_doorPlace_28 : decode cX4_doorPlace 28 = .ok (.iconst 1, 1) := by decide +kernel
theorem dX4_doorPlace_29 : decode cX4_doorPlace 29 = .ok (.iload_n 2, 1) := by decide +kernel
theorem dX4_doorPlace_30 : decode cX4_doorPlace 30 = .ok (.iadd, 1) := by decide +kernel
theorem dX4_doorPlace_31 : decode cX4_doorPlace 31 = .ok (.ireturn, 1) := by decide +kernel
theorem dX4_doorPlace_32 : decode cX4_doorPlace 32 = .ok (.iconst 2, 1) := by decide +kernel
theorem dX4_doorPlace_33 : decode cX4_doorPlace 33 = .ok (.iload_n 0, 1) := by decide +kernel
theorem dX4_doorPlace_34 : decode cX4_doorPlace 34 = .ok (.imul, 1) := by decide +kernel
theorem dX4_doorPlace_35 : decode cX4_doorPlace 35 = .ok (.iconst 1, 1) := by decide +kernel
theorem dX4_doorPlace_36 : decode cX4_doorPlace 36 = .ok (.iadd, 1) := by decide +kernel
theorem dX4_doorPlace_37 : decode cX4_doorPlace 37 = .ok (.iload_n 2, 1) := by decide +kernel
theorem dX4_doorPlace_38 : decode cX4_doorPlace 38 = .ok (.iadd, 1) := by decide +kernel
theorem dX4_doorPlace_39 : decode cX4_doorPlace 39 = .ok (.ireturn, 1) := by decide +kernel
theorem dX4_doorPlace_40 : decode cX4_doorPlace 40 = .ok (.bipush 6, 2) := by decide +kernel
theorem dX4_doorPlace_42 : decode cX4_doorPlace 42 = .ok (.iload_n 0, 1) := by decide +kernel
theorem dX4_doorPlace_43 : decode cX4_doorPlace 43 = .ok (.imul, 1) := by decide +kernel
theorem dX4_doorPlace_44 : decode cX4_doorPlace 44 = .ok (.iconst 1, 1) := by decide +kernel
theorem dX4_doorPlace_45 : decode cX4_doorPlace 45 = .ok (.isub, 1) := by decide +kernel
theorem dX4_doorPlace_46 : decode cX4_doorPlace 46 = .ok (.iload_n 2, 1) := by decide +kernel
theorem dX4_doorPlace_47 : decode cX4_doorPlace 47 = .ok (.isub, 1) := by decide +kernel
theorem dX4_doorPlace_48 : decode cX4_doorPlace 48 = .ok (.ireturn, 1) := by decide +kernel
theorem dX4_doorPlace_49 : decode cX4_doorPlace 49 = .ok (.bipush 8, 2) := by decide +kernel
theorem dX4_doorPlace_51 : decode cX4_doorPlace 51 = .ok (.iload_n 0, 1) := by decide +kernel
theorem dX4_doorPlace_52 : decode cX4_doorPlace 52 = .ok (.imul, 1) := by decide +kernel
theorem dX4_doorPlace_53 : decode cX4_doorPlace 53 = .ok (.iconst 1, 1) := by decide +kernel
theorem dX4_doorPlace_54 : decode cX4_doorPlace 54 = .ok (.isub, 1) := by decide +kernel
theorem dX4_doorPlace_55 : decode cX4_doorPlace 55 = .ok (.iload_n 2, 1) := by decide +kernel
theorem dX4_doorPlace_56 : decode cX4_doorPlace 56 = .ok (.isub, 1) := by decide +kernel
theorem dX4_doorPlace_57 : decode cX4_doorPlace 57 = .ok (.ireturn, 1) := by decide +kernel
theorem dX4_eastOf_0 : decode cX4_eastOf 0 = .ok (.iload_n 0, 1) := by decide +kernel
theorem dX4_eastOf_1 : decode cX4_eastOf 1 = .ok (.iconst 1, 1) := by decide +kernel
theorem dX4_eastOf_2 : decode cX4_eastOf 2 = .ok (.if_icmp .ge 5, 3) := by decide +kernel
theorem dX4_eastOf_5 : decode cX4_eastOf 5 = .ok (.iconst 0, 1) := by decide +kernel
theorem dX4_eastOf_6 : decode cX4_eastOf 6 = .ok (.ireturn, 1) := by decide +kernel
theorem dX4_eastOf_7 : decode cX4_eastOf 7 = .ok (.iload_n 1, 1) := by decide +kernel
theorem dX4_eastOf_8 : decode cX4_eastOf 8 = .ok (.iconst 2, 1) := by decide +kernel
theorem dX4_eastOf_9 : decode cX4_eastOf 9 = .ok (.iload_n 0, 1) := by decide +kernel
theorem dX4_eastOf_10 : decode cX4_eastOf 10 = .ok (.imul, 1) := by decide +kernel
theorem dX4_eastOf_11 : decode cX4_eastOf 11 = .ok (.irem, 1) := by decide +kernel
theorem dX4_eastOf_12 : decode cX4_eastOf 12 = .ok (.istore_n 2, 1) := by decide +kernel
theorem dX4_eastOf_13 : decode cX4_eastOf 13 = .ok (.iload_n 1, 1) := by decide +kernel
theorem dX4_eastOf_14 : decode cX4_eastOf 14 = .ok (.iconst 2, 1) := by decide +kernel
theorem dX4_eastOf_15 : decode cX4_eastOf 15 = .ok (.iload_n 0, 1) := by decide +kernel
theorem dX4_eastOf_16 : decode cX4_eastOf 16 = .ok (.imul, 1) := by decide +kernel
theorem dX4_eastOf_17 : decode cX4_eastOf 17 = .ok (.idiv, 1) := by decide +kernel
theorem dX4_eastOf_18 : decode cX4_eastOf 18 = .ok (.tableswitch 36 0 2 #[26, 30, 32], 26) := by decide +kernel
theorem dX4_eastOf_44 : decode cX4_eastOf 44 = .ok (.iload_n 2, 1) := by decide +kernel
theorem dX4_eastOf_45 : decode cX4_eastOf 45 = .ok (.iload_n 0, 1) := by decide +kernel
theorem dX4_eastOf_46 : decode cX4_eastOf 46 = .ok (.isub, 1) := by decide +kernel
theorem dX4_eastOf_47 : decode cX4_eastOf 47 = .ok (.ireturn, 1) := by decide +kernel
theorem dX4_eastOf_48 : decode cX4_eastOf 48 = .ok (.iload_n 0, 1) := by decide +kernel
theorem dX4_eastOf_49 : decode cX4_eastOf 49 = .ok (.ireturn, 1) := by decide +kernel
theorem dX4_eastOf_50 : decode cX4_eastOf 50 = .ok (.iload_n 0, 1) := by decide +kernel
theorem dX4_eastOf_51 : decode cX4_eastOf 51 = .ok (.iload_n 2, 1) := by decide +kernel
theorem dX4_eastOf_52 : decode cX4_eastOf 52 = .ok (.isub, 1) := by decide +kernel
theorem dX4_eastOf_53 : decode cX4_eastOf 53 = .ok (.ireturn, 1) := by decide +kernel
theorem dX4_eastOf_54 : decode cX4_eastOf 54 = .ok (.iload_n 0, 1) := by decide +kernel
theorem dX4_eastOf_55 : decode cX4_eastOf 55 = .ok (.ineg, 1) := by decide +kernel
theorem dX4_eastOf_56 : decode cX4_eastOf 56 = .ok (.ireturn, 1) := by decide +kernel
theorem dX4_inFront_0 : decode cX4_inFront 0 = .ok (.iload_n 0, 1) := by decide +kernel
theorem dX4_inFront_1 : decode cX4_inFront 1 = .ok (.iconst 1, 1) := by decide +kernel
theorem dX4_inFront_2 : decode cX4_inFront 2 = .ok (.if_icmp .ge 5, 3) := by decide +kernel
theorem dX4_inFront_5 : decode cX4_inFront 5 = .ok (.iconst 0, 1) := by decide +kernel
theorem dX4_inFront_6 : decode cX4_inFront 6 = .ok (.ireturn, 1) := by decide +kernel
theorem dX4_inFront_7 : decode cX4_inFront 7 = .ok (.iload_n 1, 1) := by decide +kernel
theorem dX4_inFront_8 : decode cX4_inFront 8 = .ok (.iconst 2, 1) := by decide +kernel
theorem dX4_inFront_9 : decode cX4_inFront 9 = .ok (.iload_n 0, 1) := by decide +kernel
theorem dX4_inFront_10 : decode cX4_inFront 10 = .ok (.imul, 1) := by decide +kernel
theorem dX4_inFront_11 : decode cX4_inFront 11 = .ok (.idiv, 1) := by decide +kernel
theorem dX4_inFront_12 : decode cX4_inFront 12 = .ok (.istore_n 2, 1) := by decide +kernel
theorem dX4_inFront_13 : decode cX4_inFront 13 = .ok (.iload_n 1, 1) := by decide +kernel
theorem dX4_inFront_14 : decode cX4_inFront 14 = .ok (.iconst 2, 1) := by decide +kernel
theorem dX4_inFront_15 : decode cX4_inFront 15 = .ok (.iload_n 0, 1) := by decide +kernel
theorem dX4_inFront_16 : decode cX4_inFront 16 = .ok (.imul, 1) := by decide +kernel
theorem dX4_inFront_17 : decode cX4_inFront 17 = .ok (.irem, 1) := by decide +kernel
theorem dX4_inFront_18 : decode cX4_inFront 18 = .ok (.istore_n 3, 1) := by decide +kernel
theorem dX4_inFront_19 : decode cX4_inFront 19 = .ok (.iload_n 2, 1) := by decide +kernel
theorem dX4_inFront_20 : decode cX4_inFront 20 = .ok (.iconst 2, 1) := by decide +kernel
theorem dX4_inFront_21 : decode cX4_inFront 21 = .ok (.iload_n 0, 1) := by decide +kernel
theorem dX4_inFront_22 : decode cX4_inFront 22 = .ok (.imul, 1) := by decide +kernel
theorem dX4_inFront_23 : decode cX4_inFront 23 = .ok (.iconst 2, 1) := by decide +kernel
theorem dX4_inFront_24 : decode cX4_inFront 24 = .ok (.iadd, 1) := by decide +kernel
theorem dX4_inFront_25 : decode cX4_inFront 25 = .ok (.imul, 1) := by decide +kernel
theorem dX4_inFront_26 : decode cX4_inFront 26 = .ok (.iload_n 3, 1) := by decide +kernel
theorem dX4_inFront_27 : decode cX4_inFront 27 = .ok (.iadd, 1) := by decide +kernel
theorem dX4_inFront_28 : decode cX4_inFront 28 = .ok (.iconst 1, 1) := by decide +kernel
theorem dX4_inFront_29 : decode cX4_inFront 29 = .ok (.iadd, 1) := by decide +kernel
theorem dX4_inFront_30 : decode cX4_inFront 30 = .ok (.ireturn, 1) := by decide +kernel
theorem dX4_isCorner_0 : decode cX4_isCorner 0 = .ok (.iload_n 0, 1) := by decide +kernel
theorem dX4_isCorner_1 : decode cX4_isCorner 1 = .ok (.iconst 1, 1) := by decide +kernel
theorem dX4_isCorner_2 : decode cX4_isCorner 2 = .ok (.if_icmp .lt 11, 3) := by decide +kernel
theorem dX4_isCorner_5 : decode cX4_isCorner 5 = .ok (.iload_n 1, 1) := by decide +kernel
theorem dX4_isCorner_6 : decode cX4_isCorner 6 = .ok (.iconst 2, 1) := by decide +kernel
theorem dX4_isCorner_7 : decode cX4_isCorner 7 = .ok (.iload_n 0, 1) := by decide +kernel
theorem dX4_isCorner_8 : decode cX4_isCorner 8 = .ok (.imul, 1) := by decide +kernel
theorem dX4_isCorner_9 : decode cX4_isCorner 9 = .ok (.irem, 1) := by decide +kernel
theorem dX4_isCorner_10 : decode cX4_isCorner 10 = .ok (.ifCond .ne 7, 3) := by decide +kernel
theorem dX4_isCorner_13 : decode cX4_isCorner 13 = .ok (.iconst 1, 1) := by decide +kernel
theorem dX4_isCorner_14 : decode cX4_isCorner 14 = .ok (.goto 4, 3) := by decide +kernel
theorem dX4_isCorner_17 : decode cX4_isCorner 17 = .ok (.iconst 0, 1) := by decide +kernel
theorem dX4_isCorner_18 : decode cX4_isCorner 18 = .ok (.ireturn, 1) := by decide +kernel
theorem dX4_southOf_0 : decode cX4_southOf 0 = .ok (.iload_n 0, 1) := by decide +kernel
theorem dX4_southOf_1 : decode cX4_southOf 1 = .ok (.iconst 1, 1) := by decide +kernel
theorem dX4_southOf_2 : decode cX4_southOf 2 = .ok (.if_icmp .ge 5, 3) := by decide +kernel
theorem dX4_southOf_5 : decode cX4_southOf 5 = .ok (.iconst 0, 1) := by decide +kernel
theorem dX4_southOf_6 : decode cX4_southOf 6 = .ok (.ireturn, 1) := by decide +kernel
theorem dX4_southOf_7 : decode cX4_southOf 7 = .ok (.iload_n 1, 1) := by decide +kernel
theorem dX4_southOf_8 : decode cX4_southOf 8 = .ok (.iconst 2, 1) := by decide +kernel
theorem dX4_southOf_9 : decode cX4_southOf 9 = .ok (.iload_n 0, 1) := by decide +kernel
theorem dX4_southOf_10 : decode cX4_southOf 10 = .ok (.imul, 1) := by decide +kernel
theorem dX4_southOf_11 : decode cX4_southOf 11 = .ok (.irem, 1) := by decide +kernel
theorem dX4_southOf_12 : decode cX4_southOf 12 = .ok (.istore_n 2, 1) := by decide +kernel
theorem dX4_southOf_13 : decode cX4_southOf 13 = .ok (.iload_n 1, 1) := by decide +kernel
theorem dX4_southOf_14 : decode cX4_southOf 14 = .ok (.iconst 2, 1) := by decide +kernel
theorem dX4_southOf_15 : decode cX4_southOf 15 = .ok (.iload_n 0, 1) := by decide +kernel
theorem dX4_southOf_16 : decode cX4_southOf 16 = .ok (.imul, 1) := by decide +kernel
theorem dX4_southOf_17 : decode cX4_southOf 17 = .ok (.idiv, 1) := by decide +kernel
theorem dX4_southOf_18 : decode cX4_southOf 18 = .ok (.tableswitch 35 0 2 #[26, 29, 33], 26) := by decide +kernel
theorem dX4_southOf_44 : decode cX4_southOf 44 = .ok (.iload_n 0, 1) := by decide +kernel
theorem dX4_southOf_45 : decode cX4_southOf 45 = .ok (.ineg, 1) := by decide +kernel
theorem dX4_southOf_46 : decode cX4_southOf 46 = .ok (.ireturn, 1) := by decide +kernel
theorem dX4_southOf_47 : decode cX4_southOf 47 = .ok (.iload_n 2, 1) := by decide +kernel
theorem dX4_southOf_48 : decode cX4_southOf 48 = .ok (.iload_n 0, 1) := by decide +kernel
theorem dX4_southOf_49 : decode cX4_southOf 49 = .ok (.isub, 1) := by decide +kernel
theorem dX4_southOf_50 : decode cX4_southOf 50 = .ok (.ireturn, 1) := by decide +kernel
theorem dX4_southOf_51 : decode cX4_southOf 51 = .ok (.iload_n 0, 1) := by decide +kernel
theorem dX4_southOf_52 : decode cX4_southOf 52 = .ok (.ireturn, 1) := by decide +kernel
theorem dX4_southOf_53 : decode cX4_southOf 53 = .ok (.iload_n 0, 1) := by decide +kernel
theorem dX4_southOf_54 : decode cX4_southOf 54 = .ok (.iload_n 2, 1) := by decide +kernel
theorem dX4_southOf_55 : decode cX4_southOf 55 = .ok (.isub, 1) := by decide +kernel
theorem dX4_southOf_56 : decode cX4_southOf 56 = .ok (.ireturn, 1) := by decide +kernel
theorem dX5_advance_0 : decode cX5_advance 0 = .ok (.iload_n 1, 1) := by decide +kernel
theorem dX5_advance_1 : decode cX5_advance 1 = .ok (.aload_n 0, 1) := by decide +kernel
theorem dX5_advance_2 : decode cX5_advance 2 = .ok (.arraylength, 1) := by decide +kernel
theorem dX5_advance_3 : decode cX5_advance 3 = .ok (.if_icmp .le 4, 3) := by decide +kernel
theorem dX5_advance_7 : decode cX5_advance 7 = .ok (.iload_n 1, 1) := by decide +kernel
theorem dX5_advance_8 : decode cX5_advance 8 = .ok (.iconst 2, 1) := by decide +kernel
theorem dX5_advance_9 : decode cX5_advance 9 = .ok (.isub, 1) := by decide +kernel
theorem dX5_advance_10 : decode cX5_advance 10 = .ok (.istore_n 2, 1) := by decide +kernel
theorem dX5_advance_11 : decode cX5_advance 11 = .ok (.iload_n 2, 1) := by decide +kernel
theorem dX5_advance_12 : decode cX5_advance 12 = .ok (.ifCond .lt 20, 3) := by decide +kernel
theorem dX5_advance_15 : decode cX5_advance 15 = .ok (.aload_n 0, 1) := by decide +kernel
theorem dX5_advance_16 : decode cX5_advance 16 = .ok (.iload_n 2, 1) := by decide +kernel
theorem dX5_advance_17 : decode cX5_advance 17 = .ok (.iaload, 1) := by decide +kernel
theorem dX5_advance_18 : decode cX5_advance 18 = .ok (.aload_n 0, 1) := by decide +kernel
theorem dX5_advance_19 : decode cX5_advance 19 = .ok (.iload_n 2, 1) := by decide +kernel
theorem dX5_advance_20 : decode cX5_advance 20 = .ok (.iconst 1, 1) := by decide +kernel
theorem dX5_advance_21 : decode cX5_advance 21 = .ok (.iadd, 1) := by decide +kernel
theorem dX5_advance_22 : decode cX5_advance 22 = .ok (.iaload, 1) := by decide +kernel
theorem dX5_advance_23 : decode cX5_advance 23 = .ok (.if_icmp .le 9, 3) := by decide +kernel
theorem dX5_advance_26 : decode cX5_advance 26 = .ok (.iinc 2 (-1), 3) := by decide +kernel
theorem dX5_advance_29 : decode cX5_advance 29 = .ok (.goto (-18), 3) := by decide +kernel
theorem dX5_advance_32 : decode cX5_advance 32 = .ok (.iload_n 2, 1) := by decide +kernel
theorem dX5_advance_33 : decode cX5_advance 33 = .ok (.ifCond .ge 4, 3) := by decide +kernel
theorem dX5_advance_36 : decode cX5_advance 36 = .ok (.return_, 1) := by decide +kernel
theorem dX5_advance_37 : decode cX5_advance 37 = .ok (.iload_n 1, 1) := by decide +kernel
theorem dX5_advance_38 : decode cX5_advance 38 = .ok (.iconst 1, 1) := by decide +kernel
theorem dX5_advance_39 : decode cX5_advance 39 = .ok (.isub, 1) := by decide +kernel
theorem dX5_advance_40 : decode cX5_advance 40 = .ok (.istore_n 3, 1) := by decide +kernel
theorem dX5_advance_41 : decode cX5_advance 41 = .ok (.iload_n 3, 1) := by decide +kernel
theorem dX5_advance_42 : decode cX5_advance 42 = .ok (.iload_n 2, 1) := by decide +kernel
theorem dX5_advance_43 : decode cX5_advance 43 = .ok (.if_icmp .le 18, 3) := by decide +kernel
theorem dX5_advance_46 : decode cX5_advance 46 = .ok (.aload_n 0, 1) := by decide +kernel
theorem dX5_advance_47 : decode cX5_advance 47 = .ok (.iload_n 3, 1) := by decide +kernel
theorem dX5_advance_48 : decode cX5_advance 48 = .ok (.iaload, 1) := by decide +kernel
theorem dX5_advance_49 : decode cX5_advance 49 = .ok (.aload_n 0, 1) := by decide +kernel
theorem dX5_advance_50 : decode cX5_advance 50 = .ok (.iload_n 2, 1) := by decide +kernel
theorem dX5_advance_51 : decode cX5_advance 51 = .ok (.iaload, 1) := by decide +kernel
theorem dX5_advance_52 : decode cX5_advance 52 = .ok (.if_icmp .ge 9, 3) := by decide +kernel
theorem dX5_advance_55 : decode cX5_advance 55 = .ok (.iinc 3 (-1), 3) := by decide +kernel
theorem dX5_advance_58 : decode cX5_advance 58 = .ok (.goto (-17), 3) := by decide +kernel
theorem dX5_advance_61 : decode cX5_advance 61 = .ok (.aload_n 0, 1) := by decide +kernel
theorem dX5_advance_62 : decode cX5_advance 62 = .ok (.iload_n 2, 1) := by decide +kernel
theorem dX5_advance_63 : decode cX5_advance 63 = .ok (.iload_n 3, 1) := by decide +kernel
theorem dX5_advance_64 : decode cX5_advance 64 = .ok (.invokestatic 7, 3) := by decide +kernel
theorem dX5_advance_67 : decode cX5_advance 67 = .ok (.iload_n 2, 1) := by decide +kernel
theorem dX5_advance_68 : decode cX5_advance 68 = .ok (.iconst 1, 1) := by decide +kernel
theorem dX5_advance_69 : decode cX5_advance 69 = .ok (.iadd, 1) := by decide +kernel
theorem dX5_advance_70 : decode cX5_advance 70 = .ok (.istore 4, 2) := by decide +kernel
theorem dX5_advance_72 : decode cX5_advance 72 = .ok (.iload_n 1, 1) := by decide +kernel
theorem dX5_advance_73 : decode cX5_advance 73 = .ok (.iconst 1, 1) := by decide +kernel
theorem dX5_advance_74 : decode cX5_advance 74 = .ok (.isub, 1) := by decide +kernel
theorem dX5_advance_75 : decode cX5_advance 75 = .ok (.istore 5, 2) := by decide +kernel
theorem dX5_advance_77 : decode cX5_advance 77 = .ok (.iload 4, 2) := by decide +kernel
theorem dX5_advance_79 : decode cX5_advance 79 = .ok (.iload 5, 2) := by decide +kernel
theorem dX5_advance_81 : decode cX5_advance 81 = .ok (.if_icmp .ge 20, 3) := by decide +kernel
theorem dX5_advance_84 : decode cX5_advance 84 = .ok (.aload_n 0, 1) := by decide +kernel
theorem dX5_advance_85 : decode cX5_advance 85 = .ok (.iload 4, 2) := by decide +kernel
theorem dX5_advance_87 : decode cX5_advance 87 = .ok (.iload 5, 2) := by decide +kernel
theorem dX5_advance_89 : decode cX5_advance 89 = .ok (.invokestatic 7, 3) := by decide +kernel
theorem dX5_advance_92 : decode cX5_advance 92 = .ok (.iinc 4 1, 3) := by decide +kernel
theorem dX5_advance_95 : decode cX5_advance 95 = .ok (.iinc 5 (-1), 3) := by decide +kernel
theorem dX5_advance_98 : decode cX5_advance 98 = .ok (.goto (-21), 3) := by decide +kernel
theorem dX5_advance_101 : decode cX5_advance 101 = .ok (.return_, 1) := by decide +kernel
theorem dX5_begin_0 : decode cX5_begin 0 = .ok (.iconst 0, 1) := by decide +kernel
theorem dX5_begin_1 : decode cX5_begin 1 = .ok (.istore_n 2, 1) := by decide +kernel
theorem dX5_begin_2 : decode cX5_begin 2 = .ok (.iload_n 2, 1) := by decide +kernel
theorem dX5_begin_3 : decode cX5_begin 3 = .ok (.iload_n 1, 1) := by decide +kernel
theorem dX5_begin_4 : decode cX5_begin 4 = .ok (.if_icmp .ge 19, 3) := by decide +kernel
theorem dX5_begin_7 : decode cX5_begin 7 = .ok (.iload_n 2, 1) := by decide +kernel
theorem dX5_begin_8 : decode cX5_begin 8 = .ok (.aload_n 0, 1) := by decide +kernel
theorem dX5_begin_9 : decode cX5_begin 9 = .ok (.arraylength, 1) := by decide +kernel
theorem dX5_begin_10 : decode cX5_begin 10 = .ok (.if_icmp .ge 13, 3) := by decide +kernel
theorem dX5_begin_13 : decode cX5_begin 13 = .ok (.aload_n 0, 1) := by decide +kernel
theorem dX5_begin_14 : decode cX5_begin 14 = .ok (.iload_n 2, 1) := by decide +kernel
theorem dX5_begin_15 : decode cX5_begin 15 = .ok (.iload_n 2, 1) := by decide +kernel
theorem dX5_begin_16 : decode cX5_begin 16 = .ok (.iastore, 1) := by decide +kernel
theorem dX5_begin_17 : decode cX5_begin 17 = .ok (.iinc 2 1, 3) := by decide +kernel
theorem dX5_begin_20 : decode cX5_begin 20 = .ok (.goto (-18), 3) := by decide +kernel
theorem dX5_begin_23 : decode cX5_begin 23 = .ok (.return_, 1) := by decide +kernel
theorem dX5_swap_0 : decode cX5_swap 0 = .ok (.aload_n 0, 1) := by decide +kernel
theorem dX5_swap_1 : decode cX5_swap 1 = .ok (.iload_n 1, 1) := by decide +kernel
theorem dX5_swap_2 : decode cX5_swap 2 = .ok (.iaload, 1) := by decide +kernel
theorem dX5_swap_3 : decode cX5_swap 3 = .ok (.istore_n 3, 1) := by decide +kernel
theorem dX5_swap_4 : decode cX5_swap 4 = .ok (.aload_n 0, 1) := by decide +kernel
theorem dX5_swap_5 : decode cX5_swap 5 = .ok (.iload_n 1, 1) := by decide +kernel
theorem dX5_swap_6 : decode cX5_swap 6 = .ok (.aload_n 0, 1) := by decide +kernel
theorem dX5_swap_7 : decode cX5_swap 7 = .ok (.iload_n 2, 1) := by decide +kernel
theorem dX5_swap_8 : decode cX5_swap 8 = .ok (.iaload, 1) := by decide +kernel
theorem dX5_swap_9 : decode cX5_swap 9 = .ok (.iastore, 1) := by decide +kernel
theorem dX5_swap_10 : decode cX5_swap 10 = .ok (.aload_n 0, 1) := by decide +kernel
theorem dX5_swap_11 : decode cX5_swap 11 = .ok (.iload_n 2, 1) := by decide +kernel
theorem dX5_swap_12 : decode cX5_swap 12 = .ok (.iload_n 3, 1) := by decide +kernel
theorem dX5_swap_13 : decode cX5_swap 13 = .ok (.iastore, 1) := by decide +kernel
theorem dX5_swap_14 : decode cX5_swap 14 = .ok (.return_, 1) := by decide +kernel
theorem dX6_isFit_0 : decode cX6_isFit 0 = .ok (.aload_n 1, 1) := by decide +kernel
theorem dX6_isFit_1 : decode cX6_isFit 1 = .ok (.getfield 19, 3) := by decide +kernel
theorem dX6_isFit_4 : decode cX6_isFit 4 = .ok (.iload_n 2, 1) := by decide +kernel
theorem dX6_isFit_5 : decode cX6_isFit 5 = .ok (.iaload, 1) := by decide +kernel
theorem dX6_isFit_6 : decode cX6_isFit 6 = .ok (.iconst 1, 1) := by decide +kernel
theorem dX6_isFit_7 : decode cX6_isFit 7 = .ok (.iadd, 1) := by decide +kernel
theorem dX6_isFit_8 : decode cX6_isFit 8 = .ok (.istore_n 3, 1) := by decide +kernel
theorem dX6_isFit_9 : decode cX6_isFit 9 = .ok (.aload_n 0, 1) := by decide +kernel
theorem dX6_isFit_10 : decode cX6_isFit 10 = .ok (.getfield 32, 3) := by decide +kernel
theorem dX6_isFit_13 : decode cX6_isFit 13 = .ok (.iload_n 2, 1) := by decide +kernel
theorem dX6_isFit_14 : decode cX6_isFit 14 = .ok (.iaload, 1) := by decide +kernel
theorem dX6_isFit_15 : decode cX6_isFit 15 = .ok (.istore 4, 2) := by decide +kernel
theorem dX6_isFit_17 : decode cX6_isFit 17 = .ok (.aload_n 0, 1) := by decide +kernel
theorem dX6_isFit_18 : decode cX6_isFit 18 = .ok (.getfield 35, 3) := by decide +kernel
theorem dX6_isFit_21 : decode cX6_isFit 21 = .ok (.iload_n 2, 1) := by decide +kernel
theorem dX6_isFit_22 : decode cX6_isFit 22 = .ok (.iaload, 1) := by decide +kernel
theorem dX6_isFit_23 : decode cX6_isFit 23 = .ok (.istore 5, 2) := by decide +kernel
theorem dX6_isFit_25 : decode cX6_isFit 25 = .ok (.iload_n 3, 1) := by decide +kernel
theorem dX6_isFit_26 : decode cX6_isFit 26 = .ok (.bipush 6, 2) := by decide +kernel
theorem dX6_isFit_28 : decode cX6_isFit 28 = .ok (.if_icmp .gt 33, 3) := by decide +kernel
theorem dX6_isFit_31 : decode cX6_isFit 31 = .ok (.aload_n 0, 1) := by decide +kernel
theorem dX6_isFit_32 : decode cX6_isFit 32 = .ok (.iload 4, 2) := by decide +kernel
theorem dX6_isFit_34 : decode cX6_isFit 34 = .ok (.iload_n 3, 1) := by decide +kernel
theorem dX6_isFit_35 : decode cX6_isFit 35 = .ok (.isub, 1) := by decide +kernel
theorem dX6_isFit_36 : decode cX6_isFit 36 = .ok (.iload 5, 2) := by decide +kernel
theorem dX6_isFit_38 : decode cX6_isFit 38 = .ok (.iload_n 3, 1) := by decide +kernel
theorem dX6_isFit_39 : decode cX6_isFit 39 = .ok (.isub, 1) := by decide +kernel
theorem dX6_isFit_40 : decode cX6_isFit 40 = .ok (.invokevirtual 25, 3) := by decide +kernel
theorem dX6_isFit_43 : decode cX6_isFit 43 = .ok (.ifCond .eq 18, 3) := by decide +kernel
theorem dX6_isFit_46 : decode cX6_isFit 46 = .ok (.aload_n 0, 1) := by decide +kernel
theorem dX6_isFit_47 : decode cX6_isFit 47 = .ok (.iload 4, 2) := by decide +kernel
theorem dX6_isFit_49 : decode cX6_isFit 49 = .ok (.iload_n 3, 1) := by decide +kernel
theorem dX6_isFit_50 : decode cX6_isFit 50 = .ok (.iadd, 1) := by decide +kernel
theorem dX6_isFit_51 : decode cX6_isFit 51 = .ok (.iload 5, 2) := by decide +kernel
theorem dX6_isFit_53 : decode cX6_isFit 53 = .ok (.iload_n 3, 1) := by decide +kernel
theorem dX6_isFit_54 : decode cX6_isFit 54 = .ok (.iadd, 1) := by decide +kernel
theorem dX6_isFit_55 : decode cX6_isFit 55 = .ok (.invokevirtual 25, 3) := by decide +kernel
theorem dX6_isFit_58 : decode cX6_isFit 58 = .ok (.ifCond .ne 5, 3) := by decide +kernel
theorem dX6_isFit_61 : decode cX6_isFit 61 = .ok (.iconst 0, 1) := by decide +kernel
theorem dX6_isFit_62 : decode cX6_isFit 62 = .ok (.ireturn, 1) := by decide +kernel
theorem dX6_isFit_63 : decode cX6_isFit 63 = .ok (.iconst 0, 1) := by decide +kernel
theorem dX6_isFit_64 : decode cX6_isFit 64 = .ok (.istore 6, 2) := by decide +kernel
theorem dX6_isFit_66 : decode cX6_isFit 66 = .ok (.iload 6, 2) := by decide +kernel
theorem dX6_isFit_68 : decode cX6_isFit 68 = .ok (.bipush 8, 2) := by decide +kernel
theorem dX6_isFit_70 : decode cX6_isFit 70 = .ok (.iload_n 3, 1) := by decide +kernel
theorem dX6_isFit_71 : decode cX6_isFit 71 = .ok (.imul, 1) := by decide +kernel
theorem dX6_isFit_72 : decode cX6_isFit 72 = .ok (.if_icmp .ge 57, 3) := by decide +kernel
theorem dX6_isFit_75 : decode cX6_isFit 75 = .ok (.iload 4, 2) := by decide +kernel
theorem dX6_isFit_77 : decode cX6_isFit 77 = .ok (.iload_n 3, 1) := by decide +kernel
theorem dX6_isFit_78 : decode cX6_isFit 78 = .ok (.iload 6, 2) := by decide +kernel
theorem dX6_isFit_80 : decode cX6_isFit 80 = .ok (.invokestatic 38, 3) := by decide +kernel
theorem dX6_isFit_83 : decode cX6_isFit 83 = .ok (.iadd, 1) := by decide +kernel
theorem dX6_isFit_84 : decode cX6_isFit 84 = .ok (.istore 7, 2) := by decide +kernel
theorem dX6_isFit_86 : decode cX6_isFit 86 = .ok (.iload 5, 2) := by decide +kernel
theorem dX6_isFit_88 : decode cX6_isFit 88 = .ok (.iload_n 3, 1) := by decide +kernel
theorem dX6_isFit_89 : decode cX6_isFit 89 = .ok (.iload 6, 2) := by decide +kernel
theorem dX6_isFit_91 : decode cX6_isFit 91 = .ok (.invokestatic 44, 3) := by decide +kernel
theorem dX6_isFit_94 : decode cX6_isFit 94 = .ok (.iadd, 1) := by decide +kernel
theorem dX6_isFit_95 : decode cX6_isFit 95 = .ok (.istore 8, 2) := by decide +kernel
theorem dX6_isFit_97 : decode cX6_isFit 97 = .ok (.aload_n 0, 1) := by decide +kernel
theorem dX6_isFit_98 : decode cX6_isFit 98 = .ok (.iload 7, 2) := by decide +kernel
theorem dX6_isFit_100 : decode cX6_isFit 100 = .ok (.iload 8, 2) := by decide +kernel
theorem dX6_isFit_102 : decode cX6_isFit 102 = .ok (.invokevirtual 29, 3) := by decide +kernel
theorem dX6_isFit_105 : decode cX6_isFit 105 = .ok (.ifCond .ne 16, 3) := by decide +kernel
theorem dX6_isFit_108 : decode cX6_isFit 108 = .ok (.aload_n 0, 1) := by decide +kernel
theorem dX6_isFit_109 : decode cX6_isFit 109 = .ok (.aload_n 1, 1) := by decide +kernel
theorem dX6_isFit_110 : decode cX6_isFit 110 = .ok (.iload_n 2, 1) := by decide +kernel
theorem dX6_isFit_111 : decode cX6_isFit 111 = .ok (.iload 7, 2) := by decide +kernel
theorem dX6_isFit_113 : decode cX6_isFit 113 = .ok (.iload 8, 2) := by decide +kernel
theorem dX6_isFit_115 : decode cX6_isFit 115 = .ok (.invokestatic 47, 3) := by decide +kernel
theorem dX6_isFit_118 : decode cX6_isFit 118 = .ok (.ifCond .ne 5, 3) := by decide +kernel
theorem dX6_isFit_121 : decode cX6_isFit 121 = .ok (.iconst 0, 1) := by decide +kernel
theorem dX6_isFit_122 : decode cX6_isFit 122 = .ok (.ireturn, 1) := by decide +kernel
theorem dX6_isFit_123 : decode cX6_isFit 123 = .ok (.iinc 6 1, 3) := by decide +kernel
theorem dX6_isFit_126 : decode cX6_isFit 126 = .ok (.goto (-60), 3) := by decide +kernel
theorem dX6_isFit_129 : decode cX6_isFit 129 = .ok (.iconst 1, 1) := by decide +kernel
theorem dX6_isFit_130 : decode cX6_isFit 130 = .ok (.ireturn, 1) := by decide +kernel
theorem dX6_isFree_0 : decode cX6_isFree 0 = .ok (.aload_n 0, 1) := by decide +kernel
theorem dX6_isFree_1 : decode cX6_isFree 1 = .ok (.iload_n 2, 1) := by decide +kernel
theorem dX6_isFree_2 : decode cX6_isFree 2 = .ok (.iload_n 3, 1) := by decide +kernel
theorem dX6_isFree_3 : decode cX6_isFree 3 = .ok (.invokevirtual 25, 3) := by decide +kernel
theorem dX6_isFree_6 : decode cX6_isFree 6 = .ok (.ifCond .eq 12, 3) := by decide +kernel
theorem dX6_isFree_9 : decode cX6_isFree 9 = .ok (.aload_n 0, 1) := by decide +kernel
theorem dX6_isFree_10 : decode cX6_isFree 10 = .ok (.iload_n 2, 1) := by decide +kernel
theorem dX6_isFree_11 : decode cX6_isFree 11 = .ok (.iload_n 3, 1) := by decide +kernel
theorem dX6_isFree_12 : decode cX6_isFree 12 = .ok (.invokevirtual 29, 3) := by decide +kernel
theorem dX6_isFree_15 : decode cX6_isFree 15 = .ok (.ifCond .eq 5, 3) := by decide +kernel
theorem dX6_isFree_18 : decode cX6_isFree 18 = .ok (.iconst 0, 1) := by decide +kernel
theorem dX6_isFree_19 : decode cX6_isFree 19 = .ok (.ireturn, 1) := by decide +kernel
theorem dX6_isFree_20 : decode cX6_isFree 20 = .ok (.iconst 0, 1) := by decide +kernel
theorem dX6_isFree_21 : decode cX6_isFree 21 = .ok (.istore 4, 2) := by decide +kernel
theorem dX6_isFree_23 : decode cX6_isFree 23 = .ok (.iload 4, 2) := by decide +kernel
theorem dX6_isFree_25 : decode cX6_isFree 25 = .ok (.aload_n 0, 1) := by decide +kernel
theorem dX6_isFree_26 : decode cX6_isFree 26 = .ok (.getfield 9, 3) := by decide +kernel
theorem dX6_isFree_29 : decode cX6_isFree 29 = .ok (.if_icmp .ge 29, 3) := by decide +kernel
theorem dX6_isFree_32 : decode cX6_isFree 32 = .ok (.aload_n 0, 1) := by decide +kernel
theorem dX6_isFree_33 : decode cX6_isFree 33 = .ok (.iload 4, 2) := by decide +kernel
theorem dX6_isFree_35 : decode cX6_isFree 35 = .ok (.iload_n 2, 1) := by decide +kernel
theorem dX6_isFree_36 : decode cX6_isFree 36 = .ok (.iload_n 3, 1) := by decide +kernel
theorem dX6_isFree_37 : decode cX6_isFree 37 = .ok (.invokevirtual 15, 3) := by decide +kernel
theorem dX6_isFree_40 : decode cX6_isFree 40 = .ok (.aload_n 1, 1) := by decide +kernel
theorem dX6_isFree_41 : decode cX6_isFree 41 = .ok (.getfield 19, 3) := by decide +kernel
theorem dX6_isFree_44 : decode cX6_isFree 44 = .ok (.iload 4, 2) := by decide +kernel
theorem dX6_isFree_46 : decode cX6_isFree 46 = .ok (.iaload, 1) := by decide +kernel
theorem dX6_isFree_47 : decode cX6_isFree 47 = .ok (.if_icmp .gt 5, 3) := by decide +kernel
theorem dX6_isFree_50 : decode cX6_isFree 50 = .ok (.iconst 0, 1) := by decide +kernel
theorem dX6_isFree_51 : decode cX6_isFree 51 = .ok (.ireturn, 1) := by decide +kernel
theorem dX6_isFree_52 : decode cX6_isFree 52 = .ok (.iinc 4 1, 3) := by decide +kernel
theorem dX6_isFree_55 : decode cX6_isFree 55 = .ok (.goto (-32), 3) := by decide +kernel
theorem dX6_isFree_58 : decode cX6_isFree 58 = .ok (.iconst 1, 1) := by decide +kernel
theorem dX6_isFree_59 : decode cX6_isFree 59 = .ok (.ireturn, 1) := by decide +kernel
theorem dX6_isFrontFree_0 : decode cX6_isFrontFree 0 = .ok (.iload_n 3, 1) := by decide +kernel
theorem dX6_isFrontFree_1 : decode cX6_isFrontFree 1 = .ok (.iload 4, 2) := by decide +kernel
theorem dX6_isFrontFree_3 : decode cX6_isFrontFree 3 = .ok (.iload 5, 2) := by decide +kernel
theorem dX6_isFrontFree_5 : decode cX6_isFrontFree 5 = .ok (.invokestatic 57, 3) := by decide +kernel
theorem dX6_isFrontFree_8 : decode cX6_isFrontFree 8 = .ok (.istore 6, 2) := by decide +kernel
theorem dX6_isFrontFree_10 : decode cX6_isFrontFree 10 = .ok (.aload_n 0, 1) := by decide +kernel
theorem dX6_isFrontFree_11 : decode cX6_isFrontFree 11 = .ok (.getfield 32, 3) := by decide +kernel
theorem dX6_isFrontFree_14 : decode cX6_isFrontFree 14 = .ok (.iload_n 2, 1) := by decide +kernel
theorem dX6_isFrontFree_15 : decode cX6_isFrontFree 15 = .ok (.iaload, 1) := by decide +kernel
theorem dX6_isFrontFree_16 : decode cX6_isFrontFree 16 = .ok (.iload_n 3, 1) := by decide +kernel
theorem dX6_isFrontFree_17 : decode cX6_isFrontFree 17 = .ok (.iload 6, 2) := by decide +kernel
theorem dX6_isFrontFree_19 : decode cX6_isFrontFree 19 = .ok (.invokestatic 38, 3) := by decide +kernel
theorem dX6_isFrontFree_22 : decode cX6_isFrontFree 22 = .ok (.iadd, 1) := by decide +kernel
theorem dX6_isFrontFree_23 : decode cX6_isFrontFree 23 = .ok (.getstatic 60, 3) := by decide +kernel
theorem dX6_isFrontFree_26 : decode cX6_isFrontFree 26 = .ok (.iload 4, 2) := by decide +kernel
theorem dX6_isFrontFree_28 : decode cX6_isFrontFree 28 = .ok (.iaload, 1) := by decide +kernel
theorem dX6_isFrontFree_29 : decode cX6_isFrontFree 29 = .ok (.iadd, 1) := by decide +kernel
theorem dX6_isFrontFree_30 : decode cX6_isFrontFree 30 = .ok (.istore 7, 2) := by decide +kernel
theorem dX6_isFrontFree_32 : decode cX6_isFrontFree 32 = .ok (.aload_n 0, 1) := by decide +kernel
theorem dX6_isFrontFree_33 : decode cX6_isFrontFree 33 = .ok (.getfield 35, 3) := by decide +kernel
theorem dX6_isFrontFree_36 : decode cX6_isFrontFree 36 = .ok (.iload_n 2, 1) := by decide +kernel
theorem dX6_isFrontFree_37 : decode cX6_isFrontFree 37 = .ok (.iaload, 1) := by decide +kernel
theorem dX6_isFrontFree_38 : decode cX6_isFrontFree 38 = .ok (.iload_n 3, 1) := by decide +kernel
theorem dX6_isFrontFree_39 : decode cX6_isFrontFree 39 = .ok (.iload 6, 2) := by decide +kernel
theorem dX6_isFrontFree_41 : decode cX6_isFrontFree 41 = .ok (.invokestatic 44, 3) := by decide +kernel
theorem dX6_isFrontFree_44 : decode cX6_isFrontFree 44 = .ok (.iadd, 1) := by decide +kernel
theorem dX6_isFrontFree_45 : decode cX6_isFrontFree 45 = .ok (.getstatic 63, 3) := by decide +kernel
theorem dX6_isFrontFree_48 : decode cX6_isFrontFree 48 = .ok (.iload 4, 2) := by decide +kernel
theorem dX6_isFrontFree_50 : decode cX6_isFrontFree 50 = .ok (.iaload, 1) := by decide +kernel
theorem dX6_isFrontFree_51 : decode cX6_isFrontFree 51 = .ok (.iadd, 1) := by decide +kernel
theorem dX6_isFrontFree_52 : decode cX6_isFrontFree 52 = .ok (.istore 8, 2) := by decide +kernel
theorem dX6_isFrontFree_54 : decode cX6_isFrontFree 54 = .ok (.aload_n 0, 1) := by decide +kernel
theorem dX6_isFrontFree_55 : decode cX6_isFrontFree 55 = .ok (.aload_n 1, 1) := by decide +kernel
theorem dX6_isFrontFree_56 : decode cX6_isFrontFree 56 = .ok (.iload 7, 2) := by decide +kernel
theorem dX6_isFrontFree_58 : decode cX6_isFrontFree 58 = .ok (.iload 8, 2) := by decide +kernel
theorem dX6_isFrontFree_60 : decode cX6_isFrontFree 60 = .ok (.invokestatic 66, 3) := by decide +kernel
theorem dX6_isFrontFree_63 : decode cX6_isFrontFree 63 = .ok (.ireturn, 1) := by decide +kernel
theorem dX6_isLeftTo_0 : decode cX6_isLeftTo 0 = .ok (.iconst 0, 1) := by decide +kernel
theorem dX6_isLeftTo_1 : decode cX6_isLeftTo 1 = .ok (.istore 5, 2) := by decide +kernel
theorem dX6_isLeftTo_3 : decode cX6_isLeftTo 3 = .ok (.iload 5, 2) := by decide +kernel
theorem dX6_isLeftTo_5 : decode cX6_isLeftTo 5 = .ok (.aload_n 0, 1) := by decide +kernel
theorem dX6_isLeftTo_6 : decode cX6_isLeftTo 6 = .ok (.getfield 9, 3) := by decide +kernel
theorem dX6_isLeftTo_9 : decode cX6_isLeftTo 9 = .ok (.if_icmp .ge 79, 3) := by decide +kernel
theorem dX6_isLeftTo_12 : decode cX6_isLeftTo 12 = .ok (.aload_n 0, 1) := by decide +kernel
theorem dX6_isLeftTo_13 : decode cX6_isLeftTo 13 = .ok (.iload 5, 2) := by decide +kernel
theorem dX6_isLeftTo_15 : decode cX6_isLeftTo 15 = .ok (.iload_n 3, 1) := by decide +kernel
theorem dX6_isLeftTo_16 : decode cX6_isLeftTo 16 = .ok (.iload 4, 2) := by decide +kernel
theorem dX6_isLeftTo_18 : decode cX6_isLeftTo 18 = .ok (.invokevirtual 15, 3) := by decide +kernel
theorem dX6_isLeftTo_21 : decode cX6_isLeftTo 21 = .ok (.istore 6, 2) := by decide +kernel
theorem dX6_isLeftTo_23 : decode cX6_isLeftTo 23 = .ok (.aload_n 0, 1) := by decide +kernel
theorem dX6_isLeftTo_24 : decode cX6_isLeftTo 24 = .ok (.getfield 53, 3) := by decide +kernel
theorem dX6_isLeftTo_27 : decode cX6_isLeftTo 27 = .ok (.ifCond .eq 23, 3) := by decide +kernel
theorem dX6_isLeftTo_30 : decode cX6_isLeftTo 30 = .ok (.iload 6, 2) := by decide +kernel
theorem dX6_isLeftTo_32 : decode cX6_isLeftTo 32 = .ok (.aload_n 1, 1) := by decide +kernel
theorem dX6_isLeftTo_33 : decode cX6_isLeftTo 33 = .ok (.getfield 19, 3) := by decide +kernel
theorem dX6_isLeftTo_36 : decode cX6_isLeftTo 36 = .ok (.iload 5, 2) := by decide +kernel
theorem dX6_isLeftTo_38 : decode cX6_isLeftTo 38 = .ok (.iaload, 1) := by decide +kernel
theorem dX6_isLeftTo_39 : decode cX6_isLeftTo 39 = .ok (.if_icmp .ge 7, 3) := by decide +kernel
theorem dX6_isLeftTo_42 : decode cX6_isLeftTo 42 = .ok (.iconst 1, 1) := by decide +kernel
theorem dX6_isLeftTo_43 : decode cX6_isLeftTo 43 = .ok (.goto 24, 3) := by decide +kernel
theorem dX6_isLeftTo_46 : decode cX6_isLeftTo 46 = .ok (.iconst 0, 1) := by decide +kernel
theorem dX6_isLeftTo_47 : decode cX6_isLeftTo 47 = .ok (.goto 20, 3) := by decide +kernel
theorem dX6_isLeftTo_50 : decode cX6_isLeftTo 50 = .ok (.iload 6, 2) := by decide +kernel
theorem dX6_isLeftTo_52 : decode cX6_isLeftTo 52 = .ok (.aload_n 1, 1) := by decide +kernel
theorem dX6_isLeftTo_53 : decode cX6_isLeftTo 53 = .ok (.getfield 19, 3) := by decide +kernel
theorem dX6_isLeftTo_56 : decode cX6_isLeftTo 56 = .ok (.iload 5, 2) := by decide +kernel
theorem dX6_isLeftTo_58 : decode cX6_isLeftTo 58 = .ok (.iaload, 1) := by decide +kernel
theorem dX6_isLeftTo_59 : decode cX6_isLeftTo 59 = .ok (.if_icmp .gt 7, 3) := by decide +kernel
theorem dX6_isLeftTo_62 : decode cX6_isLeftTo 62 = .ok (.iconst 1, 1) := by decide +kernel
theorem dX6_isLeftTo_63 : decode cX6_isLeftTo 63 = .ok (.goto 4, 3) := by decide +kernel
theorem dX6_isLeftTo_66 : decode cX6_isLeftTo 66 = .ok (.iconst 0, 1) := by decide +kernel
theorem dX6_isLeftTo_67 : decode cX6_isLeftTo 67 = .ok (.istore 7, 2) := by decide +kernel
theorem dX6_isLeftTo_69 : decode cX6_isLeftTo 69 = .ok (.iload 5, 2) := by decide +kernel
theorem dX6_isLeftTo_71 : decode cX6_isLeftTo 71 = .ok (.iload_n 2, 1) := by decide +kernel
theorem dX6_isLeftTo_72 : decode cX6_isLeftTo 72 = .ok (.if_icmp .eq 10, 3) := by decide +kernel
theorem dX6_isLeftTo_75 : decode cX6_isLeftTo 75 = .ok (.iload 7, 2) := by decide +kernel
theorem dX6_isLeftTo_77 : decode cX6_isLeftTo 77 = .ok (.ifCond .eq 5, 3) := by decide +kernel
theorem dX6_isLeftTo_80 : decode cX6_isLeftTo 80 = .ok (.iconst 0, 1) := by decide +kernel
theorem dX6_isLeftTo_81 : decode cX6_isLeftTo 81 = .ok (.ireturn, 1) := by decide +kernel
theorem dX6_isLeftTo_82 : decode cX6_isLeftTo 82 = .ok (.iinc 5 1, 3) := by decide +kernel
theorem dX6_isLeftTo_85 : decode cX6_isLeftTo 85 = .ok (.goto (-82), 3) := by decide +kernel
theorem dX6_isLeftTo_88 : decode cX6_isLeftTo 88 = .ok (.iconst 1, 1) := by decide +kernel
theorem dX6_isLeftTo_89 : decode cX6_isLeftTo 89 = .ok (.ireturn, 1) := by decide +kernel
theorem dX6_isMet_0 : decode cX6_isMet 0 = .ok (.aload_n 1, 1) := by decide +kernel
theorem dX6_isMet_1 : decode cX6_isMet 1 = .ok (.getfield 19, 3) := by decide +kernel
theorem dX6_isMet_4 : decode cX6_isMet 4 = .ok (.iload_n 2, 1) := by decide +kernel
theorem dX6_isMet_5 : decode cX6_isMet 5 = .ok (.iaload, 1) := by decide +kernel
theorem dX6_isMet_6 : decode cX6_isMet 6 = .ok (.aload_n 1, 1) := by decide +kernel
theorem dX6_isMet_7 : decode cX6_isMet 7 = .ok (.getfield 19, 3) := by decide +kernel
theorem dX6_isMet_10 : decode cX6_isMet 10 = .ok (.iload_n 3, 1) := by decide +kernel
theorem dX6_isMet_11 : decode cX6_isMet 11 = .ok (.iaload, 1) := by decide +kernel
theorem dX6_isMet_12 : decode cX6_isMet 12 = .ok (.iadd, 1) := by decide +kernel
theorem dX6_isMet_13 : decode cX6_isMet 13 = .ok (.istore 4, 2) := by decide +kernel
theorem dX6_isMet_15 : decode cX6_isMet 15 = .ok (.aload_n 0, 1) := by decide +kernel
theorem dX6_isMet_16 : decode cX6_isMet 16 = .ok (.getfield 32, 3) := by decide +kernel
theorem dX6_isMet_19 : decode cX6_isMet 19 = .ok (.iload_n 2, 1) := by decide +kernel
theorem dX6_isMet_20 : decode cX6_isMet 20 = .ok (.iaload, 1) := by decide +kernel
theorem dX6_isMet_21 : decode cX6_isMet 21 = .ok (.aload_n 0, 1) := by decide +kernel
theorem dX6_isMet_22 : decode cX6_isMet 22 = .ok (.getfield 32, 3) := by decide +kernel
theorem dX6_isMet_25 : decode cX6_isMet 25 = .ok (.iload_n 3, 1) := by decide +kernel
theorem dX6_isMet_26 : decode cX6_isMet 26 = .ok (.iaload, 1) := by decide +kernel
theorem dX6_isMet_27 : decode cX6_isMet 27 = .ok (.isub, 1) := by decide +kernel
theorem dX6_isMet_28 : decode cX6_isMet 28 = .ok (.invokestatic 89, 3) := by decide +kernel
theorem dX6_isMet_31 : decode cX6_isMet 31 = .ok (.istore 5, 2) := by decide +kernel
theorem dX6_isMet_33 : decode cX6_isMet 33 = .ok (.aload_n 0, 1) := by decide +kernel
theorem dX6_isMet_34 : decode cX6_isMet 34 = .ok (.getfield 35, 3) := by decide +kernel
theorem dX6_isMet_37 : decode cX6_isMet 37 = .ok (.iload_n 2, 1) := by decide +kernel
theorem dX6_isMet_38 : decode cX6_isMet 38 = .ok (.iaload, 1) := by decide +kernel
theorem dX6_isMet_39 : decode cX6_isMet 39 = .ok (.aload_n 0, 1) := by decide +kernel
theorem dX6_isMet_40 : decode cX6_isMet 40 = .ok (.getfield 35, 3) := by decide +kernel
theorem dX6_isMet_43 : decode cX6_isMet 43 = .ok (.iload_n 3, 1) := by decide +kernel
theorem dX6_isMet_44 : decode cX6_isMet 44 = .ok (.iaload, 1) := by decide +kernel
theorem dX6_isMet_45 : decode cX6_isMet 45 = .ok (.isub, 1) := by decide +kernel
theorem dX6_isMet_46 : decode cX6_isMet 46 = .ok (.invokestatic 89, 3) := by decide +kernel
theorem dX6_isMet_49 : decode cX6_isMet 49 = .ok (.istore 6, 2) := by decide +kernel
theorem dX6_isMet_51 : decode cX6_isMet 51 = .ok (.iload 5, 2) := by decide +kernel
theorem dX6_isMet_53 : decode cX6_isMet 53 = .ok (.iload 6, 2) := by decide +kernel
theorem dX6_isMet_55 : decode cX6_isMet 55 = .ok (.invokestatic 95, 3) := by decide +kernel
theorem dX6_isMet_58 : decode cX6_isMet 58 = .ok (.iload 4, 2) := by decide +kernel
theorem dX6_isMet_60 : decode cX6_isMet 60 = .ok (.iconst 1, 1) := by decide +kernel
theorem dX6_isMet_61 : decode cX6_isMet 61 = .ok (.iadd, 1) := by decide +kernel
theorem dX6_isMet_62 : decode cX6_isMet 62 = .ok (.if_icmp .gt 19, 3) := by decide +kernel
theorem dX6_isMet_65 : decode cX6_isMet 65 = .ok (.iload 5, 2) := by decide +kernel
theorem dX6_isMet_67 : decode cX6_isMet 67 = .ok (.iload 6, 2) := by decide +kernel
theorem dX6_isMet_69 : decode cX6_isMet 69 = .ok (.invokestatic 98, 3) := by decide +kernel
theorem dX6_isMet_72 : decode cX6_isMet 72 = .ok (.iload 4, 2) := by decide +kernel
theorem dX6_isMet_74 : decode cX6_isMet 74 = .ok (.if_icmp .gt 7, 3) := by decide +kernel
theorem dX6_isMet_77 : decode cX6_isMet 77 = .ok (.iconst 1, 1) := by decide +kernel
theorem dX6_isMet_78 : decode cX6_isMet 78 = .ok (.goto 4, 3) := by decide +kernel
theorem dX6_isMet_81 : decode cX6_isMet 81 = .ok (.iconst 0, 1) := by decide +kernel
theorem dX6_isMet_82 : decode cX6_isMet 82 = .ok (.ireturn, 1) := by decide +kernel
theorem dX6_isShut_0 : decode cX6_isShut 0 = .ok (.aload_n 1, 1) := by decide +kernel
theorem dX6_isShut_1 : decode cX6_isShut 1 = .ok (.getfield 19, 3) := by decide +kernel
theorem dX6_isShut_4 : decode cX6_isShut 4 = .ok (.iload_n 2, 1) := by decide +kernel
theorem dX6_isShut_5 : decode cX6_isShut 5 = .ok (.iaload, 1) := by decide +kernel
theorem dX6_isShut_6 : decode cX6_isShut 6 = .ok (.istore_n 3, 1) := by decide +kernel
theorem dX6_isShut_7 : decode cX6_isShut 7 = .ok (.iload_n 3, 1) := by decide +kernel
theorem dX6_isShut_8 : decode cX6_isShut 8 = .ok (.ifCond .ne 5, 3) := by decide +kernel
theorem dX6_isShut_11 : decode cX6_isShut 11 = .ok (.iconst 0, 1) := by decide +kernel
theorem dX6_isShut_12 : decode cX6_isShut 12 = .ok (.ireturn, 1) := by decide +kernel
theorem dX6_isShut_13 : decode cX6_isShut 13 = .ok (.aload_n 1, 1) := by decide +kernel
theorem dX6_isShut_14 : decode cX6_isShut 14 = .ok (.iload_n 2, 1) := by decide +kernel
theorem dX6_isShut_15 : decode cX6_isShut 15 = .ok (.iload_n 3, 1) := by decide +kernel
theorem dX6_isShut_16 : decode cX6_isShut 16 = .ok (.iconst 1, 1) := by decide +kernel
theorem dX6_isShut_17 : decode cX6_isShut 17 = .ok (.invokevirtual 86, 3) := by decide +kernel
theorem dX6_isShut_20 : decode cX6_isShut 20 = .ok (.istore 4, 2) := by decide +kernel
theorem dX6_isShut_22 : decode cX6_isShut 22 = .ok (.iload 4, 2) := by decide +kernel
theorem dX6_isShut_24 : decode cX6_isShut 24 = .ok (.ifCond .lt 9, 3) := by decide +kernel
theorem dX6_isShut_27 : decode cX6_isShut 27 = .ok (.iload 4, 2) := by decide +kernel
theorem dX6_isShut_29 : decode cX6_isShut 29 = .ok (.iconst 4, 1) := by decide +kernel
theorem dX6_isShut_30 : decode cX6_isShut 30 = .ok (.if_icmp .lt 5, 3) := by decide +kernel
theorem dX6_isShut_33 : decode cX6_isShut 33 = .ok (.iconst 0, 1) := by decide +kernel
theorem dX6_isShut_34 : decode cX6_isShut 34 = .ok (.ireturn, 1) := by decide +kernel
theorem dX6_isShut_35 : decode cX6_isShut 35 = .ok (.aload_n 0, 1) := by decide +kernel
theorem dX6_isShut_36 : decode cX6_isShut 36 = .ok (.aload_n 1, 1) := by decide +kernel
theorem dX6_isShut_37 : decode cX6_isShut 37 = .ok (.iload_n 2, 1) := by decide +kernel
theorem dX6_isShut_38 : decode cX6_isShut 38 = .ok (.iload_n 3, 1) := by decide +kernel
theorem dX6_isShut_39 : decode cX6_isShut 39 = .ok (.iload 4, 2) := by decide +kernel
theorem dX6_isShut_41 : decode cX6_isShut 41 = .ok (.aload_n 1, 1) := by decide +kernel
theorem dX6_isShut_42 : decode cX6_isShut 42 = .ok (.iload_n 2, 1) := by decide +kernel
theorem dX6_isShut_43 : decode cX6_isShut 43 = .ok (.iload_n 3, 1) := by decide +kernel
theorem dX6_isShut_44 : decode cX6_isShut 44 = .ok (.iconst 2, 1) := by decide +kernel
theorem dX6_isShut_45 : decode cX6_isShut 45 = .ok (.invokevirtual 86, 3) := by decide +kernel
theorem dX6_isShut_48 : decode cX6_isShut 48 = .ok (.invokestatic 82, 3) := by decide +kernel
theorem dX6_isShut_51 : decode cX6_isShut 51 = .ok (.ifCond .ne 7, 3) := by decide +kernel
theorem dX6_isShut_54 : decode cX6_isShut 54 = .ok (.iconst 1, 1) := by decide +kernel
theorem dX6_isShut_55 : decode cX6_isShut 55 = .ok (.goto 4, 3) := by decide +kernel
theorem dX6_isShut_58 : decode cX6_isShut 58 = .ok (.iconst 0, 1) := by decide +kernel
theorem dX6_isShut_59 : decode cX6_isShut 59 = .ok (.ireturn, 1) := by decide +kernel
theorem dX6_lawDoor_0 : decode cX6_lawDoor 0 = .ok (.aload_n 1, 1) := by decide +kernel
theorem dX6_lawDoor_1 : decode cX6_lawDoor 1 = .ok (.getfield 19, 3) := by decide +kernel
theorem dX6_lawDoor_4 : decode cX6_lawDoor 4 = .ok (.iload_n 2, 1) := by decide +kernel
theorem dX6_lawDoor_5 : decode cX6_lawDoor 5 = .ok (.iaload, 1) := by decide +kernel
theorem dX6_lawDoor_6 : decode cX6_lawDoor 6 = .ok (.istore_n 3, 1) := by decide +kernel
theorem dX6_lawDoor_7 : decode cX6_lawDoor 7 = .ok (.iload_n 3, 1) := by decide +kernel
theorem dX6_lawDoor_8 : decode cX6_lawDoor 8 = .ok (.iconst 1, 1) := by decide +kernel
theorem dX6_lawDoor_9 : decode cX6_lawDoor 9 = .ok (.iadd, 1) := by decide +kernel
theorem dX6_lawDoor_10 : decode cX6_lawDoor 10 = .ok (.istore 4, 2) := by decide +kernel
theorem dX6_lawDoor_12 : decode cX6_lawDoor 12 = .ok (.iload_n 3, 1) := by decide +kernel
theorem dX6_lawDoor_13 : decode cX6_lawDoor 13 = .ok (.ifCond .ne 7, 3) := by decide +kernel
theorem dX6_lawDoor_16 : decode cX6_lawDoor 16 = .ok (.iconst 0, 1) := by decide +kernel
theorem dX6_lawDoor_17 : decode cX6_lawDoor 17 = .ok (.goto 13, 3) := by decide +kernel
theorem dX6_lawDoor_20 : decode cX6_lawDoor 20 = .ok (.iload_n 3, 1) := by decide +kernel
theorem dX6_lawDoor_21 : decode cX6_lawDoor 21 = .ok (.aload_n 1, 1) := by decide +kernel
theorem dX6_lawDoor_22 : decode cX6_lawDoor 22 = .ok (.iload_n 2, 1) := by decide +kernel
theorem dX6_lawDoor_23 : decode cX6_lawDoor 23 = .ok (.iload_n 3, 1) := by decide +kernel
theorem dX6_lawDoor_24 : decode cX6_lawDoor 24 = .ok (.invokevirtual 70, 3) := by decide +kernel
theorem dX6_lawDoor_27 : decode cX6_lawDoor 27 = .ok (.invokestatic 73, 3) := by decide +kernel
theorem dX6_lawDoor_30 : decode cX6_lawDoor 30 = .ok (.istore 5, 2) := by decide +kernel
theorem dX6_lawDoor_32 : decode cX6_lawDoor 32 = .ok (.bipush (-2), 2) := by decide +kernel
theorem dX6_lawDoor_34 : decode cX6_lawDoor 34 = .ok (.istore 6, 2) := by decide +kernel
theorem dX6_lawDoor_36 : decode cX6_lawDoor 36 = .ok (.iconst 0, 1) := by decide +kernel
theorem dX6_lawDoor_37 : decode cX6_lawDoor 37 = .ok (.istore 7, 2) := by decide +kernel
theorem dX6_lawDoor_39 : decode cX6_lawDoor 39 = .ok (.iconst 0, 1) := by decide +kernel
theorem dX6_lawDoor_40 : decode cX6_lawDoor 40 = .ok (.istore 8, 2) := by decide +kernel
theorem dX6_lawDoor_42 : decode cX6_lawDoor 42 = .ok (.iload 8, 2) := by decide +kernel
theorem dX6_lawDoor_44 : decode cX6_lawDoor 44 = .ok (.iconst 4, 1) := by decide +kernel
theorem dX6_lawDoor_45 : decode cX6_lawDoor 45 = .ok (.if_icmp .ge 127, 3) := by decide +kernel
theorem dX6_lawDoor_48 : decode cX6_lawDoor 48 = .ok (.iconst 0, 1) := by decide +kernel
theorem dX6_lawDoor_49 : decode cX6_lawDoor 49 = .ok (.istore 9, 2) := by decide +kernel
theorem dX6_lawDoor_51 : decode cX6_lawDoor 51 = .ok (.iload 9, 2) := by decide +kernel
theorem dX6_lawDoor_53 : decode cX6_lawDoor 53 = .ok (.iconst 2, 1) := by decide +kernel
theorem dX6_lawDoor_54 : decode cX6_lawDoor 54 = .ok (.iload 4, 2) := by decide +kernel
theorem dX6_lawDoor_56 : decode cX6_lawDoor 56 = .ok (.imul, 1) := by decide +kernel
theorem dX6_lawDoor_57 : decode cX6_lawDoor 57 = .ok (.iconst 2, 1) := by decide +kernel
theorem dX6_lawDoor_58 : decode cX6_lawDoor 58 = .ok (.isub, 1) := by decide +kernel
theorem dX6_lawDoor_59 : decode cX6_lawDoor 59 = .ok (.if_icmp .gt 107, 3) := by decide +kernel
theorem dX6_lawDoor_62 : decode cX6_lawDoor 62 = .ok (.iload_n 3, 1) := by decide +kernel
theorem dX6_lawDoor_63 : decode cX6_lawDoor 63 = .ok (.ifCond .ne 7, 3) := by decide +kernel
theorem dX6_lawDoor_66 : decode cX6_lawDoor 66 = .ok (.iconst 0, 1) := by decide +kernel
theorem dX6_lawDoor_67 : decode cX6_lawDoor 67 = .ok (.goto 19, 3) := by decide +kernel
theorem dX6_lawDoor_70 : decode cX6_lawDoor 70 = .ok (.iload 4, 2) := by decide +kernel
theorem dX6_lawDoor_72 : decode cX6_lawDoor 72 = .ok (.iload 4, 2) := by decide +kernel
theorem dX6_lawDoor_74 : decode cX6_lawDoor 74 = .ok (.iload 8, 2) := by decide +kernel
theorem dX6_lawDoor_76 : decode cX6_lawDoor 76 = .ok (.iload 9, 2) := by decide +kernel
theorem dX6_lawDoor_78 : decode cX6_lawDoor 78 = .ok (.invokestatic 57, 3) := by decide +kernel
theorem dX6_lawDoor_81 : decode cX6_lawDoor 81 = .ok (.iload 5, 2) := by decide +kernel
theorem dX6_lawDoor_83 : decode cX6_lawDoor 83 = .ok (.invokestatic 76, 3) := by decide +kernel
theorem dX6_lawDoor_86 : decode cX6_lawDoor 86 = .ok (.istore 10, 2) := by decide +kernel
theorem dX6_lawDoor_88 : decode cX6_lawDoor 88 = .ok (.iload 6, 2) := by decide +kernel
theorem dX6_lawDoor_90 : decode cX6_lawDoor 90 = .ok (.bipush (-2), 2) := by decide +kernel
theorem dX6_lawDoor_92 : decode cX6_lawDoor 92 = .ok (.if_icmp .eq 27, 3) := by decide +kernel
theorem dX6_lawDoor_95 : decode cX6_lawDoor 95 = .ok (.aload_n 0, 1) := by decide +kernel
theorem dX6_lawDoor_96 : decode cX6_lawDoor 96 = .ok (.getfield 79, 3) := by decide +kernel
theorem dX6_lawDoor_99 : decode cX6_lawDoor 99 = .ok (.ifCond .eq 13, 3) := by decide +kernel
theorem dX6_lawDoor_102 : decode cX6_lawDoor 102 = .ok (.iload 10, 2) := by decide +kernel
theorem dX6_lawDoor_104 : decode cX6_lawDoor 104 = .ok (.iload 7, 2) := by decide +kernel
theorem dX6_lawDoor_106 : decode cX6_lawDoor 106 = .ok (.if_icmp .le 17, 3) := by decide +kernel
theorem dX6_lawDoor_109 : decode cX6_lawDoor 109 = .ok (.goto 10, 3) := by decide +kernel
theorem dX6_lawDoor_112 : decode cX6_lawDoor 112 = .ok (.iload 10, 2) := by decide +kernel
theorem dX6_lawDoor_114 : decode cX6_lawDoor 114 = .ok (.iload 7, 2) := by decide +kernel
theorem dX6_lawDoor_116 : decode cX6_lawDoor 116 = .ok (.if_icmp .ge 7, 3) := by decide +kernel
theorem dX6_lawDoor_119 : decode cX6_lawDoor 119 = .ok (.iconst 1, 1) := by decide +kernel
theorem dX6_lawDoor_120 : decode cX6_lawDoor 120 = .ok (.goto 4, 3) := by decide +kernel
theorem dX6_lawDoor_123 : decode cX6_lawDoor 123 = .ok (.iconst 0, 1) := by decide +kernel
theorem dX6_lawDoor_124 : decode cX6_lawDoor 124 = .ok (.istore 11, 2) := by decide +kernel
theorem dX6_lawDoor_126 : decode cX6_lawDoor 126 = .ok (.iload 11, 2) := by decide +kernel
theorem dX6_lawDoor_128 : decode cX6_lawDoor 128 = .ok (.ifCond .eq 32, 3) := by decide +kernel
theorem dX6_lawDoor_131 : decode cX6_lawDoor 131 = .ok (.aload_n 0, 1) := by decide +kernel
theorem dX6_lawDoor_132 : decode cX6_lawDoor 132 = .ok (.aload_n 1, 1) := by decide +kernel
theorem dX6_lawDoor_133 : decode cX6_lawDoor 133 = .ok (.iload_n 2, 1) := by decide +kernel
theorem dX6_lawDoor_134 : decode cX6_lawDoor 134 = .ok (.iload 4, 2) := by decide +kernel
theorem dX6_lawDoor_136 : decode cX6_lawDoor 136 = .ok (.iload 8, 2) := by decide +kernel
theorem dX6_lawDoor_138 : decode cX6_lawDoor 138 = .ok (.iload 9, 2) := by decide +kernel
theorem dX6_lawDoor_140 : decode cX6_lawDoor 140 = .ok (.invokestatic 82, 3) := by decide +kernel
theorem dX6_lawDoor_143 : decode cX6_lawDoor 143 = .ok (.ifCond .eq 17, 3) := by decide +kernel
theorem dX6_lawDoor_146 : decode cX6_lawDoor 146 = .ok (.bipush 100, 2) := by decide +kernel
theorem dX6_lawDoor_148 : decode cX6_lawDoor 148 = .ok (.iload 8, 2) := by decide +kernel
theorem dX6_lawDoor_150 : decode cX6_lawDoor 150 = .ok (.imul, 1) := by decide +kernel
theorem dX6_lawDoor_151 : decode cX6_lawDoor 151 = .ok (.iload 9, 2) := by decide +kernel
theorem dX6_lawDoor_153 : decode cX6_lawDoor 153 = .ok (.iadd, 1) := by decide +kernel
theorem dX6_lawDoor_154 : decode cX6_lawDoor 154 = .ok (.istore 6, 2) := by decide +kernel
theorem dX6_lawDoor_156 : decode cX6_lawDoor 156 = .ok (.iload 10, 2) := by decide +kernel
theorem dX6_lawDoor_158 : decode cX6_lawDoor 158 = .ok (.istore 7, 2) := by decide +kernel
theorem dX6_lawDoor_160 : decode cX6_lawDoor 160 = .ok (.iinc 9 1, 3) := by decide +kernel
theorem dX6_lawDoor_163 : decode cX6_lawDoor 163 = .ok (.goto (-112), 3) := by decide +kernel
theorem dX6_lawDoor_166 : decode cX6_lawDoor 166 = .ok (.iinc 8 1, 3) := by decide +kernel
theorem dX6_lawDoor_169 : decode cX6_lawDoor 169 = .ok (.goto (-127), 3) := by decide +kernel
theorem dX6_lawDoor_172 : decode cX6_lawDoor 172 = .ok (.iload 6, 2) := by decide +kernel
theorem dX6_lawDoor_174 : decode cX6_lawDoor 174 = .ok (.ireturn, 1) := by decide +kernel
theorem dX6_ownersOf_0 : decode cX6_ownersOf 0 = .ok (.iconst 0, 1) := by decide +kernel
theorem dX6_ownersOf_1 : decode cX6_ownersOf 1 = .ok (.istore 4, 2) := by decide +kernel
theorem dX6_ownersOf_3 : decode cX6_ownersOf 3 = .ok (.iconst 0, 1) := by decide +kernel
theorem dX6_ownersOf_4 : decode cX6_ownersOf 4 = .ok (.istore 5, 2) := by decide +kernel
theorem dX6_ownersOf_6 : decode cX6_ownersOf 6 = .ok (.iload 5, 2) := by decide +kernel
theorem dX6_ownersOf_8 : decode cX6_ownersOf 8 = .ok (.aload_n 0, 1) := by decide +kernel
theorem dX6_ownersOf_9 : decode cX6_ownersOf 9 = .ok (.getfield 9, 3) := by decide +kernel
theorem dX6_ownersOf_12 : decode cX6_ownersOf 12 = .ok (.if_icmp .ge 36, 3) := by decide +kernel
theorem dX6_ownersOf_15 : decode cX6_ownersOf 15 = .ok (.aload_n 0, 1) := by decide +kernel
theorem dX6_ownersOf_16 : decode cX6_ownersOf 16 = .ok (.iload 5, 2) := by decide +kernel
theorem dX6_ownersOf_18 : decode cX6_ownersOf 18 = .ok (.iload_n 2, 1) := by decide +kernel
theorem dX6_ownersOf_19 : decode cX6_ownersOf 19 = .ok (.iload_n 3, 1) := by decide +kernel
theorem dX6_ownersOf_20 : decode cX6_ownersOf 20 = .ok (.invokevirtual 15, 3) := by decide +kernel
theorem dX6_ownersOf_23 : decode cX6_ownersOf 23 = .ok (.aload_n 1, 1) := by decide +kernel
theorem dX6_ownersOf_24 : decode cX6_ownersOf 24 = .ok (.getfield 19, 3) := by decide +kernel
theorem dX6_ownersOf_27 : decode cX6_ownersOf 27 = .ok (.iload 5, 2) := by decide +kernel
theorem dX6_ownersOf_29 : decode cX6_ownersOf 29 = .ok (.iaload, 1) := by decide +kernel
theorem dX6_ownersOf_30 : decode cX6_ownersOf 30 = .ok (.if_icmp .gt 12, 3) := by decide +kernel
theorem dX6_ownersOf_33 : decode cX6_ownersOf 33 = .ok (.iload 4, 2) := by decide +kernel
theorem dX6_ownersOf_35 : decode cX6_ownersOf 35 = .ok (.iconst 1, 1) := by decide +kernel
theorem dX6_ownersOf_36 : decode cX6_ownersOf 36 = .ok (.iload 5, 2) := by decide +kernel
theorem dX6_ownersOf_38 : decode cX6_ownersOf 38 = .ok (.ishl, 1) := by decide +kernel
theorem dX6_ownersOf_39 : decode cX6_ownersOf 39 = .ok (.ior, 1) := by decide +kernel
theorem dX6_ownersOf_40 : decode cX6_ownersOf 40 = .ok (.istore 4, 2) := by decide +kernel
theorem dX6_ownersOf_42 : decode cX6_ownersOf 42 = .ok (.iinc 5 1, 3) := by decide +kernel
theorem dX6_ownersOf_45 : decode cX6_ownersOf 45 = .ok (.goto (-39), 3) := by decide +kernel
theorem dX6_ownersOf_48 : decode cX6_ownersOf 48 = .ok (.iload 4, 2) := by decide +kernel
theorem dX6_ownersOf_50 : decode cX6_ownersOf 50 = .ok (.ireturn, 1) := by decide +kernel
theorem dX6_priceOf_0 : decode cX6_priceOf 0 = .ok (.aload_n 0, 1) := by decide +kernel
theorem dX6_priceOf_1 : decode cX6_priceOf 1 = .ok (.iload_n 3, 1) := by decide +kernel
theorem dX6_priceOf_2 : decode cX6_priceOf 2 = .ok (.iconst 1, 1) := by decide +kernel
theorem dX6_priceOf_3 : decode cX6_priceOf 3 = .ok (.invokevirtual 101, 3) := by decide +kernel
theorem dX6_priceOf_6 : decode cX6_priceOf 6 = .ok (.bipush 8, 2) := by decide +kernel
theorem dX6_priceOf_8 : decode cX6_priceOf 8 = .ok (.imul, 1) := by decide +kernel
theorem dX6_priceOf_9 : decode cX6_priceOf 9 = .ok (.aload_n 1, 1) := by decide +kernel
theorem dX6_priceOf_10 : decode cX6_priceOf 10 = .ok (.getfield 19, 3) := by decide +kernel
theorem dX6_priceOf_13 : decode cX6_priceOf 13 = .ok (.iload_n 2, 1) := by decide +kernel
theorem dX6_priceOf_14 : decode cX6_priceOf 14 = .ok (.iaload, 1) := by decide +kernel
theorem dX6_priceOf_15 : decode cX6_priceOf 15 = .ok (.iconst 1, 1) := by decide +kernel
theorem dX6_priceOf_16 : decode cX6_priceOf 16 = .ok (.iadd, 1) := by decide +kernel
theorem dX6_priceOf_17 : decode cX6_priceOf 17 = .ok (.imul, 1) := by decide +kernel
theorem dX6_priceOf_18 : decode cX6_priceOf 18 = .ok (.ireturn, 1) := by decide +kernel
theorem dX7_addSkin_0 : decode cX7_addSkin 0 = .ok (.aload_n 0, 1) := by decide +kernel
theorem dX7_addSkin_1 : decode cX7_addSkin 1 = .ok (.getfield 9, 3) := by decide +kernel
theorem dX7_addSkin_4 : decode cX7_addSkin 4 = .ok (.iload_n 1, 1) := by decide +kernel
theorem dX7_addSkin_5 : decode cX7_addSkin 5 = .ok (.iaload, 1) := by decide +kernel
theorem dX7_addSkin_6 : decode cX7_addSkin 6 = .ok (.bipush 6, 2) := by decide +kernel
theorem dX7_addSkin_8 : decode cX7_addSkin 8 = .ok (.if_icmp .lt 4, 3) := by decide +kernel
theorem dX7_addSkin_11 : decode cX7_addSkin 11 = .ok (.return_, 1) := by decide +kernel
theorem dX7_addSkin_12 : decode cX7_addSkin 12 = .ok (.aload_n 0, 1) := by decide +kernel
theorem dX7_addSkin_13 : decode cX7_addSkin 13 = .ok (.getfield 9, 3) := by decide +kernel
theorem dX7_addSkin_16 : decode cX7_addSkin 16 = .ok (.iload_n 1, 1) := by decide +kernel
theorem dX7_addSkin_17 : decode cX7_addSkin 17 = .ok (.dup2, 1) := by decide +kernel
theorem dX7_addSkin_18 : decode cX7_addSkin 18 = .ok (.iaload, 1) := by decide +kernel
theorem dX7_addSkin_19 : decode cX7_addSkin 19 = .ok (.iconst 1, 1) := by decide +kernel
theorem dX7_addSkin_20 : decode cX7_addSkin 20 = .ok (.iadd, 1) := by decide +kernel
theorem dX7_addSkin_21 : decode cX7_addSkin 21 = .ok (.iastore, 1) := by decide +kernel
theorem dX7_addSkin_22 : decode cX7_addSkin 22 = .ok (.aload_n 0, 1) := by decide +kernel
theorem dX7_addSkin_23 : decode cX7_addSkin 23 = .ok (.getfield 9, 3) := by decide +kernel
theorem dX7_addSkin_26 : decode cX7_addSkin 26 = .ok (.iload_n 1, 1) := by decide +kernel
theorem dX7_addSkin_27 : decode cX7_addSkin 27 = .ok (.iaload, 1) := by decide +kernel
theorem dX7_addSkin_28 : decode cX7_addSkin 28 = .ok (.istore 7, 2) := by decide +kernel
theorem dX7_addSkin_30 : decode cX7_addSkin 30 = .ok (.aload_n 0, 1) := by decide +kernel
theorem dX7_addSkin_31 : decode cX7_addSkin 31 = .ok (.iload_n 1, 1) := by decide +kernel
theorem dX7_addSkin_32 : decode cX7_addSkin 32 = .ok (.iload 7, 2) := by decide +kernel
theorem dX7_addSkin_34 : decode cX7_addSkin 34 = .ok (.iconst 0, 1) := by decide +kernel
theorem dX7_addSkin_35 : decode cX7_addSkin 35 = .ok (.iload_n 2, 1) := by decide +kernel
theorem dX7_addSkin_36 : decode cX7_addSkin 36 = .ok (.invokevirtual 40, 3) := by decide +kernel
theorem dX7_addSkin_39 : decode cX7_addSkin 39 = .ok (.aload_n 0, 1) := by decide +kernel
theorem dX7_addSkin_40 : decode cX7_addSkin 40 = .ok (.iload_n 1, 1) := by decide +kernel
theorem dX7_addSkin_41 : decode cX7_addSkin 41 = .ok (.iload 7, 2) := by decide +kernel
theorem dX7_addSkin_43 : decode cX7_addSkin 43 = .ok (.iconst 1, 1) := by decide +kernel
theorem dX7_addSkin_44 : decode cX7_addSkin 44 = .ok (.iload_n 3, 1) := by decide +kernel
theorem dX7_addSkin_45 : decode cX7_addSkin 45 = .ok (.invokevirtual 40, 3) := by decide +kernel
theorem dX7_addSkin_48 : decode cX7_addSkin 48 = .ok (.aload_n 0, 1) := by decide +kernel
theorem dX7_addSkin_49 : decode cX7_addSkin 49 = .ok (.iload_n 1, 1) := by decide +kernel
theorem dX7_addSkin_50 : decode cX7_addSkin 50 = .ok (.iload 7, 2) := by decide +kernel
theorem dX7_addSkin_52 : decode cX7_addSkin 52 = .ok (.iconst 2, 1) := by decide +kernel
theorem dX7_addSkin_53 : decode cX7_addSkin 53 = .ok (.iload 4, 2) := by decide +kernel
theorem dX7_addSkin_55 : decode cX7_addSkin 55 = .ok (.invokevirtual 40, 3) := by decide +kernel
theorem dX7_addSkin_58 : decode cX7_addSkin 58 = .ok (.aload_n 0, 1) := by decide +kernel
theorem dX7_addSkin_59 : decode cX7_addSkin 59 = .ok (.iload_n 1, 1) := by decide +kernel
theorem dX7_addSkin_60 : decode cX7_addSkin 60 = .ok (.iload 7, 2) := by decide +kernel
theorem dX7_addSkin_62 : decode cX7_addSkin 62 = .ok (.iconst 3, 1) := by decide +kernel
theorem dX7_addSkin_63 : decode cX7_addSkin 63 = .ok (.iload 5, 2) := by decide +kernel
theorem dX7_addSkin_65 : decode cX7_addSkin 65 = .ok (.invokevirtual 40, 3) := by decide +kernel
theorem dX7_addSkin_68 : decode cX7_addSkin 68 = .ok (.aload_n 0, 1) := by decide +kernel
theorem dX7_addSkin_69 : decode cX7_addSkin 69 = .ok (.iload_n 1, 1) := by decide +kernel
theorem dX7_addSkin_70 : decode cX7_addSkin 70 = .ok (.iload 7, 2) := by decide +kernel
theorem dX7_addSkin_72 : decode cX7_addSkin 72 = .ok (.iconst 4, 1) := by decide +kernel
theorem dX7_addSkin_73 : decode cX7_addSkin 73 = .ok (.iconst 0, 1) := by decide +kernel
theorem dX7_addSkin_74 : decode cX7_addSkin 74 = .ok (.invokevirtual 40, 3) := by decide +kernel
theorem dX7_addSkin_77 : decode cX7_addSkin 77 = .ok (.aload_n 0, 1) := by decide +kernel
theorem dX7_addSkin_78 : decode cX7_addSkin 78 = .ok (.iload_n 1, 1) := by decide +kernel
theorem dX7_addSkin_79 : decode cX7_addSkin 79 = .ok (.iload 7, 2) := by decide +kernel
theorem dX7_addSkin_81 : decode cX7_addSkin 81 = .ok (.iconst 5, 1) := by decide +kernel
theorem dX7_addSkin_82 : decode cX7_addSkin 82 = .ok (.iconst 0, 1) := by decide +kernel
theorem dX7_addSkin_83 : decode cX7_addSkin 83 = .ok (.invokevirtual 40, 3) := by decide +kernel
theorem dX7_addSkin_86 : decode cX7_addSkin 86 = .ok (.aload_n 0, 1) := by decide +kernel
theorem dX7_addSkin_87 : decode cX7_addSkin 87 = .ok (.iload_n 1, 1) := by decide +kernel
theorem dX7_addSkin_88 : decode cX7_addSkin 88 = .ok (.iload 7, 2) := by decide +kernel
theorem dX7_addSkin_90 : decode cX7_addSkin 90 = .ok (.bipush 6, 2) := by decide +kernel
theorem dX7_addSkin_92 : decode cX7_addSkin 92 = .ok (.iconst 0, 1) := by decide +kernel
theorem dX7_addSkin_93 : decode cX7_addSkin 93 = .ok (.invokevirtual 40, 3) := by decide +kernel
theorem dX7_addSkin_96 : decode cX7_addSkin 96 = .ok (.aload_n 0, 1) := by decide +kernel
theorem dX7_addSkin_97 : decode cX7_addSkin 97 = .ok (.iload_n 1, 1) := by decide +kernel
theorem dX7_addSkin_98 : decode cX7_addSkin 98 = .ok (.iload 7, 2) := by decide +kernel
theorem dX7_addSkin_100 : decode cX7_addSkin 100 = .ok (.bipush 7, 2) := by decide +kernel
theorem dX7_addSkin_102 : decode cX7_addSkin 102 = .ok (.iload 6, 2) := by decide +kernel
theorem dX7_addSkin_104 : decode cX7_addSkin 104 = .ok (.invokevirtual 40, 3) := by decide +kernel
theorem dX7_addSkin_107 : decode cX7_addSkin 107 = .ok (.return_, 1) := by decide +kernel
theorem dX7_clear_0 : decode cX7_clear 0 = .ok (.aload_n 0, 1) := by decide +kernel
theorem dX7_clear_1 : decode cX7_clear 1 = .ok (.iconst 0, 1) := by decide +kernel
theorem dX7_clear_2 : decode cX7_clear 2 = .ok (.putfield 27, 3) := by decide +kernel
theorem dX7_clear_5 : decode cX7_clear 5 = .ok (.aload_n 0, 1) := by decide +kernel
theorem dX7_clear_6 : decode cX7_clear 6 = .ok (.iconst 0, 1) := by decide +kernel
theorem dX7_clear_7 : decode cX7_clear 7 = .ok (.putfield 31, 3) := by decide +kernel
theorem dX7_clear_10 : decode cX7_clear 10 = .ok (.iconst 0, 1) := by decide +kernel
theorem dX7_clear_11 : decode cX7_clear 11 = .ok (.istore_n 1, 1) := by decide +kernel
theorem dX7_clear_12 : decode cX7_clear 12 = .ok (.iload_n 1, 1) := by decide +kernel
theorem dX7_clear_13 : decode cX7_clear 13 = .ok (.iconst 4, 1) := by decide +kernel
theorem dX7_clear_14 : decode cX7_clear 14 = .ok (.if_icmp .ge 16, 3) := by decide +kernel
theorem dX7_clear_17 : decode cX7_clear 17 = .ok (.aload_n 0, 1) := by decide +kernel
theorem dX7_clear_18 : decode cX7_clear 18 = .ok (.getfield 9, 3) := by decide +kernel
theorem dX7_clear_21 : decode cX7_clear 21 = .ok (.iload_n 1, 1) := by decide +kernel
theorem dX7_clear_22 : decode cX7_clear 22 = .ok (.iconst 0, 1) := by decide +kernel
theorem dX7_clear_23 : decode cX7_clear 23 = .ok (.iastore, 1) := by decide +kernel
theorem dX7_clear_24 : decode cX7_clear 24 = .ok (.iinc 1 1, 3) := by decide +kernel
theorem dX7_clear_27 : decode cX7_clear 27 = .ok (.goto (-15), 3) := by decide +kernel
theorem dX7_clear_30 : decode cX7_clear 30 = .ok (.return_, 1) := by decide +kernel
theorem dX7_copyFrom_0 : decode cX7_copyFrom 0 = .ok (.aload_n 0, 1) := by decide +kernel
theorem dX7_copyFrom_1 : decode cX7_copyFrom 1 = .ok (.aload_n 1, 1) := by decide +kernel
theorem dX7_copyFrom_2 : decode cX7_copyFrom 2 = .ok (.getfield 27, 3) := by decide +kernel
theorem dX7_copyFrom_5 : decode cX7_copyFrom 5 = .ok (.putfield 27, 3) := by decide +kernel
theorem dX7_copyFrom_8 : decode cX7_copyFrom 8 = .ok (.aload_n 0, 1) := by decide +kernel
theorem dX7_copyFrom_9 : decode cX7_copyFrom 9 = .ok (.aload_n 1, 1) := by decide +kernel
theorem dX7_copyFrom_10 : decode cX7_copyFrom 10 = .ok (.getfield 31, 3) := by decide +kernel
theorem dX7_copyFrom_13 : decode cX7_copyFrom 13 = .ok (.putfield 31, 3) := by decide +kernel
theorem dX7_copyFrom_16 : decode cX7_copyFrom 16 = .ok (.aload_n 1, 1) := by decide +kernel
theorem dX7_copyFrom_17 : decode cX7_copyFrom 17 = .ok (.getfield 9, 3) := by decide +kernel
theorem dX7_copyFrom_20 : decode cX7_copyFrom 20 = .ok (.iconst 0, 1) := by decide +kernel
theorem dX7_copyFrom_21 : decode cX7_copyFrom 21 = .ok (.aload_n 0, 1) := by decide +kernel
theorem dX7_copyFrom_22 : decode cX7_copyFrom 22 = .ok (.getfield 9, 3) := by decide +kernel
theorem dX7_copyFrom_25 : decode cX7_copyFrom 25 = .ok (.iconst 0, 1) := by decide +kernel
theorem dX7_copyFrom_26 : decode cX7_copyFrom 26 = .ok (.iconst 4, 1) := by decide +kernel
theorem dX7_copyFrom_27 : decode cX7_copyFrom 27 = .ok (.invokestatic 34, 3) := by decide +kernel
theorem dX7_copyFrom_30 : decode cX7_copyFrom 30 = .ok (.aload_n 1, 1) := by decide +kernel
theorem dX7_copyFrom_31 : decode cX7_copyFrom 31 = .ok (.getfield 15, 3) := by decide +kernel
theorem dX7_copyFrom_34 : decode cX7_copyFrom 34 = .ok (.iconst 0, 1) := by decide +kernel
theorem dX7_copyFrom_35 : decode cX7_copyFrom 35 = .ok (.aload_n 0, 1) := by decide +kernel
theorem dX7_copyFrom_36 : decode cX7_copyFrom 36 = .ok (.getfield 15, 3) := by decide +kernel
theorem dX7_copyFrom_39 : decode cX7_copyFrom 39 = .ok (.iconst 0, 1) := by decide +kernel
theorem dX7_copyFrom_40 : decode cX7_copyFrom 40 = .ok (.iconst 4, 1) := by decide +kernel
theorem dX7_copyFrom_41 : decode cX7_copyFrom 41 = .ok (.invokestatic 34, 3) := by decide +kernel
theorem dX7_copyFrom_44 : decode cX7_copyFrom 44 = .ok (.aload_n 1, 1) := by decide +kernel
theorem dX7_copyFrom_45 : decode cX7_copyFrom 45 = .ok (.getfield 18, 3) := by decide +kernel
theorem dX7_copyFrom_48 : decode cX7_copyFrom 48 = .ok (.iconst 0, 1) := by decide +kernel
theorem dX7_copyFrom_49 : decode cX7_copyFrom 49 = .ok (.aload_n 0, 1) := by decide +kernel
theorem dX7_copyFrom_50 : decode cX7_copyFrom 50 = .ok (.getfield 18, 3) := by decide +kernel
theorem dX7_copyFrom_53 : decode cX7_copyFrom 53 = .ok (.iconst 0, 1) := by decide +kernel
theorem dX7_copyFrom_54 : decode cX7_copyFrom 54 = .ok (.iconst 4, 1) := by decide +kernel
theorem dX7_copyFrom_55 : decode cX7_copyFrom 55 = .ok (.invokestatic 34, 3) := by decide +kernel
theorem dX7_copyFrom_58 : decode cX7_copyFrom 58 = .ok (.aload_n 1, 1) := by decide +kernel
theorem dX7_copyFrom_59 : decode cX7_copyFrom 59 = .ok (.getfield 21, 3) := by decide +kernel
theorem dX7_copyFrom_62 : decode cX7_copyFrom 62 = .ok (.iconst 0, 1) := by decide +kernel
theorem dX7_copyFrom_63 : decode cX7_copyFrom 63 = .ok (.aload_n 0, 1) := by decide +kernel
theorem dX7_copyFrom_64 : decode cX7_copyFrom 64 = .ok (.getfield 21, 3) := by decide +kernel
theorem dX7_copyFrom_67 : decode cX7_copyFrom 67 = .ok (.iconst 0, 1) := by decide +kernel
theorem dX7_copyFrom_68 : decode cX7_copyFrom 68 = .ok (.bipush 6, 2) := by decide +kernel
theorem dX7_copyFrom_70 : decode cX7_copyFrom 70 = .ok (.invokestatic 34, 3) := by decide +kernel
theorem dX7_copyFrom_73 : decode cX7_copyFrom 73 = .ok (.aload_n 1, 1) := by decide +kernel
theorem dX7_copyFrom_74 : decode cX7_copyFrom 74 = .ok (.getfield 24, 3) := by decide +kernel
theorem dX7_copyFrom_77 : decode cX7_copyFrom 77 = .ok (.iconst 0, 1) := by decide +kernel
theorem dX7_copyFrom_78 : decode cX7_copyFrom 78 = .ok (.aload_n 0, 1) := by decide +kernel
theorem dX7_copyFrom_79 : decode cX7_copyFrom 79 = .ok (.getfield 24, 3) := by decide +kernel
theorem dX7_copyFrom_82 : decode cX7_copyFrom 82 = .ok (.iconst 0, 1) := by decide +kernel
theorem dX7_copyFrom_83 : decode cX7_copyFrom 83 = .ok (.sipush 192, 3) := by decide +kernel
theorem dX7_copyFrom_86 : decode cX7_copyFrom 86 = .ok (.invokestatic 34, 3) := by decide +kernel
theorem dX7_copyFrom_89 : decode cX7_copyFrom 89 = .ok (.return_, 1) := by decide +kernel
theorem dX7_doorOf_0 : decode cX7_doorOf 0 = .ok (.iload_n 2, 1) := by decide +kernel
theorem dX7_doorOf_1 : decode cX7_doorOf 1 = .ok (.aload_n 0, 1) := by decide +kernel
theorem dX7_doorOf_2 : decode cX7_doorOf 2 = .ok (.iload_n 1, 1) := by decide +kernel
theorem dX7_doorOf_3 : decode cX7_doorOf 3 = .ok (.iload_n 2, 1) := by decide +kernel
theorem dX7_doorOf_4 : decode cX7_doorOf 4 = .ok (.iconst 1, 1) := by decide +kernel
theorem dX7_doorOf_5 : decode cX7_doorOf 5 = .ok (.invokevirtual 44, 3) := by decide +kernel
theorem dX7_doorOf_8 : decode cX7_doorOf 8 = .ok (.aload_n 0, 1) := by decide +kernel
theorem dX7_doorOf_9 : decode cX7_doorOf 9 = .ok (.iload_n 1, 1) := by decide +kernel
theorem dX7_doorOf_10 : decode cX7_doorOf 10 = .ok (.iload_n 2, 1) := by decide +kernel
theorem dX7_doorOf_11 : decode cX7_doorOf 11 = .ok (.iconst 2, 1) := by decide +kernel
theorem dX7_doorOf_12 : decode cX7_doorOf 12 = .ok (.invokevirtual 44, 3) := by decide +kernel
theorem dX7_doorOf_15 : decode cX7_doorOf 15 = .ok (.invokestatic 52, 3) := by decide +kernel
theorem dX7_doorOf_18 : decode cX7_doorOf 18 = .ok (.ireturn, 1) := by decide +kernel
theorem dX7_draw_0 : decode cX7_draw 0 = .ok (.aload_n 0, 1) := by decide +kernel
theorem dX7_draw_1 : decode cX7_draw 1 = .ok (.bipush 75, 2) := by decide +kernel
theorem dX7_draw_3 : decode cX7_draw 3 = .ok (.aload_n 0, 1) := by decide +kernel
theorem dX7_draw_4 : decode cX7_draw 4 = .ok (.getfield 31, 3) := by decide +kernel
theorem dX7_draw_7 : decode cX7_draw 7 = .ok (.imul, 1) := by decide +kernel
theorem dX7_draw_8 : decode cX7_draw 8 = .ok (.bipush 74, 2) := by decide +kernel
theorem dX7_draw_10 : decode cX7_draw 10 = .ok (.iadd, 1) := by decide +kernel
theorem dX7_draw_11 : decode cX7_draw 11 = .ok (.ldc 73, 2) := by decide +kernel
theorem dX7_draw_13 : decode cX7_draw 13 = .ok (.irem, 1) := by decide +kernel
theorem dX7_draw_14 : decode cX7_draw 14 = .ok (.putfield 31, 3) := by decide +kernel
theorem dX7_draw_17 : decode cX7_draw 17 = .ok (.aload_n 0, 1) := by decide +kernel
theorem dX7_draw_18 : decode cX7_draw 18 = .ok (.getfield 31, 3) := by decide +kernel
theorem dX7_draw_21 : decode cX7_draw 21 = .ok (.ireturn, 1) := by decide +kernel
theorem dX7_fallen_0 : decode cX7_fallen 0 = .ok (.iconst 0, 1) := by decide +kernel
theorem dX7_fallen_1 : decode cX7_fallen 1 = .ok (.istore_n 2, 1) := by decide +kernel
theorem dX7_fallen_2 : decode cX7_fallen 2 = .ok (.iconst 1, 1) := by decide +kernel
theorem dX7_fallen_3 : decode cX7_fallen 3 = .ok (.istore_n 3, 1) := by decide +kernel
theorem dX7_fallen_4 : decode cX7_fallen 4 = .ok (.iload_n 3, 1) := by decide +kernel
theorem dX7_fallen_5 : decode cX7_fallen 5 = .ok (.aload_n 0, 1) := by decide +kernel
theorem dX7_fallen_6 : decode cX7_fallen 6 = .ok (.getfield 9, 3) := by decide +kernel
theorem dX7_fallen_9 : decode cX7_fallen 9 = .ok (.iload_n 1, 1) := by decide +kernel
theorem dX7_fallen_10 : decode cX7_fallen 10 = .ok (.iaload, 1) := by decide +kernel
theorem dX7_fallen_11 : decode cX7_fallen 11 = .ok (.if_icmp .gt 21, 3) := by decide +kernel
theorem dX7_fallen_14 : decode cX7_fallen 14 = .ok (.aload_n 0, 1) := by decide +kernel
theorem dX7_fallen_15 : decode cX7_fallen 15 = .ok (.iload_n 1, 1) := by decide +kernel
theorem dX7_fallen_16 : decode cX7_fallen 16 = .ok (.iload_n 3, 1) := by decide +kernel
theorem dX7_fallen_17 : decode cX7_fallen 17 = .ok (.invokevirtual 48, 3) := by decide +kernel
theorem dX7_fallen_20 : decode cX7_fallen 20 = .ok (.ifCond .ne 6, 3) := by decide +kernel
theorem dX7_fallen_23 : decode cX7_fallen 23 = .ok (.iinc 2 1, 3) := by decide +kernel
theorem dX7_fallen_26 : decode cX7_fallen 26 = .ok (.iinc 3 1, 3) := by decide +kernel
theorem dX7_fallen_29 : decode cX7_fallen 29 = .ok (.goto (-25), 3) := by decide +kernel
theorem dX7_fallen_32 : decode cX7_fallen 32 = .ok (.iload_n 2, 1) := by decide +kernel
theorem dX7_fallen_33 : decode cX7_fallen 33 = .ok (.ireturn, 1) := by decide +kernel
theorem dX7_inmost_0 : decode cX7_inmost 0 = .ok (.iconst 1, 1) := by decide +kernel
theorem dX7_inmost_1 : decode cX7_inmost 1 = .ok (.istore_n 2, 1) := by decide +kernel
theorem dX7_inmost_2 : decode cX7_inmost 2 = .ok (.iload_n 2, 1) := by decide +kernel
theorem dX7_inmost_3 : decode cX7_inmost 3 = .ok (.aload_n 0, 1) := by decide +kernel
theorem dX7_inmost_4 : decode cX7_inmost 4 = .ok (.getfield 9, 3) := by decide +kernel
theorem dX7_inmost_7 : decode cX7_inmost 7 = .ok (.iload_n 1, 1) := by decide +kernel
theorem dX7_inmost_8 : decode cX7_inmost 8 = .ok (.iaload, 1) := by decide +kernel
theorem dX7_inmost_9 : decode cX7_inmost 9 = .ok (.if_icmp .gt 20, 3) := by decide +kernel
theorem dX7_inmost_12 : decode cX7_inmost 12 = .ok (.aload_n 0, 1) := by decide +kernel
theorem dX7_inmost_13 : decode cX7_inmost 13 = .ok (.iload_n 1, 1) := by decide +kernel
theorem dX7_inmost_14 : decode cX7_inmost 14 = .ok (.iload_n 2, 1) := by decide +kernel
theorem dX7_inmost_15 : decode cX7_inmost 15 = .ok (.invokevirtual 48, 3) := by decide +kernel
theorem dX7_inmost_18 : decode cX7_inmost 18 = .ok (.ifCond .eq 5, 3) := by decide +kernel
theorem dX7_inmost_21 : decode cX7_inmost 21 = .ok (.iload_n 2, 1) := by decide +kernel
theorem dX7_inmost_22 : decode cX7_inmost 22 = .ok (.ireturn, 1) := by decide +kernel
theorem dX7_inmost_23 : decode cX7_inmost 23 = .ok (.iinc 2 1, 3) := by decide +kernel
theorem dX7_inmost_26 : decode cX7_inmost 26 = .ok (.goto (-24), 3) := by decide +kernel
theorem dX7_inmost_29 : decode cX7_inmost 29 = .ok (.iconst 0, 1) := by decide +kernel
theorem dX7_inmost_30 : decode cX7_inmost 30 = .ok (.ireturn, 1) := by decide +kernel
theorem dX7_isCrowded_0 : decode cX7_isCrowded 0 = .ok (.aload_n 0, 1) := by decide +kernel
theorem dX7_isCrowded_1 : decode cX7_isCrowded 1 = .ok (.getfield 9, 3) := by decide +kernel
theorem dX7_isCrowded_4 : decode cX7_isCrowded 4 = .ok (.iload_n 1, 1) := by decide +kernel
theorem dX7_isCrowded_5 : decode cX7_isCrowded 5 = .ok (.iaload, 1) := by decide +kernel
theorem dX7_isCrowded_6 : decode cX7_isCrowded 6 = .ok (.ifCond .ne 7, 3) := by decide +kernel
theorem dX7_isCrowded_9 : decode cX7_isCrowded 9 = .ok (.iconst 1, 1) := by decide +kernel
theorem dX7_isCrowded_10 : decode cX7_isCrowded 10 = .ok (.goto 12, 3) := by decide +kernel
theorem dX7_isCrowded_13 : decode cX7_isCrowded 13 = .ok (.bipush 8, 2) := by decide +kernel
theorem dX7_isCrowded_15 : decode cX7_isCrowded 15 = .ok (.aload_n 0, 1) := by decide +kernel
theorem dX7_isCrowded_16 : decode cX7_isCrowded 16 = .ok (.getfield 9, 3) := by decide +kernel
theorem dX7_isCrowded_19 : decode cX7_isCrowded 19 = .ok (.iload_n 1, 1) := by decide +kernel
theorem dX7_isCrowded_20 : decode cX7_isCrowded 20 = .ok (.iaload, 1) := by decide +kernel
theorem dX7_isCrowded_21 : decode cX7_isCrowded 21 = .ok (.imul, 1) := by decide +kernel
theorem dX7_isCrowded_22 : decode cX7_isCrowded 22 = .ok (.istore_n 2, 1) := by decide +kernel
theorem dX7_isCrowded_23 : decode cX7_isCrowded 23 = .ok (.aload_n 0, 1) := by decide +kernel
theorem dX7_isCrowded_24 : decode cX7_isCrowded 24 = .ok (.getfield 15, 3) := by decide +kernel
theorem dX7_isCrowded_27 : decode cX7_isCrowded 27 = .ok (.iload_n 1, 1) := by decide +kernel
theorem dX7_isCrowded_28 : decode cX7_isCrowded 28 = .ok (.iaload, 1) := by decide +kernel
theorem dX7_isCrowded_29 : decode cX7_isCrowded 29 = .ok (.iload_n 2, 1) := by decide +kernel
theorem dX7_isCrowded_30 : decode cX7_isCrowded 30 = .ok (.if_icmp .le 7, 3) := by decide +kernel
theorem dX7_isCrowded_33 : decode cX7_isCrowded 33 = .ok (.iconst 1, 1) := by decide +kernel
theorem dX7_isCrowded_34 : decode cX7_isCrowded 34 = .ok (.goto 4, 3) := by decide +kernel
theorem dX7_isCrowded_37 : decode cX7_isCrowded 37 = .ok (.iconst 0, 1) := by decide +kernel
theorem dX7_isCrowded_38 : decode cX7_isCrowded 38 = .ok (.ireturn, 1) := by decide +kernel
theorem dX7_isOpen_0 : decode cX7_isOpen 0 = .ok (.aload_n 0, 1) := by decide +kernel
theorem dX7_isOpen_1 : decode cX7_isOpen 1 = .ok (.iload_n 1, 1) := by decide +kernel
theorem dX7_isOpen_2 : decode cX7_isOpen 2 = .ok (.iload_n 2, 1) := by decide +kernel
theorem dX7_isOpen_3 : decode cX7_isOpen 3 = .ok (.invokevirtual 48, 3) := by decide +kernel
theorem dX7_isOpen_6 : decode cX7_isOpen 6 = .ok (.ifCond .eq 18, 3) := by decide +kernel
theorem dX7_isOpen_9 : decode cX7_isOpen 9 = .ok (.aload_n 0, 1) := by decide +kernel
theorem dX7_isOpen_10 : decode cX7_isOpen 10 = .ok (.iload_n 1, 1) := by decide +kernel
theorem dX7_isOpen_11 : decode cX7_isOpen 11 = .ok (.iload_n 2, 1) := by decide +kernel
theorem dX7_isOpen_12 : decode cX7_isOpen 12 = .ok (.bipush 6, 2) := by decide +kernel
theorem dX7_isOpen_14 : decode cX7_isOpen 14 = .ok (.invokevirtual 44, 3) := by decide +kernel
theorem dX7_isOpen_17 : decode cX7_isOpen 17 = .ok (.ifCond .ne 7, 3) := by decide +kernel
theorem dX7_isOpen_20 : decode cX7_isOpen 20 = .ok (.iconst 1, 1) := by decide +kernel
theorem dX7_isOpen_21 : decode cX7_isOpen 21 = .ok (.goto 4, 3) := by decide +kernel
theorem dX7_isOpen_24 : decode cX7_isOpen 24 = .ok (.iconst 0, 1) := by decide +kernel
theorem dX7_isOpen_25 : decode cX7_isOpen 25 = .ok (.ireturn, 1) := by decide +kernel
theorem dX7_partOf_0 : decode cX7_partOf 0 = .ok (.iload_n 1, 1) := by decide +kernel
theorem dX7_partOf_1 : decode cX7_partOf 1 = .ok (.bipush 6, 2) := by decide +kernel
theorem dX7_partOf_3 : decode cX7_partOf 3 = .ok (.imul, 1) := by decide +kernel
theorem dX7_partOf_4 : decode cX7_partOf 4 = .ok (.iload_n 2, 1) := by decide +kernel
theorem dX7_partOf_5 : decode cX7_partOf 5 = .ok (.iadd, 1) := by decide +kernel
theorem dX7_partOf_6 : decode cX7_partOf 6 = .ok (.iconst 1, 1) := by decide +kernel
theorem dX7_partOf_7 : decode cX7_partOf 7 = .ok (.isub, 1) := by decide +kernel
theorem dX7_partOf_8 : decode cX7_partOf 8 = .ok (.bipush 8, 2) := by decide +kernel
theorem dX7_partOf_10 : decode cX7_partOf 10 = .ok (.imul, 1) := by decide +kernel
theorem dX7_partOf_11 : decode cX7_partOf 11 = .ok (.iload_n 3, 1) := by decide +kernel
theorem dX7_partOf_12 : decode cX7_partOf 12 = .ok (.iadd, 1) := by decide +kernel
theorem dX7_partOf_13 : decode cX7_partOf 13 = .ok (.istore 4, 2) := by decide +kernel
theorem dX7_partOf_15 : decode cX7_partOf 15 = .ok (.iload 4, 2) := by decide +kernel
theorem dX7_partOf_17 : decode cX7_partOf 17 = .ok (.ifCond .lt 23, 3) := by decide +kernel
theorem dX7_partOf_20 : decode cX7_partOf 20 = .ok (.iload 4, 2) := by decide +kernel
theorem dX7_partOf_22 : decode cX7_partOf 22 = .ok (.aload_n 0, 1) := by decide +kernel
theorem dX7_partOf_23 : decode cX7_partOf 23 = .ok (.getfield 24, 3) := by decide +kernel
theorem dX7_partOf_26 : decode cX7_partOf 26 = .ok (.arraylength, 1) := by decide +kernel
theorem dX7_partOf_27 : decode cX7_partOf 27 = .ok (.if_icmp .ge 13, 3) := by decide +kernel
theorem dX7_partOf_30 : decode cX7_partOf 30 = .ok (.aload_n 0, 1) := by decide +kernel
theorem dX7_partOf_31 : decode cX7_partOf 31 = .ok (.getfield 24, 3) := by decide +kernel
theorem dX7_partOf_34 : decode cX7_partOf 34 = .ok (.iload 4, 2) := by decide +kernel
theorem dX7_partOf_36 : decode cX7_partOf 36 = .ok (.iaload, 1) := by decide +kernel
theorem dX7_partOf_37 : decode cX7_partOf 37 = .ok (.goto 4, 3) := by decide +kernel
theorem dX7_partOf_40 : decode cX7_partOf 40 = .ok (.iconst 0, 1) := by decide +kernel
theorem dX7_partOf_41 : decode cX7_partOf 41 = .ok (.ireturn, 1) := by decide +kernel
theorem dX7_roundIn_0 : decode cX7_roundIn 0 = .ok (.iload_n 2, 1) := by decide +kernel
theorem dX7_roundIn_1 : decode cX7_roundIn 1 = .ok (.aload_n 0, 1) := by decide +kernel
theorem dX7_roundIn_2 : decode cX7_roundIn 2 = .ok (.iload_n 1, 1) := by decide +kernel
theorem dX7_roundIn_3 : decode cX7_roundIn 3 = .ok (.iload_n 2, 1) := by decide +kernel
theorem dX7_roundIn_4 : decode cX7_roundIn 4 = .ok (.invokevirtual 57, 3) := by decide +kernel
theorem dX7_roundIn_7 : decode cX7_roundIn 7 = .ok (.iload_n 2, 1) := by decide +kernel
theorem dX7_roundIn_8 : decode cX7_roundIn 8 = .ok (.iconst 1, 1) := by decide +kernel
theorem dX7_roundIn_9 : decode cX7_roundIn 9 = .ok (.isub, 1) := by decide +kernel
theorem dX7_roundIn_10 : decode cX7_roundIn 10 = .ok (.aload_n 0, 1) := by decide +kernel
theorem dX7_roundIn_11 : decode cX7_roundIn 11 = .ok (.iload_n 1, 1) := by decide +kernel
theorem dX7_roundIn_12 : decode cX7_roundIn 12 = .ok (.iload_n 2, 1) := by decide +kernel
theorem dX7_roundIn_13 : decode cX7_roundIn 13 = .ok (.iconst 1, 1) := by decide +kernel
theorem dX7_roundIn_14 : decode cX7_roundIn 14 = .ok (.isub, 1) := by decide +kernel
theorem dX7_roundIn_15 : decode cX7_roundIn 15 = .ok (.invokevirtual 57, 3) := by decide +kernel
theorem dX7_roundIn_18 : decode cX7_roundIn 18 = .ok (.invokestatic 61, 3) := by decide +kernel
theorem dX7_roundIn_21 : decode cX7_roundIn 21 = .ok (.invokestatic 64, 3) := by decide +kernel
theorem dX7_roundIn_24 : decode cX7_roundIn 24 = .ok (.ireturn, 1) := by decide +kernel
theorem dX7_setPart_0 : decode cX7_setPart 0 = .ok (.iload_n 1, 1) := by decide +kernel
theorem dX7_setPart_1 : decode cX7_setPart 1 = .ok (.bipush 6, 2) := by decide +kernel
theorem dX7_setPart_3 : decode cX7_setPart 3 = .ok (.imul, 1) := by decide +kernel
theorem dX7_setPart_4 : decode cX7_setPart 4 = .ok (.iload_n 2, 1) := by decide +kernel
theorem dX7_setPart_5 : decode cX7_setPart 5 = .ok (.iadd, 1) := by decide +kernel
theorem dX7_setPart_6 : decode cX7_setPart 6 = .ok (.iconst 1, 1) := by decide +kernel
theorem dX7_setPart_7 : decode cX7_setPart 7 = .ok (.isub, 1) := by decide +kernel
theorem dX7_setPart_8 : decode cX7_setPart 8 = .ok (.bipush 8, 2) := by decide +kernel
theorem dX7_setPart_10 : decode cX7_setPart 10 = .ok (.imul, 1) := by decide +kernel
theorem dX7_setPart_11 : decode cX7_setPart 11 = .ok (.iload_n 3, 1) := by decide +kernel
theorem dX7_setPart_12 : decode cX7_setPart 12 = .ok (.iadd, 1) := by decide +kernel
theorem dX7_setPart_13 : decode cX7_setPart 13 = .ok (.istore 5, 2) := by decide +kernel
theorem dX7_setPart_15 : decode cX7_setPart 15 = .ok (.iload 5, 2) := by decide +kernel
theorem dX7_setPart_17 : decode cX7_setPart 17 = .ok (.ifCond .lt 22, 3) := by decide +kernel
theorem dX7_setPart_20 : decode cX7_setPart 20 = .ok (.iload 5, 2) := by decide +kernel
theorem dX7_setPart_22 : decode cX7_setPart 22 = .ok (.aload_n 0, 1) := by decide +kernel
theorem dX7_setPart_23 : decode cX7_setPart 23 = .ok (.getfield 24, 3) := by decide +kernel
theorem dX7_setPart_26 : decode cX7_setPart 26 = .ok (.arraylength, 1) := by decide +kernel
theorem dX7_setPart_27 : decode cX7_setPart 27 = .ok (.if_icmp .ge 12, 3) := by decide +kernel
theorem dX7_setPart_30 : decode cX7_setPart 30 = .ok (.aload_n 0, 1) := by decide +kernel
theorem dX7_setPart_31 : decode cX7_setPart 31 = .ok (.getfield 24, 3) := by decide +kernel
theorem dX7_setPart_34 : decode cX7_setPart 34 = .ok (.iload 5, 2) := by decide +kernel
theorem dX7_setPart_36 : decode cX7_setPart 36 = .ok (.iload 4, 2) := by decide +kernel
theorem dX7_setPart_38 : decode cX7_setPart 38 = .ok (.iastore, 1) := by decide +kernel
theorem dX7_setPart_39 : decode cX7_setPart 39 = .ok (.return_, 1) := by decide +kernel
theorem dX7_skinsOfAll_0 : decode cX7_skinsOfAll 0 = .ok (.iconst 0, 1) := by decide +kernel
theorem dX7_skinsOfAll_1 : decode cX7_skinsOfAll 1 = .ok (.istore_n 1, 1) := by decide +kernel
theorem dX7_skinsOfAll_2 : decode cX7_skinsOfAll 2 = .ok (.iconst 0, 1) := by decide +kernel
theorem dX7_skinsOfAll_3 : decode cX7_skinsOfAll 3 = .ok (.istore_n 2, 1) := by decide +kernel
theorem dX7_skinsOfAll_4 : decode cX7_skinsOfAll 4 = .ok (.iload_n 2, 1) := by decide +kernel
theorem dX7_skinsOfAll_5 : decode cX7_skinsOfAll 5 = .ok (.iconst 4, 1) := by decide +kernel
theorem dX7_skinsOfAll_6 : decode cX7_skinsOfAll 6 = .ok (.if_icmp .ge 18, 3) := by decide +kernel
theorem dX7_skinsOfAll_9 : decode cX7_skinsOfAll 9 = .ok (.iload_n 1, 1) := by decide +kernel
theorem dX7_skinsOfAll_10 : decode cX7_skinsOfAll 10 = .ok (.aload_n 0, 1) := by decide +kernel
theorem dX7_skinsOfAll_11 : decode cX7_skinsOfAll 11 = .ok (.getfield 9, 3) := by decide +kernel
theorem dX7_skinsOfAll_14 : decode cX7_skinsOfAll 14 = .ok (.iload_n 2, 1) := by decide +kernel
theorem dX7_skinsOfAll_15 : decode cX7_skinsOfAll 15 = .ok (.iaload, 1) := by decide +kernel
theorem dX7_skinsOfAll_16 : decode cX7_skinsOfAll 16 = .ok (.iadd, 1) := by decide +kernel
theorem dX7_skinsOfAll_17 : decode cX7_skinsOfAll 17 = .ok (.istore_n 1, 1) := by decide +kernel
theorem dX7_skinsOfAll_18 : decode cX7_skinsOfAll 18 = .ok (.iinc 2 1, 3) := by decide +kernel
theorem dX7_skinsOfAll_21 : decode cX7_skinsOfAll 21 = .ok (.goto (-17), 3) := by decide +kernel
theorem dX7_skinsOfAll_24 : decode cX7_skinsOfAll 24 = .ok (.iload_n 1, 1) := by decide +kernel
theorem dX7_skinsOfAll_25 : decode cX7_skinsOfAll 25 = .ok (.ireturn, 1) := by decide +kernel
theorem dX7_stands_0 : decode cX7_stands 0 = .ok (.aload_n 0, 1) := by decide +kernel
theorem dX7_stands_1 : decode cX7_stands 1 = .ok (.iload_n 1, 1) := by decide +kernel
theorem dX7_stands_2 : decode cX7_stands 2 = .ok (.iload_n 2, 1) := by decide +kernel
theorem dX7_stands_3 : decode cX7_stands 3 = .ok (.iconst 5, 1) := by decide +kernel
theorem dX7_stands_4 : decode cX7_stands 4 = .ok (.invokevirtual 44, 3) := by decide +kernel
theorem dX7_stands_7 : decode cX7_stands 7 = .ok (.ifCond .ne 7, 3) := by decide +kernel
theorem dX7_stands_10 : decode cX7_stands 10 = .ok (.iconst 1, 1) := by decide +kernel
theorem dX7_stands_11 : decode cX7_stands 11 = .ok (.goto 4, 3) := by decide +kernel
theorem dX7_stands_14 : decode cX7_stands 14 = .ok (.iconst 0, 1) := by decide +kernel
theorem dX7_stands_15 : decode cX7_stands 15 = .ok (.ireturn, 1) := by decide +kernel
theorem dX7_wayTo_0 : decode cX7_wayTo 0 = .ok (.aload_n 0, 1) := by decide +kernel
theorem dX7_wayTo_1 : decode cX7_wayTo 1 = .ok (.getfield 9, 3) := by decide +kernel
theorem dX7_wayTo_4 : decode cX7_wayTo 4 = .ok (.iload_n 1, 1) := by decide +kernel
theorem dX7_wayTo_5 : decode cX7_wayTo 5 = .ok (.iaload, 1) := by decide +kernel
theorem dX7_wayTo_6 : decode cX7_wayTo 6 = .ok (.ifCond .ne 5, 3) := by decide +kernel
theorem dX7_wayTo_9 : decode cX7_wayTo 9 = .ok (.iconst 0, 1) := by decide +kernel
theorem dX7_wayTo_10 : decode cX7_wayTo 10 = .ok (.ireturn, 1) := by decide +kernel
theorem dX7_wayTo_11 : decode cX7_wayTo 11 = .ok (.iload_n 2, 1) := by decide +kernel
theorem dX7_wayTo_12 : decode cX7_wayTo 12 = .ok (.iconst 1, 1) := by decide +kernel
theorem dX7_wayTo_13 : decode cX7_wayTo 13 = .ok (.if_icmp .ge 7, 3) := by decide +kernel
theorem dX7_wayTo_16 : decode cX7_wayTo 16 = .ok (.iconst 1, 1) := by decide +kernel
theorem dX7_wayTo_17 : decode cX7_wayTo 17 = .ok (.goto 4, 3) := by decide +kernel
theorem dX7_wayTo_20 : decode cX7_wayTo 20 = .ok (.iload_n 2, 1) := by decide +kernel
theorem dX7_wayTo_21 : decode cX7_wayTo 21 = .ok (.istore_n 3, 1) := by decide +kernel
theorem dX7_wayTo_22 : decode cX7_wayTo 22 = .ok (.iload_n 2, 1) := by decide +kernel
theorem dX7_wayTo_23 : decode cX7_wayTo 23 = .ok (.iconst 1, 1) := by decide +kernel
theorem dX7_wayTo_24 : decode cX7_wayTo 24 = .ok (.if_icmp .ge 7, 3) := by decide +kernel
theorem dX7_wayTo_27 : decode cX7_wayTo 27 = .ok (.iconst 1, 1) := by decide +kernel
theorem dX7_wayTo_28 : decode cX7_wayTo 28 = .ok (.goto 4, 3) := by decide +kernel
theorem dX7_wayTo_31 : decode cX7_wayTo 31 = .ok (.iconst 0, 1) := by decide +kernel
theorem dX7_wayTo_32 : decode cX7_wayTo 32 = .ok (.istore 4, 2) := by decide +kernel
theorem dX7_wayTo_34 : decode cX7_wayTo 34 = .ok (.aload_n 0, 1) := by decide +kernel
theorem dX7_wayTo_35 : decode cX7_wayTo 35 = .ok (.getfield 9, 3) := by decide +kernel
theorem dX7_wayTo_38 : decode cX7_wayTo 38 = .ok (.iload_n 1, 1) := by decide +kernel
theorem dX7_wayTo_39 : decode cX7_wayTo 39 = .ok (.iaload, 1) := by decide +kernel
theorem dX7_wayTo_40 : decode cX7_wayTo 40 = .ok (.istore 5, 2) := by decide +kernel
theorem dX7_wayTo_42 : decode cX7_wayTo 42 = .ok (.iload 5, 2) := by decide +kernel
theorem dX7_wayTo_44 : decode cX7_wayTo 44 = .ok (.iload_n 3, 1) := by decide +kernel
theorem dX7_wayTo_45 : decode cX7_wayTo 45 = .ok (.if_icmp .lt 43, 3) := by decide +kernel
theorem dX7_wayTo_48 : decode cX7_wayTo 48 = .ok (.aload_n 0, 1) := by decide +kernel
theorem dX7_wayTo_49 : decode cX7_wayTo 49 = .ok (.iload_n 1, 1) := by decide +kernel
theorem dX7_wayTo_50 : decode cX7_wayTo 50 = .ok (.iload 5, 2) := by decide +kernel
theorem dX7_wayTo_52 : decode cX7_wayTo 52 = .ok (.invokevirtual 67, 3) := by decide +kernel
theorem dX7_wayTo_55 : decode cX7_wayTo 55 = .ok (.ifCond .ne 6, 3) := by decide +kernel
theorem dX7_wayTo_58 : decode cX7_wayTo 58 = .ok (.bipush (-2), 2) := by decide +kernel
theorem dX7_wayTo_60 : decode cX7_wayTo 60 = .ok (.ireturn, 1) := by decide +kernel
theorem dX7_wayTo_61 : decode cX7_wayTo 61 = .ok (.iinc 4 1, 3) := by decide +kernel
theorem dX7_wayTo_64 : decode cX7_wayTo 64 = .ok (.iload 5, 2) := by decide +kernel
theorem dX7_wayTo_66 : decode cX7_wayTo 66 = .ok (.iload_n 3, 1) := by decide +kernel
theorem dX7_wayTo_67 : decode cX7_wayTo 67 = .ok (.if_icmp .le 15, 3) := by decide +kernel
theorem dX7_wayTo_70 : decode cX7_wayTo 70 = .ok (.iload 4, 2) := by decide +kernel
theorem dX7_wayTo_72 : decode cX7_wayTo 72 = .ok (.aload_n 0, 1) := by decide +kernel
theorem dX7_wayTo_73 : decode cX7_wayTo 73 = .ok (.iload_n 1, 1) := by decide +kernel
theorem dX7_wayTo_74 : decode cX7_wayTo 74 = .ok (.iload 5, 2) := by decide +kernel
theorem dX7_wayTo_76 : decode cX7_wayTo 76 = .ok (.invokevirtual 70, 3) := by decide +kernel
theorem dX7_wayTo_79 : decode cX7_wayTo 79 = .ok (.iadd, 1) := by decide +kernel
theorem dX7_wayTo_80 : decode cX7_wayTo 80 = .ok (.istore 4, 2) := by decide +kernel
theorem dX7_wayTo_82 : decode cX7_wayTo 82 = .ok (.iinc 5 (-1), 3) := by decide +kernel
theorem dX7_wayTo_85 : decode cX7_wayTo 85 = .ok (.goto (-43), 3) := by decide +kernel
theorem dX7_wayTo_88 : decode cX7_wayTo 88 = .ok (.iload 4, 2) := by decide +kernel
theorem dX7_wayTo_90 : decode cX7_wayTo 90 = .ok (.ireturn, 1) := by decide +kernel
theorem dX8_advance_0 : decode cX8_advance 0 = .ok (.aload_n 0, 1) := by decide +kernel
theorem dX8_advance_1 : decode cX8_advance 1 = .ok (.aload_n 0, 1) := by decide +kernel
theorem dX8_advance_2 : decode cX8_advance 2 = .ok (.getfield 25, 3) := by decide +kernel
theorem dX8_advance_5 : decode cX8_advance 5 = .ok (.putfield 28, 3) := by decide +kernel
theorem dX8_advance_8 : decode cX8_advance 8 = .ok (.aload_n 0, 1) := by decide +kernel
theorem dX8_advance_9 : decode cX8_advance 9 = .ok (.getfield 19, 3) := by decide +kernel
theorem dX8_advance_12 : decode cX8_advance 12 = .ok (.aload_n 0, 1) := by decide +kernel
theorem dX8_advance_13 : decode cX8_advance 13 = .ok (.getfield 15, 3) := by decide +kernel
theorem dX8_advance_16 : decode cX8_advance 16 = .ok (.if_icmp .ge 29, 3) := by decide +kernel
theorem dX8_advance_19 : decode cX8_advance 19 = .ok (.aload_n 0, 1) := by decide +kernel
theorem dX8_advance_20 : decode cX8_advance 20 = .ok (.aload_n 0, 1) := by decide +kernel
theorem dX8_advance_21 : decode cX8_advance 21 = .ok (.getfield 19, 3) := by decide +kernel
theorem dX8_advance_24 : decode cX8_advance 24 = .ok (.invokevirtual 31, 3) := by decide +kernel
theorem dX8_advance_27 : decode cX8_advance 27 = .ok (.bipush 32, 2) := by decide +kernel
theorem dX8_advance_29 : decode cX8_advance 29 = .ok (.if_icmp .ne 16, 3) := by decide +kernel
theorem dX8_advance_32 : decode cX8_advance 32 = .ok (.aload_n 0, 1) := by decide +kernel
theorem dX8_advance_33 : decode cX8_advance 33 = .ok (.dup, 1) := by decide +kernel
theorem dX8_advance_34 : decode cX8_advance 34 = .ok (.getfield 19, 3) := by decide +kernel
theorem dX8_advance_37 : decode cX8_advance 37 = .ok (.iconst 1, 1) := by decide +kernel
theorem dX8_advance_38 : decode cX8_advance 38 = .ok (.iadd, 1) := by decide +kernel
theorem dX8_advance_39 : decode cX8_advance 39 = .ok (.putfield 19, 3) := by decide +kernel
theorem dX8_advance_42 : decode cX8_advance 42 = .ok (.goto (-34), 3) := by decide +kernel
theorem dX8_advance_45 : decode cX8_advance 45 = .ok (.aload_n 0, 1) := by decide +kernel
theorem dX8_advance_46 : decode cX8_advance 46 = .ok (.aload_n 0, 1) := by decide +kernel
theorem dX8_advance_47 : decode cX8_advance 47 = .ok (.getfield 19, 3) := by decide +kernel
theorem dX8_advance_50 : decode cX8_advance 50 = .ok (.putfield 25, 3) := by decide +kernel
theorem dX8_advance_53 : decode cX8_advance 53 = .ok (.aload_n 0, 1) := by decide +kernel
theorem dX8_advance_54 : decode cX8_advance 54 = .ok (.aload_n 0, 1) := by decide +kernel
theorem dX8_advance_55 : decode cX8_advance 55 = .ok (.getfield 19, 3) := by decide +kernel
theorem dX8_advance_58 : decode cX8_advance 58 = .ok (.invokevirtual 31, 3) := by decide +kernel
theorem dX8_advance_61 : decode cX8_advance 61 = .ok (.istore_n 1, 1) := by decide +kernel
theorem dX8_advance_62 : decode cX8_advance 62 = .ok (.iload_n 1, 1) := by decide +kernel
theorem dX8_advance_63 : decode cX8_advance 63 = .ok (.iconst (-1), 1) := by decide +kernel
theorem dX8_advance_64 : decode cX8_advance 64 = .ok (.if_icmp .ne 11, 3) := by decide +kernel
theorem dX8_advance_67 : decode cX8_advance 67 = .ok (.aload_n 0, 1) := by decide +kernel
theorem dX8_advance_68 : decode cX8_advance 68 = .ok (.iconst 0, 1) := by decide +kernel
theorem dX8_advance_69 : decode cX8_advance 69 = .ok (.putfield 35, 3) := by decide +kernel
theorem dX8_advance_72 : decode cX8_advance 72 = .ok (.goto 67, 3) := by decide +kernel
theorem dX8_advance_75 : decode cX8_advance 75 = .ok (.iload_n 1, 1) := by decide +kernel
theorem dX8_advance_76 : decode cX8_advance 76 = .ok (.invokestatic 38, 3) := by decide +kernel
theorem dX8_advance_79 : decode cX8_advance 79 = .ok (.ifCond .eq 10, 3) := by decide +kernel
theorem dX8_advance_82 : decode cX8_advance 82 = .ok (.aload_n 0, 1) := by decide +kernel
theorem dX8_advance_83 : decode cX8_advance 83 = .ok (.invokevirtual 42, 3) := by decide +kernel
theorem dX8_advance_86 : decode cX8_advance 86 = .ok (.goto 53, 3) := by decide +kernel
theorem dX8_advance_89 : decode cX8_advance 89 = .ok (.iload_n 1, 1) := by decide +kernel
theorem dX8_advance_90 : decode cX8_advance 90 = .ok (.invokestatic 45, 3) := by decide +kernel
theorem dX8_advance_93 : decode cX8_advance 93 = .ok (.ifCond .eq 10, 3) := by decide +kernel
theorem dX8_advance_96 : decode cX8_advance 96 = .ok (.aload_n 0, 1) := by decide +kernel
theorem dX8_advance_97 : decode cX8_advance 97 = .ok (.invokevirtual 48, 3) := by decide +kernel
theorem dX8_advance_100 : decode cX8_advance 100 = .ok (.goto 39, 3) := by decide +kernel
theorem dX8_advance_103 : decode cX8_advance 103 = .ok (.aload_n 0, 1) := by decide +kernel
theorem dX8_advance_104 : decode cX8_advance 104 = .ok (.iload_n 1, 1) := by decide +kernel
theorem dX8_advance_105 : decode cX8_advance 105 = .ok (.bipush 59, 2) := by decide +kernel
theorem dX8_advance_107 : decode cX8_advance 107 = .ok (.if_icmp .eq 9, 3) := by decide +kernel
theorem dX8_advance_110 : decode cX8_advance 110 = .ok (.iload_n 1, 1) := by decide +kernel
theorem dX8_advance_111 : decode cX8_advance 111 = .ok (.bipush 44, 2) := by decide +kernel
theorem dX8_advance_113 : decode cX8_advance 113 = .ok (.if_icmp .ne 7, 3) := by decide +kernel
theorem dX8_advance_116 : decode cX8_advance 116 = .ok (.iconst 3, 1) := by decide +kernel
theorem dX8_advance_117 : decode cX8_advance 117 = .ok (.goto 4, 3) := by decide +kernel
theorem dX8_advance_120 : decode cX8_advance 120 = .ok (.iconst 4, 1) := by decide +kernel
theorem dX8_advance_121 : decode cX8_advance 121 = .ok (.putfield 35, 3) := by decide +kernel
theorem dX8_advance_124 : decode cX8_advance 124 = .ok (.aload_n 0, 1) := by decide +kernel
theorem dX8_advance_125 : decode cX8_advance 125 = .ok (.iload_n 1, 1) := by decide +kernel
theorem dX8_advance_126 : decode cX8_advance 126 = .ok (.putfield 51, 3) := by decide +kernel
theorem dX8_advance_129 : decode cX8_advance 129 = .ok (.aload_n 0, 1) := by decide +kernel
theorem dX8_advance_130 : decode cX8_advance 130 = .ok (.dup, 1) := by decide +kernel
theorem dX8_advance_131 : decode cX8_advance 131 = .ok (.getfield 19, 3) := by decide +kernel
theorem dX8_advance_134 : decode cX8_advance 134 = .ok (.iconst 1, 1) := by decide +kernel
theorem dX8_advance_135 : decode cX8_advance 135 = .ok (.iadd, 1) := by decide +kernel
theorem dX8_advance_136 : decode cX8_advance 136 = .ok (.putfield 19, 3) := by decide +kernel
theorem dX8_advance_139 : decode cX8_advance 139 = .ok (.return_, 1) := by decide +kernel
theorem dX8_begin_0 : decode cX8_begin 0 = .ok (.aload_n 0, 1) := by decide +kernel
theorem dX8_begin_1 : decode cX8_begin 1 = .ok (.aload_n 1, 1) := by decide +kernel
theorem dX8_begin_2 : decode cX8_begin 2 = .ok (.putfield 9, 3) := by decide +kernel
theorem dX8_begin_5 : decode cX8_begin 5 = .ok (.aload_n 0, 1) := by decide +kernel
theorem dX8_begin_6 : decode cX8_begin 6 = .ok (.iload_n 2, 1) := by decide +kernel
theorem dX8_begin_7 : decode cX8_begin 7 = .ok (.putfield 15, 3) := by decide +kernel
theorem dX8_begin_10 : decode cX8_begin 10 = .ok (.aload_n 0, 1) := by decide +kernel
theorem dX8_begin_11 : decode cX8_begin 11 = .ok (.iconst 0, 1) := by decide +kernel
theorem dX8_begin_12 : decode cX8_begin 12 = .ok (.putfield 19, 3) := by decide +kernel
theorem dX8_begin_15 : decode cX8_begin 15 = .ok (.aload_n 0, 1) := by decide +kernel
theorem dX8_begin_16 : decode cX8_begin 16 = .ok (.invokevirtual 22, 3) := by decide +kernel
theorem dX8_begin_19 : decode cX8_begin 19 = .ok (.return_, 1) := by decide +kernel
theorem dX8_byteAt_0 : decode cX8_byteAt 0 = .ok (.iload_n 1, 1) := by decide +kernel
theorem dX8_byteAt_1 : decode cX8_byteAt 1 = .ok (.ifCond .lt 29, 3) := by decide +kernel
theorem dX8_byteAt_4 : decode cX8_byteAt 4 = .ok (.iload_n 1, 1) := by decide +kernel
theorem dX8_byteAt_5 : decode cX8_byteAt 5 = .ok (.aload_n 0, 1) := by decide +kernel
theorem dX8_byteAt_6 : decode cX8_byteAt 6 = .ok (.getfield 15, 3) := by decide +kernel
theorem dX8_byteAt_9 : decode cX8_byteAt 9 = .ok (.if_icmp .ge 21, 3) := by decide +kernel
theorem dX8_byteAt_12 : decode cX8_byteAt 12 = .ok (.iload_n 1, 1) := by decide +kernel
theorem dX8_byteAt_13 : decode cX8_byteAt 13 = .ok (.aload_n 0, 1) := by decide +kernel
theorem dX8_byteAt_14 : decode cX8_byteAt 14 = .ok (.getfield 9, 3) := by decide +kernel
theorem dX8_byteAt_17 : decode cX8_byteAt 17 = .ok (.arraylength, 1) := by decide +kernel
theorem dX8_byteAt_18 : decode cX8_byteAt 18 = .ok (.if_icmp .ge 12, 3) := by decide +kernel
theorem dX8_byteAt_21 : decode cX8_byteAt 21 = .ok (.aload_n 0, 1) := by decide +kernel
theorem dX8_byteAt_22 : decode cX8_byteAt 22 = .ok (.getfield 9, 3) := by decide +kernel
theorem dX8_byteAt_25 : decode cX8_byteAt 25 = .ok (.iload_n 1, 1) := by decide +kernel
theorem dX8_byteAt_26 : decode cX8_byteAt 26 = .ok (.iaload, 1) := by decide +kernel
theorem dX8_byteAt_27 : decode cX8_byteAt 27 = .ok (.goto 4, 3) := by decide +kernel
theorem dX8_byteAt_30 : decode cX8_byteAt 30 = .ok (.iconst (-1), 1) := by decide +kernel
theorem dX8_byteAt_31 : decode cX8_byteAt 31 = .ok (.ireturn, 1) := by decide +kernel
theorem dX8_isDigit_0 : decode cX8_isDigit 0 = .ok (.iload_n 0, 1) := by decide +kernel
theorem dX8_isDigit_1 : decode cX8_isDigit 1 = .ok (.bipush 48, 2) := by decide +kernel
theorem dX8_isDigit_3 : decode cX8_isDigit 3 = .ok (.if_icmp .lt 13, 3) := by decide +kernel
theorem dX8_isDigit_6 : decode cX8_isDigit 6 = .ok (.iload_n 0, 1) := by decide +kernel
theorem dX8_isDigit_7 : decode cX8_isDigit 7 = .ok (.bipush 57, 2) := by decide +kernel
theorem dX8_isDigit_9 : decode cX8_isDigit 9 = .ok (.if_icmp .gt 7, 3) := by decide +kernel
theorem dX8_isDigit_12 : decode cX8_isDigit 12 = .ok (.iconst 1, 1) := by decide +kernel
theorem dX8_isDigit_13 : decode cX8_isDigit 13 = .ok (.goto 4, 3) := by decide +kernel
theorem dX8_isDigit_16 : decode cX8_isDigit 16 = .ok (.iconst 0, 1) := by decide +kernel
theorem dX8_isDigit_17 : decode cX8_isDigit 17 = .ok (.ireturn, 1) := by decide +kernel
theorem dX8_isLetter_0 : decode cX8_isLetter 0 = .ok (.iload_n 0, 1) := by decide +kernel
theorem dX8_isLetter_1 : decode cX8_isLetter 1 = .ok (.bipush 97, 2) := by decide +kernel
theorem dX8_isLetter_3 : decode cX8_isLetter 3 = .ok (.if_icmp .lt 13, 3) := by decide +kernel
theorem dX8_isLetter_6 : decode cX8_isLetter 6 = .ok (.iload_n 0, 1) := by decide +kernel
theorem dX8_isLetter_7 : decode cX8_isLetter 7 = .ok (.bipush 122, 2) := by decide +kernel
theorem dX8_isLetter_9 : decode cX8_isLetter 9 = .ok (.if_icmp .gt 7, 3) := by decide +kernel
theorem dX8_isLetter_12 : decode cX8_isLetter 12 = .ok (.iconst 1, 1) := by decide +kernel
theorem dX8_isLetter_13 : decode cX8_isLetter 13 = .ok (.goto 4, 3) := by decide +kernel
theorem dX8_isLetter_16 : decode cX8_isLetter 16 = .ok (.iconst 0, 1) := by decide +kernel
theorem dX8_isLetter_17 : decode cX8_isLetter 17 = .ok (.ireturn, 1) := by decide +kernel
theorem dX8_isWord_0 : decode cX8_isWord 0 = .ok (.aload_n 0, 1) := by decide +kernel
theorem dX8_isWord_1 : decode cX8_isWord 1 = .ok (.getfield 35, 3) := by decide +kernel
theorem dX8_isWord_4 : decode cX8_isWord 4 = .ok (.iconst 1, 1) := by decide +kernel
theorem dX8_isWord_5 : decode cX8_isWord 5 = .ok (.if_icmp .ne 19, 3) := by decide +kernel
theorem dX8_isWord_8 : decode cX8_isWord 8 = .ok (.aload_n 0, 1) := by decide +kernel
theorem dX8_isWord_9 : decode cX8_isWord 9 = .ok (.getfield 19, 3) := by decide +kernel
theorem dX8_isWord_12 : decode cX8_isWord 12 = .ok (.aload_n 0, 1) := by decide +kernel
theorem dX8_isWord_13 : decode cX8_isWord 13 = .ok (.getfield 25, 3) := by decide +kernel
theorem dX8_isWord_16 : decode cX8_isWord 16 = .ok (.isub, 1) := by decide +kernel
theorem dX8_isWord_17 : decode cX8_isWord 17 = .ok (.aload_n 1, 1) := by decide +kernel
theorem dX8_isWord_18 : decode cX8_isWord 18 = .ok (.invokevirtual 58, 3) := by decide +kernel
theorem dX8_isWord_21 : decode cX8_isWord 21 = .ok (.if_icmp .eq 5, 3) := by decide +kernel
theorem dX8_isWord_24 : decode cX8_isWord 24 = .ok (.iconst 0, 1) := by decide +kernel
theorem dX8_isWord_25 : decode cX8_isWord 25 = .ok (.ireturn, 1) := by decide +kernel
theorem dX8_isWord_26 : decode cX8_isWord 26 = .ok (.iconst 0, 1) := by decide +kernel
theorem dX8_isWord_27 : decode cX8_isWord 27 = .ok (.istore_n 2, 1) := by decide +kernel
theorem dX8_isWord_28 : decode cX8_isWord 28 = .ok (.iload_n 2, 1) := by decide +kernel
theorem dX8_isWord_29 : decode cX8_isWord 29 = .ok (.aload_n 1, 1) := by decide +kernel
theorem dX8_isWord_30 : decode cX8_isWord 30 = .ok (.invokevirtual 58, 3) := by decide +kernel
theorem dX8_isWord_33 : decode cX8_isWord 33 = .ok (.if_icmp .ge 41, 3) := by decide +kernel
theorem dX8_isWord_36 : decode cX8_isWord 36 = .ok (.aload_n 0, 1) := by decide +kernel
theorem dX8_isWord_37 : decode cX8_isWord 37 = .ok (.getfield 25, 3) := by decide +kernel
theorem dX8_isWord_40 : decode cX8_isWord 40 = .ok (.iload_n 2, 1) := by decide +kernel
theorem dX8_isWord_41 : decode cX8_isWord 41 = .ok (.iadd, 1) := by decide +kernel
theorem dX8_isWord_42 : decode cX8_isWord 42 = .ok (.istore_n 3, 1) := by decide +kernel
theorem dX8_isWord_43 : decode cX8_isWord 43 = .ok (.iload_n 3, 1) := by decide +kernel
theorem dX8_isWord_44 : decode cX8_isWord 44 = .ok (.aload_n 0, 1) := by decide +kernel
theorem dX8_isWord_45 : decode cX8_isWord 45 = .ok (.getfield 9, 3) := by decide +kernel
theorem dX8_isWord_48 : decode cX8_isWord 48 = .ok (.arraylength, 1) := by decide +kernel
theorem dX8_isWord_49 : decode cX8_isWord 49 = .ok (.if_icmp .ge 17, 3) := by decide +kernel
theorem dX8_isWord_52 : decode cX8_isWord 52 = .ok (.aload_n 0, 1) := by decide +kernel
theorem dX8_isWord_53 : decode cX8_isWord 53 = .ok (.getfield 9, 3) := by decide +kernel
theorem dX8_isWord_56 : decode cX8_isWord 56 = .ok (.iload_n 3, 1) := by decide +kernel
theorem dX8_isWord_57 : decode cX8_isWord 57 = .ok (.iaload, 1) := by decide +kernel
theorem dX8_isWord_58 : decode cX8_isWord 58 = .ok (.aload_n 1, 1) := by decide +kernel
theorem dX8_isWord_59 : decode cX8_isWord 59 = .ok (.iload_n 2, 1) := by decide +kernel
theorem dX8_isWord_60 : decode cX8_isWord 60 = .ok (.invokevirtual 64, 3) := by decide +kernel
theorem dX8_isWord_63 : decode cX8_isWord 63 = .ok (.if_icmp .eq 5, 3) := by decide +kernel
theorem dX8_isWord_66 : decode cX8_isWord 66 = .ok (.iconst 0, 1) := by decide +kernel
theorem dX8_isWord_67 : decode cX8_isWord 67 = .ok (.ireturn, 1) := by decide +kernel
theorem dX8_isWord_68 : decode cX8_isWord 68 = .ok (.iinc 2 1, 3) := by decide +kernel
theorem dX8_isWord_71 : decode cX8_isWord 71 = .ok (.goto (-43), 3) := by decide +kernel
theorem dX8_isWord_74 : decode cX8_isWord 74 = .ok (.iconst 1, 1) := by decide +kernel
theorem dX8_isWord_75 : decode cX8_isWord 75 = .ok (.ireturn, 1) := by decide +kernel
theorem dX8_takeWhole_0 : decode cX8_takeWhole 0 = .ok (.aload_n 0, 1) := by decide +kernel
theorem dX8_takeWhole_1 : decode cX8_takeWhole 1 = .ok (.iconst 0, 1) := by decide +kernel
theorem dX8_takeWhole_2 : decode cX8_takeWhole 2 = .ok (.putfield 51, 3) := by decide +kernel
theorem dX8_takeWhole_5 : decode cX8_takeWhole 5 = .ok (.aload_n 0, 1) := by decide +kernel
theorem dX8_takeWhole_6 : decode cX8_takeWhole 6 = .ok (.getfield 19, 3) := by decide +kernel
theorem dX8_takeWhole_9 : decode cX8_takeWhole 9 = .ok (.aload_n 0, 1) := by decide +kernel
theorem dX8_takeWhole_10 : decode cX8_takeWhole 10 = .ok (.getfield 15, 3) := by decide +kernel
theorem dX8_takeWhole_13 : decode cX8_takeWhole 13 = .ok (.if_icmp .ge 53, 3) := by decide +kernel
theorem dX8_takeWhole_16 : decode cX8_takeWhole 16 = .ok (.aload_n 0, 1) := by decide +kernel
theorem dX8_takeWhole_17 : decode cX8_takeWhole 17 = .ok (.aload_n 0, 1) := by decide +kernel
theorem dX8_takeWhole_18 : decode cX8_takeWhole 18 = .ok (.getfield 19, 3) := by decide +kernel
theorem dX8_takeWhole_21 : decode cX8_takeWhole 21 = .ok (.invokevirtual 31, 3) := by decide +kernel
theorem dX8_takeWhole_24 : decode cX8_takeWhole 24 = .ok (.invokestatic 45, 3) := by decide +kernel
theorem dX8_takeWhole_27 : decode cX8_takeWhole 27 = .ok (.ifCond .eq 39, 3) := by decide +kernel
theorem dX8_takeWhole_30 : decode cX8_takeWhole 30 = .ok (.aload_n 0, 1) := by decide +kernel
theorem dX8_takeWhole_31 : decode cX8_takeWhole 31 = .ok (.aload_n 0, 1) := by decide +kernel
theorem dX8_takeWhole_32 : decode cX8_takeWhole 32 = .ok (.getfield 51, 3) := by decide +kernel
theorem dX8_takeWhole_35 : decode cX8_takeWhole 35 = .ok (.bipush 10, 2) := by decide +kernel
theorem dX8_takeWhole_37 : decode cX8_takeWhole 37 = .ok (.imul, 1) := by decide +kernel
theorem dX8_takeWhole_38 : decode cX8_takeWhole 38 = .ok (.aload_n 0, 1) := by decide +kernel
theorem dX8_takeWhole_39 : decode cX8_takeWhole 39 = .ok (.aload_n 0, 1) := by decide +kernel
theorem dX8_takeWhole_40 : decode cX8_takeWhole 40 = .ok (.getfield 19, 3) := by decide +kernel
theorem dX8_takeWhole_43 : decode cX8_takeWhole 43 = .ok (.invokevirtual 31, 3) := by decide +kernel
theorem dX8_takeWhole_46 : decode cX8_takeWhole 46 = .ok (.iadd, 1) := by decide +kernel
theorem dX8_takeWhole_47 : decode cX8_takeWhole 47 = .ok (.bipush 48, 2) := by decide +kernel
theorem dX8_takeWhole_49 : decode cX8_takeWhole 49 = .ok (.isub, 1) := by decide +kernel
theorem dX8_takeWhole_50 : decode cX8_takeWhole 50 = .ok (.putfield 51, 3) := by decide +kernel
theorem dX8_takeWhole_53 : decode cX8_takeWhole 53 = .ok (.aload_n 0, 1) := by decide +kernel
theorem dX8_takeWhole_54 : decode cX8_takeWhole 54 = .ok (.dup, 1) := by decide +kernel
theorem dX8_takeWhole_55 : decode cX8_takeWhole 55 = .ok (.getfield 19, 3) := by decide +kernel
theorem dX8_takeWhole_58 : decode cX8_takeWhole 58 = .ok (.iconst 1, 1) := by decide +kernel
theorem dX8_takeWhole_59 : decode cX8_takeWhole 59 = .ok (.iadd, 1) := by decide +kernel
theorem dX8_takeWhole_60 : decode cX8_takeWhole 60 = .ok (.putfield 19, 3) := by decide +kernel
theorem dX8_takeWhole_63 : decode cX8_takeWhole 63 = .ok (.goto (-58), 3) := by decide +kernel
theorem dX8_takeWhole_66 : decode cX8_takeWhole 66 = .ok (.aload_n 0, 1) := by decide +kernel
theorem dX8_takeWhole_67 : decode cX8_takeWhole 67 = .ok (.aload_n 0, 1) := by decide +kernel
theorem dX8_takeWhole_68 : decode cX8_takeWhole 68 = .ok (.getfield 19, 3) := by decide +kernel
theorem dX8_takeWhole_71 : decode cX8_takeWhole 71 = .ok (.aload_n 0, 1) := by decide +kernel
theorem dX8_takeWhole_72 : decode cX8_takeWhole 72 = .ok (.getfield 25, 3) := by decide +kernel
theorem dX8_takeWhole_75 : decode cX8_takeWhole 75 = .ok (.isub, 1) := by decide +kernel
theorem dX8_takeWhole_76 : decode cX8_takeWhole 76 = .ok (.iconst 3, 1) := by decide +kernel
theorem dX8_takeWhole_77 : decode cX8_takeWhole 77 = .ok (.if_icmp .le 7, 3) := by decide +kernel
theorem dX8_takeWhole_80 : decode cX8_takeWhole 80 = .ok (.iconst 4, 1) := by decide +kernel
theorem dX8_takeWhole_81 : decode cX8_takeWhole 81 = .ok (.goto 4, 3) := by decide +kernel
theorem dX8_takeWhole_84 : decode cX8_takeWhole 84 = .ok (.iconst 2, 1) := by decide +kernel
theorem dX8_takeWhole_85 : decode cX8_takeWhole 85 = .ok (.putfield 35, 3) := by decide +kernel
theorem dX8_takeWhole_88 : decode cX8_takeWhole 88 = .ok (.return_, 1) := by decide +kernel
theorem dX8_takeWord_0 : decode cX8_takeWord 0 = .ok (.aload_n 0, 1) := by decide +kernel
theorem dX8_takeWord_1 : decode cX8_takeWord 1 = .ok (.lconst 0, 1) := by decide +kernel
theorem dX8_takeWord_2 : decode cX8_takeWord 2 = .ok (.putfield 54, 3) := by decide +kernel
theorem dX8_takeWord_5 : decode cX8_takeWord 5 = .ok (.aload_n 0, 1) := by decide +kernel
theorem dX8_takeWord_6 : decode cX8_takeWord 6 = .ok (.getfield 19, 3) := by decide +kernel
theorem dX8_takeWord_9 : decode cX8_takeWord 9 = .ok (.aload_n 0, 1) := by decide +kernel
theorem dX8_takeWord_10 : decode cX8_takeWord 10 = .ok (.getfield 15, 3) := by decide +kernel
theorem dX8_takeWord_13 : decode cX8_takeWord 13 = .ok (.if_icmp .ge 55, 3) := by decide +kernel
theorem dX8_takeWord_16 : decode cX8_takeWord 16 = .ok (.aload_n 0, 1) := by decide +kernel
theorem dX8_takeWord_17 : decode cX8_takeWord 17 = .ok (.aload_n 0, 1) := by decide +kernel
theorem dX8_takeWord_18 : decode cX8_takeWord 18 = .ok (.getfield 19, 3) := by decide +kernel
theorem dX8_takeWord_21 : decode cX8_takeWord 21 = .ok (.invokevirtual 31, 3) := by decide +kernel
theorem dX8_takeWord_24 : decode cX8_takeWord 24 = .ok (.invokestatic 38, 3) := by decide +kernel
theorem dX8_takeWord_27 : decode cX8_takeWord 27 = .ok (.ifCond .eq 41, 3) := by decide +kernel
theorem dX8_takeWord_30 : decode cX8_takeWord 30 = .ok (.aload_n 0, 1) := by decide +kernel
theorem dX8_takeWord_31 : decode cX8_takeWord 31 = .ok (.aload_n 0, 1) := by decide +kernel
theorem dX8_takeWord_32 : decode cX8_takeWord 32 = .ok (.getfield 54, 3) := by decide +kernel
theorem dX8_takeWord_35 : decode cX8_takeWord 35 = .ok (.iconst 5, 1) := by decide +kernel
theorem dX8_takeWord_36 : decode cX8_takeWord 36 = .ok (.lshl, 1) := by decide +kernel
theorem dX8_takeWord_37 : decode cX8_takeWord 37 = .ok (.aload_n 0, 1) := by decide +kernel
theorem dX8_takeWord_38 : decode cX8_takeWord 38 = .ok (.aload_n 0, 1) := by decide +kernel
theorem dX8_takeWord_39 : decode cX8_takeWord 39 = .ok (.getfield 19, 3) := by decide +kernel
theorem dX8_takeWord_42 : decode cX8_takeWord 42 = .ok (.invokevirtual 31, 3) := by decide +kernel
theorem dX8_takeWord_45 : decode cX8_takeWord 45 = .ok (.bipush 97, 2) := by decide +kernel
theorem dX8_takeWord_47 : decode cX8_takeWord 47 = .ok (.isub, 1) := by decide +kernel
theorem dX8_takeWord_48 : decode cX8_takeWord 48 = .ok (.iconst 1, 1) := by decide +kernel
theorem dX8_takeWord_49 : decode cX8_takeWord 49 = .ok (.iadd, 1) := by decide +kernel
theorem dX8_takeWord_50 : decode cX8_takeWord 50 = .ok (.i2l, 1) := by decide +kernel
theorem dX8_takeWord_51 : decode cX8_takeWord 51 = .ok (.lor, 1) := by decide +kernel
theorem dX8_takeWord_52 : decode cX8_takeWord 52 = .ok (.putfield 54, 3) := by decide +kernel
theorem dX8_takeWord_55 : decode cX8_takeWord 55 = .ok (.aload_n 0, 1) := by decide +kernel
theorem dX8_takeWord_56 : decode cX8_takeWord 56 = .ok (.dup, 1) := by decide +kernel
theorem dX8_takeWord_57 : decode cX8_takeWord 57 = .ok (.getfield 19, 3) := by decide +kernel
theorem dX8_takeWord_60 : decode cX8_takeWord 60 = .ok (.iconst 1, 1) := by decide +kernel
theorem dX8_takeWord_61 : decode cX8_takeWord 61 = .ok (.iadd, 1) := by decide +kernel
theorem dX8_takeWord_62 : decode cX8_takeWord 62 = .ok (.putfield 19, 3) := by decide +kernel
theorem dX8_takeWord_65 : decode cX8_takeWord 65 = .ok (.goto (-60), 3) := by decide +kernel
theorem dX8_takeWord_68 : decode cX8_takeWord 68 = .ok (.aload_n 0, 1) := by decide +kernel
theorem dX8_takeWord_69 : decode cX8_takeWord 69 = .ok (.aload_n 0, 1) := by decide +kernel
theorem dX8_takeWord_70 : decode cX8_takeWord 70 = .ok (.getfield 19, 3) := by decide +kernel
theorem dX8_takeWord_73 : decode cX8_takeWord 73 = .ok (.aload_n 0, 1) := by decide +kernel
theorem dX8_takeWord_74 : decode cX8_takeWord 74 = .ok (.getfield 25, 3) := by decide +kernel
theorem dX8_takeWord_77 : decode cX8_takeWord 77 = .ok (.isub, 1) := by decide +kernel
theorem dX8_takeWord_78 : decode cX8_takeWord 78 = .ok (.bipush 8, 2) := by decide +kernel
theorem dX8_takeWord_80 : decode cX8_takeWord 80 = .ok (.if_icmp .le 7, 3) := by decide +kernel
theorem dX8_takeWord_83 : decode cX8_takeWord 83 = .ok (.iconst 4, 1) := by decide +kernel
theorem dX8_takeWord_84 : decode cX8_takeWord 84 = .ok (.goto 4, 3) := by decide +kernel
theorem dX8_takeWord_87 : decode cX8_takeWord 87 = .ok (.iconst 1, 1) := by decide +kernel
theorem dX8_takeWord_88 : decode cX8_takeWord 88 = .ok (.putfield 35, 3) := by decide +kernel
theorem dX8_takeWord_91 : decode cX8_takeWord 91 = .ok (.return_, 1) := by decide +kernel
theorem dX9_canBe_0 : decode cX9_canBe 0 = .ok (.iconst 0, 1) := by decide +kernel
theorem dX9_canBe_1 : decode cX9_canBe 1 = .ok (.istore_n 3, 1) := by decide +kernel
theorem dX9_canBe_2 : decode cX9_canBe 2 = .ok (.iconst 0, 1) := by decide +kernel
theorem dX9_canBe_3 : decode cX9_canBe 3 = .ok (.istore 4, 2) := by decide +kernel
theorem dX9_canBe_5 : decode cX9_canBe 5 = .ok (.iconst 0, 1) := by decide +kernel
theorem dX9_canBe_6 : decode cX9_canBe 6 = .ok (.istore 5, 2) := by decide +kernel
theorem dX9_canBe_8 : decode cX9_canBe 8 = .ok (.iload 5, 2) := by decide +kernel
theorem dX9_canBe_10 : decode cX9_canBe 10 = .ok (.aload_n 1, 1) := by decide +kernel
theorem dX9_canBe_11 : decode cX9_canBe 11 = .ok (.getfield 31, 3) := by decide +kernel
theorem dX9_canBe_14 : decode cX9_canBe 14 = .ok (.if_icmp .ge 84, 3) := by decide +kernel
theorem dX9_canBe_17 : decode cX9_canBe 17 = .ok (.aload_n 0, 1) := by decide +kernel
theorem dX9_canBe_18 : decode cX9_canBe 18 = .ok (.getfield 9, 3) := by decide +kernel
theorem dX9_canBe_21 : decode cX9_canBe 21 = .ok (.iload 5, 2) := by decide +kernel
theorem dX9_canBe_23 : decode cX9_canBe 23 = .ok (.iaload, 1) := by decide +kernel
theorem dX9_canBe_24 : decode cX9_canBe 24 = .ok (.istore 6, 2) := by decide +kernel
theorem dX9_canBe_26 : decode cX9_canBe 26 = .ok (.aload_n 1, 1) := by decide +kernel
theorem dX9_canBe_27 : decode cX9_canBe 27 = .ok (.getfield 56, 3) := by decide +kernel
theorem dX9_canBe_30 : decode cX9_canBe 30 = .ok (.iload 6, 2) := by decide +kernel
theorem dX9_canBe_32 : decode cX9_canBe 32 = .ok (.iaload, 1) := by decide +kernel
theorem dX9_canBe_33 : decode cX9_canBe 33 = .ok (.iload_n 3, 1) := by decide +kernel
theorem dX9_canBe_34 : decode cX9_canBe 34 = .ok (.iconst (-1), 1) := by decide +kernel
theorem dX9_canBe_35 : decode cX9_canBe 35 = .ok (.ixor, 1) := by decide +kernel
theorem dX9_canBe_36 : decode cX9_canBe 36 = .ok (.iand, 1) := by decide +kernel
theorem dX9_canBe_37 : decode cX9_canBe 37 = .ok (.ifCond .eq 5, 3) := by decide +kernel
theorem dX9_canBe_40 : decode cX9_canBe 40 = .ok (.iconst 0, 1) := by decide +kernel
theorem dX9_canBe_41 : decode cX9_canBe 41 = .ok (.ireturn, 1) := by decide +kernel
theorem dX9_canBe_42 : decode cX9_canBe 42 = .ok (.iload 4, 2) := by decide +kernel
theorem dX9_canBe_44 : decode cX9_canBe 44 = .ok (.aload_n 1, 1) := by decide +kernel
theorem dX9_canBe_45 : decode cX9_canBe 45 = .ok (.getfield 59, 3) := by decide +kernel
theorem dX9_canBe_48 : decode cX9_canBe 48 = .ok (.iload 6, 2) := by decide +kernel
theorem dX9_canBe_50 : decode cX9_canBe 50 = .ok (.iaload, 1) := by decide +kernel
theorem dX9_canBe_51 : decode cX9_canBe 51 = .ok (.invokestatic 62, 3) := by decide +kernel
theorem dX9_canBe_54 : decode cX9_canBe 54 = .ok (.istore 7, 2) := by decide +kernel
theorem dX9_canBe_56 : decode cX9_canBe 56 = .ok (.iload 7, 2) := by decide +kernel
theorem dX9_canBe_58 : decode cX9_canBe 58 = .ok (.aload_n 1, 1) := by decide +kernel
theorem dX9_canBe_59 : decode cX9_canBe 59 = .ok (.iload_n 2, 1) := by decide +kernel
theorem dX9_canBe_60 : decode cX9_canBe 60 = .ok (.iload 6, 2) := by decide +kernel
theorem dX9_canBe_62 : decode cX9_canBe 62 = .ok (.invokestatic 68, 3) := by decide +kernel
theorem dX9_canBe_65 : decode cX9_canBe 65 = .ok (.if_icmp .le 5, 3) := by decide +kernel
theorem dX9_canBe_68 : decode cX9_canBe 68 = .ok (.iconst 0, 1) := by decide +kernel
theorem dX9_canBe_69 : decode cX9_canBe 69 = .ok (.ireturn, 1) := by decide +kernel
theorem dX9_canBe_70 : decode cX9_canBe 70 = .ok (.aload_n 0, 1) := by decide +kernel
theorem dX9_canBe_71 : decode cX9_canBe 71 = .ok (.getfield 15, 3) := by decide +kernel
theorem dX9_canBe_74 : decode cX9_canBe 74 = .ok (.iload 5, 2) := by decide +kernel
theorem dX9_canBe_76 : decode cX9_canBe 76 = .ok (.iload 7, 2) := by decide +kernel
theorem dX9_canBe_78 : decode cX9_canBe 78 = .ok (.iastore, 1) := by decide +kernel
theorem dX9_canBe_79 : decode cX9_canBe 79 = .ok (.iload 7, 2) := by decide +kernel
theorem dX9_canBe_81 : decode cX9_canBe 81 = .ok (.iconst 1, 1) := by decide +kernel
theorem dX9_canBe_82 : decode cX9_canBe 82 = .ok (.iadd, 1) := by decide +kernel
theorem dX9_canBe_83 : decode cX9_canBe 83 = .ok (.istore 4, 2) := by decide +kernel
theorem dX9_canBe_85 : decode cX9_canBe 85 = .ok (.iload_n 3, 1) := by decide +kernel
theorem dX9_canBe_86 : decode cX9_canBe 86 = .ok (.iconst 1, 1) := by decide +kernel
theorem dX9_canBe_87 : decode cX9_canBe 87 = .ok (.iload 6, 2) := by decide +kernel
theorem dX9_canBe_89 : decode cX9_canBe 89 = .ok (.ishl, 1) := by decide +kernel
theorem dX9_canBe_90 : decode cX9_canBe 90 = .ok (.ior, 1) := by decide +kernel
theorem dX9_canBe_91 : decode cX9_canBe 91 = .ok (.istore_n 3, 1) := by decide +kernel
theorem dX9_canBe_92 : decode cX9_canBe 92 = .ok (.iinc 5 1, 3) := by decide +kernel
theorem dX9_canBe_95 : decode cX9_canBe 95 = .ok (.goto (-87), 3) := by decide +kernel
theorem dX9_canBe_98 : decode cX9_canBe 98 = .ok (.iconst 1, 1) := by decide +kernel
theorem dX9_canBe_99 : decode cX9_canBe 99 = .ok (.ireturn, 1) := by decide +kernel
theorem dX9_lastFor_0 : decode cX9_lastFor 0 = .ok (.iload_n 1, 1) := by decide +kernel
theorem dX9_lastFor_1 : decode cX9_lastFor 1 = .ok (.iconst 1, 1) := by decide +kernel
theorem dX9_lastFor_2 : decode cX9_lastFor 2 = .ok (.isub, 1) := by decide +kernel
theorem dX9_lastFor_3 : decode cX9_lastFor 3 = .ok (.istore_n 3, 1) := by decide +kernel
theorem dX9_lastFor_4 : decode cX9_lastFor 4 = .ok (.aload_n 0, 1) := by decide +kernel
theorem dX9_lastFor_5 : decode cX9_lastFor 5 = .ok (.getfield 72, 3) := by decide +kernel
theorem dX9_lastFor_8 : decode cX9_lastFor 8 = .ok (.iload_n 2, 1) := by decide +kernel
theorem dX9_lastFor_9 : decode cX9_lastFor 9 = .ok (.iaload, 1) := by decide +kernel
theorem dX9_lastFor_10 : decode cX9_lastFor 10 = .ok (.iconst (-1), 1) := by decide +kernel
theorem dX9_lastFor_11 : decode cX9_lastFor 11 = .ok (.if_icmp .ne 7, 3) := by decide +kernel
theorem dX9_lastFor_14 : decode cX9_lastFor 14 = .ok (.iload_n 3, 1) := by decide +kernel
theorem dX9_lastFor_15 : decode cX9_lastFor 15 = .ok (.goto 15, 3) := by decide +kernel
theorem dX9_lastFor_18 : decode cX9_lastFor 18 = .ok (.iload_n 3, 1) := by decide +kernel
theorem dX9_lastFor_19 : decode cX9_lastFor 19 = .ok (.aload_n 0, 1) := by decide +kernel
theorem dX9_lastFor_20 : decode cX9_lastFor 20 = .ok (.getfield 72, 3) := by decide +kernel
theorem dX9_lastFor_23 : decode cX9_lastFor 23 = .ok (.iload_n 2, 1) := by decide +kernel
theorem dX9_lastFor_24 : decode cX9_lastFor 24 = .ok (.iaload, 1) := by decide +kernel
theorem dX9_lastFor_25 : decode cX9_lastFor 25 = .ok (.iconst 1, 1) := by decide +kernel
theorem dX9_lastFor_26 : decode cX9_lastFor 26 = .ok (.isub, 1) := by decide +kernel
theorem dX9_lastFor_27 : decode cX9_lastFor 27 = .ok (.invokestatic 75, 3) := by decide +kernel
theorem dX9_lastFor_30 : decode cX9_lastFor 30 = .ok (.ireturn, 1) := by decide +kernel
theorem dX9_lookAtAll_0 : decode cX9_lookAtAll 0 = .ok (.aload_n 0, 1) := by decide +kernel
theorem dX9_lookAtAll_1 : decode cX9_lookAtAll 1 = .ok (.iconst 0, 1) := by decide +kernel
theorem dX9_lookAtAll_2 : decode cX9_lookAtAll 2 = .ok (.putfield 27, 3) := by decide +kernel
theorem dX9_lookAtAll_5 : decode cX9_lookAtAll 5 = .ok (.iconst 0, 1) := by decide +kernel
theorem dX9_lookAtAll_6 : decode cX9_lookAtAll 6 = .ok (.istore_n 3, 1) := by decide +kernel
theorem dX9_lookAtAll_7 : decode cX9_lookAtAll 7 = .ok (.iload_n 3, 1) := by decide +kernel
theorem dX9_lookAtAll_8 : decode cX9_lookAtAll 8 = .ok (.bipush 6, 2) := by decide +kernel
theorem dX9_lookAtAll_10 : decode cX9_lookAtAll 10 = .ok (.if_icmp .ge 32, 3) := by decide +kernel
theorem dX9_lookAtAll_13 : decode cX9_lookAtAll 13 = .ok (.aload_n 0, 1) := by decide +kernel
theorem dX9_lookAtAll_14 : decode cX9_lookAtAll 14 = .ok (.getfield 18, 3) := by decide +kernel
theorem dX9_lookAtAll_17 : decode cX9_lookAtAll 17 = .ok (.iload_n 3, 1) := by decide +kernel
theorem dX9_lookAtAll_18 : decode cX9_lookAtAll 18 = .ok (.sipush 999, 3) := by decide +kernel
theorem dX9_lookAtAll_21 : decode cX9_lookAtAll 21 = .ok (.iastore, 1) := by decide +kernel
theorem dX9_lookAtAll_22 : decode cX9_lookAtAll 22 = .ok (.aload_n 0, 1) := by decide +kernel
theorem dX9_lookAtAll_23 : decode cX9_lookAtAll 23 = .ok (.getfield 21, 3) := by decide +kernel
theorem dX9_lookAtAll_26 : decode cX9_lookAtAll 26 = .ok (.iload_n 3, 1) := by decide +kernel
theorem dX9_lookAtAll_27 : decode cX9_lookAtAll 27 = .ok (.iconst 0, 1) := by decide +kernel
theorem dX9_lookAtAll_28 : decode cX9_lookAtAll 28 = .ok (.iastore, 1) := by decide +kernel
theorem dX9_lookAtAll_29 : decode cX9_lookAtAll 29 = .ok (.aload_n 0, 1) := by decide +kernel
theorem dX9_lookAtAll_30 : decode cX9_lookAtAll 30 = .ok (.getfield 24, 3) := by decide +kernel
theorem dX9_lookAtAll_33 : decode cX9_lookAtAll 33 = .ok (.iload_n 3, 1) := by decide +kernel
theorem dX9_lookAtAll_34 : decode cX9_lookAtAll 34 = .ok (.iconst (-1), 1) := by decide +kernel
theorem dX9_lookAtAll_35 : decode cX9_lookAtAll 35 = .ok (.iastore, 1) := by decide +kernel
theorem dX9_lookAtAll_36 : decode cX9_lookAtAll 36 = .ok (.iinc 3 1, 3) := by decide +kernel
theorem dX9_lookAtAll_39 : decode cX9_lookAtAll 39 = .ok (.goto (-32), 3) := by decide +kernel
theorem dX9_lookAtAll_42 : decode cX9_lookAtAll 42 = .ok (.aload_n 0, 1) := by decide +kernel
theorem dX9_lookAtAll_43 : decode cX9_lookAtAll 43 = .ok (.getfield 9, 3) := by decide +kernel
theorem dX9_lookAtAll_46 : decode cX9_lookAtAll 46 = .ok (.aload_n 1, 1) := by decide +kernel
theorem dX9_lookAtAll_47 : decode cX9_lookAtAll 47 = .ok (.getfield 31, 3) := by decide +kernel
theorem dX9_lookAtAll_50 : decode cX9_lookAtAll 50 = .ok (.invokestatic 36, 3) := by decide +kernel
theorem dX9_lookAtAll_53 : decode cX9_lookAtAll 53 = .ok (.iconst 0, 1) := by decide +kernel
theorem dX9_lookAtAll_54 : decode cX9_lookAtAll 54 = .ok (.istore_n 3, 1) := by decide +kernel
theorem dX9_lookAtAll_55 : decode cX9_lookAtAll 55 = .ok (.iload_n 3, 1) := by decide +kernel
theorem dX9_lookAtAll_56 : decode cX9_lookAtAll 56 = .ok (.getstatic 42, 3) := by decide +kernel
theorem dX9_lookAtAll_59 : decode cX9_lookAtAll 59 = .ok (.aload_n 1, 1) := by decide +kernel
theorem dX9_lookAtAll_60 : decode cX9_lookAtAll 60 = .ok (.getfield 31, 3) := by decide +kernel
theorem dX9_lookAtAll_63 : decode cX9_lookAtAll 63 = .ok (.iaload, 1) := by decide +kernel
theorem dX9_lookAtAll_64 : decode cX9_lookAtAll 64 = .ok (.if_icmp .ge 45, 3) := by decide +kernel
theorem dX9_lookAtAll_67 : decode cX9_lookAtAll 67 = .ok (.aload_n 0, 1) := by decide +kernel
theorem dX9_lookAtAll_68 : decode cX9_lookAtAll 68 = .ok (.aload_n 1, 1) := by decide +kernel
theorem dX9_lookAtAll_69 : decode cX9_lookAtAll 69 = .ok (.iload_n 2, 1) := by decide +kernel
theorem dX9_lookAtAll_70 : decode cX9_lookAtAll 70 = .ok (.invokevirtual 45, 3) := by decide +kernel
theorem dX9_lookAtAll_73 : decode cX9_lookAtAll 73 = .ok (.ifCond .eq 19, 3) := by decide +kernel
theorem dX9_lookAtAll_76 : decode cX9_lookAtAll 76 = .ok (.aload_n 0, 1) := by decide +kernel
theorem dX9_lookAtAll_77 : decode cX9_lookAtAll 77 = .ok (.dup, 1) := by decide +kernel
theorem dX9_lookAtAll_78 : decode cX9_lookAtAll 78 = .ok (.getfield 27, 3) := by decide +kernel
theorem dX9_lookAtAll_81 : decode cX9_lookAtAll 81 = .ok (.iconst 1, 1) := by decide +kernel
theorem dX9_lookAtAll_82 : decode cX9_lookAtAll 82 = .ok (.iadd, 1) := by decide +kernel
theorem dX9_lookAtAll_83 : decode cX9_lookAtAll 83 = .ok (.putfield 27, 3) := by decide +kernel
theorem dX9_lookAtAll_86 : decode cX9_lookAtAll 86 = .ok (.aload_n 0, 1) := by decide +kernel
theorem dX9_lookAtAll_87 : decode cX9_lookAtAll 87 = .ok (.aload_n 1, 1) := by decide +kernel
theorem dX9_lookAtAll_88 : decode cX9_lookAtAll 88 = .ok (.iload_n 2, 1) := by decide +kernel
theorem dX9_lookAtAll_89 : decode cX9_lookAtAll 89 = .ok (.invokevirtual 49, 3) := by decide +kernel
theorem dX9_lookAtAll_92 : decode cX9_lookAtAll 92 = .ok (.aload_n 0, 1) := by decide +kernel
theorem dX9_lookAtAll_93 : decode cX9_lookAtAll 93 = .ok (.getfield 9, 3) := by decide +kernel
theorem dX9_lookAtAll_96 : decode cX9_lookAtAll 96 = .ok (.aload_n 1, 1) := by decide +kernel
theorem dX9_lookAtAll_97 : decode cX9_lookAtAll 97 = .ok (.getfield 31, 3) := by decide +kernel
theorem dX9_lookAtAll_100 : decode cX9_lookAtAll 100 = .ok (.invokestatic 53, 3) := by decide +kernel
theorem dX9_lookAtAll_103 : decode cX9_lookAtAll 103 = .ok (.iinc 3 1, 3) := by decide +kernel
theorem dX9_lookAtAll_106 : decode cX9_lookAtAll 106 = .ok (.goto (-51), 3) := by decide +kernel
theorem dX9_lookAtAll_109 : decode cX9_lookAtAll 109 = .ok (.return_, 1) := by decide +kernel
theorem dX9_noteRow_0 : decode cX9_noteRow 0 = .ok (.iconst 0, 1) := by decide +kernel
theorem dX9_noteRow_1 : decode cX9_noteRow 1 = .ok (.istore_n 3, 1) := by decide +kernel
theorem dX9_noteRow_2 : decode cX9_noteRow 2 = .ok (.iconst 0, 1) := by decide +kernel
theorem dX9_noteRow_3 : decode cX9_noteRow 3 = .ok (.istore 4, 2) := by decide +kernel
theorem dX9_noteRow_5 : decode cX9_noteRow 5 = .ok (.iload 4, 2) := by decide +kernel
theorem dX9_noteRow_7 : decode cX9_noteRow 7 = .ok (.aload_n 1, 1) := by decide +kernel
theorem dX9_noteRow_8 : decode cX9_noteRow 8 = .ok (.getfield 31, 3) := by decide +kernel
theorem dX9_noteRow_11 : decode cX9_noteRow 11 = .ok (.if_icmp .ge 60, 3) := by decide +kernel
theorem dX9_noteRow_14 : decode cX9_noteRow 14 = .ok (.aload_n 0, 1) := by decide +kernel
theorem dX9_noteRow_15 : decode cX9_noteRow 15 = .ok (.getfield 9, 3) := by decide +kernel
theorem dX9_noteRow_18 : decode cX9_noteRow 18 = .ok (.iload 4, 2) := by decide +kernel
theorem dX9_noteRow_20 : decode cX9_noteRow 20 = .ok (.iaload, 1) := by decide +kernel
theorem dX9_noteRow_21 : decode cX9_noteRow 21 = .ok (.istore 5, 2) := by decide +kernel
theorem dX9_noteRow_23 : decode cX9_noteRow 23 = .ok (.aload_n 0, 1) := by decide +kernel
theorem dX9_noteRow_24 : decode cX9_noteRow 24 = .ok (.getfield 18, 3) := by decide +kernel
theorem dX9_noteRow_27 : decode cX9_noteRow 27 = .ok (.iload 5, 2) := by decide +kernel
theorem dX9_noteRow_29 : decode cX9_noteRow 29 = .ok (.aload_n 0, 1) := by decide +kernel
theorem dX9_noteRow_30 : decode cX9_noteRow 30 = .ok (.getfield 18, 3) := by decide +kernel
theorem dX9_noteRow_33 : decode cX9_noteRow 33 = .ok (.iload 5, 2) := by decide +kernel
theorem dX9_noteRow_35 : decode cX9_noteRow 35 = .ok (.iaload, 1) := by decide +kernel
theorem dX9_noteRow_36 : decode cX9_noteRow 36 = .ok (.aload_n 0, 1) := by decide +kernel
theorem dX9_noteRow_37 : decode cX9_noteRow 37 = .ok (.getfield 15, 3) := by decide +kernel
theorem dX9_noteRow_40 : decode cX9_noteRow 40 = .ok (.iload 4, 2) := by decide +kernel
theorem dX9_noteRow_42 : decode cX9_noteRow 42 = .ok (.iaload, 1) := by decide +kernel
theorem dX9_noteRow_43 : decode cX9_noteRow 43 = .ok (.invokestatic 75, 3) := by decide +kernel
theorem dX9_noteRow_46 : decode cX9_noteRow 46 = .ok (.iastore, 1) := by decide +kernel
theorem dX9_noteRow_47 : decode cX9_noteRow 47 = .ok (.aload_n 0, 1) := by decide +kernel
theorem dX9_noteRow_48 : decode cX9_noteRow 48 = .ok (.getfield 24, 3) := by decide +kernel
theorem dX9_noteRow_51 : decode cX9_noteRow 51 = .ok (.iload 5, 2) := by decide +kernel
theorem dX9_noteRow_53 : decode cX9_noteRow 53 = .ok (.dup2, 1) := by decide +kernel
theorem dX9_noteRow_54 : decode cX9_noteRow 54 = .ok (.iaload, 1) := by decide +kernel
theorem dX9_noteRow_55 : decode cX9_noteRow 55 = .ok (.iload_n 3, 1) := by decide +kernel
theorem dX9_noteRow_56 : decode cX9_noteRow 56 = .ok (.iand, 1) := by decide +kernel
theorem dX9_noteRow_57 : decode cX9_noteRow 57 = .ok (.iastore, 1) := by decide +kernel
theorem dX9_noteRow_58 : decode cX9_noteRow 58 = .ok (.iload_n 3, 1) := by decide +kernel
theorem dX9_noteRow_59 : decode cX9_noteRow 59 = .ok (.iconst 1, 1) := by decide +kernel
theorem dX9_noteRow_60 : decode cX9_noteRow 60 = .ok (.iload 5, 2) := by decide +kernel
theorem dX9_noteRow_62 : decode cX9_noteRow 62 = .ok (.ishl, 1) := by decide +kernel
theorem dX9_noteRow_63 : decode cX9_noteRow 63 = .ok (.ior, 1) := by decide +kernel
theorem dX9_noteRow_64 : decode cX9_noteRow 64 = .ok (.istore_n 3, 1) := by decide +kernel
theorem dX9_noteRow_65 : decode cX9_noteRow 65 = .ok (.iinc 4 1, 3) := by decide +kernel
theorem dX9_noteRow_68 : decode cX9_noteRow 68 = .ok (.goto (-63), 3) := by decide +kernel
theorem dX9_noteRow_71 : decode cX9_noteRow 71 = .ok (.iload_n 2, 1) := by decide +kernel
theorem dX9_noteRow_72 : decode cX9_noteRow 72 = .ok (.istore 4, 2) := by decide +kernel
theorem dX9_noteRow_74 : decode cX9_noteRow 74 = .ok (.aload_n 1, 1) := by decide +kernel
theorem dX9_noteRow_75 : decode cX9_noteRow 75 = .ok (.getfield 31, 3) := by decide +kernel
theorem dX9_noteRow_78 : decode cX9_noteRow 78 = .ok (.iconst 1, 1) := by decide +kernel
theorem dX9_noteRow_79 : decode cX9_noteRow 79 = .ok (.isub, 1) := by decide +kernel
theorem dX9_noteRow_80 : decode cX9_noteRow 80 = .ok (.istore 5, 2) := by decide +kernel
theorem dX9_noteRow_82 : decode cX9_noteRow 82 = .ok (.iload 5, 2) := by decide +kernel
theorem dX9_noteRow_84 : decode cX9_noteRow 84 = .ok (.ifCond .lt 53, 3) := by decide +kernel
theorem dX9_noteRow_87 : decode cX9_noteRow 87 = .ok (.aload_n 0, 1) := by decide +kernel
theorem dX9_noteRow_88 : decode cX9_noteRow 88 = .ok (.getfield 9, 3) := by decide +kernel
theorem dX9_noteRow_91 : decode cX9_noteRow 91 = .ok (.iload 5, 2) := by decide +kernel
theorem dX9_noteRow_93 : decode cX9_noteRow 93 = .ok (.iaload, 1) := by decide +kernel
theorem dX9_noteRow_94 : decode cX9_noteRow 94 = .ok (.istore 6, 2) := by decide +kernel
theorem dX9_noteRow_96 : decode cX9_noteRow 96 = .ok (.iload 4, 2) := by decide +kernel
theorem dX9_noteRow_98 : decode cX9_noteRow 98 = .ok (.iconst 1, 1) := by decide +kernel
theorem dX9_noteRow_99 : decode cX9_noteRow 99 = .ok (.isub, 1) := by decide +kernel
theorem dX9_noteRow_100 : decode cX9_noteRow 100 = .ok (.aload_n 1, 1) := by decide +kernel
theorem dX9_noteRow_101 : decode cX9_noteRow 101 = .ok (.iload_n 2, 1) := by decide +kernel
theorem dX9_noteRow_102 : decode cX9_noteRow 102 = .ok (.iload 6, 2) := by decide +kernel
theorem dX9_noteRow_104 : decode cX9_noteRow 104 = .ok (.invokestatic 68, 3) := by decide +kernel
theorem dX9_noteRow_107 : decode cX9_noteRow 107 = .ok (.invokestatic 75, 3) := by decide +kernel
theorem dX9_noteRow_110 : decode cX9_noteRow 110 = .ok (.istore 4, 2) := by decide +kernel
theorem dX9_noteRow_112 : decode cX9_noteRow 112 = .ok (.aload_n 0, 1) := by decide +kernel
theorem dX9_noteRow_113 : decode cX9_noteRow 113 = .ok (.getfield 21, 3) := by decide +kernel
theorem dX9_noteRow_116 : decode cX9_noteRow 116 = .ok (.iload 6, 2) := by decide +kernel
theorem dX9_noteRow_118 : decode cX9_noteRow 118 = .ok (.aload_n 0, 1) := by decide +kernel
theorem dX9_noteRow_119 : decode cX9_noteRow 119 = .ok (.getfield 21, 3) := by decide +kernel
theorem dX9_noteRow_122 : decode cX9_noteRow 122 = .ok (.iload 6, 2) := by decide +kernel
theorem dX9_noteRow_124 : decode cX9_noteRow 124 = .ok (.iaload, 1) := by decide +kernel
theorem dX9_noteRow_125 : decode cX9_noteRow 125 = .ok (.iload 4, 2) := by decide +kernel
theorem dX9_noteRow_127 : decode cX9_noteRow 127 = .ok (.invokestatic 62, 3) := by decide +kernel
theorem dX9_noteRow_130 : decode cX9_noteRow 130 = .ok (.iastore, 1) := by decide +kernel
theorem dX9_noteRow_131 : decode cX9_noteRow 131 = .ok (.iinc 5 (-1), 3) := by decide +kernel
theorem dX9_noteRow_134 : decode cX9_noteRow 134 = .ok (.goto (-52), 3) := by decide +kernel
theorem dX9_noteRow_137 : decode cX9_noteRow 137 = .ok (.return_, 1) := by decide +kernel
theorem dX9_wallAt_0 : decode cX9_wallAt 0 = .ok (.iconst 0, 1) := by decide +kernel
theorem dX9_wallAt_1 : decode cX9_wallAt 1 = .ok (.istore 5, 2) := by decide +kernel
theorem dX9_wallAt_3 : decode cX9_wallAt 3 = .ok (.aload_n 0, 1) := by decide +kernel
theorem dX9_wallAt_4 : decode cX9_wallAt 4 = .ok (.getfield 9, 3) := by decide +kernel
theorem dX9_wallAt_7 : decode cX9_wallAt 7 = .ok (.aload_n 1, 1) := by decide +kernel
theorem dX9_wallAt_8 : decode cX9_wallAt 8 = .ok (.getfield 31, 3) := by decide +kernel
theorem dX9_wallAt_11 : decode cX9_wallAt 11 = .ok (.invokestatic 36, 3) := by decide +kernel
theorem dX9_wallAt_14 : decode cX9_wallAt 14 = .ok (.iconst 0, 1) := by decide +kernel
theorem dX9_wallAt_15 : decode cX9_wallAt 15 = .ok (.istore 6, 2) := by decide +kernel
theorem dX9_wallAt_17 : decode cX9_wallAt 17 = .ok (.iload 6, 2) := by decide +kernel
theorem dX9_wallAt_19 : decode cX9_wallAt 19 = .ok (.getstatic 42, 3) := by decide +kernel
theorem dX9_wallAt_22 : decode cX9_wallAt 22 = .ok (.aload_n 1, 1) := by decide +kernel
theorem dX9_wallAt_23 : decode cX9_wallAt 23 = .ok (.getfield 31, 3) := by decide +kernel
theorem dX9_wallAt_26 : decode cX9_wallAt 26 = .ok (.iaload, 1) := by decide +kernel
theorem dX9_wallAt_27 : decode cX9_wallAt 27 = .ok (.if_icmp .ge 46, 3) := by decide +kernel
theorem dX9_wallAt_30 : decode cX9_wallAt 30 = .ok (.aload_n 0, 1) := by decide +kernel
theorem dX9_wallAt_31 : decode cX9_wallAt 31 = .ok (.aload_n 1, 1) := by decide +kernel
theorem dX9_wallAt_32 : decode cX9_wallAt 32 = .ok (.iload_n 2, 1) := by decide +kernel
theorem dX9_wallAt_33 : decode cX9_wallAt 33 = .ok (.invokevirtual 45, 3) := by decide +kernel
theorem dX9_wallAt_36 : decode cX9_wallAt 36 = .ok (.ifCond .eq 20, 3) := by decide +kernel
theorem dX9_wallAt_39 : decode cX9_wallAt 39 = .ok (.iload 5, 2) := by decide +kernel
theorem dX9_wallAt_41 : decode cX9_wallAt 41 = .ok (.iload_n 3, 1) := by decide +kernel
theorem dX9_wallAt_42 : decode cX9_wallAt 42 = .ok (.if_icmp .ne 11, 3) := by decide +kernel
theorem dX9_wallAt_45 : decode cX9_wallAt 45 = .ok (.aload_n 0, 1) := by decide +kernel
theorem dX9_wallAt_46 : decode cX9_wallAt 46 = .ok (.getfield 9, 3) := by decide +kernel
theorem dX9_wallAt_49 : decode cX9_wallAt 49 = .ok (.iload 4, 2) := by decide +kernel
theorem dX9_wallAt_51 : decode cX9_wallAt 51 = .ok (.iaload, 1) := by decide +kernel
theorem dX9_wallAt_52 : decode cX9_wallAt 52 = .ok (.ireturn, 1) := by decide +kernel
theorem dX9_wallAt_53 : decode cX9_wallAt 53 = .ok (.iinc 5 1, 3) := by decide +kernel
theorem dX9_wallAt_56 : decode cX9_wallAt 56 = .ok (.aload_n 0, 1) := by decide +kernel
theorem dX9_wallAt_57 : decode cX9_wallAt 57 = .ok (.getfield 9, 3) := by decide +kernel
theorem dX9_wallAt_60 : decode cX9_wallAt 60 = .ok (.aload_n 1, 1) := by decide +kernel
theorem dX9_wallAt_61 : decode cX9_wallAt 61 = .ok (.getfield 31, 3) := by decide +kernel
theorem dX9_wallAt_64 : decode cX9_wallAt 64 = .ok (.invokestatic 53, 3) := by decide +kernel
theorem dX9_wallAt_67 : decode cX9_wallAt 67 = .ok (.iinc 6 1, 3) := by decide +kernel
theorem dX9_wallAt_70 : decode cX9_wallAt 70 = .ok (.goto (-53), 3) := by decide +kernel
theorem dX9_wallAt_73 : decode cX9_wallAt 73 = .ok (.bipush (-2), 2) := by decide +kernel
theorem dX9_wallAt_75 : decode cX9_wallAt 75 = .ok (.ireturn, 1) := by decide +kernel
