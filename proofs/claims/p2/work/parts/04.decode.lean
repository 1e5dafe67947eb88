theorem dX1_addWater_0 : decode cX1_addWater 0 = .ok (.iload_n 2, 1) := by decide +kernel
theorem dX1_addWater_1 : decode cX1_addWater 1 = .ok (.aload_n 0, 1) := by decide +kernel
theorem dX1_addWater_2 : decode cX1_addWater 2 = .ok (.getfield 40, 3) := by decide +kernel
theorem dX1_addWater_5 : decode cX1_addWater 5 = .ok (.imul, 1) := by decide +kernel
theorem dX1_addWater_6 : decode cX1_addWater 6 = .ok (.iload_n 1, 1) := by decide +kernel
theorem dX1_addWater_7 : decode cX1_addWater 7 = .ok (.iadd, 1) := by decide +kernel
theorem dX1_addWater_8 : decode cX1_addWater 8 = .ok (.istore_n 3, 1) := by decide +kernel
theorem dX1_addWater_9 : decode cX1_addWater 9 = .ok (.iload_n 3, 1) := by decide +kernel
theorem dX1_addWater_10 : decode cX1_addWater 10 = .ok (.ifCond .lt 19, 3) := by decide +kernel
theorem dX1_addWater_13 : decode cX1_addWater 13 = .ok (.iload_n 3, 1) := by decide +kernel
theorem dX1_addWater_14 : decode cX1_addWater 14 = .ok (.aload_n 0, 1) := by decide +kernel
theorem dX1_addWater_15 : decode cX1_addWater 15 = .ok (.getfield 9, 3) := by decide +kernel
theorem dX1_addWater_18 : decode cX1_addWater 18 = .ok (.arraylength, 1) := by decide +kernel
theorem dX1_addWater_19 : decode cX1_addWater 19 = .ok (.if_icmp .ge 10, 3) := by decide +kernel
theorem dX1_addWater_22 : decode cX1_addWater 22 = .ok (.aload_n 0, 1) := by decide +kernel
theorem dX1_addWater_23 : decode cX1_addWater 23 = .ok (.getfield 9, 3) := by decide +kernel
theorem dX1_addWater_26 : decode cX1_addWater 26 = .ok (.iload_n 3, 1) := by decide +kernel
theorem dX1_addWater_27 : decode cX1_addWater 27 = .ok (.iconst 1, 1) := by decide +kernel
theorem dX1_addWater_28 : decode cX1_addWater 28 = .ok (.bastore, 1) := by decide +kernel
theorem dX1_addWater_29 : decode cX1_addWater 29 = .ok (.return_, 1) := by decide +kernel
theorem dX1_apart_0 : decode cX1_apart 0 = .ok (.iload_n 2, 1) := by decide +kernel
theorem dX1_apart_1 : decode cX1_apart 1 = .ok (.aload_n 0, 1) := by decide +kernel
theorem dX1_apart_2 : decode cX1_apart 2 = .ok (.getfield 19, 3) := by decide +kernel
theorem dX1_apart_5 : decode cX1_apart 5 = .ok (.iload_n 1, 1) := by decide +kernel
theorem dX1_apart_6 : decode cX1_apart 6 = .ok (.iaload, 1) := by decide +kernel
theorem dX1_apart_7 : decode cX1_apart 7 = .ok (.if_icmp .ge 14, 3) := by decide +kernel
theorem dX1_apart_10 : decode cX1_apart 10 = .ok (.aload_n 0, 1) := by decide +kernel
theorem dX1_apart_11 : decode cX1_apart 11 = .ok (.getfield 19, 3) := by decide +kernel
theorem dX1_apart_14 : decode cX1_apart 14 = .ok (.iload_n 1, 1) := by decide +kernel
theorem dX1_apart_15 : decode cX1_apart 15 = .ok (.iaload, 1) := by decide +kernel
theorem dX1_apart_16 : decode cX1_apart 16 = .ok (.iload_n 2, 1) := by decide +kernel
theorem dX1_apart_17 : decode cX1_apart 17 = .ok (.isub, 1) := by decide +kernel
theorem dX1_apart_18 : decode cX1_apart 18 = .ok (.goto 11, 3) := by decide +kernel
theorem dX1_apart_21 : decode cX1_apart 21 = .ok (.iload_n 2, 1) := by decide +kernel
theorem dX1_apart_22 : decode cX1_apart 22 = .ok (.aload_n 0, 1) := by decide +kernel
theorem dX1_apart_23 : decode cX1_apart 23 = .ok (.getfield 19, 3) := by decide +kernel
theorem dX1_apart_26 : decode cX1_apart 26 = .ok (.iload_n 1, 1) := by decide +kernel
theorem dX1_apart_27 : decode cX1_apart 27 = .ok (.iaload, 1) := by decide +kernel
theorem dX1_apart_28 : decode cX1_apart 28 = .ok (.isub, 1) := by decide +kernel
theorem dX1_apart_29 : decode cX1_apart 29 = .ok (.istore 4, 2) := by decide +kernel
theorem dX1_apart_31 : decode cX1_apart 31 = .ok (.iload_n 3, 1) := by decide +kernel
theorem dX1_apart_32 : decode cX1_apart 32 = .ok (.aload_n 0, 1) := by decide +kernel
theorem dX1_apart_33 : decode cX1_apart 33 = .ok (.getfield 22, 3) := by decide +kernel
theorem dX1_apart_36 : decode cX1_apart 36 = .ok (.iload_n 1, 1) := by decide +kernel
theorem dX1_apart_37 : decode cX1_apart 37 = .ok (.iaload, 1) := by decide +kernel
theorem dX1_apart_38 : decode cX1_apart 38 = .ok (.if_icmp .ge 14, 3) := by decide +kernel
theorem dX1_apart_41 : decode cX1_apart 41 = .ok (.aload_n 0, 1) := by decide +kernel
theorem dX1_apart_42 : decode cX1_apart 42 = .ok (.getfield 22, 3) := by decide +kernel
theorem dX1_apart_45 : decode cX1_apart 45 = .ok (.iload_n 1, 1) := by decide +kernel
theorem dX1_apart_46 : decode cX1_apart 46 = .ok (.iaload, 1) := by decide +kernel
theorem dX1_apart_47 : decode cX1_apart 47 = .ok (.iload_n 3, 1) := by decide +kernel
theorem dX1_apart_48 : decode cX1_apart 48 = .ok (.isub, 1) := by decide +kernel
theorem dX1_apart_49 : decode cX1_apart 49 = .ok (.goto 11, 3) := by decide +kernel
theorem dX1_apart_52 : decode cX1_apart 52 = .ok (.iload_n 3, 1) := by decide +kernel
theorem dX1_apart_53 : decode cX1_apart 53 = .ok (.aload_n 0, 1) := by decide +kernel
theorem dX1_apart_54 : decode cX1_apart 54 = .ok (.getfield 22, 3) := by decide +kernel
theorem dX1_apart_57 : decode cX1_apart 57 = .ok (.iload_n 1, 1) := by decide +kernel
theorem dX1_apart_58 : decode cX1_apart 58 = .ok (.iaload, 1) := by decide +kernel
theorem dX1_apart_59 : decode cX1_apart 59 = .ok (.isub, 1) := by decide +kernel
theorem dX1_apart_60 : decode cX1_apart 60 = .ok (.istore 5, 2) := by decide +kernel
theorem dX1_apart_62 : decode cX1_apart 62 = .ok (.iload 4, 2) := by decide +kernel
theorem dX1_apart_64 : decode cX1_apart 64 = .ok (.iload 5, 2) := by decide +kernel
theorem dX1_apart_66 : decode cX1_apart 66 = .ok (.if_icmp .ge 8, 3) := by decide +kernel
theorem dX1_apart_69 : decode cX1_apart 69 = .ok (.iload 5, 2) := by decide +kernel
theorem dX1_apart_71 : decode cX1_apart 71 = .ok (.goto 5, 3) := by decide +kernel
theorem dX1_apart_74 : decode cX1_apart 74 = .ok (.iload 4, 2) := by decide +kernel
theorem dX1_apart_76 : decode cX1_apart 76 = .ok (.ireturn, 1) := by decide +kernel
theorem dX1_clear_0 : decode cX1_clear 0 = .ok (.aload_n 0, 1) := by decide +kernel
theorem dX1_clear_1 : decode cX1_clear 1 = .ok (.iconst 0, 1) := by decide +kernel
theorem dX1_clear_2 : decode cX1_clear 2 = .ok (.putfield 40, 3) := by decide +kernel
theorem dX1_clear_5 : decode cX1_clear 5 = .ok (.aload_n 0, 1) := by decide +kernel
theorem dX1_clear_6 : decode cX1_clear 6 = .ok (.iconst 0, 1) := by decide +kernel
theorem dX1_clear_7 : decode cX1_clear 7 = .ok (.putfield 44, 3) := by decide +kernel
theorem dX1_clear_10 : decode cX1_clear 10 = .ok (.aload_n 0, 1) := by decide +kernel
theorem dX1_clear_11 : decode cX1_clear 11 = .ok (.iconst 0, 1) := by decide +kernel
theorem dX1_clear_12 : decode cX1_clear 12 = .ok (.putfield 47, 3) := by decide +kernel
theorem dX1_clear_15 : decode cX1_clear 15 = .ok (.aload_n 0, 1) := by decide +kernel
theorem dX1_clear_16 : decode cX1_clear 16 = .ok (.iconst 0, 1) := by decide +kernel
theorem dX1_clear_17 : decode cX1_clear 17 = .ok (.putfield 50, 3) := by decide +kernel
theorem dX1_clear_20 : decode cX1_clear 20 = .ok (.aload_n 0, 1) := by decide +kernel
theorem dX1_clear_21 : decode cX1_clear 21 = .ok (.iconst 0, 1) := by decide +kernel
theorem dX1_clear_22 : decode cX1_clear 22 = .ok (.putfield 53, 3) := by decide +kernel
theorem dX1_clear_25 : decode cX1_clear 25 = .ok (.aload_n 0, 1) := by decide +kernel
theorem dX1_clear_26 : decode cX1_clear 26 = .ok (.iconst 0, 1) := by decide +kernel
theorem dX1_clear_27 : decode cX1_clear 27 = .ok (.putfield 56, 3) := by decide +kernel
theorem dX1_clear_30 : decode cX1_clear 30 = .ok (.iconst 0, 1) := by decide +kernel
theorem dX1_clear_31 : decode cX1_clear 31 = .ok (.istore_n 1, 1) := by decide +kernel
theorem dX1_clear_32 : decode cX1_clear 32 = .ok (.iload_n 1, 1) := by decide +kernel
theorem dX1_clear_33 : decode cX1_clear 33 = .ok (.aload_n 0, 1) := by decide +kernel
theorem dX1_clear_34 : decode cX1_clear 34 = .ok (.getfield 9, 3) := by decide +kernel
theorem dX1_clear_37 : decode cX1_clear 37 = .ok (.arraylength, 1) := by decide +kernel
theorem dX1_clear_38 : decode cX1_clear 38 = .ok (.if_icmp .ge 16, 3) := by decide +kernel
theorem dX1_clear_41 : decode cX1_clear 41 = .ok (.aload_n 0, 1) := by decide +kernel
theorem dX1_clear_42 : decode cX1_clear 42 = .ok (.getfield 9, 3) := by decide +kernel
theorem dX1_clear_45 : decode cX1_clear 45 = .ok (.iload_n 1, 1) := by decide +kernel
theorem dX1_clear_46 : decode cX1_clear 46 = .ok (.iconst 0, 1) := by decide +kernel
theorem dX1_clear_47 : decode cX1_clear 47 = .ok (.bastore, 1) := by decide +kernel
theorem dX1_clear_48 : decode cX1_clear 48 = .ok (.iinc 1 1, 3) := by decide +kernel
theorem dX1_clear_51 : decode cX1_clear 51 = .ok (.goto (-19), 3) := by decide +kernel
theorem dX1_clear_54 : decode cX1_clear 54 = .ok (.iconst 0, 1) := by decide +kernel
theorem dX1_clear_55 : decode cX1_clear 55 = .ok (.istore_n 1, 1) := by decide +kernel
theorem dX1_clear_56 : decode cX1_clear 56 = .ok (.iload_n 1, 1) := by decide +kernel
theorem dX1_clear_57 : decode cX1_clear 57 = .ok (.bipush 6, 2) := by decide +kernel
theorem dX1_clear_59 : decode cX1_clear 59 = .ok (.if_icmp .ge 30, 3) := by decide +kernel
theorem dX1_clear_62 : decode cX1_clear 62 = .ok (.aload_n 0, 1) := by decide +kernel
theorem dX1_clear_63 : decode cX1_clear 63 = .ok (.getfield 31, 3) := by decide +kernel
theorem dX1_clear_66 : decode cX1_clear 66 = .ok (.iload_n 1, 1) := by decide +kernel
theorem dX1_clear_67 : decode cX1_clear 67 = .ok (.iconst 0, 1) := by decide +kernel
theorem dX1_clear_68 : decode cX1_clear 68 = .ok (.iastore, 1) := by decide +kernel
theorem dX1_clear_69 : decode cX1_clear 69 = .ok (.aload_n 0, 1) := by decide +kernel
theorem dX1_clear_70 : decode cX1_clear 70 = .ok (.getfield 34, 3) := by decide +kernel
theorem dX1_clear_73 : decode cX1_clear 73 = .ok (.iload_n 1, 1) := by decide +kernel
theorem dX1_clear_74 : decode cX1_clear 74 = .ok (.iconst (-1), 1) := by decide +kernel
theorem dX1_clear_75 : decode cX1_clear 75 = .ok (.iastore, 1) := by decide +kernel
theorem dX1_clear_76 : decode cX1_clear 76 = .ok (.aload_n 0, 1) := by decide +kernel
theorem dX1_clear_77 : decode cX1_clear 77 = .ok (.getfield 37, 3) := by decide +kernel
theorem dX1_clear_80 : decode cX1_clear 80 = .ok (.iload_n 1, 1) := by decide +kernel
theorem dX1_clear_81 : decode cX1_clear 81 = .ok (.iconst (-1), 1) := by decide +kernel
theorem dX1_clear_82 : decode cX1_clear 82 = .ok (.iastore, 1) := by decide +kernel
theorem dX1_clear_83 : decode cX1_clear 83 = .ok (.iinc 1 1, 3) := by decide +kernel
theorem dX1_clear_86 : decode cX1_clear 86 = .ok (.goto (-30), 3) := by decide +kernel
theorem dX1_clear_89 : decode cX1_clear 89 = .ok (.return_, 1) := by decide +kernel
theorem dX1_isOn_0 : decode cX1_isOn 0 = .ok (.iload_n 1, 1) := by decide +kernel
theorem dX1_isOn_1 : decode cX1_isOn 1 = .ok (.ifCond .lt 27, 3) := by decide +kernel
theorem dX1_isOn_4 : decode cX1_isOn 4 = .ok (.iload_n 1, 1) := by decide +kernel
theorem dX1_isOn_5 : decode cX1_isOn 5 = .ok (.aload_n 0, 1) := by decide +kernel
theorem dX1_isOn_6 : decode cX1_isOn 6 = .ok (.getfield 40, 3) := by decide +kernel
theorem dX1_isOn_9 : decode cX1_isOn 9 = .ok (.if_icmp .ge 19, 3) := by decide +kernel
theorem dX1_isOn_12 : decode cX1_isOn 12 = .ok (.iload_n 2, 1) := by decide +kernel
theorem dX1_isOn_13 : decode cX1_isOn 13 = .ok (.ifCond .lt 15, 3) := by decide +kernel
theorem dX1_isOn_16 : decode cX1_isOn 16 = .ok (.iload_n 2, 1) := by decide +kernel
theorem dX1_isOn_17 : decode cX1_isOn 17 = .ok (.aload_n 0, 1) := by decide +kernel
theorem dX1_isOn_18 : decode cX1_isOn 18 = .ok (.getfield 44, 3) := by decide +kernel
theorem dX1_isOn_21 : decode cX1_isOn 21 = .ok (.if_icmp .ge 7, 3) := by decide +kernel
theorem dX1_isOn_24 : decode cX1_isOn 24 = .ok (.iconst 1, 1) := by decide +kernel
theorem dX1_isOn_25 : decode cX1_isOn 25 = .ok (.goto 4, 3) := by decide +kernel
theorem dX1_isOn_28 : decode cX1_isOn 28 = .ok (.iconst 0, 1) := by decide +kernel
theorem dX1_isOn_29 : decode cX1_isOn 29 = .ok (.ireturn, 1) := by decide +kernel
theorem dX1_isTold_0 : decode cX1_isTold 0 = .ok (.aload_n 0, 1) := by decide +kernel
theorem dX1_isTold_1 : decode cX1_isTold 1 = .ok (.getfield 31, 3) := by decide +kernel
theorem dX1_isTold_4 : decode cX1_isTold 4 = .ok (.iload_n 2, 1) := by decide +kernel
theorem dX1_isTold_5 : decode cX1_isTold 5 = .ok (.iaload, 1) := by decide +kernel
theorem dX1_isTold_6 : decode cX1_isTold 6 = .ok (.iload_n 1, 1) := by decide +kernel
theorem dX1_isTold_7 : decode cX1_isTold 7 = .ok (.ishr, 1) := by decide +kernel
theorem dX1_isTold_8 : decode cX1_isTold 8 = .ok (.iconst 1, 1) := by decide +kernel
theorem dX1_isTold_9 : decode cX1_isTold 9 = .ok (.iand, 1) := by decide +kernel
theorem dX1_isTold_10 : decode cX1_isTold 10 = .ok (.iconst 1, 1) := by decide +kernel
theorem dX1_isTold_11 : decode cX1_isTold 11 = .ok (.if_icmp .eq 17, 3) := by decide +kernel
theorem dX1_isTold_14 : decode cX1_isTold 14 = .ok (.aload_n 0, 1) := by decide +kernel
theorem dX1_isTold_15 : decode cX1_isTold 15 = .ok (.getfield 31, 3) := by decide +kernel
theorem dX1_isTold_18 : decode cX1_isTold 18 = .ok (.iload_n 1, 1) := by decide +kernel
theorem dX1_isTold_19 : decode cX1_isTold 19 = .ok (.iaload, 1) := by decide +kernel
theorem dX1_isTold_20 : decode cX1_isTold 20 = .ok (.iload_n 2, 1) := by decide +kernel
theorem dX1_isTold_21 : decode cX1_isTold 21 = .ok (.ishr, 1) := by decide +kernel
theorem dX1_isTold_22 : decode cX1_isTold 22 = .ok (.iconst 1, 1) := by decide +kernel
theorem dX1_isTold_23 : decode cX1_isTold 23 = .ok (.iand, 1) := by decide +kernel
theorem dX1_isTold_24 : decode cX1_isTold 24 = .ok (.iconst 1, 1) := by decide +kernel
theorem dX1_isTold_25 : decode cX1_isTold 25 = .ok (.if_icmp .ne 7, 3) := by decide +kernel
theorem dX1_isTold_28 : decode cX1_isTold 28 = .ok (.iconst 1, 1) := by decide +kernel
theorem dX1_isTold_29 : decode cX1_isTold 29 = .ok (.goto 4, 3) := by decide +kernel
theorem dX1_isTold_32 : decode cX1_isTold 32 = .ok (.iconst 0, 1) := by decide +kernel
theorem dX1_isTold_33 : decode cX1_isTold 33 = .ok (.ireturn, 1) := by decide +kernel
theorem dX1_isWet_0 : decode cX1_isWet 0 = .ok (.iload_n 2, 1) := by decide +kernel
theorem dX1_isWet_1 : decode cX1_isWet 1 = .ok (.aload_n 0, 1) := by decide +kernel
theorem dX1_isWet_2 : decode cX1_isWet 2 = .ok (.getfield 40, 3) := by decide +kernel
theorem dX1_isWet_5 : decode cX1_isWet 5 = .ok (.imul, 1) := by decide +kernel
theorem dX1_isWet_6 : decode cX1_isWet 6 = .ok (.iload_n 1, 1) := by decide +kernel
theorem dX1_isWet_7 : decode cX1_isWet 7 = .ok (.iadd, 1) := by decide +kernel
theorem dX1_isWet_8 : decode cX1_isWet 8 = .ok (.istore_n 3, 1) := by decide +kernel
theorem dX1_isWet_9 : decode cX1_isWet 9 = .ok (.iload_n 3, 1) := by decide +kernel
theorem dX1_isWet_10 : decode cX1_isWet 10 = .ok (.ifCond .lt 25, 3) := by decide +kernel
theorem dX1_isWet_13 : decode cX1_isWet 13 = .ok (.iload_n 3, 1) := by decide +kernel
theorem dX1_isWet_14 : decode cX1_isWet 14 = .ok (.aload_n 0, 1) := by decide +kernel
theorem dX1_isWet_15 : decode cX1_isWet 15 = .ok (.getfield 9, 3) := by decide +kernel
theorem dX1_isWet_18 : decode cX1_isWet 18 = .ok (.arraylength, 1) := by decide +kernel
theorem dX1_isWet_19 : decode cX1_isWet 19 = .ok (.if_icmp .ge 16, 3) := by decide +kernel
theorem dX1_isWet_22 : decode cX1_isWet 22 = .ok (.aload_n 0, 1) := by decide +kernel
theorem dX1_isWet_23 : decode cX1_isWet 23 = .ok (.getfield 9, 3) := by decide +kernel
theorem dX1_isWet_26 : decode cX1_isWet 26 = .ok (.iload_n 3, 1) := by decide +kernel
theorem dX1_isWet_27 : decode cX1_isWet 27 = .ok (.baload, 1) := by decide +kernel
theorem dX1_isWet_28 : decode cX1_isWet 28 = .ok (.ifCond .eq 7, 3) := by decide +kernel
theorem dX1_isWet_31 : decode cX1_isWet 31 = .ok (.iconst 1, 1) := by decide +kernel
theorem dX1_isWet_32 : decode cX1_isWet 32 = .ok (.goto 4, 3) := by decide +kernel
theorem dX1_isWet_35 : decode cX1_isWet 35 = .ok (.iconst 0, 1) := by decide +kernel
theorem dX1_isWet_36 : decode cX1_isWet 36 = .ok (.ireturn, 1) := by decide +kernel
theorem dX1_setStonePart_0 : decode cX1_setStonePart 0 = .ok (.iload_n 1, 1) := by decide +kernel
theorem dX1_setStonePart_1 : decode cX1_setStonePart 1 = .ok (.iconst 5, 1) := by decide +kernel
theorem dX1_setStonePart_2 : decode cX1_setStonePart 2 = .ok (.imul, 1) := by decide +kernel
theorem dX1_setStonePart_3 : decode cX1_setStonePart 3 = .ok (.iload_n 2, 1) := by decide +kernel
theorem dX1_setStonePart_4 : decode cX1_setStonePart 4 = .ok (.iadd, 1) := by decide +kernel
theorem dX1_setStonePart_5 : decode cX1_setStonePart 5 = .ok (.istore 4, 2) := by decide +kernel
theorem dX1_setStonePart_7 : decode cX1_setStonePart 7 = .ok (.iload 4, 2) := by decide +kernel
theorem dX1_setStonePart_9 : decode cX1_setStonePart 9 = .ok (.ifCond .lt 21, 3) := by decide +kernel
theorem dX1_setStonePart_12 : decode cX1_setStonePart 12 = .ok (.iload 4, 2) := by decide +kernel
theorem dX1_setStonePart_14 : decode cX1_setStonePart 14 = .ok (.aload_n 0, 1) := by decide +kernel
theorem dX1_setStonePart_15 : decode cX1_setStonePart 15 = .ok (.getfield 15, 3) := by decide +kernel
theorem dX1_setStonePart_18 : decode cX1_setStonePart 18 = .ok (.arraylength, 1) := by decide +kernel
theorem dX1_setStonePart_19 : decode cX1_setStonePart 19 = .ok (.if_icmp .ge 11, 3) := by decide +kernel
theorem dX1_setStonePart_22 : decode cX1_setStonePart 22 = .ok (.aload_n 0, 1) := by decide +kernel
theorem dX1_setStonePart_23 : decode cX1_setStonePart 23 = .ok (.getfield 15, 3) := by decide +kernel
theorem dX1_setStonePart_26 : decode cX1_setStonePart 26 = .ok (.iload 4, 2) := by decide +kernel
theorem dX1_setStonePart_28 : decode cX1_setStonePart 28 = .ok (.iload_n 3, 1) := by decide +kernel
theorem dX1_setStonePart_29 : decode cX1_setStonePart 29 = .ok (.iastore, 1) := by decide +kernel
theorem dX1_setStonePart_30 : decode cX1_setStonePart 30 = .ok (.return_, 1) := by decide +kernel
theorem dX1_stonePart_0 : decode cX1_stonePart 0 = .ok (.iload_n 1, 1) := by decide +kernel
theorem dX1_stonePart_1 : decode cX1_stonePart 1 = .ok (.iconst 5, 1) := by decide +kernel
theorem dX1_stonePart_2 : decode cX1_stonePart 2 = .ok (.imul, 1) := by decide +kernel
theorem dX1_stonePart_3 : decode cX1_stonePart 3 = .ok (.iload_n 2, 1) := by decide +kernel
theorem dX1_stonePart_4 : decode cX1_stonePart 4 = .ok (.iadd, 1) := by decide +kernel
theorem dX1_stonePart_5 : decode cX1_stonePart 5 = .ok (.istore_n 3, 1) := by decide +kernel
theorem dX1_stonePart_6 : decode cX1_stonePart 6 = .ok (.iload_n 3, 1) := by decide +kernel
theorem dX1_stonePart_7 : decode cX1_stonePart 7 = .ok (.ifCond .lt 21, 3) := by decide +kernel
theorem dX1_stonePart_10 : decode cX1_stonePart 10 = .ok (.iload_n 3, 1) := by decide +kernel
theorem dX1_stonePart_11 : decode cX1_stonePart 11 = .ok (.aload_n 0, 1) := by decide +kernel
theorem dX1_stonePart_12 : decode cX1_stonePart 12 = .ok (.getfield 15, 3) := by decide +kernel
theorem dX1_stonePart_15 : decode cX1_stonePart 15 = .ok (.arraylength, 1) := by decide +kernel
theorem dX1_stonePart_16 : decode cX1_stonePart 16 = .ok (.if_icmp .ge 12, 3) := by decide +kernel
theorem dX1_stonePart_19 : decode cX1_stonePart 19 = .ok (.aload_n 0, 1) := by decide +kernel
theorem dX1_stonePart_20 : decode cX1_stonePart 20 = .ok (.getfield 15, 3) := by decide +kernel
theorem dX1_stonePart_23 : decode cX1_stonePart 23 = .ok (.iload_n 3, 1) := by decide +kernel
theorem dX1_stonePart_24 : decode cX1_stonePart 24 = .ok (.iaload, 1) := by decide +kernel
theorem dX1_stonePart_25 : decode cX1_stonePart 25 = .ok (.goto 4, 3) := by decide +kernel
theorem dX1_stonePart_28 : decode cX1_stonePart 28 = .ok (.iconst 0, 1) := by decide +kernel
theorem dX1_stonePart_29 : decode cX1_stonePart 29 = .ok (.ireturn, 1) := by decide +kernel
theorem dX4_between_0 : decode cX4_between 0 = .ok (.iload_n 1, 1) := by decide +kernel
theorem dX4_between_1 : decode cX4_between 1 = .ok (.iload_n 2, 1) := by decide +kernel
theorem dX4_between_2 : decode cX4_between 2 = .ok (.if_icmp .ge 9, 3) := by decide +kernel
theorem dX4_between_5 : decode cX4_between 5 = .ok (.iload_n 2, 1) := by decide +kernel
theorem dX4_between_6 : decode cX4_between 6 = .ok (.iload_n 1, 1) := by decide +kernel
theorem dX4_between_7 : decode cX4_between 7 = .ok (.isub, 1) := by decide +kernel
theorem dX4_between_8 : decode cX4_between 8 = .ok (.goto 6, 3) := by decide +kernel
theorem dX4_between_11 : decode cX4_between 11 = .ok (.iload_n 1, 1) := by decide +kernel
theorem dX4_between_12 : decode cX4_between 12 = .ok (.iload_n 2, 1) := by decide +kernel
theorem dX4_between_13 : decode cX4_between 13 = .ok (.isub, 1) := by decide +kernel
theorem dX4_between_14 : decode cX4_between 14 = .ok (.istore_n 3, 1) := by decide +kernel
theorem dX4_between_15 : decode cX4_between 15 = .ok (.bipush 8, 2) := by decide +kernel
theorem dX4_between_17 : decode cX4_between 17 = .ok (.iload_n 0, 1) := by decide +kernel
theorem dX4_between_18 : decode cX4_between 18 = .ok (.imul, 1) := by decide +kernel
theorem dX4_between_19 : decode cX4_between 19 = .ok (.iload_n 3, 1) := by decide +kernel
theorem dX4_between_20 : decode cX4_between 20 = .ok (.isub, 1) := by decide +kernel
theorem dX4_between_21 : decode cX4_between 21 = .ok (.istore 4, 2) := by decide +kernel
theorem dX4_between_23 : decode cX4_between 23 = .ok (.iload_n 3, 1) := by decide +kernel
theorem dX4_between_24 : decode cX4_between 24 = .ok (.iload 4, 2) := by decide +kernel
theorem dX4_between_26 : decode cX4_between 26 = .ok (.if_icmp .ge 7, 3) := by decide +kernel
theorem dX4_between_29 : decode cX4_between 29 = .ok (.iload_n 3, 1) := by decide +kernel
theorem dX4_between_30 : decode cX4_between 30 = .ok (.goto 5, 3) := by decide +kernel
theorem dX4_between_33 : decode cX4_between 33 = .ok (.iload 4, 2) := by decide +kernel
theorem dX4_between_35 : decode cX4_between 35 = .ok (.ireturn, 1) := by decide +kernel
theorem dX4_doorPlace_0 : decode cX4_doorPlace 0 = .ok (.iload_n 1, 1) := by decide +kernel
theorem dX4_doorPlace_1 : decode cX4_doorPlace 1 = .ok (.tableswitch 48 0 2 #[27, 31, 39], 27) := by decide +kernel
theorem dX4_doorPlace_28 : decode cX4_doorPlace 28 = .ok (.iconst 1, 1) := by decide +kernel
theorem dX4_doorPlace_29 : decode cX4_doorPlace 29 = .ok (.iload_n 2, 1) := by decide +kernel
theorem dX4_doorPlace_30 : decode cX4_doorPlace 30 = .ok (.iadd, 1) := by decide +kernel
theorem dX4_doorPlace_31 : decode cX4_doorPlace 31 = .ok (.ireturn, 1) := by decide +kernel
theorem dX4_doorPlace_32 : decode cX4_doorPlace 32 = .ok (.iconst 2, 1) := by decide +kernel
theorem dX4_doorPlace_33 : decode cX4_doorPlace 33 = .ok (.iload_n 0, 1) := by decide +kernel
theorem dX4_doorPlace_34 : decode cX4_doorPlace 34 = .ok (.imul, 1) := by decide +kernel
theorem dX4_doorPlace_35 : decode cX4_doorPlace 35 = .ok (.iconst 1, 1) := by decide +kernel
theorem dX4_doorPlace_36 : decode cX4_doorPlace 36 = .ok (.iadd, 1) := by decide +kernel
theorem dX4_doorPlace_37 : decode cX4_doorPlace 37 = .ok (.iload_n 2, 1) := by decide +kernel
theorem dX4_doorPlace_38 : decode cX4_doorPlace 38 = .ok (.iadd, 1) := by decide +kernel
theorem dX4_doorPlace_39 : decode cX4_doorPlace 39 = .ok (.ireturn, 1) := by decide +kernel
theorem dX4_doorPlace_40 : decode cX4_doorPlace 40 = .ok (.bipush 6, 2) := by decide +kernel
theorem dX4_doorPlace_42 : decode cX4_doorPlace 42 = .ok (.iload_n 0, 1) := by decide +kernel
theorem dX4_doorPlace_43 : decode cX4_doorPlace 43 = .ok (.imul, 1) := by decide +kernel
theorem dX4_doorPlace_44 : decode cX4_doorPlace 44 = .ok (.iconst 1, 1) := by decide +kernel
theorem dX4_doorPlace_45 : decode cX4_doorPlace 45 = .ok (.isub, 1) := by decide +kernel
theorem dX4_doorPlace_46 : decode cX4_doorPlace 46 = .ok (.iload_n 2, 1) := by decide +kernel
theorem dX4_doorPlace_47 : decode cX4_doorPlace 47 = .ok (.isub, 1) := by decide +kernel
theorem dX4_doorPlace_48 : decode cX4_doorPlace 48 = .ok (.ireturn, 1) := by decide +kernel
theorem dX4_doorPlace_49 : decode cX4_doorPlace 49 = .ok (.bipush 8, 2) := by decide +kernel
theorem dX4_doorPlace_51 : decode cX4_doorPlace 51 = .ok (.iload_n 0, 1) := by decide +kernel
theorem dX4_doorPlace_52 : decode cX4_doorPlace 52 = .ok (.imul, 1) := by decide +kernel
theorem dX4_doorPlace_53 : decode cX4_doorPlace 53 = .ok (.iconst 1, 1) := by decide +kernel
theorem dX4_doorPlace_54 : decode cX4_doorPlace 54 = .ok (.isub, 1) := by decide +kernel
theorem dX4_doorPlace_55 : decode cX4_doorPlace 55 = .ok (.iload_n 2, 1) := by decide +kernel
theorem dX4_doorPlace_56 : decode cX4_doorPlace 56 = .ok (.isub, 1) := by decide +kernel
theorem dX4_doorPlace_57 : decode cX4_doorPlace 57 = .ok (.ireturn, 1) := by decide +kernel
theorem dX4_eastOf_0 : decode cX4_eastOf 0 = .ok (.iload_n 0, 1) := by decide +kernel
theorem dX4_eastOf_1 : decode cX4_eastOf 1 = .ok (.iconst 1, 1) := by decide +kernel
theorem dX4_eastOf_2 : decode cX4_eastOf 2 = .ok (.if_icmp .ge 5, 3) := by decide +kernel
theorem dX4_eastOf_5 : decode cX4_eastOf 5 = .ok (.iconst 0, 1) := by decide +kernel
theorem dX4_eastOf_6 : decode cX4_eastOf 6 = .ok (.ireturn, 1) := by decide +kernel
theorem dX4_eastOf_7 : decode cX4_eastOf 7 = .ok (.iload_n 1, 1) := by decide +kernel
theorem dX4_eastOf_8 : decode cX4_eastOf 8 = .ok (.iconst 2, 1) := by decide +kernel
theorem dX4_eastOf_9 : decode cX4_eastOf 9 = .ok (.iload_n 0, 1) := by decide +kernel
theorem dX4_eastOf_10 : decode cX4_eastOf 10 = .ok (.imul, 1) := by decide +kernel
theorem dX4_eastOf_11 : decode cX4_eastOf 11 = .ok (.irem, 1) := by decide +kernel
theorem dX4_eastOf_12 : decode cX4_eastOf 12 = .ok (.istore_n 2, 1) := by decide +kernel
theorem dX4_eastOf_13 : decode cX4_eastOf 13 = .ok (.iload_n 1, 1) := by decide +kernel
theorem dX4_eastOf_14 : decode cX4_eastOf 14 = .ok (.iconst 2, 1) := by decide +kernel
theorem dX4_eastOf_15 : decode cX4_eastOf 15 = .ok (.iload_n 0, 1) := by decide +kernel
theorem dX4_eastOf_16 : decode cX4_eastOf 16 = .ok (.imul, 1) := by decide +kernel
theorem dX4_eastOf_17 : decode cX4_eastOf 17 = .ok (.idiv, 1) := by decide +kernel
theorem dX4_eastOf_18 : decode cX4_eastOf 18 = .ok (.tableswitch 36 0 2 #[26, 30, 32], 26) := by decide +kernel
theorem dX4_eastOf_44 : decode cX4_eastOf 44 = .ok (.iload_n 2, 1) := by decide +kernel
theorem dX4_eastOf_45 : decode cX4_eastOf 45 = .ok (.iload_n 0, 1) := by decide +kernel
theorem dX4_eastOf_46 : decode cX4_eastOf 46 = .ok (.isub, 1) := by decide +kernel
theorem dX4_eastOf_47 : decode cX4_eastOf 47 = .ok (.ireturn, 1) := by decide +kernel
theorem dX4_eastOf_48 : decode cX4_eastOf 48 = .ok (.iload_n 0, 1) := by decide +kernel
theorem dX4_eastOf_49 : decode cX4_eastOf 49 = .ok (.ireturn, 1) := by decide +kernel
theorem dX4_eastOf_50 : decode cX4_eastOf 50 = .ok (.iload_n 0, 1) := by decide +kernel
theorem dX4_eastOf_51 : decode cX4_eastOf 51 = .ok (.iload_n 2, 1) := by decide +kernel
theorem dX4_eastOf_52 : decode cX4_eastOf 52 = .ok (.isub, 1) := by decide +kernel
theorem dX4_eastOf_53 : decode cX4_eastOf 53 = .ok (.ireturn, 1) := by decide +kernel
theorem dX4_eastOf_54 : decode cX4_eastOf 54 = .ok (.iload_n 0, 1) := by decide +kernel
theorem dX4_eastOf_55 : decode cX4_eastOf 55 = .ok (.ineg, 1) := by decide +kernel
theorem dX4_eastOf_56 : decode cX4_eastOf 56 = .ok (.ireturn, 1) := by decide +kernel
theorem dX4_inFront_0 : decode cX4_inFront 0 = .ok (.iload_n 0, 1) := by decide +kernel
theorem dX4_inFront_1 : decode cX4_inFront 1 = .ok (.iconst 1, 1) := by decide +kernel
theorem dX4_inFront_2 : decode cX4_inFront 2 = .ok (.if_icmp .ge 5, 3) := by decide +kernel
theorem dX4_inFront_5 : decode cX4_inFront 5 = .ok (.iconst 0, 1) := by decide +kernel
theorem dX4_inFront_6 : decode cX4_inFront 6 = .ok (.ireturn, 1) := by decide +kernel
theorem dX4_inFront_7 : decode cX4_inFront 7 = .ok (.iload_n 1, 1) := by decide +kernel
theorem dX4_inFront_8 : decode cX4_inFront 8 = .ok (.iconst 2, 1) := by decide +kernel
theorem dX4_inFront_9 : decode cX4_inFront 9 = .ok (.iload_n 0, 1) := by decide +kernel
theorem dX4_inFront_10 : decode cX4_inFront 10 = .ok (.imul, 1) := by decide +kernel
theorem dX4_inFront_11 : decode cX4_inFront 11 = .ok (.idiv, 1) := by decide +kernel
theorem dX4_inFront_12 : decode cX4_inFront 12 = .ok (.istore_n 2, 1) := by decide +kernel
theorem dX4_inFront_13 : decode cX4_inFront 13 = .ok (.iload_n 1, 1) := by decide +kernel
theorem dX4_inFront_14 : decode cX4_inFront 14 = .ok (.iconst 2, 1) := by decide +kernel
theorem dX4_inFront_15 : decode cX4_inFront 15 = .ok (.iload_n 0, 1) := by decide +kernel
theorem dX4_inFront_16 : decode cX4_inFront 16 = .ok (.imul, 1) := by decide +kernel
theorem dX4_inFront_17 : decode cX4_inFront 17 = .ok (.irem, 1) := by decide +kernel
theorem dX4_inFront_18 : decode cX4_inFront 18 = .ok (.istore_n 3, 1) := by decide +kernel
theorem dX4_inFront_19 : decode cX4_inFront 19 = .ok (.iload_n 2, 1) := by decide +kernel
theorem dX4_inFront_20 : decode cX4_inFront 20 = .ok (.iconst 2, 1) := by decide +kernel
theorem dX4_inFront_21 : decode cX4_inFront 21 = .ok (.iload_n 0, 1) := by decide +kernel
theorem dX4_inFront_22 : decode cX4_inFront 22 = .ok (.imul, 1) := by decide +kernel
theorem dX4_inFront_23 : decode cX4_inFront 23 = .ok (.iconst 2, 1) := by decide +kernel
theorem dX4_inFront_24 : decode cX4_inFront 24 = .ok (.iadd, 1) := by decide +kernel
theorem dX4_inFront_25 : decode cX4_inFront 25 = .ok (.imul, 1) := by decide +kernel
theorem dX4_inFront_26 : decode cX4_inFront 26 = .ok (.iload_n 3, 1) := by decide +kernel
theorem dX4_inFront_27 : decode cX4_inFront 27 = .ok (.iadd, 1) := by decide +kernel
theorem dX4_inFront_28 : decode cX4_inFront 28 = .ok (.iconst 1, 1) := by decide +kernel
theorem dX4_inFront_29 : decode cX4_inFront 29 = .ok (.iadd, 1) := by decide +kernel
theorem dX4_inFront_30 : decode cX4_inFront 30 = .ok (.ireturn, 1) := by decide +kernel
theorem dX4_isCorner_0 : decode cX4_isCorner 0 = .ok (.iload_n 0, 1) := by decide +kernel
theorem dX4_isCorner_1 : decode cX4_isCorner 1 = .ok (.iconst 1, 1) := by decide +kernel
theorem dX4_isCorner_2 : decode cX4_isCorner 2 = .ok (.if_icmp .lt 11, 3) := by decide +kernel
theorem dX4_isCorner_5 : decode cX4_isCorner 5 = .ok (.iload_n 1, 1) := by decide +kernel
theorem dX4_isCorner_6 : decode cX4_isCorner 6 = .ok (.iconst 2, 1) := by decide +kernel
theorem dX4_isCorner_7 : decode cX4_isCorner 7 = .ok (.iload_n 0, 1) := by decide +kernel
theorem dX4_isCorner_8 : decode cX4_isCorner 8 = .ok (.imul, 1) := by decide +kernel
theorem dX4_isCorner_9 : decode cX4_isCorner 9 = .ok (.irem, 1) := by decide +kernel
theorem dX4_isCorner_10 : decode cX4_isCorner 10 = .ok (.ifCond .ne 7, 3) := by decide +kernel
theorem dX4_isCorner_13 : decode cX4_isCorner 13 = .ok (.iconst 1, 1) := by decide +kernel
theorem dX4_isCorner_14 : decode cX4_isCorner 14 = .ok (.goto 4, 3) := by decide +kernel
theorem dX4_isCorner_17 : decode cX4_isCorner 17 = .ok (.iconst 0, 1) := by decide +kernel
theorem dX4_isCorner_18 : decode cX4_isCorner 18 = .ok (.ireturn, 1) := by decide +kernel
theorem dX4_southOf_0 : decode cX4_southOf 0 = .ok (.iload_n 0, 1) := by decide +kernel
theorem dX4_southOf_1 : decode cX4_southOf 1 = .ok (.iconst 1, 1) := by decide +kernel
theorem dX4_southOf_2 : decode cX4_southOf 2 = .ok (.if_icmp .ge 5, 3) := by decide +kernel
theorem dX4_southOf_5 : decode cX4_southOf 5 = .ok (.iconst 0, 1) := by decide +kernel
theorem dX4_southOf_6 : decode cX4_southOf 6 = .ok (.ireturn, 1) := by decide +kernel
theorem dX4_southOf_7 : decode cX4_southOf 7 = .ok (.iload_n 1, 1) := by decide +kernel
theorem dX4_southOf_8 : decode cX4_southOf 8 = .ok (.iconst 2, 1) := by decide +kernel
theorem dX4_southOf_9 : decode cX4_southOf 9 = .ok (.iload_n 0, 1) := by decide +kernel
theorem dX4_southOf_10 : decode cX4_southOf 10 = .ok (.imul, 1) := by decide +kernel
theorem dX4_southOf_11 : decode cX4_southOf 11 = .ok (.irem, 1) := by decide +kernel
theorem dX4_southOf_12 : decode cX4_southOf 12 = .ok (.istore_n 2, 1) := by decide +kernel
theorem dX4_southOf_13 : decode cX4_southOf 13 = .ok (.iload_n 1, 1) := by decide +kernel
theorem dX4_southOf_14 : decode cX4_southOf 14 = .ok (.iconst 2, 1) := by decide +kernel
theorem dX4_southOf_15 : decode cX4_southOf 15 = .ok (.iload_n 0, 1) := by decide +kernel
theorem dX4_southOf_16 : decode cX4_southOf 16 = .ok (.imul, 1) := by decide +kernel
theorem dX4_southOf_17 : decode cX4_southOf 17 = .ok (.idiv, 1) := by decide +kernel
theorem dX4_southOf_18 : decode cX4_southOf 18 = .ok (.tableswitch 35 0 2 #[26, 29, 33], 26) := by decide +kernel
theorem dX4_southOf_44 : decode cX4_southOf 44 = .ok (.iload_n 0, 1) := by decide +kernel
theorem dX4_southOf_45 : decode cX4_southOf 45 = .ok (.ineg, 1) := by decide +kernel
theorem dX4_southOf_46 : decode cX4_southOf 46 = .ok (.ireturn, 1) := by decide +kernel
theorem dX4_southOf_47 : decode cX4_southOf 47 = .ok (.iload_n 2, 1) := by decide +kernel
theorem dX4_southOf_48 : decode cX4_southOf 48 = .ok (.iload_n 0, 1) := by decide +kernel
theorem dX4_southOf_49 : decode cX4_southOf 49 = .ok (.isub, 1) := by decide +kernel
theorem dX4_southOf_50 : decode cX4_southOf 50 = .ok (.ireturn, 1) := by decide +kernel
theorem dX4_southOf_51 : decode cX4_southOf 51 = .ok (.iload_n 0, 1) := by decide +kernel
theorem dX4_southOf_52 : decode cX4_southOf 52 = .ok (.ireturn, 1) := by decide +kernel
theorem dX4_southOf_53 : decode cX4_southOf 53 = .ok (.iload_n 0, 1) := by decide +kernel
theorem dX4_southOf_54 : decode cX4_southOf 54 = .ok (.iload_n 2, 1) := by decide +kernel
theorem dX4_southOf_55 : decode cX4_southOf 55 = .ok (.isub, 1) := by decide +kernel
theorem dX4_southOf_56 : decode cX4_southOf 56 = .ok (.ireturn, 1) := by decide +kernel
theorem dX6_isFit_0 : decode cX6_isFit 0 = .ok (.aload_n 1, 1) := by decide +kernel
theorem dX6_isFit_1 : decode cX6_isFit 1 = .ok (.getfield 19, 3) := by decide +kernel
theorem dX6_isFit_4 : decode cX6_isFit 4 = .ok (.iload_n 2, 1) := by decide +kernel
theorem dX6_isFit_5 : decode cX6_isFit 5 = .ok (.iaload, 1) := by decide +kernel
theorem dX6_isFit_6 : decode cX6_isFit 6 = .ok (.iconst 1, 1) := by decide +kernel
theorem dX6_isFit_7 : decode cX6_isFit 7 = .ok (.iadd, 1) := by decide +kernel
theorem dX6_isFit_8 : decode cX6_isFit 8 = .ok (.istore_n 3, 1) := by decide +kernel
theorem dX6_isFit_9 : decode cX6_isFit 9 = .ok (.aload_n 0, 1) := by decide +kernel
theorem dX6_isFit_10 : decode cX6_isFit 10 = .ok (.getfield 32, 3) := by decide +kernel
theorem dX6_isFit_13 : decode cX6_isFit 13 = .ok (.iload_n 2, 1) := by decide +kernel
theorem dX6_isFit_14 : decode cX6_isFit 14 = .ok (.iaload, 1) := by decide +kernel
theorem dX6_isFit_15 : decode cX6_isFit 15 = .ok (.istore 4, 2) := by decide +kernel
theorem dX6_isFit_17 : decode cX6_isFit 17 = .ok (.aload_n 0, 1) := by decide +kernel
theorem dX6_isFit_18 : decode cX6_isFit 18 = .ok (.getfield 35, 3) := by decide +kernel
theorem dX6_isFit_21 : decode cX6_isFit 21 = .ok (.iload_n 2, 1) := by decide +kernel
theorem dX6_isFit_22 : decode cX6_isFit 22 = .ok (.iaload, 1) := by decide +kernel
theorem dX6_isFit_23 : decode cX6_isFit 23 = .ok (.istore 5, 2) := by decide +kernel
theorem dX6_isFit_25 : decode cX6_isFit 25 = .ok (.iload_n 3, 1) := by decide +kernel
theorem dX6_isFit_26 : decode cX6_isFit 26 = .ok (.bipush 6, 2) := by decide +kernel
theorem dX6_isFit_28 : decode cX6_isFit 28 = .ok (.if_icmp .gt 33, 3) := by decide +kernel
theorem dX6_isFit_31 : decode cX6_isFit 31 = .ok (.aload_n 0, 1) := by decide +kernel
theorem dX6_isFit_32 : decode cX6_isFit 32 = .ok (.iload 4, 2) := by decide +kernel
theorem dX6_isFit_34 : decode cX6_isFit 34 = .ok (.iload_n 3, 1) := by decide +kernel
theorem dX6_isFit_35 : decode cX6_isFit 35 = .ok (.isub, 1) := by decide +kernel
theorem dX6_isFit_36 : decode cX6_isFit 36 = .ok (.iload 5, 2) := by decide +kernel
theorem dX6_isFit_38 : decode cX6_isFit 38 = .ok (.iload_n 3, 1) := by decide +kernel
theorem dX6_isFit_39 : decode cX6_isFit 39 = .ok (.isub, 1) := by decide +kernel
theorem dX6_isFit_40 : decode cX6_isFit 40 = .ok (.invokevirtual 25, 3) := by decide +kernel
theorem dX6_isFit_43 : decode cX6_isFit 43 = .ok (.ifCond .eq 18, 3) := by decide +kernel
theorem dX6_isFit_46 : decode cX6_isFit 46 = .ok (.aload_n 0, 1) := by decide +kernel
theorem dX6_isFit_47 : decode cX6_isFit 47 = .ok (.iload 4, 2) := by decide +kernel
theorem dX6_isFit_49 : decode cX6_isFit 49 = .ok (.iload_n 3, 1) := by decide +kernel
theorem dX6_isFit_50 : decode cX6_isFit 50 = .ok (.iadd, 1) := by decide +kernel
theorem dX6_isFit_51 : decode cX6_isFit 51 = .ok (.iload 5, 2) := by decide +kernel
theorem dX6_isFit_53 : decode cX6_isFit 53 = .ok (.iload_n 3, 1) := by decide +kernel
theorem dX6_isFit_54 : decode cX6_isFit 54 = .ok (.iadd, 1) := by decide +kernel
theorem dX6_isFit_55 : decode cX6_isFit 55 = .ok (.invokevirtual 25, 3) := by decide +kernel
theorem dX6_isFit_58 : decode cX6_isFit 58 = .ok (.ifCond .ne 5, 3) := by decide +kernel
theorem dX6_isFit_61 : decode cX6_isFit 61 = .ok (.iconst 0, 1) := by decide +kernel
theorem dX6_isFit_62 : decode cX6_isFit 62 = .ok (.ireturn, 1) := by decide +kernel
theorem dX6_isFit_63 : decode cX6_isFit 63 = .ok (.iconst 0, 1) := by decide +kernel
theorem dX6_isFit_64 : decode cX6_isFit 64 = .ok (.istore 6, 2) := by decide +kernel
theorem dX6_isFit_66 : decode cX6_isFit 66 = .ok (.iload 6, 2) := by decide +kernel
theorem dX6_isFit_68 : decode cX6_isFit 68 = .ok (.bipush 8, 2) := by decide +kernel
theorem dX6_isFit_70 : decode cX6_isFit 70 = .ok (.iload_n 3, 1) := by decide +kernel
theorem dX6_isFit_71 : decode cX6_isFit 71 = .ok (.imul, 1) := by decide +kernel
theorem dX6_isFit_72 : decode cX6_isFit 72 = .ok (.if_icmp .ge 57, 3) := by decide +kernel
theorem dX6_isFit_75 : decode cX6_isFit 75 = .ok (.iload 4, 2) := by decide +kernel
theorem dX6_isFit_77 : decode cX6_isFit 77 = .ok (.iload_n 3, 1) := by decide +kernel
theorem dX6_isFit_78 : decode cX6_isFit 78 = .ok (.iload 6, 2) := by decide +kernel
theorem dX6_isFit_80 : decode cX6_isFit 80 = .ok (.invokestatic 38, 3) := by decide +kernel
theorem dX6_isFit_83 : decode cX6_isFit 83 = .ok (.iadd, 1) := by decide +kernel
theorem dX6_isFit_84 : decode cX6_isFit 84 = .ok (.istore 7, 2) := by decide +kernel
theorem dX6_isFit_86 : decode cX6_isFit 86 = .ok (.iload 5, 2) := by decide +kernel
theorem dX6_isFit_88 : decode cX6_isFit 88 = .ok (.iload_n 3, 1) := by decide +kernel
theorem dX6_isFit_89 : decode cX6_isFit 89 = .ok (.iload 6, 2) := by decide +kernel
theorem dX6_isFit_91 : decode cX6_isFit 91 = .ok (.invokestatic 44, 3) := by decide +kernel
theorem dX6_isFit_94 : decode cX6_isFit 94 = .ok (.iadd, 1) := by decide +kernel
theorem dX6_isFit_95 : decode cX6_isFit 95 = .ok (.istore 8, 2) := by decide +kernel
theorem dX6_isFit_97 : decode cX6_isFit 97 = .ok (.aload_n 0, 1) := by decide +kernel
theorem dX6_isFit_98 : decode cX6_isFit 98 = .ok (.iload 7, 2) := by decide +kernel
theorem dX6_isFit_100 : decode cX6_isFit 100 = .ok (.iload 8, 2) := by decide +kernel
theorem dX6_isFit_102 : decode cX6_isFit 102 = .ok (.invokevirtual 29, 3) := by decide +kernel
theorem dX6_isFit_105 : decode cX6_isFit 105 = .ok (.ifCond .ne 16, 3) := by decide +kernel
theorem dX6_isFit_108 : decode cX6_isFit 108 = .ok (.aload_n 0, 1) := by decide +kernel
theorem dX6_isFit_109 : decode cX6_isFit 109 = .ok (.aload_n 1, 1) := by decide +kernel
theorem dX6_isFit_110 : decode cX6_isFit 110 = .ok (.iload_n 2, 1) := by decide +kernel
theorem dX6_isFit_111 : decode cX6_isFit 111 = .ok (.iload 7, 2) := by decide +kernel
theorem dX6_isFit_113 : decode cX6_isFit 113 = .ok (.iload 8, 2) := by decide +kernel
theorem dX6_isFit_115 : decode cX6_isFit 115 = .ok (.invokestatic 47, 3) := by decide +kernel
theorem dX6_isFit_118 : decode cX6_isFit 118 = .ok (.ifCond .ne 5, 3) := by decide +kernel
theorem dX6_isFit_121 : decode cX6_isFit 121 = .ok (.iconst 0, 1) := by decide +kernel
theorem dX6_isFit_122 : decode cX6_isFit 122 = .ok (.ireturn, 1) := by decide +kernel
theorem dX6_isFit_123 : decode cX6_isFit 123 = .ok (.iinc 6 1, 3) := by decide +kernel
theorem dX6_isFit_126 : decode cX6_isFit 126 = .ok (.goto (-60), 3) := by decide +kernel
theorem dX6_isFit_129 : decode cX6_isFit 129 = .ok (.iconst 1, 1) := by decide +kernel
theorem dX6_isFit_130 : decode cX6_isFit 130 = .ok (.ireturn, 1) := by decide +kernel
theorem dX6_isFree_0 : decode cX6_isFree 0 = .ok (.aload_n 0, 1) := by decide +kernel
theorem dX6_isFree_1 : decode cX6_isFree 1 = .ok (.iload_n 2, 1) := by decide +kernel
theorem dX6_isFree_2 : decode cX6_isFree 2 = .ok (.iload_n 3, 1) := by decide +kernel
theorem dX6_isFree_3 : decode cX6_isFree 3 = .ok (.invokevirtual 25, 3) := by decide +kernel
theorem dX6_isFree_6 : decode cX6_isFree 6 = .ok (.ifCond .eq 12, 3) := by decide +kernel
theorem dX6_isFree_9 : decode cX6_isFree 9 = .ok (.aload_n 0, 1) := by decide +kernel
theorem dX6_isFree_10 : decode cX6_isFree 10 = .ok (.iload_n 2, 1) := by decide +kernel
theorem dX6_isFree_11 : decode cX6_isFree 11 = .ok (.iload_n 3, 1) := by decide +kernel
theorem dX6_isFree_12 : decode cX6_isFree 12 = .ok (.invokevirtual 29, 3) := by decide +kernel
theorem dX6_isFree_15 : decode cX6_isFree 15 = .ok (.ifCond .eq 5, 3) := by decide +kernel
theorem dX6_isFree_18 : decode cX6_isFree 18 = .ok (.iconst 0, 1) := by decide +kernel
theorem dX6_isFree_19 : decode cX6_isFree 19 = .ok (.ireturn, 1) := by decide +kernel
theorem dX6_isFree_20 : decode cX6_isFree 20 = .ok (.iconst 0, 1) := by decide +kernel
theorem dX6_isFree_21 : decode cX6_isFree 21 = .ok (.istore 4, 2) := by decide +kernel
theorem dX6_isFree_23 : decode cX6_isFree 23 = .ok (.iload 4, 2) := by decide +kernel
theorem dX6_isFree_25 : decode cX6_isFree 25 = .ok (.aload_n 0, 1) := by decide +kernel
theorem dX6_isFree_26 : decode cX6_isFree 26 = .ok (.getfield 9, 3) := by decide +kernel
theorem dX6_isFree_29 : decode cX6_isFree 29 = .ok (.if_icmp .ge 29, 3) := by decide +kernel
theorem dX6_isFree_32 : decode cX6_isFree 32 = .ok (.aload_n 0, 1) := by decide +kernel
theorem dX6_isFree_33 : decode cX6_isFree 33 = .ok (.iload 4, 2) := by decide +kernel
theorem dX6_isFree_35 : decode cX6_isFree 35 = .ok (.iload_n 2, 1) := by decide +kernel
theorem dX6_isFree_36 : decode cX6_isFree 36 = .ok (.iload_n 3, 1) := by decide +kernel
theorem dX6_isFree_37 : decode cX6_isFree 37 = .ok (.invokevirtual 15, 3) := by decide +kernel
theorem dX6_isFree_40 : decode cX6_isFree 40 = .ok (.aload_n 1, 1) := by decide +kernel
theorem dX6_isFree_41 : decode cX6_isFree 41 = .ok (.getfield 19, 3) := by decide +kernel
theorem dX6_isFree_44 : decode cX6_isFree 44 = .ok (.iload 4, 2) := by decide +kernel
theorem dX6_isFree_46 : decode cX6_isFree 46 = .ok (.iaload, 1) := by decide +kernel
theorem dX6_isFree_47 : decode cX6_isFree 47 = .ok (.if_icmp .gt 5, 3) := by decide +kernel
theorem dX6_isFree_50 : decode cX6_isFree 50 = .ok (.iconst 0, 1) := by decide +kernel
theorem dX6_isFree_51 : decode cX6_isFree 51 = .ok (.ireturn, 1) := by decide +kernel
theorem dX6_isFree_52 : decode cX6_isFree 52 = .ok (.iinc 4 1, 3) := by decide +kernel
theorem dX6_isFree_55 : decode cX6_isFree 55 = .ok (.goto (-32), 3) := by decide +kernel
theorem dX6_isFree_58 : decode cX6_isFree 58 = .ok (.iconst 1, 1) := by decide +kernel
theorem dX6_isFree_59 : decode cX6_isFree 59 = .ok (.ireturn, 1) := by decide +kernel
theorem dX6_isLeftTo_0 : decode cX6_isLeftTo 0 = .ok (.iconst 0, 1) := by decide +kernel
theorem dX6_isLeftTo_1 : decode cX6_isLeftTo 1 = .ok (.istore 5, 2) := by decide +kernel
theorem dX6_isLeftTo_3 : decode cX6_isLeftTo 3 = .ok (.iload 5, 2) := by decide +kernel
theorem dX6_isLeftTo_5 : decode cX6_isLeftTo 5 = .ok (.aload_n 0, 1) := by decide +kernel
theorem dX6_isLeftTo_6 : decode cX6_isLeftTo 6 = .ok (.getfield 9, 3) := by decide +kernel
theorem dX6_isLeftTo_9 : decode cX6_isLeftTo 9 = .ok (.if_icmp .ge 79, 3) := by decide +kernel
theorem dX6_isLeftTo_12 : decode cX6_isLeftTo 12 = .ok (.aload_n 0, 1) := by decide +kernel
theorem dX6_isLeftTo_13 : decode cX6_isLeftTo 13 = .ok (.iload 5, 2) := by decide +kernel
theorem dX6_isLeftTo_15 : decode cX6_isLeftTo 15 = .ok (.iload_n 3, 1) := by decide +kernel
theorem dX6_isLeftTo_16 : decode cX6_isLeftTo 16 = .ok (.iload 4, 2) := by decide +kernel
theorem dX6_isLeftTo_18 : decode cX6_isLeftTo 18 = .ok (.invokevirtual 15, 3) := by decide +kernel
theorem dX6_isLeftTo_21 : decode cX6_isLeftTo 21 = .ok (.istore 6, 2) := by decide +kernel
theorem dX6_isLeftTo_23 : decode cX6_isLeftTo 23 = .ok (.aload_n 0, 1) := by decide +kernel
theorem dX6_isLeftTo_24 : decode cX6_isLeftTo 24 = .ok (.getfield 53, 3) := by decide +kernel
theorem dX6_isLeftTo_27 : decode cX6_isLeftTo 27 = .ok (.ifCond .eq 23, 3) := by decide +kernel
theorem dX6_isLeftTo_30 : decode cX6_isLeftTo 30 = .ok (.iload 6, 2) := by decide +kernel
theorem dX6_isLeftTo_32 : decode cX6_isLeftTo 32 = .ok (.aload_n 1, 1) := by decide +kernel
theorem dX6_isLeftTo_33 : decode cX6_isLeftTo 33 = .ok (.getfield 19, 3) := by decide +kernel
theorem dX6_isLeftTo_36 : decode cX6_isLeftTo 36 = .ok (.iload 5, 2) := by decide +kernel
theorem dX6_isLeftTo_38 : decode cX6_isLeftTo 38 = .ok (.iaload, 1) := by decide +kernel
theorem dX6_isLeftTo_39 : decode cX6_isLeftTo 39 = .ok (.if_icmp .ge 7, 3) := by decide +kernel
theorem dX6_isLeftTo_42 : decode cX6_isLeftTo 42 = .ok (.iconst 1, 1) := by decide +kernel
theorem dX6_isLeftTo_43 : decode cX6_isLeftTo 43 = .ok (.goto 24, 3) := by decide +kernel
theorem dX6_isLeftTo_46 : decode cX6_isLeftTo 46 = .ok (.iconst 0, 1) := by decide +kernel
theorem dX6_isLeftTo_47 : decode cX6_isLeftTo 47 = .ok (.goto 20, 3) := by decide +kernel
theorem dX6_isLeftTo_50 : decode cX6_isLeftTo 50 = .ok (.iload 6, 2) := by decide +kernel
theorem dX6_isLeftTo_52 : decode cX6_isLeftTo 52 = .ok (.aload_n 1, 1) := by decide +kernel
theorem dX6_isLeftTo_53 : decode cX6_isLeftTo 53 = .ok (.getfield 19, 3) := by decide +kernel
theorem dX6_isLeftTo_56 : decode cX6_isLeftTo 56 = .ok (.iload 5, 2) := by decide +kernel
theorem dX6_isLeftTo_58 : decode cX6_isLeftTo 58 = .ok (.iaload, 1) := by decide +kernel
theorem dX6_isLeftTo_59 : decode cX6_isLeftTo 59 = .ok (.if_icmp .gt 7, 3) := by decide +kernel
theorem dX6_isLeftTo_62 : decode cX6_isLeftTo 62 = .ok (.iconst 1, 1) := by decide +kernel
theorem dX6_isLeftTo_63 : decode cX6_isLeftTo 63 = .ok (.goto 4, 3) := by decide +kernel
theorem dX6_isLeftTo_66 : decode cX6_isLeftTo 66 = .ok (.iconst 0, 1) := by decide +kernel
theorem dX6_isLeftTo_67 : decode cX6_isLeftTo 67 = .ok (.istore 7, 2) := by decide +kernel
theorem dX6_isLeftTo_69 : decode cX6_isLeftTo 69 = .ok (.iload 5, 2) := by decide +kernel
theorem dX6_isLeftTo_71 : decode cX6_isLeftTo 71 = .ok (.iload_n 2, 1) := by decide +kernel
theorem dX6_isLeftTo_72 : decode cX6_isLeftTo 72 = .ok (.if_icmp .eq 10, 3) := by decide +kernel
theorem dX6_isLeftTo_75 : decode cX6_isLeftTo 75 = .ok (.iload 7, 2) := by decide +kernel
theorem dX6_isLeftTo_77 : decode cX6_isLeftTo 77 = .ok (.ifCond .eq 5, 3) := by decide +kernel
theorem dX6_isLeftTo_80 : decode cX6_isLeftTo 80 = .ok (.iconst 0, 1) := by decide +kernel
theorem dX6_isLeftTo_81 : decode cX6_isLeftTo 81 = .ok (.ireturn, 1) := by decide +kernel
theorem dX6_isLeftTo_82 : decode cX6_isLeftTo 82 = .ok (.iinc 5 1, 3) := by decide +kernel
theorem dX6_isLeftTo_85 : decode cX6_isLeftTo 85 = .ok (.goto (-82), 3) := by decide +kernel
theorem dX6_isLeftTo_88 : decode cX6_isLeftTo 88 = .ok (.iconst 1, 1) := by decide +kernel
theorem dX6_isLeftTo_89 : decode cX6_isLeftTo 89 = .ok (.ireturn, 1) := by decide +kernel
theorem dX6_isMet_0 : decode cX6_isMet 0 = .ok (.aload_n 1, 1) := by decide +kernel
theorem dX6_isMet_1 : decode cX6_isMet 1 = .ok (.getfield 19, 3) := by decide +kernel
theorem dX6_isMet_4 : decode cX6_isMet 4 = .ok (.iload_n 2, 1) := by decide +kernel
theorem dX6_isMet_5 : decode cX6_isMet 5 = .ok (.iaload, 1) := by decide +kernel
theorem dX6_isMet_6 : decode cX6_isMet 6 = .ok (.aload_n 1, 1) := by decide +kernel
theorem dX6_isMet_7 : decode cX6_isMet 7 = .ok (.getfield 19, 3) := by decide +kernel
theorem dX6_isMet_10 : decode cX6_isMet 10 = .ok (.iload_n 3, 1) := by decide +kernel
theorem dX6_isMet_11 : decode cX6_isMet 11 = .ok (.iaload, 1) := by decide +kernel
theorem dX6_isMet_12 : decode cX6_isMet 12 = .ok (.iadd, 1) := by decide +kernel
theorem dX6_isMet_13 : decode cX6_isMet 13 = .ok (.istore 4, 2) := by decide +kernel
theorem dX6_isMet_15 : decode cX6_isMet 15 = .ok (.aload_n 0, 1) := by decide +kernel
theorem dX6_isMet_16 : decode cX6_isMet 16 = .ok (.getfield 32, 3) := by decide +kernel
theorem dX6_isMet_19 : decode cX6_isMet 19 = .ok (.iload_n 2, 1) := by decide +kernel
theorem dX6_isMet_20 : decode cX6_isMet 20 = .ok (.iaload, 1) := by decide +kernel
theorem dX6_isMet_21 : decode cX6_isMet 21 = .ok (.aload_n 0, 1) := by decide +kernel
theorem dX6_isMet_22 : decode cX6_isMet 22 = .ok (.getfield 32, 3) := by decide +kernel
theorem dX6_isMet_25 : decode cX6_isMet 25 = .ok (.iload_n 3, 1) := by decide +kernel
theorem dX6_isMet_26 : decode cX6_isMet 26 = .ok (.iaload, 1) := by decide +kernel
theorem dX6_isMet_27 : decode cX6_isMet 27 = .ok (.isub, 1) := by decide +kernel
theorem dX6_isMet_28 : decode cX6_isMet 28 = .ok (.invokestatic 89, 3) := by decide +kernel
theorem dX6_isMet_31 : decode cX6_isMet 31 = .ok (.istore 5, 2) := by decide +kernel
theorem dX6_isMet_33 : decode cX6_isMet 33 = .ok (.aload_n 0, 1) := by decide +kernel
theorem dX6_isMet_34 : decode cX6_isMet 34 = .ok (.getfield 35, 3) := by decide +kernel
theorem dX6_isMet_37 : decode cX6_isMet 37 = .ok (.iload_n 2, 1) := by decide +kernel
theorem dX6_isMet_38 : decode cX6_isMet 38 = .ok (.iaload, 1) := by decide +kernel
theorem dX6_isMet_39 : decode cX6_isMet 39 = .ok (.aload_n 0, 1) := by decide +kernel
theorem dX6_isMet_40 : decode cX6_isMet 40 = .ok (.getfield 35, 3) := by decide +kernel
theorem dX6_isMet_43 : decode cX6_isMet 43 = .ok (.iload_n 3, 1) := by decide +kernel
theorem dX6_isMet_44 : decode cX6_isMet 44 = .ok (.iaload, 1) := by decide +kernel
theorem dX6_isMet_45 : decode cX6_isMet 45 = .ok (.isub, 1) := by decide +kernel
theorem dX6_isMet_46 : decode cX6_isMet 46 = .ok (.invokestatic 89, 3) := by decide +kernel
theorem dX6_isMet_49 : decode cX6_isMet 49 = .ok (.istore 6, 2) := by decide +kernel
theorem dX6_isMet_51 : decode cX6_isMet 51 = .ok (.iload 5, 2) := by decide +kernel
theorem dX6_isMet_53 : decode cX6_isMet 53 = .ok (.iload 6, 2) := by decide +kernel
theorem dX6_isMet_55 : decode cX6_isMet 55 = .ok (.invokestatic 95, 3) := by decide +kernel
theorem dX6_isMet_58 : decode cX6_isMet 58 = .ok (.iload 4, 2) := by decide +kernel
theorem dX6_isMet_60 : decode cX6_isMet 60 = .ok (.iconst 1, 1) := by decide +kernel
theorem dX6_isMet_61 : decode cX6_isMet 61 = .ok (.iadd, 1) := by decide +kernel
theorem dX6_isMet_62 : decode cX6_isMet 62 = .ok (.if_icmp .gt 19, 3) := by decide +kernel
theorem dX6_isMet_65 : decode cX6_isMet 65 = .ok (.iload 5, 2) := by decide +kernel
theorem dX6_isMet_67 : decode cX6_isMet 67 = .ok (.iload 6, 2) := by decide +kernel
theorem dX6_isMet_69 : decode cX6_isMet 69 = .ok (.invokestatic 98, 3) := by decide +kernel
theorem dX6_isMet_72 : decode cX6_isMet 72 = .ok (.iload 4, 2) := by decide +kernel
theorem dX6_isMet_74 : decode cX6_isMet 74 = .ok (.if_icmp .gt 7, 3) := by decide +kernel
theorem dX6_isMet_77 : decode cX6_isMet 77 = .ok (.iconst 1, 1) := by decide +kernel
theorem dX6_isMet_78 : decode cX6_isMet 78 = .ok (.goto 4, 3) := by decide +kernel
theorem dX6_isMet_81 : decode cX6_isMet 81 = .ok (.iconst 0, 1) := by decide +kernel
theorem dX6_isMet_82 : decode cX6_isMet 82 = .ok (.ireturn, 1) := by decide +kernel
theorem dX6_ownersOf_0 : decode cX6_ownersOf 0 = .ok (.iconst 0, 1) := by decide +kernel
theorem dX6_ownersOf_1 : decode cX6_ownersOf 1 = .ok (.istore 4, 2) := by decide +kernel
theorem dX6_ownersOf_3 : decode cX6_ownersOf 3 = .ok (.iconst 0, 1) := by decide +kernel
theorem dX6_ownersOf_4 : decode cX6_ownersOf 4 = .ok (.istore 5, 2) := by decide +kernel
theorem dX6_ownersOf_6 : decode cX6_ownersOf 6 = .ok (.iload 5, 2) := by decide +kernel
theorem dX6_ownersOf_8 : decode cX6_ownersOf 8 = .ok (.aload_n 0, 1) := by decide +kernel
theorem dX6_ownersOf_9 : decode cX6_ownersOf 9 = .ok (.getfield 9, 3) := by decide +kernel
theorem dX6_ownersOf_12 : decode cX6_ownersOf 12 = .ok (.if_icmp .ge 36, 3) := by decide +kernel
theorem dX6_ownersOf_15 : decode cX6_ownersOf 15 = .ok (.aload_n 0, 1) := by decide +kernel
theorem dX6_ownersOf_16 : decode cX6_ownersOf 16 = .ok (.iload 5, 2) := by decide +kernel
theorem dX6_ownersOf_18 : decode cX6_ownersOf 18 = .ok (.iload_n 2, 1) := by decide +kernel
theorem dX6_ownersOf_19 : decode cX6_ownersOf 19 = .ok (.iload_n 3, 1) := by decide +kernel
theorem dX6_ownersOf_20 : decode cX6_ownersOf 20 = .ok (.invokevirtual 15, 3) := by decide +kernel
theorem dX6_ownersOf_23 : decode cX6_ownersOf 23 = .ok (.aload_n 1, 1) := by decide +kernel
theorem dX6_ownersOf_24 : decode cX6_ownersOf 24 = .ok (.getfield 19, 3) := by decide +kernel
theorem dX6_ownersOf_27 : decode cX6_ownersOf 27 = .ok (.iload 5, 2) := by decide +kernel
theorem dX6_ownersOf_29 : decode cX6_ownersOf 29 = .ok (.iaload, 1) := by decide +kernel
theorem dX6_ownersOf_30 : decode cX6_ownersOf 30 = .ok (.if_icmp .gt 12, 3) := by decide +kernel
theorem dX6_ownersOf_33 : decode cX6_ownersOf 33 = .ok (.iload 4, 2) := by decide +kernel
theorem dX6_ownersOf_35 : decode cX6_ownersOf 35 = .ok (.iconst 1, 1) := by decide +kernel
theorem dX6_ownersOf_36 : decode cX6_ownersOf 36 = .ok (.iload 5, 2) := by decide +kernel
theorem dX6_ownersOf_38 : decode cX6_ownersOf 38 = .ok (.ishl, 1) := by decide +kernel
theorem dX6_ownersOf_39 : decode cX6_ownersOf 39 = .ok (.ior, 1) := by decide +kernel
theorem dX6_ownersOf_40 : decode cX6_ownersOf 40 = .ok (.istore 4, 2) := by decide +kernel
theorem dX6_ownersOf_42 : decode cX6_ownersOf 42 = .ok (.iinc 5 1, 3) := by decide +kernel
theorem dX6_ownersOf_45 : decode cX6_ownersOf 45 = .ok (.goto (-39), 3) := by decide +kernel
theorem dX6_ownersOf_48 : decode cX6_ownersOf 48 = .ok (.iload 4, 2) := by decide +kernel
theorem dX6_ownersOf_50 : decode cX6_ownersOf 50 = .ok (.ireturn, 1) := by decide +kernel
theorem dX6_priceOf_0 : decode cX6_priceOf 0 = .ok (.aload_n 0, 1) := by decide +kernel
theorem dX6_priceOf_1 : decode cX6_priceOf 1 = .ok (.iload_n 3, 1) := by decide +kernel
theorem dX6_priceOf_2 : decode cX6_priceOf 2 = .ok (.iconst 1, 1) := by decide +kernel
theorem dX6_priceOf_3 : decode cX6_priceOf 3 = .ok (.invokevirtual 101, 3) := by decide +kernel
theorem dX6_priceOf_6 : decode cX6_priceOf 6 = .ok (.bipush 8, 2) := by decide +kernel
theorem dX6_priceOf_8 : decode cX6_priceOf 8 = .ok (.imul, 1) := by decide +kernel
theorem dX6_priceOf_9 : decode cX6_priceOf 9 = .ok (.aload_n 1, 1) := by decide +kernel
theorem dX6_priceOf_10 : decode cX6_priceOf 10 = .ok (.getfield 19, 3) := by decide +kernel
theorem dX6_priceOf_13 : decode cX6_priceOf 13 = .ok (.iload_n 2, 1) := by decide +kernel
theorem dX6_priceOf_14 : decode cX6_priceOf 14 = .ok (.iaload, 1) := by decide +kernel
theorem dX6_priceOf_15 : decode cX6_priceOf 15 = .ok (.iconst 1, 1) := by decide +kernel
theorem dX6_priceOf_16 : decode cX6_priceOf 16 = .ok (.iadd, 1) := by decide +kernel
theorem dX6_priceOf_17 : decode cX6_priceOf 17 = .ok (.imul, 1) := by decide +kernel
theorem dX6_priceOf_18 : decode cX6_priceOf 18 = .ok (.ireturn, 1) := by decide +kernel
theorem dX7_addSkin_0 : decode cX7_addSkin 0 = .ok (.aload_n 0, 1) := by decide +kernel
theorem dX7_addSkin_1 : decode cX7_addSkin 1 = .ok (.getfield 9, 3) := by decide +kernel
theorem dX7_addSkin_4 : decode cX7_addSkin 4 = .ok (.iload_n 1, 1) := by decide +kernel
theorem dX7_addSkin_5 : decode cX7_addSkin 5 = .ok (.iaload, 1) := by decide +kernel
theorem dX7_addSkin_6 : decode cX7_addSkin 6 = .ok (.bipush 6, 2) := by decide +kernel
theorem dX7_addSkin_8 : decode cX7_addSkin 8 = .ok (.if_icmp .lt 4, 3) := by decide +kernel
theorem dX7_addSkin_11 : decode cX7_addSkin 11 = .ok (.return_, 1) := by decide +kernel
theorem dX7_addSkin_12 : decode cX7_addSkin 12 = .ok (.aload_n 0, 1) := by decide +kernel
theorem dX7_addSkin_13 : decode cX7_addSkin 13 = .ok (.getfield 9, 3) := by decide +kernel
theorem dX7_addSkin_16 : decode cX7_addSkin 16 = .ok (.iload_n 1, 1) := by decide +kernel
theorem dX7_addSkin_17 : decode cX7_addSkin 17 = .ok (.dup2, 1) := by decide +kernel
theorem dX7_addSkin_18 : decode cX7_addSkin 18 = .ok (.iaload, 1) := by decide +kernel
theorem dX7_addSkin_19 : decode cX7_addSkin 19 = .ok (.iconst 1, 1) := by decide +kernel
theorem dX7_addSkin_20 : decode cX7_addSkin 20 = .ok (.iadd, 1) := by decide +kernel
theorem dX7_addSkin_21 : decode cX7_addSkin 21 = .ok (.iastore, 1) := by decide +kernel
theorem dX7_addSkin_22 : decode cX7_addSkin 22 = .ok (.aload_n 0, 1) := by decide +kernel
theorem dX7_addSkin_23 : decode cX7_addSkin 23 = .ok (.getfield 9, 3) := by decide +kernel
theorem dX7_addSkin_26 : decode cX7_addSkin 26 = .ok (.iload_n 1, 1) := by decide +kernel
theorem dX7_addSkin_27 : decode cX7_addSkin 27 = .ok (.iaload, 1) := by decide +kernel
theorem dX7_addSkin_28 : decode cX7_addSkin 28 = .ok (.istore 7, 2) := by decide +kernel
theorem dX7_addSkin_30 : decode cX7_addSkin 30 = .ok (.aload_n 0, 1) := by decide +kernel
theorem dX7_addSkin_31 : decode cX7_addSkin 31 = .ok (.iload_n 1, 1) := by decide +kernel
theorem dX7_addSkin_32 : decode cX7_addSkin 32 = .ok (.iload 7, 2) := by decide +kernel
theorem dX7_addSkin_34 : decode cX7_addSkin 34 = .ok (.iconst 0, 1) := by decide +kernel
theorem dX7_addSkin_35 : decode cX7_addSkin 35 = .ok (.iload_n 2, 1) := by decide +kernel
theorem dX7_addSkin_36 : decode cX7_addSkin 36 = .ok (.invokevirtual 40, 3) := by decide +kernel
theorem dX7_addSkin_39 : decode cX7_addSkin 39 = .ok (.aload_n 0, 1) := by decide +kernel
theorem dX7_addSkin_40 : decode cX7_addSkin 40 = .ok (.iload_n 1, 1) := by decide +kernel
theorem dX7_addSkin_41 : decode cX7_addSkin 41 = .ok (.iload 7, 2) := by decide +kernel
theorem dX7_addSkin_43 : decode cX7_addSkin 43 = .ok (.iconst 1, 1) := by decide +kernel
theorem dX7_addSkin_44 : decode cX7_addSkin 44 = .ok (.iload_n 3, 1) := by decide +kernel
theorem dX7_addSkin_45 : decode cX7_addSkin 45 = .ok (.invokevirtual 40, 3) := by decide +kernel
theorem dX7_addSkin_48 : decode cX7_addSkin 48 = .ok (.aload_n 0, 1) := by decide +kernel
theorem dX7_addSkin_49 : decode cX7_addSkin 49 = .ok (.iload_n 1, 1) := by decide +kernel
theorem dX7_addSkin_50 : decode cX7_addSkin 50 = .ok (.iload 7, 2) := by decide +kernel
theorem dX7_addSkin_52 : decode cX7_addSkin 52 = .ok (.iconst 2, 1) := by decide +kernel
theorem dX7_addSkin_53 : decode cX7_addSkin 53 = .ok (.iload 4, 2) := by decide +kernel
theorem dX7_addSkin_55 : decode cX7_addSkin 55 = .ok (.invokevirtual 40, 3) := by decide +kernel
theorem dX7_addSkin_58 : decode cX7_addSkin 58 = .ok (.aload_n 0, 1) := by decide +kernel
theorem dX7_addSkin_59 : decode cX7_addSkin 59 = .ok (.iload_n 1, 1) := by decide +kernel
theorem dX7_addSkin_60 : decode cX7_addSkin 60 = .ok (.iload 7, 2) := by decide +kernel
theorem dX7_addSkin_62 : decode cX7_addSkin 62 = .ok (.iconst 3, 1) := by decide +kernel
theorem dX7_addSkin_63 : decode cX7_addSkin 63 = .ok (.iload 5, 2) := by decide +kernel
theorem dX7_addSkin_65 : decode cX7_addSkin 65 = .ok (.invokevirtual 40, 3) := by decide +kernel
theorem dX7_addSkin_68 : decode cX7_addSkin 68 = .ok (.aload_n 0, 1) := by decide +kernel
theorem dX7_addSkin_69 : decode cX7_addSkin 69 = .ok (.iload_n 1, 1) := by decide +kernel
theorem dX7_addSkin_70 : decode cX7_addSkin 70 = .ok (.iload 7, 2) := by decide +kernel
theorem dX7_addSkin_72 : decode cX7_addSkin 72 = .ok (.iconst 4, 1) := by decide +kernel
theorem dX7_addSkin_73 : decode cX7_addSkin 73 = .ok (.iconst 0, 1) := by decide +kernel
theorem dX7_addSkin_74 : decode cX7_addSkin 74 = .ok (.invokevirtual 40, 3) := by decide +kernel
theorem dX7_addSkin_77 : decode cX7_addSkin 77 = .ok (.aload_n 0, 1) := by decide +kernel
theorem dX7_addSkin_78 : decode cX7_addSkin 78 = .ok (.iload_n 1, 1) := by decide +kernel
theorem dX7_addSkin_79 : decode cX7_addSkin 79 = .ok (.iload 7, 2) := by decide +kernel
theorem dX7_addSkin_81 : decode cX7_addSkin 81 = .ok (.iconst 5, 1) := by decide +kernel
theorem dX7_addSkin_82 : decode cX7_addSkin 82 = .ok (.iconst 0, 1) := by decide +kernel
theorem dX7_addSkin_83 : decode cX7_addSkin 83 = .ok (.invokevirtual 40, 3) := by decide +kernel
theorem dX7_addSkin_86 : decode cX7_addSkin 86 = .ok (.aload_n 0, 1) := by decide +kernel
theorem dX7_addSkin_87 : decode cX7_addSkin 87 = .ok (.iload_n 1, 1) := by decide +kernel
theorem dX7_addSkin_88 : decode cX7_addSkin 88 = .ok (.iload 7, 2) := by decide +kernel
theorem dX7_addSkin_90 : decode cX7_addSkin 90 = .ok (.bipush 6, 2) := by decide +kernel
theorem dX7_addSkin_92 : decode cX7_addSkin 92 = .ok (.iconst 0, 1) := by decide +kernel
theorem dX7_addSkin_93 : decode cX7_addSkin 93 = .ok (.invokevirtual 40, 3) := by decide +kernel
theorem dX7_addSkin_96 : decode cX7_addSkin 96 = .ok (.aload_n 0, 1) := by decide +kernel
theorem dX7_addSkin_97 : decode cX7_addSkin 97 = .ok (.iload_n 1, 1) := by decide +kernel
theorem dX7_addSkin_98 : decode cX7_addSkin 98 = .ok (.iload 7, 2) := by decide +kernel
theorem dX7_addSkin_100 : decode cX7_addSkin 100 = .ok (.bipush 7, 2) := by decide +kernel
theorem dX7_addSkin_102 : decode cX7_addSkin 102 = .ok (.iload 6, 2) := by decide +kernel
theorem dX7_addSkin_104 : decode cX7_addSkin 104 = .ok (.invokevirtual 40, 3) := by decide +kernel
theorem dX7_addSkin_107 : decode cX7_addSkin 107 = .ok (.return_, 1) := by decide +kernel
theorem dX7_clear_0 : decode cX7_clear 0 = .ok (.aload_n 0, 1) := by decide +kernel
theorem dX7_clear_1 : decode cX7_clear 1 = .ok (.iconst 0, 1) := by decide +kernel
theorem dX7_clear_2 : decode cX7_clear 2 = .ok (.putfield 27, 3) := by decide +kernel
theorem dX7_clear_5 : decode cX7_clear 5 = .ok (.aload_n 0, 1) := by decide +kernel
theorem dX7_clear_6 : decode cX7_clear 6 = .ok (.iconst 0, 1) := by decide +kernel
theorem dX7_clear_7 : decode cX7_clear 7 = .ok (.putfield 31, 3) := by decide +kernel
theorem dX7_clear_10 : decode cX7_clear 10 = .ok (.iconst 0, 1) := by decide +kernel
theorem dX7_clear_11 : decode cX7_clear 11 = .ok (.istore_n 1, 1) := by decide +kernel
theorem dX7_clear_12 : decode cX7_clear 12 = .ok (.iload_n 1, 1) := by decide +kernel
theorem dX7_clear_13 : decode cX7_clear 13 = .ok (.iconst 4, 1) := by decide +kernel
theorem dX7_clear_14 : decode cX7_clear 14 = .ok (.if_icmp .ge 16, 3) := by decide +kernel
theorem dX7_clear_17 : decode cX7_clear 17 = .ok (.aload_n 0, 1) := by decide +kernel
theorem dX7_clear_18 : decode cX7_clear 18 = .ok (.getfield 9, 3) := by decide +kernel
theorem dX7_clear_21 : decode cX7_clear 21 = .ok (.iload_n 1, 1) := by decide +kernel
theorem dX7_clear_22 : decode cX7_clear 22 = .ok (.iconst 0, 1) := by decide +kernel
theorem dX7_clear_23 : decode cX7_clear 23 = .ok (.iastore, 1) := by decide +kernel
theorem dX7_clear_24 : decode cX7_clear 24 = .ok (.iinc 1 1, 3) := by decide +kernel
theorem dX7_clear_27 : decode cX7_clear 27 = .ok (.goto (-15), 3) := by decide +kernel
theorem dX7_clear_30 : decode cX7_clear 30 = .ok (.return_, 1) := by decide +kernel
theorem dX7_doorOf_0 : decode cX7_doorOf 0 = .ok (.iload_n 2, 1) := by decide +kernel
theorem dX7_doorOf_1 : decode cX7_doorOf 1 = .ok (.aload_n 0, 1) := by decide +kernel
theorem dX7_doorOf_2 : decode cX7_doorOf 2 = .ok (.iload_n 1, 1) := by decide +kernel
theorem dX7_doorOf_3 : decode cX7_doorOf 3 = .ok (.iload_n 2, 1) := by decide +kernel
theorem dX7_doorOf_4 : decode cX7_doorOf 4 = .ok (.iconst 1, 1) := by decide +kernel
theorem dX7_doorOf_5 : decode cX7_doorOf 5 = .ok (.invokevirtual 44, 3) := by decide +kernel
theorem dX7_doorOf_8 : decode cX7_doorOf 8 = .ok (.aload_n 0, 1) := by decide +kernel
theorem dX7_doorOf_9 : decode cX7_doorOf 9 = .ok (.iload_n 1, 1) := by decide +kernel
theorem dX7_doorOf_10 : decode cX7_doorOf 10 = .ok (.iload_n 2, 1) := by decide +kernel
theorem dX7_doorOf_11 : decode cX7_doorOf 11 = .ok (.iconst 2, 1) := by decide +kernel
theorem dX7_doorOf_12 : decode cX7_doorOf 12 = .ok (.invokevirtual 44, 3) := by decide +kernel
theorem dX7_doorOf_15 : decode cX7_doorOf 15 = .ok (.invokestatic 52, 3) := by decide +kernel
theorem dX7_doorOf_18 : decode cX7_doorOf 18 = .ok (.ireturn, 1) := by decide +kernel
theorem dX7_draw_0 : decode cX7_draw 0 = .ok (.aload_n 0, 1) := by decide +kernel
theorem dX7_draw_1 : decode cX7_draw 1 = .ok (.bipush 75, 2) := by decide +kernel
theorem dX7_draw_3 : decode cX7_draw 3 = .ok (.aload_n 0, 1) := by decide +kernel
theorem dX7_draw_4 : decode cX7_draw 4 = .ok (.getfield 31, 3) := by decide +kernel
theorem dX7_draw_7 : decode cX7_draw 7 = .ok (.imul, 1) := by decide +kernel
theorem dX7_draw_8 : decode cX7_draw 8 = .ok (.bipush 74, 2) := by decide +kernel
theorem dX7_draw_10 : decode cX7_draw 10 = .ok (.iadd, 1) := by decide +kernel
theorem dX7_draw_11 : decode cX7_draw 11 = .ok (.ldc 73, 2) := by decide +kernel
theorem dX7_draw_13 : decode cX7_draw 13 = .ok (.irem, 1) := by decide +kernel
theorem dX7_draw_14 : decode cX7_draw 14 = .ok (.putfield 31, 3) := by decide +kernel
theorem dX7_draw_17 : decode cX7_draw 17 = .ok (.aload_n 0, 1) := by decide +kernel
theorem dX7_draw_18 : decode cX7_draw 18 = .ok (.getfield 31, 3) := by decide +kernel
theorem dX7_draw_21 : decode cX7_draw 21 = .ok (.ireturn, 1) := by decide +kernel
theorem dX7_fallen_0 : decode cX7_fallen 0 = .ok (.iconst 0, 1) := by decide +kernel
theorem dX7_fallen_1 : decode cX7_fallen 1 = .ok (.istore_n 2, 1) := by decide +kernel
theorem dX7_fallen_2 : decode cX7_fallen 2 = .ok (.iconst 1, 1) := by decide +kernel
theorem dX7_fallen_3 : decode cX7_fallen 3 = .ok (.istore_n 3, 1) := by decide +kernel
theorem dX7_fallen_4 : decode cX7_fallen 4 = .ok (.iload_n 3, 1) := by decide +kernel
theorem dX7_fallen_5 : decode cX7_fallen 5 = .ok (.aload_n 0, 1) := by decide +kernel
theorem dX7_fallen_6 : decode cX7_fallen 6 = .ok (.getfield 9, 3) := by decide +kernel
theorem dX7_fallen_9 : decode cX7_fallen 9 = .ok (.iload_n 1, 1) := by decide +kernel
theorem dX7_fallen_10 : decode cX7_fallen 10 = .ok (.iaload, 1) := by decide +kernel
theorem dX7_fallen_11 : decode cX7_fallen 11 = .ok (.if_icmp .gt 21, 3) := by decide +kernel
theorem dX7_fallen_14 : decode cX7_fallen 14 = .ok (.aload_n 0, 1) := by decide +kernel
theorem dX7_fallen_15 : decode cX7_fallen 15 = .ok (.iload_n 1, 1) := by decide +kernel
theorem dX7_fallen_16 : decode cX7_fallen 16 = .ok (.iload_n 3, 1) := by decide +kernel
theorem dX7_fallen_17 : decode cX7_fallen 17 = .ok (.invokevirtual 48, 3) := by decide +kernel
theorem dX7_fallen_20 : decode cX7_fallen 20 = .ok (.ifCond .ne 6, 3) := by decide +kernel
theorem dX7_fallen_23 : decode cX7_fallen 23 = .ok (.iinc 2 1, 3) := by decide +kernel
theorem dX7_fallen_26 : decode cX7_fallen 26 = .ok (.iinc 3 1, 3) := by decide +kernel
theorem dX7_fallen_29 : decode cX7_fallen 29 = .ok (.goto (-25), 3) := by decide +kernel
theorem dX7_fallen_32 : decode cX7_fallen 32 = .ok (.iload_n 2, 1) := by decide +kernel
theorem dX7_fallen_33 : decode cX7_fallen 33 = .ok (.ireturn, 1) := by decide +kernel
theorem dX7_inmost_0 : decode cX7_inmost 0 = .ok (.iconst 1, 1) := by decide +kernel
theorem dX7_inmost_1 : decode cX7_inmost 1 = .ok (.istore_n 2, 1) := by decide +kernel
theorem dX7_inmost_2 : decode cX7_inmost 2 = .ok (.iload_n 2, 1) := by decide +kernel
theorem dX7_inmost_3 : decode cX7_inmost 3 = .ok (.aload_n 0, 1) := by decide +kernel
theorem dX7_inmost_4 : decode cX7_inmost 4 = .ok (.getfield 9, 3) := by decide +kernel
theorem dX7_inmost_7 : decode cX7_inmost 7 = .ok (.iload_n 1, 1) := by decide +kernel
theorem dX7_inmost_8 : decode cX7_inmost 8 = .ok (.iaload, 1) := by decide +kernel
theorem dX7_inmost_9 : decode cX7_inmost 9 = .ok (.if_icmp .gt 20, 3) := by decide +kernel
theorem dX7_inmost_12 : decode cX7_inmost 12 = .ok (.aload_n 0, 1) := by decide +kernel
theorem dX7_inmost_13 : decode cX7_inmost 13 = .ok (.iload_n 1, 1) := by decide +kernel
theorem dX7_inmost_14 : decode cX7_inmost 14 = .ok (.iload_n 2, 1) := by decide +kernel
theorem dX7_inmost_15 : decode cX7_inmost 15 = .ok (.invokevirtual 48, 3) := by decide +kernel
theorem dX7_inmost_18 : decode cX7_inmost 18 = .ok (.ifCond .eq 5, 3) := by decide +kernel
theorem dX7_inmost_21 : decode cX7_inmost 21 = .ok (.iload_n 2, 1) := by decide +kernel
theorem dX7_inmost_22 : decode cX7_inmost 22 = .ok (.ireturn, 1) := by decide +kernel
theorem dX7_inmost_23 : decode cX7_inmost 23 = .ok (.iinc 2 1, 3) := by decide +kernel
theorem dX7_inmost_26 : decode cX7_inmost 26 = .ok (.goto (-24), 3) := by decide +kernel
theorem dX7_inmost_29 : decode cX7_inmost 29 = .ok (.iconst 0, 1) := by decide +kernel
theorem dX7_inmost_30 : decode cX7_inmost 30 = .ok (.ireturn, 1) := by decide +kernel
theorem dX7_isCrowded_0 : decode cX7_isCrowded 0 = .ok (.aload_n 0, 1) := by decide +kernel
theorem dX7_isCrowded_1 : decode cX7_isCrowded 1 = .ok (.getfield 9, 3) := by decide +kernel
theorem dX7_isCrowded_4 : decode cX7_isCrowded 4 = .ok (.iload_n 1, 1) := by decide +kernel
theorem dX7_isCrowded_5 : decode cX7_isCrowded 5 = .ok (.iaload, 1) := by decide +kernel
theorem dX7_isCrowded_6 : decode cX7_isCrowded 6 = .ok (.ifCond .ne 7, 3) := by decide +kernel
theorem dX7_isCrowded_9 : decode cX7_isCrowded 9 = .ok (.iconst 1, 1) := by decide +kernel
theorem dX7_isCrowded_10 : decode cX7_isCrowded 10 = .ok (.goto 12, 3) := by decide +kernel
theorem dX7_isCrowded_13 : decode cX7_isCrowded 13 = .ok (.bipush 8, 2) := by decide +kernel
theorem dX7_isCrowded_15 : decode cX7_isCrowded 15 = .ok (.aload_n 0, 1) := by decide +kernel
theorem dX7_isCrowded_16 : decode cX7_isCrowded 16 = .ok (.getfield 9, 3) := by decide +kernel
theorem dX7_isCrowded_19 : decode cX7_isCrowded 19 = .ok (.iload_n 1, 1) := by decide +kernel
theorem dX7_isCrowded_20 : decode cX7_isCrowded 20 = .ok (.iaload, 1) := by decide +kernel
theorem dX7_isCrowded_21 : decode cX7_isCrowded 21 = .ok (.imul, 1) := by decide +kernel
theorem dX7_isCrowded_22 : decode cX7_isCrowded 22 = .ok (.istore_n 2, 1) := by decide +kernel
theorem dX7_isCrowded_23 : decode cX7_isCrowded 23 = .ok (.aload_n 0, 1) := by decide +kernel
theorem dX7_isCrowded_24 : decode cX7_isCrowded 24 = .ok (.getfield 15, 3) := by decide +kernel
theorem dX7_isCrowded_27 : decode cX7_isCrowded 27 = .ok (.iload_n 1, 1) := by decide +kernel
theorem dX7_isCrowded_28 : decode cX7_isCrowded 28 = .ok (.iaload, 1) := by decide +kernel
theorem dX7_isCrowded_29 : decode cX7_isCrowded 29 = .ok (.iload_n 2, 1) := by decide +kernel
theorem dX7_isCrowded_30 : decode cX7_isCrowded 30 = .ok (.if_icmp .le 7, 3) := by decide +kernel
theorem dX7_isCrowded_33 : decode cX7_isCrowded 33 = .ok (.iconst 1, 1) := by decide +kernel
theorem dX7_isCrowded_34 : decode cX7_isCrowded 34 = .ok (.goto 4, 3) := by decide +kernel
theorem dX7_isCrowded_37 : decode cX7_isCrowded 37 = .ok (.iconst 0, 1) := by decide +kernel
theorem dX7_isCrowded_38 : decode cX7_isCrowded 38 = .ok (.ireturn, 1) := by decide +kernel
theorem dX7_isOpen_0 : decode cX7_isOpen 0 = .ok (.aload_n 0, 1) := by decide +kernel
theorem dX7_isOpen_1 : decode cX7_isOpen 1 = .ok (.iload_n 1, 1) := by decide +kernel
theorem dX7_isOpen_2 : decode cX7_isOpen 2 = .ok (.iload_n 2, 1) := by decide +kernel
theorem dX7_isOpen_3 : decode cX7_isOpen 3 = .ok (.invokevirtual 48, 3) := by decide +kernel
theorem dX7_isOpen_6 : decode cX7_isOpen 6 = .ok (.ifCond .eq 18, 3) := by decide +kernel
theorem dX7_isOpen_9 : decode cX7_isOpen 9 = .ok (.aload_n 0, 1) := by decide +kernel
theorem dX7_isOpen_10 : decode cX7_isOpen 10 = .ok (.iload_n 1, 1) := by decide +kernel
theorem dX7_isOpen_11 : decode cX7_isOpen 11 = .ok (.iload_n 2, 1) := by decide +kernel
theorem dX7_isOpen_12 : decode cX7_isOpen 12 = .ok (.bipush 6, 2) := by decide +kernel
theorem dX7_isOpen_14 : decode cX7_isOpen 14 = .ok (.invokevirtual 44, 3) := by decide +kernel
theorem dX7_isOpen_17 : decode cX7_isOpen 17 = .ok (.ifCond .ne 7, 3) := by decide +kernel
theorem dX7_isOpen_20 : decode cX7_isOpen 20 = .ok (.iconst 1, 1) := by decide +kernel
theorem dX7_isOpen_21 : decode cX7_isOpen 21 = .ok (.goto 4, 3) := by decide +kernel
theorem dX7_isOpen_24 : decode cX7_isOpen 24 = .ok (.iconst 0, 1) := by decide +kernel
theorem dX7_isOpen_25 : decode cX7_isOpen 25 = .ok (.ireturn, 1) := by decide +kernel
theorem dX7_partOf_0 : decode cX7_partOf 0 = .ok (.iload_n 1, 1) := by decide +kernel
theorem dX7_partOf_1 : decode cX7_partOf 1 = .ok (.bipush 6, 2) := by decide +kernel
theorem dX7_partOf_3 : decode cX7_partOf 3 = .ok (.imul, 1) := by decide +kernel
theorem dX7_partOf_4 : decode cX7_partOf 4 = .ok (.iload_n 2, 1) := by decide +kernel
theorem dX7_partOf_5 : decode cX7_partOf 5 = .ok (.iadd, 1) := by decide +kernel
theorem dX7_partOf_6 : decode cX7_partOf 6 = .ok (.iconst 1, 1) := by decide +kernel
theorem dX7_partOf_7 : decode cX7_partOf 7 = .ok (.isub, 1) := by decide +kernel
theorem dX7_partOf_8 : decode cX7_partOf 8 = .ok (.bipush 8, 2) := by decide +kernel
theorem dX7_partOf_10 : decode cX7_partOf 10 = .ok (.imul, 1) := by decide +kernel
theorem dX7_partOf_11 : decode cX7_partOf 11 = .ok (.iload_n 3, 1) := by decide +kernel
theorem dX7_partOf_12 : decode cX7_partOf 12 = .ok (.iadd, 1) := by decide +kernel
theorem dX7_partOf_13 : decode cX7_partOf 13 = .ok (.istore 4, 2) := by decide +kernel
theorem dX7_partOf_15 : decode cX7_partOf 15 = .ok (.iload 4, 2) := by decide +kernel
theorem dX7_partOf_17 : decode cX7_partOf 17 = .ok (.ifCond .lt 23, 3) := by decide +kernel
theorem dX7_partOf_20 : decode cX7_partOf 20 = .ok (.iload 4, 2) := by decide +kernel
theorem dX7_partOf_22 : decode cX7_partOf 22 = .ok (.aload_n 0, 1) := by decide +kernel
theorem dX7_partOf_23 : decode cX7_partOf 23 = .ok (.getfield 24, 3) := by decide +kernel
theorem dX7_partOf_26 : decode cX7_partOf 26 = .ok (.arraylength, 1) := by decide +kernel
theorem dX7_partOf_27 : decode cX7_partOf 27 = .ok (.if_icmp .ge 13, 3) := by decide +kernel
theorem dX7_partOf_30 : decode cX7_partOf 30 = .ok (.aload_n 0, 1) := by decide +kernel
theorem dX7_partOf_31 : decode cX7_partOf 31 = .ok (.getfield 24, 3) := by decide +kernel
theorem dX7_partOf_34 : decode cX7_partOf 34 = .ok (.iload 4, 2) := by decide +kernel
theorem dX7_partOf_36 : decode cX7_partOf 36 = .ok (.iaload, 1) := by decide +kernel
theorem dX7_partOf_37 : decode cX7_partOf 37 = .ok (.goto 4, 3) := by decide +kernel
theorem dX7_partOf_40 : decode cX7_partOf 40 = .ok (.iconst 0, 1) := by decide +kernel
theorem dX7_partOf_41 : decode cX7_partOf 41 = .ok (.ireturn, 1) := by decide +kernel
theorem dX7_roundIn_0 : decode cX7_roundIn 0 = .ok (.iload_n 2, 1) := by decide +kernel
theorem dX7_roundIn_1 : decode cX7_roundIn 1 = .ok (.aload_n 0, 1) := by decide +kernel
theorem dX7_roundIn_2 : decode cX7_roundIn 2 = .ok (.iload_n 1, 1) := by decide +kernel
theorem dX7_roundIn_3 : decode cX7_roundIn 3 = .ok (.iload_n 2, 1) := by decide +kernel
theorem dX7_roundIn_4 : decode cX7_roundIn 4 = .ok (.invokevirtual 57, 3) := by decide +kernel
theorem dX7_roundIn_7 : decode cX7_roundIn 7 = .ok (.iload_n 2, 1) := by decide +kernel
theorem dX7_roundIn_8 : decode cX7_roundIn 8 = .ok (.iconst 1, 1) := by decide +kernel
theorem dX7_roundIn_9 : decode cX7_roundIn 9 = .ok (.isub, 1) := by decide +kernel
theorem dX7_roundIn_10 : decode cX7_roundIn 10 = .ok (.aload_n 0, 1) := by decide +kernel
theorem dX7_roundIn_11 : decode cX7_roundIn 11 = .ok (.iload_n 1, 1) := by decide +kernel
theorem dX7_roundIn_12 : decode cX7_roundIn 12 = .ok (.iload_n 2, 1) := by decide +kernel
theorem dX7_roundIn_13 : decode cX7_roundIn 13 = .ok (.iconst 1, 1) := by decide +kernel
theorem dX7_roundIn_14 : decode cX7_roundIn 14 = .ok (.isub, 1) := by decide +kernel
theorem dX7_roundIn_15 : decode cX7_roundIn 15 = .ok (.invokevirtual 57, 3) := by decide +kernel
theorem dX7_roundIn_18 : decode cX7_roundIn 18 = .ok (.invokestatic 61, 3) := by decide +kernel
theorem dX7_roundIn_21 : decode cX7_roundIn 21 = .ok (.invokestatic 64, 3) := by decide +kernel
theorem dX7_roundIn_24 : decode cX7_roundIn 24 = .ok (.ireturn, 1) := by decide +kernel
theorem dX7_setPart_0 : decode cX7_setPart 0 = .ok (.iload_n 1, 1) := by decide +kernel
theorem dX7_setPart_1 : decode cX7_setPart 1 = .ok (.bipush 6, 2) := by decide +kernel
theorem dX7_setPart_3 : decode cX7_setPart 3 = .ok (.imul, 1) := by decide +kernel
theorem dX7_setPart_4 : decode cX7_setPart 4 = .ok (.iload_n 2, 1) := by decide +kernel
theorem dX7_setPart_5 : decode cX7_setPart 5 = .ok (.iadd, 1) := by decide +kernel
theorem dX7_setPart_6 : decode cX7_setPart 6 = .ok (.iconst 1, 1) := by decide +kernel
theorem dX7_setPart_7 : decode cX7_setPart 7 = .ok (.isub, 1) := by decide +kernel
theorem dX7_setPart_8 : decode cX7_setPart 8 = .ok (.bipush 8, 2) := by decide +kernel
theorem dX7_setPart_10 : decode cX7_setPart 10 = .ok (.imul, 1) := by decide +kernel
theorem dX7_setPart_11 : decode cX7_setPart 11 = .ok (.iload_n 3, 1) := by decide +kernel
theorem dX7_setPart_12 : decode cX7_setPart 12 = .ok (.iadd, 1) := by decide +kernel
theorem dX7_setPart_13 : decode cX7_setPart 13 = .ok (.istore 5, 2) := by decide +kernel
theorem dX7_setPart_15 : decode cX7_setPart 15 = .ok (.iload 5, 2) := by decide +kernel
theorem dX7_setPart_17 : decode cX7_setPart 17 = .ok (.ifCond .lt 22, 3) := by decide +kernel
theorem dX7_setPart_20 : decode cX7_setPart 20 = .ok (.iload 5, 2) := by decide +kernel
theorem dX7_setPart_22 : decode cX7_setPart 22 = .ok (.aload_n 0, 1) := by decide +kernel
theorem dX7_setPart_23 : decode cX7_setPart 23 = .ok (.getfield 24, 3) := by decide +kernel
theorem dX7_setPart_26 : decode cX7_setPart 26 = .ok (.arraylength, 1) := by decide +kernel
theorem dX7_setPart_27 : decode cX7_setPart 27 = .ok (.if_icmp .ge 12, 3) := by decide +kernel
theorem dX7_setPart_30 : decode cX7_setPart 30 = .ok (.aload_n 0, 1) := by decide +kernel
theorem dX7_setPart_31 : decode cX7_setPart 31 = .ok (.getfield 24, 3) := by decide +kernel
theorem dX7_setPart_34 : decode cX7_setPart 34 = .ok (.iload 5, 2) := by decide +kernel
theorem dX7_setPart_36 : decode cX7_setPart 36 = .ok (.iload 4, 2) := by decide +kernel
theorem dX7_setPart_38 : decode cX7_setPart 38 = .ok (.iastore, 1) := by decide +kernel
theorem dX7_setPart_39 : decode cX7_setPart 39 = .ok (.return_, 1) := by decide +kernel
theorem dX7_skinsOfAll_0 : decode cX7_skinsOfAll 0 = .ok (.iconst 0, 1) := by decide +kernel
theorem dX7_skinsOfAll_1 : decode cX7_skinsOfAll 1 = .ok (.istore_n 1, 1) := by decide +kernel
theorem dX7_skinsOfAll_2 : decode cX7_skinsOfAll 2 = .ok (.iconst 0, 1) := by decide +kernel
theorem dX7_skinsOfAll_3 : decode cX7_skinsOfAll 3 = .ok (.istore_n 2, 1) := by decide +kernel
theorem dX7_skinsOfAll_4 : decode cX7_skinsOfAll 4 = .ok (.iload_n 2, 1) := by decide +kernel
theorem dX7_skinsOfAll_5 : decode cX7_skinsOfAll 5 = .ok (.iconst 4, 1) := by decide +kernel
theorem dX7_skinsOfAll_6 : decode cX7_skinsOfAll 6 = .ok (.if_icmp .ge 18, 3) := by decide +kernel
theorem dX7_skinsOfAll_9 : decode cX7_skinsOfAll 9 = .ok (.iload_n 1, 1) := by decide +kernel
theorem dX7_skinsOfAll_10 : decode cX7_skinsOfAll 10 = .ok (.aload_n 0, 1) := by decide +kernel
theorem dX7_skinsOfAll_11 : decode cX7_skinsOfAll 11 = .ok (.getfield 9, 3) := by decide +kernel
theorem dX7_skinsOfAll_14 : decode cX7_skinsOfAll 14 = .ok (.iload_n 2, 1) := by decide +kernel
theorem dX7_skinsOfAll_15 : decode cX7_skinsOfAll 15 = .ok (.iaload, 1) := by decide +kernel
theorem dX7_skinsOfAll_16 : decode cX7_skinsOfAll 16 = .ok (.iadd, 1) := by decide +kernel
theorem dX7_skinsOfAll_17 : decode cX7_skinsOfAll 17 = .ok (.istore_n 1, 1) := by decide +kernel
theorem dX7_skinsOfAll_18 : decode cX7_skinsOfAll 18 = .ok (.iinc 2 1, 3) := by decide +kernel
theorem dX7_skinsOfAll_21 : decode cX7_skinsOfAll 21 = .ok (.goto (-17), 3) := by decide +kernel
theorem dX7_skinsOfAll_24 : decode cX7_skinsOfAll 24 = .ok (.iload_n 1, 1) := by decide +kernel
theorem dX7_skinsOfAll_25 : decode cX7_skinsOfAll 25 = .ok (.ireturn, 1) := by decide +kernel
theorem dX7_stands_0 : decode cX7_stands 0 = .ok (.aload_n 0, 1) := by decide +kernel
theorem dX7_stands_1 : decode cX7_stands 1 = .ok (.iload_n 1, 1) := by decide +kernel
theorem dX7_stands_2 : decode cX7_stands 2 = .ok (.iload_n 2, 1) := by decide +kernel
theorem dX7_stands_3 : decode cX7_stands 3 = .ok (.iconst 5, 1) := by decide +kernel
theorem dX7_stands_4 : decode cX7_stands 4 = .ok (.invokevirtual 44, 3) := by decide +kernel
theorem dX7_stands_7 : decode cX7_stands 7 = .ok (.ifCond .ne 7, 3) := by decide +kernel
theorem dX7_stands_10 : decode cX7_stands 10 = .ok (.iconst 1, 1) := by decide +kernel
theorem dX7_stands_11 : decode cX7_stands 11 = .ok (.goto 4, 3) := by decide +kernel
theorem dX7_stands_14 : decode cX7_stands 14 = .ok (.iconst 0, 1) := by decide +kernel
theorem dX7_stands_15 : decode cX7_stands 15 = .ok (.ireturn, 1) := by decide +kernel
theorem dX7_wayTo_0 : decode cX7_wayTo 0 = .ok (.aload_n 0, 1) := by decide +kernel
theorem dX7_wayTo_1 : decode cX7_wayTo 1 = .ok (.getfield 9, 3) := by decide +kernel
theorem dX7_wayTo_4 : decode cX7_wayTo 4 = .ok (.iload_n 1, 1) := by decide +kernel
theorem dX7_wayTo_5 : decode cX7_wayTo 5 = .ok (.iaload, 1) := by decide +kernel
theorem dX7_wayTo_6 : decode cX7_wayTo 6 = .ok (.ifCond .ne 5, 3) := by decide +kernel
theorem dX7_wayTo_9 : decode cX7_wayTo 9 = .ok (.iconst 0, 1) := by decide +kernel
theorem dX7_wayTo_10 : decode cX7_wayTo 10 = .ok (.ireturn, 1) := by decide +kernel
theorem dX7_wayTo_11 : decode cX7_wayTo 11 = .ok (.iload_n 2, 1) := by decide +kernel
theorem dX7_wayTo_12 : decode cX7_wayTo 12 = .ok (.iconst 1, 1) := by decide +kernel
theorem dX7_wayTo_13 : decode cX7_wayTo 13 = .ok (.if_icmp .ge 7, 3) := by decide +kernel
theorem dX7_wayTo_16 : decode cX7_wayTo 16 = .ok (.iconst 1, 1) := by decide +kernel
theorem dX7_wayTo_17 : decode cX7_wayTo 17 = .ok (.goto 4, 3) := by decide +kernel
theorem dX7_wayTo_20 : decode cX7_wayTo 20 = .ok (.iload_n 2, 1) := by decide +kernel
theorem dX7_wayTo_21 : decode cX7_wayTo 21 = .ok (.istore_n 3, 1) := by decide +kernel
theorem dX7_wayTo_22 : decode cX7_wayTo 22 = .ok (.iload_n 2, 1) := by decide +kernel
theorem dX7_wayTo_23 : decode cX7_wayTo 23 = .ok (.iconst 1, 1) := by decide +kernel
theorem dX7_wayTo_24 : decode cX7_wayTo 24 = .ok (.if_icmp .ge 7, 3) := by decide +kernel
theorem dX7_wayTo_27 : decode cX7_wayTo 27 = .ok (.iconst 1, 1) := by decide +kernel
theorem dX7_wayTo_28 : decode cX7_wayTo 28 = .ok (.goto 4, 3) := by decide +kernel
theorem dX7_wayTo_31 : decode cX7_wayTo 31 = .ok (.iconst 0, 1) := by decide +kernel
theorem dX7_wayTo_32 : decode cX7_wayTo 32 = .ok (.istore 4, 2) := by decide +kernel
theorem dX7_wayTo_34 : decode cX7_wayTo 34 = .ok (.aload_n 0, 1) := by decide +kernel
theorem dX7_wayTo_35 : decode cX7_wayTo 35 = .ok (.getfield 9, 3) := by decide +kernel
theorem dX7_wayTo_38 : decode cX7_wayTo 38 = .ok (.iload_n 1, 1) := by decide +kernel
theorem dX7_wayTo_39 : decode cX7_wayTo 39 = .ok (.iaload, 1) := by decide +kernel
theorem dX7_wayTo_40 : decode cX7_wayTo 40 = .ok (.istore 5, 2) := by decide +kernel
theorem dX7_wayTo_42 : decode cX7_wayTo 42 = .ok (.iload 5, 2) := by decide +kernel
theorem dX7_wayTo_44 : decode cX7_wayTo 44 = .ok (.iload_n 3, 1) := by decide +kernel
theorem dX7_wayTo_45 : decode cX7_wayTo 45 = .ok (.if_icmp .lt 43, 3) := by decide +kernel
theorem dX7_wayTo_48 : decode cX7_wayTo 48 = .ok (.aload_n 0, 1) := by decide +kernel
theorem dX7_wayTo_49 : decode cX7_wayTo 49 = .ok (.iload_n 1, 1) := by decide +kernel
theorem dX7_wayTo_50 : decode cX7_wayTo 50 = .ok (.iload 5, 2) := by decide +kernel
theorem dX7_wayTo_52 : decode cX7_wayTo 52 = .ok (.invokevirtual 67, 3) := by decide +kernel
theorem dX7_wayTo_55 : decode cX7_wayTo 55 = .ok (.ifCond .ne 6, 3) := by decide +kernel
theorem dX7_wayTo_58 : decode cX7_wayTo 58 = .ok (.bipush (-2), 2) := by decide +kernel
theorem dX7_wayTo_60 : decode cX7_wayTo 60 = .ok (.ireturn, 1) := by decide +kernel
theorem dX7_wayTo_61 : decode cX7_wayTo 61 = .ok (.iinc 4 1, 3) := by decide +kernel
theorem dX7_wayTo_64 : decode cX7_wayTo 64 = .ok (.iload 5, 2) := by decide +kernel
theorem dX7_wayTo_66 : decode cX7_wayTo 66 = .ok (.iload_n 3, 1) := by decide +kernel
theorem dX7_wayTo_67 : decode cX7_wayTo 67 = .ok (.if_icmp .le 15, 3) := by decide +kernel
theorem dX7_wayTo_70 : decode cX7_wayTo 70 = .ok (.iload 4, 2) := by decide +kernel
theorem dX7_wayTo_72 : decode cX7_wayTo 72 = .ok (.aload_n 0, 1) := by decide +kernel
theorem dX7_wayTo_73 : decode cX7_wayTo 73 = .ok (.iload_n 1, 1) := by decide +kernel
theorem dX7_wayTo_74 : decode cX7_wayTo 74 = .ok (.iload 5, 2) := by decide +kernel
theorem dX7_wayTo_76 : decode cX7_wayTo 76 = .ok (.invokevirtual 70, 3) := by decide +kernel
theorem dX7_wayTo_79 : decode cX7_wayTo 79 = .ok (.iadd, 1) := by decide +kernel
theorem dX7_wayTo_80 : decode cX7_wayTo 80 = .ok (.istore 4, 2) := by decide +kernel
theorem dX7_wayTo_82 : decode cX7_wayTo 82 = .ok (.iinc 5 (-1), 3) := by decide +kernel
theorem dX7_wayTo_85 : decode cX7_wayTo 85 = .ok (.goto (-43), 3) := by decide +kernel
theorem dX7_wayTo_88 : decode cX7_wayTo 88 = .ok (.iload 4, 2) := by decide +kernel
theorem dX7_wayTo_90 : decode cX7_wayTo 90 = .ok (.ireturn, 1) := by decide +kernel
