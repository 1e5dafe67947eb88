theorem dJ0_charAt_5068e_0 : decode cJ0_charAt_5068e 0 = .ok (.aload_n 0, 1) := by decide +kernel
theorem dJ0_charAt_5068e_1 : decode cJ0_charAt_5068e 1 = .ok (.invokevirtual 492, 3) := by decide +kernel
theorem dJ0_charAt_5068e_4 : decode cJ0_charAt_5068e 4 = .ok (.ifCond .eq 12, 3) := by decide +kernel
theorem dJ0_charAt_5068e_7 : decode cJ0_charAt_5068e 7 = .ok (.aload_n 0, 1) := by decide +kernel
theorem dJ0_charAt_5068e_8 : decode cJ0_charAt_5068e 8 = .ok (.getfield 9, 3) := by decide +kernel
theorem dJ0_charAt_5068e_11 : decode cJ0_charAt_5068e 11 = .ok (.iload_n 1, 1) := by decide +kernel
theorem dJ0_charAt_5068e_12 : decode cJ0_charAt_5068e 12 = .ok (.invokestatic 495, 3) := by decide +kernel
theorem dJ0_charAt_5068e_15 : decode cJ0_charAt_5068e 15 = .ok (.ireturn, 1) := by decide +kernel
theorem dJ0_checkIndex_df160_0 : decode cJ0_checkIndex_df160 0 = .ok (.iload_n 0, 1) := by decide +kernel
theorem dJ0_checkIndex_df160_1 : decode cJ0_checkIndex_df160 1 = .ok (.iload_n 1, 1) := by decide +kernel
theorem dJ0_checkIndex_df160_2 : decode cJ0_checkIndex_df160 2 = .ok (.getstatic 1053, 3) := by decide +kernel
theorem dJ0_checkIndex_df160_5 : decode cJ0_checkIndex_df160 5 = .ok (.invokestatic 1059, 3) := by decide +kernel
theorem dJ0_checkIndex_df160_8 : decode cJ0_checkIndex_df160 8 = .ok (.pop, 1) := by decide +kernel
theorem dJ0_checkIndex_df160_9 : decode cJ0_checkIndex_df160 9 = .ok (.return_, 1) := by decide +kernel
theorem dJ0_coder_7d493_0 : decode cJ0_coder_7d493 0 = .ok (.getstatic 38, 3) := by decide +kernel
theorem dJ0_coder_7d493_3 : decode cJ0_coder_7d493 3 = .ok (.ifCond .eq 10, 3) := by decide +kernel
theorem dJ0_coder_7d493_6 : decode cJ0_coder_7d493 6 = .ok (.aload_n 0, 1) := by decide +kernel
theorem dJ0_coder_7d493_7 : decode cJ0_coder_7d493 7 = .ok (.getfield 15, 3) := by decide +kernel
theorem dJ0_coder_7d493_10 : decode cJ0_coder_7d493 10 = .ok (.goto 4, 3) := by decide +kernel
theorem dJ0_coder_7d493_14 : decode cJ0_coder_7d493 14 = .ok (.ireturn, 1) := by decide +kernel
theorem dJ0_isLatin1_aae02_0 : decode cJ0_isLatin1_aae02 0 = .ok (.getstatic 38, 3) := by decide +kernel
theorem dJ0_isLatin1_aae02_3 : decode cJ0_isLatin1_aae02 3 = .ok (.ifCond .eq 14, 3) := by decide +kernel
theorem dJ0_isLatin1_aae02_6 : decode cJ0_isLatin1_aae02 6 = .ok (.aload_n 0, 1) := by decide +kernel
theorem dJ0_isLatin1_aae02_7 : decode cJ0_isLatin1_aae02 7 = .ok (.getfield 15, 3) := by decide +kernel
theorem dJ0_isLatin1_aae02_10 : decode cJ0_isLatin1_aae02 10 = .ok (.ifCond .ne 7, 3) := by decide +kernel
theorem dJ0_isLatin1_aae02_13 : decode cJ0_isLatin1_aae02 13 = .ok (.iconst 1, 1) := by decide +kernel
theorem dJ0_isLatin1_aae02_14 : decode cJ0_isLatin1_aae02 14 = .ok (.goto 4, 3) := by decide +kernel
theorem dJ0_isLatin1_aae02_18 : decode cJ0_isLatin1_aae02 18 = .ok (.ireturn, 1) := by decide +kernel
theorem dJ0_length_8abf5_0 : decode cJ0_length_8abf5 0 = .ok (.aload_n 0, 1) := by decide +kernel
theorem dJ0_length_8abf5_1 : decode cJ0_length_8abf5 1 = .ok (.getfield 9, 3) := by decide +kernel
theorem dJ0_length_8abf5_4 : decode cJ0_length_8abf5 4 = .ok (.arraylength, 1) := by decide +kernel
theorem dJ0_length_8abf5_5 : decode cJ0_length_8abf5 5 = .ok (.aload_n 0, 1) := by decide +kernel
theorem dJ0_length_8abf5_6 : decode cJ0_length_8abf5 6 = .ok (.invokevirtual 335, 3) := by decide +kernel
theorem dJ0_length_8abf5_9 : decode cJ0_length_8abf5 9 = .ok (.ishr, 1) := by decide +kernel
theorem dJ0_length_8abf5_10 : decode cJ0_length_8abf5 10 = .ok (.ireturn, 1) := by decide +kernel
theorem dJ1_charAt_3b067_0 : decode cJ1_charAt_3b067 0 = .ok (.iload_n 1, 1) := by decide +kernel
theorem dJ1_charAt_3b067_1 : decode cJ1_charAt_3b067 1 = .ok (.aload_n 0, 1) := by decide +kernel
theorem dJ1_charAt_3b067_2 : decode cJ1_charAt_3b067 2 = .ok (.arraylength, 1) := by decide +kernel
theorem dJ1_charAt_3b067_3 : decode cJ1_charAt_3b067 3 = .ok (.invokestatic 9, 3) := by decide +kernel
theorem dJ1_charAt_3b067_6 : decode cJ1_charAt_3b067 6 = .ok (.aload_n 0, 1) := by decide +kernel
theorem dJ1_charAt_3b067_7 : decode cJ1_charAt_3b067 7 = .ok (.iload_n 1, 1) := by decide +kernel
theorem dJ1_charAt_3b067_8 : decode cJ1_charAt_3b067 8 = .ok (.baload, 1) := by decide +kernel
theorem dJ1_charAt_3b067_9 : decode cJ1_charAt_3b067 9 = .ok (.sipush 255, 3) := by decide +kernel
theorem dJ1_charAt_3b067_12 : decode cJ1_charAt_3b067 12 = .ok (.iand, 1) := by decide +kernel
theorem dJ1_charAt_3b067_13 : decode cJ1_charAt_3b067 13 = .ok (.i2c, 1) := by decide +kernel
theorem dJ1_charAt_3b067_14 : decode cJ1_charAt_3b067 14 = .ok (.ireturn, 1) := by decide +kernel
theorem dJ3_checkIndex_8e157_0 : decode cJ3_checkIndex_8e157 0 = .ok (.iload_n 0, 1) := by decide +kernel
theorem dJ3_checkIndex_8e157_1 : decode cJ3_checkIndex_8e157 1 = .ok (.ifCond .lt 8, 3) := by decide +kernel
theorem dJ3_checkIndex_8e157_4 : decode cJ3_checkIndex_8e157 4 = .ok (.iload_n 0, 1) := by decide +kernel
theorem dJ3_checkIndex_8e157_5 : decode cJ3_checkIndex_8e157 5 = .ok (.iload_n 1, 1) := by decide +kernel
theorem dJ3_checkIndex_8e157_6 : decode cJ3_checkIndex_8e157 6 = .ok (.if_icmp .lt 10, 3) := by decide +kernel
theorem dJ3_checkIndex_8e157_16 : decode cJ3_checkIndex_8e157 16 = .ok (.iload_n 0, 1) := by decide +kernel
theorem dJ3_checkIndex_8e157_17 : decode cJ3_checkIndex_8e157 17 = .ok (.ireturn, 1) := by decide +kernel
theorem dX12_cells_0 : decode cX12_cells 0 = .ok (.aload_n 0, 1) := by decide +kernel
theorem dX12_cells_1 : decode cX12_cells 1 = .ok (.getfield 69, 3) := by decide +kernel
theorem dX12_cells_4 : decode cX12_cells 4 = .ok (.aload_n 0, 1) := by decide +kernel
theorem dX12_cells_5 : decode cX12_cells 5 = .ok (.getfield 72, 3) := by decide +kernel
theorem dX12_cells_8 : decode cX12_cells 8 = .ok (.imul, 1) := by decide +kernel
theorem dX12_cells_9 : decode cX12_cells 9 = .ok (.ireturn, 1) := by decide +kernel
theorem dX12_far_0 : decode cX12_far 0 = .ok (.iload_n 2, 1) := by decide +kernel
theorem dX12_far_1 : decode cX12_far 1 = .ok (.aload_n 0, 1) := by decide +kernel
theorem dX12_far_2 : decode cX12_far 2 = .ok (.iload_n 1, 1) := by decide +kernel
theorem dX12_far_3 : decode cX12_far 3 = .ok (.invokevirtual 75, 3) := by decide +kernel
theorem dX12_far_6 : decode cX12_far 6 = .ok (.if_icmp .le 13, 3) := by decide +kernel
theorem dX12_far_9 : decode cX12_far 9 = .ok (.iload_n 2, 1) := by decide +kernel
theorem dX12_far_10 : decode cX12_far 10 = .ok (.aload_n 0, 1) := by decide +kernel
theorem dX12_far_11 : decode cX12_far 11 = .ok (.iload_n 1, 1) := by decide +kernel
theorem dX12_far_12 : decode cX12_far 12 = .ok (.invokevirtual 75, 3) := by decide +kernel
theorem dX12_far_15 : decode cX12_far 15 = .ok (.isub, 1) := by decide +kernel
theorem dX12_far_16 : decode cX12_far 16 = .ok (.goto 10, 3) := by decide +kernel
theorem dX12_far_19 : decode cX12_far 19 = .ok (.aload_n 0, 1) := by decide +kernel
theorem dX12_far_20 : decode cX12_far 20 = .ok (.iload_n 1, 1) := by decide +kernel
theorem dX12_far_21 : decode cX12_far 21 = .ok (.invokevirtual 75, 3) := by decide +kernel
theorem dX12_far_24 : decode cX12_far 24 = .ok (.iload_n 2, 1) := by decide +kernel
theorem dX12_far_25 : decode cX12_far 25 = .ok (.isub, 1) := by decide +kernel
theorem dX12_far_26 : decode cX12_far 26 = .ok (.istore 4, 2) := by decide +kernel
theorem dX12_far_28 : decode cX12_far 28 = .ok (.iload_n 3, 1) := by decide +kernel
theorem dX12_far_29 : decode cX12_far 29 = .ok (.aload_n 0, 1) := by decide +kernel
theorem dX12_far_30 : decode cX12_far 30 = .ok (.iload_n 1, 1) := by decide +kernel
theorem dX12_far_31 : decode cX12_far 31 = .ok (.invokevirtual 79, 3) := by decide +kernel
theorem dX12_far_34 : decode cX12_far 34 = .ok (.if_icmp .le 13, 3) := by decide +kernel
theorem dX12_far_37 : decode cX12_far 37 = .ok (.iload_n 3, 1) := by decide +kernel
theorem dX12_far_38 : decode cX12_far 38 = .ok (.aload_n 0, 1) := by decide +kernel
theorem dX12_far_39 : decode cX12_far 39 = .ok (.iload_n 1, 1) := by decide +kernel
theorem dX12_far_40 : decode cX12_far 40 = .ok (.invokevirtual 79, 3) := by decide +kernel
theorem dX12_far_43 : decode cX12_far 43 = .ok (.isub, 1) := by decide +kernel
theorem dX12_far_44 : decode cX12_far 44 = .ok (.goto 10, 3) := by decide +kernel
theorem dX12_far_47 : decode cX12_far 47 = .ok (.aload_n 0, 1) := by decide +kernel
theorem dX12_far_48 : decode cX12_far 48 = .ok (.iload_n 1, 1) := by decide +kernel
theorem dX12_far_49 : decode cX12_far 49 = .ok (.invokevirtual 79, 3) := by decide +kernel
theorem dX12_far_52 : decode cX12_far 52 = .ok (.iload_n 3, 1) := by decide +kernel
theorem dX12_far_53 : decode cX12_far 53 = .ok (.isub, 1) := by decide +kernel
theorem dX12_far_54 : decode cX12_far 54 = .ok (.istore 5, 2) := by decide +kernel
theorem dX12_far_56 : decode cX12_far 56 = .ok (.iload 4, 2) := by decide +kernel
theorem dX12_far_58 : decode cX12_far 58 = .ok (.iload 5, 2) := by decide +kernel
theorem dX12_far_60 : decode cX12_far 60 = .ok (.if_icmp .le 8, 3) := by decide +kernel
theorem dX12_far_63 : decode cX12_far 63 = .ok (.iload 4, 2) := by decide +kernel
theorem dX12_far_65 : decode cX12_far 65 = .ok (.goto 5, 3) := by decide +kernel
theorem dX12_far_68 : decode cX12_far 68 = .ok (.iload 5, 2) := by decide +kernel
theorem dX12_far_70 : decode cX12_far 70 = .ok (.ireturn, 1) := by decide +kernel
theorem dX12_find_0 : decode cX12_find 0 = .ok (.iconst 0, 1) := by decide +kernel
theorem dX12_find_1 : decode cX12_find 1 = .ok (.istore_n 3, 1) := by decide +kernel
theorem dX12_find_2 : decode cX12_find 2 = .ok (.iload_n 3, 1) := by decide +kernel
theorem dX12_find_3 : decode cX12_find 3 = .ok (.aload_n 0, 1) := by decide +kernel
theorem dX12_find_4 : decode cX12_find 4 = .ok (.getfield 66, 3) := by decide +kernel
theorem dX12_find_7 : decode cX12_find 7 = .ok (.if_icmp .ge 22, 3) := by decide +kernel
theorem dX12_find_10 : decode cX12_find 10 = .ok (.aload_n 0, 1) := by decide +kernel
theorem dX12_find_11 : decode cX12_find 11 = .ok (.getfield 53, 3) := by decide +kernel
theorem dX12_find_14 : decode cX12_find 14 = .ok (.iload_n 3, 1) := by decide +kernel
theorem dX12_find_15 : decode cX12_find 15 = .ok (.laload, 1) := by decide +kernel
theorem dX12_find_16 : decode cX12_find 16 = .ok (.lload_n 1, 1) := by decide +kernel
theorem dX12_find_17 : decode cX12_find 17 = .ok (.lcmp, 1) := by decide +kernel
theorem dX12_find_18 : decode cX12_find 18 = .ok (.ifCond .ne 5, 3) := by decide +kernel
theorem dX12_find_21 : decode cX12_find 21 = .ok (.iload_n 3, 1) := by decide +kernel
theorem dX12_find_22 : decode cX12_find 22 = .ok (.ireturn, 1) := by decide +kernel
theorem dX12_find_23 : decode cX12_find 23 = .ok (.iinc 3 1, 3) := by decide +kernel
theorem dX12_find_26 : decode cX12_find 26 = .ok (.goto (-24), 3) := by decide +kernel
theorem dX12_find_29 : decode cX12_find 29 = .ok (.iconst (-1), 1) := by decide +kernel
theorem dX12_find_30 : decode cX12_find 30 = .ok (.ireturn, 1) := by decide +kernel
theorem dX12_isLand_0 : decode cX12_isLand 0 = .ok (.iload_n 1, 1) := by decide +kernel
theorem dX12_isLand_1 : decode cX12_isLand 1 = .ok (.iconst 0, 1) := by decide +kernel
theorem dX12_isLand_2 : decode cX12_isLand 2 = .ok (.aload_n 0, 1) := by decide +kernel
theorem dX12_isLand_3 : decode cX12_isLand 3 = .ok (.getfield 69, 3) := by decide +kernel
theorem dX12_isLand_6 : decode cX12_isLand 6 = .ok (.iconst 1, 1) := by decide +kernel
theorem dX12_isLand_7 : decode cX12_isLand 7 = .ok (.isub, 1) := by decide +kernel
theorem dX12_isLand_8 : decode cX12_isLand 8 = .ok (.invokestatic 82, 3) := by decide +kernel
theorem dX12_isLand_11 : decode cX12_isLand 11 = .ok (.ifCond .eq 37, 3) := by decide +kernel
theorem dX12_isLand_14 : decode cX12_isLand 14 = .ok (.iload_n 2, 1) := by decide +kernel
theorem dX12_isLand_15 : decode cX12_isLand 15 = .ok (.iconst 0, 1) := by decide +kernel
theorem dX12_isLand_16 : decode cX12_isLand 16 = .ok (.aload_n 0, 1) := by decide +kernel
theorem dX12_isLand_17 : decode cX12_isLand 17 = .ok (.getfield 72, 3) := by decide +kernel
theorem dX12_isLand_20 : decode cX12_isLand 20 = .ok (.iconst 1, 1) := by decide +kernel
theorem dX12_isLand_21 : decode cX12_isLand 21 = .ok (.isub, 1) := by decide +kernel
theorem dX12_isLand_22 : decode cX12_isLand 22 = .ok (.invokestatic 82, 3) := by decide +kernel
theorem dX12_isLand_25 : decode cX12_isLand 25 = .ok (.ifCond .eq 23, 3) := by decide +kernel
theorem dX12_isLand_28 : decode cX12_isLand 28 = .ok (.aload_n 0, 1) := by decide +kernel
theorem dX12_isLand_29 : decode cX12_isLand 29 = .ok (.getfield 15, 3) := by decide +kernel
theorem dX12_isLand_32 : decode cX12_isLand 32 = .ok (.aload_n 0, 1) := by decide +kernel
theorem dX12_isLand_33 : decode cX12_isLand 33 = .ok (.getfield 69, 3) := by decide +kernel
theorem dX12_isLand_36 : decode cX12_isLand 36 = .ok (.iload_n 2, 1) := by decide +kernel
theorem dX12_isLand_37 : decode cX12_isLand 37 = .ok (.imul, 1) := by decide +kernel
theorem dX12_isLand_38 : decode cX12_isLand 38 = .ok (.iload_n 1, 1) := by decide +kernel
theorem dX12_isLand_39 : decode cX12_isLand 39 = .ok (.iadd, 1) := by decide +kernel
theorem dX12_isLand_40 : decode cX12_isLand 40 = .ok (.baload, 1) := by decide +kernel
theorem dX12_isLand_41 : decode cX12_isLand 41 = .ok (.ifCond .ne 7, 3) := by decide +kernel
theorem dX12_isLand_44 : decode cX12_isLand 44 = .ok (.iconst 1, 1) := by decide +kernel
theorem dX12_isLand_45 : decode cX12_isLand 45 = .ok (.goto 4, 3) := by decide +kernel
theorem dX12_isLand_48 : decode cX12_isLand 48 = .ok (.iconst 0, 1) := by decide +kernel
theorem dX12_isLand_49 : decode cX12_isLand 49 = .ok (.ireturn, 1) := by decide +kernel
theorem dX12_x_0 : decode cX12_x 0 = .ok (.aload_n 0, 1) := by decide +kernel
theorem dX12_x_1 : decode cX12_x 1 = .ok (.getfield 35, 3) := by decide +kernel
theorem dX12_x_4 : decode cX12_x 4 = .ok (.iload_n 1, 1) := by decide +kernel
theorem dX12_x_5 : decode cX12_x 5 = .ok (.iaload, 1) := by decide +kernel
theorem dX12_x_6 : decode cX12_x 6 = .ok (.aload_n 0, 1) := by decide +kernel
theorem dX12_x_7 : decode cX12_x 7 = .ok (.getfield 69, 3) := by decide +kernel
theorem dX12_x_10 : decode cX12_x 10 = .ok (.irem, 1) := by decide +kernel
theorem dX12_x_11 : decode cX12_x 11 = .ok (.ireturn, 1) := by decide +kernel
theorem dX12_y_0 : decode cX12_y 0 = .ok (.aload_n 0, 1) := by decide +kernel
theorem dX12_y_1 : decode cX12_y 1 = .ok (.getfield 35, 3) := by decide +kernel
theorem dX12_y_4 : decode cX12_y 4 = .ok (.iload_n 1, 1) := by decide +kernel
theorem dX12_y_5 : decode cX12_y 5 = .ok (.iaload, 1) := by decide +kernel
theorem dX12_y_6 : decode cX12_y 6 = .ok (.aload_n 0, 1) := by decide +kernel
theorem dX12_y_7 : decode cX12_y 7 = .ok (.getfield 69, 3) := by decide +kernel
theorem dX12_y_10 : decode cX12_y 10 = .ok (.idiv, 1) := by decide +kernel
theorem dX12_y_11 : decode cX12_y 11 = .ok (.ireturn, 1) := by decide +kernel
theorem dX13_adds_0 : decode cX13_adds 0 = .ok (.aload_n 0, 1) := by decide +kernel
theorem dX13_adds_1 : decode cX13_adds 1 = .ok (.iconst 0, 1) := by decide +kernel
theorem dX13_adds_2 : decode cX13_adds 2 = .ok (.iload_n 1, 1) := by decide +kernel
theorem dX13_adds_3 : decode cX13_adds 3 = .ok (.iadd, 1) := by decide +kernel
theorem dX13_adds_4 : decode cX13_adds 4 = .ok (.dup2, 1) := by decide +kernel
theorem dX13_adds_5 : decode cX13_adds 5 = .ok (.iaload, 1) := by decide +kernel
theorem dX13_adds_6 : decode cX13_adds 6 = .ok (.iconst 1, 1) := by decide +kernel
theorem dX13_adds_7 : decode cX13_adds 7 = .ok (.iadd, 1) := by decide +kernel
theorem dX13_adds_8 : decode cX13_adds 8 = .ok (.iastore, 1) := by decide +kernel
theorem dX13_adds_9 : decode cX13_adds 9 = .ok (.aload_n 0, 1) := by decide +kernel
theorem dX13_adds_10 : decode cX13_adds 10 = .ok (.iconst 0, 1) := by decide +kernel
theorem dX13_adds_11 : decode cX13_adds 11 = .ok (.iload_n 1, 1) := by decide +kernel
theorem dX13_adds_12 : decode cX13_adds 12 = .ok (.iadd, 1) := by decide +kernel
theorem dX13_adds_13 : decode cX13_adds 13 = .ok (.iaload, 1) := by decide +kernel
theorem dX13_adds_14 : decode cX13_adds 14 = .ok (.istore 7, 2) := by decide +kernel
theorem dX13_adds_16 : decode cX13_adds 16 = .ok (.aload_n 0, 1) := by decide +kernel
theorem dX13_adds_17 : decode cX13_adds 17 = .ok (.iload_n 1, 1) := by decide +kernel
theorem dX13_adds_18 : decode cX13_adds 18 = .ok (.iload 7, 2) := by decide +kernel
theorem dX13_adds_20 : decode cX13_adds 20 = .ok (.iconst 0, 1) := by decide +kernel
theorem dX13_adds_21 : decode cX13_adds 21 = .ok (.invokestatic 425, 3) := by decide +kernel
theorem dX13_adds_24 : decode cX13_adds 24 = .ok (.iload_n 2, 1) := by decide +kernel
theorem dX13_adds_25 : decode cX13_adds 25 = .ok (.iastore, 1) := by decide +kernel
theorem dX13_adds_26 : decode cX13_adds 26 = .ok (.aload_n 0, 1) := by decide +kernel
theorem dX13_adds_27 : decode cX13_adds 27 = .ok (.iload_n 1, 1) := by decide +kernel
theorem dX13_adds_28 : decode cX13_adds 28 = .ok (.iload 7, 2) := by decide +kernel
theorem dX13_adds_30 : decode cX13_adds 30 = .ok (.iconst 1, 1) := by decide +kernel
theorem dX13_adds_31 : decode cX13_adds 31 = .ok (.invokestatic 425, 3) := by decide +kernel
theorem dX13_adds_34 : decode cX13_adds 34 = .ok (.iload_n 3, 1) := by decide +kernel
theorem dX13_adds_35 : decode cX13_adds 35 = .ok (.iastore, 1) := by decide +kernel
theorem dX13_adds_36 : decode cX13_adds 36 = .ok (.aload_n 0, 1) := by decide +kernel
theorem dX13_adds_37 : decode cX13_adds 37 = .ok (.iload_n 1, 1) := by decide +kernel
theorem dX13_adds_38 : decode cX13_adds 38 = .ok (.iload 7, 2) := by decide +kernel
theorem dX13_adds_40 : decode cX13_adds 40 = .ok (.iconst 2, 1) := by decide +kernel
theorem dX13_adds_41 : decode cX13_adds 41 = .ok (.invokestatic 425, 3) := by decide +kernel
theorem dX13_adds_44 : decode cX13_adds 44 = .ok (.iload 4, 2) := by decide +kernel
theorem dX13_adds_46 : decode cX13_adds 46 = .ok (.iastore, 1) := by decide +kernel
theorem dX13_adds_47 : decode cX13_adds 47 = .ok (.aload_n 0, 1) := by decide +kernel
theorem dX13_adds_48 : decode cX13_adds 48 = .ok (.iload_n 1, 1) := by decide +kernel
theorem dX13_adds_49 : decode cX13_adds 49 = .ok (.iload 7, 2) := by decide +kernel
theorem dX13_adds_51 : decode cX13_adds 51 = .ok (.iconst 3, 1) := by decide +kernel
theorem dX13_adds_52 : decode cX13_adds 52 = .ok (.invokestatic 425, 3) := by decide +kernel
theorem dX13_adds_55 : decode cX13_adds 55 = .ok (.iload 5, 2) := by decide +kernel
theorem dX13_adds_57 : decode cX13_adds 57 = .ok (.iastore, 1) := by decide +kernel
theorem dX13_adds_58 : decode cX13_adds 58 = .ok (.aload_n 0, 1) := by decide +kernel
theorem dX13_adds_59 : decode cX13_adds 59 = .ok (.iload_n 1, 1) := by decide +kernel
theorem dX13_adds_60 : decode cX13_adds 60 = .ok (.iload 7, 2) := by decide +kernel
theorem dX13_adds_62 : decode cX13_adds 62 = .ok (.iconst 4, 1) := by decide +kernel
theorem dX13_adds_63 : decode cX13_adds 63 = .ok (.invokestatic 425, 3) := by decide +kernel
theorem dX13_adds_66 : decode cX13_adds 66 = .ok (.iconst 0, 1) := by decide +kernel
theorem dX13_adds_67 : decode cX13_adds 67 = .ok (.iastore, 1) := by decide +kernel
theorem dX13_adds_68 : decode cX13_adds 68 = .ok (.aload_n 0, 1) := by decide +kernel
theorem dX13_adds_69 : decode cX13_adds 69 = .ok (.iload_n 1, 1) := by decide +kernel
theorem dX13_adds_70 : decode cX13_adds 70 = .ok (.iload 7, 2) := by decide +kernel
theorem dX13_adds_72 : decode cX13_adds 72 = .ok (.iconst 5, 1) := by decide +kernel
theorem dX13_adds_73 : decode cX13_adds 73 = .ok (.invokestatic 425, 3) := by decide +kernel
theorem dX13_adds_76 : decode cX13_adds 76 = .ok (.iconst 0, 1) := by decide +kernel
theorem dX13_adds_77 : decode cX13_adds 77 = .ok (.iastore, 1) := by decide +kernel
theorem dX13_adds_78 : decode cX13_adds 78 = .ok (.aload_n 0, 1) := by decide +kernel
theorem dX13_adds_79 : decode cX13_adds 79 = .ok (.iload_n 1, 1) := by decide +kernel
theorem dX13_adds_80 : decode cX13_adds 80 = .ok (.iload 7, 2) := by decide +kernel
theorem dX13_adds_82 : decode cX13_adds 82 = .ok (.bipush 6, 2) := by decide +kernel
theorem dX13_adds_84 : decode cX13_adds 84 = .ok (.invokestatic 425, 3) := by decide +kernel
theorem dX13_adds_87 : decode cX13_adds 87 = .ok (.iconst 0, 1) := by decide +kernel
theorem dX13_adds_88 : decode cX13_adds 88 = .ok (.iastore, 1) := by decide +kernel
theorem dX13_adds_89 : decode cX13_adds 89 = .ok (.aload_n 0, 1) := by decide +kernel
theorem dX13_adds_90 : decode cX13_adds 90 = .ok (.iload_n 1, 1) := by decide +kernel
theorem dX13_adds_91 : decode cX13_adds 91 = .ok (.iload 7, 2) := by decide +kernel
theorem dX13_adds_93 : decode cX13_adds 93 = .ok (.bipush 7, 2) := by decide +kernel
theorem dX13_adds_95 : decode cX13_adds 95 = .ok (.invokestatic 425, 3) := by decide +kernel
theorem dX13_adds_98 : decode cX13_adds 98 = .ok (.iload 6, 2) := by decide +kernel
theorem dX13_adds_100 : decode cX13_adds 100 = .ok (.iastore, 1) := by decide +kernel
theorem dX13_adds_101 : decode cX13_adds 101 = .ok (.return_, 1) := by decide +kernel
theorem dX13_allSkins_0 : decode cX13_allSkins 0 = .ok (.iconst 0, 1) := by decide +kernel
theorem dX13_allSkins_1 : decode cX13_allSkins 1 = .ok (.istore_n 1, 1) := by decide +kernel
theorem dX13_allSkins_2 : decode cX13_allSkins 2 = .ok (.iconst 0, 1) := by decide +kernel
theorem dX13_allSkins_3 : decode cX13_allSkins 3 = .ok (.istore_n 2, 1) := by decide +kernel
theorem dX13_allSkins_4 : decode cX13_allSkins 4 = .ok (.iload_n 2, 1) := by decide +kernel
theorem dX13_allSkins_5 : decode cX13_allSkins 5 = .ok (.iconst 4, 1) := by decide +kernel
theorem dX13_allSkins_6 : decode cX13_allSkins 6 = .ok (.if_icmp .ge 17, 3) := by decide +kernel
theorem dX13_allSkins_9 : decode cX13_allSkins 9 = .ok (.iload_n 1, 1) := by decide +kernel
theorem dX13_allSkins_10 : decode cX13_allSkins 10 = .ok (.aload_n 0, 1) := by decide +kernel
theorem dX13_allSkins_11 : decode cX13_allSkins 11 = .ok (.iconst 0, 1) := by decide +kernel
theorem dX13_allSkins_12 : decode cX13_allSkins 12 = .ok (.iload_n 2, 1) := by decide +kernel
theorem dX13_allSkins_13 : decode cX13_allSkins 13 = .ok (.iadd, 1) := by decide +kernel
theorem dX13_allSkins_14 : decode cX13_allSkins 14 = .ok (.iaload, 1) := by decide +kernel
theorem dX13_allSkins_15 : decode cX13_allSkins 15 = .ok (.iadd, 1) := by decide +kernel
theorem dX13_allSkins_16 : decode cX13_allSkins 16 = .ok (.istore_n 1, 1) := by decide +kernel
theorem dX13_allSkins_17 : decode cX13_allSkins 17 = .ok (.iinc 2 1, 3) := by decide +kernel
theorem dX13_allSkins_20 : decode cX13_allSkins 20 = .ok (.goto (-16), 3) := by decide +kernel
theorem dX13_allSkins_23 : decode cX13_allSkins 23 = .ok (.iload_n 1, 1) := by decide +kernel
theorem dX13_allSkins_24 : decode cX13_allSkins 24 = .ok (.ireturn, 1) := by decide +kernel
theorem dX13_back_0 : decode cX13_back 0 = .ok (.aload_n 0, 1) := by decide +kernel
theorem dX13_back_1 : decode cX13_back 1 = .ok (.iconst 0, 1) := by decide +kernel
theorem dX13_back_2 : decode cX13_back 2 = .ok (.putfield 63, 3) := by decide +kernel
theorem dX13_back_5 : decode cX13_back 5 = .ok (.aload_n 0, 1) := by decide +kernel
theorem dX13_back_6 : decode cX13_back 6 = .ok (.getfield 417, 3) := by decide +kernel
theorem dX13_back_9 : decode cX13_back 9 = .ok (.ifnull 15, 3) := by decide +kernel
theorem dX13_back_12 : decode cX13_back 12 = .ok (.iload_n 1, 1) := by decide +kernel
theorem dX13_back_13 : decode cX13_back 13 = .ok (.ifCond .lt 11, 3) := by decide +kernel
theorem dX13_back_16 : decode cX13_back 16 = .ok (.iload_n 1, 1) := by decide +kernel
theorem dX13_back_17 : decode cX13_back 17 = .ok (.aload_n 0, 1) := by decide +kernel
theorem dX13_back_18 : decode cX13_back 18 = .ok (.getfield 422, 3) := by decide +kernel
theorem dX13_back_21 : decode cX13_back 21 = .ok (.if_icmp .lt 9, 3) := by decide +kernel
theorem dX13_back_24 : decode cX13_back 24 = .ok (.aload_n 0, 1) := by decide +kernel
theorem dX13_back_25 : decode cX13_back 25 = .ok (.iconst 1, 1) := by decide +kernel
theorem dX13_back_26 : decode cX13_back 26 = .ok (.invokevirtual 619, 3) := by decide +kernel
theorem dX13_back_29 : decode cX13_back 29 = .ok (.ireturn, 1) := by decide +kernel
theorem dX13_back_30 : decode cX13_back 30 = .ok (.iconst 0, 1) := by decide +kernel
theorem dX13_back_31 : decode cX13_back 31 = .ok (.istore_n 2, 1) := by decide +kernel
theorem dX13_back_32 : decode cX13_back 32 = .ok (.iload_n 2, 1) := by decide +kernel
theorem dX13_back_33 : decode cX13_back 33 = .ok (.sipush 212, 3) := by decide +kernel
theorem dX13_back_36 : decode cX13_back 36 = .ok (.if_icmp .ge 27, 3) := by decide +kernel
theorem dX13_back_39 : decode cX13_back 39 = .ok (.aload_n 0, 1) := by decide +kernel
theorem dX13_back_40 : decode cX13_back 40 = .ok (.getfield 17, 3) := by decide +kernel
theorem dX13_back_43 : decode cX13_back 43 = .ok (.iload_n 2, 1) := by decide +kernel
theorem dX13_back_44 : decode cX13_back 44 = .ok (.aload_n 0, 1) := by decide +kernel
theorem dX13_back_45 : decode cX13_back 45 = .ok (.getfield 27, 3) := by decide +kernel
theorem dX13_back_48 : decode cX13_back 48 = .ok (.sipush 212, 3) := by decide +kernel
theorem dX13_back_51 : decode cX13_back 51 = .ok (.iload_n 1, 1) := by decide +kernel
theorem dX13_back_52 : decode cX13_back 52 = .ok (.imul, 1) := by decide +kernel
theorem dX13_back_53 : decode cX13_back 53 = .ok (.iload_n 2, 1) := by decide +kernel
theorem dX13_back_54 : decode cX13_back 54 = .ok (.iadd, 1) := by decide +kernel
theorem dX13_back_55 : decode cX13_back 55 = .ok (.iaload, 1) := by decide +kernel
theorem dX13_back_56 : decode cX13_back 56 = .ok (.iastore, 1) := by decide +kernel
theorem dX13_back_57 : decode cX13_back 57 = .ok (.iinc 2 1, 3) := by decide +kernel
theorem dX13_back_60 : decode cX13_back 60 = .ok (.goto (-28), 3) := by decide +kernel
theorem dX13_back_63 : decode cX13_back 63 = .ok (.aload_n 0, 1) := by decide +kernel
theorem dX13_back_64 : decode cX13_back 64 = .ok (.iconst 0, 1) := by decide +kernel
theorem dX13_back_65 : decode cX13_back 65 = .ok (.putfield 419, 3) := by decide +kernel
theorem dX13_back_68 : decode cX13_back 68 = .ok (.aload_n 0, 1) := by decide +kernel
theorem dX13_back_69 : decode cX13_back 69 = .ok (.invokevirtual 622, 3) := by decide +kernel
theorem dX13_back_72 : decode cX13_back 72 = .ok (.ireturn, 1) := by decide +kernel
theorem dX13_before_0 : decode cX13_before 0 = .ok (.aload_n 0, 1) := by decide +kernel
theorem dX13_before_1 : decode cX13_before 1 = .ok (.getfield 417, 3) := by decide +kernel
theorem dX13_before_4 : decode cX13_before 4 = .ok (.getfield 399, 3) := by decide +kernel
theorem dX13_before_7 : decode cX13_before 7 = .ok (.iload_n 1, 1) := by decide +kernel
theorem dX13_before_8 : decode cX13_before 8 = .ok (.iaload, 1) := by decide +kernel
theorem dX13_before_9 : decode cX13_before 9 = .ok (.iconst (-1), 1) := by decide +kernel
theorem dX13_before_10 : decode cX13_before 10 = .ok (.if_icmp .ne 14, 3) := by decide +kernel
theorem dX13_before_13 : decode cX13_before 13 = .ok (.aload_n 0, 1) := by decide +kernel
theorem dX13_before_14 : decode cX13_before 14 = .ok (.getfield 17, 3) := by decide +kernel
theorem dX13_before_17 : decode cX13_before 17 = .ok (.sipush 210, 3) := by decide +kernel
theorem dX13_before_20 : decode cX13_before 20 = .ok (.iaload, 1) := by decide +kernel
theorem dX13_before_21 : decode cX13_before 21 = .ok (.goto 23, 3) := by decide +kernel
theorem dX13_before_24 : decode cX13_before 24 = .ok (.aload_n 0, 1) := by decide +kernel
theorem dX13_before_25 : decode cX13_before 25 = .ok (.getfield 17, 3) := by decide +kernel
theorem dX13_before_28 : decode cX13_before 28 = .ok (.sipush 210, 3) := by decide +kernel
theorem dX13_before_31 : decode cX13_before 31 = .ok (.iaload, 1) := by decide +kernel
theorem dX13_before_32 : decode cX13_before 32 = .ok (.aload_n 0, 1) := by decide +kernel
theorem dX13_before_33 : decode cX13_before 33 = .ok (.getfield 417, 3) := by decide +kernel
theorem dX13_before_36 : decode cX13_before 36 = .ok (.getfield 399, 3) := by decide +kernel
theorem dX13_before_39 : decode cX13_before 39 = .ok (.iload_n 1, 1) := by decide +kernel
theorem dX13_before_40 : decode cX13_before 40 = .ok (.iaload, 1) := by decide +kernel
theorem dX13_before_41 : decode cX13_before 41 = .ok (.invokestatic 487, 3) := by decide +kernel
theorem dX13_before_44 : decode cX13_before 44 = .ok (.ireturn, 1) := by decide +kernel
theorem dX13_begins_0 : decode cX13_begins 0 = .ok (.iload_n 1, 1) := by decide +kernel
theorem dX13_begins_1 : decode cX13_begins 1 = .ok (.iload_n 2, 1) := by decide +kernel
theorem dX13_begins_2 : decode cX13_begins 2 = .ok (.if_icmp .ne 8, 3) := by decide +kernel
theorem dX13_begins_5 : decode cX13_begins 5 = .ok (.aload_n 0, 1) := by decide +kernel
theorem dX13_begins_6 : decode cX13_begins 6 = .ok (.iconst 5, 1) := by decide +kernel
theorem dX13_begins_7 : decode cX13_begins 7 = .ok (.invokevirtual 137, 3) := by decide +kernel
theorem dX13_begins_10 : decode cX13_begins 10 = .ok (.aload_n 0, 1) := by decide +kernel
theorem dX13_begins_11 : decode cX13_begins 11 = .ok (.getfield 156, 3) := by decide +kernel
theorem dX13_begins_14 : decode cX13_begins 14 = .ok (.getfield 160, 3) := by decide +kernel
theorem dX13_begins_17 : decode cX13_begins 17 = .ok (.ifCond .ne 9, 3) := by decide +kernel
theorem dX13_begins_20 : decode cX13_begins 20 = .ok (.aload_n 0, 1) := by decide +kernel
theorem dX13_begins_21 : decode cX13_begins 21 = .ok (.bipush 6, 2) := by decide +kernel
theorem dX13_begins_23 : decode cX13_begins 23 = .ok (.invokevirtual 137, 3) := by decide +kernel
theorem dX13_begins_26 : decode cX13_begins 26 = .ok (.aload_n 0, 1) := by decide +kernel
theorem dX13_begins_27 : decode cX13_begins 27 = .ok (.invokevirtual 130, 3) := by decide +kernel
theorem dX13_begins_30 : decode cX13_begins 30 = .ok (.return_, 1) := by decide +kernel
theorem dX13_bit_0 : decode cX13_bit 0 = .ok (.iload_n 0, 1) := by decide +kernel
theorem dX13_bit_1 : decode cX13_bit 1 = .ok (.iload_n 1, 1) := by decide +kernel
theorem dX13_bit_2 : decode cX13_bit 2 = .ok (.ishr, 1) := by decide +kernel
theorem dX13_bit_3 : decode cX13_bit 3 = .ok (.iconst 1, 1) := by decide +kernel
theorem dX13_bit_4 : decode cX13_bit 4 = .ok (.iand, 1) := by decide +kernel
theorem dX13_bit_5 : decode cX13_bit 5 = .ok (.iconst 1, 1) := by decide +kernel
theorem dX13_bit_6 : decode cX13_bit 6 = .ok (.if_icmp .ne 7, 3) := by decide +kernel
theorem dX13_bit_9 : decode cX13_bit 9 = .ok (.iconst 1, 1) := by decide +kernel
theorem dX13_bit_10 : decode cX13_bit 10 = .ok (.goto 4, 3) := by decide +kernel
theorem dX13_bit_13 : decode cX13_bit 13 = .ok (.iconst 0, 1) := by decide +kernel
theorem dX13_bit_14 : decode cX13_bit 14 = .ok (.ireturn, 1) := by decide +kernel
theorem dX13_bits_0 : decode cX13_bits 0 = .ok (.iconst 0, 1) := by decide +kernel
theorem dX13_bits_1 : decode cX13_bits 1 = .ok (.istore_n 1, 1) := by decide +kernel
theorem dX13_bits_2 : decode cX13_bits 2 = .ok (.iload_n 0, 1) := by decide +kernel
theorem dX13_bits_3 : decode cX13_bits 3 = .ok (.istore_n 2, 1) := by decide +kernel
theorem dX13_bits_4 : decode cX13_bits 4 = .ok (.iload_n 2, 1) := by decide +kernel
theorem dX13_bits_5 : decode cX13_bits 5 = .ok (.ifCond .eq 15, 3) := by decide +kernel
theorem dX13_bits_8 : decode cX13_bits 8 = .ok (.iinc 1 1, 3) := by decide +kernel
theorem dX13_bits_11 : decode cX13_bits 11 = .ok (.iload_n 2, 1) := by decide +kernel
theorem dX13_bits_12 : decode cX13_bits 12 = .ok (.iload_n 2, 1) := by decide +kernel
theorem dX13_bits_13 : decode cX13_bits 13 = .ok (.iconst 1, 1) := by decide +kernel
theorem dX13_bits_14 : decode cX13_bits 14 = .ok (.isub, 1) := by decide +kernel
theorem dX13_bits_15 : decode cX13_bits 15 = .ok (.iand, 1) := by decide +kernel
theorem dX13_bits_16 : decode cX13_bits 16 = .ok (.istore_n 2, 1) := by decide +kernel
theorem dX13_bits_17 : decode cX13_bits 17 = .ok (.goto (-13), 3) := by decide +kernel
theorem dX13_bits_20 : decode cX13_bits 20 = .ok (.iload_n 1, 1) := by decide +kernel
theorem dX13_bits_21 : decode cX13_bits 21 = .ok (.ireturn, 1) := by decide +kernel
theorem dX13_bounded_0 : decode cX13_bounded 0 = .ok (.aload_n 0, 1) := by decide +kernel
theorem dX13_bounded_1 : decode cX13_bounded 1 = .ok (.getfield 91, 3) := by decide +kernel
theorem dX13_bounded_4 : decode cX13_bounded 4 = .ok (.iconst 3, 1) := by decide +kernel
theorem dX13_bounded_5 : decode cX13_bounded 5 = .ok (.if_icmp .eq 11, 3) := by decide +kernel
theorem dX13_bounded_8 : decode cX13_bounded 8 = .ok (.aload_n 0, 1) := by decide +kernel
theorem dX13_bounded_9 : decode cX13_bounded 9 = .ok (.iconst 1, 1) := by decide +kernel
theorem dX13_bounded_10 : decode cX13_bounded 10 = .ok (.invokevirtual 137, 3) := by decide +kernel
theorem dX13_bounded_13 : decode cX13_bounded 13 = .ok (.goto 20, 3) := by decide +kernel
theorem dX13_bounded_16 : decode cX13_bounded 16 = .ok (.aload_n 0, 1) := by decide +kernel
theorem dX13_bounded_17 : decode cX13_bounded 17 = .ok (.getfield 117, 3) := by decide +kernel
theorem dX13_bounded_20 : decode cX13_bounded 20 = .ok (.iload_n 1, 1) := by decide +kernel
theorem dX13_bounded_21 : decode cX13_bounded 21 = .ok (.iload_n 2, 1) := by decide +kernel
theorem dX13_bounded_22 : decode cX13_bounded 22 = .ok (.invokestatic 141, 3) := by decide +kernel
theorem dX13_bounded_25 : decode cX13_bounded 25 = .ok (.ifCond .ne 8, 3) := by decide +kernel
theorem dX13_bounded_28 : decode cX13_bounded 28 = .ok (.aload_n 0, 1) := by decide +kernel
theorem dX13_bounded_29 : decode cX13_bounded 29 = .ok (.iconst 4, 1) := by decide +kernel
theorem dX13_bounded_30 : decode cX13_bounded 30 = .ok (.invokevirtual 137, 3) := by decide +kernel
theorem dX13_bounded_33 : decode cX13_bounded 33 = .ok (.aload_n 0, 1) := by decide +kernel
theorem dX13_bounded_34 : decode cX13_bounded 34 = .ok (.getfield 91, 3) := by decide +kernel
theorem dX13_bounded_37 : decode cX13_bounded 37 = .ok (.iconst 5, 1) := by decide +kernel
theorem dX13_bounded_38 : decode cX13_bounded 38 = .ok (.if_icmp .ne 7, 3) := by decide +kernel
theorem dX13_bounded_41 : decode cX13_bounded 41 = .ok (.iload_n 1, 1) := by decide +kernel
theorem dX13_bounded_42 : decode cX13_bounded 42 = .ok (.goto 7, 3) := by decide +kernel
theorem dX13_bounded_45 : decode cX13_bounded 45 = .ok (.aload_n 0, 1) := by decide +kernel
theorem dX13_bounded_46 : decode cX13_bounded 46 = .ok (.getfield 117, 3) := by decide +kernel
theorem dX13_bounded_49 : decode cX13_bounded 49 = .ok (.ireturn, 1) := by decide +kernel
theorem dX13_breaks_0 : decode cX13_breaks 0 = .ok (.aload_n 0, 1) := by decide +kernel
theorem dX13_breaks_1 : decode cX13_breaks 1 = .ok (.iconst 0, 1) := by decide +kernel
theorem dX13_breaks_2 : decode cX13_breaks 2 = .ok (.putfield 63, 3) := by decide +kernel
theorem dX13_breaks_5 : decode cX13_breaks 5 = .ok (.aload_n 0, 1) := by decide +kernel
theorem dX13_breaks_6 : decode cX13_breaks 6 = .ok (.iload_n 1, 1) := by decide +kernel
theorem dX13_breaks_7 : decode cX13_breaks 7 = .ok (.iload_n 2, 1) := by decide +kernel
theorem dX13_breaks_8 : decode cX13_breaks 8 = .ok (.invokevirtual 540, 3) := by decide +kernel
theorem dX13_breaks_11 : decode cX13_breaks 11 = .ok (.ifCond .eq 19, 3) := by decide +kernel
theorem dX13_breaks_14 : decode cX13_breaks 14 = .ok (.aload_n 0, 1) := by decide +kernel
theorem dX13_breaks_15 : decode cX13_breaks 15 = .ok (.aload_n 0, 1) := by decide +kernel
theorem dX13_breaks_16 : decode cX13_breaks 16 = .ok (.iload_n 1, 1) := by decide +kernel
theorem dX13_breaks_17 : decode cX13_breaks 17 = .ok (.iload_n 2, 1) := by decide +kernel
theorem dX13_breaks_18 : decode cX13_breaks 18 = .ok (.invokevirtual 562, 3) := by decide +kernel
theorem dX13_breaks_21 : decode cX13_breaks 21 = .ok (.bipush 100, 2) := by decide +kernel
theorem dX13_breaks_23 : decode cX13_breaks 23 = .ok (.irem, 1) := by decide +kernel
theorem dX13_breaks_24 : decode cX13_breaks 24 = .ok (.invokevirtual 73, 3) := by decide +kernel
theorem dX13_breaks_27 : decode cX13_breaks 27 = .ok (.goto 8, 3) := by decide +kernel
theorem dX13_breaks_30 : decode cX13_breaks 30 = .ok (.aload_n 0, 1) := by decide +kernel
theorem dX13_breaks_31 : decode cX13_breaks 31 = .ok (.iconst 1, 1) := by decide +kernel
theorem dX13_breaks_32 : decode cX13_breaks 32 = .ok (.invokevirtual 69, 3) := by decide +kernel
theorem dX13_breaks_35 : decode cX13_breaks 35 = .ok (.ireturn, 1) := by decide +kernel
theorem dX13_build_0 : decode cX13_build 0 = .ok (.aload_n 0, 1) := by decide +kernel
theorem dX13_build_1 : decode cX13_build 1 = .ok (.iconst 0, 1) := by decide +kernel
theorem dX13_build_2 : decode cX13_build 2 = .ok (.putfield 63, 3) := by decide +kernel
theorem dX13_build_5 : decode cX13_build 5 = .ok (.aload_n 0, 1) := by decide +kernel
theorem dX13_build_6 : decode cX13_build 6 = .ok (.iload_n 1, 1) := by decide +kernel
theorem dX13_build_7 : decode cX13_build 7 = .ok (.invokevirtual 518, 3) := by decide +kernel
theorem dX13_build_10 : decode cX13_build 10 = .ok (.ifCond .eq 20, 3) := by decide +kernel
theorem dX13_build_13 : decode cX13_build 13 = .ok (.aload_n 0, 1) := by decide +kernel
theorem dX13_build_14 : decode cX13_build 14 = .ok (.iload_n 2, 1) := by decide +kernel
theorem dX13_build_15 : decode cX13_build 15 = .ok (.invokevirtual 549, 3) := by decide +kernel
theorem dX13_build_18 : decode cX13_build 18 = .ok (.ifCond .eq 12, 3) := by decide +kernel
theorem dX13_build_21 : decode cX13_build 21 = .ok (.iload_n 3, 1) := by decide +kernel
theorem dX13_build_22 : decode cX13_build 22 = .ok (.iconst 0, 1) := by decide +kernel
theorem dX13_build_23 : decode cX13_build 23 = .ok (.iconst 3, 1) := by decide +kernel
theorem dX13_build_24 : decode cX13_build 24 = .ok (.invokestatic 141, 3) := by decide +kernel
theorem dX13_build_27 : decode cX13_build 27 = .ok (.ifCond .ne 9, 3) := by decide +kernel
theorem dX13_build_30 : decode cX13_build 30 = .ok (.aload_n 0, 1) := by decide +kernel
theorem dX13_build_31 : decode cX13_build 31 = .ok (.iconst 1, 1) := by decide +kernel
theorem dX13_build_32 : decode cX13_build 32 = .ok (.invokevirtual 69, 3) := by decide +kernel
theorem dX13_build_35 : decode cX13_build 35 = .ok (.ireturn, 1) := by decide +kernel
theorem dX13_build_36 : decode cX13_build 36 = .ok (.aload_n 0, 1) := by decide +kernel
theorem dX13_build_37 : decode cX13_build 37 = .ok (.getfield 17, 3) := by decide +kernel
theorem dX13_build_40 : decode cX13_build 40 = .ok (.iconst 0, 1) := by decide +kernel
theorem dX13_build_41 : decode cX13_build 41 = .ok (.iload_n 1, 1) := by decide +kernel
theorem dX13_build_42 : decode cX13_build 42 = .ok (.iadd, 1) := by decide +kernel
theorem dX13_build_43 : decode cX13_build 43 = .ok (.iaload, 1) := by decide +kernel
theorem dX13_build_44 : decode cX13_build 44 = .ok (.iconst 1, 1) := by decide +kernel
theorem dX13_build_45 : decode cX13_build 45 = .ok (.iadd, 1) := by decide +kernel
theorem dX13_build_46 : decode cX13_build 46 = .ok (.istore 6, 2) := by decide +kernel
theorem dX13_build_48 : decode cX13_build 48 = .ok (.iload 6, 2) := by decide +kernel
theorem dX13_build_50 : decode cX13_build 50 = .ok (.bipush 6, 2) := by decide +kernel
theorem dX13_build_52 : decode cX13_build 52 = .ok (.if_icmp .le 9, 3) := by decide +kernel
theorem dX13_build_55 : decode cX13_build 55 = .ok (.aload_n 0, 1) := by decide +kernel
theorem dX13_build_56 : decode cX13_build 56 = .ok (.iconst 3, 1) := by decide +kernel
theorem dX13_build_57 : decode cX13_build 57 = .ok (.invokevirtual 69, 3) := by decide +kernel
theorem dX13_build_60 : decode cX13_build 60 = .ok (.ireturn, 1) := by decide +kernel
theorem dX13_build_61 : decode cX13_build 61 = .ok (.iload 4, 2) := by decide +kernel
theorem dX13_build_63 : decode cX13_build 63 = .ok (.iconst 0, 1) := by decide +kernel
theorem dX13_build_64 : decode cX13_build 64 = .ok (.iconst 2, 1) := by decide +kernel
theorem dX13_build_65 : decode cX13_build 65 = .ok (.iload 6, 2) := by decide +kernel
theorem dX13_build_67 : decode cX13_build 67 = .ok (.imul, 1) := by decide +kernel
theorem dX13_build_68 : decode cX13_build 68 = .ok (.iconst 2, 1) := by decide +kernel
theorem dX13_build_69 : decode cX13_build 69 = .ok (.isub, 1) := by decide +kernel
theorem dX13_build_70 : decode cX13_build 70 = .ok (.invokestatic 141, 3) := by decide +kernel
theorem dX13_build_73 : decode cX13_build 73 = .ok (.ifCond .eq 14, 3) := by decide +kernel
theorem dX13_build_76 : decode cX13_build 76 = .ok (.iload 5, 2) := by decide +kernel
theorem dX13_build_78 : decode cX13_build 78 = .ok (.iconst 0, 1) := by decide +kernel
theorem dX13_build_79 : decode cX13_build 79 = .ok (.bipush 99, 2) := by decide +kernel
theorem dX13_build_81 : decode cX13_build 81 = .ok (.invokestatic 141, 3) := by decide +kernel
theorem dX13_build_84 : decode cX13_build 84 = .ok (.ifCond .ne 9, 3) := by decide +kernel
theorem dX13_build_87 : decode cX13_build 87 = .ok (.aload_n 0, 1) := by decide +kernel
theorem dX13_build_88 : decode cX13_build 88 = .ok (.iconst 2, 1) := by decide +kernel
theorem dX13_build_89 : decode cX13_build 89 = .ok (.invokevirtual 69, 3) := by decide +kernel
theorem dX13_build_92 : decode cX13_build 92 = .ok (.ireturn, 1) := by decide +kernel
theorem dX13_build_93 : decode cX13_build 93 = .ok (.aload_n 0, 1) := by decide +kernel
theorem dX13_build_94 : decode cX13_build 94 = .ok (.getfield 417, 3) := by decide +kernel
theorem dX13_build_97 : decode cX13_build 97 = .ok (.aload_n 0, 1) := by decide +kernel
theorem dX13_build_98 : decode cX13_build 98 = .ok (.getfield 17, 3) := by decide +kernel
theorem dX13_build_101 : decode cX13_build 101 = .ok (.iload_n 1, 1) := by decide +kernel
theorem dX13_build_102 : decode cX13_build 102 = .ok (.invokestatic 375, 3) := by decide +kernel
theorem dX13_build_105 : decode cX13_build 105 = .ok (.ifCond .eq 23, 3) := by decide +kernel
theorem dX13_build_108 : decode cX13_build 108 = .ok (.aload_n 0, 1) := by decide +kernel
theorem dX13_build_109 : decode cX13_build 109 = .ok (.getfield 417, 3) := by decide +kernel
theorem dX13_build_112 : decode cX13_build 112 = .ok (.aload_n 0, 1) := by decide +kernel
theorem dX13_build_113 : decode cX13_build 113 = .ok (.getfield 17, 3) := by decide +kernel
theorem dX13_build_116 : decode cX13_build 116 = .ok (.iload_n 1, 1) := by decide +kernel
theorem dX13_build_117 : decode cX13_build 117 = .ok (.iload 6, 2) := by decide +kernel
theorem dX13_build_119 : decode cX13_build 119 = .ok (.iload_n 3, 1) := by decide +kernel
theorem dX13_build_120 : decode cX13_build 120 = .ok (.iload 4, 2) := by decide +kernel
theorem dX13_build_122 : decode cX13_build 122 = .ok (.invokestatic 471, 3) := by decide +kernel
theorem dX13_build_125 : decode cX13_build 125 = .ok (.ifCond .ne 9, 3) := by decide +kernel
theorem dX13_build_128 : decode cX13_build 128 = .ok (.aload_n 0, 1) := by decide +kernel
theorem dX13_build_129 : decode cX13_build 129 = .ok (.iconst 5, 1) := by decide +kernel
theorem dX13_build_130 : decode cX13_build 130 = .ok (.invokevirtual 69, 3) := by decide +kernel
theorem dX13_build_133 : decode cX13_build 133 = .ok (.ireturn, 1) := by decide +kernel
theorem dX13_build_134 : decode cX13_build 134 = .ok (.aload_n 0, 1) := by decide +kernel
theorem dX13_build_135 : decode cX13_build 135 = .ok (.aload_n 0, 1) := by decide +kernel
theorem dX13_build_136 : decode cX13_build 136 = .ok (.getfield 17, 3) := by decide +kernel
theorem dX13_build_139 : decode cX13_build 139 = .ok (.iload_n 1, 1) := by decide +kernel
theorem dX13_build_140 : decode cX13_build 140 = .ok (.iload_n 2, 1) := by decide +kernel
theorem dX13_build_141 : decode cX13_build 141 = .ok (.invokevirtual 501, 3) := by decide +kernel
theorem dX13_build_144 : decode cX13_build 144 = .ok (.istore 7, 2) := by decide +kernel
theorem dX13_build_146 : decode cX13_build 146 = .ok (.aload_n 0, 1) := by decide +kernel
theorem dX13_build_147 : decode cX13_build 147 = .ok (.getfield 17, 3) := by decide +kernel
theorem dX13_build_150 : decode cX13_build 150 = .ok (.bipush 8, 2) := by decide +kernel
theorem dX13_build_152 : decode cX13_build 152 = .ok (.iload_n 1, 1) := by decide +kernel
theorem dX13_build_153 : decode cX13_build 153 = .ok (.iadd, 1) := by decide +kernel
theorem dX13_build_154 : decode cX13_build 154 = .ok (.iaload, 1) := by decide +kernel
theorem dX13_build_155 : decode cX13_build 155 = .ok (.iload 7, 2) := by decide +kernel
theorem dX13_build_157 : decode cX13_build 157 = .ok (.if_icmp .ge 10, 3) := by decide +kernel
theorem dX13_build_160 : decode cX13_build 160 = .ok (.aload_n 0, 1) := by decide +kernel
theorem dX13_build_161 : decode cX13_build 161 = .ok (.bipush 6, 2) := by decide +kernel
theorem dX13_build_163 : decode cX13_build 163 = .ok (.invokevirtual 69, 3) := by decide +kernel
theorem dX13_build_166 : decode cX13_build 166 = .ok (.ireturn, 1) := by decide +kernel
theorem dX13_build_167 : decode cX13_build 167 = .ok (.aload_n 0, 1) := by decide +kernel
theorem dX13_build_168 : decode cX13_build 168 = .ok (.invokevirtual 616, 3) := by decide +kernel
theorem dX13_build_171 : decode cX13_build 171 = .ok (.aload_n 0, 1) := by decide +kernel
theorem dX13_build_172 : decode cX13_build 172 = .ok (.getfield 17, 3) := by decide +kernel
theorem dX13_build_175 : decode cX13_build 175 = .ok (.bipush 8, 2) := by decide +kernel
theorem dX13_build_177 : decode cX13_build 177 = .ok (.iload_n 1, 1) := by decide +kernel
theorem dX13_build_178 : decode cX13_build 178 = .ok (.iadd, 1) := by decide +kernel
theorem dX13_build_179 : decode cX13_build 179 = .ok (.dup2, 1) := by decide +kernel
theorem dX13_build_180 : decode cX13_build 180 = .ok (.iaload, 1) := by decide +kernel
theorem dX13_build_181 : decode cX13_build 181 = .ok (.iload 7, 2) := by decide +kernel
theorem dX13_build_183 : decode cX13_build 183 = .ok (.isub, 1) := by decide +kernel
theorem dX13_build_184 : decode cX13_build 184 = .ok (.iastore, 1) := by decide +kernel
theorem dX13_build_185 : decode cX13_build 185 = .ok (.aload_n 0, 1) := by decide +kernel
theorem dX13_build_186 : decode cX13_build 186 = .ok (.getfield 17, 3) := by decide +kernel
theorem dX13_build_189 : decode cX13_build 189 = .ok (.iload_n 1, 1) := by decide +kernel
theorem dX13_build_190 : decode cX13_build 190 = .ok (.iload_n 2, 1) := by decide +kernel
theorem dX13_build_191 : decode cX13_build 191 = .ok (.iload_n 3, 1) := by decide +kernel
theorem dX13_build_192 : decode cX13_build 192 = .ok (.iload 4, 2) := by decide +kernel
theorem dX13_build_194 : decode cX13_build 194 = .ok (.iload 5, 2) := by decide +kernel
theorem dX13_build_196 : decode cX13_build 196 = .ok (.aload_n 0, 1) := by decide +kernel
theorem dX13_build_197 : decode cX13_build 197 = .ok (.getfield 17, 3) := by decide +kernel
theorem dX13_build_200 : decode cX13_build 200 = .ok (.sipush 210, 3) := by decide +kernel
theorem dX13_build_203 : decode cX13_build 203 = .ok (.iaload, 1) := by decide +kernel
theorem dX13_build_204 : decode cX13_build 204 = .ok (.invokestatic 384, 3) := by decide +kernel
theorem dX13_build_207 : decode cX13_build 207 = .ok (.aload_n 0, 1) := by decide +kernel
theorem dX13_build_208 : decode cX13_build 208 = .ok (.iload 7, 2) := by decide +kernel
theorem dX13_build_210 : decode cX13_build 210 = .ok (.invokevirtual 73, 3) := by decide +kernel
theorem dX13_build_213 : decode cX13_build 213 = .ok (.ireturn, 1) := by decide +kernel
theorem dX13_byNumbers_0 : decode cX13_byNumbers 0 = .ok (.iconst 0, 1) := by decide +kernel
theorem dX13_byNumbers_1 : decode cX13_byNumbers 1 = .ok (.istore_n 1, 1) := by decide +kernel
theorem dX13_byNumbers_2 : decode cX13_byNumbers 2 = .ok (.iload_n 1, 1) := by decide +kernel
theorem dX13_byNumbers_3 : decode cX13_byNumbers 3 = .ok (.iconst 4, 1) := by decide +kernel
theorem dX13_byNumbers_4 : decode cX13_byNumbers 4 = .ok (.if_icmp .ge 16, 3) := by decide +kernel
theorem dX13_byNumbers_7 : decode cX13_byNumbers 7 = .ok (.aload_n 0, 1) := by decide +kernel
theorem dX13_byNumbers_8 : decode cX13_byNumbers 8 = .ok (.getfield 30, 3) := by decide +kernel
theorem dX13_byNumbers_11 : decode cX13_byNumbers 11 = .ok (.iload_n 1, 1) := by decide +kernel
theorem dX13_byNumbers_12 : decode cX13_byNumbers 12 = .ok (.iload_n 1, 1) := by decide +kernel
theorem dX13_byNumbers_13 : decode cX13_byNumbers 13 = .ok (.iastore, 1) := by decide +kernel
theorem dX13_byNumbers_14 : decode cX13_byNumbers 14 = .ok (.iinc 1 1, 3) := by decide +kernel
theorem dX13_byNumbers_17 : decode cX13_byNumbers 17 = .ok (.goto (-15), 3) := by decide +kernel
theorem dX13_byNumbers_20 : decode cX13_byNumbers 20 = .ok (.return_, 1) := by decide +kernel
theorem dX13_byteAt_0 : decode cX13_byteAt 0 = .ok (.iload_n 1, 1) := by decide +kernel
theorem dX13_byteAt_1 : decode cX13_byteAt 1 = .ok (.aload_n 0, 1) := by decide +kernel
theorem dX13_byteAt_2 : decode cX13_byteAt 2 = .ok (.getfield 76, 3) := by decide +kernel
theorem dX13_byteAt_5 : decode cX13_byteAt 5 = .ok (.if_icmp .ge 16, 3) := by decide +kernel
theorem dX13_byteAt_8 : decode cX13_byteAt 8 = .ok (.aload_n 0, 1) := by decide +kernel
theorem dX13_byteAt_9 : decode cX13_byteAt 9 = .ok (.getfield 13, 3) := by decide +kernel
theorem dX13_byteAt_12 : decode cX13_byteAt 12 = .ok (.iload_n 1, 1) := by decide +kernel
theorem dX13_byteAt_13 : decode cX13_byteAt 13 = .ok (.baload, 1) := by decide +kernel
theorem dX13_byteAt_14 : decode cX13_byteAt 14 = .ok (.sipush 255, 3) := by decide +kernel
theorem dX13_byteAt_17 : decode cX13_byteAt 17 = .ok (.iand, 1) := by decide +kernel
theorem dX13_byteAt_18 : decode cX13_byteAt 18 = .ok (.goto 4, 3) := by decide +kernel
theorem dX13_byteAt_21 : decode cX13_byteAt 21 = .ok (.iconst (-1), 1) := by decide +kernel
theorem dX13_byteAt_22 : decode cX13_byteAt 22 = .ok (.ireturn, 1) := by decide +kernel
theorem dX13_canBe_0 : decode cX13_canBe 0 = .ok (.aload_n 0, 1) := by decide +kernel
theorem dX13_canBe_1 : decode cX13_canBe 1 = .ok (.getfield 417, 3) := by decide +kernel
theorem dX13_canBe_4 : decode cX13_canBe 4 = .ok (.getfield 394, 3) := by decide +kernel
theorem dX13_canBe_7 : decode cX13_canBe 7 = .ok (.istore_n 1, 1) := by decide +kernel
theorem dX13_canBe_8 : decode cX13_canBe 8 = .ok (.iconst 0, 1) := by decide +kernel
theorem dX13_canBe_9 : decode cX13_canBe 9 = .ok (.istore_n 2, 1) := by decide +kernel
theorem dX13_canBe_10 : decode cX13_canBe 10 = .ok (.iload_n 2, 1) := by decide +kernel
theorem dX13_canBe_11 : decode cX13_canBe 11 = .ok (.iload_n 1, 1) := by decide +kernel
theorem dX13_canBe_12 : decode cX13_canBe 12 = .ok (.if_icmp .ge 50, 3) := by decide +kernel
theorem dX13_canBe_15 : decode cX13_canBe 15 = .ok (.iconst 0, 1) := by decide +kernel
theorem dX13_canBe_16 : decode cX13_canBe 16 = .ok (.istore_n 3, 1) := by decide +kernel
theorem dX13_canBe_17 : decode cX13_canBe 17 = .ok (.iload_n 3, 1) := by decide +kernel
theorem dX13_canBe_18 : decode cX13_canBe 18 = .ok (.iload_n 2, 1) := by decide +kernel
theorem dX13_canBe_19 : decode cX13_canBe 19 = .ok (.if_icmp .ge 37, 3) := by decide +kernel
theorem dX13_canBe_22 : decode cX13_canBe 22 = .ok (.aload_n 0, 1) := by decide +kernel
theorem dX13_canBe_23 : decode cX13_canBe 23 = .ok (.getfield 417, 3) := by decide +kernel
theorem dX13_canBe_26 : decode cX13_canBe 26 = .ok (.getfield 404, 3) := by decide +kernel
theorem dX13_canBe_29 : decode cX13_canBe 29 = .ok (.aload_n 0, 1) := by decide +kernel
theorem dX13_canBe_30 : decode cX13_canBe 30 = .ok (.getfield 42, 3) := by decide +kernel
theorem dX13_canBe_33 : decode cX13_canBe 33 = .ok (.iload_n 2, 1) := by decide +kernel
theorem dX13_canBe_34 : decode cX13_canBe 34 = .ok (.iaload, 1) := by decide +kernel
theorem dX13_canBe_35 : decode cX13_canBe 35 = .ok (.iaload, 1) := by decide +kernel
theorem dX13_canBe_36 : decode cX13_canBe 36 = .ok (.aload_n 0, 1) := by decide +kernel
theorem dX13_canBe_37 : decode cX13_canBe 37 = .ok (.getfield 42, 3) := by decide +kernel
theorem dX13_canBe_40 : decode cX13_canBe 40 = .ok (.iload_n 3, 1) := by decide +kernel
theorem dX13_canBe_41 : decode cX13_canBe 41 = .ok (.iaload, 1) := by decide +kernel
theorem dX13_canBe_42 : decode cX13_canBe 42 = .ok (.invokestatic 406, 3) := by decide +kernel
theorem dX13_canBe_45 : decode cX13_canBe 45 = .ok (.ifCond .eq 5, 3) := by decide +kernel
theorem dX13_canBe_48 : decode cX13_canBe 48 = .ok (.iconst 0, 1) := by decide +kernel
theorem dX13_canBe_49 : decode cX13_canBe 49 = .ok (.ireturn, 1) := by decide +kernel
theorem dX13_canBe_50 : decode cX13_canBe 50 = .ok (.iinc 3 1, 3) := by decide +kernel
theorem dX13_canBe_53 : decode cX13_canBe 53 = .ok (.goto (-36), 3) := by decide +kernel
theorem dX13_canBe_56 : decode cX13_canBe 56 = .ok (.iinc 2 1, 3) := by decide +kernel
theorem dX13_canBe_59 : decode cX13_canBe 59 = .ok (.goto (-49), 3) := by decide +kernel
theorem dX13_canBe_62 : decode cX13_canBe 62 = .ok (.iconst (-1), 1) := by decide +kernel
theorem dX13_canBe_63 : decode cX13_canBe 63 = .ok (.istore_n 2, 1) := by decide +kernel
theorem dX13_canBe_64 : decode cX13_canBe 64 = .ok (.iconst 0, 1) := by decide +kernel
theorem dX13_canBe_65 : decode cX13_canBe 65 = .ok (.istore_n 3, 1) := by decide +kernel
theorem dX13_canBe_66 : decode cX13_canBe 66 = .ok (.iload_n 3, 1) := by decide +kernel
theorem dX13_canBe_67 : decode cX13_canBe 67 = .ok (.iload_n 1, 1) := by decide +kernel
theorem dX13_canBe_68 : decode cX13_canBe 68 = .ok (.if_icmp .ge 63, 3) := by decide +kernel
theorem dX13_canBe_71 : decode cX13_canBe 71 = .ok (.aload_n 0, 1) := by decide +kernel
theorem dX13_canBe_72 : decode cX13_canBe 72 = .ok (.getfield 417, 3) := by decide +kernel
theorem dX13_canBe_75 : decode cX13_canBe 75 = .ok (.getfield 397, 3) := by decide +kernel
theorem dX13_canBe_78 : decode cX13_canBe 78 = .ok (.aload_n 0, 1) := by decide +kernel
theorem dX13_canBe_79 : decode cX13_canBe 79 = .ok (.getfield 42, 3) := by decide +kernel
theorem dX13_canBe_82 : decode cX13_canBe 82 = .ok (.iload_n 3, 1) := by decide +kernel
theorem dX13_canBe_83 : decode cX13_canBe 83 = .ok (.iaload, 1) := by decide +kernel
theorem dX13_canBe_84 : decode cX13_canBe 84 = .ok (.iaload, 1) := by decide +kernel
theorem dX13_canBe_85 : decode cX13_canBe 85 = .ok (.istore 4, 2) := by decide +kernel
theorem dX13_canBe_87 : decode cX13_canBe 87 = .ok (.iload 4, 2) := by decide +kernel
theorem dX13_canBe_89 : decode cX13_canBe 89 = .ok (.iload_n 2, 1) := by decide +kernel
theorem dX13_canBe_90 : decode cX13_canBe 90 = .ok (.if_icmp .le 8, 3) := by decide +kernel
theorem dX13_canBe_93 : decode cX13_canBe 93 = .ok (.iload 4, 2) := by decide +kernel
theorem dX13_canBe_95 : decode cX13_canBe 95 = .ok (.goto 6, 3) := by decide +kernel
theorem dX13_canBe_98 : decode cX13_canBe 98 = .ok (.iload_n 2, 1) := by decide +kernel
theorem dX13_canBe_99 : decode cX13_canBe 99 = .ok (.iconst 1, 1) := by decide +kernel
theorem dX13_canBe_100 : decode cX13_canBe 100 = .ok (.iadd, 1) := by decide +kernel
theorem dX13_canBe_101 : decode cX13_canBe 101 = .ok (.istore_n 2, 1) := by decide +kernel
theorem dX13_canBe_102 : decode cX13_canBe 102 = .ok (.iload_n 2, 1) := by decide +kernel
theorem dX13_canBe_103 : decode cX13_canBe 103 = .ok (.aload_n 0, 1) := by decide +kernel
theorem dX13_canBe_104 : decode cX13_canBe 104 = .ok (.aload_n 0, 1) := by decide +kernel
theorem dX13_canBe_105 : decode cX13_canBe 105 = .ok (.getfield 42, 3) := by decide +kernel
theorem dX13_canBe_108 : decode cX13_canBe 108 = .ok (.iload_n 3, 1) := by decide +kernel
theorem dX13_canBe_109 : decode cX13_canBe 109 = .ok (.iaload, 1) := by decide +kernel
theorem dX13_canBe_110 : decode cX13_canBe 110 = .ok (.invokevirtual 601, 3) := by decide +kernel
theorem dX13_canBe_113 : decode cX13_canBe 113 = .ok (.if_icmp .lt 5, 3) := by decide +kernel
theorem dX13_canBe_116 : decode cX13_canBe 116 = .ok (.iconst 0, 1) := by decide +kernel
theorem dX13_canBe_117 : decode cX13_canBe 117 = .ok (.ireturn, 1) := by decide +kernel
theorem dX13_canBe_118 : decode cX13_canBe 118 = .ok (.aload_n 0, 1) := by decide +kernel
theorem dX13_canBe_119 : decode cX13_canBe 119 = .ok (.getfield 54, 3) := by decide +kernel
theorem dX13_canBe_122 : decode cX13_canBe 122 = .ok (.iload_n 3, 1) := by decide +kernel
theorem dX13_canBe_123 : decode cX13_canBe 123 = .ok (.iload_n 2, 1) := by decide +kernel
theorem dX13_canBe_124 : decode cX13_canBe 124 = .ok (.iastore, 1) := by decide +kernel
theorem dX13_canBe_125 : decode cX13_canBe 125 = .ok (.iinc 3 1, 3) := by decide +kernel
theorem dX13_canBe_128 : decode cX13_canBe 128 = .ok (.goto (-62), 3) := by decide +kernel
theorem dX13_canBe_131 : decode cX13_canBe 131 = .ok (.aload_n 0, 1) := by decide +kernel
theorem dX13_canBe_132 : decode cX13_canBe 132 = .ok (.getfield 17, 3) := by decide +kernel
theorem dX13_canBe_135 : decode cX13_canBe 135 = .ok (.sipush 210, 3) := by decide +kernel
theorem dX13_canBe_138 : decode cX13_canBe 138 = .ok (.iaload, 1) := by decide +kernel
theorem dX13_canBe_139 : decode cX13_canBe 139 = .ok (.istore_n 2, 1) := by decide +kernel
theorem dX13_canBe_140 : decode cX13_canBe 140 = .ok (.iload_n 1, 1) := by decide +kernel
theorem dX13_canBe_141 : decode cX13_canBe 141 = .ok (.iconst 1, 1) := by decide +kernel
theorem dX13_canBe_142 : decode cX13_canBe 142 = .ok (.isub, 1) := by decide +kernel
theorem dX13_canBe_143 : decode cX13_canBe 143 = .ok (.istore_n 3, 1) := by decide +kernel
theorem dX13_canBe_144 : decode cX13_canBe 144 = .ok (.iload_n 3, 1) := by decide +kernel
theorem dX13_canBe_145 : decode cX13_canBe 145 = .ok (.ifCond .lt 33, 3) := by decide +kernel
theorem dX13_canBe_148 : decode cX13_canBe 148 = .ok (.iload_n 2, 1) := by decide +kernel
theorem dX13_canBe_149 : decode cX13_canBe 149 = .ok (.aload_n 0, 1) := by decide +kernel
theorem dX13_canBe_150 : decode cX13_canBe 150 = .ok (.aload_n 0, 1) := by decide +kernel
theorem dX13_canBe_151 : decode cX13_canBe 151 = .ok (.getfield 42, 3) := by decide +kernel
theorem dX13_canBe_154 : decode cX13_canBe 154 = .ok (.iload_n 3, 1) := by decide +kernel
theorem dX13_canBe_155 : decode cX13_canBe 155 = .ok (.iaload, 1) := by decide +kernel
theorem dX13_canBe_156 : decode cX13_canBe 156 = .ok (.invokevirtual 601, 3) := by decide +kernel
theorem dX13_canBe_159 : decode cX13_canBe 159 = .ok (.invokestatic 487, 3) := by decide +kernel
theorem dX13_canBe_162 : decode cX13_canBe 162 = .ok (.iconst 1, 1) := by decide +kernel
theorem dX13_canBe_163 : decode cX13_canBe 163 = .ok (.isub, 1) := by decide +kernel
theorem dX13_canBe_164 : decode cX13_canBe 164 = .ok (.istore_n 2, 1) := by decide +kernel
theorem dX13_canBe_165 : decode cX13_canBe 165 = .ok (.aload_n 0, 1) := by decide +kernel
theorem dX13_canBe_166 : decode cX13_canBe 166 = .ok (.getfield 57, 3) := by decide +kernel
theorem dX13_canBe_169 : decode cX13_canBe 169 = .ok (.iload_n 3, 1) := by decide +kernel
theorem dX13_canBe_170 : decode cX13_canBe 170 = .ok (.iload_n 2, 1) := by decide +kernel
theorem dX13_canBe_171 : decode cX13_canBe 171 = .ok (.iastore, 1) := by decide +kernel
theorem dX13_canBe_172 : decode cX13_canBe 172 = .ok (.iinc 3 (-1), 3) := by decide +kernel
theorem dX13_canBe_175 : decode cX13_canBe 175 = .ok (.goto (-31), 3) := by decide +kernel
theorem dX13_canBe_178 : decode cX13_canBe 178 = .ok (.iconst 1, 1) := by decide +kernel
theorem dX13_canBe_179 : decode cX13_canBe 179 = .ok (.ireturn, 1) := by decide +kernel
theorem dX13_copies_0 : decode cX13_copies 0 = .ok (.iconst 0, 1) := by decide +kernel
theorem dX13_copies_1 : decode cX13_copies 1 = .ok (.istore_n 1, 1) := by decide +kernel
theorem dX13_copies_2 : decode cX13_copies 2 = .ok (.iload_n 1, 1) := by decide +kernel
theorem dX13_copies_3 : decode cX13_copies 3 = .ok (.sipush 212, 3) := by decide +kernel
theorem dX13_copies_6 : decode cX13_copies 6 = .ok (.if_icmp .ge 21, 3) := by decide +kernel
theorem dX13_copies_9 : decode cX13_copies 9 = .ok (.aload_n 0, 1) := by decide +kernel
theorem dX13_copies_10 : decode cX13_copies 10 = .ok (.getfield 21, 3) := by decide +kernel
theorem dX13_copies_13 : decode cX13_copies 13 = .ok (.iload_n 1, 1) := by decide +kernel
theorem dX13_copies_14 : decode cX13_copies 14 = .ok (.aload_n 0, 1) := by decide +kernel
theorem dX13_copies_15 : decode cX13_copies 15 = .ok (.getfield 17, 3) := by decide +kernel
theorem dX13_copies_18 : decode cX13_copies 18 = .ok (.iload_n 1, 1) := by decide +kernel
theorem dX13_copies_19 : decode cX13_copies 19 = .ok (.iaload, 1) := by decide +kernel
theorem dX13_copies_20 : decode cX13_copies 20 = .ok (.iastore, 1) := by decide +kernel
theorem dX13_copies_21 : decode cX13_copies 21 = .ok (.iinc 1 1, 3) := by decide +kernel
theorem dX13_copies_24 : decode cX13_copies 24 = .ok (.goto (-22), 3) := by decide +kernel
theorem dX13_copies_27 : decode cX13_copies 27 = .ok (.return_, 1) := by decide +kernel
theorem dX13_costOf_0 : decode cX13_costOf 0 = .ok (.aload_n 0, 1) := by decide +kernel
theorem dX13_costOf_1 : decode cX13_costOf 1 = .ok (.getfield 417, 3) := by decide +kernel
theorem dX13_costOf_4 : decode cX13_costOf 4 = .ok (.getfield 335, 3) := by decide +kernel
theorem dX13_costOf_7 : decode cX13_costOf 7 = .ok (.iload_n 3, 1) := by decide +kernel
theorem dX13_costOf_8 : decode cX13_costOf 8 = .ok (.iaload, 1) := by decide +kernel
theorem dX13_costOf_9 : decode cX13_costOf 9 = .ok (.bipush 8, 2) := by decide +kernel
theorem dX13_costOf_11 : decode cX13_costOf 11 = .ok (.imul, 1) := by decide +kernel
theorem dX13_costOf_12 : decode cX13_costOf 12 = .ok (.aload_n 1, 1) := by decide +kernel
theorem dX13_costOf_13 : decode cX13_costOf 13 = .ok (.iconst 0, 1) := by decide +kernel
theorem dX13_costOf_14 : decode cX13_costOf 14 = .ok (.iload_n 2, 1) := by decide +kernel
theorem dX13_costOf_15 : decode cX13_costOf 15 = .ok (.iadd, 1) := by decide +kernel
theorem dX13_costOf_16 : decode cX13_costOf 16 = .ok (.iaload, 1) := by decide +kernel
theorem dX13_costOf_17 : decode cX13_costOf 17 = .ok (.iconst 1, 1) := by decide +kernel
theorem dX13_costOf_18 : decode cX13_costOf 18 = .ok (.iadd, 1) := by decide +kernel
theorem dX13_costOf_19 : decode cX13_costOf 19 = .ok (.imul, 1) := by decide +kernel
theorem dX13_costOf_20 : decode cX13_costOf 20 = .ok (.ireturn, 1) := by decide +kernel
theorem dX13_costs_0 : decode cX13_costs 0 = .ok (.aload_n 0, 1) := by decide +kernel
theorem dX13_costs_1 : decode cX13_costs 1 = .ok (.iconst 0, 1) := by decide +kernel
theorem dX13_costs_2 : decode cX13_costs 2 = .ok (.putfield 63, 3) := by decide +kernel
theorem dX13_costs_5 : decode cX13_costs 5 = .ok (.aload_n 0, 1) := by decide +kernel
theorem dX13_costs_6 : decode cX13_costs 6 = .ok (.iload_n 1, 1) := by decide +kernel
theorem dX13_costs_7 : decode cX13_costs 7 = .ok (.invokevirtual 518, 3) := by decide +kernel
theorem dX13_costs_10 : decode cX13_costs 10 = .ok (.ifCond .eq 11, 3) := by decide +kernel
theorem dX13_costs_13 : decode cX13_costs 13 = .ok (.aload_n 0, 1) := by decide +kernel
theorem dX13_costs_14 : decode cX13_costs 14 = .ok (.iload_n 2, 1) := by decide +kernel
theorem dX13_costs_15 : decode cX13_costs 15 = .ok (.invokevirtual 549, 3) := by decide +kernel
theorem dX13_costs_18 : decode cX13_costs 18 = .ok (.ifCond .ne 9, 3) := by decide +kernel
theorem dX13_costs_21 : decode cX13_costs 21 = .ok (.aload_n 0, 1) := by decide +kernel
theorem dX13_costs_22 : decode cX13_costs 22 = .ok (.iconst 1, 1) := by decide +kernel
theorem dX13_costs_23 : decode cX13_costs 23 = .ok (.invokevirtual 69, 3) := by decide +kernel
theorem dX13_costs_26 : decode cX13_costs 26 = .ok (.ireturn, 1) := by decide +kernel
theorem dX13_costs_27 : decode cX13_costs 27 = .ok (.aload_n 0, 1) := by decide +kernel
theorem dX13_costs_28 : decode cX13_costs 28 = .ok (.getfield 17, 3) := by decide +kernel
theorem dX13_costs_31 : decode cX13_costs 31 = .ok (.iconst 0, 1) := by decide +kernel
theorem dX13_costs_32 : decode cX13_costs 32 = .ok (.iload_n 1, 1) := by decide +kernel
theorem dX13_costs_33 : decode cX13_costs 33 = .ok (.iadd, 1) := by decide +kernel
theorem dX13_costs_34 : decode cX13_costs 34 = .ok (.iaload, 1) := by decide +kernel
theorem dX13_costs_35 : decode cX13_costs 35 = .ok (.bipush 6, 2) := by decide +kernel
theorem dX13_costs_37 : decode cX13_costs 37 = .ok (.if_icmp .ne 11, 3) := by decide +kernel
theorem dX13_costs_40 : decode cX13_costs 40 = .ok (.aload_n 0, 1) := by decide +kernel
theorem dX13_costs_41 : decode cX13_costs 41 = .ok (.iconst 3, 1) := by decide +kernel
theorem dX13_costs_42 : decode cX13_costs 42 = .ok (.invokevirtual 69, 3) := by decide +kernel
theorem dX13_costs_45 : decode cX13_costs 45 = .ok (.goto 17, 3) := by decide +kernel
theorem dX13_costs_48 : decode cX13_costs 48 = .ok (.aload_n 0, 1) := by decide +kernel
theorem dX13_costs_49 : decode cX13_costs 49 = .ok (.aload_n 0, 1) := by decide +kernel
theorem dX13_costs_50 : decode cX13_costs 50 = .ok (.aload_n 0, 1) := by decide +kernel
theorem dX13_costs_51 : decode cX13_costs 51 = .ok (.getfield 17, 3) := by decide +kernel
theorem dX13_costs_54 : decode cX13_costs 54 = .ok (.iload_n 1, 1) := by decide +kernel
theorem dX13_costs_55 : decode cX13_costs 55 = .ok (.iload_n 2, 1) := by decide +kernel
theorem dX13_costs_56 : decode cX13_costs 56 = .ok (.invokevirtual 501, 3) := by decide +kernel
theorem dX13_costs_59 : decode cX13_costs 59 = .ok (.invokevirtual 73, 3) := by decide +kernel
theorem dX13_costs_62 : decode cX13_costs 62 = .ok (.ireturn, 1) := by decide +kernel
theorem dX13_denied_0 : decode cX13_denied 0 = .ok (.aload_n 0, 1) := by decide +kernel
theorem dX13_denied_1 : decode cX13_denied 1 = .ok (.iload_n 1, 1) := by decide +kernel
theorem dX13_denied_2 : decode cX13_denied 2 = .ok (.invokevirtual 69, 3) := by decide +kernel
theorem dX13_denied_5 : decode cX13_denied 5 = .ok (.pop, 1) := by decide +kernel
theorem dX13_denied_6 : decode cX13_denied 6 = .ok (.iconst 0, 1) := by decide +kernel
theorem dX13_denied_7 : decode cX13_denied 7 = .ok (.ireturn, 1) := by decide +kernel
theorem dX13_doMeet_0 : decode cX13_doMeet 0 = .ok (.iconst 0, 1) := by decide +kernel
theorem dX13_doMeet_1 : decode cX13_doMeet 1 = .ok (.istore 4, 2) := by decide +kernel
theorem dX13_doMeet_3 : decode cX13_doMeet 3 = .ok (.iload 4, 2) := by decide +kernel
theorem dX13_doMeet_5 : decode cX13_doMeet 5 = .ok (.aload_n 0, 1) := by decide +kernel
theorem dX13_doMeet_6 : decode cX13_doMeet 6 = .ok (.getfield 417, 3) := by decide +kernel
theorem dX13_doMeet_9 : decode cX13_doMeet 9 = .ok (.invokevirtual 524, 3) := by decide +kernel
theorem dX13_doMeet_12 : decode cX13_doMeet 12 = .ok (.if_icmp .ge 127, 3) := by decide +kernel
theorem dX13_doMeet_15 : decode cX13_doMeet 15 = .ok (.iload 4, 2) := by decide +kernel
theorem dX13_doMeet_17 : decode cX13_doMeet 17 = .ok (.aload_n 0, 1) := by decide +kernel
theorem dX13_doMeet_18 : decode cX13_doMeet 18 = .ok (.getfield 417, 3) := by decide +kernel
theorem dX13_doMeet_21 : decode cX13_doMeet 21 = .ok (.getfield 160, 3) := by decide +kernel
theorem dX13_doMeet_24 : decode cX13_doMeet 24 = .ok (.irem, 1) := by decide +kernel
theorem dX13_doMeet_25 : decode cX13_doMeet 25 = .ok (.istore 5, 2) := by decide +kernel
theorem dX13_doMeet_27 : decode cX13_doMeet 27 = .ok (.iload 4, 2) := by decide +kernel
theorem dX13_doMeet_29 : decode cX13_doMeet 29 = .ok (.aload_n 0, 1) := by decide +kernel
theorem dX13_doMeet_30 : decode cX13_doMeet 30 = .ok (.getfield 417, 3) := by decide +kernel
theorem dX13_doMeet_33 : decode cX13_doMeet 33 = .ok (.getfield 160, 3) := by decide +kernel
theorem dX13_doMeet_36 : decode cX13_doMeet 36 = .ok (.idiv, 1) := by decide +kernel
theorem dX13_doMeet_37 : decode cX13_doMeet 37 = .ok (.istore 6, 2) := by decide +kernel
theorem dX13_doMeet_39 : decode cX13_doMeet 39 = .ok (.aload_n 0, 1) := by decide +kernel
theorem dX13_doMeet_40 : decode cX13_doMeet 40 = .ok (.getfield 417, 3) := by decide +kernel
theorem dX13_doMeet_43 : decode cX13_doMeet 43 = .ok (.iload_n 2, 1) := by decide +kernel
theorem dX13_doMeet_44 : decode cX13_doMeet 44 = .ok (.iload 5, 2) := by decide +kernel
theorem dX13_doMeet_46 : decode cX13_doMeet 46 = .ok (.iload 6, 2) := by decide +kernel
theorem dX13_doMeet_48 : decode cX13_doMeet 48 = .ok (.invokevirtual 429, 3) := by decide +kernel
theorem dX13_doMeet_51 : decode cX13_doMeet 51 = .ok (.aload_n 1, 1) := by decide +kernel
theorem dX13_doMeet_52 : decode cX13_doMeet 52 = .ok (.iconst 0, 1) := by decide +kernel
theorem dX13_doMeet_53 : decode cX13_doMeet 53 = .ok (.iload_n 2, 1) := by decide +kernel
theorem dX13_doMeet_54 : decode cX13_doMeet 54 = .ok (.iadd, 1) := by decide +kernel
theorem dX13_doMeet_55 : decode cX13_doMeet 55 = .ok (.iaload, 1) := by decide +kernel
theorem dX13_doMeet_56 : decode cX13_doMeet 56 = .ok (.if_icmp .le 6, 3) := by decide +kernel
theorem dX13_doMeet_59 : decode cX13_doMeet 59 = .ok (.goto 74, 3) := by decide +kernel
theorem dX13_doMeet_62 : decode cX13_doMeet 62 = .ok (.aload_n 0, 1) := by decide +kernel
theorem dX13_doMeet_63 : decode cX13_doMeet 63 = .ok (.getfield 417, 3) := by decide +kernel
theorem dX13_doMeet_66 : decode cX13_doMeet 66 = .ok (.iload_n 3, 1) := by decide +kernel
theorem dX13_doMeet_67 : decode cX13_doMeet 67 = .ok (.iload 5, 2) := by decide +kernel
theorem dX13_doMeet_69 : decode cX13_doMeet 69 = .ok (.iload 6, 2) := by decide +kernel
theorem dX13_doMeet_71 : decode cX13_doMeet 71 = .ok (.invokevirtual 429, 3) := by decide +kernel
theorem dX13_doMeet_74 : decode cX13_doMeet 74 = .ok (.aload_n 1, 1) := by decide +kernel
theorem dX13_doMeet_75 : decode cX13_doMeet 75 = .ok (.iconst 0, 1) := by decide +kernel
theorem dX13_doMeet_76 : decode cX13_doMeet 76 = .ok (.iload_n 3, 1) := by decide +kernel
theorem dX13_doMeet_77 : decode cX13_doMeet 77 = .ok (.iadd, 1) := by decide +kernel
theorem dX13_doMeet_78 : decode cX13_doMeet 78 = .ok (.iaload, 1) := by decide +kernel
theorem dX13_doMeet_79 : decode cX13_doMeet 79 = .ok (.if_icmp .gt 5, 3) := by decide +kernel
theorem dX13_doMeet_82 : decode cX13_doMeet 82 = .ok (.iconst 1, 1) := by decide +kernel
theorem dX13_doMeet_83 : decode cX13_doMeet 83 = .ok (.ireturn, 1) := by decide +kernel
theorem dX13_doMeet_84 : decode cX13_doMeet 84 = .ok (.iconst 0, 1) := by decide +kernel
theorem dX13_doMeet_85 : decode cX13_doMeet 85 = .ok (.istore 7, 2) := by decide +kernel
theorem dX13_doMeet_87 : decode cX13_doMeet 87 = .ok (.iload 7, 2) := by decide +kernel
theorem dX13_doMeet_89 : decode cX13_doMeet 89 = .ok (.iconst 4, 1) := by decide +kernel
theorem dX13_doMeet_90 : decode cX13_doMeet 90 = .ok (.if_icmp .ge 43, 3) := by decide +kernel
theorem dX13_doMeet_93 : decode cX13_doMeet 93 = .ok (.aload_n 0, 1) := by decide +kernel
theorem dX13_doMeet_94 : decode cX13_doMeet 94 = .ok (.getfield 417, 3) := by decide +kernel
theorem dX13_doMeet_97 : decode cX13_doMeet 97 = .ok (.iload_n 3, 1) := by decide +kernel
theorem dX13_doMeet_98 : decode cX13_doMeet 98 = .ok (.iload 5, 2) := by decide +kernel
theorem dX13_doMeet_100 : decode cX13_doMeet 100 = .ok (.iload 7, 2) := by decide +kernel
theorem dX13_doMeet_102 : decode cX13_doMeet 102 = .ok (.invokestatic 449, 3) := by decide +kernel
theorem dX13_doMeet_105 : decode cX13_doMeet 105 = .ok (.iadd, 1) := by decide +kernel
theorem dX13_doMeet_106 : decode cX13_doMeet 106 = .ok (.iload 6, 2) := by decide +kernel
theorem dX13_doMeet_108 : decode cX13_doMeet 108 = .ok (.iload 7, 2) := by decide +kernel
theorem dX13_doMeet_110 : decode cX13_doMeet 110 = .ok (.invokestatic 452, 3) := by decide +kernel
theorem dX13_doMeet_113 : decode cX13_doMeet 113 = .ok (.iadd, 1) := by decide +kernel
theorem dX13_doMeet_114 : decode cX13_doMeet 114 = .ok (.invokevirtual 429, 3) := by decide +kernel
theorem dX13_doMeet_117 : decode cX13_doMeet 117 = .ok (.aload_n 1, 1) := by decide +kernel
theorem dX13_doMeet_118 : decode cX13_doMeet 118 = .ok (.iconst 0, 1) := by decide +kernel
theorem dX13_doMeet_119 : decode cX13_doMeet 119 = .ok (.iload_n 3, 1) := by decide +kernel
theorem dX13_doMeet_120 : decode cX13_doMeet 120 = .ok (.iadd, 1) := by decide +kernel
theorem dX13_doMeet_121 : decode cX13_doMeet 121 = .ok (.iaload, 1) := by decide +kernel
theorem dX13_doMeet_122 : decode cX13_doMeet 122 = .ok (.if_icmp .gt 5, 3) := by decide +kernel
theorem dX13_doMeet_125 : decode cX13_doMeet 125 = .ok (.iconst 1, 1) := by decide +kernel
theorem dX13_doMeet_126 : decode cX13_doMeet 126 = .ok (.ireturn, 1) := by decide +kernel
theorem dX13_doMeet_127 : decode cX13_doMeet 127 = .ok (.iinc 7 1, 3) := by decide +kernel
theorem dX13_doMeet_130 : decode cX13_doMeet 130 = .ok (.goto (-43), 3) := by decide +kernel
theorem dX13_doMeet_133 : decode cX13_doMeet 133 = .ok (.iinc 4 1, 3) := by decide +kernel
theorem dX13_doMeet_136 : decode cX13_doMeet 136 = .ok (.goto (-133), 3) := by decide +kernel
theorem dX13_doMeet_139 : decode cX13_doMeet 139 = .ok (.iconst 0, 1) := by decide +kernel
theorem dX13_doMeet_140 : decode cX13_doMeet 140 = .ok (.ireturn, 1) := by decide +kernel
theorem dX13_door_0 : decode cX13_door 0 = .ok (.aload_n 0, 1) := by decide +kernel
theorem dX13_door_1 : decode cX13_door 1 = .ok (.iconst 0, 1) := by decide +kernel
theorem dX13_door_2 : decode cX13_door 2 = .ok (.putfield 63, 3) := by decide +kernel
theorem dX13_door_5 : decode cX13_door 5 = .ok (.aload_n 0, 1) := by decide +kernel
theorem dX13_door_6 : decode cX13_door 6 = .ok (.iload_n 1, 1) := by decide +kernel
theorem dX13_door_7 : decode cX13_door 7 = .ok (.invokevirtual 518, 3) := by decide +kernel
theorem dX13_door_10 : decode cX13_door 10 = .ok (.ifCond .ne 9, 3) := by decide +kernel
theorem dX13_door_13 : decode cX13_door 13 = .ok (.aload_n 0, 1) := by decide +kernel
theorem dX13_door_14 : decode cX13_door 14 = .ok (.iconst 1, 1) := by decide +kernel
theorem dX13_door_15 : decode cX13_door 15 = .ok (.invokevirtual 69, 3) := by decide +kernel
theorem dX13_door_18 : decode cX13_door 18 = .ok (.ireturn, 1) := by decide +kernel
theorem dX13_door_19 : decode cX13_door 19 = .ok (.aload_n 0, 1) := by decide +kernel
theorem dX13_door_20 : decode cX13_door 20 = .ok (.aload_n 0, 1) := by decide +kernel
theorem dX13_door_21 : decode cX13_door 21 = .ok (.aload_n 0, 1) := by decide +kernel
theorem dX13_door_22 : decode cX13_door 22 = .ok (.getfield 17, 3) := by decide +kernel
theorem dX13_door_25 : decode cX13_door 25 = .ok (.iload_n 1, 1) := by decide +kernel
theorem dX13_door_26 : decode cX13_door 26 = .ok (.invokevirtual 497, 3) := by decide +kernel
theorem dX13_door_29 : decode cX13_door 29 = .ok (.ifCond .eq 18, 3) := by decide +kernel
theorem dX13_door_32 : decode cX13_door 32 = .ok (.bipush 100, 2) := by decide +kernel
theorem dX13_door_34 : decode cX13_door 34 = .ok (.aload_n 0, 1) := by decide +kernel
theorem dX13_door_35 : decode cX13_door 35 = .ok (.getfield 475, 3) := by decide +kernel
theorem dX13_door_38 : decode cX13_door 38 = .ok (.imul, 1) := by decide +kernel
theorem dX13_door_39 : decode cX13_door 39 = .ok (.aload_n 0, 1) := by decide +kernel
theorem dX13_door_40 : decode cX13_door 40 = .ok (.getfield 478, 3) := by decide +kernel
theorem dX13_door_43 : decode cX13_door 43 = .ok (.iadd, 1) := by decide +kernel
theorem dX13_door_44 : decode cX13_door 44 = .ok (.goto 5, 3) := by decide +kernel
theorem dX13_door_47 : decode cX13_door 47 = .ok (.bipush (-2), 2) := by decide +kernel
theorem dX13_door_49 : decode cX13_door 49 = .ok (.invokevirtual 73, 3) := by decide +kernel
theorem dX13_door_52 : decode cX13_door 52 = .ok (.ireturn, 1) := by decide +kernel
theorem dX13_doorPlace_0 : decode cX13_doorPlace 0 = .ok (.iload_n 0, 1) := by decide +kernel
theorem dX13_doorPlace_1 : decode cX13_doorPlace 1 = .ok (.iload_n 0, 1) := by decide +kernel
theorem dX13_doorPlace_2 : decode cX13_doorPlace 2 = .ok (.iload_n 1, 1) := by decide +kernel
theorem dX13_doorPlace_3 : decode cX13_doorPlace 3 = .ok (.iload_n 2, 1) := by decide +kernel
theorem dX13_doorPlace_4 : decode cX13_doorPlace 4 = .ok (.invokestatic 440, 3) := by decide +kernel
theorem dX13_doorPlace_7 : decode cX13_doorPlace 7 = .ok (.iload_n 0, 1) := by decide +kernel
theorem dX13_doorPlace_8 : decode cX13_doorPlace 8 = .ok (.iload_n 1, 1) := by decide +kernel
theorem dX13_doorPlace_9 : decode cX13_doorPlace 9 = .ok (.iload_n 2, 1) := by decide +kernel
theorem dX13_doorPlace_10 : decode cX13_doorPlace 10 = .ok (.invokestatic 443, 3) := by decide +kernel
theorem dX13_doorPlace_13 : decode cX13_doorPlace 13 = .ok (.invokestatic 446, 3) := by decide +kernel
theorem dX13_doorPlace_16 : decode cX13_doorPlace 16 = .ok (.ireturn, 1) := by decide +kernel
theorem dX13_doorX_0 : decode cX13_doorX 0 = .ok (.iload_n 1, 1) := by decide +kernel
theorem dX13_doorX_1 : decode cX13_doorX 1 = .ok (.iconst 1, 1) := by decide +kernel
theorem dX13_doorX_2 : decode cX13_doorX 2 = .ok (.if_icmp .ne 7, 3) := by decide +kernel
theorem dX13_doorX_5 : decode cX13_doorX 5 = .ok (.iload_n 0, 1) := by decide +kernel
theorem dX13_doorX_6 : decode cX13_doorX 6 = .ok (.goto 18, 3) := by decide +kernel
theorem dX13_doorX_9 : decode cX13_doorX 9 = .ok (.iload_n 1, 1) := by decide +kernel
theorem dX13_doorX_10 : decode cX13_doorX 10 = .ok (.iconst 3, 1) := by decide +kernel
theorem dX13_doorX_11 : decode cX13_doorX 11 = .ok (.if_icmp .ne 8, 3) := by decide +kernel
theorem dX13_doorX_14 : decode cX13_doorX 14 = .ok (.iload_n 0, 1) := by decide +kernel
theorem dX13_doorX_15 : decode cX13_doorX 15 = .ok (.ineg, 1) := by decide +kernel
theorem dX13_doorX_16 : decode cX13_doorX 16 = .ok (.goto 8, 3) := by decide +kernel
theorem dX13_doorX_19 : decode cX13_doorX 19 = .ok (.iload_n 2, 1) := by decide +kernel
theorem dX13_doorX_20 : decode cX13_doorX 20 = .ok (.iconst 1, 1) := by decide +kernel
theorem dX13_doorX_21 : decode cX13_doorX 21 = .ok (.iadd, 1) := by decide +kernel
theorem dX13_doorX_22 : decode cX13_doorX 22 = .ok (.iload_n 0, 1) := by decide +kernel
theorem dX13_doorX_23 : decode cX13_doorX 23 = .ok (.isub, 1) := by decide +kernel
theorem dX13_doorX_24 : decode cX13_doorX 24 = .ok (.ireturn, 1) := by decide +kernel
theorem dX13_doorY_0 : decode cX13_doorY 0 = .ok (.iload_n 1, 1) := by decide +kernel
theorem dX13_doorY_1 : decode cX13_doorY 1 = .ok (.iconst 2, 1) := by decide +kernel
theorem dX13_doorY_2 : decode cX13_doorY 2 = .ok (.if_icmp .ne 7, 3) := by decide +kernel
theorem dX13_doorY_5 : decode cX13_doorY 5 = .ok (.iload_n 0, 1) := by decide +kernel
theorem dX13_doorY_6 : decode cX13_doorY 6 = .ok (.goto 17, 3) := by decide +kernel
theorem dX13_doorY_9 : decode cX13_doorY 9 = .ok (.iload_n 1, 1) := by decide +kernel
theorem dX13_doorY_10 : decode cX13_doorY 10 = .ok (.ifCond .ne 8, 3) := by decide +kernel
theorem dX13_doorY_13 : decode cX13_doorY 13 = .ok (.iload_n 0, 1) := by decide +kernel
theorem dX13_doorY_14 : decode cX13_doorY 14 = .ok (.ineg, 1) := by decide +kernel
theorem dX13_doorY_15 : decode cX13_doorY 15 = .ok (.goto 8, 3) := by decide +kernel
theorem dX13_doorY_18 : decode cX13_doorY 18 = .ok (.iload_n 2, 1) := by decide +kernel
theorem dX13_doorY_19 : decode cX13_doorY 19 = .ok (.iconst 1, 1) := by decide +kernel
theorem dX13_doorY_20 : decode cX13_doorY 20 = .ok (.iadd, 1) := by decide +kernel
theorem dX13_doorY_21 : decode cX13_doorY 21 = .ok (.iload_n 0, 1) := by decide +kernel
theorem dX13_doorY_22 : decode cX13_doorY 22 = .ok (.isub, 1) := by decide +kernel
theorem dX13_doorY_23 : decode cX13_doorY 23 = .ok (.ireturn, 1) := by decide +kernel
theorem dX13_drawn_0 : decode cX13_drawn 0 = .ok (.aload_n 0, 1) := by decide +kernel
theorem dX13_drawn_1 : decode cX13_drawn 1 = .ok (.sipush 211, 3) := by decide +kernel
theorem dX13_drawn_4 : decode cX13_drawn 4 = .ok (.ldc2_w 481, 3) := by decide +kernel
theorem dX13_drawn_7 : decode cX13_drawn 7 = .ok (.aload_n 0, 1) := by decide +kernel
theorem dX13_drawn_8 : decode cX13_drawn 8 = .ok (.sipush 211, 3) := by decide +kernel
theorem dX13_drawn_11 : decode cX13_drawn 11 = .ok (.iaload, 1) := by decide +kernel
theorem dX13_drawn_12 : decode cX13_drawn 12 = .ok (.i2l, 1) := by decide +kernel
theorem dX13_drawn_13 : decode cX13_drawn 13 = .ok (.lmul, 1) := by decide +kernel
theorem dX13_drawn_14 : decode cX13_drawn 14 = .ok (.ldc2_w 483, 3) := by decide +kernel
theorem dX13_drawn_17 : decode cX13_drawn 17 = .ok (.ladd, 1) := by decide +kernel
theorem dX13_drawn_18 : decode cX13_drawn 18 = .ok (.ldc2_w 485, 3) := by decide +kernel
theorem dX13_drawn_21 : decode cX13_drawn 21 = .ok (.lrem, 1) := by decide +kernel
theorem dX13_drawn_22 : decode cX13_drawn 22 = .ok (.l2i, 1) := by decide +kernel
theorem dX13_drawn_23 : decode cX13_drawn 23 = .ok (.iastore, 1) := by decide +kernel
theorem dX13_drawn_24 : decode cX13_drawn 24 = .ok (.aload_n 0, 1) := by decide +kernel
theorem dX13_drawn_25 : decode cX13_drawn 25 = .ok (.sipush 211, 3) := by decide +kernel
theorem dX13_drawn_28 : decode cX13_drawn 28 = .ok (.iaload, 1) := by decide +kernel
theorem dX13_drawn_29 : decode cX13_drawn 29 = .ok (.bipush 100, 2) := by decide +kernel
theorem dX13_drawn_31 : decode cX13_drawn 31 = .ok (.irem, 1) := by decide +kernel
theorem dX13_drawn_32 : decode cX13_drawn 32 = .ok (.ireturn, 1) := by decide +kernel
theorem dX13_eatsSign_0 : decode cX13_eatsSign 0 = .ok (.aload_n 0, 1) := by decide +kernel
theorem dX13_eatsSign_1 : decode cX13_eatsSign 1 = .ok (.getfield 91, 3) := by decide +kernel
theorem dX13_eatsSign_4 : decode cX13_eatsSign 4 = .ok (.iconst 4, 1) := by decide +kernel
theorem dX13_eatsSign_5 : decode cX13_eatsSign 5 = .ok (.if_icmp .ne 15, 3) := by decide +kernel
theorem dX13_eatsSign_8 : decode cX13_eatsSign 8 = .ok (.aload_n 0, 1) := by decide +kernel
theorem dX13_eatsSign_9 : decode cX13_eatsSign 9 = .ok (.getfield 103, 3) := by decide +kernel
theorem dX13_eatsSign_12 : decode cX13_eatsSign 12 = .ok (.iload_n 1, 1) := by decide +kernel
theorem dX13_eatsSign_13 : decode cX13_eatsSign 13 = .ok (.if_icmp .ne 7, 3) := by decide +kernel
theorem dX13_eatsSign_16 : decode cX13_eatsSign 16 = .ok (.iconst 1, 1) := by decide +kernel
theorem dX13_eatsSign_17 : decode cX13_eatsSign 17 = .ok (.goto 4, 3) := by decide +kernel
theorem dX13_eatsSign_20 : decode cX13_eatsSign 20 = .ok (.iconst 0, 1) := by decide +kernel
theorem dX13_eatsSign_21 : decode cX13_eatsSign 21 = .ok (.istore_n 2, 1) := by decide +kernel
theorem dX13_eatsSign_22 : decode cX13_eatsSign 22 = .ok (.iload_n 2, 1) := by decide +kernel
theorem dX13_eatsSign_23 : decode cX13_eatsSign 23 = .ok (.ifCond .eq 7, 3) := by decide +kernel
theorem dX13_eatsSign_26 : decode cX13_eatsSign 26 = .ok (.aload_n 0, 1) := by decide +kernel
theorem dX13_eatsSign_27 : decode cX13_eatsSign 27 = .ok (.invokevirtual 130, 3) := by decide +kernel
theorem dX13_eatsSign_30 : decode cX13_eatsSign 30 = .ok (.iload_n 2, 1) := by decide +kernel
theorem dX13_eatsSign_31 : decode cX13_eatsSign 31 = .ok (.ireturn, 1) := by decide +kernel
theorem dX13_entry_0 : decode cX13_entry 0 = .ok (.aload_n 0, 1) := by decide +kernel
theorem dX13_entry_1 : decode cX13_entry 1 = .ok (.getfield 17, 3) := by decide +kernel
theorem dX13_entry_4 : decode cX13_entry 4 = .ok (.iload_n 1, 1) := by decide +kernel
theorem dX13_entry_5 : decode cX13_entry 5 = .ok (.iload_n 2, 1) := by decide +kernel
theorem dX13_entry_6 : decode cX13_entry 6 = .ok (.iconst 5, 1) := by decide +kernel
theorem dX13_entry_7 : decode cX13_entry 7 = .ok (.invokestatic 425, 3) := by decide +kernel
theorem dX13_entry_10 : decode cX13_entry 10 = .ok (.iaload, 1) := by decide +kernel
theorem dX13_entry_11 : decode cX13_entry 11 = .ok (.iconst 1, 1) := by decide +kernel
theorem dX13_entry_12 : decode cX13_entry 12 = .ok (.if_icmp .ne 15, 3) := by decide +kernel
theorem dX13_entry_15 : decode cX13_entry 15 = .ok (.iload_n 3, 1) := by decide +kernel
theorem dX13_entry_16 : decode cX13_entry 16 = .ok (.ifCond .eq 8, 3) := by decide +kernel
theorem dX13_entry_19 : decode cX13_entry 19 = .ok (.bipush 100, 2) := by decide +kernel
theorem dX13_entry_21 : decode cX13_entry 21 = .ok (.goto 5, 3) := by decide +kernel
theorem dX13_entry_24 : decode cX13_entry 24 = .ok (.bipush 101, 2) := by decide +kernel
theorem dX13_entry_26 : decode cX13_entry 26 = .ok (.ireturn, 1) := by decide +kernel
theorem dX13_entry_27 : decode cX13_entry 27 = .ok (.aload_n 0, 1) := by decide +kernel
theorem dX13_entry_28 : decode cX13_entry 28 = .ok (.getfield 17, 3) := by decide +kernel
theorem dX13_entry_31 : decode cX13_entry 31 = .ok (.iload_n 1, 1) := by decide +kernel
theorem dX13_entry_32 : decode cX13_entry 32 = .ok (.iload_n 2, 1) := by decide +kernel
theorem dX13_entry_33 : decode cX13_entry 33 = .ok (.bipush 6, 2) := by decide +kernel
theorem dX13_entry_35 : decode cX13_entry 35 = .ok (.invokestatic 425, 3) := by decide +kernel
theorem dX13_entry_38 : decode cX13_entry 38 = .ok (.iaload, 1) := by decide +kernel
theorem dX13_entry_39 : decode cX13_entry 39 = .ok (.iconst 1, 1) := by decide +kernel
theorem dX13_entry_40 : decode cX13_entry 40 = .ok (.if_icmp .ne 17, 3) := by decide +kernel
theorem dX13_entry_43 : decode cX13_entry 43 = .ok (.iload_n 3, 1) := by decide +kernel
theorem dX13_entry_44 : decode cX13_entry 44 = .ok (.ifCond .eq 9, 3) := by decide +kernel
theorem dX13_entry_47 : decode cX13_entry 47 = .ok (.sipush 2000, 3) := by decide +kernel
theorem dX13_entry_50 : decode cX13_entry 50 = .ok (.goto 6, 3) := by decide +kernel
theorem dX13_entry_53 : decode cX13_entry 53 = .ok (.sipush 2001, 3) := by decide +kernel
theorem dX13_entry_56 : decode cX13_entry 56 = .ok (.ireturn, 1) := by decide +kernel
theorem dX13_entry_57 : decode cX13_entry 57 = .ok (.aload_n 0, 1) := by decide +kernel
theorem dX13_entry_58 : decode cX13_entry 58 = .ok (.getfield 417, 3) := by decide +kernel
theorem dX13_entry_61 : decode cX13_entry 61 = .ok (.getfield 341, 3) := by decide +kernel
theorem dX13_entry_64 : decode cX13_entry 64 = .ok (.aload_n 0, 1) := by decide +kernel
theorem dX13_entry_65 : decode cX13_entry 65 = .ok (.getfield 17, 3) := by decide +kernel
theorem dX13_entry_68 : decode cX13_entry 68 = .ok (.iload_n 1, 1) := by decide +kernel
theorem dX13_entry_69 : decode cX13_entry 69 = .ok (.iload_n 2, 1) := by decide +kernel
theorem dX13_entry_70 : decode cX13_entry 70 = .ok (.iconst 0, 1) := by decide +kernel
theorem dX13_entry_71 : decode cX13_entry 71 = .ok (.invokestatic 425, 3) := by decide +kernel
theorem dX13_entry_74 : decode cX13_entry 74 = .ok (.iaload, 1) := by decide +kernel
theorem dX13_entry_75 : decode cX13_entry 75 = .ok (.iaload, 1) := by decide +kernel
theorem dX13_entry_76 : decode cX13_entry 76 = .ok (.aload_n 0, 1) := by decide +kernel
theorem dX13_entry_77 : decode cX13_entry 77 = .ok (.getfield 17, 3) := by decide +kernel
theorem dX13_entry_80 : decode cX13_entry 80 = .ok (.iload_n 1, 1) := by decide +kernel
theorem dX13_entry_81 : decode cX13_entry 81 = .ok (.iload_n 2, 1) := by decide +kernel
theorem dX13_entry_82 : decode cX13_entry 82 = .ok (.iconst 4, 1) := by decide +kernel
theorem dX13_entry_83 : decode cX13_entry 83 = .ok (.invokestatic 425, 3) := by decide +kernel
theorem dX13_entry_86 : decode cX13_entry 86 = .ok (.iaload, 1) := by decide +kernel
theorem dX13_entry_87 : decode cX13_entry 87 = .ok (.isub, 1) := by decide +kernel
theorem dX13_entry_88 : decode cX13_entry 88 = .ok (.istore 4, 2) := by decide +kernel
theorem dX13_entry_90 : decode cX13_entry 90 = .ok (.bipush 100, 2) := by decide +kernel
theorem dX13_entry_92 : decode cX13_entry 92 = .ok (.iload 4, 2) := by decide +kernel
theorem dX13_entry_94 : decode cX13_entry 94 = .ok (.iconst 1, 1) := by decide +kernel
theorem dX13_entry_95 : decode cX13_entry 95 = .ok (.if_icmp .le 8, 3) := by decide +kernel
theorem dX13_entry_98 : decode cX13_entry 98 = .ok (.iload 4, 2) := by decide +kernel
theorem dX13_entry_100 : decode cX13_entry 100 = .ok (.goto 4, 3) := by decide +kernel
theorem dX13_entry_103 : decode cX13_entry 103 = .ok (.iconst 1, 1) := by decide +kernel
theorem dX13_entry_104 : decode cX13_entry 104 = .ok (.imul, 1) := by decide +kernel
theorem dX13_entry_105 : decode cX13_entry 105 = .ok (.iconst 1, 1) := by decide +kernel
theorem dX13_entry_106 : decode cX13_entry 106 = .ok (.iadd, 1) := by decide +kernel
theorem dX13_entry_107 : decode cX13_entry 107 = .ok (.istore 5, 2) := by decide +kernel
theorem dX13_entry_109 : decode cX13_entry 109 = .ok (.iload_n 3, 1) := by decide +kernel
theorem dX13_entry_110 : decode cX13_entry 110 = .ok (.ifCond .eq 27, 3) := by decide +kernel
theorem dX13_entry_113 : decode cX13_entry 113 = .ok (.iload 5, 2) := by decide +kernel
theorem dX13_entry_115 : decode cX13_entry 115 = .ok (.bipush 100, 2) := by decide +kernel
theorem dX13_entry_117 : decode cX13_entry 117 = .ok (.aload_n 0, 1) := by decide +kernel
theorem dX13_entry_118 : decode cX13_entry 118 = .ok (.getfield 17, 3) := by decide +kernel
theorem dX13_entry_121 : decode cX13_entry 121 = .ok (.iload_n 1, 1) := by decide +kernel
theorem dX13_entry_122 : decode cX13_entry 122 = .ok (.iload_n 2, 1) := by decide +kernel
theorem dX13_entry_123 : decode cX13_entry 123 = .ok (.iconst 3, 1) := by decide +kernel
theorem dX13_entry_124 : decode cX13_entry 124 = .ok (.invokestatic 425, 3) := by decide +kernel
theorem dX13_entry_127 : decode cX13_entry 127 = .ok (.iaload, 1) := by decide +kernel
theorem dX13_entry_128 : decode cX13_entry 128 = .ok (.iconst 1, 1) := by decide +kernel
theorem dX13_entry_129 : decode cX13_entry 129 = .ok (.iadd, 1) := by decide +kernel
theorem dX13_entry_130 : decode cX13_entry 130 = .ok (.imul, 1) := by decide +kernel
theorem dX13_entry_131 : decode cX13_entry 131 = .ok (.invokestatic 487, 3) := by decide +kernel
theorem dX13_entry_134 : decode cX13_entry 134 = .ok (.goto 5, 3) := by decide +kernel
theorem dX13_entry_137 : decode cX13_entry 137 = .ok (.iload 5, 2) := by decide +kernel
theorem dX13_entry_139 : decode cX13_entry 139 = .ok (.ireturn, 1) := by decide +kernel
theorem dX13_falls_0 : decode cX13_falls 0 = .ok (.aload_n 0, 1) := by decide +kernel
theorem dX13_falls_1 : decode cX13_falls 1 = .ok (.iconst 0, 1) := by decide +kernel
theorem dX13_falls_2 : decode cX13_falls 2 = .ok (.putfield 63, 3) := by decide +kernel
theorem dX13_falls_5 : decode cX13_falls 5 = .ok (.aload_n 0, 1) := by decide +kernel
theorem dX13_falls_6 : decode cX13_falls 6 = .ok (.aload_n 0, 1) := by decide +kernel
theorem dX13_falls_7 : decode cX13_falls 7 = .ok (.iload_n 1, 1) := by decide +kernel
theorem dX13_falls_8 : decode cX13_falls 8 = .ok (.iload_n 2, 1) := by decide +kernel
theorem dX13_falls_9 : decode cX13_falls 9 = .ok (.invokevirtual 537, 3) := by decide +kernel
theorem dX13_falls_12 : decode cX13_falls 12 = .ok (.iload_n 3, 1) := by decide +kernel
theorem dX13_falls_13 : decode cX13_falls 13 = .ok (.bipush 60, 2) := by decide +kernel
theorem dX13_falls_15 : decode cX13_falls 15 = .ok (.invokevirtual 565, 3) := by decide +kernel
theorem dX13_falls_18 : decode cX13_falls 18 = .ok (.istore 4, 2) := by decide +kernel
theorem dX13_falls_20 : decode cX13_falls 20 = .ok (.iload 4, 2) := by decide +kernel
theorem dX13_falls_22 : decode cX13_falls 22 = .ok (.ifCond .le 10, 3) := by decide +kernel
theorem dX13_falls_25 : decode cX13_falls 25 = .ok (.aload_n 0, 1) := by decide +kernel
theorem dX13_falls_26 : decode cX13_falls 26 = .ok (.iload 4, 2) := by decide +kernel
theorem dX13_falls_28 : decode cX13_falls 28 = .ok (.invokevirtual 69, 3) := by decide +kernel
theorem dX13_falls_31 : decode cX13_falls 31 = .ok (.ireturn, 1) := by decide +kernel
theorem dX13_falls_32 : decode cX13_falls 32 = .ok (.aload_n 0, 1) := by decide +kernel
theorem dX13_falls_33 : decode cX13_falls 33 = .ok (.iconst 0, 1) := by decide +kernel
theorem dX13_falls_34 : decode cX13_falls 34 = .ok (.invokevirtual 569, 3) := by decide +kernel
theorem dX13_falls_37 : decode cX13_falls 37 = .ok (.iconst 0, 1) := by decide +kernel
theorem dX13_falls_38 : decode cX13_falls 38 = .ok (.istore 5, 2) := by decide +kernel
theorem dX13_falls_40 : decode cX13_falls 40 = .ok (.iload 5, 2) := by decide +kernel
theorem dX13_falls_42 : decode cX13_falls 42 = .ok (.iload_n 3, 1) := by decide +kernel
theorem dX13_falls_43 : decode cX13_falls 43 = .ok (.if_icmp .gt 39, 3) := by decide +kernel
theorem dX13_falls_46 : decode cX13_falls 46 = .ok (.aload_n 0, 1) := by decide +kernel
theorem dX13_falls_47 : decode cX13_falls 47 = .ok (.getfield 21, 3) := by decide +kernel
theorem dX13_falls_50 : decode cX13_falls 50 = .ok (.iload_n 1, 1) := by decide +kernel
theorem dX13_falls_51 : decode cX13_falls 51 = .ok (.iload_n 2, 1) := by decide +kernel
theorem dX13_falls_52 : decode cX13_falls 52 = .ok (.iconst 5, 1) := by decide +kernel
theorem dX13_falls_53 : decode cX13_falls 53 = .ok (.invokestatic 425, 3) := by decide +kernel
theorem dX13_falls_56 : decode cX13_falls 56 = .ok (.iaload, 1) := by decide +kernel
theorem dX13_falls_57 : decode cX13_falls 57 = .ok (.iconst 1, 1) := by decide +kernel
theorem dX13_falls_58 : decode cX13_falls 58 = .ok (.if_icmp .ne 10, 3) := by decide +kernel
theorem dX13_falls_61 : decode cX13_falls 61 = .ok (.aload_n 0, 1) := by decide +kernel
theorem dX13_falls_62 : decode cX13_falls 62 = .ok (.iload 5, 2) := by decide +kernel
theorem dX13_falls_64 : decode cX13_falls 64 = .ok (.invokevirtual 73, 3) := by decide +kernel
theorem dX13_falls_67 : decode cX13_falls 67 = .ok (.ireturn, 1) := by decide +kernel
theorem dX13_falls_68 : decode cX13_falls 68 = .ok (.aload_n 0, 1) := by decide +kernel
theorem dX13_falls_69 : decode cX13_falls 69 = .ok (.aload_n 0, 1) := by decide +kernel
theorem dX13_falls_70 : decode cX13_falls 70 = .ok (.getfield 21, 3) := by decide +kernel
theorem dX13_falls_73 : decode cX13_falls 73 = .ok (.invokevirtual 514, 3) := by decide +kernel
theorem dX13_falls_76 : decode cX13_falls 76 = .ok (.iinc 5 1, 3) := by decide +kernel
theorem dX13_falls_79 : decode cX13_falls 79 = .ok (.goto (-39), 3) := by decide +kernel
theorem dX13_falls_82 : decode cX13_falls 82 = .ok (.aload_n 0, 1) := by decide +kernel
theorem dX13_falls_83 : decode cX13_falls 83 = .ok (.bipush (-2), 2) := by decide +kernel
theorem dX13_falls_85 : decode cX13_falls 85 = .ok (.invokevirtual 73, 3) := by decide +kernel
theorem dX13_falls_88 : decode cX13_falls 88 = .ok (.ireturn, 1) := by decide +kernel
theorem dX13_fault_0 : decode cX13_fault 0 = .ok (.aload_n 0, 1) := by decide +kernel
theorem dX13_fault_1 : decode cX13_fault 1 = .ok (.iconst 0, 1) := by decide +kernel
theorem dX13_fault_2 : decode cX13_fault 2 = .ok (.putfield 63, 3) := by decide +kernel
theorem dX13_fault_5 : decode cX13_fault 5 = .ok (.aload_n 0, 1) := by decide +kernel
theorem dX13_fault_6 : decode cX13_fault 6 = .ok (.getfield 120, 3) := by decide +kernel
theorem dX13_fault_9 : decode cX13_fault 9 = .ok (.ireturn, 1) := by decide +kernel
theorem dX13_feed_0 : decode cX13_feed 0 = .ok (.aload_n 0, 1) := by decide +kernel
theorem dX13_feed_1 : decode cX13_feed 1 = .ok (.iconst 0, 1) := by decide +kernel
theorem dX13_feed_2 : decode cX13_feed 2 = .ok (.putfield 63, 3) := by decide +kernel
theorem dX13_feed_5 : decode cX13_feed 5 = .ok (.aload_n 0, 1) := by decide +kernel
theorem dX13_feed_6 : decode cX13_feed 6 = .ok (.getfield 410, 3) := by decide +kernel
theorem dX13_feed_9 : decode cX13_feed 9 = .ok (.bipush 20, 2) := by decide +kernel
theorem dX13_feed_11 : decode cX13_feed 11 = .ok (.iadd, 1) := by decide +kernel
theorem dX13_feed_12 : decode cX13_feed 12 = .ok (.sipush 1000, 3) := by decide +kernel
theorem dX13_feed_15 : decode cX13_feed 15 = .ok (.if_icmp .le 5, 3) := by decide +kernel
theorem dX13_feed_18 : decode cX13_feed 18 = .ok (.iconst (-1), 1) := by decide +kernel
theorem dX13_feed_19 : decode cX13_feed 19 = .ok (.ireturn, 1) := by decide +kernel
theorem dX13_feed_20 : decode cX13_feed 20 = .ok (.iconst 0, 1) := by decide +kernel
theorem dX13_feed_21 : decode cX13_feed 21 = .ok (.istore 6, 2) := by decide +kernel
theorem dX13_feed_23 : decode cX13_feed 23 = .ok (.iload 6, 2) := by decide +kernel
theorem dX13_feed_25 : decode cX13_feed 25 = .ok (.bipush 20, 2) := by decide +kernel
theorem dX13_feed_27 : decode cX13_feed 27 = .ok (.if_icmp .ge 90, 3) := by decide +kernel
theorem dX13_feed_30 : decode cX13_feed 30 = .ok (.iload 6, 2) := by decide +kernel
theorem dX13_feed_32 : decode cX13_feed 32 = .ok (.iconst 4, 1) := by decide +kernel
theorem dX13_feed_33 : decode cX13_feed 33 = .ok (.if_icmp .ge 7, 3) := by decide +kernel
theorem dX13_feed_36 : decode cX13_feed 36 = .ok (.iload_n 1, 1) := by decide +kernel
theorem dX13_feed_37 : decode cX13_feed 37 = .ok (.goto 39, 3) := by decide +kernel
theorem dX13_feed_40 : decode cX13_feed 40 = .ok (.iload 6, 2) := by decide +kernel
theorem dX13_feed_42 : decode cX13_feed 42 = .ok (.bipush 8, 2) := by decide +kernel
theorem dX13_feed_44 : decode cX13_feed 44 = .ok (.if_icmp .ge 7, 3) := by decide +kernel
theorem dX13_feed_47 : decode cX13_feed 47 = .ok (.iload_n 2, 1) := by decide +kernel
theorem dX13_feed_48 : decode cX13_feed 48 = .ok (.goto 28, 3) := by decide +kernel
theorem dX13_feed_51 : decode cX13_feed 51 = .ok (.iload 6, 2) := by decide +kernel
theorem dX13_feed_53 : decode cX13_feed 53 = .ok (.bipush 12, 2) := by decide +kernel
theorem dX13_feed_55 : decode cX13_feed 55 = .ok (.if_icmp .ge 7, 3) := by decide +kernel
theorem dX13_feed_58 : decode cX13_feed 58 = .ok (.iload_n 3, 1) := by decide +kernel
theorem dX13_feed_59 : decode cX13_feed 59 = .ok (.goto 17, 3) := by decide +kernel
theorem dX13_feed_62 : decode cX13_feed 62 = .ok (.iload 6, 2) := by decide +kernel
theorem dX13_feed_64 : decode cX13_feed 64 = .ok (.bipush 16, 2) := by decide +kernel
theorem dX13_feed_66 : decode cX13_feed 66 = .ok (.if_icmp .ge 8, 3) := by decide +kernel
theorem dX13_feed_69 : decode cX13_feed 69 = .ok (.iload 4, 2) := by decide +kernel
theorem dX13_feed_71 : decode cX13_feed 71 = .ok (.goto 5, 3) := by decide +kernel
theorem dX13_feed_74 : decode cX13_feed 74 = .ok (.iload 5, 2) := by decide +kernel
theorem dX13_feed_76 : decode cX13_feed 76 = .ok (.istore 7, 2) := by decide +kernel
theorem dX13_feed_78 : decode cX13_feed 78 = .ok (.aload_n 0, 1) := by decide +kernel
theorem dX13_feed_79 : decode cX13_feed 79 = .ok (.getfield 13, 3) := by decide +kernel
theorem dX13_feed_82 : decode cX13_feed 82 = .ok (.aload_n 0, 1) := by decide +kernel
theorem dX13_feed_83 : decode cX13_feed 83 = .ok (.getfield 410, 3) := by decide +kernel
theorem dX13_feed_86 : decode cX13_feed 86 = .ok (.iload 7, 2) := by decide +kernel
theorem dX13_feed_88 : decode cX13_feed 88 = .ok (.bipush 24, 2) := by decide +kernel
theorem dX13_feed_90 : decode cX13_feed 90 = .ok (.bipush 8, 2) := by decide +kernel
theorem dX13_feed_92 : decode cX13_feed 92 = .ok (.iload 6, 2) := by decide +kernel
theorem dX13_feed_94 : decode cX13_feed 94 = .ok (.iconst 4, 1) := by decide +kernel
theorem dX13_feed_95 : decode cX13_feed 95 = .ok (.irem, 1) := by decide +kernel
theorem dX13_feed_96 : decode cX13_feed 96 = .ok (.imul, 1) := by decide +kernel
theorem dX13_feed_97 : decode cX13_feed 97 = .ok (.isub, 1) := by decide +kernel
theorem dX13_feed_98 : decode cX13_feed 98 = .ok (.ishr, 1) := by decide +kernel
theorem dX13_feed_99 : decode cX13_feed 99 = .ok (.i2b, 1) := by decide +kernel
theorem dX13_feed_100 : decode cX13_feed 100 = .ok (.bastore, 1) := by decide +kernel
theorem dX13_feed_101 : decode cX13_feed 101 = .ok (.aload_n 0, 1) := by decide +kernel
theorem dX13_feed_102 : decode cX13_feed 102 = .ok (.dup, 1) := by decide +kernel
theorem dX13_feed_103 : decode cX13_feed 103 = .ok (.getfield 410, 3) := by decide +kernel
theorem dX13_feed_106 : decode cX13_feed 106 = .ok (.iconst 1, 1) := by decide +kernel
theorem dX13_feed_107 : decode cX13_feed 107 = .ok (.iadd, 1) := by decide +kernel
theorem dX13_feed_108 : decode cX13_feed 108 = .ok (.putfield 410, 3) := by decide +kernel
theorem dX13_feed_111 : decode cX13_feed 111 = .ok (.iinc 6 1, 3) := by decide +kernel
theorem dX13_feed_114 : decode cX13_feed 114 = .ok (.goto (-91), 3) := by decide +kernel
theorem dX13_feed_117 : decode cX13_feed 117 = .ok (.aload_n 0, 1) := by decide +kernel
theorem dX13_feed_118 : decode cX13_feed 118 = .ok (.getfield 410, 3) := by decide +kernel
theorem dX13_feed_121 : decode cX13_feed 121 = .ok (.ireturn, 1) := by decide +kernel
theorem dX13_fill_0 : decode cX13_fill 0 = .ok (.aload_n 0, 1) := by decide +kernel
theorem dX13_fill_1 : decode cX13_fill 1 = .ok (.iconst 0, 1) := by decide +kernel
theorem dX13_fill_2 : decode cX13_fill 2 = .ok (.putfield 63, 3) := by decide +kernel
theorem dX13_fill_5 : decode cX13_fill 5 = .ok (.aload_n 0, 1) := by decide +kernel
theorem dX13_fill_6 : decode cX13_fill 6 = .ok (.iload_n 1, 1) := by decide +kernel
theorem dX13_fill_7 : decode cX13_fill 7 = .ok (.iload_n 2, 1) := by decide +kernel
theorem dX13_fill_8 : decode cX13_fill 8 = .ok (.invokevirtual 537, 3) := by decide +kernel
theorem dX13_fill_11 : decode cX13_fill 11 = .ok (.ifCond .ne 9, 3) := by decide +kernel
theorem dX13_fill_14 : decode cX13_fill 14 = .ok (.aload_n 0, 1) := by decide +kernel
theorem dX13_fill_15 : decode cX13_fill 15 = .ok (.iconst 1, 1) := by decide +kernel
theorem dX13_fill_16 : decode cX13_fill 16 = .ok (.invokevirtual 619, 3) := by decide +kernel
theorem dX13_fill_19 : decode cX13_fill 19 = .ok (.ireturn, 1) := by decide +kernel
theorem dX13_fill_20 : decode cX13_fill 20 = .ok (.aload_n 0, 1) := by decide +kernel
theorem dX13_fill_21 : decode cX13_fill 21 = .ok (.getfield 17, 3) := by decide +kernel
theorem dX13_fill_24 : decode cX13_fill 24 = .ok (.iload_n 1, 1) := by decide +kernel
theorem dX13_fill_25 : decode cX13_fill 25 = .ok (.iload_n 2, 1) := by decide +kernel
theorem dX13_fill_26 : decode cX13_fill 26 = .ok (.bipush 6, 2) := by decide +kernel
theorem dX13_fill_28 : decode cX13_fill 28 = .ok (.invokestatic 425, 3) := by decide +kernel
theorem dX13_fill_31 : decode cX13_fill 31 = .ok (.iaload, 1) := by decide +kernel
theorem dX13_fill_32 : decode cX13_fill 32 = .ok (.iconst 1, 1) := by decide +kernel
theorem dX13_fill_33 : decode cX13_fill 33 = .ok (.if_icmp .eq 27, 3) := by decide +kernel
theorem dX13_fill_36 : decode cX13_fill 36 = .ok (.aload_n 0, 1) := by decide +kernel
theorem dX13_fill_37 : decode cX13_fill 37 = .ok (.getfield 17, 3) := by decide +kernel
theorem dX13_fill_40 : decode cX13_fill 40 = .ok (.iload_n 1, 1) := by decide +kernel
theorem dX13_fill_41 : decode cX13_fill 41 = .ok (.iload_n 2, 1) := by decide +kernel
theorem dX13_fill_42 : decode cX13_fill 42 = .ok (.iconst 5, 1) := by decide +kernel
theorem dX13_fill_43 : decode cX13_fill 43 = .ok (.invokestatic 425, 3) := by decide +kernel
theorem dX13_fill_46 : decode cX13_fill 46 = .ok (.iaload, 1) := by decide +kernel
theorem dX13_fill_47 : decode cX13_fill 47 = .ok (.iconst 1, 1) := by decide +kernel
theorem dX13_fill_48 : decode cX13_fill 48 = .ok (.if_icmp .eq 12, 3) := by decide +kernel
theorem dX13_fill_51 : decode cX13_fill 51 = .ok (.aload_n 0, 1) := by decide +kernel
theorem dX13_fill_52 : decode cX13_fill 52 = .ok (.iload_n 1, 1) := by decide +kernel
theorem dX13_fill_53 : decode cX13_fill 53 = .ok (.iload_n 2, 1) := by decide +kernel
theorem dX13_fill_54 : decode cX13_fill 54 = .ok (.invokevirtual 598, 3) := by decide +kernel
theorem dX13_fill_57 : decode cX13_fill 57 = .ok (.ifCond .eq 9, 3) := by decide +kernel
theorem dX13_fill_60 : decode cX13_fill 60 = .ok (.aload_n 0, 1) := by decide +kernel
theorem dX13_fill_61 : decode cX13_fill 61 = .ok (.iconst 5, 1) := by decide +kernel
theorem dX13_fill_62 : decode cX13_fill 62 = .ok (.invokevirtual 619, 3) := by decide +kernel
theorem dX13_fill_65 : decode cX13_fill 65 = .ok (.ireturn, 1) := by decide +kernel
theorem dX13_fill_66 : decode cX13_fill 66 = .ok (.aload_n 0, 1) := by decide +kernel
theorem dX13_fill_67 : decode cX13_fill 67 = .ok (.invokevirtual 616, 3) := by decide +kernel
theorem dX13_fill_70 : decode cX13_fill 70 = .ok (.aload_n 0, 1) := by decide +kernel
theorem dX13_fill_71 : decode cX13_fill 71 = .ok (.getfield 17, 3) := by decide +kernel
theorem dX13_fill_74 : decode cX13_fill 74 = .ok (.iload_n 1, 1) := by decide +kernel
theorem dX13_fill_75 : decode cX13_fill 75 = .ok (.iload_n 2, 1) := by decide +kernel
theorem dX13_fill_76 : decode cX13_fill 76 = .ok (.bipush 6, 2) := by decide +kernel
theorem dX13_fill_78 : decode cX13_fill 78 = .ok (.invokestatic 425, 3) := by decide +kernel
theorem dX13_fill_81 : decode cX13_fill 81 = .ok (.iconst 1, 1) := by decide +kernel
theorem dX13_fill_82 : decode cX13_fill 82 = .ok (.iastore, 1) := by decide +kernel
theorem dX13_fill_83 : decode cX13_fill 83 = .ok (.aload_n 0, 1) := by decide +kernel
theorem dX13_fill_84 : decode cX13_fill 84 = .ok (.invokevirtual 622, 3) := by decide +kernel
theorem dX13_fill_87 : decode cX13_fill 87 = .ok (.ireturn, 1) := by decide +kernel
theorem dX13_findsDoor_0 : decode cX13_findsDoor 0 = .ok (.aload_n 1, 1) := by decide +kernel
theorem dX13_findsDoor_1 : decode cX13_findsDoor 1 = .ok (.iconst 0, 1) := by decide +kernel
theorem dX13_findsDoor_2 : decode cX13_findsDoor 2 = .ok (.iload_n 2, 1) := by decide +kernel
theorem dX13_findsDoor_3 : decode cX13_findsDoor 3 = .ok (.iadd, 1) := by decide +kernel
theorem dX13_findsDoor_4 : decode cX13_findsDoor 4 = .ok (.iaload, 1) := by decide +kernel
theorem dX13_findsDoor_5 : decode cX13_findsDoor 5 = .ok (.bipush 6, 2) := by decide +kernel
theorem dX13_findsDoor_7 : decode cX13_findsDoor 7 = .ok (.if_icmp .eq 15, 3) := by decide +kernel
theorem dX13_findsDoor_10 : decode cX13_findsDoor 10 = .ok (.aload_n 0, 1) := by decide +kernel
theorem dX13_findsDoor_11 : decode cX13_findsDoor 11 = .ok (.getfield 417, 3) := by decide +kernel
theorem dX13_findsDoor_14 : decode cX13_findsDoor 14 = .ok (.aload_n 1, 1) := by decide +kernel
theorem dX13_findsDoor_15 : decode cX13_findsDoor 15 = .ok (.iload_n 2, 1) := by decide +kernel
theorem dX13_findsDoor_16 : decode cX13_findsDoor 16 = .ok (.invokestatic 375, 3) := by decide +kernel
theorem dX13_findsDoor_19 : decode cX13_findsDoor 19 = .ok (.ifCond .ne 5, 3) := by decide +kernel
theorem dX13_findsDoor_22 : decode cX13_findsDoor 22 = .ok (.iconst 0, 1) := by decide +kernel
theorem dX13_findsDoor_23 : decode cX13_findsDoor 23 = .ok (.ireturn, 1) := by decide +kernel
theorem dX13_findsDoor_24 : decode cX13_findsDoor 24 = .ok (.aload_n 1, 1) := by decide +kernel
theorem dX13_findsDoor_25 : decode cX13_findsDoor 25 = .ok (.iconst 0, 1) := by decide +kernel
theorem dX13_findsDoor_26 : decode cX13_findsDoor 26 = .ok (.iload_n 2, 1) := by decide +kernel
theorem dX13_findsDoor_27 : decode cX13_findsDoor 27 = .ok (.iadd, 1) := by decide +kernel
theorem dX13_findsDoor_28 : decode cX13_findsDoor 28 = .ok (.iaload, 1) := by decide +kernel
theorem dX13_findsDoor_29 : decode cX13_findsDoor 29 = .ok (.iconst 1, 1) := by decide +kernel
theorem dX13_findsDoor_30 : decode cX13_findsDoor 30 = .ok (.iadd, 1) := by decide +kernel
theorem dX13_findsDoor_31 : decode cX13_findsDoor 31 = .ok (.istore_n 3, 1) := by decide +kernel
theorem dX13_findsDoor_32 : decode cX13_findsDoor 32 = .ok (.bipush (-2), 2) := by decide +kernel
theorem dX13_findsDoor_34 : decode cX13_findsDoor 34 = .ok (.istore 4, 2) := by decide +kernel
theorem dX13_findsDoor_36 : decode cX13_findsDoor 36 = .ok (.iconst 0, 1) := by decide +kernel
theorem dX13_findsDoor_37 : decode cX13_findsDoor 37 = .ok (.istore 5, 2) := by decide +kernel
theorem dX13_findsDoor_39 : decode cX13_findsDoor 39 = .ok (.iload 5, 2) := by decide +kernel
theorem dX13_findsDoor_41 : decode cX13_findsDoor 41 = .ok (.iconst 4, 1) := by decide +kernel
theorem dX13_findsDoor_42 : decode cX13_findsDoor 42 = .ok (.if_icmp .ge 150, 3) := by decide +kernel
theorem dX13_findsDoor_45 : decode cX13_findsDoor 45 = .ok (.iconst 0, 1) := by decide +kernel
theorem dX13_findsDoor_46 : decode cX13_findsDoor 46 = .ok (.istore 6, 2) := by decide +kernel
theorem dX13_findsDoor_48 : decode cX13_findsDoor 48 = .ok (.iload 6, 2) := by decide +kernel
theorem dX13_findsDoor_50 : decode cX13_findsDoor 50 = .ok (.iconst 2, 1) := by decide +kernel
theorem dX13_findsDoor_51 : decode cX13_findsDoor 51 = .ok (.iload_n 3, 1) := by decide +kernel
theorem dX13_findsDoor_52 : decode cX13_findsDoor 52 = .ok (.imul, 1) := by decide +kernel
theorem dX13_findsDoor_53 : decode cX13_findsDoor 53 = .ok (.iconst 1, 1) := by decide +kernel
theorem dX13_findsDoor_54 : decode cX13_findsDoor 54 = .ok (.isub, 1) := by decide +kernel
theorem dX13_findsDoor_55 : decode cX13_findsDoor 55 = .ok (.if_icmp .ge 131, 3) := by decide +kernel
theorem dX13_findsDoor_58 : decode cX13_findsDoor 58 = .ok (.aload_n 0, 1) := by decide +kernel
theorem dX13_findsDoor_59 : decode cX13_findsDoor 59 = .ok (.getfield 417, 3) := by decide +kernel
theorem dX13_findsDoor_62 : decode cX13_findsDoor 62 = .ok (.aload_n 1, 1) := by decide +kernel
theorem dX13_findsDoor_63 : decode cX13_findsDoor 63 = .ok (.iload_n 2, 1) := by decide +kernel
theorem dX13_findsDoor_64 : decode cX13_findsDoor 64 = .ok (.iload_n 3, 1) := by decide +kernel
theorem dX13_findsDoor_65 : decode cX13_findsDoor 65 = .ok (.iload 5, 2) := by decide +kernel
theorem dX13_findsDoor_67 : decode cX13_findsDoor 67 = .ok (.iload 6, 2) := by decide +kernel
theorem dX13_findsDoor_69 : decode cX13_findsDoor 69 = .ok (.invokestatic 471, 3) := by decide +kernel
theorem dX13_findsDoor_72 : decode cX13_findsDoor 72 = .ok (.ifCond .ne 6, 3) := by decide +kernel
theorem dX13_findsDoor_75 : decode cX13_findsDoor 75 = .ok (.goto 105, 3) := by decide +kernel
theorem dX13_findsDoor_78 : decode cX13_findsDoor 78 = .ok (.iload_n 3, 1) := by decide +kernel
theorem dX13_findsDoor_79 : decode cX13_findsDoor 79 = .ok (.iconst 1, 1) := by decide +kernel
theorem dX13_findsDoor_80 : decode cX13_findsDoor 80 = .ok (.if_icmp .ne 7, 3) := by decide +kernel
theorem dX13_findsDoor_83 : decode cX13_findsDoor 83 = .ok (.iconst 0, 1) := by decide +kernel
theorem dX13_findsDoor_84 : decode cX13_findsDoor 84 = .ok (.goto 41, 3) := by decide +kernel
theorem dX13_findsDoor_87 : decode cX13_findsDoor 87 = .ok (.iload_n 3, 1) := by decide +kernel
theorem dX13_findsDoor_88 : decode cX13_findsDoor 88 = .ok (.iload_n 3, 1) := by decide +kernel
theorem dX13_findsDoor_89 : decode cX13_findsDoor 89 = .ok (.iload 5, 2) := by decide +kernel
theorem dX13_findsDoor_91 : decode cX13_findsDoor 91 = .ok (.iload 6, 2) := by decide +kernel
theorem dX13_findsDoor_93 : decode cX13_findsDoor 93 = .ok (.invokestatic 455, 3) := by decide +kernel
theorem dX13_findsDoor_96 : decode cX13_findsDoor 96 = .ok (.iload_n 3, 1) := by decide +kernel
theorem dX13_findsDoor_97 : decode cX13_findsDoor 97 = .ok (.iconst 1, 1) := by decide +kernel
theorem dX13_findsDoor_98 : decode cX13_findsDoor 98 = .ok (.isub, 1) := by decide +kernel
theorem dX13_findsDoor_99 : decode cX13_findsDoor 99 = .ok (.aload_n 1, 1) := by decide +kernel
theorem dX13_findsDoor_100 : decode cX13_findsDoor 100 = .ok (.iload_n 2, 1) := by decide +kernel
theorem dX13_findsDoor_101 : decode cX13_findsDoor 101 = .ok (.iload_n 3, 1) := by decide +kernel
theorem dX13_findsDoor_102 : decode cX13_findsDoor 102 = .ok (.iconst 1, 1) := by decide +kernel
theorem dX13_findsDoor_103 : decode cX13_findsDoor 103 = .ok (.isub, 1) := by decide +kernel
theorem dX13_findsDoor_104 : decode cX13_findsDoor 104 = .ok (.iconst 1, 1) := by decide +kernel
theorem dX13_findsDoor_105 : decode cX13_findsDoor 105 = .ok (.invokestatic 425, 3) := by decide +kernel
theorem dX13_findsDoor_108 : decode cX13_findsDoor 108 = .ok (.iaload, 1) := by decide +kernel
theorem dX13_findsDoor_109 : decode cX13_findsDoor 109 = .ok (.aload_n 1, 1) := by decide +kernel
theorem dX13_findsDoor_110 : decode cX13_findsDoor 110 = .ok (.iload_n 2, 1) := by decide +kernel
theorem dX13_findsDoor_111 : decode cX13_findsDoor 111 = .ok (.iload_n 3, 1) := by decide +kernel
theorem dX13_findsDoor_112 : decode cX13_findsDoor 112 = .ok (.iconst 1, 1) := by decide +kernel
theorem dX13_findsDoor_113 : decode cX13_findsDoor 113 = .ok (.isub, 1) := by decide +kernel
theorem dX13_findsDoor_114 : decode cX13_findsDoor 114 = .ok (.iconst 2, 1) := by decide +kernel
theorem dX13_findsDoor_115 : decode cX13_findsDoor 115 = .ok (.invokestatic 425, 3) := by decide +kernel
theorem dX13_findsDoor_118 : decode cX13_findsDoor 118 = .ok (.iaload, 1) := by decide +kernel
theorem dX13_findsDoor_119 : decode cX13_findsDoor 119 = .ok (.invokestatic 458, 3) := by decide +kernel
theorem dX13_findsDoor_122 : decode cX13_findsDoor 122 = .ok (.invokestatic 461, 3) := by decide +kernel
theorem dX13_findsDoor_125 : decode cX13_findsDoor 125 = .ok (.istore 7, 2) := by decide +kernel
theorem dX13_findsDoor_127 : decode cX13_findsDoor 127 = .ok (.iload 4, 2) := by decide +kernel
theorem dX13_findsDoor_129 : decode cX13_findsDoor 129 = .ok (.bipush (-2), 2) := by decide +kernel
theorem dX13_findsDoor_131 : decode cX13_findsDoor 131 = .ok (.if_icmp .eq 33, 3) := by decide +kernel
theorem dX13_findsDoor_134 : decode cX13_findsDoor 134 = .ok (.aload_n 0, 1) := by decide +kernel
theorem dX13_findsDoor_135 : decode cX13_findsDoor 135 = .ok (.getfield 417, 3) := by decide +kernel
theorem dX13_findsDoor_138 : decode cX13_findsDoor 138 = .ok (.getfield 281, 3) := by decide +kernel
theorem dX13_findsDoor_141 : decode cX13_findsDoor 141 = .ok (.ifCond .eq 13, 3) := by decide +kernel
theorem dX13_findsDoor_144 : decode cX13_findsDoor 144 = .ok (.iload 7, 2) := by decide +kernel
theorem dX13_findsDoor_146 : decode cX13_findsDoor 146 = .ok (.iload 4, 2) := by decide +kernel
theorem dX13_findsDoor_148 : decode cX13_findsDoor 148 = .ok (.if_icmp .gt 16, 3) := by decide +kernel
theorem dX13_findsDoor_151 : decode cX13_findsDoor 151 = .ok (.goto 29, 3) := by decide +kernel
theorem dX13_findsDoor_154 : decode cX13_findsDoor 154 = .ok (.iload 7, 2) := by decide +kernel
theorem dX13_findsDoor_156 : decode cX13_findsDoor 156 = .ok (.iload 4, 2) := by decide +kernel
theorem dX13_findsDoor_158 : decode cX13_findsDoor 158 = .ok (.if_icmp .lt 6, 3) := by decide +kernel
theorem dX13_findsDoor_161 : decode cX13_findsDoor 161 = .ok (.goto 19, 3) := by decide +kernel
theorem dX13_findsDoor_164 : decode cX13_findsDoor 164 = .ok (.iload 7, 2) := by decide +kernel
theorem dX13_findsDoor_166 : decode cX13_findsDoor 166 = .ok (.istore 4, 2) := by decide +kernel
theorem dX13_findsDoor_168 : decode cX13_findsDoor 168 = .ok (.aload_n 0, 1) := by decide +kernel
theorem dX13_findsDoor_169 : decode cX13_findsDoor 169 = .ok (.iload 5, 2) := by decide +kernel
theorem dX13_findsDoor_171 : decode cX13_findsDoor 171 = .ok (.putfield 475, 3) := by decide +kernel
theorem dX13_findsDoor_174 : decode cX13_findsDoor 174 = .ok (.aload_n 0, 1) := by decide +kernel
theorem dX13_findsDoor_175 : decode cX13_findsDoor 175 = .ok (.iload 6, 2) := by decide +kernel
theorem dX13_findsDoor_177 : decode cX13_findsDoor 177 = .ok (.putfield 478, 3) := by decide +kernel
theorem dX13_findsDoor_180 : decode cX13_findsDoor 180 = .ok (.iinc 6 1, 3) := by decide +kernel
theorem dX13_findsDoor_183 : decode cX13_findsDoor 183 = .ok (.goto (-135), 3) := by decide +kernel
theorem dX13_findsDoor_186 : decode cX13_findsDoor 186 = .ok (.iinc 5 1, 3) := by decide +kernel
theorem dX13_findsDoor_189 : decode cX13_findsDoor 189 = .ok (.goto (-150), 3) := by decide +kernel
theorem dX13_findsDoor_192 : decode cX13_findsDoor 192 = .ok (.iload 4, 2) := by decide +kernel
theorem dX13_findsDoor_194 : decode cX13_findsDoor 194 = .ok (.bipush (-2), 2) := by decide +kernel
theorem dX13_findsDoor_196 : decode cX13_findsDoor 196 = .ok (.if_icmp .eq 7, 3) := by decide +kernel
theorem dX13_findsDoor_199 : decode cX13_findsDoor 199 = .ok (.iconst 1, 1) := by decide +kernel
theorem dX13_findsDoor_200 : decode cX13_findsDoor 200 = .ok (.goto 4, 3) := by decide +kernel
theorem dX13_findsDoor_203 : decode cX13_findsDoor 203 = .ok (.iconst 0, 1) := by decide +kernel
theorem dX13_findsDoor_204 : decode cX13_findsDoor 204 = .ok (.ireturn, 1) := by decide +kernel
theorem dX13_findsFirst_0 : decode cX13_findsFirst 0 = .ok (.aload_n 0, 1) := by decide +kernel
theorem dX13_findsFirst_1 : decode cX13_findsFirst 1 = .ok (.iconst (-1), 1) := by decide +kernel
theorem dX13_findsFirst_2 : decode cX13_findsFirst 2 = .ok (.putfield 579, 3) := by decide +kernel
theorem dX13_findsFirst_5 : decode cX13_findsFirst 5 = .ok (.aload_n 0, 1) := by decide +kernel
theorem dX13_findsFirst_6 : decode cX13_findsFirst 6 = .ok (.invokevirtual 511, 3) := by decide +kernel
theorem dX13_findsFirst_9 : decode cX13_findsFirst 9 = .ok (.iconst 1, 1) := by decide +kernel
theorem dX13_findsFirst_10 : decode cX13_findsFirst 10 = .ok (.istore_n 2, 1) := by decide +kernel
theorem dX13_findsFirst_11 : decode cX13_findsFirst 11 = .ok (.iload_n 2, 1) := by decide +kernel
theorem dX13_findsFirst_12 : decode cX13_findsFirst 12 = .ok (.ifCond .eq 96, 3) := by decide +kernel
theorem dX13_findsFirst_15 : decode cX13_findsFirst 15 = .ok (.aload_n 0, 1) := by decide +kernel
theorem dX13_findsFirst_16 : decode cX13_findsFirst 16 = .ok (.invokevirtual 508, 3) := by decide +kernel
theorem dX13_findsFirst_19 : decode cX13_findsFirst 19 = .ok (.iconst 0, 1) := by decide +kernel
theorem dX13_findsFirst_20 : decode cX13_findsFirst 20 = .ok (.istore_n 3, 1) := by decide +kernel
theorem dX13_findsFirst_21 : decode cX13_findsFirst 21 = .ok (.iload_n 3, 1) := by decide +kernel
theorem dX13_findsFirst_22 : decode cX13_findsFirst 22 = .ok (.iload_n 1, 1) := by decide +kernel
theorem dX13_findsFirst_23 : decode cX13_findsFirst 23 = .ok (.if_icmp .ge 17, 3) := by decide +kernel
theorem dX13_findsFirst_26 : decode cX13_findsFirst 26 = .ok (.aload_n 0, 1) := by decide +kernel
theorem dX13_findsFirst_27 : decode cX13_findsFirst 27 = .ok (.aload_n 0, 1) := by decide +kernel
theorem dX13_findsFirst_28 : decode cX13_findsFirst 28 = .ok (.getfield 21, 3) := by decide +kernel
theorem dX13_findsFirst_31 : decode cX13_findsFirst 31 = .ok (.invokevirtual 514, 3) := by decide +kernel
theorem dX13_findsFirst_34 : decode cX13_findsFirst 34 = .ok (.iinc 3 1, 3) := by decide +kernel
theorem dX13_findsFirst_37 : decode cX13_findsFirst 37 = .ok (.goto (-16), 3) := by decide +kernel
theorem dX13_findsFirst_40 : decode cX13_findsFirst 40 = .ok (.aload_n 0, 1) := by decide +kernel
theorem dX13_findsFirst_41 : decode cX13_findsFirst 41 = .ok (.getfield 21, 3) := by decide +kernel
theorem dX13_findsFirst_44 : decode cX13_findsFirst 44 = .ok (.invokestatic 572, 3) := by decide +kernel
theorem dX13_findsFirst_47 : decode cX13_findsFirst 47 = .ok (.aload_n 0, 1) := by decide +kernel
theorem dX13_findsFirst_48 : decode cX13_findsFirst 48 = .ok (.getfield 579, 3) := by decide +kernel
theorem dX13_findsFirst_51 : decode cX13_findsFirst 51 = .ok (.if_icmp .le 39, 3) := by decide +kernel
theorem dX13_findsFirst_54 : decode cX13_findsFirst 54 = .ok (.aload_n 0, 1) := by decide +kernel
theorem dX13_findsFirst_55 : decode cX13_findsFirst 55 = .ok (.aload_n 0, 1) := by decide +kernel
theorem dX13_findsFirst_56 : decode cX13_findsFirst 56 = .ok (.getfield 21, 3) := by decide +kernel
theorem dX13_findsFirst_59 : decode cX13_findsFirst 59 = .ok (.invokestatic 572, 3) := by decide +kernel
theorem dX13_findsFirst_62 : decode cX13_findsFirst 62 = .ok (.putfield 579, 3) := by decide +kernel
theorem dX13_findsFirst_65 : decode cX13_findsFirst 65 = .ok (.iconst 0, 1) := by decide +kernel
theorem dX13_findsFirst_66 : decode cX13_findsFirst 66 = .ok (.istore_n 3, 1) := by decide +kernel
theorem dX13_findsFirst_67 : decode cX13_findsFirst 67 = .ok (.iload_n 3, 1) := by decide +kernel
theorem dX13_findsFirst_68 : decode cX13_findsFirst 68 = .ok (.iconst 4, 1) := by decide +kernel
theorem dX13_findsFirst_69 : decode cX13_findsFirst 69 = .ok (.if_icmp .ge 21, 3) := by decide +kernel
theorem dX13_findsFirst_72 : decode cX13_findsFirst 72 = .ok (.aload_n 0, 1) := by decide +kernel
theorem dX13_findsFirst_73 : decode cX13_findsFirst 73 = .ok (.getfield 33, 3) := by decide +kernel
theorem dX13_findsFirst_76 : decode cX13_findsFirst 76 = .ok (.iload_n 3, 1) := by decide +kernel
theorem dX13_findsFirst_77 : decode cX13_findsFirst 77 = .ok (.aload_n 0, 1) := by decide +kernel
theorem dX13_findsFirst_78 : decode cX13_findsFirst 78 = .ok (.getfield 30, 3) := by decide +kernel
theorem dX13_findsFirst_81 : decode cX13_findsFirst 81 = .ok (.iload_n 3, 1) := by decide +kernel
theorem dX13_findsFirst_82 : decode cX13_findsFirst 82 = .ok (.iaload, 1) := by decide +kernel
theorem dX13_findsFirst_83 : decode cX13_findsFirst 83 = .ok (.iastore, 1) := by decide +kernel
theorem dX13_findsFirst_84 : decode cX13_findsFirst 84 = .ok (.iinc 3 1, 3) := by decide +kernel
theorem dX13_findsFirst_87 : decode cX13_findsFirst 87 = .ok (.goto (-20), 3) := by decide +kernel
theorem dX13_findsFirst_90 : decode cX13_findsFirst 90 = .ok (.aload_n 0, 1) := by decide +kernel
theorem dX13_findsFirst_91 : decode cX13_findsFirst 91 = .ok (.getfield 30, 3) := by decide +kernel
theorem dX13_findsFirst_94 : decode cX13_findsFirst 94 = .ok (.aload_n 0, 1) := by decide +kernel
theorem dX13_findsFirst_95 : decode cX13_findsFirst 95 = .ok (.getfield 417, 3) := by decide +kernel
theorem dX13_findsFirst_98 : decode cX13_findsFirst 98 = .ok (.getfield 229, 3) := by decide +kernel
theorem dX13_findsFirst_101 : decode cX13_findsFirst 101 = .ok (.invokestatic 582, 3) := by decide +kernel
theorem dX13_findsFirst_104 : decode cX13_findsFirst 104 = .ok (.istore_n 2, 1) := by decide +kernel
theorem dX13_findsFirst_105 : decode cX13_findsFirst 105 = .ok (.goto (-94), 3) := by decide +kernel
theorem dX13_findsFirst_108 : decode cX13_findsFirst 108 = .ok (.return_, 1) := by decide +kernel
theorem dX13_findsOrders_0 : decode cX13_findsOrders 0 = .ok (.aload_n 0, 1) := by decide +kernel
theorem dX13_findsOrders_1 : decode cX13_findsOrders 1 = .ok (.iconst 0, 1) := by decide +kernel
theorem dX13_findsOrders_2 : decode cX13_findsOrders 2 = .ok (.putfield 604, 3) := by decide +kernel
theorem dX13_findsOrders_5 : decode cX13_findsOrders 5 = .ok (.iconst 0, 1) := by decide +kernel
theorem dX13_findsOrders_6 : decode cX13_findsOrders 6 = .ok (.istore_n 2, 1) := by decide +kernel
theorem dX13_findsOrders_7 : decode cX13_findsOrders 7 = .ok (.iload_n 2, 1) := by decide +kernel
theorem dX13_findsOrders_8 : decode cX13_findsOrders 8 = .ok (.bipush 6, 2) := by decide +kernel
theorem dX13_findsOrders_10 : decode cX13_findsOrders 10 = .ok (.if_icmp .ge 40, 3) := by decide +kernel
theorem dX13_findsOrders_13 : decode cX13_findsOrders 13 = .ok (.aload_n 0, 1) := by decide +kernel
theorem dX13_findsOrders_14 : decode cX13_findsOrders 14 = .ok (.getfield 42, 3) := by decide +kernel
theorem dX13_findsOrders_17 : decode cX13_findsOrders 17 = .ok (.iload_n 2, 1) := by decide +kernel
theorem dX13_findsOrders_18 : decode cX13_findsOrders 18 = .ok (.iload_n 2, 1) := by decide +kernel
theorem dX13_findsOrders_19 : decode cX13_findsOrders 19 = .ok (.iastore, 1) := by decide +kernel
theorem dX13_findsOrders_20 : decode cX13_findsOrders 20 = .ok (.aload_n 0, 1) := by decide +kernel
theorem dX13_findsOrders_21 : decode cX13_findsOrders 21 = .ok (.getfield 45, 3) := by decide +kernel
theorem dX13_findsOrders_24 : decode cX13_findsOrders 24 = .ok (.iload_n 2, 1) := by decide +kernel
theorem dX13_findsOrders_25 : decode cX13_findsOrders 25 = .ok (.bipush (-2), 2) := by decide +kernel
theorem dX13_findsOrders_27 : decode cX13_findsOrders 27 = .ok (.iastore, 1) := by decide +kernel
theorem dX13_findsOrders_28 : decode cX13_findsOrders 28 = .ok (.aload_n 0, 1) := by decide +kernel
theorem dX13_findsOrders_29 : decode cX13_findsOrders 29 = .ok (.getfield 48, 3) := by decide +kernel
theorem dX13_findsOrders_32 : decode cX13_findsOrders 32 = .ok (.iload_n 2, 1) := by decide +kernel
theorem dX13_findsOrders_33 : decode cX13_findsOrders 33 = .ok (.bipush (-2), 2) := by decide +kernel
theorem dX13_findsOrders_35 : decode cX13_findsOrders 35 = .ok (.iastore, 1) := by decide +kernel
theorem dX13_findsOrders_36 : decode cX13_findsOrders 36 = .ok (.aload_n 0, 1) := by decide +kernel
theorem dX13_findsOrders_37 : decode cX13_findsOrders 37 = .ok (.getfield 51, 3) := by decide +kernel
theorem dX13_findsOrders_40 : decode cX13_findsOrders 40 = .ok (.iload_n 2, 1) := by decide +kernel
theorem dX13_findsOrders_41 : decode cX13_findsOrders 41 = .ok (.bipush 63, 2) := by decide +kernel
theorem dX13_findsOrders_43 : decode cX13_findsOrders 43 = .ok (.iastore, 1) := by decide +kernel
theorem dX13_findsOrders_44 : decode cX13_findsOrders 44 = .ok (.iinc 2 1, 3) := by decide +kernel
theorem dX13_findsOrders_47 : decode cX13_findsOrders 47 = .ok (.goto (-40), 3) := by decide +kernel
theorem dX13_findsOrders_50 : decode cX13_findsOrders 50 = .ok (.iconst 1, 1) := by decide +kernel
theorem dX13_findsOrders_51 : decode cX13_findsOrders 51 = .ok (.istore_n 2, 1) := by decide +kernel
theorem dX13_findsOrders_52 : decode cX13_findsOrders 52 = .ok (.iload_n 2, 1) := by decide +kernel
theorem dX13_findsOrders_53 : decode cX13_findsOrders 53 = .ok (.ifCond .eq 191, 3) := by decide +kernel
theorem dX13_findsOrders_56 : decode cX13_findsOrders 56 = .ok (.aload_n 0, 1) := by decide +kernel
theorem dX13_findsOrders_57 : decode cX13_findsOrders 57 = .ok (.invokevirtual 607, 3) := by decide +kernel
theorem dX13_findsOrders_60 : decode cX13_findsOrders 60 = .ok (.ifCond .eq 166, 3) := by decide +kernel
theorem dX13_findsOrders_63 : decode cX13_findsOrders 63 = .ok (.iconst 0, 1) := by decide +kernel
theorem dX13_findsOrders_64 : decode cX13_findsOrders 64 = .ok (.istore_n 3, 1) := by decide +kernel
theorem dX13_findsOrders_65 : decode cX13_findsOrders 65 = .ok (.iconst 0, 1) := by decide +kernel
theorem dX13_findsOrders_66 : decode cX13_findsOrders 66 = .ok (.istore 4, 2) := by decide +kernel
theorem dX13_findsOrders_68 : decode cX13_findsOrders 68 = .ok (.iload 4, 2) := by decide +kernel
theorem dX13_findsOrders_70 : decode cX13_findsOrders 70 = .ok (.aload_n 0, 1) := by decide +kernel
theorem dX13_findsOrders_71 : decode cX13_findsOrders 71 = .ok (.getfield 417, 3) := by decide +kernel
theorem dX13_findsOrders_74 : decode cX13_findsOrders 74 = .ok (.getfield 394, 3) := by decide +kernel
theorem dX13_findsOrders_77 : decode cX13_findsOrders 77 = .ok (.if_icmp .ge 139, 3) := by decide +kernel
theorem dX13_findsOrders_80 : decode cX13_findsOrders 80 = .ok (.aload_n 0, 1) := by decide +kernel
theorem dX13_findsOrders_81 : decode cX13_findsOrders 81 = .ok (.getfield 42, 3) := by decide +kernel
theorem dX13_findsOrders_84 : decode cX13_findsOrders 84 = .ok (.iload 4, 2) := by decide +kernel
theorem dX13_findsOrders_86 : decode cX13_findsOrders 86 = .ok (.iaload, 1) := by decide +kernel
theorem dX13_findsOrders_87 : decode cX13_findsOrders 87 = .ok (.istore 5, 2) := by decide +kernel
theorem dX13_findsOrders_89 : decode cX13_findsOrders 89 = .ok (.aload_n 0, 1) := by decide +kernel
theorem dX13_findsOrders_90 : decode cX13_findsOrders 90 = .ok (.getfield 604, 3) := by decide +kernel
theorem dX13_findsOrders_93 : decode cX13_findsOrders 93 = .ok (.iload_n 1, 1) := by decide +kernel
theorem dX13_findsOrders_94 : decode cX13_findsOrders 94 = .ok (.if_icmp .ne 12, 3) := by decide +kernel
theorem dX13_findsOrders_97 : decode cX13_findsOrders 97 = .ok (.aload_n 0, 1) := by decide +kernel
theorem dX13_findsOrders_98 : decode cX13_findsOrders 98 = .ok (.getfield 60, 3) := by decide +kernel
theorem dX13_findsOrders_101 : decode cX13_findsOrders 101 = .ok (.iload 4, 2) := by decide +kernel
theorem dX13_findsOrders_103 : decode cX13_findsOrders 103 = .ok (.iload 5, 2) := by decide +kernel
theorem dX13_findsOrders_105 : decode cX13_findsOrders 105 = .ok (.iastore, 1) := by decide +kernel
theorem dX13_findsOrders_106 : decode cX13_findsOrders 106 = .ok (.aload_n 0, 1) := by decide +kernel
theorem dX13_findsOrders_107 : decode cX13_findsOrders 107 = .ok (.getfield 45, 3) := by decide +kernel
theorem dX13_findsOrders_110 : decode cX13_findsOrders 110 = .ok (.iload 5, 2) := by decide +kernel
theorem dX13_findsOrders_112 : decode cX13_findsOrders 112 = .ok (.iaload, 1) := by decide +kernel
theorem dX13_findsOrders_113 : decode cX13_findsOrders 113 = .ok (.bipush (-2), 2) := by decide +kernel
theorem dX13_findsOrders_115 : decode cX13_findsOrders 115 = .ok (.if_icmp .eq 20, 3) := by decide +kernel
theorem dX13_findsOrders_118 : decode cX13_findsOrders 118 = .ok (.aload_n 0, 1) := by decide +kernel
theorem dX13_findsOrders_119 : decode cX13_findsOrders 119 = .ok (.getfield 54, 3) := by decide +kernel
theorem dX13_findsOrders_122 : decode cX13_findsOrders 122 = .ok (.iload 4, 2) := by decide +kernel
theorem dX13_findsOrders_124 : decode cX13_findsOrders 124 = .ok (.iaload, 1) := by decide +kernel
theorem dX13_findsOrders_125 : decode cX13_findsOrders 125 = .ok (.aload_n 0, 1) := by decide +kernel
theorem dX13_findsOrders_126 : decode cX13_findsOrders 126 = .ok (.getfield 45, 3) := by decide +kernel
theorem dX13_findsOrders_129 : decode cX13_findsOrders 129 = .ok (.iload 5, 2) := by decide +kernel
theorem dX13_findsOrders_131 : decode cX13_findsOrders 131 = .ok (.iaload, 1) := by decide +kernel
theorem dX13_findsOrders_132 : decode cX13_findsOrders 132 = .ok (.if_icmp .ge 17, 3) := by decide +kernel
theorem dX13_findsOrders_135 : decode cX13_findsOrders 135 = .ok (.aload_n 0, 1) := by decide +kernel
theorem dX13_findsOrders_136 : decode cX13_findsOrders 136 = .ok (.getfield 45, 3) := by decide +kernel
theorem dX13_findsOrders_139 : decode cX13_findsOrders 139 = .ok (.iload 5, 2) := by decide +kernel
theorem dX13_findsOrders_141 : decode cX13_findsOrders 141 = .ok (.aload_n 0, 1) := by decide +kernel
theorem dX13_findsOrders_142 : decode cX13_findsOrders 142 = .ok (.getfield 54, 3) := by decide +kernel
theorem dX13_findsOrders_145 : decode cX13_findsOrders 145 = .ok (.iload 4, 2) := by decide +kernel
theorem dX13_findsOrders_147 : decode cX13_findsOrders 147 = .ok (.iaload, 1) := by decide +kernel
theorem dX13_findsOrders_148 : decode cX13_findsOrders 148 = .ok (.iastore, 1) := by decide +kernel
theorem dX13_findsOrders_149 : decode cX13_findsOrders 149 = .ok (.aload_n 0, 1) := by decide +kernel
theorem dX13_findsOrders_150 : decode cX13_findsOrders 150 = .ok (.getfield 48, 3) := by decide +kernel
theorem dX13_findsOrders_153 : decode cX13_findsOrders 153 = .ok (.iload 5, 2) := by decide +kernel
theorem dX13_findsOrders_155 : decode cX13_findsOrders 155 = .ok (.iaload, 1) := by decide +kernel
theorem dX13_findsOrders_156 : decode cX13_findsOrders 156 = .ok (.bipush (-2), 2) := by decide +kernel
theorem dX13_findsOrders_158 : decode cX13_findsOrders 158 = .ok (.if_icmp .eq 20, 3) := by decide +kernel
theorem dX13_findsOrders_161 : decode cX13_findsOrders 161 = .ok (.aload_n 0, 1) := by decide +kernel
theorem dX13_findsOrders_162 : decode cX13_findsOrders 162 = .ok (.getfield 57, 3) := by decide +kernel
theorem dX13_findsOrders_165 : decode cX13_findsOrders 165 = .ok (.iload 4, 2) := by decide +kernel
theorem dX13_findsOrders_167 : decode cX13_findsOrders 167 = .ok (.iaload, 1) := by decide +kernel
theorem dX13_findsOrders_168 : decode cX13_findsOrders 168 = .ok (.aload_n 0, 1) := by decide +kernel
theorem dX13_findsOrders_169 : decode cX13_findsOrders 169 = .ok (.getfield 48, 3) := by decide +kernel
theorem dX13_findsOrders_172 : decode cX13_findsOrders 172 = .ok (.iload 5, 2) := by decide +kernel
theorem dX13_findsOrders_174 : decode cX13_findsOrders 174 = .ok (.iaload, 1) := by decide +kernel
theorem dX13_findsOrders_175 : decode cX13_findsOrders 175 = .ok (.if_icmp .le 17, 3) := by decide +kernel
theorem dX13_findsOrders_178 : decode cX13_findsOrders 178 = .ok (.aload_n 0, 1) := by decide +kernel
theorem dX13_findsOrders_179 : decode cX13_findsOrders 179 = .ok (.getfield 48, 3) := by decide +kernel
theorem dX13_findsOrders_182 : decode cX13_findsOrders 182 = .ok (.iload 5, 2) := by decide +kernel
theorem dX13_findsOrders_184 : decode cX13_findsOrders 184 = .ok (.aload_n 0, 1) := by decide +kernel
theorem dX13_findsOrders_185 : decode cX13_findsOrders 185 = .ok (.getfield 57, 3) := by decide +kernel
theorem dX13_findsOrders_188 : decode cX13_findsOrders 188 = .ok (.iload 4, 2) := by decide +kernel
theorem dX13_findsOrders_190 : decode cX13_findsOrders 190 = .ok (.iaload, 1) := by decide +kernel
theorem dX13_findsOrders_191 : decode cX13_findsOrders 191 = .ok (.iastore, 1) := by decide +kernel
theorem dX13_findsOrders_192 : decode cX13_findsOrders 192 = .ok (.aload_n 0, 1) := by decide +kernel
theorem dX13_findsOrders_193 : decode cX13_findsOrders 193 = .ok (.getfield 51, 3) := by decide +kernel
theorem dX13_findsOrders_196 : decode cX13_findsOrders 196 = .ok (.iload 5, 2) := by decide +kernel
theorem dX13_findsOrders_198 : decode cX13_findsOrders 198 = .ok (.dup2, 1) := by decide +kernel
theorem dX13_findsOrders_199 : decode cX13_findsOrders 199 = .ok (.iaload, 1) := by decide +kernel
theorem dX13_findsOrders_200 : decode cX13_findsOrders 200 = .ok (.iload_n 3, 1) := by decide +kernel
theorem dX13_findsOrders_201 : decode cX13_findsOrders 201 = .ok (.iand, 1) := by decide +kernel
theorem dX13_findsOrders_202 : decode cX13_findsOrders 202 = .ok (.iastore, 1) := by decide +kernel
theorem dX13_findsOrders_203 : decode cX13_findsOrders 203 = .ok (.iload_n 3, 1) := by decide +kernel
theorem dX13_findsOrders_204 : decode cX13_findsOrders 204 = .ok (.iconst 1, 1) := by decide +kernel
theorem dX13_findsOrders_205 : decode cX13_findsOrders 205 = .ok (.iload 5, 2) := by decide +kernel
theorem dX13_findsOrders_207 : decode cX13_findsOrders 207 = .ok (.ishl, 1) := by decide +kernel
theorem dX13_findsOrders_208 : decode cX13_findsOrders 208 = .ok (.ior, 1) := by decide +kernel
theorem dX13_findsOrders_209 : decode cX13_findsOrders 209 = .ok (.istore_n 3, 1) := by decide +kernel
theorem dX13_findsOrders_210 : decode cX13_findsOrders 210 = .ok (.iinc 4 1, 3) := by decide +kernel
theorem dX13_findsOrders_213 : decode cX13_findsOrders 213 = .ok (.goto (-145), 3) := by decide +kernel
theorem dX13_findsOrders_216 : decode cX13_findsOrders 216 = .ok (.aload_n 0, 1) := by decide +kernel
theorem dX13_findsOrders_217 : decode cX13_findsOrders 217 = .ok (.dup, 1) := by decide +kernel
theorem dX13_findsOrders_218 : decode cX13_findsOrders 218 = .ok (.getfield 604, 3) := by decide +kernel
theorem dX13_findsOrders_221 : decode cX13_findsOrders 221 = .ok (.iconst 1, 1) := by decide +kernel
theorem dX13_findsOrders_222 : decode cX13_findsOrders 222 = .ok (.iadd, 1) := by decide +kernel
theorem dX13_findsOrders_223 : decode cX13_findsOrders 223 = .ok (.putfield 604, 3) := by decide +kernel
theorem dX13_findsOrders_226 : decode cX13_findsOrders 226 = .ok (.aload_n 0, 1) := by decide +kernel
theorem dX13_findsOrders_227 : decode cX13_findsOrders 227 = .ok (.getfield 42, 3) := by decide +kernel
theorem dX13_findsOrders_230 : decode cX13_findsOrders 230 = .ok (.aload_n 0, 1) := by decide +kernel
theorem dX13_findsOrders_231 : decode cX13_findsOrders 231 = .ok (.getfield 417, 3) := by decide +kernel
theorem dX13_findsOrders_234 : decode cX13_findsOrders 234 = .ok (.getfield 394, 3) := by decide +kernel
theorem dX13_findsOrders_237 : decode cX13_findsOrders 237 = .ok (.invokestatic 582, 3) := by decide +kernel
theorem dX13_findsOrders_240 : decode cX13_findsOrders 240 = .ok (.istore_n 2, 1) := by decide +kernel
theorem dX13_findsOrders_241 : decode cX13_findsOrders 241 = .ok (.goto (-189), 3) := by decide +kernel
theorem dX13_findsOrders_244 : decode cX13_findsOrders 244 = .ok (.return_, 1) := by decide +kernel
theorem dX13_first_0 : decode cX13_first 0 = .ok (.aload_n 0, 1) := by decide +kernel
theorem dX13_first_1 : decode cX13_first 1 = .ok (.iconst 0, 1) := by decide +kernel
theorem dX13_first_2 : decode cX13_first 2 = .ok (.putfield 63, 3) := by decide +kernel
theorem dX13_first_5 : decode cX13_first 5 = .ok (.aload_n 0, 1) := by decide +kernel
theorem dX13_first_6 : decode cX13_first 6 = .ok (.iconst 1, 1) := by decide +kernel
theorem dX13_first_7 : decode cX13_first 7 = .ok (.iload_n 1, 1) := by decide +kernel
theorem dX13_first_8 : decode cX13_first 8 = .ok (.bipush 30, 2) := by decide +kernel
theorem dX13_first_10 : decode cX13_first 10 = .ok (.invokevirtual 565, 3) := by decide +kernel
theorem dX13_first_13 : decode cX13_first 13 = .ok (.istore_n 2, 1) := by decide +kernel
theorem dX13_first_14 : decode cX13_first 14 = .ok (.iload_n 2, 1) := by decide +kernel
theorem dX13_first_15 : decode cX13_first 15 = .ok (.ifCond .le 9, 3) := by decide +kernel
theorem dX13_first_18 : decode cX13_first 18 = .ok (.aload_n 0, 1) := by decide +kernel
theorem dX13_first_19 : decode cX13_first 19 = .ok (.iload_n 2, 1) := by decide +kernel
theorem dX13_first_20 : decode cX13_first 20 = .ok (.invokevirtual 69, 3) := by decide +kernel
theorem dX13_first_23 : decode cX13_first 23 = .ok (.ireturn, 1) := by decide +kernel
theorem dX13_first_24 : decode cX13_first 24 = .ok (.aload_n 0, 1) := by decide +kernel
theorem dX13_first_25 : decode cX13_first 25 = .ok (.iload_n 1, 1) := by decide +kernel
theorem dX13_first_26 : decode cX13_first 26 = .ok (.invokevirtual 588, 3) := by decide +kernel
theorem dX13_first_29 : decode cX13_first 29 = .ok (.aload_n 0, 1) := by decide +kernel
theorem dX13_first_30 : decode cX13_first 30 = .ok (.aload_n 0, 1) := by decide +kernel
theorem dX13_first_31 : decode cX13_first 31 = .ok (.getfield 579, 3) := by decide +kernel
theorem dX13_first_34 : decode cX13_first 34 = .ok (.invokevirtual 73, 3) := by decide +kernel
theorem dX13_first_37 : decode cX13_first 37 = .ok (.ireturn, 1) := by decide +kernel
theorem dX13_firstAt_0 : decode cX13_firstAt 0 = .ok (.aload_n 0, 1) := by decide +kernel
theorem dX13_firstAt_1 : decode cX13_firstAt 1 = .ok (.iconst 0, 1) := by decide +kernel
theorem dX13_firstAt_2 : decode cX13_firstAt 2 = .ok (.putfield 63, 3) := by decide +kernel
theorem dX13_firstAt_5 : decode cX13_firstAt 5 = .ok (.aload_n 0, 1) := by decide +kernel
theorem dX13_firstAt_6 : decode cX13_firstAt 6 = .ok (.aload_n 0, 1) := by decide +kernel
theorem dX13_firstAt_7 : decode cX13_firstAt 7 = .ok (.iload_n 2, 1) := by decide +kernel
theorem dX13_firstAt_8 : decode cX13_firstAt 8 = .ok (.invokevirtual 518, 3) := by decide +kernel
theorem dX13_firstAt_11 : decode cX13_firstAt 11 = .ok (.iload_n 1, 1) := by decide +kernel
theorem dX13_firstAt_12 : decode cX13_firstAt 12 = .ok (.bipush 30, 2) := by decide +kernel
theorem dX13_firstAt_14 : decode cX13_firstAt 14 = .ok (.invokevirtual 565, 3) := by decide +kernel
theorem dX13_firstAt_17 : decode cX13_firstAt 17 = .ok (.istore_n 3, 1) := by decide +kernel
theorem dX13_firstAt_18 : decode cX13_firstAt 18 = .ok (.iload_n 3, 1) := by decide +kernel
theorem dX13_firstAt_19 : decode cX13_firstAt 19 = .ok (.ifCond .le 9, 3) := by decide +kernel
theorem dX13_firstAt_22 : decode cX13_firstAt 22 = .ok (.aload_n 0, 1) := by decide +kernel
theorem dX13_firstAt_23 : decode cX13_firstAt 23 = .ok (.iload_n 3, 1) := by decide +kernel
theorem dX13_firstAt_24 : decode cX13_firstAt 24 = .ok (.invokevirtual 69, 3) := by decide +kernel
theorem dX13_firstAt_27 : decode cX13_firstAt 27 = .ok (.ireturn, 1) := by decide +kernel
theorem dX13_firstAt_28 : decode cX13_firstAt 28 = .ok (.aload_n 0, 1) := by decide +kernel
theorem dX13_firstAt_29 : decode cX13_firstAt 29 = .ok (.iload_n 1, 1) := by decide +kernel
theorem dX13_firstAt_30 : decode cX13_firstAt 30 = .ok (.invokevirtual 588, 3) := by decide +kernel
theorem dX13_firstAt_33 : decode cX13_firstAt 33 = .ok (.aload_n 0, 1) := by decide +kernel
theorem dX13_firstAt_34 : decode cX13_firstAt 34 = .ok (.aload_n 0, 1) := by decide +kernel
theorem dX13_firstAt_35 : decode cX13_firstAt 35 = .ok (.getfield 33, 3) := by decide +kernel
theorem dX13_firstAt_38 : decode cX13_firstAt 38 = .ok (.iload_n 2, 1) := by decide +kernel
theorem dX13_firstAt_39 : decode cX13_firstAt 39 = .ok (.iaload, 1) := by decide +kernel
theorem dX13_firstAt_40 : decode cX13_firstAt 40 = .ok (.invokevirtual 73, 3) := by decide +kernel
theorem dX13_firstAt_43 : decode cX13_firstAt 43 = .ok (.ireturn, 1) := by decide +kernel
theorem dX13_fits_0 : decode cX13_fits 0 = .ok (.aload_n 0, 1) := by decide +kernel
theorem dX13_fits_1 : decode cX13_fits 1 = .ok (.iconst 0, 1) := by decide +kernel
theorem dX13_fits_2 : decode cX13_fits 2 = .ok (.putfield 63, 3) := by decide +kernel
theorem dX13_fits_5 : decode cX13_fits 5 = .ok (.aload_n 0, 1) := by decide +kernel
theorem dX13_fits_6 : decode cX13_fits 6 = .ok (.iload_n 1, 1) := by decide +kernel
theorem dX13_fits_7 : decode cX13_fits 7 = .ok (.invokevirtual 518, 3) := by decide +kernel
theorem dX13_fits_10 : decode cX13_fits 10 = .ok (.ifCond .eq 43, 3) := by decide +kernel
theorem dX13_fits_13 : decode cX13_fits 13 = .ok (.aload_n 0, 1) := by decide +kernel
theorem dX13_fits_14 : decode cX13_fits 14 = .ok (.aload_n 0, 1) := by decide +kernel
theorem dX13_fits_15 : decode cX13_fits 15 = .ok (.getfield 17, 3) := by decide +kernel
theorem dX13_fits_18 : decode cX13_fits 18 = .ok (.iconst 0, 1) := by decide +kernel
theorem dX13_fits_19 : decode cX13_fits 19 = .ok (.iload_n 1, 1) := by decide +kernel
theorem dX13_fits_20 : decode cX13_fits 20 = .ok (.iadd, 1) := by decide +kernel
theorem dX13_fits_21 : decode cX13_fits 21 = .ok (.iaload, 1) := by decide +kernel
theorem dX13_fits_22 : decode cX13_fits 22 = .ok (.bipush 6, 2) := by decide +kernel
theorem dX13_fits_24 : decode cX13_fits 24 = .ok (.if_icmp .ge 22, 3) := by decide +kernel
theorem dX13_fits_27 : decode cX13_fits 27 = .ok (.aload_n 0, 1) := by decide +kernel
theorem dX13_fits_28 : decode cX13_fits 28 = .ok (.getfield 417, 3) := by decide +kernel
theorem dX13_fits_31 : decode cX13_fits 31 = .ok (.aload_n 0, 1) := by decide +kernel
theorem dX13_fits_32 : decode cX13_fits 32 = .ok (.getfield 17, 3) := by decide +kernel
theorem dX13_fits_35 : decode cX13_fits 35 = .ok (.iload_n 1, 1) := by decide +kernel
theorem dX13_fits_36 : decode cX13_fits 36 = .ok (.invokestatic 375, 3) := by decide +kernel
theorem dX13_fits_39 : decode cX13_fits 39 = .ok (.ifCond .eq 7, 3) := by decide +kernel
theorem dX13_fits_42 : decode cX13_fits 42 = .ok (.iconst 1, 1) := by decide +kernel
theorem dX13_fits_43 : decode cX13_fits 43 = .ok (.goto 4, 3) := by decide +kernel
theorem dX13_fits_46 : decode cX13_fits 46 = .ok (.iconst 0, 1) := by decide +kernel
theorem dX13_fits_47 : decode cX13_fits 47 = .ok (.invokevirtual 73, 3) := by decide +kernel
theorem dX13_fits_50 : decode cX13_fits 50 = .ok (.goto 8, 3) := by decide +kernel
theorem dX13_fits_53 : decode cX13_fits 53 = .ok (.aload_n 0, 1) := by decide +kernel
theorem dX13_fits_54 : decode cX13_fits 54 = .ok (.iconst 1, 1) := by decide +kernel
theorem dX13_fits_55 : decode cX13_fits 55 = .ok (.invokevirtual 69, 3) := by decide +kernel
theorem dX13_fits_58 : decode cX13_fits 58 = .ok (.ireturn, 1) := by decide +kernel
theorem dX13_fitsIn_0 : decode cX13_fitsIn 0 = .ok (.aload_n 1, 1) := by decide +kernel
theorem dX13_fitsIn_1 : decode cX13_fitsIn 1 = .ok (.iconst 0, 1) := by decide +kernel
theorem dX13_fitsIn_2 : decode cX13_fitsIn 2 = .ok (.iload_n 2, 1) := by decide +kernel
theorem dX13_fitsIn_3 : decode cX13_fitsIn 3 = .ok (.iadd, 1) := by decide +kernel
theorem dX13_fitsIn_4 : decode cX13_fitsIn 4 = .ok (.iaload, 1) := by decide +kernel
theorem dX13_fitsIn_5 : decode cX13_fitsIn 5 = .ok (.iconst 1, 1) := by decide +kernel
theorem dX13_fitsIn_6 : decode cX13_fitsIn 6 = .ok (.iadd, 1) := by decide +kernel
theorem dX13_fitsIn_7 : decode cX13_fitsIn 7 = .ok (.istore_n 3, 1) := by decide +kernel
theorem dX13_fitsIn_8 : decode cX13_fitsIn 8 = .ok (.aload_n 0, 1) := by decide +kernel
theorem dX13_fitsIn_9 : decode cX13_fitsIn 9 = .ok (.iload_n 2, 1) := by decide +kernel
theorem dX13_fitsIn_10 : decode cX13_fitsIn 10 = .ok (.invokevirtual 431, 3) := by decide +kernel
theorem dX13_fitsIn_13 : decode cX13_fitsIn 13 = .ok (.iload_n 3, 1) := by decide +kernel
theorem dX13_fitsIn_14 : decode cX13_fitsIn 14 = .ok (.isub, 1) := by decide +kernel
theorem dX13_fitsIn_15 : decode cX13_fitsIn 15 = .ok (.istore 4, 2) := by decide +kernel
theorem dX13_fitsIn_17 : decode cX13_fitsIn 17 = .ok (.iload 4, 2) := by decide +kernel
theorem dX13_fitsIn_19 : decode cX13_fitsIn 19 = .ok (.aload_n 0, 1) := by decide +kernel
theorem dX13_fitsIn_20 : decode cX13_fitsIn 20 = .ok (.iload_n 2, 1) := by decide +kernel
theorem dX13_fitsIn_21 : decode cX13_fitsIn 21 = .ok (.invokevirtual 431, 3) := by decide +kernel
theorem dX13_fitsIn_24 : decode cX13_fitsIn 24 = .ok (.iload_n 3, 1) := by decide +kernel
theorem dX13_fitsIn_25 : decode cX13_fitsIn 25 = .ok (.iadd, 1) := by decide +kernel
theorem dX13_fitsIn_26 : decode cX13_fitsIn 26 = .ok (.if_icmp .gt 148, 3) := by decide +kernel
theorem dX13_fitsIn_29 : decode cX13_fitsIn 29 = .ok (.aload_n 0, 1) := by decide +kernel
theorem dX13_fitsIn_30 : decode cX13_fitsIn 30 = .ok (.iload_n 2, 1) := by decide +kernel
theorem dX13_fitsIn_31 : decode cX13_fitsIn 31 = .ok (.invokevirtual 434, 3) := by decide +kernel
theorem dX13_fitsIn_34 : decode cX13_fitsIn 34 = .ok (.iload_n 3, 1) := by decide +kernel
theorem dX13_fitsIn_35 : decode cX13_fitsIn 35 = .ok (.isub, 1) := by decide +kernel
theorem dX13_fitsIn_36 : decode cX13_fitsIn 36 = .ok (.istore 5, 2) := by decide +kernel
theorem dX13_fitsIn_38 : decode cX13_fitsIn 38 = .ok (.iload 5, 2) := by decide +kernel
theorem dX13_fitsIn_40 : decode cX13_fitsIn 40 = .ok (.aload_n 0, 1) := by decide +kernel
theorem dX13_fitsIn_41 : decode cX13_fitsIn 41 = .ok (.iload_n 2, 1) := by decide +kernel
theorem dX13_fitsIn_42 : decode cX13_fitsIn 42 = .ok (.invokevirtual 434, 3) := by decide +kernel
theorem dX13_fitsIn_45 : decode cX13_fitsIn 45 = .ok (.iload_n 3, 1) := by decide +kernel
theorem dX13_fitsIn_46 : decode cX13_fitsIn 46 = .ok (.iadd, 1) := by decide +kernel
theorem dX13_fitsIn_47 : decode cX13_fitsIn 47 = .ok (.if_icmp .gt 121, 3) := by decide +kernel
theorem dX13_fitsIn_50 : decode cX13_fitsIn 50 = .ok (.aload_n 0, 1) := by decide +kernel
theorem dX13_fitsIn_51 : decode cX13_fitsIn 51 = .ok (.iload_n 2, 1) := by decide +kernel
theorem dX13_fitsIn_52 : decode cX13_fitsIn 52 = .ok (.iload 5, 2) := by decide +kernel
theorem dX13_fitsIn_54 : decode cX13_fitsIn 54 = .ok (.iload 4, 2) := by decide +kernel
theorem dX13_fitsIn_56 : decode cX13_fitsIn 56 = .ok (.invokevirtual 429, 3) := by decide +kernel
theorem dX13_fitsIn_59 : decode cX13_fitsIn 59 = .ok (.iload_n 3, 1) := by decide +kernel
theorem dX13_fitsIn_60 : decode cX13_fitsIn 60 = .ok (.if_icmp .eq 6, 3) := by decide +kernel
theorem dX13_fitsIn_63 : decode cX13_fitsIn 63 = .ok (.goto 99, 3) := by decide +kernel
theorem dX13_fitsIn_66 : decode cX13_fitsIn 66 = .ok (.aload_n 0, 1) := by decide +kernel
theorem dX13_fitsIn_67 : decode cX13_fitsIn 67 = .ok (.iload 5, 2) := by decide +kernel
theorem dX13_fitsIn_69 : decode cX13_fitsIn 69 = .ok (.iload 4, 2) := by decide +kernel
theorem dX13_fitsIn_71 : decode cX13_fitsIn 71 = .ok (.invokevirtual 437, 3) := by decide +kernel
theorem dX13_fitsIn_74 : decode cX13_fitsIn 74 = .ok (.ifCond .ne 5, 3) := by decide +kernel
theorem dX13_fitsIn_77 : decode cX13_fitsIn 77 = .ok (.iconst 0, 1) := by decide +kernel
theorem dX13_fitsIn_78 : decode cX13_fitsIn 78 = .ok (.ireturn, 1) := by decide +kernel
theorem dX13_fitsIn_79 : decode cX13_fitsIn 79 = .ok (.iconst 0, 1) := by decide +kernel
theorem dX13_fitsIn_80 : decode cX13_fitsIn 80 = .ok (.istore 6, 2) := by decide +kernel
theorem dX13_fitsIn_82 : decode cX13_fitsIn 82 = .ok (.iload 6, 2) := by decide +kernel
theorem dX13_fitsIn_84 : decode cX13_fitsIn 84 = .ok (.aload_n 0, 1) := by decide +kernel
theorem dX13_fitsIn_85 : decode cX13_fitsIn 85 = .ok (.getfield 229, 3) := by decide +kernel
theorem dX13_fitsIn_88 : decode cX13_fitsIn 88 = .ok (.if_icmp .ge 74, 3) := by decide +kernel
theorem dX13_fitsIn_91 : decode cX13_fitsIn 91 = .ok (.iload 6, 2) := by decide +kernel
theorem dX13_fitsIn_93 : decode cX13_fitsIn 93 = .ok (.iload_n 2, 1) := by decide +kernel
theorem dX13_fitsIn_94 : decode cX13_fitsIn 94 = .ok (.if_icmp .eq 62, 3) := by decide +kernel
theorem dX13_fitsIn_97 : decode cX13_fitsIn 97 = .ok (.aload_n 0, 1) := by decide +kernel
theorem dX13_fitsIn_98 : decode cX13_fitsIn 98 = .ok (.iload 6, 2) := by decide +kernel
theorem dX13_fitsIn_100 : decode cX13_fitsIn 100 = .ok (.iload 5, 2) := by decide +kernel
theorem dX13_fitsIn_102 : decode cX13_fitsIn 102 = .ok (.iload 4, 2) := by decide +kernel
theorem dX13_fitsIn_104 : decode cX13_fitsIn 104 = .ok (.invokevirtual 429, 3) := by decide +kernel
theorem dX13_fitsIn_107 : decode cX13_fitsIn 107 = .ok (.aload_n 1, 1) := by decide +kernel
theorem dX13_fitsIn_108 : decode cX13_fitsIn 108 = .ok (.iconst 0, 1) := by decide +kernel
theorem dX13_fitsIn_109 : decode cX13_fitsIn 109 = .ok (.iload 6, 2) := by decide +kernel
theorem dX13_fitsIn_111 : decode cX13_fitsIn 111 = .ok (.iadd, 1) := by decide +kernel
theorem dX13_fitsIn_112 : decode cX13_fitsIn 112 = .ok (.iaload, 1) := by decide +kernel
theorem dX13_fitsIn_113 : decode cX13_fitsIn 113 = .ok (.if_icmp .le 6, 3) := by decide +kernel
theorem dX13_fitsIn_116 : decode cX13_fitsIn 116 = .ok (.goto 40, 3) := by decide +kernel
theorem dX13_fitsIn_119 : decode cX13_fitsIn 119 = .ok (.aload_n 0, 1) := by decide +kernel
theorem dX13_fitsIn_120 : decode cX13_fitsIn 120 = .ok (.getfield 284, 3) := by decide +kernel
theorem dX13_fitsIn_123 : decode cX13_fitsIn 123 = .ok (.ifCond .eq 31, 3) := by decide +kernel
theorem dX13_fitsIn_126 : decode cX13_fitsIn 126 = .ok (.aload_n 1, 1) := by decide +kernel
theorem dX13_fitsIn_127 : decode cX13_fitsIn 127 = .ok (.iconst 0, 1) := by decide +kernel
theorem dX13_fitsIn_128 : decode cX13_fitsIn 128 = .ok (.iload 6, 2) := by decide +kernel
theorem dX13_fitsIn_130 : decode cX13_fitsIn 130 = .ok (.iadd, 1) := by decide +kernel
theorem dX13_fitsIn_131 : decode cX13_fitsIn 131 = .ok (.iaload, 1) := by decide +kernel
theorem dX13_fitsIn_132 : decode cX13_fitsIn 132 = .ok (.ifCond .eq 22, 3) := by decide +kernel
theorem dX13_fitsIn_135 : decode cX13_fitsIn 135 = .ok (.aload_n 0, 1) := by decide +kernel
theorem dX13_fitsIn_136 : decode cX13_fitsIn 136 = .ok (.iload 6, 2) := by decide +kernel
theorem dX13_fitsIn_138 : decode cX13_fitsIn 138 = .ok (.iload 5, 2) := by decide +kernel
theorem dX13_fitsIn_140 : decode cX13_fitsIn 140 = .ok (.iload 4, 2) := by decide +kernel
theorem dX13_fitsIn_142 : decode cX13_fitsIn 142 = .ok (.invokevirtual 429, 3) := by decide +kernel
theorem dX13_fitsIn_145 : decode cX13_fitsIn 145 = .ok (.aload_n 1, 1) := by decide +kernel
theorem dX13_fitsIn_146 : decode cX13_fitsIn 146 = .ok (.iconst 0, 1) := by decide +kernel
theorem dX13_fitsIn_147 : decode cX13_fitsIn 147 = .ok (.iload 6, 2) := by decide +kernel
theorem dX13_fitsIn_149 : decode cX13_fitsIn 149 = .ok (.iadd, 1) := by decide +kernel
theorem dX13_fitsIn_150 : decode cX13_fitsIn 150 = .ok (.iaload, 1) := by decide +kernel
theorem dX13_fitsIn_151 : decode cX13_fitsIn 151 = .ok (.if_icmp .ge 5, 3) := by decide +kernel
theorem dX13_fitsIn_154 : decode cX13_fitsIn 154 = .ok (.iconst 0, 1) := by decide +kernel
theorem dX13_fitsIn_155 : decode cX13_fitsIn 155 = .ok (.ireturn, 1) := by decide +kernel
theorem dX13_fitsIn_156 : decode cX13_fitsIn 156 = .ok (.iinc 6 1, 3) := by decide +kernel
theorem dX13_fitsIn_159 : decode cX13_fitsIn 159 = .ok (.goto (-77), 3) := by decide +kernel
theorem dX13_fitsIn_162 : decode cX13_fitsIn 162 = .ok (.iinc 5 1, 3) := by decide +kernel
theorem dX13_fitsIn_165 : decode cX13_fitsIn 165 = .ok (.goto (-127), 3) := by decide +kernel
theorem dX13_fitsIn_168 : decode cX13_fitsIn 168 = .ok (.iinc 4 1, 3) := by decide +kernel
theorem dX13_fitsIn_171 : decode cX13_fitsIn 171 = .ok (.goto (-154), 3) := by decide +kernel
theorem dX13_fitsIn_174 : decode cX13_fitsIn 174 = .ok (.iconst 1, 1) := by decide +kernel
theorem dX13_fitsIn_175 : decode cX13_fitsIn 175 = .ok (.ireturn, 1) := by decide +kernel
theorem dX13_flaw_0 : decode cX13_flaw 0 = .ok (.aload_n 0, 1) := by decide +kernel
theorem dX13_flaw_1 : decode cX13_flaw 1 = .ok (.getfield 91, 3) := by decide +kernel
theorem dX13_flaw_4 : decode cX13_flaw 4 = .ok (.iconst 5, 1) := by decide +kernel
theorem dX13_flaw_5 : decode cX13_flaw 5 = .ok (.if_icmp .ne 4, 3) := by decide +kernel
theorem dX13_flaw_8 : decode cX13_flaw 8 = .ok (.return_, 1) := by decide +kernel
theorem dX13_flaw_9 : decode cX13_flaw 9 = .ok (.aload_n 0, 1) := by decide +kernel
theorem dX13_flaw_10 : decode cX13_flaw 10 = .ok (.iload_n 1, 1) := by decide +kernel
theorem dX13_flaw_11 : decode cX13_flaw 11 = .ok (.putfield 120, 3) := by decide +kernel
theorem dX13_flaw_14 : decode cX13_flaw 14 = .ok (.aload_n 0, 1) := by decide +kernel
theorem dX13_flaw_15 : decode cX13_flaw 15 = .ok (.aload_n 0, 1) := by decide +kernel
theorem dX13_flaw_16 : decode cX13_flaw 16 = .ok (.getfield 100, 3) := by decide +kernel
theorem dX13_flaw_19 : decode cX13_flaw 19 = .ok (.putfield 123, 3) := by decide +kernel
theorem dX13_flaw_22 : decode cX13_flaw 22 = .ok (.aload_n 0, 1) := by decide +kernel
theorem dX13_flaw_23 : decode cX13_flaw 23 = .ok (.iconst 5, 1) := by decide +kernel
theorem dX13_flaw_24 : decode cX13_flaw 24 = .ok (.putfield 91, 3) := by decide +kernel
theorem dX13_flaw_27 : decode cX13_flaw 27 = .ok (.return_, 1) := by decide +kernel
theorem dX13_free_0 : decode cX13_free 0 = .ok (.aload_n 0, 1) := by decide +kernel
theorem dX13_free_1 : decode cX13_free 1 = .ok (.iconst 0, 1) := by decide +kernel
theorem dX13_free_2 : decode cX13_free 2 = .ok (.putfield 63, 3) := by decide +kernel
theorem dX13_free_5 : decode cX13_free 5 = .ok (.aload_n 0, 1) := by decide +kernel
theorem dX13_free_6 : decode cX13_free 6 = .ok (.getfield 417, 3) := by decide +kernel
theorem dX13_free_9 : decode cX13_free 9 = .ok (.ifnonnull 11, 3) := by decide +kernel
theorem dX13_free_12 : decode cX13_free 12 = .ok (.aload_n 0, 1) := by decide +kernel
theorem dX13_free_13 : decode cX13_free 13 = .ok (.iconst 1, 1) := by decide +kernel
theorem dX13_free_14 : decode cX13_free 14 = .ok (.invokevirtual 69, 3) := by decide +kernel
theorem dX13_free_17 : decode cX13_free 17 = .ok (.goto 14, 3) := by decide +kernel
theorem dX13_free_20 : decode cX13_free 20 = .ok (.aload_n 0, 1) := by decide +kernel
theorem dX13_free_21 : decode cX13_free 21 = .ok (.aload_n 0, 1) := by decide +kernel
theorem dX13_free_22 : decode cX13_free 22 = .ok (.iconst 0, 1) := by decide +kernel
theorem dX13_free_23 : decode cX13_free 23 = .ok (.iconst 0, 1) := by decide +kernel
theorem dX13_free_24 : decode cX13_free 24 = .ok (.iconst 1, 1) := by decide +kernel
theorem dX13_free_25 : decode cX13_free 25 = .ok (.invokevirtual 530, 3) := by decide +kernel
theorem dX13_free_28 : decode cX13_free 28 = .ok (.invokevirtual 73, 3) := by decide +kernel
theorem dX13_free_31 : decode cX13_free 31 = .ok (.ireturn, 1) := by decide +kernel
theorem dX13_frontPlace_0 : decode cX13_frontPlace 0 = .ok (.iload_n 0, 1) := by decide +kernel
theorem dX13_frontPlace_1 : decode cX13_frontPlace 1 = .ok (.iconst 1, 1) := by decide +kernel
theorem dX13_frontPlace_2 : decode cX13_frontPlace 2 = .ok (.iadd, 1) := by decide +kernel
theorem dX13_frontPlace_3 : decode cX13_frontPlace 3 = .ok (.iload_n 0, 1) := by decide +kernel
theorem dX13_frontPlace_4 : decode cX13_frontPlace 4 = .ok (.iload_n 1, 1) := by decide +kernel
theorem dX13_frontPlace_5 : decode cX13_frontPlace 5 = .ok (.iload_n 2, 1) := by decide +kernel
theorem dX13_frontPlace_6 : decode cX13_frontPlace 6 = .ok (.invokestatic 440, 3) := by decide +kernel
theorem dX13_frontPlace_9 : decode cX13_frontPlace 9 = .ok (.iload_n 1, 1) := by decide +kernel
theorem dX13_frontPlace_10 : decode cX13_frontPlace 10 = .ok (.invokestatic 449, 3) := by decide +kernel
theorem dX13_frontPlace_13 : decode cX13_frontPlace 13 = .ok (.iadd, 1) := by decide +kernel
theorem dX13_frontPlace_14 : decode cX13_frontPlace 14 = .ok (.iload_n 0, 1) := by decide +kernel
theorem dX13_frontPlace_15 : decode cX13_frontPlace 15 = .ok (.iload_n 1, 1) := by decide +kernel
theorem dX13_frontPlace_16 : decode cX13_frontPlace 16 = .ok (.iload_n 2, 1) := by decide +kernel
theorem dX13_frontPlace_17 : decode cX13_frontPlace 17 = .ok (.invokestatic 443, 3) := by decide +kernel
theorem dX13_frontPlace_20 : decode cX13_frontPlace 20 = .ok (.iload_n 1, 1) := by decide +kernel
theorem dX13_frontPlace_21 : decode cX13_frontPlace 21 = .ok (.invokestatic 452, 3) := by decide +kernel
theorem dX13_frontPlace_24 : decode cX13_frontPlace 24 = .ok (.iadd, 1) := by decide +kernel
theorem dX13_frontPlace_25 : decode cX13_frontPlace 25 = .ok (.invokestatic 446, 3) := by decide +kernel
theorem dX13_frontPlace_28 : decode cX13_frontPlace 28 = .ok (.ireturn, 1) := by decide +kernel
theorem dX13_give_0 : decode cX13_give 0 = .ok (.aload_n 0, 1) := by decide +kernel
theorem dX13_give_1 : decode cX13_give 1 = .ok (.iconst 0, 1) := by decide +kernel
theorem dX13_give_2 : decode cX13_give 2 = .ok (.putfield 63, 3) := by decide +kernel
theorem dX13_give_5 : decode cX13_give 5 = .ok (.aload_n 0, 1) := by decide +kernel
theorem dX13_give_6 : decode cX13_give 6 = .ok (.iload_n 1, 1) := by decide +kernel
theorem dX13_give_7 : decode cX13_give 7 = .ok (.invokevirtual 518, 3) := by decide +kernel
theorem dX13_give_10 : decode cX13_give 10 = .ok (.ifCond .eq 16, 3) := by decide +kernel
theorem dX13_give_13 : decode cX13_give 13 = .ok (.aload_n 0, 1) := by decide +kernel
theorem dX13_give_14 : decode cX13_give 14 = .ok (.iload_n 2, 1) := by decide +kernel
theorem dX13_give_15 : decode cX13_give 15 = .ok (.invokevirtual 518, 3) := by decide +kernel
theorem dX13_give_18 : decode cX13_give 18 = .ok (.ifCond .eq 8, 3) := by decide +kernel
theorem dX13_give_21 : decode cX13_give 21 = .ok (.iload_n 1, 1) := by decide +kernel
theorem dX13_give_22 : decode cX13_give 22 = .ok (.iload_n 2, 1) := by decide +kernel
theorem dX13_give_23 : decode cX13_give 23 = .ok (.if_icmp .ne 9, 3) := by decide +kernel
theorem dX13_give_26 : decode cX13_give 26 = .ok (.aload_n 0, 1) := by decide +kernel
theorem dX13_give_27 : decode cX13_give 27 = .ok (.iconst 1, 1) := by decide +kernel
theorem dX13_give_28 : decode cX13_give 28 = .ok (.invokevirtual 619, 3) := by decide +kernel
theorem dX13_give_31 : decode cX13_give 31 = .ok (.ireturn, 1) := by decide +kernel
theorem dX13_give_32 : decode cX13_give 32 = .ok (.iload_n 3, 1) := by decide +kernel
theorem dX13_give_33 : decode cX13_give 33 = .ok (.iconst 1, 1) := by decide +kernel
theorem dX13_give_34 : decode cX13_give 34 = .ok (.aload_n 0, 1) := by decide +kernel
theorem dX13_give_35 : decode cX13_give 35 = .ok (.getfield 17, 3) := by decide +kernel
theorem dX13_give_38 : decode cX13_give 38 = .ok (.bipush 8, 2) := by decide +kernel
theorem dX13_give_40 : decode cX13_give 40 = .ok (.iload_n 1, 1) := by decide +kernel
theorem dX13_give_41 : decode cX13_give 41 = .ok (.iadd, 1) := by decide +kernel
theorem dX13_give_42 : decode cX13_give 42 = .ok (.iaload, 1) := by decide +kernel
theorem dX13_give_43 : decode cX13_give 43 = .ok (.invokestatic 141, 3) := by decide +kernel
theorem dX13_give_46 : decode cX13_give 46 = .ok (.ifCond .eq 20, 3) := by decide +kernel
theorem dX13_give_49 : decode cX13_give 49 = .ok (.aload_n 0, 1) := by decide +kernel
theorem dX13_give_50 : decode cX13_give 50 = .ok (.getfield 17, 3) := by decide +kernel
theorem dX13_give_53 : decode cX13_give 53 = .ok (.bipush 8, 2) := by decide +kernel
theorem dX13_give_55 : decode cX13_give 55 = .ok (.iload_n 2, 1) := by decide +kernel
theorem dX13_give_56 : decode cX13_give 56 = .ok (.iadd, 1) := by decide +kernel
theorem dX13_give_57 : decode cX13_give 57 = .ok (.iaload, 1) := by decide +kernel
theorem dX13_give_58 : decode cX13_give 58 = .ok (.iload_n 3, 1) := by decide +kernel
theorem dX13_give_59 : decode cX13_give 59 = .ok (.iadd, 1) := by decide +kernel
theorem dX13_give_60 : decode cX13_give 60 = .ok (.sipush 999, 3) := by decide +kernel
theorem dX13_give_63 : decode cX13_give 63 = .ok (.if_icmp .le 9, 3) := by decide +kernel
theorem dX13_give_66 : decode cX13_give 66 = .ok (.aload_n 0, 1) := by decide +kernel
theorem dX13_give_67 : decode cX13_give 67 = .ok (.iconst 2, 1) := by decide +kernel
theorem dX13_give_68 : decode cX13_give 68 = .ok (.invokevirtual 619, 3) := by decide +kernel
theorem dX13_give_71 : decode cX13_give 71 = .ok (.ireturn, 1) := by decide +kernel
theorem dX13_give_72 : decode cX13_give 72 = .ok (.aload_n 0, 1) := by decide +kernel
theorem dX13_give_73 : decode cX13_give 73 = .ok (.invokevirtual 616, 3) := by decide +kernel
theorem dX13_give_76 : decode cX13_give 76 = .ok (.aload_n 0, 1) := by decide +kernel
theorem dX13_give_77 : decode cX13_give 77 = .ok (.getfield 17, 3) := by decide +kernel
theorem dX13_give_80 : decode cX13_give 80 = .ok (.bipush 8, 2) := by decide +kernel
theorem dX13_give_82 : decode cX13_give 82 = .ok (.iload_n 1, 1) := by decide +kernel
theorem dX13_give_83 : decode cX13_give 83 = .ok (.iadd, 1) := by decide +kernel
theorem dX13_give_84 : decode cX13_give 84 = .ok (.dup2, 1) := by decide +kernel
theorem dX13_give_85 : decode cX13_give 85 = .ok (.iaload, 1) := by decide +kernel
theorem dX13_give_86 : decode cX13_give 86 = .ok (.iload_n 3, 1) := by decide +kernel
theorem dX13_give_87 : decode cX13_give 87 = .ok (.isub, 1) := by decide +kernel
theorem dX13_give_88 : decode cX13_give 88 = .ok (.iastore, 1) := by decide +kernel
theorem dX13_give_89 : decode cX13_give 89 = .ok (.aload_n 0, 1) := by decide +kernel
theorem dX13_give_90 : decode cX13_give 90 = .ok (.getfield 17, 3) := by decide +kernel
theorem dX13_give_93 : decode cX13_give 93 = .ok (.bipush 8, 2) := by decide +kernel
theorem dX13_give_95 : decode cX13_give 95 = .ok (.iload_n 2, 1) := by decide +kernel
theorem dX13_give_96 : decode cX13_give 96 = .ok (.iadd, 1) := by decide +kernel
theorem dX13_give_97 : decode cX13_give 97 = .ok (.dup2, 1) := by decide +kernel
theorem dX13_give_98 : decode cX13_give 98 = .ok (.iaload, 1) := by decide +kernel
theorem dX13_give_99 : decode cX13_give 99 = .ok (.iload_n 3, 1) := by decide +kernel
theorem dX13_give_100 : decode cX13_give 100 = .ok (.iadd, 1) := by decide +kernel
theorem dX13_give_101 : decode cX13_give 101 = .ok (.iastore, 1) := by decide +kernel
theorem dX13_give_102 : decode cX13_give 102 = .ok (.aload_n 0, 1) := by decide +kernel
theorem dX13_give_103 : decode cX13_give 103 = .ok (.invokevirtual 622, 3) := by decide +kernel
theorem dX13_give_106 : decode cX13_give 106 = .ok (.ireturn, 1) := by decide +kernel
theorem dX13_goesBy_0 : decode cX13_goesBy 0 = .ok (.iconst 0, 1) := by decide +kernel
theorem dX13_goesBy_1 : decode cX13_goesBy 1 = .ok (.istore_n 2, 1) := by decide +kernel
theorem dX13_goesBy_2 : decode cX13_goesBy 2 = .ok (.iload_n 2, 1) := by decide +kernel
theorem dX13_goesBy_3 : decode cX13_goesBy 3 = .ok (.aload_n 0, 1) := by decide +kernel
theorem dX13_goesBy_4 : decode cX13_goesBy 4 = .ok (.getfield 417, 3) := by decide +kernel
theorem dX13_goesBy_7 : decode cX13_goesBy 7 = .ok (.getfield 229, 3) := by decide +kernel
theorem dX13_goesBy_10 : decode cX13_goesBy 10 = .ok (.if_icmp .ge 20, 3) := by decide +kernel
theorem dX13_goesBy_13 : decode cX13_goesBy 13 = .ok (.aload_n 0, 1) := by decide +kernel
theorem dX13_goesBy_14 : decode cX13_goesBy 14 = .ok (.aload_n 1, 1) := by decide +kernel
theorem dX13_goesBy_15 : decode cX13_goesBy 15 = .ok (.aload_n 0, 1) := by decide +kernel
theorem dX13_goesBy_16 : decode cX13_goesBy 16 = .ok (.getfield 30, 3) := by decide +kernel
theorem dX13_goesBy_19 : decode cX13_goesBy 19 = .ok (.iload_n 2, 1) := by decide +kernel
theorem dX13_goesBy_20 : decode cX13_goesBy 20 = .ok (.iaload, 1) := by decide +kernel
theorem dX13_goesBy_21 : decode cX13_goesBy 21 = .ok (.invokevirtual 504, 3) := by decide +kernel
theorem dX13_goesBy_24 : decode cX13_goesBy 24 = .ok (.iinc 2 1, 3) := by decide +kernel
theorem dX13_goesBy_27 : decode cX13_goesBy 27 = .ok (.goto (-25), 3) := by decide +kernel
theorem dX13_goesBy_30 : decode cX13_goesBy 30 = .ok (.aload_n 1, 1) := by decide +kernel
theorem dX13_goesBy_31 : decode cX13_goesBy 31 = .ok (.sipush 210, 3) := by decide +kernel
theorem dX13_goesBy_34 : decode cX13_goesBy 34 = .ok (.dup2, 1) := by decide +kernel
theorem dX13_goesBy_35 : decode cX13_goesBy 35 = .ok (.iaload, 1) := by decide +kernel
theorem dX13_goesBy_36 : decode cX13_goesBy 36 = .ok (.iconst 1, 1) := by decide +kernel
theorem dX13_goesBy_37 : decode cX13_goesBy 37 = .ok (.iadd, 1) := by decide +kernel
theorem dX13_goesBy_38 : decode cX13_goesBy 38 = .ok (.iastore, 1) := by decide +kernel
theorem dX13_goesBy_39 : decode cX13_goesBy 39 = .ok (.return_, 1) := by decide +kernel
theorem dX13_goesOn_0 : decode cX13_goesOn 0 = .ok (.aload_n 0, 1) := by decide +kernel
theorem dX13_goesOn_1 : decode cX13_goesOn 1 = .ok (.getfield 91, 3) := by decide +kernel
theorem dX13_goesOn_4 : decode cX13_goesOn 4 = .ok (.iconst 5, 1) := by decide +kernel
theorem dX13_goesOn_5 : decode cX13_goesOn 5 = .ok (.if_icmp .ne 4, 3) := by decide +kernel
theorem dX13_goesOn_8 : decode cX13_goesOn 8 = .ok (.return_, 1) := by decide +kernel
theorem dX13_goesOn_9 : decode cX13_goesOn 9 = .ok (.aload_n 0, 1) := by decide +kernel
theorem dX13_goesOn_10 : decode cX13_goesOn 10 = .ok (.aload_n 0, 1) := by decide +kernel
theorem dX13_goesOn_11 : decode cX13_goesOn 11 = .ok (.getfield 94, 3) := by decide +kernel
theorem dX13_goesOn_14 : decode cX13_goesOn 14 = .ok (.invokevirtual 97, 3) := by decide +kernel
theorem dX13_goesOn_17 : decode cX13_goesOn 17 = .ok (.bipush 32, 2) := by decide +kernel
theorem dX13_goesOn_19 : decode cX13_goesOn 19 = .ok (.if_icmp .ne 16, 3) := by decide +kernel
theorem dX13_goesOn_22 : decode cX13_goesOn 22 = .ok (.aload_n 0, 1) := by decide +kernel
theorem dX13_goesOn_23 : decode cX13_goesOn 23 = .ok (.dup, 1) := by decide +kernel
theorem dX13_goesOn_24 : decode cX13_goesOn 24 = .ok (.getfield 94, 3) := by decide +kernel
theorem dX13_goesOn_27 : decode cX13_goesOn 27 = .ok (.iconst 1, 1) := by decide +kernel
theorem dX13_goesOn_28 : decode cX13_goesOn 28 = .ok (.iadd, 1) := by decide +kernel
theorem dX13_goesOn_29 : decode cX13_goesOn 29 = .ok (.putfield 94, 3) := by decide +kernel
theorem dX13_goesOn_32 : decode cX13_goesOn 32 = .ok (.goto (-23), 3) := by decide +kernel
theorem dX13_goesOn_35 : decode cX13_goesOn 35 = .ok (.aload_n 0, 1) := by decide +kernel
theorem dX13_goesOn_36 : decode cX13_goesOn 36 = .ok (.aload_n 0, 1) := by decide +kernel
theorem dX13_goesOn_37 : decode cX13_goesOn 37 = .ok (.getfield 94, 3) := by decide +kernel
theorem dX13_goesOn_40 : decode cX13_goesOn 40 = .ok (.putfield 100, 3) := by decide +kernel
theorem dX13_goesOn_43 : decode cX13_goesOn 43 = .ok (.aload_n 0, 1) := by decide +kernel
theorem dX13_goesOn_44 : decode cX13_goesOn 44 = .ok (.iconst 0, 1) := by decide +kernel
theorem dX13_goesOn_45 : decode cX13_goesOn 45 = .ok (.putfield 91, 3) := by decide +kernel
theorem dX13_goesOn_48 : decode cX13_goesOn 48 = .ok (.aload_n 0, 1) := by decide +kernel
theorem dX13_goesOn_49 : decode cX13_goesOn 49 = .ok (.iconst 0, 1) := by decide +kernel
theorem dX13_goesOn_50 : decode cX13_goesOn 50 = .ok (.putfield 103, 3) := by decide +kernel
theorem dX13_goesOn_53 : decode cX13_goesOn 53 = .ok (.aload_n 0, 1) := by decide +kernel
theorem dX13_goesOn_54 : decode cX13_goesOn 54 = .ok (.aload_n 0, 1) := by decide +kernel
theorem dX13_goesOn_55 : decode cX13_goesOn 55 = .ok (.getfield 94, 3) := by decide +kernel
theorem dX13_goesOn_58 : decode cX13_goesOn 58 = .ok (.invokevirtual 97, 3) := by decide +kernel
theorem dX13_goesOn_61 : decode cX13_goesOn 61 = .ok (.istore_n 1, 1) := by decide +kernel
theorem dX13_goesOn_62 : decode cX13_goesOn 62 = .ok (.iconst 0, 1) := by decide +kernel
theorem dX13_goesOn_63 : decode cX13_goesOn 63 = .ok (.istore_n 2, 1) := by decide +kernel
theorem dX13_goesOn_64 : decode cX13_goesOn 64 = .ok (.iload_n 1, 1) := by decide +kernel
theorem dX13_goesOn_65 : decode cX13_goesOn 65 = .ok (.iconst (-1), 1) := by decide +kernel
theorem dX13_goesOn_66 : decode cX13_goesOn 66 = .ok (.if_icmp .ne 11, 3) := by decide +kernel
theorem dX13_goesOn_69 : decode cX13_goesOn 69 = .ok (.aload_n 0, 1) := by decide +kernel
theorem dX13_goesOn_70 : decode cX13_goesOn 70 = .ok (.iconst 1, 1) := by decide +kernel
theorem dX13_goesOn_71 : decode cX13_goesOn 71 = .ok (.putfield 91, 3) := by decide +kernel
theorem dX13_goesOn_74 : decode cX13_goesOn 74 = .ok (.goto 207, 3) := by decide +kernel
theorem dX13_goesOn_77 : decode cX13_goesOn 77 = .ok (.iload_n 1, 1) := by decide +kernel
theorem dX13_goesOn_78 : decode cX13_goesOn 78 = .ok (.invokestatic 106, 3) := by decide +kernel
theorem dX13_goesOn_81 : decode cX13_goesOn 81 = .ok (.ifCond .eq 85, 3) := by decide +kernel
theorem dX13_goesOn_84 : decode cX13_goesOn 84 = .ok (.aload_n 0, 1) := by decide +kernel
theorem dX13_goesOn_85 : decode cX13_goesOn 85 = .ok (.lconst 0, 1) := by decide +kernel
theorem dX13_goesOn_86 : decode cX13_goesOn 86 = .ok (.putfield 110, 3) := by decide +kernel
theorem dX13_goesOn_89 : decode cX13_goesOn 89 = .ok (.aload_n 0, 1) := by decide +kernel
theorem dX13_goesOn_90 : decode cX13_goesOn 90 = .ok (.aload_n 0, 1) := by decide +kernel
theorem dX13_goesOn_91 : decode cX13_goesOn 91 = .ok (.getfield 94, 3) := by decide +kernel
theorem dX13_goesOn_94 : decode cX13_goesOn 94 = .ok (.invokevirtual 97, 3) := by decide +kernel
theorem dX13_goesOn_97 : decode cX13_goesOn 97 = .ok (.invokestatic 106, 3) := by decide +kernel
theorem dX13_goesOn_100 : decode cX13_goesOn 100 = .ok (.ifCond .eq 52, 3) := by decide +kernel
theorem dX13_goesOn_103 : decode cX13_goesOn 103 = .ok (.iload_n 2, 1) := by decide +kernel
theorem dX13_goesOn_104 : decode cX13_goesOn 104 = .ok (.bipush 8, 2) := by decide +kernel
theorem dX13_goesOn_106 : decode cX13_goesOn 106 = .ok (.if_icmp .ge 30, 3) := by decide +kernel
theorem dX13_goesOn_109 : decode cX13_goesOn 109 = .ok (.aload_n 0, 1) := by decide +kernel
theorem dX13_goesOn_110 : decode cX13_goesOn 110 = .ok (.ldc2_w 85, 3) := by decide +kernel
theorem dX13_goesOn_113 : decode cX13_goesOn 113 = .ok (.aload_n 0, 1) := by decide +kernel
theorem dX13_goesOn_114 : decode cX13_goesOn 114 = .ok (.getfield 110, 3) := by decide +kernel
theorem dX13_goesOn_117 : decode cX13_goesOn 117 = .ok (.lmul, 1) := by decide +kernel
theorem dX13_goesOn_118 : decode cX13_goesOn 118 = .ok (.aload_n 0, 1) := by decide +kernel
theorem dX13_goesOn_119 : decode cX13_goesOn 119 = .ok (.aload_n 0, 1) := by decide +kernel
theorem dX13_goesOn_120 : decode cX13_goesOn 120 = .ok (.getfield 94, 3) := by decide +kernel
theorem dX13_goesOn_123 : decode cX13_goesOn 123 = .ok (.invokevirtual 97, 3) := by decide +kernel
theorem dX13_goesOn_126 : decode cX13_goesOn 126 = .ok (.bipush 97, 2) := by decide +kernel
theorem dX13_goesOn_128 : decode cX13_goesOn 128 = .ok (.isub, 1) := by decide +kernel
theorem dX13_goesOn_129 : decode cX13_goesOn 129 = .ok (.iconst 1, 1) := by decide +kernel
theorem dX13_goesOn_130 : decode cX13_goesOn 130 = .ok (.iadd, 1) := by decide +kernel
theorem dX13_goesOn_131 : decode cX13_goesOn 131 = .ok (.i2l, 1) := by decide +kernel
theorem dX13_goesOn_132 : decode cX13_goesOn 132 = .ok (.ladd, 1) := by decide +kernel
theorem dX13_goesOn_133 : decode cX13_goesOn 133 = .ok (.putfield 110, 3) := by decide +kernel
theorem dX13_goesOn_136 : decode cX13_goesOn 136 = .ok (.iinc 2 1, 3) := by decide +kernel
theorem dX13_goesOn_139 : decode cX13_goesOn 139 = .ok (.aload_n 0, 1) := by decide +kernel
theorem dX13_goesOn_140 : decode cX13_goesOn 140 = .ok (.dup, 1) := by decide +kernel
theorem dX13_goesOn_141 : decode cX13_goesOn 141 = .ok (.getfield 94, 3) := by decide +kernel
theorem dX13_goesOn_144 : decode cX13_goesOn 144 = .ok (.iconst 1, 1) := by decide +kernel
theorem dX13_goesOn_145 : decode cX13_goesOn 145 = .ok (.iadd, 1) := by decide +kernel
theorem dX13_goesOn_146 : decode cX13_goesOn 146 = .ok (.putfield 94, 3) := by decide +kernel
theorem dX13_goesOn_149 : decode cX13_goesOn 149 = .ok (.goto (-60), 3) := by decide +kernel
theorem dX13_goesOn_152 : decode cX13_goesOn 152 = .ok (.iload_n 2, 1) := by decide +kernel
theorem dX13_goesOn_153 : decode cX13_goesOn 153 = .ok (.bipush 8, 2) := by decide +kernel
theorem dX13_goesOn_155 : decode cX13_goesOn 155 = .ok (.if_icmp .gt 126, 3) := by decide +kernel
theorem dX13_goesOn_158 : decode cX13_goesOn 158 = .ok (.aload_n 0, 1) := by decide +kernel
theorem dX13_goesOn_159 : decode cX13_goesOn 159 = .ok (.iconst 2, 1) := by decide +kernel
theorem dX13_goesOn_160 : decode cX13_goesOn 160 = .ok (.putfield 91, 3) := by decide +kernel
theorem dX13_goesOn_163 : decode cX13_goesOn 163 = .ok (.goto 118, 3) := by decide +kernel
theorem dX13_goesOn_166 : decode cX13_goesOn 166 = .ok (.iload_n 1, 1) := by decide +kernel
theorem dX13_goesOn_167 : decode cX13_goesOn 167 = .ok (.invokestatic 114, 3) := by decide +kernel
theorem dX13_goesOn_170 : decode cX13_goesOn 170 = .ok (.ifCond .eq 79, 3) := by decide +kernel
theorem dX13_goesOn_173 : decode cX13_goesOn 173 = .ok (.aload_n 0, 1) := by decide +kernel
theorem dX13_goesOn_174 : decode cX13_goesOn 174 = .ok (.iconst 0, 1) := by decide +kernel
theorem dX13_goesOn_175 : decode cX13_goesOn 175 = .ok (.putfield 117, 3) := by decide +kernel
theorem dX13_goesOn_178 : decode cX13_goesOn 178 = .ok (.aload_n 0, 1) := by decide +kernel
theorem dX13_goesOn_179 : decode cX13_goesOn 179 = .ok (.aload_n 0, 1) := by decide +kernel
theorem dX13_goesOn_180 : decode cX13_goesOn 180 = .ok (.getfield 94, 3) := by decide +kernel
theorem dX13_goesOn_183 : decode cX13_goesOn 183 = .ok (.invokevirtual 97, 3) := by decide +kernel
theorem dX13_goesOn_186 : decode cX13_goesOn 186 = .ok (.invokestatic 114, 3) := by decide +kernel
theorem dX13_goesOn_189 : decode cX13_goesOn 189 = .ok (.ifCond .eq 47, 3) := by decide +kernel
theorem dX13_goesOn_192 : decode cX13_goesOn 192 = .ok (.iload_n 2, 1) := by decide +kernel
theorem dX13_goesOn_193 : decode cX13_goesOn 193 = .ok (.iconst 3, 1) := by decide +kernel
theorem dX13_goesOn_194 : decode cX13_goesOn 194 = .ok (.if_icmp .ge 26, 3) := by decide +kernel
theorem dX13_goesOn_197 : decode cX13_goesOn 197 = .ok (.aload_n 0, 1) := by decide +kernel
theorem dX13_goesOn_198 : decode cX13_goesOn 198 = .ok (.bipush 10, 2) := by decide +kernel
theorem dX13_goesOn_200 : decode cX13_goesOn 200 = .ok (.aload_n 0, 1) := by decide +kernel
theorem dX13_goesOn_201 : decode cX13_goesOn 201 = .ok (.getfield 117, 3) := by decide +kernel
theorem dX13_goesOn_204 : decode cX13_goesOn 204 = .ok (.imul, 1) := by decide +kernel
theorem dX13_goesOn_205 : decode cX13_goesOn 205 = .ok (.aload_n 0, 1) := by decide +kernel
theorem dX13_goesOn_206 : decode cX13_goesOn 206 = .ok (.aload_n 0, 1) := by decide +kernel
theorem dX13_goesOn_207 : decode cX13_goesOn 207 = .ok (.getfield 94, 3) := by decide +kernel
theorem dX13_goesOn_210 : decode cX13_goesOn 210 = .ok (.invokevirtual 97, 3) := by decide +kernel
theorem dX13_goesOn_213 : decode cX13_goesOn 213 = .ok (.iadd, 1) := by decide +kernel
theorem dX13_goesOn_214 : decode cX13_goesOn 214 = .ok (.bipush 48, 2) := by decide +kernel
theorem dX13_goesOn_216 : decode cX13_goesOn 216 = .ok (.isub, 1) := by decide +kernel
theorem dX13_goesOn_217 : decode cX13_goesOn 217 = .ok (.putfield 117, 3) := by decide +kernel
theorem dX13_goesOn_220 : decode cX13_goesOn 220 = .ok (.iinc 2 1, 3) := by decide +kernel
theorem dX13_goesOn_223 : decode cX13_goesOn 223 = .ok (.aload_n 0, 1) := by decide +kernel
theorem dX13_goesOn_224 : decode cX13_goesOn 224 = .ok (.dup, 1) := by decide +kernel
theorem dX13_goesOn_225 : decode cX13_goesOn 225 = .ok (.getfield 94, 3) := by decide +kernel
theorem dX13_goesOn_228 : decode cX13_goesOn 228 = .ok (.iconst 1, 1) := by decide +kernel
theorem dX13_goesOn_229 : decode cX13_goesOn 229 = .ok (.iadd, 1) := by decide +kernel
theorem dX13_goesOn_230 : decode cX13_goesOn 230 = .ok (.putfield 94, 3) := by decide +kernel
theorem dX13_goesOn_233 : decode cX13_goesOn 233 = .ok (.goto (-55), 3) := by decide +kernel
theorem dX13_goesOn_236 : decode cX13_goesOn 236 = .ok (.iload_n 2, 1) := by decide +kernel
theorem dX13_goesOn_237 : decode cX13_goesOn 237 = .ok (.iconst 3, 1) := by decide +kernel
theorem dX13_goesOn_238 : decode cX13_goesOn 238 = .ok (.if_icmp .gt 43, 3) := by decide +kernel
theorem dX13_goesOn_241 : decode cX13_goesOn 241 = .ok (.aload_n 0, 1) := by decide +kernel
theorem dX13_goesOn_242 : decode cX13_goesOn 242 = .ok (.iconst 3, 1) := by decide +kernel
theorem dX13_goesOn_243 : decode cX13_goesOn 243 = .ok (.putfield 91, 3) := by decide +kernel
theorem dX13_goesOn_246 : decode cX13_goesOn 246 = .ok (.goto 35, 3) := by decide +kernel
theorem dX13_goesOn_249 : decode cX13_goesOn 249 = .ok (.iload_n 1, 1) := by decide +kernel
theorem dX13_goesOn_250 : decode cX13_goesOn 250 = .ok (.bipush 59, 2) := by decide +kernel
theorem dX13_goesOn_252 : decode cX13_goesOn 252 = .ok (.if_icmp .eq 9, 3) := by decide +kernel
theorem dX13_goesOn_255 : decode cX13_goesOn 255 = .ok (.iload_n 1, 1) := by decide +kernel
theorem dX13_goesOn_256 : decode cX13_goesOn 256 = .ok (.bipush 44, 2) := by decide +kernel
theorem dX13_goesOn_258 : decode cX13_goesOn 258 = .ok (.if_icmp .ne 23, 3) := by decide +kernel
theorem dX13_goesOn_261 : decode cX13_goesOn 261 = .ok (.aload_n 0, 1) := by decide +kernel
theorem dX13_goesOn_262 : decode cX13_goesOn 262 = .ok (.iconst 4, 1) := by decide +kernel
theorem dX13_goesOn_263 : decode cX13_goesOn 263 = .ok (.putfield 91, 3) := by decide +kernel
theorem dX13_goesOn_266 : decode cX13_goesOn 266 = .ok (.aload_n 0, 1) := by decide +kernel
theorem dX13_goesOn_267 : decode cX13_goesOn 267 = .ok (.iload_n 1, 1) := by decide +kernel
theorem dX13_goesOn_268 : decode cX13_goesOn 268 = .ok (.putfield 103, 3) := by decide +kernel
theorem dX13_goesOn_271 : decode cX13_goesOn 271 = .ok (.aload_n 0, 1) := by decide +kernel
theorem dX13_goesOn_272 : decode cX13_goesOn 272 = .ok (.dup, 1) := by decide +kernel
theorem dX13_goesOn_273 : decode cX13_goesOn 273 = .ok (.getfield 94, 3) := by decide +kernel
theorem dX13_goesOn_276 : decode cX13_goesOn 276 = .ok (.iconst 1, 1) := by decide +kernel
theorem dX13_goesOn_277 : decode cX13_goesOn 277 = .ok (.iadd, 1) := by decide +kernel
theorem dX13_goesOn_278 : decode cX13_goesOn 278 = .ok (.putfield 94, 3) := by decide +kernel
theorem dX13_goesOn_281 : decode cX13_goesOn 281 = .ok (.return_, 1) := by decide +kernel
theorem dX13_goldOf_0 : decode cX13_goldOf 0 = .ok (.aload_n 0, 1) := by decide +kernel
theorem dX13_goldOf_1 : decode cX13_goldOf 1 = .ok (.getfield 417, 3) := by decide +kernel
theorem dX13_goldOf_4 : decode cX13_goldOf 4 = .ok (.getfield 335, 3) := by decide +kernel
theorem dX13_goldOf_7 : decode cX13_goldOf 7 = .ok (.aload_n 0, 1) := by decide +kernel
theorem dX13_goldOf_8 : decode cX13_goldOf 8 = .ok (.getfield 17, 3) := by decide +kernel
theorem dX13_goldOf_11 : decode cX13_goldOf 11 = .ok (.iload_n 1, 1) := by decide +kernel
theorem dX13_goldOf_12 : decode cX13_goldOf 12 = .ok (.iload_n 2, 1) := by decide +kernel
theorem dX13_goldOf_13 : decode cX13_goldOf 13 = .ok (.iconst 0, 1) := by decide +kernel
theorem dX13_goldOf_14 : decode cX13_goldOf 14 = .ok (.invokestatic 425, 3) := by decide +kernel
theorem dX13_goldOf_17 : decode cX13_goldOf 17 = .ok (.iaload, 1) := by decide +kernel
theorem dX13_goldOf_18 : decode cX13_goldOf 18 = .ok (.iaload, 1) := by decide +kernel
theorem dX13_goldOf_19 : decode cX13_goldOf 19 = .ok (.bipush 8, 2) := by decide +kernel
theorem dX13_goldOf_21 : decode cX13_goldOf 21 = .ok (.imul, 1) := by decide +kernel
theorem dX13_goldOf_22 : decode cX13_goldOf 22 = .ok (.iload_n 2, 1) := by decide +kernel
theorem dX13_goldOf_23 : decode cX13_goldOf 23 = .ok (.imul, 1) := by decide +kernel
theorem dX13_goldOf_24 : decode cX13_goldOf 24 = .ok (.iconst 2, 1) := by decide +kernel
theorem dX13_goldOf_25 : decode cX13_goldOf 25 = .ok (.idiv, 1) := by decide +kernel
theorem dX13_goldOf_26 : decode cX13_goldOf 26 = .ok (.ireturn, 1) := by decide +kernel
theorem dX13_good_0 : decode cX13_good 0 = .ok (.aload_n 0, 1) := by decide +kernel
theorem dX13_good_1 : decode cX13_good 1 = .ok (.iconst 0, 1) := by decide +kernel
theorem dX13_good_2 : decode cX13_good 2 = .ok (.putfield 66, 3) := by decide +kernel
theorem dX13_good_5 : decode cX13_good 5 = .ok (.aload_n 0, 1) := by decide +kernel
theorem dX13_good_6 : decode cX13_good 6 = .ok (.iconst (-1), 1) := by decide +kernel
theorem dX13_good_7 : decode cX13_good 7 = .ok (.putfield 9, 3) := by decide +kernel
theorem dX13_good_10 : decode cX13_good 10 = .ok (.iload_n 1, 1) := by decide +kernel
theorem dX13_good_11 : decode cX13_good 11 = .ok (.ireturn, 1) := by decide +kernel
theorem dX13_granted_0 : decode cX13_granted 0 = .ok (.aload_n 0, 1) := by decide +kernel
theorem dX13_granted_1 : decode cX13_granted 1 = .ok (.iconst 0, 1) := by decide +kernel
theorem dX13_granted_2 : decode cX13_granted 2 = .ok (.invokevirtual 73, 3) := by decide +kernel
theorem dX13_granted_5 : decode cX13_granted 5 = .ok (.pop, 1) := by decide +kernel
theorem dX13_granted_6 : decode cX13_granted 6 = .ok (.iconst 1, 1) := by decide +kernel
theorem dX13_granted_7 : decode cX13_granted 7 = .ok (.ireturn, 1) := by decide +kernel
theorem dX13_heads_0 : decode cX13_heads 0 = .ok (.aload_n 0, 1) := by decide +kernel
theorem dX13_heads_1 : decode cX13_heads 1 = .ok (.iconst 0, 1) := by decide +kernel
theorem dX13_heads_2 : decode cX13_heads 2 = .ok (.putfield 63, 3) := by decide +kernel
theorem dX13_heads_5 : decode cX13_heads 5 = .ok (.aload_n 0, 1) := by decide +kernel
theorem dX13_heads_6 : decode cX13_heads 6 = .ok (.iconst 1, 1) := by decide +kernel
theorem dX13_heads_7 : decode cX13_heads 7 = .ok (.iload_n 2, 1) := by decide +kernel
theorem dX13_heads_8 : decode cX13_heads 8 = .ok (.bipush 60, 2) := by decide +kernel
theorem dX13_heads_10 : decode cX13_heads 10 = .ok (.invokevirtual 565, 3) := by decide +kernel
theorem dX13_heads_13 : decode cX13_heads 13 = .ok (.istore_n 3, 1) := by decide +kernel
theorem dX13_heads_14 : decode cX13_heads 14 = .ok (.iload_n 3, 1) := by decide +kernel
theorem dX13_heads_15 : decode cX13_heads 15 = .ok (.ifCond .le 9, 3) := by decide +kernel
theorem dX13_heads_18 : decode cX13_heads 18 = .ok (.aload_n 0, 1) := by decide +kernel
theorem dX13_heads_19 : decode cX13_heads 19 = .ok (.iload_n 3, 1) := by decide +kernel
theorem dX13_heads_20 : decode cX13_heads 20 = .ok (.invokevirtual 69, 3) := by decide +kernel
theorem dX13_heads_23 : decode cX13_heads 23 = .ok (.ireturn, 1) := by decide +kernel
theorem dX13_heads_24 : decode cX13_heads 24 = .ok (.iload_n 1, 1) := by decide +kernel
theorem dX13_heads_25 : decode cX13_heads 25 = .ok (.iconst 0, 1) := by decide +kernel
theorem dX13_heads_26 : decode cX13_heads 26 = .ok (.ldc_w 591, 3) := by decide +kernel
theorem dX13_heads_29 : decode cX13_heads 29 = .ok (.invokestatic 141, 3) := by decide +kernel
theorem dX13_heads_32 : decode cX13_heads 32 = .ok (.ifCond .ne 9, 3) := by decide +kernel
theorem dX13_heads_35 : decode cX13_heads 35 = .ok (.aload_n 0, 1) := by decide +kernel
theorem dX13_heads_36 : decode cX13_heads 36 = .ok (.iconst 2, 1) := by decide +kernel
theorem dX13_heads_37 : decode cX13_heads 37 = .ok (.invokevirtual 69, 3) := by decide +kernel
theorem dX13_heads_40 : decode cX13_heads 40 = .ok (.ireturn, 1) := by decide +kernel
theorem dX13_heads_41 : decode cX13_heads 41 = .ok (.aload_n 0, 1) := by decide +kernel
theorem dX13_heads_42 : decode cX13_heads 42 = .ok (.invokevirtual 508, 3) := by decide +kernel
theorem dX13_heads_45 : decode cX13_heads 45 = .ok (.aload_n 0, 1) := by decide +kernel
theorem dX13_heads_46 : decode cX13_heads 46 = .ok (.invokevirtual 511, 3) := by decide +kernel
theorem dX13_heads_49 : decode cX13_heads 49 = .ok (.aload_n 0, 1) := by decide +kernel
theorem dX13_heads_50 : decode cX13_heads 50 = .ok (.getfield 21, 3) := by decide +kernel
theorem dX13_heads_53 : decode cX13_heads 53 = .ok (.sipush 211, 3) := by decide +kernel
theorem dX13_heads_56 : decode cX13_heads 56 = .ok (.iload_n 1, 1) := by decide +kernel
theorem dX13_heads_57 : decode cX13_heads 57 = .ok (.iastore, 1) := by decide +kernel
theorem dX13_heads_58 : decode cX13_heads 58 = .ok (.iconst 0, 1) := by decide +kernel
theorem dX13_heads_59 : decode cX13_heads 59 = .ok (.istore 4, 2) := by decide +kernel
theorem dX13_heads_61 : decode cX13_heads 61 = .ok (.iload 4, 2) := by decide +kernel
theorem dX13_heads_63 : decode cX13_heads 63 = .ok (.iload_n 2, 1) := by decide +kernel
theorem dX13_heads_64 : decode cX13_heads 64 = .ok (.if_icmp .ge 17, 3) := by decide +kernel
theorem dX13_heads_67 : decode cX13_heads 67 = .ok (.aload_n 0, 1) := by decide +kernel
theorem dX13_heads_68 : decode cX13_heads 68 = .ok (.aload_n 0, 1) := by decide +kernel
theorem dX13_heads_69 : decode cX13_heads 69 = .ok (.getfield 21, 3) := by decide +kernel
theorem dX13_heads_72 : decode cX13_heads 72 = .ok (.invokevirtual 514, 3) := by decide +kernel
theorem dX13_heads_75 : decode cX13_heads 75 = .ok (.iinc 4 1, 3) := by decide +kernel
theorem dX13_heads_78 : decode cX13_heads 78 = .ok (.goto (-17), 3) := by decide +kernel
theorem dX13_heads_81 : decode cX13_heads 81 = .ok (.iconst 0, 1) := by decide +kernel
theorem dX13_heads_82 : decode cX13_heads 82 = .ok (.istore 4, 2) := by decide +kernel
theorem dX13_heads_84 : decode cX13_heads 84 = .ok (.iconst 0, 1) := by decide +kernel
theorem dX13_heads_85 : decode cX13_heads 85 = .ok (.istore 5, 2) := by decide +kernel
theorem dX13_heads_87 : decode cX13_heads 87 = .ok (.iload 5, 2) := by decide +kernel
theorem dX13_heads_89 : decode cX13_heads 89 = .ok (.aload_n 0, 1) := by decide +kernel
theorem dX13_heads_90 : decode cX13_heads 90 = .ok (.getfield 417, 3) := by decide +kernel
theorem dX13_heads_93 : decode cX13_heads 93 = .ok (.getfield 229, 3) := by decide +kernel
theorem dX13_heads_96 : decode cX13_heads 96 = .ok (.if_icmp .ge 23, 3) := by decide +kernel
theorem dX13_heads_99 : decode cX13_heads 99 = .ok (.iload 4, 2) := by decide +kernel
theorem dX13_heads_101 : decode cX13_heads 101 = .ok (.aload_n 0, 1) := by decide +kernel
theorem dX13_heads_102 : decode cX13_heads 102 = .ok (.getfield 21, 3) := by decide +kernel
theorem dX13_heads_105 : decode cX13_heads 105 = .ok (.iconst 4, 1) := by decide +kernel
theorem dX13_heads_106 : decode cX13_heads 106 = .ok (.iload 5, 2) := by decide +kernel
theorem dX13_heads_108 : decode cX13_heads 108 = .ok (.iadd, 1) := by decide +kernel
theorem dX13_heads_109 : decode cX13_heads 109 = .ok (.iaload, 1) := by decide +kernel
theorem dX13_heads_110 : decode cX13_heads 110 = .ok (.iadd, 1) := by decide +kernel
theorem dX13_heads_111 : decode cX13_heads 111 = .ok (.istore 4, 2) := by decide +kernel
theorem dX13_heads_113 : decode cX13_heads 113 = .ok (.iinc 5 1, 3) := by decide +kernel
theorem dX13_heads_116 : decode cX13_heads 116 = .ok (.goto (-29), 3) := by decide +kernel
theorem dX13_heads_119 : decode cX13_heads 119 = .ok (.aload_n 0, 1) := by decide +kernel
theorem dX13_heads_120 : decode cX13_heads 120 = .ok (.iload 4, 2) := by decide +kernel
theorem dX13_heads_122 : decode cX13_heads 122 = .ok (.invokevirtual 73, 3) := by decide +kernel
theorem dX13_heads_125 : decode cX13_heads 125 = .ok (.ireturn, 1) := by decide +kernel
theorem dX13_heir_0 : decode cX13_heir 0 = .ok (.aload_n 0, 1) := by decide +kernel
theorem dX13_heir_1 : decode cX13_heir 1 = .ok (.iconst 0, 1) := by decide +kernel
theorem dX13_heir_2 : decode cX13_heir 2 = .ok (.putfield 63, 3) := by decide +kernel
theorem dX13_heir_5 : decode cX13_heir 5 = .ok (.aload_n 0, 1) := by decide +kernel
theorem dX13_heir_6 : decode cX13_heir 6 = .ok (.iload_n 1, 1) := by decide +kernel
theorem dX13_heir_7 : decode cX13_heir 7 = .ok (.invokevirtual 546, 3) := by decide +kernel
theorem dX13_heir_10 : decode cX13_heir 10 = .ok (.ifCond .eq 12, 3) := by decide +kernel
theorem dX13_heir_13 : decode cX13_heir 13 = .ok (.iload_n 2, 1) := by decide +kernel
theorem dX13_heir_14 : decode cX13_heir 14 = .ok (.iconst 0, 1) := by decide +kernel
theorem dX13_heir_15 : decode cX13_heir 15 = .ok (.iconst 2, 1) := by decide +kernel
theorem dX13_heir_16 : decode cX13_heir 16 = .ok (.invokestatic 141, 3) := by decide +kernel
theorem dX13_heir_19 : decode cX13_heir 19 = .ok (.ifCond .ne 9, 3) := by decide +kernel
theorem dX13_heir_22 : decode cX13_heir 22 = .ok (.aload_n 0, 1) := by decide +kernel
theorem dX13_heir_23 : decode cX13_heir 23 = .ok (.iconst 1, 1) := by decide +kernel
theorem dX13_heir_24 : decode cX13_heir 24 = .ok (.invokevirtual 69, 3) := by decide +kernel
theorem dX13_heir_27 : decode cX13_heir 27 = .ok (.ireturn, 1) := by decide +kernel
theorem dX13_heir_28 : decode cX13_heir 28 = .ok (.aload_n 0, 1) := by decide +kernel
theorem dX13_heir_29 : decode cX13_heir 29 = .ok (.iload_n 2, 1) := by decide +kernel
theorem dX13_heir_30 : decode cX13_heir 30 = .ok (.ifCond .ne 15, 3) := by decide +kernel
theorem dX13_heir_33 : decode cX13_heir 33 = .ok (.aload_n 0, 1) := by decide +kernel
theorem dX13_heir_34 : decode cX13_heir 34 = .ok (.getfield 417, 3) := by decide +kernel
theorem dX13_heir_37 : decode cX13_heir 37 = .ok (.getfield 391, 3) := by decide +kernel
theorem dX13_heir_40 : decode cX13_heir 40 = .ok (.iload_n 1, 1) := by decide +kernel
theorem dX13_heir_41 : decode cX13_heir 41 = .ok (.iaload, 1) := by decide +kernel
theorem dX13_heir_42 : decode cX13_heir 42 = .ok (.goto 44, 3) := by decide +kernel
theorem dX13_heir_45 : decode cX13_heir 45 = .ok (.iload_n 2, 1) := by decide +kernel
theorem dX13_heir_46 : decode cX13_heir 46 = .ok (.iconst 1, 1) := by decide +kernel
theorem dX13_heir_47 : decode cX13_heir 47 = .ok (.if_icmp .ne 16, 3) := by decide +kernel
theorem dX13_heir_50 : decode cX13_heir 50 = .ok (.aload_n 0, 1) := by decide +kernel
theorem dX13_heir_51 : decode cX13_heir 51 = .ok (.getfield 17, 3) := by decide +kernel
theorem dX13_heir_54 : decode cX13_heir 54 = .ok (.sipush 204, 3) := by decide +kernel
theorem dX13_heir_57 : decode cX13_heir 57 = .ok (.iload_n 1, 1) := by decide +kernel
theorem dX13_heir_58 : decode cX13_heir 58 = .ok (.iadd, 1) := by decide +kernel
theorem dX13_heir_59 : decode cX13_heir 59 = .ok (.iaload, 1) := by decide +kernel
theorem dX13_heir_60 : decode cX13_heir 60 = .ok (.goto 26, 3) := by decide +kernel
theorem dX13_heir_63 : decode cX13_heir 63 = .ok (.aload_n 0, 1) := by decide +kernel
theorem dX13_heir_64 : decode cX13_heir 64 = .ok (.aload_n 0, 1) := by decide +kernel
theorem dX13_heir_65 : decode cX13_heir 65 = .ok (.getfield 417, 3) := by decide +kernel
theorem dX13_heir_68 : decode cX13_heir 68 = .ok (.getfield 391, 3) := by decide +kernel
theorem dX13_heir_71 : decode cX13_heir 71 = .ok (.iload_n 1, 1) := by decide +kernel
theorem dX13_heir_72 : decode cX13_heir 72 = .ok (.iaload, 1) := by decide +kernel
theorem dX13_heir_73 : decode cX13_heir 73 = .ok (.aload_n 0, 1) := by decide +kernel
theorem dX13_heir_74 : decode cX13_heir 74 = .ok (.getfield 17, 3) := by decide +kernel
theorem dX13_heir_77 : decode cX13_heir 77 = .ok (.sipush 204, 3) := by decide +kernel
theorem dX13_heir_80 : decode cX13_heir 80 = .ok (.iload_n 1, 1) := by decide +kernel
theorem dX13_heir_81 : decode cX13_heir 81 = .ok (.iadd, 1) := by decide +kernel
theorem dX13_heir_82 : decode cX13_heir 82 = .ok (.iaload, 1) := by decide +kernel
theorem dX13_heir_83 : decode cX13_heir 83 = .ok (.invokevirtual 543, 3) := by decide +kernel
theorem dX13_heir_86 : decode cX13_heir 86 = .ok (.invokevirtual 73, 3) := by decide +kernel
theorem dX13_heir_89 : decode cX13_heir 89 = .ok (.ireturn, 1) := by decide +kernel
theorem dX13_house_0 : decode cX13_house 0 = .ok (.aload_n 0, 1) := by decide +kernel
theorem dX13_house_1 : decode cX13_house 1 = .ok (.iconst 0, 1) := by decide +kernel
theorem dX13_house_2 : decode cX13_house 2 = .ok (.putfield 63, 3) := by decide +kernel
theorem dX13_house_5 : decode cX13_house 5 = .ok (.aload_n 0, 1) := by decide +kernel
theorem dX13_house_6 : decode cX13_house 6 = .ok (.iload_n 1, 1) := by decide +kernel
theorem dX13_house_7 : decode cX13_house 7 = .ok (.invokevirtual 518, 3) := by decide +kernel
theorem dX13_house_10 : decode cX13_house 10 = .ok (.ifCond .eq 13, 3) := by decide +kernel
theorem dX13_house_13 : decode cX13_house 13 = .ok (.iload_n 2, 1) := by decide +kernel
theorem dX13_house_14 : decode cX13_house 14 = .ok (.iconst 0, 1) := by decide +kernel
theorem dX13_house_15 : decode cX13_house 15 = .ok (.bipush 6, 2) := by decide +kernel
theorem dX13_house_17 : decode cX13_house 17 = .ok (.invokestatic 141, 3) := by decide +kernel
theorem dX13_house_20 : decode cX13_house 20 = .ok (.ifCond .ne 9, 3) := by decide +kernel
theorem dX13_house_23 : decode cX13_house 23 = .ok (.aload_n 0, 1) := by decide +kernel
theorem dX13_house_24 : decode cX13_house 24 = .ok (.iconst 1, 1) := by decide +kernel
theorem dX13_house_25 : decode cX13_house 25 = .ok (.invokevirtual 69, 3) := by decide +kernel
theorem dX13_house_28 : decode cX13_house 28 = .ok (.ireturn, 1) := by decide +kernel
theorem dX13_house_29 : decode cX13_house 29 = .ok (.iload_n 2, 1) := by decide +kernel
theorem dX13_house_30 : decode cX13_house 30 = .ok (.tableswitch 128 0 5 #[38, 52, 65, 78, 92, 106], 38) := by decide +kernel
theorem dX13_house_68 : decode cX13_house 68 = .ok (.aload_n 0, 1) := by decide +kernel
theorem dX13_house_69 : decode cX13_house 69 = .ok (.aload_n 0, 1) := by decide +kernel
theorem dX13_house_70 : decode cX13_house 70 = .ok (.getfield 417, 3) := by decide +kernel
theorem dX13_house_73 : decode cX13_house 73 = .ok (.getfield 361, 3) := by decide +kernel
theorem dX13_house_76 : decode cX13_house 76 = .ok (.iload_n 1, 1) := by decide +kernel
theorem dX13_house_77 : decode cX13_house 77 = .ok (.iaload, 1) := by decide +kernel
theorem dX13_house_78 : decode cX13_house 78 = .ok (.invokevirtual 73, 3) := by decide +kernel
theorem dX13_house_81 : decode cX13_house 81 = .ok (.ireturn, 1) := by decide +kernel
theorem dX13_house_82 : decode cX13_house 82 = .ok (.aload_n 0, 1) := by decide +kernel
theorem dX13_house_83 : decode cX13_house 83 = .ok (.aload_n 0, 1) := by decide +kernel
theorem dX13_house_84 : decode cX13_house 84 = .ok (.getfield 17, 3) := by decide +kernel
theorem dX13_house_87 : decode cX13_house 87 = .ok (.iconst 0, 1) := by decide +kernel
theorem dX13_house_88 : decode cX13_house 88 = .ok (.iload_n 1, 1) := by decide +kernel
theorem dX13_house_89 : decode cX13_house 89 = .ok (.iadd, 1) := by decide +kernel
theorem dX13_house_90 : decode cX13_house 90 = .ok (.iaload, 1) := by decide +kernel
theorem dX13_house_91 : decode cX13_house 91 = .ok (.invokevirtual 73, 3) := by decide +kernel
theorem dX13_house_94 : decode cX13_house 94 = .ok (.ireturn, 1) := by decide +kernel
theorem dX13_house_95 : decode cX13_house 95 = .ok (.aload_n 0, 1) := by decide +kernel
theorem dX13_house_96 : decode cX13_house 96 = .ok (.aload_n 0, 1) := by decide +kernel
theorem dX13_house_97 : decode cX13_house 97 = .ok (.getfield 17, 3) := by decide +kernel
theorem dX13_house_100 : decode cX13_house 100 = .ok (.iconst 4, 1) := by decide +kernel
theorem dX13_house_101 : decode cX13_house 101 = .ok (.iload_n 1, 1) := by decide +kernel
theorem dX13_house_102 : decode cX13_house 102 = .ok (.iadd, 1) := by decide +kernel
theorem dX13_house_103 : decode cX13_house 103 = .ok (.iaload, 1) := by decide +kernel
theorem dX13_house_104 : decode cX13_house 104 = .ok (.invokevirtual 73, 3) := by decide +kernel
theorem dX13_house_107 : decode cX13_house 107 = .ok (.ireturn, 1) := by decide +kernel
theorem dX13_house_108 : decode cX13_house 108 = .ok (.aload_n 0, 1) := by decide +kernel
theorem dX13_house_109 : decode cX13_house 109 = .ok (.aload_n 0, 1) := by decide +kernel
theorem dX13_house_110 : decode cX13_house 110 = .ok (.getfield 17, 3) := by decide +kernel
theorem dX13_house_113 : decode cX13_house 113 = .ok (.bipush 8, 2) := by decide +kernel
theorem dX13_house_115 : decode cX13_house 115 = .ok (.iload_n 1, 1) := by decide +kernel
theorem dX13_house_116 : decode cX13_house 116 = .ok (.iadd, 1) := by decide +kernel
theorem dX13_house_117 : decode cX13_house 117 = .ok (.iaload, 1) := by decide +kernel
theorem dX13_house_118 : decode cX13_house 118 = .ok (.invokevirtual 73, 3) := by decide +kernel
theorem dX13_house_121 : decode cX13_house 121 = .ok (.ireturn, 1) := by decide +kernel
theorem dX13_house_122 : decode cX13_house 122 = .ok (.aload_n 0, 1) := by decide +kernel
theorem dX13_house_123 : decode cX13_house 123 = .ok (.aload_n 0, 1) := by decide +kernel
theorem dX13_house_124 : decode cX13_house 124 = .ok (.getfield 417, 3) := by decide +kernel
theorem dX13_house_127 : decode cX13_house 127 = .ok (.getfield 364, 3) := by decide +kernel
theorem dX13_house_130 : decode cX13_house 130 = .ok (.iload_n 1, 1) := by decide +kernel
theorem dX13_house_131 : decode cX13_house 131 = .ok (.iaload, 1) := by decide +kernel
theorem dX13_house_132 : decode cX13_house 132 = .ok (.invokevirtual 73, 3) := by decide +kernel
theorem dX13_house_135 : decode cX13_house 135 = .ok (.ireturn, 1) := by decide +kernel
theorem dX13_house_136 : decode cX13_house 136 = .ok (.aload_n 0, 1) := by decide +kernel
theorem dX13_house_137 : decode cX13_house 137 = .ok (.aload_n 0, 1) := by decide +kernel
theorem dX13_house_138 : decode cX13_house 138 = .ok (.aload_n 0, 1) := by decide +kernel
theorem dX13_house_139 : decode cX13_house 139 = .ok (.getfield 17, 3) := by decide +kernel
theorem dX13_house_142 : decode cX13_house 142 = .ok (.iload_n 1, 1) := by decide +kernel
theorem dX13_house_143 : decode cX13_house 143 = .ok (.invokevirtual 534, 3) := by decide +kernel
theorem dX13_house_146 : decode cX13_house 146 = .ok (.ifCond .eq 7, 3) := by decide +kernel
theorem dX13_house_149 : decode cX13_house 149 = .ok (.iconst 1, 1) := by decide +kernel
theorem dX13_house_150 : decode cX13_house 150 = .ok (.goto 4, 3) := by decide +kernel
theorem dX13_house_153 : decode cX13_house 153 = .ok (.iconst 0, 1) := by decide +kernel
theorem dX13_house_154 : decode cX13_house 154 = .ok (.invokevirtual 73, 3) := by decide +kernel
theorem dX13_house_157 : decode cX13_house 157 = .ok (.ireturn, 1) := by decide +kernel
theorem dX13_house_158 : decode cX13_house 158 = .ok (.aload_n 0, 1) := by decide +kernel
theorem dX13_house_159 : decode cX13_house 159 = .ok (.aload_n 0, 1) := by decide +kernel
theorem dX13_house_160 : decode cX13_house 160 = .ok (.getfield 17, 3) := by decide +kernel
theorem dX13_house_163 : decode cX13_house 163 = .ok (.iconst 4, 1) := by decide +kernel
theorem dX13_house_164 : decode cX13_house 164 = .ok (.iload_n 1, 1) := by decide +kernel
theorem dX13_house_165 : decode cX13_house 165 = .ok (.iadd, 1) := by decide +kernel
theorem dX13_house_166 : decode cX13_house 166 = .ok (.iaload, 1) := by decide +kernel
theorem dX13_house_167 : decode cX13_house 167 = .ok (.aload_n 0, 1) := by decide +kernel
theorem dX13_house_168 : decode cX13_house 168 = .ok (.getfield 17, 3) := by decide +kernel
theorem dX13_house_171 : decode cX13_house 171 = .ok (.iconst 0, 1) := by decide +kernel
theorem dX13_house_172 : decode cX13_house 172 = .ok (.iload_n 1, 1) := by decide +kernel
theorem dX13_house_173 : decode cX13_house 173 = .ok (.iadd, 1) := by decide +kernel
theorem dX13_house_174 : decode cX13_house 174 = .ok (.iaload, 1) := by decide +kernel
theorem dX13_house_175 : decode cX13_house 175 = .ok (.ifCond .ne 7, 3) := by decide +kernel
theorem dX13_house_178 : decode cX13_house 178 = .ok (.iconst 1, 1) := by decide +kernel
theorem dX13_house_179 : decode cX13_house 179 = .ok (.goto 14, 3) := by decide +kernel
theorem dX13_house_182 : decode cX13_house 182 = .ok (.bipush 8, 2) := by decide +kernel
theorem dX13_house_184 : decode cX13_house 184 = .ok (.aload_n 0, 1) := by decide +kernel
theorem dX13_house_185 : decode cX13_house 185 = .ok (.getfield 17, 3) := by decide +kernel
theorem dX13_house_188 : decode cX13_house 188 = .ok (.iconst 0, 1) := by decide +kernel
theorem dX13_house_189 : decode cX13_house 189 = .ok (.iload_n 1, 1) := by decide +kernel
theorem dX13_house_190 : decode cX13_house 190 = .ok (.iadd, 1) := by decide +kernel
theorem dX13_house_191 : decode cX13_house 191 = .ok (.iaload, 1) := by decide +kernel
theorem dX13_house_192 : decode cX13_house 192 = .ok (.imul, 1) := by decide +kernel
theorem dX13_house_193 : decode cX13_house 193 = .ok (.if_icmp .le 7, 3) := by decide +kernel
theorem dX13_house_196 : decode cX13_house 196 = .ok (.iconst 1, 1) := by decide +kernel
theorem dX13_house_197 : decode cX13_house 197 = .ok (.goto 4, 3) := by decide +kernel
theorem dX13_house_200 : decode cX13_house 200 = .ok (.iconst 0, 1) := by decide +kernel
theorem dX13_house_201 : decode cX13_house 201 = .ok (.invokevirtual 73, 3) := by decide +kernel
theorem dX13_house_204 : decode cX13_house 204 = .ok (.ireturn, 1) := by decide +kernel
theorem dX13_in_0 : decode cX13_in 0 = .ok (.aload_n 0, 1) := by decide +kernel
theorem dX13_in_1 : decode cX13_in 1 = .ok (.iconst 0, 1) := by decide +kernel
theorem dX13_in_2 : decode cX13_in 2 = .ok (.putfield 63, 3) := by decide +kernel
theorem dX13_in_5 : decode cX13_in 5 = .ok (.aload_n 0, 1) := by decide +kernel
theorem dX13_in_6 : decode cX13_in 6 = .ok (.aload_n 0, 1) := by decide +kernel
theorem dX13_in_7 : decode cX13_in 7 = .ok (.iload_n 1, 1) := by decide +kernel
theorem dX13_in_8 : decode cX13_in 8 = .ok (.invokevirtual 518, 3) := by decide +kernel
theorem dX13_in_11 : decode cX13_in 11 = .ok (.ifCond .eq 16, 3) := by decide +kernel
theorem dX13_in_14 : decode cX13_in 14 = .ok (.iload_n 3, 1) := by decide +kernel
theorem dX13_in_15 : decode cX13_in 15 = .ok (.iconst 0, 1) := by decide +kernel
theorem dX13_in_16 : decode cX13_in 16 = .ok (.iconst 4, 1) := by decide +kernel
theorem dX13_in_17 : decode cX13_in 17 = .ok (.invokestatic 141, 3) := by decide +kernel
theorem dX13_in_20 : decode cX13_in 20 = .ok (.ifCond .eq 7, 3) := by decide +kernel
theorem dX13_in_23 : decode cX13_in 23 = .ok (.iconst 1, 1) := by decide +kernel
theorem dX13_in_24 : decode cX13_in 24 = .ok (.goto 4, 3) := by decide +kernel
theorem dX13_in_27 : decode cX13_in 27 = .ok (.iconst 0, 1) := by decide +kernel
theorem dX13_in_28 : decode cX13_in 28 = .ok (.iload_n 2, 1) := by decide +kernel
theorem dX13_in_29 : decode cX13_in 29 = .ok (.bipush 60, 2) := by decide +kernel
theorem dX13_in_31 : decode cX13_in 31 = .ok (.invokevirtual 565, 3) := by decide +kernel
theorem dX13_in_34 : decode cX13_in 34 = .ok (.istore 4, 2) := by decide +kernel
theorem dX13_in_36 : decode cX13_in 36 = .ok (.iload 4, 2) := by decide +kernel
theorem dX13_in_38 : decode cX13_in 38 = .ok (.ifCond .le 10, 3) := by decide +kernel
theorem dX13_in_41 : decode cX13_in 41 = .ok (.aload_n 0, 1) := by decide +kernel
theorem dX13_in_42 : decode cX13_in 42 = .ok (.iload 4, 2) := by decide +kernel
theorem dX13_in_44 : decode cX13_in 44 = .ok (.invokevirtual 69, 3) := by decide +kernel
theorem dX13_in_47 : decode cX13_in 47 = .ok (.ireturn, 1) := by decide +kernel
theorem dX13_in_48 : decode cX13_in 48 = .ok (.aload_n 0, 1) := by decide +kernel
theorem dX13_in_49 : decode cX13_in 49 = .ok (.iload_n 2, 1) := by decide +kernel
theorem dX13_in_50 : decode cX13_in 50 = .ok (.invokevirtual 569, 3) := by decide +kernel
theorem dX13_in_53 : decode cX13_in 53 = .ok (.iconst 0, 1) := by decide +kernel
theorem dX13_in_54 : decode cX13_in 54 = .ok (.istore 5, 2) := by decide +kernel
theorem dX13_in_56 : decode cX13_in 56 = .ok (.iconst 1, 1) := by decide +kernel
theorem dX13_in_57 : decode cX13_in 57 = .ok (.istore 6, 2) := by decide +kernel
theorem dX13_in_59 : decode cX13_in 59 = .ok (.iload 6, 2) := by decide +kernel
theorem dX13_in_61 : decode cX13_in 61 = .ok (.aload_n 0, 1) := by decide +kernel
theorem dX13_in_62 : decode cX13_in 62 = .ok (.getfield 21, 3) := by decide +kernel
theorem dX13_in_65 : decode cX13_in 65 = .ok (.iconst 0, 1) := by decide +kernel
theorem dX13_in_66 : decode cX13_in 66 = .ok (.iload_n 1, 1) := by decide +kernel
theorem dX13_in_67 : decode cX13_in 67 = .ok (.iadd, 1) := by decide +kernel
theorem dX13_in_68 : decode cX13_in 68 = .ok (.iaload, 1) := by decide +kernel
theorem dX13_in_69 : decode cX13_in 69 = .ok (.if_icmp .gt 26, 3) := by decide +kernel
theorem dX13_in_72 : decode cX13_in 72 = .ok (.iload 5, 2) := by decide +kernel
theorem dX13_in_74 : decode cX13_in 74 = .ok (.aload_n 0, 1) := by decide +kernel
theorem dX13_in_75 : decode cX13_in 75 = .ok (.getfield 21, 3) := by decide +kernel
theorem dX13_in_78 : decode cX13_in 78 = .ok (.iload_n 1, 1) := by decide +kernel
theorem dX13_in_79 : decode cX13_in 79 = .ok (.iload 6, 2) := by decide +kernel
theorem dX13_in_81 : decode cX13_in 81 = .ok (.iconst 5, 1) := by decide +kernel
theorem dX13_in_82 : decode cX13_in 82 = .ok (.invokestatic 425, 3) := by decide +kernel
theorem dX13_in_85 : decode cX13_in 85 = .ok (.iaload, 1) := by decide +kernel
theorem dX13_in_86 : decode cX13_in 86 = .ok (.iadd, 1) := by decide +kernel
theorem dX13_in_87 : decode cX13_in 87 = .ok (.istore 5, 2) := by decide +kernel
theorem dX13_in_89 : decode cX13_in 89 = .ok (.iinc 6 1, 3) := by decide +kernel
theorem dX13_in_92 : decode cX13_in 92 = .ok (.goto (-33), 3) := by decide +kernel
theorem dX13_in_95 : decode cX13_in 95 = .ok (.iload_n 3, 1) := by decide +kernel
theorem dX13_in_96 : decode cX13_in 96 = .ok (.tableswitch 79 0 3 #[32, 45, 58, 72], 32) := by decide +kernel
theorem dX13_in_128 : decode cX13_in 128 = .ok (.aload_n 0, 1) := by decide +kernel
theorem dX13_in_129 : decode cX13_in 129 = .ok (.aload_n 0, 1) := by decide +kernel
theorem dX13_in_130 : decode cX13_in 130 = .ok (.getfield 21, 3) := by decide +kernel
theorem dX13_in_133 : decode cX13_in 133 = .ok (.iconst 0, 1) := by decide +kernel
theorem dX13_in_134 : decode cX13_in 134 = .ok (.iload_n 1, 1) := by decide +kernel
theorem dX13_in_135 : decode cX13_in 135 = .ok (.iadd, 1) := by decide +kernel
theorem dX13_in_136 : decode cX13_in 136 = .ok (.iaload, 1) := by decide +kernel
theorem dX13_in_137 : decode cX13_in 137 = .ok (.invokevirtual 73, 3) := by decide +kernel
theorem dX13_in_140 : decode cX13_in 140 = .ok (.ireturn, 1) := by decide +kernel
theorem dX13_in_141 : decode cX13_in 141 = .ok (.aload_n 0, 1) := by decide +kernel
theorem dX13_in_142 : decode cX13_in 142 = .ok (.aload_n 0, 1) := by decide +kernel
theorem dX13_in_143 : decode cX13_in 143 = .ok (.getfield 21, 3) := by decide +kernel
theorem dX13_in_146 : decode cX13_in 146 = .ok (.iconst 4, 1) := by decide +kernel
theorem dX13_in_147 : decode cX13_in 147 = .ok (.iload_n 1, 1) := by decide +kernel
theorem dX13_in_148 : decode cX13_in 148 = .ok (.iadd, 1) := by decide +kernel
theorem dX13_in_149 : decode cX13_in 149 = .ok (.iaload, 1) := by decide +kernel
theorem dX13_in_150 : decode cX13_in 150 = .ok (.invokevirtual 73, 3) := by decide +kernel
theorem dX13_in_153 : decode cX13_in 153 = .ok (.ireturn, 1) := by decide +kernel
theorem dX13_in_154 : decode cX13_in 154 = .ok (.aload_n 0, 1) := by decide +kernel
theorem dX13_in_155 : decode cX13_in 155 = .ok (.aload_n 0, 1) := by decide +kernel
theorem dX13_in_156 : decode cX13_in 156 = .ok (.getfield 21, 3) := by decide +kernel
theorem dX13_in_159 : decode cX13_in 159 = .ok (.bipush 8, 2) := by decide +kernel
theorem dX13_in_161 : decode cX13_in 161 = .ok (.iload_n 1, 1) := by decide +kernel
theorem dX13_in_162 : decode cX13_in 162 = .ok (.iadd, 1) := by decide +kernel
theorem dX13_in_163 : decode cX13_in 163 = .ok (.iaload, 1) := by decide +kernel
theorem dX13_in_164 : decode cX13_in 164 = .ok (.invokevirtual 73, 3) := by decide +kernel
theorem dX13_in_167 : decode cX13_in 167 = .ok (.ireturn, 1) := by decide +kernel
theorem dX13_in_168 : decode cX13_in 168 = .ok (.aload_n 0, 1) := by decide +kernel
theorem dX13_in_169 : decode cX13_in 169 = .ok (.iload 5, 2) := by decide +kernel
theorem dX13_in_171 : decode cX13_in 171 = .ok (.invokevirtual 73, 3) := by decide +kernel
theorem dX13_in_174 : decode cX13_in 174 = .ok (.ireturn, 1) := by decide +kernel
theorem dX13_in_175 : decode cX13_in 175 = .ok (.aload_n 0, 1) := by decide +kernel
theorem dX13_in_176 : decode cX13_in 176 = .ok (.aload_n 0, 1) := by decide +kernel
theorem dX13_in_177 : decode cX13_in 177 = .ok (.aload_n 0, 1) := by decide +kernel
theorem dX13_in_178 : decode cX13_in 178 = .ok (.getfield 21, 3) := by decide +kernel
theorem dX13_in_181 : decode cX13_in 181 = .ok (.iload_n 1, 1) := by decide +kernel
theorem dX13_in_182 : decode cX13_in 182 = .ok (.invokevirtual 534, 3) := by decide +kernel
theorem dX13_in_185 : decode cX13_in 185 = .ok (.ifCond .eq 7, 3) := by decide +kernel
theorem dX13_in_188 : decode cX13_in 188 = .ok (.iconst 1, 1) := by decide +kernel
theorem dX13_in_189 : decode cX13_in 189 = .ok (.goto 4, 3) := by decide +kernel
theorem dX13_in_192 : decode cX13_in 192 = .ok (.iconst 0, 1) := by decide +kernel
theorem dX13_in_193 : decode cX13_in 193 = .ok (.invokevirtual 73, 3) := by decide +kernel
theorem dX13_in_196 : decode cX13_in 196 = .ok (.ireturn, 1) := by decide +kernel
theorem dX13_inFront_0 : decode cX13_inFront 0 = .ok (.iload_n 1, 1) := by decide +kernel
theorem dX13_inFront_1 : decode cX13_inFront 1 = .ok (.iconst 1, 1) := by decide +kernel
theorem dX13_inFront_2 : decode cX13_inFront 2 = .ok (.iadd, 1) := by decide +kernel
theorem dX13_inFront_3 : decode cX13_inFront 3 = .ok (.iconst 2, 1) := by decide +kernel
theorem dX13_inFront_4 : decode cX13_inFront 4 = .ok (.iload_n 1, 1) := by decide +kernel
theorem dX13_inFront_5 : decode cX13_inFront 5 = .ok (.iconst 2, 1) := by decide +kernel
theorem dX13_inFront_6 : decode cX13_inFront 6 = .ok (.iload_n 0, 1) := by decide +kernel
theorem dX13_inFront_7 : decode cX13_inFront 7 = .ok (.imul, 1) := by decide +kernel
theorem dX13_inFront_8 : decode cX13_inFront 8 = .ok (.idiv, 1) := by decide +kernel
theorem dX13_inFront_9 : decode cX13_inFront 9 = .ok (.imul, 1) := by decide +kernel
theorem dX13_inFront_10 : decode cX13_inFront 10 = .ok (.iadd, 1) := by decide +kernel
theorem dX13_inFront_11 : decode cX13_inFront 11 = .ok (.ireturn, 1) := by decide +kernel
theorem dX13_inYears_0 : decode cX13_inYears 0 = .ok (.aload_n 0, 1) := by decide +kernel
theorem dX13_inYears_1 : decode cX13_inYears 1 = .ok (.invokevirtual 508, 3) := by decide +kernel
theorem dX13_inYears_4 : decode cX13_inYears 4 = .ok (.aload_n 0, 1) := by decide +kernel
theorem dX13_inYears_5 : decode cX13_inYears 5 = .ok (.invokevirtual 511, 3) := by decide +kernel
theorem dX13_inYears_8 : decode cX13_inYears 8 = .ok (.iconst 0, 1) := by decide +kernel
theorem dX13_inYears_9 : decode cX13_inYears 9 = .ok (.istore_n 2, 1) := by decide +kernel
theorem dX13_inYears_10 : decode cX13_inYears 10 = .ok (.iload_n 2, 1) := by decide +kernel
theorem dX13_inYears_11 : decode cX13_inYears 11 = .ok (.iload_n 1, 1) := by decide +kernel
theorem dX13_inYears_12 : decode cX13_inYears 12 = .ok (.if_icmp .ge 17, 3) := by decide +kernel
theorem dX13_inYears_15 : decode cX13_inYears 15 = .ok (.aload_n 0, 1) := by decide +kernel
theorem dX13_inYears_16 : decode cX13_inYears 16 = .ok (.aload_n 0, 1) := by decide +kernel
theorem dX13_inYears_17 : decode cX13_inYears 17 = .ok (.getfield 21, 3) := by decide +kernel
theorem dX13_inYears_20 : decode cX13_inYears 20 = .ok (.invokevirtual 514, 3) := by decide +kernel
theorem dX13_inYears_23 : decode cX13_inYears 23 = .ok (.iinc 2 1, 3) := by decide +kernel
theorem dX13_inYears_26 : decode cX13_inYears 26 = .ok (.goto (-16), 3) := by decide +kernel
theorem dX13_inYears_29 : decode cX13_inYears 29 = .ok (.return_, 1) := by decide +kernel
theorem dX13_inmost_0 : decode cX13_inmost 0 = .ok (.iconst 1, 1) := by decide +kernel
theorem dX13_inmost_1 : decode cX13_inmost 1 = .ok (.istore_n 2, 1) := by decide +kernel
theorem dX13_inmost_2 : decode cX13_inmost 2 = .ok (.iload_n 2, 1) := by decide +kernel
theorem dX13_inmost_3 : decode cX13_inmost 3 = .ok (.aload_n 0, 1) := by decide +kernel
theorem dX13_inmost_4 : decode cX13_inmost 4 = .ok (.getfield 17, 3) := by decide +kernel
theorem dX13_inmost_7 : decode cX13_inmost 7 = .ok (.iconst 0, 1) := by decide +kernel
theorem dX13_inmost_8 : decode cX13_inmost 8 = .ok (.iload_n 1, 1) := by decide +kernel
theorem dX13_inmost_9 : decode cX13_inmost 9 = .ok (.iadd, 1) := by decide +kernel
theorem dX13_inmost_10 : decode cX13_inmost 10 = .ok (.iaload, 1) := by decide +kernel
theorem dX13_inmost_11 : decode cX13_inmost 11 = .ok (.if_icmp .gt 25, 3) := by decide +kernel
theorem dX13_inmost_14 : decode cX13_inmost 14 = .ok (.aload_n 0, 1) := by decide +kernel
theorem dX13_inmost_15 : decode cX13_inmost 15 = .ok (.getfield 17, 3) := by decide +kernel
theorem dX13_inmost_18 : decode cX13_inmost 18 = .ok (.iload_n 1, 1) := by decide +kernel
theorem dX13_inmost_19 : decode cX13_inmost 19 = .ok (.iload_n 2, 1) := by decide +kernel
theorem dX13_inmost_20 : decode cX13_inmost 20 = .ok (.iconst 5, 1) := by decide +kernel
theorem dX13_inmost_21 : decode cX13_inmost 21 = .ok (.invokestatic 425, 3) := by decide +kernel
theorem dX13_inmost_24 : decode cX13_inmost 24 = .ok (.iaload, 1) := by decide +kernel
theorem dX13_inmost_25 : decode cX13_inmost 25 = .ok (.ifCond .ne 5, 3) := by decide +kernel
theorem dX13_inmost_28 : decode cX13_inmost 28 = .ok (.iload_n 2, 1) := by decide +kernel
theorem dX13_inmost_29 : decode cX13_inmost 29 = .ok (.ireturn, 1) := by decide +kernel
theorem dX13_inmost_30 : decode cX13_inmost 30 = .ok (.iinc 2 1, 3) := by decide +kernel
theorem dX13_inmost_33 : decode cX13_inmost 33 = .ok (.goto (-31), 3) := by decide +kernel
theorem dX13_inmost_36 : decode cX13_inmost 36 = .ok (.bipush (-2), 2) := by decide +kernel
theorem dX13_inmost_38 : decode cX13_inmost 38 = .ok (.ireturn, 1) := by decide +kernel
theorem dX13_isCell_0 : decode cX13_isCell 0 = .ok (.aload_n 0, 1) := by decide +kernel
theorem dX13_isCell_1 : decode cX13_isCell 1 = .ok (.getfield 417, 3) := by decide +kernel
theorem dX13_isCell_4 : decode cX13_isCell 4 = .ok (.ifnull 41, 3) := by decide +kernel
theorem dX13_isCell_7 : decode cX13_isCell 7 = .ok (.iload_n 1, 1) := by decide +kernel
theorem dX13_isCell_8 : decode cX13_isCell 8 = .ok (.iconst 0, 1) := by decide +kernel
theorem dX13_isCell_9 : decode cX13_isCell 9 = .ok (.aload_n 0, 1) := by decide +kernel
theorem dX13_isCell_10 : decode cX13_isCell 10 = .ok (.getfield 417, 3) := by decide +kernel
theorem dX13_isCell_13 : decode cX13_isCell 13 = .ok (.getfield 160, 3) := by decide +kernel
theorem dX13_isCell_16 : decode cX13_isCell 16 = .ok (.iconst 1, 1) := by decide +kernel
theorem dX13_isCell_17 : decode cX13_isCell 17 = .ok (.isub, 1) := by decide +kernel
theorem dX13_isCell_18 : decode cX13_isCell 18 = .ok (.invokestatic 141, 3) := by decide +kernel
theorem dX13_isCell_21 : decode cX13_isCell 21 = .ok (.ifCond .eq 24, 3) := by decide +kernel
theorem dX13_isCell_24 : decode cX13_isCell 24 = .ok (.iload_n 2, 1) := by decide +kernel
theorem dX13_isCell_25 : decode cX13_isCell 25 = .ok (.iconst 0, 1) := by decide +kernel
theorem dX13_isCell_26 : decode cX13_isCell 26 = .ok (.aload_n 0, 1) := by decide +kernel
theorem dX13_isCell_27 : decode cX13_isCell 27 = .ok (.getfield 417, 3) := by decide +kernel
theorem dX13_isCell_30 : decode cX13_isCell 30 = .ok (.getfield 168, 3) := by decide +kernel
theorem dX13_isCell_33 : decode cX13_isCell 33 = .ok (.iconst 1, 1) := by decide +kernel
theorem dX13_isCell_34 : decode cX13_isCell 34 = .ok (.isub, 1) := by decide +kernel
theorem dX13_isCell_35 : decode cX13_isCell 35 = .ok (.invokestatic 141, 3) := by decide +kernel
theorem dX13_isCell_38 : decode cX13_isCell 38 = .ok (.ifCond .eq 7, 3) := by decide +kernel
theorem dX13_isCell_41 : decode cX13_isCell 41 = .ok (.iconst 1, 1) := by decide +kernel
theorem dX13_isCell_42 : decode cX13_isCell 42 = .ok (.goto 4, 3) := by decide +kernel
theorem dX13_isCell_45 : decode cX13_isCell 45 = .ok (.iconst 0, 1) := by decide +kernel
theorem dX13_isCell_46 : decode cX13_isCell 46 = .ok (.ireturn, 1) := by decide +kernel
theorem dX13_isDepth_0 : decode cX13_isDepth 0 = .ok (.aload_n 0, 1) := by decide +kernel
theorem dX13_isDepth_1 : decode cX13_isDepth 1 = .ok (.iload_n 1, 1) := by decide +kernel
theorem dX13_isDepth_2 : decode cX13_isDepth 2 = .ok (.invokevirtual 518, 3) := by decide +kernel
theorem dX13_isDepth_5 : decode cX13_isDepth 5 = .ok (.ifCond .eq 23, 3) := by decide +kernel
theorem dX13_isDepth_8 : decode cX13_isDepth 8 = .ok (.iload_n 2, 1) := by decide +kernel
theorem dX13_isDepth_9 : decode cX13_isDepth 9 = .ok (.ifCond .lt 19, 3) := by decide +kernel
theorem dX13_isDepth_12 : decode cX13_isDepth 12 = .ok (.iload_n 2, 1) := by decide +kernel
theorem dX13_isDepth_13 : decode cX13_isDepth 13 = .ok (.aload_n 0, 1) := by decide +kernel
theorem dX13_isDepth_14 : decode cX13_isDepth 14 = .ok (.getfield 17, 3) := by decide +kernel
theorem dX13_isDepth_17 : decode cX13_isDepth 17 = .ok (.iconst 0, 1) := by decide +kernel
theorem dX13_isDepth_18 : decode cX13_isDepth 18 = .ok (.iload_n 1, 1) := by decide +kernel
theorem dX13_isDepth_19 : decode cX13_isDepth 19 = .ok (.iadd, 1) := by decide +kernel
theorem dX13_isDepth_20 : decode cX13_isDepth 20 = .ok (.iaload, 1) := by decide +kernel
theorem dX13_isDepth_21 : decode cX13_isDepth 21 = .ok (.if_icmp .gt 7, 3) := by decide +kernel
theorem dX13_isDepth_24 : decode cX13_isDepth 24 = .ok (.iconst 1, 1) := by decide +kernel
theorem dX13_isDepth_25 : decode cX13_isDepth 25 = .ok (.goto 4, 3) := by decide +kernel
theorem dX13_isDepth_28 : decode cX13_isDepth 28 = .ok (.iconst 0, 1) := by decide +kernel
theorem dX13_isDepth_29 : decode cX13_isDepth 29 = .ok (.ireturn, 1) := by decide +kernel
theorem dX13_isDigit_0 : decode cX13_isDigit 0 = .ok (.iload_n 0, 1) := by decide +kernel
theorem dX13_isDigit_1 : decode cX13_isDigit 1 = .ok (.bipush 48, 2) := by decide +kernel
theorem dX13_isDigit_3 : decode cX13_isDigit 3 = .ok (.if_icmp .lt 13, 3) := by decide +kernel
theorem dX13_isDigit_6 : decode cX13_isDigit 6 = .ok (.iload_n 0, 1) := by decide +kernel
theorem dX13_isDigit_7 : decode cX13_isDigit 7 = .ok (.bipush 57, 2) := by decide +kernel
theorem dX13_isDigit_9 : decode cX13_isDigit 9 = .ok (.if_icmp .gt 7, 3) := by decide +kernel
theorem dX13_isDigit_12 : decode cX13_isDigit 12 = .ok (.iconst 1, 1) := by decide +kernel
theorem dX13_isDigit_13 : decode cX13_isDigit 13 = .ok (.goto 4, 3) := by decide +kernel
theorem dX13_isDigit_16 : decode cX13_isDigit 16 = .ok (.iconst 0, 1) := by decide +kernel
theorem dX13_isDigit_17 : decode cX13_isDigit 17 = .ok (.ireturn, 1) := by decide +kernel
theorem dX13_isFree_0 : decode cX13_isFree 0 = .ok (.aload_n 0, 1) := by decide +kernel
theorem dX13_isFree_1 : decode cX13_isFree 1 = .ok (.iload_n 2, 1) := by decide +kernel
theorem dX13_isFree_2 : decode cX13_isFree 2 = .ok (.invokevirtual 434, 3) := by decide +kernel
theorem dX13_isFree_5 : decode cX13_isFree 5 = .ok (.iload_n 3, 1) := by decide +kernel
theorem dX13_isFree_6 : decode cX13_isFree 6 = .ok (.iload 4, 2) := by decide +kernel
theorem dX13_isFree_8 : decode cX13_isFree 8 = .ok (.iload 5, 2) := by decide +kernel
theorem dX13_isFree_10 : decode cX13_isFree 10 = .ok (.invokestatic 440, 3) := by decide +kernel
theorem dX13_isFree_13 : decode cX13_isFree 13 = .ok (.iadd, 1) := by decide +kernel
theorem dX13_isFree_14 : decode cX13_isFree 14 = .ok (.iload 4, 2) := by decide +kernel
theorem dX13_isFree_16 : decode cX13_isFree 16 = .ok (.invokestatic 449, 3) := by decide +kernel
theorem dX13_isFree_19 : decode cX13_isFree 19 = .ok (.iadd, 1) := by decide +kernel
theorem dX13_isFree_20 : decode cX13_isFree 20 = .ok (.istore 6, 2) := by decide +kernel
theorem dX13_isFree_22 : decode cX13_isFree 22 = .ok (.aload_n 0, 1) := by decide +kernel
theorem dX13_isFree_23 : decode cX13_isFree 23 = .ok (.iload_n 2, 1) := by decide +kernel
theorem dX13_isFree_24 : decode cX13_isFree 24 = .ok (.invokevirtual 431, 3) := by decide +kernel
theorem dX13_isFree_27 : decode cX13_isFree 27 = .ok (.iload_n 3, 1) := by decide +kernel
theorem dX13_isFree_28 : decode cX13_isFree 28 = .ok (.iload 4, 2) := by decide +kernel
theorem dX13_isFree_30 : decode cX13_isFree 30 = .ok (.iload 5, 2) := by decide +kernel
theorem dX13_isFree_32 : decode cX13_isFree 32 = .ok (.invokestatic 443, 3) := by decide +kernel
theorem dX13_isFree_35 : decode cX13_isFree 35 = .ok (.iadd, 1) := by decide +kernel
theorem dX13_isFree_36 : decode cX13_isFree 36 = .ok (.iload 4, 2) := by decide +kernel
theorem dX13_isFree_38 : decode cX13_isFree 38 = .ok (.invokestatic 452, 3) := by decide +kernel
theorem dX13_isFree_41 : decode cX13_isFree 41 = .ok (.iadd, 1) := by decide +kernel
theorem dX13_isFree_42 : decode cX13_isFree 42 = .ok (.istore 7, 2) := by decide +kernel
theorem dX13_isFree_44 : decode cX13_isFree 44 = .ok (.aload_n 0, 1) := by decide +kernel
theorem dX13_isFree_45 : decode cX13_isFree 45 = .ok (.iload 6, 2) := by decide +kernel
theorem dX13_isFree_47 : decode cX13_isFree 47 = .ok (.iload 7, 2) := by decide +kernel
theorem dX13_isFree_49 : decode cX13_isFree 49 = .ok (.invokevirtual 437, 3) := by decide +kernel
theorem dX13_isFree_52 : decode cX13_isFree 52 = .ok (.ifCond .eq 19, 3) := by decide +kernel
theorem dX13_isFree_55 : decode cX13_isFree 55 = .ok (.aload_n 0, 1) := by decide +kernel
theorem dX13_isFree_56 : decode cX13_isFree 56 = .ok (.aload_n 1, 1) := by decide +kernel
theorem dX13_isFree_57 : decode cX13_isFree 57 = .ok (.iload 6, 2) := by decide +kernel
theorem dX13_isFree_59 : decode cX13_isFree 59 = .ok (.iload 7, 2) := by decide +kernel
theorem dX13_isFree_61 : decode cX13_isFree 61 = .ok (.invokestatic 348, 3) := by decide +kernel
theorem dX13_isFree_64 : decode cX13_isFree 64 = .ok (.ifCond .ne 7, 3) := by decide +kernel
theorem dX13_isFree_67 : decode cX13_isFree 67 = .ok (.iconst 1, 1) := by decide +kernel
theorem dX13_isFree_68 : decode cX13_isFree 68 = .ok (.goto 4, 3) := by decide +kernel
theorem dX13_isFree_71 : decode cX13_isFree 71 = .ok (.iconst 0, 1) := by decide +kernel
theorem dX13_isFree_72 : decode cX13_isFree 72 = .ok (.ireturn, 1) := by decide +kernel
theorem dX13_isHeir_0 : decode cX13_isHeir 0 = .ok (.aload_n 0, 1) := by decide +kernel
theorem dX13_isHeir_1 : decode cX13_isHeir 1 = .ok (.getfield 417, 3) := by decide +kernel
theorem dX13_isHeir_4 : decode cX13_isHeir 4 = .ok (.ifnull 22, 3) := by decide +kernel
theorem dX13_isHeir_7 : decode cX13_isHeir 7 = .ok (.iload_n 1, 1) := by decide +kernel
theorem dX13_isHeir_8 : decode cX13_isHeir 8 = .ok (.ifCond .lt 18, 3) := by decide +kernel
theorem dX13_isHeir_11 : decode cX13_isHeir 11 = .ok (.iload_n 1, 1) := by decide +kernel
theorem dX13_isHeir_12 : decode cX13_isHeir 12 = .ok (.aload_n 0, 1) := by decide +kernel
theorem dX13_isHeir_13 : decode cX13_isHeir 13 = .ok (.getfield 417, 3) := by decide +kernel
theorem dX13_isHeir_16 : decode cX13_isHeir 16 = .ok (.getfield 388, 3) := by decide +kernel
theorem dX13_isHeir_19 : decode cX13_isHeir 19 = .ok (.if_icmp .ge 7, 3) := by decide +kernel
theorem dX13_isHeir_22 : decode cX13_isHeir 22 = .ok (.iconst 1, 1) := by decide +kernel
theorem dX13_isHeir_23 : decode cX13_isHeir 23 = .ok (.goto 4, 3) := by decide +kernel
theorem dX13_isHeir_26 : decode cX13_isHeir 26 = .ok (.iconst 0, 1) := by decide +kernel
theorem dX13_isHeir_27 : decode cX13_isHeir 27 = .ok (.ireturn, 1) := by decide +kernel
theorem dX13_isHouse_0 : decode cX13_isHouse 0 = .ok (.aload_n 0, 1) := by decide +kernel
theorem dX13_isHouse_1 : decode cX13_isHouse 1 = .ok (.getfield 417, 3) := by decide +kernel
theorem dX13_isHouse_4 : decode cX13_isHouse 4 = .ok (.ifnull 22, 3) := by decide +kernel
theorem dX13_isHouse_7 : decode cX13_isHouse 7 = .ok (.iload_n 1, 1) := by decide +kernel
theorem dX13_isHouse_8 : decode cX13_isHouse 8 = .ok (.ifCond .lt 18, 3) := by decide +kernel
theorem dX13_isHouse_11 : decode cX13_isHouse 11 = .ok (.iload_n 1, 1) := by decide +kernel
theorem dX13_isHouse_12 : decode cX13_isHouse 12 = .ok (.aload_n 0, 1) := by decide +kernel
theorem dX13_isHouse_13 : decode cX13_isHouse 13 = .ok (.getfield 417, 3) := by decide +kernel
theorem dX13_isHouse_16 : decode cX13_isHouse 16 = .ok (.getfield 229, 3) := by decide +kernel
theorem dX13_isHouse_19 : decode cX13_isHouse 19 = .ok (.if_icmp .ge 7, 3) := by decide +kernel
theorem dX13_isHouse_22 : decode cX13_isHouse 22 = .ok (.iconst 1, 1) := by decide +kernel
theorem dX13_isHouse_23 : decode cX13_isHouse 23 = .ok (.goto 4, 3) := by decide +kernel
theorem dX13_isHouse_26 : decode cX13_isHouse 26 = .ok (.iconst 0, 1) := by decide +kernel
theorem dX13_isHouse_27 : decode cX13_isHouse 27 = .ok (.ireturn, 1) := by decide +kernel
theorem dX13_isLetter_0 : decode cX13_isLetter 0 = .ok (.iload_n 0, 1) := by decide +kernel
theorem dX13_isLetter_1 : decode cX13_isLetter 1 = .ok (.bipush 97, 2) := by decide +kernel
theorem dX13_isLetter_3 : decode cX13_isLetter 3 = .ok (.if_icmp .lt 13, 3) := by decide +kernel
theorem dX13_isLetter_6 : decode cX13_isLetter 6 = .ok (.iload_n 0, 1) := by decide +kernel
theorem dX13_isLetter_7 : decode cX13_isLetter 7 = .ok (.bipush 122, 2) := by decide +kernel
theorem dX13_isLetter_9 : decode cX13_isLetter 9 = .ok (.if_icmp .gt 7, 3) := by decide +kernel
theorem dX13_isLetter_12 : decode cX13_isLetter 12 = .ok (.iconst 1, 1) := by decide +kernel
theorem dX13_isLetter_13 : decode cX13_isLetter 13 = .ok (.goto 4, 3) := by decide +kernel
theorem dX13_isLetter_16 : decode cX13_isLetter 16 = .ok (.iconst 0, 1) := by decide +kernel
theorem dX13_isLetter_17 : decode cX13_isLetter 17 = .ok (.ireturn, 1) := by decide +kernel
theorem dX13_isLivedIn_0 : decode cX13_isLivedIn 0 = .ok (.iconst 0, 1) := by decide +kernel
theorem dX13_isLivedIn_1 : decode cX13_isLivedIn 1 = .ok (.istore_n 3, 1) := by decide +kernel
theorem dX13_isLivedIn_2 : decode cX13_isLivedIn 2 = .ok (.iload_n 3, 1) := by decide +kernel
theorem dX13_isLivedIn_3 : decode cX13_isLivedIn 3 = .ok (.aload_n 0, 1) := by decide +kernel
theorem dX13_isLivedIn_4 : decode cX13_isLivedIn 4 = .ok (.getfield 417, 3) := by decide +kernel
theorem dX13_isLivedIn_7 : decode cX13_isLivedIn 7 = .ok (.getfield 388, 3) := by decide +kernel
theorem dX13_isLivedIn_10 : decode cX13_isLivedIn 10 = .ok (.if_icmp .ge 38, 3) := by decide +kernel
theorem dX13_isLivedIn_13 : decode cX13_isLivedIn 13 = .ok (.aload_n 0, 1) := by decide +kernel
theorem dX13_isLivedIn_14 : decode cX13_isLivedIn 14 = .ok (.getfield 417, 3) := by decide +kernel
theorem dX13_isLivedIn_17 : decode cX13_isLivedIn 17 = .ok (.getfield 391, 3) := by decide +kernel
theorem dX13_isLivedIn_20 : decode cX13_isLivedIn 20 = .ok (.iload_n 3, 1) := by decide +kernel
theorem dX13_isLivedIn_21 : decode cX13_isLivedIn 21 = .ok (.iaload, 1) := by decide +kernel
theorem dX13_isLivedIn_22 : decode cX13_isLivedIn 22 = .ok (.iload_n 1, 1) := by decide +kernel
theorem dX13_isLivedIn_23 : decode cX13_isLivedIn 23 = .ok (.if_icmp .ne 19, 3) := by decide +kernel
theorem dX13_isLivedIn_26 : decode cX13_isLivedIn 26 = .ok (.aload_n 0, 1) := by decide +kernel
theorem dX13_isLivedIn_27 : decode cX13_isLivedIn 27 = .ok (.getfield 17, 3) := by decide +kernel
theorem dX13_isLivedIn_30 : decode cX13_isLivedIn 30 = .ok (.sipush 204, 3) := by decide +kernel
theorem dX13_isLivedIn_33 : decode cX13_isLivedIn 33 = .ok (.iload_n 3, 1) := by decide +kernel
theorem dX13_isLivedIn_34 : decode cX13_isLivedIn 34 = .ok (.iadd, 1) := by decide +kernel
theorem dX13_isLivedIn_35 : decode cX13_isLivedIn 35 = .ok (.iaload, 1) := by decide +kernel
theorem dX13_isLivedIn_36 : decode cX13_isLivedIn 36 = .ok (.iload_n 2, 1) := by decide +kernel
theorem dX13_isLivedIn_37 : decode cX13_isLivedIn 37 = .ok (.if_icmp .ne 5, 3) := by decide +kernel
theorem dX13_isLivedIn_40 : decode cX13_isLivedIn 40 = .ok (.iconst 1, 1) := by decide +kernel
theorem dX13_isLivedIn_41 : decode cX13_isLivedIn 41 = .ok (.ireturn, 1) := by decide +kernel
theorem dX13_isLivedIn_42 : decode cX13_isLivedIn 42 = .ok (.iinc 3 1, 3) := by decide +kernel
theorem dX13_isLivedIn_45 : decode cX13_isLivedIn 45 = .ok (.goto (-43), 3) := by decide +kernel
theorem dX13_isLivedIn_48 : decode cX13_isLivedIn 48 = .ok (.iconst 0, 1) := by decide +kernel
theorem dX13_isLivedIn_49 : decode cX13_isLivedIn 49 = .ok (.ireturn, 1) := by decide +kernel
theorem dX13_isName_0 : decode cX13_isName 0 = .ok (.aload_n 0, 1) := by decide +kernel
theorem dX13_isName_1 : decode cX13_isName 1 = .ok (.getfield 91, 3) := by decide +kernel
theorem dX13_isName_4 : decode cX13_isName 4 = .ok (.iconst 2, 1) := by decide +kernel
theorem dX13_isName_5 : decode cX13_isName 5 = .ok (.if_icmp .ne 57, 3) := by decide +kernel
theorem dX13_isName_8 : decode cX13_isName 8 = .ok (.aload_n 0, 1) := by decide +kernel
theorem dX13_isName_9 : decode cX13_isName 9 = .ok (.ldc 171, 2) := by decide +kernel
theorem dX13_isName_11 : decode cX13_isName 11 = .ok (.invokevirtual 133, 3) := by decide +kernel
theorem dX13_isName_14 : decode cX13_isName 14 = .ok (.ifCond .ne 48, 3) := by decide +kernel
theorem dX13_isName_17 : decode cX13_isName 17 = .ok (.aload_n 0, 1) := by decide +kernel
theorem dX13_isName_18 : decode cX13_isName 18 = .ok (.ldc 173, 2) := by decide +kernel
theorem dX13_isName_20 : decode cX13_isName 20 = .ok (.invokevirtual 133, 3) := by decide +kernel
theorem dX13_isName_23 : decode cX13_isName 23 = .ok (.ifCond .ne 39, 3) := by decide +kernel
theorem dX13_isName_26 : decode cX13_isName 26 = .ok (.aload_n 0, 1) := by decide +kernel
theorem dX13_isName_27 : decode cX13_isName 27 = .ok (.ldc 175, 2) := by decide +kernel
theorem dX13_isName_29 : decode cX13_isName 29 = .ok (.invokevirtual 133, 3) := by decide +kernel
theorem dX13_isName_32 : decode cX13_isName 32 = .ok (.ifCond .ne 30, 3) := by decide +kernel
theorem dX13_isName_35 : decode cX13_isName 35 = .ok (.aload_n 0, 1) := by decide +kernel
theorem dX13_isName_36 : decode cX13_isName 36 = .ok (.ldc 177, 2) := by decide +kernel
theorem dX13_isName_38 : decode cX13_isName 38 = .ok (.invokevirtual 133, 3) := by decide +kernel
theorem dX13_isName_41 : decode cX13_isName 41 = .ok (.ifCond .ne 21, 3) := by decide +kernel
theorem dX13_isName_44 : decode cX13_isName 44 = .ok (.aload_n 0, 1) := by decide +kernel
theorem dX13_isName_45 : decode cX13_isName 45 = .ok (.ldc 179, 2) := by decide +kernel
theorem dX13_isName_47 : decode cX13_isName 47 = .ok (.invokevirtual 133, 3) := by decide +kernel
theorem dX13_isName_50 : decode cX13_isName 50 = .ok (.ifCond .ne 12, 3) := by decide +kernel
theorem dX13_isName_53 : decode cX13_isName 53 = .ok (.aload_n 0, 1) := by decide +kernel
theorem dX13_isName_54 : decode cX13_isName 54 = .ok (.ldc 181, 2) := by decide +kernel
theorem dX13_isName_56 : decode cX13_isName 56 = .ok (.invokevirtual 133, 3) := by decide +kernel
theorem dX13_isName_59 : decode cX13_isName 59 = .ok (.ifCond .eq 5, 3) := by decide +kernel
theorem dX13_isName_62 : decode cX13_isName 62 = .ok (.iconst 0, 1) := by decide +kernel
theorem dX13_isName_63 : decode cX13_isName 63 = .ok (.ireturn, 1) := by decide +kernel
theorem dX13_isName_64 : decode cX13_isName 64 = .ok (.aload_n 0, 1) := by decide +kernel
theorem dX13_isName_65 : decode cX13_isName 65 = .ok (.ldc 183, 2) := by decide +kernel
theorem dX13_isName_67 : decode cX13_isName 67 = .ok (.invokevirtual 133, 3) := by decide +kernel
theorem dX13_isName_70 : decode cX13_isName 70 = .ok (.ifCond .ne 43, 3) := by decide +kernel
theorem dX13_isName_73 : decode cX13_isName 73 = .ok (.aload_n 0, 1) := by decide +kernel
theorem dX13_isName_74 : decode cX13_isName 74 = .ok (.ldc 185, 2) := by decide +kernel
theorem dX13_isName_76 : decode cX13_isName 76 = .ok (.invokevirtual 133, 3) := by decide +kernel
theorem dX13_isName_79 : decode cX13_isName 79 = .ok (.ifCond .ne 34, 3) := by decide +kernel
theorem dX13_isName_82 : decode cX13_isName 82 = .ok (.aload_n 0, 1) := by decide +kernel
theorem dX13_isName_83 : decode cX13_isName 83 = .ok (.ldc 187, 2) := by decide +kernel
theorem dX13_isName_85 : decode cX13_isName 85 = .ok (.invokevirtual 133, 3) := by decide +kernel
theorem dX13_isName_88 : decode cX13_isName 88 = .ok (.ifCond .ne 25, 3) := by decide +kernel
theorem dX13_isName_91 : decode cX13_isName 91 = .ok (.aload_n 0, 1) := by decide +kernel
theorem dX13_isName_92 : decode cX13_isName 92 = .ok (.ldc 189, 2) := by decide +kernel
theorem dX13_isName_94 : decode cX13_isName 94 = .ok (.invokevirtual 133, 3) := by decide +kernel
theorem dX13_isName_97 : decode cX13_isName 97 = .ok (.ifCond .ne 16, 3) := by decide +kernel
theorem dX13_isName_100 : decode cX13_isName 100 = .ok (.aload_n 0, 1) := by decide +kernel
theorem dX13_isName_101 : decode cX13_isName 101 = .ok (.ldc 191, 2) := by decide +kernel
theorem dX13_isName_103 : decode cX13_isName 103 = .ok (.invokevirtual 133, 3) := by decide +kernel
theorem dX13_isName_106 : decode cX13_isName 106 = .ok (.ifCond .ne 7, 3) := by decide +kernel
theorem dX13_isName_109 : decode cX13_isName 109 = .ok (.iconst 1, 1) := by decide +kernel
theorem dX13_isName_110 : decode cX13_isName 110 = .ok (.goto 4, 3) := by decide +kernel
theorem dX13_isName_113 : decode cX13_isName 113 = .ok (.iconst 0, 1) := by decide +kernel
theorem dX13_isName_114 : decode cX13_isName 114 = .ok (.ireturn, 1) := by decide +kernel
theorem dX13_isShut_0 : decode cX13_isShut 0 = .ok (.aload_n 1, 1) := by decide +kernel
theorem dX13_isShut_1 : decode cX13_isShut 1 = .ok (.iconst 0, 1) := by decide +kernel
theorem dX13_isShut_2 : decode cX13_isShut 2 = .ok (.iload_n 2, 1) := by decide +kernel
theorem dX13_isShut_3 : decode cX13_isShut 3 = .ok (.iadd, 1) := by decide +kernel
theorem dX13_isShut_4 : decode cX13_isShut 4 = .ok (.iaload, 1) := by decide +kernel
theorem dX13_isShut_5 : decode cX13_isShut 5 = .ok (.istore_n 3, 1) := by decide +kernel
theorem dX13_isShut_6 : decode cX13_isShut 6 = .ok (.iload_n 3, 1) := by decide +kernel
theorem dX13_isShut_7 : decode cX13_isShut 7 = .ok (.ifCond .le 36, 3) := by decide +kernel
theorem dX13_isShut_10 : decode cX13_isShut 10 = .ok (.aload_n 0, 1) := by decide +kernel
theorem dX13_isShut_11 : decode cX13_isShut 11 = .ok (.getfield 417, 3) := by decide +kernel
theorem dX13_isShut_14 : decode cX13_isShut 14 = .ok (.aload_n 1, 1) := by decide +kernel
theorem dX13_isShut_15 : decode cX13_isShut 15 = .ok (.iload_n 2, 1) := by decide +kernel
theorem dX13_isShut_16 : decode cX13_isShut 16 = .ok (.iload_n 3, 1) := by decide +kernel
theorem dX13_isShut_17 : decode cX13_isShut 17 = .ok (.aload_n 1, 1) := by decide +kernel
theorem dX13_isShut_18 : decode cX13_isShut 18 = .ok (.iload_n 2, 1) := by decide +kernel
theorem dX13_isShut_19 : decode cX13_isShut 19 = .ok (.iload_n 3, 1) := by decide +kernel
theorem dX13_isShut_20 : decode cX13_isShut 20 = .ok (.iconst 1, 1) := by decide +kernel
theorem dX13_isShut_21 : decode cX13_isShut 21 = .ok (.invokestatic 425, 3) := by decide +kernel
theorem dX13_isShut_24 : decode cX13_isShut 24 = .ok (.iaload, 1) := by decide +kernel
theorem dX13_isShut_25 : decode cX13_isShut 25 = .ok (.aload_n 1, 1) := by decide +kernel
theorem dX13_isShut_26 : decode cX13_isShut 26 = .ok (.iload_n 2, 1) := by decide +kernel
theorem dX13_isShut_27 : decode cX13_isShut 27 = .ok (.iload_n 3, 1) := by decide +kernel
theorem dX13_isShut_28 : decode cX13_isShut 28 = .ok (.iconst 2, 1) := by decide +kernel
theorem dX13_isShut_29 : decode cX13_isShut 29 = .ok (.invokestatic 425, 3) := by decide +kernel
theorem dX13_isShut_32 : decode cX13_isShut 32 = .ok (.iaload, 1) := by decide +kernel
theorem dX13_isShut_33 : decode cX13_isShut 33 = .ok (.invokestatic 471, 3) := by decide +kernel
theorem dX13_isShut_36 : decode cX13_isShut 36 = .ok (.ifCond .ne 7, 3) := by decide +kernel
theorem dX13_isShut_39 : decode cX13_isShut 39 = .ok (.iconst 1, 1) := by decide +kernel
theorem dX13_isShut_40 : decode cX13_isShut 40 = .ok (.goto 4, 3) := by decide +kernel
theorem dX13_isShut_43 : decode cX13_isShut 43 = .ok (.iconst 0, 1) := by decide +kernel
theorem dX13_isShut_44 : decode cX13_isShut 44 = .ok (.ireturn, 1) := by decide +kernel
theorem dX13_isSkin_0 : decode cX13_isSkin 0 = .ok (.aload_n 0, 1) := by decide +kernel
theorem dX13_isSkin_1 : decode cX13_isSkin 1 = .ok (.iload_n 1, 1) := by decide +kernel
theorem dX13_isSkin_2 : decode cX13_isSkin 2 = .ok (.invokevirtual 518, 3) := by decide +kernel
theorem dX13_isSkin_5 : decode cX13_isSkin 5 = .ok (.ifCond .eq 24, 3) := by decide +kernel
theorem dX13_isSkin_8 : decode cX13_isSkin 8 = .ok (.iload_n 2, 1) := by decide +kernel
theorem dX13_isSkin_9 : decode cX13_isSkin 9 = .ok (.iconst 1, 1) := by decide +kernel
theorem dX13_isSkin_10 : decode cX13_isSkin 10 = .ok (.if_icmp .lt 19, 3) := by decide +kernel
theorem dX13_isSkin_13 : decode cX13_isSkin 13 = .ok (.iload_n 2, 1) := by decide +kernel
theorem dX13_isSkin_14 : decode cX13_isSkin 14 = .ok (.aload_n 0, 1) := by decide +kernel
theorem dX13_isSkin_15 : decode cX13_isSkin 15 = .ok (.getfield 17, 3) := by decide +kernel
theorem dX13_isSkin_18 : decode cX13_isSkin 18 = .ok (.iconst 0, 1) := by decide +kernel
theorem dX13_isSkin_19 : decode cX13_isSkin 19 = .ok (.iload_n 1, 1) := by decide +kernel
theorem dX13_isSkin_20 : decode cX13_isSkin 20 = .ok (.iadd, 1) := by decide +kernel
theorem dX13_isSkin_21 : decode cX13_isSkin 21 = .ok (.iaload, 1) := by decide +kernel
theorem dX13_isSkin_22 : decode cX13_isSkin 22 = .ok (.if_icmp .gt 7, 3) := by decide +kernel
theorem dX13_isSkin_25 : decode cX13_isSkin 25 = .ok (.iconst 1, 1) := by decide +kernel
theorem dX13_isSkin_26 : decode cX13_isSkin 26 = .ok (.goto 4, 3) := by decide +kernel
theorem dX13_isSkin_29 : decode cX13_isSkin 29 = .ok (.iconst 0, 1) := by decide +kernel
theorem dX13_isSkin_30 : decode cX13_isSkin 30 = .ok (.ireturn, 1) := by decide +kernel
theorem dX13_isStone_0 : decode cX13_isStone 0 = .ok (.aload_n 0, 1) := by decide +kernel
theorem dX13_isStone_1 : decode cX13_isStone 1 = .ok (.getfield 417, 3) := by decide +kernel
theorem dX13_isStone_4 : decode cX13_isStone 4 = .ok (.ifnull 22, 3) := by decide +kernel
theorem dX13_isStone_7 : decode cX13_isStone 7 = .ok (.iload_n 1, 1) := by decide +kernel
theorem dX13_isStone_8 : decode cX13_isStone 8 = .ok (.ifCond .lt 18, 3) := by decide +kernel
theorem dX13_isStone_11 : decode cX13_isStone 11 = .ok (.iload_n 1, 1) := by decide +kernel
theorem dX13_isStone_12 : decode cX13_isStone 12 = .ok (.aload_n 0, 1) := by decide +kernel
theorem dX13_isStone_13 : decode cX13_isStone 13 = .ok (.getfield 417, 3) := by decide +kernel
theorem dX13_isStone_16 : decode cX13_isStone 16 = .ok (.getfield 226, 3) := by decide +kernel
theorem dX13_isStone_19 : decode cX13_isStone 19 = .ok (.if_icmp .ge 7, 3) := by decide +kernel
theorem dX13_isStone_22 : decode cX13_isStone 22 = .ok (.iconst 1, 1) := by decide +kernel
theorem dX13_isStone_23 : decode cX13_isStone 23 = .ok (.goto 4, 3) := by decide +kernel
theorem dX13_isStone_26 : decode cX13_isStone 26 = .ok (.iconst 0, 1) := by decide +kernel
theorem dX13_isStone_27 : decode cX13_isStone 27 = .ok (.ireturn, 1) := by decide +kernel
theorem dX13_isWall_0 : decode cX13_isWall 0 = .ok (.aload_n 0, 1) := by decide +kernel
theorem dX13_isWall_1 : decode cX13_isWall 1 = .ok (.getfield 417, 3) := by decide +kernel
theorem dX13_isWall_4 : decode cX13_isWall 4 = .ok (.ifnull 22, 3) := by decide +kernel
theorem dX13_isWall_7 : decode cX13_isWall 7 = .ok (.iload_n 1, 1) := by decide +kernel
theorem dX13_isWall_8 : decode cX13_isWall 8 = .ok (.ifCond .lt 18, 3) := by decide +kernel
theorem dX13_isWall_11 : decode cX13_isWall 11 = .ok (.iload_n 1, 1) := by decide +kernel
theorem dX13_isWall_12 : decode cX13_isWall 12 = .ok (.aload_n 0, 1) := by decide +kernel
theorem dX13_isWall_13 : decode cX13_isWall 13 = .ok (.getfield 417, 3) := by decide +kernel
theorem dX13_isWall_16 : decode cX13_isWall 16 = .ok (.getfield 394, 3) := by decide +kernel
theorem dX13_isWall_19 : decode cX13_isWall 19 = .ok (.if_icmp .ge 7, 3) := by decide +kernel
theorem dX13_isWall_22 : decode cX13_isWall 22 = .ok (.iconst 1, 1) := by decide +kernel
theorem dX13_isWall_23 : decode cX13_isWall 23 = .ok (.goto 4, 3) := by decide +kernel
theorem dX13_isWall_26 : decode cX13_isWall 26 = .ok (.iconst 0, 1) := by decide +kernel
theorem dX13_isWall_27 : decode cX13_isWall 27 = .ok (.ireturn, 1) := by decide +kernel
theorem dX13_isWord_0 : decode cX13_isWord 0 = .ok (.aload_n 0, 1) := by decide +kernel
theorem dX13_isWord_1 : decode cX13_isWord 1 = .ok (.getfield 91, 3) := by decide +kernel
theorem dX13_isWord_4 : decode cX13_isWord 4 = .ok (.iconst 2, 1) := by decide +kernel
theorem dX13_isWord_5 : decode cX13_isWord 5 = .ok (.if_icmp .ne 19, 3) := by decide +kernel
theorem dX13_isWord_8 : decode cX13_isWord 8 = .ok (.aload_n 0, 1) := by decide +kernel
theorem dX13_isWord_9 : decode cX13_isWord 9 = .ok (.getfield 110, 3) := by decide +kernel
theorem dX13_isWord_12 : decode cX13_isWord 12 = .ok (.aload_n 1, 1) := by decide +kernel
theorem dX13_isWord_13 : decode cX13_isWord 13 = .ok (.invokestatic 126, 3) := by decide +kernel
theorem dX13_isWord_16 : decode cX13_isWord 16 = .ok (.lcmp, 1) := by decide +kernel
theorem dX13_isWord_17 : decode cX13_isWord 17 = .ok (.ifCond .ne 7, 3) := by decide +kernel
theorem dX13_isWord_20 : decode cX13_isWord 20 = .ok (.iconst 1, 1) := by decide +kernel
theorem dX13_isWord_21 : decode cX13_isWord 21 = .ok (.goto 4, 3) := by decide +kernel
theorem dX13_isWord_24 : decode cX13_isWord 24 = .ok (.iconst 0, 1) := by decide +kernel
theorem dX13_isWord_25 : decode cX13_isWord 25 = .ok (.ireturn, 1) := by decide +kernel
theorem dX13_keeps_0 : decode cX13_keeps 0 = .ok (.aload_n 0, 1) := by decide +kernel
theorem dX13_keeps_1 : decode cX13_keeps 1 = .ok (.getfield 419, 3) := by decide +kernel
theorem dX13_keeps_4 : decode cX13_keeps 4 = .ok (.bipush 10, 2) := by decide +kernel
theorem dX13_keeps_6 : decode cX13_keeps 6 = .ok (.if_icmp .ne 44, 3) := by decide +kernel
theorem dX13_keeps_9 : decode cX13_keeps 9 = .ok (.iconst 0, 1) := by decide +kernel
theorem dX13_keeps_10 : decode cX13_keeps 10 = .ok (.istore_n 1, 1) := by decide +kernel
theorem dX13_keeps_11 : decode cX13_keeps 11 = .ok (.iload_n 1, 1) := by decide +kernel
theorem dX13_keeps_12 : decode cX13_keeps 12 = .ok (.sipush 1908, 3) := by decide +kernel
theorem dX13_keeps_15 : decode cX13_keeps 15 = .ok (.if_icmp .ge 25, 3) := by decide +kernel
theorem dX13_keeps_18 : decode cX13_keeps 18 = .ok (.aload_n 0, 1) := by decide +kernel
theorem dX13_keeps_19 : decode cX13_keeps 19 = .ok (.getfield 24, 3) := by decide +kernel
theorem dX13_keeps_22 : decode cX13_keeps 22 = .ok (.iload_n 1, 1) := by decide +kernel
theorem dX13_keeps_23 : decode cX13_keeps 23 = .ok (.aload_n 0, 1) := by decide +kernel
theorem dX13_keeps_24 : decode cX13_keeps 24 = .ok (.getfield 24, 3) := by decide +kernel
theorem dX13_keeps_27 : decode cX13_keeps 27 = .ok (.iload_n 1, 1) := by decide +kernel
theorem dX13_keeps_28 : decode cX13_keeps 28 = .ok (.sipush 212, 3) := by decide +kernel
theorem dX13_keeps_31 : decode cX13_keeps 31 = .ok (.iadd, 1) := by decide +kernel
theorem dX13_keeps_32 : decode cX13_keeps 32 = .ok (.iaload, 1) := by decide +kernel
theorem dX13_keeps_33 : decode cX13_keeps 33 = .ok (.iastore, 1) := by decide +kernel
theorem dX13_keeps_34 : decode cX13_keeps 34 = .ok (.iinc 1 1, 3) := by decide +kernel
theorem dX13_keeps_37 : decode cX13_keeps 37 = .ok (.goto (-26), 3) := by decide +kernel
theorem dX13_keeps_40 : decode cX13_keeps 40 = .ok (.aload_n 0, 1) := by decide +kernel
theorem dX13_keeps_41 : decode cX13_keeps 41 = .ok (.dup, 1) := by decide +kernel
theorem dX13_keeps_42 : decode cX13_keeps 42 = .ok (.getfield 419, 3) := by decide +kernel
theorem dX13_keeps_45 : decode cX13_keeps 45 = .ok (.iconst 1, 1) := by decide +kernel
theorem dX13_keeps_46 : decode cX13_keeps 46 = .ok (.isub, 1) := by decide +kernel
theorem dX13_keeps_47 : decode cX13_keeps 47 = .ok (.putfield 419, 3) := by decide +kernel
theorem dX13_keeps_50 : decode cX13_keeps 50 = .ok (.iconst 0, 1) := by decide +kernel
theorem dX13_keeps_51 : decode cX13_keeps 51 = .ok (.istore_n 1, 1) := by decide +kernel
theorem dX13_keeps_52 : decode cX13_keeps 52 = .ok (.iload_n 1, 1) := by decide +kernel
theorem dX13_keeps_53 : decode cX13_keeps 53 = .ok (.sipush 212, 3) := by decide +kernel
theorem dX13_keeps_56 : decode cX13_keeps 56 = .ok (.if_icmp .ge 30, 3) := by decide +kernel
theorem dX13_keeps_59 : decode cX13_keeps 59 = .ok (.aload_n 0, 1) := by decide +kernel
theorem dX13_keeps_60 : decode cX13_keeps 60 = .ok (.getfield 24, 3) := by decide +kernel
theorem dX13_keeps_63 : decode cX13_keeps 63 = .ok (.sipush 212, 3) := by decide +kernel
theorem dX13_keeps_66 : decode cX13_keeps 66 = .ok (.aload_n 0, 1) := by decide +kernel
theorem dX13_keeps_67 : decode cX13_keeps 67 = .ok (.getfield 419, 3) := by decide +kernel
theorem dX13_keeps_70 : decode cX13_keeps 70 = .ok (.imul, 1) := by decide +kernel
theorem dX13_keeps_71 : decode cX13_keeps 71 = .ok (.iload_n 1, 1) := by decide +kernel
theorem dX13_keeps_72 : decode cX13_keeps 72 = .ok (.iadd, 1) := by decide +kernel
theorem dX13_keeps_73 : decode cX13_keeps 73 = .ok (.aload_n 0, 1) := by decide +kernel
theorem dX13_keeps_74 : decode cX13_keeps 74 = .ok (.getfield 17, 3) := by decide +kernel
theorem dX13_keeps_77 : decode cX13_keeps 77 = .ok (.iload_n 1, 1) := by decide +kernel
theorem dX13_keeps_78 : decode cX13_keeps 78 = .ok (.iaload, 1) := by decide +kernel
theorem dX13_keeps_79 : decode cX13_keeps 79 = .ok (.iastore, 1) := by decide +kernel
theorem dX13_keeps_80 : decode cX13_keeps 80 = .ok (.iinc 1 1, 3) := by decide +kernel
theorem dX13_keeps_83 : decode cX13_keeps 83 = .ok (.goto (-31), 3) := by decide +kernel
theorem dX13_keeps_86 : decode cX13_keeps 86 = .ok (.aload_n 0, 1) := by decide +kernel
theorem dX13_keeps_87 : decode cX13_keeps 87 = .ok (.dup, 1) := by decide +kernel
theorem dX13_keeps_88 : decode cX13_keeps 88 = .ok (.getfield 419, 3) := by decide +kernel
theorem dX13_keeps_91 : decode cX13_keeps 91 = .ok (.iconst 1, 1) := by decide +kernel
theorem dX13_keeps_92 : decode cX13_keeps 92 = .ok (.iadd, 1) := by decide +kernel
theorem dX13_keeps_93 : decode cX13_keeps 93 = .ok (.putfield 419, 3) := by decide +kernel
theorem dX13_keeps_96 : decode cX13_keeps 96 = .ok (.return_, 1) := by decide +kernel
theorem dX13_known_0 : decode cX13_known 0 = .ok (.aload_n 0, 1) := by decide +kernel
theorem dX13_known_1 : decode cX13_known 1 = .ok (.invokevirtual 193, 3) := by decide +kernel
theorem dX13_known_4 : decode cX13_known 4 = .ok (.ifCond .ne 8, 3) := by decide +kernel
theorem dX13_known_7 : decode cX13_known 7 = .ok (.aload_n 0, 1) := by decide +kernel
theorem dX13_known_8 : decode cX13_known 8 = .ok (.iconst 1, 1) := by decide +kernel
theorem dX13_known_9 : decode cX13_known 9 = .ok (.invokevirtual 137, 3) := by decide +kernel
theorem dX13_known_12 : decode cX13_known 12 = .ok (.aload_n 0, 1) := by decide +kernel
theorem dX13_known_13 : decode cX13_known 13 = .ok (.getfield 156, 3) := by decide +kernel
theorem dX13_known_16 : decode cX13_known 16 = .ok (.aload_n 0, 1) := by decide +kernel
theorem dX13_known_17 : decode cX13_known 17 = .ok (.getfield 110, 3) := by decide +kernel
theorem dX13_known_20 : decode cX13_known 20 = .ok (.invokevirtual 197, 3) := by decide +kernel
theorem dX13_known_23 : decode cX13_known 23 = .ok (.istore_n 2, 1) := by decide +kernel
theorem dX13_known_24 : decode cX13_known 24 = .ok (.iload_n 2, 1) := by decide +kernel
theorem dX13_known_25 : decode cX13_known 25 = .ok (.iconst (-1), 1) := by decide +kernel
theorem dX13_known_26 : decode cX13_known 26 = .ok (.if_icmp .eq 16, 3) := by decide +kernel
theorem dX13_known_29 : decode cX13_known 29 = .ok (.aload_n 0, 1) := by decide +kernel
theorem dX13_known_30 : decode cX13_known 30 = .ok (.getfield 156, 3) := by decide +kernel
theorem dX13_known_33 : decode cX13_known 33 = .ok (.getfield 208, 3) := by decide +kernel
theorem dX13_known_36 : decode cX13_known 36 = .ok (.iload_n 2, 1) := by decide +kernel
theorem dX13_known_37 : decode cX13_known 37 = .ok (.iaload, 1) := by decide +kernel
theorem dX13_known_38 : decode cX13_known 38 = .ok (.iload_n 1, 1) := by decide +kernel
theorem dX13_known_39 : decode cX13_known 39 = .ok (.if_icmp .eq 8, 3) := by decide +kernel
theorem dX13_known_42 : decode cX13_known 42 = .ok (.aload_n 0, 1) := by decide +kernel
theorem dX13_known_43 : decode cX13_known 43 = .ok (.iconst 2, 1) := by decide +kernel
theorem dX13_known_44 : decode cX13_known 44 = .ok (.invokevirtual 137, 3) := by decide +kernel
theorem dX13_known_47 : decode cX13_known 47 = .ok (.aload_n 0, 1) := by decide +kernel
theorem dX13_known_48 : decode cX13_known 48 = .ok (.getfield 91, 3) := by decide +kernel
theorem dX13_known_51 : decode cX13_known 51 = .ok (.iconst 5, 1) := by decide +kernel
theorem dX13_known_52 : decode cX13_known 52 = .ok (.if_icmp .ne 7, 3) := by decide +kernel
theorem dX13_known_55 : decode cX13_known 55 = .ok (.iconst 0, 1) := by decide +kernel
theorem dX13_known_56 : decode cX13_known 56 = .ok (.goto 12, 3) := by decide +kernel
theorem dX13_known_59 : decode cX13_known 59 = .ok (.aload_n 0, 1) := by decide +kernel
theorem dX13_known_60 : decode cX13_known 60 = .ok (.getfield 156, 3) := by decide +kernel
theorem dX13_known_63 : decode cX13_known 63 = .ok (.getfield 211, 3) := by decide +kernel
theorem dX13_known_66 : decode cX13_known 66 = .ok (.iload_n 2, 1) := by decide +kernel
theorem dX13_known_67 : decode cX13_known 67 = .ok (.iaload, 1) := by decide +kernel
theorem dX13_known_68 : decode cX13_known 68 = .ok (.ireturn, 1) := by decide +kernel
theorem dX13_knownCell_0 : decode cX13_knownCell 0 = .ok (.aload_n 0, 1) := by decide +kernel
theorem dX13_knownCell_1 : decode cX13_knownCell 1 = .ok (.iconst 0, 1) := by decide +kernel
theorem dX13_knownCell_2 : decode cX13_knownCell 2 = .ok (.aload_n 0, 1) := by decide +kernel
theorem dX13_knownCell_3 : decode cX13_knownCell 3 = .ok (.getfield 156, 3) := by decide +kernel
theorem dX13_knownCell_6 : decode cX13_knownCell 6 = .ok (.getfield 160, 3) := by decide +kernel
theorem dX13_knownCell_9 : decode cX13_knownCell 9 = .ok (.iconst 1, 1) := by decide +kernel
theorem dX13_knownCell_10 : decode cX13_knownCell 10 = .ok (.isub, 1) := by decide +kernel
theorem dX13_knownCell_11 : decode cX13_knownCell 11 = .ok (.invokevirtual 153, 3) := by decide +kernel
theorem dX13_knownCell_14 : decode cX13_knownCell 14 = .ok (.istore_n 1, 1) := by decide +kernel
theorem dX13_knownCell_15 : decode cX13_knownCell 15 = .ok (.aload_n 0, 1) := by decide +kernel
theorem dX13_knownCell_16 : decode cX13_knownCell 16 = .ok (.bipush 44, 2) := by decide +kernel
theorem dX13_knownCell_18 : decode cX13_knownCell 18 = .ok (.invokevirtual 165, 3) := by decide +kernel
theorem dX13_knownCell_21 : decode cX13_knownCell 21 = .ok (.aload_n 0, 1) := by decide +kernel
theorem dX13_knownCell_22 : decode cX13_knownCell 22 = .ok (.getfield 156, 3) := by decide +kernel
theorem dX13_knownCell_25 : decode cX13_knownCell 25 = .ok (.getfield 160, 3) := by decide +kernel
theorem dX13_knownCell_28 : decode cX13_knownCell 28 = .ok (.aload_n 0, 1) := by decide +kernel
theorem dX13_knownCell_29 : decode cX13_knownCell 29 = .ok (.iconst 0, 1) := by decide +kernel
theorem dX13_knownCell_30 : decode cX13_knownCell 30 = .ok (.aload_n 0, 1) := by decide +kernel
theorem dX13_knownCell_31 : decode cX13_knownCell 31 = .ok (.getfield 156, 3) := by decide +kernel
theorem dX13_knownCell_34 : decode cX13_knownCell 34 = .ok (.getfield 168, 3) := by decide +kernel
theorem dX13_knownCell_37 : decode cX13_knownCell 37 = .ok (.iconst 1, 1) := by decide +kernel
theorem dX13_knownCell_38 : decode cX13_knownCell 38 = .ok (.isub, 1) := by decide +kernel
theorem dX13_knownCell_39 : decode cX13_knownCell 39 = .ok (.invokevirtual 145, 3) := by decide +kernel
theorem dX13_knownCell_42 : decode cX13_knownCell 42 = .ok (.imul, 1) := by decide +kernel
theorem dX13_knownCell_43 : decode cX13_knownCell 43 = .ok (.iload_n 1, 1) := by decide +kernel
theorem dX13_knownCell_44 : decode cX13_knownCell 44 = .ok (.iadd, 1) := by decide +kernel
theorem dX13_knownCell_45 : decode cX13_knownCell 45 = .ok (.ireturn, 1) := by decide +kernel
theorem dX13_latest_0 : decode cX13_latest 0 = .ok (.aload_n 0, 1) := by decide +kernel
theorem dX13_latest_1 : decode cX13_latest 1 = .ok (.iconst 0, 1) := by decide +kernel
theorem dX13_latest_2 : decode cX13_latest 2 = .ok (.putfield 63, 3) := by decide +kernel
theorem dX13_latest_5 : decode cX13_latest 5 = .ok (.aload_n 0, 1) := by decide +kernel
theorem dX13_latest_6 : decode cX13_latest 6 = .ok (.iload_n 1, 1) := by decide +kernel
theorem dX13_latest_7 : decode cX13_latest 7 = .ok (.invokevirtual 613, 3) := by decide +kernel
theorem dX13_latest_10 : decode cX13_latest 10 = .ok (.ifCond .ne 9, 3) := by decide +kernel
theorem dX13_latest_13 : decode cX13_latest 13 = .ok (.aload_n 0, 1) := by decide +kernel
theorem dX13_latest_14 : decode cX13_latest 14 = .ok (.iconst 1, 1) := by decide +kernel
theorem dX13_latest_15 : decode cX13_latest 15 = .ok (.invokevirtual 69, 3) := by decide +kernel
theorem dX13_latest_18 : decode cX13_latest 18 = .ok (.ireturn, 1) := by decide +kernel
theorem dX13_latest_19 : decode cX13_latest 19 = .ok (.aload_n 0, 1) := by decide +kernel
theorem dX13_latest_20 : decode cX13_latest 20 = .ok (.iconst (-1), 1) := by decide +kernel
theorem dX13_latest_21 : decode cX13_latest 21 = .ok (.invokevirtual 610, 3) := by decide +kernel
theorem dX13_latest_24 : decode cX13_latest 24 = .ok (.aload_n 0, 1) := by decide +kernel
theorem dX13_latest_25 : decode cX13_latest 25 = .ok (.aload_n 0, 1) := by decide +kernel
theorem dX13_latest_26 : decode cX13_latest 26 = .ok (.getfield 48, 3) := by decide +kernel
theorem dX13_latest_29 : decode cX13_latest 29 = .ok (.iload_n 1, 1) := by decide +kernel
theorem dX13_latest_30 : decode cX13_latest 30 = .ok (.iaload, 1) := by decide +kernel
theorem dX13_latest_31 : decode cX13_latest 31 = .ok (.invokevirtual 73, 3) := by decide +kernel
theorem dX13_latest_34 : decode cX13_latest 34 = .ok (.ireturn, 1) := by decide +kernel
theorem dX13_least_0 : decode cX13_least 0 = .ok (.iload_n 0, 1) := by decide +kernel
theorem dX13_least_1 : decode cX13_least 1 = .ok (.iload_n 1, 1) := by decide +kernel
theorem dX13_least_2 : decode cX13_least 2 = .ok (.if_icmp .ge 7, 3) := by decide +kernel
theorem dX13_least_5 : decode cX13_least 5 = .ok (.iload_n 0, 1) := by decide +kernel
theorem dX13_least_6 : decode cX13_least 6 = .ok (.goto 4, 3) := by decide +kernel
theorem dX13_least_9 : decode cX13_least 9 = .ok (.iload_n 1, 1) := by decide +kernel
theorem dX13_least_10 : decode cX13_least 10 = .ok (.ireturn, 1) := by decide +kernel
theorem dX13_led_0 : decode cX13_led 0 = .ok (.aload_n 0, 1) := by decide +kernel
theorem dX13_led_1 : decode cX13_led 1 = .ok (.iconst 0, 1) := by decide +kernel
theorem dX13_led_2 : decode cX13_led 2 = .ok (.putfield 63, 3) := by decide +kernel
theorem dX13_led_5 : decode cX13_led 5 = .ok (.iconst 0, 1) := by decide +kernel
theorem dX13_led_6 : decode cX13_led 6 = .ok (.istore_n 2, 1) := by decide +kernel
theorem dX13_led_7 : decode cX13_led 7 = .ok (.iconst 0, 1) := by decide +kernel
theorem dX13_led_8 : decode cX13_led 8 = .ok (.istore_n 3, 1) := by decide +kernel
theorem dX13_led_9 : decode cX13_led 9 = .ok (.aload_n 0, 1) := by decide +kernel
theorem dX13_led_10 : decode cX13_led 10 = .ok (.getfield 417, 3) := by decide +kernel
theorem dX13_led_13 : decode cX13_led 13 = .ok (.ifnull 45, 3) := by decide +kernel
theorem dX13_led_16 : decode cX13_led 16 = .ok (.iload_n 3, 1) := by decide +kernel
theorem dX13_led_17 : decode cX13_led 17 = .ok (.aload_n 0, 1) := by decide +kernel
theorem dX13_led_18 : decode cX13_led 18 = .ok (.getfield 417, 3) := by decide +kernel
theorem dX13_led_21 : decode cX13_led 21 = .ok (.getfield 229, 3) := by decide +kernel
theorem dX13_led_24 : decode cX13_led 24 = .ok (.if_icmp .ge 34, 3) := by decide +kernel
theorem dX13_led_27 : decode cX13_led 27 = .ok (.aload_n 0, 1) := by decide +kernel
theorem dX13_led_28 : decode cX13_led 28 = .ok (.aload_n 0, 1) := by decide +kernel
theorem dX13_led_29 : decode cX13_led 29 = .ok (.getfield 17, 3) := by decide +kernel
theorem dX13_led_32 : decode cX13_led 32 = .ok (.iload_n 3, 1) := by decide +kernel
theorem dX13_led_33 : decode cX13_led 33 = .ok (.invokevirtual 534, 3) := by decide +kernel
theorem dX13_led_36 : decode cX13_led 36 = .ok (.ifCond .ne 6, 3) := by decide +kernel
theorem dX13_led_39 : decode cX13_led 39 = .ok (.goto 13, 3) := by decide +kernel
theorem dX13_led_42 : decode cX13_led 42 = .ok (.iload_n 2, 1) := by decide +kernel
theorem dX13_led_43 : decode cX13_led 43 = .ok (.iload_n 1, 1) := by decide +kernel
theorem dX13_led_44 : decode cX13_led 44 = .ok (.if_icmp .ne 5, 3) := by decide +kernel
theorem dX13_led_47 : decode cX13_led 47 = .ok (.iload_n 3, 1) := by decide +kernel
theorem dX13_led_48 : decode cX13_led 48 = .ok (.ireturn, 1) := by decide +kernel
theorem dX13_led_49 : decode cX13_led 49 = .ok (.iinc 2 1, 3) := by decide +kernel
theorem dX13_led_52 : decode cX13_led 52 = .ok (.iinc 3 1, 3) := by decide +kernel
theorem dX13_led_55 : decode cX13_led 55 = .ok (.goto (-46), 3) := by decide +kernel
theorem dX13_led_58 : decode cX13_led 58 = .ok (.aload_n 0, 1) := by decide +kernel
theorem dX13_led_59 : decode cX13_led 59 = .ok (.iconst 1, 1) := by decide +kernel
theorem dX13_led_60 : decode cX13_led 60 = .ok (.putfield 63, 3) := by decide +kernel
theorem dX13_led_63 : decode cX13_led 63 = .ok (.iconst 0, 1) := by decide +kernel
theorem dX13_led_64 : decode cX13_led 64 = .ok (.ireturn, 1) := by decide +kernel
theorem dX13_light_0 : decode cX13_light 0 = .ok (.aload_n 0, 1) := by decide +kernel
theorem dX13_light_1 : decode cX13_light 1 = .ok (.iconst 0, 1) := by decide +kernel
theorem dX13_light_2 : decode cX13_light 2 = .ok (.putfield 63, 3) := by decide +kernel
theorem dX13_light_5 : decode cX13_light 5 = .ok (.aload_n 0, 1) := by decide +kernel
theorem dX13_light_6 : decode cX13_light 6 = .ok (.iload_n 1, 1) := by decide +kernel
theorem dX13_light_7 : decode cX13_light 7 = .ok (.iload_n 2, 1) := by decide +kernel
theorem dX13_light_8 : decode cX13_light 8 = .ok (.invokevirtual 540, 3) := by decide +kernel
theorem dX13_light_11 : decode cX13_light 11 = .ok (.ifCond .ne 9, 3) := by decide +kernel
theorem dX13_light_14 : decode cX13_light 14 = .ok (.aload_n 0, 1) := by decide +kernel
theorem dX13_light_15 : decode cX13_light 15 = .ok (.iconst 1, 1) := by decide +kernel
theorem dX13_light_16 : decode cX13_light 16 = .ok (.invokevirtual 69, 3) := by decide +kernel
theorem dX13_light_19 : decode cX13_light 19 = .ok (.ireturn, 1) := by decide +kernel
theorem dX13_light_20 : decode cX13_light 20 = .ok (.bipush 9, 2) := by decide +kernel
theorem dX13_light_22 : decode cX13_light 22 = .ok (.iconst 3, 1) := by decide +kernel
theorem dX13_light_23 : decode cX13_light 23 = .ok (.aload_n 0, 1) := by decide +kernel
theorem dX13_light_24 : decode cX13_light 24 = .ok (.getfield 17, 3) := by decide +kernel
theorem dX13_light_27 : decode cX13_light 27 = .ok (.iconst 0, 1) := by decide +kernel
theorem dX13_light_28 : decode cX13_light 28 = .ok (.iload_n 1, 1) := by decide +kernel
theorem dX13_light_29 : decode cX13_light 29 = .ok (.iadd, 1) := by decide +kernel
theorem dX13_light_30 : decode cX13_light 30 = .ok (.iaload, 1) := by decide +kernel
theorem dX13_light_31 : decode cX13_light 31 = .ok (.iload_n 2, 1) := by decide +kernel
theorem dX13_light_32 : decode cX13_light 32 = .ok (.isub, 1) := by decide +kernel
theorem dX13_light_33 : decode cX13_light 33 = .ok (.imul, 1) := by decide +kernel
theorem dX13_light_34 : decode cX13_light 34 = .ok (.isub, 1) := by decide +kernel
theorem dX13_light_35 : decode cX13_light 35 = .ok (.istore_n 3, 1) := by decide +kernel
theorem dX13_light_36 : decode cX13_light 36 = .ok (.aload_n 0, 1) := by decide +kernel
theorem dX13_light_37 : decode cX13_light 37 = .ok (.iload_n 3, 1) := by decide +kernel
theorem dX13_light_38 : decode cX13_light 38 = .ok (.ifCond .le 7, 3) := by decide +kernel
theorem dX13_light_41 : decode cX13_light 41 = .ok (.iload_n 3, 1) := by decide +kernel
theorem dX13_light_42 : decode cX13_light 42 = .ok (.goto 4, 3) := by decide +kernel
theorem dX13_light_45 : decode cX13_light 45 = .ok (.iconst 0, 1) := by decide +kernel
theorem dX13_light_46 : decode cX13_light 46 = .ok (.invokevirtual 73, 3) := by decide +kernel
theorem dX13_light_49 : decode cX13_light 49 = .ok (.ireturn, 1) := by decide +kernel
theorem dX13_lock_0 : decode cX13_lock 0 = .ok (.aload_n 0, 1) := by decide +kernel
theorem dX13_lock_1 : decode cX13_lock 1 = .ok (.iconst 0, 1) := by decide +kernel
theorem dX13_lock_2 : decode cX13_lock 2 = .ok (.putfield 63, 3) := by decide +kernel
theorem dX13_lock_5 : decode cX13_lock 5 = .ok (.aload_n 0, 1) := by decide +kernel
theorem dX13_lock_6 : decode cX13_lock 6 = .ok (.iload_n 1, 1) := by decide +kernel
theorem dX13_lock_7 : decode cX13_lock 7 = .ok (.iload_n 2, 1) := by decide +kernel
theorem dX13_lock_8 : decode cX13_lock 8 = .ok (.invokevirtual 537, 3) := by decide +kernel
theorem dX13_lock_11 : decode cX13_lock 11 = .ok (.ifCond .ne 9, 3) := by decide +kernel
theorem dX13_lock_14 : decode cX13_lock 14 = .ok (.aload_n 0, 1) := by decide +kernel
theorem dX13_lock_15 : decode cX13_lock 15 = .ok (.iconst 1, 1) := by decide +kernel
theorem dX13_lock_16 : decode cX13_lock 16 = .ok (.invokevirtual 619, 3) := by decide +kernel
theorem dX13_lock_19 : decode cX13_lock 19 = .ok (.ireturn, 1) := by decide +kernel
theorem dX13_lock_20 : decode cX13_lock 20 = .ok (.iload_n 3, 1) := by decide +kernel
theorem dX13_lock_21 : decode cX13_lock 21 = .ok (.iconst 0, 1) := by decide +kernel
theorem dX13_lock_22 : decode cX13_lock 22 = .ok (.bipush 99, 2) := by decide +kernel
theorem dX13_lock_24 : decode cX13_lock 24 = .ok (.invokestatic 141, 3) := by decide +kernel
theorem dX13_lock_27 : decode cX13_lock 27 = .ok (.ifCond .ne 9, 3) := by decide +kernel
theorem dX13_lock_30 : decode cX13_lock 30 = .ok (.aload_n 0, 1) := by decide +kernel
theorem dX13_lock_31 : decode cX13_lock 31 = .ok (.iconst 2, 1) := by decide +kernel
theorem dX13_lock_32 : decode cX13_lock 32 = .ok (.invokevirtual 619, 3) := by decide +kernel
theorem dX13_lock_35 : decode cX13_lock 35 = .ok (.ireturn, 1) := by decide +kernel
theorem dX13_lock_36 : decode cX13_lock 36 = .ok (.aload_n 0, 1) := by decide +kernel
theorem dX13_lock_37 : decode cX13_lock 37 = .ok (.getfield 17, 3) := by decide +kernel
theorem dX13_lock_40 : decode cX13_lock 40 = .ok (.iload_n 1, 1) := by decide +kernel
theorem dX13_lock_41 : decode cX13_lock 41 = .ok (.iload_n 2, 1) := by decide +kernel
theorem dX13_lock_42 : decode cX13_lock 42 = .ok (.iconst 3, 1) := by decide +kernel
theorem dX13_lock_43 : decode cX13_lock 43 = .ok (.invokestatic 425, 3) := by decide +kernel
theorem dX13_lock_46 : decode cX13_lock 46 = .ok (.iaload, 1) := by decide +kernel
theorem dX13_lock_47 : decode cX13_lock 47 = .ok (.iload_n 3, 1) := by decide +kernel
theorem dX13_lock_48 : decode cX13_lock 48 = .ok (.if_icmp .ne 9, 3) := by decide +kernel
theorem dX13_lock_51 : decode cX13_lock 51 = .ok (.aload_n 0, 1) := by decide +kernel
theorem dX13_lock_52 : decode cX13_lock 52 = .ok (.iconst 5, 1) := by decide +kernel
theorem dX13_lock_53 : decode cX13_lock 53 = .ok (.invokevirtual 619, 3) := by decide +kernel
theorem dX13_lock_56 : decode cX13_lock 56 = .ok (.ireturn, 1) := by decide +kernel
theorem dX13_lock_57 : decode cX13_lock 57 = .ok (.aload_n 0, 1) := by decide +kernel
theorem dX13_lock_58 : decode cX13_lock 58 = .ok (.invokevirtual 616, 3) := by decide +kernel
theorem dX13_lock_61 : decode cX13_lock 61 = .ok (.aload_n 0, 1) := by decide +kernel
theorem dX13_lock_62 : decode cX13_lock 62 = .ok (.getfield 17, 3) := by decide +kernel
theorem dX13_lock_65 : decode cX13_lock 65 = .ok (.iload_n 1, 1) := by decide +kernel
theorem dX13_lock_66 : decode cX13_lock 66 = .ok (.iload_n 2, 1) := by decide +kernel
theorem dX13_lock_67 : decode cX13_lock 67 = .ok (.iconst 3, 1) := by decide +kernel
theorem dX13_lock_68 : decode cX13_lock 68 = .ok (.invokestatic 425, 3) := by decide +kernel
theorem dX13_lock_71 : decode cX13_lock 71 = .ok (.iload_n 3, 1) := by decide +kernel
theorem dX13_lock_72 : decode cX13_lock 72 = .ok (.iastore, 1) := by decide +kernel
theorem dX13_lock_73 : decode cX13_lock 73 = .ok (.aload_n 0, 1) := by decide +kernel
theorem dX13_lock_74 : decode cX13_lock 74 = .ok (.invokevirtual 622, 3) := by decide +kernel
theorem dX13_lock_77 : decode cX13_lock 77 = .ok (.ireturn, 1) := by decide +kernel
theorem dX13_mark_0 : decode cX13_mark 0 = .ok (.aload_n 0, 1) := by decide +kernel
theorem dX13_mark_1 : decode cX13_mark 1 = .ok (.iconst 0, 1) := by decide +kernel
theorem dX13_mark_2 : decode cX13_mark 2 = .ok (.putfield 63, 3) := by decide +kernel
theorem dX13_mark_5 : decode cX13_mark 5 = .ok (.aload_n 0, 1) := by decide +kernel
theorem dX13_mark_6 : decode cX13_mark 6 = .ok (.getfield 417, 3) := by decide +kernel
theorem dX13_mark_9 : decode cX13_mark 9 = .ok (.ifnonnull 9, 3) := by decide +kernel
theorem dX13_mark_12 : decode cX13_mark 12 = .ok (.aload_n 0, 1) := by decide +kernel
theorem dX13_mark_13 : decode cX13_mark 13 = .ok (.iconst 1, 1) := by decide +kernel
theorem dX13_mark_14 : decode cX13_mark 14 = .ok (.invokevirtual 69, 3) := by decide +kernel
theorem dX13_mark_17 : decode cX13_mark 17 = .ok (.ireturn, 1) := by decide +kernel
theorem dX13_mark_18 : decode cX13_mark 18 = .ok (.aload_n 0, 1) := by decide +kernel
theorem dX13_mark_19 : decode cX13_mark 19 = .ok (.getfield 422, 3) := by decide +kernel
theorem dX13_mark_22 : decode cX13_mark 22 = .ok (.iconst 3, 1) := by decide +kernel
theorem dX13_mark_23 : decode cX13_mark 23 = .ok (.if_icmp .ne 9, 3) := by decide +kernel
theorem dX13_mark_26 : decode cX13_mark 26 = .ok (.aload_n 0, 1) := by decide +kernel
theorem dX13_mark_27 : decode cX13_mark 27 = .ok (.iconst 3, 1) := by decide +kernel
theorem dX13_mark_28 : decode cX13_mark 28 = .ok (.invokevirtual 69, 3) := by decide +kernel
theorem dX13_mark_31 : decode cX13_mark 31 = .ok (.ireturn, 1) := by decide +kernel
theorem dX13_mark_32 : decode cX13_mark 32 = .ok (.iconst 0, 1) := by decide +kernel
theorem dX13_mark_33 : decode cX13_mark 33 = .ok (.istore_n 1, 1) := by decide +kernel
theorem dX13_mark_34 : decode cX13_mark 34 = .ok (.iload_n 1, 1) := by decide +kernel
theorem dX13_mark_35 : decode cX13_mark 35 = .ok (.sipush 212, 3) := by decide +kernel
theorem dX13_mark_38 : decode cX13_mark 38 = .ok (.if_icmp .ge 30, 3) := by decide +kernel
theorem dX13_mark_41 : decode cX13_mark 41 = .ok (.aload_n 0, 1) := by decide +kernel
theorem dX13_mark_42 : decode cX13_mark 42 = .ok (.getfield 27, 3) := by decide +kernel
theorem dX13_mark_45 : decode cX13_mark 45 = .ok (.sipush 212, 3) := by decide +kernel
theorem dX13_mark_48 : decode cX13_mark 48 = .ok (.aload_n 0, 1) := by decide +kernel
theorem dX13_mark_49 : decode cX13_mark 49 = .ok (.getfield 422, 3) := by decide +kernel
theorem dX13_mark_52 : decode cX13_mark 52 = .ok (.imul, 1) := by decide +kernel
theorem dX13_mark_53 : decode cX13_mark 53 = .ok (.iload_n 1, 1) := by decide +kernel
theorem dX13_mark_54 : decode cX13_mark 54 = .ok (.iadd, 1) := by decide +kernel
theorem dX13_mark_55 : decode cX13_mark 55 = .ok (.aload_n 0, 1) := by decide +kernel
theorem dX13_mark_56 : decode cX13_mark 56 = .ok (.getfield 17, 3) := by decide +kernel
theorem dX13_mark_59 : decode cX13_mark 59 = .ok (.iload_n 1, 1) := by decide +kernel
theorem dX13_mark_60 : decode cX13_mark 60 = .ok (.iaload, 1) := by decide +kernel
theorem dX13_mark_61 : decode cX13_mark 61 = .ok (.iastore, 1) := by decide +kernel
theorem dX13_mark_62 : decode cX13_mark 62 = .ok (.iinc 1 1, 3) := by decide +kernel
theorem dX13_mark_65 : decode cX13_mark 65 = .ok (.goto (-31), 3) := by decide +kernel
theorem dX13_mark_68 : decode cX13_mark 68 = .ok (.aload_n 0, 1) := by decide +kernel
theorem dX13_mark_69 : decode cX13_mark 69 = .ok (.dup, 1) := by decide +kernel
theorem dX13_mark_70 : decode cX13_mark 70 = .ok (.getfield 422, 3) := by decide +kernel
theorem dX13_mark_73 : decode cX13_mark 73 = .ok (.iconst 1, 1) := by decide +kernel
theorem dX13_mark_74 : decode cX13_mark 74 = .ok (.iadd, 1) := by decide +kernel
theorem dX13_mark_75 : decode cX13_mark 75 = .ok (.putfield 422, 3) := by decide +kernel
theorem dX13_mark_78 : decode cX13_mark 78 = .ok (.aload_n 0, 1) := by decide +kernel
theorem dX13_mark_79 : decode cX13_mark 79 = .ok (.aload_n 0, 1) := by decide +kernel
theorem dX13_mark_80 : decode cX13_mark 80 = .ok (.getfield 422, 3) := by decide +kernel
theorem dX13_mark_83 : decode cX13_mark 83 = .ok (.iconst 1, 1) := by decide +kernel
theorem dX13_mark_84 : decode cX13_mark 84 = .ok (.isub, 1) := by decide +kernel
theorem dX13_mark_85 : decode cX13_mark 85 = .ok (.invokevirtual 73, 3) := by decide +kernel
theorem dX13_mark_88 : decode cX13_mark 88 = .ok (.ireturn, 1) := by decide +kernel
theorem dX13_meet_0 : decode cX13_meet 0 = .ok (.aload_n 0, 1) := by decide +kernel
theorem dX13_meet_1 : decode cX13_meet 1 = .ok (.iconst 0, 1) := by decide +kernel
theorem dX13_meet_2 : decode cX13_meet 2 = .ok (.putfield 63, 3) := by decide +kernel
theorem dX13_meet_5 : decode cX13_meet 5 = .ok (.aload_n 0, 1) := by decide +kernel
theorem dX13_meet_6 : decode cX13_meet 6 = .ok (.aload_n 0, 1) := by decide +kernel
theorem dX13_meet_7 : decode cX13_meet 7 = .ok (.iload_n 1, 1) := by decide +kernel
theorem dX13_meet_8 : decode cX13_meet 8 = .ok (.invokevirtual 518, 3) := by decide +kernel
theorem dX13_meet_11 : decode cX13_meet 11 = .ok (.ifCond .eq 20, 3) := by decide +kernel
theorem dX13_meet_14 : decode cX13_meet 14 = .ok (.aload_n 0, 1) := by decide +kernel
theorem dX13_meet_15 : decode cX13_meet 15 = .ok (.iload_n 2, 1) := by decide +kernel
theorem dX13_meet_16 : decode cX13_meet 16 = .ok (.invokevirtual 518, 3) := by decide +kernel
theorem dX13_meet_19 : decode cX13_meet 19 = .ok (.ifCond .eq 12, 3) := by decide +kernel
theorem dX13_meet_22 : decode cX13_meet 22 = .ok (.iload_n 1, 1) := by decide +kernel
theorem dX13_meet_23 : decode cX13_meet 23 = .ok (.iload_n 2, 1) := by decide +kernel
theorem dX13_meet_24 : decode cX13_meet 24 = .ok (.if_icmp .eq 7, 3) := by decide +kernel
theorem dX13_meet_27 : decode cX13_meet 27 = .ok (.iconst 1, 1) := by decide +kernel
theorem dX13_meet_28 : decode cX13_meet 28 = .ok (.goto 4, 3) := by decide +kernel
theorem dX13_meet_31 : decode cX13_meet 31 = .ok (.iconst 0, 1) := by decide +kernel
theorem dX13_meet_32 : decode cX13_meet 32 = .ok (.iload_n 3, 1) := by decide +kernel
theorem dX13_meet_33 : decode cX13_meet 33 = .ok (.bipush 60, 2) := by decide +kernel
theorem dX13_meet_35 : decode cX13_meet 35 = .ok (.invokevirtual 565, 3) := by decide +kernel
theorem dX13_meet_38 : decode cX13_meet 38 = .ok (.istore 4, 2) := by decide +kernel
theorem dX13_meet_40 : decode cX13_meet 40 = .ok (.iload 4, 2) := by decide +kernel
theorem dX13_meet_42 : decode cX13_meet 42 = .ok (.ifCond .le 10, 3) := by decide +kernel
theorem dX13_meet_45 : decode cX13_meet 45 = .ok (.aload_n 0, 1) := by decide +kernel
theorem dX13_meet_46 : decode cX13_meet 46 = .ok (.iload 4, 2) := by decide +kernel
theorem dX13_meet_48 : decode cX13_meet 48 = .ok (.invokevirtual 69, 3) := by decide +kernel
theorem dX13_meet_51 : decode cX13_meet 51 = .ok (.ireturn, 1) := by decide +kernel
theorem dX13_meet_52 : decode cX13_meet 52 = .ok (.aload_n 0, 1) := by decide +kernel
theorem dX13_meet_53 : decode cX13_meet 53 = .ok (.iconst 0, 1) := by decide +kernel
theorem dX13_meet_54 : decode cX13_meet 54 = .ok (.invokevirtual 569, 3) := by decide +kernel
theorem dX13_meet_57 : decode cX13_meet 57 = .ok (.iconst 0, 1) := by decide +kernel
theorem dX13_meet_58 : decode cX13_meet 58 = .ok (.istore 5, 2) := by decide +kernel
theorem dX13_meet_60 : decode cX13_meet 60 = .ok (.iload 5, 2) := by decide +kernel
theorem dX13_meet_62 : decode cX13_meet 62 = .ok (.iload_n 3, 1) := by decide +kernel
theorem dX13_meet_63 : decode cX13_meet 63 = .ok (.if_icmp .gt 37, 3) := by decide +kernel
theorem dX13_meet_66 : decode cX13_meet 66 = .ok (.aload_n 0, 1) := by decide +kernel
theorem dX13_meet_67 : decode cX13_meet 67 = .ok (.aload_n 0, 1) := by decide +kernel
theorem dX13_meet_68 : decode cX13_meet 68 = .ok (.getfield 21, 3) := by decide +kernel
theorem dX13_meet_71 : decode cX13_meet 71 = .ok (.iload_n 1, 1) := by decide +kernel
theorem dX13_meet_72 : decode cX13_meet 72 = .ok (.iload_n 2, 1) := by decide +kernel
theorem dX13_meet_73 : decode cX13_meet 73 = .ok (.invokevirtual 575, 3) := by decide +kernel
theorem dX13_meet_76 : decode cX13_meet 76 = .ok (.ifCond .eq 10, 3) := by decide +kernel
theorem dX13_meet_79 : decode cX13_meet 79 = .ok (.aload_n 0, 1) := by decide +kernel
theorem dX13_meet_80 : decode cX13_meet 80 = .ok (.iload 5, 2) := by decide +kernel
theorem dX13_meet_82 : decode cX13_meet 82 = .ok (.invokevirtual 73, 3) := by decide +kernel
theorem dX13_meet_85 : decode cX13_meet 85 = .ok (.ireturn, 1) := by decide +kernel
theorem dX13_meet_86 : decode cX13_meet 86 = .ok (.aload_n 0, 1) := by decide +kernel
theorem dX13_meet_87 : decode cX13_meet 87 = .ok (.aload_n 0, 1) := by decide +kernel
theorem dX13_meet_88 : decode cX13_meet 88 = .ok (.getfield 21, 3) := by decide +kernel
theorem dX13_meet_91 : decode cX13_meet 91 = .ok (.invokevirtual 514, 3) := by decide +kernel
theorem dX13_meet_94 : decode cX13_meet 94 = .ok (.iinc 5 1, 3) := by decide +kernel
theorem dX13_meet_97 : decode cX13_meet 97 = .ok (.goto (-37), 3) := by decide +kernel
theorem dX13_meet_100 : decode cX13_meet 100 = .ok (.aload_n 0, 1) := by decide +kernel
theorem dX13_meet_101 : decode cX13_meet 101 = .ok (.bipush (-2), 2) := by decide +kernel
theorem dX13_meet_103 : decode cX13_meet 103 = .ok (.invokevirtual 73, 3) := by decide +kernel
theorem dX13_meet_106 : decode cX13_meet 106 = .ok (.ireturn, 1) := by decide +kernel
theorem dX13_move_0 : decode cX13_move 0 = .ok (.aload_n 0, 1) := by decide +kernel
theorem dX13_move_1 : decode cX13_move 1 = .ok (.iconst 0, 1) := by decide +kernel
theorem dX13_move_2 : decode cX13_move 2 = .ok (.putfield 63, 3) := by decide +kernel
theorem dX13_move_5 : decode cX13_move 5 = .ok (.aload_n 0, 1) := by decide +kernel
theorem dX13_move_6 : decode cX13_move 6 = .ok (.iload_n 1, 1) := by decide +kernel
theorem dX13_move_7 : decode cX13_move 7 = .ok (.invokevirtual 546, 3) := by decide +kernel
theorem dX13_move_10 : decode cX13_move 10 = .ok (.ifCond .eq 20, 3) := by decide +kernel
theorem dX13_move_13 : decode cX13_move 13 = .ok (.aload_n 0, 1) := by decide +kernel
theorem dX13_move_14 : decode cX13_move 14 = .ok (.aload_n 0, 1) := by decide +kernel
theorem dX13_move_15 : decode cX13_move 15 = .ok (.getfield 417, 3) := by decide +kernel
theorem dX13_move_18 : decode cX13_move 18 = .ok (.getfield 391, 3) := by decide +kernel
theorem dX13_move_21 : decode cX13_move 21 = .ok (.iload_n 1, 1) := by decide +kernel
theorem dX13_move_22 : decode cX13_move 22 = .ok (.iaload, 1) := by decide +kernel
theorem dX13_move_23 : decode cX13_move 23 = .ok (.iload_n 2, 1) := by decide +kernel
theorem dX13_move_24 : decode cX13_move 24 = .ok (.invokevirtual 540, 3) := by decide +kernel
theorem dX13_move_27 : decode cX13_move 27 = .ok (.ifCond .ne 9, 3) := by decide +kernel
theorem dX13_move_30 : decode cX13_move 30 = .ok (.aload_n 0, 1) := by decide +kernel
theorem dX13_move_31 : decode cX13_move 31 = .ok (.iconst 1, 1) := by decide +kernel
theorem dX13_move_32 : decode cX13_move 32 = .ok (.invokevirtual 619, 3) := by decide +kernel
theorem dX13_move_35 : decode cX13_move 35 = .ok (.ireturn, 1) := by decide +kernel
theorem dX13_move_36 : decode cX13_move 36 = .ok (.aload_n 0, 1) := by decide +kernel
theorem dX13_move_37 : decode cX13_move 37 = .ok (.getfield 417, 3) := by decide +kernel
theorem dX13_move_40 : decode cX13_move 40 = .ok (.getfield 391, 3) := by decide +kernel
theorem dX13_move_43 : decode cX13_move 43 = .ok (.iload_n 1, 1) := by decide +kernel
theorem dX13_move_44 : decode cX13_move 44 = .ok (.iaload, 1) := by decide +kernel
theorem dX13_move_45 : decode cX13_move 45 = .ok (.istore_n 3, 1) := by decide +kernel
theorem dX13_move_46 : decode cX13_move 46 = .ok (.aload_n 0, 1) := by decide +kernel
theorem dX13_move_47 : decode cX13_move 47 = .ok (.getfield 17, 3) := by decide +kernel
theorem dX13_move_50 : decode cX13_move 50 = .ok (.sipush 204, 3) := by decide +kernel
theorem dX13_move_53 : decode cX13_move 53 = .ok (.iload_n 1, 1) := by decide +kernel
theorem dX13_move_54 : decode cX13_move 54 = .ok (.iadd, 1) := by decide +kernel
theorem dX13_move_55 : decode cX13_move 55 = .ok (.iaload, 1) := by decide +kernel
theorem dX13_move_56 : decode cX13_move 56 = .ok (.iload_n 2, 1) := by decide +kernel
theorem dX13_move_57 : decode cX13_move 57 = .ok (.if_icmp .eq 38, 3) := by decide +kernel
theorem dX13_move_60 : decode cX13_move 60 = .ok (.iload_n 2, 1) := by decide +kernel
theorem dX13_move_61 : decode cX13_move 61 = .ok (.ifCond .le 40, 3) := by decide +kernel
theorem dX13_move_64 : decode cX13_move 64 = .ok (.aload_n 0, 1) := by decide +kernel
theorem dX13_move_65 : decode cX13_move 65 = .ok (.getfield 17, 3) := by decide +kernel
theorem dX13_move_68 : decode cX13_move 68 = .ok (.iload_n 3, 1) := by decide +kernel
theorem dX13_move_69 : decode cX13_move 69 = .ok (.iload_n 2, 1) := by decide +kernel
theorem dX13_move_70 : decode cX13_move 70 = .ok (.iconst 5, 1) := by decide +kernel
theorem dX13_move_71 : decode cX13_move 71 = .ok (.invokestatic 425, 3) := by decide +kernel
theorem dX13_move_74 : decode cX13_move 74 = .ok (.iaload, 1) := by decide +kernel
theorem dX13_move_75 : decode cX13_move 75 = .ok (.iconst 1, 1) := by decide +kernel
theorem dX13_move_76 : decode cX13_move 76 = .ok (.if_icmp .eq 19, 3) := by decide +kernel
theorem dX13_move_79 : decode cX13_move 79 = .ok (.aload_n 0, 1) := by decide +kernel
theorem dX13_move_80 : decode cX13_move 80 = .ok (.getfield 17, 3) := by decide +kernel
theorem dX13_move_83 : decode cX13_move 83 = .ok (.iload_n 3, 1) := by decide +kernel
theorem dX13_move_84 : decode cX13_move 84 = .ok (.iload_n 2, 1) := by decide +kernel
theorem dX13_move_85 : decode cX13_move 85 = .ok (.bipush 6, 2) := by decide +kernel
theorem dX13_move_87 : decode cX13_move 87 = .ok (.invokestatic 425, 3) := by decide +kernel
theorem dX13_move_90 : decode cX13_move 90 = .ok (.iaload, 1) := by decide +kernel
theorem dX13_move_91 : decode cX13_move 91 = .ok (.iconst 1, 1) := by decide +kernel
theorem dX13_move_92 : decode cX13_move 92 = .ok (.if_icmp .ne 9, 3) := by decide +kernel
theorem dX13_move_95 : decode cX13_move 95 = .ok (.aload_n 0, 1) := by decide +kernel
theorem dX13_move_96 : decode cX13_move 96 = .ok (.iconst 5, 1) := by decide +kernel
theorem dX13_move_97 : decode cX13_move 97 = .ok (.invokevirtual 619, 3) := by decide +kernel
theorem dX13_move_100 : decode cX13_move 100 = .ok (.ireturn, 1) := by decide +kernel
theorem dX13_move_101 : decode cX13_move 101 = .ok (.aload_n 0, 1) := by decide +kernel
theorem dX13_move_102 : decode cX13_move 102 = .ok (.invokevirtual 616, 3) := by decide +kernel
theorem dX13_move_105 : decode cX13_move 105 = .ok (.aload_n 0, 1) := by decide +kernel
theorem dX13_move_106 : decode cX13_move 106 = .ok (.getfield 17, 3) := by decide +kernel
theorem dX13_move_109 : decode cX13_move 109 = .ok (.sipush 204, 3) := by decide +kernel
theorem dX13_move_112 : decode cX13_move 112 = .ok (.iload_n 1, 1) := by decide +kernel
theorem dX13_move_113 : decode cX13_move 113 = .ok (.iadd, 1) := by decide +kernel
theorem dX13_move_114 : decode cX13_move 114 = .ok (.iload_n 2, 1) := by decide +kernel
theorem dX13_move_115 : decode cX13_move 115 = .ok (.iastore, 1) := by decide +kernel
theorem dX13_move_116 : decode cX13_move 116 = .ok (.aload_n 0, 1) := by decide +kernel
theorem dX13_move_117 : decode cX13_move 117 = .ok (.invokevirtual 622, 3) := by decide +kernel
theorem dX13_move_120 : decode cX13_move 120 = .ok (.ireturn, 1) := by decide +kernel
theorem dX13_names_0 : decode cX13_names 0 = .ok (.aload_n 0, 1) := by decide +kernel
theorem dX13_names_1 : decode cX13_names 1 = .ok (.getfield 156, 3) := by decide +kernel
theorem dX13_names_4 : decode cX13_names 4 = .ok (.getfield 201, 3) := by decide +kernel
theorem dX13_names_7 : decode cX13_names 7 = .ok (.aload_n 0, 1) := by decide +kernel
theorem dX13_names_8 : decode cX13_names 8 = .ok (.getfield 156, 3) := by decide +kernel
theorem dX13_names_11 : decode cX13_names 11 = .ok (.getfield 205, 3) := by decide +kernel
theorem dX13_names_14 : decode cX13_names 14 = .ok (.lload_n 1, 1) := by decide +kernel
theorem dX13_names_15 : decode cX13_names 15 = .ok (.lastore, 1) := by decide +kernel
theorem dX13_names_16 : decode cX13_names 16 = .ok (.aload_n 0, 1) := by decide +kernel
theorem dX13_names_17 : decode cX13_names 17 = .ok (.getfield 156, 3) := by decide +kernel
theorem dX13_names_20 : decode cX13_names 20 = .ok (.getfield 208, 3) := by decide +kernel
theorem dX13_names_23 : decode cX13_names 23 = .ok (.aload_n 0, 1) := by decide +kernel
theorem dX13_names_24 : decode cX13_names 24 = .ok (.getfield 156, 3) := by decide +kernel
theorem dX13_names_27 : decode cX13_names 27 = .ok (.getfield 205, 3) := by decide +kernel
theorem dX13_names_30 : decode cX13_names 30 = .ok (.iload_n 3, 1) := by decide +kernel
theorem dX13_names_31 : decode cX13_names 31 = .ok (.iastore, 1) := by decide +kernel
theorem dX13_names_32 : decode cX13_names 32 = .ok (.aload_n 0, 1) := by decide +kernel
theorem dX13_names_33 : decode cX13_names 33 = .ok (.getfield 156, 3) := by decide +kernel
theorem dX13_names_36 : decode cX13_names 36 = .ok (.getfield 211, 3) := by decide +kernel
theorem dX13_names_39 : decode cX13_names 39 = .ok (.aload_n 0, 1) := by decide +kernel
theorem dX13_names_40 : decode cX13_names 40 = .ok (.getfield 156, 3) := by decide +kernel
theorem dX13_names_43 : decode cX13_names 43 = .ok (.getfield 205, 3) := by decide +kernel
theorem dX13_names_46 : decode cX13_names 46 = .ok (.iload 4, 2) := by decide +kernel
theorem dX13_names_48 : decode cX13_names 48 = .ok (.iastore, 1) := by decide +kernel
theorem dX13_names_49 : decode cX13_names 49 = .ok (.aload_n 0, 1) := by decide +kernel
theorem dX13_names_50 : decode cX13_names 50 = .ok (.getfield 156, 3) := by decide +kernel
theorem dX13_names_53 : decode cX13_names 53 = .ok (.dup, 1) := by decide +kernel
theorem dX13_names_54 : decode cX13_names 54 = .ok (.getfield 205, 3) := by decide +kernel
theorem dX13_names_57 : decode cX13_names 57 = .ok (.iconst 1, 1) := by decide +kernel
theorem dX13_names_58 : decode cX13_names 58 = .ok (.iadd, 1) := by decide +kernel
theorem dX13_names_59 : decode cX13_names 59 = .ok (.putfield 205, 3) := by decide +kernel
theorem dX13_names_62 : decode cX13_names 62 = .ok (.return_, 1) := by decide +kernel
theorem dX13_needs_0 : decode cX13_needs 0 = .ok (.aload_n 0, 1) := by decide +kernel
theorem dX13_needs_1 : decode cX13_needs 1 = .ok (.aload_n 1, 1) := by decide +kernel
theorem dX13_needs_2 : decode cX13_needs 2 = .ok (.invokevirtual 133, 3) := by decide +kernel
theorem dX13_needs_5 : decode cX13_needs 5 = .ok (.ifCond .ne 8, 3) := by decide +kernel
theorem dX13_needs_8 : decode cX13_needs 8 = .ok (.aload_n 0, 1) := by decide +kernel
theorem dX13_needs_9 : decode cX13_needs 9 = .ok (.iconst 1, 1) := by decide +kernel
theorem dX13_needs_10 : decode cX13_needs 10 = .ok (.invokevirtual 137, 3) := by decide +kernel
theorem dX13_needs_13 : decode cX13_needs 13 = .ok (.aload_n 0, 1) := by decide +kernel
theorem dX13_needs_14 : decode cX13_needs 14 = .ok (.invokevirtual 130, 3) := by decide +kernel
theorem dX13_needs_17 : decode cX13_needs 17 = .ok (.return_, 1) := by decide +kernel
theorem dX13_needsSign_0 : decode cX13_needsSign 0 = .ok (.aload_n 0, 1) := by decide +kernel
theorem dX13_needsSign_1 : decode cX13_needsSign 1 = .ok (.getfield 91, 3) := by decide +kernel
theorem dX13_needsSign_4 : decode cX13_needsSign 4 = .ok (.iconst 4, 1) := by decide +kernel
theorem dX13_needsSign_5 : decode cX13_needsSign 5 = .ok (.if_icmp .ne 11, 3) := by decide +kernel
theorem dX13_needsSign_8 : decode cX13_needsSign 8 = .ok (.aload_n 0, 1) := by decide +kernel
theorem dX13_needsSign_9 : decode cX13_needsSign 9 = .ok (.getfield 103, 3) := by decide +kernel
theorem dX13_needsSign_12 : decode cX13_needsSign 12 = .ok (.iload_n 1, 1) := by decide +kernel
theorem dX13_needsSign_13 : decode cX13_needsSign 13 = .ok (.if_icmp .eq 8, 3) := by decide +kernel
theorem dX13_needsSign_16 : decode cX13_needsSign 16 = .ok (.aload_n 0, 1) := by decide +kernel
theorem dX13_needsSign_17 : decode cX13_needsSign 17 = .ok (.iconst 1, 1) := by decide +kernel
theorem dX13_needsSign_18 : decode cX13_needsSign 18 = .ok (.invokevirtual 137, 3) := by decide +kernel
theorem dX13_needsSign_21 : decode cX13_needsSign 21 = .ok (.aload_n 0, 1) := by decide +kernel
theorem dX13_needsSign_22 : decode cX13_needsSign 22 = .ok (.invokevirtual 130, 3) := by decide +kernel
theorem dX13_needsSign_25 : decode cX13_needsSign 25 = .ok (.return_, 1) := by decide +kernel
theorem dX13_order_0 : decode cX13_order 0 = .ok (.aload_n 0, 1) := by decide +kernel
theorem dX13_order_1 : decode cX13_order 1 = .ok (.iconst 0, 1) := by decide +kernel
theorem dX13_order_2 : decode cX13_order 2 = .ok (.putfield 63, 3) := by decide +kernel
theorem dX13_order_5 : decode cX13_order 5 = .ok (.aload_n 0, 1) := by decide +kernel
theorem dX13_order_6 : decode cX13_order 6 = .ok (.iload_n 2, 1) := by decide +kernel
theorem dX13_order_7 : decode cX13_order 7 = .ok (.invokevirtual 613, 3) := by decide +kernel
theorem dX13_order_10 : decode cX13_order 10 = .ok (.ifCond .eq 7, 3) := by decide +kernel
theorem dX13_order_13 : decode cX13_order 13 = .ok (.iload_n 1, 1) := by decide +kernel
theorem dX13_order_14 : decode cX13_order 14 = .ok (.ifCond .ge 9, 3) := by decide +kernel
theorem dX13_order_17 : decode cX13_order 17 = .ok (.aload_n 0, 1) := by decide +kernel
theorem dX13_order_18 : decode cX13_order 18 = .ok (.iconst 1, 1) := by decide +kernel
theorem dX13_order_19 : decode cX13_order 19 = .ok (.invokevirtual 69, 3) := by decide +kernel
theorem dX13_order_22 : decode cX13_order 22 = .ok (.ireturn, 1) := by decide +kernel
theorem dX13_order_23 : decode cX13_order 23 = .ok (.aload_n 0, 1) := by decide +kernel
theorem dX13_order_24 : decode cX13_order 24 = .ok (.iload_n 1, 1) := by decide +kernel
theorem dX13_order_25 : decode cX13_order 25 = .ok (.invokevirtual 610, 3) := by decide +kernel
theorem dX13_order_28 : decode cX13_order 28 = .ok (.iload_n 1, 1) := by decide +kernel
theorem dX13_order_29 : decode cX13_order 29 = .ok (.aload_n 0, 1) := by decide +kernel
theorem dX13_order_30 : decode cX13_order 30 = .ok (.getfield 604, 3) := by decide +kernel
theorem dX13_order_33 : decode cX13_order 33 = .ok (.if_icmp .ge 16, 3) := by decide +kernel
theorem dX13_order_36 : decode cX13_order 36 = .ok (.aload_n 0, 1) := by decide +kernel
theorem dX13_order_37 : decode cX13_order 37 = .ok (.aload_n 0, 1) := by decide +kernel
theorem dX13_order_38 : decode cX13_order 38 = .ok (.getfield 60, 3) := by decide +kernel
theorem dX13_order_41 : decode cX13_order 41 = .ok (.iload_n 2, 1) := by decide +kernel
theorem dX13_order_42 : decode cX13_order 42 = .ok (.iaload, 1) := by decide +kernel
theorem dX13_order_43 : decode cX13_order 43 = .ok (.invokevirtual 73, 3) := by decide +kernel
theorem dX13_order_46 : decode cX13_order 46 = .ok (.goto 8, 3) := by decide +kernel
theorem dX13_order_49 : decode cX13_order 49 = .ok (.aload_n 0, 1) := by decide +kernel
theorem dX13_order_50 : decode cX13_order 50 = .ok (.iconst 1, 1) := by decide +kernel
theorem dX13_order_51 : decode cX13_order 51 = .ok (.invokevirtual 69, 3) := by decide +kernel
theorem dX13_order_54 : decode cX13_order 54 = .ok (.ireturn, 1) := by decide +kernel
theorem dX13_orders_0 : decode cX13_orders 0 = .ok (.aload_n 0, 1) := by decide +kernel
theorem dX13_orders_1 : decode cX13_orders 1 = .ok (.iconst 0, 1) := by decide +kernel
theorem dX13_orders_2 : decode cX13_orders 2 = .ok (.putfield 63, 3) := by decide +kernel
theorem dX13_orders_5 : decode cX13_orders 5 = .ok (.aload_n 0, 1) := by decide +kernel
theorem dX13_orders_6 : decode cX13_orders 6 = .ok (.getfield 417, 3) := by decide +kernel
theorem dX13_orders_9 : decode cX13_orders 9 = .ok (.ifnonnull 9, 3) := by decide +kernel
theorem dX13_orders_12 : decode cX13_orders 12 = .ok (.aload_n 0, 1) := by decide +kernel
theorem dX13_orders_13 : decode cX13_orders 13 = .ok (.iconst 1, 1) := by decide +kernel
theorem dX13_orders_14 : decode cX13_orders 14 = .ok (.invokevirtual 69, 3) := by decide +kernel
theorem dX13_orders_17 : decode cX13_orders 17 = .ok (.ireturn, 1) := by decide +kernel
theorem dX13_orders_18 : decode cX13_orders 18 = .ok (.aload_n 0, 1) := by decide +kernel
theorem dX13_orders_19 : decode cX13_orders 19 = .ok (.iconst (-1), 1) := by decide +kernel
theorem dX13_orders_20 : decode cX13_orders 20 = .ok (.invokevirtual 610, 3) := by decide +kernel
theorem dX13_orders_23 : decode cX13_orders 23 = .ok (.aload_n 0, 1) := by decide +kernel
theorem dX13_orders_24 : decode cX13_orders 24 = .ok (.aload_n 0, 1) := by decide +kernel
theorem dX13_orders_25 : decode cX13_orders 25 = .ok (.getfield 604, 3) := by decide +kernel
theorem dX13_orders_28 : decode cX13_orders 28 = .ok (.invokevirtual 73, 3) := by decide +kernel
theorem dX13_orders_31 : decode cX13_orders 31 = .ok (.ireturn, 1) := by decide +kernel
theorem dX13_outX_0 : decode cX13_outX 0 = .ok (.iload_n 0, 1) := by decide +kernel
theorem dX13_outX_1 : decode cX13_outX 1 = .ok (.iconst 1, 1) := by decide +kernel
theorem dX13_outX_2 : decode cX13_outX 2 = .ok (.if_icmp .ne 7, 3) := by decide +kernel
theorem dX13_outX_5 : decode cX13_outX 5 = .ok (.iconst 1, 1) := by decide +kernel
theorem dX13_outX_6 : decode cX13_outX 6 = .ok (.goto 13, 3) := by decide +kernel
theorem dX13_outX_9 : decode cX13_outX 9 = .ok (.iload_n 0, 1) := by decide +kernel
theorem dX13_outX_10 : decode cX13_outX 10 = .ok (.iconst 3, 1) := by decide +kernel
theorem dX13_outX_11 : decode cX13_outX 11 = .ok (.if_icmp .ne 7, 3) := by decide +kernel
theorem dX13_outX_14 : decode cX13_outX 14 = .ok (.iconst (-1), 1) := by decide +kernel
theorem dX13_outX_15 : decode cX13_outX 15 = .ok (.goto 4, 3) := by decide +kernel
theorem dX13_outX_18 : decode cX13_outX 18 = .ok (.iconst 0, 1) := by decide +kernel
theorem dX13_outX_19 : decode cX13_outX 19 = .ok (.ireturn, 1) := by decide +kernel
theorem dX13_outY_0 : decode cX13_outY 0 = .ok (.iload_n 0, 1) := by decide +kernel
theorem dX13_outY_1 : decode cX13_outY 1 = .ok (.iconst 2, 1) := by decide +kernel
theorem dX13_outY_2 : decode cX13_outY 2 = .ok (.if_icmp .ne 7, 3) := by decide +kernel
theorem dX13_outY_5 : decode cX13_outY 5 = .ok (.iconst 1, 1) := by decide +kernel
theorem dX13_outY_6 : decode cX13_outY 6 = .ok (.goto 12, 3) := by decide +kernel
theorem dX13_outY_9 : decode cX13_outY 9 = .ok (.iload_n 0, 1) := by decide +kernel
theorem dX13_outY_10 : decode cX13_outY 10 = .ok (.ifCond .ne 7, 3) := by decide +kernel
theorem dX13_outY_13 : decode cX13_outY 13 = .ok (.iconst (-1), 1) := by decide +kernel
theorem dX13_outY_14 : decode cX13_outY 14 = .ok (.goto 4, 3) := by decide +kernel
theorem dX13_outY_17 : decode cX13_outY 17 = .ok (.iconst 0, 1) := by decide +kernel
theorem dX13_outY_18 : decode cX13_outY 18 = .ok (.ireturn, 1) := by decide +kernel
theorem dX13_owned_0 : decode cX13_owned 0 = .ok (.iconst 0, 1) := by decide +kernel
theorem dX13_owned_1 : decode cX13_owned 1 = .ok (.istore 4, 2) := by decide +kernel
theorem dX13_owned_3 : decode cX13_owned 3 = .ok (.iconst 0, 1) := by decide +kernel
theorem dX13_owned_4 : decode cX13_owned 4 = .ok (.istore 5, 2) := by decide +kernel
theorem dX13_owned_6 : decode cX13_owned 6 = .ok (.iload 5, 2) := by decide +kernel
theorem dX13_owned_8 : decode cX13_owned 8 = .ok (.aload_n 0, 1) := by decide +kernel
theorem dX13_owned_9 : decode cX13_owned 9 = .ok (.getfield 417, 3) := by decide +kernel
theorem dX13_owned_12 : decode cX13_owned 12 = .ok (.invokevirtual 524, 3) := by decide +kernel
theorem dX13_owned_15 : decode cX13_owned 15 = .ok (.if_icmp .ge 78, 3) := by decide +kernel
theorem dX13_owned_18 : decode cX13_owned 18 = .ok (.iload 4, 2) := by decide +kernel
theorem dX13_owned_20 : decode cX13_owned 20 = .ok (.aload_n 0, 1) := by decide +kernel
theorem dX13_owned_21 : decode cX13_owned 21 = .ok (.getfield 417, 3) := by decide +kernel
theorem dX13_owned_24 : decode cX13_owned 24 = .ok (.aload_n 0, 1) := by decide +kernel
theorem dX13_owned_25 : decode cX13_owned 25 = .ok (.getfield 17, 3) := by decide +kernel
theorem dX13_owned_28 : decode cX13_owned 28 = .ok (.iload 5, 2) := by decide +kernel
theorem dX13_owned_30 : decode cX13_owned 30 = .ok (.aload_n 0, 1) := by decide +kernel
theorem dX13_owned_31 : decode cX13_owned 31 = .ok (.getfield 417, 3) := by decide +kernel
theorem dX13_owned_34 : decode cX13_owned 34 = .ok (.getfield 160, 3) := by decide +kernel
theorem dX13_owned_37 : decode cX13_owned 37 = .ok (.irem, 1) := by decide +kernel
theorem dX13_owned_38 : decode cX13_owned 38 = .ok (.iload 5, 2) := by decide +kernel
theorem dX13_owned_40 : decode cX13_owned 40 = .ok (.aload_n 0, 1) := by decide +kernel
theorem dX13_owned_41 : decode cX13_owned 41 = .ok (.getfield 417, 3) := by decide +kernel
theorem dX13_owned_44 : decode cX13_owned 44 = .ok (.getfield 160, 3) := by decide +kernel
theorem dX13_owned_47 : decode cX13_owned 47 = .ok (.idiv, 1) := by decide +kernel
theorem dX13_owned_48 : decode cX13_owned 48 = .ok (.invokestatic 348, 3) := by decide +kernel
theorem dX13_owned_51 : decode cX13_owned 51 = .ok (.invokestatic 527, 3) := by decide +kernel
theorem dX13_owned_54 : decode cX13_owned 54 = .ok (.iload_n 1, 1) := by decide +kernel
theorem dX13_owned_55 : decode cX13_owned 55 = .ok (.iload_n 2, 1) := by decide +kernel
theorem dX13_owned_56 : decode cX13_owned 56 = .ok (.invokestatic 141, 3) := by decide +kernel
theorem dX13_owned_59 : decode cX13_owned 59 = .ok (.ifCond .eq 24, 3) := by decide +kernel
theorem dX13_owned_62 : decode cX13_owned 62 = .ok (.iload_n 3, 1) := by decide +kernel
theorem dX13_owned_63 : decode cX13_owned 63 = .ok (.ifCond .eq 16, 3) := by decide +kernel
theorem dX13_owned_66 : decode cX13_owned 66 = .ok (.aload_n 0, 1) := by decide +kernel
theorem dX13_owned_67 : decode cX13_owned 67 = .ok (.getfield 417, 3) := by decide +kernel
theorem dX13_owned_70 : decode cX13_owned 70 = .ok (.getfield 308, 3) := by decide +kernel
theorem dX13_owned_73 : decode cX13_owned 73 = .ok (.iload 5, 2) := by decide +kernel
theorem dX13_owned_75 : decode cX13_owned 75 = .ok (.baload, 1) := by decide +kernel
theorem dX13_owned_76 : decode cX13_owned 76 = .ok (.ifCond .ne 7, 3) := by decide +kernel
theorem dX13_owned_79 : decode cX13_owned 79 = .ok (.iconst 1, 1) := by decide +kernel
theorem dX13_owned_80 : decode cX13_owned 80 = .ok (.goto 4, 3) := by decide +kernel
theorem dX13_owned_83 : decode cX13_owned 83 = .ok (.iconst 0, 1) := by decide +kernel
theorem dX13_owned_84 : decode cX13_owned 84 = .ok (.iadd, 1) := by decide +kernel
theorem dX13_owned_85 : decode cX13_owned 85 = .ok (.istore 4, 2) := by decide +kernel
theorem dX13_owned_87 : decode cX13_owned 87 = .ok (.iinc 5 1, 3) := by decide +kernel
theorem dX13_owned_90 : decode cX13_owned 90 = .ok (.goto (-84), 3) := by decide +kernel
theorem dX13_owned_93 : decode cX13_owned 93 = .ok (.iload 4, 2) := by decide +kernel
theorem dX13_owned_95 : decode cX13_owned 95 = .ok (.ireturn, 1) := by decide +kernel
theorem dX13_ownersOf_0 : decode cX13_ownersOf 0 = .ok (.iconst 0, 1) := by decide +kernel
theorem dX13_ownersOf_1 : decode cX13_ownersOf 1 = .ok (.istore 4, 2) := by decide +kernel
theorem dX13_ownersOf_3 : decode cX13_ownersOf 3 = .ok (.iconst 0, 1) := by decide +kernel
theorem dX13_ownersOf_4 : decode cX13_ownersOf 4 = .ok (.istore 5, 2) := by decide +kernel
theorem dX13_ownersOf_6 : decode cX13_ownersOf 6 = .ok (.iload 5, 2) := by decide +kernel
theorem dX13_ownersOf_8 : decode cX13_ownersOf 8 = .ok (.aload_n 0, 1) := by decide +kernel
theorem dX13_ownersOf_9 : decode cX13_ownersOf 9 = .ok (.getfield 229, 3) := by decide +kernel
theorem dX13_ownersOf_12 : decode cX13_ownersOf 12 = .ok (.if_icmp .ge 39, 3) := by decide +kernel
theorem dX13_ownersOf_15 : decode cX13_ownersOf 15 = .ok (.iload 4, 2) := by decide +kernel
theorem dX13_ownersOf_17 : decode cX13_ownersOf 17 = .ok (.aload_n 0, 1) := by decide +kernel
theorem dX13_ownersOf_18 : decode cX13_ownersOf 18 = .ok (.iload 5, 2) := by decide +kernel
theorem dX13_ownersOf_20 : decode cX13_ownersOf 20 = .ok (.iload_n 2, 1) := by decide +kernel
theorem dX13_ownersOf_21 : decode cX13_ownersOf 21 = .ok (.iload_n 3, 1) := by decide +kernel
theorem dX13_ownersOf_22 : decode cX13_ownersOf 22 = .ok (.invokevirtual 429, 3) := by decide +kernel
theorem dX13_ownersOf_25 : decode cX13_ownersOf 25 = .ok (.aload_n 1, 1) := by decide +kernel
theorem dX13_ownersOf_26 : decode cX13_ownersOf 26 = .ok (.iconst 0, 1) := by decide +kernel
theorem dX13_ownersOf_27 : decode cX13_ownersOf 27 = .ok (.iload 5, 2) := by decide +kernel
theorem dX13_ownersOf_29 : decode cX13_ownersOf 29 = .ok (.iadd, 1) := by decide +kernel
theorem dX13_ownersOf_30 : decode cX13_ownersOf 30 = .ok (.iaload, 1) := by decide +kernel
theorem dX13_ownersOf_31 : decode cX13_ownersOf 31 = .ok (.if_icmp .gt 10, 3) := by decide +kernel
theorem dX13_ownersOf_34 : decode cX13_ownersOf 34 = .ok (.iconst 1, 1) := by decide +kernel
theorem dX13_ownersOf_35 : decode cX13_ownersOf 35 = .ok (.iload 5, 2) := by decide +kernel
theorem dX13_ownersOf_37 : decode cX13_ownersOf 37 = .ok (.ishl, 1) := by decide +kernel
theorem dX13_ownersOf_38 : decode cX13_ownersOf 38 = .ok (.goto 4, 3) := by decide +kernel
theorem dX13_ownersOf_41 : decode cX13_ownersOf 41 = .ok (.iconst 0, 1) := by decide +kernel
theorem dX13_ownersOf_42 : decode cX13_ownersOf 42 = .ok (.ior, 1) := by decide +kernel
theorem dX13_ownersOf_43 : decode cX13_ownersOf 43 = .ok (.istore 4, 2) := by decide +kernel
theorem dX13_ownersOf_45 : decode cX13_ownersOf 45 = .ok (.iinc 5 1, 3) := by decide +kernel
theorem dX13_ownersOf_48 : decode cX13_ownersOf 48 = .ok (.goto (-42), 3) := by decide +kernel
theorem dX13_ownersOf_51 : decode cX13_ownersOf 51 = .ok (.iload 4, 2) := by decide +kernel
theorem dX13_ownersOf_53 : decode cX13_ownersOf 53 = .ok (.ireturn, 1) := by decide +kernel
theorem dX13_part_0 : decode cX13_part 0 = .ok (.bipush 12, 2) := by decide +kernel
theorem dX13_part_2 : decode cX13_part 2 = .ok (.bipush 6, 2) := by decide +kernel
theorem dX13_part_4 : decode cX13_part 4 = .ok (.iload_n 0, 1) := by decide +kernel
theorem dX13_part_5 : decode cX13_part 5 = .ok (.imul, 1) := by decide +kernel
theorem dX13_part_6 : decode cX13_part 6 = .ok (.iload_n 1, 1) := by decide +kernel
theorem dX13_part_7 : decode cX13_part 7 = .ok (.iadd, 1) := by decide +kernel
theorem dX13_part_8 : decode cX13_part 8 = .ok (.iconst 1, 1) := by decide +kernel
theorem dX13_part_9 : decode cX13_part 9 = .ok (.isub, 1) := by decide +kernel
theorem dX13_part_10 : decode cX13_part 10 = .ok (.bipush 8, 2) := by decide +kernel
theorem dX13_part_12 : decode cX13_part 12 = .ok (.imul, 1) := by decide +kernel
theorem dX13_part_13 : decode cX13_part 13 = .ok (.iadd, 1) := by decide +kernel
theorem dX13_part_14 : decode cX13_part 14 = .ok (.iload_n 2, 1) := by decide +kernel
theorem dX13_part_15 : decode cX13_part 15 = .ok (.iadd, 1) := by decide +kernel
theorem dX13_part_16 : decode cX13_part 16 = .ok (.ireturn, 1) := by decide +kernel
theorem dX13_placeOf_0 : decode cX13_placeOf 0 = .ok (.iload_n 2, 1) := by decide +kernel
theorem dX13_placeOf_1 : decode cX13_placeOf 1 = .ok (.iload_n 0, 1) := by decide +kernel
theorem dX13_placeOf_2 : decode cX13_placeOf 2 = .ok (.ineg, 1) := by decide +kernel
theorem dX13_placeOf_3 : decode cX13_placeOf 3 = .ok (.if_icmp .ne 7, 3) := by decide +kernel
theorem dX13_placeOf_6 : decode cX13_placeOf 6 = .ok (.iload_n 1, 1) := by decide +kernel
theorem dX13_placeOf_7 : decode cX13_placeOf 7 = .ok (.iload_n 0, 1) := by decide +kernel
theorem dX13_placeOf_8 : decode cX13_placeOf 8 = .ok (.iadd, 1) := by decide +kernel
theorem dX13_placeOf_9 : decode cX13_placeOf 9 = .ok (.ireturn, 1) := by decide +kernel
theorem dX13_placeOf_10 : decode cX13_placeOf 10 = .ok (.iload_n 1, 1) := by decide +kernel
theorem dX13_placeOf_11 : decode cX13_placeOf 11 = .ok (.iload_n 0, 1) := by decide +kernel
theorem dX13_placeOf_12 : decode cX13_placeOf 12 = .ok (.if_icmp .ne 11, 3) := by decide +kernel
theorem dX13_placeOf_15 : decode cX13_placeOf 15 = .ok (.iconst 2, 1) := by decide +kernel
theorem dX13_placeOf_16 : decode cX13_placeOf 16 = .ok (.iload_n 0, 1) := by decide +kernel
theorem dX13_placeOf_17 : decode cX13_placeOf 17 = .ok (.imul, 1) := by decide +kernel
theorem dX13_placeOf_18 : decode cX13_placeOf 18 = .ok (.iload_n 2, 1) := by decide +kernel
theorem dX13_placeOf_19 : decode cX13_placeOf 19 = .ok (.iadd, 1) := by decide +kernel
theorem dX13_placeOf_20 : decode cX13_placeOf 20 = .ok (.iload_n 0, 1) := by decide +kernel
theorem dX13_placeOf_21 : decode cX13_placeOf 21 = .ok (.iadd, 1) := by decide +kernel
theorem dX13_placeOf_22 : decode cX13_placeOf 22 = .ok (.ireturn, 1) := by decide +kernel
theorem dX13_placeOf_23 : decode cX13_placeOf 23 = .ok (.iload_n 2, 1) := by decide +kernel
theorem dX13_placeOf_24 : decode cX13_placeOf 24 = .ok (.iload_n 0, 1) := by decide +kernel
theorem dX13_placeOf_25 : decode cX13_placeOf 25 = .ok (.if_icmp .ne 13, 3) := by decide +kernel
theorem dX13_placeOf_28 : decode cX13_placeOf 28 = .ok (.iconst 4, 1) := by decide +kernel
theorem dX13_placeOf_29 : decode cX13_placeOf 29 = .ok (.iload_n 0, 1) := by decide +kernel
theorem dX13_placeOf_30 : decode cX13_placeOf 30 = .ok (.imul, 1) := by decide +kernel
theorem dX13_placeOf_31 : decode cX13_placeOf 31 = .ok (.iload_n 0, 1) := by decide +kernel
theorem dX13_placeOf_32 : decode cX13_placeOf 32 = .ok (.iadd, 1) := by decide +kernel
theorem dX13_placeOf_33 : decode cX13_placeOf 33 = .ok (.iload_n 1, 1) := by decide +kernel
theorem dX13_placeOf_34 : decode cX13_placeOf 34 = .ok (.isub, 1) := by decide +kernel
theorem dX13_placeOf_35 : decode cX13_placeOf 35 = .ok (.goto 11, 3) := by decide +kernel
theorem dX13_placeOf_38 : decode cX13_placeOf 38 = .ok (.bipush 6, 2) := by decide +kernel
theorem dX13_placeOf_40 : decode cX13_placeOf 40 = .ok (.iload_n 0, 1) := by decide +kernel
theorem dX13_placeOf_41 : decode cX13_placeOf 41 = .ok (.imul, 1) := by decide +kernel
theorem dX13_placeOf_42 : decode cX13_placeOf 42 = .ok (.iload_n 0, 1) := by decide +kernel
theorem dX13_placeOf_43 : decode cX13_placeOf 43 = .ok (.iadd, 1) := by decide +kernel
theorem dX13_placeOf_44 : decode cX13_placeOf 44 = .ok (.iload_n 2, 1) := by decide +kernel
theorem dX13_placeOf_45 : decode cX13_placeOf 45 = .ok (.isub, 1) := by decide +kernel
theorem dX13_placeOf_46 : decode cX13_placeOf 46 = .ok (.ireturn, 1) := by decide +kernel
theorem dX13_plainWay_0 : decode cX13_plainWay 0 = .ok (.iconst 0, 1) := by decide +kernel
theorem dX13_plainWay_1 : decode cX13_plainWay 1 = .ok (.istore_n 3, 1) := by decide +kernel
theorem dX13_plainWay_2 : decode cX13_plainWay 2 = .ok (.aload_n 0, 1) := by decide +kernel
theorem dX13_plainWay_3 : decode cX13_plainWay 3 = .ok (.iconst 0, 1) := by decide +kernel
theorem dX13_plainWay_4 : decode cX13_plainWay 4 = .ok (.iload_n 1, 1) := by decide +kernel
theorem dX13_plainWay_5 : decode cX13_plainWay 5 = .ok (.iadd, 1) := by decide +kernel
theorem dX13_plainWay_6 : decode cX13_plainWay 6 = .ok (.iaload, 1) := by decide +kernel
theorem dX13_plainWay_7 : decode cX13_plainWay 7 = .ok (.istore 4, 2) := by decide +kernel
theorem dX13_plainWay_9 : decode cX13_plainWay 9 = .ok (.iload 4, 2) := by decide +kernel
theorem dX13_plainWay_11 : decode cX13_plainWay 11 = .ok (.ifCond .le 43, 3) := by decide +kernel
theorem dX13_plainWay_14 : decode cX13_plainWay 14 = .ok (.iload 4, 2) := by decide +kernel
theorem dX13_plainWay_16 : decode cX13_plainWay 16 = .ok (.iload_n 2, 1) := by decide +kernel
theorem dX13_plainWay_17 : decode cX13_plainWay 17 = .ok (.if_icmp .lt 37, 3) := by decide +kernel
theorem dX13_plainWay_20 : decode cX13_plainWay 20 = .ok (.iload_n 3, 1) := by decide +kernel
theorem dX13_plainWay_21 : decode cX13_plainWay 21 = .ok (.iconst 1, 1) := by decide +kernel
theorem dX13_plainWay_22 : decode cX13_plainWay 22 = .ok (.iload 4, 2) := by decide +kernel
theorem dX13_plainWay_24 : decode cX13_plainWay 24 = .ok (.iconst 1, 1) := by decide +kernel
theorem dX13_plainWay_25 : decode cX13_plainWay 25 = .ok (.if_icmp .le 19, 3) := by decide +kernel
theorem dX13_plainWay_28 : decode cX13_plainWay 28 = .ok (.iload 4, 2) := by decide +kernel
theorem dX13_plainWay_30 : decode cX13_plainWay 30 = .ok (.iload_n 2, 1) := by decide +kernel
theorem dX13_plainWay_31 : decode cX13_plainWay 31 = .ok (.if_icmp .le 13, 3) := by decide +kernel
theorem dX13_plainWay_34 : decode cX13_plainWay 34 = .ok (.aload_n 0, 1) := by decide +kernel
theorem dX13_plainWay_35 : decode cX13_plainWay 35 = .ok (.iload_n 1, 1) := by decide +kernel
theorem dX13_plainWay_36 : decode cX13_plainWay 36 = .ok (.iload 4, 2) := by decide +kernel
theorem dX13_plainWay_38 : decode cX13_plainWay 38 = .ok (.invokestatic 464, 3) := by decide +kernel
theorem dX13_plainWay_41 : decode cX13_plainWay 41 = .ok (.goto 4, 3) := by decide +kernel
theorem dX13_plainWay_44 : decode cX13_plainWay 44 = .ok (.iconst 0, 1) := by decide +kernel
theorem dX13_plainWay_45 : decode cX13_plainWay 45 = .ok (.iadd, 1) := by decide +kernel
theorem dX13_plainWay_46 : decode cX13_plainWay 46 = .ok (.iadd, 1) := by decide +kernel
theorem dX13_plainWay_47 : decode cX13_plainWay 47 = .ok (.istore_n 3, 1) := by decide +kernel
theorem dX13_plainWay_48 : decode cX13_plainWay 48 = .ok (.iinc 4 (-1), 3) := by decide +kernel
theorem dX13_plainWay_51 : decode cX13_plainWay 51 = .ok (.goto (-42), 3) := by decide +kernel
theorem dX13_plainWay_54 : decode cX13_plainWay 54 = .ok (.iload_n 2, 1) := by decide +kernel
theorem dX13_plainWay_55 : decode cX13_plainWay 55 = .ok (.ifCond .ne 17, 3) := by decide +kernel
theorem dX13_plainWay_58 : decode cX13_plainWay 58 = .ok (.aload_n 0, 1) := by decide +kernel
theorem dX13_plainWay_59 : decode cX13_plainWay 59 = .ok (.iconst 0, 1) := by decide +kernel
theorem dX13_plainWay_60 : decode cX13_plainWay 60 = .ok (.iload_n 1, 1) := by decide +kernel
theorem dX13_plainWay_61 : decode cX13_plainWay 61 = .ok (.iadd, 1) := by decide +kernel
theorem dX13_plainWay_62 : decode cX13_plainWay 62 = .ok (.iaload, 1) := by decide +kernel
theorem dX13_plainWay_63 : decode cX13_plainWay 63 = .ok (.ifCond .le 9, 3) := by decide +kernel
theorem dX13_plainWay_66 : decode cX13_plainWay 66 = .ok (.iload_n 3, 1) := by decide +kernel
theorem dX13_plainWay_67 : decode cX13_plainWay 67 = .ok (.iconst 1, 1) := by decide +kernel
theorem dX13_plainWay_68 : decode cX13_plainWay 68 = .ok (.iadd, 1) := by decide +kernel
theorem dX13_plainWay_69 : decode cX13_plainWay 69 = .ok (.goto 4, 3) := by decide +kernel
theorem dX13_plainWay_72 : decode cX13_plainWay 72 = .ok (.iload_n 3, 1) := by decide +kernel
theorem dX13_plainWay_73 : decode cX13_plainWay 73 = .ok (.ireturn, 1) := by decide +kernel
theorem dX13_readAll_0 : decode cX13_readAll 0 = .ok (.iconst 1, 1) := by decide +kernel
theorem dX13_readAll_1 : decode cX13_readAll 1 = .ok (.istore_n 1, 1) := by decide +kernel
theorem dX13_readAll_2 : decode cX13_readAll 2 = .ok (.iload_n 1, 1) := by decide +kernel
theorem dX13_readAll_3 : decode cX13_readAll 3 = .ok (.ifCond .eq 17, 3) := by decide +kernel
theorem dX13_readAll_6 : decode cX13_readAll 6 = .ok (.aload_n 0, 1) := by decide +kernel
theorem dX13_readAll_7 : decode cX13_readAll 7 = .ok (.invokevirtual 217, 3) := by decide +kernel
theorem dX13_readAll_10 : decode cX13_readAll 10 = .ok (.aload_n 0, 1) := by decide +kernel
theorem dX13_readAll_11 : decode cX13_readAll 11 = .ok (.bipush 59, 2) := by decide +kernel
theorem dX13_readAll_13 : decode cX13_readAll 13 = .ok (.invokevirtual 220, 3) := by decide +kernel
theorem dX13_readAll_16 : decode cX13_readAll 16 = .ok (.istore_n 1, 1) := by decide +kernel
theorem dX13_readAll_17 : decode cX13_readAll 17 = .ok (.goto (-15), 3) := by decide +kernel
theorem dX13_readAll_20 : decode cX13_readAll 20 = .ok (.aload_n 0, 1) := by decide +kernel
theorem dX13_readAll_21 : decode cX13_readAll 21 = .ok (.getfield 91, 3) := by decide +kernel
theorem dX13_readAll_24 : decode cX13_readAll 24 = .ok (.iconst 1, 1) := by decide +kernel
theorem dX13_readAll_25 : decode cX13_readAll 25 = .ok (.if_icmp .eq 8, 3) := by decide +kernel
theorem dX13_readAll_28 : decode cX13_readAll 28 = .ok (.aload_n 0, 1) := by decide +kernel
theorem dX13_readAll_29 : decode cX13_readAll 29 = .ok (.iconst 1, 1) := by decide +kernel
theorem dX13_readAll_30 : decode cX13_readAll 30 = .ok (.invokevirtual 137, 3) := by decide +kernel
theorem dX13_readAll_33 : decode cX13_readAll 33 = .ok (.aload_n 0, 1) := by decide +kernel
theorem dX13_readAll_34 : decode cX13_readAll 34 = .ok (.getfield 156, 3) := by decide +kernel
theorem dX13_readAll_37 : decode cX13_readAll 37 = .ok (.getfield 223, 3) := by decide +kernel
theorem dX13_readAll_40 : decode cX13_readAll 40 = .ok (.iconst (-1), 1) := by decide +kernel
theorem dX13_readAll_41 : decode cX13_readAll 41 = .ok (.if_icmp .eq 23, 3) := by decide +kernel
theorem dX13_readAll_44 : decode cX13_readAll 44 = .ok (.aload_n 0, 1) := by decide +kernel
theorem dX13_readAll_45 : decode cX13_readAll 45 = .ok (.getfield 156, 3) := by decide +kernel
theorem dX13_readAll_48 : decode cX13_readAll 48 = .ok (.getfield 226, 3) := by decide +kernel
theorem dX13_readAll_51 : decode cX13_readAll 51 = .ok (.ifCond .eq 13, 3) := by decide +kernel
theorem dX13_readAll_54 : decode cX13_readAll 54 = .ok (.aload_n 0, 1) := by decide +kernel
theorem dX13_readAll_55 : decode cX13_readAll 55 = .ok (.getfield 156, 3) := by decide +kernel
theorem dX13_readAll_58 : decode cX13_readAll 58 = .ok (.getfield 229, 3) := by decide +kernel
theorem dX13_readAll_61 : decode cX13_readAll 61 = .ok (.ifCond .ne 9, 3) := by decide +kernel
theorem dX13_readAll_64 : decode cX13_readAll 64 = .ok (.aload_n 0, 1) := by decide +kernel
theorem dX13_readAll_65 : decode cX13_readAll 65 = .ok (.bipush 6, 2) := by decide +kernel
theorem dX13_readAll_67 : decode cX13_readAll 67 = .ok (.invokevirtual 137, 3) := by decide +kernel
theorem dX13_readAll_70 : decode cX13_readAll 70 = .ok (.return_, 1) := by decide +kernel
theorem dX13_readFresh_0 : decode cX13_readFresh 0 = .ok (.aload_n 0, 1) := by decide +kernel
theorem dX13_readFresh_1 : decode cX13_readFresh 1 = .ok (.invokevirtual 193, 3) := by decide +kernel
theorem dX13_readFresh_4 : decode cX13_readFresh 4 = .ok (.ifCond .ne 8, 3) := by decide +kernel
theorem dX13_readFresh_7 : decode cX13_readFresh 7 = .ok (.aload_n 0, 1) := by decide +kernel
theorem dX13_readFresh_8 : decode cX13_readFresh 8 = .ok (.iconst 1, 1) := by decide +kernel
theorem dX13_readFresh_9 : decode cX13_readFresh 9 = .ok (.invokevirtual 137, 3) := by decide +kernel
theorem dX13_readFresh_12 : decode cX13_readFresh 12 = .ok (.aload_n 0, 1) := by decide +kernel
theorem dX13_readFresh_13 : decode cX13_readFresh 13 = .ok (.getfield 156, 3) := by decide +kernel
theorem dX13_readFresh_16 : decode cX13_readFresh 16 = .ok (.aload_n 0, 1) := by decide +kernel
theorem dX13_readFresh_17 : decode cX13_readFresh 17 = .ok (.getfield 110, 3) := by decide +kernel
theorem dX13_readFresh_20 : decode cX13_readFresh 20 = .ok (.invokevirtual 197, 3) := by decide +kernel
theorem dX13_readFresh_23 : decode cX13_readFresh 23 = .ok (.iconst (-1), 1) := by decide +kernel
theorem dX13_readFresh_24 : decode cX13_readFresh 24 = .ok (.if_icmp .eq 8, 3) := by decide +kernel
theorem dX13_readFresh_27 : decode cX13_readFresh 27 = .ok (.aload_n 0, 1) := by decide +kernel
theorem dX13_readFresh_28 : decode cX13_readFresh 28 = .ok (.iconst 3, 1) := by decide +kernel
theorem dX13_readFresh_29 : decode cX13_readFresh 29 = .ok (.invokevirtual 137, 3) := by decide +kernel
theorem dX13_readFresh_32 : decode cX13_readFresh 32 = .ok (.aload_n 0, 1) := by decide +kernel
theorem dX13_readFresh_33 : decode cX13_readFresh 33 = .ok (.getfield 110, 3) := by decide +kernel
theorem dX13_readFresh_36 : decode cX13_readFresh 36 = .ok (.lstore_n 1, 1) := by decide +kernel
theorem dX13_readFresh_37 : decode cX13_readFresh 37 = .ok (.aload_n 0, 1) := by decide +kernel
theorem dX13_readFresh_38 : decode cX13_readFresh 38 = .ok (.invokevirtual 130, 3) := by decide +kernel
theorem dX13_readFresh_41 : decode cX13_readFresh 41 = .ok (.lload_n 1, 1) := by decide +kernel
theorem dX13_readFresh_42 : decode cX13_readFresh 42 = .ok (.lreturn, 1) := by decide +kernel
theorem dX13_readHeir_0 : decode cX13_readHeir 0 = .ok (.aload_n 0, 1) := by decide +kernel
theorem dX13_readHeir_1 : decode cX13_readHeir 1 = .ok (.aload_n 0, 1) := by decide +kernel
theorem dX13_readHeir_2 : decode cX13_readHeir 2 = .ok (.getfield 156, 3) := by decide +kernel
theorem dX13_readHeir_5 : decode cX13_readHeir 5 = .ok (.getfield 388, 3) := by decide +kernel
theorem dX13_readHeir_8 : decode cX13_readHeir 8 = .ok (.bipush 6, 2) := by decide +kernel
theorem dX13_readHeir_10 : decode cX13_readHeir 10 = .ok (.invokevirtual 286, 3) := by decide +kernel
theorem dX13_readHeir_13 : decode cX13_readHeir 13 = .ok (.aload_n 0, 1) := by decide +kernel
theorem dX13_readHeir_14 : decode cX13_readHeir 14 = .ok (.invokevirtual 311, 3) := by decide +kernel
theorem dX13_readHeir_17 : decode cX13_readHeir 17 = .ok (.lstore_n 1, 1) := by decide +kernel
theorem dX13_readHeir_18 : decode cX13_readHeir 18 = .ok (.aload_n 0, 1) := by decide +kernel
theorem dX13_readHeir_19 : decode cX13_readHeir 19 = .ok (.iconst 1, 1) := by decide +kernel
theorem dX13_readHeir_20 : decode cX13_readHeir 20 = .ok (.invokevirtual 354, 3) := by decide +kernel
theorem dX13_readHeir_23 : decode cX13_readHeir 23 = .ok (.istore_n 3, 1) := by decide +kernel
theorem dX13_readHeir_24 : decode cX13_readHeir 24 = .ok (.aload_n 0, 1) := by decide +kernel
theorem dX13_readHeir_25 : decode cX13_readHeir 25 = .ok (.iconst 0, 1) := by decide +kernel
theorem dX13_readHeir_26 : decode cX13_readHeir 26 = .ok (.aload_n 0, 1) := by decide +kernel
theorem dX13_readHeir_27 : decode cX13_readHeir 27 = .ok (.getfield 91, 3) := by decide +kernel
theorem dX13_readHeir_30 : decode cX13_readHeir 30 = .ok (.iconst 5, 1) := by decide +kernel
theorem dX13_readHeir_31 : decode cX13_readHeir 31 = .ok (.if_icmp .ne 7, 3) := by decide +kernel
theorem dX13_readHeir_34 : decode cX13_readHeir 34 = .ok (.iconst 0, 1) := by decide +kernel
theorem dX13_readHeir_35 : decode cX13_readHeir 35 = .ok (.goto 14, 3) := by decide +kernel
theorem dX13_readHeir_38 : decode cX13_readHeir 38 = .ok (.aload_n 0, 1) := by decide +kernel
theorem dX13_readHeir_39 : decode cX13_readHeir 39 = .ok (.getfield 156, 3) := by decide +kernel
theorem dX13_readHeir_42 : decode cX13_readHeir 42 = .ok (.getfield 345, 3) := by decide +kernel
theorem dX13_readHeir_45 : decode cX13_readHeir 45 = .ok (.iconst 0, 1) := by decide +kernel
theorem dX13_readHeir_46 : decode cX13_readHeir 46 = .ok (.iload_n 3, 1) := by decide +kernel
theorem dX13_readHeir_47 : decode cX13_readHeir 47 = .ok (.iadd, 1) := by decide +kernel
theorem dX13_readHeir_48 : decode cX13_readHeir 48 = .ok (.iaload, 1) := by decide +kernel
theorem dX13_readHeir_49 : decode cX13_readHeir 49 = .ok (.invokevirtual 153, 3) := by decide +kernel
theorem dX13_readHeir_52 : decode cX13_readHeir 52 = .ok (.istore 4, 2) := by decide +kernel
theorem dX13_readHeir_54 : decode cX13_readHeir 54 = .ok (.aload_n 0, 1) := by decide +kernel
theorem dX13_readHeir_55 : decode cX13_readHeir 55 = .ok (.getfield 91, 3) := by decide +kernel
theorem dX13_readHeir_58 : decode cX13_readHeir 58 = .ok (.iconst 5, 1) := by decide +kernel
theorem dX13_readHeir_59 : decode cX13_readHeir 59 = .ok (.if_icmp .ne 4, 3) := by decide +kernel
theorem dX13_readHeir_62 : decode cX13_readHeir 62 = .ok (.return_, 1) := by decide +kernel
theorem dX13_readHeir_63 : decode cX13_readHeir 63 = .ok (.aload_n 0, 1) := by decide +kernel
theorem dX13_readHeir_64 : decode cX13_readHeir 64 = .ok (.lload_n 1, 1) := by decide +kernel
theorem dX13_readHeir_65 : decode cX13_readHeir 65 = .ok (.iconst 2, 1) := by decide +kernel
theorem dX13_readHeir_66 : decode cX13_readHeir 66 = .ok (.aload_n 0, 1) := by decide +kernel
theorem dX13_readHeir_67 : decode cX13_readHeir 67 = .ok (.getfield 156, 3) := by decide +kernel
theorem dX13_readHeir_70 : decode cX13_readHeir 70 = .ok (.getfield 388, 3) := by decide +kernel
theorem dX13_readHeir_73 : decode cX13_readHeir 73 = .ok (.invokevirtual 329, 3) := by decide +kernel
theorem dX13_readHeir_76 : decode cX13_readHeir 76 = .ok (.aload_n 0, 1) := by decide +kernel
theorem dX13_readHeir_77 : decode cX13_readHeir 77 = .ok (.getfield 156, 3) := by decide +kernel
theorem dX13_readHeir_80 : decode cX13_readHeir 80 = .ok (.getfield 391, 3) := by decide +kernel
theorem dX13_readHeir_83 : decode cX13_readHeir 83 = .ok (.aload_n 0, 1) := by decide +kernel
theorem dX13_readHeir_84 : decode cX13_readHeir 84 = .ok (.getfield 156, 3) := by decide +kernel
theorem dX13_readHeir_87 : decode cX13_readHeir 87 = .ok (.getfield 388, 3) := by decide +kernel
theorem dX13_readHeir_90 : decode cX13_readHeir 90 = .ok (.iload_n 3, 1) := by decide +kernel
theorem dX13_readHeir_91 : decode cX13_readHeir 91 = .ok (.iastore, 1) := by decide +kernel
theorem dX13_readHeir_92 : decode cX13_readHeir 92 = .ok (.aload_n 0, 1) := by decide +kernel
theorem dX13_readHeir_93 : decode cX13_readHeir 93 = .ok (.getfield 156, 3) := by decide +kernel
theorem dX13_readHeir_96 : decode cX13_readHeir 96 = .ok (.getfield 345, 3) := by decide +kernel
theorem dX13_readHeir_99 : decode cX13_readHeir 99 = .ok (.sipush 204, 3) := by decide +kernel
theorem dX13_readHeir_102 : decode cX13_readHeir 102 = .ok (.aload_n 0, 1) := by decide +kernel
theorem dX13_readHeir_103 : decode cX13_readHeir 103 = .ok (.getfield 156, 3) := by decide +kernel
theorem dX13_readHeir_106 : decode cX13_readHeir 106 = .ok (.getfield 388, 3) := by decide +kernel
theorem dX13_readHeir_109 : decode cX13_readHeir 109 = .ok (.iadd, 1) := by decide +kernel
theorem dX13_readHeir_110 : decode cX13_readHeir 110 = .ok (.iload 4, 2) := by decide +kernel
theorem dX13_readHeir_112 : decode cX13_readHeir 112 = .ok (.iastore, 1) := by decide +kernel
theorem dX13_readHeir_113 : decode cX13_readHeir 113 = .ok (.aload_n 0, 1) := by decide +kernel
theorem dX13_readHeir_114 : decode cX13_readHeir 114 = .ok (.getfield 156, 3) := by decide +kernel
theorem dX13_readHeir_117 : decode cX13_readHeir 117 = .ok (.dup, 1) := by decide +kernel
theorem dX13_readHeir_118 : decode cX13_readHeir 118 = .ok (.getfield 388, 3) := by decide +kernel
theorem dX13_readHeir_121 : decode cX13_readHeir 121 = .ok (.iconst 1, 1) := by decide +kernel
theorem dX13_readHeir_122 : decode cX13_readHeir 122 = .ok (.iadd, 1) := by decide +kernel
theorem dX13_readHeir_123 : decode cX13_readHeir 123 = .ok (.putfield 388, 3) := by decide +kernel
theorem dX13_readHeir_126 : decode cX13_readHeir 126 = .ok (.return_, 1) := by decide +kernel
theorem dX13_readHouse_0 : decode cX13_readHouse 0 = .ok (.aload_n 0, 1) := by decide +kernel
theorem dX13_readHouse_1 : decode cX13_readHouse 1 = .ok (.aload_n 0, 1) := by decide +kernel
theorem dX13_readHouse_2 : decode cX13_readHouse 2 = .ok (.getfield 156, 3) := by decide +kernel
theorem dX13_readHouse_5 : decode cX13_readHouse 5 = .ok (.getfield 229, 3) := by decide +kernel
theorem dX13_readHouse_8 : decode cX13_readHouse 8 = .ok (.iconst 4, 1) := by decide +kernel
theorem dX13_readHouse_9 : decode cX13_readHouse 9 = .ok (.invokevirtual 286, 3) := by decide +kernel
theorem dX13_readHouse_12 : decode cX13_readHouse 12 = .ok (.aload_n 0, 1) := by decide +kernel
theorem dX13_readHouse_13 : decode cX13_readHouse 13 = .ok (.invokevirtual 311, 3) := by decide +kernel
theorem dX13_readHouse_16 : decode cX13_readHouse 16 = .ok (.lstore_n 1, 1) := by decide +kernel
theorem dX13_readHouse_17 : decode cX13_readHouse 17 = .ok (.aload_n 0, 1) := by decide +kernel
theorem dX13_readHouse_18 : decode cX13_readHouse 18 = .ok (.ldc_w 343, 3) := by decide +kernel
theorem dX13_readHouse_21 : decode cX13_readHouse 21 = .ok (.invokevirtual 149, 3) := by decide +kernel
theorem dX13_readHouse_24 : decode cX13_readHouse 24 = .ok (.aload_n 0, 1) := by decide +kernel
theorem dX13_readHouse_25 : decode cX13_readHouse 25 = .ok (.invokevirtual 305, 3) := by decide +kernel
theorem dX13_readHouse_28 : decode cX13_readHouse 28 = .ok (.istore_n 3, 1) := by decide +kernel
theorem dX13_readHouse_29 : decode cX13_readHouse 29 = .ok (.aload_n 0, 1) := by decide +kernel
theorem dX13_readHouse_30 : decode cX13_readHouse 30 = .ok (.getfield 91, 3) := by decide +kernel
theorem dX13_readHouse_33 : decode cX13_readHouse 33 = .ok (.iconst 5, 1) := by decide +kernel
theorem dX13_readHouse_34 : decode cX13_readHouse 34 = .ok (.if_icmp .eq 56, 3) := by decide +kernel
theorem dX13_readHouse_37 : decode cX13_readHouse 37 = .ok (.aload_n 0, 1) := by decide +kernel
theorem dX13_readHouse_38 : decode cX13_readHouse 38 = .ok (.getfield 156, 3) := by decide +kernel
theorem dX13_readHouse_41 : decode cX13_readHouse 41 = .ok (.getfield 308, 3) := by decide +kernel
theorem dX13_readHouse_44 : decode cX13_readHouse 44 = .ok (.iload_n 3, 1) := by decide +kernel
theorem dX13_readHouse_45 : decode cX13_readHouse 45 = .ok (.baload, 1) := by decide +kernel
theorem dX13_readHouse_46 : decode cX13_readHouse 46 = .ok (.ifCond .ne 38, 3) := by decide +kernel
theorem dX13_readHouse_49 : decode cX13_readHouse 49 = .ok (.aload_n 0, 1) := by decide +kernel
theorem dX13_readHouse_50 : decode cX13_readHouse 50 = .ok (.getfield 156, 3) := by decide +kernel
theorem dX13_readHouse_53 : decode cX13_readHouse 53 = .ok (.aload_n 0, 1) := by decide +kernel
theorem dX13_readHouse_54 : decode cX13_readHouse 54 = .ok (.getfield 156, 3) := by decide +kernel
theorem dX13_readHouse_57 : decode cX13_readHouse 57 = .ok (.getfield 345, 3) := by decide +kernel
theorem dX13_readHouse_60 : decode cX13_readHouse 60 = .ok (.iload_n 3, 1) := by decide +kernel
theorem dX13_readHouse_61 : decode cX13_readHouse 61 = .ok (.aload_n 0, 1) := by decide +kernel
theorem dX13_readHouse_62 : decode cX13_readHouse 62 = .ok (.getfield 156, 3) := by decide +kernel
theorem dX13_readHouse_65 : decode cX13_readHouse 65 = .ok (.getfield 160, 3) := by decide +kernel
theorem dX13_readHouse_68 : decode cX13_readHouse 68 = .ok (.irem, 1) := by decide +kernel
theorem dX13_readHouse_69 : decode cX13_readHouse 69 = .ok (.iload_n 3, 1) := by decide +kernel
theorem dX13_readHouse_70 : decode cX13_readHouse 70 = .ok (.aload_n 0, 1) := by decide +kernel
theorem dX13_readHouse_71 : decode cX13_readHouse 71 = .ok (.getfield 156, 3) := by decide +kernel
theorem dX13_readHouse_74 : decode cX13_readHouse 74 = .ok (.getfield 160, 3) := by decide +kernel
theorem dX13_readHouse_77 : decode cX13_readHouse 77 = .ok (.idiv, 1) := by decide +kernel
theorem dX13_readHouse_78 : decode cX13_readHouse 78 = .ok (.invokestatic 348, 3) := by decide +kernel
theorem dX13_readHouse_81 : decode cX13_readHouse 81 = .ok (.ifCond .eq 9, 3) := by decide +kernel
theorem dX13_readHouse_84 : decode cX13_readHouse 84 = .ok (.aload_n 0, 1) := by decide +kernel
theorem dX13_readHouse_85 : decode cX13_readHouse 85 = .ok (.bipush 7, 2) := by decide +kernel
theorem dX13_readHouse_87 : decode cX13_readHouse 87 = .ok (.invokevirtual 137, 3) := by decide +kernel
theorem dX13_readHouse_90 : decode cX13_readHouse 90 = .ok (.aload_n 0, 1) := by decide +kernel
theorem dX13_readHouse_91 : decode cX13_readHouse 91 = .ok (.invokevirtual 130, 3) := by decide +kernel
theorem dX13_readHouse_94 : decode cX13_readHouse 94 = .ok (.aload_n 0, 1) := by decide +kernel
theorem dX13_readHouse_95 : decode cX13_readHouse 95 = .ok (.ldc_w 352, 3) := by decide +kernel
theorem dX13_readHouse_98 : decode cX13_readHouse 98 = .ok (.invokevirtual 149, 3) := by decide +kernel
theorem dX13_readHouse_101 : decode cX13_readHouse 101 = .ok (.aload_n 0, 1) := by decide +kernel
theorem dX13_readHouse_102 : decode cX13_readHouse 102 = .ok (.iconst 0, 1) := by decide +kernel
theorem dX13_readHouse_103 : decode cX13_readHouse 103 = .ok (.invokevirtual 354, 3) := by decide +kernel
theorem dX13_readHouse_106 : decode cX13_readHouse 106 = .ok (.istore 4, 2) := by decide +kernel
theorem dX13_readHouse_108 : decode cX13_readHouse 108 = .ok (.aload_n 0, 1) := by decide +kernel
theorem dX13_readHouse_109 : decode cX13_readHouse 109 = .ok (.ldc_w 357, 3) := by decide +kernel
theorem dX13_readHouse_112 : decode cX13_readHouse 112 = .ok (.iconst 0, 1) := by decide +kernel
theorem dX13_readHouse_113 : decode cX13_readHouse 113 = .ok (.bipush 99, 2) := by decide +kernel
theorem dX13_readHouse_115 : decode cX13_readHouse 115 = .ok (.invokevirtual 264, 3) := by decide +kernel
theorem dX13_readHouse_118 : decode cX13_readHouse 118 = .ok (.istore 5, 2) := by decide +kernel
theorem dX13_readHouse_120 : decode cX13_readHouse 120 = .ok (.aload_n 0, 1) := by decide +kernel
theorem dX13_readHouse_121 : decode cX13_readHouse 121 = .ok (.ldc_w 359, 3) := by decide +kernel
theorem dX13_readHouse_124 : decode cX13_readHouse 124 = .ok (.iconst 0, 1) := by decide +kernel
theorem dX13_readHouse_125 : decode cX13_readHouse 125 = .ok (.sipush 999, 3) := by decide +kernel
theorem dX13_readHouse_128 : decode cX13_readHouse 128 = .ok (.invokevirtual 264, 3) := by decide +kernel
theorem dX13_readHouse_131 : decode cX13_readHouse 131 = .ok (.istore 6, 2) := by decide +kernel
theorem dX13_readHouse_133 : decode cX13_readHouse 133 = .ok (.aload_n 0, 1) := by decide +kernel
theorem dX13_readHouse_134 : decode cX13_readHouse 134 = .ok (.getfield 91, 3) := by decide +kernel
theorem dX13_readHouse_137 : decode cX13_readHouse 137 = .ok (.iconst 5, 1) := by decide +kernel
theorem dX13_readHouse_138 : decode cX13_readHouse 138 = .ok (.if_icmp .ne 4, 3) := by decide +kernel
theorem dX13_readHouse_141 : decode cX13_readHouse 141 = .ok (.return_, 1) := by decide +kernel
theorem dX13_readHouse_142 : decode cX13_readHouse 142 = .ok (.aload_n 0, 1) := by decide +kernel
theorem dX13_readHouse_143 : decode cX13_readHouse 143 = .ok (.getfield 156, 3) := by decide +kernel
theorem dX13_readHouse_146 : decode cX13_readHouse 146 = .ok (.getfield 229, 3) := by decide +kernel
theorem dX13_readHouse_149 : decode cX13_readHouse 149 = .ok (.istore 7, 2) := by decide +kernel
theorem dX13_readHouse_151 : decode cX13_readHouse 151 = .ok (.aload_n 0, 1) := by decide +kernel
theorem dX13_readHouse_152 : decode cX13_readHouse 152 = .ok (.lload_n 1, 1) := by decide +kernel
theorem dX13_readHouse_153 : decode cX13_readHouse 153 = .ok (.iconst 1, 1) := by decide +kernel
theorem dX13_readHouse_154 : decode cX13_readHouse 154 = .ok (.iload 7, 2) := by decide +kernel
theorem dX13_readHouse_156 : decode cX13_readHouse 156 = .ok (.invokevirtual 329, 3) := by decide +kernel
theorem dX13_readHouse_159 : decode cX13_readHouse 159 = .ok (.aload_n 0, 1) := by decide +kernel
theorem dX13_readHouse_160 : decode cX13_readHouse 160 = .ok (.getfield 156, 3) := by decide +kernel
theorem dX13_readHouse_163 : decode cX13_readHouse 163 = .ok (.getfield 361, 3) := by decide +kernel
theorem dX13_readHouse_166 : decode cX13_readHouse 166 = .ok (.iload 7, 2) := by decide +kernel
theorem dX13_readHouse_168 : decode cX13_readHouse 168 = .ok (.iload_n 3, 1) := by decide +kernel
theorem dX13_readHouse_169 : decode cX13_readHouse 169 = .ok (.iastore, 1) := by decide +kernel
theorem dX13_readHouse_170 : decode cX13_readHouse 170 = .ok (.aload_n 0, 1) := by decide +kernel
theorem dX13_readHouse_171 : decode cX13_readHouse 171 = .ok (.getfield 156, 3) := by decide +kernel
theorem dX13_readHouse_174 : decode cX13_readHouse 174 = .ok (.getfield 364, 3) := by decide +kernel
theorem dX13_readHouse_177 : decode cX13_readHouse 177 = .ok (.iload 7, 2) := by decide +kernel
theorem dX13_readHouse_179 : decode cX13_readHouse 179 = .ok (.iload 4, 2) := by decide +kernel
theorem dX13_readHouse_181 : decode cX13_readHouse 181 = .ok (.iastore, 1) := by decide +kernel
theorem dX13_readHouse_182 : decode cX13_readHouse 182 = .ok (.aload_n 0, 1) := by decide +kernel
theorem dX13_readHouse_183 : decode cX13_readHouse 183 = .ok (.getfield 156, 3) := by decide +kernel
theorem dX13_readHouse_186 : decode cX13_readHouse 186 = .ok (.getfield 345, 3) := by decide +kernel
theorem dX13_readHouse_189 : decode cX13_readHouse 189 = .ok (.iconst 4, 1) := by decide +kernel
theorem dX13_readHouse_190 : decode cX13_readHouse 190 = .ok (.iload 7, 2) := by decide +kernel
theorem dX13_readHouse_192 : decode cX13_readHouse 192 = .ok (.iadd, 1) := by decide +kernel
theorem dX13_readHouse_193 : decode cX13_readHouse 193 = .ok (.iload 5, 2) := by decide +kernel
theorem dX13_readHouse_195 : decode cX13_readHouse 195 = .ok (.iastore, 1) := by decide +kernel
theorem dX13_readHouse_196 : decode cX13_readHouse 196 = .ok (.aload_n 0, 1) := by decide +kernel
theorem dX13_readHouse_197 : decode cX13_readHouse 197 = .ok (.getfield 156, 3) := by decide +kernel
theorem dX13_readHouse_200 : decode cX13_readHouse 200 = .ok (.getfield 345, 3) := by decide +kernel
theorem dX13_readHouse_203 : decode cX13_readHouse 203 = .ok (.bipush 8, 2) := by decide +kernel
theorem dX13_readHouse_205 : decode cX13_readHouse 205 = .ok (.iload 7, 2) := by decide +kernel
theorem dX13_readHouse_207 : decode cX13_readHouse 207 = .ok (.iadd, 1) := by decide +kernel
theorem dX13_readHouse_208 : decode cX13_readHouse 208 = .ok (.iload 6, 2) := by decide +kernel
theorem dX13_readHouse_210 : decode cX13_readHouse 210 = .ok (.iastore, 1) := by decide +kernel
theorem dX13_readHouse_211 : decode cX13_readHouse 211 = .ok (.aload_n 0, 1) := by decide +kernel
theorem dX13_readHouse_212 : decode cX13_readHouse 212 = .ok (.getfield 156, 3) := by decide +kernel
theorem dX13_readHouse_215 : decode cX13_readHouse 215 = .ok (.dup, 1) := by decide +kernel
theorem dX13_readHouse_216 : decode cX13_readHouse 216 = .ok (.getfield 229, 3) := by decide +kernel
theorem dX13_readHouse_219 : decode cX13_readHouse 219 = .ok (.iconst 1, 1) := by decide +kernel
theorem dX13_readHouse_220 : decode cX13_readHouse 220 = .ok (.iadd, 1) := by decide +kernel
theorem dX13_readHouse_221 : decode cX13_readHouse 221 = .ok (.putfield 229, 3) := by decide +kernel
theorem dX13_readHouse_224 : decode cX13_readHouse 224 = .ok (.return_, 1) := by decide +kernel
theorem dX13_readKnown_0 : decode cX13_readKnown 0 = .ok (.aload_n 0, 1) := by decide +kernel
theorem dX13_readKnown_1 : decode cX13_readKnown 1 = .ok (.iload_n 1, 1) := by decide +kernel
theorem dX13_readKnown_2 : decode cX13_readKnown 2 = .ok (.invokevirtual 214, 3) := by decide +kernel
theorem dX13_readKnown_5 : decode cX13_readKnown 5 = .ok (.istore_n 2, 1) := by decide +kernel
theorem dX13_readKnown_6 : decode cX13_readKnown 6 = .ok (.aload_n 0, 1) := by decide +kernel
theorem dX13_readKnown_7 : decode cX13_readKnown 7 = .ok (.invokevirtual 130, 3) := by decide +kernel
theorem dX13_readKnown_10 : decode cX13_readKnown 10 = .ok (.iload_n 2, 1) := by decide +kernel
theorem dX13_readKnown_11 : decode cX13_readKnown 11 = .ok (.ireturn, 1) := by decide +kernel
theorem dX13_readLand_0 : decode cX13_readLand 0 = .ok (.aload_n 0, 1) := by decide +kernel
theorem dX13_readLand_1 : decode cX13_readLand 1 = .ok (.getfield 156, 3) := by decide +kernel
theorem dX13_readLand_4 : decode cX13_readLand 4 = .ok (.getfield 160, 3) := by decide +kernel
theorem dX13_readLand_7 : decode cX13_readLand 7 = .ok (.ifCond .le 8, 3) := by decide +kernel
theorem dX13_readLand_10 : decode cX13_readLand 10 = .ok (.aload_n 0, 1) := by decide +kernel
theorem dX13_readLand_11 : decode cX13_readLand 11 = .ok (.iconst 3, 1) := by decide +kernel
theorem dX13_readLand_12 : decode cX13_readLand 12 = .ok (.invokevirtual 137, 3) := by decide +kernel
theorem dX13_readLand_15 : decode cX13_readLand 15 = .ok (.aload_n 0, 1) := by decide +kernel
theorem dX13_readLand_16 : decode cX13_readLand 16 = .ok (.invokevirtual 130, 3) := by decide +kernel
theorem dX13_readLand_19 : decode cX13_readLand 19 = .ok (.aload_n 0, 1) := by decide +kernel
theorem dX13_readLand_20 : decode cX13_readLand 20 = .ok (.ldc_w 263, 3) := by decide +kernel
theorem dX13_readLand_23 : decode cX13_readLand 23 = .ok (.iconst 3, 1) := by decide +kernel
theorem dX13_readLand_24 : decode cX13_readLand 24 = .ok (.bipush 12, 2) := by decide +kernel
theorem dX13_readLand_26 : decode cX13_readLand 26 = .ok (.invokevirtual 264, 3) := by decide +kernel
theorem dX13_readLand_29 : decode cX13_readLand 29 = .ok (.istore_n 1, 1) := by decide +kernel
theorem dX13_readLand_30 : decode cX13_readLand 30 = .ok (.aload_n 0, 1) := by decide +kernel
theorem dX13_readLand_31 : decode cX13_readLand 31 = .ok (.ldc_w 268, 3) := by decide +kernel
theorem dX13_readLand_34 : decode cX13_readLand 34 = .ok (.iconst 3, 1) := by decide +kernel
theorem dX13_readLand_35 : decode cX13_readLand 35 = .ok (.bipush 12, 2) := by decide +kernel
theorem dX13_readLand_37 : decode cX13_readLand 37 = .ok (.invokevirtual 264, 3) := by decide +kernel
theorem dX13_readLand_40 : decode cX13_readLand 40 = .ok (.istore_n 2, 1) := by decide +kernel
theorem dX13_readLand_41 : decode cX13_readLand 41 = .ok (.aload_n 0, 1) := by decide +kernel
theorem dX13_readLand_42 : decode cX13_readLand 42 = .ok (.ldc_w 269, 3) := by decide +kernel
theorem dX13_readLand_45 : decode cX13_readLand 45 = .ok (.invokevirtual 149, 3) := by decide +kernel
theorem dX13_readLand_48 : decode cX13_readLand 48 = .ok (.aload_n 0, 1) := by decide +kernel
theorem dX13_readLand_49 : decode cX13_readLand 49 = .ok (.ldc_w 271, 3) := by decide +kernel
theorem dX13_readLand_52 : decode cX13_readLand 52 = .ok (.invokevirtual 133, 3) := by decide +kernel
theorem dX13_readLand_55 : decode cX13_readLand 55 = .ok (.istore_n 3, 1) := by decide +kernel
theorem dX13_readLand_56 : decode cX13_readLand 56 = .ok (.iload_n 3, 1) := by decide +kernel
theorem dX13_readLand_57 : decode cX13_readLand 57 = .ok (.ifCond .ne 18, 3) := by decide +kernel
theorem dX13_readLand_60 : decode cX13_readLand 60 = .ok (.aload_n 0, 1) := by decide +kernel
theorem dX13_readLand_61 : decode cX13_readLand 61 = .ok (.ldc_w 273, 3) := by decide +kernel
theorem dX13_readLand_64 : decode cX13_readLand 64 = .ok (.invokevirtual 133, 3) := by decide +kernel
theorem dX13_readLand_67 : decode cX13_readLand 67 = .ok (.ifCond .ne 8, 3) := by decide +kernel
theorem dX13_readLand_70 : decode cX13_readLand 70 = .ok (.aload_n 0, 1) := by decide +kernel
theorem dX13_readLand_71 : decode cX13_readLand 71 = .ok (.iconst 1, 1) := by decide +kernel
theorem dX13_readLand_72 : decode cX13_readLand 72 = .ok (.invokevirtual 137, 3) := by decide +kernel
theorem dX13_readLand_75 : decode cX13_readLand 75 = .ok (.aload_n 0, 1) := by decide +kernel
theorem dX13_readLand_76 : decode cX13_readLand 76 = .ok (.invokevirtual 130, 3) := by decide +kernel
theorem dX13_readLand_79 : decode cX13_readLand 79 = .ok (.aload_n 0, 1) := by decide +kernel
theorem dX13_readLand_80 : decode cX13_readLand 80 = .ok (.ldc_w 275, 3) := by decide +kernel
theorem dX13_readLand_83 : decode cX13_readLand 83 = .ok (.invokevirtual 149, 3) := by decide +kernel
theorem dX13_readLand_86 : decode cX13_readLand 86 = .ok (.aload_n 0, 1) := by decide +kernel
theorem dX13_readLand_87 : decode cX13_readLand 87 = .ok (.ldc_w 277, 3) := by decide +kernel
theorem dX13_readLand_90 : decode cX13_readLand 90 = .ok (.invokevirtual 133, 3) := by decide +kernel
theorem dX13_readLand_93 : decode cX13_readLand 93 = .ok (.istore 4, 2) := by decide +kernel
theorem dX13_readLand_95 : decode cX13_readLand 95 = .ok (.iload 4, 2) := by decide +kernel
theorem dX13_readLand_97 : decode cX13_readLand 97 = .ok (.ifCond .ne 18, 3) := by decide +kernel
theorem dX13_readLand_100 : decode cX13_readLand 100 = .ok (.aload_n 0, 1) := by decide +kernel
theorem dX13_readLand_101 : decode cX13_readLand 101 = .ok (.ldc_w 279, 3) := by decide +kernel
theorem dX13_readLand_104 : decode cX13_readLand 104 = .ok (.invokevirtual 133, 3) := by decide +kernel
theorem dX13_readLand_107 : decode cX13_readLand 107 = .ok (.ifCond .ne 8, 3) := by decide +kernel
theorem dX13_readLand_110 : decode cX13_readLand 110 = .ok (.aload_n 0, 1) := by decide +kernel
theorem dX13_readLand_111 : decode cX13_readLand 111 = .ok (.iconst 1, 1) := by decide +kernel
theorem dX13_readLand_112 : decode cX13_readLand 112 = .ok (.invokevirtual 137, 3) := by decide +kernel
theorem dX13_readLand_115 : decode cX13_readLand 115 = .ok (.aload_n 0, 1) := by decide +kernel
theorem dX13_readLand_116 : decode cX13_readLand 116 = .ok (.invokevirtual 130, 3) := by decide +kernel
theorem dX13_readLand_119 : decode cX13_readLand 119 = .ok (.aload_n 0, 1) := by decide +kernel
theorem dX13_readLand_120 : decode cX13_readLand 120 = .ok (.getfield 91, 3) := by decide +kernel
theorem dX13_readLand_123 : decode cX13_readLand 123 = .ok (.iconst 5, 1) := by decide +kernel
theorem dX13_readLand_124 : decode cX13_readLand 124 = .ok (.if_icmp .ne 4, 3) := by decide +kernel
theorem dX13_readLand_127 : decode cX13_readLand 127 = .ok (.return_, 1) := by decide +kernel
theorem dX13_readLand_128 : decode cX13_readLand 128 = .ok (.aload_n 0, 1) := by decide +kernel
theorem dX13_readLand_129 : decode cX13_readLand 129 = .ok (.getfield 156, 3) := by decide +kernel
theorem dX13_readLand_132 : decode cX13_readLand 132 = .ok (.iload_n 1, 1) := by decide +kernel
theorem dX13_readLand_133 : decode cX13_readLand 133 = .ok (.putfield 160, 3) := by decide +kernel
theorem dX13_readLand_136 : decode cX13_readLand 136 = .ok (.aload_n 0, 1) := by decide +kernel
theorem dX13_readLand_137 : decode cX13_readLand 137 = .ok (.getfield 156, 3) := by decide +kernel
theorem dX13_readLand_140 : decode cX13_readLand 140 = .ok (.iload_n 2, 1) := by decide +kernel
theorem dX13_readLand_141 : decode cX13_readLand 141 = .ok (.putfield 168, 3) := by decide +kernel
theorem dX13_readLand_144 : decode cX13_readLand 144 = .ok (.aload_n 0, 1) := by decide +kernel
theorem dX13_readLand_145 : decode cX13_readLand 145 = .ok (.getfield 156, 3) := by decide +kernel
theorem dX13_readLand_148 : decode cX13_readLand 148 = .ok (.iload_n 3, 1) := by decide +kernel
theorem dX13_readLand_149 : decode cX13_readLand 149 = .ok (.putfield 281, 3) := by decide +kernel
theorem dX13_readLand_152 : decode cX13_readLand 152 = .ok (.aload_n 0, 1) := by decide +kernel
theorem dX13_readLand_153 : decode cX13_readLand 153 = .ok (.getfield 156, 3) := by decide +kernel
theorem dX13_readLand_156 : decode cX13_readLand 156 = .ok (.iload 4, 2) := by decide +kernel
theorem dX13_readLand_158 : decode cX13_readLand 158 = .ok (.putfield 284, 3) := by decide +kernel
theorem dX13_readLand_161 : decode cX13_readLand 161 = .ok (.return_, 1) := by decide +kernel
theorem dX13_readLine_0 : decode cX13_readLine 0 = .ok (.aload_n 0, 1) := by decide +kernel
theorem dX13_readLine_1 : decode cX13_readLine 1 = .ok (.ldc 171, 2) := by decide +kernel
theorem dX13_readLine_3 : decode cX13_readLine 3 = .ok (.invokevirtual 133, 3) := by decide +kernel
theorem dX13_readLine_6 : decode cX13_readLine 6 = .ok (.ifCond .eq 10, 3) := by decide +kernel
theorem dX13_readLine_9 : decode cX13_readLine 9 = .ok (.aload_n 0, 1) := by decide +kernel
theorem dX13_readLine_10 : decode cX13_readLine 10 = .ok (.invokevirtual 232, 3) := by decide +kernel
theorem dX13_readLine_13 : decode cX13_readLine 13 = .ok (.goto 170, 3) := by decide +kernel
theorem dX13_readLine_16 : decode cX13_readLine 16 = .ok (.aload_n 0, 1) := by decide +kernel
theorem dX13_readLine_17 : decode cX13_readLine 17 = .ok (.ldc 173, 2) := by decide +kernel
theorem dX13_readLine_19 : decode cX13_readLine 19 = .ok (.invokevirtual 133, 3) := by decide +kernel
theorem dX13_readLine_22 : decode cX13_readLine 22 = .ok (.ifCond .eq 10, 3) := by decide +kernel
theorem dX13_readLine_25 : decode cX13_readLine 25 = .ok (.aload_n 0, 1) := by decide +kernel
theorem dX13_readLine_26 : decode cX13_readLine 26 = .ok (.invokevirtual 235, 3) := by decide +kernel
theorem dX13_readLine_29 : decode cX13_readLine 29 = .ok (.goto 154, 3) := by decide +kernel
theorem dX13_readLine_32 : decode cX13_readLine 32 = .ok (.aload_n 0, 1) := by decide +kernel
theorem dX13_readLine_33 : decode cX13_readLine 33 = .ok (.ldc 175, 2) := by decide +kernel
theorem dX13_readLine_35 : decode cX13_readLine 35 = .ok (.invokevirtual 133, 3) := by decide +kernel
theorem dX13_readLine_38 : decode cX13_readLine 38 = .ok (.ifCond .eq 10, 3) := by decide +kernel
theorem dX13_readLine_41 : decode cX13_readLine 41 = .ok (.aload_n 0, 1) := by decide +kernel
theorem dX13_readLine_42 : decode cX13_readLine 42 = .ok (.invokevirtual 238, 3) := by decide +kernel
theorem dX13_readLine_45 : decode cX13_readLine 45 = .ok (.goto 138, 3) := by decide +kernel
theorem dX13_readLine_48 : decode cX13_readLine 48 = .ok (.aload_n 0, 1) := by decide +kernel
theorem dX13_readLine_49 : decode cX13_readLine 49 = .ok (.ldc 177, 2) := by decide +kernel
theorem dX13_readLine_51 : decode cX13_readLine 51 = .ok (.invokevirtual 133, 3) := by decide +kernel
theorem dX13_readLine_54 : decode cX13_readLine 54 = .ok (.ifCond .eq 10, 3) := by decide +kernel
theorem dX13_readLine_57 : decode cX13_readLine 57 = .ok (.aload_n 0, 1) := by decide +kernel
theorem dX13_readLine_58 : decode cX13_readLine 58 = .ok (.invokevirtual 241, 3) := by decide +kernel
theorem dX13_readLine_61 : decode cX13_readLine 61 = .ok (.goto 122, 3) := by decide +kernel
theorem dX13_readLine_64 : decode cX13_readLine 64 = .ok (.aload_n 0, 1) := by decide +kernel
theorem dX13_readLine_65 : decode cX13_readLine 65 = .ok (.ldc 179, 2) := by decide +kernel
theorem dX13_readLine_67 : decode cX13_readLine 67 = .ok (.invokevirtual 133, 3) := by decide +kernel
theorem dX13_readLine_70 : decode cX13_readLine 70 = .ok (.ifCond .eq 10, 3) := by decide +kernel
theorem dX13_readLine_73 : decode cX13_readLine 73 = .ok (.aload_n 0, 1) := by decide +kernel
theorem dX13_readLine_74 : decode cX13_readLine 74 = .ok (.invokevirtual 244, 3) := by decide +kernel
theorem dX13_readLine_77 : decode cX13_readLine 77 = .ok (.goto 106, 3) := by decide +kernel
theorem dX13_readLine_80 : decode cX13_readLine 80 = .ok (.aload_n 0, 1) := by decide +kernel
theorem dX13_readLine_81 : decode cX13_readLine 81 = .ok (.ldc 181, 2) := by decide +kernel
theorem dX13_readLine_83 : decode cX13_readLine 83 = .ok (.invokevirtual 133, 3) := by decide +kernel
theorem dX13_readLine_86 : decode cX13_readLine 86 = .ok (.ifCond .eq 10, 3) := by decide +kernel
theorem dX13_readLine_89 : decode cX13_readLine 89 = .ok (.aload_n 0, 1) := by decide +kernel
theorem dX13_readLine_90 : decode cX13_readLine 90 = .ok (.invokevirtual 247, 3) := by decide +kernel
theorem dX13_readLine_93 : decode cX13_readLine 93 = .ok (.goto 90, 3) := by decide +kernel
theorem dX13_readLine_96 : decode cX13_readLine 96 = .ok (.aload_n 0, 1) := by decide +kernel
theorem dX13_readLine_97 : decode cX13_readLine 97 = .ok (.ldc 183, 2) := by decide +kernel
theorem dX13_readLine_99 : decode cX13_readLine 99 = .ok (.invokevirtual 133, 3) := by decide +kernel
theorem dX13_readLine_102 : decode cX13_readLine 102 = .ok (.ifCond .eq 10, 3) := by decide +kernel
theorem dX13_readLine_105 : decode cX13_readLine 105 = .ok (.aload_n 0, 1) := by decide +kernel
theorem dX13_readLine_106 : decode cX13_readLine 106 = .ok (.invokevirtual 250, 3) := by decide +kernel
theorem dX13_readLine_109 : decode cX13_readLine 109 = .ok (.goto 74, 3) := by decide +kernel
theorem dX13_readLine_112 : decode cX13_readLine 112 = .ok (.aload_n 0, 1) := by decide +kernel
theorem dX13_readLine_113 : decode cX13_readLine 113 = .ok (.ldc 185, 2) := by decide +kernel
theorem dX13_readLine_115 : decode cX13_readLine 115 = .ok (.invokevirtual 133, 3) := by decide +kernel
theorem dX13_readLine_118 : decode cX13_readLine 118 = .ok (.ifCond .eq 10, 3) := by decide +kernel
theorem dX13_readLine_121 : decode cX13_readLine 121 = .ok (.aload_n 0, 1) := by decide +kernel
theorem dX13_readLine_122 : decode cX13_readLine 122 = .ok (.invokevirtual 253, 3) := by decide +kernel
theorem dX13_readLine_125 : decode cX13_readLine 125 = .ok (.goto 58, 3) := by decide +kernel
theorem dX13_readLine_128 : decode cX13_readLine 128 = .ok (.aload_n 0, 1) := by decide +kernel
theorem dX13_readLine_129 : decode cX13_readLine 129 = .ok (.ldc 187, 2) := by decide +kernel
theorem dX13_readLine_131 : decode cX13_readLine 131 = .ok (.invokevirtual 133, 3) := by decide +kernel
theorem dX13_readLine_134 : decode cX13_readLine 134 = .ok (.ifCond .eq 10, 3) := by decide +kernel
theorem dX13_readLine_137 : decode cX13_readLine 137 = .ok (.aload_n 0, 1) := by decide +kernel
theorem dX13_readLine_138 : decode cX13_readLine 138 = .ok (.invokevirtual 256, 3) := by decide +kernel
theorem dX13_readLine_141 : decode cX13_readLine 141 = .ok (.goto 42, 3) := by decide +kernel
theorem dX13_readLine_144 : decode cX13_readLine 144 = .ok (.aload_n 0, 1) := by decide +kernel
theorem dX13_readLine_145 : decode cX13_readLine 145 = .ok (.ldc 189, 2) := by decide +kernel
theorem dX13_readLine_147 : decode cX13_readLine 147 = .ok (.invokevirtual 133, 3) := by decide +kernel
theorem dX13_readLine_150 : decode cX13_readLine 150 = .ok (.ifCond .eq 11, 3) := by decide +kernel
theorem dX13_readLine_153 : decode cX13_readLine 153 = .ok (.aload_n 0, 1) := by decide +kernel
theorem dX13_readLine_154 : decode cX13_readLine 154 = .ok (.iconst 1, 1) := by decide +kernel
theorem dX13_readLine_155 : decode cX13_readLine 155 = .ok (.invokevirtual 259, 3) := by decide +kernel
theorem dX13_readLine_158 : decode cX13_readLine 158 = .ok (.goto 25, 3) := by decide +kernel
theorem dX13_readLine_161 : decode cX13_readLine 161 = .ok (.aload_n 0, 1) := by decide +kernel
theorem dX13_readLine_162 : decode cX13_readLine 162 = .ok (.ldc 191, 2) := by decide +kernel
theorem dX13_readLine_164 : decode cX13_readLine 164 = .ok (.invokevirtual 133, 3) := by decide +kernel
theorem dX13_readLine_167 : decode cX13_readLine 167 = .ok (.ifCond .eq 11, 3) := by decide +kernel
theorem dX13_readLine_170 : decode cX13_readLine 170 = .ok (.aload_n 0, 1) := by decide +kernel
theorem dX13_readLine_171 : decode cX13_readLine 171 = .ok (.iconst 0, 1) := by decide +kernel
theorem dX13_readLine_172 : decode cX13_readLine 172 = .ok (.invokevirtual 259, 3) := by decide +kernel
theorem dX13_readLine_175 : decode cX13_readLine 175 = .ok (.goto 8, 3) := by decide +kernel
theorem dX13_readLine_178 : decode cX13_readLine 178 = .ok (.aload_n 0, 1) := by decide +kernel
theorem dX13_readLine_179 : decode cX13_readLine 179 = .ok (.iconst 1, 1) := by decide +kernel
theorem dX13_readLine_180 : decode cX13_readLine 180 = .ok (.invokevirtual 137, 3) := by decide +kernel
theorem dX13_readLine_183 : decode cX13_readLine 183 = .ok (.return_, 1) := by decide +kernel
theorem dX13_readOlder_0 : decode cX13_readOlder 0 = .ok (.aload_n 0, 1) := by decide +kernel
theorem dX13_readOlder_1 : decode cX13_readOlder 1 = .ok (.aload_n 0, 1) := by decide +kernel
theorem dX13_readOlder_2 : decode cX13_readOlder 2 = .ok (.getfield 156, 3) := by decide +kernel
theorem dX13_readOlder_5 : decode cX13_readOlder 5 = .ok (.getfield 401, 3) := by decide +kernel
theorem dX13_readOlder_8 : decode cX13_readOlder 8 = .ok (.bipush 8, 2) := by decide +kernel
theorem dX13_readOlder_10 : decode cX13_readOlder 10 = .ok (.invokevirtual 286, 3) := by decide +kernel
theorem dX13_readOlder_13 : decode cX13_readOlder 13 = .ok (.aload_n 0, 1) := by decide +kernel
theorem dX13_readOlder_14 : decode cX13_readOlder 14 = .ok (.iconst 3, 1) := by decide +kernel
theorem dX13_readOlder_15 : decode cX13_readOlder 15 = .ok (.invokevirtual 354, 3) := by decide +kernel
theorem dX13_readOlder_18 : decode cX13_readOlder 18 = .ok (.istore_n 1, 1) := by decide +kernel
theorem dX13_readOlder_19 : decode cX13_readOlder 19 = .ok (.aload_n 0, 1) := by decide +kernel
theorem dX13_readOlder_20 : decode cX13_readOlder 20 = .ok (.iconst 3, 1) := by decide +kernel
theorem dX13_readOlder_21 : decode cX13_readOlder 21 = .ok (.invokevirtual 214, 3) := by decide +kernel
theorem dX13_readOlder_24 : decode cX13_readOlder 24 = .ok (.istore_n 2, 1) := by decide +kernel
theorem dX13_readOlder_25 : decode cX13_readOlder 25 = .ok (.aload_n 0, 1) := by decide +kernel
theorem dX13_readOlder_26 : decode cX13_readOlder 26 = .ok (.getfield 91, 3) := by decide +kernel
theorem dX13_readOlder_29 : decode cX13_readOlder 29 = .ok (.iconst 5, 1) := by decide +kernel
theorem dX13_readOlder_30 : decode cX13_readOlder 30 = .ok (.if_icmp .eq 45, 3) := by decide +kernel
theorem dX13_readOlder_33 : decode cX13_readOlder 33 = .ok (.iload_n 1, 1) := by decide +kernel
theorem dX13_readOlder_34 : decode cX13_readOlder 34 = .ok (.iload_n 2, 1) := by decide +kernel
theorem dX13_readOlder_35 : decode cX13_readOlder 35 = .ok (.if_icmp .eq 35, 3) := by decide +kernel
theorem dX13_readOlder_38 : decode cX13_readOlder 38 = .ok (.aload_n 0, 1) := by decide +kernel
theorem dX13_readOlder_39 : decode cX13_readOlder 39 = .ok (.getfield 156, 3) := by decide +kernel
theorem dX13_readOlder_42 : decode cX13_readOlder 42 = .ok (.getfield 404, 3) := by decide +kernel
theorem dX13_readOlder_45 : decode cX13_readOlder 45 = .ok (.iload_n 1, 1) := by decide +kernel
theorem dX13_readOlder_46 : decode cX13_readOlder 46 = .ok (.iaload, 1) := by decide +kernel
theorem dX13_readOlder_47 : decode cX13_readOlder 47 = .ok (.iload_n 2, 1) := by decide +kernel
theorem dX13_readOlder_48 : decode cX13_readOlder 48 = .ok (.invokestatic 406, 3) := by decide +kernel
theorem dX13_readOlder_51 : decode cX13_readOlder 51 = .ok (.ifCond .ne 19, 3) := by decide +kernel
theorem dX13_readOlder_54 : decode cX13_readOlder 54 = .ok (.aload_n 0, 1) := by decide +kernel
theorem dX13_readOlder_55 : decode cX13_readOlder 55 = .ok (.getfield 156, 3) := by decide +kernel
theorem dX13_readOlder_58 : decode cX13_readOlder 58 = .ok (.getfield 404, 3) := by decide +kernel
theorem dX13_readOlder_61 : decode cX13_readOlder 61 = .ok (.iload_n 2, 1) := by decide +kernel
theorem dX13_readOlder_62 : decode cX13_readOlder 62 = .ok (.iaload, 1) := by decide +kernel
theorem dX13_readOlder_63 : decode cX13_readOlder 63 = .ok (.iload_n 1, 1) := by decide +kernel
theorem dX13_readOlder_64 : decode cX13_readOlder 64 = .ok (.invokestatic 406, 3) := by decide +kernel
theorem dX13_readOlder_67 : decode cX13_readOlder 67 = .ok (.ifCond .eq 8, 3) := by decide +kernel
theorem dX13_readOlder_70 : decode cX13_readOlder 70 = .ok (.aload_n 0, 1) := by decide +kernel
theorem dX13_readOlder_71 : decode cX13_readOlder 71 = .ok (.iconst 3, 1) := by decide +kernel
theorem dX13_readOlder_72 : decode cX13_readOlder 72 = .ok (.invokevirtual 137, 3) := by decide +kernel
theorem dX13_readOlder_75 : decode cX13_readOlder 75 = .ok (.aload_n 0, 1) := by decide +kernel
theorem dX13_readOlder_76 : decode cX13_readOlder 76 = .ok (.invokevirtual 130, 3) := by decide +kernel
theorem dX13_readOlder_79 : decode cX13_readOlder 79 = .ok (.aload_n 0, 1) := by decide +kernel
theorem dX13_readOlder_80 : decode cX13_readOlder 80 = .ok (.getfield 91, 3) := by decide +kernel
theorem dX13_readOlder_83 : decode cX13_readOlder 83 = .ok (.iconst 5, 1) := by decide +kernel
theorem dX13_readOlder_84 : decode cX13_readOlder 84 = .ok (.if_icmp .ne 4, 3) := by decide +kernel
theorem dX13_readOlder_87 : decode cX13_readOlder 87 = .ok (.return_, 1) := by decide +kernel
theorem dX13_readOlder_88 : decode cX13_readOlder 88 = .ok (.aload_n 0, 1) := by decide +kernel
theorem dX13_readOlder_89 : decode cX13_readOlder 89 = .ok (.getfield 156, 3) := by decide +kernel
theorem dX13_readOlder_92 : decode cX13_readOlder 92 = .ok (.getfield 404, 3) := by decide +kernel
theorem dX13_readOlder_95 : decode cX13_readOlder 95 = .ok (.iload_n 1, 1) := by decide +kernel
theorem dX13_readOlder_96 : decode cX13_readOlder 96 = .ok (.dup2, 1) := by decide +kernel
theorem dX13_readOlder_97 : decode cX13_readOlder 97 = .ok (.iaload, 1) := by decide +kernel
theorem dX13_readOlder_98 : decode cX13_readOlder 98 = .ok (.iconst 1, 1) := by decide +kernel
theorem dX13_readOlder_99 : decode cX13_readOlder 99 = .ok (.iload_n 2, 1) := by decide +kernel
theorem dX13_readOlder_100 : decode cX13_readOlder 100 = .ok (.ishl, 1) := by decide +kernel
theorem dX13_readOlder_101 : decode cX13_readOlder 101 = .ok (.ior, 1) := by decide +kernel
theorem dX13_readOlder_102 : decode cX13_readOlder 102 = .ok (.iastore, 1) := by decide +kernel
theorem dX13_readOlder_103 : decode cX13_readOlder 103 = .ok (.aload_n 0, 1) := by decide +kernel
theorem dX13_readOlder_104 : decode cX13_readOlder 104 = .ok (.getfield 156, 3) := by decide +kernel
theorem dX13_readOlder_107 : decode cX13_readOlder 107 = .ok (.dup, 1) := by decide +kernel
theorem dX13_readOlder_108 : decode cX13_readOlder 108 = .ok (.getfield 401, 3) := by decide +kernel
theorem dX13_readOlder_111 : decode cX13_readOlder 111 = .ok (.iconst 1, 1) := by decide +kernel
theorem dX13_readOlder_112 : decode cX13_readOlder 112 = .ok (.iadd, 1) := by decide +kernel
theorem dX13_readOlder_113 : decode cX13_readOlder 113 = .ok (.putfield 401, 3) := by decide +kernel
theorem dX13_readOlder_116 : decode cX13_readOlder 116 = .ok (.return_, 1) := by decide +kernel
theorem dX13_readPart_0 : decode cX13_readPart 0 = .ok (.aload_n 0, 1) := by decide +kernel
theorem dX13_readPart_1 : decode cX13_readPart 1 = .ok (.aload_n 1, 1) := by decide +kernel
theorem dX13_readPart_2 : decode cX13_readPart 2 = .ok (.invokevirtual 149, 3) := by decide +kernel
theorem dX13_readPart_5 : decode cX13_readPart 5 = .ok (.aload_n 0, 1) := by decide +kernel
theorem dX13_readPart_6 : decode cX13_readPart 6 = .ok (.iload_n 2, 1) := by decide +kernel
theorem dX13_readPart_7 : decode cX13_readPart 7 = .ok (.iload_n 3, 1) := by decide +kernel
theorem dX13_readPart_8 : decode cX13_readPart 8 = .ok (.invokevirtual 153, 3) := by decide +kernel
theorem dX13_readPart_11 : decode cX13_readPart 11 = .ok (.ireturn, 1) := by decide +kernel
theorem dX13_readSide_0 : decode cX13_readSide 0 = .ok (.aload_n 0, 1) := by decide +kernel
theorem dX13_readSide_1 : decode cX13_readSide 1 = .ok (.ldc_w 367, 3) := by decide +kernel
theorem dX13_readSide_4 : decode cX13_readSide 4 = .ok (.invokevirtual 133, 3) := by decide +kernel
theorem dX13_readSide_7 : decode cX13_readSide 7 = .ok (.ifCond .eq 7, 3) := by decide +kernel
theorem dX13_readSide_10 : decode cX13_readSide 10 = .ok (.iconst 0, 1) := by decide +kernel
theorem dX13_readSide_11 : decode cX13_readSide 11 = .ok (.goto 46, 3) := by decide +kernel
theorem dX13_readSide_14 : decode cX13_readSide 14 = .ok (.aload_n 0, 1) := by decide +kernel
theorem dX13_readSide_15 : decode cX13_readSide 15 = .ok (.ldc_w 369, 3) := by decide +kernel
theorem dX13_readSide_18 : decode cX13_readSide 18 = .ok (.invokevirtual 133, 3) := by decide +kernel
theorem dX13_readSide_21 : decode cX13_readSide 21 = .ok (.ifCond .eq 7, 3) := by decide +kernel
theorem dX13_readSide_24 : decode cX13_readSide 24 = .ok (.iconst 1, 1) := by decide +kernel
theorem dX13_readSide_25 : decode cX13_readSide 25 = .ok (.goto 32, 3) := by decide +kernel
theorem dX13_readSide_28 : decode cX13_readSide 28 = .ok (.aload_n 0, 1) := by decide +kernel
theorem dX13_readSide_29 : decode cX13_readSide 29 = .ok (.ldc_w 371, 3) := by decide +kernel
theorem dX13_readSide_32 : decode cX13_readSide 32 = .ok (.invokevirtual 133, 3) := by decide +kernel
theorem dX13_readSide_35 : decode cX13_readSide 35 = .ok (.ifCond .eq 7, 3) := by decide +kernel
theorem dX13_readSide_38 : decode cX13_readSide 38 = .ok (.iconst 2, 1) := by decide +kernel
theorem dX13_readSide_39 : decode cX13_readSide 39 = .ok (.goto 18, 3) := by decide +kernel
theorem dX13_readSide_42 : decode cX13_readSide 42 = .ok (.aload_n 0, 1) := by decide +kernel
theorem dX13_readSide_43 : decode cX13_readSide 43 = .ok (.ldc_w 373, 3) := by decide +kernel
theorem dX13_readSide_46 : decode cX13_readSide 46 = .ok (.invokevirtual 133, 3) := by decide +kernel
theorem dX13_readSide_49 : decode cX13_readSide 49 = .ok (.ifCond .eq 7, 3) := by decide +kernel
theorem dX13_readSide_52 : decode cX13_readSide 52 = .ok (.iconst 3, 1) := by decide +kernel
theorem dX13_readSide_53 : decode cX13_readSide 53 = .ok (.goto 4, 3) := by decide +kernel
theorem dX13_readSide_56 : decode cX13_readSide 56 = .ok (.iconst (-1), 1) := by decide +kernel
theorem dX13_readSide_57 : decode cX13_readSide 57 = .ok (.istore_n 1, 1) := by decide +kernel
theorem dX13_readSide_58 : decode cX13_readSide 58 = .ok (.iload_n 1, 1) := by decide +kernel
theorem dX13_readSide_59 : decode cX13_readSide 59 = .ok (.iconst (-1), 1) := by decide +kernel
theorem dX13_readSide_60 : decode cX13_readSide 60 = .ok (.if_icmp .ne 8, 3) := by decide +kernel
theorem dX13_readSide_63 : decode cX13_readSide 63 = .ok (.aload_n 0, 1) := by decide +kernel
theorem dX13_readSide_64 : decode cX13_readSide 64 = .ok (.iconst 1, 1) := by decide +kernel
theorem dX13_readSide_65 : decode cX13_readSide 65 = .ok (.invokevirtual 137, 3) := by decide +kernel
theorem dX13_readSide_68 : decode cX13_readSide 68 = .ok (.aload_n 0, 1) := by decide +kernel
theorem dX13_readSide_69 : decode cX13_readSide 69 = .ok (.invokevirtual 130, 3) := by decide +kernel
theorem dX13_readSide_72 : decode cX13_readSide 72 = .ok (.iload_n 1, 1) := by decide +kernel
theorem dX13_readSide_73 : decode cX13_readSide 73 = .ok (.ireturn, 1) := by decide +kernel
theorem dX13_readSign_0 : decode cX13_readSign 0 = .ok (.aload_n 0, 1) := by decide +kernel
theorem dX13_readSign_1 : decode cX13_readSign 1 = .ok (.iconst 0, 1) := by decide +kernel
theorem dX13_readSign_2 : decode cX13_readSign 2 = .ok (.iconst 1, 1) := by decide +kernel
theorem dX13_readSign_3 : decode cX13_readSign 3 = .ok (.invokevirtual 286, 3) := by decide +kernel
theorem dX13_readSign_6 : decode cX13_readSign 6 = .ok (.aload_n 0, 1) := by decide +kernel
theorem dX13_readSign_7 : decode cX13_readSign 7 = .ok (.iconst 3, 1) := by decide +kernel
theorem dX13_readSign_8 : decode cX13_readSign 8 = .ok (.invokevirtual 214, 3) := by decide +kernel
theorem dX13_readSign_11 : decode cX13_readSign 11 = .ok (.istore_n 2, 1) := by decide +kernel
theorem dX13_readSign_12 : decode cX13_readSign 12 = .ok (.aload_n 0, 1) := by decide +kernel
theorem dX13_readSign_13 : decode cX13_readSign 13 = .ok (.getfield 91, 3) := by decide +kernel
theorem dX13_readSign_16 : decode cX13_readSign 16 = .ok (.iconst 5, 1) := by decide +kernel
theorem dX13_readSign_17 : decode cX13_readSign 17 = .ok (.if_icmp .eq 37, 3) := by decide +kernel
theorem dX13_readSign_20 : decode cX13_readSign 20 = .ok (.iload_n 1, 1) := by decide +kernel
theorem dX13_readSign_21 : decode cX13_readSign 21 = .ok (.ifCond .eq 15, 3) := by decide +kernel
theorem dX13_readSign_24 : decode cX13_readSign 24 = .ok (.aload_n 0, 1) := by decide +kernel
theorem dX13_readSign_25 : decode cX13_readSign 25 = .ok (.getfield 156, 3) := by decide +kernel
theorem dX13_readSign_28 : decode cX13_readSign 28 = .ok (.getfield 397, 3) := by decide +kernel
theorem dX13_readSign_31 : decode cX13_readSign 31 = .ok (.iload_n 2, 1) := by decide +kernel
theorem dX13_readSign_32 : decode cX13_readSign 32 = .ok (.iaload, 1) := by decide +kernel
theorem dX13_readSign_33 : decode cX13_readSign 33 = .ok (.goto 12, 3) := by decide +kernel
theorem dX13_readSign_36 : decode cX13_readSign 36 = .ok (.aload_n 0, 1) := by decide +kernel
theorem dX13_readSign_37 : decode cX13_readSign 37 = .ok (.getfield 156, 3) := by decide +kernel
theorem dX13_readSign_40 : decode cX13_readSign 40 = .ok (.getfield 399, 3) := by decide +kernel
theorem dX13_readSign_43 : decode cX13_readSign 43 = .ok (.iload_n 2, 1) := by decide +kernel
theorem dX13_readSign_44 : decode cX13_readSign 44 = .ok (.iaload, 1) := by decide +kernel
theorem dX13_readSign_45 : decode cX13_readSign 45 = .ok (.iconst (-1), 1) := by decide +kernel
theorem dX13_readSign_46 : decode cX13_readSign 46 = .ok (.if_icmp .eq 8, 3) := by decide +kernel
theorem dX13_readSign_49 : decode cX13_readSign 49 = .ok (.aload_n 0, 1) := by decide +kernel
theorem dX13_readSign_50 : decode cX13_readSign 50 = .ok (.iconst 3, 1) := by decide +kernel
theorem dX13_readSign_51 : decode cX13_readSign 51 = .ok (.invokevirtual 137, 3) := by decide +kernel
theorem dX13_readSign_54 : decode cX13_readSign 54 = .ok (.aload_n 0, 1) := by decide +kernel
theorem dX13_readSign_55 : decode cX13_readSign 55 = .ok (.invokevirtual 130, 3) := by decide +kernel
theorem dX13_readSign_58 : decode cX13_readSign 58 = .ok (.aload_n 0, 1) := by decide +kernel
theorem dX13_readSign_59 : decode cX13_readSign 59 = .ok (.iconst 0, 1) := by decide +kernel
theorem dX13_readSign_60 : decode cX13_readSign 60 = .ok (.sipush 999, 3) := by decide +kernel
theorem dX13_readSign_63 : decode cX13_readSign 63 = .ok (.invokevirtual 153, 3) := by decide +kernel
theorem dX13_readSign_66 : decode cX13_readSign 66 = .ok (.istore_n 3, 1) := by decide +kernel
theorem dX13_readSign_67 : decode cX13_readSign 67 = .ok (.aload_n 0, 1) := by decide +kernel
theorem dX13_readSign_68 : decode cX13_readSign 68 = .ok (.getfield 91, 3) := by decide +kernel
theorem dX13_readSign_71 : decode cX13_readSign 71 = .ok (.iconst 5, 1) := by decide +kernel
theorem dX13_readSign_72 : decode cX13_readSign 72 = .ok (.if_icmp .ne 4, 3) := by decide +kernel
theorem dX13_readSign_75 : decode cX13_readSign 75 = .ok (.return_, 1) := by decide +kernel
theorem dX13_readSign_76 : decode cX13_readSign 76 = .ok (.iload_n 1, 1) := by decide +kernel
theorem dX13_readSign_77 : decode cX13_readSign 77 = .ok (.ifCond .eq 16, 3) := by decide +kernel
theorem dX13_readSign_80 : decode cX13_readSign 80 = .ok (.aload_n 0, 1) := by decide +kernel
theorem dX13_readSign_81 : decode cX13_readSign 81 = .ok (.getfield 156, 3) := by decide +kernel
theorem dX13_readSign_84 : decode cX13_readSign 84 = .ok (.getfield 397, 3) := by decide +kernel
theorem dX13_readSign_87 : decode cX13_readSign 87 = .ok (.iload_n 2, 1) := by decide +kernel
theorem dX13_readSign_88 : decode cX13_readSign 88 = .ok (.iload_n 3, 1) := by decide +kernel
theorem dX13_readSign_89 : decode cX13_readSign 89 = .ok (.iastore, 1) := by decide +kernel
theorem dX13_readSign_90 : decode cX13_readSign 90 = .ok (.goto 13, 3) := by decide +kernel
theorem dX13_readSign_93 : decode cX13_readSign 93 = .ok (.aload_n 0, 1) := by decide +kernel
theorem dX13_readSign_94 : decode cX13_readSign 94 = .ok (.getfield 156, 3) := by decide +kernel
theorem dX13_readSign_97 : decode cX13_readSign 97 = .ok (.getfield 399, 3) := by decide +kernel
theorem dX13_readSign_100 : decode cX13_readSign 100 = .ok (.iload_n 2, 1) := by decide +kernel
theorem dX13_readSign_101 : decode cX13_readSign 101 = .ok (.iload_n 3, 1) := by decide +kernel
theorem dX13_readSign_102 : decode cX13_readSign 102 = .ok (.iastore, 1) := by decide +kernel
theorem dX13_readSign_103 : decode cX13_readSign 103 = .ok (.return_, 1) := by decide +kernel
theorem dX13_readSkin_0 : decode cX13_readSkin 0 = .ok (.aload_n 0, 1) := by decide +kernel
theorem dX13_readSkin_1 : decode cX13_readSkin 1 = .ok (.iconst 0, 1) := by decide +kernel
theorem dX13_readSkin_2 : decode cX13_readSkin 2 = .ok (.iconst 1, 1) := by decide +kernel
theorem dX13_readSkin_3 : decode cX13_readSkin 3 = .ok (.invokevirtual 286, 3) := by decide +kernel
theorem dX13_readSkin_6 : decode cX13_readSkin 6 = .ok (.aload_n 0, 1) := by decide +kernel
theorem dX13_readSkin_7 : decode cX13_readSkin 7 = .ok (.iconst 1, 1) := by decide +kernel
theorem dX13_readSkin_8 : decode cX13_readSkin 8 = .ok (.invokevirtual 214, 3) := by decide +kernel
theorem dX13_readSkin_11 : decode cX13_readSkin 11 = .ok (.istore_n 1, 1) := by decide +kernel
theorem dX13_readSkin_12 : decode cX13_readSkin 12 = .ok (.aload_n 0, 1) := by decide +kernel
theorem dX13_readSkin_13 : decode cX13_readSkin 13 = .ok (.getfield 91, 3) := by decide +kernel
theorem dX13_readSkin_16 : decode cX13_readSkin 16 = .ok (.iconst 5, 1) := by decide +kernel
theorem dX13_readSkin_17 : decode cX13_readSkin 17 = .ok (.if_icmp .eq 24, 3) := by decide +kernel
theorem dX13_readSkin_20 : decode cX13_readSkin 20 = .ok (.aload_n 0, 1) := by decide +kernel
theorem dX13_readSkin_21 : decode cX13_readSkin 21 = .ok (.getfield 156, 3) := by decide +kernel
theorem dX13_readSkin_24 : decode cX13_readSkin 24 = .ok (.getfield 345, 3) := by decide +kernel
theorem dX13_readSkin_27 : decode cX13_readSkin 27 = .ok (.iconst 0, 1) := by decide +kernel
theorem dX13_readSkin_28 : decode cX13_readSkin 28 = .ok (.iload_n 1, 1) := by decide +kernel
theorem dX13_readSkin_29 : decode cX13_readSkin 29 = .ok (.iadd, 1) := by decide +kernel
theorem dX13_readSkin_30 : decode cX13_readSkin 30 = .ok (.iaload, 1) := by decide +kernel
theorem dX13_readSkin_31 : decode cX13_readSkin 31 = .ok (.bipush 6, 2) := by decide +kernel
theorem dX13_readSkin_33 : decode cX13_readSkin 33 = .ok (.if_icmp .ne 8, 3) := by decide +kernel
theorem dX13_readSkin_36 : decode cX13_readSkin 36 = .ok (.aload_n 0, 1) := by decide +kernel
theorem dX13_readSkin_37 : decode cX13_readSkin 37 = .ok (.iconst 5, 1) := by decide +kernel
theorem dX13_readSkin_38 : decode cX13_readSkin 38 = .ok (.invokevirtual 137, 3) := by decide +kernel
theorem dX13_readSkin_41 : decode cX13_readSkin 41 = .ok (.aload_n 0, 1) := by decide +kernel
theorem dX13_readSkin_42 : decode cX13_readSkin 42 = .ok (.getfield 91, 3) := by decide +kernel
theorem dX13_readSkin_45 : decode cX13_readSkin 45 = .ok (.iconst 5, 1) := by decide +kernel
theorem dX13_readSkin_46 : decode cX13_readSkin 46 = .ok (.if_icmp .eq 27, 3) := by decide +kernel
theorem dX13_readSkin_49 : decode cX13_readSkin 49 = .ok (.aload_n 0, 1) := by decide +kernel
theorem dX13_readSkin_50 : decode cX13_readSkin 50 = .ok (.getfield 156, 3) := by decide +kernel
theorem dX13_readSkin_53 : decode cX13_readSkin 53 = .ok (.aload_n 0, 1) := by decide +kernel
theorem dX13_readSkin_54 : decode cX13_readSkin 54 = .ok (.getfield 156, 3) := by decide +kernel
theorem dX13_readSkin_57 : decode cX13_readSkin 57 = .ok (.getfield 345, 3) := by decide +kernel
theorem dX13_readSkin_60 : decode cX13_readSkin 60 = .ok (.iload_n 1, 1) := by decide +kernel
theorem dX13_readSkin_61 : decode cX13_readSkin 61 = .ok (.invokestatic 375, 3) := by decide +kernel
theorem dX13_readSkin_64 : decode cX13_readSkin 64 = .ok (.ifCond .ne 9, 3) := by decide +kernel
theorem dX13_readSkin_67 : decode cX13_readSkin 67 = .ok (.aload_n 0, 1) := by decide +kernel
theorem dX13_readSkin_68 : decode cX13_readSkin 68 = .ok (.bipush 7, 2) := by decide +kernel
theorem dX13_readSkin_70 : decode cX13_readSkin 70 = .ok (.invokevirtual 137, 3) := by decide +kernel
theorem dX13_readSkin_73 : decode cX13_readSkin 73 = .ok (.aload_n 0, 1) := by decide +kernel
theorem dX13_readSkin_74 : decode cX13_readSkin 74 = .ok (.invokevirtual 130, 3) := by decide +kernel
theorem dX13_readSkin_77 : decode cX13_readSkin 77 = .ok (.aload_n 0, 1) := by decide +kernel
theorem dX13_readSkin_78 : decode cX13_readSkin 78 = .ok (.iconst 0, 1) := by decide +kernel
theorem dX13_readSkin_79 : decode cX13_readSkin 79 = .ok (.invokevirtual 354, 3) := by decide +kernel
theorem dX13_readSkin_82 : decode cX13_readSkin 82 = .ok (.istore_n 2, 1) := by decide +kernel
theorem dX13_readSkin_83 : decode cX13_readSkin 83 = .ok (.aload_n 0, 1) := by decide +kernel
theorem dX13_readSkin_84 : decode cX13_readSkin 84 = .ok (.invokevirtual 379, 3) := by decide +kernel
theorem dX13_readSkin_87 : decode cX13_readSkin 87 = .ok (.istore_n 3, 1) := by decide +kernel
theorem dX13_readSkin_88 : decode cX13_readSkin 88 = .ok (.aload_n 0, 1) := by decide +kernel
theorem dX13_readSkin_89 : decode cX13_readSkin 89 = .ok (.iconst 0, 1) := by decide +kernel
theorem dX13_readSkin_90 : decode cX13_readSkin 90 = .ok (.iconst 2, 1) := by decide +kernel
theorem dX13_readSkin_91 : decode cX13_readSkin 91 = .ok (.aload_n 0, 1) := by decide +kernel
theorem dX13_readSkin_92 : decode cX13_readSkin 92 = .ok (.getfield 156, 3) := by decide +kernel
theorem dX13_readSkin_95 : decode cX13_readSkin 95 = .ok (.getfield 345, 3) := by decide +kernel
theorem dX13_readSkin_98 : decode cX13_readSkin 98 = .ok (.iconst 0, 1) := by decide +kernel
theorem dX13_readSkin_99 : decode cX13_readSkin 99 = .ok (.iload_n 1, 1) := by decide +kernel
theorem dX13_readSkin_100 : decode cX13_readSkin 100 = .ok (.iadd, 1) := by decide +kernel
theorem dX13_readSkin_101 : decode cX13_readSkin 101 = .ok (.iaload, 1) := by decide +kernel
theorem dX13_readSkin_102 : decode cX13_readSkin 102 = .ok (.iconst 1, 1) := by decide +kernel
theorem dX13_readSkin_103 : decode cX13_readSkin 103 = .ok (.iadd, 1) := by decide +kernel
theorem dX13_readSkin_104 : decode cX13_readSkin 104 = .ok (.imul, 1) := by decide +kernel
theorem dX13_readSkin_105 : decode cX13_readSkin 105 = .ok (.iconst 2, 1) := by decide +kernel
theorem dX13_readSkin_106 : decode cX13_readSkin 106 = .ok (.isub, 1) := by decide +kernel
theorem dX13_readSkin_107 : decode cX13_readSkin 107 = .ok (.invokevirtual 153, 3) := by decide +kernel
theorem dX13_readSkin_110 : decode cX13_readSkin 110 = .ok (.istore 4, 2) := by decide +kernel
theorem dX13_readSkin_112 : decode cX13_readSkin 112 = .ok (.aload_n 0, 1) := by decide +kernel
theorem dX13_readSkin_113 : decode cX13_readSkin 113 = .ok (.ldc_w 382, 3) := by decide +kernel
theorem dX13_readSkin_116 : decode cX13_readSkin 116 = .ok (.iconst 0, 1) := by decide +kernel
theorem dX13_readSkin_117 : decode cX13_readSkin 117 = .ok (.bipush 99, 2) := by decide +kernel
theorem dX13_readSkin_119 : decode cX13_readSkin 119 = .ok (.invokevirtual 264, 3) := by decide +kernel
theorem dX13_readSkin_122 : decode cX13_readSkin 122 = .ok (.istore 5, 2) := by decide +kernel
theorem dX13_readSkin_124 : decode cX13_readSkin 124 = .ok (.aload_n 0, 1) := by decide +kernel
theorem dX13_readSkin_125 : decode cX13_readSkin 125 = .ok (.getfield 91, 3) := by decide +kernel
theorem dX13_readSkin_128 : decode cX13_readSkin 128 = .ok (.iconst 5, 1) := by decide +kernel
theorem dX13_readSkin_129 : decode cX13_readSkin 129 = .ok (.if_icmp .ne 4, 3) := by decide +kernel
theorem dX13_readSkin_132 : decode cX13_readSkin 132 = .ok (.return_, 1) := by decide +kernel
theorem dX13_readSkin_133 : decode cX13_readSkin 133 = .ok (.aload_n 0, 1) := by decide +kernel
theorem dX13_readSkin_134 : decode cX13_readSkin 134 = .ok (.getfield 156, 3) := by decide +kernel
theorem dX13_readSkin_137 : decode cX13_readSkin 137 = .ok (.getfield 345, 3) := by decide +kernel
theorem dX13_readSkin_140 : decode cX13_readSkin 140 = .ok (.iload_n 1, 1) := by decide +kernel
theorem dX13_readSkin_141 : decode cX13_readSkin 141 = .ok (.iload_n 2, 1) := by decide +kernel
theorem dX13_readSkin_142 : decode cX13_readSkin 142 = .ok (.iload_n 3, 1) := by decide +kernel
theorem dX13_readSkin_143 : decode cX13_readSkin 143 = .ok (.iload 4, 2) := by decide +kernel
theorem dX13_readSkin_145 : decode cX13_readSkin 145 = .ok (.iload 5, 2) := by decide +kernel
theorem dX13_readSkin_147 : decode cX13_readSkin 147 = .ok (.bipush (-2), 2) := by decide +kernel
theorem dX13_readSkin_149 : decode cX13_readSkin 149 = .ok (.invokestatic 384, 3) := by decide +kernel
theorem dX13_readSkin_152 : decode cX13_readSkin 152 = .ok (.return_, 1) := by decide +kernel
theorem dX13_readStone_0 : decode cX13_readStone 0 = .ok (.aload_n 0, 1) := by decide +kernel
theorem dX13_readStone_1 : decode cX13_readStone 1 = .ok (.aload_n 0, 1) := by decide +kernel
theorem dX13_readStone_2 : decode cX13_readStone 2 = .ok (.getfield 156, 3) := by decide +kernel
theorem dX13_readStone_5 : decode cX13_readStone 5 = .ok (.getfield 226, 3) := by decide +kernel
theorem dX13_readStone_8 : decode cX13_readStone 8 = .ok (.iconst 4, 1) := by decide +kernel
theorem dX13_readStone_9 : decode cX13_readStone 9 = .ok (.invokevirtual 286, 3) := by decide +kernel
theorem dX13_readStone_12 : decode cX13_readStone 12 = .ok (.aload_n 0, 1) := by decide +kernel
theorem dX13_readStone_13 : decode cX13_readStone 13 = .ok (.invokevirtual 311, 3) := by decide +kernel
theorem dX13_readStone_16 : decode cX13_readStone 16 = .ok (.lstore_n 1, 1) := by decide +kernel
theorem dX13_readStone_17 : decode cX13_readStone 17 = .ok (.aload_n 0, 1) := by decide +kernel
theorem dX13_readStone_18 : decode cX13_readStone 18 = .ok (.ldc_w 315, 3) := by decide +kernel
theorem dX13_readStone_21 : decode cX13_readStone 21 = .ok (.invokevirtual 133, 3) := by decide +kernel
theorem dX13_readStone_24 : decode cX13_readStone 24 = .ok (.ifCond .eq 7, 3) := by decide +kernel
theorem dX13_readStone_27 : decode cX13_readStone 27 = .ok (.iconst 0, 1) := by decide +kernel
theorem dX13_readStone_28 : decode cX13_readStone 28 = .ok (.goto 32, 3) := by decide +kernel
theorem dX13_readStone_31 : decode cX13_readStone 31 = .ok (.aload_n 0, 1) := by decide +kernel
theorem dX13_readStone_32 : decode cX13_readStone 32 = .ok (.ldc_w 317, 3) := by decide +kernel
theorem dX13_readStone_35 : decode cX13_readStone 35 = .ok (.invokevirtual 133, 3) := by decide +kernel
theorem dX13_readStone_38 : decode cX13_readStone 38 = .ok (.ifCond .eq 7, 3) := by decide +kernel
theorem dX13_readStone_41 : decode cX13_readStone 41 = .ok (.iconst 1, 1) := by decide +kernel
theorem dX13_readStone_42 : decode cX13_readStone 42 = .ok (.goto 18, 3) := by decide +kernel
theorem dX13_readStone_45 : decode cX13_readStone 45 = .ok (.aload_n 0, 1) := by decide +kernel
theorem dX13_readStone_46 : decode cX13_readStone 46 = .ok (.ldc_w 319, 3) := by decide +kernel
theorem dX13_readStone_49 : decode cX13_readStone 49 = .ok (.invokevirtual 133, 3) := by decide +kernel
theorem dX13_readStone_52 : decode cX13_readStone 52 = .ok (.ifCond .eq 7, 3) := by decide +kernel
theorem dX13_readStone_55 : decode cX13_readStone 55 = .ok (.iconst 2, 1) := by decide +kernel
theorem dX13_readStone_56 : decode cX13_readStone 56 = .ok (.goto 4, 3) := by decide +kernel
theorem dX13_readStone_59 : decode cX13_readStone 59 = .ok (.iconst (-1), 1) := by decide +kernel
theorem dX13_readStone_60 : decode cX13_readStone 60 = .ok (.istore_n 3, 1) := by decide +kernel
theorem dX13_readStone_61 : decode cX13_readStone 61 = .ok (.iload_n 3, 1) := by decide +kernel
theorem dX13_readStone_62 : decode cX13_readStone 62 = .ok (.iconst (-1), 1) := by decide +kernel
theorem dX13_readStone_63 : decode cX13_readStone 63 = .ok (.if_icmp .ne 8, 3) := by decide +kernel
theorem dX13_readStone_66 : decode cX13_readStone 66 = .ok (.aload_n 0, 1) := by decide +kernel
theorem dX13_readStone_67 : decode cX13_readStone 67 = .ok (.iconst 1, 1) := by decide +kernel
theorem dX13_readStone_68 : decode cX13_readStone 68 = .ok (.invokevirtual 137, 3) := by decide +kernel
theorem dX13_readStone_71 : decode cX13_readStone 71 = .ok (.aload_n 0, 1) := by decide +kernel
theorem dX13_readStone_72 : decode cX13_readStone 72 = .ok (.invokevirtual 130, 3) := by decide +kernel
theorem dX13_readStone_75 : decode cX13_readStone 75 = .ok (.aload_n 0, 1) := by decide +kernel
theorem dX13_readStone_76 : decode cX13_readStone 76 = .ok (.ldc_w 321, 3) := by decide +kernel
theorem dX13_readStone_79 : decode cX13_readStone 79 = .ok (.iconst 1, 1) := by decide +kernel
theorem dX13_readStone_80 : decode cX13_readStone 80 = .ok (.bipush 9, 2) := by decide +kernel
theorem dX13_readStone_82 : decode cX13_readStone 82 = .ok (.invokevirtual 264, 3) := by decide +kernel
theorem dX13_readStone_85 : decode cX13_readStone 85 = .ok (.istore 4, 2) := by decide +kernel
theorem dX13_readStone_87 : decode cX13_readStone 87 = .ok (.aload_n 0, 1) := by decide +kernel
theorem dX13_readStone_88 : decode cX13_readStone 88 = .ok (.ldc_w 323, 3) := by decide +kernel
theorem dX13_readStone_91 : decode cX13_readStone 91 = .ok (.iconst 0, 1) := by decide +kernel
theorem dX13_readStone_92 : decode cX13_readStone 92 = .ok (.bipush 9, 2) := by decide +kernel
theorem dX13_readStone_94 : decode cX13_readStone 94 = .ok (.invokevirtual 264, 3) := by decide +kernel
theorem dX13_readStone_97 : decode cX13_readStone 97 = .ok (.istore 5, 2) := by decide +kernel
theorem dX13_readStone_99 : decode cX13_readStone 99 = .ok (.aload_n 0, 1) := by decide +kernel
theorem dX13_readStone_100 : decode cX13_readStone 100 = .ok (.ldc_w 325, 3) := by decide +kernel
theorem dX13_readStone_103 : decode cX13_readStone 103 = .ok (.iconst 0, 1) := by decide +kernel
theorem dX13_readStone_104 : decode cX13_readStone 104 = .ok (.bipush 9, 2) := by decide +kernel
theorem dX13_readStone_106 : decode cX13_readStone 106 = .ok (.invokevirtual 264, 3) := by decide +kernel
theorem dX13_readStone_109 : decode cX13_readStone 109 = .ok (.istore 6, 2) := by decide +kernel
theorem dX13_readStone_111 : decode cX13_readStone 111 = .ok (.aload_n 0, 1) := by decide +kernel
theorem dX13_readStone_112 : decode cX13_readStone 112 = .ok (.ldc_w 327, 3) := by decide +kernel
theorem dX13_readStone_115 : decode cX13_readStone 115 = .ok (.iconst 1, 1) := by decide +kernel
theorem dX13_readStone_116 : decode cX13_readStone 116 = .ok (.bipush 99, 2) := by decide +kernel
theorem dX13_readStone_118 : decode cX13_readStone 118 = .ok (.invokevirtual 264, 3) := by decide +kernel
theorem dX13_readStone_121 : decode cX13_readStone 121 = .ok (.istore 7, 2) := by decide +kernel
theorem dX13_readStone_123 : decode cX13_readStone 123 = .ok (.aload_n 0, 1) := by decide +kernel
theorem dX13_readStone_124 : decode cX13_readStone 124 = .ok (.getfield 91, 3) := by decide +kernel
theorem dX13_readStone_127 : decode cX13_readStone 127 = .ok (.iconst 5, 1) := by decide +kernel
theorem dX13_readStone_128 : decode cX13_readStone 128 = .ok (.if_icmp .ne 4, 3) := by decide +kernel
theorem dX13_readStone_131 : decode cX13_readStone 131 = .ok (.return_, 1) := by decide +kernel
theorem dX13_readStone_132 : decode cX13_readStone 132 = .ok (.aload_n 0, 1) := by decide +kernel
theorem dX13_readStone_133 : decode cX13_readStone 133 = .ok (.getfield 156, 3) := by decide +kernel
theorem dX13_readStone_136 : decode cX13_readStone 136 = .ok (.getfield 226, 3) := by decide +kernel
theorem dX13_readStone_139 : decode cX13_readStone 139 = .ok (.istore 8, 2) := by decide +kernel
theorem dX13_readStone_141 : decode cX13_readStone 141 = .ok (.aload_n 0, 1) := by decide +kernel
theorem dX13_readStone_142 : decode cX13_readStone 142 = .ok (.lload_n 1, 1) := by decide +kernel
theorem dX13_readStone_143 : decode cX13_readStone 143 = .ok (.iconst 0, 1) := by decide +kernel
theorem dX13_readStone_144 : decode cX13_readStone 144 = .ok (.iload 8, 2) := by decide +kernel
theorem dX13_readStone_146 : decode cX13_readStone 146 = .ok (.invokevirtual 329, 3) := by decide +kernel
theorem dX13_readStone_149 : decode cX13_readStone 149 = .ok (.aload_n 0, 1) := by decide +kernel
theorem dX13_readStone_150 : decode cX13_readStone 150 = .ok (.getfield 156, 3) := by decide +kernel
theorem dX13_readStone_153 : decode cX13_readStone 153 = .ok (.getfield 332, 3) := by decide +kernel
theorem dX13_readStone_156 : decode cX13_readStone 156 = .ok (.iload 8, 2) := by decide +kernel
theorem dX13_readStone_158 : decode cX13_readStone 158 = .ok (.iload_n 3, 1) := by decide +kernel
theorem dX13_readStone_159 : decode cX13_readStone 159 = .ok (.iastore, 1) := by decide +kernel
theorem dX13_readStone_160 : decode cX13_readStone 160 = .ok (.aload_n 0, 1) := by decide +kernel
theorem dX13_readStone_161 : decode cX13_readStone 161 = .ok (.getfield 156, 3) := by decide +kernel
theorem dX13_readStone_164 : decode cX13_readStone 164 = .ok (.getfield 335, 3) := by decide +kernel
theorem dX13_readStone_167 : decode cX13_readStone 167 = .ok (.iload 8, 2) := by decide +kernel
theorem dX13_readStone_169 : decode cX13_readStone 169 = .ok (.iload 4, 2) := by decide +kernel
theorem dX13_readStone_171 : decode cX13_readStone 171 = .ok (.iastore, 1) := by decide +kernel
theorem dX13_readStone_172 : decode cX13_readStone 172 = .ok (.aload_n 0, 1) := by decide +kernel
theorem dX13_readStone_173 : decode cX13_readStone 173 = .ok (.getfield 156, 3) := by decide +kernel
theorem dX13_readStone_176 : decode cX13_readStone 176 = .ok (.getfield 337, 3) := by decide +kernel
theorem dX13_readStone_179 : decode cX13_readStone 179 = .ok (.iload 8, 2) := by decide +kernel
theorem dX13_readStone_181 : decode cX13_readStone 181 = .ok (.iload 5, 2) := by decide +kernel
theorem dX13_readStone_183 : decode cX13_readStone 183 = .ok (.iastore, 1) := by decide +kernel
theorem dX13_readStone_184 : decode cX13_readStone 184 = .ok (.aload_n 0, 1) := by decide +kernel
theorem dX13_readStone_185 : decode cX13_readStone 185 = .ok (.getfield 156, 3) := by decide +kernel
theorem dX13_readStone_188 : decode cX13_readStone 188 = .ok (.getfield 339, 3) := by decide +kernel
theorem dX13_readStone_191 : decode cX13_readStone 191 = .ok (.iload 8, 2) := by decide +kernel
theorem dX13_readStone_193 : decode cX13_readStone 193 = .ok (.iload 6, 2) := by decide +kernel
theorem dX13_readStone_195 : decode cX13_readStone 195 = .ok (.iastore, 1) := by decide +kernel
theorem dX13_readStone_196 : decode cX13_readStone 196 = .ok (.aload_n 0, 1) := by decide +kernel
theorem dX13_readStone_197 : decode cX13_readStone 197 = .ok (.getfield 156, 3) := by decide +kernel
theorem dX13_readStone_200 : decode cX13_readStone 200 = .ok (.getfield 341, 3) := by decide +kernel
theorem dX13_readStone_203 : decode cX13_readStone 203 = .ok (.iload 8, 2) := by decide +kernel
theorem dX13_readStone_205 : decode cX13_readStone 205 = .ok (.iload 7, 2) := by decide +kernel
theorem dX13_readStone_207 : decode cX13_readStone 207 = .ok (.iastore, 1) := by decide +kernel
theorem dX13_readStone_208 : decode cX13_readStone 208 = .ok (.aload_n 0, 1) := by decide +kernel
theorem dX13_readStone_209 : decode cX13_readStone 209 = .ok (.getfield 156, 3) := by decide +kernel
theorem dX13_readStone_212 : decode cX13_readStone 212 = .ok (.dup, 1) := by decide +kernel
theorem dX13_readStone_213 : decode cX13_readStone 213 = .ok (.getfield 226, 3) := by decide +kernel
theorem dX13_readStone_216 : decode cX13_readStone 216 = .ok (.iconst 1, 1) := by decide +kernel
theorem dX13_readStone_217 : decode cX13_readStone 217 = .ok (.iadd, 1) := by decide +kernel
theorem dX13_readStone_218 : decode cX13_readStone 218 = .ok (.putfield 226, 3) := by decide +kernel
theorem dX13_readStone_221 : decode cX13_readStone 221 = .ok (.return_, 1) := by decide +kernel
theorem dX13_readWall_0 : decode cX13_readWall 0 = .ok (.aload_n 0, 1) := by decide +kernel
theorem dX13_readWall_1 : decode cX13_readWall 1 = .ok (.aload_n 0, 1) := by decide +kernel
theorem dX13_readWall_2 : decode cX13_readWall 2 = .ok (.getfield 156, 3) := by decide +kernel
theorem dX13_readWall_5 : decode cX13_readWall 5 = .ok (.getfield 394, 3) := by decide +kernel
theorem dX13_readWall_8 : decode cX13_readWall 8 = .ok (.bipush 6, 2) := by decide +kernel
theorem dX13_readWall_10 : decode cX13_readWall 10 = .ok (.invokevirtual 286, 3) := by decide +kernel
theorem dX13_readWall_13 : decode cX13_readWall 13 = .ok (.aload_n 0, 1) := by decide +kernel
theorem dX13_readWall_14 : decode cX13_readWall 14 = .ok (.invokevirtual 311, 3) := by decide +kernel
theorem dX13_readWall_17 : decode cX13_readWall 17 = .ok (.lstore_n 1, 1) := by decide +kernel
theorem dX13_readWall_18 : decode cX13_readWall 18 = .ok (.aload_n 0, 1) := by decide +kernel
theorem dX13_readWall_19 : decode cX13_readWall 19 = .ok (.getfield 91, 3) := by decide +kernel
theorem dX13_readWall_22 : decode cX13_readWall 22 = .ok (.iconst 5, 1) := by decide +kernel
theorem dX13_readWall_23 : decode cX13_readWall 23 = .ok (.if_icmp .ne 4, 3) := by decide +kernel
theorem dX13_readWall_26 : decode cX13_readWall 26 = .ok (.return_, 1) := by decide +kernel
theorem dX13_readWall_27 : decode cX13_readWall 27 = .ok (.aload_n 0, 1) := by decide +kernel
theorem dX13_readWall_28 : decode cX13_readWall 28 = .ok (.lload_n 1, 1) := by decide +kernel
theorem dX13_readWall_29 : decode cX13_readWall 29 = .ok (.iconst 3, 1) := by decide +kernel
theorem dX13_readWall_30 : decode cX13_readWall 30 = .ok (.aload_n 0, 1) := by decide +kernel
theorem dX13_readWall_31 : decode cX13_readWall 31 = .ok (.getfield 156, 3) := by decide +kernel
theorem dX13_readWall_34 : decode cX13_readWall 34 = .ok (.getfield 394, 3) := by decide +kernel
theorem dX13_readWall_37 : decode cX13_readWall 37 = .ok (.invokevirtual 329, 3) := by decide +kernel
theorem dX13_readWall_40 : decode cX13_readWall 40 = .ok (.aload_n 0, 1) := by decide +kernel
theorem dX13_readWall_41 : decode cX13_readWall 41 = .ok (.getfield 156, 3) := by decide +kernel
theorem dX13_readWall_44 : decode cX13_readWall 44 = .ok (.getfield 397, 3) := by decide +kernel
theorem dX13_readWall_47 : decode cX13_readWall 47 = .ok (.aload_n 0, 1) := by decide +kernel
theorem dX13_readWall_48 : decode cX13_readWall 48 = .ok (.getfield 156, 3) := by decide +kernel
theorem dX13_readWall_51 : decode cX13_readWall 51 = .ok (.getfield 394, 3) := by decide +kernel
theorem dX13_readWall_54 : decode cX13_readWall 54 = .ok (.iconst (-1), 1) := by decide +kernel
theorem dX13_readWall_55 : decode cX13_readWall 55 = .ok (.iastore, 1) := by decide +kernel
theorem dX13_readWall_56 : decode cX13_readWall 56 = .ok (.aload_n 0, 1) := by decide +kernel
theorem dX13_readWall_57 : decode cX13_readWall 57 = .ok (.getfield 156, 3) := by decide +kernel
theorem dX13_readWall_60 : decode cX13_readWall 60 = .ok (.getfield 399, 3) := by decide +kernel
theorem dX13_readWall_63 : decode cX13_readWall 63 = .ok (.aload_n 0, 1) := by decide +kernel
theorem dX13_readWall_64 : decode cX13_readWall 64 = .ok (.getfield 156, 3) := by decide +kernel
theorem dX13_readWall_67 : decode cX13_readWall 67 = .ok (.getfield 394, 3) := by decide +kernel
theorem dX13_readWall_70 : decode cX13_readWall 70 = .ok (.iconst (-1), 1) := by decide +kernel
theorem dX13_readWall_71 : decode cX13_readWall 71 = .ok (.iastore, 1) := by decide +kernel
theorem dX13_readWall_72 : decode cX13_readWall 72 = .ok (.aload_n 0, 1) := by decide +kernel
theorem dX13_readWall_73 : decode cX13_readWall 73 = .ok (.getfield 156, 3) := by decide +kernel
theorem dX13_readWall_76 : decode cX13_readWall 76 = .ok (.dup, 1) := by decide +kernel
theorem dX13_readWall_77 : decode cX13_readWall 77 = .ok (.getfield 394, 3) := by decide +kernel
theorem dX13_readWall_80 : decode cX13_readWall 80 = .ok (.iconst 1, 1) := by decide +kernel
theorem dX13_readWall_81 : decode cX13_readWall 81 = .ok (.iadd, 1) := by decide +kernel
theorem dX13_readWall_82 : decode cX13_readWall 82 = .ok (.putfield 394, 3) := by decide +kernel
theorem dX13_readWall_85 : decode cX13_readWall 85 = .ok (.return_, 1) := by decide +kernel
theorem dX13_readWater_0 : decode cX13_readWater 0 = .ok (.aload_n 0, 1) := by decide +kernel
theorem dX13_readWater_1 : decode cX13_readWater 1 = .ok (.getfield 156, 3) := by decide +kernel
theorem dX13_readWater_4 : decode cX13_readWater 4 = .ok (.getfield 302, 3) := by decide +kernel
theorem dX13_readWater_7 : decode cX13_readWater 7 = .ok (.bipush 10, 2) := by decide +kernel
theorem dX13_readWater_9 : decode cX13_readWater 9 = .ok (.if_icmp .ne 8, 3) := by decide +kernel
theorem dX13_readWater_12 : decode cX13_readWater 12 = .ok (.aload_n 0, 1) := by decide +kernel
theorem dX13_readWater_13 : decode cX13_readWater 13 = .ok (.iconst 5, 1) := by decide +kernel
theorem dX13_readWater_14 : decode cX13_readWater 14 = .ok (.invokevirtual 137, 3) := by decide +kernel
theorem dX13_readWater_17 : decode cX13_readWater 17 = .ok (.aload_n 0, 1) := by decide +kernel
theorem dX13_readWater_18 : decode cX13_readWater 18 = .ok (.getfield 156, 3) := by decide +kernel
theorem dX13_readWater_21 : decode cX13_readWater 21 = .ok (.getfield 160, 3) := by decide +kernel
theorem dX13_readWater_24 : decode cX13_readWater 24 = .ok (.ifCond .eq 13, 3) := by decide +kernel
theorem dX13_readWater_27 : decode cX13_readWater 27 = .ok (.aload_n 0, 1) := by decide +kernel
theorem dX13_readWater_28 : decode cX13_readWater 28 = .ok (.getfield 156, 3) := by decide +kernel
theorem dX13_readWater_31 : decode cX13_readWater 31 = .ok (.getfield 229, 3) := by decide +kernel
theorem dX13_readWater_34 : decode cX13_readWater 34 = .ok (.ifCond .le 9, 3) := by decide +kernel
theorem dX13_readWater_37 : decode cX13_readWater 37 = .ok (.aload_n 0, 1) := by decide +kernel
theorem dX13_readWater_38 : decode cX13_readWater 38 = .ok (.bipush 6, 2) := by decide +kernel
theorem dX13_readWater_40 : decode cX13_readWater 40 = .ok (.invokevirtual 137, 3) := by decide +kernel
theorem dX13_readWater_43 : decode cX13_readWater 43 = .ok (.aload_n 0, 1) := by decide +kernel
theorem dX13_readWater_44 : decode cX13_readWater 44 = .ok (.invokevirtual 130, 3) := by decide +kernel
theorem dX13_readWater_47 : decode cX13_readWater 47 = .ok (.aload_n 0, 1) := by decide +kernel
theorem dX13_readWater_48 : decode cX13_readWater 48 = .ok (.invokevirtual 305, 3) := by decide +kernel
theorem dX13_readWater_51 : decode cX13_readWater 51 = .ok (.istore_n 1, 1) := by decide +kernel
theorem dX13_readWater_52 : decode cX13_readWater 52 = .ok (.aload_n 0, 1) := by decide +kernel
theorem dX13_readWater_53 : decode cX13_readWater 53 = .ok (.getfield 91, 3) := by decide +kernel
theorem dX13_readWater_56 : decode cX13_readWater 56 = .ok (.iconst 5, 1) := by decide +kernel
theorem dX13_readWater_57 : decode cX13_readWater 57 = .ok (.if_icmp .eq 20, 3) := by decide +kernel
theorem dX13_readWater_60 : decode cX13_readWater 60 = .ok (.aload_n 0, 1) := by decide +kernel
theorem dX13_readWater_61 : decode cX13_readWater 61 = .ok (.getfield 156, 3) := by decide +kernel
theorem dX13_readWater_64 : decode cX13_readWater 64 = .ok (.getfield 308, 3) := by decide +kernel
theorem dX13_readWater_67 : decode cX13_readWater 67 = .ok (.iload_n 1, 1) := by decide +kernel
theorem dX13_readWater_68 : decode cX13_readWater 68 = .ok (.baload, 1) := by decide +kernel
theorem dX13_readWater_69 : decode cX13_readWater 69 = .ok (.ifCond .eq 8, 3) := by decide +kernel
theorem dX13_readWater_72 : decode cX13_readWater 72 = .ok (.aload_n 0, 1) := by decide +kernel
theorem dX13_readWater_73 : decode cX13_readWater 73 = .ok (.iconst 3, 1) := by decide +kernel
theorem dX13_readWater_74 : decode cX13_readWater 74 = .ok (.invokevirtual 137, 3) := by decide +kernel
theorem dX13_readWater_77 : decode cX13_readWater 77 = .ok (.aload_n 0, 1) := by decide +kernel
theorem dX13_readWater_78 : decode cX13_readWater 78 = .ok (.invokevirtual 130, 3) := by decide +kernel
theorem dX13_readWater_81 : decode cX13_readWater 81 = .ok (.aload_n 0, 1) := by decide +kernel
theorem dX13_readWater_82 : decode cX13_readWater 82 = .ok (.getfield 91, 3) := by decide +kernel
theorem dX13_readWater_85 : decode cX13_readWater 85 = .ok (.iconst 5, 1) := by decide +kernel
theorem dX13_readWater_86 : decode cX13_readWater 86 = .ok (.if_icmp .ne 4, 3) := by decide +kernel
theorem dX13_readWater_89 : decode cX13_readWater 89 = .ok (.return_, 1) := by decide +kernel
theorem dX13_readWater_90 : decode cX13_readWater 90 = .ok (.aload_n 0, 1) := by decide +kernel
theorem dX13_readWater_91 : decode cX13_readWater 91 = .ok (.getfield 156, 3) := by decide +kernel
theorem dX13_readWater_94 : decode cX13_readWater 94 = .ok (.getfield 308, 3) := by decide +kernel
theorem dX13_readWater_97 : decode cX13_readWater 97 = .ok (.iload_n 1, 1) := by decide +kernel
theorem dX13_readWater_98 : decode cX13_readWater 98 = .ok (.iconst 1, 1) := by decide +kernel
theorem dX13_readWater_99 : decode cX13_readWater 99 = .ok (.bastore, 1) := by decide +kernel
theorem dX13_readWater_100 : decode cX13_readWater 100 = .ok (.aload_n 0, 1) := by decide +kernel
theorem dX13_readWater_101 : decode cX13_readWater 101 = .ok (.getfield 156, 3) := by decide +kernel
theorem dX13_readWater_104 : decode cX13_readWater 104 = .ok (.dup, 1) := by decide +kernel
theorem dX13_readWater_105 : decode cX13_readWater 105 = .ok (.getfield 302, 3) := by decide +kernel
theorem dX13_readWater_108 : decode cX13_readWater 108 = .ok (.iconst 1, 1) := by decide +kernel
theorem dX13_readWater_109 : decode cX13_readWater 109 = .ok (.iadd, 1) := by decide +kernel
theorem dX13_readWater_110 : decode cX13_readWater 110 = .ok (.putfield 302, 3) := by decide +kernel
theorem dX13_readWater_113 : decode cX13_readWater 113 = .ok (.return_, 1) := by decide +kernel
theorem dX13_readWhole_0 : decode cX13_readWhole 0 = .ok (.aload_n 0, 1) := by decide +kernel
theorem dX13_readWhole_1 : decode cX13_readWhole 1 = .ok (.iload_n 1, 1) := by decide +kernel
theorem dX13_readWhole_2 : decode cX13_readWhole 2 = .ok (.iload_n 2, 1) := by decide +kernel
theorem dX13_readWhole_3 : decode cX13_readWhole 3 = .ok (.invokevirtual 145, 3) := by decide +kernel
theorem dX13_readWhole_6 : decode cX13_readWhole 6 = .ok (.istore_n 3, 1) := by decide +kernel
theorem dX13_readWhole_7 : decode cX13_readWhole 7 = .ok (.aload_n 0, 1) := by decide +kernel
theorem dX13_readWhole_8 : decode cX13_readWhole 8 = .ok (.invokevirtual 130, 3) := by decide +kernel
theorem dX13_readWhole_11 : decode cX13_readWhole 11 = .ok (.iload_n 3, 1) := by decide +kernel
theorem dX13_readWhole_12 : decode cX13_readWhole 12 = .ok (.ireturn, 1) := by decide +kernel
theorem dX13_readYears_0 : decode cX13_readYears 0 = .ok (.aload_n 0, 1) := by decide +kernel
theorem dX13_readYears_1 : decode cX13_readYears 1 = .ok (.getfield 156, 3) := by decide +kernel
theorem dX13_readYears_4 : decode cX13_readYears 4 = .ok (.getfield 223, 3) := by decide +kernel
theorem dX13_readYears_7 : decode cX13_readYears 7 = .ok (.iconst (-1), 1) := by decide +kernel
theorem dX13_readYears_8 : decode cX13_readYears 8 = .ok (.if_icmp .eq 8, 3) := by decide +kernel
theorem dX13_readYears_11 : decode cX13_readYears 11 = .ok (.aload_n 0, 1) := by decide +kernel
theorem dX13_readYears_12 : decode cX13_readYears 12 = .ok (.iconst 3, 1) := by decide +kernel
theorem dX13_readYears_13 : decode cX13_readYears 13 = .ok (.invokevirtual 137, 3) := by decide +kernel
theorem dX13_readYears_16 : decode cX13_readYears 16 = .ok (.aload_n 0, 1) := by decide +kernel
theorem dX13_readYears_17 : decode cX13_readYears 17 = .ok (.iconst 0, 1) := by decide +kernel
theorem dX13_readYears_18 : decode cX13_readYears 18 = .ok (.iconst 1, 1) := by decide +kernel
theorem dX13_readYears_19 : decode cX13_readYears 19 = .ok (.invokevirtual 286, 3) := by decide +kernel
theorem dX13_readYears_22 : decode cX13_readYears 22 = .ok (.aload_n 0, 1) := by decide +kernel
theorem dX13_readYears_23 : decode cX13_readYears 23 = .ok (.iconst 0, 1) := by decide +kernel
theorem dX13_readYears_24 : decode cX13_readYears 24 = .ok (.sipush 900, 3) := by decide +kernel
theorem dX13_readYears_27 : decode cX13_readYears 27 = .ok (.invokevirtual 153, 3) := by decide +kernel
theorem dX13_readYears_30 : decode cX13_readYears 30 = .ok (.istore_n 1, 1) := by decide +kernel
theorem dX13_readYears_31 : decode cX13_readYears 31 = .ok (.aload_n 0, 1) := by decide +kernel
theorem dX13_readYears_32 : decode cX13_readYears 32 = .ok (.ldc_w 290, 3) := by decide +kernel
theorem dX13_readYears_35 : decode cX13_readYears 35 = .ok (.iconst 0, 1) := by decide +kernel
theorem dX13_readYears_36 : decode cX13_readYears 36 = .ok (.bipush 100, 2) := by decide +kernel
theorem dX13_readYears_38 : decode cX13_readYears 38 = .ok (.invokevirtual 264, 3) := by decide +kernel
theorem dX13_readYears_41 : decode cX13_readYears 41 = .ok (.istore_n 2, 1) := by decide +kernel
theorem dX13_readYears_42 : decode cX13_readYears 42 = .ok (.aload_n 0, 1) := by decide +kernel
theorem dX13_readYears_43 : decode cX13_readYears 43 = .ok (.ldc_w 292, 3) := by decide +kernel
theorem dX13_readYears_46 : decode cX13_readYears 46 = .ok (.iconst 0, 1) := by decide +kernel
theorem dX13_readYears_47 : decode cX13_readYears 47 = .ok (.bipush 100, 2) := by decide +kernel
theorem dX13_readYears_49 : decode cX13_readYears 49 = .ok (.invokevirtual 264, 3) := by decide +kernel
theorem dX13_readYears_52 : decode cX13_readYears 52 = .ok (.istore_n 3, 1) := by decide +kernel
theorem dX13_readYears_53 : decode cX13_readYears 53 = .ok (.aload_n 0, 1) := by decide +kernel
theorem dX13_readYears_54 : decode cX13_readYears 54 = .ok (.ldc_w 294, 3) := by decide +kernel
theorem dX13_readYears_57 : decode cX13_readYears 57 = .ok (.iconst 0, 1) := by decide +kernel
theorem dX13_readYears_58 : decode cX13_readYears 58 = .ok (.bipush 9, 2) := by decide +kernel
theorem dX13_readYears_60 : decode cX13_readYears 60 = .ok (.invokevirtual 264, 3) := by decide +kernel
theorem dX13_readYears_63 : decode cX13_readYears 63 = .ok (.istore 4, 2) := by decide +kernel
theorem dX13_readYears_65 : decode cX13_readYears 65 = .ok (.aload_n 0, 1) := by decide +kernel
theorem dX13_readYears_66 : decode cX13_readYears 66 = .ok (.getfield 91, 3) := by decide +kernel
theorem dX13_readYears_69 : decode cX13_readYears 69 = .ok (.iconst 5, 1) := by decide +kernel
theorem dX13_readYears_70 : decode cX13_readYears 70 = .ok (.if_icmp .ne 4, 3) := by decide +kernel
theorem dX13_readYears_73 : decode cX13_readYears 73 = .ok (.return_, 1) := by decide +kernel
theorem dX13_readYears_74 : decode cX13_readYears 74 = .ok (.aload_n 0, 1) := by decide +kernel
theorem dX13_readYears_75 : decode cX13_readYears 75 = .ok (.getfield 156, 3) := by decide +kernel
theorem dX13_readYears_78 : decode cX13_readYears 78 = .ok (.iload_n 1, 1) := by decide +kernel
theorem dX13_readYears_79 : decode cX13_readYears 79 = .ok (.putfield 223, 3) := by decide +kernel
theorem dX13_readYears_82 : decode cX13_readYears 82 = .ok (.aload_n 0, 1) := by decide +kernel
theorem dX13_readYears_83 : decode cX13_readYears 83 = .ok (.getfield 156, 3) := by decide +kernel
theorem dX13_readYears_86 : decode cX13_readYears 86 = .ok (.iload_n 2, 1) := by decide +kernel
theorem dX13_readYears_87 : decode cX13_readYears 87 = .ok (.putfield 296, 3) := by decide +kernel
theorem dX13_readYears_90 : decode cX13_readYears 90 = .ok (.aload_n 0, 1) := by decide +kernel
theorem dX13_readYears_91 : decode cX13_readYears 91 = .ok (.getfield 156, 3) := by decide +kernel
theorem dX13_readYears_94 : decode cX13_readYears 94 = .ok (.iload_n 3, 1) := by decide +kernel
theorem dX13_readYears_95 : decode cX13_readYears 95 = .ok (.putfield 298, 3) := by decide +kernel
theorem dX13_readYears_98 : decode cX13_readYears 98 = .ok (.aload_n 0, 1) := by decide +kernel
theorem dX13_readYears_99 : decode cX13_readYears 99 = .ok (.getfield 156, 3) := by decide +kernel
theorem dX13_readYears_102 : decode cX13_readYears 102 = .ok (.iload 4, 2) := by decide +kernel
theorem dX13_readYears_104 : decode cX13_readYears 104 = .ok (.putfield 300, 3) := by decide +kernel
theorem dX13_readYears_107 : decode cX13_readYears 107 = .ok (.return_, 1) := by decide +kernel
theorem dX13_refused_0 : decode cX13_refused 0 = .ok (.aload_n 0, 1) := by decide +kernel
theorem dX13_refused_1 : decode cX13_refused 1 = .ok (.iload_n 1, 1) := by decide +kernel
theorem dX13_refused_2 : decode cX13_refused 2 = .ok (.putfield 66, 3) := by decide +kernel
theorem dX13_refused_5 : decode cX13_refused 5 = .ok (.aload_n 0, 1) := by decide +kernel
theorem dX13_refused_6 : decode cX13_refused 6 = .ok (.iconst (-1), 1) := by decide +kernel
theorem dX13_refused_7 : decode cX13_refused 7 = .ok (.putfield 9, 3) := by decide +kernel
theorem dX13_refused_10 : decode cX13_refused 10 = .ok (.iconst (-1), 1) := by decide +kernel
theorem dX13_refused_11 : decode cX13_refused 11 = .ok (.ireturn, 1) := by decide +kernel
theorem dX13_refusesIn_0 : decode cX13_refusesIn 0 = .ok (.aload_n 0, 1) := by decide +kernel
theorem dX13_refusesIn_1 : decode cX13_refusesIn 1 = .ok (.getfield 417, 3) := by decide +kernel
theorem dX13_refusesIn_4 : decode cX13_refusesIn 4 = .ok (.ifnull 7, 3) := by decide +kernel
theorem dX13_refusesIn_7 : decode cX13_refusesIn 7 = .ok (.iload_n 1, 1) := by decide +kernel
theorem dX13_refusesIn_8 : decode cX13_refusesIn 8 = .ok (.ifCond .ne 7, 3) := by decide +kernel
theorem dX13_refusesIn_11 : decode cX13_refusesIn 11 = .ok (.iconst 1, 1) := by decide +kernel
theorem dX13_refusesIn_12 : decode cX13_refusesIn 12 = .ok (.goto 17, 3) := by decide +kernel
theorem dX13_refusesIn_15 : decode cX13_refusesIn 15 = .ok (.iload_n 2, 1) := by decide +kernel
theorem dX13_refusesIn_16 : decode cX13_refusesIn 16 = .ok (.iconst 0, 1) := by decide +kernel
theorem dX13_refusesIn_17 : decode cX13_refusesIn 17 = .ok (.iload_n 3, 1) := by decide +kernel
theorem dX13_refusesIn_18 : decode cX13_refusesIn 18 = .ok (.invokestatic 141, 3) := by decide +kernel
theorem dX13_refusesIn_21 : decode cX13_refusesIn 21 = .ok (.ifCond .eq 7, 3) := by decide +kernel
theorem dX13_refusesIn_24 : decode cX13_refusesIn 24 = .ok (.iconst 0, 1) := by decide +kernel
theorem dX13_refusesIn_25 : decode cX13_refusesIn 25 = .ok (.goto 4, 3) := by decide +kernel
theorem dX13_refusesIn_28 : decode cX13_refusesIn 28 = .ok (.iconst 2, 1) := by decide +kernel
theorem dX13_refusesIn_29 : decode cX13_refusesIn 29 = .ok (.ireturn, 1) := by decide +kernel
theorem dX13_room_0 : decode cX13_room 0 = .ok (.aload_n 0, 1) := by decide +kernel
theorem dX13_room_1 : decode cX13_room 1 = .ok (.iconst 0, 1) := by decide +kernel
theorem dX13_room_2 : decode cX13_room 2 = .ok (.putfield 63, 3) := by decide +kernel
theorem dX13_room_5 : decode cX13_room 5 = .ok (.aload_n 0, 1) := by decide +kernel
theorem dX13_room_6 : decode cX13_room 6 = .ok (.iload_n 1, 1) := by decide +kernel
theorem dX13_room_7 : decode cX13_room 7 = .ok (.invokevirtual 518, 3) := by decide +kernel
theorem dX13_room_10 : decode cX13_room 10 = .ok (.ifCond .ne 9, 3) := by decide +kernel
theorem dX13_room_13 : decode cX13_room 13 = .ok (.aload_n 0, 1) := by decide +kernel
theorem dX13_room_14 : decode cX13_room 14 = .ok (.iconst 1, 1) := by decide +kernel
theorem dX13_room_15 : decode cX13_room 15 = .ok (.invokevirtual 69, 3) := by decide +kernel
theorem dX13_room_18 : decode cX13_room 18 = .ok (.ireturn, 1) := by decide +kernel
theorem dX13_room_19 : decode cX13_room 19 = .ok (.aload_n 0, 1) := by decide +kernel
theorem dX13_room_20 : decode cX13_room 20 = .ok (.invokevirtual 508, 3) := by decide +kernel
theorem dX13_room_23 : decode cX13_room 23 = .ok (.iconst 0, 1) := by decide +kernel
theorem dX13_room_24 : decode cX13_room 24 = .ok (.istore_n 2, 1) := by decide +kernel
theorem dX13_room_25 : decode cX13_room 25 = .ok (.aload_n 0, 1) := by decide +kernel
theorem dX13_room_26 : decode cX13_room 26 = .ok (.aload_n 0, 1) := by decide +kernel
theorem dX13_room_27 : decode cX13_room 27 = .ok (.getfield 21, 3) := by decide +kernel
theorem dX13_room_30 : decode cX13_room 30 = .ok (.iload_n 1, 1) := by decide +kernel
theorem dX13_room_31 : decode cX13_room 31 = .ok (.invokevirtual 497, 3) := by decide +kernel
theorem dX13_room_34 : decode cX13_room 34 = .ok (.ifCond .eq 36, 3) := by decide +kernel
theorem dX13_room_37 : decode cX13_room 37 = .ok (.aload_n 0, 1) := by decide +kernel
theorem dX13_room_38 : decode cX13_room 38 = .ok (.getfield 21, 3) := by decide +kernel
theorem dX13_room_41 : decode cX13_room 41 = .ok (.iload_n 1, 1) := by decide +kernel
theorem dX13_room_42 : decode cX13_room 42 = .ok (.aload_n 0, 1) := by decide +kernel
theorem dX13_room_43 : decode cX13_room 43 = .ok (.getfield 417, 3) := by decide +kernel
theorem dX13_room_46 : decode cX13_room 46 = .ok (.getfield 364, 3) := by decide +kernel
theorem dX13_room_49 : decode cX13_room 49 = .ok (.iload_n 1, 1) := by decide +kernel
theorem dX13_room_50 : decode cX13_room 50 = .ok (.iaload, 1) := by decide +kernel
theorem dX13_room_51 : decode cX13_room 51 = .ok (.aload_n 0, 1) := by decide +kernel
theorem dX13_room_52 : decode cX13_room 52 = .ok (.getfield 475, 3) := by decide +kernel
theorem dX13_room_55 : decode cX13_room 55 = .ok (.aload_n 0, 1) := by decide +kernel
theorem dX13_room_56 : decode cX13_room 56 = .ok (.getfield 478, 3) := by decide +kernel
theorem dX13_room_59 : decode cX13_room 59 = .ok (.iconst 0, 1) := by decide +kernel
theorem dX13_room_60 : decode cX13_room 60 = .ok (.iconst 0, 1) := by decide +kernel
theorem dX13_room_61 : decode cX13_room 61 = .ok (.invokestatic 384, 3) := by decide +kernel
theorem dX13_room_64 : decode cX13_room 64 = .ok (.iinc 2 1, 3) := by decide +kernel
theorem dX13_room_67 : decode cX13_room 67 = .ok (.goto (-42), 3) := by decide +kernel
theorem dX13_room_70 : decode cX13_room 70 = .ok (.aload_n 0, 1) := by decide +kernel
theorem dX13_room_71 : decode cX13_room 71 = .ok (.iload_n 2, 1) := by decide +kernel
theorem dX13_room_72 : decode cX13_room 72 = .ok (.invokevirtual 73, 3) := by decide +kernel
theorem dX13_room_75 : decode cX13_room 75 = .ok (.ireturn, 1) := by decide +kernel
theorem dX13_rots_0 : decode cX13_rots 0 = .ok (.aload_n 1, 1) := by decide +kernel
theorem dX13_rots_1 : decode cX13_rots 1 = .ok (.iload_n 2, 1) := by decide +kernel
theorem dX13_rots_2 : decode cX13_rots 2 = .ok (.iload_n 3, 1) := by decide +kernel
theorem dX13_rots_3 : decode cX13_rots 3 = .ok (.iconst 5, 1) := by decide +kernel
theorem dX13_rots_4 : decode cX13_rots 4 = .ok (.invokestatic 425, 3) := by decide +kernel
theorem dX13_rots_7 : decode cX13_rots 7 = .ok (.iaload, 1) := by decide +kernel
theorem dX13_rots_8 : decode cX13_rots 8 = .ok (.iconst 1, 1) := by decide +kernel
theorem dX13_rots_9 : decode cX13_rots 9 = .ok (.if_icmp .eq 16, 3) := by decide +kernel
theorem dX13_rots_12 : decode cX13_rots 12 = .ok (.aload_n 1, 1) := by decide +kernel
theorem dX13_rots_13 : decode cX13_rots 13 = .ok (.iload_n 2, 1) := by decide +kernel
theorem dX13_rots_14 : decode cX13_rots 14 = .ok (.iload_n 3, 1) := by decide +kernel
theorem dX13_rots_15 : decode cX13_rots 15 = .ok (.bipush 6, 2) := by decide +kernel
theorem dX13_rots_17 : decode cX13_rots 17 = .ok (.invokestatic 425, 3) := by decide +kernel
theorem dX13_rots_20 : decode cX13_rots 20 = .ok (.iaload, 1) := by decide +kernel
theorem dX13_rots_21 : decode cX13_rots 21 = .ok (.iconst 1, 1) := by decide +kernel
theorem dX13_rots_22 : decode cX13_rots 22 = .ok (.if_icmp .ne 4, 3) := by decide +kernel
theorem dX13_rots_25 : decode cX13_rots 25 = .ok (.return_, 1) := by decide +kernel
theorem dX13_rots_26 : decode cX13_rots 26 = .ok (.aload_n 1, 1) := by decide +kernel
theorem dX13_rots_27 : decode cX13_rots 27 = .ok (.iload_n 2, 1) := by decide +kernel
theorem dX13_rots_28 : decode cX13_rots 28 = .ok (.iload_n 3, 1) := by decide +kernel
theorem dX13_rots_29 : decode cX13_rots 29 = .ok (.iconst 0, 1) := by decide +kernel
theorem dX13_rots_30 : decode cX13_rots 30 = .ok (.invokestatic 425, 3) := by decide +kernel
theorem dX13_rots_33 : decode cX13_rots 33 = .ok (.iaload, 1) := by decide +kernel
theorem dX13_rots_34 : decode cX13_rots 34 = .ok (.istore 4, 2) := by decide +kernel
theorem dX13_rots_36 : decode cX13_rots 36 = .ok (.aload_n 1, 1) := by decide +kernel
theorem dX13_rots_37 : decode cX13_rots 37 = .ok (.iload_n 2, 1) := by decide +kernel
theorem dX13_rots_38 : decode cX13_rots 38 = .ok (.iload_n 3, 1) := by decide +kernel
theorem dX13_rots_39 : decode cX13_rots 39 = .ok (.iconst 4, 1) := by decide +kernel
theorem dX13_rots_40 : decode cX13_rots 40 = .ok (.invokestatic 425, 3) := by decide +kernel
theorem dX13_rots_43 : decode cX13_rots 43 = .ok (.dup2, 1) := by decide +kernel
theorem dX13_rots_44 : decode cX13_rots 44 = .ok (.iaload, 1) := by decide +kernel
theorem dX13_rots_45 : decode cX13_rots 45 = .ok (.aload_n 0, 1) := by decide +kernel
theorem dX13_rots_46 : decode cX13_rots 46 = .ok (.getfield 417, 3) := by decide +kernel
theorem dX13_rots_49 : decode cX13_rots 49 = .ok (.getfield 339, 3) := by decide +kernel
theorem dX13_rots_52 : decode cX13_rots 52 = .ok (.iload 4, 2) := by decide +kernel
theorem dX13_rots_54 : decode cX13_rots 54 = .ok (.iaload, 1) := by decide +kernel
theorem dX13_rots_55 : decode cX13_rots 55 = .ok (.iadd, 1) := by decide +kernel
theorem dX13_rots_56 : decode cX13_rots 56 = .ok (.iastore, 1) := by decide +kernel
theorem dX13_rots_57 : decode cX13_rots 57 = .ok (.iload_n 3, 1) := by decide +kernel
theorem dX13_rots_58 : decode cX13_rots 58 = .ok (.iconst 1, 1) := by decide +kernel
theorem dX13_rots_59 : decode cX13_rots 59 = .ok (.if_icmp .le 47, 3) := by decide +kernel
theorem dX13_rots_62 : decode cX13_rots 62 = .ok (.aload_n 1, 1) := by decide +kernel
theorem dX13_rots_63 : decode cX13_rots 63 = .ok (.iload_n 2, 1) := by decide +kernel
theorem dX13_rots_64 : decode cX13_rots 64 = .ok (.iload_n 3, 1) := by decide +kernel
theorem dX13_rots_65 : decode cX13_rots 65 = .ok (.iconst 1, 1) := by decide +kernel
theorem dX13_rots_66 : decode cX13_rots 66 = .ok (.isub, 1) := by decide +kernel
theorem dX13_rots_67 : decode cX13_rots 67 = .ok (.iconst 5, 1) := by decide +kernel
theorem dX13_rots_68 : decode cX13_rots 68 = .ok (.invokestatic 425, 3) := by decide +kernel
theorem dX13_rots_71 : decode cX13_rots 71 = .ok (.iaload, 1) := by decide +kernel
theorem dX13_rots_72 : decode cX13_rots 72 = .ok (.iconst 1, 1) := by decide +kernel
theorem dX13_rots_73 : decode cX13_rots 73 = .ok (.if_icmp .ne 33, 3) := by decide +kernel
theorem dX13_rots_76 : decode cX13_rots 76 = .ok (.aload_n 1, 1) := by decide +kernel
theorem dX13_rots_77 : decode cX13_rots 77 = .ok (.iload_n 2, 1) := by decide +kernel
theorem dX13_rots_78 : decode cX13_rots 78 = .ok (.iload_n 3, 1) := by decide +kernel
theorem dX13_rots_79 : decode cX13_rots 79 = .ok (.iconst 4, 1) := by decide +kernel
theorem dX13_rots_80 : decode cX13_rots 80 = .ok (.invokestatic 425, 3) := by decide +kernel
theorem dX13_rots_83 : decode cX13_rots 83 = .ok (.dup2, 1) := by decide +kernel
theorem dX13_rots_84 : decode cX13_rots 84 = .ok (.iaload, 1) := by decide +kernel
theorem dX13_rots_85 : decode cX13_rots 85 = .ok (.aload_n 0, 1) := by decide +kernel
theorem dX13_rots_86 : decode cX13_rots 86 = .ok (.getfield 417, 3) := by decide +kernel
theorem dX13_rots_89 : decode cX13_rots 89 = .ok (.getfield 332, 3) := by decide +kernel
theorem dX13_rots_92 : decode cX13_rots 92 = .ok (.iload 4, 2) := by decide +kernel
theorem dX13_rots_94 : decode cX13_rots 94 = .ok (.iaload, 1) := by decide +kernel
theorem dX13_rots_95 : decode cX13_rots 95 = .ok (.iconst 1, 1) := by decide +kernel
theorem dX13_rots_96 : decode cX13_rots 96 = .ok (.if_icmp .ne 7, 3) := by decide +kernel
theorem dX13_rots_99 : decode cX13_rots 99 = .ok (.iconst 2, 1) := by decide +kernel
theorem dX13_rots_100 : decode cX13_rots 100 = .ok (.goto 4, 3) := by decide +kernel
theorem dX13_rots_103 : decode cX13_rots 103 = .ok (.iconst 1, 1) := by decide +kernel
theorem dX13_rots_104 : decode cX13_rots 104 = .ok (.iadd, 1) := by decide +kernel
theorem dX13_rots_105 : decode cX13_rots 105 = .ok (.iastore, 1) := by decide +kernel
theorem dX13_rots_106 : decode cX13_rots 106 = .ok (.aload_n 1, 1) := by decide +kernel
theorem dX13_rots_107 : decode cX13_rots 107 = .ok (.iload_n 2, 1) := by decide +kernel
theorem dX13_rots_108 : decode cX13_rots 108 = .ok (.iload_n 3, 1) := by decide +kernel
theorem dX13_rots_109 : decode cX13_rots 109 = .ok (.iconst 4, 1) := by decide +kernel
theorem dX13_rots_110 : decode cX13_rots 110 = .ok (.invokestatic 425, 3) := by decide +kernel
theorem dX13_rots_113 : decode cX13_rots 113 = .ok (.iaload, 1) := by decide +kernel
theorem dX13_rots_114 : decode cX13_rots 114 = .ok (.aload_n 0, 1) := by decide +kernel
theorem dX13_rots_115 : decode cX13_rots 115 = .ok (.getfield 417, 3) := by decide +kernel
theorem dX13_rots_118 : decode cX13_rots 118 = .ok (.getfield 341, 3) := by decide +kernel
theorem dX13_rots_121 : decode cX13_rots 121 = .ok (.iload 4, 2) := by decide +kernel
theorem dX13_rots_123 : decode cX13_rots 123 = .ok (.iaload, 1) := by decide +kernel
theorem dX13_rots_124 : decode cX13_rots 124 = .ok (.if_icmp .lt 12, 3) := by decide +kernel
theorem dX13_rots_127 : decode cX13_rots 127 = .ok (.aload_n 1, 1) := by decide +kernel
theorem dX13_rots_128 : decode cX13_rots 128 = .ok (.iload_n 2, 1) := by decide +kernel
theorem dX13_rots_129 : decode cX13_rots 129 = .ok (.iload_n 3, 1) := by decide +kernel
theorem dX13_rots_130 : decode cX13_rots 130 = .ok (.iconst 5, 1) := by decide +kernel
theorem dX13_rots_131 : decode cX13_rots 131 = .ok (.invokestatic 425, 3) := by decide +kernel
theorem dX13_rots_134 : decode cX13_rots 134 = .ok (.iconst 1, 1) := by decide +kernel
theorem dX13_rots_135 : decode cX13_rots 135 = .ok (.iastore, 1) := by decide +kernel
theorem dX13_rots_136 : decode cX13_rots 136 = .ok (.return_, 1) := by decide +kernel
theorem dX13_round_0 : decode cX13_round 0 = .ok (.aload_n 0, 1) := by decide +kernel
theorem dX13_round_1 : decode cX13_round 1 = .ok (.iconst 0, 1) := by decide +kernel
theorem dX13_round_2 : decode cX13_round 2 = .ok (.putfield 63, 3) := by decide +kernel
theorem dX13_round_5 : decode cX13_round 5 = .ok (.aload_n 0, 1) := by decide +kernel
theorem dX13_round_6 : decode cX13_round 6 = .ok (.iload_n 1, 1) := by decide +kernel
theorem dX13_round_7 : decode cX13_round 7 = .ok (.iload_n 2, 1) := by decide +kernel
theorem dX13_round_8 : decode cX13_round 8 = .ok (.invokevirtual 537, 3) := by decide +kernel
theorem dX13_round_11 : decode cX13_round 11 = .ok (.ifCond .eq 24, 3) := by decide +kernel
theorem dX13_round_14 : decode cX13_round 14 = .ok (.iload_n 2, 1) := by decide +kernel
theorem dX13_round_15 : decode cX13_round 15 = .ok (.iconst 1, 1) := by decide +kernel
theorem dX13_round_16 : decode cX13_round 16 = .ok (.if_icmp .le 19, 3) := by decide +kernel
theorem dX13_round_19 : decode cX13_round 19 = .ok (.aload_n 0, 1) := by decide +kernel
theorem dX13_round_20 : decode cX13_round 20 = .ok (.aload_n 0, 1) := by decide +kernel
theorem dX13_round_21 : decode cX13_round 21 = .ok (.getfield 17, 3) := by decide +kernel
theorem dX13_round_24 : decode cX13_round 24 = .ok (.iload_n 1, 1) := by decide +kernel
theorem dX13_round_25 : decode cX13_round 25 = .ok (.iload_n 2, 1) := by decide +kernel
theorem dX13_round_26 : decode cX13_round 26 = .ok (.invokestatic 464, 3) := by decide +kernel
theorem dX13_round_29 : decode cX13_round 29 = .ok (.invokevirtual 73, 3) := by decide +kernel
theorem dX13_round_32 : decode cX13_round 32 = .ok (.goto 8, 3) := by decide +kernel
theorem dX13_round_35 : decode cX13_round 35 = .ok (.aload_n 0, 1) := by decide +kernel
theorem dX13_round_36 : decode cX13_round 36 = .ok (.iconst 1, 1) := by decide +kernel
theorem dX13_round_37 : decode cX13_round 37 = .ok (.invokevirtual 69, 3) := by decide +kernel
theorem dX13_round_40 : decode cX13_round 40 = .ok (.ireturn, 1) := by decide +kernel
theorem dX13_roundIn_0 : decode cX13_roundIn 0 = .ok (.iload_n 2, 1) := by decide +kernel
theorem dX13_roundIn_1 : decode cX13_roundIn 1 = .ok (.iload_n 2, 1) := by decide +kernel
theorem dX13_roundIn_2 : decode cX13_roundIn 2 = .ok (.aload_n 0, 1) := by decide +kernel
theorem dX13_roundIn_3 : decode cX13_roundIn 3 = .ok (.iload_n 1, 1) := by decide +kernel
theorem dX13_roundIn_4 : decode cX13_roundIn 4 = .ok (.iload_n 2, 1) := by decide +kernel
theorem dX13_roundIn_5 : decode cX13_roundIn 5 = .ok (.iconst 1, 1) := by decide +kernel
theorem dX13_roundIn_6 : decode cX13_roundIn 6 = .ok (.invokestatic 425, 3) := by decide +kernel
theorem dX13_roundIn_9 : decode cX13_roundIn 9 = .ok (.iaload, 1) := by decide +kernel
theorem dX13_roundIn_10 : decode cX13_roundIn 10 = .ok (.aload_n 0, 1) := by decide +kernel
theorem dX13_roundIn_11 : decode cX13_roundIn 11 = .ok (.iload_n 1, 1) := by decide +kernel
theorem dX13_roundIn_12 : decode cX13_roundIn 12 = .ok (.iload_n 2, 1) := by decide +kernel
theorem dX13_roundIn_13 : decode cX13_roundIn 13 = .ok (.iconst 2, 1) := by decide +kernel
theorem dX13_roundIn_14 : decode cX13_roundIn 14 = .ok (.invokestatic 425, 3) := by decide +kernel
theorem dX13_roundIn_17 : decode cX13_roundIn 17 = .ok (.iaload, 1) := by decide +kernel
theorem dX13_roundIn_18 : decode cX13_roundIn 18 = .ok (.invokestatic 455, 3) := by decide +kernel
theorem dX13_roundIn_21 : decode cX13_roundIn 21 = .ok (.iload_n 2, 1) := by decide +kernel
theorem dX13_roundIn_22 : decode cX13_roundIn 22 = .ok (.iconst 1, 1) := by decide +kernel
theorem dX13_roundIn_23 : decode cX13_roundIn 23 = .ok (.isub, 1) := by decide +kernel
theorem dX13_roundIn_24 : decode cX13_roundIn 24 = .ok (.aload_n 0, 1) := by decide +kernel
theorem dX13_roundIn_25 : decode cX13_roundIn 25 = .ok (.iload_n 1, 1) := by decide +kernel
theorem dX13_roundIn_26 : decode cX13_roundIn 26 = .ok (.iload_n 2, 1) := by decide +kernel
theorem dX13_roundIn_27 : decode cX13_roundIn 27 = .ok (.iconst 1, 1) := by decide +kernel
theorem dX13_roundIn_28 : decode cX13_roundIn 28 = .ok (.isub, 1) := by decide +kernel
theorem dX13_roundIn_29 : decode cX13_roundIn 29 = .ok (.iconst 1, 1) := by decide +kernel
theorem dX13_roundIn_30 : decode cX13_roundIn 30 = .ok (.invokestatic 425, 3) := by decide +kernel
theorem dX13_roundIn_33 : decode cX13_roundIn 33 = .ok (.iaload, 1) := by decide +kernel
theorem dX13_roundIn_34 : decode cX13_roundIn 34 = .ok (.aload_n 0, 1) := by decide +kernel
theorem dX13_roundIn_35 : decode cX13_roundIn 35 = .ok (.iload_n 1, 1) := by decide +kernel
theorem dX13_roundIn_36 : decode cX13_roundIn 36 = .ok (.iload_n 2, 1) := by decide +kernel
theorem dX13_roundIn_37 : decode cX13_roundIn 37 = .ok (.iconst 1, 1) := by decide +kernel
theorem dX13_roundIn_38 : decode cX13_roundIn 38 = .ok (.isub, 1) := by decide +kernel
theorem dX13_roundIn_39 : decode cX13_roundIn 39 = .ok (.iconst 2, 1) := by decide +kernel
theorem dX13_roundIn_40 : decode cX13_roundIn 40 = .ok (.invokestatic 425, 3) := by decide +kernel
theorem dX13_roundIn_43 : decode cX13_roundIn 43 = .ok (.iaload, 1) := by decide +kernel
theorem dX13_roundIn_44 : decode cX13_roundIn 44 = .ok (.invokestatic 458, 3) := by decide +kernel
theorem dX13_roundIn_47 : decode cX13_roundIn 47 = .ok (.invokestatic 461, 3) := by decide +kernel
theorem dX13_roundIn_50 : decode cX13_roundIn 50 = .ok (.ireturn, 1) := by decide +kernel
theorem dX13_roundOf_0 : decode cX13_roundOf 0 = .ok (.iload_n 1, 1) := by decide +kernel
theorem dX13_roundOf_1 : decode cX13_roundOf 1 = .ok (.iload_n 2, 1) := by decide +kernel
theorem dX13_roundOf_2 : decode cX13_roundOf 2 = .ok (.if_icmp .le 9, 3) := by decide +kernel
theorem dX13_roundOf_5 : decode cX13_roundOf 5 = .ok (.iload_n 1, 1) := by decide +kernel
theorem dX13_roundOf_6 : decode cX13_roundOf 6 = .ok (.iload_n 2, 1) := by decide +kernel
theorem dX13_roundOf_7 : decode cX13_roundOf 7 = .ok (.isub, 1) := by decide +kernel
theorem dX13_roundOf_8 : decode cX13_roundOf 8 = .ok (.goto 6, 3) := by decide +kernel
theorem dX13_roundOf_11 : decode cX13_roundOf 11 = .ok (.iload_n 2, 1) := by decide +kernel
theorem dX13_roundOf_12 : decode cX13_roundOf 12 = .ok (.iload_n 1, 1) := by decide +kernel
theorem dX13_roundOf_13 : decode cX13_roundOf 13 = .ok (.isub, 1) := by decide +kernel
theorem dX13_roundOf_14 : decode cX13_roundOf 14 = .ok (.istore_n 3, 1) := by decide +kernel
theorem dX13_roundOf_15 : decode cX13_roundOf 15 = .ok (.iload_n 3, 1) := by decide +kernel
theorem dX13_roundOf_16 : decode cX13_roundOf 16 = .ok (.bipush 8, 2) := by decide +kernel
theorem dX13_roundOf_18 : decode cX13_roundOf 18 = .ok (.iload_n 0, 1) := by decide +kernel
theorem dX13_roundOf_19 : decode cX13_roundOf 19 = .ok (.imul, 1) := by decide +kernel
theorem dX13_roundOf_20 : decode cX13_roundOf 20 = .ok (.iload_n 3, 1) := by decide +kernel
theorem dX13_roundOf_21 : decode cX13_roundOf 21 = .ok (.isub, 1) := by decide +kernel
theorem dX13_roundOf_22 : decode cX13_roundOf 22 = .ok (.if_icmp .ge 7, 3) := by decide +kernel
theorem dX13_roundOf_25 : decode cX13_roundOf 25 = .ok (.iload_n 3, 1) := by decide +kernel
theorem dX13_roundOf_26 : decode cX13_roundOf 26 = .ok (.goto 9, 3) := by decide +kernel
theorem dX13_roundOf_29 : decode cX13_roundOf 29 = .ok (.bipush 8, 2) := by decide +kernel
theorem dX13_roundOf_31 : decode cX13_roundOf 31 = .ok (.iload_n 0, 1) := by decide +kernel
theorem dX13_roundOf_32 : decode cX13_roundOf 32 = .ok (.imul, 1) := by decide +kernel
theorem dX13_roundOf_33 : decode cX13_roundOf 33 = .ok (.iload_n 3, 1) := by decide +kernel
theorem dX13_roundOf_34 : decode cX13_roundOf 34 = .ok (.isub, 1) := by decide +kernel
theorem dX13_roundOf_35 : decode cX13_roundOf 35 = .ok (.ireturn, 1) := by decide +kernel
theorem dX13_seed_0 : decode cX13_seed 0 = .ok (.aload_n 0, 1) := by decide +kernel
theorem dX13_seed_1 : decode cX13_seed 1 = .ok (.iconst 0, 1) := by decide +kernel
theorem dX13_seed_2 : decode cX13_seed 2 = .ok (.putfield 63, 3) := by decide +kernel
theorem dX13_seed_5 : decode cX13_seed 5 = .ok (.aload_n 0, 1) := by decide +kernel
theorem dX13_seed_6 : decode cX13_seed 6 = .ok (.getfield 417, 3) := by decide +kernel
theorem dX13_seed_9 : decode cX13_seed 9 = .ok (.ifnonnull 9, 3) := by decide +kernel
theorem dX13_seed_12 : decode cX13_seed 12 = .ok (.aload_n 0, 1) := by decide +kernel
theorem dX13_seed_13 : decode cX13_seed 13 = .ok (.iconst 1, 1) := by decide +kernel
theorem dX13_seed_14 : decode cX13_seed 14 = .ok (.invokevirtual 619, 3) := by decide +kernel
theorem dX13_seed_17 : decode cX13_seed 17 = .ok (.ireturn, 1) := by decide +kernel
theorem dX13_seed_18 : decode cX13_seed 18 = .ok (.iload_n 1, 1) := by decide +kernel
theorem dX13_seed_19 : decode cX13_seed 19 = .ok (.iconst 0, 1) := by decide +kernel
theorem dX13_seed_20 : decode cX13_seed 20 = .ok (.ldc_w 591, 3) := by decide +kernel
theorem dX13_seed_23 : decode cX13_seed 23 = .ok (.invokestatic 141, 3) := by decide +kernel
theorem dX13_seed_26 : decode cX13_seed 26 = .ok (.ifCond .ne 9, 3) := by decide +kernel
theorem dX13_seed_29 : decode cX13_seed 29 = .ok (.aload_n 0, 1) := by decide +kernel
theorem dX13_seed_30 : decode cX13_seed 30 = .ok (.iconst 2, 1) := by decide +kernel
theorem dX13_seed_31 : decode cX13_seed 31 = .ok (.invokevirtual 619, 3) := by decide +kernel
theorem dX13_seed_34 : decode cX13_seed 34 = .ok (.ireturn, 1) := by decide +kernel
theorem dX13_seed_35 : decode cX13_seed 35 = .ok (.aload_n 0, 1) := by decide +kernel
theorem dX13_seed_36 : decode cX13_seed 36 = .ok (.getfield 17, 3) := by decide +kernel
theorem dX13_seed_39 : decode cX13_seed 39 = .ok (.sipush 211, 3) := by decide +kernel
theorem dX13_seed_42 : decode cX13_seed 42 = .ok (.iload_n 1, 1) := by decide +kernel
theorem dX13_seed_43 : decode cX13_seed 43 = .ok (.iastore, 1) := by decide +kernel
theorem dX13_seed_44 : decode cX13_seed 44 = .ok (.aload_n 0, 1) := by decide +kernel
theorem dX13_seed_45 : decode cX13_seed 45 = .ok (.invokevirtual 622, 3) := by decide +kernel
theorem dX13_seed_48 : decode cX13_seed 48 = .ok (.ireturn, 1) := by decide +kernel
theorem dX13_shared_0 : decode cX13_shared 0 = .ok (.aload_n 0, 1) := by decide +kernel
theorem dX13_shared_1 : decode cX13_shared 1 = .ok (.iconst 0, 1) := by decide +kernel
theorem dX13_shared_2 : decode cX13_shared 2 = .ok (.putfield 63, 3) := by decide +kernel
theorem dX13_shared_5 : decode cX13_shared 5 = .ok (.aload_n 0, 1) := by decide +kernel
theorem dX13_shared_6 : decode cX13_shared 6 = .ok (.getfield 417, 3) := by decide +kernel
theorem dX13_shared_9 : decode cX13_shared 9 = .ok (.ifnonnull 11, 3) := by decide +kernel
theorem dX13_shared_12 : decode cX13_shared 12 = .ok (.aload_n 0, 1) := by decide +kernel
theorem dX13_shared_13 : decode cX13_shared 13 = .ok (.iconst 1, 1) := by decide +kernel
theorem dX13_shared_14 : decode cX13_shared 14 = .ok (.invokevirtual 69, 3) := by decide +kernel
theorem dX13_shared_17 : decode cX13_shared 17 = .ok (.goto 14, 3) := by decide +kernel
theorem dX13_shared_20 : decode cX13_shared 20 = .ok (.aload_n 0, 1) := by decide +kernel
theorem dX13_shared_21 : decode cX13_shared 21 = .ok (.aload_n 0, 1) := by decide +kernel
theorem dX13_shared_22 : decode cX13_shared 22 = .ok (.iconst 2, 1) := by decide +kernel
theorem dX13_shared_23 : decode cX13_shared 23 = .ok (.iconst 4, 1) := by decide +kernel
theorem dX13_shared_24 : decode cX13_shared 24 = .ok (.iconst 0, 1) := by decide +kernel
theorem dX13_shared_25 : decode cX13_shared 25 = .ok (.invokevirtual 530, 3) := by decide +kernel
theorem dX13_shared_28 : decode cX13_shared 28 = .ok (.invokevirtual 73, 3) := by decide +kernel
theorem dX13_shared_31 : decode cX13_shared 31 = .ok (.ireturn, 1) := by decide +kernel
theorem dX13_size_0 : decode cX13_size 0 = .ok (.aload_n 0, 1) := by decide +kernel
theorem dX13_size_1 : decode cX13_size 1 = .ok (.iconst 0, 1) := by decide +kernel
theorem dX13_size_2 : decode cX13_size 2 = .ok (.putfield 63, 3) := by decide +kernel
theorem dX13_size_5 : decode cX13_size 5 = .ok (.iload_n 1, 1) := by decide +kernel
theorem dX13_size_6 : decode cX13_size 6 = .ok (.bipush 12, 2) := by decide +kernel
theorem dX13_size_8 : decode cX13_size 8 = .ok (.if_icmp .ne 8, 3) := by decide +kernel
theorem dX13_size_11 : decode cX13_size 11 = .ok (.aload_n 0, 1) := by decide +kernel
theorem dX13_size_12 : decode cX13_size 12 = .ok (.getfield 410, 3) := by decide +kernel
theorem dX13_size_15 : decode cX13_size 15 = .ok (.ireturn, 1) := by decide +kernel
theorem dX13_size_16 : decode cX13_size 16 = .ok (.iload_n 1, 1) := by decide +kernel
theorem dX13_size_17 : decode cX13_size 17 = .ok (.iconst 0, 1) := by decide +kernel
theorem dX13_size_18 : decode cX13_size 18 = .ok (.bipush 11, 2) := by decide +kernel
theorem dX13_size_20 : decode cX13_size 20 = .ok (.invokestatic 141, 3) := by decide +kernel
theorem dX13_size_23 : decode cX13_size 23 = .ok (.ifCond .ne 5, 3) := by decide +kernel
theorem dX13_size_26 : decode cX13_size 26 = .ok (.iconst (-1), 1) := by decide +kernel
theorem dX13_size_27 : decode cX13_size 27 = .ok (.ireturn, 1) := by decide +kernel
theorem dX13_size_28 : decode cX13_size 28 = .ok (.aload_n 0, 1) := by decide +kernel
theorem dX13_size_29 : decode cX13_size 29 = .ok (.getfield 417, 3) := by decide +kernel
theorem dX13_size_32 : decode cX13_size 32 = .ok (.ifnonnull 5, 3) := by decide +kernel
theorem dX13_size_35 : decode cX13_size 35 = .ok (.iconst 0, 1) := by decide +kernel
theorem dX13_size_36 : decode cX13_size 36 = .ok (.ireturn, 1) := by decide +kernel
theorem dX13_size_37 : decode cX13_size 37 = .ok (.iload_n 1, 1) := by decide +kernel
theorem dX13_size_38 : decode cX13_size 38 = .ok (.tableswitch 161 0 10 #[58, 66, 74, 90, 106, 114, 122, 130, 138, 147, 156], 58) := by decide +kernel
theorem dX13_size_96 : decode cX13_size 96 = .ok (.aload_n 0, 1) := by decide +kernel
theorem dX13_size_97 : decode cX13_size 97 = .ok (.getfield 417, 3) := by decide +kernel
theorem dX13_size_100 : decode cX13_size 100 = .ok (.getfield 160, 3) := by decide +kernel
theorem dX13_size_103 : decode cX13_size 103 = .ok (.ireturn, 1) := by decide +kernel
theorem dX13_size_104 : decode cX13_size 104 = .ok (.aload_n 0, 1) := by decide +kernel
theorem dX13_size_105 : decode cX13_size 105 = .ok (.getfield 417, 3) := by decide +kernel
theorem dX13_size_108 : decode cX13_size 108 = .ok (.getfield 168, 3) := by decide +kernel
theorem dX13_size_111 : decode cX13_size 111 = .ok (.ireturn, 1) := by decide +kernel
theorem dX13_size_112 : decode cX13_size 112 = .ok (.aload_n 0, 1) := by decide +kernel
theorem dX13_size_113 : decode cX13_size 113 = .ok (.getfield 417, 3) := by decide +kernel
theorem dX13_size_116 : decode cX13_size 116 = .ok (.getfield 281, 3) := by decide +kernel
theorem dX13_size_119 : decode cX13_size 119 = .ok (.ifCond .eq 7, 3) := by decide +kernel
theorem dX13_size_122 : decode cX13_size 122 = .ok (.iconst 1, 1) := by decide +kernel
theorem dX13_size_123 : decode cX13_size 123 = .ok (.goto 4, 3) := by decide +kernel
theorem dX13_size_126 : decode cX13_size 126 = .ok (.iconst 0, 1) := by decide +kernel
theorem dX13_size_127 : decode cX13_size 127 = .ok (.ireturn, 1) := by decide +kernel
theorem dX13_size_128 : decode cX13_size 128 = .ok (.aload_n 0, 1) := by decide +kernel
theorem dX13_size_129 : decode cX13_size 129 = .ok (.getfield 417, 3) := by decide +kernel
theorem dX13_size_132 : decode cX13_size 132 = .ok (.getfield 284, 3) := by decide +kernel
theorem dX13_size_135 : decode cX13_size 135 = .ok (.ifCond .eq 7, 3) := by decide +kernel
theorem dX13_size_138 : decode cX13_size 138 = .ok (.iconst 1, 1) := by decide +kernel
theorem dX13_size_139 : decode cX13_size 139 = .ok (.goto 4, 3) := by decide +kernel
theorem dX13_size_142 : decode cX13_size 142 = .ok (.iconst 0, 1) := by decide +kernel
theorem dX13_size_143 : decode cX13_size 143 = .ok (.ireturn, 1) := by decide +kernel
theorem dX13_size_144 : decode cX13_size 144 = .ok (.aload_n 0, 1) := by decide +kernel
theorem dX13_size_145 : decode cX13_size 145 = .ok (.getfield 417, 3) := by decide +kernel
theorem dX13_size_148 : decode cX13_size 148 = .ok (.getfield 226, 3) := by decide +kernel
theorem dX13_size_151 : decode cX13_size 151 = .ok (.ireturn, 1) := by decide +kernel
theorem dX13_size_152 : decode cX13_size 152 = .ok (.aload_n 0, 1) := by decide +kernel
theorem dX13_size_153 : decode cX13_size 153 = .ok (.getfield 417, 3) := by decide +kernel
theorem dX13_size_156 : decode cX13_size 156 = .ok (.getfield 229, 3) := by decide +kernel
theorem dX13_size_159 : decode cX13_size 159 = .ok (.ireturn, 1) := by decide +kernel
theorem dX13_size_160 : decode cX13_size 160 = .ok (.aload_n 0, 1) := by decide +kernel
theorem dX13_size_161 : decode cX13_size 161 = .ok (.getfield 417, 3) := by decide +kernel
theorem dX13_size_164 : decode cX13_size 164 = .ok (.getfield 388, 3) := by decide +kernel
theorem dX13_size_167 : decode cX13_size 167 = .ok (.ireturn, 1) := by decide +kernel
theorem dX13_size_168 : decode cX13_size 168 = .ok (.aload_n 0, 1) := by decide +kernel
theorem dX13_size_169 : decode cX13_size 169 = .ok (.getfield 417, 3) := by decide +kernel
theorem dX13_size_172 : decode cX13_size 172 = .ok (.getfield 394, 3) := by decide +kernel
theorem dX13_size_175 : decode cX13_size 175 = .ok (.ireturn, 1) := by decide +kernel
theorem dX13_size_176 : decode cX13_size 176 = .ok (.aload_n 0, 1) := by decide +kernel
theorem dX13_size_177 : decode cX13_size 177 = .ok (.getfield 17, 3) := by decide +kernel
theorem dX13_size_180 : decode cX13_size 180 = .ok (.sipush 210, 3) := by decide +kernel
theorem dX13_size_183 : decode cX13_size 183 = .ok (.iaload, 1) := by decide +kernel
theorem dX13_size_184 : decode cX13_size 184 = .ok (.ireturn, 1) := by decide +kernel
theorem dX13_size_185 : decode cX13_size 185 = .ok (.aload_n 0, 1) := by decide +kernel
theorem dX13_size_186 : decode cX13_size 186 = .ok (.getfield 17, 3) := by decide +kernel
theorem dX13_size_189 : decode cX13_size 189 = .ok (.sipush 211, 3) := by decide +kernel
theorem dX13_size_192 : decode cX13_size 192 = .ok (.iaload, 1) := by decide +kernel
theorem dX13_size_193 : decode cX13_size 193 = .ok (.ireturn, 1) := by decide +kernel
theorem dX13_size_194 : decode cX13_size 194 = .ok (.aload_n 0, 1) := by decide +kernel
theorem dX13_size_195 : decode cX13_size 195 = .ok (.getfield 419, 3) := by decide +kernel
theorem dX13_size_198 : decode cX13_size 198 = .ok (.ireturn, 1) := by decide +kernel
theorem dX13_size_199 : decode cX13_size 199 = .ok (.aload_n 0, 1) := by decide +kernel
theorem dX13_size_200 : decode cX13_size 200 = .ok (.getfield 422, 3) := by decide +kernel
theorem dX13_size_203 : decode cX13_size 203 = .ok (.ireturn, 1) := by decide +kernel
theorem dX13_skin_0 : decode cX13_skin 0 = .ok (.aload_n 0, 1) := by decide +kernel
theorem dX13_skin_1 : decode cX13_skin 1 = .ok (.iconst 0, 1) := by decide +kernel
theorem dX13_skin_2 : decode cX13_skin 2 = .ok (.putfield 63, 3) := by decide +kernel
theorem dX13_skin_5 : decode cX13_skin 5 = .ok (.aload_n 0, 1) := by decide +kernel
theorem dX13_skin_6 : decode cX13_skin 6 = .ok (.iload_n 1, 1) := by decide +kernel
theorem dX13_skin_7 : decode cX13_skin 7 = .ok (.iload_n 2, 1) := by decide +kernel
theorem dX13_skin_8 : decode cX13_skin 8 = .ok (.invokevirtual 537, 3) := by decide +kernel
theorem dX13_skin_11 : decode cX13_skin 11 = .ok (.ifCond .eq 31, 3) := by decide +kernel
theorem dX13_skin_14 : decode cX13_skin 14 = .ok (.iload_n 3, 1) := by decide +kernel
theorem dX13_skin_15 : decode cX13_skin 15 = .ok (.iconst 0, 1) := by decide +kernel
theorem dX13_skin_16 : decode cX13_skin 16 = .ok (.bipush 7, 2) := by decide +kernel
theorem dX13_skin_18 : decode cX13_skin 18 = .ok (.invokestatic 141, 3) := by decide +kernel
theorem dX13_skin_21 : decode cX13_skin 21 = .ok (.ifCond .eq 21, 3) := by decide +kernel
theorem dX13_skin_24 : decode cX13_skin 24 = .ok (.aload_n 0, 1) := by decide +kernel
theorem dX13_skin_25 : decode cX13_skin 25 = .ok (.aload_n 0, 1) := by decide +kernel
theorem dX13_skin_26 : decode cX13_skin 26 = .ok (.getfield 17, 3) := by decide +kernel
theorem dX13_skin_29 : decode cX13_skin 29 = .ok (.iload_n 1, 1) := by decide +kernel
theorem dX13_skin_30 : decode cX13_skin 30 = .ok (.iload_n 2, 1) := by decide +kernel
theorem dX13_skin_31 : decode cX13_skin 31 = .ok (.iload_n 3, 1) := by decide +kernel
theorem dX13_skin_32 : decode cX13_skin 32 = .ok (.invokestatic 425, 3) := by decide +kernel
theorem dX13_skin_35 : decode cX13_skin 35 = .ok (.iaload, 1) := by decide +kernel
theorem dX13_skin_36 : decode cX13_skin 36 = .ok (.invokevirtual 73, 3) := by decide +kernel
theorem dX13_skin_39 : decode cX13_skin 39 = .ok (.goto 8, 3) := by decide +kernel
theorem dX13_skin_42 : decode cX13_skin 42 = .ok (.aload_n 0, 1) := by decide +kernel
theorem dX13_skin_43 : decode cX13_skin 43 = .ok (.iconst 1, 1) := by decide +kernel
theorem dX13_skin_44 : decode cX13_skin 44 = .ok (.invokevirtual 69, 3) := by decide +kernel
theorem dX13_skin_47 : decode cX13_skin 47 = .ok (.ireturn, 1) := by decide +kernel
theorem dX13_skinsIn_0 : decode cX13_skinsIn 0 = .ok (.aload_n 0, 1) := by decide +kernel
theorem dX13_skinsIn_1 : decode cX13_skinsIn 1 = .ok (.iconst 0, 1) := by decide +kernel
theorem dX13_skinsIn_2 : decode cX13_skinsIn 2 = .ok (.putfield 63, 3) := by decide +kernel
theorem dX13_skinsIn_5 : decode cX13_skinsIn 5 = .ok (.aload_n 0, 1) := by decide +kernel
theorem dX13_skinsIn_6 : decode cX13_skinsIn 6 = .ok (.iconst 1, 1) := by decide +kernel
theorem dX13_skinsIn_7 : decode cX13_skinsIn 7 = .ok (.iload_n 1, 1) := by decide +kernel
theorem dX13_skinsIn_8 : decode cX13_skinsIn 8 = .ok (.bipush 60, 2) := by decide +kernel
theorem dX13_skinsIn_10 : decode cX13_skinsIn 10 = .ok (.invokevirtual 565, 3) := by decide +kernel
theorem dX13_skinsIn_13 : decode cX13_skinsIn 13 = .ok (.istore_n 2, 1) := by decide +kernel
theorem dX13_skinsIn_14 : decode cX13_skinsIn 14 = .ok (.iload_n 2, 1) := by decide +kernel
theorem dX13_skinsIn_15 : decode cX13_skinsIn 15 = .ok (.ifCond .le 9, 3) := by decide +kernel
theorem dX13_skinsIn_18 : decode cX13_skinsIn 18 = .ok (.aload_n 0, 1) := by decide +kernel
theorem dX13_skinsIn_19 : decode cX13_skinsIn 19 = .ok (.iload_n 2, 1) := by decide +kernel
theorem dX13_skinsIn_20 : decode cX13_skinsIn 20 = .ok (.invokevirtual 69, 3) := by decide +kernel
theorem dX13_skinsIn_23 : decode cX13_skinsIn 23 = .ok (.ireturn, 1) := by decide +kernel
theorem dX13_skinsIn_24 : decode cX13_skinsIn 24 = .ok (.aload_n 0, 1) := by decide +kernel
theorem dX13_skinsIn_25 : decode cX13_skinsIn 25 = .ok (.iload_n 1, 1) := by decide +kernel
theorem dX13_skinsIn_26 : decode cX13_skinsIn 26 = .ok (.invokevirtual 569, 3) := by decide +kernel
theorem dX13_skinsIn_29 : decode cX13_skinsIn 29 = .ok (.aload_n 0, 1) := by decide +kernel
theorem dX13_skinsIn_30 : decode cX13_skinsIn 30 = .ok (.aload_n 0, 1) := by decide +kernel
theorem dX13_skinsIn_31 : decode cX13_skinsIn 31 = .ok (.getfield 21, 3) := by decide +kernel
theorem dX13_skinsIn_34 : decode cX13_skinsIn 34 = .ok (.invokestatic 572, 3) := by decide +kernel
theorem dX13_skinsIn_37 : decode cX13_skinsIn 37 = .ok (.invokevirtual 73, 3) := by decide +kernel
theorem dX13_skinsIn_40 : decode cX13_skinsIn 40 = .ok (.ireturn, 1) := by decide +kernel
theorem dX13_soonest_0 : decode cX13_soonest 0 = .ok (.aload_n 0, 1) := by decide +kernel
theorem dX13_soonest_1 : decode cX13_soonest 1 = .ok (.iconst 0, 1) := by decide +kernel
theorem dX13_soonest_2 : decode cX13_soonest 2 = .ok (.putfield 63, 3) := by decide +kernel
theorem dX13_soonest_5 : decode cX13_soonest 5 = .ok (.aload_n 0, 1) := by decide +kernel
theorem dX13_soonest_6 : decode cX13_soonest 6 = .ok (.iload_n 1, 1) := by decide +kernel
theorem dX13_soonest_7 : decode cX13_soonest 7 = .ok (.invokevirtual 613, 3) := by decide +kernel
theorem dX13_soonest_10 : decode cX13_soonest 10 = .ok (.ifCond .ne 9, 3) := by decide +kernel
theorem dX13_soonest_13 : decode cX13_soonest 13 = .ok (.aload_n 0, 1) := by decide +kernel
theorem dX13_soonest_14 : decode cX13_soonest 14 = .ok (.iconst 1, 1) := by decide +kernel
theorem dX13_soonest_15 : decode cX13_soonest 15 = .ok (.invokevirtual 69, 3) := by decide +kernel
theorem dX13_soonest_18 : decode cX13_soonest 18 = .ok (.ireturn, 1) := by decide +kernel
theorem dX13_soonest_19 : decode cX13_soonest 19 = .ok (.aload_n 0, 1) := by decide +kernel
theorem dX13_soonest_20 : decode cX13_soonest 20 = .ok (.iconst (-1), 1) := by decide +kernel
theorem dX13_soonest_21 : decode cX13_soonest 21 = .ok (.invokevirtual 610, 3) := by decide +kernel
theorem dX13_soonest_24 : decode cX13_soonest 24 = .ok (.aload_n 0, 1) := by decide +kernel
theorem dX13_soonest_25 : decode cX13_soonest 25 = .ok (.aload_n 0, 1) := by decide +kernel
theorem dX13_soonest_26 : decode cX13_soonest 26 = .ok (.getfield 45, 3) := by decide +kernel
theorem dX13_soonest_29 : decode cX13_soonest 29 = .ok (.iload_n 1, 1) := by decide +kernel
theorem dX13_soonest_30 : decode cX13_soonest 30 = .ok (.iaload, 1) := by decide +kernel
theorem dX13_soonest_31 : decode cX13_soonest 31 = .ok (.invokevirtual 73, 3) := by decide +kernel
theorem dX13_soonest_34 : decode cX13_soonest 34 = .ok (.ireturn, 1) := by decide +kernel
theorem dX13_stone_0 : decode cX13_stone 0 = .ok (.aload_n 0, 1) := by decide +kernel
theorem dX13_stone_1 : decode cX13_stone 1 = .ok (.iconst 0, 1) := by decide +kernel
theorem dX13_stone_2 : decode cX13_stone 2 = .ok (.putfield 63, 3) := by decide +kernel
theorem dX13_stone_5 : decode cX13_stone 5 = .ok (.aload_n 0, 1) := by decide +kernel
theorem dX13_stone_6 : decode cX13_stone 6 = .ok (.iload_n 1, 1) := by decide +kernel
theorem dX13_stone_7 : decode cX13_stone 7 = .ok (.invokevirtual 549, 3) := by decide +kernel
theorem dX13_stone_10 : decode cX13_stone 10 = .ok (.ifCond .eq 12, 3) := by decide +kernel
theorem dX13_stone_13 : decode cX13_stone 13 = .ok (.iload_n 2, 1) := by decide +kernel
theorem dX13_stone_14 : decode cX13_stone 14 = .ok (.iconst 0, 1) := by decide +kernel
theorem dX13_stone_15 : decode cX13_stone 15 = .ok (.iconst 4, 1) := by decide +kernel
theorem dX13_stone_16 : decode cX13_stone 16 = .ok (.invokestatic 141, 3) := by decide +kernel
theorem dX13_stone_19 : decode cX13_stone 19 = .ok (.ifCond .ne 9, 3) := by decide +kernel
theorem dX13_stone_22 : decode cX13_stone 22 = .ok (.aload_n 0, 1) := by decide +kernel
theorem dX13_stone_23 : decode cX13_stone 23 = .ok (.iconst 1, 1) := by decide +kernel
theorem dX13_stone_24 : decode cX13_stone 24 = .ok (.invokevirtual 69, 3) := by decide +kernel
theorem dX13_stone_27 : decode cX13_stone 27 = .ok (.ireturn, 1) := by decide +kernel
theorem dX13_stone_28 : decode cX13_stone 28 = .ok (.iload_n 2, 1) := by decide +kernel
theorem dX13_stone_29 : decode cX13_stone 29 = .ok (.tableswitch 87 0 3 #[31, 45, 59, 73], 31) := by decide +kernel
theorem dX13_stone_60 : decode cX13_stone 60 = .ok (.aload_n 0, 1) := by decide +kernel
theorem dX13_stone_61 : decode cX13_stone 61 = .ok (.aload_n 0, 1) := by decide +kernel
theorem dX13_stone_62 : decode cX13_stone 62 = .ok (.getfield 417, 3) := by decide +kernel
theorem dX13_stone_65 : decode cX13_stone 65 = .ok (.getfield 332, 3) := by decide +kernel
theorem dX13_stone_68 : decode cX13_stone 68 = .ok (.iload_n 1, 1) := by decide +kernel
theorem dX13_stone_69 : decode cX13_stone 69 = .ok (.iaload, 1) := by decide +kernel
theorem dX13_stone_70 : decode cX13_stone 70 = .ok (.invokevirtual 73, 3) := by decide +kernel
theorem dX13_stone_73 : decode cX13_stone 73 = .ok (.ireturn, 1) := by decide +kernel
theorem dX13_stone_74 : decode cX13_stone 74 = .ok (.aload_n 0, 1) := by decide +kernel
theorem dX13_stone_75 : decode cX13_stone 75 = .ok (.aload_n 0, 1) := by decide +kernel
theorem dX13_stone_76 : decode cX13_stone 76 = .ok (.getfield 417, 3) := by decide +kernel
theorem dX13_stone_79 : decode cX13_stone 79 = .ok (.getfield 335, 3) := by decide +kernel
theorem dX13_stone_82 : decode cX13_stone 82 = .ok (.iload_n 1, 1) := by decide +kernel
theorem dX13_stone_83 : decode cX13_stone 83 = .ok (.iaload, 1) := by decide +kernel
theorem dX13_stone_84 : decode cX13_stone 84 = .ok (.invokevirtual 73, 3) := by decide +kernel
theorem dX13_stone_87 : decode cX13_stone 87 = .ok (.ireturn, 1) := by decide +kernel
theorem dX13_stone_88 : decode cX13_stone 88 = .ok (.aload_n 0, 1) := by decide +kernel
theorem dX13_stone_89 : decode cX13_stone 89 = .ok (.aload_n 0, 1) := by decide +kernel
theorem dX13_stone_90 : decode cX13_stone 90 = .ok (.getfield 417, 3) := by decide +kernel
theorem dX13_stone_93 : decode cX13_stone 93 = .ok (.getfield 337, 3) := by decide +kernel
theorem dX13_stone_96 : decode cX13_stone 96 = .ok (.iload_n 1, 1) := by decide +kernel
theorem dX13_stone_97 : decode cX13_stone 97 = .ok (.iaload, 1) := by decide +kernel
theorem dX13_stone_98 : decode cX13_stone 98 = .ok (.invokevirtual 73, 3) := by decide +kernel
theorem dX13_stone_101 : decode cX13_stone 101 = .ok (.ireturn, 1) := by decide +kernel
theorem dX13_stone_102 : decode cX13_stone 102 = .ok (.aload_n 0, 1) := by decide +kernel
theorem dX13_stone_103 : decode cX13_stone 103 = .ok (.aload_n 0, 1) := by decide +kernel
theorem dX13_stone_104 : decode cX13_stone 104 = .ok (.getfield 417, 3) := by decide +kernel
theorem dX13_stone_107 : decode cX13_stone 107 = .ok (.getfield 339, 3) := by decide +kernel
theorem dX13_stone_110 : decode cX13_stone 110 = .ok (.iload_n 1, 1) := by decide +kernel
theorem dX13_stone_111 : decode cX13_stone 111 = .ok (.iaload, 1) := by decide +kernel
theorem dX13_stone_112 : decode cX13_stone 112 = .ok (.invokevirtual 73, 3) := by decide +kernel
theorem dX13_stone_115 : decode cX13_stone 115 = .ok (.ireturn, 1) := by decide +kernel
theorem dX13_stone_116 : decode cX13_stone 116 = .ok (.aload_n 0, 1) := by decide +kernel
theorem dX13_stone_117 : decode cX13_stone 117 = .ok (.aload_n 0, 1) := by decide +kernel
theorem dX13_stone_118 : decode cX13_stone 118 = .ok (.getfield 417, 3) := by decide +kernel
theorem dX13_stone_121 : decode cX13_stone 121 = .ok (.getfield 341, 3) := by decide +kernel
theorem dX13_stone_124 : decode cX13_stone 124 = .ok (.iload_n 1, 1) := by decide +kernel
theorem dX13_stone_125 : decode cX13_stone 125 = .ok (.iaload, 1) := by decide +kernel
theorem dX13_stone_126 : decode cX13_stone 126 = .ok (.invokevirtual 73, 3) := by decide +kernel
theorem dX13_stone_129 : decode cX13_stone 129 = .ok (.ireturn, 1) := by decide +kernel
theorem dX13_surely_0 : decode cX13_surely 0 = .ok (.aload_n 0, 1) := by decide +kernel
theorem dX13_surely_1 : decode cX13_surely 1 = .ok (.iconst 0, 1) := by decide +kernel
theorem dX13_surely_2 : decode cX13_surely 2 = .ok (.putfield 63, 3) := by decide +kernel
theorem dX13_surely_5 : decode cX13_surely 5 = .ok (.aload_n 0, 1) := by decide +kernel
theorem dX13_surely_6 : decode cX13_surely 6 = .ok (.iload_n 1, 1) := by decide +kernel
theorem dX13_surely_7 : decode cX13_surely 7 = .ok (.invokevirtual 613, 3) := by decide +kernel
theorem dX13_surely_10 : decode cX13_surely 10 = .ok (.ifCond .eq 16, 3) := by decide +kernel
theorem dX13_surely_13 : decode cX13_surely 13 = .ok (.aload_n 0, 1) := by decide +kernel
theorem dX13_surely_14 : decode cX13_surely 14 = .ok (.iload_n 2, 1) := by decide +kernel
theorem dX13_surely_15 : decode cX13_surely 15 = .ok (.invokevirtual 613, 3) := by decide +kernel
theorem dX13_surely_18 : decode cX13_surely 18 = .ok (.ifCond .eq 8, 3) := by decide +kernel
theorem dX13_surely_21 : decode cX13_surely 21 = .ok (.iload_n 1, 1) := by decide +kernel
theorem dX13_surely_22 : decode cX13_surely 22 = .ok (.iload_n 2, 1) := by decide +kernel
theorem dX13_surely_23 : decode cX13_surely 23 = .ok (.if_icmp .ne 9, 3) := by decide +kernel
theorem dX13_surely_26 : decode cX13_surely 26 = .ok (.aload_n 0, 1) := by decide +kernel
theorem dX13_surely_27 : decode cX13_surely 27 = .ok (.iconst 1, 1) := by decide +kernel
theorem dX13_surely_28 : decode cX13_surely 28 = .ok (.invokevirtual 69, 3) := by decide +kernel
theorem dX13_surely_31 : decode cX13_surely 31 = .ok (.ireturn, 1) := by decide +kernel
theorem dX13_surely_32 : decode cX13_surely 32 = .ok (.aload_n 0, 1) := by decide +kernel
theorem dX13_surely_33 : decode cX13_surely 33 = .ok (.iconst (-1), 1) := by decide +kernel
theorem dX13_surely_34 : decode cX13_surely 34 = .ok (.invokevirtual 610, 3) := by decide +kernel
theorem dX13_surely_37 : decode cX13_surely 37 = .ok (.aload_n 0, 1) := by decide +kernel
theorem dX13_surely_38 : decode cX13_surely 38 = .ok (.aload_n 0, 1) := by decide +kernel
theorem dX13_surely_39 : decode cX13_surely 39 = .ok (.getfield 604, 3) := by decide +kernel
theorem dX13_surely_42 : decode cX13_surely 42 = .ok (.ifCond .le 20, 3) := by decide +kernel
theorem dX13_surely_45 : decode cX13_surely 45 = .ok (.aload_n 0, 1) := by decide +kernel
theorem dX13_surely_46 : decode cX13_surely 46 = .ok (.getfield 51, 3) := by decide +kernel
theorem dX13_surely_49 : decode cX13_surely 49 = .ok (.iload_n 2, 1) := by decide +kernel
theorem dX13_surely_50 : decode cX13_surely 50 = .ok (.iaload, 1) := by decide +kernel
theorem dX13_surely_51 : decode cX13_surely 51 = .ok (.iload_n 1, 1) := by decide +kernel
theorem dX13_surely_52 : decode cX13_surely 52 = .ok (.invokestatic 406, 3) := by decide +kernel
theorem dX13_surely_55 : decode cX13_surely 55 = .ok (.ifCond .eq 7, 3) := by decide +kernel
theorem dX13_surely_58 : decode cX13_surely 58 = .ok (.iconst 1, 1) := by decide +kernel
theorem dX13_surely_59 : decode cX13_surely 59 = .ok (.goto 4, 3) := by decide +kernel
theorem dX13_surely_62 : decode cX13_surely 62 = .ok (.iconst 0, 1) := by decide +kernel
theorem dX13_surely_63 : decode cX13_surely 63 = .ok (.invokevirtual 73, 3) := by decide +kernel
theorem dX13_surely_66 : decode cX13_surely 66 = .ok (.ireturn, 1) := by decide +kernel
theorem dX13_swaps_0 : decode cX13_swaps 0 = .ok (.aload_n 0, 1) := by decide +kernel
theorem dX13_swaps_1 : decode cX13_swaps 1 = .ok (.iload_n 1, 1) := by decide +kernel
theorem dX13_swaps_2 : decode cX13_swaps 2 = .ok (.iaload, 1) := by decide +kernel
theorem dX13_swaps_3 : decode cX13_swaps 3 = .ok (.istore_n 3, 1) := by decide +kernel
theorem dX13_swaps_4 : decode cX13_swaps 4 = .ok (.aload_n 0, 1) := by decide +kernel
theorem dX13_swaps_5 : decode cX13_swaps 5 = .ok (.iload_n 1, 1) := by decide +kernel
theorem dX13_swaps_6 : decode cX13_swaps 6 = .ok (.aload_n 0, 1) := by decide +kernel
theorem dX13_swaps_7 : decode cX13_swaps 7 = .ok (.iload_n 2, 1) := by decide +kernel
theorem dX13_swaps_8 : decode cX13_swaps 8 = .ok (.iaload, 1) := by decide +kernel
theorem dX13_swaps_9 : decode cX13_swaps 9 = .ok (.iastore, 1) := by decide +kernel
theorem dX13_swaps_10 : decode cX13_swaps 10 = .ok (.aload_n 0, 1) := by decide +kernel
theorem dX13_swaps_11 : decode cX13_swaps 11 = .ok (.iload_n 2, 1) := by decide +kernel
theorem dX13_swaps_12 : decode cX13_swaps 12 = .ok (.iload_n 3, 1) := by decide +kernel
theorem dX13_swaps_13 : decode cX13_swaps 13 = .ok (.iastore, 1) := by decide +kernel
theorem dX13_swaps_14 : decode cX13_swaps 14 = .ok (.return_, 1) := by decide +kernel
theorem dX13_take_0 : decode cX13_take 0 = .ok (.aload_n 0, 1) := by decide +kernel
theorem dX13_take_1 : decode cX13_take 1 = .ok (.iconst 0, 1) := by decide +kernel
theorem dX13_take_2 : decode cX13_take 2 = .ok (.putfield 63, 3) := by decide +kernel
theorem dX13_take_5 : decode cX13_take 5 = .ok (.aload_n 0, 1) := by decide +kernel
theorem dX13_take_6 : decode cX13_take 6 = .ok (.iload_n 1, 1) := by decide +kernel
theorem dX13_take_7 : decode cX13_take 7 = .ok (.invokevirtual 518, 3) := by decide +kernel
theorem dX13_take_10 : decode cX13_take 10 = .ok (.ifCond .ne 9, 3) := by decide +kernel
theorem dX13_take_13 : decode cX13_take 13 = .ok (.aload_n 0, 1) := by decide +kernel
theorem dX13_take_14 : decode cX13_take 14 = .ok (.iconst 1, 1) := by decide +kernel
theorem dX13_take_15 : decode cX13_take 15 = .ok (.invokevirtual 69, 3) := by decide +kernel
theorem dX13_take_18 : decode cX13_take 18 = .ok (.ireturn, 1) := by decide +kernel
theorem dX13_take_19 : decode cX13_take 19 = .ok (.aload_n 0, 1) := by decide +kernel
theorem dX13_take_20 : decode cX13_take 20 = .ok (.iload_n 1, 1) := by decide +kernel
theorem dX13_take_21 : decode cX13_take 21 = .ok (.invokevirtual 592, 3) := by decide +kernel
theorem dX13_take_24 : decode cX13_take 24 = .ok (.istore_n 2, 1) := by decide +kernel
theorem dX13_take_25 : decode cX13_take 25 = .ok (.iload_n 2, 1) := by decide +kernel
theorem dX13_take_26 : decode cX13_take 26 = .ok (.bipush (-2), 2) := by decide +kernel
theorem dX13_take_28 : decode cX13_take 28 = .ok (.if_icmp .ne 10, 3) := by decide +kernel
theorem dX13_take_31 : decode cX13_take 31 = .ok (.aload_n 0, 1) := by decide +kernel
theorem dX13_take_32 : decode cX13_take 32 = .ok (.bipush 6, 2) := by decide +kernel
theorem dX13_take_34 : decode cX13_take 34 = .ok (.invokevirtual 69, 3) := by decide +kernel
theorem dX13_take_37 : decode cX13_take 37 = .ok (.ireturn, 1) := by decide +kernel
theorem dX13_take_38 : decode cX13_take 38 = .ok (.aload_n 0, 1) := by decide +kernel
theorem dX13_take_39 : decode cX13_take 39 = .ok (.iload_n 1, 1) := by decide +kernel
theorem dX13_take_40 : decode cX13_take 40 = .ok (.iload_n 2, 1) := by decide +kernel
theorem dX13_take_41 : decode cX13_take 41 = .ok (.invokevirtual 598, 3) := by decide +kernel
theorem dX13_take_44 : decode cX13_take 44 = .ok (.ifCond .eq 9, 3) := by decide +kernel
theorem dX13_take_47 : decode cX13_take 47 = .ok (.aload_n 0, 1) := by decide +kernel
theorem dX13_take_48 : decode cX13_take 48 = .ok (.iconst 5, 1) := by decide +kernel
theorem dX13_take_49 : decode cX13_take 49 = .ok (.invokevirtual 69, 3) := by decide +kernel
theorem dX13_take_52 : decode cX13_take 52 = .ok (.ireturn, 1) := by decide +kernel
theorem dX13_take_53 : decode cX13_take 53 = .ok (.aload_n 0, 1) := by decide +kernel
theorem dX13_take_54 : decode cX13_take 54 = .ok (.invokevirtual 616, 3) := by decide +kernel
theorem dX13_take_57 : decode cX13_take 57 = .ok (.aload_n 0, 1) := by decide +kernel
theorem dX13_take_58 : decode cX13_take 58 = .ok (.iload_n 1, 1) := by decide +kernel
theorem dX13_take_59 : decode cX13_take 59 = .ok (.iload_n 2, 1) := by decide +kernel
theorem dX13_take_60 : decode cX13_take 60 = .ok (.invokevirtual 595, 3) := by decide +kernel
theorem dX13_take_63 : decode cX13_take 63 = .ok (.istore_n 3, 1) := by decide +kernel
theorem dX13_take_64 : decode cX13_take 64 = .ok (.aload_n 0, 1) := by decide +kernel
theorem dX13_take_65 : decode cX13_take 65 = .ok (.getfield 17, 3) := by decide +kernel
theorem dX13_take_68 : decode cX13_take 68 = .ok (.bipush 8, 2) := by decide +kernel
theorem dX13_take_70 : decode cX13_take 70 = .ok (.iload_n 1, 1) := by decide +kernel
theorem dX13_take_71 : decode cX13_take 71 = .ok (.iadd, 1) := by decide +kernel
theorem dX13_take_72 : decode cX13_take 72 = .ok (.sipush 999, 3) := by decide +kernel
theorem dX13_take_75 : decode cX13_take 75 = .ok (.aload_n 0, 1) := by decide +kernel
theorem dX13_take_76 : decode cX13_take 76 = .ok (.getfield 17, 3) := by decide +kernel
theorem dX13_take_79 : decode cX13_take 79 = .ok (.bipush 8, 2) := by decide +kernel
theorem dX13_take_81 : decode cX13_take 81 = .ok (.iload_n 1, 1) := by decide +kernel
theorem dX13_take_82 : decode cX13_take 82 = .ok (.iadd, 1) := by decide +kernel
theorem dX13_take_83 : decode cX13_take 83 = .ok (.iaload, 1) := by decide +kernel
theorem dX13_take_84 : decode cX13_take 84 = .ok (.iload_n 3, 1) := by decide +kernel
theorem dX13_take_85 : decode cX13_take 85 = .ok (.iadd, 1) := by decide +kernel
theorem dX13_take_86 : decode cX13_take 86 = .ok (.invokestatic 487, 3) := by decide +kernel
theorem dX13_take_89 : decode cX13_take 89 = .ok (.iastore, 1) := by decide +kernel
theorem dX13_take_90 : decode cX13_take 90 = .ok (.aload_n 0, 1) := by decide +kernel
theorem dX13_take_91 : decode cX13_take 91 = .ok (.getfield 17, 3) := by decide +kernel
theorem dX13_take_94 : decode cX13_take 94 = .ok (.iload_n 1, 1) := by decide +kernel
theorem dX13_take_95 : decode cX13_take 95 = .ok (.iload_n 2, 1) := by decide +kernel
theorem dX13_take_96 : decode cX13_take 96 = .ok (.iconst 5, 1) := by decide +kernel
theorem dX13_take_97 : decode cX13_take 97 = .ok (.invokestatic 425, 3) := by decide +kernel
theorem dX13_take_100 : decode cX13_take 100 = .ok (.iconst 1, 1) := by decide +kernel
theorem dX13_take_101 : decode cX13_take 101 = .ok (.iastore, 1) := by decide +kernel
theorem dX13_take_102 : decode cX13_take 102 = .ok (.aload_n 0, 1) := by decide +kernel
theorem dX13_take_103 : decode cX13_take 103 = .ok (.getfield 17, 3) := by decide +kernel
theorem dX13_take_106 : decode cX13_take 106 = .ok (.iload_n 1, 1) := by decide +kernel
theorem dX13_take_107 : decode cX13_take 107 = .ok (.iload_n 2, 1) := by decide +kernel
theorem dX13_take_108 : decode cX13_take 108 = .ok (.bipush 6, 2) := by decide +kernel
theorem dX13_take_110 : decode cX13_take 110 = .ok (.invokestatic 425, 3) := by decide +kernel
theorem dX13_take_113 : decode cX13_take 113 = .ok (.iconst 0, 1) := by decide +kernel
theorem dX13_take_114 : decode cX13_take 114 = .ok (.iastore, 1) := by decide +kernel
theorem dX13_take_115 : decode cX13_take 115 = .ok (.aload_n 0, 1) := by decide +kernel
theorem dX13_take_116 : decode cX13_take 116 = .ok (.iload_n 3, 1) := by decide +kernel
theorem dX13_take_117 : decode cX13_take 117 = .ok (.invokevirtual 73, 3) := by decide +kernel
theorem dX13_take_120 : decode cX13_take 120 = .ok (.ireturn, 1) := by decide +kernel
theorem dX13_takes_0 : decode cX13_takes 0 = .ok (.aload_n 0, 1) := by decide +kernel
theorem dX13_takes_1 : decode cX13_takes 1 = .ok (.iconst 0, 1) := by decide +kernel
theorem dX13_takes_2 : decode cX13_takes 2 = .ok (.putfield 63, 3) := by decide +kernel
theorem dX13_takes_5 : decode cX13_takes 5 = .ok (.aload_n 0, 1) := by decide +kernel
theorem dX13_takes_6 : decode cX13_takes 6 = .ok (.iload_n 1, 1) := by decide +kernel
theorem dX13_takes_7 : decode cX13_takes 7 = .ok (.invokevirtual 518, 3) := by decide +kernel
theorem dX13_takes_10 : decode cX13_takes 10 = .ok (.ifCond .ne 9, 3) := by decide +kernel
theorem dX13_takes_13 : decode cX13_takes 13 = .ok (.aload_n 0, 1) := by decide +kernel
theorem dX13_takes_14 : decode cX13_takes 14 = .ok (.iconst 1, 1) := by decide +kernel
theorem dX13_takes_15 : decode cX13_takes 15 = .ok (.invokevirtual 69, 3) := by decide +kernel
theorem dX13_takes_18 : decode cX13_takes 18 = .ok (.ireturn, 1) := by decide +kernel
theorem dX13_takes_19 : decode cX13_takes 19 = .ok (.aload_n 0, 1) := by decide +kernel
theorem dX13_takes_20 : decode cX13_takes 20 = .ok (.aload_n 0, 1) := by decide +kernel
theorem dX13_takes_21 : decode cX13_takes 21 = .ok (.iload_n 1, 1) := by decide +kernel
theorem dX13_takes_22 : decode cX13_takes 22 = .ok (.invokevirtual 592, 3) := by decide +kernel
theorem dX13_takes_25 : decode cX13_takes 25 = .ok (.bipush (-2), 2) := by decide +kernel
theorem dX13_takes_27 : decode cX13_takes 27 = .ok (.if_icmp .ne 8, 3) := by decide +kernel
theorem dX13_takes_30 : decode cX13_takes 30 = .ok (.bipush (-2), 2) := by decide +kernel
theorem dX13_takes_32 : decode cX13_takes 32 = .ok (.goto 13, 3) := by decide +kernel
theorem dX13_takes_35 : decode cX13_takes 35 = .ok (.aload_n 0, 1) := by decide +kernel
theorem dX13_takes_36 : decode cX13_takes 36 = .ok (.iload_n 1, 1) := by decide +kernel
theorem dX13_takes_37 : decode cX13_takes 37 = .ok (.aload_n 0, 1) := by decide +kernel
theorem dX13_takes_38 : decode cX13_takes 38 = .ok (.iload_n 1, 1) := by decide +kernel
theorem dX13_takes_39 : decode cX13_takes 39 = .ok (.invokevirtual 592, 3) := by decide +kernel
theorem dX13_takes_42 : decode cX13_takes 42 = .ok (.invokevirtual 595, 3) := by decide +kernel
theorem dX13_takes_45 : decode cX13_takes 45 = .ok (.invokevirtual 73, 3) := by decide +kernel
theorem dX13_takes_48 : decode cX13_takes 48 = .ok (.ireturn, 1) := by decide +kernel
theorem dX13_through_0 : decode cX13_through 0 = .ok (.aload_n 0, 1) := by decide +kernel
theorem dX13_through_1 : decode cX13_through 1 = .ok (.iconst 0, 1) := by decide +kernel
theorem dX13_through_2 : decode cX13_through 2 = .ok (.putfield 63, 3) := by decide +kernel
theorem dX13_through_5 : decode cX13_through 5 = .ok (.aload_n 0, 1) := by decide +kernel
theorem dX13_through_6 : decode cX13_through 6 = .ok (.iload_n 1, 1) := by decide +kernel
theorem dX13_through_7 : decode cX13_through 7 = .ok (.iload_n 2, 1) := by decide +kernel
theorem dX13_through_8 : decode cX13_through 8 = .ok (.invokevirtual 540, 3) := by decide +kernel
theorem dX13_through_11 : decode cX13_through 11 = .ok (.ifCond .eq 19, 3) := by decide +kernel
theorem dX13_through_14 : decode cX13_through 14 = .ok (.aload_n 0, 1) := by decide +kernel
theorem dX13_through_15 : decode cX13_through 15 = .ok (.aload_n 0, 1) := by decide +kernel
theorem dX13_through_16 : decode cX13_through 16 = .ok (.iload_n 1, 1) := by decide +kernel
theorem dX13_through_17 : decode cX13_through 17 = .ok (.iload_n 2, 1) := by decide +kernel
theorem dX13_through_18 : decode cX13_through 18 = .ok (.invokevirtual 562, 3) := by decide +kernel
theorem dX13_through_21 : decode cX13_through 21 = .ok (.bipush 100, 2) := by decide +kernel
theorem dX13_through_23 : decode cX13_through 23 = .ok (.idiv, 1) := by decide +kernel
theorem dX13_through_24 : decode cX13_through 24 = .ok (.invokevirtual 73, 3) := by decide +kernel
theorem dX13_through_27 : decode cX13_through 27 = .ok (.goto 8, 3) := by decide +kernel
theorem dX13_through_30 : decode cX13_through 30 = .ok (.aload_n 0, 1) := by decide +kernel
theorem dX13_through_31 : decode cX13_through 31 = .ok (.iconst 1, 1) := by decide +kernel
theorem dX13_through_32 : decode cX13_through 32 = .ok (.invokevirtual 69, 3) := by decide +kernel
theorem dX13_through_35 : decode cX13_through 35 = .ok (.ireturn, 1) := by decide +kernel
theorem dX13_throughTo_0 : decode cX13_throughTo 0 = .ok (.aload_n 0, 1) := by decide +kernel
theorem dX13_throughTo_1 : decode cX13_throughTo 1 = .ok (.getfield 17, 3) := by decide +kernel
theorem dX13_throughTo_4 : decode cX13_throughTo 4 = .ok (.iconst 0, 1) := by decide +kernel
theorem dX13_throughTo_5 : decode cX13_throughTo 5 = .ok (.iload_n 1, 1) := by decide +kernel
theorem dX13_throughTo_6 : decode cX13_throughTo 6 = .ok (.iadd, 1) := by decide +kernel
theorem dX13_throughTo_7 : decode cX13_throughTo 7 = .ok (.iaload, 1) := by decide +kernel
theorem dX13_throughTo_8 : decode cX13_throughTo 8 = .ok (.istore_n 3, 1) := by decide +kernel
theorem dX13_throughTo_9 : decode cX13_throughTo 9 = .ok (.iload_n 3, 1) := by decide +kernel
theorem dX13_throughTo_10 : decode cX13_throughTo 10 = .ok (.ifCond .ne 5, 3) := by decide +kernel
theorem dX13_throughTo_13 : decode cX13_throughTo 13 = .ok (.iconst 0, 1) := by decide +kernel
theorem dX13_throughTo_14 : decode cX13_throughTo 14 = .ok (.ireturn, 1) := by decide +kernel
theorem dX13_throughTo_15 : decode cX13_throughTo 15 = .ok (.iload_n 2, 1) := by decide +kernel
theorem dX13_throughTo_16 : decode cX13_throughTo 16 = .ok (.ifCond .le 7, 3) := by decide +kernel
theorem dX13_throughTo_19 : decode cX13_throughTo 19 = .ok (.iload_n 2, 1) := by decide +kernel
theorem dX13_throughTo_20 : decode cX13_throughTo 20 = .ok (.goto 4, 3) := by decide +kernel
theorem dX13_throughTo_23 : decode cX13_throughTo 23 = .ok (.iconst 1, 1) := by decide +kernel
theorem dX13_throughTo_24 : decode cX13_throughTo 24 = .ok (.istore 4, 2) := by decide +kernel
theorem dX13_throughTo_26 : decode cX13_throughTo 26 = .ok (.iload_n 3, 1) := by decide +kernel
theorem dX13_throughTo_27 : decode cX13_throughTo 27 = .ok (.istore 5, 2) := by decide +kernel
theorem dX13_throughTo_29 : decode cX13_throughTo 29 = .ok (.iload 5, 2) := by decide +kernel
theorem dX13_throughTo_31 : decode cX13_throughTo 31 = .ok (.iload 4, 2) := by decide +kernel
theorem dX13_throughTo_33 : decode cX13_throughTo 33 = .ok (.if_icmp .lt 229, 3) := by decide +kernel
theorem dX13_throughTo_36 : decode cX13_throughTo 36 = .ok (.iload 5, 2) := by decide +kernel
theorem dX13_throughTo_38 : decode cX13_throughTo 38 = .ok (.aload_n 0, 1) := by decide +kernel
theorem dX13_throughTo_39 : decode cX13_throughTo 39 = .ok (.getfield 17, 3) := by decide +kernel
theorem dX13_throughTo_42 : decode cX13_throughTo 42 = .ok (.iload_n 1, 1) := by decide +kernel
theorem dX13_throughTo_43 : decode cX13_throughTo 43 = .ok (.iload 5, 2) := by decide +kernel
theorem dX13_throughTo_45 : decode cX13_throughTo 45 = .ok (.iconst 1, 1) := by decide +kernel
theorem dX13_throughTo_46 : decode cX13_throughTo 46 = .ok (.invokestatic 425, 3) := by decide +kernel
theorem dX13_throughTo_49 : decode cX13_throughTo 49 = .ok (.iaload, 1) := by decide +kernel
theorem dX13_throughTo_50 : decode cX13_throughTo 50 = .ok (.aload_n 0, 1) := by decide +kernel
theorem dX13_throughTo_51 : decode cX13_throughTo 51 = .ok (.getfield 17, 3) := by decide +kernel
theorem dX13_throughTo_54 : decode cX13_throughTo 54 = .ok (.iload_n 1, 1) := by decide +kernel
theorem dX13_throughTo_55 : decode cX13_throughTo 55 = .ok (.iload 5, 2) := by decide +kernel
theorem dX13_throughTo_57 : decode cX13_throughTo 57 = .ok (.iconst 2, 1) := by decide +kernel
theorem dX13_throughTo_58 : decode cX13_throughTo 58 = .ok (.invokestatic 425, 3) := by decide +kernel
theorem dX13_throughTo_61 : decode cX13_throughTo 61 = .ok (.iaload, 1) := by decide +kernel
theorem dX13_throughTo_62 : decode cX13_throughTo 62 = .ok (.invokestatic 455, 3) := by decide +kernel
theorem dX13_throughTo_65 : decode cX13_throughTo 65 = .ok (.istore 6, 2) := by decide +kernel
theorem dX13_throughTo_67 : decode cX13_throughTo 67 = .ok (.iconst 0, 1) := by decide +kernel
theorem dX13_throughTo_68 : decode cX13_throughTo 68 = .ok (.istore 7, 2) := by decide +kernel
theorem dX13_throughTo_70 : decode cX13_throughTo 70 = .ok (.iload 7, 2) := by decide +kernel
theorem dX13_throughTo_72 : decode cX13_throughTo 72 = .ok (.bipush 8, 2) := by decide +kernel
theorem dX13_throughTo_74 : decode cX13_throughTo 74 = .ok (.iload 5, 2) := by decide +kernel
theorem dX13_throughTo_76 : decode cX13_throughTo 76 = .ok (.imul, 1) := by decide +kernel
theorem dX13_throughTo_77 : decode cX13_throughTo 77 = .ok (.if_icmp .ge 94, 3) := by decide +kernel
theorem dX13_throughTo_80 : decode cX13_throughTo 80 = .ok (.aload_n 0, 1) := by decide +kernel
theorem dX13_throughTo_81 : decode cX13_throughTo 81 = .ok (.getfield 39, 3) := by decide +kernel
theorem dX13_throughTo_84 : decode cX13_throughTo 84 = .ok (.iload 7, 2) := by decide +kernel
theorem dX13_throughTo_86 : decode cX13_throughTo 86 = .ok (.ldc_w 555, 3) := by decide +kernel
theorem dX13_throughTo_89 : decode cX13_throughTo 89 = .ok (.iastore, 1) := by decide +kernel
theorem dX13_throughTo_90 : decode cX13_throughTo 90 = .ok (.iload 7, 2) := by decide +kernel
theorem dX13_throughTo_92 : decode cX13_throughTo 92 = .ok (.iconst 2, 1) := by decide +kernel
theorem dX13_throughTo_93 : decode cX13_throughTo 93 = .ok (.iload 5, 2) := by decide +kernel
theorem dX13_throughTo_95 : decode cX13_throughTo 95 = .ok (.imul, 1) := by decide +kernel
theorem dX13_throughTo_96 : decode cX13_throughTo 96 = .ok (.irem, 1) := by decide +kernel
theorem dX13_throughTo_97 : decode cX13_throughTo 97 = .ok (.ifCond .eq 68, 3) := by decide +kernel
theorem dX13_throughTo_100 : decode cX13_throughTo 100 = .ok (.iload 5, 2) := by decide +kernel
theorem dX13_throughTo_102 : decode cX13_throughTo 102 = .ok (.iload_n 3, 1) := by decide +kernel
theorem dX13_throughTo_103 : decode cX13_throughTo 103 = .ok (.if_icmp .ne 13, 3) := by decide +kernel
theorem dX13_throughTo_106 : decode cX13_throughTo 106 = .ok (.iload 7, 2) := by decide +kernel
theorem dX13_throughTo_108 : decode cX13_throughTo 108 = .ok (.iload 6, 2) := by decide +kernel
theorem dX13_throughTo_110 : decode cX13_throughTo 110 = .ok (.if_icmp .eq 6, 3) := by decide +kernel
theorem dX13_throughTo_113 : decode cX13_throughTo 113 = .ok (.goto 52, 3) := by decide +kernel
theorem dX13_throughTo_116 : decode cX13_throughTo 116 = .ok (.aload_n 0, 1) := by decide +kernel
theorem dX13_throughTo_117 : decode cX13_throughTo 117 = .ok (.getfield 39, 3) := by decide +kernel
theorem dX13_throughTo_120 : decode cX13_throughTo 120 = .ok (.iload 7, 2) := by decide +kernel
theorem dX13_throughTo_122 : decode cX13_throughTo 122 = .ok (.aload_n 0, 1) := by decide +kernel
theorem dX13_throughTo_123 : decode cX13_throughTo 123 = .ok (.iload_n 1, 1) := by decide +kernel
theorem dX13_throughTo_124 : decode cX13_throughTo 124 = .ok (.iload 5, 2) := by decide +kernel
theorem dX13_throughTo_126 : decode cX13_throughTo 126 = .ok (.iload 7, 2) := by decide +kernel
theorem dX13_throughTo_128 : decode cX13_throughTo 128 = .ok (.iload 6, 2) := by decide +kernel
theorem dX13_throughTo_130 : decode cX13_throughTo 130 = .ok (.if_icmp .ne 7, 3) := by decide +kernel
theorem dX13_throughTo_133 : decode cX13_throughTo 133 = .ok (.iconst 1, 1) := by decide +kernel
theorem dX13_throughTo_134 : decode cX13_throughTo 134 = .ok (.goto 4, 3) := by decide +kernel
theorem dX13_throughTo_137 : decode cX13_throughTo 137 = .ok (.iconst 0, 1) := by decide +kernel
theorem dX13_throughTo_138 : decode cX13_throughTo 138 = .ok (.invokevirtual 556, 3) := by decide +kernel
theorem dX13_throughTo_141 : decode cX13_throughTo 141 = .ok (.iload 5, 2) := by decide +kernel
theorem dX13_throughTo_143 : decode cX13_throughTo 143 = .ok (.iload_n 3, 1) := by decide +kernel
theorem dX13_throughTo_144 : decode cX13_throughTo 144 = .ok (.if_icmp .ne 7, 3) := by decide +kernel
theorem dX13_throughTo_147 : decode cX13_throughTo 147 = .ok (.iconst 0, 1) := by decide +kernel
theorem dX13_throughTo_148 : decode cX13_throughTo 148 = .ok (.goto 15, 3) := by decide +kernel
theorem dX13_throughTo_151 : decode cX13_throughTo 151 = .ok (.aload_n 0, 1) := by decide +kernel
theorem dX13_throughTo_152 : decode cX13_throughTo 152 = .ok (.getfield 36, 3) := by decide +kernel
theorem dX13_throughTo_155 : decode cX13_throughTo 155 = .ok (.iload 5, 2) := by decide +kernel
theorem dX13_throughTo_157 : decode cX13_throughTo 157 = .ok (.iload 7, 2) := by decide +kernel
theorem dX13_throughTo_159 : decode cX13_throughTo 159 = .ok (.invokestatic 559, 3) := by decide +kernel
theorem dX13_throughTo_162 : decode cX13_throughTo 162 = .ok (.iaload, 1) := by decide +kernel
theorem dX13_throughTo_163 : decode cX13_throughTo 163 = .ok (.iadd, 1) := by decide +kernel
theorem dX13_throughTo_164 : decode cX13_throughTo 164 = .ok (.iastore, 1) := by decide +kernel
theorem dX13_throughTo_165 : decode cX13_throughTo 165 = .ok (.iinc 7 1, 3) := by decide +kernel
theorem dX13_throughTo_168 : decode cX13_throughTo 168 = .ok (.goto (-98), 3) := by decide +kernel
theorem dX13_throughTo_171 : decode cX13_throughTo 171 = .ok (.iconst 0, 1) := by decide +kernel
theorem dX13_throughTo_172 : decode cX13_throughTo 172 = .ok (.istore 7, 2) := by decide +kernel
theorem dX13_throughTo_174 : decode cX13_throughTo 174 = .ok (.iload 7, 2) := by decide +kernel
theorem dX13_throughTo_176 : decode cX13_throughTo 176 = .ok (.bipush 8, 2) := by decide +kernel
theorem dX13_throughTo_178 : decode cX13_throughTo 178 = .ok (.iload 5, 2) := by decide +kernel
theorem dX13_throughTo_180 : decode cX13_throughTo 180 = .ok (.imul, 1) := by decide +kernel
theorem dX13_throughTo_181 : decode cX13_throughTo 181 = .ok (.if_icmp .ge 75, 3) := by decide +kernel
theorem dX13_throughTo_184 : decode cX13_throughTo 184 = .ok (.aload_n 0, 1) := by decide +kernel
theorem dX13_throughTo_185 : decode cX13_throughTo 185 = .ok (.getfield 36, 3) := by decide +kernel
theorem dX13_throughTo_188 : decode cX13_throughTo 188 = .ok (.iload 7, 2) := by decide +kernel
theorem dX13_throughTo_190 : decode cX13_throughTo 190 = .ok (.ldc_w 555, 3) := by decide +kernel
theorem dX13_throughTo_193 : decode cX13_throughTo 193 = .ok (.iastore, 1) := by decide +kernel
theorem dX13_throughTo_194 : decode cX13_throughTo 194 = .ok (.iconst 0, 1) := by decide +kernel
theorem dX13_throughTo_195 : decode cX13_throughTo 195 = .ok (.istore 8, 2) := by decide +kernel
theorem dX13_throughTo_197 : decode cX13_throughTo 197 = .ok (.iload 8, 2) := by decide +kernel
theorem dX13_throughTo_199 : decode cX13_throughTo 199 = .ok (.bipush 8, 2) := by decide +kernel
theorem dX13_throughTo_201 : decode cX13_throughTo 201 = .ok (.iload 5, 2) := by decide +kernel
theorem dX13_throughTo_203 : decode cX13_throughTo 203 = .ok (.imul, 1) := by decide +kernel
theorem dX13_throughTo_204 : decode cX13_throughTo 204 = .ok (.if_icmp .ge 46, 3) := by decide +kernel
theorem dX13_throughTo_207 : decode cX13_throughTo 207 = .ok (.aload_n 0, 1) := by decide +kernel
theorem dX13_throughTo_208 : decode cX13_throughTo 208 = .ok (.getfield 36, 3) := by decide +kernel
theorem dX13_throughTo_211 : decode cX13_throughTo 211 = .ok (.iload 7, 2) := by decide +kernel
theorem dX13_throughTo_213 : decode cX13_throughTo 213 = .ok (.aload_n 0, 1) := by decide +kernel
theorem dX13_throughTo_214 : decode cX13_throughTo 214 = .ok (.getfield 36, 3) := by decide +kernel
theorem dX13_throughTo_217 : decode cX13_throughTo 217 = .ok (.iload 7, 2) := by decide +kernel
theorem dX13_throughTo_219 : decode cX13_throughTo 219 = .ok (.iaload, 1) := by decide +kernel
theorem dX13_throughTo_220 : decode cX13_throughTo 220 = .ok (.aload_n 0, 1) := by decide +kernel
theorem dX13_throughTo_221 : decode cX13_throughTo 221 = .ok (.getfield 39, 3) := by decide +kernel
theorem dX13_throughTo_224 : decode cX13_throughTo 224 = .ok (.iload 8, 2) := by decide +kernel
theorem dX13_throughTo_226 : decode cX13_throughTo 226 = .ok (.iaload, 1) := by decide +kernel
theorem dX13_throughTo_227 : decode cX13_throughTo 227 = .ok (.bipush 100, 2) := by decide +kernel
theorem dX13_throughTo_229 : decode cX13_throughTo 229 = .ok (.iload 5, 2) := by decide +kernel
theorem dX13_throughTo_231 : decode cX13_throughTo 231 = .ok (.iload 7, 2) := by decide +kernel
theorem dX13_throughTo_233 : decode cX13_throughTo 233 = .ok (.iload 8, 2) := by decide +kernel
theorem dX13_throughTo_235 : decode cX13_throughTo 235 = .ok (.invokestatic 461, 3) := by decide +kernel
theorem dX13_throughTo_238 : decode cX13_throughTo 238 = .ok (.imul, 1) := by decide +kernel
theorem dX13_throughTo_239 : decode cX13_throughTo 239 = .ok (.iadd, 1) := by decide +kernel
theorem dX13_throughTo_240 : decode cX13_throughTo 240 = .ok (.invokestatic 487, 3) := by decide +kernel
theorem dX13_throughTo_243 : decode cX13_throughTo 243 = .ok (.iastore, 1) := by decide +kernel
theorem dX13_throughTo_244 : decode cX13_throughTo 244 = .ok (.iinc 8 1, 3) := by decide +kernel
theorem dX13_throughTo_247 : decode cX13_throughTo 247 = .ok (.goto (-50), 3) := by decide +kernel
theorem dX13_throughTo_250 : decode cX13_throughTo 250 = .ok (.iinc 7 1, 3) := by decide +kernel
theorem dX13_throughTo_253 : decode cX13_throughTo 253 = .ok (.goto (-79), 3) := by decide +kernel
theorem dX13_throughTo_256 : decode cX13_throughTo 256 = .ok (.iinc 5 (-1), 3) := by decide +kernel
theorem dX13_throughTo_259 : decode cX13_throughTo 259 = .ok (.goto (-230), 3) := by decide +kernel
theorem dX13_throughTo_262 : decode cX13_throughTo 262 = .ok (.ldc_w 555, 3) := by decide +kernel
theorem dX13_throughTo_265 : decode cX13_throughTo 265 = .ok (.istore 5, 2) := by decide +kernel
theorem dX13_throughTo_267 : decode cX13_throughTo 267 = .ok (.iconst 0, 1) := by decide +kernel
theorem dX13_throughTo_268 : decode cX13_throughTo 268 = .ok (.istore 6, 2) := by decide +kernel
theorem dX13_throughTo_270 : decode cX13_throughTo 270 = .ok (.iload 6, 2) := by decide +kernel
theorem dX13_throughTo_272 : decode cX13_throughTo 272 = .ok (.bipush 8, 2) := by decide +kernel
theorem dX13_throughTo_274 : decode cX13_throughTo 274 = .ok (.iload 4, 2) := by decide +kernel
theorem dX13_throughTo_276 : decode cX13_throughTo 276 = .ok (.imul, 1) := by decide +kernel
theorem dX13_throughTo_277 : decode cX13_throughTo 277 = .ok (.if_icmp .ge 23, 3) := by decide +kernel
theorem dX13_throughTo_280 : decode cX13_throughTo 280 = .ok (.iload 5, 2) := by decide +kernel
theorem dX13_throughTo_282 : decode cX13_throughTo 282 = .ok (.aload_n 0, 1) := by decide +kernel
theorem dX13_throughTo_283 : decode cX13_throughTo 283 = .ok (.getfield 36, 3) := by decide +kernel
theorem dX13_throughTo_286 : decode cX13_throughTo 286 = .ok (.iload 6, 2) := by decide +kernel
theorem dX13_throughTo_288 : decode cX13_throughTo 288 = .ok (.iaload, 1) := by decide +kernel
theorem dX13_throughTo_289 : decode cX13_throughTo 289 = .ok (.invokestatic 487, 3) := by decide +kernel
theorem dX13_throughTo_292 : decode cX13_throughTo 292 = .ok (.istore 5, 2) := by decide +kernel
theorem dX13_throughTo_294 : decode cX13_throughTo 294 = .ok (.iinc 6 1, 3) := by decide +kernel
theorem dX13_throughTo_297 : decode cX13_throughTo 297 = .ok (.goto (-27), 3) := by decide +kernel
theorem dX13_throughTo_300 : decode cX13_throughTo 300 = .ok (.iload_n 2, 1) := by decide +kernel
theorem dX13_throughTo_301 : decode cX13_throughTo 301 = .ok (.ifCond .le 8, 3) := by decide +kernel
theorem dX13_throughTo_304 : decode cX13_throughTo 304 = .ok (.iload 5, 2) := by decide +kernel
theorem dX13_throughTo_306 : decode cX13_throughTo 306 = .ok (.goto 8, 3) := by decide +kernel
theorem dX13_throughTo_309 : decode cX13_throughTo 309 = .ok (.iload 5, 2) := by decide +kernel
theorem dX13_throughTo_311 : decode cX13_throughTo 311 = .ok (.bipush 100, 2) := by decide +kernel
theorem dX13_throughTo_313 : decode cX13_throughTo 313 = .ok (.iadd, 1) := by decide +kernel
theorem dX13_throughTo_314 : decode cX13_throughTo 314 = .ok (.ireturn, 1) := by decide +kernel
theorem dX13_trouble_0 : decode cX13_trouble 0 = .ok (.aload_n 0, 1) := by decide +kernel
theorem dX13_trouble_1 : decode cX13_trouble 1 = .ok (.iconst 0, 1) := by decide +kernel
theorem dX13_trouble_2 : decode cX13_trouble 2 = .ok (.putfield 63, 3) := by decide +kernel
theorem dX13_trouble_5 : decode cX13_trouble 5 = .ok (.aload_n 0, 1) := by decide +kernel
theorem dX13_trouble_6 : decode cX13_trouble 6 = .ok (.getfield 66, 3) := by decide +kernel
theorem dX13_trouble_9 : decode cX13_trouble 9 = .ok (.ireturn, 1) := by decide +kernel
theorem dX13_turns_0 : decode cX13_turns 0 = .ok (.iload_n 1, 1) := by decide +kernel
theorem dX13_turns_1 : decode cX13_turns 1 = .ok (.iconst 2, 1) := by decide +kernel
theorem dX13_turns_2 : decode cX13_turns 2 = .ok (.isub, 1) := by decide +kernel
theorem dX13_turns_3 : decode cX13_turns 3 = .ok (.istore_n 2, 1) := by decide +kernel
theorem dX13_turns_4 : decode cX13_turns 4 = .ok (.iload_n 2, 1) := by decide +kernel
theorem dX13_turns_5 : decode cX13_turns 5 = .ok (.ifCond .lt 20, 3) := by decide +kernel
theorem dX13_turns_8 : decode cX13_turns 8 = .ok (.aload_n 0, 1) := by decide +kernel
theorem dX13_turns_9 : decode cX13_turns 9 = .ok (.iload_n 2, 1) := by decide +kernel
theorem dX13_turns_10 : decode cX13_turns 10 = .ok (.iaload, 1) := by decide +kernel
theorem dX13_turns_11 : decode cX13_turns 11 = .ok (.aload_n 0, 1) := by decide +kernel
theorem dX13_turns_12 : decode cX13_turns 12 = .ok (.iload_n 2, 1) := by decide +kernel
theorem dX13_turns_13 : decode cX13_turns 13 = .ok (.iconst 1, 1) := by decide +kernel
theorem dX13_turns_14 : decode cX13_turns 14 = .ok (.iadd, 1) := by decide +kernel
theorem dX13_turns_15 : decode cX13_turns 15 = .ok (.iaload, 1) := by decide +kernel
theorem dX13_turns_16 : decode cX13_turns 16 = .ok (.if_icmp .le 9, 3) := by decide +kernel
theorem dX13_turns_19 : decode cX13_turns 19 = .ok (.iinc 2 (-1), 3) := by decide +kernel
theorem dX13_turns_22 : decode cX13_turns 22 = .ok (.goto (-18), 3) := by decide +kernel
theorem dX13_turns_25 : decode cX13_turns 25 = .ok (.iload_n 2, 1) := by decide +kernel
theorem dX13_turns_26 : decode cX13_turns 26 = .ok (.ifCond .ge 5, 3) := by decide +kernel
theorem dX13_turns_29 : decode cX13_turns 29 = .ok (.iconst 0, 1) := by decide +kernel
theorem dX13_turns_30 : decode cX13_turns 30 = .ok (.ireturn, 1) := by decide +kernel
theorem dX13_turns_31 : decode cX13_turns 31 = .ok (.iload_n 1, 1) := by decide +kernel
theorem dX13_turns_32 : decode cX13_turns 32 = .ok (.iconst 1, 1) := by decide +kernel
theorem dX13_turns_33 : decode cX13_turns 33 = .ok (.isub, 1) := by decide +kernel
theorem dX13_turns_34 : decode cX13_turns 34 = .ok (.istore_n 3, 1) := by decide +kernel
theorem dX13_turns_35 : decode cX13_turns 35 = .ok (.aload_n 0, 1) := by decide +kernel
theorem dX13_turns_36 : decode cX13_turns 36 = .ok (.iload_n 3, 1) := by decide +kernel
theorem dX13_turns_37 : decode cX13_turns 37 = .ok (.iaload, 1) := by decide +kernel
theorem dX13_turns_38 : decode cX13_turns 38 = .ok (.aload_n 0, 1) := by decide +kernel
theorem dX13_turns_39 : decode cX13_turns 39 = .ok (.iload_n 2, 1) := by decide +kernel
theorem dX13_turns_40 : decode cX13_turns 40 = .ok (.iaload, 1) := by decide +kernel
theorem dX13_turns_41 : decode cX13_turns 41 = .ok (.if_icmp .ge 9, 3) := by decide +kernel
theorem dX13_turns_44 : decode cX13_turns 44 = .ok (.iinc 3 (-1), 3) := by decide +kernel
theorem dX13_turns_47 : decode cX13_turns 47 = .ok (.goto (-12), 3) := by decide +kernel
theorem dX13_turns_50 : decode cX13_turns 50 = .ok (.aload_n 0, 1) := by decide +kernel
theorem dX13_turns_51 : decode cX13_turns 51 = .ok (.iload_n 2, 1) := by decide +kernel
theorem dX13_turns_52 : decode cX13_turns 52 = .ok (.iload_n 3, 1) := by decide +kernel
theorem dX13_turns_53 : decode cX13_turns 53 = .ok (.invokestatic 585, 3) := by decide +kernel
theorem dX13_turns_56 : decode cX13_turns 56 = .ok (.iload_n 2, 1) := by decide +kernel
theorem dX13_turns_57 : decode cX13_turns 57 = .ok (.iconst 1, 1) := by decide +kernel
theorem dX13_turns_58 : decode cX13_turns 58 = .ok (.iadd, 1) := by decide +kernel
theorem dX13_turns_59 : decode cX13_turns 59 = .ok (.istore 4, 2) := by decide +kernel
theorem dX13_turns_61 : decode cX13_turns 61 = .ok (.iload_n 1, 1) := by decide +kernel
theorem dX13_turns_62 : decode cX13_turns 62 = .ok (.iconst 1, 1) := by decide +kernel
theorem dX13_turns_63 : decode cX13_turns 63 = .ok (.isub, 1) := by decide +kernel
theorem dX13_turns_64 : decode cX13_turns 64 = .ok (.istore 5, 2) := by decide +kernel
theorem dX13_turns_66 : decode cX13_turns 66 = .ok (.iload 4, 2) := by decide +kernel
theorem dX13_turns_68 : decode cX13_turns 68 = .ok (.iload 5, 2) := by decide +kernel
theorem dX13_turns_70 : decode cX13_turns 70 = .ok (.if_icmp .ge 20, 3) := by decide +kernel
theorem dX13_turns_73 : decode cX13_turns 73 = .ok (.aload_n 0, 1) := by decide +kernel
theorem dX13_turns_74 : decode cX13_turns 74 = .ok (.iload 4, 2) := by decide +kernel
theorem dX13_turns_76 : decode cX13_turns 76 = .ok (.iload 5, 2) := by decide +kernel
theorem dX13_turns_78 : decode cX13_turns 78 = .ok (.invokestatic 585, 3) := by decide +kernel
theorem dX13_turns_81 : decode cX13_turns 81 = .ok (.iinc 4 1, 3) := by decide +kernel
theorem dX13_turns_84 : decode cX13_turns 84 = .ok (.iinc 5 (-1), 3) := by decide +kernel
theorem dX13_turns_87 : decode cX13_turns 87 = .ok (.goto (-21), 3) := by decide +kernel
theorem dX13_turns_90 : decode cX13_turns 90 = .ok (.iconst 1, 1) := by decide +kernel
theorem dX13_turns_91 : decode cX13_turns 91 = .ok (.ireturn, 1) := by decide +kernel
theorem dX13_undo_0 : decode cX13_undo 0 = .ok (.aload_n 0, 1) := by decide +kernel
theorem dX13_undo_1 : decode cX13_undo 1 = .ok (.iconst 0, 1) := by decide +kernel
theorem dX13_undo_2 : decode cX13_undo 2 = .ok (.putfield 63, 3) := by decide +kernel
theorem dX13_undo_5 : decode cX13_undo 5 = .ok (.aload_n 0, 1) := by decide +kernel
theorem dX13_undo_6 : decode cX13_undo 6 = .ok (.getfield 417, 3) := by decide +kernel
theorem dX13_undo_9 : decode cX13_undo 9 = .ok (.ifnull 10, 3) := by decide +kernel
theorem dX13_undo_12 : decode cX13_undo 12 = .ok (.aload_n 0, 1) := by decide +kernel
theorem dX13_undo_13 : decode cX13_undo 13 = .ok (.getfield 419, 3) := by decide +kernel
theorem dX13_undo_16 : decode cX13_undo 16 = .ok (.ifCond .ne 10, 3) := by decide +kernel
theorem dX13_undo_19 : decode cX13_undo 19 = .ok (.aload_n 0, 1) := by decide +kernel
theorem dX13_undo_20 : decode cX13_undo 20 = .ok (.bipush 6, 2) := by decide +kernel
theorem dX13_undo_22 : decode cX13_undo 22 = .ok (.invokevirtual 619, 3) := by decide +kernel
theorem dX13_undo_25 : decode cX13_undo 25 = .ok (.ireturn, 1) := by decide +kernel
theorem dX13_undo_26 : decode cX13_undo 26 = .ok (.aload_n 0, 1) := by decide +kernel
theorem dX13_undo_27 : decode cX13_undo 27 = .ok (.dup, 1) := by decide +kernel
theorem dX13_undo_28 : decode cX13_undo 28 = .ok (.getfield 419, 3) := by decide +kernel
theorem dX13_undo_31 : decode cX13_undo 31 = .ok (.iconst 1, 1) := by decide +kernel
theorem dX13_undo_32 : decode cX13_undo 32 = .ok (.isub, 1) := by decide +kernel
theorem dX13_undo_33 : decode cX13_undo 33 = .ok (.putfield 419, 3) := by decide +kernel
theorem dX13_undo_36 : decode cX13_undo 36 = .ok (.iconst 0, 1) := by decide +kernel
theorem dX13_undo_37 : decode cX13_undo 37 = .ok (.istore_n 1, 1) := by decide +kernel
theorem dX13_undo_38 : decode cX13_undo 38 = .ok (.iload_n 1, 1) := by decide +kernel
theorem dX13_undo_39 : decode cX13_undo 39 = .ok (.sipush 212, 3) := by decide +kernel
theorem dX13_undo_42 : decode cX13_undo 42 = .ok (.if_icmp .ge 30, 3) := by decide +kernel
theorem dX13_undo_45 : decode cX13_undo 45 = .ok (.aload_n 0, 1) := by decide +kernel
theorem dX13_undo_46 : decode cX13_undo 46 = .ok (.getfield 17, 3) := by decide +kernel
theorem dX13_undo_49 : decode cX13_undo 49 = .ok (.iload_n 1, 1) := by decide +kernel
theorem dX13_undo_50 : decode cX13_undo 50 = .ok (.aload_n 0, 1) := by decide +kernel
theorem dX13_undo_51 : decode cX13_undo 51 = .ok (.getfield 24, 3) := by decide +kernel
theorem dX13_undo_54 : decode cX13_undo 54 = .ok (.sipush 212, 3) := by decide +kernel
theorem dX13_undo_57 : decode cX13_undo 57 = .ok (.aload_n 0, 1) := by decide +kernel
theorem dX13_undo_58 : decode cX13_undo 58 = .ok (.getfield 419, 3) := by decide +kernel
theorem dX13_undo_61 : decode cX13_undo 61 = .ok (.imul, 1) := by decide +kernel
theorem dX13_undo_62 : decode cX13_undo 62 = .ok (.iload_n 1, 1) := by decide +kernel
theorem dX13_undo_63 : decode cX13_undo 63 = .ok (.iadd, 1) := by decide +kernel
theorem dX13_undo_64 : decode cX13_undo 64 = .ok (.iaload, 1) := by decide +kernel
theorem dX13_undo_65 : decode cX13_undo 65 = .ok (.iastore, 1) := by decide +kernel
theorem dX13_undo_66 : decode cX13_undo 66 = .ok (.iinc 1 1, 3) := by decide +kernel
theorem dX13_undo_69 : decode cX13_undo 69 = .ok (.goto (-31), 3) := by decide +kernel
theorem dX13_undo_72 : decode cX13_undo 72 = .ok (.aload_n 0, 1) := by decide +kernel
theorem dX13_undo_73 : decode cX13_undo 73 = .ok (.invokevirtual 622, 3) := by decide +kernel
theorem dX13_undo_76 : decode cX13_undo 76 = .ok (.ireturn, 1) := by decide +kernel
theorem dX13_warm_0 : decode cX13_warm 0 = .ok (.aload_n 0, 1) := by decide +kernel
theorem dX13_warm_1 : decode cX13_warm 1 = .ok (.iconst 0, 1) := by decide +kernel
theorem dX13_warm_2 : decode cX13_warm 2 = .ok (.putfield 63, 3) := by decide +kernel
theorem dX13_warm_5 : decode cX13_warm 5 = .ok (.aload_n 0, 1) := by decide +kernel
theorem dX13_warm_6 : decode cX13_warm 6 = .ok (.iload_n 1, 1) := by decide +kernel
theorem dX13_warm_7 : decode cX13_warm 7 = .ok (.iload_n 2, 1) := by decide +kernel
theorem dX13_warm_8 : decode cX13_warm 8 = .ok (.invokevirtual 540, 3) := by decide +kernel
theorem dX13_warm_11 : decode cX13_warm 11 = .ok (.ifCond .eq 16, 3) := by decide +kernel
theorem dX13_warm_14 : decode cX13_warm 14 = .ok (.aload_n 0, 1) := by decide +kernel
theorem dX13_warm_15 : decode cX13_warm 15 = .ok (.aload_n 0, 1) := by decide +kernel
theorem dX13_warm_16 : decode cX13_warm 16 = .ok (.iload_n 1, 1) := by decide +kernel
theorem dX13_warm_17 : decode cX13_warm 17 = .ok (.iload_n 2, 1) := by decide +kernel
theorem dX13_warm_18 : decode cX13_warm 18 = .ok (.invokevirtual 543, 3) := by decide +kernel
theorem dX13_warm_21 : decode cX13_warm 21 = .ok (.invokevirtual 73, 3) := by decide +kernel
theorem dX13_warm_24 : decode cX13_warm 24 = .ok (.goto 8, 3) := by decide +kernel
theorem dX13_warm_27 : decode cX13_warm 27 = .ok (.aload_n 0, 1) := by decide +kernel
theorem dX13_warm_28 : decode cX13_warm 28 = .ok (.iconst 1, 1) := by decide +kernel
theorem dX13_warm_29 : decode cX13_warm 29 = .ok (.invokevirtual 69, 3) := by decide +kernel
theorem dX13_warm_32 : decode cX13_warm 32 = .ok (.ireturn, 1) := by decide +kernel
theorem dX13_warmth_0 : decode cX13_warmth 0 = .ok (.iconst 0, 1) := by decide +kernel
theorem dX13_warmth_1 : decode cX13_warmth 1 = .ok (.istore_n 3, 1) := by decide +kernel
theorem dX13_warmth_2 : decode cX13_warmth 2 = .ok (.iload_n 2, 1) := by decide +kernel
theorem dX13_warmth_3 : decode cX13_warmth 3 = .ok (.ifCond .le 7, 3) := by decide +kernel
theorem dX13_warmth_6 : decode cX13_warmth 6 = .ok (.iload_n 2, 1) := by decide +kernel
theorem dX13_warmth_7 : decode cX13_warmth 7 = .ok (.goto 4, 3) := by decide +kernel
theorem dX13_warmth_10 : decode cX13_warmth 10 = .ok (.iconst 1, 1) := by decide +kernel
theorem dX13_warmth_11 : decode cX13_warmth 11 = .ok (.istore 4, 2) := by decide +kernel
theorem dX13_warmth_13 : decode cX13_warmth 13 = .ok (.iload 4, 2) := by decide +kernel
theorem dX13_warmth_15 : decode cX13_warmth 15 = .ok (.aload_n 0, 1) := by decide +kernel
theorem dX13_warmth_16 : decode cX13_warmth 16 = .ok (.getfield 17, 3) := by decide +kernel
theorem dX13_warmth_19 : decode cX13_warmth 19 = .ok (.iconst 0, 1) := by decide +kernel
theorem dX13_warmth_20 : decode cX13_warmth 20 = .ok (.iload_n 1, 1) := by decide +kernel
theorem dX13_warmth_21 : decode cX13_warmth 21 = .ok (.iadd, 1) := by decide +kernel
theorem dX13_warmth_22 : decode cX13_warmth 22 = .ok (.iaload, 1) := by decide +kernel
theorem dX13_warmth_23 : decode cX13_warmth 23 = .ok (.if_icmp .gt 51, 3) := by decide +kernel
theorem dX13_warmth_26 : decode cX13_warmth 26 = .ok (.iload_n 3, 1) := by decide +kernel
theorem dX13_warmth_27 : decode cX13_warmth 27 = .ok (.aload_n 0, 1) := by decide +kernel
theorem dX13_warmth_28 : decode cX13_warmth 28 = .ok (.getfield 17, 3) := by decide +kernel
theorem dX13_warmth_31 : decode cX13_warmth 31 = .ok (.iload_n 1, 1) := by decide +kernel
theorem dX13_warmth_32 : decode cX13_warmth 32 = .ok (.iload 4, 2) := by decide +kernel
theorem dX13_warmth_34 : decode cX13_warmth 34 = .ok (.iconst 5, 1) := by decide +kernel
theorem dX13_warmth_35 : decode cX13_warmth 35 = .ok (.invokestatic 425, 3) := by decide +kernel
theorem dX13_warmth_38 : decode cX13_warmth 38 = .ok (.iaload, 1) := by decide +kernel
theorem dX13_warmth_39 : decode cX13_warmth 39 = .ok (.ifCond .ne 26, 3) := by decide +kernel
theorem dX13_warmth_42 : decode cX13_warmth 42 = .ok (.aload_n 0, 1) := by decide +kernel
theorem dX13_warmth_43 : decode cX13_warmth 43 = .ok (.getfield 417, 3) := by decide +kernel
theorem dX13_warmth_46 : decode cX13_warmth 46 = .ok (.getfield 337, 3) := by decide +kernel
theorem dX13_warmth_49 : decode cX13_warmth 49 = .ok (.aload_n 0, 1) := by decide +kernel
theorem dX13_warmth_50 : decode cX13_warmth 50 = .ok (.getfield 17, 3) := by decide +kernel
theorem dX13_warmth_53 : decode cX13_warmth 53 = .ok (.iload_n 1, 1) := by decide +kernel
theorem dX13_warmth_54 : decode cX13_warmth 54 = .ok (.iload 4, 2) := by decide +kernel
theorem dX13_warmth_56 : decode cX13_warmth 56 = .ok (.iconst 0, 1) := by decide +kernel
theorem dX13_warmth_57 : decode cX13_warmth 57 = .ok (.invokestatic 425, 3) := by decide +kernel
theorem dX13_warmth_60 : decode cX13_warmth 60 = .ok (.iaload, 1) := by decide +kernel
theorem dX13_warmth_61 : decode cX13_warmth 61 = .ok (.iaload, 1) := by decide +kernel
theorem dX13_warmth_62 : decode cX13_warmth 62 = .ok (.goto 4, 3) := by decide +kernel
theorem dX13_warmth_65 : decode cX13_warmth 65 = .ok (.iconst 0, 1) := by decide +kernel
theorem dX13_warmth_66 : decode cX13_warmth 66 = .ok (.iadd, 1) := by decide +kernel
theorem dX13_warmth_67 : decode cX13_warmth 67 = .ok (.istore_n 3, 1) := by decide +kernel
theorem dX13_warmth_68 : decode cX13_warmth 68 = .ok (.iinc 4 1, 3) := by decide +kernel
theorem dX13_warmth_71 : decode cX13_warmth 71 = .ok (.goto (-58), 3) := by decide +kernel
theorem dX13_warmth_74 : decode cX13_warmth 74 = .ok (.iload_n 3, 1) := by decide +kernel
theorem dX13_warmth_75 : decode cX13_warmth 75 = .ok (.ireturn, 1) := by decide +kernel
theorem dX13_way_0 : decode cX13_way 0 = .ok (.aload_n 0, 1) := by decide +kernel
theorem dX13_way_1 : decode cX13_way 1 = .ok (.iconst 0, 1) := by decide +kernel
theorem dX13_way_2 : decode cX13_way 2 = .ok (.putfield 63, 3) := by decide +kernel
theorem dX13_way_5 : decode cX13_way 5 = .ok (.aload_n 0, 1) := by decide +kernel
theorem dX13_way_6 : decode cX13_way 6 = .ok (.iload_n 1, 1) := by decide +kernel
theorem dX13_way_7 : decode cX13_way 7 = .ok (.iload_n 2, 1) := by decide +kernel
theorem dX13_way_8 : decode cX13_way 8 = .ok (.invokevirtual 540, 3) := by decide +kernel
theorem dX13_way_11 : decode cX13_way 11 = .ok (.ifCond .eq 19, 3) := by decide +kernel
theorem dX13_way_14 : decode cX13_way 14 = .ok (.aload_n 0, 1) := by decide +kernel
theorem dX13_way_15 : decode cX13_way 15 = .ok (.aload_n 0, 1) := by decide +kernel
theorem dX13_way_16 : decode cX13_way 16 = .ok (.getfield 17, 3) := by decide +kernel
theorem dX13_way_19 : decode cX13_way 19 = .ok (.iload_n 1, 1) := by decide +kernel
theorem dX13_way_20 : decode cX13_way 20 = .ok (.iload_n 2, 1) := by decide +kernel
theorem dX13_way_21 : decode cX13_way 21 = .ok (.invokestatic 552, 3) := by decide +kernel
theorem dX13_way_24 : decode cX13_way 24 = .ok (.invokevirtual 73, 3) := by decide +kernel
theorem dX13_way_27 : decode cX13_way 27 = .ok (.goto 8, 3) := by decide +kernel
theorem dX13_way_30 : decode cX13_way 30 = .ok (.aload_n 0, 1) := by decide +kernel
theorem dX13_way_31 : decode cX13_way 31 = .ok (.iconst 1, 1) := by decide +kernel
theorem dX13_way_32 : decode cX13_way 32 = .ok (.invokevirtual 69, 3) := by decide +kernel
theorem dX13_way_35 : decode cX13_way 35 = .ok (.ireturn, 1) := by decide +kernel
theorem dX13_wayTo_0 : decode cX13_wayTo 0 = .ok (.iload_n 2, 1) := by decide +kernel
theorem dX13_wayTo_1 : decode cX13_wayTo 1 = .ok (.ifCond .le 7, 3) := by decide +kernel
theorem dX13_wayTo_4 : decode cX13_wayTo 4 = .ok (.iload_n 2, 1) := by decide +kernel
theorem dX13_wayTo_5 : decode cX13_wayTo 5 = .ok (.goto 4, 3) := by decide +kernel
theorem dX13_wayTo_8 : decode cX13_wayTo 8 = .ok (.iconst 1, 1) := by decide +kernel
theorem dX13_wayTo_9 : decode cX13_wayTo 9 = .ok (.istore_n 3, 1) := by decide +kernel
theorem dX13_wayTo_10 : decode cX13_wayTo 10 = .ok (.iload_n 3, 1) := by decide +kernel
theorem dX13_wayTo_11 : decode cX13_wayTo 11 = .ok (.aload_n 0, 1) := by decide +kernel
theorem dX13_wayTo_12 : decode cX13_wayTo 12 = .ok (.iconst 0, 1) := by decide +kernel
theorem dX13_wayTo_13 : decode cX13_wayTo 13 = .ok (.iload_n 1, 1) := by decide +kernel
theorem dX13_wayTo_14 : decode cX13_wayTo 14 = .ok (.iadd, 1) := by decide +kernel
theorem dX13_wayTo_15 : decode cX13_wayTo 15 = .ok (.iaload, 1) := by decide +kernel
theorem dX13_wayTo_16 : decode cX13_wayTo 16 = .ok (.if_icmp .gt 37, 3) := by decide +kernel
theorem dX13_wayTo_19 : decode cX13_wayTo 19 = .ok (.aload_n 0, 1) := by decide +kernel
theorem dX13_wayTo_20 : decode cX13_wayTo 20 = .ok (.iload_n 1, 1) := by decide +kernel
theorem dX13_wayTo_21 : decode cX13_wayTo 21 = .ok (.iload_n 3, 1) := by decide +kernel
theorem dX13_wayTo_22 : decode cX13_wayTo 22 = .ok (.iconst 5, 1) := by decide +kernel
theorem dX13_wayTo_23 : decode cX13_wayTo 23 = .ok (.invokestatic 425, 3) := by decide +kernel
theorem dX13_wayTo_26 : decode cX13_wayTo 26 = .ok (.iaload, 1) := by decide +kernel
theorem dX13_wayTo_27 : decode cX13_wayTo 27 = .ok (.iconst 1, 1) := by decide +kernel
theorem dX13_wayTo_28 : decode cX13_wayTo 28 = .ok (.if_icmp .eq 16, 3) := by decide +kernel
theorem dX13_wayTo_31 : decode cX13_wayTo 31 = .ok (.aload_n 0, 1) := by decide +kernel
theorem dX13_wayTo_32 : decode cX13_wayTo 32 = .ok (.iload_n 1, 1) := by decide +kernel
theorem dX13_wayTo_33 : decode cX13_wayTo 33 = .ok (.iload_n 3, 1) := by decide +kernel
theorem dX13_wayTo_34 : decode cX13_wayTo 34 = .ok (.bipush 6, 2) := by decide +kernel
theorem dX13_wayTo_36 : decode cX13_wayTo 36 = .ok (.invokestatic 425, 3) := by decide +kernel
theorem dX13_wayTo_39 : decode cX13_wayTo 39 = .ok (.iaload, 1) := by decide +kernel
theorem dX13_wayTo_40 : decode cX13_wayTo 40 = .ok (.iconst 1, 1) := by decide +kernel
theorem dX13_wayTo_41 : decode cX13_wayTo 41 = .ok (.if_icmp .ne 6, 3) := by decide +kernel
theorem dX13_wayTo_44 : decode cX13_wayTo 44 = .ok (.bipush (-2), 2) := by decide +kernel
theorem dX13_wayTo_46 : decode cX13_wayTo 46 = .ok (.ireturn, 1) := by decide +kernel
theorem dX13_wayTo_47 : decode cX13_wayTo 47 = .ok (.iinc 3 1, 3) := by decide +kernel
theorem dX13_wayTo_50 : decode cX13_wayTo 50 = .ok (.goto (-40), 3) := by decide +kernel
theorem dX13_wayTo_53 : decode cX13_wayTo 53 = .ok (.aload_n 0, 1) := by decide +kernel
theorem dX13_wayTo_54 : decode cX13_wayTo 54 = .ok (.iload_n 1, 1) := by decide +kernel
theorem dX13_wayTo_55 : decode cX13_wayTo 55 = .ok (.iload_n 2, 1) := by decide +kernel
theorem dX13_wayTo_56 : decode cX13_wayTo 56 = .ok (.invokestatic 468, 3) := by decide +kernel
theorem dX13_wayTo_59 : decode cX13_wayTo 59 = .ok (.ireturn, 1) := by decide +kernel
theorem dX13_where_0 : decode cX13_where 0 = .ok (.aload_n 0, 1) := by decide +kernel
theorem dX13_where_1 : decode cX13_where 1 = .ok (.iconst 0, 1) := by decide +kernel
theorem dX13_where_2 : decode cX13_where 2 = .ok (.putfield 63, 3) := by decide +kernel
theorem dX13_where_5 : decode cX13_where 5 = .ok (.aload_n 0, 1) := by decide +kernel
theorem dX13_where_6 : decode cX13_where 6 = .ok (.getfield 9, 3) := by decide +kernel
theorem dX13_where_9 : decode cX13_where 9 = .ok (.ireturn, 1) := by decide +kernel
theorem dX13_whose_0 : decode cX13_whose 0 = .ok (.aload_n 0, 1) := by decide +kernel
theorem dX13_whose_1 : decode cX13_whose 1 = .ok (.iconst 0, 1) := by decide +kernel
theorem dX13_whose_2 : decode cX13_whose 2 = .ok (.putfield 63, 3) := by decide +kernel
theorem dX13_whose_5 : decode cX13_whose 5 = .ok (.aload_n 0, 1) := by decide +kernel
theorem dX13_whose_6 : decode cX13_whose 6 = .ok (.iload_n 1, 1) := by decide +kernel
theorem dX13_whose_7 : decode cX13_whose 7 = .ok (.iload_n 2, 1) := by decide +kernel
theorem dX13_whose_8 : decode cX13_whose 8 = .ok (.invokevirtual 521, 3) := by decide +kernel
theorem dX13_whose_11 : decode cX13_whose 11 = .ok (.ifCond .eq 23, 3) := by decide +kernel
theorem dX13_whose_14 : decode cX13_whose 14 = .ok (.aload_n 0, 1) := by decide +kernel
theorem dX13_whose_15 : decode cX13_whose 15 = .ok (.aload_n 0, 1) := by decide +kernel
theorem dX13_whose_16 : decode cX13_whose 16 = .ok (.getfield 417, 3) := by decide +kernel
theorem dX13_whose_19 : decode cX13_whose 19 = .ok (.aload_n 0, 1) := by decide +kernel
theorem dX13_whose_20 : decode cX13_whose 20 = .ok (.getfield 17, 3) := by decide +kernel
theorem dX13_whose_23 : decode cX13_whose 23 = .ok (.iload_n 1, 1) := by decide +kernel
theorem dX13_whose_24 : decode cX13_whose 24 = .ok (.iload_n 2, 1) := by decide +kernel
theorem dX13_whose_25 : decode cX13_whose 25 = .ok (.invokestatic 348, 3) := by decide +kernel
theorem dX13_whose_28 : decode cX13_whose 28 = .ok (.invokevirtual 73, 3) := by decide +kernel
theorem dX13_whose_31 : decode cX13_whose 31 = .ok (.goto 8, 3) := by decide +kernel
theorem dX13_whose_34 : decode cX13_whose 34 = .ok (.aload_n 0, 1) := by decide +kernel
theorem dX13_whose_35 : decode cX13_whose 35 = .ok (.iconst 1, 1) := by decide +kernel
theorem dX13_whose_36 : decode cX13_whose 36 = .ok (.invokevirtual 69, 3) := by decide +kernel
theorem dX13_whose_39 : decode cX13_whose 39 = .ok (.ireturn, 1) := by decide +kernel
theorem dX13_within_0 : decode cX13_within 0 = .ok (.iload_n 0, 1) := by decide +kernel
theorem dX13_within_1 : decode cX13_within 1 = .ok (.iload_n 1, 1) := by decide +kernel
theorem dX13_within_2 : decode cX13_within 2 = .ok (.if_icmp .lt 12, 3) := by decide +kernel
theorem dX13_within_5 : decode cX13_within 5 = .ok (.iload_n 0, 1) := by decide +kernel
theorem dX13_within_6 : decode cX13_within 6 = .ok (.iload_n 2, 1) := by decide +kernel
theorem dX13_within_7 : decode cX13_within 7 = .ok (.if_icmp .gt 7, 3) := by decide +kernel
theorem dX13_within_10 : decode cX13_within 10 = .ok (.iconst 1, 1) := by decide +kernel
theorem dX13_within_11 : decode cX13_within 11 = .ok (.goto 4, 3) := by decide +kernel
theorem dX13_within_14 : decode cX13_within 14 = .ok (.iconst 0, 1) := by decide +kernel
theorem dX13_within_15 : decode cX13_within 15 = .ok (.ireturn, 1) := by decide +kernel
theorem dX13_wordOf_0 : decode cX13_wordOf 0 = .ok (.lconst 0, 1) := by decide +kernel
theorem dX13_wordOf_1 : decode cX13_wordOf 1 = .ok (.lstore_n 1, 1) := by decide +kernel
theorem dX13_wordOf_2 : decode cX13_wordOf 2 = .ok (.iconst 0, 1) := by decide +kernel
theorem dX13_wordOf_3 : decode cX13_wordOf 3 = .ok (.istore_n 3, 1) := by decide +kernel
theorem dX13_wordOf_4 : decode cX13_wordOf 4 = .ok (.iload_n 3, 1) := by decide +kernel
theorem dX13_wordOf_5 : decode cX13_wordOf 5 = .ok (.aload_n 0, 1) := by decide +kernel
theorem dX13_wordOf_6 : decode cX13_wordOf 6 = .ok (.invokevirtual 79, 3) := by decide +kernel
theorem dX13_wordOf_9 : decode cX13_wordOf 9 = .ok (.if_icmp .ge 27, 3) := by decide +kernel
theorem dX13_wordOf_12 : decode cX13_wordOf 12 = .ok (.ldc2_w 85, 3) := by decide +kernel
theorem dX13_wordOf_15 : decode cX13_wordOf 15 = .ok (.lload_n 1, 1) := by decide +kernel
theorem dX13_wordOf_16 : decode cX13_wordOf 16 = .ok (.lmul, 1) := by decide +kernel
theorem dX13_wordOf_17 : decode cX13_wordOf 17 = .ok (.aload_n 0, 1) := by decide +kernel
theorem dX13_wordOf_18 : decode cX13_wordOf 18 = .ok (.iload_n 3, 1) := by decide +kernel
theorem dX13_wordOf_19 : decode cX13_wordOf 19 = .ok (.invokevirtual 87, 3) := by decide +kernel
theorem dX13_wordOf_22 : decode cX13_wordOf 22 = .ok (.bipush 97, 2) := by decide +kernel
theorem dX13_wordOf_24 : decode cX13_wordOf 24 = .ok (.isub, 1) := by decide +kernel
theorem dX13_wordOf_25 : decode cX13_wordOf 25 = .ok (.iconst 1, 1) := by decide +kernel
theorem dX13_wordOf_26 : decode cX13_wordOf 26 = .ok (.iadd, 1) := by decide +kernel
theorem dX13_wordOf_27 : decode cX13_wordOf 27 = .ok (.i2l, 1) := by decide +kernel
theorem dX13_wordOf_28 : decode cX13_wordOf 28 = .ok (.ladd, 1) := by decide +kernel
theorem dX13_wordOf_29 : decode cX13_wordOf 29 = .ok (.lstore_n 1, 1) := by decide +kernel
theorem dX13_wordOf_30 : decode cX13_wordOf 30 = .ok (.iinc 3 1, 3) := by decide +kernel
theorem dX13_wordOf_33 : decode cX13_wordOf 33 = .ok (.goto (-29), 3) := by decide +kernel
theorem dX13_wordOf_36 : decode cX13_wordOf 36 = .ok (.lload_n 1, 1) := by decide +kernel
theorem dX13_wordOf_37 : decode cX13_wordOf 37 = .ok (.lreturn, 1) := by decide +kernel
theorem dX13_worth_0 : decode cX13_worth 0 = .ok (.aload_n 0, 1) := by decide +kernel
theorem dX13_worth_1 : decode cX13_worth 1 = .ok (.iconst 0, 1) := by decide +kernel
theorem dX13_worth_2 : decode cX13_worth 2 = .ok (.putfield 63, 3) := by decide +kernel
theorem dX13_worth_5 : decode cX13_worth 5 = .ok (.aload_n 0, 1) := by decide +kernel
theorem dX13_worth_6 : decode cX13_worth 6 = .ok (.iload_n 1, 1) := by decide +kernel
theorem dX13_worth_7 : decode cX13_worth 7 = .ok (.invokevirtual 518, 3) := by decide +kernel
theorem dX13_worth_10 : decode cX13_worth 10 = .ok (.ifCond .ne 9, 3) := by decide +kernel
theorem dX13_worth_13 : decode cX13_worth 13 = .ok (.aload_n 0, 1) := by decide +kernel
theorem dX13_worth_14 : decode cX13_worth 14 = .ok (.iconst 1, 1) := by decide +kernel
theorem dX13_worth_15 : decode cX13_worth 15 = .ok (.invokevirtual 69, 3) := by decide +kernel
theorem dX13_worth_18 : decode cX13_worth 18 = .ok (.ireturn, 1) := by decide +kernel
theorem dX13_worth_19 : decode cX13_worth 19 = .ok (.iconst 0, 1) := by decide +kernel
theorem dX13_worth_20 : decode cX13_worth 20 = .ok (.istore_n 2, 1) := by decide +kernel
theorem dX13_worth_21 : decode cX13_worth 21 = .ok (.iconst 1, 1) := by decide +kernel
theorem dX13_worth_22 : decode cX13_worth 22 = .ok (.istore_n 3, 1) := by decide +kernel
theorem dX13_worth_23 : decode cX13_worth 23 = .ok (.iload_n 3, 1) := by decide +kernel
theorem dX13_worth_24 : decode cX13_worth 24 = .ok (.aload_n 0, 1) := by decide +kernel
theorem dX13_worth_25 : decode cX13_worth 25 = .ok (.getfield 17, 3) := by decide +kernel
theorem dX13_worth_28 : decode cX13_worth 28 = .ok (.iconst 0, 1) := by decide +kernel
theorem dX13_worth_29 : decode cX13_worth 29 = .ok (.iload_n 1, 1) := by decide +kernel
theorem dX13_worth_30 : decode cX13_worth 30 = .ok (.iadd, 1) := by decide +kernel
theorem dX13_worth_31 : decode cX13_worth 31 = .ok (.iaload, 1) := by decide +kernel
theorem dX13_worth_32 : decode cX13_worth 32 = .ok (.if_icmp .ge 51, 3) := by decide +kernel
theorem dX13_worth_35 : decode cX13_worth 35 = .ok (.aload_n 0, 1) := by decide +kernel
theorem dX13_worth_36 : decode cX13_worth 36 = .ok (.getfield 17, 3) := by decide +kernel
theorem dX13_worth_39 : decode cX13_worth 39 = .ok (.iload_n 1, 1) := by decide +kernel
theorem dX13_worth_40 : decode cX13_worth 40 = .ok (.iload_n 3, 1) := by decide +kernel
theorem dX13_worth_41 : decode cX13_worth 41 = .ok (.iconst 5, 1) := by decide +kernel
theorem dX13_worth_42 : decode cX13_worth 42 = .ok (.invokestatic 425, 3) := by decide +kernel
theorem dX13_worth_45 : decode cX13_worth 45 = .ok (.iaload, 1) := by decide +kernel
theorem dX13_worth_46 : decode cX13_worth 46 = .ok (.iconst 1, 1) := by decide +kernel
theorem dX13_worth_47 : decode cX13_worth 47 = .ok (.if_icmp .ne 6, 3) := by decide +kernel
theorem dX13_worth_50 : decode cX13_worth 50 = .ok (.goto 27, 3) := by decide +kernel
theorem dX13_worth_53 : decode cX13_worth 53 = .ok (.aload_n 0, 1) := by decide +kernel
theorem dX13_worth_54 : decode cX13_worth 54 = .ok (.iload_n 1, 1) := by decide +kernel
theorem dX13_worth_55 : decode cX13_worth 55 = .ok (.iload_n 3, 1) := by decide +kernel
theorem dX13_worth_56 : decode cX13_worth 56 = .ok (.invokevirtual 598, 3) := by decide +kernel
theorem dX13_worth_59 : decode cX13_worth 59 = .ok (.ifCond .eq 9, 3) := by decide +kernel
theorem dX13_worth_62 : decode cX13_worth 62 = .ok (.aload_n 0, 1) := by decide +kernel
theorem dX13_worth_63 : decode cX13_worth 63 = .ok (.iload_n 2, 1) := by decide +kernel
theorem dX13_worth_64 : decode cX13_worth 64 = .ok (.invokevirtual 73, 3) := by decide +kernel
theorem dX13_worth_67 : decode cX13_worth 67 = .ok (.ireturn, 1) := by decide +kernel
theorem dX13_worth_68 : decode cX13_worth 68 = .ok (.iload_n 2, 1) := by decide +kernel
theorem dX13_worth_69 : decode cX13_worth 69 = .ok (.aload_n 0, 1) := by decide +kernel
theorem dX13_worth_70 : decode cX13_worth 70 = .ok (.iload_n 1, 1) := by decide +kernel
theorem dX13_worth_71 : decode cX13_worth 71 = .ok (.iload_n 3, 1) := by decide +kernel
theorem dX13_worth_72 : decode cX13_worth 72 = .ok (.invokevirtual 595, 3) := by decide +kernel
theorem dX13_worth_75 : decode cX13_worth 75 = .ok (.iadd, 1) := by decide +kernel
theorem dX13_worth_76 : decode cX13_worth 76 = .ok (.istore_n 2, 1) := by decide +kernel
theorem dX13_worth_77 : decode cX13_worth 77 = .ok (.iinc 3 1, 3) := by decide +kernel
theorem dX13_worth_80 : decode cX13_worth 80 = .ok (.goto (-57), 3) := by decide +kernel
theorem dX13_worth_83 : decode cX13_worth 83 = .ok (.aload_n 0, 1) := by decide +kernel
theorem dX13_worth_84 : decode cX13_worth 84 = .ok (.iload_n 2, 1) := by decide +kernel
theorem dX13_worth_85 : decode cX13_worth 85 = .ok (.invokevirtual 73, 3) := by decide +kernel
theorem dX13_worth_88 : decode cX13_worth 88 = .ok (.ireturn, 1) := by decide +kernel
theorem dX13_yearOf_0 : decode cX13_yearOf 0 = .ok (.aload_n 1, 1) := by decide +kernel
theorem dX13_yearOf_1 : decode cX13_yearOf 1 = .ok (.iconst 4, 1) := by decide +kernel
theorem dX13_yearOf_2 : decode cX13_yearOf 2 = .ok (.iload_n 2, 1) := by decide +kernel
theorem dX13_yearOf_3 : decode cX13_yearOf 3 = .ok (.iadd, 1) := by decide +kernel
theorem dX13_yearOf_4 : decode cX13_yearOf 4 = .ok (.iaload, 1) := by decide +kernel
theorem dX13_yearOf_5 : decode cX13_yearOf 5 = .ok (.ifCond .ne 4, 3) := by decide +kernel
theorem dX13_yearOf_8 : decode cX13_yearOf 8 = .ok (.return_, 1) := by decide +kernel
theorem dX13_yearOf_9 : decode cX13_yearOf 9 = .ok (.aload_n 1, 1) := by decide +kernel
theorem dX13_yearOf_10 : decode cX13_yearOf 10 = .ok (.bipush 8, 2) := by decide +kernel
theorem dX13_yearOf_12 : decode cX13_yearOf 12 = .ok (.iload_n 2, 1) := by decide +kernel
theorem dX13_yearOf_13 : decode cX13_yearOf 13 = .ok (.iadd, 1) := by decide +kernel
theorem dX13_yearOf_14 : decode cX13_yearOf 14 = .ok (.sipush 999, 3) := by decide +kernel
theorem dX13_yearOf_17 : decode cX13_yearOf 17 = .ok (.aload_n 1, 1) := by decide +kernel
theorem dX13_yearOf_18 : decode cX13_yearOf 18 = .ok (.bipush 8, 2) := by decide +kernel
theorem dX13_yearOf_20 : decode cX13_yearOf 20 = .ok (.iload_n 2, 1) := by decide +kernel
theorem dX13_yearOf_21 : decode cX13_yearOf 21 = .ok (.iadd, 1) := by decide +kernel
theorem dX13_yearOf_22 : decode cX13_yearOf 22 = .ok (.iaload, 1) := by decide +kernel
theorem dX13_yearOf_23 : decode cX13_yearOf 23 = .ok (.aload_n 1, 1) := by decide +kernel
theorem dX13_yearOf_24 : decode cX13_yearOf 24 = .ok (.iconst 4, 1) := by decide +kernel
theorem dX13_yearOf_25 : decode cX13_yearOf 25 = .ok (.iload_n 2, 1) := by decide +kernel
theorem dX13_yearOf_26 : decode cX13_yearOf 26 = .ok (.iadd, 1) := by decide +kernel
theorem dX13_yearOf_27 : decode cX13_yearOf 27 = .ok (.iaload, 1) := by decide +kernel
theorem dX13_yearOf_28 : decode cX13_yearOf 28 = .ok (.aload_n 0, 1) := by decide +kernel
theorem dX13_yearOf_29 : decode cX13_yearOf 29 = .ok (.getfield 417, 3) := by decide +kernel
theorem dX13_yearOf_32 : decode cX13_yearOf 32 = .ok (.getfield 300, 3) := by decide +kernel
theorem dX13_yearOf_35 : decode cX13_yearOf 35 = .ok (.imul, 1) := by decide +kernel
theorem dX13_yearOf_36 : decode cX13_yearOf 36 = .ok (.iadd, 1) := by decide +kernel
theorem dX13_yearOf_37 : decode cX13_yearOf 37 = .ok (.invokestatic 487, 3) := by decide +kernel
theorem dX13_yearOf_40 : decode cX13_yearOf 40 = .ok (.iastore, 1) := by decide +kernel
theorem dX13_yearOf_41 : decode cX13_yearOf 41 = .ok (.aload_n 1, 1) := by decide +kernel
theorem dX13_yearOf_42 : decode cX13_yearOf 42 = .ok (.invokestatic 490, 3) := by decide +kernel
theorem dX13_yearOf_45 : decode cX13_yearOf 45 = .ok (.aload_n 0, 1) := by decide +kernel
theorem dX13_yearOf_46 : decode cX13_yearOf 46 = .ok (.getfield 417, 3) := by decide +kernel
theorem dX13_yearOf_49 : decode cX13_yearOf 49 = .ok (.getfield 296, 3) := by decide +kernel
theorem dX13_yearOf_52 : decode cX13_yearOf 52 = .ok (.if_icmp .ge 20, 3) := by decide +kernel
theorem dX13_yearOf_55 : decode cX13_yearOf 55 = .ok (.aload_n 1, 1) := by decide +kernel
theorem dX13_yearOf_56 : decode cX13_yearOf 56 = .ok (.iconst 4, 1) := by decide +kernel
theorem dX13_yearOf_57 : decode cX13_yearOf 57 = .ok (.iload_n 2, 1) := by decide +kernel
theorem dX13_yearOf_58 : decode cX13_yearOf 58 = .ok (.iadd, 1) := by decide +kernel
theorem dX13_yearOf_59 : decode cX13_yearOf 59 = .ok (.bipush 99, 2) := by decide +kernel
theorem dX13_yearOf_61 : decode cX13_yearOf 61 = .ok (.aload_n 1, 1) := by decide +kernel
theorem dX13_yearOf_62 : decode cX13_yearOf 62 = .ok (.iconst 4, 1) := by decide +kernel
theorem dX13_yearOf_63 : decode cX13_yearOf 63 = .ok (.iload_n 2, 1) := by decide +kernel
theorem dX13_yearOf_64 : decode cX13_yearOf 64 = .ok (.iadd, 1) := by decide +kernel
theorem dX13_yearOf_65 : decode cX13_yearOf 65 = .ok (.iaload, 1) := by decide +kernel
theorem dX13_yearOf_66 : decode cX13_yearOf 66 = .ok (.iconst 1, 1) := by decide +kernel
theorem dX13_yearOf_67 : decode cX13_yearOf 67 = .ok (.iadd, 1) := by decide +kernel
theorem dX13_yearOf_68 : decode cX13_yearOf 68 = .ok (.invokestatic 487, 3) := by decide +kernel
theorem dX13_yearOf_71 : decode cX13_yearOf 71 = .ok (.iastore, 1) := by decide +kernel
theorem dX13_yearOf_72 : decode cX13_yearOf 72 = .ok (.iconst 1, 1) := by decide +kernel
theorem dX13_yearOf_73 : decode cX13_yearOf 73 = .ok (.istore_n 3, 1) := by decide +kernel
theorem dX13_yearOf_74 : decode cX13_yearOf 74 = .ok (.iload_n 3, 1) := by decide +kernel
theorem dX13_yearOf_75 : decode cX13_yearOf 75 = .ok (.aload_n 1, 1) := by decide +kernel
theorem dX13_yearOf_76 : decode cX13_yearOf 76 = .ok (.iconst 0, 1) := by decide +kernel
theorem dX13_yearOf_77 : decode cX13_yearOf 77 = .ok (.iload_n 2, 1) := by decide +kernel
theorem dX13_yearOf_78 : decode cX13_yearOf 78 = .ok (.iadd, 1) := by decide +kernel
theorem dX13_yearOf_79 : decode cX13_yearOf 79 = .ok (.iaload, 1) := by decide +kernel
theorem dX13_yearOf_80 : decode cX13_yearOf 80 = .ok (.if_icmp .gt 16, 3) := by decide +kernel
theorem dX13_yearOf_83 : decode cX13_yearOf 83 = .ok (.aload_n 0, 1) := by decide +kernel
theorem dX13_yearOf_84 : decode cX13_yearOf 84 = .ok (.aload_n 1, 1) := by decide +kernel
theorem dX13_yearOf_85 : decode cX13_yearOf 85 = .ok (.iload_n 2, 1) := by decide +kernel
theorem dX13_yearOf_86 : decode cX13_yearOf 86 = .ok (.iload_n 3, 1) := by decide +kernel
theorem dX13_yearOf_87 : decode cX13_yearOf 87 = .ok (.invokevirtual 494, 3) := by decide +kernel
theorem dX13_yearOf_90 : decode cX13_yearOf 90 = .ok (.iinc 3 1, 3) := by decide +kernel
theorem dX13_yearOf_93 : decode cX13_yearOf 93 = .ok (.goto (-19), 3) := by decide +kernel
theorem dX13_yearOf_96 : decode cX13_yearOf 96 = .ok (.aload_n 1, 1) := by decide +kernel
theorem dX13_yearOf_97 : decode cX13_yearOf 97 = .ok (.invokestatic 490, 3) := by decide +kernel
theorem dX13_yearOf_100 : decode cX13_yearOf 100 = .ok (.aload_n 0, 1) := by decide +kernel
theorem dX13_yearOf_101 : decode cX13_yearOf 101 = .ok (.getfield 417, 3) := by decide +kernel
theorem dX13_yearOf_104 : decode cX13_yearOf 104 = .ok (.getfield 298, 3) := by decide +kernel
theorem dX13_yearOf_107 : decode cX13_yearOf 107 = .ok (.if_icmp .ge 61, 3) := by decide +kernel
theorem dX13_yearOf_110 : decode cX13_yearOf 110 = .ok (.iconst 1, 1) := by decide +kernel
theorem dX13_yearOf_111 : decode cX13_yearOf 111 = .ok (.istore_n 3, 1) := by decide +kernel
theorem dX13_yearOf_112 : decode cX13_yearOf 112 = .ok (.iload_n 3, 1) := by decide +kernel
theorem dX13_yearOf_113 : decode cX13_yearOf 113 = .ok (.aload_n 1, 1) := by decide +kernel
theorem dX13_yearOf_114 : decode cX13_yearOf 114 = .ok (.iconst 0, 1) := by decide +kernel
theorem dX13_yearOf_115 : decode cX13_yearOf 115 = .ok (.iload_n 2, 1) := by decide +kernel
theorem dX13_yearOf_116 : decode cX13_yearOf 116 = .ok (.iadd, 1) := by decide +kernel
theorem dX13_yearOf_117 : decode cX13_yearOf 117 = .ok (.iaload, 1) := by decide +kernel
theorem dX13_yearOf_118 : decode cX13_yearOf 118 = .ok (.if_icmp .gt 50, 3) := by decide +kernel
theorem dX13_yearOf_121 : decode cX13_yearOf 121 = .ok (.aload_n 0, 1) := by decide +kernel
theorem dX13_yearOf_122 : decode cX13_yearOf 122 = .ok (.getfield 417, 3) := by decide +kernel
theorem dX13_yearOf_125 : decode cX13_yearOf 125 = .ok (.getfield 332, 3) := by decide +kernel
theorem dX13_yearOf_128 : decode cX13_yearOf 128 = .ok (.aload_n 1, 1) := by decide +kernel
theorem dX13_yearOf_129 : decode cX13_yearOf 129 = .ok (.iload_n 2, 1) := by decide +kernel
theorem dX13_yearOf_130 : decode cX13_yearOf 130 = .ok (.iload_n 3, 1) := by decide +kernel
theorem dX13_yearOf_131 : decode cX13_yearOf 131 = .ok (.iconst 0, 1) := by decide +kernel
theorem dX13_yearOf_132 : decode cX13_yearOf 132 = .ok (.invokestatic 425, 3) := by decide +kernel
theorem dX13_yearOf_135 : decode cX13_yearOf 135 = .ok (.iaload, 1) := by decide +kernel
theorem dX13_yearOf_136 : decode cX13_yearOf 136 = .ok (.iaload, 1) := by decide +kernel
theorem dX13_yearOf_137 : decode cX13_yearOf 137 = .ok (.iconst 2, 1) := by decide +kernel
theorem dX13_yearOf_138 : decode cX13_yearOf 138 = .ok (.if_icmp .ne 24, 3) := by decide +kernel
theorem dX13_yearOf_141 : decode cX13_yearOf 141 = .ok (.aload_n 1, 1) := by decide +kernel
theorem dX13_yearOf_142 : decode cX13_yearOf 142 = .ok (.iload_n 2, 1) := by decide +kernel
theorem dX13_yearOf_143 : decode cX13_yearOf 143 = .ok (.iload_n 3, 1) := by decide +kernel
theorem dX13_yearOf_144 : decode cX13_yearOf 144 = .ok (.bipush 6, 2) := by decide +kernel
theorem dX13_yearOf_146 : decode cX13_yearOf 146 = .ok (.invokestatic 425, 3) := by decide +kernel
theorem dX13_yearOf_149 : decode cX13_yearOf 149 = .ok (.iaload, 1) := by decide +kernel
theorem dX13_yearOf_150 : decode cX13_yearOf 150 = .ok (.ifCond .ne 12, 3) := by decide +kernel
theorem dX13_yearOf_153 : decode cX13_yearOf 153 = .ok (.aload_n 1, 1) := by decide +kernel
theorem dX13_yearOf_154 : decode cX13_yearOf 154 = .ok (.iload_n 2, 1) := by decide +kernel
theorem dX13_yearOf_155 : decode cX13_yearOf 155 = .ok (.iload_n 3, 1) := by decide +kernel
theorem dX13_yearOf_156 : decode cX13_yearOf 156 = .ok (.iconst 5, 1) := by decide +kernel
theorem dX13_yearOf_157 : decode cX13_yearOf 157 = .ok (.invokestatic 425, 3) := by decide +kernel
theorem dX13_yearOf_160 : decode cX13_yearOf 160 = .ok (.iconst 1, 1) := by decide +kernel
theorem dX13_yearOf_161 : decode cX13_yearOf 161 = .ok (.iastore, 1) := by decide +kernel
theorem dX13_yearOf_162 : decode cX13_yearOf 162 = .ok (.iinc 3 1, 3) := by decide +kernel
theorem dX13_yearOf_165 : decode cX13_yearOf 165 = .ok (.goto (-53), 3) := by decide +kernel
theorem dX13_yearOf_168 : decode cX13_yearOf 168 = .ok (.aload_n 0, 1) := by decide +kernel
theorem dX13_yearOf_169 : decode cX13_yearOf 169 = .ok (.aload_n 1, 1) := by decide +kernel
theorem dX13_yearOf_170 : decode cX13_yearOf 170 = .ok (.iload_n 2, 1) := by decide +kernel
theorem dX13_yearOf_171 : decode cX13_yearOf 171 = .ok (.invokevirtual 497, 3) := by decide +kernel
theorem dX13_yearOf_174 : decode cX13_yearOf 174 = .ok (.ifCond .eq 27, 3) := by decide +kernel
theorem dX13_yearOf_177 : decode cX13_yearOf 177 = .ok (.aload_n 1, 1) := by decide +kernel
theorem dX13_yearOf_178 : decode cX13_yearOf 178 = .ok (.bipush 8, 2) := by decide +kernel
theorem dX13_yearOf_180 : decode cX13_yearOf 180 = .ok (.iload_n 2, 1) := by decide +kernel
theorem dX13_yearOf_181 : decode cX13_yearOf 181 = .ok (.iadd, 1) := by decide +kernel
theorem dX13_yearOf_182 : decode cX13_yearOf 182 = .ok (.iaload, 1) := by decide +kernel
theorem dX13_yearOf_183 : decode cX13_yearOf 183 = .ok (.aload_n 0, 1) := by decide +kernel
theorem dX13_yearOf_184 : decode cX13_yearOf 184 = .ok (.aload_n 1, 1) := by decide +kernel
theorem dX13_yearOf_185 : decode cX13_yearOf 185 = .ok (.iload_n 2, 1) := by decide +kernel
theorem dX13_yearOf_186 : decode cX13_yearOf 186 = .ok (.aload_n 0, 1) := by decide +kernel
theorem dX13_yearOf_187 : decode cX13_yearOf 187 = .ok (.getfield 417, 3) := by decide +kernel
theorem dX13_yearOf_190 : decode cX13_yearOf 190 = .ok (.getfield 364, 3) := by decide +kernel
theorem dX13_yearOf_193 : decode cX13_yearOf 193 = .ok (.iload_n 2, 1) := by decide +kernel
theorem dX13_yearOf_194 : decode cX13_yearOf 194 = .ok (.iaload, 1) := by decide +kernel
theorem dX13_yearOf_195 : decode cX13_yearOf 195 = .ok (.invokevirtual 501, 3) := by decide +kernel
theorem dX13_yearOf_198 : decode cX13_yearOf 198 = .ok (.if_icmp .ge 4, 3) := by decide +kernel
theorem dX13_yearOf_201 : decode cX13_yearOf 201 = .ok (.return_, 1) := by decide +kernel
theorem dX13_yearOf_202 : decode cX13_yearOf 202 = .ok (.aload_n 1, 1) := by decide +kernel
theorem dX13_yearOf_203 : decode cX13_yearOf 203 = .ok (.bipush 8, 2) := by decide +kernel
theorem dX13_yearOf_205 : decode cX13_yearOf 205 = .ok (.iload_n 2, 1) := by decide +kernel
theorem dX13_yearOf_206 : decode cX13_yearOf 206 = .ok (.iadd, 1) := by decide +kernel
theorem dX13_yearOf_207 : decode cX13_yearOf 207 = .ok (.dup2, 1) := by decide +kernel
theorem dX13_yearOf_208 : decode cX13_yearOf 208 = .ok (.iaload, 1) := by decide +kernel
theorem dX13_yearOf_209 : decode cX13_yearOf 209 = .ok (.aload_n 0, 1) := by decide +kernel
theorem dX13_yearOf_210 : decode cX13_yearOf 210 = .ok (.aload_n 1, 1) := by decide +kernel
theorem dX13_yearOf_211 : decode cX13_yearOf 211 = .ok (.iload_n 2, 1) := by decide +kernel
theorem dX13_yearOf_212 : decode cX13_yearOf 212 = .ok (.aload_n 0, 1) := by decide +kernel
theorem dX13_yearOf_213 : decode cX13_yearOf 213 = .ok (.getfield 417, 3) := by decide +kernel
theorem dX13_yearOf_216 : decode cX13_yearOf 216 = .ok (.getfield 364, 3) := by decide +kernel
theorem dX13_yearOf_219 : decode cX13_yearOf 219 = .ok (.iload_n 2, 1) := by decide +kernel
theorem dX13_yearOf_220 : decode cX13_yearOf 220 = .ok (.iaload, 1) := by decide +kernel
theorem dX13_yearOf_221 : decode cX13_yearOf 221 = .ok (.invokevirtual 501, 3) := by decide +kernel
theorem dX13_yearOf_224 : decode cX13_yearOf 224 = .ok (.isub, 1) := by decide +kernel
theorem dX13_yearOf_225 : decode cX13_yearOf 225 = .ok (.iastore, 1) := by decide +kernel
theorem dX13_yearOf_226 : decode cX13_yearOf 226 = .ok (.aload_n 1, 1) := by decide +kernel
theorem dX13_yearOf_227 : decode cX13_yearOf 227 = .ok (.iload_n 2, 1) := by decide +kernel
theorem dX13_yearOf_228 : decode cX13_yearOf 228 = .ok (.aload_n 0, 1) := by decide +kernel
theorem dX13_yearOf_229 : decode cX13_yearOf 229 = .ok (.getfield 417, 3) := by decide +kernel
theorem dX13_yearOf_232 : decode cX13_yearOf 232 = .ok (.getfield 364, 3) := by decide +kernel
theorem dX13_yearOf_235 : decode cX13_yearOf 235 = .ok (.iload_n 2, 1) := by decide +kernel
theorem dX13_yearOf_236 : decode cX13_yearOf 236 = .ok (.iaload, 1) := by decide +kernel
theorem dX13_yearOf_237 : decode cX13_yearOf 237 = .ok (.aload_n 0, 1) := by decide +kernel
theorem dX13_yearOf_238 : decode cX13_yearOf 238 = .ok (.getfield 475, 3) := by decide +kernel
theorem dX13_yearOf_241 : decode cX13_yearOf 241 = .ok (.aload_n 0, 1) := by decide +kernel
theorem dX13_yearOf_242 : decode cX13_yearOf 242 = .ok (.getfield 478, 3) := by decide +kernel
theorem dX13_yearOf_245 : decode cX13_yearOf 245 = .ok (.aload_n 1, 1) := by decide +kernel
theorem dX13_yearOf_246 : decode cX13_yearOf 246 = .ok (.iconst 4, 1) := by decide +kernel
theorem dX13_yearOf_247 : decode cX13_yearOf 247 = .ok (.iload_n 2, 1) := by decide +kernel
theorem dX13_yearOf_248 : decode cX13_yearOf 248 = .ok (.iadd, 1) := by decide +kernel
theorem dX13_yearOf_249 : decode cX13_yearOf 249 = .ok (.iaload, 1) := by decide +kernel
theorem dX13_yearOf_250 : decode cX13_yearOf 250 = .ok (.bipush 10, 2) := by decide +kernel
theorem dX13_yearOf_252 : decode cX13_yearOf 252 = .ok (.irem, 1) := by decide +kernel
theorem dX13_yearOf_253 : decode cX13_yearOf 253 = .ok (.aload_n 1, 1) := by decide +kernel
theorem dX13_yearOf_254 : decode cX13_yearOf 254 = .ok (.sipush 210, 3) := by decide +kernel
theorem dX13_yearOf_257 : decode cX13_yearOf 257 = .ok (.iaload, 1) := by decide +kernel
theorem dX13_yearOf_258 : decode cX13_yearOf 258 = .ok (.invokestatic 384, 3) := by decide +kernel
theorem dX13_yearOf_261 : decode cX13_yearOf 261 = .ok (.return_, 1) := by decide +kernel
theorem dX13_years_0 : decode cX13_years 0 = .ok (.aload_n 0, 1) := by decide +kernel
theorem dX13_years_1 : decode cX13_years 1 = .ok (.iconst 0, 1) := by decide +kernel
theorem dX13_years_2 : decode cX13_years 2 = .ok (.putfield 63, 3) := by decide +kernel
theorem dX13_years_5 : decode cX13_years 5 = .ok (.aload_n 0, 1) := by decide +kernel
theorem dX13_years_6 : decode cX13_years 6 = .ok (.getfield 417, 3) := by decide +kernel
theorem dX13_years_9 : decode cX13_years 9 = .ok (.ifnonnull 9, 3) := by decide +kernel
theorem dX13_years_12 : decode cX13_years 12 = .ok (.aload_n 0, 1) := by decide +kernel
theorem dX13_years_13 : decode cX13_years 13 = .ok (.iconst 1, 1) := by decide +kernel
theorem dX13_years_14 : decode cX13_years 14 = .ok (.invokevirtual 69, 3) := by decide +kernel
theorem dX13_years_17 : decode cX13_years 17 = .ok (.ireturn, 1) := by decide +kernel
theorem dX13_years_18 : decode cX13_years 18 = .ok (.iload_n 1, 1) := by decide +kernel
theorem dX13_years_19 : decode cX13_years 19 = .ok (.iconst 1, 1) := by decide +kernel
theorem dX13_years_20 : decode cX13_years 20 = .ok (.bipush 20, 2) := by decide +kernel
theorem dX13_years_22 : decode cX13_years 22 = .ok (.invokestatic 141, 3) := by decide +kernel
theorem dX13_years_25 : decode cX13_years 25 = .ok (.ifCond .ne 9, 3) := by decide +kernel
theorem dX13_years_28 : decode cX13_years 28 = .ok (.aload_n 0, 1) := by decide +kernel
theorem dX13_years_29 : decode cX13_years 29 = .ok (.iconst 2, 1) := by decide +kernel
theorem dX13_years_30 : decode cX13_years 30 = .ok (.invokevirtual 69, 3) := by decide +kernel
theorem dX13_years_33 : decode cX13_years 33 = .ok (.ireturn, 1) := by decide +kernel
theorem dX13_years_34 : decode cX13_years 34 = .ok (.aload_n 0, 1) := by decide +kernel
theorem dX13_years_35 : decode cX13_years 35 = .ok (.getfield 17, 3) := by decide +kernel
theorem dX13_years_38 : decode cX13_years 38 = .ok (.sipush 210, 3) := by decide +kernel
theorem dX13_years_41 : decode cX13_years 41 = .ok (.iaload, 1) := by decide +kernel
theorem dX13_years_42 : decode cX13_years 42 = .ok (.iload_n 1, 1) := by decide +kernel
theorem dX13_years_43 : decode cX13_years 43 = .ok (.iadd, 1) := by decide +kernel
theorem dX13_years_44 : decode cX13_years 44 = .ok (.sipush 999, 3) := by decide +kernel
theorem dX13_years_47 : decode cX13_years 47 = .ok (.if_icmp .le 9, 3) := by decide +kernel
theorem dX13_years_50 : decode cX13_years 50 = .ok (.aload_n 0, 1) := by decide +kernel
theorem dX13_years_51 : decode cX13_years 51 = .ok (.iconst 3, 1) := by decide +kernel
theorem dX13_years_52 : decode cX13_years 52 = .ok (.invokevirtual 69, 3) := by decide +kernel
theorem dX13_years_55 : decode cX13_years 55 = .ok (.ireturn, 1) := by decide +kernel
theorem dX13_years_56 : decode cX13_years 56 = .ok (.aload_n 0, 1) := by decide +kernel
theorem dX13_years_57 : decode cX13_years 57 = .ok (.invokevirtual 616, 3) := by decide +kernel
theorem dX13_years_60 : decode cX13_years 60 = .ok (.aload_n 0, 1) := by decide +kernel
theorem dX13_years_61 : decode cX13_years 61 = .ok (.invokevirtual 511, 3) := by decide +kernel
theorem dX13_years_64 : decode cX13_years 64 = .ok (.iconst 0, 1) := by decide +kernel
theorem dX13_years_65 : decode cX13_years 65 = .ok (.istore_n 2, 1) := by decide +kernel
theorem dX13_years_66 : decode cX13_years 66 = .ok (.iload_n 2, 1) := by decide +kernel
theorem dX13_years_67 : decode cX13_years 67 = .ok (.iload_n 1, 1) := by decide +kernel
theorem dX13_years_68 : decode cX13_years 68 = .ok (.if_icmp .ge 17, 3) := by decide +kernel
theorem dX13_years_71 : decode cX13_years 71 = .ok (.aload_n 0, 1) := by decide +kernel
theorem dX13_years_72 : decode cX13_years 72 = .ok (.aload_n 0, 1) := by decide +kernel
theorem dX13_years_73 : decode cX13_years 73 = .ok (.getfield 17, 3) := by decide +kernel
theorem dX13_years_76 : decode cX13_years 76 = .ok (.invokevirtual 514, 3) := by decide +kernel
theorem dX13_years_79 : decode cX13_years 79 = .ok (.iinc 2 1, 3) := by decide +kernel
theorem dX13_years_82 : decode cX13_years 82 = .ok (.goto (-16), 3) := by decide +kernel
theorem dX13_years_85 : decode cX13_years 85 = .ok (.aload_n 0, 1) := by decide +kernel
theorem dX13_years_86 : decode cX13_years 86 = .ok (.aload_n 0, 1) := by decide +kernel
theorem dX13_years_87 : decode cX13_years 87 = .ok (.getfield 17, 3) := by decide +kernel
theorem dX13_years_90 : decode cX13_years 90 = .ok (.invokestatic 572, 3) := by decide +kernel
theorem dX13_years_93 : decode cX13_years 93 = .ok (.invokevirtual 73, 3) := by decide +kernel
theorem dX13_years_96 : decode cX13_years 96 = .ok (.ireturn, 1) := by decide +kernel
