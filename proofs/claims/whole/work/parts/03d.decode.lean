theorem dX7_strong_5 : decode cX7_strong 5 = .ok (.ifCond .eq 5, 3) := by decide +kernel
theorem dX7_strong_8 : decode cX7_strong 8 = .ok (.iconst 0, 1) := by decide +kernel
theorem dX7_strong_9 : decode cX7_strong 9 = .ok (.ireturn, 1) := by decide +kernel
theorem dX7_strong_10 : decode cX7_strong 10 = .ok (.iload_n 2, 1) := by decide +kernel
theorem dX7_strong_11 : decode cX7_strong 11 = .ok (.aload_n 0, 1) := by decide +kernel
theorem dX7_strong_12 : decode cX7_strong 12 = .ok (.getfield 9, 3) := by decide +kernel
theorem dX7_strong_15 : decode cX7_strong 15 = .ok (.if_icmp .ge 11, 3) := by decide +kernel
theorem dX7_strong_18 : decode cX7_strong 18 = .ok (.iload_n 1, 1) := by decide +kernel
theorem dX7_strong_19 : decode cX7_strong 19 = .ok (.iload_n 1, 1) := by decide +kernel
theorem dX7_strong_20 : decode cX7_strong 20 = .ok (.iconst 3, 1) := by decide +kernel
theorem dX7_strong_21 : decode cX7_strong 21 = .ok (.idiv, 1) := by decide +kernel
theorem dX7_strong_22 : decode cX7_strong 22 = .ok (.isub, 1) := by decide +kernel
theorem dX7_strong_23 : decode cX7_strong 23 = .ok (.goto 4, 3) := by decide +kernel
theorem dX7_strong_26 : decode cX7_strong 26 = .ok (.iload_n 1, 1) := by decide +kernel
theorem dX7_strong_27 : decode cX7_strong 27 = .ok (.ireturn, 1) := by decide +kernel
theorem dX7_strongOf_0 : decode cX7_strongOf 0 = .ok (.aload_n 0, 1) := by decide +kernel
theorem dX7_strongOf_1 : decode cX7_strongOf 1 = .ok (.aload_n 0, 1) := by decide +kernel
theorem dX7_strongOf_2 : decode cX7_strongOf 2 = .ok (.getfield 46, 3) := by decide +kernel
theorem dX7_strongOf_5 : decode cX7_strongOf 5 = .ok (.iload_n 1, 1) := by decide +kernel
theorem dX7_strongOf_6 : decode cX7_strongOf 6 = .ok (.invokevirtual 67, 3) := by decide +kernel
theorem dX7_strongOf_9 : decode cX7_strongOf 9 = .ok (.aload_n 0, 1) := by decide +kernel
theorem dX7_strongOf_10 : decode cX7_strongOf 10 = .ok (.getfield 46, 3) := by decide +kernel
theorem dX7_strongOf_13 : decode cX7_strongOf 13 = .ok (.iload_n 1, 1) := by decide +kernel
theorem dX7_strongOf_14 : decode cX7_strongOf 14 = .ok (.invokevirtual 71, 3) := by decide +kernel
theorem dX7_strongOf_17 : decode cX7_strongOf 17 = .ok (.invokevirtual 74, 3) := by decide +kernel
theorem dX7_strongOf_20 : decode cX7_strongOf 20 = .ok (.ireturn, 1) := by decide +kernel
theorem dX7_casksOff_0 : decode cX7_casksOff 0 = .ok (.iconst 0, 1) := by decide +kernel
theorem dX7_casksOff_1 : decode cX7_casksOff 1 = .ok (.istore_n 1, 1) := by decide +kernel
theorem dX7_casksOff_2 : decode cX7_casksOff 2 = .ok (.iconst 0, 1) := by decide +kernel
theorem dX7_casksOff_3 : decode cX7_casksOff 3 = .ok (.istore_n 2, 1) := by decide +kernel
theorem dX7_casksOff_4 : decode cX7_casksOff 4 = .ok (.iload_n 2, 1) := by decide +kernel
theorem dX7_casksOff_5 : decode cX7_casksOff 5 = .ok (.iconst 4, 1) := by decide +kernel
theorem dX7_casksOff_6 : decode cX7_casksOff 6 = .ok (.if_icmp .ge 41, 3) := by decide +kernel
theorem dX7_casksOff_9 : decode cX7_casksOff 9 = .ok (.aload_n 0, 1) := by decide +kernel
theorem dX7_casksOff_10 : decode cX7_casksOff 10 = .ok (.getfield 46, 3) := by decide +kernel
theorem dX7_casksOff_13 : decode cX7_casksOff 13 = .ok (.iload_n 2, 1) := by decide +kernel
theorem dX7_casksOff_14 : decode cX7_casksOff 14 = .ok (.invokevirtual 78, 3) := by decide +kernel
theorem dX7_casksOff_17 : decode cX7_casksOff 17 = .ok (.ifCond .ne 24, 3) := by decide +kernel
theorem dX7_casksOff_20 : decode cX7_casksOff 20 = .ok (.aload_n 0, 1) := by decide +kernel
theorem dX7_casksOff_21 : decode cX7_casksOff 21 = .ok (.aload_n 0, 1) := by decide +kernel
theorem dX7_casksOff_22 : decode cX7_casksOff 22 = .ok (.getfield 46, 3) := by decide +kernel
theorem dX7_casksOff_25 : decode cX7_casksOff 25 = .ok (.iload_n 2, 1) := by decide +kernel
theorem dX7_casksOff_26 : decode cX7_casksOff 26 = .ok (.invokevirtual 71, 3) := by decide +kernel
theorem dX7_casksOff_29 : decode cX7_casksOff 29 = .ok (.invokevirtual 63, 3) := by decide +kernel
theorem dX7_casksOff_32 : decode cX7_casksOff 32 = .ok (.ifCond .eq 9, 3) := by decide +kernel
theorem dX7_casksOff_35 : decode cX7_casksOff 35 = .ok (.iload_n 1, 1) := by decide +kernel
theorem dX7_casksOff_36 : decode cX7_casksOff 36 = .ok (.iconst 1, 1) := by decide +kernel
theorem dX7_casksOff_37 : decode cX7_casksOff 37 = .ok (.iload_n 2, 1) := by decide +kernel
theorem dX7_casksOff_38 : decode cX7_casksOff 38 = .ok (.ishl, 1) := by decide +kernel
theorem dX7_casksOff_39 : decode cX7_casksOff 39 = .ok (.ior, 1) := by decide +kernel
theorem dX7_casksOff_40 : decode cX7_casksOff 40 = .ok (.istore_n 1, 1) := by decide +kernel
theorem dX7_casksOff_41 : decode cX7_casksOff 41 = .ok (.iinc 2 1, 3) := by decide +kernel
theorem dX7_casksOff_44 : decode cX7_casksOff 44 = .ok (.goto (-40), 3) := by decide +kernel
theorem dX7_casksOff_47 : decode cX7_casksOff 47 = .ok (.iload_n 1, 1) := by decide +kernel
theorem dX7_casksOff_48 : decode cX7_casksOff 48 = .ok (.ireturn, 1) := by decide +kernel
theorem dX8_init_0 : decode cX8_init 0 = .ok (.aload_n 0, 1) := by decide +kernel
theorem dX8_init_1 : decode cX8_init 1 = .ok (.invokespecial 1, 3) := by decide +kernel
theorem dX8_init_4 : decode cX8_init 4 = .ok (.aload_n 0, 1) := by decide +kernel
theorem dX8_init_5 : decode cX8_init 5 = .ok (.new 7, 3) := by decide +kernel
theorem dX8_init_8 : decode cX8_init 8 = .ok (.dup, 1) := by decide +kernel
theorem dX8_init_9 : decode cX8_init 9 = .ok (.invokespecial 9, 3) := by decide +kernel
theorem dX8_init_12 : decode cX8_init 12 = .ok (.putfield 10, 3) := by decide +kernel
theorem dX8_init_15 : decode cX8_init 15 = .ok (.aload_n 0, 1) := by decide +kernel
theorem dX8_init_16 : decode cX8_init 16 = .ok (.new 16, 3) := by decide +kernel
theorem dX8_init_19 : decode cX8_init 19 = .ok (.dup, 1) := by decide +kernel
theorem dX8_init_20 : decode cX8_init 20 = .ok (.invokespecial 18, 3) := by decide +kernel
theorem dX8_init_23 : decode cX8_init 23 = .ok (.putfield 19, 3) := by decide +kernel
theorem dX8_init_26 : decode cX8_init 26 = .ok (.aload_n 0, 1) := by decide +kernel
theorem dX8_init_27 : decode cX8_init 27 = .ok (.new 23, 3) := by decide +kernel
theorem dX8_init_30 : decode cX8_init 30 = .ok (.dup, 1) := by decide +kernel
theorem dX8_init_31 : decode cX8_init 31 = .ok (.invokespecial 25, 3) := by decide +kernel
theorem dX8_init_34 : decode cX8_init 34 = .ok (.putfield 26, 3) := by decide +kernel
theorem dX8_init_37 : decode cX8_init 37 = .ok (.aload_n 0, 1) := by decide +kernel
theorem dX8_init_38 : decode cX8_init 38 = .ok (.new 23, 3) := by decide +kernel
theorem dX8_init_41 : decode cX8_init 41 = .ok (.dup, 1) := by decide +kernel
theorem dX8_init_42 : decode cX8_init 42 = .ok (.invokespecial 25, 3) := by decide +kernel
theorem dX8_init_45 : decode cX8_init 45 = .ok (.putfield 30, 3) := by decide +kernel
theorem dX8_init_48 : decode cX8_init 48 = .ok (.aload_n 0, 1) := by decide +kernel
theorem dX8_init_49 : decode cX8_init 49 = .ok (.iconst 2, 1) := by decide +kernel
theorem dX8_init_50 : decode cX8_init 50 = .ok (.anewarray 23, 3) := by decide +kernel
theorem dX8_init_53 : decode cX8_init 53 = .ok (.dup, 1) := by decide +kernel
theorem dX8_init_54 : decode cX8_init 54 = .ok (.iconst 0, 1) := by decide +kernel
theorem dX8_init_55 : decode cX8_init 55 = .ok (.new 23, 3) := by decide +kernel
theorem dX8_init_58 : decode cX8_init 58 = .ok (.dup, 1) := by decide +kernel
theorem dX8_init_59 : decode cX8_init 59 = .ok (.invokespecial 25, 3) := by decide +kernel
theorem dX8_init_62 : decode cX8_init 62 = .ok (.aastore, 1) := by decide +kernel
theorem dX8_init_63 : decode cX8_init 63 = .ok (.dup, 1) := by decide +kernel
theorem dX8_init_64 : decode cX8_init 64 = .ok (.iconst 1, 1) := by decide +kernel
theorem dX8_init_65 : decode cX8_init 65 = .ok (.new 23, 3) := by decide +kernel
theorem dX8_init_68 : decode cX8_init 68 = .ok (.dup, 1) := by decide +kernel
theorem dX8_init_69 : decode cX8_init 69 = .ok (.invokespecial 25, 3) := by decide +kernel
theorem dX8_init_72 : decode cX8_init 72 = .ok (.aastore, 1) := by decide +kernel
theorem dX8_init_73 : decode cX8_init 73 = .ok (.putfield 33, 3) := by decide +kernel
theorem dX8_init_76 : decode cX8_init 76 = .ok (.aload_n 0, 1) := by decide +kernel
theorem dX8_init_77 : decode cX8_init 77 = .ok (.new 37, 3) := by decide +kernel
theorem dX8_init_80 : decode cX8_init 80 = .ok (.dup, 1) := by decide +kernel
theorem dX8_init_81 : decode cX8_init 81 = .ok (.invokespecial 39, 3) := by decide +kernel
theorem dX8_init_84 : decode cX8_init 84 = .ok (.putfield 40, 3) := by decide +kernel
theorem dX8_init_87 : decode cX8_init 87 = .ok (.aload_n 0, 1) := by decide +kernel
theorem dX8_init_88 : decode cX8_init 88 = .ok (.new 44, 3) := by decide +kernel
theorem dX8_init_91 : decode cX8_init 91 = .ok (.dup, 1) := by decide +kernel
theorem dX8_init_92 : decode cX8_init 92 = .ok (.aload_n 0, 1) := by decide +kernel
theorem dX8_init_93 : decode cX8_init 93 = .ok (.getfield 26, 3) := by decide +kernel
theorem dX8_init_96 : decode cX8_init 96 = .ok (.invokespecial 46, 3) := by decide +kernel
theorem dX8_init_99 : decode cX8_init 99 = .ok (.putfield 49, 3) := by decide +kernel
theorem dX8_init_102 : decode cX8_init 102 = .ok (.aload_n 0, 1) := by decide +kernel
theorem dX8_init_103 : decode cX8_init 103 = .ok (.new 53, 3) := by decide +kernel
theorem dX8_init_106 : decode cX8_init 106 = .ok (.dup, 1) := by decide +kernel
theorem dX8_init_107 : decode cX8_init 107 = .ok (.aload_n 0, 1) := by decide +kernel
theorem dX8_init_108 : decode cX8_init 108 = .ok (.getfield 26, 3) := by decide +kernel
theorem dX8_init_111 : decode cX8_init 111 = .ok (.aload_n 0, 1) := by decide +kernel
theorem dX8_init_112 : decode cX8_init 112 = .ok (.getfield 49, 3) := by decide +kernel
theorem dX8_init_115 : decode cX8_init 115 = .ok (.invokespecial 55, 3) := by decide +kernel
theorem dX8_init_118 : decode cX8_init 118 = .ok (.putfield 58, 3) := by decide +kernel
theorem dX8_init_121 : decode cX8_init 121 = .ok (.aload_n 0, 1) := by decide +kernel
theorem dX8_init_122 : decode cX8_init 122 = .ok (.new 62, 3) := by decide +kernel
theorem dX8_init_125 : decode cX8_init 125 = .ok (.dup, 1) := by decide +kernel
theorem dX8_init_126 : decode cX8_init 126 = .ok (.aload_n 0, 1) := by decide +kernel
theorem dX8_init_127 : decode cX8_init 127 = .ok (.getfield 26, 3) := by decide +kernel
theorem dX8_init_130 : decode cX8_init 130 = .ok (.invokespecial 64, 3) := by decide +kernel
theorem dX8_init_133 : decode cX8_init 133 = .ok (.putfield 65, 3) := by decide +kernel
theorem dX8_init_136 : decode cX8_init 136 = .ok (.aload_n 0, 1) := by decide +kernel
theorem dX8_init_137 : decode cX8_init 137 = .ok (.iconst 0, 1) := by decide +kernel
theorem dX8_init_138 : decode cX8_init 138 = .ok (.putfield 69, 3) := by decide +kernel
theorem dX8_init_141 : decode cX8_init 141 = .ok (.return_, 1) := by decide +kernel
theorem dX8_row_0 : decode cX8_row 0 = .ok (.iload_n 1, 1) := by decide +kernel
theorem dX8_row_1 : decode cX8_row 1 = .ok (.invokestatic 73, 3) := by decide +kernel
theorem dX8_row_4 : decode cX8_row 4 = .ok (.ifCond .eq 18, 3) := by decide +kernel
theorem dX8_row_7 : decode cX8_row 7 = .ok (.iload_n 2, 1) := by decide +kernel
theorem dX8_row_8 : decode cX8_row 8 = .ok (.ifCond .lt 14, 3) := by decide +kernel
theorem dX8_row_11 : decode cX8_row 11 = .ok (.iload_n 2, 1) := by decide +kernel
theorem dX8_row_12 : decode cX8_row 12 = .ok (.iconst 3, 1) := by decide +kernel
theorem dX8_row_13 : decode cX8_row 13 = .ok (.if_icmp .ge 9, 3) := by decide +kernel
theorem dX8_row_16 : decode cX8_row 16 = .ok (.iload_n 3, 1) := by decide +kernel
theorem dX8_row_17 : decode cX8_row 17 = .ok (.bipush 40, 2) := by decide +kernel
theorem dX8_row_19 : decode cX8_row 19 = .ok (.if_icmp .le 6, 3) := by decide +kernel
theorem dX8_row_22 : decode cX8_row 22 = .ok (.ldc 77, 2) := by decide +kernel
theorem dX8_row_24 : decode cX8_row 24 = .ok (.ireturn, 1) := by decide +kernel
theorem dX8_row_25 : decode cX8_row 25 = .ok (.iload_n 3, 1) := by decide +kernel
theorem dX8_row_26 : decode cX8_row 26 = .ok (.ifCond .ge 9, 3) := by decide +kernel
theorem dX8_row_29 : decode cX8_row 29 = .ok (.aload_n 0, 1) := by decide +kernel
theorem dX8_row_30 : decode cX8_row 30 = .ok (.iconst 4, 1) := by decide +kernel
theorem dX8_row_31 : decode cX8_row 31 = .ok (.invokevirtual 78, 3) := by decide +kernel
theorem dX8_row_34 : decode cX8_row 34 = .ok (.ireturn, 1) := by decide +kernel
theorem dX8_row_35 : decode cX8_row 35 = .ok (.aload_n 0, 1) := by decide +kernel
theorem dX8_row_36 : decode cX8_row 36 = .ok (.getfield 10, 3) := by decide +kernel
theorem dX8_row_39 : decode cX8_row 39 = .ok (.iload_n 1, 1) := by decide +kernel
theorem dX8_row_40 : decode cX8_row 40 = .ok (.iload_n 2, 1) := by decide +kernel
theorem dX8_row_41 : decode cX8_row 41 = .ok (.iload_n 3, 1) := by decide +kernel
theorem dX8_row_42 : decode cX8_row 42 = .ok (.invokevirtual 82, 3) := by decide +kernel
theorem dX8_row_45 : decode cX8_row 45 = .ok (.aload_n 0, 1) := by decide +kernel
theorem dX8_row_46 : decode cX8_row 46 = .ok (.iload_n 3, 1) := by decide +kernel
theorem dX8_row_47 : decode cX8_row 47 = .ok (.invokevirtual 86, 3) := by decide +kernel
theorem dX8_row_50 : decode cX8_row 50 = .ok (.ireturn, 1) := by decide +kernel
theorem dX8_set_0 : decode cX8_set 0 = .ok (.iload_n 1, 1) := by decide +kernel
theorem dX8_set_1 : decode cX8_set 1 = .ok (.invokestatic 73, 3) := by decide +kernel
theorem dX8_set_4 : decode cX8_set 4 = .ok (.ifCond .ne 6, 3) := by decide +kernel
theorem dX8_set_7 : decode cX8_set 7 = .ok (.ldc 77, 2) := by decide +kernel
theorem dX8_set_9 : decode cX8_set 9 = .ok (.ireturn, 1) := by decide +kernel
theorem dX8_set_10 : decode cX8_set 10 = .ok (.aload_n 0, 1) := by decide +kernel
theorem dX8_set_11 : decode cX8_set 11 = .ok (.getfield 10, 3) := by decide +kernel
theorem dX8_set_14 : decode cX8_set 14 = .ok (.iload_n 1, 1) := by decide +kernel
theorem dX8_set_15 : decode cX8_set 15 = .ok (.invokevirtual 89, 3) := by decide +kernel
theorem dX8_set_18 : decode cX8_set 18 = .ok (.ifCond .eq 9, 3) := by decide +kernel
theorem dX8_set_21 : decode cX8_set 21 = .ok (.aload_n 0, 1) := by decide +kernel
theorem dX8_set_22 : decode cX8_set 22 = .ok (.iconst 1, 1) := by decide +kernel
theorem dX8_set_23 : decode cX8_set 23 = .ok (.invokevirtual 78, 3) := by decide +kernel
theorem dX8_set_26 : decode cX8_set 26 = .ok (.ireturn, 1) := by decide +kernel
theorem dX8_set_27 : decode cX8_set 27 = .ok (.aload_n 0, 1) := by decide +kernel
theorem dX8_set_28 : decode cX8_set 28 = .ok (.getfield 10, 3) := by decide +kernel
theorem dX8_set_31 : decode cX8_set 31 = .ok (.iload_n 1, 1) := by decide +kernel
theorem dX8_set_32 : decode cX8_set 32 = .ok (.iload_n 2, 1) := by decide +kernel
theorem dX8_set_33 : decode cX8_set 33 = .ok (.iconst 1, 1) := by decide +kernel
theorem dX8_set_34 : decode cX8_set 34 = .ok (.invokevirtual 92, 3) := by decide +kernel
theorem dX8_set_37 : decode cX8_set 37 = .ok (.ifCond .ne 9, 3) := by decide +kernel
theorem dX8_set_40 : decode cX8_set 40 = .ok (.aload_n 0, 1) := by decide +kernel
theorem dX8_set_41 : decode cX8_set 41 = .ok (.iconst 2, 1) := by decide +kernel
theorem dX8_set_42 : decode cX8_set 42 = .ok (.invokevirtual 78, 3) := by decide +kernel
theorem dX8_set_45 : decode cX8_set 45 = .ok (.ireturn, 1) := by decide +kernel
theorem dX8_set_46 : decode cX8_set 46 = .ok (.aload_n 0, 1) := by decide +kernel
theorem dX8_set_47 : decode cX8_set 47 = .ok (.aload_n 0, 1) := by decide +kernel
theorem dX8_set_48 : decode cX8_set 48 = .ok (.getfield 10, 3) := by decide +kernel
theorem dX8_set_51 : decode cX8_set 51 = .ok (.iload_n 1, 1) := by decide +kernel
theorem dX8_set_52 : decode cX8_set 52 = .ok (.iload_n 2, 1) := by decide +kernel
theorem dX8_set_53 : decode cX8_set 53 = .ok (.iload_n 3, 1) := by decide +kernel
theorem dX8_set_54 : decode cX8_set 54 = .ok (.invokevirtual 96, 3) := by decide +kernel
theorem dX8_set_57 : decode cX8_set 57 = .ok (.invokevirtual 86, 3) := by decide +kernel
theorem dX8_set_60 : decode cX8_set 60 = .ok (.ireturn, 1) := by decide +kernel
theorem dX8_copy_0 : decode cX8_copy 0 = .ok (.iload_n 1, 1) := by decide +kernel
theorem dX8_copy_1 : decode cX8_copy 1 = .ok (.invokestatic 73, 3) := by decide +kernel
theorem dX8_copy_4 : decode cX8_copy 4 = .ok (.ifCond .eq 10, 3) := by decide +kernel
theorem dX8_copy_7 : decode cX8_copy 7 = .ok (.iload_n 3, 1) := by decide +kernel
theorem dX8_copy_8 : decode cX8_copy 8 = .ok (.invokestatic 73, 3) := by decide +kernel
theorem dX8_copy_11 : decode cX8_copy 11 = .ok (.ifCond .ne 6, 3) := by decide +kernel
theorem dX8_copy_14 : decode cX8_copy 14 = .ok (.ldc 77, 2) := by decide +kernel
theorem dX8_copy_16 : decode cX8_copy 16 = .ok (.ireturn, 1) := by decide +kernel
theorem dX8_copy_17 : decode cX8_copy 17 = .ok (.aload_n 0, 1) := by decide +kernel
theorem dX8_copy_18 : decode cX8_copy 18 = .ok (.getfield 10, 3) := by decide +kernel
theorem dX8_copy_21 : decode cX8_copy 21 = .ok (.iload_n 1, 1) := by decide +kernel
theorem dX8_copy_22 : decode cX8_copy 22 = .ok (.invokevirtual 89, 3) := by decide +kernel
theorem dX8_copy_25 : decode cX8_copy 25 = .ok (.ifCond .ne 14, 3) := by decide +kernel
theorem dX8_copy_28 : decode cX8_copy 28 = .ok (.aload_n 0, 1) := by decide +kernel
theorem dX8_copy_29 : decode cX8_copy 29 = .ok (.getfield 10, 3) := by decide +kernel
theorem dX8_copy_32 : decode cX8_copy 32 = .ok (.iload_n 3, 1) := by decide +kernel
theorem dX8_copy_33 : decode cX8_copy 33 = .ok (.invokevirtual 89, 3) := by decide +kernel
theorem dX8_copy_36 : decode cX8_copy 36 = .ok (.ifCond .eq 9, 3) := by decide +kernel
theorem dX8_copy_39 : decode cX8_copy 39 = .ok (.aload_n 0, 1) := by decide +kernel
theorem dX8_copy_40 : decode cX8_copy 40 = .ok (.iconst 1, 1) := by decide +kernel
theorem dX8_copy_41 : decode cX8_copy 41 = .ok (.invokevirtual 78, 3) := by decide +kernel
theorem dX8_copy_44 : decode cX8_copy 44 = .ok (.ireturn, 1) := by decide +kernel
theorem dX8_copy_45 : decode cX8_copy 45 = .ok (.aload_n 0, 1) := by decide +kernel
theorem dX8_copy_46 : decode cX8_copy 46 = .ok (.getfield 10, 3) := by decide +kernel
theorem dX8_copy_49 : decode cX8_copy 49 = .ok (.getfield 100, 3) := by decide +kernel
theorem dX8_copy_52 : decode cX8_copy 52 = .ok (.iload_n 1, 1) := by decide +kernel
theorem dX8_copy_53 : decode cX8_copy 53 = .ok (.iaload, 1) := by decide +kernel
theorem dX8_copy_54 : decode cX8_copy 54 = .ok (.aload_n 0, 1) := by decide +kernel
theorem dX8_copy_55 : decode cX8_copy 55 = .ok (.getfield 10, 3) := by decide +kernel
theorem dX8_copy_58 : decode cX8_copy 58 = .ok (.getfield 100, 3) := by decide +kernel
theorem dX8_copy_61 : decode cX8_copy 61 = .ok (.iload_n 3, 1) := by decide +kernel
theorem dX8_copy_62 : decode cX8_copy 62 = .ok (.iaload, 1) := by decide +kernel
theorem dX8_copy_63 : decode cX8_copy 63 = .ok (.if_icmp .eq 9, 3) := by decide +kernel
theorem dX8_copy_66 : decode cX8_copy 66 = .ok (.aload_n 0, 1) := by decide +kernel
theorem dX8_copy_67 : decode cX8_copy 67 = .ok (.iconst 5, 1) := by decide +kernel
theorem dX8_copy_68 : decode cX8_copy 68 = .ok (.invokevirtual 78, 3) := by decide +kernel
theorem dX8_copy_71 : decode cX8_copy 71 = .ok (.ireturn, 1) := by decide +kernel
theorem dX8_copy_72 : decode cX8_copy 72 = .ok (.aload_n 0, 1) := by decide +kernel
theorem dX8_copy_73 : decode cX8_copy 73 = .ok (.getfield 10, 3) := by decide +kernel
theorem dX8_copy_76 : decode cX8_copy 76 = .ok (.iload_n 1, 1) := by decide +kernel
theorem dX8_copy_77 : decode cX8_copy 77 = .ok (.iload_n 2, 1) := by decide +kernel
theorem dX8_copy_78 : decode cX8_copy 78 = .ok (.iload 5, 2) := by decide +kernel
theorem dX8_copy_80 : decode cX8_copy 80 = .ok (.invokevirtual 92, 3) := by decide +kernel
theorem dX8_copy_83 : decode cX8_copy 83 = .ok (.ifCond .eq 18, 3) := by decide +kernel
theorem dX8_copy_86 : decode cX8_copy 86 = .ok (.aload_n 0, 1) := by decide +kernel
theorem dX8_copy_87 : decode cX8_copy 87 = .ok (.getfield 10, 3) := by decide +kernel
theorem dX8_copy_90 : decode cX8_copy 90 = .ok (.iload_n 3, 1) := by decide +kernel
theorem dX8_copy_91 : decode cX8_copy 91 = .ok (.iload 4, 2) := by decide +kernel
theorem dX8_copy_93 : decode cX8_copy 93 = .ok (.iload 5, 2) := by decide +kernel
theorem dX8_copy_95 : decode cX8_copy 95 = .ok (.invokevirtual 92, 3) := by decide +kernel
theorem dX8_copy_98 : decode cX8_copy 98 = .ok (.ifCond .ne 9, 3) := by decide +kernel
theorem dX8_copy_101 : decode cX8_copy 101 = .ok (.aload_n 0, 1) := by decide +kernel
theorem dX8_copy_102 : decode cX8_copy 102 = .ok (.iconst 2, 1) := by decide +kernel
theorem dX8_copy_103 : decode cX8_copy 103 = .ok (.invokevirtual 78, 3) := by decide +kernel
theorem dX8_copy_106 : decode cX8_copy 106 = .ok (.ireturn, 1) := by decide +kernel
theorem dX8_copy_107 : decode cX8_copy 107 = .ok (.aload_n 0, 1) := by decide +kernel
theorem dX8_copy_108 : decode cX8_copy 108 = .ok (.getfield 10, 3) := by decide +kernel
theorem dX8_copy_111 : decode cX8_copy 111 = .ok (.getfield 104, 3) := by decide +kernel
theorem dX8_copy_114 : decode cX8_copy 114 = .ok (.iload_n 1, 1) := by decide +kernel
theorem dX8_copy_115 : decode cX8_copy 115 = .ok (.aaload, 1) := by decide +kernel
theorem dX8_copy_116 : decode cX8_copy 116 = .ok (.iload_n 2, 1) := by decide +kernel
theorem dX8_copy_117 : decode cX8_copy 117 = .ok (.aload_n 0, 1) := by decide +kernel
theorem dX8_copy_118 : decode cX8_copy 118 = .ok (.getfield 10, 3) := by decide +kernel
theorem dX8_copy_121 : decode cX8_copy 121 = .ok (.getfield 104, 3) := by decide +kernel
theorem dX8_copy_124 : decode cX8_copy 124 = .ok (.iload_n 3, 1) := by decide +kernel
theorem dX8_copy_125 : decode cX8_copy 125 = .ok (.aaload, 1) := by decide +kernel
theorem dX8_copy_126 : decode cX8_copy 126 = .ok (.iload 4, 2) := by decide +kernel
theorem dX8_copy_128 : decode cX8_copy 128 = .ok (.iload 5, 2) := by decide +kernel
theorem dX8_copy_130 : decode cX8_copy 130 = .ok (.invokestatic 108, 3) := by decide +kernel
theorem dX8_copy_133 : decode cX8_copy 133 = .ok (.aload_n 0, 1) := by decide +kernel
theorem dX8_copy_134 : decode cX8_copy 134 = .ok (.iload 5, 2) := by decide +kernel
theorem dX8_copy_136 : decode cX8_copy 136 = .ok (.invokevirtual 86, 3) := by decide +kernel
theorem dX8_copy_139 : decode cX8_copy 139 = .ok (.ireturn, 1) := by decide +kernel
theorem dX8_drop_0 : decode cX8_drop 0 = .ok (.iload_n 1, 1) := by decide +kernel
theorem dX8_drop_1 : decode cX8_drop 1 = .ok (.invokestatic 73, 3) := by decide +kernel
theorem dX8_drop_4 : decode cX8_drop 4 = .ok (.ifCond .ne 6, 3) := by decide +kernel
theorem dX8_drop_7 : decode cX8_drop 7 = .ok (.ldc 77, 2) := by decide +kernel
theorem dX8_drop_9 : decode cX8_drop 9 = .ok (.ireturn, 1) := by decide +kernel
theorem dX8_drop_10 : decode cX8_drop 10 = .ok (.aload_n 0, 1) := by decide +kernel
theorem dX8_drop_11 : decode cX8_drop 11 = .ok (.getfield 10, 3) := by decide +kernel
theorem dX8_drop_14 : decode cX8_drop 14 = .ok (.iload_n 1, 1) := by decide +kernel
theorem dX8_drop_15 : decode cX8_drop 15 = .ok (.invokevirtual 89, 3) := by decide +kernel
theorem dX8_drop_18 : decode cX8_drop 18 = .ok (.ifCond .eq 9, 3) := by decide +kernel
theorem dX8_drop_21 : decode cX8_drop 21 = .ok (.aload_n 0, 1) := by decide +kernel
theorem dX8_drop_22 : decode cX8_drop 22 = .ok (.iconst 1, 1) := by decide +kernel
theorem dX8_drop_23 : decode cX8_drop 23 = .ok (.invokevirtual 78, 3) := by decide +kernel
theorem dX8_drop_26 : decode cX8_drop 26 = .ok (.ireturn, 1) := by decide +kernel
theorem dX8_drop_27 : decode cX8_drop 27 = .ok (.aload_n 0, 1) := by decide +kernel
theorem dX8_drop_28 : decode cX8_drop 28 = .ok (.aload_n 0, 1) := by decide +kernel
theorem dX8_drop_29 : decode cX8_drop 29 = .ok (.getfield 10, 3) := by decide +kernel
theorem dX8_drop_32 : decode cX8_drop 32 = .ok (.iload_n 1, 1) := by decide +kernel
theorem dX8_drop_33 : decode cX8_drop 33 = .ok (.invokevirtual 114, 3) := by decide +kernel
theorem dX8_drop_36 : decode cX8_drop 36 = .ok (.invokevirtual 86, 3) := by decide +kernel
theorem dX8_drop_39 : decode cX8_drop 39 = .ok (.ireturn, 1) := by decide +kernel
theorem dX8_feed_0 : decode cX8_feed 0 = .ok (.iload_n 1, 1) := by decide +kernel
theorem dX8_feed_1 : decode cX8_feed 1 = .ok (.ifCond .lt 10, 3) := by decide +kernel
theorem dX8_feed_4 : decode cX8_feed 4 = .ok (.iload_n 1, 1) := by decide +kernel
theorem dX8_feed_5 : decode cX8_feed 5 = .ok (.sipush 255, 3) := by decide +kernel
theorem dX8_feed_8 : decode cX8_feed 8 = .ok (.if_icmp .le 6, 3) := by decide +kernel
theorem dX8_feed_11 : decode cX8_feed 11 = .ok (.ldc 77, 2) := by decide +kernel
theorem dX8_feed_13 : decode cX8_feed 13 = .ok (.ireturn, 1) := by decide +kernel
theorem dX8_feed_14 : decode cX8_feed 14 = .ok (.aload_n 0, 1) := by decide +kernel
theorem dX8_feed_15 : decode cX8_feed 15 = .ok (.getfield 19, 3) := by decide +kernel
theorem dX8_feed_18 : decode cX8_feed 18 = .ok (.getfield 117, 3) := by decide +kernel
theorem dX8_feed_21 : decode cX8_feed 21 = .ok (.bipush 120, 2) := by decide +kernel
theorem dX8_feed_23 : decode cX8_feed 23 = .ok (.if_icmp .lt 6, 3) := by decide +kernel
theorem dX8_feed_26 : decode cX8_feed 26 = .ok (.ldc 120, 2) := by decide +kernel
theorem dX8_feed_28 : decode cX8_feed 28 = .ok (.ireturn, 1) := by decide +kernel
theorem dX8_feed_29 : decode cX8_feed 29 = .ok (.aload_n 0, 1) := by decide +kernel
theorem dX8_feed_30 : decode cX8_feed 30 = .ok (.getfield 19, 3) := by decide +kernel
theorem dX8_feed_33 : decode cX8_feed 33 = .ok (.iload_n 1, 1) := by decide +kernel
theorem dX8_feed_34 : decode cX8_feed 34 = .ok (.invokevirtual 121, 3) := by decide +kernel
theorem dX8_feed_37 : decode cX8_feed 37 = .ok (.ireturn, 1) := by decide +kernel
theorem dX8_town_0 : decode cX8_town 0 = .ok (.aload_n 0, 1) := by decide +kernel
theorem dX8_town_1 : decode cX8_town 1 = .ok (.getfield 19, 3) := by decide +kernel
theorem dX8_town_4 : decode cX8_town 4 = .ok (.aload_n 0, 1) := by decide +kernel
theorem dX8_town_5 : decode cX8_town 5 = .ok (.getfield 30, 3) := by decide +kernel
theorem dX8_town_8 : decode cX8_town 8 = .ok (.invokevirtual 124, 3) := by decide +kernel
theorem dX8_town_11 : decode cX8_town 11 = .ok (.istore_n 1, 1) := by decide +kernel
theorem dX8_town_12 : decode cX8_town 12 = .ok (.aload_n 0, 1) := by decide +kernel
theorem dX8_town_13 : decode cX8_town 13 = .ok (.getfield 19, 3) := by decide +kernel
theorem dX8_town_16 : decode cX8_town 16 = .ok (.iconst 0, 1) := by decide +kernel
theorem dX8_town_17 : decode cX8_town 17 = .ok (.putfield 117, 3) := by decide +kernel
theorem dX8_town_20 : decode cX8_town 20 = .ok (.iload_n 1, 1) := by decide +kernel
theorem dX8_town_21 : decode cX8_town 21 = .ok (.ifCond .ne 14, 3) := by decide +kernel
theorem dX8_town_24 : decode cX8_town 24 = .ok (.ldc 128, 2) := by decide +kernel
theorem dX8_town_26 : decode cX8_town 26 = .ok (.aload_n 0, 1) := by decide +kernel
theorem dX8_town_27 : decode cX8_town 27 = .ok (.getfield 19, 3) := by decide +kernel
theorem dX8_town_30 : decode cX8_town 30 = .ok (.getfield 129, 3) := by decide +kernel
theorem dX8_town_33 : decode cX8_town 33 = .ok (.isub, 1) := by decide +kernel
theorem dX8_town_34 : decode cX8_town 34 = .ok (.ireturn, 1) := by decide +kernel
theorem dX8_town_35 : decode cX8_town 35 = .ok (.aload_n 0, 1) := by decide +kernel
theorem dX8_town_36 : decode cX8_town 36 = .ok (.getfield 26, 3) := by decide +kernel
theorem dX8_town_39 : decode cX8_town 39 = .ok (.aload_n 0, 1) := by decide +kernel
theorem dX8_town_40 : decode cX8_town 40 = .ok (.getfield 30, 3) := by decide +kernel
theorem dX8_town_43 : decode cX8_town 43 = .ok (.invokevirtual 132, 3) := by decide +kernel
theorem dX8_town_46 : decode cX8_town 46 = .ok (.aload_n 0, 1) := by decide +kernel
theorem dX8_town_47 : decode cX8_town 47 = .ok (.getfield 40, 3) := by decide +kernel
theorem dX8_town_50 : decode cX8_town 50 = .ok (.invokevirtual 135, 3) := by decide +kernel
theorem dX8_town_53 : decode cX8_town 53 = .ok (.aload_n 0, 1) := by decide +kernel
theorem dX8_town_54 : decode cX8_town 54 = .ok (.getfield 26, 3) := by decide +kernel
theorem dX8_town_57 : decode cX8_town 57 = .ok (.getfield 138, 3) := by decide +kernel
theorem dX8_town_60 : decode cX8_town 60 = .ok (.ireturn, 1) := by decide +kernel
theorem dX8_fault_0 : decode cX8_fault 0 = .ok (.aload_n 0, 1) := by decide +kernel
theorem dX8_fault_1 : decode cX8_fault 1 = .ok (.getfield 19, 3) := by decide +kernel
theorem dX8_fault_4 : decode cX8_fault 4 = .ok (.getfield 141, 3) := by decide +kernel
theorem dX8_fault_7 : decode cX8_fault 7 = .ok (.ireturn, 1) := by decide +kernel
theorem dX8_undo_0 : decode cX8_undo 0 = .ok (.aload_n 0, 1) := by decide +kernel
theorem dX8_undo_1 : decode cX8_undo 1 = .ok (.getfield 40, 3) := by decide +kernel
theorem dX8_undo_4 : decode cX8_undo 4 = .ok (.getfield 144, 3) := by decide +kernel
theorem dX8_undo_7 : decode cX8_undo 7 = .ok (.ifCond .ne 6, 3) := by decide +kernel
theorem dX8_undo_10 : decode cX8_undo 10 = .ok (.ldc 147, 2) := by decide +kernel
theorem dX8_undo_12 : decode cX8_undo 12 = .ok (.ireturn, 1) := by decide +kernel
theorem dX8_undo_13 : decode cX8_undo 13 = .ok (.aload_n 0, 1) := by decide +kernel
theorem dX8_undo_14 : decode cX8_undo 14 = .ok (.getfield 40, 3) := by decide +kernel
theorem dX8_undo_17 : decode cX8_undo 17 = .ok (.aload_n 0, 1) := by decide +kernel
theorem dX8_undo_18 : decode cX8_undo 18 = .ok (.getfield 26, 3) := by decide +kernel
theorem dX8_undo_21 : decode cX8_undo 21 = .ok (.getfield 148, 3) := by decide +kernel
theorem dX8_undo_24 : decode cX8_undo 24 = .ok (.invokevirtual 152, 3) := by decide +kernel
theorem dX8_undo_27 : decode cX8_undo 27 = .ok (.aload_n 0, 1) := by decide +kernel
theorem dX8_undo_28 : decode cX8_undo 28 = .ok (.getfield 40, 3) := by decide +kernel
theorem dX8_undo_31 : decode cX8_undo 31 = .ok (.getfield 144, 3) := by decide +kernel
theorem dX8_undo_34 : decode cX8_undo 34 = .ok (.ireturn, 1) := by decide +kernel
theorem dX8_brew_0 : decode cX8_brew 0 = .ok (.aload_n 0, 1) := by decide +kernel
theorem dX8_brew_1 : decode cX8_brew 1 = .ok (.iload_n 1, 1) := by decide +kernel
theorem dX8_brew_2 : decode cX8_brew 2 = .ok (.invokevirtual 156, 3) := by decide +kernel
theorem dX8_brew_5 : decode cX8_brew 5 = .ok (.ifCond .eq 13, 3) := by decide +kernel
theorem dX8_brew_8 : decode cX8_brew 8 = .ok (.iload_n 2, 1) := by decide +kernel
theorem dX8_brew_9 : decode cX8_brew 9 = .ok (.ifCond .lt 9, 3) := by decide +kernel
theorem dX8_brew_12 : decode cX8_brew 12 = .ok (.iload_n 2, 1) := by decide +kernel
theorem dX8_brew_13 : decode cX8_brew 13 = .ok (.bipush 20, 2) := by decide +kernel
theorem dX8_brew_15 : decode cX8_brew 15 = .ok (.if_icmp .le 6, 3) := by decide +kernel
theorem dX8_brew_18 : decode cX8_brew 18 = .ok (.ldc 77, 2) := by decide +kernel
theorem dX8_brew_20 : decode cX8_brew 20 = .ok (.ireturn, 1) := by decide +kernel
theorem dX8_brew_21 : decode cX8_brew 21 = .ok (.aload_n 0, 1) := by decide +kernel
theorem dX8_brew_22 : decode cX8_brew 22 = .ok (.getfield 26, 3) := by decide +kernel
theorem dX8_brew_25 : decode cX8_brew 25 = .ok (.getfield 148, 3) := by decide +kernel
theorem dX8_brew_28 : decode cX8_brew 28 = .ok (.invokevirtual 159, 3) := by decide +kernel
theorem dX8_brew_31 : decode cX8_brew 31 = .ok (.istore_n 3, 1) := by decide +kernel
theorem dX8_brew_32 : decode cX8_brew 32 = .ok (.iload_n 3, 1) := by decide +kernel
theorem dX8_brew_33 : decode cX8_brew 33 = .ok (.ldc 165, 2) := by decide +kernel
theorem dX8_brew_35 : decode cX8_brew 35 = .ok (.if_icmp .ne 6, 3) := by decide +kernel
theorem dX8_brew_38 : decode cX8_brew 38 = .ok (.ldc 120, 2) := by decide +kernel
theorem dX8_brew_40 : decode cX8_brew 40 = .ok (.ireturn, 1) := by decide +kernel
theorem dX8_brew_41 : decode cX8_brew 41 = .ok (.aload_n 0, 1) := by decide +kernel
theorem dX8_brew_42 : decode cX8_brew 42 = .ok (.getfield 40, 3) := by decide +kernel
theorem dX8_brew_45 : decode cX8_brew 45 = .ok (.aload_n 0, 1) := by decide +kernel
theorem dX8_brew_46 : decode cX8_brew 46 = .ok (.getfield 26, 3) := by decide +kernel
theorem dX8_brew_49 : decode cX8_brew 49 = .ok (.getfield 148, 3) := by decide +kernel
theorem dX8_brew_52 : decode cX8_brew 52 = .ok (.invokevirtual 166, 3) := by decide +kernel
theorem dX8_brew_55 : decode cX8_brew 55 = .ok (.aload_n 0, 1) := by decide +kernel
theorem dX8_brew_56 : decode cX8_brew 56 = .ok (.getfield 26, 3) := by decide +kernel
theorem dX8_brew_59 : decode cX8_brew 59 = .ok (.getfield 148, 3) := by decide +kernel
theorem dX8_brew_62 : decode cX8_brew 62 = .ok (.iload_n 3, 1) := by decide +kernel
theorem dX8_brew_63 : decode cX8_brew 63 = .ok (.iload_n 1, 1) := by decide +kernel
theorem dX8_brew_64 : decode cX8_brew 64 = .ok (.iload_n 2, 1) := by decide +kernel
theorem dX8_brew_65 : decode cX8_brew 65 = .ok (.invokevirtual 169, 3) := by decide +kernel
theorem dX8_brew_68 : decode cX8_brew 68 = .ok (.iload_n 3, 1) := by decide +kernel
theorem dX8_brew_69 : decode cX8_brew 69 = .ok (.ireturn, 1) := by decide +kernel
theorem dX8_days_0 : decode cX8_days 0 = .ok (.aload_n 0, 1) := by decide +kernel
theorem dX8_days_1 : decode cX8_days 1 = .ok (.invokevirtual 172, 3) := by decide +kernel
theorem dX8_days_4 : decode cX8_days 4 = .ok (.ifCond .ne 6, 3) := by decide +kernel
theorem dX8_days_7 : decode cX8_days 7 = .ok (.ldc 147, 2) := by decide +kernel
theorem dX8_days_9 : decode cX8_days 9 = .ok (.ireturn, 1) := by decide +kernel
theorem dX8_days_10 : decode cX8_days 10 = .ok (.iload_n 1, 1) := by decide +kernel
theorem dX8_days_11 : decode cX8_days 11 = .ok (.iconst 1, 1) := by decide +kernel
theorem dX8_days_12 : decode cX8_days 12 = .ok (.if_icmp .lt 9, 3) := by decide +kernel
theorem dX8_days_15 : decode cX8_days 15 = .ok (.iload_n 1, 1) := by decide +kernel
theorem dX8_days_16 : decode cX8_days 16 = .ok (.bipush 24, 2) := by decide +kernel
theorem dX8_days_18 : decode cX8_days 18 = .ok (.if_icmp .le 6, 3) := by decide +kernel
theorem dX8_days_21 : decode cX8_days 21 = .ok (.ldc 77, 2) := by decide +kernel
theorem dX8_days_23 : decode cX8_days 23 = .ok (.ireturn, 1) := by decide +kernel
theorem dX8_days_24 : decode cX8_days 24 = .ok (.aload_n 0, 1) := by decide +kernel
theorem dX8_days_25 : decode cX8_days 25 = .ok (.getfield 26, 3) := by decide +kernel
theorem dX8_days_28 : decode cX8_days 28 = .ok (.getfield 148, 3) := by decide +kernel
theorem dX8_days_31 : decode cX8_days 31 = .ok (.invokevirtual 176, 3) := by decide +kernel
theorem dX8_days_34 : decode cX8_days 34 = .ok (.iload_n 1, 1) := by decide +kernel
theorem dX8_days_35 : decode cX8_days 35 = .ok (.iadd, 1) := by decide +kernel
theorem dX8_days_36 : decode cX8_days 36 = .ok (.sipush 999, 3) := by decide +kernel
theorem dX8_days_39 : decode cX8_days 39 = .ok (.if_icmp .le 6, 3) := by decide +kernel
theorem dX8_days_42 : decode cX8_days 42 = .ok (.ldc 120, 2) := by decide +kernel
theorem dX8_days_44 : decode cX8_days 44 = .ok (.ireturn, 1) := by decide +kernel
theorem dX8_days_45 : decode cX8_days 45 = .ok (.iconst 0, 1) := by decide +kernel
theorem dX8_days_46 : decode cX8_days 46 = .ok (.istore_n 2, 1) := by decide +kernel
theorem dX8_days_47 : decode cX8_days 47 = .ok (.iload_n 2, 1) := by decide +kernel
theorem dX8_days_48 : decode cX8_days 48 = .ok (.iload_n 1, 1) := by decide +kernel
theorem dX8_days_49 : decode cX8_days 49 = .ok (.if_icmp .ge 33, 3) := by decide +kernel
theorem dX8_days_52 : decode cX8_days 52 = .ok (.aload_n 0, 1) := by decide +kernel
theorem dX8_days_53 : decode cX8_days 53 = .ok (.getfield 40, 3) := by decide +kernel
theorem dX8_days_56 : decode cX8_days 56 = .ok (.aload_n 0, 1) := by decide +kernel
theorem dX8_days_57 : decode cX8_days 57 = .ok (.getfield 26, 3) := by decide +kernel
theorem dX8_days_60 : decode cX8_days 60 = .ok (.getfield 148, 3) := by decide +kernel
theorem dX8_days_63 : decode cX8_days 63 = .ok (.invokevirtual 166, 3) := by decide +kernel
theorem dX8_days_66 : decode cX8_days 66 = .ok (.aload_n 0, 1) := by decide +kernel
theorem dX8_days_67 : decode cX8_days 67 = .ok (.getfield 26, 3) := by decide +kernel
theorem dX8_days_70 : decode cX8_days 70 = .ok (.getfield 148, 3) := by decide +kernel
theorem dX8_days_73 : decode cX8_days 73 = .ok (.invokevirtual 179, 3) := by decide +kernel
theorem dX8_days_76 : decode cX8_days 76 = .ok (.iinc 2 1, 3) := by decide +kernel
theorem dX8_days_79 : decode cX8_days 79 = .ok (.goto (-32), 3) := by decide +kernel
theorem dX8_days_82 : decode cX8_days 82 = .ok (.aload_n 0, 1) := by decide +kernel
theorem dX8_days_83 : decode cX8_days 83 = .ok (.getfield 26, 3) := by decide +kernel
theorem dX8_days_86 : decode cX8_days 86 = .ok (.invokevirtual 182, 3) := by decide +kernel
theorem dX8_days_89 : decode cX8_days 89 = .ok (.ireturn, 1) := by decide +kernel
theorem dX8_tap_0 : decode cX8_tap 0 = .ok (.iload_n 1, 1) := by decide +kernel
theorem dX8_tap_1 : decode cX8_tap 1 = .ok (.invokestatic 185, 3) := by decide +kernel
theorem dX8_tap_4 : decode cX8_tap 4 = .ok (.ifCond .eq 11, 3) := by decide +kernel
theorem dX8_tap_7 : decode cX8_tap 7 = .ok (.aload_n 0, 1) := by decide +kernel
theorem dX8_tap_8 : decode cX8_tap 8 = .ok (.iload_n 2, 1) := by decide +kernel
theorem dX8_tap_9 : decode cX8_tap 9 = .ok (.invokevirtual 156, 3) := by decide +kernel
theorem dX8_tap_12 : decode cX8_tap 12 = .ok (.ifCond .ne 6, 3) := by decide +kernel
theorem dX8_tap_15 : decode cX8_tap 15 = .ok (.ldc 77, 2) := by decide +kernel
theorem dX8_tap_17 : decode cX8_tap 17 = .ok (.ireturn, 1) := by decide +kernel
theorem dX8_tap_18 : decode cX8_tap 18 = .ok (.aload_n 0, 1) := by decide +kernel
theorem dX8_tap_19 : decode cX8_tap 19 = .ok (.getfield 26, 3) := by decide +kernel
theorem dX8_tap_22 : decode cX8_tap 22 = .ok (.getfield 148, 3) := by decide +kernel
theorem dX8_tap_25 : decode cX8_tap 25 = .ok (.iload_n 1, 1) := by decide +kernel
theorem dX8_tap_26 : decode cX8_tap 26 = .ok (.invokevirtual 188, 3) := by decide +kernel
theorem dX8_tap_29 : decode cX8_tap 29 = .ok (.ifCond .eq 6, 3) := by decide +kernel
theorem dX8_tap_32 : decode cX8_tap 32 = .ok (.ldc 147, 2) := by decide +kernel
theorem dX8_tap_34 : decode cX8_tap 34 = .ok (.ireturn, 1) := by decide +kernel
theorem dX8_tap_35 : decode cX8_tap 35 = .ok (.aload_n 0, 1) := by decide +kernel
theorem dX8_tap_36 : decode cX8_tap 36 = .ok (.getfield 40, 3) := by decide +kernel
theorem dX8_tap_39 : decode cX8_tap 39 = .ok (.aload_n 0, 1) := by decide +kernel
theorem dX8_tap_40 : decode cX8_tap 40 = .ok (.getfield 26, 3) := by decide +kernel
theorem dX8_tap_43 : decode cX8_tap 43 = .ok (.getfield 148, 3) := by decide +kernel
theorem dX8_tap_46 : decode cX8_tap 46 = .ok (.invokevirtual 166, 3) := by decide +kernel
theorem dX8_tap_49 : decode cX8_tap 49 = .ok (.aload_n 0, 1) := by decide +kernel
theorem dX8_tap_50 : decode cX8_tap 50 = .ok (.getfield 49, 3) := by decide +kernel
theorem dX8_tap_53 : decode cX8_tap 53 = .ok (.aload_n 0, 1) := by decide +kernel
theorem dX8_tap_54 : decode cX8_tap 54 = .ok (.getfield 26, 3) := by decide +kernel
theorem dX8_tap_57 : decode cX8_tap 57 = .ok (.getfield 148, 3) := by decide +kernel
theorem dX8_tap_60 : decode cX8_tap 60 = .ok (.iload_n 1, 1) := by decide +kernel
theorem dX8_tap_61 : decode cX8_tap 61 = .ok (.iload_n 2, 1) := by decide +kernel
theorem dX8_tap_62 : decode cX8_tap 62 = .ok (.invokevirtual 189, 3) := by decide +kernel
theorem dX8_tap_65 : decode cX8_tap 65 = .ok (.ireturn, 1) := by decide +kernel
theorem dX8_water_0 : decode cX8_water 0 = .ok (.iload_n 1, 1) := by decide +kernel
theorem dX8_water_1 : decode cX8_water 1 = .ok (.invokestatic 185, 3) := by decide +kernel
theorem dX8_water_4 : decode cX8_water 4 = .ok (.ifCond .ne 6, 3) := by decide +kernel
theorem dX8_water_7 : decode cX8_water 7 = .ok (.ldc 77, 2) := by decide +kernel
theorem dX8_water_9 : decode cX8_water 9 = .ok (.ireturn, 1) := by decide +kernel
theorem dX8_water_10 : decode cX8_water 10 = .ok (.aload_n 0, 1) := by decide +kernel
theorem dX8_water_11 : decode cX8_water 11 = .ok (.getfield 26, 3) := by decide +kernel
theorem dX8_water_14 : decode cX8_water 14 = .ok (.getfield 148, 3) := by decide +kernel
theorem dX8_water_17 : decode cX8_water 17 = .ok (.iload_n 1, 1) := by decide +kernel
theorem dX8_water_18 : decode cX8_water 18 = .ok (.invokevirtual 188, 3) := by decide +kernel
theorem dX8_water_21 : decode cX8_water 21 = .ok (.ifCond .eq 6, 3) := by decide +kernel
theorem dX8_water_24 : decode cX8_water 24 = .ok (.ldc 147, 2) := by decide +kernel
theorem dX8_water_26 : decode cX8_water 26 = .ok (.ireturn, 1) := by decide +kernel
theorem dX8_water_27 : decode cX8_water 27 = .ok (.aload_n 0, 1) := by decide +kernel
theorem dX8_water_28 : decode cX8_water 28 = .ok (.getfield 40, 3) := by decide +kernel
theorem dX8_water_31 : decode cX8_water 31 = .ok (.aload_n 0, 1) := by decide +kernel
theorem dX8_water_32 : decode cX8_water 32 = .ok (.getfield 26, 3) := by decide +kernel
theorem dX8_water_35 : decode cX8_water 35 = .ok (.getfield 148, 3) := by decide +kernel
theorem dX8_water_38 : decode cX8_water 38 = .ok (.invokevirtual 166, 3) := by decide +kernel
theorem dX8_water_41 : decode cX8_water 41 = .ok (.aload_n 0, 1) := by decide +kernel
theorem dX8_water_42 : decode cX8_water 42 = .ok (.getfield 26, 3) := by decide +kernel
theorem dX8_water_45 : decode cX8_water 45 = .ok (.getfield 148, 3) := by decide +kernel
theorem dX8_water_48 : decode cX8_water 48 = .ok (.iload_n 1, 1) := by decide +kernel
theorem dX8_water_49 : decode cX8_water 49 = .ok (.invokevirtual 193, 3) := by decide +kernel
theorem dX8_water_52 : decode cX8_water 52 = .ok (.iconst 2, 1) := by decide +kernel
theorem dX8_water_53 : decode cX8_water 53 = .ok (.idiv, 1) := by decide +kernel
theorem dX8_water_54 : decode cX8_water 54 = .ok (.istore_n 2, 1) := by decide +kernel
theorem dX8_water_55 : decode cX8_water 55 = .ok (.aload_n 0, 1) := by decide +kernel
theorem dX8_water_56 : decode cX8_water 56 = .ok (.getfield 26, 3) := by decide +kernel
theorem dX8_water_59 : decode cX8_water 59 = .ok (.getfield 148, 3) := by decide +kernel
theorem dX8_water_62 : decode cX8_water 62 = .ok (.iload_n 1, 1) := by decide +kernel
theorem dX8_water_63 : decode cX8_water 63 = .ok (.iload_n 2, 1) := by decide +kernel
theorem dX8_water_64 : decode cX8_water 64 = .ok (.invokevirtual 196, 3) := by decide +kernel
theorem dX8_water_67 : decode cX8_water 67 = .ok (.iload_n 2, 1) := by decide +kernel
theorem dX8_water_68 : decode cX8_water 68 = .ok (.ireturn, 1) := by decide +kernel
theorem dX8_blend_0 : decode cX8_blend 0 = .ok (.iload_n 1, 1) := by decide +kernel
theorem dX8_blend_1 : decode cX8_blend 1 = .ok (.invokestatic 185, 3) := by decide +kernel
theorem dX8_blend_4 : decode cX8_blend 4 = .ok (.ifCond .eq 15, 3) := by decide +kernel
theorem dX8_blend_7 : decode cX8_blend 7 = .ok (.iload_n 2, 1) := by decide +kernel
theorem dX8_blend_8 : decode cX8_blend 8 = .ok (.invokestatic 185, 3) := by decide +kernel
theorem dX8_blend_11 : decode cX8_blend 11 = .ok (.ifCond .eq 8, 3) := by decide +kernel
theorem dX8_blend_14 : decode cX8_blend 14 = .ok (.iload_n 1, 1) := by decide +kernel
theorem dX8_blend_15 : decode cX8_blend 15 = .ok (.iload_n 2, 1) := by decide +kernel
theorem dX8_blend_16 : decode cX8_blend 16 = .ok (.if_icmp .ne 6, 3) := by decide +kernel
theorem dX8_blend_19 : decode cX8_blend 19 = .ok (.ldc 77, 2) := by decide +kernel
theorem dX8_blend_21 : decode cX8_blend 21 = .ok (.ireturn, 1) := by decide +kernel
theorem dX8_blend_22 : decode cX8_blend 22 = .ok (.aload_n 0, 1) := by decide +kernel
theorem dX8_blend_23 : decode cX8_blend 23 = .ok (.getfield 26, 3) := by decide +kernel
theorem dX8_blend_26 : decode cX8_blend 26 = .ok (.getfield 148, 3) := by decide +kernel
theorem dX8_blend_29 : decode cX8_blend 29 = .ok (.iload_n 1, 1) := by decide +kernel
theorem dX8_blend_30 : decode cX8_blend 30 = .ok (.invokevirtual 188, 3) := by decide +kernel
theorem dX8_blend_33 : decode cX8_blend 33 = .ok (.ifCond .ne 17, 3) := by decide +kernel
theorem dX8_blend_36 : decode cX8_blend 36 = .ok (.aload_n 0, 1) := by decide +kernel
theorem dX8_blend_37 : decode cX8_blend 37 = .ok (.getfield 26, 3) := by decide +kernel
theorem dX8_blend_40 : decode cX8_blend 40 = .ok (.getfield 148, 3) := by decide +kernel
theorem dX8_blend_43 : decode cX8_blend 43 = .ok (.iload_n 2, 1) := by decide +kernel
theorem dX8_blend_44 : decode cX8_blend 44 = .ok (.invokevirtual 188, 3) := by decide +kernel
theorem dX8_blend_47 : decode cX8_blend 47 = .ok (.ifCond .eq 6, 3) := by decide +kernel
theorem dX8_blend_50 : decode cX8_blend 50 = .ok (.ldc 147, 2) := by decide +kernel
theorem dX8_blend_52 : decode cX8_blend 52 = .ok (.ireturn, 1) := by decide +kernel
theorem dX8_blend_53 : decode cX8_blend 53 = .ok (.aload_n 0, 1) := by decide +kernel
theorem dX8_blend_54 : decode cX8_blend 54 = .ok (.getfield 40, 3) := by decide +kernel
theorem dX8_blend_57 : decode cX8_blend 57 = .ok (.aload_n 0, 1) := by decide +kernel
theorem dX8_blend_58 : decode cX8_blend 58 = .ok (.getfield 26, 3) := by decide +kernel
theorem dX8_blend_61 : decode cX8_blend 61 = .ok (.getfield 148, 3) := by decide +kernel
theorem dX8_blend_64 : decode cX8_blend 64 = .ok (.invokevirtual 166, 3) := by decide +kernel
theorem dX8_blend_67 : decode cX8_blend 67 = .ok (.aload_n 0, 1) := by decide +kernel
theorem dX8_blend_68 : decode cX8_blend 68 = .ok (.getfield 26, 3) := by decide +kernel
theorem dX8_blend_71 : decode cX8_blend 71 = .ok (.getfield 148, 3) := by decide +kernel
theorem dX8_blend_74 : decode cX8_blend 74 = .ok (.iload_n 1, 1) := by decide +kernel
theorem dX8_blend_75 : decode cX8_blend 75 = .ok (.iload_n 2, 1) := by decide +kernel
theorem dX8_blend_76 : decode cX8_blend 76 = .ok (.invokevirtual 200, 3) := by decide +kernel
theorem dX8_blend_79 : decode cX8_blend 79 = .ok (.istore_n 3, 1) := by decide +kernel
theorem dX8_blend_80 : decode cX8_blend 80 = .ok (.aload_n 0, 1) := by decide +kernel
theorem dX8_blend_81 : decode cX8_blend 81 = .ok (.getfield 26, 3) := by decide +kernel
theorem dX8_blend_84 : decode cX8_blend 84 = .ok (.getfield 148, 3) := by decide +kernel
theorem dX8_blend_87 : decode cX8_blend 87 = .ok (.iload_n 2, 1) := by decide +kernel
theorem dX8_blend_88 : decode cX8_blend 88 = .ok (.iload_n 3, 1) := by decide +kernel
theorem dX8_blend_89 : decode cX8_blend 89 = .ok (.invokevirtual 196, 3) := by decide +kernel
theorem dX8_blend_92 : decode cX8_blend 92 = .ok (.aload_n 0, 1) := by decide +kernel
theorem dX8_blend_93 : decode cX8_blend 93 = .ok (.getfield 26, 3) := by decide +kernel
theorem dX8_blend_96 : decode cX8_blend 96 = .ok (.getfield 148, 3) := by decide +kernel
theorem dX8_blend_99 : decode cX8_blend 99 = .ok (.iload_n 1, 1) := by decide +kernel
theorem dX8_blend_100 : decode cX8_blend 100 = .ok (.invokevirtual 204, 3) := by decide +kernel
theorem dX8_blend_103 : decode cX8_blend 103 = .ok (.iload_n 3, 1) := by decide +kernel
theorem dX8_blend_104 : decode cX8_blend 104 = .ok (.ireturn, 1) := by decide +kernel
theorem dX8_cask_0 : decode cX8_cask 0 = .ok (.iload_n 1, 1) := by decide +kernel
theorem dX8_cask_1 : decode cX8_cask 1 = .ok (.invokestatic 185, 3) := by decide +kernel
theorem dX8_cask_4 : decode cX8_cask 4 = .ok (.ifCond .eq 12, 3) := by decide +kernel
theorem dX8_cask_7 : decode cX8_cask 7 = .ok (.iload_n 2, 1) := by decide +kernel
theorem dX8_cask_8 : decode cX8_cask 8 = .ok (.ifCond .lt 8, 3) := by decide +kernel
theorem dX8_cask_11 : decode cX8_cask 11 = .ok (.iload_n 2, 1) := by decide +kernel
theorem dX8_cask_12 : decode cX8_cask 12 = .ok (.iconst 4, 1) := by decide +kernel
theorem dX8_cask_13 : decode cX8_cask 13 = .ok (.if_icmp .le 6, 3) := by decide +kernel
theorem dX8_cask_16 : decode cX8_cask 16 = .ok (.ldc 77, 2) := by decide +kernel
theorem dX8_cask_18 : decode cX8_cask 18 = .ok (.ireturn, 1) := by decide +kernel
theorem dX8_cask_19 : decode cX8_cask 19 = .ok (.aload_n 0, 1) := by decide +kernel
theorem dX8_cask_20 : decode cX8_cask 20 = .ok (.getfield 26, 3) := by decide +kernel
theorem dX8_cask_23 : decode cX8_cask 23 = .ok (.getfield 148, 3) := by decide +kernel
theorem dX8_cask_26 : decode cX8_cask 26 = .ok (.iload_n 1, 1) := by decide +kernel
theorem dX8_cask_27 : decode cX8_cask 27 = .ok (.invokevirtual 188, 3) := by decide +kernel
theorem dX8_cask_30 : decode cX8_cask 30 = .ok (.ifCond .eq 6, 3) := by decide +kernel
theorem dX8_cask_33 : decode cX8_cask 33 = .ok (.ldc 165, 2) := by decide +kernel
theorem dX8_cask_35 : decode cX8_cask 35 = .ok (.ireturn, 1) := by decide +kernel
theorem dX8_cask_36 : decode cX8_cask 36 = .ok (.iload_n 2, 1) := by decide +kernel
theorem dX8_cask_37 : decode cX8_cask 37 = .ok (.tableswitch 76 0 3 #[31, 43, 55, 67], 31) := by decide +kernel
theorem dX8_cask_68 : decode cX8_cask 68 = .ok (.aload_n 0, 1) := by decide +kernel
theorem dX8_cask_69 : decode cX8_cask 69 = .ok (.getfield 26, 3) := by decide +kernel
theorem dX8_cask_72 : decode cX8_cask 72 = .ok (.getfield 148, 3) := by decide +kernel
theorem dX8_cask_75 : decode cX8_cask 75 = .ok (.iload_n 1, 1) := by decide +kernel
theorem dX8_cask_76 : decode cX8_cask 76 = .ok (.invokevirtual 207, 3) := by decide +kernel
theorem dX8_cask_79 : decode cX8_cask 79 = .ok (.ireturn, 1) := by decide +kernel
theorem dX8_cask_80 : decode cX8_cask 80 = .ok (.aload_n 0, 1) := by decide +kernel
theorem dX8_cask_81 : decode cX8_cask 81 = .ok (.getfield 26, 3) := by decide +kernel
theorem dX8_cask_84 : decode cX8_cask 84 = .ok (.getfield 148, 3) := by decide +kernel
theorem dX8_cask_87 : decode cX8_cask 87 = .ok (.iload_n 1, 1) := by decide +kernel
theorem dX8_cask_88 : decode cX8_cask 88 = .ok (.invokevirtual 193, 3) := by decide +kernel
theorem dX8_cask_91 : decode cX8_cask 91 = .ok (.ireturn, 1) := by decide +kernel
theorem dX8_cask_92 : decode cX8_cask 92 = .ok (.aload_n 0, 1) := by decide +kernel
theorem dX8_cask_93 : decode cX8_cask 93 = .ok (.getfield 26, 3) := by decide +kernel
theorem dX8_cask_96 : decode cX8_cask 96 = .ok (.getfield 148, 3) := by decide +kernel
theorem dX8_cask_99 : decode cX8_cask 99 = .ok (.iload_n 1, 1) := by decide +kernel
theorem dX8_cask_100 : decode cX8_cask 100 = .ok (.invokevirtual 210, 3) := by decide +kernel
theorem dX8_cask_103 : decode cX8_cask 103 = .ok (.ireturn, 1) := by decide +kernel
theorem dX8_cask_104 : decode cX8_cask 104 = .ok (.aload_n 0, 1) := by decide +kernel
theorem dX8_cask_105 : decode cX8_cask 105 = .ok (.getfield 26, 3) := by decide +kernel
theorem dX8_cask_108 : decode cX8_cask 108 = .ok (.iload_n 1, 1) := by decide +kernel
theorem dX8_cask_109 : decode cX8_cask 109 = .ok (.invokevirtual 213, 3) := by decide +kernel
theorem dX8_cask_112 : decode cX8_cask 112 = .ok (.ireturn, 1) := by decide +kernel
theorem dX8_cask_113 : decode cX8_cask 113 = .ok (.aload_n 0, 1) := by decide +kernel
theorem dX8_cask_114 : decode cX8_cask 114 = .ok (.getfield 26, 3) := by decide +kernel
theorem dX8_cask_117 : decode cX8_cask 117 = .ok (.aload_n 0, 1) := by decide +kernel
theorem dX8_cask_118 : decode cX8_cask 118 = .ok (.getfield 26, 3) := by decide +kernel
theorem dX8_cask_121 : decode cX8_cask 121 = .ok (.getfield 148, 3) := by decide +kernel
theorem dX8_cask_124 : decode cX8_cask 124 = .ok (.iload_n 1, 1) := by decide +kernel
theorem dX8_cask_125 : decode cX8_cask 125 = .ok (.invokevirtual 210, 3) := by decide +kernel
theorem dX8_cask_128 : decode cX8_cask 128 = .ok (.invokevirtual 216, 3) := by decide +kernel
theorem dX8_cask_131 : decode cX8_cask 131 = .ok (.ifCond .eq 7, 3) := by decide +kernel
theorem dX8_cask_134 : decode cX8_cask 134 = .ok (.iconst 1, 1) := by decide +kernel
theorem dX8_cask_135 : decode cX8_cask 135 = .ok (.goto 4, 3) := by decide +kernel
theorem dX8_cask_138 : decode cX8_cask 138 = .ok (.iconst 0, 1) := by decide +kernel
theorem dX8_cask_139 : decode cX8_cask 139 = .ok (.ireturn, 1) := by decide +kernel
theorem dX8_drinker_0 : decode cX8_drinker 0 = .ok (.aload_n 0, 1) := by decide +kernel
theorem dX8_drinker_1 : decode cX8_drinker 1 = .ok (.iload_n 1, 1) := by decide +kernel
theorem dX8_drinker_2 : decode cX8_drinker 2 = .ok (.invokevirtual 156, 3) := by decide +kernel
theorem dX8_drinker_5 : decode cX8_drinker 5 = .ok (.ifCond .eq 12, 3) := by decide +kernel
theorem dX8_drinker_8 : decode cX8_drinker 8 = .ok (.iload_n 2, 1) := by decide +kernel
theorem dX8_drinker_9 : decode cX8_drinker 9 = .ok (.ifCond .lt 8, 3) := by decide +kernel
theorem dX8_drinker_12 : decode cX8_drinker 12 = .ok (.iload_n 2, 1) := by decide +kernel
theorem dX8_drinker_13 : decode cX8_drinker 13 = .ok (.iconst 2, 1) := by decide +kernel
theorem dX8_drinker_14 : decode cX8_drinker 14 = .ok (.if_icmp .le 6, 3) := by decide +kernel
theorem dX8_drinker_17 : decode cX8_drinker 17 = .ok (.ldc 77, 2) := by decide +kernel
theorem dX8_drinker_19 : decode cX8_drinker 19 = .ok (.ireturn, 1) := by decide +kernel
theorem dX8_drinker_20 : decode cX8_drinker 20 = .ok (.iload_n 2, 1) := by decide +kernel
theorem dX8_drinker_21 : decode cX8_drinker 21 = .ok (.lookupswitch 47 #[(0, 27), (1, 37)], 27) := by decide +kernel
theorem dX8_drinker_48 : decode cX8_drinker 48 = .ok (.aload_n 0, 1) := by decide +kernel
theorem dX8_drinker_49 : decode cX8_drinker 49 = .ok (.getfield 26, 3) := by decide +kernel
theorem dX8_drinker_52 : decode cX8_drinker 52 = .ok (.getfield 219, 3) := by decide +kernel
theorem dX8_drinker_55 : decode cX8_drinker 55 = .ok (.iload_n 1, 1) := by decide +kernel
theorem dX8_drinker_56 : decode cX8_drinker 56 = .ok (.iaload, 1) := by decide +kernel
theorem dX8_drinker_57 : decode cX8_drinker 57 = .ok (.ireturn, 1) := by decide +kernel
theorem dX8_drinker_58 : decode cX8_drinker 58 = .ok (.aload_n 0, 1) := by decide +kernel
theorem dX8_drinker_59 : decode cX8_drinker 59 = .ok (.getfield 26, 3) := by decide +kernel
theorem dX8_drinker_62 : decode cX8_drinker 62 = .ok (.getfield 222, 3) := by decide +kernel
theorem dX8_drinker_65 : decode cX8_drinker 65 = .ok (.iload_n 1, 1) := by decide +kernel
theorem dX8_drinker_66 : decode cX8_drinker 66 = .ok (.iaload, 1) := by decide +kernel
theorem dX8_drinker_67 : decode cX8_drinker 67 = .ok (.ireturn, 1) := by decide +kernel
theorem dX8_drinker_68 : decode cX8_drinker 68 = .ok (.aload_n 0, 1) := by decide +kernel
theorem dX8_drinker_69 : decode cX8_drinker 69 = .ok (.getfield 26, 3) := by decide +kernel
theorem dX8_drinker_72 : decode cX8_drinker 72 = .ok (.iload_n 1, 1) := by decide +kernel
theorem dX8_drinker_73 : decode cX8_drinker 73 = .ok (.invokevirtual 225, 3) := by decide +kernel
theorem dX8_drinker_76 : decode cX8_drinker 76 = .ok (.ireturn, 1) := by decide +kernel
theorem dX8_rumour_0 : decode cX8_rumour 0 = .ok (.aload_n 0, 1) := by decide +kernel
theorem dX8_rumour_1 : decode cX8_rumour 1 = .ok (.iload_n 1, 1) := by decide +kernel
theorem dX8_rumour_2 : decode cX8_rumour 2 = .ok (.invokevirtual 156, 3) := by decide +kernel
theorem dX8_rumour_5 : decode cX8_rumour 5 = .ok (.ifCond .eq 17, 3) := by decide +kernel
theorem dX8_rumour_8 : decode cX8_rumour 8 = .ok (.aload_n 0, 1) := by decide +kernel
theorem dX8_rumour_9 : decode cX8_rumour 9 = .ok (.getfield 26, 3) := by decide +kernel
theorem dX8_rumour_12 : decode cX8_rumour 12 = .ok (.getfield 148, 3) := by decide +kernel
theorem dX8_rumour_15 : decode cX8_rumour 15 = .ok (.iload_n 1, 1) := by decide +kernel
theorem dX8_rumour_16 : decode cX8_rumour 16 = .ok (.invokevirtual 228, 3) := by decide +kernel
theorem dX8_rumour_19 : decode cX8_rumour 19 = .ok (.goto 5, 3) := by decide +kernel
theorem dX8_rumour_22 : decode cX8_rumour 22 = .ok (.ldc 77, 2) := by decide +kernel
theorem dX8_rumour_24 : decode cX8_rumour 24 = .ok (.ireturn, 1) := by decide +kernel
theorem dX8_telling_0 : decode cX8_telling 0 = .ok (.iload_n 1, 1) := by decide +kernel
theorem dX8_telling_1 : decode cX8_telling 1 = .ok (.invokestatic 185, 3) := by decide +kernel
theorem dX8_telling_4 : decode cX8_telling 4 = .ok (.ifCond .eq 24, 3) := by decide +kernel
theorem dX8_telling_7 : decode cX8_telling 7 = .ok (.iload_n 2, 1) := by decide +kernel
theorem dX8_telling_8 : decode cX8_telling 8 = .ok (.ifCond .eq 20, 3) := by decide +kernel
theorem dX8_telling_11 : decode cX8_telling 11 = .ok (.aload_n 0, 1) := by decide +kernel
theorem dX8_telling_12 : decode cX8_telling 12 = .ok (.iload_n 2, 1) := by decide +kernel
theorem dX8_telling_13 : decode cX8_telling 13 = .ok (.invokevirtual 231, 3) := by decide +kernel
theorem dX8_telling_16 : decode cX8_telling 16 = .ok (.ifCond .eq 12, 3) := by decide +kernel
theorem dX8_telling_19 : decode cX8_telling 19 = .ok (.iload_n 3, 1) := by decide +kernel
theorem dX8_telling_20 : decode cX8_telling 20 = .ok (.ifCond .lt 8, 3) := by decide +kernel
theorem dX8_telling_23 : decode cX8_telling 23 = .ok (.iload_n 3, 1) := by decide +kernel
theorem dX8_telling_24 : decode cX8_telling 24 = .ok (.iconst 3, 1) := by decide +kernel
theorem dX8_telling_25 : decode cX8_telling 25 = .ok (.if_icmp .le 6, 3) := by decide +kernel
theorem dX8_telling_28 : decode cX8_telling 28 = .ok (.ldc 77, 2) := by decide +kernel
theorem dX8_telling_30 : decode cX8_telling 30 = .ok (.ireturn, 1) := by decide +kernel
theorem dX8_telling_31 : decode cX8_telling 31 = .ok (.aload_n 0, 1) := by decide +kernel
theorem dX8_telling_32 : decode cX8_telling 32 = .ok (.getfield 26, 3) := by decide +kernel
theorem dX8_telling_35 : decode cX8_telling 35 = .ok (.getfield 148, 3) := by decide +kernel
theorem dX8_telling_38 : decode cX8_telling 38 = .ok (.iload_n 1, 1) := by decide +kernel
theorem dX8_telling_39 : decode cX8_telling 39 = .ok (.invokevirtual 188, 3) := by decide +kernel
theorem dX8_telling_42 : decode cX8_telling 42 = .ok (.ifCond .eq 6, 3) := by decide +kernel
theorem dX8_telling_45 : decode cX8_telling 45 = .ok (.ldc 147, 2) := by decide +kernel
theorem dX8_telling_47 : decode cX8_telling 47 = .ok (.ireturn, 1) := by decide +kernel
theorem dX8_telling_48 : decode cX8_telling 48 = .ok (.aload_n 0, 1) := by decide +kernel
theorem dX8_telling_49 : decode cX8_telling 49 = .ok (.getfield 49, 3) := by decide +kernel
theorem dX8_telling_52 : decode cX8_telling 52 = .ok (.invokevirtual 234, 3) := by decide +kernel
theorem dX8_telling_55 : decode cX8_telling 55 = .ok (.aload_n 0, 1) := by decide +kernel
theorem dX8_telling_56 : decode cX8_telling 56 = .ok (.getfield 49, 3) := by decide +kernel
theorem dX8_telling_59 : decode cX8_telling 59 = .ok (.iload_n 1, 1) := by decide +kernel
theorem dX8_telling_60 : decode cX8_telling 60 = .ok (.iload_n 2, 1) := by decide +kernel
theorem dX8_telling_61 : decode cX8_telling 61 = .ok (.invokevirtual 237, 3) := by decide +kernel
theorem dX8_telling_64 : decode cX8_telling 64 = .ok (.iload_n 3, 1) := by decide +kernel
theorem dX8_telling_65 : decode cX8_telling 65 = .ok (.tableswitch 51 0 2 #[27, 35, 43], 27) := by decide +kernel
theorem dX8_telling_92 : decode cX8_telling 92 = .ok (.aload_n 0, 1) := by decide +kernel
theorem dX8_telling_93 : decode cX8_telling 93 = .ok (.getfield 49, 3) := by decide +kernel
theorem dX8_telling_96 : decode cX8_telling 96 = .ok (.getfield 240, 3) := by decide +kernel
theorem dX8_telling_99 : decode cX8_telling 99 = .ok (.ireturn, 1) := by decide +kernel
theorem dX8_telling_100 : decode cX8_telling 100 = .ok (.aload_n 0, 1) := by decide +kernel
theorem dX8_telling_101 : decode cX8_telling 101 = .ok (.getfield 49, 3) := by decide +kernel
theorem dX8_telling_104 : decode cX8_telling 104 = .ok (.getfield 243, 3) := by decide +kernel
theorem dX8_telling_107 : decode cX8_telling 107 = .ok (.ireturn, 1) := by decide +kernel
theorem dX8_telling_108 : decode cX8_telling 108 = .ok (.aload_n 0, 1) := by decide +kernel
theorem dX8_telling_109 : decode cX8_telling 109 = .ok (.getfield 49, 3) := by decide +kernel
theorem dX8_telling_112 : decode cX8_telling 112 = .ok (.getfield 246, 3) := by decide +kernel
theorem dX8_telling_115 : decode cX8_telling 115 = .ok (.ireturn, 1) := by decide +kernel
theorem dX8_telling_116 : decode cX8_telling 116 = .ok (.aload_n 0, 1) := by decide +kernel
theorem dX8_telling_117 : decode cX8_telling 117 = .ok (.getfield 26, 3) := by decide +kernel
theorem dX8_telling_120 : decode cX8_telling 120 = .ok (.getfield 249, 3) := by decide +kernel
theorem dX8_telling_123 : decode cX8_telling 123 = .ok (.aload_n 0, 1) := by decide +kernel
theorem dX8_telling_124 : decode cX8_telling 124 = .ok (.getfield 49, 3) := by decide +kernel
theorem dX8_telling_127 : decode cX8_telling 127 = .ok (.getfield 243, 3) := by decide +kernel
theorem dX8_telling_130 : decode cX8_telling 130 = .ok (.invokestatic 252, 3) := by decide +kernel
