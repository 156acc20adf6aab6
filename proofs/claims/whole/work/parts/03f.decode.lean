theorem dX8_power_18 : decode cX8_power 18 = .ok (.goto (-13), 3) := by decide +kernel
theorem dX8_power_21 : decode cX8_power 21 = .ok (.lload_n 3, 1) := by decide +kernel
theorem dX8_power_22 : decode cX8_power 22 = .ok (.lreturn, 1) := by decide +kernel
theorem dX8_commonDivisor_0 : decode cX8_commonDivisor 0 = .ok (.lload_n 0, 1) := by decide +kernel
theorem dX8_commonDivisor_1 : decode cX8_commonDivisor 1 = .ok (.lstore 4, 2) := by decide +kernel
theorem dX8_commonDivisor_3 : decode cX8_commonDivisor 3 = .ok (.lload_n 2, 1) := by decide +kernel
theorem dX8_commonDivisor_4 : decode cX8_commonDivisor 4 = .ok (.lstore 6, 2) := by decide +kernel
theorem dX8_commonDivisor_6 : decode cX8_commonDivisor 6 = .ok (.iconst 0, 1) := by decide +kernel
theorem dX8_commonDivisor_7 : decode cX8_commonDivisor 7 = .ok (.istore 8, 2) := by decide +kernel
theorem dX8_commonDivisor_9 : decode cX8_commonDivisor 9 = .ok (.iload 8, 2) := by decide +kernel
theorem dX8_commonDivisor_11 : decode cX8_commonDivisor 11 = .ok (.bipush 100, 2) := by decide +kernel
theorem dX8_commonDivisor_13 : decode cX8_commonDivisor 13 = .ok (.if_icmp .ge 31, 3) := by decide +kernel
theorem dX8_commonDivisor_16 : decode cX8_commonDivisor 16 = .ok (.lload 6, 2) := by decide +kernel
theorem dX8_commonDivisor_18 : decode cX8_commonDivisor 18 = .ok (.lconst 0, 1) := by decide +kernel
theorem dX8_commonDivisor_19 : decode cX8_commonDivisor 19 = .ok (.lcmp, 1) := by decide +kernel
theorem dX8_commonDivisor_20 : decode cX8_commonDivisor 20 = .ok (.ifCond .eq 24, 3) := by decide +kernel
theorem dX8_commonDivisor_23 : decode cX8_commonDivisor 23 = .ok (.lload 4, 2) := by decide +kernel
theorem dX8_commonDivisor_25 : decode cX8_commonDivisor 25 = .ok (.lload 6, 2) := by decide +kernel
theorem dX8_commonDivisor_27 : decode cX8_commonDivisor 27 = .ok (.lrem, 1) := by decide +kernel
theorem dX8_commonDivisor_28 : decode cX8_commonDivisor 28 = .ok (.lstore 9, 2) := by decide +kernel
theorem dX8_commonDivisor_30 : decode cX8_commonDivisor 30 = .ok (.lload 6, 2) := by decide +kernel
theorem dX8_commonDivisor_32 : decode cX8_commonDivisor 32 = .ok (.lstore 4, 2) := by decide +kernel
theorem dX8_commonDivisor_34 : decode cX8_commonDivisor 34 = .ok (.lload 9, 2) := by decide +kernel
theorem dX8_commonDivisor_36 : decode cX8_commonDivisor 36 = .ok (.lstore 6, 2) := by decide +kernel
theorem dX8_commonDivisor_38 : decode cX8_commonDivisor 38 = .ok (.iinc 8 1, 3) := by decide +kernel
theorem dX8_commonDivisor_41 : decode cX8_commonDivisor 41 = .ok (.goto (-32), 3) := by decide +kernel
theorem dX8_commonDivisor_44 : decode cX8_commonDivisor 44 = .ok (.lconst 1, 1) := by decide +kernel
theorem dX8_commonDivisor_45 : decode cX8_commonDivisor 45 = .ok (.lload 4, 2) := by decide +kernel
theorem dX8_commonDivisor_47 : decode cX8_commonDivisor 47 = .ok (.invokestatic 363, 3) := by decide +kernel
theorem dX8_commonDivisor_50 : decode cX8_commonDivisor 50 = .ok (.lreturn, 1) := by decide +kernel
theorem dX9_init_0 : decode cX9_init 0 = .ok (.aload_n 0, 1) := by decide +kernel
theorem dX9_init_1 : decode cX9_init 1 = .ok (.invokespecial 1, 3) := by decide +kernel
theorem dX9_init_4 : decode cX9_init 4 = .ok (.aload_n 0, 1) := by decide +kernel
theorem dX9_init_5 : decode cX9_init 5 = .ok (.bipush 8, 2) := by decide +kernel
theorem dX9_init_7 : decode cX9_init 7 = .ok (.newarray .int, 2) := by decide +kernel
theorem dX9_init_9 : decode cX9_init 9 = .ok (.putfield 7, 3) := by decide +kernel
theorem dX9_init_12 : decode cX9_init 12 = .ok (.aload_n 0, 1) := by decide +kernel
theorem dX9_init_13 : decode cX9_init 13 = .ok (.bipush 8, 2) := by decide +kernel
theorem dX9_init_15 : decode cX9_init 15 = .ok (.newarray .int, 2) := by decide +kernel
theorem dX9_init_17 : decode cX9_init 17 = .ok (.putfield 13, 3) := by decide +kernel
theorem dX9_init_20 : decode cX9_init 20 = .ok (.aload_n 0, 1) := by decide +kernel
theorem dX9_init_21 : decode cX9_init 21 = .ok (.sipush 320, 3) := by decide +kernel
theorem dX9_init_24 : decode cX9_init 24 = .ok (.newarray .int, 2) := by decide +kernel
theorem dX9_init_26 : decode cX9_init 26 = .ok (.putfield 16, 3) := by decide +kernel
theorem dX9_init_29 : decode cX9_init 29 = .ok (.aload_n 0, 1) := by decide +kernel
theorem dX9_init_30 : decode cX9_init 30 = .ok (.bipush 120, 2) := by decide +kernel
theorem dX9_init_32 : decode cX9_init 32 = .ok (.newarray .int, 2) := by decide +kernel
theorem dX9_init_34 : decode cX9_init 34 = .ok (.putfield 19, 3) := by decide +kernel
theorem dX9_init_37 : decode cX9_init 37 = .ok (.aload_n 0, 1) := by decide +kernel
theorem dX9_init_38 : decode cX9_init 38 = .ok (.bipush 66, 2) := by decide +kernel
theorem dX9_init_40 : decode cX9_init 40 = .ok (.newarray .int, 2) := by decide +kernel
theorem dX9_init_42 : decode cX9_init 42 = .ok (.putfield 22, 3) := by decide +kernel
theorem dX9_init_45 : decode cX9_init 45 = .ok (.aload_n 0, 1) := by decide +kernel
theorem dX9_init_46 : decode cX9_init 46 = .ok (.sipush 1584, 3) := by decide +kernel
theorem dX9_init_49 : decode cX9_init 49 = .ok (.newarray .int, 2) := by decide +kernel
theorem dX9_init_51 : decode cX9_init 51 = .ok (.putfield 25, 3) := by decide +kernel
theorem dX9_init_54 : decode cX9_init 54 = .ok (.aload_n 0, 1) := by decide +kernel
theorem dX9_init_55 : decode cX9_init 55 = .ok (.sipush 132, 3) := by decide +kernel
theorem dX9_init_58 : decode cX9_init 58 = .ok (.newarray .int, 2) := by decide +kernel
theorem dX9_init_60 : decode cX9_init 60 = .ok (.putfield 28, 3) := by decide +kernel
theorem dX9_init_63 : decode cX9_init 63 = .ok (.aload_n 0, 1) := by decide +kernel
theorem dX9_init_64 : decode cX9_init 64 = .ok (.iconst 2, 1) := by decide +kernel
theorem dX9_init_65 : decode cX9_init 65 = .ok (.newarray .boolean, 2) := by decide +kernel
theorem dX9_init_67 : decode cX9_init 67 = .ok (.putfield 31, 3) := by decide +kernel
theorem dX9_init_70 : decode cX9_init 70 = .ok (.aload_n 0, 1) := by decide +kernel
theorem dX9_init_71 : decode cX9_init 71 = .ok (.bipush 16, 2) := by decide +kernel
theorem dX9_init_73 : decode cX9_init 73 = .ok (.newarray .int, 2) := by decide +kernel
theorem dX9_init_75 : decode cX9_init 75 = .ok (.putfield 35, 3) := by decide +kernel
theorem dX9_init_78 : decode cX9_init 78 = .ok (.aload_n 0, 1) := by decide +kernel
theorem dX9_init_79 : decode cX9_init 79 = .ok (.bipush 66, 2) := by decide +kernel
theorem dX9_init_81 : decode cX9_init 81 = .ok (.newarray .int, 2) := by decide +kernel
theorem dX9_init_83 : decode cX9_init 83 = .ok (.putfield 38, 3) := by decide +kernel
theorem dX9_init_86 : decode cX9_init 86 = .ok (.aload_n 0, 1) := by decide +kernel
theorem dX9_init_87 : decode cX9_init 87 = .ok (.bipush 6, 2) := by decide +kernel
theorem dX9_init_89 : decode cX9_init 89 = .ok (.newarray .int, 2) := by decide +kernel
theorem dX9_init_91 : decode cX9_init 91 = .ok (.putfield 41, 3) := by decide +kernel
theorem dX9_init_94 : decode cX9_init 94 = .ok (.aload_n 0, 1) := by decide +kernel
theorem dX9_init_95 : decode cX9_init 95 = .ok (.bipush 6, 2) := by decide +kernel
theorem dX9_init_97 : decode cX9_init 97 = .ok (.newarray .int, 2) := by decide +kernel
theorem dX9_init_99 : decode cX9_init 99 = .ok (.putfield 44, 3) := by decide +kernel
theorem dX9_init_102 : decode cX9_init 102 = .ok (.aload_n 0, 1) := by decide +kernel
theorem dX9_init_103 : decode cX9_init 103 = .ok (.bipush 6, 2) := by decide +kernel
theorem dX9_init_105 : decode cX9_init 105 = .ok (.newarray .int, 2) := by decide +kernel
theorem dX9_init_107 : decode cX9_init 107 = .ok (.putfield 47, 3) := by decide +kernel
theorem dX9_init_110 : decode cX9_init 110 = .ok (.aload_n 0, 1) := by decide +kernel
theorem dX9_init_111 : decode cX9_init 111 = .ok (.bipush 66, 2) := by decide +kernel
theorem dX9_init_113 : decode cX9_init 113 = .ok (.newarray .int, 2) := by decide +kernel
theorem dX9_init_115 : decode cX9_init 115 = .ok (.putfield 50, 3) := by decide +kernel
theorem dX9_init_118 : decode cX9_init 118 = .ok (.iconst 0, 1) := by decide +kernel
theorem dX9_init_119 : decode cX9_init 119 = .ok (.istore_n 1, 1) := by decide +kernel
theorem dX9_init_120 : decode cX9_init 120 = .ok (.iload_n 1, 1) := by decide +kernel
theorem dX9_init_121 : decode cX9_init 121 = .ok (.bipush 8, 2) := by decide +kernel
theorem dX9_init_123 : decode cX9_init 123 = .ok (.if_icmp .ge 16, 3) := by decide +kernel
theorem dX9_init_126 : decode cX9_init 126 = .ok (.aload_n 0, 1) := by decide +kernel
theorem dX9_init_127 : decode cX9_init 127 = .ok (.getfield 13, 3) := by decide +kernel
theorem dX9_init_130 : decode cX9_init 130 = .ok (.iload_n 1, 1) := by decide +kernel
theorem dX9_init_131 : decode cX9_init 131 = .ok (.iconst (-1), 1) := by decide +kernel
theorem dX9_init_132 : decode cX9_init 132 = .ok (.iastore, 1) := by decide +kernel
theorem dX9_init_133 : decode cX9_init 133 = .ok (.iinc 1 1, 3) := by decide +kernel
theorem dX9_init_136 : decode cX9_init 136 = .ok (.goto (-16), 3) := by decide +kernel
theorem dX9_init_139 : decode cX9_init 139 = .ok (.return_, 1) := by decide +kernel
theorem dX9_in_0 : decode cX9_in 0 = .ok (.lload_n 0, 1) := by decide +kernel
theorem dX9_in_1 : decode cX9_in 1 = .ok (.lload_n 2, 1) := by decide +kernel
theorem dX9_in_2 : decode cX9_in 2 = .ok (.lcmp, 1) := by decide +kernel
theorem dX9_in_3 : decode cX9_in 3 = .ok (.ifCond .lt 14, 3) := by decide +kernel
theorem dX9_in_6 : decode cX9_in 6 = .ok (.lload_n 0, 1) := by decide +kernel
theorem dX9_in_7 : decode cX9_in 7 = .ok (.lload 4, 2) := by decide +kernel
theorem dX9_in_9 : decode cX9_in 9 = .ok (.lcmp, 1) := by decide +kernel
theorem dX9_in_10 : decode cX9_in 10 = .ok (.ifCond .gt 7, 3) := by decide +kernel
theorem dX9_in_13 : decode cX9_in 13 = .ok (.iconst 1, 1) := by decide +kernel
theorem dX9_in_14 : decode cX9_in 14 = .ok (.goto 4, 3) := by decide +kernel
theorem dX9_in_17 : decode cX9_in 17 = .ok (.iconst 0, 1) := by decide +kernel
theorem dX9_in_18 : decode cX9_in 18 = .ok (.ireturn, 1) := by decide +kernel
theorem dX9_found_0 : decode cX9_found 0 = .ok (.aload_n 0, 1) := by decide +kernel
theorem dX9_found_1 : decode cX9_found 1 = .ok (.iload_n 1, 1) := by decide +kernel
theorem dX9_found_2 : decode cX9_found 2 = .ok (.putfield 53, 3) := by decide +kernel
theorem dX9_found_5 : decode cX9_found 5 = .ok (.ldc 57, 2) := by decide +kernel
theorem dX9_found_7 : decode cX9_found 7 = .ok (.iload_n 1, 1) := by decide +kernel
theorem dX9_found_8 : decode cX9_found 8 = .ok (.isub, 1) := by decide +kernel
theorem dX9_found_9 : decode cX9_found 9 = .ok (.ireturn, 1) := by decide +kernel
theorem dX9_well_0 : decode cX9_well 0 = .ok (.aload_n 0, 1) := by decide +kernel
theorem dX9_well_1 : decode cX9_well 1 = .ok (.iconst 0, 1) := by decide +kernel
theorem dX9_well_2 : decode cX9_well 2 = .ok (.putfield 53, 3) := by decide +kernel
theorem dX9_well_5 : decode cX9_well 5 = .ok (.iload_n 1, 1) := by decide +kernel
theorem dX9_well_6 : decode cX9_well 6 = .ok (.ireturn, 1) := by decide +kernel
theorem dX9_isRow_0 : decode cX9_isRow 0 = .ok (.iload_n 0, 1) := by decide +kernel
theorem dX9_isRow_1 : decode cX9_isRow 1 = .ok (.i2l, 1) := by decide +kernel
theorem dX9_isRow_2 : decode cX9_isRow 2 = .ok (.lconst 0, 1) := by decide +kernel
theorem dX9_isRow_3 : decode cX9_isRow 3 = .ok (.ldc2_w 58, 3) := by decide +kernel
theorem dX9_isRow_6 : decode cX9_isRow 6 = .ok (.invokestatic 60, 3) := by decide +kernel
theorem dX9_isRow_9 : decode cX9_isRow 9 = .ok (.ireturn, 1) := by decide +kernel
theorem dX9_row_0 : decode cX9_row 0 = .ok (.iload_n 1, 1) := by decide +kernel
theorem dX9_row_1 : decode cX9_row 1 = .ok (.invokestatic 64, 3) := by decide +kernel
theorem dX9_row_4 : decode cX9_row 4 = .ok (.ifCond .eq 21, 3) := by decide +kernel
theorem dX9_row_7 : decode cX9_row 7 = .ok (.iload_n 2, 1) := by decide +kernel
theorem dX9_row_8 : decode cX9_row 8 = .ok (.i2l, 1) := by decide +kernel
theorem dX9_row_9 : decode cX9_row 9 = .ok (.lconst 0, 1) := by decide +kernel
theorem dX9_row_10 : decode cX9_row 10 = .ok (.ldc2_w 68, 3) := by decide +kernel
theorem dX9_row_13 : decode cX9_row 13 = .ok (.invokestatic 60, 3) := by decide +kernel
theorem dX9_row_16 : decode cX9_row 16 = .ok (.ifCond .eq 9, 3) := by decide +kernel
theorem dX9_row_19 : decode cX9_row 19 = .ok (.iload_n 3, 1) := by decide +kernel
theorem dX9_row_20 : decode cX9_row 20 = .ok (.bipush 40, 2) := by decide +kernel
theorem dX9_row_22 : decode cX9_row 22 = .ok (.if_icmp .le 6, 3) := by decide +kernel
theorem dX9_row_25 : decode cX9_row 25 = .ok (.ldc 70, 2) := by decide +kernel
theorem dX9_row_27 : decode cX9_row 27 = .ok (.ireturn, 1) := by decide +kernel
theorem dX9_row_28 : decode cX9_row 28 = .ok (.iload_n 3, 1) := by decide +kernel
theorem dX9_row_29 : decode cX9_row 29 = .ok (.ifCond .ge 9, 3) := by decide +kernel
theorem dX9_row_32 : decode cX9_row 32 = .ok (.aload_n 0, 1) := by decide +kernel
theorem dX9_row_33 : decode cX9_row 33 = .ok (.iconst 4, 1) := by decide +kernel
theorem dX9_row_34 : decode cX9_row 34 = .ok (.invokevirtual 71, 3) := by decide +kernel
theorem dX9_row_37 : decode cX9_row 37 = .ok (.ireturn, 1) := by decide +kernel
theorem dX9_row_38 : decode cX9_row 38 = .ok (.aload_n 0, 1) := by decide +kernel
theorem dX9_row_39 : decode cX9_row 39 = .ok (.getfield 7, 3) := by decide +kernel
theorem dX9_row_42 : decode cX9_row 42 = .ok (.iload_n 1, 1) := by decide +kernel
theorem dX9_row_43 : decode cX9_row 43 = .ok (.iload_n 2, 1) := by decide +kernel
theorem dX9_row_44 : decode cX9_row 44 = .ok (.iastore, 1) := by decide +kernel
theorem dX9_row_45 : decode cX9_row 45 = .ok (.aload_n 0, 1) := by decide +kernel
theorem dX9_row_46 : decode cX9_row 46 = .ok (.getfield 13, 3) := by decide +kernel
theorem dX9_row_49 : decode cX9_row 49 = .ok (.iload_n 1, 1) := by decide +kernel
theorem dX9_row_50 : decode cX9_row 50 = .ok (.iload_n 3, 1) := by decide +kernel
theorem dX9_row_51 : decode cX9_row 51 = .ok (.iastore, 1) := by decide +kernel
theorem dX9_row_52 : decode cX9_row 52 = .ok (.iconst 0, 1) := by decide +kernel
theorem dX9_row_53 : decode cX9_row 53 = .ok (.istore 4, 2) := by decide +kernel
theorem dX9_row_55 : decode cX9_row 55 = .ok (.iload 4, 2) := by decide +kernel
theorem dX9_row_57 : decode cX9_row 57 = .ok (.bipush 40, 2) := by decide +kernel
theorem dX9_row_59 : decode cX9_row 59 = .ok (.if_icmp .ge 22, 3) := by decide +kernel
theorem dX9_row_62 : decode cX9_row 62 = .ok (.aload_n 0, 1) := by decide +kernel
theorem dX9_row_63 : decode cX9_row 63 = .ok (.getfield 16, 3) := by decide +kernel
theorem dX9_row_66 : decode cX9_row 66 = .ok (.bipush 40, 2) := by decide +kernel
theorem dX9_row_68 : decode cX9_row 68 = .ok (.iload_n 1, 1) := by decide +kernel
theorem dX9_row_69 : decode cX9_row 69 = .ok (.imul, 1) := by decide +kernel
theorem dX9_row_70 : decode cX9_row 70 = .ok (.iload 4, 2) := by decide +kernel
theorem dX9_row_72 : decode cX9_row 72 = .ok (.iadd, 1) := by decide +kernel
theorem dX9_row_73 : decode cX9_row 73 = .ok (.iconst 0, 1) := by decide +kernel
theorem dX9_row_74 : decode cX9_row 74 = .ok (.iastore, 1) := by decide +kernel
theorem dX9_row_75 : decode cX9_row 75 = .ok (.iinc 4 1, 3) := by decide +kernel
theorem dX9_row_78 : decode cX9_row 78 = .ok (.goto (-23), 3) := by decide +kernel
theorem dX9_row_81 : decode cX9_row 81 = .ok (.aload_n 0, 1) := by decide +kernel
theorem dX9_row_82 : decode cX9_row 82 = .ok (.iload_n 3, 1) := by decide +kernel
theorem dX9_row_83 : decode cX9_row 83 = .ok (.invokevirtual 75, 3) := by decide +kernel
theorem dX9_row_86 : decode cX9_row 86 = .ok (.ireturn, 1) := by decide +kernel
theorem dX9_set_0 : decode cX9_set 0 = .ok (.iload_n 1, 1) := by decide +kernel
theorem dX9_set_1 : decode cX9_set 1 = .ok (.invokestatic 64, 3) := by decide +kernel
theorem dX9_set_4 : decode cX9_set 4 = .ok (.ifCond .ne 6, 3) := by decide +kernel
theorem dX9_set_7 : decode cX9_set 7 = .ok (.ldc 70, 2) := by decide +kernel
theorem dX9_set_9 : decode cX9_set 9 = .ok (.ireturn, 1) := by decide +kernel
theorem dX9_set_10 : decode cX9_set 10 = .ok (.aload_n 0, 1) := by decide +kernel
theorem dX9_set_11 : decode cX9_set 11 = .ok (.getfield 13, 3) := by decide +kernel
theorem dX9_set_14 : decode cX9_set 14 = .ok (.iload_n 1, 1) := by decide +kernel
theorem dX9_set_15 : decode cX9_set 15 = .ok (.iaload, 1) := by decide +kernel
theorem dX9_set_16 : decode cX9_set 16 = .ok (.ifCond .ge 9, 3) := by decide +kernel
theorem dX9_set_19 : decode cX9_set 19 = .ok (.aload_n 0, 1) := by decide +kernel
theorem dX9_set_20 : decode cX9_set 20 = .ok (.iconst 1, 1) := by decide +kernel
theorem dX9_set_21 : decode cX9_set 21 = .ok (.invokevirtual 71, 3) := by decide +kernel
theorem dX9_set_24 : decode cX9_set 24 = .ok (.ireturn, 1) := by decide +kernel
theorem dX9_set_25 : decode cX9_set 25 = .ok (.iload_n 2, 1) := by decide +kernel
theorem dX9_set_26 : decode cX9_set 26 = .ok (.i2l, 1) := by decide +kernel
theorem dX9_set_27 : decode cX9_set 27 = .ok (.lconst 0, 1) := by decide +kernel
theorem dX9_set_28 : decode cX9_set 28 = .ok (.aload_n 0, 1) := by decide +kernel
theorem dX9_set_29 : decode cX9_set 29 = .ok (.getfield 13, 3) := by decide +kernel
theorem dX9_set_32 : decode cX9_set 32 = .ok (.iload_n 1, 1) := by decide +kernel
theorem dX9_set_33 : decode cX9_set 33 = .ok (.iaload, 1) := by decide +kernel
theorem dX9_set_34 : decode cX9_set 34 = .ok (.iconst 1, 1) := by decide +kernel
theorem dX9_set_35 : decode cX9_set 35 = .ok (.isub, 1) := by decide +kernel
theorem dX9_set_36 : decode cX9_set 36 = .ok (.i2l, 1) := by decide +kernel
theorem dX9_set_37 : decode cX9_set 37 = .ok (.invokestatic 60, 3) := by decide +kernel
theorem dX9_set_40 : decode cX9_set 40 = .ok (.ifCond .ne 9, 3) := by decide +kernel
theorem dX9_set_43 : decode cX9_set 43 = .ok (.aload_n 0, 1) := by decide +kernel
theorem dX9_set_44 : decode cX9_set 44 = .ok (.iconst 2, 1) := by decide +kernel
theorem dX9_set_45 : decode cX9_set 45 = .ok (.invokevirtual 71, 3) := by decide +kernel
theorem dX9_set_48 : decode cX9_set 48 = .ok (.ireturn, 1) := by decide +kernel
theorem dX9_set_49 : decode cX9_set 49 = .ok (.aload_n 0, 1) := by decide +kernel
theorem dX9_set_50 : decode cX9_set 50 = .ok (.getfield 16, 3) := by decide +kernel
theorem dX9_set_53 : decode cX9_set 53 = .ok (.bipush 40, 2) := by decide +kernel
theorem dX9_set_55 : decode cX9_set 55 = .ok (.iload_n 1, 1) := by decide +kernel
theorem dX9_set_56 : decode cX9_set 56 = .ok (.imul, 1) := by decide +kernel
theorem dX9_set_57 : decode cX9_set 57 = .ok (.iload_n 2, 1) := by decide +kernel
theorem dX9_set_58 : decode cX9_set 58 = .ok (.iadd, 1) := by decide +kernel
theorem dX9_set_59 : decode cX9_set 59 = .ok (.aload_n 0, 1) := by decide +kernel
theorem dX9_set_60 : decode cX9_set 60 = .ok (.getfield 7, 3) := by decide +kernel
theorem dX9_set_63 : decode cX9_set 63 = .ok (.iload_n 1, 1) := by decide +kernel
theorem dX9_set_64 : decode cX9_set 64 = .ok (.iaload, 1) := by decide +kernel
theorem dX9_set_65 : decode cX9_set 65 = .ok (.ifCond .ne 8, 3) := by decide +kernel
theorem dX9_set_68 : decode cX9_set 68 = .ok (.iload_n 3, 1) := by decide +kernel
theorem dX9_set_69 : decode cX9_set 69 = .ok (.i2b, 1) := by decide +kernel
theorem dX9_set_70 : decode cX9_set 70 = .ok (.goto 19, 3) := by decide +kernel
theorem dX9_set_73 : decode cX9_set 73 = .ok (.aload_n 0, 1) := by decide +kernel
theorem dX9_set_74 : decode cX9_set 74 = .ok (.getfield 7, 3) := by decide +kernel
theorem dX9_set_77 : decode cX9_set 77 = .ok (.iload_n 1, 1) := by decide +kernel
theorem dX9_set_78 : decode cX9_set 78 = .ok (.iaload, 1) := by decide +kernel
theorem dX9_set_79 : decode cX9_set 79 = .ok (.iconst 1, 1) := by decide +kernel
theorem dX9_set_80 : decode cX9_set 80 = .ok (.if_icmp .ne 8, 3) := by decide +kernel
theorem dX9_set_83 : decode cX9_set 83 = .ok (.iload_n 3, 1) := by decide +kernel
theorem dX9_set_84 : decode cX9_set 84 = .ok (.i2s, 1) := by decide +kernel
theorem dX9_set_85 : decode cX9_set 85 = .ok (.goto 4, 3) := by decide +kernel
theorem dX9_set_88 : decode cX9_set 88 = .ok (.iload_n 3, 1) := by decide +kernel
theorem dX9_set_89 : decode cX9_set 89 = .ok (.iastore, 1) := by decide +kernel
theorem dX9_set_90 : decode cX9_set 90 = .ok (.aload_n 0, 1) := by decide +kernel
theorem dX9_set_91 : decode cX9_set 91 = .ok (.aload_n 0, 1) := by decide +kernel
theorem dX9_set_92 : decode cX9_set 92 = .ok (.getfield 16, 3) := by decide +kernel
theorem dX9_set_95 : decode cX9_set 95 = .ok (.bipush 40, 2) := by decide +kernel
theorem dX9_set_97 : decode cX9_set 97 = .ok (.iload_n 1, 1) := by decide +kernel
theorem dX9_set_98 : decode cX9_set 98 = .ok (.imul, 1) := by decide +kernel
theorem dX9_set_99 : decode cX9_set 99 = .ok (.iload_n 2, 1) := by decide +kernel
theorem dX9_set_100 : decode cX9_set 100 = .ok (.iadd, 1) := by decide +kernel
theorem dX9_set_101 : decode cX9_set 101 = .ok (.iaload, 1) := by decide +kernel
theorem dX9_set_102 : decode cX9_set 102 = .ok (.invokevirtual 75, 3) := by decide +kernel
theorem dX9_set_105 : decode cX9_set 105 = .ok (.ireturn, 1) := by decide +kernel
theorem dX9_copy_0 : decode cX9_copy 0 = .ok (.iload_n 1, 1) := by decide +kernel
theorem dX9_copy_1 : decode cX9_copy 1 = .ok (.invokestatic 64, 3) := by decide +kernel
theorem dX9_copy_4 : decode cX9_copy 4 = .ok (.ifCond .eq 10, 3) := by decide +kernel
theorem dX9_copy_7 : decode cX9_copy 7 = .ok (.iload_n 3, 1) := by decide +kernel
theorem dX9_copy_8 : decode cX9_copy 8 = .ok (.invokestatic 64, 3) := by decide +kernel
theorem dX9_copy_11 : decode cX9_copy 11 = .ok (.ifCond .ne 6, 3) := by decide +kernel
theorem dX9_copy_14 : decode cX9_copy 14 = .ok (.ldc 70, 2) := by decide +kernel
theorem dX9_copy_16 : decode cX9_copy 16 = .ok (.ireturn, 1) := by decide +kernel
theorem dX9_copy_17 : decode cX9_copy 17 = .ok (.aload_n 0, 1) := by decide +kernel
theorem dX9_copy_18 : decode cX9_copy 18 = .ok (.getfield 13, 3) := by decide +kernel
theorem dX9_copy_21 : decode cX9_copy 21 = .ok (.iload_n 1, 1) := by decide +kernel
theorem dX9_copy_22 : decode cX9_copy 22 = .ok (.iaload, 1) := by decide +kernel
theorem dX9_copy_23 : decode cX9_copy 23 = .ok (.ifCond .lt 12, 3) := by decide +kernel
theorem dX9_copy_26 : decode cX9_copy 26 = .ok (.aload_n 0, 1) := by decide +kernel
theorem dX9_copy_27 : decode cX9_copy 27 = .ok (.getfield 13, 3) := by decide +kernel
theorem dX9_copy_30 : decode cX9_copy 30 = .ok (.iload_n 3, 1) := by decide +kernel
theorem dX9_copy_31 : decode cX9_copy 31 = .ok (.iaload, 1) := by decide +kernel
theorem dX9_copy_32 : decode cX9_copy 32 = .ok (.ifCond .ge 9, 3) := by decide +kernel
theorem dX9_copy_35 : decode cX9_copy 35 = .ok (.aload_n 0, 1) := by decide +kernel
theorem dX9_copy_36 : decode cX9_copy 36 = .ok (.iconst 1, 1) := by decide +kernel
theorem dX9_copy_37 : decode cX9_copy 37 = .ok (.invokevirtual 71, 3) := by decide +kernel
theorem dX9_copy_40 : decode cX9_copy 40 = .ok (.ireturn, 1) := by decide +kernel
theorem dX9_copy_41 : decode cX9_copy 41 = .ok (.aload_n 0, 1) := by decide +kernel
theorem dX9_copy_42 : decode cX9_copy 42 = .ok (.getfield 7, 3) := by decide +kernel
theorem dX9_copy_45 : decode cX9_copy 45 = .ok (.iload_n 1, 1) := by decide +kernel
theorem dX9_copy_46 : decode cX9_copy 46 = .ok (.iaload, 1) := by decide +kernel
theorem dX9_copy_47 : decode cX9_copy 47 = .ok (.aload_n 0, 1) := by decide +kernel
theorem dX9_copy_48 : decode cX9_copy 48 = .ok (.getfield 7, 3) := by decide +kernel
theorem dX9_copy_51 : decode cX9_copy 51 = .ok (.iload_n 3, 1) := by decide +kernel
theorem dX9_copy_52 : decode cX9_copy 52 = .ok (.iaload, 1) := by decide +kernel
theorem dX9_copy_53 : decode cX9_copy 53 = .ok (.if_icmp .eq 9, 3) := by decide +kernel
theorem dX9_copy_56 : decode cX9_copy 56 = .ok (.aload_n 0, 1) := by decide +kernel
theorem dX9_copy_57 : decode cX9_copy 57 = .ok (.iconst 5, 1) := by decide +kernel
theorem dX9_copy_58 : decode cX9_copy 58 = .ok (.invokevirtual 71, 3) := by decide +kernel
theorem dX9_copy_61 : decode cX9_copy 61 = .ok (.ireturn, 1) := by decide +kernel
theorem dX9_copy_62 : decode cX9_copy 62 = .ok (.iload_n 2, 1) := by decide +kernel
theorem dX9_copy_63 : decode cX9_copy 63 = .ok (.ifCond .lt 48, 3) := by decide +kernel
theorem dX9_copy_66 : decode cX9_copy 66 = .ok (.iload 4, 2) := by decide +kernel
theorem dX9_copy_68 : decode cX9_copy 68 = .ok (.ifCond .lt 43, 3) := by decide +kernel
theorem dX9_copy_71 : decode cX9_copy 71 = .ok (.iload 5, 2) := by decide +kernel
theorem dX9_copy_73 : decode cX9_copy 73 = .ok (.ifCond .lt 38, 3) := by decide +kernel
theorem dX9_copy_76 : decode cX9_copy 76 = .ok (.iload_n 2, 1) := by decide +kernel
theorem dX9_copy_77 : decode cX9_copy 77 = .ok (.i2l, 1) := by decide +kernel
theorem dX9_copy_78 : decode cX9_copy 78 = .ok (.iload 5, 2) := by decide +kernel
theorem dX9_copy_80 : decode cX9_copy 80 = .ok (.i2l, 1) := by decide +kernel
theorem dX9_copy_81 : decode cX9_copy 81 = .ok (.ladd, 1) := by decide +kernel
theorem dX9_copy_82 : decode cX9_copy 82 = .ok (.aload_n 0, 1) := by decide +kernel
theorem dX9_copy_83 : decode cX9_copy 83 = .ok (.getfield 13, 3) := by decide +kernel
theorem dX9_copy_86 : decode cX9_copy 86 = .ok (.iload_n 1, 1) := by decide +kernel
theorem dX9_copy_87 : decode cX9_copy 87 = .ok (.iaload, 1) := by decide +kernel
theorem dX9_copy_88 : decode cX9_copy 88 = .ok (.i2l, 1) := by decide +kernel
theorem dX9_copy_89 : decode cX9_copy 89 = .ok (.lcmp, 1) := by decide +kernel
theorem dX9_copy_90 : decode cX9_copy 90 = .ok (.ifCond .gt 21, 3) := by decide +kernel
theorem dX9_copy_93 : decode cX9_copy 93 = .ok (.iload 4, 2) := by decide +kernel
theorem dX9_copy_95 : decode cX9_copy 95 = .ok (.i2l, 1) := by decide +kernel
theorem dX9_copy_96 : decode cX9_copy 96 = .ok (.iload 5, 2) := by decide +kernel
theorem dX9_copy_98 : decode cX9_copy 98 = .ok (.i2l, 1) := by decide +kernel
theorem dX9_copy_99 : decode cX9_copy 99 = .ok (.ladd, 1) := by decide +kernel
theorem dX9_copy_100 : decode cX9_copy 100 = .ok (.aload_n 0, 1) := by decide +kernel
theorem dX9_copy_101 : decode cX9_copy 101 = .ok (.getfield 13, 3) := by decide +kernel
theorem dX9_copy_104 : decode cX9_copy 104 = .ok (.iload_n 3, 1) := by decide +kernel
theorem dX9_copy_105 : decode cX9_copy 105 = .ok (.iaload, 1) := by decide +kernel
theorem dX9_copy_106 : decode cX9_copy 106 = .ok (.i2l, 1) := by decide +kernel
theorem dX9_copy_107 : decode cX9_copy 107 = .ok (.lcmp, 1) := by decide +kernel
theorem dX9_copy_108 : decode cX9_copy 108 = .ok (.ifCond .le 9, 3) := by decide +kernel
theorem dX9_copy_111 : decode cX9_copy 111 = .ok (.aload_n 0, 1) := by decide +kernel
theorem dX9_copy_112 : decode cX9_copy 112 = .ok (.iconst 2, 1) := by decide +kernel
theorem dX9_copy_113 : decode cX9_copy 113 = .ok (.invokevirtual 71, 3) := by decide +kernel
theorem dX9_copy_116 : decode cX9_copy 116 = .ok (.ireturn, 1) := by decide +kernel
theorem dX9_copy_117 : decode cX9_copy 117 = .ok (.iconst 0, 1) := by decide +kernel
theorem dX9_copy_118 : decode cX9_copy 118 = .ok (.istore 6, 2) := by decide +kernel
theorem dX9_copy_120 : decode cX9_copy 120 = .ok (.iload 6, 2) := by decide +kernel
theorem dX9_copy_122 : decode cX9_copy 122 = .ok (.iload 5, 2) := by decide +kernel
theorem dX9_copy_124 : decode cX9_copy 124 = .ok (.if_icmp .ge 58, 3) := by decide +kernel
theorem dX9_copy_127 : decode cX9_copy 127 = .ok (.iload 4, 2) := by decide +kernel
theorem dX9_copy_129 : decode cX9_copy 129 = .ok (.iload_n 2, 1) := by decide +kernel
theorem dX9_copy_130 : decode cX9_copy 130 = .ok (.if_icmp .le 13, 3) := by decide +kernel
theorem dX9_copy_133 : decode cX9_copy 133 = .ok (.iload 5, 2) := by decide +kernel
theorem dX9_copy_135 : decode cX9_copy 135 = .ok (.iconst 1, 1) := by decide +kernel
theorem dX9_copy_136 : decode cX9_copy 136 = .ok (.isub, 1) := by decide +kernel
theorem dX9_copy_137 : decode cX9_copy 137 = .ok (.iload 6, 2) := by decide +kernel
theorem dX9_copy_139 : decode cX9_copy 139 = .ok (.isub, 1) := by decide +kernel
theorem dX9_copy_140 : decode cX9_copy 140 = .ok (.goto 5, 3) := by decide +kernel
theorem dX9_copy_143 : decode cX9_copy 143 = .ok (.iload 6, 2) := by decide +kernel
theorem dX9_copy_145 : decode cX9_copy 145 = .ok (.istore 7, 2) := by decide +kernel
theorem dX9_copy_147 : decode cX9_copy 147 = .ok (.aload_n 0, 1) := by decide +kernel
theorem dX9_copy_148 : decode cX9_copy 148 = .ok (.getfield 16, 3) := by decide +kernel
theorem dX9_copy_151 : decode cX9_copy 151 = .ok (.bipush 40, 2) := by decide +kernel
theorem dX9_copy_153 : decode cX9_copy 153 = .ok (.iload_n 3, 1) := by decide +kernel
theorem dX9_copy_154 : decode cX9_copy 154 = .ok (.imul, 1) := by decide +kernel
theorem dX9_copy_155 : decode cX9_copy 155 = .ok (.iload 4, 2) := by decide +kernel
theorem dX9_copy_157 : decode cX9_copy 157 = .ok (.iadd, 1) := by decide +kernel
theorem dX9_copy_158 : decode cX9_copy 158 = .ok (.iload 7, 2) := by decide +kernel
theorem dX9_copy_160 : decode cX9_copy 160 = .ok (.iadd, 1) := by decide +kernel
theorem dX9_copy_161 : decode cX9_copy 161 = .ok (.aload_n 0, 1) := by decide +kernel
theorem dX9_copy_162 : decode cX9_copy 162 = .ok (.getfield 16, 3) := by decide +kernel
theorem dX9_copy_165 : decode cX9_copy 165 = .ok (.bipush 40, 2) := by decide +kernel
theorem dX9_copy_167 : decode cX9_copy 167 = .ok (.iload_n 1, 1) := by decide +kernel
theorem dX9_copy_168 : decode cX9_copy 168 = .ok (.imul, 1) := by decide +kernel
theorem dX9_copy_169 : decode cX9_copy 169 = .ok (.iload_n 2, 1) := by decide +kernel
theorem dX9_copy_170 : decode cX9_copy 170 = .ok (.iadd, 1) := by decide +kernel
theorem dX9_copy_171 : decode cX9_copy 171 = .ok (.iload 7, 2) := by decide +kernel
theorem dX9_copy_173 : decode cX9_copy 173 = .ok (.iadd, 1) := by decide +kernel
theorem dX9_copy_174 : decode cX9_copy 174 = .ok (.iaload, 1) := by decide +kernel
theorem dX9_copy_175 : decode cX9_copy 175 = .ok (.iastore, 1) := by decide +kernel
theorem dX9_copy_176 : decode cX9_copy 176 = .ok (.iinc 6 1, 3) := by decide +kernel
theorem dX9_copy_179 : decode cX9_copy 179 = .ok (.goto (-59), 3) := by decide +kernel
theorem dX9_copy_182 : decode cX9_copy 182 = .ok (.aload_n 0, 1) := by decide +kernel
theorem dX9_copy_183 : decode cX9_copy 183 = .ok (.iload 5, 2) := by decide +kernel
theorem dX9_copy_185 : decode cX9_copy 185 = .ok (.invokevirtual 75, 3) := by decide +kernel
theorem dX9_copy_188 : decode cX9_copy 188 = .ok (.ireturn, 1) := by decide +kernel
theorem dX9_drop_0 : decode cX9_drop 0 = .ok (.iload_n 1, 1) := by decide +kernel
theorem dX9_drop_1 : decode cX9_drop 1 = .ok (.invokestatic 64, 3) := by decide +kernel
theorem dX9_drop_4 : decode cX9_drop 4 = .ok (.ifCond .ne 6, 3) := by decide +kernel
theorem dX9_drop_7 : decode cX9_drop 7 = .ok (.ldc 70, 2) := by decide +kernel
theorem dX9_drop_9 : decode cX9_drop 9 = .ok (.ireturn, 1) := by decide +kernel
theorem dX9_drop_10 : decode cX9_drop 10 = .ok (.aload_n 0, 1) := by decide +kernel
theorem dX9_drop_11 : decode cX9_drop 11 = .ok (.getfield 13, 3) := by decide +kernel
theorem dX9_drop_14 : decode cX9_drop 14 = .ok (.iload_n 1, 1) := by decide +kernel
theorem dX9_drop_15 : decode cX9_drop 15 = .ok (.iaload, 1) := by decide +kernel
theorem dX9_drop_16 : decode cX9_drop 16 = .ok (.ifCond .ge 9, 3) := by decide +kernel
theorem dX9_drop_19 : decode cX9_drop 19 = .ok (.aload_n 0, 1) := by decide +kernel
theorem dX9_drop_20 : decode cX9_drop 20 = .ok (.iconst 1, 1) := by decide +kernel
theorem dX9_drop_21 : decode cX9_drop 21 = .ok (.invokevirtual 71, 3) := by decide +kernel
theorem dX9_drop_24 : decode cX9_drop 24 = .ok (.ireturn, 1) := by decide +kernel
theorem dX9_drop_25 : decode cX9_drop 25 = .ok (.aload_n 0, 1) := by decide +kernel
theorem dX9_drop_26 : decode cX9_drop 26 = .ok (.getfield 13, 3) := by decide +kernel
theorem dX9_drop_29 : decode cX9_drop 29 = .ok (.iload_n 1, 1) := by decide +kernel
theorem dX9_drop_30 : decode cX9_drop 30 = .ok (.iaload, 1) := by decide +kernel
theorem dX9_drop_31 : decode cX9_drop 31 = .ok (.istore_n 2, 1) := by decide +kernel
theorem dX9_drop_32 : decode cX9_drop 32 = .ok (.aload_n 0, 1) := by decide +kernel
theorem dX9_drop_33 : decode cX9_drop 33 = .ok (.getfield 13, 3) := by decide +kernel
theorem dX9_drop_36 : decode cX9_drop 36 = .ok (.iload_n 1, 1) := by decide +kernel
theorem dX9_drop_37 : decode cX9_drop 37 = .ok (.iconst (-1), 1) := by decide +kernel
theorem dX9_drop_38 : decode cX9_drop 38 = .ok (.iastore, 1) := by decide +kernel
theorem dX9_drop_39 : decode cX9_drop 39 = .ok (.aload_n 0, 1) := by decide +kernel
theorem dX9_drop_40 : decode cX9_drop 40 = .ok (.iload_n 2, 1) := by decide +kernel
theorem dX9_drop_41 : decode cX9_drop 41 = .ok (.invokevirtual 75, 3) := by decide +kernel
theorem dX9_drop_44 : decode cX9_drop 44 = .ok (.ireturn, 1) := by decide +kernel
theorem dX9_feed_0 : decode cX9_feed 0 = .ok (.iload_n 1, 1) := by decide +kernel
theorem dX9_feed_1 : decode cX9_feed 1 = .ok (.i2l, 1) := by decide +kernel
theorem dX9_feed_2 : decode cX9_feed 2 = .ok (.lconst 0, 1) := by decide +kernel
theorem dX9_feed_3 : decode cX9_feed 3 = .ok (.ldc2_w 78, 3) := by decide +kernel
theorem dX9_feed_6 : decode cX9_feed 6 = .ok (.invokestatic 60, 3) := by decide +kernel
theorem dX9_feed_9 : decode cX9_feed 9 = .ok (.ifCond .ne 6, 3) := by decide +kernel
theorem dX9_feed_12 : decode cX9_feed 12 = .ok (.ldc 70, 2) := by decide +kernel
theorem dX9_feed_14 : decode cX9_feed 14 = .ok (.ireturn, 1) := by decide +kernel
theorem dX9_feed_15 : decode cX9_feed 15 = .ok (.aload_n 0, 1) := by decide +kernel
theorem dX9_feed_16 : decode cX9_feed 16 = .ok (.getfield 80, 3) := by decide +kernel
theorem dX9_feed_19 : decode cX9_feed 19 = .ok (.bipush 120, 2) := by decide +kernel
theorem dX9_feed_21 : decode cX9_feed 21 = .ok (.if_icmp .ne 6, 3) := by decide +kernel
theorem dX9_feed_24 : decode cX9_feed 24 = .ok (.ldc 83, 2) := by decide +kernel
theorem dX9_feed_26 : decode cX9_feed 26 = .ok (.ireturn, 1) := by decide +kernel
theorem dX9_feed_27 : decode cX9_feed 27 = .ok (.aload_n 0, 1) := by decide +kernel
theorem dX9_feed_28 : decode cX9_feed 28 = .ok (.getfield 19, 3) := by decide +kernel
theorem dX9_feed_31 : decode cX9_feed 31 = .ok (.aload_n 0, 1) := by decide +kernel
theorem dX9_feed_32 : decode cX9_feed 32 = .ok (.getfield 80, 3) := by decide +kernel
theorem dX9_feed_35 : decode cX9_feed 35 = .ok (.iload_n 1, 1) := by decide +kernel
theorem dX9_feed_36 : decode cX9_feed 36 = .ok (.iastore, 1) := by decide +kernel
theorem dX9_feed_37 : decode cX9_feed 37 = .ok (.aload_n 0, 1) := by decide +kernel
theorem dX9_feed_38 : decode cX9_feed 38 = .ok (.dup, 1) := by decide +kernel
theorem dX9_feed_39 : decode cX9_feed 39 = .ok (.getfield 80, 3) := by decide +kernel
theorem dX9_feed_42 : decode cX9_feed 42 = .ok (.iconst 1, 1) := by decide +kernel
theorem dX9_feed_43 : decode cX9_feed 43 = .ok (.iadd, 1) := by decide +kernel
theorem dX9_feed_44 : decode cX9_feed 44 = .ok (.putfield 80, 3) := by decide +kernel
theorem dX9_feed_47 : decode cX9_feed 47 = .ok (.aload_n 0, 1) := by decide +kernel
theorem dX9_feed_48 : decode cX9_feed 48 = .ok (.getfield 80, 3) := by decide +kernel
theorem dX9_feed_51 : decode cX9_feed 51 = .ok (.ireturn, 1) := by decide +kernel
theorem dX9_isFigure_0 : decode cX9_isFigure 0 = .ok (.iload_n 0, 1) := by decide +kernel
theorem dX9_isFigure_1 : decode cX9_isFigure 1 = .ok (.i2l, 1) := by decide +kernel
theorem dX9_isFigure_2 : decode cX9_isFigure 2 = .ok (.ldc2_w 84, 3) := by decide +kernel
theorem dX9_isFigure_5 : decode cX9_isFigure 5 = .ok (.ldc2_w 86, 3) := by decide +kernel
theorem dX9_isFigure_8 : decode cX9_isFigure 8 = .ok (.invokestatic 60, 3) := by decide +kernel
theorem dX9_isFigure_11 : decode cX9_isFigure 11 = .ok (.ireturn, 1) := by decide +kernel
theorem dX9_next_0 : decode cX9_next 0 = .ok (.aload_n 0, 1) := by decide +kernel
theorem dX9_next_1 : decode cX9_next 1 = .ok (.aload_n 0, 1) := by decide +kernel
theorem dX9_next_2 : decode cX9_next 2 = .ok (.getfield 88, 3) := by decide +kernel
theorem dX9_next_5 : decode cX9_next 5 = .ok (.putfield 91, 3) := by decide +kernel
theorem dX9_next_8 : decode cX9_next 8 = .ok (.aload_n 0, 1) := by decide +kernel
theorem dX9_next_9 : decode cX9_next 9 = .ok (.getfield 88, 3) := by decide +kernel
theorem dX9_next_12 : decode cX9_next 12 = .ok (.aload_n 0, 1) := by decide +kernel
theorem dX9_next_13 : decode cX9_next 13 = .ok (.getfield 94, 3) := by decide +kernel
theorem dX9_next_16 : decode cX9_next 16 = .ok (.if_icmp .ge 15, 3) := by decide +kernel
theorem dX9_next_19 : decode cX9_next 19 = .ok (.aload_n 0, 1) := by decide +kernel
theorem dX9_next_20 : decode cX9_next 20 = .ok (.getfield 19, 3) := by decide +kernel
theorem dX9_next_23 : decode cX9_next 23 = .ok (.aload_n 0, 1) := by decide +kernel
theorem dX9_next_24 : decode cX9_next 24 = .ok (.getfield 88, 3) := by decide +kernel
theorem dX9_next_27 : decode cX9_next 27 = .ok (.iaload, 1) := by decide +kernel
theorem dX9_next_28 : decode cX9_next 28 = .ok (.goto 4, 3) := by decide +kernel
theorem dX9_next_31 : decode cX9_next 31 = .ok (.iconst (-1), 1) := by decide +kernel
theorem dX9_next_32 : decode cX9_next 32 = .ok (.istore_n 1, 1) := by decide +kernel
theorem dX9_next_33 : decode cX9_next 33 = .ok (.aload_n 0, 1) := by decide +kernel
theorem dX9_next_34 : decode cX9_next 34 = .ok (.iload_n 1, 1) := by decide +kernel
theorem dX9_next_35 : decode cX9_next 35 = .ok (.ifCond .ge 7, 3) := by decide +kernel
theorem dX9_next_38 : decode cX9_next 38 = .ok (.iconst 0, 1) := by decide +kernel
theorem dX9_next_39 : decode cX9_next 39 = .ok (.goto 53, 3) := by decide +kernel
theorem dX9_next_42 : decode cX9_next 42 = .ok (.iload_n 1, 1) := by decide +kernel
theorem dX9_next_43 : decode cX9_next 43 = .ok (.i2l, 1) := by decide +kernel
theorem dX9_next_44 : decode cX9_next 44 = .ok (.ldc2_w 97, 3) := by decide +kernel
theorem dX9_next_47 : decode cX9_next 47 = .ok (.ldc2_w 99, 3) := by decide +kernel
theorem dX9_next_50 : decode cX9_next 50 = .ok (.invokestatic 60, 3) := by decide +kernel
theorem dX9_next_53 : decode cX9_next 53 = .ok (.ifCond .eq 7, 3) := by decide +kernel
theorem dX9_next_56 : decode cX9_next 56 = .ok (.iconst 1, 1) := by decide +kernel
theorem dX9_next_57 : decode cX9_next 57 = .ok (.goto 35, 3) := by decide +kernel
theorem dX9_next_60 : decode cX9_next 60 = .ok (.iload_n 1, 1) := by decide +kernel
theorem dX9_next_61 : decode cX9_next 61 = .ok (.invokestatic 101, 3) := by decide +kernel
theorem dX9_next_64 : decode cX9_next 64 = .ok (.ifCond .eq 7, 3) := by decide +kernel
theorem dX9_next_67 : decode cX9_next 67 = .ok (.iconst 2, 1) := by decide +kernel
theorem dX9_next_68 : decode cX9_next 68 = .ok (.goto 24, 3) := by decide +kernel
theorem dX9_next_71 : decode cX9_next 71 = .ok (.iload_n 1, 1) := by decide +kernel
theorem dX9_next_72 : decode cX9_next 72 = .ok (.bipush 44, 2) := by decide +kernel
theorem dX9_next_74 : decode cX9_next 74 = .ok (.if_icmp .ne 7, 3) := by decide +kernel
theorem dX9_next_77 : decode cX9_next 77 = .ok (.iconst 3, 1) := by decide +kernel
theorem dX9_next_78 : decode cX9_next 78 = .ok (.goto 14, 3) := by decide +kernel
theorem dX9_next_81 : decode cX9_next 81 = .ok (.iload_n 1, 1) := by decide +kernel
theorem dX9_next_82 : decode cX9_next 82 = .ok (.bipush 59, 2) := by decide +kernel
theorem dX9_next_84 : decode cX9_next 84 = .ok (.if_icmp .ne 7, 3) := by decide +kernel
theorem dX9_next_87 : decode cX9_next 87 = .ok (.iconst 4, 1) := by decide +kernel
theorem dX9_next_88 : decode cX9_next 88 = .ok (.goto 4, 3) := by decide +kernel
theorem dX9_next_91 : decode cX9_next 91 = .ok (.iconst 5, 1) := by decide +kernel
theorem dX9_next_92 : decode cX9_next 92 = .ok (.putfield 104, 3) := by decide +kernel
theorem dX9_next_95 : decode cX9_next 95 = .ok (.aload_n 0, 1) := by decide +kernel
theorem dX9_next_96 : decode cX9_next 96 = .ok (.aload_n 0, 1) := by decide +kernel
theorem dX9_next_97 : decode cX9_next 97 = .ok (.getfield 104, 3) := by decide +kernel
theorem dX9_next_100 : decode cX9_next 100 = .ok (.iconst 1, 1) := by decide +kernel
theorem dX9_next_101 : decode cX9_next 101 = .ok (.if_icmp .ne 7, 3) := by decide +kernel
theorem dX9_next_104 : decode cX9_next 104 = .ok (.iload_n 1, 1) := by decide +kernel
theorem dX9_next_105 : decode cX9_next 105 = .ok (.goto 4, 3) := by decide +kernel
theorem dX9_next_108 : decode cX9_next 108 = .ok (.iconst 0, 1) := by decide +kernel
theorem dX9_next_109 : decode cX9_next 109 = .ok (.putfield 107, 3) := by decide +kernel
theorem dX9_next_112 : decode cX9_next 112 = .ok (.aload_n 0, 1) := by decide +kernel
theorem dX9_next_113 : decode cX9_next 113 = .ok (.dup, 1) := by decide +kernel
theorem dX9_next_114 : decode cX9_next 114 = .ok (.getfield 88, 3) := by decide +kernel
theorem dX9_next_117 : decode cX9_next 117 = .ok (.aload_n 0, 1) := by decide +kernel
theorem dX9_next_118 : decode cX9_next 118 = .ok (.getfield 104, 3) := by decide +kernel
theorem dX9_next_121 : decode cX9_next 121 = .ok (.ifCond .le 15, 3) := by decide +kernel
theorem dX9_next_124 : decode cX9_next 124 = .ok (.aload_n 0, 1) := by decide +kernel
theorem dX9_next_125 : decode cX9_next 125 = .ok (.getfield 104, 3) := by decide +kernel
theorem dX9_next_128 : decode cX9_next 128 = .ok (.iconst 2, 1) := by decide +kernel
theorem dX9_next_129 : decode cX9_next 129 = .ok (.if_icmp .eq 7, 3) := by decide +kernel
theorem dX9_next_132 : decode cX9_next 132 = .ok (.iconst 1, 1) := by decide +kernel
theorem dX9_next_133 : decode cX9_next 133 = .ok (.goto 4, 3) := by decide +kernel
theorem dX9_next_136 : decode cX9_next 136 = .ok (.iconst 0, 1) := by decide +kernel
theorem dX9_next_137 : decode cX9_next 137 = .ok (.iadd, 1) := by decide +kernel
theorem dX9_next_138 : decode cX9_next 138 = .ok (.putfield 88, 3) := by decide +kernel
theorem dX9_next_141 : decode cX9_next 141 = .ok (.aload_n 0, 1) := by decide +kernel
theorem dX9_next_142 : decode cX9_next 142 = .ok (.getfield 104, 3) := by decide +kernel
theorem dX9_next_145 : decode cX9_next 145 = .ok (.iconst 2, 1) := by decide +kernel
theorem dX9_next_146 : decode cX9_next 146 = .ok (.if_icmp .ne 86, 3) := by decide +kernel
theorem dX9_next_149 : decode cX9_next 149 = .ok (.aload_n 0, 1) := by decide +kernel
theorem dX9_next_150 : decode cX9_next 150 = .ok (.getfield 88, 3) := by decide +kernel
theorem dX9_next_153 : decode cX9_next 153 = .ok (.aload_n 0, 1) := by decide +kernel
theorem dX9_next_154 : decode cX9_next 154 = .ok (.getfield 94, 3) := by decide +kernel
theorem dX9_next_157 : decode cX9_next 157 = .ok (.if_icmp .ge 75, 3) := by decide +kernel
theorem dX9_next_160 : decode cX9_next 160 = .ok (.aload_n 0, 1) := by decide +kernel
theorem dX9_next_161 : decode cX9_next 161 = .ok (.getfield 19, 3) := by decide +kernel
theorem dX9_next_164 : decode cX9_next 164 = .ok (.aload_n 0, 1) := by decide +kernel
theorem dX9_next_165 : decode cX9_next 165 = .ok (.getfield 88, 3) := by decide +kernel
theorem dX9_next_168 : decode cX9_next 168 = .ok (.iaload, 1) := by decide +kernel
theorem dX9_next_169 : decode cX9_next 169 = .ok (.invokestatic 101, 3) := by decide +kernel
theorem dX9_next_172 : decode cX9_next 172 = .ok (.ifCond .eq 60, 3) := by decide +kernel
theorem dX9_next_175 : decode cX9_next 175 = .ok (.aload_n 0, 1) := by decide +kernel
theorem dX9_next_176 : decode cX9_next 176 = .ok (.aload_n 0, 1) := by decide +kernel
theorem dX9_next_177 : decode cX9_next 177 = .ok (.getfield 88, 3) := by decide +kernel
theorem dX9_next_180 : decode cX9_next 180 = .ok (.aload_n 0, 1) := by decide +kernel
theorem dX9_next_181 : decode cX9_next 181 = .ok (.getfield 91, 3) := by decide +kernel
theorem dX9_next_184 : decode cX9_next 184 = .ok (.isub, 1) := by decide +kernel
theorem dX9_next_185 : decode cX9_next 185 = .ok (.iconst 2, 1) := by decide +kernel
theorem dX9_next_186 : decode cX9_next 186 = .ok (.if_icmp .ge 26, 3) := by decide +kernel
theorem dX9_next_189 : decode cX9_next 189 = .ok (.bipush 10, 2) := by decide +kernel
theorem dX9_next_191 : decode cX9_next 191 = .ok (.aload_n 0, 1) := by decide +kernel
theorem dX9_next_192 : decode cX9_next 192 = .ok (.getfield 107, 3) := by decide +kernel
theorem dX9_next_195 : decode cX9_next 195 = .ok (.imul, 1) := by decide +kernel
theorem dX9_next_196 : decode cX9_next 196 = .ok (.aload_n 0, 1) := by decide +kernel
theorem dX9_next_197 : decode cX9_next 197 = .ok (.getfield 19, 3) := by decide +kernel
theorem dX9_next_200 : decode cX9_next 200 = .ok (.aload_n 0, 1) := by decide +kernel
theorem dX9_next_201 : decode cX9_next 201 = .ok (.getfield 88, 3) := by decide +kernel
theorem dX9_next_204 : decode cX9_next 204 = .ok (.iaload, 1) := by decide +kernel
theorem dX9_next_205 : decode cX9_next 205 = .ok (.iadd, 1) := by decide +kernel
theorem dX9_next_206 : decode cX9_next 206 = .ok (.bipush 48, 2) := by decide +kernel
theorem dX9_next_208 : decode cX9_next 208 = .ok (.isub, 1) := by decide +kernel
theorem dX9_next_209 : decode cX9_next 209 = .ok (.goto 7, 3) := by decide +kernel
theorem dX9_next_212 : decode cX9_next 212 = .ok (.aload_n 0, 1) := by decide +kernel
theorem dX9_next_213 : decode cX9_next 213 = .ok (.getfield 107, 3) := by decide +kernel
theorem dX9_next_216 : decode cX9_next 216 = .ok (.putfield 107, 3) := by decide +kernel
theorem dX9_next_219 : decode cX9_next 219 = .ok (.aload_n 0, 1) := by decide +kernel
theorem dX9_next_220 : decode cX9_next 220 = .ok (.dup, 1) := by decide +kernel
theorem dX9_next_221 : decode cX9_next 221 = .ok (.getfield 88, 3) := by decide +kernel
theorem dX9_next_224 : decode cX9_next 224 = .ok (.iconst 1, 1) := by decide +kernel
theorem dX9_next_225 : decode cX9_next 225 = .ok (.iadd, 1) := by decide +kernel
theorem dX9_next_226 : decode cX9_next 226 = .ok (.putfield 88, 3) := by decide +kernel
theorem dX9_next_229 : decode cX9_next 229 = .ok (.goto (-88), 3) := by decide +kernel
theorem dX9_next_232 : decode cX9_next 232 = .ok (.aload_n 0, 1) := by decide +kernel
theorem dX9_next_233 : decode cX9_next 233 = .ok (.aload_n 0, 1) := by decide +kernel
theorem dX9_next_234 : decode cX9_next 234 = .ok (.getfield 104, 3) := by decide +kernel
theorem dX9_next_237 : decode cX9_next 237 = .ok (.iconst 2, 1) := by decide +kernel
theorem dX9_next_238 : decode cX9_next 238 = .ok (.if_icmp .ne 20, 3) := by decide +kernel
theorem dX9_next_241 : decode cX9_next 241 = .ok (.aload_n 0, 1) := by decide +kernel
theorem dX9_next_242 : decode cX9_next 242 = .ok (.getfield 88, 3) := by decide +kernel
theorem dX9_next_245 : decode cX9_next 245 = .ok (.aload_n 0, 1) := by decide +kernel
theorem dX9_next_246 : decode cX9_next 246 = .ok (.getfield 91, 3) := by decide +kernel
theorem dX9_next_249 : decode cX9_next 249 = .ok (.isub, 1) := by decide +kernel
theorem dX9_next_250 : decode cX9_next 250 = .ok (.iconst 2, 1) := by decide +kernel
theorem dX9_next_251 : decode cX9_next 251 = .ok (.if_icmp .le 7, 3) := by decide +kernel
theorem dX9_next_254 : decode cX9_next 254 = .ok (.iconst 5, 1) := by decide +kernel
theorem dX9_next_255 : decode cX9_next 255 = .ok (.goto 7, 3) := by decide +kernel
theorem dX9_next_258 : decode cX9_next 258 = .ok (.aload_n 0, 1) := by decide +kernel
theorem dX9_next_259 : decode cX9_next 259 = .ok (.getfield 104, 3) := by decide +kernel
theorem dX9_next_262 : decode cX9_next 262 = .ok (.putfield 104, 3) := by decide +kernel
theorem dX9_next_265 : decode cX9_next 265 = .ok (.return_, 1) := by decide +kernel
theorem dX9_fails_0 : decode cX9_fails 0 = .ok (.aload_n 0, 1) := by decide +kernel
theorem dX9_fails_1 : decode cX9_fails 1 = .ok (.iload_n 1, 1) := by decide +kernel
theorem dX9_fails_2 : decode cX9_fails 2 = .ok (.putfield 110, 3) := by decide +kernel
theorem dX9_fails_5 : decode cX9_fails 5 = .ok (.iconst 0, 1) := by decide +kernel
theorem dX9_fails_6 : decode cX9_fails 6 = .ok (.ireturn, 1) := by decide +kernel
theorem dX9_number_0 : decode cX9_number 0 = .ok (.aload_n 0, 1) := by decide +kernel
theorem dX9_number_1 : decode cX9_number 1 = .ok (.invokevirtual 113, 3) := by decide +kernel
theorem dX9_number_4 : decode cX9_number 4 = .ok (.aload_n 0, 1) := by decide +kernel
theorem dX9_number_5 : decode cX9_number 5 = .ok (.getfield 104, 3) := by decide +kernel
theorem dX9_number_8 : decode cX9_number 8 = .ok (.iconst 2, 1) := by decide +kernel
theorem dX9_number_9 : decode cX9_number 9 = .ok (.if_icmp .eq 9, 3) := by decide +kernel
theorem dX9_number_12 : decode cX9_number 12 = .ok (.aload_n 0, 1) := by decide +kernel
theorem dX9_number_13 : decode cX9_number 13 = .ok (.iconst 1, 1) := by decide +kernel
theorem dX9_number_14 : decode cX9_number 14 = .ok (.invokevirtual 116, 3) := by decide +kernel
theorem dX9_number_17 : decode cX9_number 17 = .ok (.ireturn, 1) := by decide +kernel
theorem dX9_number_18 : decode cX9_number 18 = .ok (.aload_n 0, 1) := by decide +kernel
theorem dX9_number_19 : decode cX9_number 19 = .ok (.getfield 107, 3) := by decide +kernel
theorem dX9_number_22 : decode cX9_number 22 = .ok (.i2l, 1) := by decide +kernel
theorem dX9_number_23 : decode cX9_number 23 = .ok (.iload_n 2, 1) := by decide +kernel
theorem dX9_number_24 : decode cX9_number 24 = .ok (.i2l, 1) := by decide +kernel
theorem dX9_number_25 : decode cX9_number 25 = .ok (.iload_n 3, 1) := by decide +kernel
theorem dX9_number_26 : decode cX9_number 26 = .ok (.i2l, 1) := by decide +kernel
theorem dX9_number_27 : decode cX9_number 27 = .ok (.invokestatic 60, 3) := by decide +kernel
theorem dX9_number_30 : decode cX9_number 30 = .ok (.ifCond .ne 9, 3) := by decide +kernel
theorem dX9_number_33 : decode cX9_number 33 = .ok (.aload_n 0, 1) := by decide +kernel
theorem dX9_number_34 : decode cX9_number 34 = .ok (.iconst 2, 1) := by decide +kernel
theorem dX9_number_35 : decode cX9_number 35 = .ok (.invokevirtual 116, 3) := by decide +kernel
theorem dX9_number_38 : decode cX9_number 38 = .ok (.ireturn, 1) := by decide +kernel
theorem dX9_number_39 : decode cX9_number 39 = .ok (.aload_n 0, 1) := by decide +kernel
theorem dX9_number_40 : decode cX9_number 40 = .ok (.getfield 38, 3) := by decide +kernel
theorem dX9_number_43 : decode cX9_number 43 = .ok (.iload_n 1, 1) := by decide +kernel
theorem dX9_number_44 : decode cX9_number 44 = .ok (.aload_n 0, 1) := by decide +kernel
theorem dX9_number_45 : decode cX9_number 45 = .ok (.getfield 107, 3) := by decide +kernel
theorem dX9_number_48 : decode cX9_number 48 = .ok (.iastore, 1) := by decide +kernel
theorem dX9_number_49 : decode cX9_number 49 = .ok (.iconst 1, 1) := by decide +kernel
theorem dX9_number_50 : decode cX9_number 50 = .ok (.ireturn, 1) := by decide +kernel
theorem dX9_sign_0 : decode cX9_sign 0 = .ok (.aload_n 0, 1) := by decide +kernel
theorem dX9_sign_1 : decode cX9_sign 1 = .ok (.invokevirtual 113, 3) := by decide +kernel
theorem dX9_sign_4 : decode cX9_sign 4 = .ok (.aload_n 0, 1) := by decide +kernel
theorem dX9_sign_5 : decode cX9_sign 5 = .ok (.getfield 104, 3) := by decide +kernel
theorem dX9_sign_8 : decode cX9_sign 8 = .ok (.iload_n 1, 1) := by decide +kernel
theorem dX9_sign_9 : decode cX9_sign 9 = .ok (.if_icmp .eq 11, 3) := by decide +kernel
theorem dX9_sign_12 : decode cX9_sign 12 = .ok (.aload_n 0, 1) := by decide +kernel
theorem dX9_sign_13 : decode cX9_sign 13 = .ok (.iconst 1, 1) := by decide +kernel
theorem dX9_sign_14 : decode cX9_sign 14 = .ok (.invokevirtual 116, 3) := by decide +kernel
theorem dX9_sign_17 : decode cX9_sign 17 = .ok (.ifCond .eq 7, 3) := by decide +kernel
theorem dX9_sign_20 : decode cX9_sign 20 = .ok (.iconst 1, 1) := by decide +kernel
theorem dX9_sign_21 : decode cX9_sign 21 = .ok (.goto 4, 3) := by decide +kernel
theorem dX9_sign_24 : decode cX9_sign 24 = .ok (.iconst 0, 1) := by decide +kernel
theorem dX9_sign_25 : decode cX9_sign 25 = .ok (.ireturn, 1) := by decide +kernel
theorem dX9_readsLaw_0 : decode cX9_readsLaw 0 = .ok (.aload_n 0, 1) := by decide +kernel
theorem dX9_readsLaw_1 : decode cX9_readsLaw 1 = .ok (.invokevirtual 113, 3) := by decide +kernel
theorem dX9_readsLaw_4 : decode cX9_readsLaw 4 = .ok (.aload_n 0, 1) := by decide +kernel
theorem dX9_readsLaw_5 : decode cX9_readsLaw 5 = .ok (.getfield 104, 3) := by decide +kernel
theorem dX9_readsLaw_8 : decode cX9_readsLaw 8 = .ok (.iconst 1, 1) := by decide +kernel
theorem dX9_readsLaw_9 : decode cX9_readsLaw 9 = .ok (.if_icmp .ne 12, 3) := by decide +kernel
theorem dX9_readsLaw_12 : decode cX9_readsLaw 12 = .ok (.aload_n 0, 1) := by decide +kernel
theorem dX9_readsLaw_13 : decode cX9_readsLaw 13 = .ok (.getfield 107, 3) := by decide +kernel
theorem dX9_readsLaw_16 : decode cX9_readsLaw 16 = .ok (.bipush 111, 2) := by decide +kernel
theorem dX9_readsLaw_18 : decode cX9_readsLaw 18 = .ok (.if_icmp .eq 9, 3) := by decide +kernel
theorem dX9_readsLaw_21 : decode cX9_readsLaw 21 = .ok (.aload_n 0, 1) := by decide +kernel
theorem dX9_readsLaw_22 : decode cX9_readsLaw 22 = .ok (.iconst 1, 1) := by decide +kernel
theorem dX9_readsLaw_23 : decode cX9_readsLaw 23 = .ok (.invokevirtual 116, 3) := by decide +kernel
theorem dX9_readsLaw_26 : decode cX9_readsLaw 26 = .ok (.ireturn, 1) := by decide +kernel
theorem dX9_readsLaw_27 : decode cX9_readsLaw 27 = .ok (.aload_n 0, 1) := by decide +kernel
theorem dX9_readsLaw_28 : decode cX9_readsLaw 28 = .ok (.iconst 0, 1) := by decide +kernel
theorem dX9_readsLaw_29 : decode cX9_readsLaw 29 = .ok (.iconst 0, 1) := by decide +kernel
theorem dX9_readsLaw_30 : decode cX9_readsLaw 30 = .ok (.bipush 20, 2) := by decide +kernel
theorem dX9_readsLaw_32 : decode cX9_readsLaw 32 = .ok (.invokevirtual 119, 3) := by decide +kernel
theorem dX9_readsLaw_35 : decode cX9_readsLaw 35 = .ok (.ifCond .eq 53, 3) := by decide +kernel
theorem dX9_readsLaw_38 : decode cX9_readsLaw 38 = .ok (.aload_n 0, 1) := by decide +kernel
theorem dX9_readsLaw_39 : decode cX9_readsLaw 39 = .ok (.iconst 3, 1) := by decide +kernel
theorem dX9_readsLaw_40 : decode cX9_readsLaw 40 = .ok (.invokevirtual 123, 3) := by decide +kernel
theorem dX9_readsLaw_43 : decode cX9_readsLaw 43 = .ok (.ifCond .eq 45, 3) := by decide +kernel
theorem dX9_readsLaw_46 : decode cX9_readsLaw 46 = .ok (.aload_n 0, 1) := by decide +kernel
theorem dX9_readsLaw_47 : decode cX9_readsLaw 47 = .ok (.iconst 1, 1) := by decide +kernel
theorem dX9_readsLaw_48 : decode cX9_readsLaw 48 = .ok (.iconst 1, 1) := by decide +kernel
theorem dX9_readsLaw_49 : decode cX9_readsLaw 49 = .ok (.bipush 40, 2) := by decide +kernel
theorem dX9_readsLaw_51 : decode cX9_readsLaw 51 = .ok (.invokevirtual 119, 3) := by decide +kernel
theorem dX9_readsLaw_54 : decode cX9_readsLaw 54 = .ok (.ifCond .eq 34, 3) := by decide +kernel
theorem dX9_readsLaw_57 : decode cX9_readsLaw 57 = .ok (.aload_n 0, 1) := by decide +kernel
theorem dX9_readsLaw_58 : decode cX9_readsLaw 58 = .ok (.iconst 3, 1) := by decide +kernel
theorem dX9_readsLaw_59 : decode cX9_readsLaw 59 = .ok (.invokevirtual 123, 3) := by decide +kernel
theorem dX9_readsLaw_62 : decode cX9_readsLaw 62 = .ok (.ifCond .eq 26, 3) := by decide +kernel
theorem dX9_readsLaw_65 : decode cX9_readsLaw 65 = .ok (.aload_n 0, 1) := by decide +kernel
theorem dX9_readsLaw_66 : decode cX9_readsLaw 66 = .ok (.iconst 2, 1) := by decide +kernel
theorem dX9_readsLaw_67 : decode cX9_readsLaw 67 = .ok (.iconst 0, 1) := by decide +kernel
theorem dX9_readsLaw_68 : decode cX9_readsLaw 68 = .ok (.bipush 9, 2) := by decide +kernel
theorem dX9_readsLaw_70 : decode cX9_readsLaw 70 = .ok (.invokevirtual 119, 3) := by decide +kernel
theorem dX9_readsLaw_73 : decode cX9_readsLaw 73 = .ok (.ifCond .eq 15, 3) := by decide +kernel
theorem dX9_readsLaw_76 : decode cX9_readsLaw 76 = .ok (.aload_n 0, 1) := by decide +kernel
theorem dX9_readsLaw_77 : decode cX9_readsLaw 77 = .ok (.iconst 4, 1) := by decide +kernel
theorem dX9_readsLaw_78 : decode cX9_readsLaw 78 = .ok (.invokevirtual 123, 3) := by decide +kernel
theorem dX9_readsLaw_81 : decode cX9_readsLaw 81 = .ok (.ifCond .eq 7, 3) := by decide +kernel
theorem dX9_readsLaw_84 : decode cX9_readsLaw 84 = .ok (.iconst 1, 1) := by decide +kernel
theorem dX9_readsLaw_85 : decode cX9_readsLaw 85 = .ok (.goto 4, 3) := by decide +kernel
theorem dX9_readsLaw_88 : decode cX9_readsLaw 88 = .ok (.iconst 0, 1) := by decide +kernel
theorem dX9_readsLaw_89 : decode cX9_readsLaw 89 = .ok (.ireturn, 1) := by decide +kernel
theorem dX9_sortOf_0 : decode cX9_sortOf 0 = .ok (.iload_n 0, 1) := by decide +kernel
theorem dX9_sortOf_1 : decode cX9_sortOf 1 = .ok (.bipush 100, 2) := by decide +kernel
theorem dX9_sortOf_3 : decode cX9_sortOf 3 = .ok (.if_icmp .ne 7, 3) := by decide +kernel
theorem dX9_sortOf_6 : decode cX9_sortOf 6 = .ok (.iconst 1, 1) := by decide +kernel
theorem dX9_sortOf_7 : decode cX9_sortOf 7 = .ok (.goto 44, 3) := by decide +kernel
theorem dX9_sortOf_10 : decode cX9_sortOf 10 = .ok (.iload_n 0, 1) := by decide +kernel
theorem dX9_sortOf_11 : decode cX9_sortOf 11 = .ok (.bipush 103, 2) := by decide +kernel
theorem dX9_sortOf_13 : decode cX9_sortOf 13 = .ok (.if_icmp .ne 7, 3) := by decide +kernel
theorem dX9_sortOf_16 : decode cX9_sortOf 16 = .ok (.iconst 2, 1) := by decide +kernel
theorem dX9_sortOf_17 : decode cX9_sortOf 17 = .ok (.goto 34, 3) := by decide +kernel
theorem dX9_sortOf_20 : decode cX9_sortOf 20 = .ok (.iload_n 0, 1) := by decide +kernel
theorem dX9_sortOf_21 : decode cX9_sortOf 21 = .ok (.bipush 119, 2) := by decide +kernel
theorem dX9_sortOf_23 : decode cX9_sortOf 23 = .ok (.if_icmp .ne 7, 3) := by decide +kernel
theorem dX9_sortOf_26 : decode cX9_sortOf 26 = .ok (.iconst 3, 1) := by decide +kernel
theorem dX9_sortOf_27 : decode cX9_sortOf 27 = .ok (.goto 24, 3) := by decide +kernel
theorem dX9_sortOf_30 : decode cX9_sortOf 30 = .ok (.iload_n 0, 1) := by decide +kernel
theorem dX9_sortOf_31 : decode cX9_sortOf 31 = .ok (.bipush 98, 2) := by decide +kernel
theorem dX9_sortOf_33 : decode cX9_sortOf 33 = .ok (.if_icmp .ne 7, 3) := by decide +kernel
theorem dX9_sortOf_36 : decode cX9_sortOf 36 = .ok (.iconst 4, 1) := by decide +kernel
theorem dX9_sortOf_37 : decode cX9_sortOf 37 = .ok (.goto 14, 3) := by decide +kernel
theorem dX9_sortOf_40 : decode cX9_sortOf 40 = .ok (.iload_n 0, 1) := by decide +kernel
theorem dX9_sortOf_41 : decode cX9_sortOf 41 = .ok (.bipush 114, 2) := by decide +kernel
theorem dX9_sortOf_43 : decode cX9_sortOf 43 = .ok (.if_icmp .ne 7, 3) := by decide +kernel
theorem dX9_sortOf_46 : decode cX9_sortOf 46 = .ok (.iconst 5, 1) := by decide +kernel
theorem dX9_sortOf_47 : decode cX9_sortOf 47 = .ok (.goto 4, 3) := by decide +kernel
theorem dX9_sortOf_50 : decode cX9_sortOf 50 = .ok (.iconst 0, 1) := by decide +kernel
theorem dX9_sortOf_51 : decode cX9_sortOf 51 = .ok (.ireturn, 1) := by decide +kernel
theorem dX9_readsDrinker_0 : decode cX9_readsDrinker 0 = .ok (.aload_n 0, 1) := by decide +kernel
theorem dX9_readsDrinker_1 : decode cX9_readsDrinker 1 = .ok (.getfield 38, 3) := by decide +kernel
theorem dX9_readsDrinker_4 : decode cX9_readsDrinker 4 = .ok (.iconst 3, 1) := by decide +kernel
theorem dX9_readsDrinker_5 : decode cX9_readsDrinker 5 = .ok (.iaload, 1) := by decide +kernel
theorem dX9_readsDrinker_6 : decode cX9_readsDrinker 6 = .ok (.istore_n 2, 1) := by decide +kernel
theorem dX9_readsDrinker_7 : decode cX9_readsDrinker 7 = .ok (.iload_n 2, 1) := by decide +kernel
theorem dX9_readsDrinker_8 : decode cX9_readsDrinker 8 = .ok (.bipush 6, 2) := by decide +kernel
theorem dX9_readsDrinker_10 : decode cX9_readsDrinker 10 = .ok (.if_icmp .ne 9, 3) := by decide +kernel
theorem dX9_readsDrinker_13 : decode cX9_readsDrinker 13 = .ok (.aload_n 0, 1) := by decide +kernel
theorem dX9_readsDrinker_14 : decode cX9_readsDrinker 14 = .ok (.iconst 3, 1) := by decide +kernel
theorem dX9_readsDrinker_15 : decode cX9_readsDrinker 15 = .ok (.invokevirtual 116, 3) := by decide +kernel
theorem dX9_readsDrinker_18 : decode cX9_readsDrinker 18 = .ok (.ireturn, 1) := by decide +kernel
theorem dX9_readsDrinker_19 : decode cX9_readsDrinker 19 = .ok (.aload_n 0, 1) := by decide +kernel
theorem dX9_readsDrinker_20 : decode cX9_readsDrinker 20 = .ok (.getfield 38, 3) := by decide +kernel
theorem dX9_readsDrinker_23 : decode cX9_readsDrinker 23 = .ok (.bipush 6, 2) := by decide +kernel
theorem dX9_readsDrinker_25 : decode cX9_readsDrinker 25 = .ok (.iload_n 2, 1) := by decide +kernel
theorem dX9_readsDrinker_26 : decode cX9_readsDrinker 26 = .ok (.iadd, 1) := by decide +kernel
