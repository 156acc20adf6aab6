theorem dX9_fewest_23 : decode cX9_fewest 23 = .ok (.iload_n 2, 1) := by decide +kernel
theorem dX9_fewest_24 : decode cX9_fewest 24 = .ok (.iload_n 3, 1) := by decide +kernel
theorem dX9_fewest_25 : decode cX9_fewest 25 = .ok (.iand, 1) := by decide +kernel
theorem dX9_fewest_26 : decode cX9_fewest 26 = .ok (.ifCond .ne 11, 3) := by decide +kernel
theorem dX9_fewest_29 : decode cX9_fewest 29 = .ok (.iload 4, 2) := by decide +kernel
theorem dX9_fewest_31 : decode cX9_fewest 31 = .ok (.invokestatic 242, 3) := by decide +kernel
theorem dX9_fewest_34 : decode cX9_fewest 34 = .ok (.ifCond .ne 6, 3) := by decide +kernel
theorem dX9_fewest_37 : decode cX9_fewest 37 = .ok (.ldc 70, 2) := by decide +kernel
theorem dX9_fewest_39 : decode cX9_fewest 39 = .ok (.ireturn, 1) := by decide +kernel
theorem dX9_fewest_40 : decode cX9_fewest 40 = .ok (.aload_n 0, 1) := by decide +kernel
theorem dX9_fewest_41 : decode cX9_fewest 41 = .ok (.getfield 22, 3) := by decide +kernel
theorem dX9_fewest_44 : decode cX9_fewest 44 = .ok (.bipush 44, 2) := by decide +kernel
theorem dX9_fewest_46 : decode cX9_fewest 46 = .ok (.iload_n 1, 1) := by decide +kernel
theorem dX9_fewest_47 : decode cX9_fewest 47 = .ok (.iadd, 1) := by decide +kernel
theorem dX9_fewest_48 : decode cX9_fewest 48 = .ok (.iaload, 1) := by decide +kernel
theorem dX9_fewest_49 : decode cX9_fewest 49 = .ok (.ifCond .ne 6, 3) := by decide +kernel
theorem dX9_fewest_52 : decode cX9_fewest 52 = .ok (.ldc 198, 2) := by decide +kernel
theorem dX9_fewest_54 : decode cX9_fewest 54 = .ok (.ireturn, 1) := by decide +kernel
theorem dX9_fewest_55 : decode cX9_fewest 55 = .ok (.iload_n 2, 1) := by decide +kernel
theorem dX9_fewest_56 : decode cX9_fewest 56 = .ok (.ifCond .ne 7, 3) := by decide +kernel
theorem dX9_fewest_59 : decode cX9_fewest 59 = .ok (.iconst 0, 1) := by decide +kernel
theorem dX9_fewest_60 : decode cX9_fewest 60 = .ok (.goto 5, 3) := by decide +kernel
theorem dX9_fewest_63 : decode cX9_fewest 63 = .ok (.ldc 231, 2) := by decide +kernel
theorem dX9_fewest_65 : decode cX9_fewest 65 = .ok (.istore 5, 2) := by decide +kernel
theorem dX9_fewest_67 : decode cX9_fewest 67 = .ok (.iconst 1, 1) := by decide +kernel
theorem dX9_fewest_68 : decode cX9_fewest 68 = .ok (.istore 6, 2) := by decide +kernel
theorem dX9_fewest_70 : decode cX9_fewest 70 = .ok (.aload_n 0, 1) := by decide +kernel
theorem dX9_fewest_71 : decode cX9_fewest 71 = .ok (.iload 6, 2) := by decide +kernel
theorem dX9_fewest_73 : decode cX9_fewest 73 = .ok (.invokevirtual 232, 3) := by decide +kernel
theorem dX9_fewest_76 : decode cX9_fewest 76 = .ok (.ifCond .eq 73, 3) := by decide +kernel
theorem dX9_fewest_79 : decode cX9_fewest 79 = .ok (.iload_n 2, 1) := by decide +kernel
theorem dX9_fewest_80 : decode cX9_fewest 80 = .ok (.ifCond .eq 69, 3) := by decide +kernel
theorem dX9_fewest_83 : decode cX9_fewest 83 = .ok (.iload 5, 2) := by decide +kernel
theorem dX9_fewest_85 : decode cX9_fewest 85 = .ok (.ldc 231, 2) := by decide +kernel
theorem dX9_fewest_87 : decode cX9_fewest 87 = .ok (.if_icmp .eq 16, 3) := by decide +kernel
theorem dX9_fewest_90 : decode cX9_fewest 90 = .ok (.iload 6, 2) := by decide +kernel
theorem dX9_fewest_92 : decode cX9_fewest 92 = .ok (.invokestatic 239, 3) := by decide +kernel
theorem dX9_fewest_95 : decode cX9_fewest 95 = .ok (.iload 5, 2) := by decide +kernel
theorem dX9_fewest_97 : decode cX9_fewest 97 = .ok (.invokestatic 239, 3) := by decide +kernel
theorem dX9_fewest_100 : decode cX9_fewest 100 = .ok (.if_icmp .ge 43, 3) := by decide +kernel
theorem dX9_fewest_103 : decode cX9_fewest 103 = .ok (.aload_n 0, 1) := by decide +kernel
theorem dX9_fewest_104 : decode cX9_fewest 104 = .ok (.aload_n 0, 1) := by decide +kernel
theorem dX9_fewest_105 : decode cX9_fewest 105 = .ok (.getfield 22, 3) := by decide +kernel
theorem dX9_fewest_108 : decode cX9_fewest 108 = .ok (.iload_n 1, 1) := by decide +kernel
theorem dX9_fewest_109 : decode cX9_fewest 109 = .ok (.iload 6, 2) := by decide +kernel
theorem dX9_fewest_111 : decode cX9_fewest 111 = .ok (.iconst 0, 1) := by decide +kernel
theorem dX9_fewest_112 : decode cX9_fewest 112 = .ok (.invokevirtual 191, 3) := by decide +kernel
theorem dX9_fewest_115 : decode cX9_fewest 115 = .ok (.aload_n 0, 1) := by decide +kernel
theorem dX9_fewest_116 : decode cX9_fewest 116 = .ok (.getfield 168, 3) := by decide +kernel
theorem dX9_fewest_119 : decode cX9_fewest 119 = .ok (.iload_n 2, 1) := by decide +kernel
theorem dX9_fewest_120 : decode cX9_fewest 120 = .ok (.iand, 1) := by decide +kernel
theorem dX9_fewest_121 : decode cX9_fewest 121 = .ok (.iload_n 2, 1) := by decide +kernel
theorem dX9_fewest_122 : decode cX9_fewest 122 = .ok (.if_icmp .ne 17, 3) := by decide +kernel
theorem dX9_fewest_125 : decode cX9_fewest 125 = .ok (.aload_n 0, 1) := by decide +kernel
theorem dX9_fewest_126 : decode cX9_fewest 126 = .ok (.getfield 168, 3) := by decide +kernel
theorem dX9_fewest_129 : decode cX9_fewest 129 = .ok (.iload_n 3, 1) := by decide +kernel
theorem dX9_fewest_130 : decode cX9_fewest 130 = .ok (.iand, 1) := by decide +kernel
theorem dX9_fewest_131 : decode cX9_fewest 131 = .ok (.ifCond .ne 8, 3) := by decide +kernel
theorem dX9_fewest_134 : decode cX9_fewest 134 = .ok (.iload 6, 2) := by decide +kernel
theorem dX9_fewest_136 : decode cX9_fewest 136 = .ok (.goto 5, 3) := by decide +kernel
theorem dX9_fewest_139 : decode cX9_fewest 139 = .ok (.iload 5, 2) := by decide +kernel
theorem dX9_fewest_141 : decode cX9_fewest 141 = .ok (.istore 5, 2) := by decide +kernel
theorem dX9_fewest_143 : decode cX9_fewest 143 = .ok (.iinc 6 1, 3) := by decide +kernel
theorem dX9_fewest_146 : decode cX9_fewest 146 = .ok (.goto (-76), 3) := by decide +kernel
theorem dX9_fewest_149 : decode cX9_fewest 149 = .ok (.iload 5, 2) := by decide +kernel
theorem dX9_fewest_151 : decode cX9_fewest 151 = .ok (.ldc 231, 2) := by decide +kernel
theorem dX9_fewest_153 : decode cX9_fewest 153 = .ok (.if_icmp .eq 9, 3) := by decide +kernel
theorem dX9_fewest_156 : decode cX9_fewest 156 = .ok (.iload 4, 2) := by decide +kernel
theorem dX9_fewest_158 : decode cX9_fewest 158 = .ok (.iconst 1, 1) := by decide +kernel
theorem dX9_fewest_159 : decode cX9_fewest 159 = .ok (.if_icmp .ne 8, 3) := by decide +kernel
theorem dX9_fewest_162 : decode cX9_fewest 162 = .ok (.iload 5, 2) := by decide +kernel
theorem dX9_fewest_164 : decode cX9_fewest 164 = .ok (.goto 8, 3) := by decide +kernel
theorem dX9_fewest_167 : decode cX9_fewest 167 = .ok (.iload 5, 2) := by decide +kernel
theorem dX9_fewest_169 : decode cX9_fewest 169 = .ok (.invokestatic 239, 3) := by decide +kernel
theorem dX9_fewest_172 : decode cX9_fewest 172 = .ok (.ireturn, 1) := by decide +kernel
theorem dX9_silence_0 : decode cX9_silence 0 = .ok (.iload_n 1, 1) := by decide +kernel
theorem dX9_silence_1 : decode cX9_silence 1 = .ok (.invokestatic 216, 3) := by decide +kernel
theorem dX9_silence_4 : decode cX9_silence 4 = .ok (.ifCond .eq 32, 3) := by decide +kernel
theorem dX9_silence_7 : decode cX9_silence 7 = .ok (.aload_n 0, 1) := by decide +kernel
theorem dX9_silence_8 : decode cX9_silence 8 = .ok (.iload_n 2, 1) := by decide +kernel
theorem dX9_silence_9 : decode cX9_silence 9 = .ok (.invokevirtual 199, 3) := by decide +kernel
theorem dX9_silence_12 : decode cX9_silence 12 = .ok (.ifCond .eq 24, 3) := by decide +kernel
theorem dX9_silence_15 : decode cX9_silence 15 = .ok (.aload_n 0, 1) := by decide +kernel
theorem dX9_silence_16 : decode cX9_silence 16 = .ok (.iload_n 3, 1) := by decide +kernel
theorem dX9_silence_17 : decode cX9_silence 17 = .ok (.invokevirtual 199, 3) := by decide +kernel
theorem dX9_silence_20 : decode cX9_silence 20 = .ok (.ifCond .eq 16, 3) := by decide +kernel
theorem dX9_silence_23 : decode cX9_silence 23 = .ok (.iload_n 2, 1) := by decide +kernel
theorem dX9_silence_24 : decode cX9_silence 24 = .ok (.iload_n 3, 1) := by decide +kernel
theorem dX9_silence_25 : decode cX9_silence 25 = .ok (.if_icmp .eq 11, 3) := by decide +kernel
theorem dX9_silence_28 : decode cX9_silence 28 = .ok (.iload 4, 2) := by decide +kernel
theorem dX9_silence_30 : decode cX9_silence 30 = .ok (.invokestatic 242, 3) := by decide +kernel
theorem dX9_silence_33 : decode cX9_silence 33 = .ok (.ifCond .ne 6, 3) := by decide +kernel
theorem dX9_silence_36 : decode cX9_silence 36 = .ok (.ldc 70, 2) := by decide +kernel
theorem dX9_silence_38 : decode cX9_silence 38 = .ok (.ireturn, 1) := by decide +kernel
theorem dX9_silence_39 : decode cX9_silence 39 = .ok (.aload_n 0, 1) := by decide +kernel
theorem dX9_silence_40 : decode cX9_silence 40 = .ok (.getfield 22, 3) := by decide +kernel
theorem dX9_silence_43 : decode cX9_silence 43 = .ok (.bipush 44, 2) := by decide +kernel
theorem dX9_silence_45 : decode cX9_silence 45 = .ok (.iload_n 1, 1) := by decide +kernel
theorem dX9_silence_46 : decode cX9_silence 46 = .ok (.iadd, 1) := by decide +kernel
theorem dX9_silence_47 : decode cX9_silence 47 = .ok (.iaload, 1) := by decide +kernel
theorem dX9_silence_48 : decode cX9_silence 48 = .ok (.ifCond .ne 6, 3) := by decide +kernel
theorem dX9_silence_51 : decode cX9_silence 51 = .ok (.ldc 198, 2) := by decide +kernel
theorem dX9_silence_53 : decode cX9_silence 53 = .ok (.ireturn, 1) := by decide +kernel
theorem dX9_silence_54 : decode cX9_silence 54 = .ok (.ldc 231, 2) := by decide +kernel
theorem dX9_silence_56 : decode cX9_silence 56 = .ok (.istore 5, 2) := by decide +kernel
theorem dX9_silence_58 : decode cX9_silence 58 = .ok (.iconst 0, 1) := by decide +kernel
theorem dX9_silence_59 : decode cX9_silence 59 = .ok (.istore 6, 2) := by decide +kernel
theorem dX9_silence_61 : decode cX9_silence 61 = .ok (.iload 6, 2) := by decide +kernel
theorem dX9_silence_63 : decode cX9_silence 63 = .ok (.iconst 1, 1) := by decide +kernel
theorem dX9_silence_64 : decode cX9_silence 64 = .ok (.aload_n 0, 1) := by decide +kernel
theorem dX9_silence_65 : decode cX9_silence 65 = .ok (.getfield 22, 3) := by decide +kernel
theorem dX9_silence_68 : decode cX9_silence 68 = .ok (.iconst 4, 1) := by decide +kernel
theorem dX9_silence_69 : decode cX9_silence 69 = .ok (.iaload, 1) := by decide +kernel
theorem dX9_silence_70 : decode cX9_silence 70 = .ok (.ishl, 1) := by decide +kernel
theorem dX9_silence_71 : decode cX9_silence 71 = .ok (.if_icmp .ge 61, 3) := by decide +kernel
theorem dX9_silence_74 : decode cX9_silence 74 = .ok (.iload 5, 2) := by decide +kernel
theorem dX9_silence_76 : decode cX9_silence 76 = .ok (.ldc 231, 2) := by decide +kernel
theorem dX9_silence_78 : decode cX9_silence 78 = .ok (.if_icmp .eq 16, 3) := by decide +kernel
theorem dX9_silence_81 : decode cX9_silence 81 = .ok (.iload 6, 2) := by decide +kernel
theorem dX9_silence_83 : decode cX9_silence 83 = .ok (.invokestatic 239, 3) := by decide +kernel
theorem dX9_silence_86 : decode cX9_silence 86 = .ok (.iload 5, 2) := by decide +kernel
theorem dX9_silence_88 : decode cX9_silence 88 = .ok (.invokestatic 239, 3) := by decide +kernel
theorem dX9_silence_91 : decode cX9_silence 91 = .ok (.if_icmp .ge 35, 3) := by decide +kernel
theorem dX9_silence_94 : decode cX9_silence 94 = .ok (.aload_n 0, 1) := by decide +kernel
theorem dX9_silence_95 : decode cX9_silence 95 = .ok (.aload_n 0, 1) := by decide +kernel
theorem dX9_silence_96 : decode cX9_silence 96 = .ok (.getfield 22, 3) := by decide +kernel
theorem dX9_silence_99 : decode cX9_silence 99 = .ok (.iload_n 1, 1) := by decide +kernel
theorem dX9_silence_100 : decode cX9_silence 100 = .ok (.iconst 1, 1) := by decide +kernel
theorem dX9_silence_101 : decode cX9_silence 101 = .ok (.iload_n 2, 1) := by decide +kernel
theorem dX9_silence_102 : decode cX9_silence 102 = .ok (.ishl, 1) := by decide +kernel
theorem dX9_silence_103 : decode cX9_silence 103 = .ok (.iload 6, 2) := by decide +kernel
theorem dX9_silence_105 : decode cX9_silence 105 = .ok (.invokevirtual 191, 3) := by decide +kernel
theorem dX9_silence_108 : decode cX9_silence 108 = .ok (.aload_n 0, 1) := by decide +kernel
theorem dX9_silence_109 : decode cX9_silence 109 = .ok (.getfield 47, 3) := by decide +kernel
theorem dX9_silence_112 : decode cX9_silence 112 = .ok (.iload_n 3, 1) := by decide +kernel
theorem dX9_silence_113 : decode cX9_silence 113 = .ok (.iaload, 1) := by decide +kernel
theorem dX9_silence_114 : decode cX9_silence 114 = .ok (.ifCond .ge 8, 3) := by decide +kernel
theorem dX9_silence_117 : decode cX9_silence 117 = .ok (.iload 6, 2) := by decide +kernel
theorem dX9_silence_119 : decode cX9_silence 119 = .ok (.goto 5, 3) := by decide +kernel
theorem dX9_silence_122 : decode cX9_silence 122 = .ok (.iload 5, 2) := by decide +kernel
theorem dX9_silence_124 : decode cX9_silence 124 = .ok (.istore 5, 2) := by decide +kernel
theorem dX9_silence_126 : decode cX9_silence 126 = .ok (.iinc 6 1, 3) := by decide +kernel
theorem dX9_silence_129 : decode cX9_silence 129 = .ok (.goto (-68), 3) := by decide +kernel
theorem dX9_silence_132 : decode cX9_silence 132 = .ok (.iload 5, 2) := by decide +kernel
theorem dX9_silence_134 : decode cX9_silence 134 = .ok (.ldc 231, 2) := by decide +kernel
theorem dX9_silence_136 : decode cX9_silence 136 = .ok (.if_icmp .eq 9, 3) := by decide +kernel
theorem dX9_silence_139 : decode cX9_silence 139 = .ok (.iload 4, 2) := by decide +kernel
theorem dX9_silence_141 : decode cX9_silence 141 = .ok (.iconst 1, 1) := by decide +kernel
theorem dX9_silence_142 : decode cX9_silence 142 = .ok (.if_icmp .ne 8, 3) := by decide +kernel
theorem dX9_silence_145 : decode cX9_silence 145 = .ok (.iload 5, 2) := by decide +kernel
theorem dX9_silence_147 : decode cX9_silence 147 = .ok (.goto 8, 3) := by decide +kernel
theorem dX9_silence_150 : decode cX9_silence 150 = .ok (.iload 5, 2) := by decide +kernel
theorem dX9_silence_152 : decode cX9_silence 152 = .ok (.invokestatic 239, 3) := by decide +kernel
theorem dX9_silence_155 : decode cX9_silence 155 = .ok (.ireturn, 1) := by decide +kernel
theorem dX9_twos_0 : decode cX9_twos 0 = .ok (.iload_n 1, 1) := by decide +kernel
theorem dX9_twos_1 : decode cX9_twos 1 = .ok (.invokestatic 216, 3) := by decide +kernel
theorem dX9_twos_4 : decode cX9_twos 4 = .ok (.ifCond .eq 23, 3) := by decide +kernel
theorem dX9_twos_7 : decode cX9_twos 7 = .ok (.iload_n 2, 1) := by decide +kernel
theorem dX9_twos_8 : decode cX9_twos 8 = .ok (.invokestatic 64, 3) := by decide +kernel
theorem dX9_twos_11 : decode cX9_twos 11 = .ok (.ifCond .eq 16, 3) := by decide +kernel
theorem dX9_twos_14 : decode cX9_twos 14 = .ok (.iload 4, 2) := by decide +kernel
theorem dX9_twos_16 : decode cX9_twos 16 = .ok (.i2l, 1) := by decide +kernel
theorem dX9_twos_17 : decode cX9_twos 17 = .ok (.lconst 1, 1) := by decide +kernel
theorem dX9_twos_18 : decode cX9_twos 18 = .ok (.ldc2_w 245, 3) := by decide +kernel
theorem dX9_twos_21 : decode cX9_twos 21 = .ok (.invokestatic 60, 3) := by decide +kernel
theorem dX9_twos_24 : decode cX9_twos 24 = .ok (.ifCond .ne 6, 3) := by decide +kernel
theorem dX9_twos_27 : decode cX9_twos 27 = .ok (.ldc 70, 2) := by decide +kernel
theorem dX9_twos_29 : decode cX9_twos 29 = .ok (.ireturn, 1) := by decide +kernel
theorem dX9_twos_30 : decode cX9_twos 30 = .ok (.aload_n 0, 1) := by decide +kernel
theorem dX9_twos_31 : decode cX9_twos 31 = .ok (.getfield 22, 3) := by decide +kernel
theorem dX9_twos_34 : decode cX9_twos 34 = .ok (.bipush 44, 2) := by decide +kernel
theorem dX9_twos_36 : decode cX9_twos 36 = .ok (.iload_n 1, 1) := by decide +kernel
theorem dX9_twos_37 : decode cX9_twos 37 = .ok (.iadd, 1) := by decide +kernel
theorem dX9_twos_38 : decode cX9_twos 38 = .ok (.iaload, 1) := by decide +kernel
theorem dX9_twos_39 : decode cX9_twos 39 = .ok (.ifCond .ne 6, 3) := by decide +kernel
theorem dX9_twos_42 : decode cX9_twos 42 = .ok (.ldc 198, 2) := by decide +kernel
theorem dX9_twos_44 : decode cX9_twos 44 = .ok (.ireturn, 1) := by decide +kernel
theorem dX9_twos_45 : decode cX9_twos 45 = .ok (.aload_n 0, 1) := by decide +kernel
theorem dX9_twos_46 : decode cX9_twos 46 = .ok (.getfield 13, 3) := by decide +kernel
theorem dX9_twos_49 : decode cX9_twos 49 = .ok (.iload_n 2, 1) := by decide +kernel
theorem dX9_twos_50 : decode cX9_twos 50 = .ok (.iaload, 1) := by decide +kernel
theorem dX9_twos_51 : decode cX9_twos 51 = .ok (.ifCond .ge 9, 3) := by decide +kernel
theorem dX9_twos_54 : decode cX9_twos 54 = .ok (.aload_n 0, 1) := by decide +kernel
theorem dX9_twos_55 : decode cX9_twos 55 = .ok (.iconst 1, 1) := by decide +kernel
theorem dX9_twos_56 : decode cX9_twos 56 = .ok (.invokevirtual 71, 3) := by decide +kernel
theorem dX9_twos_59 : decode cX9_twos 59 = .ok (.ireturn, 1) := by decide +kernel
theorem dX9_twos_60 : decode cX9_twos 60 = .ok (.iload_n 3, 1) := by decide +kernel
theorem dX9_twos_61 : decode cX9_twos 61 = .ok (.ifCond .lt 22, 3) := by decide +kernel
theorem dX9_twos_64 : decode cX9_twos 64 = .ok (.iload_n 3, 1) := by decide +kernel
theorem dX9_twos_65 : decode cX9_twos 65 = .ok (.i2l, 1) := by decide +kernel
theorem dX9_twos_66 : decode cX9_twos 66 = .ok (.iconst 2, 1) := by decide +kernel
theorem dX9_twos_67 : decode cX9_twos 67 = .ok (.iload 4, 2) := by decide +kernel
theorem dX9_twos_69 : decode cX9_twos 69 = .ok (.imul, 1) := by decide +kernel
theorem dX9_twos_70 : decode cX9_twos 70 = .ok (.i2l, 1) := by decide +kernel
theorem dX9_twos_71 : decode cX9_twos 71 = .ok (.ladd, 1) := by decide +kernel
theorem dX9_twos_72 : decode cX9_twos 72 = .ok (.aload_n 0, 1) := by decide +kernel
theorem dX9_twos_73 : decode cX9_twos 73 = .ok (.getfield 13, 3) := by decide +kernel
theorem dX9_twos_76 : decode cX9_twos 76 = .ok (.iload_n 2, 1) := by decide +kernel
theorem dX9_twos_77 : decode cX9_twos 77 = .ok (.iaload, 1) := by decide +kernel
theorem dX9_twos_78 : decode cX9_twos 78 = .ok (.i2l, 1) := by decide +kernel
theorem dX9_twos_79 : decode cX9_twos 79 = .ok (.lcmp, 1) := by decide +kernel
theorem dX9_twos_80 : decode cX9_twos 80 = .ok (.ifCond .le 9, 3) := by decide +kernel
theorem dX9_twos_83 : decode cX9_twos 83 = .ok (.aload_n 0, 1) := by decide +kernel
theorem dX9_twos_84 : decode cX9_twos 84 = .ok (.iconst 2, 1) := by decide +kernel
theorem dX9_twos_85 : decode cX9_twos 85 = .ok (.invokevirtual 71, 3) := by decide +kernel
theorem dX9_twos_88 : decode cX9_twos 88 = .ok (.ireturn, 1) := by decide +kernel
theorem dX9_twos_89 : decode cX9_twos 89 = .ok (.iconst 1, 1) := by decide +kernel
theorem dX9_twos_90 : decode cX9_twos 90 = .ok (.istore 5, 2) := by decide +kernel
theorem dX9_twos_92 : decode cX9_twos 92 = .ok (.iconst 0, 1) := by decide +kernel
theorem dX9_twos_93 : decode cX9_twos 93 = .ok (.istore 6, 2) := by decide +kernel
theorem dX9_twos_95 : decode cX9_twos 95 = .ok (.iload 6, 2) := by decide +kernel
theorem dX9_twos_97 : decode cX9_twos 97 = .ok (.iload 4, 2) := by decide +kernel
theorem dX9_twos_99 : decode cX9_twos 99 = .ok (.if_icmp .ge 44, 3) := by decide +kernel
theorem dX9_twos_102 : decode cX9_twos 102 = .ok (.iload 5, 2) := by decide +kernel
theorem dX9_twos_104 : decode cX9_twos 104 = .ok (.ifCond .eq 30, 3) := by decide +kernel
theorem dX9_twos_107 : decode cX9_twos 107 = .ok (.aload_n 0, 1) := by decide +kernel
theorem dX9_twos_108 : decode cX9_twos 108 = .ok (.aload_n 0, 1) := by decide +kernel
theorem dX9_twos_109 : decode cX9_twos 109 = .ok (.getfield 16, 3) := by decide +kernel
theorem dX9_twos_112 : decode cX9_twos 112 = .ok (.bipush 40, 2) := by decide +kernel
theorem dX9_twos_114 : decode cX9_twos 114 = .ok (.iload_n 2, 1) := by decide +kernel
theorem dX9_twos_115 : decode cX9_twos 115 = .ok (.imul, 1) := by decide +kernel
theorem dX9_twos_116 : decode cX9_twos 116 = .ok (.iload_n 3, 1) := by decide +kernel
theorem dX9_twos_117 : decode cX9_twos 117 = .ok (.iadd, 1) := by decide +kernel
theorem dX9_twos_118 : decode cX9_twos 118 = .ok (.iconst 2, 1) := by decide +kernel
theorem dX9_twos_119 : decode cX9_twos 119 = .ok (.iload 6, 2) := by decide +kernel
theorem dX9_twos_121 : decode cX9_twos 121 = .ok (.imul, 1) := by decide +kernel
theorem dX9_twos_122 : decode cX9_twos 122 = .ok (.iadd, 1) := by decide +kernel
theorem dX9_twos_123 : decode cX9_twos 123 = .ok (.iaload, 1) := by decide +kernel
theorem dX9_twos_124 : decode cX9_twos 124 = .ok (.invokevirtual 199, 3) := by decide +kernel
theorem dX9_twos_127 : decode cX9_twos 127 = .ok (.ifCond .eq 7, 3) := by decide +kernel
theorem dX9_twos_130 : decode cX9_twos 130 = .ok (.iconst 1, 1) := by decide +kernel
theorem dX9_twos_131 : decode cX9_twos 131 = .ok (.goto 4, 3) := by decide +kernel
theorem dX9_twos_134 : decode cX9_twos 134 = .ok (.iconst 0, 1) := by decide +kernel
theorem dX9_twos_135 : decode cX9_twos 135 = .ok (.istore 5, 2) := by decide +kernel
theorem dX9_twos_137 : decode cX9_twos 137 = .ok (.iinc 6 1, 3) := by decide +kernel
theorem dX9_twos_140 : decode cX9_twos 140 = .ok (.goto (-45), 3) := by decide +kernel
theorem dX9_twos_143 : decode cX9_twos 143 = .ok (.iload 5, 2) := by decide +kernel
theorem dX9_twos_145 : decode cX9_twos 145 = .ok (.ifCond .eq 7, 3) := by decide +kernel
theorem dX9_twos_148 : decode cX9_twos 148 = .ok (.iconst 0, 1) := by decide +kernel
theorem dX9_twos_149 : decode cX9_twos 149 = .ok (.goto 5, 3) := by decide +kernel
theorem dX9_twos_152 : decode cX9_twos 152 = .ok (.ldc 70, 2) := by decide +kernel
theorem dX9_twos_154 : decode cX9_twos 154 = .ok (.ireturn, 1) := by decide +kernel
theorem dX9_comesSo_0 : decode cX9_comesSo 0 = .ok (.iconst 1, 1) := by decide +kernel
theorem dX9_comesSo_1 : decode cX9_comesSo 1 = .ok (.istore 4, 2) := by decide +kernel
theorem dX9_comesSo_3 : decode cX9_comesSo 3 = .ok (.iconst 0, 1) := by decide +kernel
theorem dX9_comesSo_4 : decode cX9_comesSo 4 = .ok (.istore 5, 2) := by decide +kernel
theorem dX9_comesSo_6 : decode cX9_comesSo 6 = .ok (.iload 5, 2) := by decide +kernel
theorem dX9_comesSo_8 : decode cX9_comesSo 8 = .ok (.iload_n 3, 1) := by decide +kernel
theorem dX9_comesSo_9 : decode cX9_comesSo 9 = .ok (.if_icmp .ge 64, 3) := by decide +kernel
theorem dX9_comesSo_12 : decode cX9_comesSo 12 = .ok (.iload 4, 2) := by decide +kernel
theorem dX9_comesSo_14 : decode cX9_comesSo 14 = .ok (.ifCond .eq 59, 3) := by decide +kernel
theorem dX9_comesSo_17 : decode cX9_comesSo 17 = .ok (.aload_n 0, 1) := by decide +kernel
theorem dX9_comesSo_18 : decode cX9_comesSo 18 = .ok (.aload_n 0, 1) := by decide +kernel
theorem dX9_comesSo_19 : decode cX9_comesSo 19 = .ok (.getfield 50, 3) := by decide +kernel
theorem dX9_comesSo_22 : decode cX9_comesSo 22 = .ok (.iload_n 1, 1) := by decide +kernel
theorem dX9_comesSo_23 : decode cX9_comesSo 23 = .ok (.iconst 1, 1) := by decide +kernel
theorem dX9_comesSo_24 : decode cX9_comesSo 24 = .ok (.aload_n 0, 1) := by decide +kernel
theorem dX9_comesSo_25 : decode cX9_comesSo 25 = .ok (.getfield 16, 3) := by decide +kernel
theorem dX9_comesSo_28 : decode cX9_comesSo 28 = .ok (.iload_n 2, 1) := by decide +kernel
theorem dX9_comesSo_29 : decode cX9_comesSo 29 = .ok (.iconst 2, 1) := by decide +kernel
theorem dX9_comesSo_30 : decode cX9_comesSo 30 = .ok (.iload 5, 2) := by decide +kernel
theorem dX9_comesSo_32 : decode cX9_comesSo 32 = .ok (.imul, 1) := by decide +kernel
theorem dX9_comesSo_33 : decode cX9_comesSo 33 = .ok (.iadd, 1) := by decide +kernel
theorem dX9_comesSo_34 : decode cX9_comesSo 34 = .ok (.iaload, 1) := by decide +kernel
theorem dX9_comesSo_35 : decode cX9_comesSo 35 = .ok (.ishl, 1) := by decide +kernel
theorem dX9_comesSo_36 : decode cX9_comesSo 36 = .ok (.iconst 0, 1) := by decide +kernel
theorem dX9_comesSo_37 : decode cX9_comesSo 37 = .ok (.invokevirtual 191, 3) := by decide +kernel
theorem dX9_comesSo_40 : decode cX9_comesSo 40 = .ok (.aload_n 0, 1) := by decide +kernel
theorem dX9_comesSo_41 : decode cX9_comesSo 41 = .ok (.getfield 168, 3) := by decide +kernel
theorem dX9_comesSo_44 : decode cX9_comesSo 44 = .ok (.aload_n 0, 1) := by decide +kernel
theorem dX9_comesSo_45 : decode cX9_comesSo 45 = .ok (.getfield 16, 3) := by decide +kernel
theorem dX9_comesSo_48 : decode cX9_comesSo 48 = .ok (.iload_n 2, 1) := by decide +kernel
theorem dX9_comesSo_49 : decode cX9_comesSo 49 = .ok (.iconst 2, 1) := by decide +kernel
theorem dX9_comesSo_50 : decode cX9_comesSo 50 = .ok (.iload 5, 2) := by decide +kernel
theorem dX9_comesSo_52 : decode cX9_comesSo 52 = .ok (.imul, 1) := by decide +kernel
theorem dX9_comesSo_53 : decode cX9_comesSo 53 = .ok (.iadd, 1) := by decide +kernel
theorem dX9_comesSo_54 : decode cX9_comesSo 54 = .ok (.iconst 1, 1) := by decide +kernel
theorem dX9_comesSo_55 : decode cX9_comesSo 55 = .ok (.iadd, 1) := by decide +kernel
theorem dX9_comesSo_56 : decode cX9_comesSo 56 = .ok (.iaload, 1) := by decide +kernel
theorem dX9_comesSo_57 : decode cX9_comesSo 57 = .ok (.if_icmp .ne 7, 3) := by decide +kernel
theorem dX9_comesSo_60 : decode cX9_comesSo 60 = .ok (.iconst 1, 1) := by decide +kernel
theorem dX9_comesSo_61 : decode cX9_comesSo 61 = .ok (.goto 4, 3) := by decide +kernel
theorem dX9_comesSo_64 : decode cX9_comesSo 64 = .ok (.iconst 0, 1) := by decide +kernel
theorem dX9_comesSo_65 : decode cX9_comesSo 65 = .ok (.istore 4, 2) := by decide +kernel
theorem dX9_comesSo_67 : decode cX9_comesSo 67 = .ok (.iinc 5 1, 3) := by decide +kernel
theorem dX9_comesSo_70 : decode cX9_comesSo 70 = .ok (.goto (-64), 3) := by decide +kernel
theorem dX9_comesSo_73 : decode cX9_comesSo 73 = .ok (.iload 4, 2) := by decide +kernel
theorem dX9_comesSo_75 : decode cX9_comesSo 75 = .ok (.ireturn, 1) := by decide +kernel
theorem dX9_malts_0 : decode cX9_malts 0 = .ok (.aload_n 0, 1) := by decide +kernel
theorem dX9_malts_1 : decode cX9_malts 1 = .ok (.iload_n 1, 1) := by decide +kernel
theorem dX9_malts_2 : decode cX9_malts 2 = .ok (.iload_n 2, 1) := by decide +kernel
theorem dX9_malts_3 : decode cX9_malts 3 = .ok (.iload_n 3, 1) := by decide +kernel
theorem dX9_malts_4 : decode cX9_malts 4 = .ok (.iload 4, 2) := by decide +kernel
theorem dX9_malts_6 : decode cX9_malts 6 = .ok (.invokevirtual 247, 3) := by decide +kernel
theorem dX9_malts_9 : decode cX9_malts 9 = .ok (.istore 5, 2) := by decide +kernel
theorem dX9_malts_11 : decode cX9_malts 11 = .ok (.iload 5, 2) := by decide +kernel
theorem dX9_malts_13 : decode cX9_malts 13 = .ok (.ifCond .eq 6, 3) := by decide +kernel
theorem dX9_malts_16 : decode cX9_malts 16 = .ok (.iload 5, 2) := by decide +kernel
theorem dX9_malts_18 : decode cX9_malts 18 = .ok (.ireturn, 1) := by decide +kernel
theorem dX9_malts_19 : decode cX9_malts 19 = .ok (.aload_n 0, 1) := by decide +kernel
theorem dX9_malts_20 : decode cX9_malts 20 = .ok (.getfield 22, 3) := by decide +kernel
theorem dX9_malts_23 : decode cX9_malts 23 = .ok (.iconst 0, 1) := by decide +kernel
theorem dX9_malts_24 : decode cX9_malts 24 = .ok (.aload_n 0, 1) := by decide +kernel
theorem dX9_malts_25 : decode cX9_malts 25 = .ok (.getfield 50, 3) := by decide +kernel
theorem dX9_malts_28 : decode cX9_malts 28 = .ok (.iconst 0, 1) := by decide +kernel
theorem dX9_malts_29 : decode cX9_malts 29 = .ok (.invokestatic 150, 3) := by decide +kernel
theorem dX9_malts_32 : decode cX9_malts 32 = .ok (.iconst 0, 1) := by decide +kernel
theorem dX9_malts_33 : decode cX9_malts 33 = .ok (.istore 6, 2) := by decide +kernel
theorem dX9_malts_35 : decode cX9_malts 35 = .ok (.iconst 0, 1) := by decide +kernel
theorem dX9_malts_36 : decode cX9_malts 36 = .ok (.istore 7, 2) := by decide +kernel
theorem dX9_malts_38 : decode cX9_malts 38 = .ok (.iload 7, 2) := by decide +kernel
theorem dX9_malts_40 : decode cX9_malts 40 = .ok (.bipush 20, 2) := by decide +kernel
theorem dX9_malts_42 : decode cX9_malts 42 = .ok (.if_icmp .gt 49, 3) := by decide +kernel
theorem dX9_malts_45 : decode cX9_malts 45 = .ok (.aload_n 0, 1) := by decide +kernel
theorem dX9_malts_46 : decode cX9_malts 46 = .ok (.getfield 50, 3) := by decide +kernel
theorem dX9_malts_49 : decode cX9_malts 49 = .ok (.bipush 52, 2) := by decide +kernel
theorem dX9_malts_51 : decode cX9_malts 51 = .ok (.iload_n 1, 1) := by decide +kernel
theorem dX9_malts_52 : decode cX9_malts 52 = .ok (.iadd, 1) := by decide +kernel
theorem dX9_malts_53 : decode cX9_malts 53 = .ok (.iload 7, 2) := by decide +kernel
theorem dX9_malts_55 : decode cX9_malts 55 = .ok (.iastore, 1) := by decide +kernel
theorem dX9_malts_56 : decode cX9_malts 56 = .ok (.iload 6, 2) := by decide +kernel
theorem dX9_malts_58 : decode cX9_malts 58 = .ok (.aload_n 0, 1) := by decide +kernel
theorem dX9_malts_59 : decode cX9_malts 59 = .ok (.iload_n 1, 1) := by decide +kernel
theorem dX9_malts_60 : decode cX9_malts 60 = .ok (.bipush 40, 2) := by decide +kernel
theorem dX9_malts_62 : decode cX9_malts 62 = .ok (.iload_n 2, 1) := by decide +kernel
theorem dX9_malts_63 : decode cX9_malts 63 = .ok (.imul, 1) := by decide +kernel
theorem dX9_malts_64 : decode cX9_malts 64 = .ok (.iload_n 3, 1) := by decide +kernel
theorem dX9_malts_65 : decode cX9_malts 65 = .ok (.iadd, 1) := by decide +kernel
theorem dX9_malts_66 : decode cX9_malts 66 = .ok (.iload 4, 2) := by decide +kernel
theorem dX9_malts_68 : decode cX9_malts 68 = .ok (.invokevirtual 251, 3) := by decide +kernel
theorem dX9_malts_71 : decode cX9_malts 71 = .ok (.ifCond .eq 10, 3) := by decide +kernel
theorem dX9_malts_74 : decode cX9_malts 74 = .ok (.iconst 1, 1) := by decide +kernel
theorem dX9_malts_75 : decode cX9_malts 75 = .ok (.iload 7, 2) := by decide +kernel
theorem dX9_malts_77 : decode cX9_malts 77 = .ok (.ishl, 1) := by decide +kernel
theorem dX9_malts_78 : decode cX9_malts 78 = .ok (.goto 4, 3) := by decide +kernel
theorem dX9_malts_81 : decode cX9_malts 81 = .ok (.iconst 0, 1) := by decide +kernel
theorem dX9_malts_82 : decode cX9_malts 82 = .ok (.ior, 1) := by decide +kernel
theorem dX9_malts_83 : decode cX9_malts 83 = .ok (.istore 6, 2) := by decide +kernel
theorem dX9_malts_85 : decode cX9_malts 85 = .ok (.iinc 7 1, 3) := by decide +kernel
theorem dX9_malts_88 : decode cX9_malts 88 = .ok (.goto (-50), 3) := by decide +kernel
theorem dX9_malts_91 : decode cX9_malts 91 = .ok (.aload_n 0, 1) := by decide +kernel
theorem dX9_malts_92 : decode cX9_malts 92 = .ok (.iload 6, 2) := by decide +kernel
theorem dX9_malts_94 : decode cX9_malts 94 = .ok (.invokevirtual 75, 3) := by decide +kernel
theorem dX9_malts_97 : decode cX9_malts 97 = .ok (.ireturn, 1) := by decide +kernel
theorem dX9_who_0 : decode cX9_who 0 = .ok (.aload_n 0, 1) := by decide +kernel
theorem dX9_who_1 : decode cX9_who 1 = .ok (.iload_n 1, 1) := by decide +kernel
theorem dX9_who_2 : decode cX9_who 2 = .ok (.invokevirtual 199, 3) := by decide +kernel
theorem dX9_who_5 : decode cX9_who 5 = .ok (.ifCond .eq 16, 3) := by decide +kernel
theorem dX9_who_8 : decode cX9_who 8 = .ok (.aload_n 0, 1) := by decide +kernel
theorem dX9_who_9 : decode cX9_who 9 = .ok (.iload_n 2, 1) := by decide +kernel
theorem dX9_who_10 : decode cX9_who 10 = .ok (.iload_n 3, 1) := by decide +kernel
theorem dX9_who_11 : decode cX9_who 11 = .ok (.iload 4, 2) := by decide +kernel
theorem dX9_who_13 : decode cX9_who 13 = .ok (.iload 5, 2) := by decide +kernel
theorem dX9_who_15 : decode cX9_who 15 = .ok (.invokevirtual 247, 3) := by decide +kernel
theorem dX9_who_18 : decode cX9_who 18 = .ok (.goto 5, 3) := by decide +kernel
theorem dX9_who_21 : decode cX9_who 21 = .ok (.ldc 70, 2) := by decide +kernel
theorem dX9_who_23 : decode cX9_who 23 = .ok (.istore 6, 2) := by decide +kernel
theorem dX9_who_25 : decode cX9_who 25 = .ok (.iload 6, 2) := by decide +kernel
theorem dX9_who_27 : decode cX9_who 27 = .ok (.ifCond .eq 6, 3) := by decide +kernel
theorem dX9_who_30 : decode cX9_who 30 = .ok (.iload 6, 2) := by decide +kernel
theorem dX9_who_32 : decode cX9_who 32 = .ok (.ireturn, 1) := by decide +kernel
theorem dX9_who_33 : decode cX9_who 33 = .ok (.aload_n 0, 1) := by decide +kernel
theorem dX9_who_34 : decode cX9_who 34 = .ok (.getfield 22, 3) := by decide +kernel
theorem dX9_who_37 : decode cX9_who 37 = .ok (.iconst 0, 1) := by decide +kernel
theorem dX9_who_38 : decode cX9_who 38 = .ok (.aload_n 0, 1) := by decide +kernel
theorem dX9_who_39 : decode cX9_who 39 = .ok (.getfield 50, 3) := by decide +kernel
theorem dX9_who_42 : decode cX9_who 42 = .ok (.iconst 0, 1) := by decide +kernel
theorem dX9_who_43 : decode cX9_who 43 = .ok (.invokestatic 150, 3) := by decide +kernel
theorem dX9_who_46 : decode cX9_who 46 = .ok (.iconst 0, 1) := by decide +kernel
theorem dX9_who_47 : decode cX9_who 47 = .ok (.istore 7, 2) := by decide +kernel
theorem dX9_who_49 : decode cX9_who 49 = .ok (.iconst 1, 1) := by decide +kernel
theorem dX9_who_50 : decode cX9_who 50 = .ok (.istore 8, 2) := by decide +kernel
theorem dX9_who_52 : decode cX9_who 52 = .ok (.iload 8, 2) := by decide +kernel
theorem dX9_who_54 : decode cX9_who 54 = .ok (.iconst 5, 1) := by decide +kernel
theorem dX9_who_55 : decode cX9_who 55 = .ok (.if_icmp .gt 50, 3) := by decide +kernel
theorem dX9_who_58 : decode cX9_who 58 = .ok (.aload_n 0, 1) := by decide +kernel
theorem dX9_who_59 : decode cX9_who 59 = .ok (.getfield 50, 3) := by decide +kernel
theorem dX9_who_62 : decode cX9_who 62 = .ok (.bipush 6, 2) := by decide +kernel
theorem dX9_who_64 : decode cX9_who 64 = .ok (.iload_n 1, 1) := by decide +kernel
theorem dX9_who_65 : decode cX9_who 65 = .ok (.iadd, 1) := by decide +kernel
theorem dX9_who_66 : decode cX9_who 66 = .ok (.iload 8, 2) := by decide +kernel
theorem dX9_who_68 : decode cX9_who 68 = .ok (.iastore, 1) := by decide +kernel
theorem dX9_who_69 : decode cX9_who 69 = .ok (.iload 7, 2) := by decide +kernel
theorem dX9_who_71 : decode cX9_who 71 = .ok (.aload_n 0, 1) := by decide +kernel
theorem dX9_who_72 : decode cX9_who 72 = .ok (.iload_n 2, 1) := by decide +kernel
theorem dX9_who_73 : decode cX9_who 73 = .ok (.bipush 40, 2) := by decide +kernel
theorem dX9_who_75 : decode cX9_who 75 = .ok (.iload_n 3, 1) := by decide +kernel
theorem dX9_who_76 : decode cX9_who 76 = .ok (.imul, 1) := by decide +kernel
theorem dX9_who_77 : decode cX9_who 77 = .ok (.iload 4, 2) := by decide +kernel
theorem dX9_who_79 : decode cX9_who 79 = .ok (.iadd, 1) := by decide +kernel
theorem dX9_who_80 : decode cX9_who 80 = .ok (.iload 5, 2) := by decide +kernel
theorem dX9_who_82 : decode cX9_who 82 = .ok (.invokevirtual 251, 3) := by decide +kernel
theorem dX9_who_85 : decode cX9_who 85 = .ok (.ifCond .eq 10, 3) := by decide +kernel
theorem dX9_who_88 : decode cX9_who 88 = .ok (.iconst 1, 1) := by decide +kernel
theorem dX9_who_89 : decode cX9_who 89 = .ok (.iload 8, 2) := by decide +kernel
theorem dX9_who_91 : decode cX9_who 91 = .ok (.ishl, 1) := by decide +kernel
theorem dX9_who_92 : decode cX9_who 92 = .ok (.goto 4, 3) := by decide +kernel
theorem dX9_who_95 : decode cX9_who 95 = .ok (.iconst 0, 1) := by decide +kernel
theorem dX9_who_96 : decode cX9_who 96 = .ok (.ior, 1) := by decide +kernel
theorem dX9_who_97 : decode cX9_who 97 = .ok (.istore 7, 2) := by decide +kernel
theorem dX9_who_99 : decode cX9_who 99 = .ok (.iinc 8 1, 3) := by decide +kernel
theorem dX9_who_102 : decode cX9_who 102 = .ok (.goto (-50), 3) := by decide +kernel
theorem dX9_who_105 : decode cX9_who 105 = .ok (.aload_n 0, 1) := by decide +kernel
theorem dX9_who_106 : decode cX9_who 106 = .ok (.iload 7, 2) := by decide +kernel
theorem dX9_who_108 : decode cX9_who 108 = .ok (.invokevirtual 75, 3) := by decide +kernel
theorem dX9_who_111 : decode cX9_who 111 = .ok (.ireturn, 1) := by decide +kernel
theorem dX9_goesOff_0 : decode cX9_goesOff 0 = .ok (.iload_n 1, 1) := by decide +kernel
theorem dX9_goesOff_1 : decode cX9_goesOff 1 = .ok (.invokestatic 216, 3) := by decide +kernel
theorem dX9_goesOff_4 : decode cX9_goesOff 4 = .ok (.ifCond .eq 10, 3) := by decide +kernel
theorem dX9_goesOff_7 : decode cX9_goesOff 7 = .ok (.iload_n 2, 1) := by decide +kernel
theorem dX9_goesOff_8 : decode cX9_goesOff 8 = .ok (.invokestatic 242, 3) := by decide +kernel
theorem dX9_goesOff_11 : decode cX9_goesOff 11 = .ok (.ifCond .ne 6, 3) := by decide +kernel
theorem dX9_goesOff_14 : decode cX9_goesOff 14 = .ok (.ldc 70, 2) := by decide +kernel
theorem dX9_goesOff_16 : decode cX9_goesOff 16 = .ok (.ireturn, 1) := by decide +kernel
theorem dX9_goesOff_17 : decode cX9_goesOff 17 = .ok (.aload_n 0, 1) := by decide +kernel
theorem dX9_goesOff_18 : decode cX9_goesOff 18 = .ok (.getfield 22, 3) := by decide +kernel
theorem dX9_goesOff_21 : decode cX9_goesOff 21 = .ok (.bipush 44, 2) := by decide +kernel
theorem dX9_goesOff_23 : decode cX9_goesOff 23 = .ok (.iload_n 1, 1) := by decide +kernel
theorem dX9_goesOff_24 : decode cX9_goesOff 24 = .ok (.iadd, 1) := by decide +kernel
theorem dX9_goesOff_25 : decode cX9_goesOff 25 = .ok (.iaload, 1) := by decide +kernel
theorem dX9_goesOff_26 : decode cX9_goesOff 26 = .ok (.ifCond .ne 6, 3) := by decide +kernel
theorem dX9_goesOff_29 : decode cX9_goesOff 29 = .ok (.ldc 198, 2) := by decide +kernel
theorem dX9_goesOff_31 : decode cX9_goesOff 31 = .ok (.ireturn, 1) := by decide +kernel
theorem dX9_goesOff_32 : decode cX9_goesOff 32 = .ok (.iload_n 2, 1) := by decide +kernel
theorem dX9_goesOff_33 : decode cX9_goesOff 33 = .ok (.ifCond .ne 14, 3) := by decide +kernel
theorem dX9_goesOff_36 : decode cX9_goesOff 36 = .ok (.aload_n 0, 1) := by decide +kernel
theorem dX9_goesOff_37 : decode cX9_goesOff 37 = .ok (.getfield 22, 3) := by decide +kernel
theorem dX9_goesOff_40 : decode cX9_goesOff 40 = .ok (.iconst 1, 1) := by decide +kernel
theorem dX9_goesOff_41 : decode cX9_goesOff 41 = .ok (.iaload, 1) := by decide +kernel
theorem dX9_goesOff_42 : decode cX9_goesOff 42 = .ok (.iconst 1, 1) := by decide +kernel
theorem dX9_goesOff_43 : decode cX9_goesOff 43 = .ok (.iadd, 1) := by decide +kernel
theorem dX9_goesOff_44 : decode cX9_goesOff 44 = .ok (.goto 9, 3) := by decide +kernel
theorem dX9_goesOff_47 : decode cX9_goesOff 47 = .ok (.aload_n 0, 1) := by decide +kernel
theorem dX9_goesOff_48 : decode cX9_goesOff 48 = .ok (.getfield 22, 3) := by decide +kernel
theorem dX9_goesOff_51 : decode cX9_goesOff 51 = .ok (.iconst 0, 1) := by decide +kernel
theorem dX9_goesOff_52 : decode cX9_goesOff 52 = .ok (.iaload, 1) := by decide +kernel
theorem dX9_goesOff_53 : decode cX9_goesOff 53 = .ok (.aload_n 0, 1) := by decide +kernel
theorem dX9_goesOff_54 : decode cX9_goesOff 54 = .ok (.getfield 22, 3) := by decide +kernel
theorem dX9_goesOff_57 : decode cX9_goesOff 57 = .ok (.bipush 56, 2) := by decide +kernel
theorem dX9_goesOff_59 : decode cX9_goesOff 59 = .ok (.iload_n 1, 1) := by decide +kernel
theorem dX9_goesOff_60 : decode cX9_goesOff 60 = .ok (.iadd, 1) := by decide +kernel
theorem dX9_goesOff_61 : decode cX9_goesOff 61 = .ok (.iaload, 1) := by decide +kernel
theorem dX9_goesOff_62 : decode cX9_goesOff 62 = .ok (.isub, 1) := by decide +kernel
theorem dX9_goesOff_63 : decode cX9_goesOff 63 = .ok (.istore_n 3, 1) := by decide +kernel
theorem dX9_goesOff_64 : decode cX9_goesOff 64 = .ok (.iload_n 3, 1) := by decide +kernel
theorem dX9_goesOff_65 : decode cX9_goesOff 65 = .ok (.ifCond .le 7, 3) := by decide +kernel
theorem dX9_goesOff_68 : decode cX9_goesOff 68 = .ok (.iload_n 3, 1) := by decide +kernel
theorem dX9_goesOff_69 : decode cX9_goesOff 69 = .ok (.goto 4, 3) := by decide +kernel
theorem dX9_goesOff_72 : decode cX9_goesOff 72 = .ok (.iconst 0, 1) := by decide +kernel
theorem dX9_goesOff_73 : decode cX9_goesOff 73 = .ok (.ireturn, 1) := by decide +kernel
theorem dX9_best_0 : decode cX9_best 0 = .ok (.iload_n 1, 1) := by decide +kernel
theorem dX9_best_1 : decode cX9_best 1 = .ok (.invokestatic 216, 3) := by decide +kernel
theorem dX9_best_4 : decode cX9_best 4 = .ok (.ifCond .eq 10, 3) := by decide +kernel
theorem dX9_best_7 : decode cX9_best 7 = .ok (.iload_n 2, 1) := by decide +kernel
theorem dX9_best_8 : decode cX9_best 8 = .ok (.invokestatic 242, 3) := by decide +kernel
theorem dX9_best_11 : decode cX9_best 11 = .ok (.ifCond .ne 6, 3) := by decide +kernel
theorem dX9_best_14 : decode cX9_best 14 = .ok (.ldc 70, 2) := by decide +kernel
theorem dX9_best_16 : decode cX9_best 16 = .ok (.ireturn, 1) := by decide +kernel
theorem dX9_best_17 : decode cX9_best 17 = .ok (.aload_n 0, 1) := by decide +kernel
theorem dX9_best_18 : decode cX9_best 18 = .ok (.getfield 22, 3) := by decide +kernel
theorem dX9_best_21 : decode cX9_best 21 = .ok (.bipush 44, 2) := by decide +kernel
theorem dX9_best_23 : decode cX9_best 23 = .ok (.iload_n 1, 1) := by decide +kernel
theorem dX9_best_24 : decode cX9_best 24 = .ok (.iadd, 1) := by decide +kernel
theorem dX9_best_25 : decode cX9_best 25 = .ok (.iaload, 1) := by decide +kernel
theorem dX9_best_26 : decode cX9_best 26 = .ok (.ifCond .ne 6, 3) := by decide +kernel
theorem dX9_best_29 : decode cX9_best 29 = .ok (.ldc 198, 2) := by decide +kernel
theorem dX9_best_31 : decode cX9_best 31 = .ok (.ireturn, 1) := by decide +kernel
theorem dX9_best_32 : decode cX9_best 32 = .ok (.iconst 0, 1) := by decide +kernel
theorem dX9_best_33 : decode cX9_best 33 = .ok (.istore_n 3, 1) := by decide +kernel
theorem dX9_best_34 : decode cX9_best 34 = .ok (.iconst (-1), 1) := by decide +kernel
theorem dX9_best_35 : decode cX9_best 35 = .ok (.istore 4, 2) := by decide +kernel
theorem dX9_best_37 : decode cX9_best 37 = .ok (.iconst 0, 1) := by decide +kernel
theorem dX9_best_38 : decode cX9_best 38 = .ok (.istore 5, 2) := by decide +kernel
theorem dX9_best_40 : decode cX9_best 40 = .ok (.iload 5, 2) := by decide +kernel
theorem dX9_best_42 : decode cX9_best 42 = .ok (.aload_n 0, 1) := by decide +kernel
theorem dX9_best_43 : decode cX9_best 43 = .ok (.getfield 22, 3) := by decide +kernel
theorem dX9_best_46 : decode cX9_best 46 = .ok (.iconst 3, 1) := by decide +kernel
theorem dX9_best_47 : decode cX9_best 47 = .ok (.iaload, 1) := by decide +kernel
theorem dX9_best_48 : decode cX9_best 48 = .ok (.if_icmp .ge 62, 3) := by decide +kernel
theorem dX9_best_51 : decode cX9_best 51 = .ok (.aload_n 0, 1) := by decide +kernel
theorem dX9_best_52 : decode cX9_best 52 = .ok (.aload_n 0, 1) := by decide +kernel
theorem dX9_best_53 : decode cX9_best 53 = .ok (.getfield 22, 3) := by decide +kernel
theorem dX9_best_56 : decode cX9_best 56 = .ok (.iload_n 1, 1) := by decide +kernel
theorem dX9_best_57 : decode cX9_best 57 = .ok (.iconst 1, 1) := by decide +kernel
theorem dX9_best_58 : decode cX9_best 58 = .ok (.iload 5, 2) := by decide +kernel
theorem dX9_best_60 : decode cX9_best 60 = .ok (.ishl, 1) := by decide +kernel
theorem dX9_best_61 : decode cX9_best 61 = .ok (.iconst 0, 1) := by decide +kernel
theorem dX9_best_62 : decode cX9_best 62 = .ok (.invokevirtual 191, 3) := by decide +kernel
theorem dX9_best_65 : decode cX9_best 65 = .ok (.aload_n 0, 1) := by decide +kernel
theorem dX9_best_66 : decode cX9_best 66 = .ok (.getfield 168, 3) := by decide +kernel
theorem dX9_best_69 : decode cX9_best 69 = .ok (.invokestatic 239, 3) := by decide +kernel
theorem dX9_best_72 : decode cX9_best 72 = .ok (.istore 6, 2) := by decide +kernel
theorem dX9_best_74 : decode cX9_best 74 = .ok (.iload 6, 2) := by decide +kernel
theorem dX9_best_76 : decode cX9_best 76 = .ok (.iload 4, 2) := by decide +kernel
theorem dX9_best_78 : decode cX9_best 78 = .ok (.if_icmp .le 8, 3) := by decide +kernel
theorem dX9_best_81 : decode cX9_best 81 = .ok (.iload 5, 2) := by decide +kernel
theorem dX9_best_83 : decode cX9_best 83 = .ok (.goto 4, 3) := by decide +kernel
theorem dX9_best_86 : decode cX9_best 86 = .ok (.iload_n 3, 1) := by decide +kernel
theorem dX9_best_87 : decode cX9_best 87 = .ok (.istore_n 3, 1) := by decide +kernel
theorem dX9_best_88 : decode cX9_best 88 = .ok (.iload 6, 2) := by decide +kernel
theorem dX9_best_90 : decode cX9_best 90 = .ok (.iload 4, 2) := by decide +kernel
theorem dX9_best_92 : decode cX9_best 92 = .ok (.if_icmp .le 8, 3) := by decide +kernel
theorem dX9_best_95 : decode cX9_best 95 = .ok (.iload 6, 2) := by decide +kernel
theorem dX9_best_97 : decode cX9_best 97 = .ok (.goto 5, 3) := by decide +kernel
theorem dX9_best_100 : decode cX9_best 100 = .ok (.iload 4, 2) := by decide +kernel
theorem dX9_best_102 : decode cX9_best 102 = .ok (.istore 4, 2) := by decide +kernel
theorem dX9_best_104 : decode cX9_best 104 = .ok (.iinc 5 1, 3) := by decide +kernel
theorem dX9_best_107 : decode cX9_best 107 = .ok (.goto (-67), 3) := by decide +kernel
theorem dX9_best_110 : decode cX9_best 110 = .ok (.iload_n 2, 1) := by decide +kernel
theorem dX9_best_111 : decode cX9_best 111 = .ok (.ifCond .ne 7, 3) := by decide +kernel
theorem dX9_best_114 : decode cX9_best 114 = .ok (.iload_n 3, 1) := by decide +kernel
theorem dX9_best_115 : decode cX9_best 115 = .ok (.goto 5, 3) := by decide +kernel
theorem dX9_best_118 : decode cX9_best 118 = .ok (.iload 4, 2) := by decide +kernel
theorem dX9_best_120 : decode cX9_best 120 = .ok (.ireturn, 1) := by decide +kernel
theorem dX9_blended_0 : decode cX9_blended 0 = .ok (.iload_n 1, 1) := by decide +kernel
theorem dX9_blended_1 : decode cX9_blended 1 = .ok (.iload_n 2, 1) := by decide +kernel
theorem dX9_blended_2 : decode cX9_blended 2 = .ok (.invokestatic 222, 3) := by decide +kernel
theorem dX9_blended_5 : decode cX9_blended 5 = .ok (.ifCond .eq 11, 3) := by decide +kernel
theorem dX9_blended_8 : decode cX9_blended 8 = .ok (.aload_n 0, 1) := by decide +kernel
theorem dX9_blended_9 : decode cX9_blended 9 = .ok (.iload_n 3, 1) := by decide +kernel
theorem dX9_blended_10 : decode cX9_blended 10 = .ok (.invokevirtual 199, 3) := by decide +kernel
theorem dX9_blended_13 : decode cX9_blended 13 = .ok (.ifCond .ne 6, 3) := by decide +kernel
theorem dX9_blended_16 : decode cX9_blended 16 = .ok (.ldc 70, 2) := by decide +kernel
theorem dX9_blended_18 : decode cX9_blended 18 = .ok (.ireturn, 1) := by decide +kernel
theorem dX9_blended_19 : decode cX9_blended 19 = .ok (.aload_n 0, 1) := by decide +kernel
theorem dX9_blended_20 : decode cX9_blended 20 = .ok (.getfield 22, 3) := by decide +kernel
theorem dX9_blended_23 : decode cX9_blended 23 = .ok (.bipush 44, 2) := by decide +kernel
theorem dX9_blended_25 : decode cX9_blended 25 = .ok (.iload_n 1, 1) := by decide +kernel
theorem dX9_blended_26 : decode cX9_blended 26 = .ok (.iadd, 1) := by decide +kernel
theorem dX9_blended_27 : decode cX9_blended 27 = .ok (.iaload, 1) := by decide +kernel
theorem dX9_blended_28 : decode cX9_blended 28 = .ok (.ifCond .eq 15, 3) := by decide +kernel
theorem dX9_blended_31 : decode cX9_blended 31 = .ok (.aload_n 0, 1) := by decide +kernel
theorem dX9_blended_32 : decode cX9_blended 32 = .ok (.getfield 22, 3) := by decide +kernel
theorem dX9_blended_35 : decode cX9_blended 35 = .ok (.bipush 44, 2) := by decide +kernel
theorem dX9_blended_37 : decode cX9_blended 37 = .ok (.iload_n 2, 1) := by decide +kernel
theorem dX9_blended_38 : decode cX9_blended 38 = .ok (.iadd, 1) := by decide +kernel
theorem dX9_blended_39 : decode cX9_blended 39 = .ok (.iaload, 1) := by decide +kernel
theorem dX9_blended_40 : decode cX9_blended 40 = .ok (.ifCond .ne 6, 3) := by decide +kernel
theorem dX9_blended_43 : decode cX9_blended 43 = .ok (.ldc 198, 2) := by decide +kernel
theorem dX9_blended_45 : decode cX9_blended 45 = .ok (.ireturn, 1) := by decide +kernel
theorem dX9_blended_46 : decode cX9_blended 46 = .ok (.aload_n 0, 1) := by decide +kernel
theorem dX9_blended_47 : decode cX9_blended 47 = .ok (.getfield 22, 3) := by decide +kernel
theorem dX9_blended_50 : decode cX9_blended 50 = .ok (.iconst 0, 1) := by decide +kernel
theorem dX9_blended_51 : decode cX9_blended 51 = .ok (.aload_n 0, 1) := by decide +kernel
theorem dX9_blended_52 : decode cX9_blended 52 = .ok (.getfield 50, 3) := by decide +kernel
theorem dX9_blended_55 : decode cX9_blended 55 = .ok (.iconst 0, 1) := by decide +kernel
theorem dX9_blended_56 : decode cX9_blended 56 = .ok (.invokestatic 150, 3) := by decide +kernel
theorem dX9_blended_59 : decode cX9_blended 59 = .ok (.aload_n 0, 1) := by decide +kernel
theorem dX9_blended_60 : decode cX9_blended 60 = .ok (.getfield 50, 3) := by decide +kernel
theorem dX9_blended_63 : decode cX9_blended 63 = .ok (.iload_n 1, 1) := by decide +kernel
theorem dX9_blended_64 : decode cX9_blended 64 = .ok (.iload_n 2, 1) := by decide +kernel
theorem dX9_blended_65 : decode cX9_blended 65 = .ok (.invokestatic 225, 3) := by decide +kernel
theorem dX9_blended_68 : decode cX9_blended 68 = .ok (.aload_n 0, 1) := by decide +kernel
theorem dX9_blended_69 : decode cX9_blended 69 = .ok (.aload_n 0, 1) := by decide +kernel
theorem dX9_blended_70 : decode cX9_blended 70 = .ok (.getfield 50, 3) := by decide +kernel
theorem dX9_blended_73 : decode cX9_blended 73 = .ok (.iload_n 2, 1) := by decide +kernel
theorem dX9_blended_74 : decode cX9_blended 74 = .ok (.iconst 1, 1) := by decide +kernel
theorem dX9_blended_75 : decode cX9_blended 75 = .ok (.iload_n 3, 1) := by decide +kernel
theorem dX9_blended_76 : decode cX9_blended 76 = .ok (.ishl, 1) := by decide +kernel
theorem dX9_blended_77 : decode cX9_blended 77 = .ok (.iconst 0, 1) := by decide +kernel
theorem dX9_blended_78 : decode cX9_blended 78 = .ok (.invokevirtual 191, 3) := by decide +kernel
theorem dX9_blended_81 : decode cX9_blended 81 = .ok (.aload_n 0, 1) := by decide +kernel
theorem dX9_blended_82 : decode cX9_blended 82 = .ok (.getfield 168, 3) := by decide +kernel
theorem dX9_blended_85 : decode cX9_blended 85 = .ok (.invokestatic 239, 3) := by decide +kernel
theorem dX9_blended_88 : decode cX9_blended 88 = .ok (.ireturn, 1) := by decide +kernel
theorem dX9_silent_0 : decode cX9_silent 0 = .ok (.iload_n 1, 1) := by decide +kernel
theorem dX9_silent_1 : decode cX9_silent 1 = .ok (.invokestatic 216, 3) := by decide +kernel
theorem dX9_silent_4 : decode cX9_silent 4 = .ok (.ifCond .eq 45, 3) := by decide +kernel
theorem dX9_silent_7 : decode cX9_silent 7 = .ok (.aload_n 0, 1) := by decide +kernel
theorem dX9_silent_8 : decode cX9_silent 8 = .ok (.iload_n 2, 1) := by decide +kernel
theorem dX9_silent_9 : decode cX9_silent 9 = .ok (.invokevirtual 199, 3) := by decide +kernel
theorem dX9_silent_12 : decode cX9_silent 12 = .ok (.ifCond .eq 37, 3) := by decide +kernel
theorem dX9_silent_15 : decode cX9_silent 15 = .ok (.aload_n 0, 1) := by decide +kernel
theorem dX9_silent_16 : decode cX9_silent 16 = .ok (.iload_n 3, 1) := by decide +kernel
theorem dX9_silent_17 : decode cX9_silent 17 = .ok (.invokevirtual 199, 3) := by decide +kernel
theorem dX9_silent_20 : decode cX9_silent 20 = .ok (.ifCond .eq 29, 3) := by decide +kernel
theorem dX9_silent_23 : decode cX9_silent 23 = .ok (.iload_n 2, 1) := by decide +kernel
theorem dX9_silent_24 : decode cX9_silent 24 = .ok (.iload_n 3, 1) := by decide +kernel
theorem dX9_silent_25 : decode cX9_silent 25 = .ok (.if_icmp .eq 24, 3) := by decide +kernel
theorem dX9_silent_28 : decode cX9_silent 28 = .ok (.iload 4, 2) := by decide +kernel
theorem dX9_silent_30 : decode cX9_silent 30 = .ok (.i2l, 1) := by decide +kernel
theorem dX9_silent_31 : decode cX9_silent 31 = .ok (.lconst 0, 1) := by decide +kernel
theorem dX9_silent_32 : decode cX9_silent 32 = .ok (.ldc2_w 254, 3) := by decide +kernel
theorem dX9_silent_35 : decode cX9_silent 35 = .ok (.invokestatic 60, 3) := by decide +kernel
theorem dX9_silent_38 : decode cX9_silent 38 = .ok (.ifCond .eq 11, 3) := by decide +kernel
theorem dX9_silent_41 : decode cX9_silent 41 = .ok (.iload 5, 2) := by decide +kernel
theorem dX9_silent_43 : decode cX9_silent 43 = .ok (.invokestatic 242, 3) := by decide +kernel
theorem dX9_silent_46 : decode cX9_silent 46 = .ok (.ifCond .ne 7, 3) := by decide +kernel
theorem dX9_silent_49 : decode cX9_silent 49 = .ok (.ldc2_w 256, 3) := by decide +kernel
theorem dX9_silent_52 : decode cX9_silent 52 = .ok (.lreturn, 1) := by decide +kernel
theorem dX9_silent_53 : decode cX9_silent 53 = .ok (.aload_n 0, 1) := by decide +kernel
theorem dX9_silent_54 : decode cX9_silent 54 = .ok (.getfield 22, 3) := by decide +kernel
theorem dX9_silent_57 : decode cX9_silent 57 = .ok (.bipush 44, 2) := by decide +kernel
theorem dX9_silent_59 : decode cX9_silent 59 = .ok (.iload_n 1, 1) := by decide +kernel
theorem dX9_silent_60 : decode cX9_silent 60 = .ok (.iadd, 1) := by decide +kernel
theorem dX9_silent_61 : decode cX9_silent 61 = .ok (.iaload, 1) := by decide +kernel
theorem dX9_silent_62 : decode cX9_silent 62 = .ok (.ifCond .ne 7, 3) := by decide +kernel
theorem dX9_silent_65 : decode cX9_silent 65 = .ok (.ldc2_w 258, 3) := by decide +kernel
theorem dX9_silent_68 : decode cX9_silent 68 = .ok (.lreturn, 1) := by decide +kernel
theorem dX9_silent_69 : decode cX9_silent 69 = .ok (.lconst 0, 1) := by decide +kernel
theorem dX9_silent_70 : decode cX9_silent 70 = .ok (.lstore 6, 2) := by decide +kernel
theorem dX9_silent_72 : decode cX9_silent 72 = .ok (.lconst 1, 1) := by decide +kernel
theorem dX9_silent_73 : decode cX9_silent 73 = .ok (.lstore 8, 2) := by decide +kernel
theorem dX9_silent_75 : decode cX9_silent 75 = .ok (.iconst 0, 1) := by decide +kernel
theorem dX9_silent_76 : decode cX9_silent 76 = .ok (.istore 10, 2) := by decide +kernel
theorem dX9_silent_78 : decode cX9_silent 78 = .ok (.iload 10, 2) := by decide +kernel
theorem dX9_silent_80 : decode cX9_silent 80 = .ok (.aload_n 0, 1) := by decide +kernel
theorem dX9_silent_81 : decode cX9_silent 81 = .ok (.getfield 22, 3) := by decide +kernel
theorem dX9_silent_84 : decode cX9_silent 84 = .ok (.iconst 4, 1) := by decide +kernel
theorem dX9_silent_85 : decode cX9_silent 85 = .ok (.iaload, 1) := by decide +kernel
theorem dX9_silent_86 : decode cX9_silent 86 = .ok (.if_icmp .ge 17, 3) := by decide +kernel
theorem dX9_silent_89 : decode cX9_silent 89 = .ok (.lload 8, 2) := by decide +kernel
theorem dX9_silent_91 : decode cX9_silent 91 = .ok (.ldc2_w 254, 3) := by decide +kernel
theorem dX9_silent_94 : decode cX9_silent 94 = .ok (.lmul, 1) := by decide +kernel
theorem dX9_silent_95 : decode cX9_silent 95 = .ok (.lstore 8, 2) := by decide +kernel
theorem dX9_silent_97 : decode cX9_silent 97 = .ok (.iinc 10 1, 3) := by decide +kernel
theorem dX9_silent_100 : decode cX9_silent 100 = .ok (.goto (-22), 3) := by decide +kernel
theorem dX9_silent_103 : decode cX9_silent 103 = .ok (.iconst 0, 1) := by decide +kernel
theorem dX9_silent_104 : decode cX9_silent 104 = .ok (.istore 10, 2) := by decide +kernel
theorem dX9_silent_106 : decode cX9_silent 106 = .ok (.iload 10, 2) := by decide +kernel
theorem dX9_silent_108 : decode cX9_silent 108 = .ok (.iconst 1, 1) := by decide +kernel
theorem dX9_silent_109 : decode cX9_silent 109 = .ok (.aload_n 0, 1) := by decide +kernel
theorem dX9_silent_110 : decode cX9_silent 110 = .ok (.getfield 22, 3) := by decide +kernel
theorem dX9_silent_113 : decode cX9_silent 113 = .ok (.iconst 4, 1) := by decide +kernel
theorem dX9_silent_114 : decode cX9_silent 114 = .ok (.iaload, 1) := by decide +kernel
theorem dX9_silent_115 : decode cX9_silent 115 = .ok (.ishl, 1) := by decide +kernel
theorem dX9_silent_116 : decode cX9_silent 116 = .ok (.if_icmp .ge 95, 3) := by decide +kernel
theorem dX9_silent_119 : decode cX9_silent 119 = .ok (.lconst 1, 1) := by decide +kernel
theorem dX9_silent_120 : decode cX9_silent 120 = .ok (.lstore 11, 2) := by decide +kernel
theorem dX9_silent_122 : decode cX9_silent 122 = .ok (.iconst 0, 1) := by decide +kernel
theorem dX9_silent_123 : decode cX9_silent 123 = .ok (.istore 13, 2) := by decide +kernel
theorem dX9_silent_125 : decode cX9_silent 125 = .ok (.iload 13, 2) := by decide +kernel
theorem dX9_silent_127 : decode cX9_silent 127 = .ok (.aload_n 0, 1) := by decide +kernel
theorem dX9_silent_128 : decode cX9_silent 128 = .ok (.getfield 22, 3) := by decide +kernel
theorem dX9_silent_131 : decode cX9_silent 131 = .ok (.iconst 4, 1) := by decide +kernel
theorem dX9_silent_132 : decode cX9_silent 132 = .ok (.iaload, 1) := by decide +kernel
theorem dX9_silent_133 : decode cX9_silent 133 = .ok (.if_icmp .ge 36, 3) := by decide +kernel
theorem dX9_silent_136 : decode cX9_silent 136 = .ok (.lload 11, 2) := by decide +kernel
theorem dX9_silent_138 : decode cX9_silent 138 = .ok (.iload 10, 2) := by decide +kernel
theorem dX9_silent_140 : decode cX9_silent 140 = .ok (.iload 13, 2) := by decide +kernel
theorem dX9_silent_142 : decode cX9_silent 142 = .ok (.invokestatic 164, 3) := by decide +kernel
theorem dX9_silent_145 : decode cX9_silent 145 = .ok (.ifCond .eq 9, 3) := by decide +kernel
theorem dX9_silent_148 : decode cX9_silent 148 = .ok (.iload 4, 2) := by decide +kernel
theorem dX9_silent_150 : decode cX9_silent 150 = .ok (.i2l, 1) := by decide +kernel
theorem dX9_silent_151 : decode cX9_silent 151 = .ok (.goto 9, 3) := by decide +kernel
theorem dX9_silent_154 : decode cX9_silent 154 = .ok (.bipush 10, 2) := by decide +kernel
theorem dX9_silent_156 : decode cX9_silent 156 = .ok (.iload 4, 2) := by decide +kernel
theorem dX9_silent_158 : decode cX9_silent 158 = .ok (.isub, 1) := by decide +kernel
theorem dX9_silent_159 : decode cX9_silent 159 = .ok (.i2l, 1) := by decide +kernel
theorem dX9_silent_160 : decode cX9_silent 160 = .ok (.lmul, 1) := by decide +kernel
theorem dX9_silent_161 : decode cX9_silent 161 = .ok (.lstore 11, 2) := by decide +kernel
theorem dX9_silent_163 : decode cX9_silent 163 = .ok (.iinc 13 1, 3) := by decide +kernel
theorem dX9_silent_166 : decode cX9_silent 166 = .ok (.goto (-41), 3) := by decide +kernel
theorem dX9_silent_169 : decode cX9_silent 169 = .ok (.aload_n 0, 1) := by decide +kernel
theorem dX9_silent_170 : decode cX9_silent 170 = .ok (.aload_n 0, 1) := by decide +kernel
theorem dX9_silent_171 : decode cX9_silent 171 = .ok (.getfield 22, 3) := by decide +kernel
theorem dX9_silent_174 : decode cX9_silent 174 = .ok (.iload_n 1, 1) := by decide +kernel
theorem dX9_silent_175 : decode cX9_silent 175 = .ok (.iconst 1, 1) := by decide +kernel
theorem dX9_silent_176 : decode cX9_silent 176 = .ok (.iload_n 2, 1) := by decide +kernel
theorem dX9_silent_177 : decode cX9_silent 177 = .ok (.ishl, 1) := by decide +kernel
theorem dX9_silent_178 : decode cX9_silent 178 = .ok (.iload 10, 2) := by decide +kernel
theorem dX9_silent_180 : decode cX9_silent 180 = .ok (.invokevirtual 191, 3) := by decide +kernel
theorem dX9_silent_183 : decode cX9_silent 183 = .ok (.lload 6, 2) := by decide +kernel
theorem dX9_silent_185 : decode cX9_silent 185 = .ok (.aload_n 0, 1) := by decide +kernel
theorem dX9_silent_186 : decode cX9_silent 186 = .ok (.getfield 168, 3) := by decide +kernel
theorem dX9_silent_189 : decode cX9_silent 189 = .ok (.iload_n 3, 1) := by decide +kernel
theorem dX9_silent_190 : decode cX9_silent 190 = .ok (.invokestatic 164, 3) := by decide +kernel
theorem dX9_silent_193 : decode cX9_silent 193 = .ok (.ifCond .eq 8, 3) := by decide +kernel
theorem dX9_silent_196 : decode cX9_silent 196 = .ok (.lload 11, 2) := by decide +kernel
theorem dX9_silent_198 : decode cX9_silent 198 = .ok (.goto 4, 3) := by decide +kernel
theorem dX9_silent_201 : decode cX9_silent 201 = .ok (.lconst 0, 1) := by decide +kernel
theorem dX9_silent_202 : decode cX9_silent 202 = .ok (.ladd, 1) := by decide +kernel
theorem dX9_silent_203 : decode cX9_silent 203 = .ok (.lstore 6, 2) := by decide +kernel
theorem dX9_silent_205 : decode cX9_silent 205 = .ok (.iinc 10 1, 3) := by decide +kernel
theorem dX9_silent_208 : decode cX9_silent 208 = .ok (.goto (-102), 3) := by decide +kernel
theorem dX9_silent_211 : decode cX9_silent 211 = .ok (.lload 6, 2) := by decide +kernel
theorem dX9_silent_213 : decode cX9_silent 213 = .ok (.lstore 10, 2) := by decide +kernel
theorem dX9_silent_215 : decode cX9_silent 215 = .ok (.lload 8, 2) := by decide +kernel
theorem dX9_silent_217 : decode cX9_silent 217 = .ok (.lstore 12, 2) := by decide +kernel
theorem dX9_silent_219 : decode cX9_silent 219 = .ok (.lload 12, 2) := by decide +kernel
theorem dX9_silent_221 : decode cX9_silent 221 = .ok (.lconst 0, 1) := by decide +kernel
theorem dX9_silent_222 : decode cX9_silent 222 = .ok (.lcmp, 1) := by decide +kernel
theorem dX9_silent_223 : decode cX9_silent 223 = .ok (.ifCond .eq 21, 3) := by decide +kernel
theorem dX9_silent_226 : decode cX9_silent 226 = .ok (.lload 10, 2) := by decide +kernel
theorem dX9_silent_228 : decode cX9_silent 228 = .ok (.lload 12, 2) := by decide +kernel
theorem dX9_silent_230 : decode cX9_silent 230 = .ok (.lrem, 1) := by decide +kernel
theorem dX9_silent_231 : decode cX9_silent 231 = .ok (.lstore 14, 2) := by decide +kernel
theorem dX9_silent_233 : decode cX9_silent 233 = .ok (.lload 12, 2) := by decide +kernel
theorem dX9_silent_235 : decode cX9_silent 235 = .ok (.lstore 10, 2) := by decide +kernel
theorem dX9_silent_237 : decode cX9_silent 237 = .ok (.lload 14, 2) := by decide +kernel
theorem dX9_silent_239 : decode cX9_silent 239 = .ok (.lstore 12, 2) := by decide +kernel
theorem dX9_silent_241 : decode cX9_silent 241 = .ok (.goto (-22), 3) := by decide +kernel
theorem dX9_silent_244 : decode cX9_silent 244 = .ok (.iload 5, 2) := by decide +kernel
theorem dX9_silent_246 : decode cX9_silent 246 = .ok (.ifCond .ne 11, 3) := by decide +kernel
theorem dX9_silent_249 : decode cX9_silent 249 = .ok (.lload 6, 2) := by decide +kernel
theorem dX9_silent_251 : decode cX9_silent 251 = .ok (.lload 10, 2) := by decide +kernel
theorem dX9_silent_253 : decode cX9_silent 253 = .ok (.ldiv, 1) := by decide +kernel
theorem dX9_silent_254 : decode cX9_silent 254 = .ok (.goto 8, 3) := by decide +kernel
theorem dX9_silent_257 : decode cX9_silent 257 = .ok (.lload 8, 2) := by decide +kernel
theorem dX9_silent_259 : decode cX9_silent 259 = .ok (.lload 10, 2) := by decide +kernel
