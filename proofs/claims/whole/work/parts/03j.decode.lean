theorem dX9_silent_261 : decode cX9_silent 261 = .ok (.ldiv, 1) := by decide +kernel
theorem dX9_silent_262 : decode cX9_silent 262 = .ok (.lreturn, 1) := by decide +kernel
theorem dX9_notesOf_0 : decode cX9_notesOf 0 = .ok (.iconst 0, 1) := by decide +kernel
theorem dX9_notesOf_1 : decode cX9_notesOf 1 = .ok (.istore_n 1, 1) := by decide +kernel
theorem dX9_notesOf_2 : decode cX9_notesOf 2 = .ok (.iconst 0, 1) := by decide +kernel
theorem dX9_notesOf_3 : decode cX9_notesOf 3 = .ok (.istore_n 2, 1) := by decide +kernel
theorem dX9_notesOf_4 : decode cX9_notesOf 4 = .ok (.iload_n 2, 1) := by decide +kernel
theorem dX9_notesOf_5 : decode cX9_notesOf 5 = .ok (.bipush 6, 2) := by decide +kernel
theorem dX9_notesOf_7 : decode cX9_notesOf 7 = .ok (.if_icmp .ge 21, 3) := by decide +kernel
theorem dX9_notesOf_10 : decode cX9_notesOf 10 = .ok (.iload_n 1, 1) := by decide +kernel
theorem dX9_notesOf_11 : decode cX9_notesOf 11 = .ok (.aload_n 0, 1) := by decide +kernel
theorem dX9_notesOf_12 : decode cX9_notesOf 12 = .ok (.bipush 60, 2) := by decide +kernel
theorem dX9_notesOf_14 : decode cX9_notesOf 14 = .ok (.iload_n 2, 1) := by decide +kernel
theorem dX9_notesOf_15 : decode cX9_notesOf 15 = .ok (.iadd, 1) := by decide +kernel
theorem dX9_notesOf_16 : decode cX9_notesOf 16 = .ok (.iaload, 1) := by decide +kernel
theorem dX9_notesOf_17 : decode cX9_notesOf 17 = .ok (.invokestatic 239, 3) := by decide +kernel
theorem dX9_notesOf_20 : decode cX9_notesOf 20 = .ok (.iadd, 1) := by decide +kernel
theorem dX9_notesOf_21 : decode cX9_notesOf 21 = .ok (.istore_n 1, 1) := by decide +kernel
theorem dX9_notesOf_22 : decode cX9_notesOf 22 = .ok (.iinc 2 1, 3) := by decide +kernel
theorem dX9_notesOf_25 : decode cX9_notesOf 25 = .ok (.goto (-21), 3) := by decide +kernel
theorem dX9_notesOf_28 : decode cX9_notesOf 28 = .ok (.iload_n 1, 1) := by decide +kernel
theorem dX9_notesOf_29 : decode cX9_notesOf 29 = .ok (.ireturn, 1) := by decide +kernel
theorem dX9_drawn_0 : decode cX9_drawn 0 = .ok (.aload_n 0, 1) := by decide +kernel
theorem dX9_drawn_1 : decode cX9_drawn 1 = .ok (.getfield 143, 3) := by decide +kernel
theorem dX9_drawn_4 : decode cX9_drawn 4 = .ok (.ifCond .ne 6, 3) := by decide +kernel
theorem dX9_drawn_7 : decode cX9_drawn 7 = .ok (.ldc 198, 2) := by decide +kernel
theorem dX9_drawn_9 : decode cX9_drawn 9 = .ok (.ireturn, 1) := by decide +kernel
theorem dX9_drawn_10 : decode cX9_drawn 10 = .ok (.iload_n 1, 1) := by decide +kernel
theorem dX9_drawn_11 : decode cX9_drawn 11 = .ok (.i2l, 1) := by decide +kernel
theorem dX9_drawn_12 : decode cX9_drawn 12 = .ok (.lconst 0, 1) := by decide +kernel
theorem dX9_drawn_13 : decode cX9_drawn 13 = .ok (.ldc2_w 260, 3) := by decide +kernel
theorem dX9_drawn_16 : decode cX9_drawn 16 = .ok (.invokestatic 60, 3) := by decide +kernel
theorem dX9_drawn_19 : decode cX9_drawn 19 = .ok (.ifCond .eq 22, 3) := by decide +kernel
theorem dX9_drawn_22 : decode cX9_drawn 22 = .ok (.iload_n 2, 1) := by decide +kernel
theorem dX9_drawn_23 : decode cX9_drawn 23 = .ok (.i2l, 1) := by decide +kernel
theorem dX9_drawn_24 : decode cX9_drawn 24 = .ok (.lconst 1, 1) := by decide +kernel
theorem dX9_drawn_25 : decode cX9_drawn 25 = .ok (.ldc2_w 262, 3) := by decide +kernel
theorem dX9_drawn_28 : decode cX9_drawn 28 = .ok (.invokestatic 60, 3) := by decide +kernel
theorem dX9_drawn_31 : decode cX9_drawn 31 = .ok (.ifCond .eq 10, 3) := by decide +kernel
theorem dX9_drawn_34 : decode cX9_drawn 34 = .ok (.iload_n 3, 1) := by decide +kernel
theorem dX9_drawn_35 : decode cX9_drawn 35 = .ok (.invokestatic 242, 3) := by decide +kernel
theorem dX9_drawn_38 : decode cX9_drawn 38 = .ok (.ifCond .ne 6, 3) := by decide +kernel
theorem dX9_drawn_41 : decode cX9_drawn 41 = .ok (.ldc 70, 2) := by decide +kernel
theorem dX9_drawn_43 : decode cX9_drawn 43 = .ok (.ireturn, 1) := by decide +kernel
theorem dX9_drawn_44 : decode cX9_drawn 44 = .ok (.aload_n 0, 1) := by decide +kernel
theorem dX9_drawn_45 : decode cX9_drawn 45 = .ok (.getfield 22, 3) := by decide +kernel
theorem dX9_drawn_48 : decode cX9_drawn 48 = .ok (.iconst 0, 1) := by decide +kernel
theorem dX9_drawn_49 : decode cX9_drawn 49 = .ok (.aload_n 0, 1) := by decide +kernel
theorem dX9_drawn_50 : decode cX9_drawn 50 = .ok (.getfield 50, 3) := by decide +kernel
theorem dX9_drawn_53 : decode cX9_drawn 53 = .ok (.iconst 0, 1) := by decide +kernel
theorem dX9_drawn_54 : decode cX9_drawn 54 = .ok (.invokestatic 150, 3) := by decide +kernel
theorem dX9_drawn_57 : decode cX9_drawn 57 = .ok (.iload_n 2, 1) := by decide +kernel
theorem dX9_drawn_58 : decode cX9_drawn 58 = .ok (.i2l, 1) := by decide +kernel
theorem dX9_drawn_59 : decode cX9_drawn 59 = .ok (.lstore 4, 2) := by decide +kernel
theorem dX9_drawn_61 : decode cX9_drawn 61 = .ok (.iconst 0, 1) := by decide +kernel
theorem dX9_drawn_62 : decode cX9_drawn 62 = .ok (.istore 6, 2) := by decide +kernel
theorem dX9_drawn_64 : decode cX9_drawn 64 = .ok (.iload 6, 2) := by decide +kernel
theorem dX9_drawn_66 : decode cX9_drawn 66 = .ok (.iload_n 1, 1) := by decide +kernel
theorem dX9_drawn_67 : decode cX9_drawn 67 = .ok (.if_icmp .ge 74, 3) := by decide +kernel
theorem dX9_drawn_70 : decode cX9_drawn 70 = .ok (.lload 4, 2) := by decide +kernel
theorem dX9_drawn_72 : decode cX9_drawn 72 = .ok (.ldc2_w 264, 3) := by decide +kernel
theorem dX9_drawn_75 : decode cX9_drawn 75 = .ok (.lmul, 1) := by decide +kernel
theorem dX9_drawn_76 : decode cX9_drawn 76 = .ok (.ldc2_w 266, 3) := by decide +kernel
theorem dX9_drawn_79 : decode cX9_drawn 79 = .ok (.lrem, 1) := by decide +kernel
theorem dX9_drawn_80 : decode cX9_drawn 80 = .ok (.lstore 4, 2) := by decide +kernel
theorem dX9_drawn_82 : decode cX9_drawn 82 = .ok (.lload 4, 2) := by decide +kernel
theorem dX9_drawn_84 : decode cX9_drawn 84 = .ok (.ldc2_w 229, 3) := by decide +kernel
theorem dX9_drawn_87 : decode cX9_drawn 87 = .ok (.lrem, 1) := by decide +kernel
theorem dX9_drawn_88 : decode cX9_drawn 88 = .ok (.l2i, 1) := by decide +kernel
theorem dX9_drawn_89 : decode cX9_drawn 89 = .ok (.istore 7, 2) := by decide +kernel
theorem dX9_drawn_91 : decode cX9_drawn 91 = .ok (.aload_n 0, 1) := by decide +kernel
theorem dX9_drawn_92 : decode cX9_drawn 92 = .ok (.getfield 50, 3) := by decide +kernel
theorem dX9_drawn_95 : decode cX9_drawn 95 = .ok (.bipush 44, 2) := by decide +kernel
theorem dX9_drawn_97 : decode cX9_drawn 97 = .ok (.iload 7, 2) := by decide +kernel
theorem dX9_drawn_99 : decode cX9_drawn 99 = .ok (.iadd, 1) := by decide +kernel
theorem dX9_drawn_100 : decode cX9_drawn 100 = .ok (.iaload, 1) := by decide +kernel
theorem dX9_drawn_101 : decode cX9_drawn 101 = .ok (.iconst 1, 1) := by decide +kernel
theorem dX9_drawn_102 : decode cX9_drawn 102 = .ok (.if_icmp .ne 26, 3) := by decide +kernel
theorem dX9_drawn_105 : decode cX9_drawn 105 = .ok (.aload_n 0, 1) := by decide +kernel
theorem dX9_drawn_106 : decode cX9_drawn 106 = .ok (.aload_n 0, 1) := by decide +kernel
theorem dX9_drawn_107 : decode cX9_drawn 107 = .ok (.getfield 50, 3) := by decide +kernel
theorem dX9_drawn_110 : decode cX9_drawn 110 = .ok (.iload 7, 2) := by decide +kernel
theorem dX9_drawn_112 : decode cX9_drawn 112 = .ok (.lload 4, 2) := by decide +kernel
theorem dX9_drawn_114 : decode cX9_drawn 114 = .ok (.aload_n 0, 1) := by decide +kernel
theorem dX9_drawn_115 : decode cX9_drawn 115 = .ok (.getfield 50, 3) := by decide +kernel
theorem dX9_drawn_118 : decode cX9_drawn 118 = .ok (.iconst 3, 1) := by decide +kernel
theorem dX9_drawn_119 : decode cX9_drawn 119 = .ok (.iaload, 1) := by decide +kernel
theorem dX9_drawn_120 : decode cX9_drawn 120 = .ok (.i2l, 1) := by decide +kernel
theorem dX9_drawn_121 : decode cX9_drawn 121 = .ok (.lrem, 1) := by decide +kernel
theorem dX9_drawn_122 : decode cX9_drawn 122 = .ok (.l2i, 1) := by decide +kernel
theorem dX9_drawn_123 : decode cX9_drawn 123 = .ok (.invokevirtual 219, 3) := by decide +kernel
theorem dX9_drawn_126 : decode cX9_drawn 126 = .ok (.istore 8, 2) := by decide +kernel
theorem dX9_drawn_128 : decode cX9_drawn 128 = .ok (.aload_n 0, 1) := by decide +kernel
theorem dX9_drawn_129 : decode cX9_drawn 129 = .ok (.getfield 50, 3) := by decide +kernel
theorem dX9_drawn_132 : decode cX9_drawn 132 = .ok (.invokestatic 209, 3) := by decide +kernel
theorem dX9_drawn_135 : decode cX9_drawn 135 = .ok (.iinc 6 1, 3) := by decide +kernel
theorem dX9_drawn_138 : decode cX9_drawn 138 = .ok (.goto (-74), 3) := by decide +kernel
theorem dX9_drawn_141 : decode cX9_drawn 141 = .ok (.iconst 0, 1) := by decide +kernel
theorem dX9_drawn_142 : decode cX9_drawn 142 = .ok (.istore 6, 2) := by decide +kernel
theorem dX9_drawn_144 : decode cX9_drawn 144 = .ok (.iconst 0, 1) := by decide +kernel
theorem dX9_drawn_145 : decode cX9_drawn 145 = .ok (.istore 7, 2) := by decide +kernel
theorem dX9_drawn_147 : decode cX9_drawn 147 = .ok (.iload 7, 2) := by decide +kernel
theorem dX9_drawn_149 : decode cX9_drawn 149 = .ok (.iconst 4, 1) := by decide +kernel
theorem dX9_drawn_150 : decode cX9_drawn 150 = .ok (.if_icmp .ge 24, 3) := by decide +kernel
theorem dX9_drawn_153 : decode cX9_drawn 153 = .ok (.iload 6, 2) := by decide +kernel
theorem dX9_drawn_155 : decode cX9_drawn 155 = .ok (.aload_n 0, 1) := by decide +kernel
theorem dX9_drawn_156 : decode cX9_drawn 156 = .ok (.getfield 50, 3) := by decide +kernel
theorem dX9_drawn_159 : decode cX9_drawn 159 = .ok (.bipush 52, 2) := by decide +kernel
theorem dX9_drawn_161 : decode cX9_drawn 161 = .ok (.iload 7, 2) := by decide +kernel
theorem dX9_drawn_163 : decode cX9_drawn 163 = .ok (.iadd, 1) := by decide +kernel
theorem dX9_drawn_164 : decode cX9_drawn 164 = .ok (.iaload, 1) := by decide +kernel
theorem dX9_drawn_165 : decode cX9_drawn 165 = .ok (.iadd, 1) := by decide +kernel
theorem dX9_drawn_166 : decode cX9_drawn 166 = .ok (.istore 6, 2) := by decide +kernel
theorem dX9_drawn_168 : decode cX9_drawn 168 = .ok (.iinc 7 1, 3) := by decide +kernel
theorem dX9_drawn_171 : decode cX9_drawn 171 = .ok (.goto (-24), 3) := by decide +kernel
theorem dX9_drawn_174 : decode cX9_drawn 174 = .ok (.iload_n 3, 1) := by decide +kernel
theorem dX9_drawn_175 : decode cX9_drawn 175 = .ok (.ifCond .ne 13, 3) := by decide +kernel
theorem dX9_drawn_178 : decode cX9_drawn 178 = .ok (.aload_n 0, 1) := by decide +kernel
theorem dX9_drawn_179 : decode cX9_drawn 179 = .ok (.getfield 50, 3) := by decide +kernel
theorem dX9_drawn_182 : decode cX9_drawn 182 = .ok (.invokestatic 268, 3) := by decide +kernel
theorem dX9_drawn_185 : decode cX9_drawn 185 = .ok (.goto 5, 3) := by decide +kernel
theorem dX9_drawn_188 : decode cX9_drawn 188 = .ok (.iload 6, 2) := by decide +kernel
theorem dX9_drawn_190 : decode cX9_drawn 190 = .ok (.ireturn, 1) := by decide +kernel
theorem dX9_image_0 : decode cX9_image 0 = .ok (.iload_n 1, 1) := by decide +kernel
theorem dX9_image_1 : decode cX9_image 1 = .ok (.invokestatic 242, 3) := by decide +kernel
theorem dX9_image_4 : decode cX9_image 4 = .ok (.ifCond .ne 6, 3) := by decide +kernel
theorem dX9_image_7 : decode cX9_image 7 = .ok (.ldc 70, 2) := by decide +kernel
theorem dX9_image_9 : decode cX9_image 9 = .ok (.ireturn, 1) := by decide +kernel
theorem dX9_image_10 : decode cX9_image 10 = .ok (.aload_n 0, 1) := by decide +kernel
theorem dX9_image_11 : decode cX9_image 11 = .ok (.getfield 143, 3) := by decide +kernel
theorem dX9_image_14 : decode cX9_image 14 = .ok (.ifCond .ne 6, 3) := by decide +kernel
theorem dX9_image_17 : decode cX9_image 17 = .ok (.ldc 198, 2) := by decide +kernel
theorem dX9_image_19 : decode cX9_image 19 = .ok (.ireturn, 1) := by decide +kernel
theorem dX9_image_20 : decode cX9_image 20 = .ok (.aload_n 0, 1) := by decide +kernel
theorem dX9_image_21 : decode cX9_image 21 = .ok (.getfield 22, 3) := by decide +kernel
theorem dX9_image_24 : decode cX9_image 24 = .ok (.iconst 0, 1) := by decide +kernel
theorem dX9_image_25 : decode cX9_image 25 = .ok (.aload_n 0, 1) := by decide +kernel
theorem dX9_image_26 : decode cX9_image 26 = .ok (.getfield 28, 3) := by decide +kernel
theorem dX9_image_29 : decode cX9_image 29 = .ok (.bipush 66, 2) := by decide +kernel
theorem dX9_image_31 : decode cX9_image 31 = .ok (.iload_n 1, 1) := by decide +kernel
theorem dX9_image_32 : decode cX9_image 32 = .ok (.imul, 1) := by decide +kernel
theorem dX9_image_33 : decode cX9_image 33 = .ok (.invokestatic 150, 3) := by decide +kernel
theorem dX9_image_36 : decode cX9_image 36 = .ok (.aload_n 0, 1) := by decide +kernel
theorem dX9_image_37 : decode cX9_image 37 = .ok (.getfield 31, 3) := by decide +kernel
theorem dX9_image_40 : decode cX9_image 40 = .ok (.iload_n 1, 1) := by decide +kernel
theorem dX9_image_41 : decode cX9_image 41 = .ok (.iconst 1, 1) := by decide +kernel
theorem dX9_image_42 : decode cX9_image 42 = .ok (.bastore, 1) := by decide +kernel
theorem dX9_image_43 : decode cX9_image 43 = .ok (.iconst 1, 1) := by decide +kernel
theorem dX9_image_44 : decode cX9_image 44 = .ok (.ireturn, 1) := by decide +kernel
theorem dX9_restore_0 : decode cX9_restore 0 = .ok (.iload_n 1, 1) := by decide +kernel
theorem dX9_restore_1 : decode cX9_restore 1 = .ok (.invokestatic 242, 3) := by decide +kernel
theorem dX9_restore_4 : decode cX9_restore 4 = .ok (.ifCond .ne 6, 3) := by decide +kernel
theorem dX9_restore_7 : decode cX9_restore 7 = .ok (.ldc 70, 2) := by decide +kernel
theorem dX9_restore_9 : decode cX9_restore 9 = .ok (.ireturn, 1) := by decide +kernel
theorem dX9_restore_10 : decode cX9_restore 10 = .ok (.aload_n 0, 1) := by decide +kernel
theorem dX9_restore_11 : decode cX9_restore 11 = .ok (.getfield 31, 3) := by decide +kernel
theorem dX9_restore_14 : decode cX9_restore 14 = .ok (.iload_n 1, 1) := by decide +kernel
theorem dX9_restore_15 : decode cX9_restore 15 = .ok (.baload, 1) := by decide +kernel
theorem dX9_restore_16 : decode cX9_restore 16 = .ok (.ifCond .ne 6, 3) := by decide +kernel
theorem dX9_restore_19 : decode cX9_restore 19 = .ok (.ldc 198, 2) := by decide +kernel
theorem dX9_restore_21 : decode cX9_restore 21 = .ok (.ireturn, 1) := by decide +kernel
theorem dX9_restore_22 : decode cX9_restore 22 = .ok (.aload_n 0, 1) := by decide +kernel
theorem dX9_restore_23 : decode cX9_restore 23 = .ok (.getfield 28, 3) := by decide +kernel
theorem dX9_restore_26 : decode cX9_restore 26 = .ok (.bipush 66, 2) := by decide +kernel
theorem dX9_restore_28 : decode cX9_restore 28 = .ok (.iload_n 1, 1) := by decide +kernel
theorem dX9_restore_29 : decode cX9_restore 29 = .ok (.imul, 1) := by decide +kernel
theorem dX9_restore_30 : decode cX9_restore 30 = .ok (.aload_n 0, 1) := by decide +kernel
theorem dX9_restore_31 : decode cX9_restore 31 = .ok (.getfield 22, 3) := by decide +kernel
theorem dX9_restore_34 : decode cX9_restore 34 = .ok (.iconst 0, 1) := by decide +kernel
theorem dX9_restore_35 : decode cX9_restore 35 = .ok (.invokestatic 150, 3) := by decide +kernel
theorem dX9_restore_38 : decode cX9_restore 38 = .ok (.aload_n 0, 1) := by decide +kernel
theorem dX9_restore_39 : decode cX9_restore 39 = .ok (.iconst 0, 1) := by decide +kernel
theorem dX9_restore_40 : decode cX9_restore 40 = .ok (.putfield 147, 3) := by decide +kernel
theorem dX9_restore_43 : decode cX9_restore 43 = .ok (.iconst 1, 1) := by decide +kernel
theorem dX9_restore_44 : decode cX9_restore 44 = .ok (.ireturn, 1) := by decide +kernel
theorem dX9_kind_0 : decode cX9_kind 0 = .ok (.aload_n 0, 1) := by decide +kernel
theorem dX9_kind_1 : decode cX9_kind 1 = .ok (.iload_n 1, 1) := by decide +kernel
theorem dX9_kind_2 : decode cX9_kind 2 = .ok (.invokevirtual 199, 3) := by decide +kernel
theorem dX9_kind_5 : decode cX9_kind 5 = .ok (.ifCond .eq 15, 3) := by decide +kernel
theorem dX9_kind_8 : decode cX9_kind 8 = .ok (.aload_n 0, 1) := by decide +kernel
theorem dX9_kind_9 : decode cX9_kind 9 = .ok (.getfield 22, 3) := by decide +kernel
theorem dX9_kind_12 : decode cX9_kind 12 = .ok (.bipush 6, 2) := by decide +kernel
theorem dX9_kind_14 : decode cX9_kind 14 = .ok (.iload_n 1, 1) := by decide +kernel
theorem dX9_kind_15 : decode cX9_kind 15 = .ok (.iadd, 1) := by decide +kernel
theorem dX9_kind_16 : decode cX9_kind 16 = .ok (.iaload, 1) := by decide +kernel
theorem dX9_kind_17 : decode cX9_kind 17 = .ok (.goto 5, 3) := by decide +kernel
theorem dX9_kind_20 : decode cX9_kind 20 = .ok (.ldc 70, 2) := by decide +kernel
theorem dX9_kind_22 : decode cX9_kind 22 = .ok (.ireturn, 1) := by decide +kernel
theorem dX9_isOf_0 : decode cX9_isOf 0 = .ok (.iload_n 1, 1) := by decide +kernel
theorem dX9_isOf_1 : decode cX9_isOf 1 = .ok (.ifCond .eq 33, 3) := by decide +kernel
theorem dX9_isOf_4 : decode cX9_isOf 4 = .ok (.iload_n 0, 1) := by decide +kernel
theorem dX9_isOf_5 : decode cX9_isOf 5 = .ok (.iload_n 1, 1) := by decide +kernel
theorem dX9_isOf_6 : decode cX9_isOf 6 = .ok (.if_icmp .eq 28, 3) := by decide +kernel
theorem dX9_isOf_9 : decode cX9_isOf 9 = .ok (.iload_n 1, 1) := by decide +kernel
theorem dX9_isOf_10 : decode cX9_isOf 10 = .ok (.iconst 1, 1) := by decide +kernel
theorem dX9_isOf_11 : decode cX9_isOf 11 = .ok (.if_icmp .ne 13, 3) := by decide +kernel
theorem dX9_isOf_14 : decode cX9_isOf 14 = .ok (.iload_n 0, 1) := by decide +kernel
theorem dX9_isOf_15 : decode cX9_isOf 15 = .ok (.iconst 2, 1) := by decide +kernel
theorem dX9_isOf_16 : decode cX9_isOf 16 = .ok (.if_icmp .eq 18, 3) := by decide +kernel
theorem dX9_isOf_19 : decode cX9_isOf 19 = .ok (.iload_n 0, 1) := by decide +kernel
theorem dX9_isOf_20 : decode cX9_isOf 20 = .ok (.iconst 3, 1) := by decide +kernel
theorem dX9_isOf_21 : decode cX9_isOf 21 = .ok (.if_icmp .eq 13, 3) := by decide +kernel
theorem dX9_isOf_24 : decode cX9_isOf 24 = .ok (.iload_n 1, 1) := by decide +kernel
theorem dX9_isOf_25 : decode cX9_isOf 25 = .ok (.iconst 4, 1) := by decide +kernel
theorem dX9_isOf_26 : decode cX9_isOf 26 = .ok (.if_icmp .ne 12, 3) := by decide +kernel
theorem dX9_isOf_29 : decode cX9_isOf 29 = .ok (.iload_n 0, 1) := by decide +kernel
theorem dX9_isOf_30 : decode cX9_isOf 30 = .ok (.iconst 5, 1) := by decide +kernel
theorem dX9_isOf_31 : decode cX9_isOf 31 = .ok (.if_icmp .ne 7, 3) := by decide +kernel
theorem dX9_isOf_34 : decode cX9_isOf 34 = .ok (.iconst 1, 1) := by decide +kernel
theorem dX9_isOf_35 : decode cX9_isOf 35 = .ok (.goto 4, 3) := by decide +kernel
theorem dX9_isOf_38 : decode cX9_isOf 38 = .ok (.iconst 0, 1) := by decide +kernel
theorem dX9_isOf_39 : decode cX9_isOf 39 = .ok (.ireturn, 1) := by decide +kernel
theorem dX9_as_0 : decode cX9_as 0 = .ok (.aload_n 0, 1) := by decide +kernel
theorem dX9_as_1 : decode cX9_as 1 = .ok (.iload_n 1, 1) := by decide +kernel
theorem dX9_as_2 : decode cX9_as 2 = .ok (.invokevirtual 199, 3) := by decide +kernel
theorem dX9_as_5 : decode cX9_as 5 = .ok (.ifCond .eq 15, 3) := by decide +kernel
theorem dX9_as_8 : decode cX9_as 8 = .ok (.iload_n 2, 1) := by decide +kernel
theorem dX9_as_9 : decode cX9_as 9 = .ok (.i2l, 1) := by decide +kernel
theorem dX9_as_10 : decode cX9_as 10 = .ok (.lconst 0, 1) := by decide +kernel
theorem dX9_as_11 : decode cX9_as 11 = .ok (.ldc2_w 272, 3) := by decide +kernel
theorem dX9_as_14 : decode cX9_as 14 = .ok (.invokestatic 60, 3) := by decide +kernel
theorem dX9_as_17 : decode cX9_as 17 = .ok (.ifCond .ne 6, 3) := by decide +kernel
theorem dX9_as_20 : decode cX9_as 20 = .ok (.ldc 70, 2) := by decide +kernel
theorem dX9_as_22 : decode cX9_as 22 = .ok (.ireturn, 1) := by decide +kernel
theorem dX9_as_23 : decode cX9_as 23 = .ok (.aload_n 0, 1) := by decide +kernel
theorem dX9_as_24 : decode cX9_as 24 = .ok (.getfield 22, 3) := by decide +kernel
theorem dX9_as_27 : decode cX9_as 27 = .ok (.bipush 6, 2) := by decide +kernel
theorem dX9_as_29 : decode cX9_as 29 = .ok (.iload_n 1, 1) := by decide +kernel
theorem dX9_as_30 : decode cX9_as 30 = .ok (.iadd, 1) := by decide +kernel
theorem dX9_as_31 : decode cX9_as 31 = .ok (.iaload, 1) := by decide +kernel
theorem dX9_as_32 : decode cX9_as 32 = .ok (.iload_n 2, 1) := by decide +kernel
theorem dX9_as_33 : decode cX9_as 33 = .ok (.invokestatic 274, 3) := by decide +kernel
theorem dX9_as_36 : decode cX9_as 36 = .ok (.ifCond .eq 11, 3) := by decide +kernel
theorem dX9_as_39 : decode cX9_as 39 = .ok (.aload_n 0, 1) := by decide +kernel
theorem dX9_as_40 : decode cX9_as 40 = .ok (.iload_n 1, 1) := by decide +kernel
theorem dX9_as_41 : decode cX9_as 41 = .ok (.invokevirtual 75, 3) := by decide +kernel
theorem dX9_as_44 : decode cX9_as 44 = .ok (.goto 8, 3) := by decide +kernel
theorem dX9_as_47 : decode cX9_as 47 = .ok (.aload_n 0, 1) := by decide +kernel
theorem dX9_as_48 : decode cX9_as 48 = .ok (.iconst 3, 1) := by decide +kernel
theorem dX9_as_49 : decode cX9_as 49 = .ok (.invokevirtual 71, 3) := by decide +kernel
theorem dX9_as_52 : decode cX9_as 52 = .ok (.ireturn, 1) := by decide +kernel
theorem dX9_leave_0 : decode cX9_leave 0 = .ok (.lconst 1, 1) := by decide +kernel
theorem dX9_leave_1 : decode cX9_leave 1 = .ok (.lstore_n 3, 1) := by decide +kernel
theorem dX9_leave_2 : decode cX9_leave 2 = .ok (.lload_n 3, 1) := by decide +kernel
theorem dX9_leave_3 : decode cX9_leave 3 = .ok (.ldc2_w 277, 3) := by decide +kernel
theorem dX9_leave_6 : decode cX9_leave 6 = .ok (.lmul, 1) := by decide +kernel
theorem dX9_leave_7 : decode cX9_leave 7 = .ok (.lload_n 1, 1) := by decide +kernel
theorem dX9_leave_8 : decode cX9_leave 8 = .ok (.lcmp, 1) := by decide +kernel
theorem dX9_leave_9 : decode cX9_leave 9 = .ok (.ifCond .gt 12, 3) := by decide +kernel
theorem dX9_leave_12 : decode cX9_leave 12 = .ok (.lload_n 3, 1) := by decide +kernel
theorem dX9_leave_13 : decode cX9_leave 13 = .ok (.ldc2_w 277, 3) := by decide +kernel
theorem dX9_leave_16 : decode cX9_leave 16 = .ok (.lmul, 1) := by decide +kernel
theorem dX9_leave_17 : decode cX9_leave 17 = .ok (.lstore_n 3, 1) := by decide +kernel
theorem dX9_leave_18 : decode cX9_leave 18 = .ok (.goto (-16), 3) := by decide +kernel
theorem dX9_leave_21 : decode cX9_leave 21 = .ok (.lload_n 1, 1) := by decide +kernel
theorem dX9_leave_22 : decode cX9_leave 22 = .ok (.lstore 5, 2) := by decide +kernel
theorem dX9_leave_24 : decode cX9_leave 24 = .ok (.lload_n 3, 1) := by decide +kernel
theorem dX9_leave_25 : decode cX9_leave 25 = .ok (.lconst 0, 1) := by decide +kernel
theorem dX9_leave_26 : decode cX9_leave 26 = .ok (.lcmp, 1) := by decide +kernel
theorem dX9_leave_27 : decode cX9_leave 27 = .ok (.ifCond .le 42, 3) := by decide +kernel
theorem dX9_leave_30 : decode cX9_leave 30 = .ok (.aload_n 0, 1) := by decide +kernel
theorem dX9_leave_31 : decode cX9_leave 31 = .ok (.getfield 35, 3) := by decide +kernel
theorem dX9_leave_34 : decode cX9_leave 34 = .ok (.aload_n 0, 1) := by decide +kernel
theorem dX9_leave_35 : decode cX9_leave 35 = .ok (.getfield 279, 3) := by decide +kernel
theorem dX9_leave_38 : decode cX9_leave 38 = .ok (.lload 5, 2) := by decide +kernel
theorem dX9_leave_40 : decode cX9_leave 40 = .ok (.lload_n 3, 1) := by decide +kernel
theorem dX9_leave_41 : decode cX9_leave 41 = .ok (.ldiv, 1) := by decide +kernel
theorem dX9_leave_42 : decode cX9_leave 42 = .ok (.l2i, 1) := by decide +kernel
theorem dX9_leave_43 : decode cX9_leave 43 = .ok (.iastore, 1) := by decide +kernel
theorem dX9_leave_44 : decode cX9_leave 44 = .ok (.lload 5, 2) := by decide +kernel
theorem dX9_leave_46 : decode cX9_leave 46 = .ok (.lload_n 3, 1) := by decide +kernel
theorem dX9_leave_47 : decode cX9_leave 47 = .ok (.lrem, 1) := by decide +kernel
theorem dX9_leave_48 : decode cX9_leave 48 = .ok (.lstore 5, 2) := by decide +kernel
theorem dX9_leave_50 : decode cX9_leave 50 = .ok (.aload_n 0, 1) := by decide +kernel
theorem dX9_leave_51 : decode cX9_leave 51 = .ok (.dup, 1) := by decide +kernel
theorem dX9_leave_52 : decode cX9_leave 52 = .ok (.getfield 279, 3) := by decide +kernel
theorem dX9_leave_55 : decode cX9_leave 55 = .ok (.iconst 1, 1) := by decide +kernel
theorem dX9_leave_56 : decode cX9_leave 56 = .ok (.iadd, 1) := by decide +kernel
theorem dX9_leave_57 : decode cX9_leave 57 = .ok (.putfield 279, 3) := by decide +kernel
theorem dX9_leave_60 : decode cX9_leave 60 = .ok (.lload_n 3, 1) := by decide +kernel
theorem dX9_leave_61 : decode cX9_leave 61 = .ok (.ldc2_w 277, 3) := by decide +kernel
theorem dX9_leave_64 : decode cX9_leave 64 = .ok (.ldiv, 1) := by decide +kernel
theorem dX9_leave_65 : decode cX9_leave 65 = .ok (.lstore_n 3, 1) := by decide +kernel
theorem dX9_leave_66 : decode cX9_leave 66 = .ok (.goto (-42), 3) := by decide +kernel
theorem dX9_leave_69 : decode cX9_leave 69 = .ok (.return_, 1) := by decide +kernel
theorem dX9_mark_0 : decode cX9_mark 0 = .ok (.aload_n 0, 1) := by decide +kernel
theorem dX9_mark_1 : decode cX9_mark 1 = .ok (.getfield 22, 3) := by decide +kernel
theorem dX9_mark_4 : decode cX9_mark 4 = .ok (.bipush 6, 2) := by decide +kernel
theorem dX9_mark_6 : decode cX9_mark 6 = .ok (.iload_n 1, 1) := by decide +kernel
theorem dX9_mark_7 : decode cX9_mark 7 = .ok (.iadd, 1) := by decide +kernel
theorem dX9_mark_8 : decode cX9_mark 8 = .ok (.iaload, 1) := by decide +kernel
theorem dX9_mark_9 : decode cX9_mark 9 = .ok (.istore_n 2, 1) := by decide +kernel
theorem dX9_mark_10 : decode cX9_mark 10 = .ok (.iload_n 1, 1) := by decide +kernel
theorem dX9_mark_11 : decode cX9_mark 11 = .ok (.aload_n 0, 1) := by decide +kernel
theorem dX9_mark_12 : decode cX9_mark 12 = .ok (.getfield 22, 3) := by decide +kernel
theorem dX9_mark_15 : decode cX9_mark 15 = .ok (.bipush 18, 2) := by decide +kernel
theorem dX9_mark_17 : decode cX9_mark 17 = .ok (.iload_n 1, 1) := by decide +kernel
theorem dX9_mark_18 : decode cX9_mark 18 = .ok (.iadd, 1) := by decide +kernel
theorem dX9_mark_19 : decode cX9_mark 19 = .ok (.iaload, 1) := by decide +kernel
theorem dX9_mark_20 : decode cX9_mark 20 = .ok (.iadd, 1) := by decide +kernel
theorem dX9_mark_21 : decode cX9_mark 21 = .ok (.istore_n 3, 1) := by decide +kernel
theorem dX9_mark_22 : decode cX9_mark 22 = .ok (.aload_n 0, 1) := by decide +kernel
theorem dX9_mark_23 : decode cX9_mark 23 = .ok (.iload_n 2, 1) := by decide +kernel
theorem dX9_mark_24 : decode cX9_mark 24 = .ok (.iconst 2, 1) := by decide +kernel
theorem dX9_mark_25 : decode cX9_mark 25 = .ok (.if_icmp .ne 9, 3) := by decide +kernel
theorem dX9_mark_28 : decode cX9_mark 28 = .ok (.ldc2_w 282, 3) := by decide +kernel
theorem dX9_mark_31 : decode cX9_mark 31 = .ok (.goto 17, 3) := by decide +kernel
theorem dX9_mark_34 : decode cX9_mark 34 = .ok (.iload_n 2, 1) := by decide +kernel
theorem dX9_mark_35 : decode cX9_mark 35 = .ok (.iconst 3, 1) := by decide +kernel
theorem dX9_mark_36 : decode cX9_mark 36 = .ok (.if_icmp .ne 9, 3) := by decide +kernel
theorem dX9_mark_39 : decode cX9_mark 39 = .ok (.ldc2_w 284, 3) := by decide +kernel
theorem dX9_mark_42 : decode cX9_mark 42 = .ok (.goto 6, 3) := by decide +kernel
theorem dX9_mark_45 : decode cX9_mark 45 = .ok (.ldc2_w 286, 3) := by decide +kernel
theorem dX9_mark_48 : decode cX9_mark 48 = .ok (.invokevirtual 288, 3) := by decide +kernel
theorem dX9_mark_51 : decode cX9_mark 51 = .ok (.iload_n 2, 1) := by decide +kernel
theorem dX9_mark_52 : decode cX9_mark 52 = .ok (.iconst 2, 1) := by decide +kernel
theorem dX9_mark_53 : decode cX9_mark 53 = .ok (.if_icmp .ne 9, 3) := by decide +kernel
theorem dX9_mark_56 : decode cX9_mark 56 = .ok (.iconst 2, 1) := by decide +kernel
theorem dX9_mark_57 : decode cX9_mark 57 = .ok (.iload_n 3, 1) := by decide +kernel
theorem dX9_mark_58 : decode cX9_mark 58 = .ok (.imul, 1) := by decide +kernel
theorem dX9_mark_59 : decode cX9_mark 59 = .ok (.goto 17, 3) := by decide +kernel
theorem dX9_mark_62 : decode cX9_mark 62 = .ok (.iload_n 2, 1) := by decide +kernel
theorem dX9_mark_63 : decode cX9_mark 63 = .ok (.iconst 3, 1) := by decide +kernel
theorem dX9_mark_64 : decode cX9_mark 64 = .ok (.if_icmp .ne 11, 3) := by decide +kernel
theorem dX9_mark_67 : decode cX9_mark 67 = .ok (.iload_n 3, 1) := by decide +kernel
theorem dX9_mark_68 : decode cX9_mark 68 = .ok (.sipush 1000, 3) := by decide +kernel
theorem dX9_mark_71 : decode cX9_mark 71 = .ok (.isub, 1) := by decide +kernel
theorem dX9_mark_72 : decode cX9_mark 72 = .ok (.goto 4, 3) := by decide +kernel
theorem dX9_mark_75 : decode cX9_mark 75 = .ok (.iload_n 3, 1) := by decide +kernel
theorem dX9_mark_76 : decode cX9_mark 76 = .ok (.ireturn, 1) := by decide +kernel
theorem dX9_sizeOf_0 : decode cX9_sizeOf 0 = .ok (.aload_n 0, 1) := by decide +kernel
theorem dX9_sizeOf_1 : decode cX9_sizeOf 1 = .ok (.getfield 22, 3) := by decide +kernel
theorem dX9_sizeOf_4 : decode cX9_sizeOf 4 = .ok (.bipush 12, 2) := by decide +kernel
theorem dX9_sizeOf_6 : decode cX9_sizeOf 6 = .ok (.iload_n 1, 1) := by decide +kernel
theorem dX9_sizeOf_7 : decode cX9_sizeOf 7 = .ok (.iadd, 1) := by decide +kernel
theorem dX9_sizeOf_8 : decode cX9_sizeOf 8 = .ok (.iaload, 1) := by decide +kernel
theorem dX9_sizeOf_9 : decode cX9_sizeOf 9 = .ok (.bipush 100, 2) := by decide +kernel
theorem dX9_sizeOf_11 : decode cX9_sizeOf 11 = .ok (.isub, 1) := by decide +kernel
theorem dX9_sizeOf_12 : decode cX9_sizeOf 12 = .ok (.istore_n 2, 1) := by decide +kernel
theorem dX9_sizeOf_13 : decode cX9_sizeOf 13 = .ok (.aload_n 0, 1) := by decide +kernel
theorem dX9_sizeOf_14 : decode cX9_sizeOf 14 = .ok (.getfield 22, 3) := by decide +kernel
theorem dX9_sizeOf_17 : decode cX9_sizeOf 17 = .ok (.bipush 6, 2) := by decide +kernel
theorem dX9_sizeOf_19 : decode cX9_sizeOf 19 = .ok (.iload_n 1, 1) := by decide +kernel
theorem dX9_sizeOf_20 : decode cX9_sizeOf 20 = .ok (.iadd, 1) := by decide +kernel
theorem dX9_sizeOf_21 : decode cX9_sizeOf 21 = .ok (.iaload, 1) := by decide +kernel
theorem dX9_sizeOf_22 : decode cX9_sizeOf 22 = .ok (.iconst 5, 1) := by decide +kernel
theorem dX9_sizeOf_23 : decode cX9_sizeOf 23 = .ok (.if_icmp .ne 7, 3) := by decide +kernel
theorem dX9_sizeOf_26 : decode cX9_sizeOf 26 = .ok (.iconst 1, 1) := by decide +kernel
theorem dX9_sizeOf_27 : decode cX9_sizeOf 27 = .ok (.goto 4, 3) := by decide +kernel
theorem dX9_sizeOf_30 : decode cX9_sizeOf 30 = .ok (.iconst 0, 1) := by decide +kernel
theorem dX9_sizeOf_31 : decode cX9_sizeOf 31 = .ok (.istore_n 3, 1) := by decide +kernel
theorem dX9_sizeOf_32 : decode cX9_sizeOf 32 = .ok (.aload_n 0, 1) := by decide +kernel
theorem dX9_sizeOf_33 : decode cX9_sizeOf 33 = .ok (.iload_n 3, 1) := by decide +kernel
theorem dX9_sizeOf_34 : decode cX9_sizeOf 34 = .ok (.ifCond .eq 9, 3) := by decide +kernel
theorem dX9_sizeOf_37 : decode cX9_sizeOf 37 = .ok (.ldc2_w 292, 3) := by decide +kernel
theorem dX9_sizeOf_40 : decode cX9_sizeOf 40 = .ok (.goto 6, 3) := by decide +kernel
theorem dX9_sizeOf_43 : decode cX9_sizeOf 43 = .ok (.ldc2_w 294, 3) := by decide +kernel
theorem dX9_sizeOf_46 : decode cX9_sizeOf 46 = .ok (.invokevirtual 288, 3) := by decide +kernel
theorem dX9_sizeOf_49 : decode cX9_sizeOf 49 = .ok (.iload_n 3, 1) := by decide +kernel
theorem dX9_sizeOf_50 : decode cX9_sizeOf 50 = .ok (.ifCond .eq 9, 3) := by decide +kernel
theorem dX9_sizeOf_53 : decode cX9_sizeOf 53 = .ok (.iconst 2, 1) := by decide +kernel
theorem dX9_sizeOf_54 : decode cX9_sizeOf 54 = .ok (.iload_n 2, 1) := by decide +kernel
theorem dX9_sizeOf_55 : decode cX9_sizeOf 55 = .ok (.imul, 1) := by decide +kernel
theorem dX9_sizeOf_56 : decode cX9_sizeOf 56 = .ok (.goto 4, 3) := by decide +kernel
theorem dX9_sizeOf_59 : decode cX9_sizeOf 59 = .ok (.iload_n 2, 1) := by decide +kernel
theorem dX9_sizeOf_60 : decode cX9_sizeOf 60 = .ok (.ireturn, 1) := by decide +kernel
theorem dX9_ask_0 : decode cX9_ask 0 = .ok (.aload_n 0, 1) := by decide +kernel
theorem dX9_ask_1 : decode cX9_ask 1 = .ok (.iload_n 1, 1) := by decide +kernel
theorem dX9_ask_2 : decode cX9_ask 2 = .ok (.invokevirtual 199, 3) := by decide +kernel
theorem dX9_ask_5 : decode cX9_ask 5 = .ok (.ifCond .eq 13, 3) := by decide +kernel
theorem dX9_ask_8 : decode cX9_ask 8 = .ok (.iload_n 2, 1) := by decide +kernel
theorem dX9_ask_9 : decode cX9_ask 9 = .ok (.i2l, 1) := by decide +kernel
theorem dX9_ask_10 : decode cX9_ask 10 = .ok (.lconst 0, 1) := by decide +kernel
theorem dX9_ask_11 : decode cX9_ask 11 = .ok (.lconst 1, 1) := by decide +kernel
theorem dX9_ask_12 : decode cX9_ask 12 = .ok (.invokestatic 60, 3) := by decide +kernel
theorem dX9_ask_15 : decode cX9_ask 15 = .ok (.ifCond .ne 6, 3) := by decide +kernel
theorem dX9_ask_18 : decode cX9_ask 18 = .ok (.ldc 70, 2) := by decide +kernel
theorem dX9_ask_20 : decode cX9_ask 20 = .ok (.ireturn, 1) := by decide +kernel
theorem dX9_ask_21 : decode cX9_ask 21 = .ok (.aload_n 0, 1) := by decide +kernel
theorem dX9_ask_22 : decode cX9_ask 22 = .ok (.iconst 0, 1) := by decide +kernel
theorem dX9_ask_23 : decode cX9_ask 23 = .ok (.putfield 279, 3) := by decide +kernel
theorem dX9_ask_26 : decode cX9_ask 26 = .ok (.aload_n 0, 1) := by decide +kernel
theorem dX9_ask_27 : decode cX9_ask 27 = .ok (.getfield 22, 3) := by decide +kernel
theorem dX9_ask_30 : decode cX9_ask 30 = .ok (.bipush 6, 2) := by decide +kernel
theorem dX9_ask_32 : decode cX9_ask 32 = .ok (.iload_n 1, 1) := by decide +kernel
theorem dX9_ask_33 : decode cX9_ask 33 = .ok (.iadd, 1) := by decide +kernel
theorem dX9_ask_34 : decode cX9_ask 34 = .ok (.iaload, 1) := by decide +kernel
theorem dX9_ask_35 : decode cX9_ask 35 = .ok (.istore_n 3, 1) := by decide +kernel
theorem dX9_ask_36 : decode cX9_ask 36 = .ok (.iload_n 3, 1) := by decide +kernel
theorem dX9_ask_37 : decode cX9_ask 37 = .ok (.iconst 4, 1) := by decide +kernel
theorem dX9_ask_38 : decode cX9_ask 38 = .ok (.if_icmp .ge 63, 3) := by decide +kernel
theorem dX9_ask_41 : decode cX9_ask 41 = .ok (.iload_n 2, 1) := by decide +kernel
theorem dX9_ask_42 : decode cX9_ask 42 = .ok (.iconst 1, 1) := by decide +kernel
theorem dX9_ask_43 : decode cX9_ask 43 = .ok (.if_icmp .ne 9, 3) := by decide +kernel
theorem dX9_ask_46 : decode cX9_ask 46 = .ok (.aload_n 0, 1) := by decide +kernel
theorem dX9_ask_47 : decode cX9_ask 47 = .ok (.iload_n 1, 1) := by decide +kernel
theorem dX9_ask_48 : decode cX9_ask 48 = .ok (.invokevirtual 296, 3) := by decide +kernel
theorem dX9_ask_51 : decode cX9_ask 51 = .ok (.ireturn, 1) := by decide +kernel
theorem dX9_ask_52 : decode cX9_ask 52 = .ok (.aload_n 0, 1) := by decide +kernel
theorem dX9_ask_53 : decode cX9_ask 53 = .ok (.iload_n 3, 1) := by decide +kernel
theorem dX9_ask_54 : decode cX9_ask 54 = .ok (.iconst 2, 1) := by decide +kernel
theorem dX9_ask_55 : decode cX9_ask 55 = .ok (.if_icmp .ne 9, 3) := by decide +kernel
theorem dX9_ask_58 : decode cX9_ask 58 = .ok (.ldc2_w 299, 3) := by decide +kernel
theorem dX9_ask_61 : decode cX9_ask 61 = .ok (.goto 6, 3) := by decide +kernel
theorem dX9_ask_64 : decode cX9_ask 64 = .ok (.ldc2_w 301, 3) := by decide +kernel
theorem dX9_ask_67 : decode cX9_ask 67 = .ok (.invokevirtual 288, 3) := by decide +kernel
theorem dX9_ask_70 : decode cX9_ask 70 = .ok (.aload_n 0, 1) := by decide +kernel
theorem dX9_ask_71 : decode cX9_ask 71 = .ok (.getfield 22, 3) := by decide +kernel
theorem dX9_ask_74 : decode cX9_ask 74 = .ok (.bipush 12, 2) := by decide +kernel
theorem dX9_ask_76 : decode cX9_ask 76 = .ok (.iload_n 1, 1) := by decide +kernel
theorem dX9_ask_77 : decode cX9_ask 77 = .ok (.iadd, 1) := by decide +kernel
theorem dX9_ask_78 : decode cX9_ask 78 = .ok (.iaload, 1) := by decide +kernel
theorem dX9_ask_79 : decode cX9_ask 79 = .ok (.aload_n 0, 1) := by decide +kernel
theorem dX9_ask_80 : decode cX9_ask 80 = .ok (.iload_n 1, 1) := by decide +kernel
theorem dX9_ask_81 : decode cX9_ask 81 = .ok (.invokevirtual 296, 3) := by decide +kernel
theorem dX9_ask_84 : decode cX9_ask 84 = .ok (.iadd, 1) := by decide +kernel
theorem dX9_ask_85 : decode cX9_ask 85 = .ok (.istore 4, 2) := by decide +kernel
theorem dX9_ask_87 : decode cX9_ask 87 = .ok (.iload_n 3, 1) := by decide +kernel
theorem dX9_ask_88 : decode cX9_ask 88 = .ok (.iconst 2, 1) := by decide +kernel
theorem dX9_ask_89 : decode cX9_ask 89 = .ok (.if_icmp .ne 9, 3) := by decide +kernel
theorem dX9_ask_92 : decode cX9_ask 92 = .ok (.iload 4, 2) := by decide +kernel
theorem dX9_ask_94 : decode cX9_ask 94 = .ok (.ineg, 1) := by decide +kernel
theorem dX9_ask_95 : decode cX9_ask 95 = .ok (.goto 5, 3) := by decide +kernel
theorem dX9_ask_98 : decode cX9_ask 98 = .ok (.iload 4, 2) := by decide +kernel
theorem dX9_ask_100 : decode cX9_ask 100 = .ok (.ireturn, 1) := by decide +kernel
theorem dX9_ask_101 : decode cX9_ask 101 = .ok (.iload_n 2, 1) := by decide +kernel
theorem dX9_ask_102 : decode cX9_ask 102 = .ok (.ifCond .ne 9, 3) := by decide +kernel
theorem dX9_ask_105 : decode cX9_ask 105 = .ok (.aload_n 0, 1) := by decide +kernel
theorem dX9_ask_106 : decode cX9_ask 106 = .ok (.iload_n 1, 1) := by decide +kernel
theorem dX9_ask_107 : decode cX9_ask 107 = .ok (.invokevirtual 303, 3) := by decide +kernel
theorem dX9_ask_110 : decode cX9_ask 110 = .ok (.ireturn, 1) := by decide +kernel
theorem dX9_ask_111 : decode cX9_ask 111 = .ok (.aload_n 0, 1) := by decide +kernel
theorem dX9_ask_112 : decode cX9_ask 112 = .ok (.ldc2_w 306, 3) := by decide +kernel
theorem dX9_ask_115 : decode cX9_ask 115 = .ok (.invokevirtual 288, 3) := by decide +kernel
theorem dX9_ask_118 : decode cX9_ask 118 = .ok (.iload_n 1, 1) := by decide +kernel
theorem dX9_ask_119 : decode cX9_ask 119 = .ok (.aload_n 0, 1) := by decide +kernel
theorem dX9_ask_120 : decode cX9_ask 120 = .ok (.iload_n 1, 1) := by decide +kernel
theorem dX9_ask_121 : decode cX9_ask 121 = .ok (.invokevirtual 303, 3) := by decide +kernel
theorem dX9_ask_124 : decode cX9_ask 124 = .ok (.isub, 1) := by decide +kernel
theorem dX9_ask_125 : decode cX9_ask 125 = .ok (.ireturn, 1) := by decide +kernel
theorem dX9_trace_0 : decode cX9_trace 0 = .ok (.iload_n 1, 1) := by decide +kernel
theorem dX9_trace_1 : decode cX9_trace 1 = .ok (.i2l, 1) := by decide +kernel
theorem dX9_trace_2 : decode cX9_trace 2 = .ok (.lconst 0, 1) := by decide +kernel
theorem dX9_trace_3 : decode cX9_trace 3 = .ok (.aload_n 0, 1) := by decide +kernel
theorem dX9_trace_4 : decode cX9_trace 4 = .ok (.getfield 279, 3) := by decide +kernel
theorem dX9_trace_7 : decode cX9_trace 7 = .ok (.iconst 1, 1) := by decide +kernel
theorem dX9_trace_8 : decode cX9_trace 8 = .ok (.isub, 1) := by decide +kernel
theorem dX9_trace_9 : decode cX9_trace 9 = .ok (.i2l, 1) := by decide +kernel
theorem dX9_trace_10 : decode cX9_trace 10 = .ok (.invokestatic 60, 3) := by decide +kernel
theorem dX9_trace_13 : decode cX9_trace 13 = .ok (.ifCond .eq 12, 3) := by decide +kernel
theorem dX9_trace_16 : decode cX9_trace 16 = .ok (.aload_n 0, 1) := by decide +kernel
theorem dX9_trace_17 : decode cX9_trace 17 = .ok (.getfield 35, 3) := by decide +kernel
theorem dX9_trace_20 : decode cX9_trace 20 = .ok (.iload_n 1, 1) := by decide +kernel
theorem dX9_trace_21 : decode cX9_trace 21 = .ok (.iaload, 1) := by decide +kernel
theorem dX9_trace_22 : decode cX9_trace 22 = .ok (.goto 5, 3) := by decide +kernel
theorem dX9_trace_25 : decode cX9_trace 25 = .ok (.ldc 231, 2) := by decide +kernel
theorem dX9_trace_27 : decode cX9_trace 27 = .ok (.ireturn, 1) := by decide +kernel
theorem dX9_count_0 : decode cX9_count 0 = .ok (.iconst 0, 1) := by decide +kernel
theorem dX9_count_1 : decode cX9_count 1 = .ok (.istore_n 2, 1) := by decide +kernel
theorem dX9_count_2 : decode cX9_count 2 = .ok (.iconst 0, 1) := by decide +kernel
theorem dX9_count_3 : decode cX9_count 3 = .ok (.istore_n 3, 1) := by decide +kernel
theorem dX9_count_4 : decode cX9_count 4 = .ok (.iload_n 3, 1) := by decide +kernel
theorem dX9_count_5 : decode cX9_count 5 = .ok (.bipush 8, 2) := by decide +kernel
theorem dX9_count_7 : decode cX9_count 7 = .ok (.if_icmp .ge 26, 3) := by decide +kernel
theorem dX9_count_10 : decode cX9_count 10 = .ok (.iload_n 2, 1) := by decide +kernel
theorem dX9_count_11 : decode cX9_count 11 = .ok (.aload_n 0, 1) := by decide +kernel
theorem dX9_count_12 : decode cX9_count 12 = .ok (.getfield 13, 3) := by decide +kernel
theorem dX9_count_15 : decode cX9_count 15 = .ok (.iload_n 3, 1) := by decide +kernel
theorem dX9_count_16 : decode cX9_count 16 = .ok (.iaload, 1) := by decide +kernel
theorem dX9_count_17 : decode cX9_count 17 = .ok (.ifCond .ge 7, 3) := by decide +kernel
theorem dX9_count_20 : decode cX9_count 20 = .ok (.iconst 0, 1) := by decide +kernel
theorem dX9_count_21 : decode cX9_count 21 = .ok (.goto 4, 3) := by decide +kernel
theorem dX9_count_24 : decode cX9_count 24 = .ok (.iconst 1, 1) := by decide +kernel
theorem dX9_count_25 : decode cX9_count 25 = .ok (.iadd, 1) := by decide +kernel
theorem dX9_count_26 : decode cX9_count 26 = .ok (.istore_n 2, 1) := by decide +kernel
theorem dX9_count_27 : decode cX9_count 27 = .ok (.iinc 3 1, 3) := by decide +kernel
theorem dX9_count_30 : decode cX9_count 30 = .ok (.goto (-26), 3) := by decide +kernel
theorem dX9_count_33 : decode cX9_count 33 = .ok (.iconst 0, 1) := by decide +kernel
theorem dX9_count_34 : decode cX9_count 34 = .ok (.istore_n 3, 1) := by decide +kernel
theorem dX9_count_35 : decode cX9_count 35 = .ok (.iconst 0, 1) := by decide +kernel
theorem dX9_count_36 : decode cX9_count 36 = .ok (.istore 4, 2) := by decide +kernel
theorem dX9_count_38 : decode cX9_count 38 = .ok (.iload 4, 2) := by decide +kernel
theorem dX9_count_40 : decode cX9_count 40 = .ok (.iconst 4, 1) := by decide +kernel
theorem dX9_count_41 : decode cX9_count 41 = .ok (.if_icmp .ge 22, 3) := by decide +kernel
theorem dX9_count_44 : decode cX9_count 44 = .ok (.iload_n 3, 1) := by decide +kernel
theorem dX9_count_45 : decode cX9_count 45 = .ok (.aload_n 0, 1) := by decide +kernel
theorem dX9_count_46 : decode cX9_count 46 = .ok (.getfield 22, 3) := by decide +kernel
theorem dX9_count_49 : decode cX9_count 49 = .ok (.bipush 44, 2) := by decide +kernel
theorem dX9_count_51 : decode cX9_count 51 = .ok (.iload 4, 2) := by decide +kernel
theorem dX9_count_53 : decode cX9_count 53 = .ok (.iadd, 1) := by decide +kernel
theorem dX9_count_54 : decode cX9_count 54 = .ok (.iaload, 1) := by decide +kernel
theorem dX9_count_55 : decode cX9_count 55 = .ok (.iadd, 1) := by decide +kernel
theorem dX9_count_56 : decode cX9_count 56 = .ok (.istore_n 3, 1) := by decide +kernel
theorem dX9_count_57 : decode cX9_count 57 = .ok (.iinc 4 1, 3) := by decide +kernel
theorem dX9_count_60 : decode cX9_count 60 = .ok (.goto (-22), 3) := by decide +kernel
theorem dX9_count_63 : decode cX9_count 63 = .ok (.iload_n 1, 1) := by decide +kernel
theorem dX9_count_64 : decode cX9_count 64 = .ok (.tableswitch 91 0 7 #[48, 50, 57, 64, 66, 73, 81, 86], 48) := by decide +kernel
theorem dX9_count_112 : decode cX9_count 112 = .ok (.iload_n 2, 1) := by decide +kernel
theorem dX9_count_113 : decode cX9_count 113 = .ok (.ireturn, 1) := by decide +kernel
theorem dX9_count_114 : decode cX9_count 114 = .ok (.aload_n 0, 1) := by decide +kernel
theorem dX9_count_115 : decode cX9_count 115 = .ok (.getfield 22, 3) := by decide +kernel
theorem dX9_count_118 : decode cX9_count 118 = .ok (.iconst 3, 1) := by decide +kernel
theorem dX9_count_119 : decode cX9_count 119 = .ok (.iaload, 1) := by decide +kernel
theorem dX9_count_120 : decode cX9_count 120 = .ok (.ireturn, 1) := by decide +kernel
theorem dX9_count_121 : decode cX9_count 121 = .ok (.aload_n 0, 1) := by decide +kernel
theorem dX9_count_122 : decode cX9_count 122 = .ok (.getfield 22, 3) := by decide +kernel
theorem dX9_count_125 : decode cX9_count 125 = .ok (.iconst 4, 1) := by decide +kernel
theorem dX9_count_126 : decode cX9_count 126 = .ok (.iaload, 1) := by decide +kernel
theorem dX9_count_127 : decode cX9_count 127 = .ok (.ireturn, 1) := by decide +kernel
theorem dX9_count_128 : decode cX9_count 128 = .ok (.iload_n 3, 1) := by decide +kernel
theorem dX9_count_129 : decode cX9_count 129 = .ok (.ireturn, 1) := by decide +kernel
theorem dX9_count_130 : decode cX9_count 130 = .ok (.aload_n 0, 1) := by decide +kernel
theorem dX9_count_131 : decode cX9_count 131 = .ok (.getfield 22, 3) := by decide +kernel
theorem dX9_count_134 : decode cX9_count 134 = .ok (.iconst 5, 1) := by decide +kernel
theorem dX9_count_135 : decode cX9_count 135 = .ok (.iaload, 1) := by decide +kernel
theorem dX9_count_136 : decode cX9_count 136 = .ok (.ireturn, 1) := by decide +kernel
theorem dX9_count_137 : decode cX9_count 137 = .ok (.aload_n 0, 1) := by decide +kernel
theorem dX9_count_138 : decode cX9_count 138 = .ok (.getfield 22, 3) := by decide +kernel
theorem dX9_count_141 : decode cX9_count 141 = .ok (.invokestatic 268, 3) := by decide +kernel
theorem dX9_count_144 : decode cX9_count 144 = .ok (.ireturn, 1) := by decide +kernel
theorem dX9_count_145 : decode cX9_count 145 = .ok (.aload_n 0, 1) := by decide +kernel
theorem dX9_count_146 : decode cX9_count 146 = .ok (.getfield 147, 3) := by decide +kernel
theorem dX9_count_149 : decode cX9_count 149 = .ok (.ireturn, 1) := by decide +kernel
theorem dX9_count_150 : decode cX9_count 150 = .ok (.aload_n 0, 1) := by decide +kernel
theorem dX9_count_151 : decode cX9_count 151 = .ok (.getfield 80, 3) := by decide +kernel
theorem dX9_count_154 : decode cX9_count 154 = .ok (.ireturn, 1) := by decide +kernel
theorem dX9_count_155 : decode cX9_count 155 = .ok (.ldc 70, 2) := by decide +kernel
theorem dX9_count_157 : decode cX9_count 157 = .ok (.ireturn, 1) := by decide +kernel
theorem dX9_status_0 : decode cX9_status 0 = .ok (.aload_n 0, 1) := by decide +kernel
theorem dX9_status_1 : decode cX9_status 1 = .ok (.getfield 53, 3) := by decide +kernel
theorem dX9_status_4 : decode cX9_status 4 = .ok (.ireturn, 1) := by decide +kernel
theorem dJ6_bitCount_0f7a4_0 : decode cJ6_bitCount_0f7a4 0 = .ok (.iload_n 0, 1) := by decide +kernel
theorem dJ6_bitCount_0f7a4_1 : decode cJ6_bitCount_0f7a4 1 = .ok (.iload_n 0, 1) := by decide +kernel
theorem dJ6_bitCount_0f7a4_2 : decode cJ6_bitCount_0f7a4 2 = .ok (.iconst 1, 1) := by decide +kernel
theorem dJ6_bitCount_0f7a4_3 : decode cJ6_bitCount_0f7a4 3 = .ok (.iushr, 1) := by decide +kernel
theorem dJ6_bitCount_0f7a4_4 : decode cJ6_bitCount_0f7a4 4 = .ok (.ldc_w 265, 3) := by decide +kernel
theorem dJ6_bitCount_0f7a4_7 : decode cJ6_bitCount_0f7a4 7 = .ok (.iand, 1) := by decide +kernel
theorem dJ6_bitCount_0f7a4_8 : decode cJ6_bitCount_0f7a4 8 = .ok (.isub, 1) := by decide +kernel
theorem dJ6_bitCount_0f7a4_9 : decode cJ6_bitCount_0f7a4 9 = .ok (.istore_n 0, 1) := by decide +kernel
theorem dJ6_bitCount_0f7a4_10 : decode cJ6_bitCount_0f7a4 10 = .ok (.iload_n 0, 1) := by decide +kernel
theorem dJ6_bitCount_0f7a4_11 : decode cJ6_bitCount_0f7a4 11 = .ok (.ldc_w 266, 3) := by decide +kernel
theorem dJ6_bitCount_0f7a4_14 : decode cJ6_bitCount_0f7a4 14 = .ok (.iand, 1) := by decide +kernel
theorem dJ6_bitCount_0f7a4_15 : decode cJ6_bitCount_0f7a4 15 = .ok (.iload_n 0, 1) := by decide +kernel
theorem dJ6_bitCount_0f7a4_16 : decode cJ6_bitCount_0f7a4 16 = .ok (.iconst 2, 1) := by decide +kernel
theorem dJ6_bitCount_0f7a4_17 : decode cJ6_bitCount_0f7a4 17 = .ok (.iushr, 1) := by decide +kernel
theorem dJ6_bitCount_0f7a4_18 : decode cJ6_bitCount_0f7a4 18 = .ok (.ldc_w 266, 3) := by decide +kernel
theorem dJ6_bitCount_0f7a4_21 : decode cJ6_bitCount_0f7a4 21 = .ok (.iand, 1) := by decide +kernel
theorem dJ6_bitCount_0f7a4_22 : decode cJ6_bitCount_0f7a4 22 = .ok (.iadd, 1) := by decide +kernel
theorem dJ6_bitCount_0f7a4_23 : decode cJ6_bitCount_0f7a4 23 = .ok (.istore_n 0, 1) := by decide +kernel
theorem dJ6_bitCount_0f7a4_24 : decode cJ6_bitCount_0f7a4 24 = .ok (.iload_n 0, 1) := by decide +kernel
theorem dJ6_bitCount_0f7a4_25 : decode cJ6_bitCount_0f7a4 25 = .ok (.iload_n 0, 1) := by decide +kernel
theorem dJ6_bitCount_0f7a4_26 : decode cJ6_bitCount_0f7a4 26 = .ok (.iconst 4, 1) := by decide +kernel
theorem dJ6_bitCount_0f7a4_27 : decode cJ6_bitCount_0f7a4 27 = .ok (.iushr, 1) := by decide +kernel
theorem dJ6_bitCount_0f7a4_28 : decode cJ6_bitCount_0f7a4 28 = .ok (.iadd, 1) := by decide +kernel
theorem dJ6_bitCount_0f7a4_29 : decode cJ6_bitCount_0f7a4 29 = .ok (.ldc_w 267, 3) := by decide +kernel
theorem dJ6_bitCount_0f7a4_32 : decode cJ6_bitCount_0f7a4 32 = .ok (.iand, 1) := by decide +kernel
theorem dJ6_bitCount_0f7a4_33 : decode cJ6_bitCount_0f7a4 33 = .ok (.istore_n 0, 1) := by decide +kernel
theorem dJ6_bitCount_0f7a4_34 : decode cJ6_bitCount_0f7a4 34 = .ok (.iload_n 0, 1) := by decide +kernel
theorem dJ6_bitCount_0f7a4_35 : decode cJ6_bitCount_0f7a4 35 = .ok (.iload_n 0, 1) := by decide +kernel
theorem dJ6_bitCount_0f7a4_36 : decode cJ6_bitCount_0f7a4 36 = .ok (.bipush 8, 2) := by decide +kernel
theorem dJ6_bitCount_0f7a4_38 : decode cJ6_bitCount_0f7a4 38 = .ok (.iushr, 1) := by decide +kernel
theorem dJ6_bitCount_0f7a4_39 : decode cJ6_bitCount_0f7a4 39 = .ok (.iadd, 1) := by decide +kernel
theorem dJ6_bitCount_0f7a4_40 : decode cJ6_bitCount_0f7a4 40 = .ok (.istore_n 0, 1) := by decide +kernel
theorem dJ6_bitCount_0f7a4_41 : decode cJ6_bitCount_0f7a4 41 = .ok (.iload_n 0, 1) := by decide +kernel
theorem dJ6_bitCount_0f7a4_42 : decode cJ6_bitCount_0f7a4 42 = .ok (.iload_n 0, 1) := by decide +kernel
theorem dJ6_bitCount_0f7a4_43 : decode cJ6_bitCount_0f7a4 43 = .ok (.bipush 16, 2) := by decide +kernel
theorem dJ6_bitCount_0f7a4_45 : decode cJ6_bitCount_0f7a4 45 = .ok (.iushr, 1) := by decide +kernel
theorem dJ6_bitCount_0f7a4_46 : decode cJ6_bitCount_0f7a4 46 = .ok (.iadd, 1) := by decide +kernel
theorem dJ6_bitCount_0f7a4_47 : decode cJ6_bitCount_0f7a4 47 = .ok (.istore_n 0, 1) := by decide +kernel
theorem dJ6_bitCount_0f7a4_48 : decode cJ6_bitCount_0f7a4 48 = .ok (.iload_n 0, 1) := by decide +kernel
theorem dJ6_bitCount_0f7a4_49 : decode cJ6_bitCount_0f7a4 49 = .ok (.bipush 63, 2) := by decide +kernel
theorem dJ6_bitCount_0f7a4_51 : decode cJ6_bitCount_0f7a4 51 = .ok (.iand, 1) := by decide +kernel
theorem dJ6_bitCount_0f7a4_52 : decode cJ6_bitCount_0f7a4 52 = .ok (.ireturn, 1) := by decide +kernel
theorem dJ9_max_7cf53_0 : decode cJ9_max_7cf53 0 = .ok (.iload_n 0, 1) := by decide +kernel
theorem dJ9_max_7cf53_1 : decode cJ9_max_7cf53 1 = .ok (.iload_n 1, 1) := by decide +kernel
theorem dJ9_max_7cf53_2 : decode cJ9_max_7cf53 2 = .ok (.if_icmp .lt 7, 3) := by decide +kernel
theorem dJ9_max_7cf53_5 : decode cJ9_max_7cf53 5 = .ok (.iload_n 0, 1) := by decide +kernel
theorem dJ9_max_7cf53_6 : decode cJ9_max_7cf53 6 = .ok (.goto 4, 3) := by decide +kernel
theorem dJ9_max_7cf53_9 : decode cJ9_max_7cf53 9 = .ok (.iload_n 1, 1) := by decide +kernel
theorem dJ9_max_7cf53_10 : decode cJ9_max_7cf53 10 = .ok (.ireturn, 1) := by decide +kernel
theorem dJ9_max_f86c9_0 : decode cJ9_max_f86c9 0 = .ok (.lload_n 0, 1) := by decide +kernel
theorem dJ9_max_f86c9_1 : decode cJ9_max_f86c9 1 = .ok (.lload_n 2, 1) := by decide +kernel
theorem dJ9_max_f86c9_2 : decode cJ9_max_f86c9 2 = .ok (.lcmp, 1) := by decide +kernel
theorem dJ9_max_f86c9_3 : decode cJ9_max_f86c9 3 = .ok (.ifCond .lt 7, 3) := by decide +kernel
theorem dJ9_max_f86c9_6 : decode cJ9_max_f86c9 6 = .ok (.lload_n 0, 1) := by decide +kernel
theorem dJ9_max_f86c9_7 : decode cJ9_max_f86c9 7 = .ok (.goto 4, 3) := by decide +kernel
theorem dJ9_max_f86c9_10 : decode cJ9_max_f86c9 10 = .ok (.lload_n 2, 1) := by decide +kernel
theorem dJ9_max_f86c9_11 : decode cJ9_max_f86c9 11 = .ok (.lreturn, 1) := by decide +kernel
theorem dJ9_min_7cf53_0 : decode cJ9_min_7cf53 0 = .ok (.iload_n 0, 1) := by decide +kernel
theorem dJ9_min_7cf53_1 : decode cJ9_min_7cf53 1 = .ok (.iload_n 1, 1) := by decide +kernel
theorem dJ9_min_7cf53_2 : decode cJ9_min_7cf53 2 = .ok (.if_icmp .gt 7, 3) := by decide +kernel
theorem dJ9_min_7cf53_5 : decode cJ9_min_7cf53 5 = .ok (.iload_n 0, 1) := by decide +kernel
theorem dJ9_min_7cf53_6 : decode cJ9_min_7cf53 6 = .ok (.goto 4, 3) := by decide +kernel
theorem dJ9_min_7cf53_9 : decode cJ9_min_7cf53 9 = .ok (.iload_n 1, 1) := by decide +kernel
theorem dJ9_min_7cf53_10 : decode cJ9_min_7cf53 10 = .ok (.ireturn, 1) := by decide +kernel
theorem dJ7_fill_53178_0 : decode cJ7_fill_53178 0 = .ok (.iconst 0, 1) := by decide +kernel
theorem dJ7_fill_53178_1 : decode cJ7_fill_53178 1 = .ok (.istore_n 2, 1) := by decide +kernel
theorem dJ7_fill_53178_2 : decode cJ7_fill_53178 2 = .ok (.aload_n 0, 1) := by decide +kernel
theorem dJ7_fill_53178_3 : decode cJ7_fill_53178 3 = .ok (.arraylength, 1) := by decide +kernel
theorem dJ7_fill_53178_4 : decode cJ7_fill_53178 4 = .ok (.istore_n 3, 1) := by decide +kernel
theorem dJ7_fill_53178_5 : decode cJ7_fill_53178 5 = .ok (.iload_n 2, 1) := by decide +kernel
theorem dJ7_fill_53178_6 : decode cJ7_fill_53178 6 = .ok (.iload_n 3, 1) := by decide +kernel
theorem dJ7_fill_53178_7 : decode cJ7_fill_53178 7 = .ok (.if_icmp .ge 13, 3) := by decide +kernel
theorem dJ7_fill_53178_10 : decode cJ7_fill_53178 10 = .ok (.aload_n 0, 1) := by decide +kernel
theorem dJ7_fill_53178_11 : decode cJ7_fill_53178 11 = .ok (.iload_n 2, 1) := by decide +kernel
theorem dJ7_fill_53178_12 : decode cJ7_fill_53178 12 = .ok (.iload_n 1, 1) := by decide +kernel
theorem dJ7_fill_53178_13 : decode cJ7_fill_53178 13 = .ok (.iastore, 1) := by decide +kernel
theorem dJ7_fill_53178_14 : decode cJ7_fill_53178 14 = .ok (.iinc 2 1, 3) := by decide +kernel
theorem dJ7_fill_53178_17 : decode cJ7_fill_53178 17 = .ok (.goto (-12), 3) := by decide +kernel
theorem dJ7_fill_53178_20 : decode cJ7_fill_53178 20 = .ok (.return_, 1) := by decide +kernel
theorem dL_law_0 : decode cL_law 0 = .ok (.new 7, 3) := by decide +kernel
theorem dL_law_3 : decode cL_law 3 = .ok (.dup, 1) := by decide +kernel
theorem dL_law_4 : decode cL_law 4 = .ok (.invokespecial 9, 3) := by decide +kernel
theorem dL_law_7 : decode cL_law 7 = .ok (.astore_n 1, 1) := by decide +kernel
theorem dL_law_8 : decode cL_law 8 = .ok (.new 10, 3) := by decide +kernel
theorem dL_law_11 : decode cL_law 11 = .ok (.dup, 1) := by decide +kernel
theorem dL_law_12 : decode cL_law 12 = .ok (.invokespecial 12, 3) := by decide +kernel
theorem dL_law_15 : decode cL_law 15 = .ok (.astore_n 2, 1) := by decide +kernel
theorem dL_law_16 : decode cL_law 16 = .ok (.iconst 0, 1) := by decide +kernel
theorem dL_law_17 : decode cL_law 17 = .ok (.istore_n 3, 1) := by decide +kernel
theorem dL_law_18 : decode cL_law 18 = .ok (.iload_n 3, 1) := by decide +kernel
theorem dL_law_19 : decode cL_law 19 = .ok (.aload_n 0, 1) := by decide +kernel
theorem dL_law_20 : decode cL_law 20 = .ok (.arraylength, 1) := by decide +kernel
theorem dL_law_21 : decode cL_law 21 = .ok (.bipush 6, 2) := by decide +kernel
theorem dL_law_23 : decode cL_law 23 = .ok (.isub, 1) := by decide +kernel
theorem dL_law_24 : decode cL_law 24 = .ok (.if_icmp .gt 1309, 3) := by decide +kernel
theorem dL_law_27 : decode cL_law 27 = .ok (.aload_n 0, 1) := by decide +kernel
theorem dL_law_28 : decode cL_law 28 = .ok (.iload_n 3, 1) := by decide +kernel
theorem dL_law_29 : decode cL_law 29 = .ok (.iaload, 1) := by decide +kernel
theorem dL_law_30 : decode cL_law 30 = .ok (.bipush 63, 2) := by decide +kernel
theorem dL_law_32 : decode cL_law 32 = .ok (.iand, 1) := by decide +kernel
theorem dL_law_33 : decode cL_law 33 = .ok (.tableswitch 1294 0 33 #[151, 194, 237, 300, 323, 346, 359, 372, 385, 418, 441, 474, 497, 530, 563, 596, 619, 662, 715, 768, 821, 884, 917, 950, 993, 1057, 1100, 1123, 1146, 1169, 1202, 1235, 1258, 1281], 151) := by decide +kernel
theorem dL_law_184 : decode cL_law 184 = .ok (.aload_n 1, 1) := by decide +kernel
theorem dL_law_185 : decode cL_law 185 = .ok (.aload_n 0, 1) := by decide +kernel
theorem dL_law_186 : decode cL_law 186 = .ok (.iload_n 3, 1) := by decide +kernel
theorem dL_law_187 : decode cL_law 187 = .ok (.iconst 1, 1) := by decide +kernel
theorem dL_law_188 : decode cL_law 188 = .ok (.iadd, 1) := by decide +kernel
theorem dL_law_189 : decode cL_law 189 = .ok (.iaload, 1) := by decide +kernel
theorem dL_law_190 : decode cL_law 190 = .ok (.aload_n 0, 1) := by decide +kernel
theorem dL_law_191 : decode cL_law 191 = .ok (.iload_n 3, 1) := by decide +kernel
theorem dL_law_192 : decode cL_law 192 = .ok (.iconst 2, 1) := by decide +kernel
theorem dL_law_193 : decode cL_law 193 = .ok (.iadd, 1) := by decide +kernel
theorem dL_law_194 : decode cL_law 194 = .ok (.iaload, 1) := by decide +kernel
theorem dL_law_195 : decode cL_law 195 = .ok (.aload_n 0, 1) := by decide +kernel
theorem dL_law_196 : decode cL_law 196 = .ok (.iload_n 3, 1) := by decide +kernel
theorem dL_law_197 : decode cL_law 197 = .ok (.iconst 3, 1) := by decide +kernel
theorem dL_law_198 : decode cL_law 198 = .ok (.iadd, 1) := by decide +kernel
theorem dL_law_199 : decode cL_law 199 = .ok (.iaload, 1) := by decide +kernel
theorem dL_law_200 : decode cL_law 200 = .ok (.invokevirtual 13, 3) := by decide +kernel
theorem dL_law_203 : decode cL_law 203 = .ok (.aload_n 2, 1) := by decide +kernel
theorem dL_law_204 : decode cL_law 204 = .ok (.aload_n 0, 1) := by decide +kernel
theorem dL_law_205 : decode cL_law 205 = .ok (.iload_n 3, 1) := by decide +kernel
theorem dL_law_206 : decode cL_law 206 = .ok (.iconst 1, 1) := by decide +kernel
theorem dL_law_207 : decode cL_law 207 = .ok (.iadd, 1) := by decide +kernel
theorem dL_law_208 : decode cL_law 208 = .ok (.iaload, 1) := by decide +kernel
theorem dL_law_209 : decode cL_law 209 = .ok (.aload_n 0, 1) := by decide +kernel
theorem dL_law_210 : decode cL_law 210 = .ok (.iload_n 3, 1) := by decide +kernel
theorem dL_law_211 : decode cL_law 211 = .ok (.iconst 2, 1) := by decide +kernel
theorem dL_law_212 : decode cL_law 212 = .ok (.iadd, 1) := by decide +kernel
theorem dL_law_213 : decode cL_law 213 = .ok (.iaload, 1) := by decide +kernel
theorem dL_law_214 : decode cL_law 214 = .ok (.aload_n 0, 1) := by decide +kernel
theorem dL_law_215 : decode cL_law 215 = .ok (.iload_n 3, 1) := by decide +kernel
theorem dL_law_216 : decode cL_law 216 = .ok (.iconst 3, 1) := by decide +kernel
theorem dL_law_217 : decode cL_law 217 = .ok (.iadd, 1) := by decide +kernel
theorem dL_law_218 : decode cL_law 218 = .ok (.iaload, 1) := by decide +kernel
theorem dL_law_219 : decode cL_law 219 = .ok (.invokevirtual 17, 3) := by decide +kernel
theorem dL_law_222 : decode cL_law 222 = .ok (.if_icmp .eq 1105, 3) := by decide +kernel
theorem dL_law_225 : decode cL_law 225 = .ok (.iconst 0, 1) := by decide +kernel
theorem dL_law_226 : decode cL_law 226 = .ok (.ireturn, 1) := by decide +kernel
theorem dL_law_227 : decode cL_law 227 = .ok (.aload_n 1, 1) := by decide +kernel
theorem dL_law_228 : decode cL_law 228 = .ok (.aload_n 0, 1) := by decide +kernel
theorem dL_law_229 : decode cL_law 229 = .ok (.iload_n 3, 1) := by decide +kernel
theorem dL_law_230 : decode cL_law 230 = .ok (.iconst 1, 1) := by decide +kernel
theorem dL_law_231 : decode cL_law 231 = .ok (.iadd, 1) := by decide +kernel
theorem dL_law_232 : decode cL_law 232 = .ok (.iaload, 1) := by decide +kernel
theorem dL_law_233 : decode cL_law 233 = .ok (.aload_n 0, 1) := by decide +kernel
theorem dL_law_234 : decode cL_law 234 = .ok (.iload_n 3, 1) := by decide +kernel
theorem dL_law_235 : decode cL_law 235 = .ok (.iconst 2, 1) := by decide +kernel
theorem dL_law_236 : decode cL_law 236 = .ok (.iadd, 1) := by decide +kernel
theorem dL_law_237 : decode cL_law 237 = .ok (.iaload, 1) := by decide +kernel
theorem dL_law_238 : decode cL_law 238 = .ok (.aload_n 0, 1) := by decide +kernel
theorem dL_law_239 : decode cL_law 239 = .ok (.iload_n 3, 1) := by decide +kernel
theorem dL_law_240 : decode cL_law 240 = .ok (.iconst 3, 1) := by decide +kernel
theorem dL_law_241 : decode cL_law 241 = .ok (.iadd, 1) := by decide +kernel
theorem dL_law_242 : decode cL_law 242 = .ok (.iaload, 1) := by decide +kernel
theorem dL_law_243 : decode cL_law 243 = .ok (.invokevirtual 18, 3) := by decide +kernel
theorem dL_law_246 : decode cL_law 246 = .ok (.aload_n 2, 1) := by decide +kernel
theorem dL_law_247 : decode cL_law 247 = .ok (.aload_n 0, 1) := by decide +kernel
theorem dL_law_248 : decode cL_law 248 = .ok (.iload_n 3, 1) := by decide +kernel
theorem dL_law_249 : decode cL_law 249 = .ok (.iconst 1, 1) := by decide +kernel
theorem dL_law_250 : decode cL_law 250 = .ok (.iadd, 1) := by decide +kernel
theorem dL_law_251 : decode cL_law 251 = .ok (.iaload, 1) := by decide +kernel
theorem dL_law_252 : decode cL_law 252 = .ok (.aload_n 0, 1) := by decide +kernel
theorem dL_law_253 : decode cL_law 253 = .ok (.iload_n 3, 1) := by decide +kernel
theorem dL_law_254 : decode cL_law 254 = .ok (.iconst 2, 1) := by decide +kernel
theorem dL_law_255 : decode cL_law 255 = .ok (.iadd, 1) := by decide +kernel
theorem dL_law_256 : decode cL_law 256 = .ok (.iaload, 1) := by decide +kernel
theorem dL_law_257 : decode cL_law 257 = .ok (.aload_n 0, 1) := by decide +kernel
theorem dL_law_258 : decode cL_law 258 = .ok (.iload_n 3, 1) := by decide +kernel
theorem dL_law_259 : decode cL_law 259 = .ok (.iconst 3, 1) := by decide +kernel
