theorem dX0_init_0 : decode cX0_init 0 = .ok (.aload_n 0, 1) := by decide +kernel
theorem dX0_init_1 : decode cX0_init 1 = .ok (.invokespecial 3, 3) := by decide +kernel
theorem dX0_init_4 : decode cX0_init 4 = .ok (.aload_n 0, 1) := by decide +kernel
theorem dX0_init_5 : decode cX0_init 5 = .ok (.bipush 24, 2) := by decide +kernel
theorem dX0_init_7 : decode cX0_init 7 = .ok (.bipush 19, 2) := by decide +kernel
theorem dX0_init_9 : decode cX0_init 9 = .ok (.multianewarray 11 2, 4) := by decide +kernel
theorem dX0_init_13 : decode cX0_init 13 = .ok (.putfield 13, 3) := by decide +kernel
theorem dX0_init_16 : decode cX0_init 16 = .ok (.aload_n 0, 1) := by decide +kernel
theorem dX0_init_17 : decode cX0_init 17 = .ok (.iconst 0, 1) := by decide +kernel
theorem dX0_init_18 : decode cX0_init 18 = .ok (.putfield 18, 3) := by decide +kernel
theorem dX0_init_21 : decode cX0_init 21 = .ok (.aload_n 0, 1) := by decide +kernel
theorem dX0_init_22 : decode cX0_init 22 = .ok (.iconst 0, 1) := by decide +kernel
theorem dX0_init_23 : decode cX0_init 23 = .ok (.putfield 22, 3) := by decide +kernel
theorem dX0_init_26 : decode cX0_init 26 = .ok (.return_, 1) := by decide +kernel
theorem dX0_forget_0 : decode cX0_forget 0 = .ok (.aload_n 0, 1) := by decide +kernel
theorem dX0_forget_1 : decode cX0_forget 1 = .ok (.iconst 0, 1) := by decide +kernel
theorem dX0_forget_2 : decode cX0_forget 2 = .ok (.putfield 22, 3) := by decide +kernel
theorem dX0_forget_5 : decode cX0_forget 5 = .ok (.return_, 1) := by decide +kernel
theorem dX0_keep_0 : decode cX0_keep 0 = .ok (.aload_n 1, 1) := by decide +kernel
theorem dX0_keep_1 : decode cX0_keep 1 = .ok (.getfield 25, 3) := by decide +kernel
theorem dX0_keep_4 : decode cX0_keep 4 = .ok (.iconst 0, 1) := by decide +kernel
theorem dX0_keep_5 : decode cX0_keep 5 = .ok (.aload_n 0, 1) := by decide +kernel
theorem dX0_keep_6 : decode cX0_keep 6 = .ok (.getfield 13, 3) := by decide +kernel
theorem dX0_keep_9 : decode cX0_keep 9 = .ok (.aload_n 0, 1) := by decide +kernel
theorem dX0_keep_10 : decode cX0_keep 10 = .ok (.getfield 18, 3) := by decide +kernel
theorem dX0_keep_13 : decode cX0_keep 13 = .ok (.aaload, 1) := by decide +kernel
theorem dX0_keep_14 : decode cX0_keep 14 = .ok (.iconst 0, 1) := by decide +kernel
theorem dX0_keep_15 : decode cX0_keep 15 = .ok (.bipush 19, 2) := by decide +kernel
theorem dX0_keep_17 : decode cX0_keep 17 = .ok (.invokestatic 29, 3) := by decide +kernel
theorem dX0_keep_20 : decode cX0_keep 20 = .ok (.aload_n 0, 1) := by decide +kernel
theorem dX0_keep_21 : decode cX0_keep 21 = .ok (.aload_n 0, 1) := by decide +kernel
theorem dX0_keep_22 : decode cX0_keep 22 = .ok (.getfield 18, 3) := by decide +kernel
theorem dX0_keep_25 : decode cX0_keep 25 = .ok (.iconst 1, 1) := by decide +kernel
theorem dX0_keep_26 : decode cX0_keep 26 = .ok (.iadd, 1) := by decide +kernel
theorem dX0_keep_27 : decode cX0_keep 27 = .ok (.bipush 24, 2) := by decide +kernel
theorem dX0_keep_29 : decode cX0_keep 29 = .ok (.irem, 1) := by decide +kernel
theorem dX0_keep_30 : decode cX0_keep 30 = .ok (.putfield 18, 3) := by decide +kernel
theorem dX0_keep_33 : decode cX0_keep 33 = .ok (.aload_n 0, 1) := by decide +kernel
theorem dX0_keep_34 : decode cX0_keep 34 = .ok (.bipush 24, 2) := by decide +kernel
theorem dX0_keep_36 : decode cX0_keep 36 = .ok (.aload_n 0, 1) := by decide +kernel
theorem dX0_keep_37 : decode cX0_keep 37 = .ok (.getfield 22, 3) := by decide +kernel
theorem dX0_keep_40 : decode cX0_keep 40 = .ok (.iconst 1, 1) := by decide +kernel
theorem dX0_keep_41 : decode cX0_keep 41 = .ok (.iadd, 1) := by decide +kernel
theorem dX0_keep_42 : decode cX0_keep 42 = .ok (.invokestatic 35, 3) := by decide +kernel
theorem dX0_keep_45 : decode cX0_keep 45 = .ok (.putfield 22, 3) := by decide +kernel
theorem dX0_keep_48 : decode cX0_keep 48 = .ok (.return_, 1) := by decide +kernel
theorem dX0_takeBack_0 : decode cX0_takeBack 0 = .ok (.aload_n 0, 1) := by decide +kernel
theorem dX0_takeBack_1 : decode cX0_takeBack 1 = .ok (.aload_n 0, 1) := by decide +kernel
theorem dX0_takeBack_2 : decode cX0_takeBack 2 = .ok (.getfield 18, 3) := by decide +kernel
theorem dX0_takeBack_5 : decode cX0_takeBack 5 = .ok (.bipush 24, 2) := by decide +kernel
theorem dX0_takeBack_7 : decode cX0_takeBack 7 = .ok (.iadd, 1) := by decide +kernel
theorem dX0_takeBack_8 : decode cX0_takeBack 8 = .ok (.iconst 1, 1) := by decide +kernel
theorem dX0_takeBack_9 : decode cX0_takeBack 9 = .ok (.isub, 1) := by decide +kernel
theorem dX0_takeBack_10 : decode cX0_takeBack 10 = .ok (.bipush 24, 2) := by decide +kernel
theorem dX0_takeBack_12 : decode cX0_takeBack 12 = .ok (.irem, 1) := by decide +kernel
theorem dX0_takeBack_13 : decode cX0_takeBack 13 = .ok (.putfield 18, 3) := by decide +kernel
theorem dX0_takeBack_16 : decode cX0_takeBack 16 = .ok (.aload_n 0, 1) := by decide +kernel
theorem dX0_takeBack_17 : decode cX0_takeBack 17 = .ok (.dup, 1) := by decide +kernel
theorem dX0_takeBack_18 : decode cX0_takeBack 18 = .ok (.getfield 22, 3) := by decide +kernel
theorem dX0_takeBack_21 : decode cX0_takeBack 21 = .ok (.iconst 1, 1) := by decide +kernel
theorem dX0_takeBack_22 : decode cX0_takeBack 22 = .ok (.isub, 1) := by decide +kernel
theorem dX0_takeBack_23 : decode cX0_takeBack 23 = .ok (.putfield 22, 3) := by decide +kernel
theorem dX0_takeBack_26 : decode cX0_takeBack 26 = .ok (.aload_n 0, 1) := by decide +kernel
theorem dX0_takeBack_27 : decode cX0_takeBack 27 = .ok (.getfield 13, 3) := by decide +kernel
theorem dX0_takeBack_30 : decode cX0_takeBack 30 = .ok (.aload_n 0, 1) := by decide +kernel
theorem dX0_takeBack_31 : decode cX0_takeBack 31 = .ok (.getfield 18, 3) := by decide +kernel
theorem dX0_takeBack_34 : decode cX0_takeBack 34 = .ok (.aaload, 1) := by decide +kernel
theorem dX0_takeBack_35 : decode cX0_takeBack 35 = .ok (.iconst 0, 1) := by decide +kernel
theorem dX0_takeBack_36 : decode cX0_takeBack 36 = .ok (.aload_n 1, 1) := by decide +kernel
theorem dX0_takeBack_37 : decode cX0_takeBack 37 = .ok (.getfield 25, 3) := by decide +kernel
theorem dX0_takeBack_40 : decode cX0_takeBack 40 = .ok (.iconst 0, 1) := by decide +kernel
theorem dX0_takeBack_41 : decode cX0_takeBack 41 = .ok (.bipush 19, 2) := by decide +kernel
theorem dX0_takeBack_43 : decode cX0_takeBack 43 = .ok (.invokestatic 29, 3) := by decide +kernel
theorem dX0_takeBack_46 : decode cX0_takeBack 46 = .ok (.return_, 1) := by decide +kernel
theorem dX1_init_0 : decode cX1_init 0 = .ok (.aload_n 0, 1) := by decide +kernel
theorem dX1_init_1 : decode cX1_init 1 = .ok (.invokespecial 3, 3) := by decide +kernel
theorem dX1_init_4 : decode cX1_init 4 = .ok (.aload_n 0, 1) := by decide +kernel
theorem dX1_init_5 : decode cX1_init 5 = .ok (.bipush 16, 2) := by decide +kernel
theorem dX1_init_7 : decode cX1_init 7 = .ok (.newarray .int, 2) := by decide +kernel
theorem dX1_init_9 : decode cX1_init 9 = .ok (.putfield 11, 3) := by decide +kernel
theorem dX1_init_12 : decode cX1_init 12 = .ok (.aload_n 0, 1) := by decide +kernel
theorem dX1_init_13 : decode cX1_init 13 = .ok (.iconst 0, 1) := by decide +kernel
theorem dX1_init_14 : decode cX1_init 14 = .ok (.putfield 15, 3) := by decide +kernel
theorem dX1_init_17 : decode cX1_init 17 = .ok (.aload_n 0, 1) := by decide +kernel
theorem dX1_init_18 : decode cX1_init 18 = .ok (.aload_n 1, 1) := by decide +kernel
theorem dX1_init_19 : decode cX1_init 19 = .ok (.putfield 19, 3) := by decide +kernel
theorem dX1_init_22 : decode cX1_init 22 = .ok (.return_, 1) := by decide +kernel
theorem dX1_sizeOf_0 : decode cX1_sizeOf 0 = .ok (.aload_n 0, 1) := by decide +kernel
theorem dX1_sizeOf_1 : decode cX1_sizeOf 1 = .ok (.iconst 0, 1) := by decide +kernel
theorem dX1_sizeOf_2 : decode cX1_sizeOf 2 = .ok (.putfield 15, 3) := by decide +kernel
theorem dX1_sizeOf_5 : decode cX1_sizeOf 5 = .ok (.aload_n 0, 1) := by decide +kernel
theorem dX1_sizeOf_6 : decode cX1_sizeOf 6 = .ok (.getstatic 23, 3) := by decide +kernel
theorem dX1_sizeOf_9 : decode cX1_sizeOf 9 = .ok (.aload_n 0, 1) := by decide +kernel
theorem dX1_sizeOf_10 : decode cX1_sizeOf 10 = .ok (.getfield 19, 3) := by decide +kernel
theorem dX1_sizeOf_13 : decode cX1_sizeOf 13 = .ok (.getfield 26, 3) := by decide +kernel
theorem dX1_sizeOf_16 : decode cX1_sizeOf 16 = .ok (.iload_n 1, 1) := by decide +kernel
theorem dX1_sizeOf_17 : decode cX1_sizeOf 17 = .ok (.iaload, 1) := by decide +kernel
theorem dX1_sizeOf_18 : decode cX1_sizeOf 18 = .ok (.iaload, 1) := by decide +kernel
theorem dX1_sizeOf_19 : decode cX1_sizeOf 19 = .ok (.iload_n 1, 1) := by decide +kernel
theorem dX1_sizeOf_20 : decode cX1_sizeOf 20 = .ok (.iconst 0, 1) := by decide +kernel
theorem dX1_sizeOf_21 : decode cX1_sizeOf 21 = .ok (.invokevirtual 31, 3) := by decide +kernel
theorem dX1_sizeOf_24 : decode cX1_sizeOf 24 = .ok (.ireturn, 1) := by decide +kernel
theorem dX1_markOf_0 : decode cX1_markOf 0 = .ok (.aload_n 0, 1) := by decide +kernel
theorem dX1_markOf_1 : decode cX1_markOf 1 = .ok (.iconst 0, 1) := by decide +kernel
theorem dX1_markOf_2 : decode cX1_markOf 2 = .ok (.putfield 15, 3) := by decide +kernel
theorem dX1_markOf_5 : decode cX1_markOf 5 = .ok (.aload_n 0, 1) := by decide +kernel
theorem dX1_markOf_6 : decode cX1_markOf 6 = .ok (.getstatic 35, 3) := by decide +kernel
theorem dX1_markOf_9 : decode cX1_markOf 9 = .ok (.aload_n 0, 1) := by decide +kernel
theorem dX1_markOf_10 : decode cX1_markOf 10 = .ok (.getfield 19, 3) := by decide +kernel
theorem dX1_markOf_13 : decode cX1_markOf 13 = .ok (.getfield 26, 3) := by decide +kernel
theorem dX1_markOf_16 : decode cX1_markOf 16 = .ok (.iload_n 1, 1) := by decide +kernel
theorem dX1_markOf_17 : decode cX1_markOf 17 = .ok (.iaload, 1) := by decide +kernel
theorem dX1_markOf_18 : decode cX1_markOf 18 = .ok (.iaload, 1) := by decide +kernel
theorem dX1_markOf_19 : decode cX1_markOf 19 = .ok (.iload_n 1, 1) := by decide +kernel
theorem dX1_markOf_20 : decode cX1_markOf 20 = .ok (.iconst 0, 1) := by decide +kernel
theorem dX1_markOf_21 : decode cX1_markOf 21 = .ok (.invokevirtual 31, 3) := by decide +kernel
theorem dX1_markOf_24 : decode cX1_markOf 24 = .ok (.ireturn, 1) := by decide +kernel
theorem dX1_traced_0 : decode cX1_traced 0 = .ok (.iload_n 1, 1) := by decide +kernel
theorem dX1_traced_1 : decode cX1_traced 1 = .ok (.ifCond .lt 20, 3) := by decide +kernel
theorem dX1_traced_4 : decode cX1_traced 4 = .ok (.iload_n 1, 1) := by decide +kernel
theorem dX1_traced_5 : decode cX1_traced 5 = .ok (.aload_n 0, 1) := by decide +kernel
theorem dX1_traced_6 : decode cX1_traced 6 = .ok (.getfield 15, 3) := by decide +kernel
theorem dX1_traced_9 : decode cX1_traced 9 = .ok (.if_icmp .ge 12, 3) := by decide +kernel
theorem dX1_traced_12 : decode cX1_traced 12 = .ok (.aload_n 0, 1) := by decide +kernel
theorem dX1_traced_13 : decode cX1_traced 13 = .ok (.getfield 11, 3) := by decide +kernel
theorem dX1_traced_16 : decode cX1_traced 16 = .ok (.iload_n 1, 1) := by decide +kernel
theorem dX1_traced_17 : decode cX1_traced 17 = .ok (.iaload, 1) := by decide +kernel
theorem dX1_traced_18 : decode cX1_traced 18 = .ok (.goto 5, 3) := by decide +kernel
theorem dX1_traced_21 : decode cX1_traced 21 = .ok (.ldc 38, 2) := by decide +kernel
theorem dX1_traced_23 : decode cX1_traced 23 = .ok (.ireturn, 1) := by decide +kernel
theorem dX1_leave_0 : decode cX1_leave 0 = .ok (.aload_n 0, 1) := by decide +kernel
theorem dX1_leave_1 : decode cX1_leave 1 = .ok (.getfield 15, 3) := by decide +kernel
theorem dX1_leave_4 : decode cX1_leave 4 = .ok (.bipush 16, 2) := by decide +kernel
theorem dX1_leave_6 : decode cX1_leave 6 = .ok (.if_icmp .ge 23, 3) := by decide +kernel
theorem dX1_leave_9 : decode cX1_leave 9 = .ok (.aload_n 0, 1) := by decide +kernel
theorem dX1_leave_10 : decode cX1_leave 10 = .ok (.getfield 11, 3) := by decide +kernel
theorem dX1_leave_13 : decode cX1_leave 13 = .ok (.aload_n 0, 1) := by decide +kernel
theorem dX1_leave_14 : decode cX1_leave 14 = .ok (.getfield 15, 3) := by decide +kernel
theorem dX1_leave_17 : decode cX1_leave 17 = .ok (.iload_n 1, 1) := by decide +kernel
theorem dX1_leave_18 : decode cX1_leave 18 = .ok (.iastore, 1) := by decide +kernel
theorem dX1_leave_19 : decode cX1_leave 19 = .ok (.aload_n 0, 1) := by decide +kernel
theorem dX1_leave_20 : decode cX1_leave 20 = .ok (.dup, 1) := by decide +kernel
theorem dX1_leave_21 : decode cX1_leave 21 = .ok (.getfield 15, 3) := by decide +kernel
theorem dX1_leave_24 : decode cX1_leave 24 = .ok (.iconst 1, 1) := by decide +kernel
theorem dX1_leave_25 : decode cX1_leave 25 = .ok (.iadd, 1) := by decide +kernel
theorem dX1_leave_26 : decode cX1_leave 26 = .ok (.putfield 15, 3) := by decide +kernel
theorem dX1_leave_29 : decode cX1_leave 29 = .ok (.return_, 1) := by decide +kernel
theorem dX1_given_0 : decode cX1_given 0 = .ok (.iload_n 3, 1) := by decide +kernel
theorem dX1_given_1 : decode cX1_given 1 = .ok (.bipush 12, 2) := by decide +kernel
theorem dX1_given_3 : decode cX1_given 3 = .ok (.if_icmp .le 5, 3) := by decide +kernel
theorem dX1_given_6 : decode cX1_given 6 = .ok (.iconst 0, 1) := by decide +kernel
theorem dX1_given_7 : decode cX1_given 7 = .ok (.ireturn, 1) := by decide +kernel
theorem dX1_given_8 : decode cX1_given 8 = .ok (.aload_n 0, 1) := by decide +kernel
theorem dX1_given_9 : decode cX1_given 9 = .ok (.iload_n 1, 1) := by decide +kernel
theorem dX1_given_10 : decode cX1_given 10 = .ok (.invokevirtual 39, 3) := by decide +kernel
theorem dX1_given_13 : decode cX1_given 13 = .ok (.iload_n 3, 1) := by decide +kernel
theorem dX1_given_14 : decode cX1_given 14 = .ok (.iconst 1, 1) := by decide +kernel
theorem dX1_given_15 : decode cX1_given 15 = .ok (.iadd, 1) := by decide +kernel
theorem dX1_given_16 : decode cX1_given 16 = .ok (.istore 4, 2) := by decide +kernel
theorem dX1_given_18 : decode cX1_given 18 = .ok (.iload_n 1, 1) := by decide +kernel
theorem dX1_given_19 : decode cX1_given 19 = .ok (.tableswitch 227 10 24 #[73, 83, 114, 125, 138, 227, 227, 227, 227, 227, 227, 150, 170, 184, 215], 73) := by decide +kernel
theorem dX1_given_92 : decode cX1_given 92 = .ok (.aload_n 0, 1) := by decide +kernel
theorem dX1_given_93 : decode cX1_given 93 = .ok (.getfield 19, 3) := by decide +kernel
theorem dX1_given_96 : decode cX1_given 96 = .ok (.getfield 43, 3) := by decide +kernel
theorem dX1_given_99 : decode cX1_given 99 = .ok (.iload_n 2, 1) := by decide +kernel
theorem dX1_given_100 : decode cX1_given 100 = .ok (.iaload, 1) := by decide +kernel
theorem dX1_given_101 : decode cX1_given 101 = .ok (.ireturn, 1) := by decide +kernel
theorem dX1_given_102 : decode cX1_given 102 = .ok (.aload_n 0, 1) := by decide +kernel
theorem dX1_given_103 : decode cX1_given 103 = .ok (.bipush 10, 2) := by decide +kernel
theorem dX1_given_105 : decode cX1_given 105 = .ok (.iload_n 2, 1) := by decide +kernel
theorem dX1_given_106 : decode cX1_given 106 = .ok (.iload 4, 2) := by decide +kernel
theorem dX1_given_108 : decode cX1_given 108 = .ok (.invokevirtual 31, 3) := by decide +kernel
theorem dX1_given_111 : decode cX1_given 111 = .ok (.aload_n 0, 1) := by decide +kernel
theorem dX1_given_112 : decode cX1_given 112 = .ok (.getstatic 35, 3) := by decide +kernel
theorem dX1_given_115 : decode cX1_given 115 = .ok (.aload_n 0, 1) := by decide +kernel
theorem dX1_given_116 : decode cX1_given 116 = .ok (.getfield 19, 3) := by decide +kernel
theorem dX1_given_119 : decode cX1_given 119 = .ok (.getfield 26, 3) := by decide +kernel
theorem dX1_given_122 : decode cX1_given 122 = .ok (.iload_n 2, 1) := by decide +kernel
theorem dX1_given_123 : decode cX1_given 123 = .ok (.iaload, 1) := by decide +kernel
theorem dX1_given_124 : decode cX1_given 124 = .ok (.iaload, 1) := by decide +kernel
theorem dX1_given_125 : decode cX1_given 125 = .ok (.iload_n 2, 1) := by decide +kernel
theorem dX1_given_126 : decode cX1_given 126 = .ok (.iload 4, 2) := by decide +kernel
theorem dX1_given_128 : decode cX1_given 128 = .ok (.invokevirtual 31, 3) := by decide +kernel
theorem dX1_given_131 : decode cX1_given 131 = .ok (.iadd, 1) := by decide +kernel
theorem dX1_given_132 : decode cX1_given 132 = .ok (.ireturn, 1) := by decide +kernel
theorem dX1_given_133 : decode cX1_given 133 = .ok (.aload_n 0, 1) := by decide +kernel
theorem dX1_given_134 : decode cX1_given 134 = .ok (.bipush 11, 2) := by decide +kernel
theorem dX1_given_136 : decode cX1_given 136 = .ok (.iload_n 2, 1) := by decide +kernel
theorem dX1_given_137 : decode cX1_given 137 = .ok (.iload 4, 2) := by decide +kernel
theorem dX1_given_139 : decode cX1_given 139 = .ok (.invokevirtual 31, 3) := by decide +kernel
theorem dX1_given_142 : decode cX1_given 142 = .ok (.ineg, 1) := by decide +kernel
theorem dX1_given_143 : decode cX1_given 143 = .ok (.ireturn, 1) := by decide +kernel
theorem dX1_given_144 : decode cX1_given 144 = .ok (.aload_n 0, 1) := by decide +kernel
theorem dX1_given_145 : decode cX1_given 145 = .ok (.bipush 10, 2) := by decide +kernel
theorem dX1_given_147 : decode cX1_given 147 = .ok (.iload_n 2, 1) := by decide +kernel
theorem dX1_given_148 : decode cX1_given 148 = .ok (.iload 4, 2) := by decide +kernel
theorem dX1_given_150 : decode cX1_given 150 = .ok (.invokevirtual 31, 3) := by decide +kernel
theorem dX1_given_153 : decode cX1_given 153 = .ok (.bipush 100, 2) := by decide +kernel
theorem dX1_given_155 : decode cX1_given 155 = .ok (.isub, 1) := by decide +kernel
theorem dX1_given_156 : decode cX1_given 156 = .ok (.ireturn, 1) := by decide +kernel
theorem dX1_given_157 : decode cX1_given 157 = .ok (.iconst 2, 1) := by decide +kernel
theorem dX1_given_158 : decode cX1_given 158 = .ok (.aload_n 0, 1) := by decide +kernel
theorem dX1_given_159 : decode cX1_given 159 = .ok (.bipush 13, 2) := by decide +kernel
theorem dX1_given_161 : decode cX1_given 161 = .ok (.iload_n 2, 1) := by decide +kernel
theorem dX1_given_162 : decode cX1_given 162 = .ok (.iload 4, 2) := by decide +kernel
theorem dX1_given_164 : decode cX1_given 164 = .ok (.invokevirtual 31, 3) := by decide +kernel
theorem dX1_given_167 : decode cX1_given 167 = .ok (.imul, 1) := by decide +kernel
theorem dX1_given_168 : decode cX1_given 168 = .ok (.ireturn, 1) := by decide +kernel
theorem dX1_given_169 : decode cX1_given 169 = .ok (.aload_n 0, 1) := by decide +kernel
theorem dX1_given_170 : decode cX1_given 170 = .ok (.bipush 20, 2) := by decide +kernel
theorem dX1_given_172 : decode cX1_given 172 = .ok (.iload_n 2, 1) := by decide +kernel
theorem dX1_given_173 : decode cX1_given 173 = .ok (.iload 4, 2) := by decide +kernel
theorem dX1_given_175 : decode cX1_given 175 = .ok (.invokevirtual 31, 3) := by decide +kernel
theorem dX1_given_178 : decode cX1_given 178 = .ok (.aload_n 0, 1) := by decide +kernel
theorem dX1_given_179 : decode cX1_given 179 = .ok (.getfield 19, 3) := by decide +kernel
theorem dX1_given_182 : decode cX1_given 182 = .ok (.getfield 46, 3) := by decide +kernel
theorem dX1_given_185 : decode cX1_given 185 = .ok (.iload_n 2, 1) := by decide +kernel
theorem dX1_given_186 : decode cX1_given 186 = .ok (.iaload, 1) := by decide +kernel
theorem dX1_given_187 : decode cX1_given 187 = .ok (.iadd, 1) := by decide +kernel
theorem dX1_given_188 : decode cX1_given 188 = .ok (.ireturn, 1) := by decide +kernel
theorem dX1_given_189 : decode cX1_given 189 = .ok (.aload_n 0, 1) := by decide +kernel
theorem dX1_given_190 : decode cX1_given 190 = .ok (.bipush 21, 2) := by decide +kernel
theorem dX1_given_192 : decode cX1_given 192 = .ok (.iload_n 2, 1) := by decide +kernel
theorem dX1_given_193 : decode cX1_given 193 = .ok (.iload 4, 2) := by decide +kernel
theorem dX1_given_195 : decode cX1_given 195 = .ok (.invokevirtual 31, 3) := by decide +kernel
theorem dX1_given_198 : decode cX1_given 198 = .ok (.sipush 1000, 3) := by decide +kernel
theorem dX1_given_201 : decode cX1_given 201 = .ok (.isub, 1) := by decide +kernel
theorem dX1_given_202 : decode cX1_given 202 = .ok (.ireturn, 1) := by decide +kernel
theorem dX1_given_203 : decode cX1_given 203 = .ok (.aload_n 0, 1) := by decide +kernel
theorem dX1_given_204 : decode cX1_given 204 = .ok (.bipush 20, 2) := by decide +kernel
theorem dX1_given_206 : decode cX1_given 206 = .ok (.iload_n 2, 1) := by decide +kernel
theorem dX1_given_207 : decode cX1_given 207 = .ok (.iload 4, 2) := by decide +kernel
theorem dX1_given_209 : decode cX1_given 209 = .ok (.invokevirtual 31, 3) := by decide +kernel
theorem dX1_given_212 : decode cX1_given 212 = .ok (.aload_n 0, 1) := by decide +kernel
theorem dX1_given_213 : decode cX1_given 213 = .ok (.getstatic 23, 3) := by decide +kernel
theorem dX1_given_216 : decode cX1_given 216 = .ok (.aload_n 0, 1) := by decide +kernel
theorem dX1_given_217 : decode cX1_given 217 = .ok (.getfield 19, 3) := by decide +kernel
theorem dX1_given_220 : decode cX1_given 220 = .ok (.getfield 26, 3) := by decide +kernel
theorem dX1_given_223 : decode cX1_given 223 = .ok (.iload_n 2, 1) := by decide +kernel
theorem dX1_given_224 : decode cX1_given 224 = .ok (.iaload, 1) := by decide +kernel
theorem dX1_given_225 : decode cX1_given 225 = .ok (.iaload, 1) := by decide +kernel
theorem dX1_given_226 : decode cX1_given 226 = .ok (.iload_n 2, 1) := by decide +kernel
theorem dX1_given_227 : decode cX1_given 227 = .ok (.iload 4, 2) := by decide +kernel
theorem dX1_given_229 : decode cX1_given 229 = .ok (.invokevirtual 31, 3) := by decide +kernel
theorem dX1_given_232 : decode cX1_given 232 = .ok (.isub, 1) := by decide +kernel
theorem dX1_given_233 : decode cX1_given 233 = .ok (.ireturn, 1) := by decide +kernel
theorem dX1_given_234 : decode cX1_given 234 = .ok (.iconst 2, 1) := by decide +kernel
theorem dX1_given_235 : decode cX1_given 235 = .ok (.aload_n 0, 1) := by decide +kernel
theorem dX1_given_236 : decode cX1_given 236 = .ok (.bipush 21, 2) := by decide +kernel
theorem dX1_given_238 : decode cX1_given 238 = .ok (.iload_n 2, 1) := by decide +kernel
theorem dX1_given_239 : decode cX1_given 239 = .ok (.iload 4, 2) := by decide +kernel
theorem dX1_given_241 : decode cX1_given 241 = .ok (.invokevirtual 31, 3) := by decide +kernel
theorem dX1_given_244 : decode cX1_given 244 = .ok (.imul, 1) := by decide +kernel
theorem dX1_given_245 : decode cX1_given 245 = .ok (.ireturn, 1) := by decide +kernel
theorem dX1_given_246 : decode cX1_given 246 = .ok (.iload_n 2, 1) := by decide +kernel
theorem dX1_given_247 : decode cX1_given 247 = .ok (.ireturn, 1) := by decide +kernel
theorem dX2_init_0 : decode cX2_init 0 = .ok (.aload_n 0, 1) := by decide +kernel
theorem dX2_init_1 : decode cX2_init 1 = .ok (.invokespecial 5, 3) := by decide +kernel
theorem dX2_init_4 : decode cX2_init 4 = .ok (.aload_n 0, 1) := by decide +kernel
theorem dX2_init_5 : decode cX2_init 5 = .ok (.bipush 19, 2) := by decide +kernel
theorem dX2_init_7 : decode cX2_init 7 = .ok (.newarray .int, 2) := by decide +kernel
theorem dX2_init_9 : decode cX2_init 9 = .ok (.putfield 11, 3) := by decide +kernel
theorem dX2_init_12 : decode cX2_init 12 = .ok (.return_, 1) := by decide +kernel
theorem dX2_empty_0 : decode cX2_empty 0 = .ok (.aload_n 0, 1) := by decide +kernel
theorem dX2_empty_1 : decode cX2_empty 1 = .ok (.getfield 11, 3) := by decide +kernel
theorem dX2_empty_4 : decode cX2_empty 4 = .ok (.iconst 0, 1) := by decide +kernel
theorem dX2_empty_5 : decode cX2_empty 5 = .ok (.invokestatic 15, 3) := by decide +kernel
theorem dX2_empty_8 : decode cX2_empty 8 = .ok (.return_, 1) := by decide +kernel
theorem dX2_become_0 : decode cX2_become 0 = .ok (.aload_n 1, 1) := by decide +kernel
theorem dX2_become_1 : decode cX2_become 1 = .ok (.getfield 11, 3) := by decide +kernel
theorem dX2_become_4 : decode cX2_become 4 = .ok (.iconst 0, 1) := by decide +kernel
theorem dX2_become_5 : decode cX2_become 5 = .ok (.aload_n 0, 1) := by decide +kernel
theorem dX2_become_6 : decode cX2_become 6 = .ok (.getfield 11, 3) := by decide +kernel
theorem dX2_become_9 : decode cX2_become 9 = .ok (.iconst 0, 1) := by decide +kernel
theorem dX2_become_10 : decode cX2_become 10 = .ok (.bipush 19, 2) := by decide +kernel
theorem dX2_become_12 : decode cX2_become 12 = .ok (.invokestatic 21, 3) := by decide +kernel
theorem dX2_become_15 : decode cX2_become 15 = .ok (.return_, 1) := by decide +kernel
theorem dX2_today_0 : decode cX2_today 0 = .ok (.aload_n 0, 1) := by decide +kernel
theorem dX2_today_1 : decode cX2_today 1 = .ok (.getfield 11, 3) := by decide +kernel
theorem dX2_today_4 : decode cX2_today 4 = .ok (.iconst 0, 1) := by decide +kernel
theorem dX2_today_5 : decode cX2_today 5 = .ok (.iaload, 1) := by decide +kernel
theorem dX2_today_6 : decode cX2_today 6 = .ok (.ireturn, 1) := by decide +kernel
theorem dX2_isMissing_0 : decode cX2_isMissing 0 = .ok (.aload_n 0, 1) := by decide +kernel
theorem dX2_isMissing_1 : decode cX2_isMissing 1 = .ok (.getfield 11, 3) := by decide +kernel
theorem dX2_isMissing_4 : decode cX2_isMissing 4 = .ok (.iconst 1, 1) := by decide +kernel
theorem dX2_isMissing_5 : decode cX2_isMissing 5 = .ok (.iload_n 1, 1) := by decide +kernel
theorem dX2_isMissing_6 : decode cX2_isMissing 6 = .ok (.iadd, 1) := by decide +kernel
theorem dX2_isMissing_7 : decode cX2_isMissing 7 = .ok (.iaload, 1) := by decide +kernel
theorem dX2_isMissing_8 : decode cX2_isMissing 8 = .ok (.ifCond .ne 7, 3) := by decide +kernel
theorem dX2_isMissing_11 : decode cX2_isMissing 11 = .ok (.iconst 1, 1) := by decide +kernel
theorem dX2_isMissing_12 : decode cX2_isMissing 12 = .ok (.goto 4, 3) := by decide +kernel
theorem dX2_isMissing_15 : decode cX2_isMissing 15 = .ok (.iconst 0, 1) := by decide +kernel
theorem dX2_isMissing_16 : decode cX2_isMissing 16 = .ok (.ireturn, 1) := by decide +kernel
theorem dX2_whomOf_0 : decode cX2_whomOf 0 = .ok (.aload_n 0, 1) := by decide +kernel
theorem dX2_whomOf_1 : decode cX2_whomOf 1 = .ok (.getfield 11, 3) := by decide +kernel
theorem dX2_whomOf_4 : decode cX2_whomOf 4 = .ok (.iconst 1, 1) := by decide +kernel
theorem dX2_whomOf_5 : decode cX2_whomOf 5 = .ok (.iload_n 1, 1) := by decide +kernel
theorem dX2_whomOf_6 : decode cX2_whomOf 6 = .ok (.iadd, 1) := by decide +kernel
theorem dX2_whomOf_7 : decode cX2_whomOf 7 = .ok (.iaload, 1) := by decide +kernel
theorem dX2_whomOf_8 : decode cX2_whomOf 8 = .ok (.iconst 1, 1) := by decide +kernel
theorem dX2_whomOf_9 : decode cX2_whomOf 9 = .ok (.isub, 1) := by decide +kernel
theorem dX2_whomOf_10 : decode cX2_whomOf 10 = .ok (.ireturn, 1) := by decide +kernel
theorem dX2_maltOf_0 : decode cX2_maltOf 0 = .ok (.aload_n 0, 1) := by decide +kernel
theorem dX2_maltOf_1 : decode cX2_maltOf 1 = .ok (.getfield 11, 3) := by decide +kernel
theorem dX2_maltOf_4 : decode cX2_maltOf 4 = .ok (.iconst 5, 1) := by decide +kernel
theorem dX2_maltOf_5 : decode cX2_maltOf 5 = .ok (.iload_n 1, 1) := by decide +kernel
theorem dX2_maltOf_6 : decode cX2_maltOf 6 = .ok (.iadd, 1) := by decide +kernel
theorem dX2_maltOf_7 : decode cX2_maltOf 7 = .ok (.iaload, 1) := by decide +kernel
theorem dX2_maltOf_8 : decode cX2_maltOf 8 = .ok (.ireturn, 1) := by decide +kernel
theorem dX2_ageOf_0 : decode cX2_ageOf 0 = .ok (.aload_n 0, 1) := by decide +kernel
theorem dX2_ageOf_1 : decode cX2_ageOf 1 = .ok (.getfield 11, 3) := by decide +kernel
theorem dX2_ageOf_4 : decode cX2_ageOf 4 = .ok (.bipush 9, 2) := by decide +kernel
theorem dX2_ageOf_6 : decode cX2_ageOf 6 = .ok (.iload_n 1, 1) := by decide +kernel
theorem dX2_ageOf_7 : decode cX2_ageOf 7 = .ok (.iadd, 1) := by decide +kernel
theorem dX2_ageOf_8 : decode cX2_ageOf 8 = .ok (.iaload, 1) := by decide +kernel
theorem dX2_ageOf_9 : decode cX2_ageOf 9 = .ok (.ireturn, 1) := by decide +kernel
theorem dX2_notesOf_0 : decode cX2_notesOf 0 = .ok (.aload_n 0, 1) := by decide +kernel
theorem dX2_notesOf_1 : decode cX2_notesOf 1 = .ok (.getfield 11, 3) := by decide +kernel
theorem dX2_notesOf_4 : decode cX2_notesOf 4 = .ok (.bipush 13, 2) := by decide +kernel
theorem dX2_notesOf_6 : decode cX2_notesOf 6 = .ok (.iload_n 1, 1) := by decide +kernel
theorem dX2_notesOf_7 : decode cX2_notesOf 7 = .ok (.iadd, 1) := by decide +kernel
theorem dX2_notesOf_8 : decode cX2_notesOf 8 = .ok (.iaload, 1) := by decide +kernel
theorem dX2_notesOf_9 : decode cX2_notesOf 9 = .ok (.ireturn, 1) := by decide +kernel
theorem dX2_maltOfBoth_0 : decode cX2_maltOfBoth 0 = .ok (.bipush 20, 2) := by decide +kernel
theorem dX2_maltOfBoth_2 : decode cX2_maltOfBoth 2 = .ok (.aload_n 0, 1) := by decide +kernel
theorem dX2_maltOfBoth_3 : decode cX2_maltOfBoth 3 = .ok (.iload_n 1, 1) := by decide +kernel
theorem dX2_maltOfBoth_4 : decode cX2_maltOfBoth 4 = .ok (.invokevirtual 27, 3) := by decide +kernel
theorem dX2_maltOfBoth_7 : decode cX2_maltOfBoth 7 = .ok (.aload_n 0, 1) := by decide +kernel
theorem dX2_maltOfBoth_8 : decode cX2_maltOfBoth 8 = .ok (.iload_n 2, 1) := by decide +kernel
theorem dX2_maltOfBoth_9 : decode cX2_maltOfBoth 9 = .ok (.invokevirtual 27, 3) := by decide +kernel
theorem dX2_maltOfBoth_12 : decode cX2_maltOfBoth 12 = .ok (.iadd, 1) := by decide +kernel
theorem dX2_maltOfBoth_13 : decode cX2_maltOfBoth 13 = .ok (.invokestatic 31, 3) := by decide +kernel
theorem dX2_maltOfBoth_16 : decode cX2_maltOfBoth 16 = .ok (.ireturn, 1) := by decide +kernel
theorem dX2_fill_0 : decode cX2_fill 0 = .ok (.aload_n 0, 1) := by decide +kernel
theorem dX2_fill_1 : decode cX2_fill 1 = .ok (.getfield 11, 3) := by decide +kernel
theorem dX2_fill_4 : decode cX2_fill 4 = .ok (.iconst 1, 1) := by decide +kernel
theorem dX2_fill_5 : decode cX2_fill 5 = .ok (.iload_n 1, 1) := by decide +kernel
theorem dX2_fill_6 : decode cX2_fill 6 = .ok (.iadd, 1) := by decide +kernel
theorem dX2_fill_7 : decode cX2_fill 7 = .ok (.iload_n 2, 1) := by decide +kernel
theorem dX2_fill_8 : decode cX2_fill 8 = .ok (.iconst 1, 1) := by decide +kernel
theorem dX2_fill_9 : decode cX2_fill 9 = .ok (.iadd, 1) := by decide +kernel
theorem dX2_fill_10 : decode cX2_fill 10 = .ok (.iastore, 1) := by decide +kernel
theorem dX2_fill_11 : decode cX2_fill 11 = .ok (.aload_n 0, 1) := by decide +kernel
theorem dX2_fill_12 : decode cX2_fill 12 = .ok (.getfield 11, 3) := by decide +kernel
theorem dX2_fill_15 : decode cX2_fill 15 = .ok (.iconst 5, 1) := by decide +kernel
theorem dX2_fill_16 : decode cX2_fill 16 = .ok (.iload_n 1, 1) := by decide +kernel
theorem dX2_fill_17 : decode cX2_fill 17 = .ok (.iadd, 1) := by decide +kernel
theorem dX2_fill_18 : decode cX2_fill 18 = .ok (.iload_n 3, 1) := by decide +kernel
theorem dX2_fill_19 : decode cX2_fill 19 = .ok (.iastore, 1) := by decide +kernel
theorem dX2_fill_20 : decode cX2_fill 20 = .ok (.aload_n 0, 1) := by decide +kernel
theorem dX2_fill_21 : decode cX2_fill 21 = .ok (.getfield 11, 3) := by decide +kernel
theorem dX2_fill_24 : decode cX2_fill 24 = .ok (.bipush 9, 2) := by decide +kernel
theorem dX2_fill_26 : decode cX2_fill 26 = .ok (.iload_n 1, 1) := by decide +kernel
theorem dX2_fill_27 : decode cX2_fill 27 = .ok (.iadd, 1) := by decide +kernel
theorem dX2_fill_28 : decode cX2_fill 28 = .ok (.iconst 0, 1) := by decide +kernel
theorem dX2_fill_29 : decode cX2_fill 29 = .ok (.iastore, 1) := by decide +kernel
theorem dX2_fill_30 : decode cX2_fill 30 = .ok (.return_, 1) := by decide +kernel
theorem dX2_setMalt_0 : decode cX2_setMalt 0 = .ok (.aload_n 0, 1) := by decide +kernel
theorem dX2_setMalt_1 : decode cX2_setMalt 1 = .ok (.getfield 11, 3) := by decide +kernel
theorem dX2_setMalt_4 : decode cX2_setMalt 4 = .ok (.iconst 5, 1) := by decide +kernel
theorem dX2_setMalt_5 : decode cX2_setMalt 5 = .ok (.iload_n 1, 1) := by decide +kernel
theorem dX2_setMalt_6 : decode cX2_setMalt 6 = .ok (.iadd, 1) := by decide +kernel
theorem dX2_setMalt_7 : decode cX2_setMalt 7 = .ok (.iload_n 2, 1) := by decide +kernel
theorem dX2_setMalt_8 : decode cX2_setMalt 8 = .ok (.iastore, 1) := by decide +kernel
theorem dX2_setMalt_9 : decode cX2_setMalt 9 = .ok (.return_, 1) := by decide +kernel
theorem dX2_lose_0 : decode cX2_lose 0 = .ok (.aload_n 0, 1) := by decide +kernel
theorem dX2_lose_1 : decode cX2_lose 1 = .ok (.getfield 11, 3) := by decide +kernel
theorem dX2_lose_4 : decode cX2_lose 4 = .ok (.iconst 1, 1) := by decide +kernel
theorem dX2_lose_5 : decode cX2_lose 5 = .ok (.iload_n 1, 1) := by decide +kernel
theorem dX2_lose_6 : decode cX2_lose 6 = .ok (.iadd, 1) := by decide +kernel
theorem dX2_lose_7 : decode cX2_lose 7 = .ok (.iconst 0, 1) := by decide +kernel
theorem dX2_lose_8 : decode cX2_lose 8 = .ok (.iastore, 1) := by decide +kernel
theorem dX2_lose_9 : decode cX2_lose 9 = .ok (.return_, 1) := by decide +kernel
theorem dX2_note_0 : decode cX2_note 0 = .ok (.aload_n 0, 1) := by decide +kernel
theorem dX2_note_1 : decode cX2_note 1 = .ok (.getfield 11, 3) := by decide +kernel
theorem dX2_note_4 : decode cX2_note 4 = .ok (.bipush 13, 2) := by decide +kernel
theorem dX2_note_6 : decode cX2_note 6 = .ok (.iload_n 1, 1) := by decide +kernel
theorem dX2_note_7 : decode cX2_note 7 = .ok (.iadd, 1) := by decide +kernel
theorem dX2_note_8 : decode cX2_note 8 = .ok (.dup2, 1) := by decide +kernel
theorem dX2_note_9 : decode cX2_note 9 = .ok (.iaload, 1) := by decide +kernel
theorem dX2_note_10 : decode cX2_note 10 = .ok (.iload_n 2, 1) := by decide +kernel
theorem dX2_note_11 : decode cX2_note 11 = .ok (.ior, 1) := by decide +kernel
theorem dX2_note_12 : decode cX2_note 12 = .ok (.iastore, 1) := by decide +kernel
theorem dX2_note_13 : decode cX2_note 13 = .ok (.return_, 1) := by decide +kernel
theorem dX2_passDay_0 : decode cX2_passDay 0 = .ok (.aload_n 0, 1) := by decide +kernel
theorem dX2_passDay_1 : decode cX2_passDay 1 = .ok (.getfield 11, 3) := by decide +kernel
theorem dX2_passDay_4 : decode cX2_passDay 4 = .ok (.iconst 0, 1) := by decide +kernel
theorem dX2_passDay_5 : decode cX2_passDay 5 = .ok (.dup2, 1) := by decide +kernel
theorem dX2_passDay_6 : decode cX2_passDay 6 = .ok (.iaload, 1) := by decide +kernel
theorem dX2_passDay_7 : decode cX2_passDay 7 = .ok (.iconst 1, 1) := by decide +kernel
theorem dX2_passDay_8 : decode cX2_passDay 8 = .ok (.iadd, 1) := by decide +kernel
theorem dX2_passDay_9 : decode cX2_passDay 9 = .ok (.iastore, 1) := by decide +kernel
theorem dX2_passDay_10 : decode cX2_passDay 10 = .ok (.iconst 0, 1) := by decide +kernel
theorem dX2_passDay_11 : decode cX2_passDay 11 = .ok (.istore_n 1, 1) := by decide +kernel
theorem dX2_passDay_12 : decode cX2_passDay 12 = .ok (.iload_n 1, 1) := by decide +kernel
theorem dX2_passDay_13 : decode cX2_passDay 13 = .ok (.iconst 4, 1) := by decide +kernel
theorem dX2_passDay_14 : decode cX2_passDay 14 = .ok (.if_icmp .ge 22, 3) := by decide +kernel
theorem dX2_passDay_17 : decode cX2_passDay 17 = .ok (.aload_n 0, 1) := by decide +kernel
theorem dX2_passDay_18 : decode cX2_passDay 18 = .ok (.getfield 11, 3) := by decide +kernel
theorem dX2_passDay_21 : decode cX2_passDay 21 = .ok (.bipush 9, 2) := by decide +kernel
theorem dX2_passDay_23 : decode cX2_passDay 23 = .ok (.iload_n 1, 1) := by decide +kernel
theorem dX2_passDay_24 : decode cX2_passDay 24 = .ok (.iadd, 1) := by decide +kernel
theorem dX2_passDay_25 : decode cX2_passDay 25 = .ok (.dup2, 1) := by decide +kernel
theorem dX2_passDay_26 : decode cX2_passDay 26 = .ok (.iaload, 1) := by decide +kernel
theorem dX2_passDay_27 : decode cX2_passDay 27 = .ok (.iconst 1, 1) := by decide +kernel
theorem dX2_passDay_28 : decode cX2_passDay 28 = .ok (.iadd, 1) := by decide +kernel
theorem dX2_passDay_29 : decode cX2_passDay 29 = .ok (.iastore, 1) := by decide +kernel
theorem dX2_passDay_30 : decode cX2_passDay 30 = .ok (.iinc 1 1, 3) := by decide +kernel
theorem dX2_passDay_33 : decode cX2_passDay 33 = .ok (.goto (-21), 3) := by decide +kernel
theorem dX2_passDay_36 : decode cX2_passDay 36 = .ok (.return_, 1) := by decide +kernel
theorem dX2_leastMissing_0 : decode cX2_leastMissing 0 = .ok (.iconst 0, 1) := by decide +kernel
theorem dX2_leastMissing_1 : decode cX2_leastMissing 1 = .ok (.istore_n 1, 1) := by decide +kernel
theorem dX2_leastMissing_2 : decode cX2_leastMissing 2 = .ok (.iload_n 1, 1) := by decide +kernel
theorem dX2_leastMissing_3 : decode cX2_leastMissing 3 = .ok (.iconst 4, 1) := by decide +kernel
theorem dX2_leastMissing_4 : decode cX2_leastMissing 4 = .ok (.if_icmp .ge 19, 3) := by decide +kernel
theorem dX2_leastMissing_7 : decode cX2_leastMissing 7 = .ok (.aload_n 0, 1) := by decide +kernel
theorem dX2_leastMissing_8 : decode cX2_leastMissing 8 = .ok (.iload_n 1, 1) := by decide +kernel
theorem dX2_leastMissing_9 : decode cX2_leastMissing 9 = .ok (.invokevirtual 37, 3) := by decide +kernel
theorem dX2_leastMissing_12 : decode cX2_leastMissing 12 = .ok (.ifCond .eq 5, 3) := by decide +kernel
theorem dX2_leastMissing_15 : decode cX2_leastMissing 15 = .ok (.iload_n 1, 1) := by decide +kernel
theorem dX2_leastMissing_16 : decode cX2_leastMissing 16 = .ok (.ireturn, 1) := by decide +kernel
theorem dX2_leastMissing_17 : decode cX2_leastMissing 17 = .ok (.iinc 1 1, 3) := by decide +kernel
theorem dX2_leastMissing_20 : decode cX2_leastMissing 20 = .ok (.goto (-18), 3) := by decide +kernel
theorem dX2_leastMissing_23 : decode cX2_leastMissing 23 = .ok (.ldc 41, 2) := by decide +kernel
theorem dX2_leastMissing_25 : decode cX2_leastMissing 25 = .ok (.ireturn, 1) := by decide +kernel
theorem dX2_howMany_0 : decode cX2_howMany 0 = .ok (.iconst 0, 1) := by decide +kernel
theorem dX2_howMany_1 : decode cX2_howMany 1 = .ok (.istore_n 1, 1) := by decide +kernel
theorem dX2_howMany_2 : decode cX2_howMany 2 = .ok (.iconst 0, 1) := by decide +kernel
theorem dX2_howMany_3 : decode cX2_howMany 3 = .ok (.istore_n 2, 1) := by decide +kernel
theorem dX2_howMany_4 : decode cX2_howMany 4 = .ok (.iload_n 2, 1) := by decide +kernel
theorem dX2_howMany_5 : decode cX2_howMany 5 = .ok (.iconst 4, 1) := by decide +kernel
theorem dX2_howMany_6 : decode cX2_howMany 6 = .ok (.if_icmp .ge 20, 3) := by decide +kernel
theorem dX2_howMany_9 : decode cX2_howMany 9 = .ok (.aload_n 0, 1) := by decide +kernel
theorem dX2_howMany_10 : decode cX2_howMany 10 = .ok (.iload_n 2, 1) := by decide +kernel
theorem dX2_howMany_11 : decode cX2_howMany 11 = .ok (.invokevirtual 37, 3) := by decide +kernel
theorem dX2_howMany_14 : decode cX2_howMany 14 = .ok (.ifCond .ne 6, 3) := by decide +kernel
theorem dX2_howMany_17 : decode cX2_howMany 17 = .ok (.iinc 1 1, 3) := by decide +kernel
theorem dX2_howMany_20 : decode cX2_howMany 20 = .ok (.iinc 2 1, 3) := by decide +kernel
theorem dX2_howMany_23 : decode cX2_howMany 23 = .ok (.goto (-19), 3) := by decide +kernel
theorem dX2_howMany_26 : decode cX2_howMany 26 = .ok (.iload_n 1, 1) := by decide +kernel
theorem dX2_howMany_27 : decode cX2_howMany 27 = .ok (.ireturn, 1) := by decide +kernel
theorem dX2_allMalt_0 : decode cX2_allMalt 0 = .ok (.iconst 0, 1) := by decide +kernel
theorem dX2_allMalt_1 : decode cX2_allMalt 1 = .ok (.istore_n 1, 1) := by decide +kernel
theorem dX2_allMalt_2 : decode cX2_allMalt 2 = .ok (.iconst 0, 1) := by decide +kernel
theorem dX2_allMalt_3 : decode cX2_allMalt 3 = .ok (.istore_n 2, 1) := by decide +kernel
theorem dX2_allMalt_4 : decode cX2_allMalt 4 = .ok (.iload_n 2, 1) := by decide +kernel
theorem dX2_allMalt_5 : decode cX2_allMalt 5 = .ok (.iconst 4, 1) := by decide +kernel
theorem dX2_allMalt_6 : decode cX2_allMalt 6 = .ok (.if_icmp .ge 25, 3) := by decide +kernel
theorem dX2_allMalt_9 : decode cX2_allMalt 9 = .ok (.aload_n 0, 1) := by decide +kernel
theorem dX2_allMalt_10 : decode cX2_allMalt 10 = .ok (.iload_n 2, 1) := by decide +kernel
theorem dX2_allMalt_11 : decode cX2_allMalt 11 = .ok (.invokevirtual 37, 3) := by decide +kernel
theorem dX2_allMalt_14 : decode cX2_allMalt 14 = .ok (.ifCond .ne 11, 3) := by decide +kernel
theorem dX2_allMalt_17 : decode cX2_allMalt 17 = .ok (.iload_n 1, 1) := by decide +kernel
theorem dX2_allMalt_18 : decode cX2_allMalt 18 = .ok (.aload_n 0, 1) := by decide +kernel
theorem dX2_allMalt_19 : decode cX2_allMalt 19 = .ok (.iload_n 2, 1) := by decide +kernel
theorem dX2_allMalt_20 : decode cX2_allMalt 20 = .ok (.invokevirtual 27, 3) := by decide +kernel
theorem dX2_allMalt_23 : decode cX2_allMalt 23 = .ok (.iadd, 1) := by decide +kernel
theorem dX2_allMalt_24 : decode cX2_allMalt 24 = .ok (.istore_n 1, 1) := by decide +kernel
theorem dX2_allMalt_25 : decode cX2_allMalt 25 = .ok (.iinc 2 1, 3) := by decide +kernel
theorem dX2_allMalt_28 : decode cX2_allMalt 28 = .ok (.goto (-24), 3) := by decide +kernel
theorem dX2_allMalt_31 : decode cX2_allMalt 31 = .ok (.iload_n 1, 1) := by decide +kernel
theorem dX2_allMalt_32 : decode cX2_allMalt 32 = .ok (.ireturn, 1) := by decide +kernel
theorem dX2_allNotes_0 : decode cX2_allNotes 0 = .ok (.iconst 0, 1) := by decide +kernel
theorem dX2_allNotes_1 : decode cX2_allNotes 1 = .ok (.istore_n 1, 1) := by decide +kernel
theorem dX2_allNotes_2 : decode cX2_allNotes 2 = .ok (.iconst 0, 1) := by decide +kernel
theorem dX2_allNotes_3 : decode cX2_allNotes 3 = .ok (.istore_n 2, 1) := by decide +kernel
theorem dX2_allNotes_4 : decode cX2_allNotes 4 = .ok (.iload_n 2, 1) := by decide +kernel
theorem dX2_allNotes_5 : decode cX2_allNotes 5 = .ok (.bipush 6, 2) := by decide +kernel
theorem dX2_allNotes_7 : decode cX2_allNotes 7 = .ok (.if_icmp .ge 20, 3) := by decide +kernel
theorem dX2_allNotes_10 : decode cX2_allNotes 10 = .ok (.iload_n 1, 1) := by decide +kernel
theorem dX2_allNotes_11 : decode cX2_allNotes 11 = .ok (.aload_n 0, 1) := by decide +kernel
theorem dX2_allNotes_12 : decode cX2_allNotes 12 = .ok (.iload_n 2, 1) := by decide +kernel
theorem dX2_allNotes_13 : decode cX2_allNotes 13 = .ok (.invokevirtual 42, 3) := by decide +kernel
theorem dX2_allNotes_16 : decode cX2_allNotes 16 = .ok (.invokestatic 45, 3) := by decide +kernel
theorem dX2_allNotes_19 : decode cX2_allNotes 19 = .ok (.iadd, 1) := by decide +kernel
theorem dX2_allNotes_20 : decode cX2_allNotes 20 = .ok (.istore_n 1, 1) := by decide +kernel
theorem dX2_allNotes_21 : decode cX2_allNotes 21 = .ok (.iinc 2 1, 3) := by decide +kernel
theorem dX2_allNotes_24 : decode cX2_allNotes 24 = .ok (.goto (-20), 3) := by decide +kernel
theorem dX2_allNotes_27 : decode cX2_allNotes 27 = .ok (.iload_n 1, 1) := by decide +kernel
theorem dX2_allNotes_28 : decode cX2_allNotes 28 = .ok (.ireturn, 1) := by decide +kernel
theorem dX3_init_0 : decode cX3_init 0 = .ok (.aload_n 0, 1) := by decide +kernel
theorem dX3_init_1 : decode cX3_init 1 = .ok (.invokespecial 3, 3) := by decide +kernel
theorem dX3_init_4 : decode cX3_init 4 = .ok (.aload_n 0, 1) := by decide +kernel
theorem dX3_init_5 : decode cX3_init 5 = .ok (.new 9, 3) := by decide +kernel
theorem dX3_init_8 : decode cX3_init 8 = .ok (.dup, 1) := by decide +kernel
theorem dX3_init_9 : decode cX3_init 9 = .ok (.invokespecial 11, 3) := by decide +kernel
theorem dX3_init_12 : decode cX3_init 12 = .ok (.putfield 12, 3) := by decide +kernel
theorem dX3_init_15 : decode cX3_init 15 = .ok (.aload_n 0, 1) := by decide +kernel
theorem dX3_init_16 : decode cX3_init 16 = .ok (.bipush 11, 2) := by decide +kernel
theorem dX3_init_18 : decode cX3_init 18 = .ok (.newarray .long, 2) := by decide +kernel
theorem dX3_init_20 : decode cX3_init 20 = .ok (.putfield 18, 3) := by decide +kernel
theorem dX3_init_23 : decode cX3_init 23 = .ok (.aload_n 0, 1) := by decide +kernel
theorem dX3_init_24 : decode cX3_init 24 = .ok (.aload_n 1, 1) := by decide +kernel
theorem dX3_init_25 : decode cX3_init 25 = .ok (.putfield 22, 3) := by decide +kernel
theorem dX3_init_28 : decode cX3_init 28 = .ok (.aload_n 0, 1) := by decide +kernel
theorem dX3_init_29 : decode cX3_init 29 = .ok (.aload_n 2, 1) := by decide +kernel
theorem dX3_init_30 : decode cX3_init 30 = .ok (.putfield 26, 3) := by decide +kernel
theorem dX3_init_33 : decode cX3_init 33 = .ok (.return_, 1) := by decide +kernel
theorem dX3_fewestTold_0 : decode cX3_fewestTold 0 = .ok (.ldc 30, 2) := by decide +kernel
theorem dX3_fewestTold_2 : decode cX3_fewestTold 2 = .ok (.istore 4, 2) := by decide +kernel
theorem dX3_fewestTold_4 : decode cX3_fewestTold 4 = .ok (.aload_n 0, 1) := by decide +kernel
theorem dX3_fewestTold_5 : decode cX3_fewestTold 5 = .ok (.getfield 26, 3) := by decide +kernel
theorem dX3_fewestTold_8 : decode cX3_fewestTold 8 = .ok (.invokevirtual 31, 3) := by decide +kernel
theorem dX3_fewestTold_11 : decode cX3_fewestTold 11 = .ok (.iconst 0, 1) := by decide +kernel
theorem dX3_fewestTold_12 : decode cX3_fewestTold 12 = .ok (.istore 5, 2) := by decide +kernel
theorem dX3_fewestTold_14 : decode cX3_fewestTold 14 = .ok (.iload 5, 2) := by decide +kernel
theorem dX3_fewestTold_16 : decode cX3_fewestTold 16 = .ok (.aload_n 0, 1) := by decide +kernel
theorem dX3_fewestTold_17 : decode cX3_fewestTold 17 = .ok (.getfield 22, 3) := by decide +kernel
theorem dX3_fewestTold_20 : decode cX3_fewestTold 20 = .ok (.invokevirtual 36, 3) := by decide +kernel
theorem dX3_fewestTold_23 : decode cX3_fewestTold 23 = .ok (.if_icmp .gt 58, 3) := by decide +kernel
theorem dX3_fewestTold_26 : decode cX3_fewestTold 26 = .ok (.iload 4, 2) := by decide +kernel
theorem dX3_fewestTold_28 : decode cX3_fewestTold 28 = .ok (.ldc 30, 2) := by decide +kernel
theorem dX3_fewestTold_30 : decode cX3_fewestTold 30 = .ok (.if_icmp .eq 16, 3) := by decide +kernel
theorem dX3_fewestTold_33 : decode cX3_fewestTold 33 = .ok (.iload 5, 2) := by decide +kernel
theorem dX3_fewestTold_35 : decode cX3_fewestTold 35 = .ok (.invokestatic 42, 3) := by decide +kernel
theorem dX3_fewestTold_38 : decode cX3_fewestTold 38 = .ok (.iload 4, 2) := by decide +kernel
theorem dX3_fewestTold_40 : decode cX3_fewestTold 40 = .ok (.invokestatic 42, 3) := by decide +kernel
theorem dX3_fewestTold_43 : decode cX3_fewestTold 43 = .ok (.if_icmp .ge 32, 3) := by decide +kernel
theorem dX3_fewestTold_46 : decode cX3_fewestTold 46 = .ok (.aload_n 0, 1) := by decide +kernel
theorem dX3_fewestTold_47 : decode cX3_fewestTold 47 = .ok (.getfield 26, 3) := by decide +kernel
theorem dX3_fewestTold_50 : decode cX3_fewestTold 50 = .ok (.iload_n 1, 1) := by decide +kernel
theorem dX3_fewestTold_51 : decode cX3_fewestTold 51 = .ok (.iload 5, 2) := by decide +kernel
theorem dX3_fewestTold_53 : decode cX3_fewestTold 53 = .ok (.invokevirtual 48, 3) := by decide +kernel
theorem dX3_fewestTold_56 : decode cX3_fewestTold 56 = .ok (.aload_n 0, 1) := by decide +kernel
theorem dX3_fewestTold_57 : decode cX3_fewestTold 57 = .ok (.getfield 26, 3) := by decide +kernel
theorem dX3_fewestTold_60 : decode cX3_fewestTold 60 = .ok (.getfield 52, 3) := by decide +kernel
theorem dX3_fewestTold_63 : decode cX3_fewestTold 63 = .ok (.iload_n 2, 1) := by decide +kernel
theorem dX3_fewestTold_64 : decode cX3_fewestTold 64 = .ok (.iload_n 3, 1) := by decide +kernel
theorem dX3_fewestTold_65 : decode cX3_fewestTold 65 = .ok (.ior, 1) := by decide +kernel
theorem dX3_fewestTold_66 : decode cX3_fewestTold 66 = .ok (.iand, 1) := by decide +kernel
theorem dX3_fewestTold_67 : decode cX3_fewestTold 67 = .ok (.iload_n 2, 1) := by decide +kernel
theorem dX3_fewestTold_68 : decode cX3_fewestTold 68 = .ok (.if_icmp .ne 7, 3) := by decide +kernel
theorem dX3_fewestTold_71 : decode cX3_fewestTold 71 = .ok (.iload 5, 2) := by decide +kernel
theorem dX3_fewestTold_73 : decode cX3_fewestTold 73 = .ok (.istore 4, 2) := by decide +kernel
theorem dX3_fewestTold_75 : decode cX3_fewestTold 75 = .ok (.iinc 5 1, 3) := by decide +kernel
theorem dX3_fewestTold_78 : decode cX3_fewestTold 78 = .ok (.goto (-64), 3) := by decide +kernel
theorem dX3_fewestTold_81 : decode cX3_fewestTold 81 = .ok (.iload 4, 2) := by decide +kernel
theorem dX3_fewestTold_83 : decode cX3_fewestTold 83 = .ok (.ireturn, 1) := by decide +kernel
theorem dX3_fewestWithout_0 : decode cX3_fewestWithout 0 = .ok (.ldc 30, 2) := by decide +kernel
theorem dX3_fewestWithout_2 : decode cX3_fewestWithout 2 = .ok (.istore 4, 2) := by decide +kernel
theorem dX3_fewestWithout_4 : decode cX3_fewestWithout 4 = .ok (.aload_n 0, 1) := by decide +kernel
theorem dX3_fewestWithout_5 : decode cX3_fewestWithout 5 = .ok (.getfield 26, 3) := by decide +kernel
theorem dX3_fewestWithout_8 : decode cX3_fewestWithout 8 = .ok (.invokevirtual 31, 3) := by decide +kernel
theorem dX3_fewestWithout_11 : decode cX3_fewestWithout 11 = .ok (.iconst 0, 1) := by decide +kernel
theorem dX3_fewestWithout_12 : decode cX3_fewestWithout 12 = .ok (.istore 5, 2) := by decide +kernel
theorem dX3_fewestWithout_14 : decode cX3_fewestWithout 14 = .ok (.iload 5, 2) := by decide +kernel
theorem dX3_fewestWithout_16 : decode cX3_fewestWithout 16 = .ok (.iconst 1, 1) := by decide +kernel
theorem dX3_fewestWithout_17 : decode cX3_fewestWithout 17 = .ok (.aload_n 0, 1) := by decide +kernel
theorem dX3_fewestWithout_18 : decode cX3_fewestWithout 18 = .ok (.getfield 22, 3) := by decide +kernel
theorem dX3_fewestWithout_21 : decode cX3_fewestWithout 21 = .ok (.getfield 56, 3) := by decide +kernel
theorem dX3_fewestWithout_24 : decode cX3_fewestWithout 24 = .ok (.ishl, 1) := by decide +kernel
theorem dX3_fewestWithout_25 : decode cX3_fewestWithout 25 = .ok (.if_icmp .ge 67, 3) := by decide +kernel
theorem dX3_fewestWithout_28 : decode cX3_fewestWithout 28 = .ok (.iload 4, 2) := by decide +kernel
theorem dX3_fewestWithout_30 : decode cX3_fewestWithout 30 = .ok (.ldc 30, 2) := by decide +kernel
theorem dX3_fewestWithout_32 : decode cX3_fewestWithout 32 = .ok (.if_icmp .eq 16, 3) := by decide +kernel
theorem dX3_fewestWithout_35 : decode cX3_fewestWithout 35 = .ok (.iload 5, 2) := by decide +kernel
theorem dX3_fewestWithout_37 : decode cX3_fewestWithout 37 = .ok (.invokestatic 42, 3) := by decide +kernel
theorem dX3_fewestWithout_40 : decode cX3_fewestWithout 40 = .ok (.iload 4, 2) := by decide +kernel
theorem dX3_fewestWithout_42 : decode cX3_fewestWithout 42 = .ok (.invokestatic 42, 3) := by decide +kernel
theorem dX3_fewestWithout_45 : decode cX3_fewestWithout 45 = .ok (.if_icmp .ge 41, 3) := by decide +kernel
theorem dX3_fewestWithout_48 : decode cX3_fewestWithout 48 = .ok (.aload_n 0, 1) := by decide +kernel
theorem dX3_fewestWithout_49 : decode cX3_fewestWithout 49 = .ok (.getfield 26, 3) := by decide +kernel
theorem dX3_fewestWithout_52 : decode cX3_fewestWithout 52 = .ok (.iload 5, 2) := by decide +kernel
theorem dX3_fewestWithout_54 : decode cX3_fewestWithout 54 = .ok (.invokevirtual 59, 3) := by decide +kernel
theorem dX3_fewestWithout_57 : decode cX3_fewestWithout 57 = .ok (.aload_n 0, 1) := by decide +kernel
theorem dX3_fewestWithout_58 : decode cX3_fewestWithout 58 = .ok (.getfield 26, 3) := by decide +kernel
theorem dX3_fewestWithout_61 : decode cX3_fewestWithout 61 = .ok (.iload_n 1, 1) := by decide +kernel
theorem dX3_fewestWithout_62 : decode cX3_fewestWithout 62 = .ok (.iconst 1, 1) := by decide +kernel
theorem dX3_fewestWithout_63 : decode cX3_fewestWithout 63 = .ok (.iload_n 2, 1) := by decide +kernel
theorem dX3_fewestWithout_64 : decode cX3_fewestWithout 64 = .ok (.ishl, 1) := by decide +kernel
theorem dX3_fewestWithout_65 : decode cX3_fewestWithout 65 = .ok (.invokevirtual 48, 3) := by decide +kernel
theorem dX3_fewestWithout_68 : decode cX3_fewestWithout 68 = .ok (.aload_n 0, 1) := by decide +kernel
theorem dX3_fewestWithout_69 : decode cX3_fewestWithout 69 = .ok (.getfield 26, 3) := by decide +kernel
theorem dX3_fewestWithout_72 : decode cX3_fewestWithout 72 = .ok (.getfield 63, 3) := by decide +kernel
theorem dX3_fewestWithout_75 : decode cX3_fewestWithout 75 = .ok (.iload_n 3, 1) := by decide +kernel
theorem dX3_fewestWithout_76 : decode cX3_fewestWithout 76 = .ok (.ishr, 1) := by decide +kernel
theorem dX3_fewestWithout_77 : decode cX3_fewestWithout 77 = .ok (.iconst 1, 1) := by decide +kernel
theorem dX3_fewestWithout_78 : decode cX3_fewestWithout 78 = .ok (.iand, 1) := by decide +kernel
theorem dX3_fewestWithout_79 : decode cX3_fewestWithout 79 = .ok (.ifCond .ne 7, 3) := by decide +kernel
theorem dX3_fewestWithout_82 : decode cX3_fewestWithout 82 = .ok (.iload 5, 2) := by decide +kernel
theorem dX3_fewestWithout_84 : decode cX3_fewestWithout 84 = .ok (.istore 4, 2) := by decide +kernel
theorem dX3_fewestWithout_86 : decode cX3_fewestWithout 86 = .ok (.iinc 5 1, 3) := by decide +kernel
theorem dX3_fewestWithout_89 : decode cX3_fewestWithout 89 = .ok (.goto (-75), 3) := by decide +kernel
theorem dX3_fewestWithout_92 : decode cX3_fewestWithout 92 = .ok (.iload 4, 2) := by decide +kernel
theorem dX3_fewestWithout_94 : decode cX3_fewestWithout 94 = .ok (.ireturn, 1) := by decide +kernel
theorem dX3_fittingMalts_0 : decode cX3_fittingMalts 0 = .ok (.iconst 0, 1) := by decide +kernel
theorem dX3_fittingMalts_1 : decode cX3_fittingMalts 1 = .ok (.istore 5, 2) := by decide +kernel
theorem dX3_fittingMalts_3 : decode cX3_fittingMalts 3 = .ok (.aload_n 0, 1) := by decide +kernel
theorem dX3_fittingMalts_4 : decode cX3_fittingMalts 4 = .ok (.getfield 26, 3) := by decide +kernel
theorem dX3_fittingMalts_7 : decode cX3_fittingMalts 7 = .ok (.invokevirtual 31, 3) := by decide +kernel
theorem dX3_fittingMalts_10 : decode cX3_fittingMalts 10 = .ok (.iconst 0, 1) := by decide +kernel
theorem dX3_fittingMalts_11 : decode cX3_fittingMalts 11 = .ok (.istore 6, 2) := by decide +kernel
theorem dX3_fittingMalts_13 : decode cX3_fittingMalts 13 = .ok (.iload 6, 2) := by decide +kernel
theorem dX3_fittingMalts_15 : decode cX3_fittingMalts 15 = .ok (.bipush 20, 2) := by decide +kernel
theorem dX3_fittingMalts_17 : decode cX3_fittingMalts 17 = .ok (.if_icmp .gt 32, 3) := by decide +kernel
theorem dX3_fittingMalts_20 : decode cX3_fittingMalts 20 = .ok (.aload_n 0, 1) := by decide +kernel
theorem dX3_fittingMalts_21 : decode cX3_fittingMalts 21 = .ok (.iload_n 1, 1) := by decide +kernel
theorem dX3_fittingMalts_22 : decode cX3_fittingMalts 22 = .ok (.iload 6, 2) := by decide +kernel
theorem dX3_fittingMalts_24 : decode cX3_fittingMalts 24 = .ok (.aload_n 2, 1) := by decide +kernel
theorem dX3_fittingMalts_25 : decode cX3_fittingMalts 25 = .ok (.iload_n 3, 1) := by decide +kernel
theorem dX3_fittingMalts_26 : decode cX3_fittingMalts 26 = .ok (.iload 4, 2) := by decide +kernel
theorem dX3_fittingMalts_28 : decode cX3_fittingMalts 28 = .ok (.invokevirtual 66, 3) := by decide +kernel
theorem dX3_fittingMalts_31 : decode cX3_fittingMalts 31 = .ok (.ifCond .eq 12, 3) := by decide +kernel
theorem dX3_fittingMalts_34 : decode cX3_fittingMalts 34 = .ok (.iload 5, 2) := by decide +kernel
theorem dX3_fittingMalts_36 : decode cX3_fittingMalts 36 = .ok (.iconst 1, 1) := by decide +kernel
theorem dX3_fittingMalts_37 : decode cX3_fittingMalts 37 = .ok (.iload 6, 2) := by decide +kernel
theorem dX3_fittingMalts_39 : decode cX3_fittingMalts 39 = .ok (.ishl, 1) := by decide +kernel
theorem dX3_fittingMalts_40 : decode cX3_fittingMalts 40 = .ok (.ior, 1) := by decide +kernel
theorem dX3_fittingMalts_41 : decode cX3_fittingMalts 41 = .ok (.istore 5, 2) := by decide +kernel
theorem dX3_fittingMalts_43 : decode cX3_fittingMalts 43 = .ok (.iinc 6 1, 3) := by decide +kernel
theorem dX3_fittingMalts_46 : decode cX3_fittingMalts 46 = .ok (.goto (-33), 3) := by decide +kernel
theorem dX3_fittingMalts_49 : decode cX3_fittingMalts 49 = .ok (.iload 5, 2) := by decide +kernel
theorem dX3_fittingMalts_51 : decode cX3_fittingMalts 51 = .ok (.ireturn, 1) := by decide +kernel
theorem dX3_fittingKinds_0 : decode cX3_fittingKinds 0 = .ok (.iconst 0, 1) := by decide +kernel
theorem dX3_fittingKinds_1 : decode cX3_fittingKinds 1 = .ok (.istore 6, 2) := by decide +kernel
theorem dX3_fittingKinds_3 : decode cX3_fittingKinds 3 = .ok (.aload_n 0, 1) := by decide +kernel
theorem dX3_fittingKinds_4 : decode cX3_fittingKinds 4 = .ok (.getfield 26, 3) := by decide +kernel
theorem dX3_fittingKinds_7 : decode cX3_fittingKinds 7 = .ok (.invokevirtual 31, 3) := by decide +kernel
theorem dX3_fittingKinds_10 : decode cX3_fittingKinds 10 = .ok (.iconst 1, 1) := by decide +kernel
theorem dX3_fittingKinds_11 : decode cX3_fittingKinds 11 = .ok (.istore 7, 2) := by decide +kernel
theorem dX3_fittingKinds_13 : decode cX3_fittingKinds 13 = .ok (.iload 7, 2) := by decide +kernel
theorem dX3_fittingKinds_15 : decode cX3_fittingKinds 15 = .ok (.iconst 5, 1) := by decide +kernel
theorem dX3_fittingKinds_16 : decode cX3_fittingKinds 16 = .ok (.if_icmp .gt 52, 3) := by decide +kernel
theorem dX3_fittingKinds_19 : decode cX3_fittingKinds 19 = .ok (.aload_n 0, 1) := by decide +kernel
theorem dX3_fittingKinds_20 : decode cX3_fittingKinds 20 = .ok (.getfield 26, 3) := by decide +kernel
theorem dX3_fittingKinds_23 : decode cX3_fittingKinds 23 = .ok (.iload_n 1, 1) := by decide +kernel
theorem dX3_fittingKinds_24 : decode cX3_fittingKinds 24 = .ok (.iload 7, 2) := by decide +kernel
theorem dX3_fittingKinds_26 : decode cX3_fittingKinds 26 = .ok (.invokevirtual 70, 3) := by decide +kernel
theorem dX3_fittingKinds_29 : decode cX3_fittingKinds 29 = .ok (.aload_n 0, 1) := by decide +kernel
theorem dX3_fittingKinds_30 : decode cX3_fittingKinds 30 = .ok (.iload_n 2, 1) := by decide +kernel
theorem dX3_fittingKinds_31 : decode cX3_fittingKinds 31 = .ok (.aload_n 0, 1) := by decide +kernel
theorem dX3_fittingKinds_32 : decode cX3_fittingKinds 32 = .ok (.getfield 22, 3) := by decide +kernel
theorem dX3_fittingKinds_35 : decode cX3_fittingKinds 35 = .ok (.getfield 73, 3) := by decide +kernel
theorem dX3_fittingKinds_38 : decode cX3_fittingKinds 38 = .ok (.iload_n 2, 1) := by decide +kernel
theorem dX3_fittingKinds_39 : decode cX3_fittingKinds 39 = .ok (.invokevirtual 76, 3) := by decide +kernel
theorem dX3_fittingKinds_42 : decode cX3_fittingKinds 42 = .ok (.aload_n 3, 1) := by decide +kernel
theorem dX3_fittingKinds_43 : decode cX3_fittingKinds 43 = .ok (.iload 4, 2) := by decide +kernel
theorem dX3_fittingKinds_45 : decode cX3_fittingKinds 45 = .ok (.iload 5, 2) := by decide +kernel
theorem dX3_fittingKinds_47 : decode cX3_fittingKinds 47 = .ok (.invokevirtual 66, 3) := by decide +kernel
theorem dX3_fittingKinds_50 : decode cX3_fittingKinds 50 = .ok (.ifCond .eq 12, 3) := by decide +kernel
theorem dX3_fittingKinds_53 : decode cX3_fittingKinds 53 = .ok (.iload 6, 2) := by decide +kernel
theorem dX3_fittingKinds_55 : decode cX3_fittingKinds 55 = .ok (.iconst 1, 1) := by decide +kernel
theorem dX3_fittingKinds_56 : decode cX3_fittingKinds 56 = .ok (.iload 7, 2) := by decide +kernel
theorem dX3_fittingKinds_58 : decode cX3_fittingKinds 58 = .ok (.ishl, 1) := by decide +kernel
theorem dX3_fittingKinds_59 : decode cX3_fittingKinds 59 = .ok (.ior, 1) := by decide +kernel
theorem dX3_fittingKinds_60 : decode cX3_fittingKinds 60 = .ok (.istore 6, 2) := by decide +kernel
theorem dX3_fittingKinds_62 : decode cX3_fittingKinds 62 = .ok (.iinc 7 1, 3) := by decide +kernel
theorem dX3_fittingKinds_65 : decode cX3_fittingKinds 65 = .ok (.goto (-52), 3) := by decide +kernel
theorem dX3_fittingKinds_68 : decode cX3_fittingKinds 68 = .ok (.iload 6, 2) := by decide +kernel
theorem dX3_fittingKinds_70 : decode cX3_fittingKinds 70 = .ok (.ireturn, 1) := by decide +kernel
theorem dX3_fits_0 : decode cX3_fits 0 = .ok (.aload_n 0, 1) := by decide +kernel
theorem dX3_fits_1 : decode cX3_fits 1 = .ok (.getfield 22, 3) := by decide +kernel
theorem dX3_fits_4 : decode cX3_fits 4 = .ok (.getfield 73, 3) := by decide +kernel
theorem dX3_fits_7 : decode cX3_fits 7 = .ok (.iload_n 1, 1) := by decide +kernel
theorem dX3_fits_8 : decode cX3_fits 8 = .ok (.invokevirtual 79, 3) := by decide +kernel
theorem dX3_fits_11 : decode cX3_fits 11 = .ok (.istore 6, 2) := by decide +kernel
theorem dX3_fits_13 : decode cX3_fits 13 = .ok (.aload_n 0, 1) := by decide +kernel
theorem dX3_fits_14 : decode cX3_fits 14 = .ok (.getfield 22, 3) := by decide +kernel
theorem dX3_fits_17 : decode cX3_fits 17 = .ok (.iload_n 2, 1) := by decide +kernel
theorem dX3_fits_18 : decode cX3_fits 18 = .ok (.aload_n 0, 1) := by decide +kernel
theorem dX3_fits_19 : decode cX3_fits 19 = .ok (.getfield 22, 3) := by decide +kernel
theorem dX3_fits_22 : decode cX3_fits 22 = .ok (.getfield 73, 3) := by decide +kernel
theorem dX3_fits_25 : decode cX3_fits 25 = .ok (.iload_n 1, 1) := by decide +kernel
theorem dX3_fits_26 : decode cX3_fits 26 = .ok (.invokevirtual 82, 3) := by decide +kernel
theorem dX3_fits_29 : decode cX3_fits 29 = .ok (.invokevirtual 85, 3) := by decide +kernel
theorem dX3_fits_32 : decode cX3_fits 32 = .ok (.istore 7, 2) := by decide +kernel
theorem dX3_fits_34 : decode cX3_fits 34 = .ok (.iconst 0, 1) := by decide +kernel
theorem dX3_fits_35 : decode cX3_fits 35 = .ok (.istore 8, 2) := by decide +kernel
theorem dX3_fits_37 : decode cX3_fits 37 = .ok (.iload 8, 2) := by decide +kernel
theorem dX3_fits_39 : decode cX3_fits 39 = .ok (.iload 5, 2) := by decide +kernel
theorem dX3_fits_41 : decode cX3_fits 41 = .ok (.if_icmp .ge 54, 3) := by decide +kernel
theorem dX3_fits_44 : decode cX3_fits 44 = .ok (.aload_n 0, 1) := by decide +kernel
theorem dX3_fits_45 : decode cX3_fits 45 = .ok (.getfield 26, 3) := by decide +kernel
theorem dX3_fits_48 : decode cX3_fits 48 = .ok (.iload 6, 2) := by decide +kernel
theorem dX3_fits_50 : decode cX3_fits 50 = .ok (.iload 7, 2) := by decide +kernel
theorem dX3_fits_52 : decode cX3_fits 52 = .ok (.iconst 1, 1) := by decide +kernel
theorem dX3_fits_53 : decode cX3_fits 53 = .ok (.aload_n 3, 1) := by decide +kernel
theorem dX3_fits_54 : decode cX3_fits 54 = .ok (.iload 4, 2) := by decide +kernel
theorem dX3_fits_56 : decode cX3_fits 56 = .ok (.iconst 2, 1) := by decide +kernel
theorem dX3_fits_57 : decode cX3_fits 57 = .ok (.iload 8, 2) := by decide +kernel
theorem dX3_fits_59 : decode cX3_fits 59 = .ok (.imul, 1) := by decide +kernel
theorem dX3_fits_60 : decode cX3_fits 60 = .ok (.iadd, 1) := by decide +kernel
theorem dX3_fits_61 : decode cX3_fits 61 = .ok (.iaload, 1) := by decide +kernel
theorem dX3_fits_62 : decode cX3_fits 62 = .ok (.ishl, 1) := by decide +kernel
theorem dX3_fits_63 : decode cX3_fits 63 = .ok (.invokevirtual 89, 3) := by decide +kernel
theorem dX3_fits_66 : decode cX3_fits 66 = .ok (.aload_n 0, 1) := by decide +kernel
theorem dX3_fits_67 : decode cX3_fits 67 = .ok (.getfield 26, 3) := by decide +kernel
theorem dX3_fits_70 : decode cX3_fits 70 = .ok (.getfield 52, 3) := by decide +kernel
theorem dX3_fits_73 : decode cX3_fits 73 = .ok (.aload_n 3, 1) := by decide +kernel
theorem dX3_fits_74 : decode cX3_fits 74 = .ok (.iload 4, 2) := by decide +kernel
theorem dX3_fits_76 : decode cX3_fits 76 = .ok (.iconst 2, 1) := by decide +kernel
theorem dX3_fits_77 : decode cX3_fits 77 = .ok (.iload 8, 2) := by decide +kernel
theorem dX3_fits_79 : decode cX3_fits 79 = .ok (.imul, 1) := by decide +kernel
theorem dX3_fits_80 : decode cX3_fits 80 = .ok (.iadd, 1) := by decide +kernel
theorem dX3_fits_81 : decode cX3_fits 81 = .ok (.iconst 1, 1) := by decide +kernel
theorem dX3_fits_82 : decode cX3_fits 82 = .ok (.iadd, 1) := by decide +kernel
theorem dX3_fits_83 : decode cX3_fits 83 = .ok (.iaload, 1) := by decide +kernel
theorem dX3_fits_84 : decode cX3_fits 84 = .ok (.if_icmp .eq 5, 3) := by decide +kernel
theorem dX3_fits_87 : decode cX3_fits 87 = .ok (.iconst 0, 1) := by decide +kernel
theorem dX3_fits_88 : decode cX3_fits 88 = .ok (.ireturn, 1) := by decide +kernel
