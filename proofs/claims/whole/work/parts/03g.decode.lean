theorem dX9_readsDrinker_27 : decode cX9_readsDrinker 27 = .ok (.iload_n 1, 1) := by decide +kernel
theorem dX9_readsDrinker_28 : decode cX9_readsDrinker 28 = .ok (.iastore, 1) := by decide +kernel
theorem dX9_readsDrinker_29 : decode cX9_readsDrinker 29 = .ok (.aload_n 0, 1) := by decide +kernel
theorem dX9_readsDrinker_30 : decode cX9_readsDrinker 30 = .ok (.getfield 38, 3) := by decide +kernel
theorem dX9_readsDrinker_33 : decode cX9_readsDrinker 33 = .ok (.iconst 3, 1) := by decide +kernel
theorem dX9_readsDrinker_34 : decode cX9_readsDrinker 34 = .ok (.dup2, 1) := by decide +kernel
theorem dX9_readsDrinker_35 : decode cX9_readsDrinker 35 = .ok (.iaload, 1) := by decide +kernel
theorem dX9_readsDrinker_36 : decode cX9_readsDrinker 36 = .ok (.iconst 1, 1) := by decide +kernel
theorem dX9_readsDrinker_37 : decode cX9_readsDrinker 37 = .ok (.iadd, 1) := by decide +kernel
theorem dX9_readsDrinker_38 : decode cX9_readsDrinker 38 = .ok (.iastore, 1) := by decide +kernel
theorem dX9_readsDrinker_39 : decode cX9_readsDrinker 39 = .ok (.aload_n 0, 1) := by decide +kernel
theorem dX9_readsDrinker_40 : decode cX9_readsDrinker 40 = .ok (.bipush 12, 2) := by decide +kernel
theorem dX9_readsDrinker_42 : decode cX9_readsDrinker 42 = .ok (.iload_n 2, 1) := by decide +kernel
theorem dX9_readsDrinker_43 : decode cX9_readsDrinker 43 = .ok (.iadd, 1) := by decide +kernel
theorem dX9_readsDrinker_44 : decode cX9_readsDrinker 44 = .ok (.iconst 0, 1) := by decide +kernel
theorem dX9_readsDrinker_45 : decode cX9_readsDrinker 45 = .ok (.bipush 12, 2) := by decide +kernel
theorem dX9_readsDrinker_47 : decode cX9_readsDrinker 47 = .ok (.invokevirtual 119, 3) := by decide +kernel
theorem dX9_readsDrinker_50 : decode cX9_readsDrinker 50 = .ok (.ifCond .eq 36, 3) := by decide +kernel
theorem dX9_readsDrinker_53 : decode cX9_readsDrinker 53 = .ok (.aload_n 0, 1) := by decide +kernel
theorem dX9_readsDrinker_54 : decode cX9_readsDrinker 54 = .ok (.iconst 3, 1) := by decide +kernel
theorem dX9_readsDrinker_55 : decode cX9_readsDrinker 55 = .ok (.invokevirtual 123, 3) := by decide +kernel
theorem dX9_readsDrinker_58 : decode cX9_readsDrinker 58 = .ok (.ifCond .eq 28, 3) := by decide +kernel
theorem dX9_readsDrinker_61 : decode cX9_readsDrinker 61 = .ok (.aload_n 0, 1) := by decide +kernel
theorem dX9_readsDrinker_62 : decode cX9_readsDrinker 62 = .ok (.bipush 18, 2) := by decide +kernel
theorem dX9_readsDrinker_64 : decode cX9_readsDrinker 64 = .ok (.iload_n 2, 1) := by decide +kernel
theorem dX9_readsDrinker_65 : decode cX9_readsDrinker 65 = .ok (.iadd, 1) := by decide +kernel
theorem dX9_readsDrinker_66 : decode cX9_readsDrinker 66 = .ok (.iconst 0, 1) := by decide +kernel
theorem dX9_readsDrinker_67 : decode cX9_readsDrinker 67 = .ok (.iconst 5, 1) := by decide +kernel
theorem dX9_readsDrinker_68 : decode cX9_readsDrinker 68 = .ok (.invokevirtual 119, 3) := by decide +kernel
theorem dX9_readsDrinker_71 : decode cX9_readsDrinker 71 = .ok (.ifCond .eq 15, 3) := by decide +kernel
theorem dX9_readsDrinker_74 : decode cX9_readsDrinker 74 = .ok (.aload_n 0, 1) := by decide +kernel
theorem dX9_readsDrinker_75 : decode cX9_readsDrinker 75 = .ok (.iconst 4, 1) := by decide +kernel
theorem dX9_readsDrinker_76 : decode cX9_readsDrinker 76 = .ok (.invokevirtual 123, 3) := by decide +kernel
theorem dX9_readsDrinker_79 : decode cX9_readsDrinker 79 = .ok (.ifCond .eq 7, 3) := by decide +kernel
theorem dX9_readsDrinker_82 : decode cX9_readsDrinker 82 = .ok (.iconst 1, 1) := by decide +kernel
theorem dX9_readsDrinker_83 : decode cX9_readsDrinker 83 = .ok (.goto 4, 3) := by decide +kernel
theorem dX9_readsDrinker_86 : decode cX9_readsDrinker 86 = .ok (.iconst 0, 1) := by decide +kernel
theorem dX9_readsDrinker_87 : decode cX9_readsDrinker 87 = .ok (.ireturn, 1) := by decide +kernel
theorem dX9_readsTie_0 : decode cX9_readsTie 0 = .ok (.aload_n 0, 1) := by decide +kernel
theorem dX9_readsTie_1 : decode cX9_readsTie 1 = .ok (.getfield 38, 3) := by decide +kernel
theorem dX9_readsTie_4 : decode cX9_readsTie 4 = .ok (.iconst 4, 1) := by decide +kernel
theorem dX9_readsTie_5 : decode cX9_readsTie 5 = .ok (.iaload, 1) := by decide +kernel
theorem dX9_readsTie_6 : decode cX9_readsTie 6 = .ok (.istore_n 1, 1) := by decide +kernel
theorem dX9_readsTie_7 : decode cX9_readsTie 7 = .ok (.iload_n 1, 1) := by decide +kernel
theorem dX9_readsTie_8 : decode cX9_readsTie 8 = .ok (.bipush 10, 2) := by decide +kernel
theorem dX9_readsTie_10 : decode cX9_readsTie 10 = .ok (.if_icmp .ne 9, 3) := by decide +kernel
theorem dX9_readsTie_13 : decode cX9_readsTie 13 = .ok (.aload_n 0, 1) := by decide +kernel
theorem dX9_readsTie_14 : decode cX9_readsTie 14 = .ok (.iconst 3, 1) := by decide +kernel
theorem dX9_readsTie_15 : decode cX9_readsTie 15 = .ok (.invokevirtual 116, 3) := by decide +kernel
theorem dX9_readsTie_18 : decode cX9_readsTie 18 = .ok (.ireturn, 1) := by decide +kernel
theorem dX9_readsTie_19 : decode cX9_readsTie 19 = .ok (.aload_n 0, 1) := by decide +kernel
theorem dX9_readsTie_20 : decode cX9_readsTie 20 = .ok (.bipush 24, 2) := by decide +kernel
theorem dX9_readsTie_22 : decode cX9_readsTie 22 = .ok (.iload_n 1, 1) := by decide +kernel
theorem dX9_readsTie_23 : decode cX9_readsTie 23 = .ok (.iadd, 1) := by decide +kernel
theorem dX9_readsTie_24 : decode cX9_readsTie 24 = .ok (.iconst 0, 1) := by decide +kernel
theorem dX9_readsTie_25 : decode cX9_readsTie 25 = .ok (.aload_n 0, 1) := by decide +kernel
theorem dX9_readsTie_26 : decode cX9_readsTie 26 = .ok (.getfield 38, 3) := by decide +kernel
theorem dX9_readsTie_29 : decode cX9_readsTie 29 = .ok (.iconst 3, 1) := by decide +kernel
theorem dX9_readsTie_30 : decode cX9_readsTie 30 = .ok (.iaload, 1) := by decide +kernel
theorem dX9_readsTie_31 : decode cX9_readsTie 31 = .ok (.iconst 1, 1) := by decide +kernel
theorem dX9_readsTie_32 : decode cX9_readsTie 32 = .ok (.isub, 1) := by decide +kernel
theorem dX9_readsTie_33 : decode cX9_readsTie 33 = .ok (.invokevirtual 119, 3) := by decide +kernel
theorem dX9_readsTie_36 : decode cX9_readsTie 36 = .ok (.ifCond .eq 31, 3) := by decide +kernel
theorem dX9_readsTie_39 : decode cX9_readsTie 39 = .ok (.aload_n 0, 1) := by decide +kernel
theorem dX9_readsTie_40 : decode cX9_readsTie 40 = .ok (.iconst 3, 1) := by decide +kernel
theorem dX9_readsTie_41 : decode cX9_readsTie 41 = .ok (.invokevirtual 123, 3) := by decide +kernel
theorem dX9_readsTie_44 : decode cX9_readsTie 44 = .ok (.ifCond .eq 23, 3) := by decide +kernel
theorem dX9_readsTie_47 : decode cX9_readsTie 47 = .ok (.aload_n 0, 1) := by decide +kernel
theorem dX9_readsTie_48 : decode cX9_readsTie 48 = .ok (.bipush 34, 2) := by decide +kernel
theorem dX9_readsTie_50 : decode cX9_readsTie 50 = .ok (.iload_n 1, 1) := by decide +kernel
theorem dX9_readsTie_51 : decode cX9_readsTie 51 = .ok (.iadd, 1) := by decide +kernel
theorem dX9_readsTie_52 : decode cX9_readsTie 52 = .ok (.iconst 0, 1) := by decide +kernel
theorem dX9_readsTie_53 : decode cX9_readsTie 53 = .ok (.aload_n 0, 1) := by decide +kernel
theorem dX9_readsTie_54 : decode cX9_readsTie 54 = .ok (.getfield 38, 3) := by decide +kernel
theorem dX9_readsTie_57 : decode cX9_readsTie 57 = .ok (.iconst 3, 1) := by decide +kernel
theorem dX9_readsTie_58 : decode cX9_readsTie 58 = .ok (.iaload, 1) := by decide +kernel
theorem dX9_readsTie_59 : decode cX9_readsTie 59 = .ok (.iconst 1, 1) := by decide +kernel
theorem dX9_readsTie_60 : decode cX9_readsTie 60 = .ok (.isub, 1) := by decide +kernel
theorem dX9_readsTie_61 : decode cX9_readsTie 61 = .ok (.invokevirtual 119, 3) := by decide +kernel
theorem dX9_readsTie_64 : decode cX9_readsTie 64 = .ok (.ifCond .ne 5, 3) := by decide +kernel
theorem dX9_readsTie_67 : decode cX9_readsTie 67 = .ok (.iconst 0, 1) := by decide +kernel
theorem dX9_readsTie_68 : decode cX9_readsTie 68 = .ok (.ireturn, 1) := by decide +kernel
theorem dX9_readsTie_69 : decode cX9_readsTie 69 = .ok (.aload_n 0, 1) := by decide +kernel
theorem dX9_readsTie_70 : decode cX9_readsTie 70 = .ok (.getfield 38, 3) := by decide +kernel
theorem dX9_readsTie_73 : decode cX9_readsTie 73 = .ok (.bipush 34, 2) := by decide +kernel
theorem dX9_readsTie_75 : decode cX9_readsTie 75 = .ok (.iload_n 1, 1) := by decide +kernel
theorem dX9_readsTie_76 : decode cX9_readsTie 76 = .ok (.iadd, 1) := by decide +kernel
theorem dX9_readsTie_77 : decode cX9_readsTie 77 = .ok (.iaload, 1) := by decide +kernel
theorem dX9_readsTie_78 : decode cX9_readsTie 78 = .ok (.aload_n 0, 1) := by decide +kernel
theorem dX9_readsTie_79 : decode cX9_readsTie 79 = .ok (.getfield 38, 3) := by decide +kernel
theorem dX9_readsTie_82 : decode cX9_readsTie 82 = .ok (.bipush 24, 2) := by decide +kernel
theorem dX9_readsTie_84 : decode cX9_readsTie 84 = .ok (.iload_n 1, 1) := by decide +kernel
theorem dX9_readsTie_85 : decode cX9_readsTie 85 = .ok (.iadd, 1) := by decide +kernel
theorem dX9_readsTie_86 : decode cX9_readsTie 86 = .ok (.iaload, 1) := by decide +kernel
theorem dX9_readsTie_87 : decode cX9_readsTie 87 = .ok (.if_icmp .eq 7, 3) := by decide +kernel
theorem dX9_readsTie_90 : decode cX9_readsTie 90 = .ok (.iconst 1, 1) := by decide +kernel
theorem dX9_readsTie_91 : decode cX9_readsTie 91 = .ok (.goto 4, 3) := by decide +kernel
theorem dX9_readsTie_94 : decode cX9_readsTie 94 = .ok (.iconst 0, 1) := by decide +kernel
theorem dX9_readsTie_95 : decode cX9_readsTie 95 = .ok (.istore_n 2, 1) := by decide +kernel
theorem dX9_readsTie_96 : decode cX9_readsTie 96 = .ok (.iconst 0, 1) := by decide +kernel
theorem dX9_readsTie_97 : decode cX9_readsTie 97 = .ok (.istore_n 3, 1) := by decide +kernel
theorem dX9_readsTie_98 : decode cX9_readsTie 98 = .ok (.iload_n 3, 1) := by decide +kernel
theorem dX9_readsTie_99 : decode cX9_readsTie 99 = .ok (.iload_n 1, 1) := by decide +kernel
theorem dX9_readsTie_100 : decode cX9_readsTie 100 = .ok (.if_icmp .ge 61, 3) := by decide +kernel
theorem dX9_readsTie_103 : decode cX9_readsTie 103 = .ok (.iload_n 2, 1) := by decide +kernel
theorem dX9_readsTie_104 : decode cX9_readsTie 104 = .ok (.ifCond .eq 49, 3) := by decide +kernel
theorem dX9_readsTie_107 : decode cX9_readsTie 107 = .ok (.aload_n 0, 1) := by decide +kernel
theorem dX9_readsTie_108 : decode cX9_readsTie 108 = .ok (.getfield 38, 3) := by decide +kernel
theorem dX9_readsTie_111 : decode cX9_readsTie 111 = .ok (.bipush 24, 2) := by decide +kernel
theorem dX9_readsTie_113 : decode cX9_readsTie 113 = .ok (.iload_n 3, 1) := by decide +kernel
theorem dX9_readsTie_114 : decode cX9_readsTie 114 = .ok (.iadd, 1) := by decide +kernel
theorem dX9_readsTie_115 : decode cX9_readsTie 115 = .ok (.iaload, 1) := by decide +kernel
theorem dX9_readsTie_116 : decode cX9_readsTie 116 = .ok (.aload_n 0, 1) := by decide +kernel
theorem dX9_readsTie_117 : decode cX9_readsTie 117 = .ok (.getfield 38, 3) := by decide +kernel
theorem dX9_readsTie_120 : decode cX9_readsTie 120 = .ok (.bipush 24, 2) := by decide +kernel
theorem dX9_readsTie_122 : decode cX9_readsTie 122 = .ok (.iload_n 1, 1) := by decide +kernel
theorem dX9_readsTie_123 : decode cX9_readsTie 123 = .ok (.iadd, 1) := by decide +kernel
theorem dX9_readsTie_124 : decode cX9_readsTie 124 = .ok (.iaload, 1) := by decide +kernel
theorem dX9_readsTie_125 : decode cX9_readsTie 125 = .ok (.if_icmp .ne 24, 3) := by decide +kernel
theorem dX9_readsTie_128 : decode cX9_readsTie 128 = .ok (.aload_n 0, 1) := by decide +kernel
theorem dX9_readsTie_129 : decode cX9_readsTie 129 = .ok (.getfield 38, 3) := by decide +kernel
theorem dX9_readsTie_132 : decode cX9_readsTie 132 = .ok (.bipush 34, 2) := by decide +kernel
theorem dX9_readsTie_134 : decode cX9_readsTie 134 = .ok (.iload_n 3, 1) := by decide +kernel
theorem dX9_readsTie_135 : decode cX9_readsTie 135 = .ok (.iadd, 1) := by decide +kernel
theorem dX9_readsTie_136 : decode cX9_readsTie 136 = .ok (.iaload, 1) := by decide +kernel
theorem dX9_readsTie_137 : decode cX9_readsTie 137 = .ok (.aload_n 0, 1) := by decide +kernel
theorem dX9_readsTie_138 : decode cX9_readsTie 138 = .ok (.getfield 38, 3) := by decide +kernel
theorem dX9_readsTie_141 : decode cX9_readsTie 141 = .ok (.bipush 34, 2) := by decide +kernel
theorem dX9_readsTie_143 : decode cX9_readsTie 143 = .ok (.iload_n 1, 1) := by decide +kernel
theorem dX9_readsTie_144 : decode cX9_readsTie 144 = .ok (.iadd, 1) := by decide +kernel
theorem dX9_readsTie_145 : decode cX9_readsTie 145 = .ok (.iaload, 1) := by decide +kernel
theorem dX9_readsTie_146 : decode cX9_readsTie 146 = .ok (.if_icmp .eq 7, 3) := by decide +kernel
theorem dX9_readsTie_149 : decode cX9_readsTie 149 = .ok (.iconst 1, 1) := by decide +kernel
theorem dX9_readsTie_150 : decode cX9_readsTie 150 = .ok (.goto 4, 3) := by decide +kernel
theorem dX9_readsTie_153 : decode cX9_readsTie 153 = .ok (.iconst 0, 1) := by decide +kernel
theorem dX9_readsTie_154 : decode cX9_readsTie 154 = .ok (.istore_n 2, 1) := by decide +kernel
theorem dX9_readsTie_155 : decode cX9_readsTie 155 = .ok (.iinc 3 1, 3) := by decide +kernel
theorem dX9_readsTie_158 : decode cX9_readsTie 158 = .ok (.goto (-60), 3) := by decide +kernel
theorem dX9_readsTie_161 : decode cX9_readsTie 161 = .ok (.iload_n 2, 1) := by decide +kernel
theorem dX9_readsTie_162 : decode cX9_readsTie 162 = .ok (.ifCond .ne 9, 3) := by decide +kernel
theorem dX9_readsTie_165 : decode cX9_readsTie 165 = .ok (.aload_n 0, 1) := by decide +kernel
theorem dX9_readsTie_166 : decode cX9_readsTie 166 = .ok (.iconst 2, 1) := by decide +kernel
theorem dX9_readsTie_167 : decode cX9_readsTie 167 = .ok (.invokevirtual 116, 3) := by decide +kernel
theorem dX9_readsTie_170 : decode cX9_readsTie 170 = .ok (.ireturn, 1) := by decide +kernel
theorem dX9_readsTie_171 : decode cX9_readsTie 171 = .ok (.aload_n 0, 1) := by decide +kernel
theorem dX9_readsTie_172 : decode cX9_readsTie 172 = .ok (.getfield 38, 3) := by decide +kernel
theorem dX9_readsTie_175 : decode cX9_readsTie 175 = .ok (.iconst 4, 1) := by decide +kernel
theorem dX9_readsTie_176 : decode cX9_readsTie 176 = .ok (.dup2, 1) := by decide +kernel
theorem dX9_readsTie_177 : decode cX9_readsTie 177 = .ok (.iaload, 1) := by decide +kernel
theorem dX9_readsTie_178 : decode cX9_readsTie 178 = .ok (.iconst 1, 1) := by decide +kernel
theorem dX9_readsTie_179 : decode cX9_readsTie 179 = .ok (.iadd, 1) := by decide +kernel
theorem dX9_readsTie_180 : decode cX9_readsTie 180 = .ok (.iastore, 1) := by decide +kernel
theorem dX9_readsTie_181 : decode cX9_readsTie 181 = .ok (.aload_n 0, 1) := by decide +kernel
theorem dX9_readsTie_182 : decode cX9_readsTie 182 = .ok (.iconst 4, 1) := by decide +kernel
theorem dX9_readsTie_183 : decode cX9_readsTie 183 = .ok (.invokevirtual 123, 3) := by decide +kernel
theorem dX9_readsTie_186 : decode cX9_readsTie 186 = .ok (.ireturn, 1) := by decide +kernel
theorem dX9_reads_0 : decode cX9_reads 0 = .ok (.iconst 0, 1) := by decide +kernel
theorem dX9_reads_1 : decode cX9_reads 1 = .ok (.istore_n 1, 1) := by decide +kernel
theorem dX9_reads_2 : decode cX9_reads 2 = .ok (.iload_n 1, 1) := by decide +kernel
theorem dX9_reads_3 : decode cX9_reads 3 = .ok (.bipush 66, 2) := by decide +kernel
theorem dX9_reads_5 : decode cX9_reads 5 = .ok (.if_icmp .ge 16, 3) := by decide +kernel
theorem dX9_reads_8 : decode cX9_reads 8 = .ok (.aload_n 0, 1) := by decide +kernel
theorem dX9_reads_9 : decode cX9_reads 9 = .ok (.getfield 38, 3) := by decide +kernel
theorem dX9_reads_12 : decode cX9_reads 12 = .ok (.iload_n 1, 1) := by decide +kernel
theorem dX9_reads_13 : decode cX9_reads 13 = .ok (.iconst 0, 1) := by decide +kernel
theorem dX9_reads_14 : decode cX9_reads 14 = .ok (.iastore, 1) := by decide +kernel
theorem dX9_reads_15 : decode cX9_reads 15 = .ok (.iinc 1 1, 3) := by decide +kernel
theorem dX9_reads_18 : decode cX9_reads 18 = .ok (.goto (-16), 3) := by decide +kernel
theorem dX9_reads_21 : decode cX9_reads 21 = .ok (.aload_n 0, 1) := by decide +kernel
theorem dX9_reads_22 : decode cX9_reads 22 = .ok (.iconst 0, 1) := by decide +kernel
theorem dX9_reads_23 : decode cX9_reads 23 = .ok (.putfield 88, 3) := by decide +kernel
theorem dX9_reads_26 : decode cX9_reads 26 = .ok (.aload_n 0, 1) := by decide +kernel
theorem dX9_reads_27 : decode cX9_reads 27 = .ok (.invokevirtual 126, 3) := by decide +kernel
theorem dX9_reads_30 : decode cX9_reads 30 = .ok (.ifCond .ne 5, 3) := by decide +kernel
theorem dX9_reads_33 : decode cX9_reads 33 = .ok (.iconst 0, 1) := by decide +kernel
theorem dX9_reads_34 : decode cX9_reads 34 = .ok (.ireturn, 1) := by decide +kernel
theorem dX9_reads_35 : decode cX9_reads 35 = .ok (.aload_n 0, 1) := by decide +kernel
theorem dX9_reads_36 : decode cX9_reads 36 = .ok (.invokevirtual 113, 3) := by decide +kernel
theorem dX9_reads_39 : decode cX9_reads 39 = .ok (.aload_n 0, 1) := by decide +kernel
theorem dX9_reads_40 : decode cX9_reads 40 = .ok (.getfield 104, 3) := by decide +kernel
theorem dX9_reads_43 : decode cX9_reads 43 = .ok (.ifCond .eq 109, 3) := by decide +kernel
theorem dX9_reads_46 : decode cX9_reads 46 = .ok (.aload_n 0, 1) := by decide +kernel
theorem dX9_reads_47 : decode cX9_reads 47 = .ok (.getfield 104, 3) := by decide +kernel
theorem dX9_reads_50 : decode cX9_reads 50 = .ok (.iconst 1, 1) := by decide +kernel
theorem dX9_reads_51 : decode cX9_reads 51 = .ok (.if_icmp .ne 22, 3) := by decide +kernel
theorem dX9_reads_54 : decode cX9_reads 54 = .ok (.aload_n 0, 1) := by decide +kernel
theorem dX9_reads_55 : decode cX9_reads 55 = .ok (.getfield 38, 3) := by decide +kernel
theorem dX9_reads_58 : decode cX9_reads 58 = .ok (.iconst 4, 1) := by decide +kernel
theorem dX9_reads_59 : decode cX9_reads 59 = .ok (.iaload, 1) := by decide +kernel
theorem dX9_reads_60 : decode cX9_reads 60 = .ok (.ifCond .ne 13, 3) := by decide +kernel
theorem dX9_reads_63 : decode cX9_reads 63 = .ok (.aload_n 0, 1) := by decide +kernel
theorem dX9_reads_64 : decode cX9_reads 64 = .ok (.getfield 107, 3) := by decide +kernel
theorem dX9_reads_67 : decode cX9_reads 67 = .ok (.invokestatic 130, 3) := by decide +kernel
theorem dX9_reads_70 : decode cX9_reads 70 = .ok (.goto 4, 3) := by decide +kernel
theorem dX9_reads_73 : decode cX9_reads 73 = .ok (.iconst 0, 1) := by decide +kernel
theorem dX9_reads_74 : decode cX9_reads 74 = .ok (.istore_n 1, 1) := by decide +kernel
theorem dX9_reads_75 : decode cX9_reads 75 = .ok (.aload_n 0, 1) := by decide +kernel
theorem dX9_reads_76 : decode cX9_reads 76 = .ok (.getfield 104, 3) := by decide +kernel
theorem dX9_reads_79 : decode cX9_reads 79 = .ok (.iconst 1, 1) := by decide +kernel
theorem dX9_reads_80 : decode cX9_reads 80 = .ok (.if_icmp .ne 25, 3) := by decide +kernel
theorem dX9_reads_83 : decode cX9_reads 83 = .ok (.aload_n 0, 1) := by decide +kernel
theorem dX9_reads_84 : decode cX9_reads 84 = .ok (.getfield 107, 3) := by decide +kernel
theorem dX9_reads_87 : decode cX9_reads 87 = .ok (.bipush 116, 2) := by decide +kernel
theorem dX9_reads_89 : decode cX9_reads 89 = .ok (.if_icmp .ne 16, 3) := by decide +kernel
theorem dX9_reads_92 : decode cX9_reads 92 = .ok (.aload_n 0, 1) := by decide +kernel
theorem dX9_reads_93 : decode cX9_reads 93 = .ok (.getfield 38, 3) := by decide +kernel
theorem dX9_reads_96 : decode cX9_reads 96 = .ok (.iconst 3, 1) := by decide +kernel
theorem dX9_reads_97 : decode cX9_reads 97 = .ok (.iaload, 1) := by decide +kernel
theorem dX9_reads_98 : decode cX9_reads 98 = .ok (.ifCond .le 7, 3) := by decide +kernel
theorem dX9_reads_101 : decode cX9_reads 101 = .ok (.iconst 1, 1) := by decide +kernel
theorem dX9_reads_102 : decode cX9_reads 102 = .ok (.goto 4, 3) := by decide +kernel
theorem dX9_reads_105 : decode cX9_reads 105 = .ok (.iconst 0, 1) := by decide +kernel
theorem dX9_reads_106 : decode cX9_reads 106 = .ok (.istore_n 2, 1) := by decide +kernel
theorem dX9_reads_107 : decode cX9_reads 107 = .ok (.iload_n 1, 1) := by decide +kernel
theorem dX9_reads_108 : decode cX9_reads 108 = .ok (.ifCond .ne 13, 3) := by decide +kernel
theorem dX9_reads_111 : decode cX9_reads 111 = .ok (.iload_n 2, 1) := by decide +kernel
theorem dX9_reads_112 : decode cX9_reads 112 = .ok (.ifCond .ne 9, 3) := by decide +kernel
theorem dX9_reads_115 : decode cX9_reads 115 = .ok (.aload_n 0, 1) := by decide +kernel
theorem dX9_reads_116 : decode cX9_reads 116 = .ok (.iconst 1, 1) := by decide +kernel
theorem dX9_reads_117 : decode cX9_reads 117 = .ok (.invokevirtual 116, 3) := by decide +kernel
theorem dX9_reads_120 : decode cX9_reads 120 = .ok (.ireturn, 1) := by decide +kernel
theorem dX9_reads_121 : decode cX9_reads 121 = .ok (.iload_n 2, 1) := by decide +kernel
theorem dX9_reads_122 : decode cX9_reads 122 = .ok (.ifCond .eq 13, 3) := by decide +kernel
theorem dX9_reads_125 : decode cX9_reads 125 = .ok (.aload_n 0, 1) := by decide +kernel
theorem dX9_reads_126 : decode cX9_reads 126 = .ok (.invokevirtual 133, 3) := by decide +kernel
theorem dX9_reads_129 : decode cX9_reads 129 = .ok (.ifCond .eq 14, 3) := by decide +kernel
theorem dX9_reads_132 : decode cX9_reads 132 = .ok (.goto 13, 3) := by decide +kernel
theorem dX9_reads_135 : decode cX9_reads 135 = .ok (.aload_n 0, 1) := by decide +kernel
theorem dX9_reads_136 : decode cX9_reads 136 = .ok (.iload_n 1, 1) := by decide +kernel
theorem dX9_reads_137 : decode cX9_reads 137 = .ok (.invokevirtual 136, 3) := by decide +kernel
theorem dX9_reads_140 : decode cX9_reads 140 = .ok (.ifCond .ne 5, 3) := by decide +kernel
theorem dX9_reads_143 : decode cX9_reads 143 = .ok (.iconst 0, 1) := by decide +kernel
theorem dX9_reads_144 : decode cX9_reads 144 = .ok (.ireturn, 1) := by decide +kernel
theorem dX9_reads_145 : decode cX9_reads 145 = .ok (.aload_n 0, 1) := by decide +kernel
theorem dX9_reads_146 : decode cX9_reads 146 = .ok (.invokevirtual 113, 3) := by decide +kernel
theorem dX9_reads_149 : decode cX9_reads 149 = .ok (.goto (-110), 3) := by decide +kernel
theorem dX9_reads_152 : decode cX9_reads 152 = .ok (.aload_n 0, 1) := by decide +kernel
theorem dX9_reads_153 : decode cX9_reads 153 = .ok (.getfield 38, 3) := by decide +kernel
theorem dX9_reads_156 : decode cX9_reads 156 = .ok (.iconst 3, 1) := by decide +kernel
theorem dX9_reads_157 : decode cX9_reads 157 = .ok (.iaload, 1) := by decide +kernel
theorem dX9_reads_158 : decode cX9_reads 158 = .ok (.ifCond .gt 11, 3) := by decide +kernel
theorem dX9_reads_161 : decode cX9_reads 161 = .ok (.aload_n 0, 1) := by decide +kernel
theorem dX9_reads_162 : decode cX9_reads 162 = .ok (.iconst 1, 1) := by decide +kernel
theorem dX9_reads_163 : decode cX9_reads 163 = .ok (.invokevirtual 116, 3) := by decide +kernel
theorem dX9_reads_166 : decode cX9_reads 166 = .ok (.ifCond .eq 7, 3) := by decide +kernel
theorem dX9_reads_169 : decode cX9_reads 169 = .ok (.iconst 1, 1) := by decide +kernel
theorem dX9_reads_170 : decode cX9_reads 170 = .ok (.goto 4, 3) := by decide +kernel
theorem dX9_reads_173 : decode cX9_reads 173 = .ok (.iconst 0, 1) := by decide +kernel
theorem dX9_reads_174 : decode cX9_reads 174 = .ok (.ireturn, 1) := by decide +kernel
theorem dX9_town_0 : decode cX9_town 0 = .ok (.aload_n 0, 1) := by decide +kernel
theorem dX9_town_1 : decode cX9_town 1 = .ok (.aload_n 0, 1) := by decide +kernel
theorem dX9_town_2 : decode cX9_town 2 = .ok (.getfield 80, 3) := by decide +kernel
theorem dX9_town_5 : decode cX9_town 5 = .ok (.putfield 94, 3) := by decide +kernel
theorem dX9_town_8 : decode cX9_town 8 = .ok (.aload_n 0, 1) := by decide +kernel
theorem dX9_town_9 : decode cX9_town 9 = .ok (.iconst 0, 1) := by decide +kernel
theorem dX9_town_10 : decode cX9_town 10 = .ok (.putfield 80, 3) := by decide +kernel
theorem dX9_town_13 : decode cX9_town 13 = .ok (.aload_n 0, 1) := by decide +kernel
theorem dX9_town_14 : decode cX9_town 14 = .ok (.invokevirtual 139, 3) := by decide +kernel
theorem dX9_town_17 : decode cX9_town 17 = .ok (.ifCond .ne 11, 3) := by decide +kernel
theorem dX9_town_20 : decode cX9_town 20 = .ok (.ldc 142, 2) := by decide +kernel
theorem dX9_town_22 : decode cX9_town 22 = .ok (.aload_n 0, 1) := by decide +kernel
theorem dX9_town_23 : decode cX9_town 23 = .ok (.getfield 91, 3) := by decide +kernel
theorem dX9_town_26 : decode cX9_town 26 = .ok (.isub, 1) := by decide +kernel
theorem dX9_town_27 : decode cX9_town 27 = .ok (.ireturn, 1) := by decide +kernel
theorem dX9_town_28 : decode cX9_town 28 = .ok (.aload_n 0, 1) := by decide +kernel
theorem dX9_town_29 : decode cX9_town 29 = .ok (.iconst 1, 1) := by decide +kernel
theorem dX9_town_30 : decode cX9_town 30 = .ok (.putfield 143, 3) := by decide +kernel
theorem dX9_town_33 : decode cX9_town 33 = .ok (.aload_n 0, 1) := by decide +kernel
theorem dX9_town_34 : decode cX9_town 34 = .ok (.iconst 0, 1) := by decide +kernel
theorem dX9_town_35 : decode cX9_town 35 = .ok (.putfield 147, 3) := by decide +kernel
theorem dX9_town_38 : decode cX9_town 38 = .ok (.aload_n 0, 1) := by decide +kernel
theorem dX9_town_39 : decode cX9_town 39 = .ok (.getfield 38, 3) := by decide +kernel
theorem dX9_town_42 : decode cX9_town 42 = .ok (.iconst 0, 1) := by decide +kernel
theorem dX9_town_43 : decode cX9_town 43 = .ok (.aload_n 0, 1) := by decide +kernel
theorem dX9_town_44 : decode cX9_town 44 = .ok (.getfield 22, 3) := by decide +kernel
theorem dX9_town_47 : decode cX9_town 47 = .ok (.iconst 0, 1) := by decide +kernel
theorem dX9_town_48 : decode cX9_town 48 = .ok (.invokestatic 150, 3) := by decide +kernel
theorem dX9_town_51 : decode cX9_town 51 = .ok (.aload_n 0, 1) := by decide +kernel
theorem dX9_town_52 : decode cX9_town 52 = .ok (.getfield 22, 3) := by decide +kernel
theorem dX9_town_55 : decode cX9_town 55 = .ok (.iconst 3, 1) := by decide +kernel
theorem dX9_town_56 : decode cX9_town 56 = .ok (.iaload, 1) := by decide +kernel
theorem dX9_town_57 : decode cX9_town 57 = .ok (.ireturn, 1) := by decide +kernel
theorem dX9_fault_0 : decode cX9_fault 0 = .ok (.aload_n 0, 1) := by decide +kernel
theorem dX9_fault_1 : decode cX9_fault 1 = .ok (.getfield 110, 3) := by decide +kernel
theorem dX9_fault_4 : decode cX9_fault 4 = .ok (.ireturn, 1) := by decide +kernel
theorem dX9_copies_0 : decode cX9_copies 0 = .ok (.iconst 0, 1) := by decide +kernel
theorem dX9_copies_1 : decode cX9_copies 1 = .ok (.istore 4, 2) := by decide +kernel
theorem dX9_copies_3 : decode cX9_copies 3 = .ok (.iload 4, 2) := by decide +kernel
theorem dX9_copies_5 : decode cX9_copies 5 = .ok (.bipush 66, 2) := by decide +kernel
theorem dX9_copies_7 : decode cX9_copies 7 = .ok (.if_icmp .ge 21, 3) := by decide +kernel
theorem dX9_copies_10 : decode cX9_copies 10 = .ok (.aload_n 2, 1) := by decide +kernel
theorem dX9_copies_11 : decode cX9_copies 11 = .ok (.iload_n 3, 1) := by decide +kernel
theorem dX9_copies_12 : decode cX9_copies 12 = .ok (.iload 4, 2) := by decide +kernel
theorem dX9_copies_14 : decode cX9_copies 14 = .ok (.iadd, 1) := by decide +kernel
theorem dX9_copies_15 : decode cX9_copies 15 = .ok (.aload_n 0, 1) := by decide +kernel
theorem dX9_copies_16 : decode cX9_copies 16 = .ok (.iload_n 1, 1) := by decide +kernel
theorem dX9_copies_17 : decode cX9_copies 17 = .ok (.iload 4, 2) := by decide +kernel
theorem dX9_copies_19 : decode cX9_copies 19 = .ok (.iadd, 1) := by decide +kernel
theorem dX9_copies_20 : decode cX9_copies 20 = .ok (.iaload, 1) := by decide +kernel
theorem dX9_copies_21 : decode cX9_copies 21 = .ok (.iastore, 1) := by decide +kernel
theorem dX9_copies_22 : decode cX9_copies 22 = .ok (.iinc 4 1, 3) := by decide +kernel
theorem dX9_copies_25 : decode cX9_copies 25 = .ok (.goto (-22), 3) := by decide +kernel
theorem dX9_copies_28 : decode cX9_copies 28 = .ok (.return_, 1) := by decide +kernel
theorem dX9_isDrinker_0 : decode cX9_isDrinker 0 = .ok (.iload_n 1, 1) := by decide +kernel
theorem dX9_isDrinker_1 : decode cX9_isDrinker 1 = .ok (.i2l, 1) := by decide +kernel
theorem dX9_isDrinker_2 : decode cX9_isDrinker 2 = .ok (.lconst 0, 1) := by decide +kernel
theorem dX9_isDrinker_3 : decode cX9_isDrinker 3 = .ok (.aload_n 0, 1) := by decide +kernel
theorem dX9_isDrinker_4 : decode cX9_isDrinker 4 = .ok (.getfield 22, 3) := by decide +kernel
theorem dX9_isDrinker_7 : decode cX9_isDrinker 7 = .ok (.iconst 3, 1) := by decide +kernel
theorem dX9_isDrinker_8 : decode cX9_isDrinker 8 = .ok (.iaload, 1) := by decide +kernel
theorem dX9_isDrinker_9 : decode cX9_isDrinker 9 = .ok (.iconst 1, 1) := by decide +kernel
theorem dX9_isDrinker_10 : decode cX9_isDrinker 10 = .ok (.isub, 1) := by decide +kernel
theorem dX9_isDrinker_11 : decode cX9_isDrinker 11 = .ok (.i2l, 1) := by decide +kernel
theorem dX9_isDrinker_12 : decode cX9_isDrinker 12 = .ok (.invokestatic 60, 3) := by decide +kernel
theorem dX9_isDrinker_15 : decode cX9_isDrinker 15 = .ok (.ireturn, 1) := by decide +kernel
theorem dX9_areDrinkers_0 : decode cX9_areDrinkers 0 = .ok (.iload_n 1, 1) := by decide +kernel
theorem dX9_areDrinkers_1 : decode cX9_areDrinkers 1 = .ok (.i2l, 1) := by decide +kernel
theorem dX9_areDrinkers_2 : decode cX9_areDrinkers 2 = .ok (.lconst 0, 1) := by decide +kernel
theorem dX9_areDrinkers_3 : decode cX9_areDrinkers 3 = .ok (.iconst 1, 1) := by decide +kernel
theorem dX9_areDrinkers_4 : decode cX9_areDrinkers 4 = .ok (.aload_n 0, 1) := by decide +kernel
theorem dX9_areDrinkers_5 : decode cX9_areDrinkers 5 = .ok (.getfield 22, 3) := by decide +kernel
theorem dX9_areDrinkers_8 : decode cX9_areDrinkers 8 = .ok (.iconst 3, 1) := by decide +kernel
theorem dX9_areDrinkers_9 : decode cX9_areDrinkers 9 = .ok (.iaload, 1) := by decide +kernel
theorem dX9_areDrinkers_10 : decode cX9_areDrinkers 10 = .ok (.ishl, 1) := by decide +kernel
theorem dX9_areDrinkers_11 : decode cX9_areDrinkers 11 = .ok (.iconst 1, 1) := by decide +kernel
theorem dX9_areDrinkers_12 : decode cX9_areDrinkers 12 = .ok (.isub, 1) := by decide +kernel
theorem dX9_areDrinkers_13 : decode cX9_areDrinkers 13 = .ok (.i2l, 1) := by decide +kernel
theorem dX9_areDrinkers_14 : decode cX9_areDrinkers 14 = .ok (.invokestatic 60, 3) := by decide +kernel
theorem dX9_areDrinkers_17 : decode cX9_areDrinkers 17 = .ok (.ireturn, 1) := by decide +kernel
theorem dX9_isCask_0 : decode cX9_isCask 0 = .ok (.iload_n 0, 1) := by decide +kernel
theorem dX9_isCask_1 : decode cX9_isCask 1 = .ok (.i2l, 1) := by decide +kernel
theorem dX9_isCask_2 : decode cX9_isCask 2 = .ok (.lconst 0, 1) := by decide +kernel
theorem dX9_isCask_3 : decode cX9_isCask 3 = .ok (.ldc2_w 154, 3) := by decide +kernel
theorem dX9_isCask_6 : decode cX9_isCask 6 = .ok (.invokestatic 60, 3) := by decide +kernel
theorem dX9_isCask_9 : decode cX9_isCask 9 = .ok (.ireturn, 1) := by decide +kernel
theorem dX9_isTwo_0 : decode cX9_isTwo 0 = .ok (.iload_n 0, 1) := by decide +kernel
theorem dX9_isTwo_1 : decode cX9_isTwo 1 = .ok (.i2l, 1) := by decide +kernel
theorem dX9_isTwo_2 : decode cX9_isTwo 2 = .ok (.lconst 0, 1) := by decide +kernel
theorem dX9_isTwo_3 : decode cX9_isTwo 3 = .ok (.lconst 1, 1) := by decide +kernel
theorem dX9_isTwo_4 : decode cX9_isTwo 4 = .ok (.invokestatic 60, 3) := by decide +kernel
theorem dX9_isTwo_7 : decode cX9_isTwo 7 = .ok (.ireturn, 1) := by decide +kernel
theorem dX9_has_0 : decode cX9_has 0 = .ok (.iload_n 0, 1) := by decide +kernel
theorem dX9_has_1 : decode cX9_has 1 = .ok (.iload_n 1, 1) := by decide +kernel
theorem dX9_has_2 : decode cX9_has 2 = .ok (.ishr, 1) := by decide +kernel
theorem dX9_has_3 : decode cX9_has 3 = .ok (.iconst 1, 1) := by decide +kernel
theorem dX9_has_4 : decode cX9_has 4 = .ok (.iand, 1) := by decide +kernel
theorem dX9_has_5 : decode cX9_has 5 = .ok (.iconst 1, 1) := by decide +kernel
theorem dX9_has_6 : decode cX9_has 6 = .ok (.if_icmp .ne 7, 3) := by decide +kernel
theorem dX9_has_9 : decode cX9_has 9 = .ok (.iconst 1, 1) := by decide +kernel
theorem dX9_has_10 : decode cX9_has 10 = .ok (.goto 4, 3) := by decide +kernel
theorem dX9_has_13 : decode cX9_has 13 = .ok (.iconst 0, 1) := by decide +kernel
theorem dX9_has_14 : decode cX9_has 14 = .ok (.ireturn, 1) := by decide +kernel
theorem dX9_bits_0 : decode cX9_bits 0 = .ok (.iconst 0, 1) := by decide +kernel
theorem dX9_bits_1 : decode cX9_bits 1 = .ok (.istore_n 1, 1) := by decide +kernel
theorem dX9_bits_2 : decode cX9_bits 2 = .ok (.iload_n 0, 1) := by decide +kernel
theorem dX9_bits_3 : decode cX9_bits 3 = .ok (.istore_n 2, 1) := by decide +kernel
theorem dX9_bits_4 : decode cX9_bits 4 = .ok (.iload_n 2, 1) := by decide +kernel
theorem dX9_bits_5 : decode cX9_bits 5 = .ok (.ifCond .eq 15, 3) := by decide +kernel
theorem dX9_bits_8 : decode cX9_bits 8 = .ok (.iinc 1 1, 3) := by decide +kernel
theorem dX9_bits_11 : decode cX9_bits 11 = .ok (.iload_n 2, 1) := by decide +kernel
theorem dX9_bits_12 : decode cX9_bits 12 = .ok (.iload_n 2, 1) := by decide +kernel
theorem dX9_bits_13 : decode cX9_bits 13 = .ok (.iconst 1, 1) := by decide +kernel
theorem dX9_bits_14 : decode cX9_bits 14 = .ok (.isub, 1) := by decide +kernel
theorem dX9_bits_15 : decode cX9_bits 15 = .ok (.iand, 1) := by decide +kernel
theorem dX9_bits_16 : decode cX9_bits 16 = .ok (.istore_n 2, 1) := by decide +kernel
theorem dX9_bits_17 : decode cX9_bits 17 = .ok (.goto (-13), 3) := by decide +kernel
theorem dX9_bits_20 : decode cX9_bits 20 = .ok (.iload_n 1, 1) := by decide +kernel
theorem dX9_bits_21 : decode cX9_bits 21 = .ok (.ireturn, 1) := by decide +kernel
theorem dX9_strong_0 : decode cX9_strong 0 = .ok (.iload_n 2, 1) := by decide +kernel
theorem dX9_strong_1 : decode cX9_strong 1 = .ok (.aload_n 0, 1) := by decide +kernel
theorem dX9_strong_2 : decode cX9_strong 2 = .ok (.iconst 1, 1) := by decide +kernel
theorem dX9_strong_3 : decode cX9_strong 3 = .ok (.iaload, 1) := by decide +kernel
theorem dX9_strong_4 : decode cX9_strong 4 = .ok (.if_icmp .le 7, 3) := by decide +kernel
theorem dX9_strong_7 : decode cX9_strong 7 = .ok (.iconst 0, 1) := by decide +kernel
theorem dX9_strong_8 : decode cX9_strong 8 = .ok (.goto 19, 3) := by decide +kernel
theorem dX9_strong_11 : decode cX9_strong 11 = .ok (.iload_n 2, 1) := by decide +kernel
theorem dX9_strong_12 : decode cX9_strong 12 = .ok (.aload_n 0, 1) := by decide +kernel
theorem dX9_strong_13 : decode cX9_strong 13 = .ok (.iconst 0, 1) := by decide +kernel
theorem dX9_strong_14 : decode cX9_strong 14 = .ok (.iaload, 1) := by decide +kernel
theorem dX9_strong_15 : decode cX9_strong 15 = .ok (.if_icmp .ge 11, 3) := by decide +kernel
theorem dX9_strong_18 : decode cX9_strong 18 = .ok (.iload_n 1, 1) := by decide +kernel
theorem dX9_strong_19 : decode cX9_strong 19 = .ok (.iload_n 1, 1) := by decide +kernel
theorem dX9_strong_20 : decode cX9_strong 20 = .ok (.iconst 3, 1) := by decide +kernel
theorem dX9_strong_21 : decode cX9_strong 21 = .ok (.idiv, 1) := by decide +kernel
theorem dX9_strong_22 : decode cX9_strong 22 = .ok (.isub, 1) := by decide +kernel
theorem dX9_strong_23 : decode cX9_strong 23 = .ok (.goto 4, 3) := by decide +kernel
theorem dX9_strong_26 : decode cX9_strong 26 = .ok (.iload_n 1, 1) := by decide +kernel
theorem dX9_strong_27 : decode cX9_strong 27 = .ok (.ireturn, 1) := by decide +kernel
theorem dX9_strongOf_0 : decode cX9_strongOf 0 = .ok (.aload_n 0, 1) := by decide +kernel
theorem dX9_strongOf_1 : decode cX9_strongOf 1 = .ok (.aload_n 0, 1) := by decide +kernel
theorem dX9_strongOf_2 : decode cX9_strongOf 2 = .ok (.bipush 52, 2) := by decide +kernel
theorem dX9_strongOf_4 : decode cX9_strongOf 4 = .ok (.iload_n 1, 1) := by decide +kernel
theorem dX9_strongOf_5 : decode cX9_strongOf 5 = .ok (.iadd, 1) := by decide +kernel
theorem dX9_strongOf_6 : decode cX9_strongOf 6 = .ok (.iaload, 1) := by decide +kernel
theorem dX9_strongOf_7 : decode cX9_strongOf 7 = .ok (.aload_n 0, 1) := by decide +kernel
theorem dX9_strongOf_8 : decode cX9_strongOf 8 = .ok (.bipush 56, 2) := by decide +kernel
theorem dX9_strongOf_10 : decode cX9_strongOf 10 = .ok (.iload_n 1, 1) := by decide +kernel
theorem dX9_strongOf_11 : decode cX9_strongOf 11 = .ok (.iadd, 1) := by decide +kernel
theorem dX9_strongOf_12 : decode cX9_strongOf 12 = .ok (.iaload, 1) := by decide +kernel
theorem dX9_strongOf_13 : decode cX9_strongOf 13 = .ok (.invokestatic 156, 3) := by decide +kernel
theorem dX9_strongOf_16 : decode cX9_strongOf 16 = .ok (.ireturn, 1) := by decide +kernel
theorem dX9_believes_0 : decode cX9_believes 0 = .ok (.aload_n 0, 1) := by decide +kernel
theorem dX9_believes_1 : decode cX9_believes 1 = .ok (.bipush 6, 2) := by decide +kernel
theorem dX9_believes_3 : decode cX9_believes 3 = .ok (.iload_n 1, 1) := by decide +kernel
theorem dX9_believes_4 : decode cX9_believes 4 = .ok (.iadd, 1) := by decide +kernel
theorem dX9_believes_5 : decode cX9_believes 5 = .ok (.iaload, 1) := by decide +kernel
theorem dX9_believes_6 : decode cX9_believes 6 = .ok (.istore 4, 2) := by decide +kernel
theorem dX9_believes_8 : decode cX9_believes 8 = .ok (.iload 4, 2) := by decide +kernel
theorem dX9_believes_10 : decode cX9_believes 10 = .ok (.iconst 3, 1) := by decide +kernel
theorem dX9_believes_11 : decode cX9_believes 11 = .ok (.if_icmp .ne 9, 3) := by decide +kernel
theorem dX9_believes_14 : decode cX9_believes 14 = .ok (.iload_n 3, 1) := by decide +kernel
theorem dX9_believes_15 : decode cX9_believes 15 = .ok (.iconst 2, 1) := by decide +kernel
theorem dX9_believes_16 : decode cX9_believes 16 = .ok (.idiv, 1) := by decide +kernel
theorem dX9_believes_17 : decode cX9_believes 17 = .ok (.goto 4, 3) := by decide +kernel
theorem dX9_believes_20 : decode cX9_believes 20 = .ok (.iload_n 3, 1) := by decide +kernel
theorem dX9_believes_21 : decode cX9_believes 21 = .ok (.istore 5, 2) := by decide +kernel
theorem dX9_believes_23 : decode cX9_believes 23 = .ok (.iload 5, 2) := by decide +kernel
theorem dX9_believes_25 : decode cX9_believes 25 = .ok (.aload_n 0, 1) := by decide +kernel
theorem dX9_believes_26 : decode cX9_believes 26 = .ok (.bipush 18, 2) := by decide +kernel
theorem dX9_believes_28 : decode cX9_believes 28 = .ok (.iload_n 1, 1) := by decide +kernel
theorem dX9_believes_29 : decode cX9_believes 29 = .ok (.iadd, 1) := by decide +kernel
theorem dX9_believes_30 : decode cX9_believes 30 = .ok (.iaload, 1) := by decide +kernel
theorem dX9_believes_31 : decode cX9_believes 31 = .ok (.iload_n 2, 1) := by decide +kernel
theorem dX9_believes_32 : decode cX9_believes 32 = .ok (.if_icmp .ne 12, 3) := by decide +kernel
theorem dX9_believes_35 : decode cX9_believes 35 = .ok (.iload_n 1, 1) := by decide +kernel
theorem dX9_believes_36 : decode cX9_believes 36 = .ok (.iload_n 2, 1) := by decide +kernel
theorem dX9_believes_37 : decode cX9_believes 37 = .ok (.if_icmp .eq 7, 3) := by decide +kernel
theorem dX9_believes_40 : decode cX9_believes 40 = .ok (.iconst 3, 1) := by decide +kernel
theorem dX9_believes_41 : decode cX9_believes 41 = .ok (.goto 4, 3) := by decide +kernel
theorem dX9_believes_44 : decode cX9_believes 44 = .ok (.iconst 0, 1) := by decide +kernel
theorem dX9_believes_45 : decode cX9_believes 45 = .ok (.iadd, 1) := by decide +kernel
theorem dX9_believes_46 : decode cX9_believes 46 = .ok (.istore 5, 2) := by decide +kernel
theorem dX9_believes_48 : decode cX9_believes 48 = .ok (.iload 5, 2) := by decide +kernel
theorem dX9_believes_50 : decode cX9_believes 50 = .ok (.iload_n 1, 1) := by decide +kernel
theorem dX9_believes_51 : decode cX9_believes 51 = .ok (.iload_n 2, 1) := by decide +kernel
theorem dX9_believes_52 : decode cX9_believes 52 = .ok (.if_icmp .ne 7, 3) := by decide +kernel
theorem dX9_believes_55 : decode cX9_believes 55 = .ok (.iconst 5, 1) := by decide +kernel
theorem dX9_believes_56 : decode cX9_believes 56 = .ok (.goto 4, 3) := by decide +kernel
theorem dX9_believes_59 : decode cX9_believes 59 = .ok (.iconst 0, 1) := by decide +kernel
theorem dX9_believes_60 : decode cX9_believes 60 = .ok (.isub, 1) := by decide +kernel
theorem dX9_believes_61 : decode cX9_believes 61 = .ok (.istore 5, 2) := by decide +kernel
theorem dX9_believes_63 : decode cX9_believes 63 = .ok (.iload 4, 2) := by decide +kernel
theorem dX9_believes_65 : decode cX9_believes 65 = .ok (.iconst 4, 1) := by decide +kernel
theorem dX9_believes_66 : decode cX9_believes 66 = .ok (.if_icmp .ge 18, 3) := by decide +kernel
theorem dX9_believes_69 : decode cX9_believes 69 = .ok (.iload 5, 2) := by decide +kernel
theorem dX9_believes_71 : decode cX9_believes 71 = .ok (.aload_n 0, 1) := by decide +kernel
theorem dX9_believes_72 : decode cX9_believes 72 = .ok (.bipush 12, 2) := by decide +kernel
theorem dX9_believes_74 : decode cX9_believes 74 = .ok (.iload_n 1, 1) := by decide +kernel
theorem dX9_believes_75 : decode cX9_believes 75 = .ok (.iadd, 1) := by decide +kernel
theorem dX9_believes_76 : decode cX9_believes 76 = .ok (.iaload, 1) := by decide +kernel
theorem dX9_believes_77 : decode cX9_believes 77 = .ok (.if_icmp .lt 7, 3) := by decide +kernel
theorem dX9_believes_80 : decode cX9_believes 80 = .ok (.iconst 1, 1) := by decide +kernel
theorem dX9_believes_81 : decode cX9_believes 81 = .ok (.goto 4, 3) := by decide +kernel
theorem dX9_believes_84 : decode cX9_believes 84 = .ok (.iconst 0, 1) := by decide +kernel
theorem dX9_believes_85 : decode cX9_believes 85 = .ok (.ireturn, 1) := by decide +kernel
theorem dX9_passes_0 : decode cX9_passes 0 = .ok (.iload_n 0, 1) := by decide +kernel
theorem dX9_passes_1 : decode cX9_passes 1 = .ok (.tableswitch 51 2 5 #[31, 51, 43, 47], 31) := by decide +kernel
theorem dX9_passes_32 : decode cX9_passes 32 = .ok (.iload_n 1, 1) := by decide +kernel
theorem dX9_passes_33 : decode cX9_passes 33 = .ok (.ifCond .eq 9, 3) := by decide +kernel
theorem dX9_passes_36 : decode cX9_passes 36 = .ok (.iload_n 2, 1) := by decide +kernel
theorem dX9_passes_37 : decode cX9_passes 37 = .ok (.iconst 1, 1) := by decide +kernel
theorem dX9_passes_38 : decode cX9_passes 38 = .ok (.iadd, 1) := by decide +kernel
theorem dX9_passes_39 : decode cX9_passes 39 = .ok (.goto 4, 3) := by decide +kernel
theorem dX9_passes_42 : decode cX9_passes 42 = .ok (.iconst 0, 1) := by decide +kernel
theorem dX9_passes_43 : decode cX9_passes 43 = .ok (.ireturn, 1) := by decide +kernel
theorem dX9_passes_44 : decode cX9_passes 44 = .ok (.iload_n 2, 1) := by decide +kernel
theorem dX9_passes_45 : decode cX9_passes 45 = .ok (.iconst 2, 1) := by decide +kernel
theorem dX9_passes_46 : decode cX9_passes 46 = .ok (.isub, 1) := by decide +kernel
theorem dX9_passes_47 : decode cX9_passes 47 = .ok (.ireturn, 1) := by decide +kernel
theorem dX9_passes_48 : decode cX9_passes 48 = .ok (.iload_n 2, 1) := by decide +kernel
theorem dX9_passes_49 : decode cX9_passes 49 = .ok (.iconst 2, 1) := by decide +kernel
theorem dX9_passes_50 : decode cX9_passes 50 = .ok (.idiv, 1) := by decide +kernel
theorem dX9_passes_51 : decode cX9_passes 51 = .ok (.ireturn, 1) := by decide +kernel
theorem dX9_passes_52 : decode cX9_passes 52 = .ok (.iload_n 1, 1) := by decide +kernel
theorem dX9_passes_53 : decode cX9_passes 53 = .ok (.ifCond .eq 9, 3) := by decide +kernel
theorem dX9_passes_56 : decode cX9_passes 56 = .ok (.iload_n 2, 1) := by decide +kernel
theorem dX9_passes_57 : decode cX9_passes 57 = .ok (.iconst 1, 1) := by decide +kernel
theorem dX9_passes_58 : decode cX9_passes 58 = .ok (.isub, 1) := by decide +kernel
theorem dX9_passes_59 : decode cX9_passes 59 = .ok (.goto 4, 3) := by decide +kernel
theorem dX9_passes_62 : decode cX9_passes 62 = .ok (.iconst 0, 1) := by decide +kernel
theorem dX9_passes_63 : decode cX9_passes 63 = .ok (.ireturn, 1) := by decide +kernel
theorem dX9_brings_0 : decode cX9_brings 0 = .ok (.aload_n 0, 1) := by decide +kernel
theorem dX9_brings_1 : decode cX9_brings 1 = .ok (.getfield 44, 3) := by decide +kernel
theorem dX9_brings_4 : decode cX9_brings 4 = .ok (.iload_n 1, 1) := by decide +kernel
theorem dX9_brings_5 : decode cX9_brings 5 = .ok (.iload_n 2, 1) := by decide +kernel
theorem dX9_brings_6 : decode cX9_brings 6 = .ok (.aload_n 0, 1) := by decide +kernel
theorem dX9_brings_7 : decode cX9_brings 7 = .ok (.getfield 44, 3) := by decide +kernel
theorem dX9_brings_10 : decode cX9_brings 10 = .ok (.iload_n 1, 1) := by decide +kernel
theorem dX9_brings_11 : decode cX9_brings 11 = .ok (.iaload, 1) := by decide +kernel
theorem dX9_brings_12 : decode cX9_brings 12 = .ok (.if_icmp .le 7, 3) := by decide +kernel
theorem dX9_brings_15 : decode cX9_brings 15 = .ok (.iload_n 2, 1) := by decide +kernel
theorem dX9_brings_16 : decode cX9_brings 16 = .ok (.goto 9, 3) := by decide +kernel
theorem dX9_brings_19 : decode cX9_brings 19 = .ok (.aload_n 0, 1) := by decide +kernel
theorem dX9_brings_20 : decode cX9_brings 20 = .ok (.getfield 44, 3) := by decide +kernel
theorem dX9_brings_23 : decode cX9_brings 23 = .ok (.iload_n 1, 1) := by decide +kernel
theorem dX9_brings_24 : decode cX9_brings 24 = .ok (.iaload, 1) := by decide +kernel
theorem dX9_brings_25 : decode cX9_brings 25 = .ok (.iastore, 1) := by decide +kernel
theorem dX9_brings_26 : decode cX9_brings 26 = .ok (.return_, 1) := by decide +kernel
theorem dX9_passesOn_0 : decode cX9_passesOn 0 = .ok (.iconst 0, 1) := by decide +kernel
theorem dX9_passesOn_1 : decode cX9_passesOn 1 = .ok (.istore 5, 2) := by decide +kernel
theorem dX9_passesOn_3 : decode cX9_passesOn 3 = .ok (.iload 5, 2) := by decide +kernel
theorem dX9_passesOn_5 : decode cX9_passesOn 5 = .ok (.aload_n 1, 1) := by decide +kernel
theorem dX9_passesOn_6 : decode cX9_passesOn 6 = .ok (.iconst 3, 1) := by decide +kernel
theorem dX9_passesOn_7 : decode cX9_passesOn 7 = .ok (.iaload, 1) := by decide +kernel
theorem dX9_passesOn_8 : decode cX9_passesOn 8 = .ok (.if_icmp .ge 32, 3) := by decide +kernel
theorem dX9_passesOn_11 : decode cX9_passesOn 11 = .ok (.aload_n 1, 1) := by decide +kernel
theorem dX9_passesOn_12 : decode cX9_passesOn 12 = .ok (.bipush 6, 2) := by decide +kernel
theorem dX9_passesOn_14 : decode cX9_passesOn 14 = .ok (.iload_n 2, 1) := by decide +kernel
theorem dX9_passesOn_15 : decode cX9_passesOn 15 = .ok (.iadd, 1) := by decide +kernel
theorem dX9_passesOn_16 : decode cX9_passesOn 16 = .ok (.iaload, 1) := by decide +kernel
theorem dX9_passesOn_17 : decode cX9_passesOn 17 = .ok (.iconst 5, 1) := by decide +kernel
theorem dX9_passesOn_18 : decode cX9_passesOn 18 = .ok (.if_icmp .ne 22, 3) := by decide +kernel
theorem dX9_passesOn_21 : decode cX9_passesOn 21 = .ok (.iload 5, 2) := by decide +kernel
theorem dX9_passesOn_23 : decode cX9_passesOn 23 = .ok (.iload_n 2, 1) := by decide +kernel
theorem dX9_passesOn_24 : decode cX9_passesOn 24 = .ok (.if_icmp .eq 10, 3) := by decide +kernel
theorem dX9_passesOn_27 : decode cX9_passesOn 27 = .ok (.aload_n 0, 1) := by decide +kernel
theorem dX9_passesOn_28 : decode cX9_passesOn 28 = .ok (.iload 5, 2) := by decide +kernel
theorem dX9_passesOn_30 : decode cX9_passesOn 30 = .ok (.iload_n 3, 1) := by decide +kernel
theorem dX9_passesOn_31 : decode cX9_passesOn 31 = .ok (.invokevirtual 160, 3) := by decide +kernel
theorem dX9_passesOn_34 : decode cX9_passesOn 34 = .ok (.iinc 5 1, 3) := by decide +kernel
theorem dX9_passesOn_37 : decode cX9_passesOn 37 = .ok (.goto (-34), 3) := by decide +kernel
theorem dX9_passesOn_40 : decode cX9_passesOn 40 = .ok (.iconst 0, 1) := by decide +kernel
theorem dX9_passesOn_41 : decode cX9_passesOn 41 = .ok (.istore 5, 2) := by decide +kernel
theorem dX9_passesOn_43 : decode cX9_passesOn 43 = .ok (.iload 5, 2) := by decide +kernel
theorem dX9_passesOn_45 : decode cX9_passesOn 45 = .ok (.aload_n 1, 1) := by decide +kernel
theorem dX9_passesOn_46 : decode cX9_passesOn 46 = .ok (.iconst 4, 1) := by decide +kernel
theorem dX9_passesOn_47 : decode cX9_passesOn 47 = .ok (.iaload, 1) := by decide +kernel
theorem dX9_passesOn_48 : decode cX9_passesOn 48 = .ok (.if_icmp .ge 52, 3) := by decide +kernel
theorem dX9_passesOn_51 : decode cX9_passesOn 51 = .ok (.aload_n 1, 1) := by decide +kernel
theorem dX9_passesOn_52 : decode cX9_passesOn 52 = .ok (.bipush 6, 2) := by decide +kernel
theorem dX9_passesOn_54 : decode cX9_passesOn 54 = .ok (.iload_n 2, 1) := by decide +kernel
theorem dX9_passesOn_55 : decode cX9_passesOn 55 = .ok (.iadd, 1) := by decide +kernel
theorem dX9_passesOn_56 : decode cX9_passesOn 56 = .ok (.iaload, 1) := by decide +kernel
theorem dX9_passesOn_57 : decode cX9_passesOn 57 = .ok (.iconst 5, 1) := by decide +kernel
theorem dX9_passesOn_58 : decode cX9_passesOn 58 = .ok (.if_icmp .eq 42, 3) := by decide +kernel
theorem dX9_passesOn_61 : decode cX9_passesOn 61 = .ok (.aload_n 1, 1) := by decide +kernel
theorem dX9_passesOn_62 : decode cX9_passesOn 62 = .ok (.bipush 24, 2) := by decide +kernel
theorem dX9_passesOn_64 : decode cX9_passesOn 64 = .ok (.iload 5, 2) := by decide +kernel
theorem dX9_passesOn_66 : decode cX9_passesOn 66 = .ok (.iadd, 1) := by decide +kernel
theorem dX9_passesOn_67 : decode cX9_passesOn 67 = .ok (.iaload, 1) := by decide +kernel
theorem dX9_passesOn_68 : decode cX9_passesOn 68 = .ok (.iload_n 2, 1) := by decide +kernel
theorem dX9_passesOn_69 : decode cX9_passesOn 69 = .ok (.if_icmp .ne 25, 3) := by decide +kernel
theorem dX9_passesOn_72 : decode cX9_passesOn 72 = .ok (.iload 4, 2) := by decide +kernel
theorem dX9_passesOn_74 : decode cX9_passesOn 74 = .ok (.iload 5, 2) := by decide +kernel
theorem dX9_passesOn_76 : decode cX9_passesOn 76 = .ok (.invokestatic 164, 3) := by decide +kernel
theorem dX9_passesOn_79 : decode cX9_passesOn 79 = .ok (.ifCond .ne 15, 3) := by decide +kernel
theorem dX9_passesOn_82 : decode cX9_passesOn 82 = .ok (.aload_n 0, 1) := by decide +kernel
theorem dX9_passesOn_83 : decode cX9_passesOn 83 = .ok (.aload_n 1, 1) := by decide +kernel
theorem dX9_passesOn_84 : decode cX9_passesOn 84 = .ok (.bipush 34, 2) := by decide +kernel
theorem dX9_passesOn_86 : decode cX9_passesOn 86 = .ok (.iload 5, 2) := by decide +kernel
theorem dX9_passesOn_88 : decode cX9_passesOn 88 = .ok (.iadd, 1) := by decide +kernel
theorem dX9_passesOn_89 : decode cX9_passesOn 89 = .ok (.iaload, 1) := by decide +kernel
theorem dX9_passesOn_90 : decode cX9_passesOn 90 = .ok (.iload_n 3, 1) := by decide +kernel
theorem dX9_passesOn_91 : decode cX9_passesOn 91 = .ok (.invokevirtual 160, 3) := by decide +kernel
theorem dX9_passesOn_94 : decode cX9_passesOn 94 = .ok (.iinc 5 1, 3) := by decide +kernel
theorem dX9_passesOn_97 : decode cX9_passesOn 97 = .ok (.goto (-54), 3) := by decide +kernel
theorem dX9_passesOn_100 : decode cX9_passesOn 100 = .ok (.return_, 1) := by decide +kernel
theorem dX9_tells_0 : decode cX9_tells 0 = .ok (.aload_n 0, 1) := by decide +kernel
theorem dX9_tells_1 : decode cX9_tells 1 = .ok (.iconst 0, 1) := by decide +kernel
theorem dX9_tells_2 : decode cX9_tells 2 = .ok (.putfield 168, 3) := by decide +kernel
theorem dX9_tells_5 : decode cX9_tells 5 = .ok (.iconst 0, 1) := by decide +kernel
theorem dX9_tells_6 : decode cX9_tells 6 = .ok (.istore 6, 2) := by decide +kernel
theorem dX9_tells_8 : decode cX9_tells 8 = .ok (.iload 6, 2) := by decide +kernel
theorem dX9_tells_10 : decode cX9_tells 10 = .ok (.bipush 6, 2) := by decide +kernel
theorem dX9_tells_12 : decode cX9_tells 12 = .ok (.if_icmp .ge 41, 3) := by decide +kernel
theorem dX9_tells_15 : decode cX9_tells 15 = .ok (.aload_n 0, 1) := by decide +kernel
theorem dX9_tells_16 : decode cX9_tells 16 = .ok (.getfield 47, 3) := by decide +kernel
theorem dX9_tells_19 : decode cX9_tells 19 = .ok (.iload 6, 2) := by decide +kernel
theorem dX9_tells_21 : decode cX9_tells 21 = .ok (.iconst (-1), 1) := by decide +kernel
theorem dX9_tells_22 : decode cX9_tells 22 = .ok (.iastore, 1) := by decide +kernel
theorem dX9_tells_23 : decode cX9_tells 23 = .ok (.aload_n 0, 1) := by decide +kernel
theorem dX9_tells_24 : decode cX9_tells 24 = .ok (.getfield 41, 3) := by decide +kernel
theorem dX9_tells_27 : decode cX9_tells 27 = .ok (.iload 6, 2) := by decide +kernel
theorem dX9_tells_29 : decode cX9_tells 29 = .ok (.iload 4, 2) := by decide +kernel
theorem dX9_tells_31 : decode cX9_tells 31 = .ok (.iload 6, 2) := by decide +kernel
theorem dX9_tells_33 : decode cX9_tells 33 = .ok (.invokestatic 164, 3) := by decide +kernel
theorem dX9_tells_36 : decode cX9_tells 36 = .ok (.ifCond .eq 7, 3) := by decide +kernel
theorem dX9_tells_39 : decode cX9_tells 39 = .ok (.iload_n 3, 1) := by decide +kernel
theorem dX9_tells_40 : decode cX9_tells 40 = .ok (.goto 6, 3) := by decide +kernel
theorem dX9_tells_43 : decode cX9_tells 43 = .ok (.sipush (-1000), 3) := by decide +kernel
theorem dX9_tells_46 : decode cX9_tells 46 = .ok (.iastore, 1) := by decide +kernel
theorem dX9_tells_47 : decode cX9_tells 47 = .ok (.iinc 6 1, 3) := by decide +kernel
theorem dX9_tells_50 : decode cX9_tells 50 = .ok (.goto (-42), 3) := by decide +kernel
theorem dX9_tells_53 : decode cX9_tells 53 = .ok (.iconst 1, 1) := by decide +kernel
theorem dX9_tells_54 : decode cX9_tells 54 = .ok (.istore 6, 2) := by decide +kernel
theorem dX9_tells_56 : decode cX9_tells 56 = .ok (.iconst 0, 1) := by decide +kernel
theorem dX9_tells_57 : decode cX9_tells 57 = .ok (.istore 7, 2) := by decide +kernel
theorem dX9_tells_59 : decode cX9_tells 59 = .ok (.iload 6, 2) := by decide +kernel
theorem dX9_tells_61 : decode cX9_tells 61 = .ok (.ifCond .eq 241, 3) := by decide +kernel
theorem dX9_tells_64 : decode cX9_tells 64 = .ok (.iconst 0, 1) := by decide +kernel
theorem dX9_tells_65 : decode cX9_tells 65 = .ok (.istore 8, 2) := by decide +kernel
theorem dX9_tells_67 : decode cX9_tells 67 = .ok (.iload 8, 2) := by decide +kernel
theorem dX9_tells_69 : decode cX9_tells 69 = .ok (.bipush 6, 2) := by decide +kernel
theorem dX9_tells_71 : decode cX9_tells 71 = .ok (.if_icmp .ge 19, 3) := by decide +kernel
theorem dX9_tells_74 : decode cX9_tells 74 = .ok (.aload_n 0, 1) := by decide +kernel
theorem dX9_tells_75 : decode cX9_tells 75 = .ok (.getfield 44, 3) := by decide +kernel
theorem dX9_tells_78 : decode cX9_tells 78 = .ok (.iload 8, 2) := by decide +kernel
theorem dX9_tells_80 : decode cX9_tells 80 = .ok (.sipush (-1000), 3) := by decide +kernel
theorem dX9_tells_83 : decode cX9_tells 83 = .ok (.iastore, 1) := by decide +kernel
theorem dX9_tells_84 : decode cX9_tells 84 = .ok (.iinc 8 1, 3) := by decide +kernel
theorem dX9_tells_87 : decode cX9_tells 87 = .ok (.goto (-20), 3) := by decide +kernel
theorem dX9_tells_90 : decode cX9_tells 90 = .ok (.iconst 0, 1) := by decide +kernel
theorem dX9_tells_91 : decode cX9_tells 91 = .ok (.istore 8, 2) := by decide +kernel
theorem dX9_tells_93 : decode cX9_tells 93 = .ok (.iload 8, 2) := by decide +kernel
theorem dX9_tells_95 : decode cX9_tells 95 = .ok (.aload_n 1, 1) := by decide +kernel
theorem dX9_tells_96 : decode cX9_tells 96 = .ok (.iconst 3, 1) := by decide +kernel
theorem dX9_tells_97 : decode cX9_tells 97 = .ok (.iaload, 1) := by decide +kernel
theorem dX9_tells_98 : decode cX9_tells 98 = .ok (.if_icmp .ge 140, 3) := by decide +kernel
theorem dX9_tells_101 : decode cX9_tells 101 = .ok (.aload_n 0, 1) := by decide +kernel
theorem dX9_tells_102 : decode cX9_tells 102 = .ok (.getfield 41, 3) := by decide +kernel
theorem dX9_tells_105 : decode cX9_tells 105 = .ok (.iload 8, 2) := by decide +kernel
theorem dX9_tells_107 : decode cX9_tells 107 = .ok (.iaload, 1) := by decide +kernel
theorem dX9_tells_108 : decode cX9_tells 108 = .ok (.sipush (-1000), 3) := by decide +kernel
theorem dX9_tells_111 : decode cX9_tells 111 = .ok (.if_icmp .eq 121, 3) := by decide +kernel
theorem dX9_tells_114 : decode cX9_tells 114 = .ok (.aload_n 1, 1) := by decide +kernel
theorem dX9_tells_115 : decode cX9_tells 115 = .ok (.iload 8, 2) := by decide +kernel
theorem dX9_tells_117 : decode cX9_tells 117 = .ok (.iload_n 2, 1) := by decide +kernel
theorem dX9_tells_118 : decode cX9_tells 118 = .ok (.aload_n 0, 1) := by decide +kernel
theorem dX9_tells_119 : decode cX9_tells 119 = .ok (.getfield 41, 3) := by decide +kernel
theorem dX9_tells_122 : decode cX9_tells 122 = .ok (.iload 8, 2) := by decide +kernel
theorem dX9_tells_124 : decode cX9_tells 124 = .ok (.iaload, 1) := by decide +kernel
theorem dX9_tells_125 : decode cX9_tells 125 = .ok (.invokestatic 171, 3) := by decide +kernel
theorem dX9_tells_128 : decode cX9_tells 128 = .ok (.istore 9, 2) := by decide +kernel
theorem dX9_tells_130 : decode cX9_tells 130 = .ok (.aload_n 0, 1) := by decide +kernel
theorem dX9_tells_131 : decode cX9_tells 131 = .ok (.dup, 1) := by decide +kernel
theorem dX9_tells_132 : decode cX9_tells 132 = .ok (.getfield 168, 3) := by decide +kernel
theorem dX9_tells_135 : decode cX9_tells 135 = .ok (.iload 9, 2) := by decide +kernel
theorem dX9_tells_137 : decode cX9_tells 137 = .ok (.ifCond .eq 10, 3) := by decide +kernel
theorem dX9_tells_140 : decode cX9_tells 140 = .ok (.iconst 1, 1) := by decide +kernel
theorem dX9_tells_141 : decode cX9_tells 141 = .ok (.iload 8, 2) := by decide +kernel
theorem dX9_tells_143 : decode cX9_tells 143 = .ok (.ishl, 1) := by decide +kernel
theorem dX9_tells_144 : decode cX9_tells 144 = .ok (.goto 4, 3) := by decide +kernel
theorem dX9_tells_147 : decode cX9_tells 147 = .ok (.iconst 0, 1) := by decide +kernel
theorem dX9_tells_148 : decode cX9_tells 148 = .ok (.ior, 1) := by decide +kernel
theorem dX9_tells_149 : decode cX9_tells 149 = .ok (.putfield 168, 3) := by decide +kernel
theorem dX9_tells_152 : decode cX9_tells 152 = .ok (.aload_n 0, 1) := by decide +kernel
theorem dX9_tells_153 : decode cX9_tells 153 = .ok (.getfield 47, 3) := by decide +kernel
theorem dX9_tells_156 : decode cX9_tells 156 = .ok (.iload 8, 2) := by decide +kernel
theorem dX9_tells_158 : decode cX9_tells 158 = .ok (.iaload, 1) := by decide +kernel
theorem dX9_tells_159 : decode cX9_tells 159 = .ok (.ifCond .ge 25, 3) := by decide +kernel
theorem dX9_tells_162 : decode cX9_tells 162 = .ok (.aload_n 1, 1) := by decide +kernel
theorem dX9_tells_163 : decode cX9_tells 163 = .ok (.bipush 6, 2) := by decide +kernel
theorem dX9_tells_165 : decode cX9_tells 165 = .ok (.iload 8, 2) := by decide +kernel
theorem dX9_tells_167 : decode cX9_tells 167 = .ok (.iadd, 1) := by decide +kernel
theorem dX9_tells_168 : decode cX9_tells 168 = .ok (.iaload, 1) := by decide +kernel
theorem dX9_tells_169 : decode cX9_tells 169 = .ok (.iload 9, 2) := by decide +kernel
theorem dX9_tells_171 : decode cX9_tells 171 = .ok (.aload_n 0, 1) := by decide +kernel
theorem dX9_tells_172 : decode cX9_tells 172 = .ok (.getfield 41, 3) := by decide +kernel
theorem dX9_tells_175 : decode cX9_tells 175 = .ok (.iload 8, 2) := by decide +kernel
theorem dX9_tells_177 : decode cX9_tells 177 = .ok (.iaload, 1) := by decide +kernel
theorem dX9_tells_178 : decode cX9_tells 178 = .ok (.invokestatic 175, 3) := by decide +kernel
theorem dX9_tells_181 : decode cX9_tells 181 = .ok (.goto 4, 3) := by decide +kernel
theorem dX9_tells_184 : decode cX9_tells 184 = .ok (.iconst 0, 1) := by decide +kernel
theorem dX9_tells_185 : decode cX9_tells 185 = .ok (.istore 10, 2) := by decide +kernel
theorem dX9_tells_187 : decode cX9_tells 187 = .ok (.aload_n 0, 1) := by decide +kernel
theorem dX9_tells_188 : decode cX9_tells 188 = .ok (.getfield 47, 3) := by decide +kernel
theorem dX9_tells_191 : decode cX9_tells 191 = .ok (.iload 8, 2) := by decide +kernel
theorem dX9_tells_193 : decode cX9_tells 193 = .ok (.aload_n 0, 1) := by decide +kernel
theorem dX9_tells_194 : decode cX9_tells 194 = .ok (.getfield 47, 3) := by decide +kernel
theorem dX9_tells_197 : decode cX9_tells 197 = .ok (.iload 8, 2) := by decide +kernel
theorem dX9_tells_199 : decode cX9_tells 199 = .ok (.iaload, 1) := by decide +kernel
theorem dX9_tells_200 : decode cX9_tells 200 = .ok (.ifCond .ge 8, 3) := by decide +kernel
theorem dX9_tells_203 : decode cX9_tells 203 = .ok (.iload 7, 2) := by decide +kernel
theorem dX9_tells_205 : decode cX9_tells 205 = .ok (.goto 10, 3) := by decide +kernel
theorem dX9_tells_208 : decode cX9_tells 208 = .ok (.aload_n 0, 1) := by decide +kernel
theorem dX9_tells_209 : decode cX9_tells 209 = .ok (.getfield 47, 3) := by decide +kernel
theorem dX9_tells_212 : decode cX9_tells 212 = .ok (.iload 8, 2) := by decide +kernel
theorem dX9_tells_214 : decode cX9_tells 214 = .ok (.iaload, 1) := by decide +kernel
theorem dX9_tells_215 : decode cX9_tells 215 = .ok (.iastore, 1) := by decide +kernel
theorem dX9_tells_216 : decode cX9_tells 216 = .ok (.iload 10, 2) := by decide +kernel
theorem dX9_tells_218 : decode cX9_tells 218 = .ok (.ifCond .le 14, 3) := by decide +kernel
theorem dX9_tells_221 : decode cX9_tells 221 = .ok (.aload_n 0, 1) := by decide +kernel
theorem dX9_tells_222 : decode cX9_tells 222 = .ok (.aload_n 1, 1) := by decide +kernel
theorem dX9_tells_223 : decode cX9_tells 223 = .ok (.iload 8, 2) := by decide +kernel
theorem dX9_tells_225 : decode cX9_tells 225 = .ok (.iload 10, 2) := by decide +kernel
theorem dX9_tells_227 : decode cX9_tells 227 = .ok (.iload 5, 2) := by decide +kernel
theorem dX9_tells_229 : decode cX9_tells 229 = .ok (.invokevirtual 179, 3) := by decide +kernel
theorem dX9_tells_232 : decode cX9_tells 232 = .ok (.iinc 8 1, 3) := by decide +kernel
theorem dX9_tells_235 : decode cX9_tells 235 = .ok (.goto (-142), 3) := by decide +kernel
theorem dX9_tells_238 : decode cX9_tells 238 = .ok (.iconst 0, 1) := by decide +kernel
theorem dX9_tells_239 : decode cX9_tells 239 = .ok (.istore 6, 2) := by decide +kernel
theorem dX9_tells_241 : decode cX9_tells 241 = .ok (.iconst 0, 1) := by decide +kernel
theorem dX9_tells_242 : decode cX9_tells 242 = .ok (.istore 8, 2) := by decide +kernel
theorem dX9_tells_244 : decode cX9_tells 244 = .ok (.iload 8, 2) := by decide +kernel
theorem dX9_tells_246 : decode cX9_tells 246 = .ok (.bipush 6, 2) := by decide +kernel
theorem dX9_tells_248 : decode cX9_tells 248 = .ok (.if_icmp .ge 48, 3) := by decide +kernel
theorem dX9_tells_251 : decode cX9_tells 251 = .ok (.aload_n 0, 1) := by decide +kernel
theorem dX9_tells_252 : decode cX9_tells 252 = .ok (.getfield 41, 3) := by decide +kernel
theorem dX9_tells_255 : decode cX9_tells 255 = .ok (.iload 8, 2) := by decide +kernel
theorem dX9_tells_257 : decode cX9_tells 257 = .ok (.aload_n 0, 1) := by decide +kernel
theorem dX9_tells_258 : decode cX9_tells 258 = .ok (.getfield 44, 3) := by decide +kernel
theorem dX9_tells_261 : decode cX9_tells 261 = .ok (.iload 8, 2) := by decide +kernel
theorem dX9_tells_263 : decode cX9_tells 263 = .ok (.iaload, 1) := by decide +kernel
theorem dX9_tells_264 : decode cX9_tells 264 = .ok (.iastore, 1) := by decide +kernel
theorem dX9_tells_265 : decode cX9_tells 265 = .ok (.iload 6, 2) := by decide +kernel
theorem dX9_tells_267 : decode cX9_tells 267 = .ok (.ifCond .ne 16, 3) := by decide +kernel
theorem dX9_tells_270 : decode cX9_tells 270 = .ok (.aload_n 0, 1) := by decide +kernel
theorem dX9_tells_271 : decode cX9_tells 271 = .ok (.getfield 41, 3) := by decide +kernel
theorem dX9_tells_274 : decode cX9_tells 274 = .ok (.iload 8, 2) := by decide +kernel
theorem dX9_tells_276 : decode cX9_tells 276 = .ok (.iaload, 1) := by decide +kernel
