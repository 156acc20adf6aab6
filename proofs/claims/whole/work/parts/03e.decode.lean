theorem dX8_telling_133 : decode cX8_telling 133 = .ok (.imul, 1) := by decide +kernel
theorem dX8_telling_134 : decode cX8_telling 134 = .ok (.ireturn, 1) := by decide +kernel
theorem dX8_fewest_0 : decode cX8_fewest 0 = .ok (.iload_n 1, 1) := by decide +kernel
theorem dX8_fewest_1 : decode cX8_fewest 1 = .ok (.invokestatic 185, 3) := by decide +kernel
theorem dX8_fewest_4 : decode cX8_fewest 4 = .ok (.ifCond .eq 33, 3) := by decide +kernel
theorem dX8_fewest_7 : decode cX8_fewest 7 = .ok (.aload_n 0, 1) := by decide +kernel
theorem dX8_fewest_8 : decode cX8_fewest 8 = .ok (.iload_n 2, 1) := by decide +kernel
theorem dX8_fewest_9 : decode cX8_fewest 9 = .ok (.invokevirtual 231, 3) := by decide +kernel
theorem dX8_fewest_12 : decode cX8_fewest 12 = .ok (.ifCond .eq 25, 3) := by decide +kernel
theorem dX8_fewest_15 : decode cX8_fewest 15 = .ok (.aload_n 0, 1) := by decide +kernel
theorem dX8_fewest_16 : decode cX8_fewest 16 = .ok (.iload_n 3, 1) := by decide +kernel
theorem dX8_fewest_17 : decode cX8_fewest 17 = .ok (.invokevirtual 231, 3) := by decide +kernel
theorem dX8_fewest_20 : decode cX8_fewest 20 = .ok (.ifCond .eq 17, 3) := by decide +kernel
theorem dX8_fewest_23 : decode cX8_fewest 23 = .ok (.iload_n 2, 1) := by decide +kernel
theorem dX8_fewest_24 : decode cX8_fewest 24 = .ok (.iload_n 3, 1) := by decide +kernel
theorem dX8_fewest_25 : decode cX8_fewest 25 = .ok (.iand, 1) := by decide +kernel
theorem dX8_fewest_26 : decode cX8_fewest 26 = .ok (.ifCond .ne 11, 3) := by decide +kernel
theorem dX8_fewest_29 : decode cX8_fewest 29 = .ok (.iload 4, 2) := by decide +kernel
theorem dX8_fewest_31 : decode cX8_fewest 31 = .ok (.invokestatic 257, 3) := by decide +kernel
theorem dX8_fewest_34 : decode cX8_fewest 34 = .ok (.ifCond .ne 6, 3) := by decide +kernel
theorem dX8_fewest_37 : decode cX8_fewest 37 = .ok (.ldc 77, 2) := by decide +kernel
theorem dX8_fewest_39 : decode cX8_fewest 39 = .ok (.ireturn, 1) := by decide +kernel
theorem dX8_fewest_40 : decode cX8_fewest 40 = .ok (.aload_n 0, 1) := by decide +kernel
theorem dX8_fewest_41 : decode cX8_fewest 41 = .ok (.getfield 26, 3) := by decide +kernel
theorem dX8_fewest_44 : decode cX8_fewest 44 = .ok (.getfield 148, 3) := by decide +kernel
theorem dX8_fewest_47 : decode cX8_fewest 47 = .ok (.iload_n 1, 1) := by decide +kernel
theorem dX8_fewest_48 : decode cX8_fewest 48 = .ok (.invokevirtual 188, 3) := by decide +kernel
theorem dX8_fewest_51 : decode cX8_fewest 51 = .ok (.ifCond .eq 6, 3) := by decide +kernel
theorem dX8_fewest_54 : decode cX8_fewest 54 = .ok (.ldc 147, 2) := by decide +kernel
theorem dX8_fewest_56 : decode cX8_fewest 56 = .ok (.ireturn, 1) := by decide +kernel
theorem dX8_fewest_57 : decode cX8_fewest 57 = .ok (.aload_n 0, 1) := by decide +kernel
theorem dX8_fewest_58 : decode cX8_fewest 58 = .ok (.getfield 58, 3) := by decide +kernel
theorem dX8_fewest_61 : decode cX8_fewest 61 = .ok (.iload_n 1, 1) := by decide +kernel
theorem dX8_fewest_62 : decode cX8_fewest 62 = .ok (.iload_n 2, 1) := by decide +kernel
theorem dX8_fewest_63 : decode cX8_fewest 63 = .ok (.iload_n 3, 1) := by decide +kernel
theorem dX8_fewest_64 : decode cX8_fewest 64 = .ok (.invokevirtual 260, 3) := by decide +kernel
theorem dX8_fewest_67 : decode cX8_fewest 67 = .ok (.iload 4, 2) := by decide +kernel
theorem dX8_fewest_69 : decode cX8_fewest 69 = .ok (.invokestatic 263, 3) := by decide +kernel
theorem dX8_fewest_72 : decode cX8_fewest 72 = .ok (.ireturn, 1) := by decide +kernel
theorem dX8_silence_0 : decode cX8_silence 0 = .ok (.iload_n 1, 1) := by decide +kernel
theorem dX8_silence_1 : decode cX8_silence 1 = .ok (.invokestatic 185, 3) := by decide +kernel
theorem dX8_silence_4 : decode cX8_silence 4 = .ok (.ifCond .eq 20, 3) := by decide +kernel
theorem dX8_silence_7 : decode cX8_silence 7 = .ok (.aload_n 0, 1) := by decide +kernel
theorem dX8_silence_8 : decode cX8_silence 8 = .ok (.iload_n 2, 1) := by decide +kernel
theorem dX8_silence_9 : decode cX8_silence 9 = .ok (.iload_n 3, 1) := by decide +kernel
theorem dX8_silence_10 : decode cX8_silence 10 = .ok (.invokevirtual 266, 3) := by decide +kernel
theorem dX8_silence_13 : decode cX8_silence 13 = .ok (.ifCond .eq 11, 3) := by decide +kernel
theorem dX8_silence_16 : decode cX8_silence 16 = .ok (.iload 4, 2) := by decide +kernel
theorem dX8_silence_18 : decode cX8_silence 18 = .ok (.invokestatic 257, 3) := by decide +kernel
theorem dX8_silence_21 : decode cX8_silence 21 = .ok (.ifCond .ne 6, 3) := by decide +kernel
theorem dX8_silence_24 : decode cX8_silence 24 = .ok (.ldc 77, 2) := by decide +kernel
theorem dX8_silence_26 : decode cX8_silence 26 = .ok (.ireturn, 1) := by decide +kernel
theorem dX8_silence_27 : decode cX8_silence 27 = .ok (.aload_n 0, 1) := by decide +kernel
theorem dX8_silence_28 : decode cX8_silence 28 = .ok (.getfield 26, 3) := by decide +kernel
theorem dX8_silence_31 : decode cX8_silence 31 = .ok (.getfield 148, 3) := by decide +kernel
theorem dX8_silence_34 : decode cX8_silence 34 = .ok (.iload_n 1, 1) := by decide +kernel
theorem dX8_silence_35 : decode cX8_silence 35 = .ok (.invokevirtual 188, 3) := by decide +kernel
theorem dX8_silence_38 : decode cX8_silence 38 = .ok (.ifCond .eq 6, 3) := by decide +kernel
theorem dX8_silence_41 : decode cX8_silence 41 = .ok (.ldc 147, 2) := by decide +kernel
theorem dX8_silence_43 : decode cX8_silence 43 = .ok (.ireturn, 1) := by decide +kernel
theorem dX8_silence_44 : decode cX8_silence 44 = .ok (.aload_n 0, 1) := by decide +kernel
theorem dX8_silence_45 : decode cX8_silence 45 = .ok (.getfield 58, 3) := by decide +kernel
theorem dX8_silence_48 : decode cX8_silence 48 = .ok (.iload_n 1, 1) := by decide +kernel
theorem dX8_silence_49 : decode cX8_silence 49 = .ok (.iload_n 2, 1) := by decide +kernel
theorem dX8_silence_50 : decode cX8_silence 50 = .ok (.iload_n 3, 1) := by decide +kernel
theorem dX8_silence_51 : decode cX8_silence 51 = .ok (.invokevirtual 270, 3) := by decide +kernel
theorem dX8_silence_54 : decode cX8_silence 54 = .ok (.iload 4, 2) := by decide +kernel
theorem dX8_silence_56 : decode cX8_silence 56 = .ok (.invokestatic 263, 3) := by decide +kernel
theorem dX8_silence_59 : decode cX8_silence 59 = .ok (.ireturn, 1) := by decide +kernel
theorem dX8_malts_0 : decode cX8_malts 0 = .ok (.iload_n 1, 1) := by decide +kernel
theorem dX8_malts_1 : decode cX8_malts 1 = .ok (.invokestatic 185, 3) := by decide +kernel
theorem dX8_malts_4 : decode cX8_malts 4 = .ok (.ifCond .eq 23, 3) := by decide +kernel
theorem dX8_malts_7 : decode cX8_malts 7 = .ok (.iload_n 2, 1) := by decide +kernel
theorem dX8_malts_8 : decode cX8_malts 8 = .ok (.invokestatic 73, 3) := by decide +kernel
theorem dX8_malts_11 : decode cX8_malts 11 = .ok (.ifCond .eq 16, 3) := by decide +kernel
theorem dX8_malts_14 : decode cX8_malts 14 = .ok (.iload 4, 2) := by decide +kernel
theorem dX8_malts_16 : decode cX8_malts 16 = .ok (.iconst 1, 1) := by decide +kernel
theorem dX8_malts_17 : decode cX8_malts 17 = .ok (.if_icmp .lt 10, 3) := by decide +kernel
theorem dX8_malts_20 : decode cX8_malts 20 = .ok (.iload 4, 2) := by decide +kernel
theorem dX8_malts_22 : decode cX8_malts 22 = .ok (.bipush 6, 2) := by decide +kernel
theorem dX8_malts_24 : decode cX8_malts 24 = .ok (.if_icmp .le 6, 3) := by decide +kernel
theorem dX8_malts_27 : decode cX8_malts 27 = .ok (.ldc 77, 2) := by decide +kernel
theorem dX8_malts_29 : decode cX8_malts 29 = .ok (.ireturn, 1) := by decide +kernel
theorem dX8_malts_30 : decode cX8_malts 30 = .ok (.aload_n 0, 1) := by decide +kernel
theorem dX8_malts_31 : decode cX8_malts 31 = .ok (.iload_n 1, 1) := by decide +kernel
theorem dX8_malts_32 : decode cX8_malts 32 = .ok (.iload_n 2, 1) := by decide +kernel
theorem dX8_malts_33 : decode cX8_malts 33 = .ok (.iload_n 3, 1) := by decide +kernel
theorem dX8_malts_34 : decode cX8_malts 34 = .ok (.iload 4, 2) := by decide +kernel
theorem dX8_malts_36 : decode cX8_malts 36 = .ok (.invokevirtual 273, 3) := by decide +kernel
theorem dX8_malts_39 : decode cX8_malts 39 = .ok (.istore 5, 2) := by decide +kernel
theorem dX8_malts_41 : decode cX8_malts 41 = .ok (.iload 5, 2) := by decide +kernel
theorem dX8_malts_43 : decode cX8_malts 43 = .ok (.ifCond .eq 8, 3) := by decide +kernel
theorem dX8_malts_46 : decode cX8_malts 46 = .ok (.iload 5, 2) := by decide +kernel
theorem dX8_malts_48 : decode cX8_malts 48 = .ok (.goto 27, 3) := by decide +kernel
theorem dX8_malts_51 : decode cX8_malts 51 = .ok (.aload_n 0, 1) := by decide +kernel
theorem dX8_malts_52 : decode cX8_malts 52 = .ok (.aload_n 0, 1) := by decide +kernel
theorem dX8_malts_53 : decode cX8_malts 53 = .ok (.getfield 58, 3) := by decide +kernel
theorem dX8_malts_56 : decode cX8_malts 56 = .ok (.iload_n 1, 1) := by decide +kernel
theorem dX8_malts_57 : decode cX8_malts 57 = .ok (.aload_n 0, 1) := by decide +kernel
theorem dX8_malts_58 : decode cX8_malts 58 = .ok (.getfield 10, 3) := by decide +kernel
theorem dX8_malts_61 : decode cX8_malts 61 = .ok (.getfield 104, 3) := by decide +kernel
theorem dX8_malts_64 : decode cX8_malts 64 = .ok (.iload_n 2, 1) := by decide +kernel
theorem dX8_malts_65 : decode cX8_malts 65 = .ok (.aaload, 1) := by decide +kernel
theorem dX8_malts_66 : decode cX8_malts 66 = .ok (.iload_n 3, 1) := by decide +kernel
theorem dX8_malts_67 : decode cX8_malts 67 = .ok (.iload 4, 2) := by decide +kernel
theorem dX8_malts_69 : decode cX8_malts 69 = .ok (.invokevirtual 277, 3) := by decide +kernel
theorem dX8_malts_72 : decode cX8_malts 72 = .ok (.invokevirtual 86, 3) := by decide +kernel
theorem dX8_malts_75 : decode cX8_malts 75 = .ok (.ireturn, 1) := by decide +kernel
theorem dX8_who_0 : decode cX8_who 0 = .ok (.aload_n 0, 1) := by decide +kernel
theorem dX8_who_1 : decode cX8_who 1 = .ok (.iload_n 1, 1) := by decide +kernel
theorem dX8_who_2 : decode cX8_who 2 = .ok (.invokevirtual 156, 3) := by decide +kernel
theorem dX8_who_5 : decode cX8_who 5 = .ok (.ifCond .eq 30, 3) := by decide +kernel
theorem dX8_who_8 : decode cX8_who 8 = .ok (.iload_n 2, 1) := by decide +kernel
theorem dX8_who_9 : decode cX8_who 9 = .ok (.invokestatic 185, 3) := by decide +kernel
theorem dX8_who_12 : decode cX8_who 12 = .ok (.ifCond .eq 23, 3) := by decide +kernel
theorem dX8_who_15 : decode cX8_who 15 = .ok (.iload_n 3, 1) := by decide +kernel
theorem dX8_who_16 : decode cX8_who 16 = .ok (.invokestatic 73, 3) := by decide +kernel
theorem dX8_who_19 : decode cX8_who 19 = .ok (.ifCond .eq 16, 3) := by decide +kernel
theorem dX8_who_22 : decode cX8_who 22 = .ok (.iload 5, 2) := by decide +kernel
theorem dX8_who_24 : decode cX8_who 24 = .ok (.iconst 1, 1) := by decide +kernel
theorem dX8_who_25 : decode cX8_who 25 = .ok (.if_icmp .lt 10, 3) := by decide +kernel
theorem dX8_who_28 : decode cX8_who 28 = .ok (.iload 5, 2) := by decide +kernel
theorem dX8_who_30 : decode cX8_who 30 = .ok (.bipush 6, 2) := by decide +kernel
theorem dX8_who_32 : decode cX8_who 32 = .ok (.if_icmp .le 6, 3) := by decide +kernel
theorem dX8_who_35 : decode cX8_who 35 = .ok (.ldc 77, 2) := by decide +kernel
theorem dX8_who_37 : decode cX8_who 37 = .ok (.ireturn, 1) := by decide +kernel
theorem dX8_who_38 : decode cX8_who 38 = .ok (.aload_n 0, 1) := by decide +kernel
theorem dX8_who_39 : decode cX8_who 39 = .ok (.iload_n 2, 1) := by decide +kernel
theorem dX8_who_40 : decode cX8_who 40 = .ok (.iload_n 3, 1) := by decide +kernel
theorem dX8_who_41 : decode cX8_who 41 = .ok (.iload 4, 2) := by decide +kernel
theorem dX8_who_43 : decode cX8_who 43 = .ok (.iload 5, 2) := by decide +kernel
theorem dX8_who_45 : decode cX8_who 45 = .ok (.invokevirtual 273, 3) := by decide +kernel
theorem dX8_who_48 : decode cX8_who 48 = .ok (.istore 6, 2) := by decide +kernel
theorem dX8_who_50 : decode cX8_who 50 = .ok (.iload 6, 2) := by decide +kernel
theorem dX8_who_52 : decode cX8_who 52 = .ok (.ifCond .eq 8, 3) := by decide +kernel
theorem dX8_who_55 : decode cX8_who 55 = .ok (.iload 6, 2) := by decide +kernel
theorem dX8_who_57 : decode cX8_who 57 = .ok (.goto 29, 3) := by decide +kernel
theorem dX8_who_60 : decode cX8_who 60 = .ok (.aload_n 0, 1) := by decide +kernel
theorem dX8_who_61 : decode cX8_who 61 = .ok (.aload_n 0, 1) := by decide +kernel
theorem dX8_who_62 : decode cX8_who 62 = .ok (.getfield 58, 3) := by decide +kernel
theorem dX8_who_65 : decode cX8_who 65 = .ok (.iload_n 1, 1) := by decide +kernel
theorem dX8_who_66 : decode cX8_who 66 = .ok (.iload_n 2, 1) := by decide +kernel
theorem dX8_who_67 : decode cX8_who 67 = .ok (.aload_n 0, 1) := by decide +kernel
theorem dX8_who_68 : decode cX8_who 68 = .ok (.getfield 10, 3) := by decide +kernel
theorem dX8_who_71 : decode cX8_who 71 = .ok (.getfield 104, 3) := by decide +kernel
theorem dX8_who_74 : decode cX8_who 74 = .ok (.iload_n 3, 1) := by decide +kernel
theorem dX8_who_75 : decode cX8_who 75 = .ok (.aaload, 1) := by decide +kernel
theorem dX8_who_76 : decode cX8_who 76 = .ok (.iload 4, 2) := by decide +kernel
theorem dX8_who_78 : decode cX8_who 78 = .ok (.iload 5, 2) := by decide +kernel
theorem dX8_who_80 : decode cX8_who 80 = .ok (.invokevirtual 281, 3) := by decide +kernel
theorem dX8_who_83 : decode cX8_who 83 = .ok (.invokevirtual 86, 3) := by decide +kernel
theorem dX8_who_86 : decode cX8_who 86 = .ok (.ireturn, 1) := by decide +kernel
theorem dX8_goesOff_0 : decode cX8_goesOff 0 = .ok (.iload_n 1, 1) := by decide +kernel
theorem dX8_goesOff_1 : decode cX8_goesOff 1 = .ok (.invokestatic 185, 3) := by decide +kernel
theorem dX8_goesOff_4 : decode cX8_goesOff 4 = .ok (.ifCond .eq 10, 3) := by decide +kernel
theorem dX8_goesOff_7 : decode cX8_goesOff 7 = .ok (.iload_n 2, 1) := by decide +kernel
theorem dX8_goesOff_8 : decode cX8_goesOff 8 = .ok (.invokestatic 257, 3) := by decide +kernel
theorem dX8_goesOff_11 : decode cX8_goesOff 11 = .ok (.ifCond .ne 6, 3) := by decide +kernel
theorem dX8_goesOff_14 : decode cX8_goesOff 14 = .ok (.ldc 77, 2) := by decide +kernel
theorem dX8_goesOff_16 : decode cX8_goesOff 16 = .ok (.ireturn, 1) := by decide +kernel
theorem dX8_goesOff_17 : decode cX8_goesOff 17 = .ok (.aload_n 0, 1) := by decide +kernel
theorem dX8_goesOff_18 : decode cX8_goesOff 18 = .ok (.getfield 26, 3) := by decide +kernel
theorem dX8_goesOff_21 : decode cX8_goesOff 21 = .ok (.getfield 148, 3) := by decide +kernel
theorem dX8_goesOff_24 : decode cX8_goesOff 24 = .ok (.iload_n 1, 1) := by decide +kernel
theorem dX8_goesOff_25 : decode cX8_goesOff 25 = .ok (.invokevirtual 188, 3) := by decide +kernel
theorem dX8_goesOff_28 : decode cX8_goesOff 28 = .ok (.ifCond .eq 6, 3) := by decide +kernel
theorem dX8_goesOff_31 : decode cX8_goesOff 31 = .ok (.ldc 147, 2) := by decide +kernel
theorem dX8_goesOff_33 : decode cX8_goesOff 33 = .ok (.ireturn, 1) := by decide +kernel
theorem dX8_goesOff_34 : decode cX8_goesOff 34 = .ok (.iload_n 2, 1) := by decide +kernel
theorem dX8_goesOff_35 : decode cX8_goesOff 35 = .ok (.ifCond .ne 15, 3) := by decide +kernel
theorem dX8_goesOff_38 : decode cX8_goesOff 38 = .ok (.aload_n 0, 1) := by decide +kernel
theorem dX8_goesOff_39 : decode cX8_goesOff 39 = .ok (.getfield 26, 3) := by decide +kernel
theorem dX8_goesOff_42 : decode cX8_goesOff 42 = .ok (.getfield 285, 3) := by decide +kernel
theorem dX8_goesOff_45 : decode cX8_goesOff 45 = .ok (.iconst 1, 1) := by decide +kernel
theorem dX8_goesOff_46 : decode cX8_goesOff 46 = .ok (.iadd, 1) := by decide +kernel
theorem dX8_goesOff_47 : decode cX8_goesOff 47 = .ok (.goto 10, 3) := by decide +kernel
theorem dX8_goesOff_50 : decode cX8_goesOff 50 = .ok (.aload_n 0, 1) := by decide +kernel
theorem dX8_goesOff_51 : decode cX8_goesOff 51 = .ok (.getfield 26, 3) := by decide +kernel
theorem dX8_goesOff_54 : decode cX8_goesOff 54 = .ok (.getfield 288, 3) := by decide +kernel
theorem dX8_goesOff_57 : decode cX8_goesOff 57 = .ok (.istore_n 3, 1) := by decide +kernel
theorem dX8_goesOff_58 : decode cX8_goesOff 58 = .ok (.iconst 0, 1) := by decide +kernel
theorem dX8_goesOff_59 : decode cX8_goesOff 59 = .ok (.iload_n 3, 1) := by decide +kernel
theorem dX8_goesOff_60 : decode cX8_goesOff 60 = .ok (.aload_n 0, 1) := by decide +kernel
theorem dX8_goesOff_61 : decode cX8_goesOff 61 = .ok (.getfield 26, 3) := by decide +kernel
theorem dX8_goesOff_64 : decode cX8_goesOff 64 = .ok (.getfield 148, 3) := by decide +kernel
theorem dX8_goesOff_67 : decode cX8_goesOff 67 = .ok (.iload_n 1, 1) := by decide +kernel
theorem dX8_goesOff_68 : decode cX8_goesOff 68 = .ok (.invokevirtual 210, 3) := by decide +kernel
theorem dX8_goesOff_71 : decode cX8_goesOff 71 = .ok (.isub, 1) := by decide +kernel
theorem dX8_goesOff_72 : decode cX8_goesOff 72 = .ok (.invokestatic 291, 3) := by decide +kernel
theorem dX8_goesOff_75 : decode cX8_goesOff 75 = .ok (.ireturn, 1) := by decide +kernel
theorem dX8_best_0 : decode cX8_best 0 = .ok (.iload_n 1, 1) := by decide +kernel
theorem dX8_best_1 : decode cX8_best 1 = .ok (.invokestatic 185, 3) := by decide +kernel
theorem dX8_best_4 : decode cX8_best 4 = .ok (.ifCond .eq 10, 3) := by decide +kernel
theorem dX8_best_7 : decode cX8_best 7 = .ok (.iload_n 2, 1) := by decide +kernel
theorem dX8_best_8 : decode cX8_best 8 = .ok (.invokestatic 257, 3) := by decide +kernel
theorem dX8_best_11 : decode cX8_best 11 = .ok (.ifCond .ne 6, 3) := by decide +kernel
theorem dX8_best_14 : decode cX8_best 14 = .ok (.ldc 77, 2) := by decide +kernel
theorem dX8_best_16 : decode cX8_best 16 = .ok (.ireturn, 1) := by decide +kernel
theorem dX8_best_17 : decode cX8_best 17 = .ok (.aload_n 0, 1) := by decide +kernel
theorem dX8_best_18 : decode cX8_best 18 = .ok (.getfield 26, 3) := by decide +kernel
theorem dX8_best_21 : decode cX8_best 21 = .ok (.getfield 148, 3) := by decide +kernel
theorem dX8_best_24 : decode cX8_best 24 = .ok (.iload_n 1, 1) := by decide +kernel
theorem dX8_best_25 : decode cX8_best 25 = .ok (.invokevirtual 188, 3) := by decide +kernel
theorem dX8_best_28 : decode cX8_best 28 = .ok (.ifCond .eq 6, 3) := by decide +kernel
theorem dX8_best_31 : decode cX8_best 31 = .ok (.ldc 147, 2) := by decide +kernel
theorem dX8_best_33 : decode cX8_best 33 = .ok (.ireturn, 1) := by decide +kernel
theorem dX8_best_34 : decode cX8_best 34 = .ok (.aload_n 0, 1) := by decide +kernel
theorem dX8_best_35 : decode cX8_best 35 = .ok (.getfield 58, 3) := by decide +kernel
theorem dX8_best_38 : decode cX8_best 38 = .ok (.iload_n 1, 1) := by decide +kernel
theorem dX8_best_39 : decode cX8_best 39 = .ok (.invokevirtual 296, 3) := by decide +kernel
theorem dX8_best_42 : decode cX8_best 42 = .ok (.istore_n 3, 1) := by decide +kernel
theorem dX8_best_43 : decode cX8_best 43 = .ok (.iload_n 2, 1) := by decide +kernel
theorem dX8_best_44 : decode cX8_best 44 = .ok (.ifCond .ne 7, 3) := by decide +kernel
theorem dX8_best_47 : decode cX8_best 47 = .ok (.iload_n 3, 1) := by decide +kernel
theorem dX8_best_48 : decode cX8_best 48 = .ok (.goto 12, 3) := by decide +kernel
theorem dX8_best_51 : decode cX8_best 51 = .ok (.aload_n 0, 1) := by decide +kernel
theorem dX8_best_52 : decode cX8_best 52 = .ok (.getfield 58, 3) := by decide +kernel
theorem dX8_best_55 : decode cX8_best 55 = .ok (.iload_n 1, 1) := by decide +kernel
theorem dX8_best_56 : decode cX8_best 56 = .ok (.iload_n 3, 1) := by decide +kernel
theorem dX8_best_57 : decode cX8_best 57 = .ok (.invokevirtual 299, 3) := by decide +kernel
theorem dX8_best_60 : decode cX8_best 60 = .ok (.ireturn, 1) := by decide +kernel
theorem dX8_blended_0 : decode cX8_blended 0 = .ok (.iload_n 1, 1) := by decide +kernel
theorem dX8_blended_1 : decode cX8_blended 1 = .ok (.invokestatic 185, 3) := by decide +kernel
theorem dX8_blended_4 : decode cX8_blended 4 = .ok (.ifCond .eq 23, 3) := by decide +kernel
theorem dX8_blended_7 : decode cX8_blended 7 = .ok (.iload_n 2, 1) := by decide +kernel
theorem dX8_blended_8 : decode cX8_blended 8 = .ok (.invokestatic 185, 3) := by decide +kernel
theorem dX8_blended_11 : decode cX8_blended 11 = .ok (.ifCond .eq 16, 3) := by decide +kernel
theorem dX8_blended_14 : decode cX8_blended 14 = .ok (.iload_n 1, 1) := by decide +kernel
theorem dX8_blended_15 : decode cX8_blended 15 = .ok (.iload_n 2, 1) := by decide +kernel
theorem dX8_blended_16 : decode cX8_blended 16 = .ok (.if_icmp .eq 11, 3) := by decide +kernel
theorem dX8_blended_19 : decode cX8_blended 19 = .ok (.aload_n 0, 1) := by decide +kernel
theorem dX8_blended_20 : decode cX8_blended 20 = .ok (.iload_n 3, 1) := by decide +kernel
theorem dX8_blended_21 : decode cX8_blended 21 = .ok (.invokevirtual 156, 3) := by decide +kernel
theorem dX8_blended_24 : decode cX8_blended 24 = .ok (.ifCond .ne 6, 3) := by decide +kernel
theorem dX8_blended_27 : decode cX8_blended 27 = .ok (.ldc 77, 2) := by decide +kernel
theorem dX8_blended_29 : decode cX8_blended 29 = .ok (.ireturn, 1) := by decide +kernel
theorem dX8_blended_30 : decode cX8_blended 30 = .ok (.aload_n 0, 1) := by decide +kernel
theorem dX8_blended_31 : decode cX8_blended 31 = .ok (.getfield 26, 3) := by decide +kernel
theorem dX8_blended_34 : decode cX8_blended 34 = .ok (.getfield 148, 3) := by decide +kernel
theorem dX8_blended_37 : decode cX8_blended 37 = .ok (.iload_n 1, 1) := by decide +kernel
theorem dX8_blended_38 : decode cX8_blended 38 = .ok (.invokevirtual 188, 3) := by decide +kernel
theorem dX8_blended_41 : decode cX8_blended 41 = .ok (.ifCond .ne 17, 3) := by decide +kernel
theorem dX8_blended_44 : decode cX8_blended 44 = .ok (.aload_n 0, 1) := by decide +kernel
theorem dX8_blended_45 : decode cX8_blended 45 = .ok (.getfield 26, 3) := by decide +kernel
theorem dX8_blended_48 : decode cX8_blended 48 = .ok (.getfield 148, 3) := by decide +kernel
theorem dX8_blended_51 : decode cX8_blended 51 = .ok (.iload_n 2, 1) := by decide +kernel
theorem dX8_blended_52 : decode cX8_blended 52 = .ok (.invokevirtual 188, 3) := by decide +kernel
theorem dX8_blended_55 : decode cX8_blended 55 = .ok (.ifCond .eq 6, 3) := by decide +kernel
theorem dX8_blended_58 : decode cX8_blended 58 = .ok (.ldc 147, 2) := by decide +kernel
theorem dX8_blended_60 : decode cX8_blended 60 = .ok (.ireturn, 1) := by decide +kernel
theorem dX8_blended_61 : decode cX8_blended 61 = .ok (.aload_n 0, 1) := by decide +kernel
theorem dX8_blended_62 : decode cX8_blended 62 = .ok (.getfield 58, 3) := by decide +kernel
theorem dX8_blended_65 : decode cX8_blended 65 = .ok (.iload_n 1, 1) := by decide +kernel
theorem dX8_blended_66 : decode cX8_blended 66 = .ok (.iload_n 2, 1) := by decide +kernel
theorem dX8_blended_67 : decode cX8_blended 67 = .ok (.iload_n 3, 1) := by decide +kernel
theorem dX8_blended_68 : decode cX8_blended 68 = .ok (.invokevirtual 302, 3) := by decide +kernel
theorem dX8_blended_71 : decode cX8_blended 71 = .ok (.ireturn, 1) := by decide +kernel
theorem dX8_silent_0 : decode cX8_silent 0 = .ok (.iload_n 1, 1) := by decide +kernel
theorem dX8_silent_1 : decode cX8_silent 1 = .ok (.invokestatic 185, 3) := by decide +kernel
theorem dX8_silent_4 : decode cX8_silent 4 = .ok (.ifCond .eq 32, 3) := by decide +kernel
theorem dX8_silent_7 : decode cX8_silent 7 = .ok (.aload_n 0, 1) := by decide +kernel
theorem dX8_silent_8 : decode cX8_silent 8 = .ok (.iload_n 2, 1) := by decide +kernel
theorem dX8_silent_9 : decode cX8_silent 9 = .ok (.iload_n 3, 1) := by decide +kernel
theorem dX8_silent_10 : decode cX8_silent 10 = .ok (.invokevirtual 266, 3) := by decide +kernel
theorem dX8_silent_13 : decode cX8_silent 13 = .ok (.ifCond .eq 23, 3) := by decide +kernel
theorem dX8_silent_16 : decode cX8_silent 16 = .ok (.iload 4, 2) := by decide +kernel
theorem dX8_silent_18 : decode cX8_silent 18 = .ok (.ifCond .lt 18, 3) := by decide +kernel
theorem dX8_silent_21 : decode cX8_silent 21 = .ok (.iload 4, 2) := by decide +kernel
theorem dX8_silent_23 : decode cX8_silent 23 = .ok (.bipush 10, 2) := by decide +kernel
theorem dX8_silent_25 : decode cX8_silent 25 = .ok (.if_icmp .gt 11, 3) := by decide +kernel
theorem dX8_silent_28 : decode cX8_silent 28 = .ok (.iload 5, 2) := by decide +kernel
theorem dX8_silent_30 : decode cX8_silent 30 = .ok (.invokestatic 257, 3) := by decide +kernel
theorem dX8_silent_33 : decode cX8_silent 33 = .ok (.ifCond .ne 7, 3) := by decide +kernel
theorem dX8_silent_36 : decode cX8_silent 36 = .ok (.ldc2_w 305, 3) := by decide +kernel
theorem dX8_silent_39 : decode cX8_silent 39 = .ok (.lreturn, 1) := by decide +kernel
theorem dX8_silent_40 : decode cX8_silent 40 = .ok (.aload_n 0, 1) := by decide +kernel
theorem dX8_silent_41 : decode cX8_silent 41 = .ok (.getfield 26, 3) := by decide +kernel
theorem dX8_silent_44 : decode cX8_silent 44 = .ok (.getfield 148, 3) := by decide +kernel
theorem dX8_silent_47 : decode cX8_silent 47 = .ok (.iload_n 1, 1) := by decide +kernel
theorem dX8_silent_48 : decode cX8_silent 48 = .ok (.invokevirtual 188, 3) := by decide +kernel
theorem dX8_silent_51 : decode cX8_silent 51 = .ok (.ifCond .eq 7, 3) := by decide +kernel
theorem dX8_silent_54 : decode cX8_silent 54 = .ok (.ldc2_w 307, 3) := by decide +kernel
theorem dX8_silent_57 : decode cX8_silent 57 = .ok (.lreturn, 1) := by decide +kernel
theorem dX8_silent_58 : decode cX8_silent 58 = .ok (.aload_n 0, 1) := by decide +kernel
theorem dX8_silent_59 : decode cX8_silent 59 = .ok (.getfield 58, 3) := by decide +kernel
theorem dX8_silent_62 : decode cX8_silent 62 = .ok (.iload_n 1, 1) := by decide +kernel
theorem dX8_silent_63 : decode cX8_silent 63 = .ok (.iload_n 2, 1) := by decide +kernel
theorem dX8_silent_64 : decode cX8_silent 64 = .ok (.iload_n 3, 1) := by decide +kernel
theorem dX8_silent_65 : decode cX8_silent 65 = .ok (.iload 4, 2) := by decide +kernel
theorem dX8_silent_67 : decode cX8_silent 67 = .ok (.invokevirtual 309, 3) := by decide +kernel
theorem dX8_silent_70 : decode cX8_silent 70 = .ok (.lstore 6, 2) := by decide +kernel
theorem dX8_silent_72 : decode cX8_silent 72 = .ok (.ldc2_w 313, 3) := by decide +kernel
theorem dX8_silent_75 : decode cX8_silent 75 = .ok (.aload_n 0, 1) := by decide +kernel
theorem dX8_silent_76 : decode cX8_silent 76 = .ok (.getfield 26, 3) := by decide +kernel
theorem dX8_silent_79 : decode cX8_silent 79 = .ok (.getfield 315, 3) := by decide +kernel
theorem dX8_silent_82 : decode cX8_silent 82 = .ok (.invokestatic 318, 3) := by decide +kernel
theorem dX8_silent_85 : decode cX8_silent 85 = .ok (.lstore 8, 2) := by decide +kernel
theorem dX8_silent_87 : decode cX8_silent 87 = .ok (.iload 5, 2) := by decide +kernel
theorem dX8_silent_89 : decode cX8_silent 89 = .ok (.ifCond .ne 8, 3) := by decide +kernel
theorem dX8_silent_92 : decode cX8_silent 92 = .ok (.lload 6, 2) := by decide +kernel
theorem dX8_silent_94 : decode cX8_silent 94 = .ok (.goto 5, 3) := by decide +kernel
theorem dX8_silent_97 : decode cX8_silent 97 = .ok (.lload 8, 2) := by decide +kernel
theorem dX8_silent_99 : decode cX8_silent 99 = .ok (.lload 6, 2) := by decide +kernel
theorem dX8_silent_101 : decode cX8_silent 101 = .ok (.lload 8, 2) := by decide +kernel
theorem dX8_silent_103 : decode cX8_silent 103 = .ok (.invokestatic 322, 3) := by decide +kernel
theorem dX8_silent_106 : decode cX8_silent 106 = .ok (.ldiv, 1) := by decide +kernel
theorem dX8_silent_107 : decode cX8_silent 107 = .ok (.lreturn, 1) := by decide +kernel
theorem dX8_drawn_0 : decode cX8_drawn 0 = .ok (.aload_n 0, 1) := by decide +kernel
theorem dX8_drawn_1 : decode cX8_drawn 1 = .ok (.invokevirtual 172, 3) := by decide +kernel
theorem dX8_drawn_4 : decode cX8_drawn 4 = .ok (.ifCond .ne 6, 3) := by decide +kernel
theorem dX8_drawn_7 : decode cX8_drawn 7 = .ok (.ldc 147, 2) := by decide +kernel
theorem dX8_drawn_9 : decode cX8_drawn 9 = .ok (.ireturn, 1) := by decide +kernel
theorem dX8_drawn_10 : decode cX8_drawn 10 = .ok (.iload_n 1, 1) := by decide +kernel
theorem dX8_drawn_11 : decode cX8_drawn 11 = .ok (.ifCond .lt 28, 3) := by decide +kernel
theorem dX8_drawn_14 : decode cX8_drawn 14 = .ok (.iload_n 1, 1) := by decide +kernel
theorem dX8_drawn_15 : decode cX8_drawn 15 = .ok (.bipush 60, 2) := by decide +kernel
theorem dX8_drawn_17 : decode cX8_drawn 17 = .ok (.if_icmp .gt 22, 3) := by decide +kernel
theorem dX8_drawn_20 : decode cX8_drawn 20 = .ok (.iload_n 2, 1) := by decide +kernel
theorem dX8_drawn_21 : decode cX8_drawn 21 = .ok (.iconst 1, 1) := by decide +kernel
theorem dX8_drawn_22 : decode cX8_drawn 22 = .ok (.if_icmp .lt 17, 3) := by decide +kernel
theorem dX8_drawn_25 : decode cX8_drawn 25 = .ok (.iload_n 2, 1) := by decide +kernel
theorem dX8_drawn_26 : decode cX8_drawn 26 = .ok (.ldc_w 326, 3) := by decide +kernel
theorem dX8_drawn_29 : decode cX8_drawn 29 = .ok (.if_icmp .gt 10, 3) := by decide +kernel
theorem dX8_drawn_32 : decode cX8_drawn 32 = .ok (.iload_n 3, 1) := by decide +kernel
theorem dX8_drawn_33 : decode cX8_drawn 33 = .ok (.invokestatic 257, 3) := by decide +kernel
theorem dX8_drawn_36 : decode cX8_drawn 36 = .ok (.ifCond .ne 6, 3) := by decide +kernel
theorem dX8_drawn_39 : decode cX8_drawn 39 = .ok (.ldc 77, 2) := by decide +kernel
theorem dX8_drawn_41 : decode cX8_drawn 41 = .ok (.ireturn, 1) := by decide +kernel
theorem dX8_drawn_42 : decode cX8_drawn 42 = .ok (.aload_n 0, 1) := by decide +kernel
theorem dX8_drawn_43 : decode cX8_drawn 43 = .ok (.getfield 58, 3) := by decide +kernel
theorem dX8_drawn_46 : decode cX8_drawn 46 = .ok (.iload_n 1, 1) := by decide +kernel
theorem dX8_drawn_47 : decode cX8_drawn 47 = .ok (.iload_n 2, 1) := by decide +kernel
theorem dX8_drawn_48 : decode cX8_drawn 48 = .ok (.invokevirtual 327, 3) := by decide +kernel
theorem dX8_drawn_51 : decode cX8_drawn 51 = .ok (.astore 4, 2) := by decide +kernel
theorem dX8_drawn_53 : decode cX8_drawn 53 = .ok (.iload_n 3, 1) := by decide +kernel
theorem dX8_drawn_54 : decode cX8_drawn 54 = .ok (.ifCond .ne 11, 3) := by decide +kernel
theorem dX8_drawn_57 : decode cX8_drawn 57 = .ok (.aload 4, 2) := by decide +kernel
theorem dX8_drawn_59 : decode cX8_drawn 59 = .ok (.invokevirtual 331, 3) := by decide +kernel
theorem dX8_drawn_62 : decode cX8_drawn 62 = .ok (.goto 8, 3) := by decide +kernel
theorem dX8_drawn_65 : decode cX8_drawn 65 = .ok (.aload 4, 2) := by decide +kernel
theorem dX8_drawn_67 : decode cX8_drawn 67 = .ok (.invokevirtual 334, 3) := by decide +kernel
theorem dX8_drawn_70 : decode cX8_drawn 70 = .ok (.ireturn, 1) := by decide +kernel
theorem dX8_image_0 : decode cX8_image 0 = .ok (.iload_n 1, 1) := by decide +kernel
theorem dX8_image_1 : decode cX8_image 1 = .ok (.ifCond .lt 8, 3) := by decide +kernel
theorem dX8_image_4 : decode cX8_image 4 = .ok (.iload_n 1, 1) := by decide +kernel
theorem dX8_image_5 : decode cX8_image 5 = .ok (.iconst 2, 1) := by decide +kernel
theorem dX8_image_6 : decode cX8_image 6 = .ok (.if_icmp .lt 6, 3) := by decide +kernel
theorem dX8_image_9 : decode cX8_image 9 = .ok (.ldc 77, 2) := by decide +kernel
theorem dX8_image_11 : decode cX8_image 11 = .ok (.ireturn, 1) := by decide +kernel
theorem dX8_image_12 : decode cX8_image 12 = .ok (.aload_n 0, 1) := by decide +kernel
theorem dX8_image_13 : decode cX8_image 13 = .ok (.invokevirtual 172, 3) := by decide +kernel
theorem dX8_image_16 : decode cX8_image 16 = .ok (.ifCond .ne 6, 3) := by decide +kernel
theorem dX8_image_19 : decode cX8_image 19 = .ok (.ldc 147, 2) := by decide +kernel
theorem dX8_image_21 : decode cX8_image 21 = .ok (.ireturn, 1) := by decide +kernel
theorem dX8_image_22 : decode cX8_image 22 = .ok (.aload_n 0, 1) := by decide +kernel
theorem dX8_image_23 : decode cX8_image 23 = .ok (.getfield 33, 3) := by decide +kernel
theorem dX8_image_26 : decode cX8_image 26 = .ok (.iload_n 1, 1) := by decide +kernel
theorem dX8_image_27 : decode cX8_image 27 = .ok (.aaload, 1) := by decide +kernel
theorem dX8_image_28 : decode cX8_image 28 = .ok (.aload_n 0, 1) := by decide +kernel
theorem dX8_image_29 : decode cX8_image 29 = .ok (.getfield 26, 3) := by decide +kernel
theorem dX8_image_32 : decode cX8_image 32 = .ok (.invokevirtual 132, 3) := by decide +kernel
theorem dX8_image_35 : decode cX8_image 35 = .ok (.iconst 1, 1) := by decide +kernel
theorem dX8_image_36 : decode cX8_image 36 = .ok (.ireturn, 1) := by decide +kernel
theorem dX8_restore_0 : decode cX8_restore 0 = .ok (.iload_n 1, 1) := by decide +kernel
theorem dX8_restore_1 : decode cX8_restore 1 = .ok (.ifCond .lt 8, 3) := by decide +kernel
theorem dX8_restore_4 : decode cX8_restore 4 = .ok (.iload_n 1, 1) := by decide +kernel
theorem dX8_restore_5 : decode cX8_restore 5 = .ok (.iconst 2, 1) := by decide +kernel
theorem dX8_restore_6 : decode cX8_restore 6 = .ok (.if_icmp .lt 6, 3) := by decide +kernel
theorem dX8_restore_9 : decode cX8_restore 9 = .ok (.ldc 77, 2) := by decide +kernel
theorem dX8_restore_11 : decode cX8_restore 11 = .ok (.ireturn, 1) := by decide +kernel
theorem dX8_restore_12 : decode cX8_restore 12 = .ok (.aload_n 0, 1) := by decide +kernel
theorem dX8_restore_13 : decode cX8_restore 13 = .ok (.getfield 33, 3) := by decide +kernel
theorem dX8_restore_16 : decode cX8_restore 16 = .ok (.iload_n 1, 1) := by decide +kernel
theorem dX8_restore_17 : decode cX8_restore 17 = .ok (.aaload, 1) := by decide +kernel
theorem dX8_restore_18 : decode cX8_restore 18 = .ok (.getfield 138, 3) := by decide +kernel
theorem dX8_restore_21 : decode cX8_restore 21 = .ok (.ifCond .ne 6, 3) := by decide +kernel
theorem dX8_restore_24 : decode cX8_restore 24 = .ok (.ldc 147, 2) := by decide +kernel
theorem dX8_restore_26 : decode cX8_restore 26 = .ok (.ireturn, 1) := by decide +kernel
theorem dX8_restore_27 : decode cX8_restore 27 = .ok (.aload_n 0, 1) := by decide +kernel
theorem dX8_restore_28 : decode cX8_restore 28 = .ok (.getfield 26, 3) := by decide +kernel
theorem dX8_restore_31 : decode cX8_restore 31 = .ok (.aload_n 0, 1) := by decide +kernel
theorem dX8_restore_32 : decode cX8_restore 32 = .ok (.getfield 33, 3) := by decide +kernel
theorem dX8_restore_35 : decode cX8_restore 35 = .ok (.iload_n 1, 1) := by decide +kernel
theorem dX8_restore_36 : decode cX8_restore 36 = .ok (.aaload, 1) := by decide +kernel
theorem dX8_restore_37 : decode cX8_restore 37 = .ok (.invokevirtual 132, 3) := by decide +kernel
theorem dX8_restore_40 : decode cX8_restore 40 = .ok (.aload_n 0, 1) := by decide +kernel
theorem dX8_restore_41 : decode cX8_restore 41 = .ok (.getfield 40, 3) := by decide +kernel
theorem dX8_restore_44 : decode cX8_restore 44 = .ok (.invokevirtual 135, 3) := by decide +kernel
theorem dX8_restore_47 : decode cX8_restore 47 = .ok (.iconst 1, 1) := by decide +kernel
theorem dX8_restore_48 : decode cX8_restore 48 = .ok (.ireturn, 1) := by decide +kernel
theorem dX8_kind_0 : decode cX8_kind 0 = .ok (.aload_n 0, 1) := by decide +kernel
theorem dX8_kind_1 : decode cX8_kind 1 = .ok (.iload_n 1, 1) := by decide +kernel
theorem dX8_kind_2 : decode cX8_kind 2 = .ok (.invokevirtual 156, 3) := by decide +kernel
theorem dX8_kind_5 : decode cX8_kind 5 = .ok (.ifCond .eq 15, 3) := by decide +kernel
theorem dX8_kind_8 : decode cX8_kind 8 = .ok (.aload_n 0, 1) := by decide +kernel
theorem dX8_kind_9 : decode cX8_kind 9 = .ok (.getfield 26, 3) := by decide +kernel
theorem dX8_kind_12 : decode cX8_kind 12 = .ok (.getfield 337, 3) := by decide +kernel
theorem dX8_kind_15 : decode cX8_kind 15 = .ok (.iload_n 1, 1) := by decide +kernel
theorem dX8_kind_16 : decode cX8_kind 16 = .ok (.iaload, 1) := by decide +kernel
theorem dX8_kind_17 : decode cX8_kind 17 = .ok (.goto 5, 3) := by decide +kernel
theorem dX8_kind_20 : decode cX8_kind 20 = .ok (.ldc 77, 2) := by decide +kernel
theorem dX8_kind_22 : decode cX8_kind 22 = .ok (.ireturn, 1) := by decide +kernel
theorem dX8_as_0 : decode cX8_as 0 = .ok (.aload_n 0, 1) := by decide +kernel
theorem dX8_as_1 : decode cX8_as 1 = .ok (.iload_n 1, 1) := by decide +kernel
theorem dX8_as_2 : decode cX8_as 2 = .ok (.invokevirtual 156, 3) := by decide +kernel
theorem dX8_as_5 : decode cX8_as 5 = .ok (.ifCond .eq 12, 3) := by decide +kernel
theorem dX8_as_8 : decode cX8_as 8 = .ok (.iload_n 2, 1) := by decide +kernel
theorem dX8_as_9 : decode cX8_as 9 = .ok (.ifCond .lt 8, 3) := by decide +kernel
theorem dX8_as_12 : decode cX8_as 12 = .ok (.iload_n 2, 1) := by decide +kernel
theorem dX8_as_13 : decode cX8_as 13 = .ok (.iconst 5, 1) := by decide +kernel
theorem dX8_as_14 : decode cX8_as 14 = .ok (.if_icmp .le 6, 3) := by decide +kernel
theorem dX8_as_17 : decode cX8_as 17 = .ok (.ldc 77, 2) := by decide +kernel
theorem dX8_as_19 : decode cX8_as 19 = .ok (.ireturn, 1) := by decide +kernel
theorem dX8_as_20 : decode cX8_as 20 = .ok (.aload_n 0, 1) := by decide +kernel
theorem dX8_as_21 : decode cX8_as 21 = .ok (.getfield 26, 3) := by decide +kernel
theorem dX8_as_24 : decode cX8_as 24 = .ok (.getfield 337, 3) := by decide +kernel
theorem dX8_as_27 : decode cX8_as 27 = .ok (.iload_n 1, 1) := by decide +kernel
theorem dX8_as_28 : decode cX8_as 28 = .ok (.iaload, 1) := by decide +kernel
theorem dX8_as_29 : decode cX8_as 29 = .ok (.iload_n 2, 1) := by decide +kernel
theorem dX8_as_30 : decode cX8_as 30 = .ok (.invokestatic 340, 3) := by decide +kernel
theorem dX8_as_33 : decode cX8_as 33 = .ok (.ifCond .eq 11, 3) := by decide +kernel
theorem dX8_as_36 : decode cX8_as 36 = .ok (.aload_n 0, 1) := by decide +kernel
theorem dX8_as_37 : decode cX8_as 37 = .ok (.iload_n 1, 1) := by decide +kernel
theorem dX8_as_38 : decode cX8_as 38 = .ok (.invokevirtual 86, 3) := by decide +kernel
theorem dX8_as_41 : decode cX8_as 41 = .ok (.goto 8, 3) := by decide +kernel
theorem dX8_as_44 : decode cX8_as 44 = .ok (.aload_n 0, 1) := by decide +kernel
theorem dX8_as_45 : decode cX8_as 45 = .ok (.iconst 3, 1) := by decide +kernel
theorem dX8_as_46 : decode cX8_as 46 = .ok (.invokevirtual 78, 3) := by decide +kernel
theorem dX8_as_49 : decode cX8_as 49 = .ok (.ireturn, 1) := by decide +kernel
theorem dX8_ask_0 : decode cX8_ask 0 = .ok (.aload_n 0, 1) := by decide +kernel
theorem dX8_ask_1 : decode cX8_ask 1 = .ok (.iload_n 1, 1) := by decide +kernel
theorem dX8_ask_2 : decode cX8_ask 2 = .ok (.invokevirtual 156, 3) := by decide +kernel
theorem dX8_ask_5 : decode cX8_ask 5 = .ok (.ifCond .eq 10, 3) := by decide +kernel
theorem dX8_ask_8 : decode cX8_ask 8 = .ok (.iload_n 2, 1) := by decide +kernel
theorem dX8_ask_9 : decode cX8_ask 9 = .ok (.invokestatic 257, 3) := by decide +kernel
theorem dX8_ask_12 : decode cX8_ask 12 = .ok (.ifCond .ne 6, 3) := by decide +kernel
theorem dX8_ask_15 : decode cX8_ask 15 = .ok (.ldc 77, 2) := by decide +kernel
theorem dX8_ask_17 : decode cX8_ask 17 = .ok (.ireturn, 1) := by decide +kernel
theorem dX8_ask_18 : decode cX8_ask 18 = .ok (.iload_n 2, 1) := by decide +kernel
theorem dX8_ask_19 : decode cX8_ask 19 = .ok (.ifCond .ne 14, 3) := by decide +kernel
theorem dX8_ask_22 : decode cX8_ask 22 = .ok (.aload_n 0, 1) := by decide +kernel
theorem dX8_ask_23 : decode cX8_ask 23 = .ok (.getfield 65, 3) := by decide +kernel
theorem dX8_ask_26 : decode cX8_ask 26 = .ok (.iload_n 1, 1) := by decide +kernel
theorem dX8_ask_27 : decode cX8_ask 27 = .ok (.invokevirtual 343, 3) := by decide +kernel
theorem dX8_ask_30 : decode cX8_ask 30 = .ok (.goto 11, 3) := by decide +kernel
theorem dX8_ask_33 : decode cX8_ask 33 = .ok (.aload_n 0, 1) := by decide +kernel
theorem dX8_ask_34 : decode cX8_ask 34 = .ok (.getfield 65, 3) := by decide +kernel
theorem dX8_ask_37 : decode cX8_ask 37 = .ok (.iload_n 1, 1) := by decide +kernel
theorem dX8_ask_38 : decode cX8_ask 38 = .ok (.invokevirtual 346, 3) := by decide +kernel
theorem dX8_ask_41 : decode cX8_ask 41 = .ok (.ireturn, 1) := by decide +kernel
theorem dX8_trace_0 : decode cX8_trace 0 = .ok (.aload_n 0, 1) := by decide +kernel
theorem dX8_trace_1 : decode cX8_trace 1 = .ok (.getfield 65, 3) := by decide +kernel
theorem dX8_trace_4 : decode cX8_trace 4 = .ok (.iload_n 1, 1) := by decide +kernel
theorem dX8_trace_5 : decode cX8_trace 5 = .ok (.invokevirtual 349, 3) := by decide +kernel
theorem dX8_trace_8 : decode cX8_trace 8 = .ok (.ireturn, 1) := by decide +kernel
theorem dX8_count_0 : decode cX8_count 0 = .ok (.iload_n 1, 1) := by decide +kernel
theorem dX8_count_1 : decode cX8_count 1 = .ok (.tableswitch 120 0 7 #[47, 55, 63, 71, 82, 93, 104, 112], 47) := by decide +kernel
theorem dX8_count_48 : decode cX8_count 48 = .ok (.aload_n 0, 1) := by decide +kernel
theorem dX8_count_49 : decode cX8_count 49 = .ok (.getfield 10, 3) := by decide +kernel
theorem dX8_count_52 : decode cX8_count 52 = .ok (.invokevirtual 352, 3) := by decide +kernel
theorem dX8_count_55 : decode cX8_count 55 = .ok (.ireturn, 1) := by decide +kernel
theorem dX8_count_56 : decode cX8_count 56 = .ok (.aload_n 0, 1) := by decide +kernel
theorem dX8_count_57 : decode cX8_count 57 = .ok (.getfield 26, 3) := by decide +kernel
theorem dX8_count_60 : decode cX8_count 60 = .ok (.getfield 138, 3) := by decide +kernel
theorem dX8_count_63 : decode cX8_count 63 = .ok (.ireturn, 1) := by decide +kernel
theorem dX8_count_64 : decode cX8_count 64 = .ok (.aload_n 0, 1) := by decide +kernel
theorem dX8_count_65 : decode cX8_count 65 = .ok (.getfield 26, 3) := by decide +kernel
theorem dX8_count_68 : decode cX8_count 68 = .ok (.getfield 315, 3) := by decide +kernel
theorem dX8_count_71 : decode cX8_count 71 = .ok (.ireturn, 1) := by decide +kernel
theorem dX8_count_72 : decode cX8_count 72 = .ok (.aload_n 0, 1) := by decide +kernel
theorem dX8_count_73 : decode cX8_count 73 = .ok (.getfield 26, 3) := by decide +kernel
theorem dX8_count_76 : decode cX8_count 76 = .ok (.getfield 148, 3) := by decide +kernel
theorem dX8_count_79 : decode cX8_count 79 = .ok (.invokevirtual 355, 3) := by decide +kernel
theorem dX8_count_82 : decode cX8_count 82 = .ok (.ireturn, 1) := by decide +kernel
theorem dX8_count_83 : decode cX8_count 83 = .ok (.aload_n 0, 1) := by decide +kernel
theorem dX8_count_84 : decode cX8_count 84 = .ok (.getfield 26, 3) := by decide +kernel
theorem dX8_count_87 : decode cX8_count 87 = .ok (.getfield 148, 3) := by decide +kernel
theorem dX8_count_90 : decode cX8_count 90 = .ok (.invokevirtual 176, 3) := by decide +kernel
theorem dX8_count_93 : decode cX8_count 93 = .ok (.ireturn, 1) := by decide +kernel
theorem dX8_count_94 : decode cX8_count 94 = .ok (.aload_n 0, 1) := by decide +kernel
theorem dX8_count_95 : decode cX8_count 95 = .ok (.getfield 26, 3) := by decide +kernel
theorem dX8_count_98 : decode cX8_count 98 = .ok (.getfield 148, 3) := by decide +kernel
theorem dX8_count_101 : decode cX8_count 101 = .ok (.invokevirtual 331, 3) := by decide +kernel
theorem dX8_count_104 : decode cX8_count 104 = .ok (.ireturn, 1) := by decide +kernel
theorem dX8_count_105 : decode cX8_count 105 = .ok (.aload_n 0, 1) := by decide +kernel
theorem dX8_count_106 : decode cX8_count 106 = .ok (.getfield 40, 3) := by decide +kernel
theorem dX8_count_109 : decode cX8_count 109 = .ok (.getfield 144, 3) := by decide +kernel
theorem dX8_count_112 : decode cX8_count 112 = .ok (.ireturn, 1) := by decide +kernel
theorem dX8_count_113 : decode cX8_count 113 = .ok (.aload_n 0, 1) := by decide +kernel
theorem dX8_count_114 : decode cX8_count 114 = .ok (.getfield 19, 3) := by decide +kernel
theorem dX8_count_117 : decode cX8_count 117 = .ok (.getfield 117, 3) := by decide +kernel
theorem dX8_count_120 : decode cX8_count 120 = .ok (.ireturn, 1) := by decide +kernel
theorem dX8_count_121 : decode cX8_count 121 = .ok (.ldc 77, 2) := by decide +kernel
theorem dX8_count_123 : decode cX8_count 123 = .ok (.ireturn, 1) := by decide +kernel
theorem dX8_status_0 : decode cX8_status 0 = .ok (.aload_n 0, 1) := by decide +kernel
theorem dX8_status_1 : decode cX8_status 1 = .ok (.getfield 69, 3) := by decide +kernel
theorem dX8_status_4 : decode cX8_status 4 = .ok (.ireturn, 1) := by decide +kernel
theorem dX8_found_0 : decode cX8_found 0 = .ok (.aload_n 0, 1) := by decide +kernel
theorem dX8_found_1 : decode cX8_found 1 = .ok (.iload_n 1, 1) := by decide +kernel
theorem dX8_found_2 : decode cX8_found 2 = .ok (.putfield 69, 3) := by decide +kernel
theorem dX8_found_5 : decode cX8_found 5 = .ok (.ldc_w 356, 3) := by decide +kernel
theorem dX8_found_8 : decode cX8_found 8 = .ok (.iload_n 1, 1) := by decide +kernel
theorem dX8_found_9 : decode cX8_found 9 = .ok (.isub, 1) := by decide +kernel
theorem dX8_found_10 : decode cX8_found 10 = .ok (.ireturn, 1) := by decide +kernel
theorem dX8_fine_0 : decode cX8_fine 0 = .ok (.aload_n 0, 1) := by decide +kernel
theorem dX8_fine_1 : decode cX8_fine 1 = .ok (.iconst 0, 1) := by decide +kernel
theorem dX8_fine_2 : decode cX8_fine 2 = .ok (.putfield 69, 3) := by decide +kernel
theorem dX8_fine_5 : decode cX8_fine 5 = .ok (.iload_n 1, 1) := by decide +kernel
theorem dX8_fine_6 : decode cX8_fine 6 = .ok (.ireturn, 1) := by decide +kernel
theorem dX8_isTownThere_0 : decode cX8_isTownThere 0 = .ok (.aload_n 0, 1) := by decide +kernel
theorem dX8_isTownThere_1 : decode cX8_isTownThere 1 = .ok (.getfield 26, 3) := by decide +kernel
theorem dX8_isTownThere_4 : decode cX8_isTownThere 4 = .ok (.getfield 138, 3) := by decide +kernel
theorem dX8_isTownThere_7 : decode cX8_isTownThere 7 = .ok (.ifCond .le 7, 3) := by decide +kernel
theorem dX8_isTownThere_10 : decode cX8_isTownThere 10 = .ok (.iconst 1, 1) := by decide +kernel
theorem dX8_isTownThere_11 : decode cX8_isTownThere 11 = .ok (.goto 4, 3) := by decide +kernel
theorem dX8_isTownThere_14 : decode cX8_isTownThere 14 = .ok (.iconst 0, 1) := by decide +kernel
theorem dX8_isTownThere_15 : decode cX8_isTownThere 15 = .ok (.ireturn, 1) := by decide +kernel
theorem dX8_isDrinker_0 : decode cX8_isDrinker 0 = .ok (.iload_n 1, 1) := by decide +kernel
theorem dX8_isDrinker_1 : decode cX8_isDrinker 1 = .ok (.ifCond .lt 18, 3) := by decide +kernel
theorem dX8_isDrinker_4 : decode cX8_isDrinker 4 = .ok (.iload_n 1, 1) := by decide +kernel
theorem dX8_isDrinker_5 : decode cX8_isDrinker 5 = .ok (.aload_n 0, 1) := by decide +kernel
theorem dX8_isDrinker_6 : decode cX8_isDrinker 6 = .ok (.getfield 26, 3) := by decide +kernel
theorem dX8_isDrinker_9 : decode cX8_isDrinker 9 = .ok (.getfield 138, 3) := by decide +kernel
theorem dX8_isDrinker_12 : decode cX8_isDrinker 12 = .ok (.if_icmp .ge 7, 3) := by decide +kernel
theorem dX8_isDrinker_15 : decode cX8_isDrinker 15 = .ok (.iconst 1, 1) := by decide +kernel
theorem dX8_isDrinker_16 : decode cX8_isDrinker 16 = .ok (.goto 4, 3) := by decide +kernel
theorem dX8_isDrinker_19 : decode cX8_isDrinker 19 = .ok (.iconst 0, 1) := by decide +kernel
theorem dX8_isDrinker_20 : decode cX8_isDrinker 20 = .ok (.ireturn, 1) := by decide +kernel
theorem dX8_areTwoDrinkers_0 : decode cX8_areTwoDrinkers 0 = .ok (.aload_n 0, 1) := by decide +kernel
theorem dX8_areTwoDrinkers_1 : decode cX8_areTwoDrinkers 1 = .ok (.iload_n 1, 1) := by decide +kernel
theorem dX8_areTwoDrinkers_2 : decode cX8_areTwoDrinkers 2 = .ok (.invokevirtual 156, 3) := by decide +kernel
theorem dX8_areTwoDrinkers_5 : decode cX8_areTwoDrinkers 5 = .ok (.ifCond .eq 20, 3) := by decide +kernel
theorem dX8_areTwoDrinkers_8 : decode cX8_areTwoDrinkers 8 = .ok (.aload_n 0, 1) := by decide +kernel
theorem dX8_areTwoDrinkers_9 : decode cX8_areTwoDrinkers 9 = .ok (.iload_n 2, 1) := by decide +kernel
theorem dX8_areTwoDrinkers_10 : decode cX8_areTwoDrinkers 10 = .ok (.invokevirtual 156, 3) := by decide +kernel
theorem dX8_areTwoDrinkers_13 : decode cX8_areTwoDrinkers 13 = .ok (.ifCond .eq 12, 3) := by decide +kernel
theorem dX8_areTwoDrinkers_16 : decode cX8_areTwoDrinkers 16 = .ok (.iload_n 1, 1) := by decide +kernel
theorem dX8_areTwoDrinkers_17 : decode cX8_areTwoDrinkers 17 = .ok (.iload_n 2, 1) := by decide +kernel
theorem dX8_areTwoDrinkers_18 : decode cX8_areTwoDrinkers 18 = .ok (.if_icmp .eq 7, 3) := by decide +kernel
theorem dX8_areTwoDrinkers_21 : decode cX8_areTwoDrinkers 21 = .ok (.iconst 1, 1) := by decide +kernel
theorem dX8_areTwoDrinkers_22 : decode cX8_areTwoDrinkers 22 = .ok (.goto 4, 3) := by decide +kernel
theorem dX8_areTwoDrinkers_25 : decode cX8_areTwoDrinkers 25 = .ok (.iconst 0, 1) := by decide +kernel
theorem dX8_areTwoDrinkers_26 : decode cX8_areTwoDrinkers 26 = .ok (.ireturn, 1) := by decide +kernel
theorem dX8_areDrinkers_0 : decode cX8_areDrinkers 0 = .ok (.iload_n 1, 1) := by decide +kernel
theorem dX8_areDrinkers_1 : decode cX8_areDrinkers 1 = .ok (.aload_n 0, 1) := by decide +kernel
theorem dX8_areDrinkers_2 : decode cX8_areDrinkers 2 = .ok (.getfield 26, 3) := by decide +kernel
theorem dX8_areDrinkers_5 : decode cX8_areDrinkers 5 = .ok (.invokevirtual 357, 3) := by decide +kernel
theorem dX8_areDrinkers_8 : decode cX8_areDrinkers 8 = .ok (.iconst (-1), 1) := by decide +kernel
theorem dX8_areDrinkers_9 : decode cX8_areDrinkers 9 = .ok (.ixor, 1) := by decide +kernel
theorem dX8_areDrinkers_10 : decode cX8_areDrinkers 10 = .ok (.iand, 1) := by decide +kernel
theorem dX8_areDrinkers_11 : decode cX8_areDrinkers 11 = .ok (.ifCond .ne 7, 3) := by decide +kernel
theorem dX8_areDrinkers_14 : decode cX8_areDrinkers 14 = .ok (.iconst 1, 1) := by decide +kernel
theorem dX8_areDrinkers_15 : decode cX8_areDrinkers 15 = .ok (.goto 4, 3) := by decide +kernel
theorem dX8_areDrinkers_18 : decode cX8_areDrinkers 18 = .ok (.iconst 0, 1) := by decide +kernel
theorem dX8_areDrinkers_19 : decode cX8_areDrinkers 19 = .ok (.ireturn, 1) := by decide +kernel
theorem dX8_refusalOfTaps_0 : decode cX8_refusalOfTaps 0 = .ok (.aload_n 0, 1) := by decide +kernel
theorem dX8_refusalOfTaps_1 : decode cX8_refusalOfTaps 1 = .ok (.getfield 26, 3) := by decide +kernel
theorem dX8_refusalOfTaps_4 : decode cX8_refusalOfTaps 4 = .ok (.getfield 148, 3) := by decide +kernel
theorem dX8_refusalOfTaps_7 : decode cX8_refusalOfTaps 7 = .ok (.iload_n 1, 1) := by decide +kernel
theorem dX8_refusalOfTaps_8 : decode cX8_refusalOfTaps 8 = .ok (.invokevirtual 188, 3) := by decide +kernel
theorem dX8_refusalOfTaps_11 : decode cX8_refusalOfTaps 11 = .ok (.ifCond .eq 6, 3) := by decide +kernel
theorem dX8_refusalOfTaps_14 : decode cX8_refusalOfTaps 14 = .ok (.ldc 147, 2) := by decide +kernel
theorem dX8_refusalOfTaps_16 : decode cX8_refusalOfTaps 16 = .ok (.ireturn, 1) := by decide +kernel
theorem dX8_refusalOfTaps_17 : decode cX8_refusalOfTaps 17 = .ok (.aload_n 0, 1) := by decide +kernel
theorem dX8_refusalOfTaps_18 : decode cX8_refusalOfTaps 18 = .ok (.getfield 10, 3) := by decide +kernel
theorem dX8_refusalOfTaps_21 : decode cX8_refusalOfTaps 21 = .ok (.iload_n 2, 1) := by decide +kernel
theorem dX8_refusalOfTaps_22 : decode cX8_refusalOfTaps 22 = .ok (.invokevirtual 89, 3) := by decide +kernel
theorem dX8_refusalOfTaps_25 : decode cX8_refusalOfTaps 25 = .ok (.ifCond .eq 9, 3) := by decide +kernel
theorem dX8_refusalOfTaps_28 : decode cX8_refusalOfTaps 28 = .ok (.aload_n 0, 1) := by decide +kernel
theorem dX8_refusalOfTaps_29 : decode cX8_refusalOfTaps 29 = .ok (.iconst 1, 1) := by decide +kernel
theorem dX8_refusalOfTaps_30 : decode cX8_refusalOfTaps 30 = .ok (.invokevirtual 78, 3) := by decide +kernel
theorem dX8_refusalOfTaps_33 : decode cX8_refusalOfTaps 33 = .ok (.ireturn, 1) := by decide +kernel
theorem dX8_refusalOfTaps_34 : decode cX8_refusalOfTaps 34 = .ok (.aload_n 0, 1) := by decide +kernel
theorem dX8_refusalOfTaps_35 : decode cX8_refusalOfTaps 35 = .ok (.getfield 10, 3) := by decide +kernel
theorem dX8_refusalOfTaps_38 : decode cX8_refusalOfTaps 38 = .ok (.iload_n 2, 1) := by decide +kernel
theorem dX8_refusalOfTaps_39 : decode cX8_refusalOfTaps 39 = .ok (.iload_n 3, 1) := by decide +kernel
theorem dX8_refusalOfTaps_40 : decode cX8_refusalOfTaps 40 = .ok (.iconst 2, 1) := by decide +kernel
theorem dX8_refusalOfTaps_41 : decode cX8_refusalOfTaps 41 = .ok (.iload 4, 2) := by decide +kernel
theorem dX8_refusalOfTaps_43 : decode cX8_refusalOfTaps 43 = .ok (.imul, 1) := by decide +kernel
theorem dX8_refusalOfTaps_44 : decode cX8_refusalOfTaps 44 = .ok (.invokevirtual 92, 3) := by decide +kernel
theorem dX8_refusalOfTaps_47 : decode cX8_refusalOfTaps 47 = .ok (.ifCond .ne 9, 3) := by decide +kernel
theorem dX8_refusalOfTaps_50 : decode cX8_refusalOfTaps 50 = .ok (.aload_n 0, 1) := by decide +kernel
theorem dX8_refusalOfTaps_51 : decode cX8_refusalOfTaps 51 = .ok (.iconst 2, 1) := by decide +kernel
theorem dX8_refusalOfTaps_52 : decode cX8_refusalOfTaps 52 = .ok (.invokevirtual 78, 3) := by decide +kernel
theorem dX8_refusalOfTaps_55 : decode cX8_refusalOfTaps 55 = .ok (.ireturn, 1) := by decide +kernel
theorem dX8_refusalOfTaps_56 : decode cX8_refusalOfTaps 56 = .ok (.aload_n 0, 1) := by decide +kernel
theorem dX8_refusalOfTaps_57 : decode cX8_refusalOfTaps 57 = .ok (.iload_n 2, 1) := by decide +kernel
theorem dX8_refusalOfTaps_58 : decode cX8_refusalOfTaps 58 = .ok (.iload_n 3, 1) := by decide +kernel
theorem dX8_refusalOfTaps_59 : decode cX8_refusalOfTaps 59 = .ok (.iload 4, 2) := by decide +kernel
theorem dX8_refusalOfTaps_61 : decode cX8_refusalOfTaps 61 = .ok (.invokevirtual 360, 3) := by decide +kernel
theorem dX8_refusalOfTaps_64 : decode cX8_refusalOfTaps 64 = .ok (.ifCond .eq 7, 3) := by decide +kernel
theorem dX8_refusalOfTaps_67 : decode cX8_refusalOfTaps 67 = .ok (.iconst 0, 1) := by decide +kernel
theorem dX8_refusalOfTaps_68 : decode cX8_refusalOfTaps 68 = .ok (.goto 5, 3) := by decide +kernel
theorem dX8_refusalOfTaps_71 : decode cX8_refusalOfTaps 71 = .ok (.ldc 77, 2) := by decide +kernel
theorem dX8_refusalOfTaps_73 : decode cX8_refusalOfTaps 73 = .ok (.ireturn, 1) := by decide +kernel
theorem dX8_tellsDrinkers_0 : decode cX8_tellsDrinkers 0 = .ok (.iconst 0, 1) := by decide +kernel
theorem dX8_tellsDrinkers_1 : decode cX8_tellsDrinkers 1 = .ok (.istore 4, 2) := by decide +kernel
theorem dX8_tellsDrinkers_3 : decode cX8_tellsDrinkers 3 = .ok (.iload 4, 2) := by decide +kernel
theorem dX8_tellsDrinkers_5 : decode cX8_tellsDrinkers 5 = .ok (.iload_n 3, 1) := by decide +kernel
theorem dX8_tellsDrinkers_6 : decode cX8_tellsDrinkers 6 = .ok (.if_icmp .ge 34, 3) := by decide +kernel
theorem dX8_tellsDrinkers_9 : decode cX8_tellsDrinkers 9 = .ok (.aload_n 0, 1) := by decide +kernel
theorem dX8_tellsDrinkers_10 : decode cX8_tellsDrinkers 10 = .ok (.aload_n 0, 1) := by decide +kernel
theorem dX8_tellsDrinkers_11 : decode cX8_tellsDrinkers 11 = .ok (.getfield 10, 3) := by decide +kernel
theorem dX8_tellsDrinkers_14 : decode cX8_tellsDrinkers 14 = .ok (.getfield 104, 3) := by decide +kernel
theorem dX8_tellsDrinkers_17 : decode cX8_tellsDrinkers 17 = .ok (.iload_n 1, 1) := by decide +kernel
theorem dX8_tellsDrinkers_18 : decode cX8_tellsDrinkers 18 = .ok (.aaload, 1) := by decide +kernel
theorem dX8_tellsDrinkers_19 : decode cX8_tellsDrinkers 19 = .ok (.iload_n 2, 1) := by decide +kernel
theorem dX8_tellsDrinkers_20 : decode cX8_tellsDrinkers 20 = .ok (.iconst 2, 1) := by decide +kernel
theorem dX8_tellsDrinkers_21 : decode cX8_tellsDrinkers 21 = .ok (.iload 4, 2) := by decide +kernel
theorem dX8_tellsDrinkers_23 : decode cX8_tellsDrinkers 23 = .ok (.imul, 1) := by decide +kernel
theorem dX8_tellsDrinkers_24 : decode cX8_tellsDrinkers 24 = .ok (.iadd, 1) := by decide +kernel
theorem dX8_tellsDrinkers_25 : decode cX8_tellsDrinkers 25 = .ok (.iaload, 1) := by decide +kernel
theorem dX8_tellsDrinkers_26 : decode cX8_tellsDrinkers 26 = .ok (.invokevirtual 156, 3) := by decide +kernel
theorem dX8_tellsDrinkers_29 : decode cX8_tellsDrinkers 29 = .ok (.ifCond .ne 5, 3) := by decide +kernel
theorem dX8_tellsDrinkers_32 : decode cX8_tellsDrinkers 32 = .ok (.iconst 0, 1) := by decide +kernel
theorem dX8_tellsDrinkers_33 : decode cX8_tellsDrinkers 33 = .ok (.ireturn, 1) := by decide +kernel
theorem dX8_tellsDrinkers_34 : decode cX8_tellsDrinkers 34 = .ok (.iinc 4 1, 3) := by decide +kernel
theorem dX8_tellsDrinkers_37 : decode cX8_tellsDrinkers 37 = .ok (.goto (-34), 3) := by decide +kernel
theorem dX8_tellsDrinkers_40 : decode cX8_tellsDrinkers 40 = .ok (.iconst 1, 1) := by decide +kernel
theorem dX8_tellsDrinkers_41 : decode cX8_tellsDrinkers 41 = .ok (.ireturn, 1) := by decide +kernel
theorem dX8_isRow_0 : decode cX8_isRow 0 = .ok (.iload_n 0, 1) := by decide +kernel
theorem dX8_isRow_1 : decode cX8_isRow 1 = .ok (.ifCond .lt 13, 3) := by decide +kernel
theorem dX8_isRow_4 : decode cX8_isRow 4 = .ok (.iload_n 0, 1) := by decide +kernel
theorem dX8_isRow_5 : decode cX8_isRow 5 = .ok (.bipush 8, 2) := by decide +kernel
theorem dX8_isRow_7 : decode cX8_isRow 7 = .ok (.if_icmp .ge 7, 3) := by decide +kernel
theorem dX8_isRow_10 : decode cX8_isRow 10 = .ok (.iconst 1, 1) := by decide +kernel
theorem dX8_isRow_11 : decode cX8_isRow 11 = .ok (.goto 4, 3) := by decide +kernel
theorem dX8_isRow_14 : decode cX8_isRow 14 = .ok (.iconst 0, 1) := by decide +kernel
theorem dX8_isRow_15 : decode cX8_isRow 15 = .ok (.ireturn, 1) := by decide +kernel
theorem dX8_isCask_0 : decode cX8_isCask 0 = .ok (.iload_n 0, 1) := by decide +kernel
theorem dX8_isCask_1 : decode cX8_isCask 1 = .ok (.ifCond .lt 12, 3) := by decide +kernel
theorem dX8_isCask_4 : decode cX8_isCask 4 = .ok (.iload_n 0, 1) := by decide +kernel
theorem dX8_isCask_5 : decode cX8_isCask 5 = .ok (.iconst 4, 1) := by decide +kernel
theorem dX8_isCask_6 : decode cX8_isCask 6 = .ok (.if_icmp .ge 7, 3) := by decide +kernel
theorem dX8_isCask_9 : decode cX8_isCask 9 = .ok (.iconst 1, 1) := by decide +kernel
theorem dX8_isCask_10 : decode cX8_isCask 10 = .ok (.goto 4, 3) := by decide +kernel
theorem dX8_isCask_13 : decode cX8_isCask 13 = .ok (.iconst 0, 1) := by decide +kernel
theorem dX8_isCask_14 : decode cX8_isCask 14 = .ok (.ireturn, 1) := by decide +kernel
theorem dX8_isFirstOrSecond_0 : decode cX8_isFirstOrSecond 0 = .ok (.iload_n 0, 1) := by decide +kernel
theorem dX8_isFirstOrSecond_1 : decode cX8_isFirstOrSecond 1 = .ok (.ifCond .eq 8, 3) := by decide +kernel
theorem dX8_isFirstOrSecond_4 : decode cX8_isFirstOrSecond 4 = .ok (.iload_n 0, 1) := by decide +kernel
theorem dX8_isFirstOrSecond_5 : decode cX8_isFirstOrSecond 5 = .ok (.iconst 1, 1) := by decide +kernel
theorem dX8_isFirstOrSecond_6 : decode cX8_isFirstOrSecond 6 = .ok (.if_icmp .ne 7, 3) := by decide +kernel
theorem dX8_isFirstOrSecond_9 : decode cX8_isFirstOrSecond 9 = .ok (.iconst 1, 1) := by decide +kernel
theorem dX8_isFirstOrSecond_10 : decode cX8_isFirstOrSecond 10 = .ok (.goto 4, 3) := by decide +kernel
theorem dX8_isFirstOrSecond_13 : decode cX8_isFirstOrSecond 13 = .ok (.iconst 0, 1) := by decide +kernel
theorem dX8_isFirstOrSecond_14 : decode cX8_isFirstOrSecond 14 = .ok (.ireturn, 1) := by decide +kernel
theorem dX8_isKindOf_0 : decode cX8_isKindOf 0 = .ok (.iload_n 1, 1) := by decide +kernel
theorem dX8_isKindOf_1 : decode cX8_isKindOf 1 = .ok (.ifCond .eq 8, 3) := by decide +kernel
theorem dX8_isKindOf_4 : decode cX8_isKindOf 4 = .ok (.iload_n 1, 1) := by decide +kernel
theorem dX8_isKindOf_5 : decode cX8_isKindOf 5 = .ok (.iload_n 0, 1) := by decide +kernel
theorem dX8_isKindOf_6 : decode cX8_isKindOf 6 = .ok (.if_icmp .ne 5, 3) := by decide +kernel
theorem dX8_isKindOf_9 : decode cX8_isKindOf 9 = .ok (.iconst 1, 1) := by decide +kernel
theorem dX8_isKindOf_10 : decode cX8_isKindOf 10 = .ok (.ireturn, 1) := by decide +kernel
theorem dX8_isKindOf_11 : decode cX8_isKindOf 11 = .ok (.iload_n 1, 1) := by decide +kernel
theorem dX8_isKindOf_12 : decode cX8_isKindOf 12 = .ok (.iconst 1, 1) := by decide +kernel
theorem dX8_isKindOf_13 : decode cX8_isKindOf 13 = .ok (.if_icmp .ne 21, 3) := by decide +kernel
theorem dX8_isKindOf_16 : decode cX8_isKindOf 16 = .ok (.iload_n 0, 1) := by decide +kernel
theorem dX8_isKindOf_17 : decode cX8_isKindOf 17 = .ok (.iconst 2, 1) := by decide +kernel
theorem dX8_isKindOf_18 : decode cX8_isKindOf 18 = .ok (.if_icmp .eq 8, 3) := by decide +kernel
theorem dX8_isKindOf_21 : decode cX8_isKindOf 21 = .ok (.iload_n 0, 1) := by decide +kernel
theorem dX8_isKindOf_22 : decode cX8_isKindOf 22 = .ok (.iconst 3, 1) := by decide +kernel
theorem dX8_isKindOf_23 : decode cX8_isKindOf 23 = .ok (.if_icmp .ne 7, 3) := by decide +kernel
theorem dX8_isKindOf_26 : decode cX8_isKindOf 26 = .ok (.iconst 1, 1) := by decide +kernel
theorem dX8_isKindOf_27 : decode cX8_isKindOf 27 = .ok (.goto 22, 3) := by decide +kernel
theorem dX8_isKindOf_30 : decode cX8_isKindOf 30 = .ok (.iconst 0, 1) := by decide +kernel
theorem dX8_isKindOf_31 : decode cX8_isKindOf 31 = .ok (.goto 18, 3) := by decide +kernel
theorem dX8_isKindOf_34 : decode cX8_isKindOf 34 = .ok (.iload_n 1, 1) := by decide +kernel
theorem dX8_isKindOf_35 : decode cX8_isKindOf 35 = .ok (.iconst 4, 1) := by decide +kernel
theorem dX8_isKindOf_36 : decode cX8_isKindOf 36 = .ok (.if_icmp .ne 12, 3) := by decide +kernel
theorem dX8_isKindOf_39 : decode cX8_isKindOf 39 = .ok (.iload_n 0, 1) := by decide +kernel
theorem dX8_isKindOf_40 : decode cX8_isKindOf 40 = .ok (.iconst 5, 1) := by decide +kernel
theorem dX8_isKindOf_41 : decode cX8_isKindOf 41 = .ok (.if_icmp .ne 7, 3) := by decide +kernel
theorem dX8_isKindOf_44 : decode cX8_isKindOf 44 = .ok (.iconst 1, 1) := by decide +kernel
theorem dX8_isKindOf_45 : decode cX8_isKindOf 45 = .ok (.goto 4, 3) := by decide +kernel
theorem dX8_isKindOf_48 : decode cX8_isKindOf 48 = .ok (.iconst 0, 1) := by decide +kernel
theorem dX8_isKindOf_49 : decode cX8_isKindOf 49 = .ok (.ireturn, 1) := by decide +kernel
theorem dX8_countOrSet_0 : decode cX8_countOrSet 0 = .ok (.iload_n 0, 1) := by decide +kernel
theorem dX8_countOrSet_1 : decode cX8_countOrSet 1 = .ok (.ldc 165, 2) := by decide +kernel
theorem dX8_countOrSet_3 : decode cX8_countOrSet 3 = .ok (.if_icmp .eq 8, 3) := by decide +kernel
theorem dX8_countOrSet_6 : decode cX8_countOrSet 6 = .ok (.iload_n 1, 1) := by decide +kernel
theorem dX8_countOrSet_7 : decode cX8_countOrSet 7 = .ok (.iconst 1, 1) := by decide +kernel
theorem dX8_countOrSet_8 : decode cX8_countOrSet 8 = .ok (.if_icmp .ne 7, 3) := by decide +kernel
theorem dX8_countOrSet_11 : decode cX8_countOrSet 11 = .ok (.iload_n 0, 1) := by decide +kernel
theorem dX8_countOrSet_12 : decode cX8_countOrSet 12 = .ok (.goto 7, 3) := by decide +kernel
theorem dX8_countOrSet_15 : decode cX8_countOrSet 15 = .ok (.iload_n 0, 1) := by decide +kernel
theorem dX8_countOrSet_16 : decode cX8_countOrSet 16 = .ok (.invokestatic 252, 3) := by decide +kernel
theorem dX8_countOrSet_19 : decode cX8_countOrSet 19 = .ok (.ireturn, 1) := by decide +kernel
theorem dX8_power_0 : decode cX8_power 0 = .ok (.lconst 1, 1) := by decide +kernel
theorem dX8_power_1 : decode cX8_power 1 = .ok (.lstore_n 3, 1) := by decide +kernel
theorem dX8_power_2 : decode cX8_power 2 = .ok (.iconst 0, 1) := by decide +kernel
theorem dX8_power_3 : decode cX8_power 3 = .ok (.istore 5, 2) := by decide +kernel
theorem dX8_power_5 : decode cX8_power 5 = .ok (.iload 5, 2) := by decide +kernel
theorem dX8_power_7 : decode cX8_power 7 = .ok (.iload_n 2, 1) := by decide +kernel
theorem dX8_power_8 : decode cX8_power 8 = .ok (.if_icmp .ge 13, 3) := by decide +kernel
theorem dX8_power_11 : decode cX8_power 11 = .ok (.lload_n 3, 1) := by decide +kernel
theorem dX8_power_12 : decode cX8_power 12 = .ok (.lload_n 0, 1) := by decide +kernel
theorem dX8_power_13 : decode cX8_power 13 = .ok (.lmul, 1) := by decide +kernel
theorem dX8_power_14 : decode cX8_power 14 = .ok (.lstore_n 3, 1) := by decide +kernel
theorem dX8_power_15 : decode cX8_power 15 = .ok (.iinc 5 1, 3) := by decide +kernel
