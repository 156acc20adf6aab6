theorem dX3_fits_89 : decode cX3_fits 89 = .ok (.iinc 8 1, 3) := by decide +kernel
theorem dX3_fits_92 : decode cX3_fits 92 = .ok (.goto (-55), 3) := by decide +kernel
theorem dX3_fits_95 : decode cX3_fits 95 = .ok (.iconst 1, 1) := by decide +kernel
theorem dX3_fits_96 : decode cX3_fits 96 = .ok (.ireturn, 1) := by decide +kernel
theorem dX3_bestTap_0 : decode cX3_bestTap 0 = .ok (.iconst 0, 1) := by decide +kernel
theorem dX3_bestTap_1 : decode cX3_bestTap 1 = .ok (.istore_n 2, 1) := by decide +kernel
theorem dX3_bestTap_2 : decode cX3_bestTap 2 = .ok (.iconst (-1), 1) := by decide +kernel
theorem dX3_bestTap_3 : decode cX3_bestTap 3 = .ok (.istore_n 3, 1) := by decide +kernel
theorem dX3_bestTap_4 : decode cX3_bestTap 4 = .ok (.iconst 0, 1) := by decide +kernel
theorem dX3_bestTap_5 : decode cX3_bestTap 5 = .ok (.istore 4, 2) := by decide +kernel
theorem dX3_bestTap_7 : decode cX3_bestTap 7 = .ok (.iload 4, 2) := by decide +kernel
theorem dX3_bestTap_9 : decode cX3_bestTap 9 = .ok (.aload_n 0, 1) := by decide +kernel
theorem dX3_bestTap_10 : decode cX3_bestTap 10 = .ok (.getfield 22, 3) := by decide +kernel
theorem dX3_bestTap_13 : decode cX3_bestTap 13 = .ok (.getfield 93, 3) := by decide +kernel
theorem dX3_bestTap_16 : decode cX3_bestTap 16 = .ok (.if_icmp .ge 30, 3) := by decide +kernel
theorem dX3_bestTap_19 : decode cX3_bestTap 19 = .ok (.aload_n 0, 1) := by decide +kernel
theorem dX3_bestTap_20 : decode cX3_bestTap 20 = .ok (.iload_n 1, 1) := by decide +kernel
theorem dX3_bestTap_21 : decode cX3_bestTap 21 = .ok (.iload 4, 2) := by decide +kernel
theorem dX3_bestTap_23 : decode cX3_bestTap 23 = .ok (.invokevirtual 96, 3) := by decide +kernel
theorem dX3_bestTap_26 : decode cX3_bestTap 26 = .ok (.istore 5, 2) := by decide +kernel
theorem dX3_bestTap_28 : decode cX3_bestTap 28 = .ok (.iload 5, 2) := by decide +kernel
theorem dX3_bestTap_30 : decode cX3_bestTap 30 = .ok (.iload_n 3, 1) := by decide +kernel
theorem dX3_bestTap_31 : decode cX3_bestTap 31 = .ok (.if_icmp .le 9, 3) := by decide +kernel
theorem dX3_bestTap_34 : decode cX3_bestTap 34 = .ok (.iload 4, 2) := by decide +kernel
theorem dX3_bestTap_36 : decode cX3_bestTap 36 = .ok (.istore_n 2, 1) := by decide +kernel
theorem dX3_bestTap_37 : decode cX3_bestTap 37 = .ok (.iload 5, 2) := by decide +kernel
theorem dX3_bestTap_39 : decode cX3_bestTap 39 = .ok (.istore_n 3, 1) := by decide +kernel
theorem dX3_bestTap_40 : decode cX3_bestTap 40 = .ok (.iinc 4 1, 3) := by decide +kernel
theorem dX3_bestTap_43 : decode cX3_bestTap 43 = .ok (.goto (-36), 3) := by decide +kernel
theorem dX3_bestTap_46 : decode cX3_bestTap 46 = .ok (.iload_n 2, 1) := by decide +kernel
theorem dX3_bestTap_47 : decode cX3_bestTap 47 = .ok (.ireturn, 1) := by decide +kernel
theorem dX3_believersAt_0 : decode cX3_believersAt 0 = .ok (.aload_n 0, 1) := by decide +kernel
theorem dX3_believersAt_1 : decode cX3_believersAt 1 = .ok (.getfield 26, 3) := by decide +kernel
theorem dX3_believersAt_4 : decode cX3_believersAt 4 = .ok (.invokevirtual 31, 3) := by decide +kernel
theorem dX3_believersAt_7 : decode cX3_believersAt 7 = .ok (.aload_n 0, 1) := by decide +kernel
theorem dX3_believersAt_8 : decode cX3_believersAt 8 = .ok (.getfield 26, 3) := by decide +kernel
theorem dX3_believersAt_11 : decode cX3_believersAt 11 = .ok (.iload_n 1, 1) := by decide +kernel
theorem dX3_believersAt_12 : decode cX3_believersAt 12 = .ok (.iconst 1, 1) := by decide +kernel
theorem dX3_believersAt_13 : decode cX3_believersAt 13 = .ok (.iload_n 2, 1) := by decide +kernel
theorem dX3_believersAt_14 : decode cX3_believersAt 14 = .ok (.ishl, 1) := by decide +kernel
theorem dX3_believersAt_15 : decode cX3_believersAt 15 = .ok (.invokevirtual 48, 3) := by decide +kernel
theorem dX3_believersAt_18 : decode cX3_believersAt 18 = .ok (.aload_n 0, 1) := by decide +kernel
theorem dX3_believersAt_19 : decode cX3_believersAt 19 = .ok (.getfield 26, 3) := by decide +kernel
theorem dX3_believersAt_22 : decode cX3_believersAt 22 = .ok (.getfield 52, 3) := by decide +kernel
theorem dX3_believersAt_25 : decode cX3_believersAt 25 = .ok (.invokestatic 42, 3) := by decide +kernel
theorem dX3_believersAt_28 : decode cX3_believersAt 28 = .ok (.ireturn, 1) := by decide +kernel
theorem dX3_believersOfBlend_0 : decode cX3_believersOfBlend 0 = .ok (.aload_n 0, 1) := by decide +kernel
theorem dX3_believersOfBlend_1 : decode cX3_believersOfBlend 1 = .ok (.getfield 22, 3) := by decide +kernel
theorem dX3_believersOfBlend_4 : decode cX3_believersOfBlend 4 = .ok (.aload_n 0, 1) := by decide +kernel
theorem dX3_believersOfBlend_5 : decode cX3_believersOfBlend 5 = .ok (.getfield 22, 3) := by decide +kernel
theorem dX3_believersOfBlend_8 : decode cX3_believersOfBlend 8 = .ok (.getfield 73, 3) := by decide +kernel
theorem dX3_believersOfBlend_11 : decode cX3_believersOfBlend 11 = .ok (.iload_n 1, 1) := by decide +kernel
theorem dX3_believersOfBlend_12 : decode cX3_believersOfBlend 12 = .ok (.iload_n 2, 1) := by decide +kernel
theorem dX3_believersOfBlend_13 : decode cX3_believersOfBlend 13 = .ok (.invokevirtual 99, 3) := by decide +kernel
theorem dX3_believersOfBlend_16 : decode cX3_believersOfBlend 16 = .ok (.aload_n 0, 1) := by decide +kernel
theorem dX3_believersOfBlend_17 : decode cX3_believersOfBlend 17 = .ok (.getfield 22, 3) := by decide +kernel
theorem dX3_believersOfBlend_20 : decode cX3_believersOfBlend 20 = .ok (.getfield 73, 3) := by decide +kernel
theorem dX3_believersOfBlend_23 : decode cX3_believersOfBlend 23 = .ok (.iload_n 2, 1) := by decide +kernel
theorem dX3_believersOfBlend_24 : decode cX3_believersOfBlend 24 = .ok (.invokevirtual 82, 3) := by decide +kernel
theorem dX3_believersOfBlend_27 : decode cX3_believersOfBlend 27 = .ok (.invokevirtual 85, 3) := by decide +kernel
theorem dX3_believersOfBlend_30 : decode cX3_believersOfBlend 30 = .ok (.istore 4, 2) := by decide +kernel
theorem dX3_believersOfBlend_32 : decode cX3_believersOfBlend 32 = .ok (.aload_n 0, 1) := by decide +kernel
theorem dX3_believersOfBlend_33 : decode cX3_believersOfBlend 33 = .ok (.getfield 26, 3) := by decide +kernel
theorem dX3_believersOfBlend_36 : decode cX3_believersOfBlend 36 = .ok (.invokevirtual 31, 3) := by decide +kernel
theorem dX3_believersOfBlend_39 : decode cX3_believersOfBlend 39 = .ok (.aload_n 0, 1) := by decide +kernel
theorem dX3_believersOfBlend_40 : decode cX3_believersOfBlend 40 = .ok (.getfield 26, 3) := by decide +kernel
theorem dX3_believersOfBlend_43 : decode cX3_believersOfBlend 43 = .ok (.aload_n 0, 1) := by decide +kernel
theorem dX3_believersOfBlend_44 : decode cX3_believersOfBlend 44 = .ok (.getfield 22, 3) := by decide +kernel
theorem dX3_believersOfBlend_47 : decode cX3_believersOfBlend 47 = .ok (.getfield 73, 3) := by decide +kernel
theorem dX3_believersOfBlend_50 : decode cX3_believersOfBlend 50 = .ok (.iload_n 2, 1) := by decide +kernel
theorem dX3_believersOfBlend_51 : decode cX3_believersOfBlend 51 = .ok (.invokevirtual 79, 3) := by decide +kernel
theorem dX3_believersOfBlend_54 : decode cX3_believersOfBlend 54 = .ok (.iload 4, 2) := by decide +kernel
theorem dX3_believersOfBlend_56 : decode cX3_believersOfBlend 56 = .ok (.iconst 1, 1) := by decide +kernel
theorem dX3_believersOfBlend_57 : decode cX3_believersOfBlend 57 = .ok (.iload_n 3, 1) := by decide +kernel
theorem dX3_believersOfBlend_58 : decode cX3_believersOfBlend 58 = .ok (.ishl, 1) := by decide +kernel
theorem dX3_believersOfBlend_59 : decode cX3_believersOfBlend 59 = .ok (.invokevirtual 89, 3) := by decide +kernel
theorem dX3_believersOfBlend_62 : decode cX3_believersOfBlend 62 = .ok (.aload_n 0, 1) := by decide +kernel
theorem dX3_believersOfBlend_63 : decode cX3_believersOfBlend 63 = .ok (.getfield 26, 3) := by decide +kernel
theorem dX3_believersOfBlend_66 : decode cX3_believersOfBlend 66 = .ok (.getfield 52, 3) := by decide +kernel
theorem dX3_believersOfBlend_69 : decode cX3_believersOfBlend 69 = .ok (.invokestatic 42, 3) := by decide +kernel
theorem dX3_believersOfBlend_72 : decode cX3_believersOfBlend 72 = .ok (.ireturn, 1) := by decide +kernel
theorem dX3_casesOfBelief_0 : decode cX3_casesOfBelief 0 = .ok (.lconst 0, 1) := by decide +kernel
theorem dX3_casesOfBelief_1 : decode cX3_casesOfBelief 1 = .ok (.lstore 5, 2) := by decide +kernel
theorem dX3_casesOfBelief_3 : decode cX3_casesOfBelief 3 = .ok (.aload_n 0, 1) := by decide +kernel
theorem dX3_casesOfBelief_4 : decode cX3_casesOfBelief 4 = .ok (.iload 4, 2) := by decide +kernel
theorem dX3_casesOfBelief_6 : decode cX3_casesOfBelief 6 = .ok (.invokevirtual 102, 3) := by decide +kernel
theorem dX3_casesOfBelief_9 : decode cX3_casesOfBelief 9 = .ok (.aload_n 0, 1) := by decide +kernel
theorem dX3_casesOfBelief_10 : decode cX3_casesOfBelief 10 = .ok (.getfield 26, 3) := by decide +kernel
theorem dX3_casesOfBelief_13 : decode cX3_casesOfBelief 13 = .ok (.invokevirtual 31, 3) := by decide +kernel
theorem dX3_casesOfBelief_16 : decode cX3_casesOfBelief 16 = .ok (.iconst 0, 1) := by decide +kernel
theorem dX3_casesOfBelief_17 : decode cX3_casesOfBelief 17 = .ok (.istore 7, 2) := by decide +kernel
theorem dX3_casesOfBelief_19 : decode cX3_casesOfBelief 19 = .ok (.iload 7, 2) := by decide +kernel
theorem dX3_casesOfBelief_21 : decode cX3_casesOfBelief 21 = .ok (.iconst 1, 1) := by decide +kernel
theorem dX3_casesOfBelief_22 : decode cX3_casesOfBelief 22 = .ok (.aload_n 0, 1) := by decide +kernel
theorem dX3_casesOfBelief_23 : decode cX3_casesOfBelief 23 = .ok (.getfield 22, 3) := by decide +kernel
theorem dX3_casesOfBelief_26 : decode cX3_casesOfBelief 26 = .ok (.getfield 56, 3) := by decide +kernel
theorem dX3_casesOfBelief_29 : decode cX3_casesOfBelief 29 = .ok (.ishl, 1) := by decide +kernel
theorem dX3_casesOfBelief_30 : decode cX3_casesOfBelief 30 = .ok (.if_icmp .ge 68, 3) := by decide +kernel
theorem dX3_casesOfBelief_33 : decode cX3_casesOfBelief 33 = .ok (.aload_n 0, 1) := by decide +kernel
theorem dX3_casesOfBelief_34 : decode cX3_casesOfBelief 34 = .ok (.getfield 18, 3) := by decide +kernel
theorem dX3_casesOfBelief_37 : decode cX3_casesOfBelief 37 = .ok (.iload 7, 2) := by decide +kernel
theorem dX3_casesOfBelief_39 : decode cX3_casesOfBelief 39 = .ok (.invokestatic 42, 3) := by decide +kernel
theorem dX3_casesOfBelief_42 : decode cX3_casesOfBelief 42 = .ok (.laload, 1) := by decide +kernel
theorem dX3_casesOfBelief_43 : decode cX3_casesOfBelief 43 = .ok (.lstore 8, 2) := by decide +kernel
theorem dX3_casesOfBelief_45 : decode cX3_casesOfBelief 45 = .ok (.lload 8, 2) := by decide +kernel
theorem dX3_casesOfBelief_47 : decode cX3_casesOfBelief 47 = .ok (.lconst 0, 1) := by decide +kernel
theorem dX3_casesOfBelief_48 : decode cX3_casesOfBelief 48 = .ok (.lcmp, 1) := by decide +kernel
theorem dX3_casesOfBelief_49 : decode cX3_casesOfBelief 49 = .ok (.ifCond .le 43, 3) := by decide +kernel
theorem dX3_casesOfBelief_52 : decode cX3_casesOfBelief 52 = .ok (.aload_n 0, 1) := by decide +kernel
theorem dX3_casesOfBelief_53 : decode cX3_casesOfBelief 53 = .ok (.getfield 26, 3) := by decide +kernel
theorem dX3_casesOfBelief_56 : decode cX3_casesOfBelief 56 = .ok (.iload 7, 2) := by decide +kernel
theorem dX3_casesOfBelief_58 : decode cX3_casesOfBelief 58 = .ok (.invokevirtual 59, 3) := by decide +kernel
theorem dX3_casesOfBelief_61 : decode cX3_casesOfBelief 61 = .ok (.aload_n 0, 1) := by decide +kernel
theorem dX3_casesOfBelief_62 : decode cX3_casesOfBelief 62 = .ok (.getfield 26, 3) := by decide +kernel
theorem dX3_casesOfBelief_65 : decode cX3_casesOfBelief 65 = .ok (.iload_n 1, 1) := by decide +kernel
theorem dX3_casesOfBelief_66 : decode cX3_casesOfBelief 66 = .ok (.iconst 1, 1) := by decide +kernel
theorem dX3_casesOfBelief_67 : decode cX3_casesOfBelief 67 = .ok (.iload_n 2, 1) := by decide +kernel
theorem dX3_casesOfBelief_68 : decode cX3_casesOfBelief 68 = .ok (.ishl, 1) := by decide +kernel
theorem dX3_casesOfBelief_69 : decode cX3_casesOfBelief 69 = .ok (.invokevirtual 48, 3) := by decide +kernel
theorem dX3_casesOfBelief_72 : decode cX3_casesOfBelief 72 = .ok (.lload 5, 2) := by decide +kernel
theorem dX3_casesOfBelief_74 : decode cX3_casesOfBelief 74 = .ok (.aload_n 0, 1) := by decide +kernel
theorem dX3_casesOfBelief_75 : decode cX3_casesOfBelief 75 = .ok (.getfield 26, 3) := by decide +kernel
theorem dX3_casesOfBelief_78 : decode cX3_casesOfBelief 78 = .ok (.getfield 52, 3) := by decide +kernel
theorem dX3_casesOfBelief_81 : decode cX3_casesOfBelief 81 = .ok (.iload_n 3, 1) := by decide +kernel
theorem dX3_casesOfBelief_82 : decode cX3_casesOfBelief 82 = .ok (.ishr, 1) := by decide +kernel
theorem dX3_casesOfBelief_83 : decode cX3_casesOfBelief 83 = .ok (.iconst 1, 1) := by decide +kernel
theorem dX3_casesOfBelief_84 : decode cX3_casesOfBelief 84 = .ok (.iand, 1) := by decide +kernel
theorem dX3_casesOfBelief_85 : decode cX3_casesOfBelief 85 = .ok (.i2l, 1) := by decide +kernel
theorem dX3_casesOfBelief_86 : decode cX3_casesOfBelief 86 = .ok (.lload 8, 2) := by decide +kernel
theorem dX3_casesOfBelief_88 : decode cX3_casesOfBelief 88 = .ok (.lmul, 1) := by decide +kernel
theorem dX3_casesOfBelief_89 : decode cX3_casesOfBelief 89 = .ok (.ladd, 1) := by decide +kernel
theorem dX3_casesOfBelief_90 : decode cX3_casesOfBelief 90 = .ok (.lstore 5, 2) := by decide +kernel
theorem dX3_casesOfBelief_92 : decode cX3_casesOfBelief 92 = .ok (.iinc 7 1, 3) := by decide +kernel
theorem dX3_casesOfBelief_95 : decode cX3_casesOfBelief 95 = .ok (.goto (-76), 3) := by decide +kernel
theorem dX3_casesOfBelief_98 : decode cX3_casesOfBelief 98 = .ok (.lload 5, 2) := by decide +kernel
theorem dX3_casesOfBelief_100 : decode cX3_casesOfBelief 100 = .ok (.lreturn, 1) := by decide +kernel
theorem dX3_weigh_0 : decode cX3_weigh 0 = .ok (.iconst 0, 1) := by decide +kernel
theorem dX3_weigh_1 : decode cX3_weigh 1 = .ok (.istore_n 2, 1) := by decide +kernel
theorem dX3_weigh_2 : decode cX3_weigh 2 = .ok (.iload_n 2, 1) := by decide +kernel
theorem dX3_weigh_3 : decode cX3_weigh 3 = .ok (.aload_n 0, 1) := by decide +kernel
theorem dX3_weigh_4 : decode cX3_weigh 4 = .ok (.getfield 22, 3) := by decide +kernel
theorem dX3_weigh_7 : decode cX3_weigh 7 = .ok (.getfield 56, 3) := by decide +kernel
theorem dX3_weigh_10 : decode cX3_weigh 10 = .ok (.if_icmp .gt 39, 3) := by decide +kernel
theorem dX3_weigh_13 : decode cX3_weigh 13 = .ok (.aload_n 0, 1) := by decide +kernel
theorem dX3_weigh_14 : decode cX3_weigh 14 = .ok (.getfield 18, 3) := by decide +kernel
theorem dX3_weigh_17 : decode cX3_weigh 17 = .ok (.iload_n 2, 1) := by decide +kernel
theorem dX3_weigh_18 : decode cX3_weigh 18 = .ok (.iload_n 1, 1) := by decide +kernel
theorem dX3_weigh_19 : decode cX3_weigh 19 = .ok (.i2l, 1) := by decide +kernel
theorem dX3_weigh_20 : decode cX3_weigh 20 = .ok (.iload_n 2, 1) := by decide +kernel
theorem dX3_weigh_21 : decode cX3_weigh 21 = .ok (.invokestatic 105, 3) := by decide +kernel
theorem dX3_weigh_24 : decode cX3_weigh 24 = .ok (.bipush 10, 2) := by decide +kernel
theorem dX3_weigh_26 : decode cX3_weigh 26 = .ok (.iload_n 1, 1) := by decide +kernel
theorem dX3_weigh_27 : decode cX3_weigh 27 = .ok (.isub, 1) := by decide +kernel
theorem dX3_weigh_28 : decode cX3_weigh 28 = .ok (.i2l, 1) := by decide +kernel
theorem dX3_weigh_29 : decode cX3_weigh 29 = .ok (.aload_n 0, 1) := by decide +kernel
theorem dX3_weigh_30 : decode cX3_weigh 30 = .ok (.getfield 22, 3) := by decide +kernel
theorem dX3_weigh_33 : decode cX3_weigh 33 = .ok (.getfield 56, 3) := by decide +kernel
theorem dX3_weigh_36 : decode cX3_weigh 36 = .ok (.iload_n 2, 1) := by decide +kernel
theorem dX3_weigh_37 : decode cX3_weigh 37 = .ok (.isub, 1) := by decide +kernel
theorem dX3_weigh_38 : decode cX3_weigh 38 = .ok (.invokestatic 105, 3) := by decide +kernel
theorem dX3_weigh_41 : decode cX3_weigh 41 = .ok (.lmul, 1) := by decide +kernel
theorem dX3_weigh_42 : decode cX3_weigh 42 = .ok (.lastore, 1) := by decide +kernel
theorem dX3_weigh_43 : decode cX3_weigh 43 = .ok (.iinc 2 1, 3) := by decide +kernel
theorem dX3_weigh_46 : decode cX3_weigh 46 = .ok (.goto (-44), 3) := by decide +kernel
theorem dX3_weigh_49 : decode cX3_weigh 49 = .ok (.return_, 1) := by decide +kernel
theorem dX3_cellarAfterWeek_0 : decode cX3_cellarAfterWeek 0 = .ok (.iload_n 2, 1) := by decide +kernel
theorem dX3_cellarAfterWeek_1 : decode cX3_cellarAfterWeek 1 = .ok (.i2l, 1) := by decide +kernel
theorem dX3_cellarAfterWeek_2 : decode cX3_cellarAfterWeek 2 = .ok (.lstore_n 3, 1) := by decide +kernel
theorem dX3_cellarAfterWeek_3 : decode cX3_cellarAfterWeek 3 = .ok (.aload_n 0, 1) := by decide +kernel
theorem dX3_cellarAfterWeek_4 : decode cX3_cellarAfterWeek 4 = .ok (.getfield 12, 3) := by decide +kernel
theorem dX3_cellarAfterWeek_7 : decode cX3_cellarAfterWeek 7 = .ok (.aload_n 0, 1) := by decide +kernel
theorem dX3_cellarAfterWeek_8 : decode cX3_cellarAfterWeek 8 = .ok (.getfield 22, 3) := by decide +kernel
theorem dX3_cellarAfterWeek_11 : decode cX3_cellarAfterWeek 11 = .ok (.getfield 73, 3) := by decide +kernel
theorem dX3_cellarAfterWeek_14 : decode cX3_cellarAfterWeek 14 = .ok (.invokevirtual 109, 3) := by decide +kernel
theorem dX3_cellarAfterWeek_17 : decode cX3_cellarAfterWeek 17 = .ok (.iconst 0, 1) := by decide +kernel
theorem dX3_cellarAfterWeek_18 : decode cX3_cellarAfterWeek 18 = .ok (.istore 5, 2) := by decide +kernel
theorem dX3_cellarAfterWeek_20 : decode cX3_cellarAfterWeek 20 = .ok (.iload 5, 2) := by decide +kernel
theorem dX3_cellarAfterWeek_22 : decode cX3_cellarAfterWeek 22 = .ok (.iload_n 1, 1) := by decide +kernel
theorem dX3_cellarAfterWeek_23 : decode cX3_cellarAfterWeek 23 = .ok (.if_icmp .ge 81, 3) := by decide +kernel
theorem dX3_cellarAfterWeek_26 : decode cX3_cellarAfterWeek 26 = .ok (.lload_n 3, 1) := by decide +kernel
theorem dX3_cellarAfterWeek_27 : decode cX3_cellarAfterWeek 27 = .ok (.ldc2_w 113, 3) := by decide +kernel
theorem dX3_cellarAfterWeek_30 : decode cX3_cellarAfterWeek 30 = .ok (.lmul, 1) := by decide +kernel
theorem dX3_cellarAfterWeek_31 : decode cX3_cellarAfterWeek 31 = .ok (.ldc2_w 115, 3) := by decide +kernel
theorem dX3_cellarAfterWeek_34 : decode cX3_cellarAfterWeek 34 = .ok (.lrem, 1) := by decide +kernel
theorem dX3_cellarAfterWeek_35 : decode cX3_cellarAfterWeek 35 = .ok (.lstore_n 3, 1) := by decide +kernel
theorem dX3_cellarAfterWeek_36 : decode cX3_cellarAfterWeek 36 = .ok (.lload_n 3, 1) := by decide +kernel
theorem dX3_cellarAfterWeek_37 : decode cX3_cellarAfterWeek 37 = .ok (.ldc2_w 117, 3) := by decide +kernel
theorem dX3_cellarAfterWeek_40 : decode cX3_cellarAfterWeek 40 = .ok (.lrem, 1) := by decide +kernel
theorem dX3_cellarAfterWeek_41 : decode cX3_cellarAfterWeek 41 = .ok (.l2i, 1) := by decide +kernel
theorem dX3_cellarAfterWeek_42 : decode cX3_cellarAfterWeek 42 = .ok (.istore 6, 2) := by decide +kernel
theorem dX3_cellarAfterWeek_44 : decode cX3_cellarAfterWeek 44 = .ok (.aload_n 0, 1) := by decide +kernel
theorem dX3_cellarAfterWeek_45 : decode cX3_cellarAfterWeek 45 = .ok (.getfield 12, 3) := by decide +kernel
theorem dX3_cellarAfterWeek_48 : decode cX3_cellarAfterWeek 48 = .ok (.iload 6, 2) := by decide +kernel
theorem dX3_cellarAfterWeek_50 : decode cX3_cellarAfterWeek 50 = .ok (.invokevirtual 119, 3) := by decide +kernel
theorem dX3_cellarAfterWeek_53 : decode cX3_cellarAfterWeek 53 = .ok (.ifCond .ne 38, 3) := by decide +kernel
theorem dX3_cellarAfterWeek_56 : decode cX3_cellarAfterWeek 56 = .ok (.aload_n 0, 1) := by decide +kernel
theorem dX3_cellarAfterWeek_57 : decode cX3_cellarAfterWeek 57 = .ok (.getfield 22, 3) := by decide +kernel
theorem dX3_cellarAfterWeek_60 : decode cX3_cellarAfterWeek 60 = .ok (.getfield 93, 3) := by decide +kernel
theorem dX3_cellarAfterWeek_63 : decode cX3_cellarAfterWeek 63 = .ok (.ifCond .le 28, 3) := by decide +kernel
theorem dX3_cellarAfterWeek_66 : decode cX3_cellarAfterWeek 66 = .ok (.aload_n 0, 1) := by decide +kernel
theorem dX3_cellarAfterWeek_67 : decode cX3_cellarAfterWeek 67 = .ok (.getfield 26, 3) := by decide +kernel
theorem dX3_cellarAfterWeek_70 : decode cX3_cellarAfterWeek 70 = .ok (.aload_n 0, 1) := by decide +kernel
theorem dX3_cellarAfterWeek_71 : decode cX3_cellarAfterWeek 71 = .ok (.getfield 12, 3) := by decide +kernel
theorem dX3_cellarAfterWeek_74 : decode cX3_cellarAfterWeek 74 = .ok (.iload 6, 2) := by decide +kernel
theorem dX3_cellarAfterWeek_76 : decode cX3_cellarAfterWeek 76 = .ok (.lload_n 3, 1) := by decide +kernel
theorem dX3_cellarAfterWeek_77 : decode cX3_cellarAfterWeek 77 = .ok (.aload_n 0, 1) := by decide +kernel
theorem dX3_cellarAfterWeek_78 : decode cX3_cellarAfterWeek 78 = .ok (.getfield 22, 3) := by decide +kernel
theorem dX3_cellarAfterWeek_81 : decode cX3_cellarAfterWeek 81 = .ok (.getfield 93, 3) := by decide +kernel
theorem dX3_cellarAfterWeek_84 : decode cX3_cellarAfterWeek 84 = .ok (.i2l, 1) := by decide +kernel
theorem dX3_cellarAfterWeek_85 : decode cX3_cellarAfterWeek 85 = .ok (.lrem, 1) := by decide +kernel
theorem dX3_cellarAfterWeek_86 : decode cX3_cellarAfterWeek 86 = .ok (.l2i, 1) := by decide +kernel
theorem dX3_cellarAfterWeek_87 : decode cX3_cellarAfterWeek 87 = .ok (.invokevirtual 123, 3) := by decide +kernel
theorem dX3_cellarAfterWeek_90 : decode cX3_cellarAfterWeek 90 = .ok (.pop, 1) := by decide +kernel
theorem dX3_cellarAfterWeek_91 : decode cX3_cellarAfterWeek 91 = .ok (.aload_n 0, 1) := by decide +kernel
theorem dX3_cellarAfterWeek_92 : decode cX3_cellarAfterWeek 92 = .ok (.getfield 12, 3) := by decide +kernel
theorem dX3_cellarAfterWeek_95 : decode cX3_cellarAfterWeek 95 = .ok (.invokevirtual 127, 3) := by decide +kernel
theorem dX3_cellarAfterWeek_98 : decode cX3_cellarAfterWeek 98 = .ok (.iinc 5 1, 3) := by decide +kernel
theorem dX3_cellarAfterWeek_101 : decode cX3_cellarAfterWeek 101 = .ok (.goto (-81), 3) := by decide +kernel
theorem dX3_cellarAfterWeek_104 : decode cX3_cellarAfterWeek 104 = .ok (.aload_n 0, 1) := by decide +kernel
theorem dX3_cellarAfterWeek_105 : decode cX3_cellarAfterWeek 105 = .ok (.getfield 12, 3) := by decide +kernel
theorem dX3_cellarAfterWeek_108 : decode cX3_cellarAfterWeek 108 = .ok (.areturn, 1) := by decide +kernel
theorem dX4_init_0 : decode cX4_init 0 = .ok (.aload_n 0, 1) := by decide +kernel
theorem dX4_init_1 : decode cX4_init 1 = .ok (.invokespecial 3, 3) := by decide +kernel
theorem dX4_init_4 : decode cX4_init 4 = .ok (.aload_n 0, 1) := by decide +kernel
theorem dX4_init_5 : decode cX4_init 5 = .ok (.bipush 120, 2) := by decide +kernel
theorem dX4_init_7 : decode cX4_init 7 = .ok (.newarray .int, 2) := by decide +kernel
theorem dX4_init_9 : decode cX4_init 9 = .ok (.putfield 9, 3) := by decide +kernel
theorem dX4_init_12 : decode cX4_init 12 = .ok (.aload_n 0, 1) := by decide +kernel
theorem dX4_init_13 : decode cX4_init 13 = .ok (.iconst 0, 1) := by decide +kernel
theorem dX4_init_14 : decode cX4_init 14 = .ok (.putfield 15, 3) := by decide +kernel
theorem dX4_init_17 : decode cX4_init 17 = .ok (.aload_n 0, 1) := by decide +kernel
theorem dX4_init_18 : decode cX4_init 18 = .ok (.iconst 0, 1) := by decide +kernel
theorem dX4_init_19 : decode cX4_init 19 = .ok (.putfield 19, 3) := by decide +kernel
theorem dX4_init_22 : decode cX4_init 22 = .ok (.aload_n 0, 1) := by decide +kernel
theorem dX4_init_23 : decode cX4_init 23 = .ok (.iconst 0, 1) := by decide +kernel
theorem dX4_init_24 : decode cX4_init 24 = .ok (.putfield 22, 3) := by decide +kernel
theorem dX4_init_27 : decode cX4_init 27 = .ok (.return_, 1) := by decide +kernel
theorem dX4_append_0 : decode cX4_append 0 = .ok (.aload_n 0, 1) := by decide +kernel
theorem dX4_append_1 : decode cX4_append 1 = .ok (.getfield 9, 3) := by decide +kernel
theorem dX4_append_4 : decode cX4_append 4 = .ok (.aload_n 0, 1) := by decide +kernel
theorem dX4_append_5 : decode cX4_append 5 = .ok (.getfield 15, 3) := by decide +kernel
theorem dX4_append_8 : decode cX4_append 8 = .ok (.iload_n 1, 1) := by decide +kernel
theorem dX4_append_9 : decode cX4_append 9 = .ok (.iastore, 1) := by decide +kernel
theorem dX4_append_10 : decode cX4_append 10 = .ok (.aload_n 0, 1) := by decide +kernel
theorem dX4_append_11 : decode cX4_append 11 = .ok (.dup, 1) := by decide +kernel
theorem dX4_append_12 : decode cX4_append 12 = .ok (.getfield 15, 3) := by decide +kernel
theorem dX4_append_15 : decode cX4_append 15 = .ok (.iconst 1, 1) := by decide +kernel
theorem dX4_append_16 : decode cX4_append 16 = .ok (.iadd, 1) := by decide +kernel
theorem dX4_append_17 : decode cX4_append 17 = .ok (.putfield 15, 3) := by decide +kernel
theorem dX4_append_20 : decode cX4_append 20 = .ok (.aload_n 0, 1) := by decide +kernel
theorem dX4_append_21 : decode cX4_append 21 = .ok (.getfield 15, 3) := by decide +kernel
theorem dX4_append_24 : decode cX4_append 24 = .ok (.ireturn, 1) := by decide +kernel
theorem dX4_reads_0 : decode cX4_reads 0 = .ok (.aload_n 1, 1) := by decide +kernel
theorem dX4_reads_1 : decode cX4_reads 1 = .ok (.invokevirtual 25, 3) := by decide +kernel
theorem dX4_reads_4 : decode cX4_reads 4 = .ok (.aload_n 0, 1) := by decide +kernel
theorem dX4_reads_5 : decode cX4_reads 5 = .ok (.iconst 0, 1) := by decide +kernel
theorem dX4_reads_6 : decode cX4_reads 6 = .ok (.putfield 19, 3) := by decide +kernel
theorem dX4_reads_9 : decode cX4_reads 9 = .ok (.aload_n 0, 1) := by decide +kernel
theorem dX4_reads_10 : decode cX4_reads 10 = .ok (.aload_n 1, 1) := by decide +kernel
theorem dX4_reads_11 : decode cX4_reads 11 = .ok (.invokevirtual 30, 3) := by decide +kernel
theorem dX4_reads_14 : decode cX4_reads 14 = .ok (.ifCond .eq 11, 3) := by decide +kernel
theorem dX4_reads_17 : decode cX4_reads 17 = .ok (.aload_n 0, 1) := by decide +kernel
theorem dX4_reads_18 : decode cX4_reads 18 = .ok (.aload_n 1, 1) := by decide +kernel
theorem dX4_reads_19 : decode cX4_reads 19 = .ok (.invokevirtual 34, 3) := by decide +kernel
theorem dX4_reads_22 : decode cX4_reads 22 = .ok (.ifCond .ne 5, 3) := by decide +kernel
theorem dX4_reads_25 : decode cX4_reads 25 = .ok (.iconst 0, 1) := by decide +kernel
theorem dX4_reads_26 : decode cX4_reads 26 = .ok (.ireturn, 1) := by decide +kernel
theorem dX4_reads_27 : decode cX4_reads 27 = .ok (.iconst 0, 1) := by decide +kernel
theorem dX4_reads_28 : decode cX4_reads 28 = .ok (.istore_n 2, 1) := by decide +kernel
theorem dX4_reads_29 : decode cX4_reads 29 = .ok (.iload_n 2, 1) := by decide +kernel
theorem dX4_reads_30 : decode cX4_reads 30 = .ok (.bipush 120, 2) := by decide +kernel
theorem dX4_reads_32 : decode cX4_reads 32 = .ok (.if_icmp .ge 30, 3) := by decide +kernel
theorem dX4_reads_35 : decode cX4_reads 35 = .ok (.aload_n 0, 1) := by decide +kernel
theorem dX4_reads_36 : decode cX4_reads 36 = .ok (.invokevirtual 37, 3) := by decide +kernel
theorem dX4_reads_39 : decode cX4_reads 39 = .ok (.invokestatic 41, 3) := by decide +kernel
theorem dX4_reads_42 : decode cX4_reads 42 = .ok (.iconst (-1), 1) := by decide +kernel
theorem dX4_reads_43 : decode cX4_reads 43 = .ok (.if_icmp .eq 19, 3) := by decide +kernel
theorem dX4_reads_46 : decode cX4_reads 46 = .ok (.aload_n 0, 1) := by decide +kernel
theorem dX4_reads_47 : decode cX4_reads 47 = .ok (.aload_n 1, 1) := by decide +kernel
theorem dX4_reads_48 : decode cX4_reads 48 = .ok (.invokevirtual 34, 3) := by decide +kernel
theorem dX4_reads_51 : decode cX4_reads 51 = .ok (.ifCond .ne 5, 3) := by decide +kernel
theorem dX4_reads_54 : decode cX4_reads 54 = .ok (.iconst 0, 1) := by decide +kernel
theorem dX4_reads_55 : decode cX4_reads 55 = .ok (.ireturn, 1) := by decide +kernel
theorem dX4_reads_56 : decode cX4_reads 56 = .ok (.iinc 2 1, 3) := by decide +kernel
theorem dX4_reads_59 : decode cX4_reads 59 = .ok (.goto (-30), 3) := by decide +kernel
theorem dX4_reads_62 : decode cX4_reads 62 = .ok (.iconst 0, 1) := by decide +kernel
theorem dX4_reads_63 : decode cX4_reads 63 = .ok (.istore_n 2, 1) := by decide +kernel
theorem dX4_reads_64 : decode cX4_reads 64 = .ok (.iload_n 2, 1) := by decide +kernel
theorem dX4_reads_65 : decode cX4_reads 65 = .ok (.bipush 120, 2) := by decide +kernel
theorem dX4_reads_67 : decode cX4_reads 67 = .ok (.if_icmp .ge 30, 3) := by decide +kernel
theorem dX4_reads_70 : decode cX4_reads 70 = .ok (.aload_n 0, 1) := by decide +kernel
theorem dX4_reads_71 : decode cX4_reads 71 = .ok (.getfield 19, 3) := by decide +kernel
theorem dX4_reads_74 : decode cX4_reads 74 = .ok (.aload_n 0, 1) := by decide +kernel
theorem dX4_reads_75 : decode cX4_reads 75 = .ok (.getfield 15, 3) := by decide +kernel
theorem dX4_reads_78 : decode cX4_reads 78 = .ok (.if_icmp .ge 19, 3) := by decide +kernel
theorem dX4_reads_81 : decode cX4_reads 81 = .ok (.aload_n 0, 1) := by decide +kernel
theorem dX4_reads_82 : decode cX4_reads 82 = .ok (.aload_n 1, 1) := by decide +kernel
theorem dX4_reads_83 : decode cX4_reads 83 = .ok (.invokevirtual 45, 3) := by decide +kernel
theorem dX4_reads_86 : decode cX4_reads 86 = .ok (.ifCond .ne 5, 3) := by decide +kernel
theorem dX4_reads_89 : decode cX4_reads 89 = .ok (.iconst 0, 1) := by decide +kernel
theorem dX4_reads_90 : decode cX4_reads 90 = .ok (.ireturn, 1) := by decide +kernel
theorem dX4_reads_91 : decode cX4_reads 91 = .ok (.iinc 2 1, 3) := by decide +kernel
theorem dX4_reads_94 : decode cX4_reads 94 = .ok (.goto (-30), 3) := by decide +kernel
theorem dX4_reads_97 : decode cX4_reads 97 = .ok (.iconst 1, 1) := by decide +kernel
theorem dX4_reads_98 : decode cX4_reads 98 = .ok (.ireturn, 1) := by decide +kernel
theorem dX4_readsLaw_0 : decode cX4_readsLaw 0 = .ok (.aload_n 0, 1) := by decide +kernel
theorem dX4_readsLaw_1 : decode cX4_readsLaw 1 = .ok (.bipush 111, 2) := by decide +kernel
theorem dX4_readsLaw_3 : decode cX4_readsLaw 3 = .ok (.invokevirtual 48, 3) := by decide +kernel
theorem dX4_readsLaw_6 : decode cX4_readsLaw 6 = .ok (.ifCond .ne 5, 3) := by decide +kernel
theorem dX4_readsLaw_9 : decode cX4_readsLaw 9 = .ok (.iconst 0, 1) := by decide +kernel
theorem dX4_readsLaw_10 : decode cX4_readsLaw 10 = .ok (.ireturn, 1) := by decide +kernel
theorem dX4_readsLaw_11 : decode cX4_readsLaw 11 = .ok (.aload_n 1, 1) := by decide +kernel
theorem dX4_readsLaw_12 : decode cX4_readsLaw 12 = .ok (.aload_n 0, 1) := by decide +kernel
theorem dX4_readsLaw_13 : decode cX4_readsLaw 13 = .ok (.iconst 0, 1) := by decide +kernel
theorem dX4_readsLaw_14 : decode cX4_readsLaw 14 = .ok (.bipush 20, 2) := by decide +kernel
theorem dX4_readsLaw_16 : decode cX4_readsLaw 16 = .ok (.invokevirtual 52, 3) := by decide +kernel
theorem dX4_readsLaw_19 : decode cX4_readsLaw 19 = .ok (.putfield 56, 3) := by decide +kernel
theorem dX4_readsLaw_22 : decode cX4_readsLaw 22 = .ok (.aload_n 1, 1) := by decide +kernel
theorem dX4_readsLaw_23 : decode cX4_readsLaw 23 = .ok (.getfield 56, 3) := by decide +kernel
theorem dX4_readsLaw_26 : decode cX4_readsLaw 26 = .ok (.iconst (-1), 1) := by decide +kernel
theorem dX4_readsLaw_27 : decode cX4_readsLaw 27 = .ok (.if_icmp .eq 12, 3) := by decide +kernel
theorem dX4_readsLaw_30 : decode cX4_readsLaw 30 = .ok (.aload_n 0, 1) := by decide +kernel
theorem dX4_readsLaw_31 : decode cX4_readsLaw 31 = .ok (.bipush 44, 2) := by decide +kernel
theorem dX4_readsLaw_33 : decode cX4_readsLaw 33 = .ok (.invokevirtual 48, 3) := by decide +kernel
theorem dX4_readsLaw_36 : decode cX4_readsLaw 36 = .ok (.ifCond .ne 5, 3) := by decide +kernel
theorem dX4_readsLaw_39 : decode cX4_readsLaw 39 = .ok (.iconst 0, 1) := by decide +kernel
theorem dX4_readsLaw_40 : decode cX4_readsLaw 40 = .ok (.ireturn, 1) := by decide +kernel
theorem dX4_readsLaw_41 : decode cX4_readsLaw 41 = .ok (.aload_n 1, 1) := by decide +kernel
theorem dX4_readsLaw_42 : decode cX4_readsLaw 42 = .ok (.aload_n 0, 1) := by decide +kernel
theorem dX4_readsLaw_43 : decode cX4_readsLaw 43 = .ok (.iconst 1, 1) := by decide +kernel
theorem dX4_readsLaw_44 : decode cX4_readsLaw 44 = .ok (.bipush 40, 2) := by decide +kernel
theorem dX4_readsLaw_46 : decode cX4_readsLaw 46 = .ok (.invokevirtual 52, 3) := by decide +kernel
theorem dX4_readsLaw_49 : decode cX4_readsLaw 49 = .ok (.putfield 59, 3) := by decide +kernel
theorem dX4_readsLaw_52 : decode cX4_readsLaw 52 = .ok (.aload_n 1, 1) := by decide +kernel
theorem dX4_readsLaw_53 : decode cX4_readsLaw 53 = .ok (.getfield 59, 3) := by decide +kernel
theorem dX4_readsLaw_56 : decode cX4_readsLaw 56 = .ok (.iconst (-1), 1) := by decide +kernel
theorem dX4_readsLaw_57 : decode cX4_readsLaw 57 = .ok (.if_icmp .eq 12, 3) := by decide +kernel
theorem dX4_readsLaw_60 : decode cX4_readsLaw 60 = .ok (.aload_n 0, 1) := by decide +kernel
theorem dX4_readsLaw_61 : decode cX4_readsLaw 61 = .ok (.bipush 44, 2) := by decide +kernel
theorem dX4_readsLaw_63 : decode cX4_readsLaw 63 = .ok (.invokevirtual 48, 3) := by decide +kernel
theorem dX4_readsLaw_66 : decode cX4_readsLaw 66 = .ok (.ifCond .ne 5, 3) := by decide +kernel
theorem dX4_readsLaw_69 : decode cX4_readsLaw 69 = .ok (.iconst 0, 1) := by decide +kernel
theorem dX4_readsLaw_70 : decode cX4_readsLaw 70 = .ok (.ireturn, 1) := by decide +kernel
theorem dX4_readsLaw_71 : decode cX4_readsLaw 71 = .ok (.aload_n 1, 1) := by decide +kernel
theorem dX4_readsLaw_72 : decode cX4_readsLaw 72 = .ok (.aload_n 0, 1) := by decide +kernel
theorem dX4_readsLaw_73 : decode cX4_readsLaw 73 = .ok (.iconst 0, 1) := by decide +kernel
theorem dX4_readsLaw_74 : decode cX4_readsLaw 74 = .ok (.bipush 9, 2) := by decide +kernel
theorem dX4_readsLaw_76 : decode cX4_readsLaw 76 = .ok (.invokevirtual 52, 3) := by decide +kernel
theorem dX4_readsLaw_79 : decode cX4_readsLaw 79 = .ok (.putfield 62, 3) := by decide +kernel
theorem dX4_readsLaw_82 : decode cX4_readsLaw 82 = .ok (.aload_n 1, 1) := by decide +kernel
theorem dX4_readsLaw_83 : decode cX4_readsLaw 83 = .ok (.getfield 62, 3) := by decide +kernel
theorem dX4_readsLaw_86 : decode cX4_readsLaw 86 = .ok (.iconst (-1), 1) := by decide +kernel
theorem dX4_readsLaw_87 : decode cX4_readsLaw 87 = .ok (.if_icmp .eq 16, 3) := by decide +kernel
theorem dX4_readsLaw_90 : decode cX4_readsLaw 90 = .ok (.aload_n 0, 1) := by decide +kernel
theorem dX4_readsLaw_91 : decode cX4_readsLaw 91 = .ok (.bipush 59, 2) := by decide +kernel
theorem dX4_readsLaw_93 : decode cX4_readsLaw 93 = .ok (.invokevirtual 48, 3) := by decide +kernel
theorem dX4_readsLaw_96 : decode cX4_readsLaw 96 = .ok (.ifCond .eq 7, 3) := by decide +kernel
theorem dX4_readsLaw_99 : decode cX4_readsLaw 99 = .ok (.iconst 1, 1) := by decide +kernel
theorem dX4_readsLaw_100 : decode cX4_readsLaw 100 = .ok (.goto 4, 3) := by decide +kernel
theorem dX4_readsLaw_103 : decode cX4_readsLaw 103 = .ok (.iconst 0, 1) := by decide +kernel
theorem dX4_readsLaw_104 : decode cX4_readsLaw 104 = .ok (.ireturn, 1) := by decide +kernel
theorem dX4_readsDrinker_0 : decode cX4_readsDrinker 0 = .ok (.aload_n 0, 1) := by decide +kernel
theorem dX4_readsDrinker_1 : decode cX4_readsDrinker 1 = .ok (.invokevirtual 37, 3) := by decide +kernel
theorem dX4_readsDrinker_4 : decode cX4_readsDrinker 4 = .ok (.invokestatic 41, 3) := by decide +kernel
theorem dX4_readsDrinker_7 : decode cX4_readsDrinker 7 = .ok (.istore_n 2, 1) := by decide +kernel
theorem dX4_readsDrinker_8 : decode cX4_readsDrinker 8 = .ok (.iload_n 2, 1) := by decide +kernel
theorem dX4_readsDrinker_9 : decode cX4_readsDrinker 9 = .ok (.iconst (-1), 1) := by decide +kernel
theorem dX4_readsDrinker_10 : decode cX4_readsDrinker 10 = .ok (.if_icmp .ne 9, 3) := by decide +kernel
theorem dX4_readsDrinker_13 : decode cX4_readsDrinker 13 = .ok (.aload_n 0, 1) := by decide +kernel
theorem dX4_readsDrinker_14 : decode cX4_readsDrinker 14 = .ok (.iconst 1, 1) := by decide +kernel
theorem dX4_readsDrinker_15 : decode cX4_readsDrinker 15 = .ok (.invokevirtual 65, 3) := by decide +kernel
theorem dX4_readsDrinker_18 : decode cX4_readsDrinker 18 = .ok (.ireturn, 1) := by decide +kernel
theorem dX4_readsDrinker_19 : decode cX4_readsDrinker 19 = .ok (.aload_n 1, 1) := by decide +kernel
theorem dX4_readsDrinker_20 : decode cX4_readsDrinker 20 = .ok (.getfield 68, 3) := by decide +kernel
theorem dX4_readsDrinker_23 : decode cX4_readsDrinker 23 = .ok (.bipush 6, 2) := by decide +kernel
theorem dX4_readsDrinker_25 : decode cX4_readsDrinker 25 = .ok (.if_icmp .lt 9, 3) := by decide +kernel
theorem dX4_readsDrinker_28 : decode cX4_readsDrinker 28 = .ok (.aload_n 0, 1) := by decide +kernel
theorem dX4_readsDrinker_29 : decode cX4_readsDrinker 29 = .ok (.iconst 3, 1) := by decide +kernel
theorem dX4_readsDrinker_30 : decode cX4_readsDrinker 30 = .ok (.invokevirtual 65, 3) := by decide +kernel
theorem dX4_readsDrinker_33 : decode cX4_readsDrinker 33 = .ok (.ireturn, 1) := by decide +kernel
theorem dX4_readsDrinker_34 : decode cX4_readsDrinker 34 = .ok (.aload_n 0, 1) := by decide +kernel
theorem dX4_readsDrinker_35 : decode cX4_readsDrinker 35 = .ok (.dup, 1) := by decide +kernel
theorem dX4_readsDrinker_36 : decode cX4_readsDrinker 36 = .ok (.getfield 19, 3) := by decide +kernel
theorem dX4_readsDrinker_39 : decode cX4_readsDrinker 39 = .ok (.iconst 1, 1) := by decide +kernel
theorem dX4_readsDrinker_40 : decode cX4_readsDrinker 40 = .ok (.iadd, 1) := by decide +kernel
theorem dX4_readsDrinker_41 : decode cX4_readsDrinker 41 = .ok (.putfield 19, 3) := by decide +kernel
theorem dX4_readsDrinker_44 : decode cX4_readsDrinker 44 = .ok (.aload_n 0, 1) := by decide +kernel
theorem dX4_readsDrinker_45 : decode cX4_readsDrinker 45 = .ok (.iconst 0, 1) := by decide +kernel
theorem dX4_readsDrinker_46 : decode cX4_readsDrinker 46 = .ok (.bipush 12, 2) := by decide +kernel
theorem dX4_readsDrinker_48 : decode cX4_readsDrinker 48 = .ok (.invokevirtual 52, 3) := by decide +kernel
theorem dX4_readsDrinker_51 : decode cX4_readsDrinker 51 = .ok (.istore_n 3, 1) := by decide +kernel
theorem dX4_readsDrinker_52 : decode cX4_readsDrinker 52 = .ok (.iload_n 3, 1) := by decide +kernel
theorem dX4_readsDrinker_53 : decode cX4_readsDrinker 53 = .ok (.iconst (-1), 1) := by decide +kernel
theorem dX4_readsDrinker_54 : decode cX4_readsDrinker 54 = .ok (.if_icmp .eq 12, 3) := by decide +kernel
theorem dX4_readsDrinker_57 : decode cX4_readsDrinker 57 = .ok (.aload_n 0, 1) := by decide +kernel
theorem dX4_readsDrinker_58 : decode cX4_readsDrinker 58 = .ok (.bipush 44, 2) := by decide +kernel
theorem dX4_readsDrinker_60 : decode cX4_readsDrinker 60 = .ok (.invokevirtual 48, 3) := by decide +kernel
theorem dX4_readsDrinker_63 : decode cX4_readsDrinker 63 = .ok (.ifCond .ne 5, 3) := by decide +kernel
theorem dX4_readsDrinker_66 : decode cX4_readsDrinker 66 = .ok (.iconst 0, 1) := by decide +kernel
theorem dX4_readsDrinker_67 : decode cX4_readsDrinker 67 = .ok (.ireturn, 1) := by decide +kernel
theorem dX4_readsDrinker_68 : decode cX4_readsDrinker 68 = .ok (.aload_n 0, 1) := by decide +kernel
theorem dX4_readsDrinker_69 : decode cX4_readsDrinker 69 = .ok (.iconst 0, 1) := by decide +kernel
theorem dX4_readsDrinker_70 : decode cX4_readsDrinker 70 = .ok (.iconst 5, 1) := by decide +kernel
theorem dX4_readsDrinker_71 : decode cX4_readsDrinker 71 = .ok (.invokevirtual 52, 3) := by decide +kernel
theorem dX4_readsDrinker_74 : decode cX4_readsDrinker 74 = .ok (.istore 4, 2) := by decide +kernel
theorem dX4_readsDrinker_76 : decode cX4_readsDrinker 76 = .ok (.iload 4, 2) := by decide +kernel
theorem dX4_readsDrinker_78 : decode cX4_readsDrinker 78 = .ok (.iconst (-1), 1) := by decide +kernel
theorem dX4_readsDrinker_79 : decode cX4_readsDrinker 79 = .ok (.if_icmp .eq 12, 3) := by decide +kernel
theorem dX4_readsDrinker_82 : decode cX4_readsDrinker 82 = .ok (.aload_n 0, 1) := by decide +kernel
theorem dX4_readsDrinker_83 : decode cX4_readsDrinker 83 = .ok (.bipush 59, 2) := by decide +kernel
theorem dX4_readsDrinker_85 : decode cX4_readsDrinker 85 = .ok (.invokevirtual 48, 3) := by decide +kernel
theorem dX4_readsDrinker_88 : decode cX4_readsDrinker 88 = .ok (.ifCond .ne 5, 3) := by decide +kernel
theorem dX4_readsDrinker_91 : decode cX4_readsDrinker 91 = .ok (.iconst 0, 1) := by decide +kernel
theorem dX4_readsDrinker_92 : decode cX4_readsDrinker 92 = .ok (.ireturn, 1) := by decide +kernel
theorem dX4_readsDrinker_93 : decode cX4_readsDrinker 93 = .ok (.aload_n 1, 1) := by decide +kernel
theorem dX4_readsDrinker_94 : decode cX4_readsDrinker 94 = .ok (.iload_n 2, 1) := by decide +kernel
theorem dX4_readsDrinker_95 : decode cX4_readsDrinker 95 = .ok (.iload_n 3, 1) := by decide +kernel
theorem dX4_readsDrinker_96 : decode cX4_readsDrinker 96 = .ok (.iload 4, 2) := by decide +kernel
theorem dX4_readsDrinker_98 : decode cX4_readsDrinker 98 = .ok (.invokevirtual 71, 3) := by decide +kernel
theorem dX4_readsDrinker_101 : decode cX4_readsDrinker 101 = .ok (.iconst 1, 1) := by decide +kernel
theorem dX4_readsDrinker_102 : decode cX4_readsDrinker 102 = .ok (.ireturn, 1) := by decide +kernel
theorem dX4_readsTie_0 : decode cX4_readsTie 0 = .ok (.aload_n 0, 1) := by decide +kernel
theorem dX4_readsTie_1 : decode cX4_readsTie 1 = .ok (.invokevirtual 37, 3) := by decide +kernel
theorem dX4_readsTie_4 : decode cX4_readsTie 4 = .ok (.bipush 116, 2) := by decide +kernel
theorem dX4_readsTie_6 : decode cX4_readsTie 6 = .ok (.if_icmp .ne 18, 3) := by decide +kernel
theorem dX4_readsTie_9 : decode cX4_readsTie 9 = .ok (.aload_n 1, 1) := by decide +kernel
theorem dX4_readsTie_10 : decode cX4_readsTie 10 = .ok (.getfield 75, 3) := by decide +kernel
theorem dX4_readsTie_13 : decode cX4_readsTie 13 = .ok (.bipush 10, 2) := by decide +kernel
theorem dX4_readsTie_15 : decode cX4_readsTie 15 = .ok (.if_icmp .lt 9, 3) := by decide +kernel
theorem dX4_readsTie_18 : decode cX4_readsTie 18 = .ok (.aload_n 0, 1) := by decide +kernel
theorem dX4_readsTie_19 : decode cX4_readsTie 19 = .ok (.iconst 3, 1) := by decide +kernel
theorem dX4_readsTie_20 : decode cX4_readsTie 20 = .ok (.invokevirtual 65, 3) := by decide +kernel
theorem dX4_readsTie_23 : decode cX4_readsTie 23 = .ok (.ireturn, 1) := by decide +kernel
theorem dX4_readsTie_24 : decode cX4_readsTie 24 = .ok (.aload_n 0, 1) := by decide +kernel
theorem dX4_readsTie_25 : decode cX4_readsTie 25 = .ok (.bipush 116, 2) := by decide +kernel
theorem dX4_readsTie_27 : decode cX4_readsTie 27 = .ok (.invokevirtual 48, 3) := by decide +kernel
theorem dX4_readsTie_30 : decode cX4_readsTie 30 = .ok (.ifCond .ne 5, 3) := by decide +kernel
theorem dX4_readsTie_33 : decode cX4_readsTie 33 = .ok (.iconst 0, 1) := by decide +kernel
theorem dX4_readsTie_34 : decode cX4_readsTie 34 = .ok (.ireturn, 1) := by decide +kernel
theorem dX4_readsTie_35 : decode cX4_readsTie 35 = .ok (.aload_n 0, 1) := by decide +kernel
theorem dX4_readsTie_36 : decode cX4_readsTie 36 = .ok (.iconst 0, 1) := by decide +kernel
theorem dX4_readsTie_37 : decode cX4_readsTie 37 = .ok (.aload_n 1, 1) := by decide +kernel
theorem dX4_readsTie_38 : decode cX4_readsTie 38 = .ok (.getfield 68, 3) := by decide +kernel
theorem dX4_readsTie_41 : decode cX4_readsTie 41 = .ok (.iconst 1, 1) := by decide +kernel
theorem dX4_readsTie_42 : decode cX4_readsTie 42 = .ok (.isub, 1) := by decide +kernel
theorem dX4_readsTie_43 : decode cX4_readsTie 43 = .ok (.invokevirtual 52, 3) := by decide +kernel
theorem dX4_readsTie_46 : decode cX4_readsTie 46 = .ok (.istore_n 2, 1) := by decide +kernel
theorem dX4_readsTie_47 : decode cX4_readsTie 47 = .ok (.iload_n 2, 1) := by decide +kernel
theorem dX4_readsTie_48 : decode cX4_readsTie 48 = .ok (.iconst (-1), 1) := by decide +kernel
theorem dX4_readsTie_49 : decode cX4_readsTie 49 = .ok (.if_icmp .eq 12, 3) := by decide +kernel
theorem dX4_readsTie_52 : decode cX4_readsTie 52 = .ok (.aload_n 0, 1) := by decide +kernel
theorem dX4_readsTie_53 : decode cX4_readsTie 53 = .ok (.bipush 44, 2) := by decide +kernel
theorem dX4_readsTie_55 : decode cX4_readsTie 55 = .ok (.invokevirtual 48, 3) := by decide +kernel
theorem dX4_readsTie_58 : decode cX4_readsTie 58 = .ok (.ifCond .ne 5, 3) := by decide +kernel
theorem dX4_readsTie_61 : decode cX4_readsTie 61 = .ok (.iconst 0, 1) := by decide +kernel
theorem dX4_readsTie_62 : decode cX4_readsTie 62 = .ok (.ireturn, 1) := by decide +kernel
theorem dX4_readsTie_63 : decode cX4_readsTie 63 = .ok (.aload_n 0, 1) := by decide +kernel
theorem dX4_readsTie_64 : decode cX4_readsTie 64 = .ok (.getfield 19, 3) := by decide +kernel
theorem dX4_readsTie_67 : decode cX4_readsTie 67 = .ok (.istore_n 3, 1) := by decide +kernel
theorem dX4_readsTie_68 : decode cX4_readsTie 68 = .ok (.aload_n 0, 1) := by decide +kernel
theorem dX4_readsTie_69 : decode cX4_readsTie 69 = .ok (.iconst 0, 1) := by decide +kernel
theorem dX4_readsTie_70 : decode cX4_readsTie 70 = .ok (.aload_n 1, 1) := by decide +kernel
theorem dX4_readsTie_71 : decode cX4_readsTie 71 = .ok (.getfield 68, 3) := by decide +kernel
theorem dX4_readsTie_74 : decode cX4_readsTie 74 = .ok (.iconst 1, 1) := by decide +kernel
theorem dX4_readsTie_75 : decode cX4_readsTie 75 = .ok (.isub, 1) := by decide +kernel
theorem dX4_readsTie_76 : decode cX4_readsTie 76 = .ok (.invokevirtual 52, 3) := by decide +kernel
theorem dX4_readsTie_79 : decode cX4_readsTie 79 = .ok (.istore 4, 2) := by decide +kernel
theorem dX4_readsTie_81 : decode cX4_readsTie 81 = .ok (.iload 4, 2) := by decide +kernel
theorem dX4_readsTie_83 : decode cX4_readsTie 83 = .ok (.iconst (-1), 1) := by decide +kernel
theorem dX4_readsTie_84 : decode cX4_readsTie 84 = .ok (.if_icmp .ne 5, 3) := by decide +kernel
theorem dX4_readsTie_87 : decode cX4_readsTie 87 = .ok (.iconst 0, 1) := by decide +kernel
theorem dX4_readsTie_88 : decode cX4_readsTie 88 = .ok (.ireturn, 1) := by decide +kernel
theorem dX4_readsTie_89 : decode cX4_readsTie 89 = .ok (.iload 4, 2) := by decide +kernel
theorem dX4_readsTie_91 : decode cX4_readsTie 91 = .ok (.iload_n 2, 1) := by decide +kernel
theorem dX4_readsTie_92 : decode cX4_readsTie 92 = .ok (.if_icmp .eq 16, 3) := by decide +kernel
theorem dX4_readsTie_95 : decode cX4_readsTie 95 = .ok (.aload_n 1, 1) := by decide +kernel
theorem dX4_readsTie_96 : decode cX4_readsTie 96 = .ok (.iload_n 2, 1) := by decide +kernel
theorem dX4_readsTie_97 : decode cX4_readsTie 97 = .ok (.invokevirtual 78, 3) := by decide +kernel
theorem dX4_readsTie_100 : decode cX4_readsTie 100 = .ok (.iload 4, 2) := by decide +kernel
theorem dX4_readsTie_102 : decode cX4_readsTie 102 = .ok (.ishr, 1) := by decide +kernel
theorem dX4_readsTie_103 : decode cX4_readsTie 103 = .ok (.iconst 1, 1) := by decide +kernel
theorem dX4_readsTie_104 : decode cX4_readsTie 104 = .ok (.iand, 1) := by decide +kernel
theorem dX4_readsTie_105 : decode cX4_readsTie 105 = .ok (.ifCond .eq 14, 3) := by decide +kernel
theorem dX4_readsTie_108 : decode cX4_readsTie 108 = .ok (.aload_n 0, 1) := by decide +kernel
theorem dX4_readsTie_109 : decode cX4_readsTie 109 = .ok (.iload_n 3, 1) := by decide +kernel
theorem dX4_readsTie_110 : decode cX4_readsTie 110 = .ok (.putfield 19, 3) := by decide +kernel
theorem dX4_readsTie_113 : decode cX4_readsTie 113 = .ok (.aload_n 0, 1) := by decide +kernel
theorem dX4_readsTie_114 : decode cX4_readsTie 114 = .ok (.iconst 2, 1) := by decide +kernel
theorem dX4_readsTie_115 : decode cX4_readsTie 115 = .ok (.invokevirtual 65, 3) := by decide +kernel
theorem dX4_readsTie_118 : decode cX4_readsTie 118 = .ok (.ireturn, 1) := by decide +kernel
theorem dX4_readsTie_119 : decode cX4_readsTie 119 = .ok (.aload_n 0, 1) := by decide +kernel
theorem dX4_readsTie_120 : decode cX4_readsTie 120 = .ok (.bipush 59, 2) := by decide +kernel
theorem dX4_readsTie_122 : decode cX4_readsTie 122 = .ok (.invokevirtual 48, 3) := by decide +kernel
theorem dX4_readsTie_125 : decode cX4_readsTie 125 = .ok (.ifCond .ne 5, 3) := by decide +kernel
theorem dX4_readsTie_128 : decode cX4_readsTie 128 = .ok (.iconst 0, 1) := by decide +kernel
theorem dX4_readsTie_129 : decode cX4_readsTie 129 = .ok (.ireturn, 1) := by decide +kernel
theorem dX4_readsTie_130 : decode cX4_readsTie 130 = .ok (.aload_n 1, 1) := by decide +kernel
theorem dX4_readsTie_131 : decode cX4_readsTie 131 = .ok (.iload_n 2, 1) := by decide +kernel
theorem dX4_readsTie_132 : decode cX4_readsTie 132 = .ok (.iload 4, 2) := by decide +kernel
theorem dX4_readsTie_134 : decode cX4_readsTie 134 = .ok (.invokevirtual 81, 3) := by decide +kernel
theorem dX4_readsTie_137 : decode cX4_readsTie 137 = .ok (.iconst 1, 1) := by decide +kernel
theorem dX4_readsTie_138 : decode cX4_readsTie 138 = .ok (.ireturn, 1) := by decide +kernel
theorem dX4_fails_0 : decode cX4_fails 0 = .ok (.aload_n 0, 1) := by decide +kernel
theorem dX4_fails_1 : decode cX4_fails 1 = .ok (.iload_n 1, 1) := by decide +kernel
theorem dX4_fails_2 : decode cX4_fails 2 = .ok (.putfield 22, 3) := by decide +kernel
theorem dX4_fails_5 : decode cX4_fails 5 = .ok (.iconst 0, 1) := by decide +kernel
theorem dX4_fails_6 : decode cX4_fails 6 = .ok (.ireturn, 1) := by decide +kernel
theorem dX4_letter_0 : decode cX4_letter 0 = .ok (.aload_n 0, 1) := by decide +kernel
theorem dX4_letter_1 : decode cX4_letter 1 = .ok (.aload_n 0, 1) := by decide +kernel
theorem dX4_letter_2 : decode cX4_letter 2 = .ok (.getfield 19, 3) := by decide +kernel
theorem dX4_letter_5 : decode cX4_letter 5 = .ok (.invokevirtual 85, 3) := by decide +kernel
theorem dX4_letter_8 : decode cX4_letter 8 = .ok (.ireturn, 1) := by decide +kernel
theorem dX4_byteAt_0 : decode cX4_byteAt 0 = .ok (.iload_n 1, 1) := by decide +kernel
theorem dX4_byteAt_1 : decode cX4_byteAt 1 = .ok (.ifCond .lt 20, 3) := by decide +kernel
theorem dX4_byteAt_4 : decode cX4_byteAt 4 = .ok (.iload_n 1, 1) := by decide +kernel
theorem dX4_byteAt_5 : decode cX4_byteAt 5 = .ok (.aload_n 0, 1) := by decide +kernel
theorem dX4_byteAt_6 : decode cX4_byteAt 6 = .ok (.getfield 15, 3) := by decide +kernel
theorem dX4_byteAt_9 : decode cX4_byteAt 9 = .ok (.if_icmp .ge 12, 3) := by decide +kernel
theorem dX4_byteAt_12 : decode cX4_byteAt 12 = .ok (.aload_n 0, 1) := by decide +kernel
theorem dX4_byteAt_13 : decode cX4_byteAt 13 = .ok (.getfield 9, 3) := by decide +kernel
theorem dX4_byteAt_16 : decode cX4_byteAt 16 = .ok (.iload_n 1, 1) := by decide +kernel
theorem dX4_byteAt_17 : decode cX4_byteAt 17 = .ok (.iaload, 1) := by decide +kernel
theorem dX4_byteAt_18 : decode cX4_byteAt 18 = .ok (.goto 4, 3) := by decide +kernel
theorem dX4_byteAt_21 : decode cX4_byteAt 21 = .ok (.iconst (-1), 1) := by decide +kernel
theorem dX4_byteAt_22 : decode cX4_byteAt 22 = .ok (.ireturn, 1) := by decide +kernel
theorem dX4_passes_0 : decode cX4_passes 0 = .ok (.aload_n 0, 1) := by decide +kernel
theorem dX4_passes_1 : decode cX4_passes 1 = .ok (.invokevirtual 37, 3) := by decide +kernel
theorem dX4_passes_4 : decode cX4_passes 4 = .ok (.iload_n 1, 1) := by decide +kernel
theorem dX4_passes_5 : decode cX4_passes 5 = .ok (.if_icmp .eq 9, 3) := by decide +kernel
theorem dX4_passes_8 : decode cX4_passes 8 = .ok (.aload_n 0, 1) := by decide +kernel
theorem dX4_passes_9 : decode cX4_passes 9 = .ok (.iconst 1, 1) := by decide +kernel
theorem dX4_passes_10 : decode cX4_passes 10 = .ok (.invokevirtual 65, 3) := by decide +kernel
theorem dX4_passes_13 : decode cX4_passes 13 = .ok (.ireturn, 1) := by decide +kernel
theorem dX4_passes_14 : decode cX4_passes 14 = .ok (.aload_n 0, 1) := by decide +kernel
theorem dX4_passes_15 : decode cX4_passes 15 = .ok (.dup, 1) := by decide +kernel
theorem dX4_passes_16 : decode cX4_passes 16 = .ok (.getfield 19, 3) := by decide +kernel
theorem dX4_passes_19 : decode cX4_passes 19 = .ok (.iconst 1, 1) := by decide +kernel
theorem dX4_passes_20 : decode cX4_passes 20 = .ok (.iadd, 1) := by decide +kernel
theorem dX4_passes_21 : decode cX4_passes 21 = .ok (.putfield 19, 3) := by decide +kernel
theorem dX4_passes_24 : decode cX4_passes 24 = .ok (.iconst 1, 1) := by decide +kernel
theorem dX4_passes_25 : decode cX4_passes 25 = .ok (.ireturn, 1) := by decide +kernel
theorem dX4_number_0 : decode cX4_number 0 = .ok (.iconst 0, 1) := by decide +kernel
theorem dX4_number_1 : decode cX4_number 1 = .ok (.istore_n 3, 1) := by decide +kernel
theorem dX4_number_2 : decode cX4_number 2 = .ok (.iconst 0, 1) := by decide +kernel
theorem dX4_number_3 : decode cX4_number 3 = .ok (.istore 4, 2) := by decide +kernel
theorem dX4_number_5 : decode cX4_number 5 = .ok (.iload_n 3, 1) := by decide +kernel
theorem dX4_number_6 : decode cX4_number 6 = .ok (.iconst 3, 1) := by decide +kernel
theorem dX4_number_7 : decode cX4_number 7 = .ok (.if_icmp .ge 46, 3) := by decide +kernel
theorem dX4_number_10 : decode cX4_number 10 = .ok (.aload_n 0, 1) := by decide +kernel
theorem dX4_number_11 : decode cX4_number 11 = .ok (.aload_n 0, 1) := by decide +kernel
theorem dX4_number_12 : decode cX4_number 12 = .ok (.getfield 19, 3) := by decide +kernel
theorem dX4_number_15 : decode cX4_number 15 = .ok (.iload_n 3, 1) := by decide +kernel
theorem dX4_number_16 : decode cX4_number 16 = .ok (.iadd, 1) := by decide +kernel
theorem dX4_number_17 : decode cX4_number 17 = .ok (.invokevirtual 85, 3) := by decide +kernel
theorem dX4_number_20 : decode cX4_number 20 = .ok (.invokestatic 88, 3) := by decide +kernel
theorem dX4_number_23 : decode cX4_number 23 = .ok (.ifCond .eq 30, 3) := by decide +kernel
theorem dX4_number_26 : decode cX4_number 26 = .ok (.bipush 10, 2) := by decide +kernel
theorem dX4_number_28 : decode cX4_number 28 = .ok (.iload 4, 2) := by decide +kernel
theorem dX4_number_30 : decode cX4_number 30 = .ok (.imul, 1) := by decide +kernel
theorem dX4_number_31 : decode cX4_number 31 = .ok (.aload_n 0, 1) := by decide +kernel
theorem dX4_number_32 : decode cX4_number 32 = .ok (.aload_n 0, 1) := by decide +kernel
theorem dX4_number_33 : decode cX4_number 33 = .ok (.getfield 19, 3) := by decide +kernel
theorem dX4_number_36 : decode cX4_number 36 = .ok (.iload_n 3, 1) := by decide +kernel
theorem dX4_number_37 : decode cX4_number 37 = .ok (.iadd, 1) := by decide +kernel
theorem dX4_number_38 : decode cX4_number 38 = .ok (.invokevirtual 85, 3) := by decide +kernel
theorem dX4_number_41 : decode cX4_number 41 = .ok (.iadd, 1) := by decide +kernel
theorem dX4_number_42 : decode cX4_number 42 = .ok (.bipush 48, 2) := by decide +kernel
theorem dX4_number_44 : decode cX4_number 44 = .ok (.isub, 1) := by decide +kernel
theorem dX4_number_45 : decode cX4_number 45 = .ok (.istore 4, 2) := by decide +kernel
theorem dX4_number_47 : decode cX4_number 47 = .ok (.iinc 3 1, 3) := by decide +kernel
theorem dX4_number_50 : decode cX4_number 50 = .ok (.goto (-45), 3) := by decide +kernel
theorem dX4_number_53 : decode cX4_number 53 = .ok (.iload_n 3, 1) := by decide +kernel
theorem dX4_number_54 : decode cX4_number 54 = .ok (.ifCond .eq 8, 3) := by decide +kernel
theorem dX4_number_57 : decode cX4_number 57 = .ok (.iload_n 3, 1) := by decide +kernel
theorem dX4_number_58 : decode cX4_number 58 = .ok (.iconst 2, 1) := by decide +kernel
theorem dX4_number_59 : decode cX4_number 59 = .ok (.if_icmp .le 11, 3) := by decide +kernel
theorem dX4_number_62 : decode cX4_number 62 = .ok (.aload_n 0, 1) := by decide +kernel
theorem dX4_number_63 : decode cX4_number 63 = .ok (.iconst 1, 1) := by decide +kernel
theorem dX4_number_64 : decode cX4_number 64 = .ok (.invokevirtual 65, 3) := by decide +kernel
theorem dX4_number_67 : decode cX4_number 67 = .ok (.pop, 1) := by decide +kernel
theorem dX4_number_68 : decode cX4_number 68 = .ok (.iconst (-1), 1) := by decide +kernel
theorem dX4_number_69 : decode cX4_number 69 = .ok (.ireturn, 1) := by decide +kernel
theorem dX4_number_70 : decode cX4_number 70 = .ok (.iload 4, 2) := by decide +kernel
theorem dX4_number_72 : decode cX4_number 72 = .ok (.iload_n 1, 1) := by decide +kernel
theorem dX4_number_73 : decode cX4_number 73 = .ok (.if_icmp .lt 9, 3) := by decide +kernel
theorem dX4_number_76 : decode cX4_number 76 = .ok (.iload 4, 2) := by decide +kernel
theorem dX4_number_78 : decode cX4_number 78 = .ok (.iload_n 2, 1) := by decide +kernel
theorem dX4_number_79 : decode cX4_number 79 = .ok (.if_icmp .le 11, 3) := by decide +kernel
theorem dX4_number_82 : decode cX4_number 82 = .ok (.aload_n 0, 1) := by decide +kernel
theorem dX4_number_83 : decode cX4_number 83 = .ok (.iconst 2, 1) := by decide +kernel
theorem dX4_number_84 : decode cX4_number 84 = .ok (.invokevirtual 65, 3) := by decide +kernel
theorem dX4_number_87 : decode cX4_number 87 = .ok (.pop, 1) := by decide +kernel
theorem dX4_number_88 : decode cX4_number 88 = .ok (.iconst (-1), 1) := by decide +kernel
theorem dX4_number_89 : decode cX4_number 89 = .ok (.ireturn, 1) := by decide +kernel
theorem dX4_number_90 : decode cX4_number 90 = .ok (.aload_n 0, 1) := by decide +kernel
theorem dX4_number_91 : decode cX4_number 91 = .ok (.dup, 1) := by decide +kernel
theorem dX4_number_92 : decode cX4_number 92 = .ok (.getfield 19, 3) := by decide +kernel
theorem dX4_number_95 : decode cX4_number 95 = .ok (.iload_n 3, 1) := by decide +kernel
theorem dX4_number_96 : decode cX4_number 96 = .ok (.iadd, 1) := by decide +kernel
theorem dX4_number_97 : decode cX4_number 97 = .ok (.putfield 19, 3) := by decide +kernel
theorem dX4_number_100 : decode cX4_number 100 = .ok (.iload 4, 2) := by decide +kernel
theorem dX4_number_102 : decode cX4_number 102 = .ok (.ireturn, 1) := by decide +kernel
theorem dX4_isFigure_0 : decode cX4_isFigure 0 = .ok (.iload_n 0, 1) := by decide +kernel
theorem dX4_isFigure_1 : decode cX4_isFigure 1 = .ok (.bipush 48, 2) := by decide +kernel
theorem dX4_isFigure_3 : decode cX4_isFigure 3 = .ok (.if_icmp .lt 13, 3) := by decide +kernel
theorem dX4_isFigure_6 : decode cX4_isFigure 6 = .ok (.iload_n 0, 1) := by decide +kernel
theorem dX4_isFigure_7 : decode cX4_isFigure 7 = .ok (.bipush 57, 2) := by decide +kernel
theorem dX4_isFigure_9 : decode cX4_isFigure 9 = .ok (.if_icmp .gt 7, 3) := by decide +kernel
theorem dX4_isFigure_12 : decode cX4_isFigure 12 = .ok (.iconst 1, 1) := by decide +kernel
theorem dX4_isFigure_13 : decode cX4_isFigure 13 = .ok (.goto 4, 3) := by decide +kernel
theorem dX4_isFigure_16 : decode cX4_isFigure 16 = .ok (.iconst 0, 1) := by decide +kernel
theorem dX4_isFigure_17 : decode cX4_isFigure 17 = .ok (.ireturn, 1) := by decide +kernel
theorem dX4_sortOf_0 : decode cX4_sortOf 0 = .ok (.iload_n 0, 1) := by decide +kernel
theorem dX4_sortOf_1 : decode cX4_sortOf 1 = .ok (.lookupswitch 61 #[(98, 57), (100, 51), (103, 53), (114, 59), (119, 55)], 51) := by decide +kernel
theorem dX4_sortOf_52 : decode cX4_sortOf 52 = .ok (.iconst 1, 1) := by decide +kernel
theorem dX4_sortOf_53 : decode cX4_sortOf 53 = .ok (.ireturn, 1) := by decide +kernel
theorem dX4_sortOf_54 : decode cX4_sortOf 54 = .ok (.iconst 2, 1) := by decide +kernel
theorem dX4_sortOf_55 : decode cX4_sortOf 55 = .ok (.ireturn, 1) := by decide +kernel
theorem dX4_sortOf_56 : decode cX4_sortOf 56 = .ok (.iconst 3, 1) := by decide +kernel
theorem dX4_sortOf_57 : decode cX4_sortOf 57 = .ok (.ireturn, 1) := by decide +kernel
theorem dX4_sortOf_58 : decode cX4_sortOf 58 = .ok (.iconst 4, 1) := by decide +kernel
theorem dX4_sortOf_59 : decode cX4_sortOf 59 = .ok (.ireturn, 1) := by decide +kernel
theorem dX4_sortOf_60 : decode cX4_sortOf 60 = .ok (.iconst 5, 1) := by decide +kernel
theorem dX4_sortOf_61 : decode cX4_sortOf 61 = .ok (.ireturn, 1) := by decide +kernel
theorem dX4_sortOf_62 : decode cX4_sortOf 62 = .ok (.iconst (-1), 1) := by decide +kernel
theorem dX4_sortOf_63 : decode cX4_sortOf 63 = .ok (.ireturn, 1) := by decide +kernel
theorem dX5_init_0 : decode cX5_init 0 = .ok (.aload_n 0, 1) := by decide +kernel
theorem dX5_init_1 : decode cX5_init 1 = .ok (.invokespecial 3, 3) := by decide +kernel
theorem dX5_init_4 : decode cX5_init 4 = .ok (.aload_n 0, 1) := by decide +kernel
theorem dX5_init_5 : decode cX5_init 5 = .ok (.bipush 8, 2) := by decide +kernel
theorem dX5_init_7 : decode cX5_init 7 = .ok (.bipush 40, 2) := by decide +kernel
theorem dX5_init_9 : decode cX5_init 9 = .ok (.multianewarray 9 2, 4) := by decide +kernel
theorem dX5_init_13 : decode cX5_init 13 = .ok (.putfield 11, 3) := by decide +kernel
theorem dX5_init_16 : decode cX5_init 16 = .ok (.aload_n 0, 1) := by decide +kernel
theorem dX5_init_17 : decode cX5_init 17 = .ok (.bipush 8, 2) := by decide +kernel
theorem dX5_init_19 : decode cX5_init 19 = .ok (.newarray .int, 2) := by decide +kernel
theorem dX5_init_21 : decode cX5_init 21 = .ok (.putfield 16, 3) := by decide +kernel
theorem dX5_init_24 : decode cX5_init 24 = .ok (.aload_n 0, 1) := by decide +kernel
theorem dX5_init_25 : decode cX5_init 25 = .ok (.bipush 8, 2) := by decide +kernel
theorem dX5_init_27 : decode cX5_init 27 = .ok (.newarray .int, 2) := by decide +kernel
theorem dX5_init_29 : decode cX5_init 29 = .ok (.dup, 1) := by decide +kernel
theorem dX5_init_30 : decode cX5_init 30 = .ok (.iconst 0, 1) := by decide +kernel
theorem dX5_init_31 : decode cX5_init 31 = .ok (.iconst (-1), 1) := by decide +kernel
theorem dX5_init_32 : decode cX5_init 32 = .ok (.iastore, 1) := by decide +kernel
theorem dX5_init_33 : decode cX5_init 33 = .ok (.dup, 1) := by decide +kernel
theorem dX5_init_34 : decode cX5_init 34 = .ok (.iconst 1, 1) := by decide +kernel
theorem dX5_init_35 : decode cX5_init 35 = .ok (.iconst (-1), 1) := by decide +kernel
theorem dX5_init_36 : decode cX5_init 36 = .ok (.iastore, 1) := by decide +kernel
theorem dX5_init_37 : decode cX5_init 37 = .ok (.dup, 1) := by decide +kernel
theorem dX5_init_38 : decode cX5_init 38 = .ok (.iconst 2, 1) := by decide +kernel
theorem dX5_init_39 : decode cX5_init 39 = .ok (.iconst (-1), 1) := by decide +kernel
theorem dX5_init_40 : decode cX5_init 40 = .ok (.iastore, 1) := by decide +kernel
theorem dX5_init_41 : decode cX5_init 41 = .ok (.dup, 1) := by decide +kernel
theorem dX5_init_42 : decode cX5_init 42 = .ok (.iconst 3, 1) := by decide +kernel
theorem dX5_init_43 : decode cX5_init 43 = .ok (.iconst (-1), 1) := by decide +kernel
theorem dX5_init_44 : decode cX5_init 44 = .ok (.iastore, 1) := by decide +kernel
theorem dX5_init_45 : decode cX5_init 45 = .ok (.dup, 1) := by decide +kernel
theorem dX5_init_46 : decode cX5_init 46 = .ok (.iconst 4, 1) := by decide +kernel
theorem dX5_init_47 : decode cX5_init 47 = .ok (.iconst (-1), 1) := by decide +kernel
theorem dX5_init_48 : decode cX5_init 48 = .ok (.iastore, 1) := by decide +kernel
theorem dX5_init_49 : decode cX5_init 49 = .ok (.dup, 1) := by decide +kernel
theorem dX5_init_50 : decode cX5_init 50 = .ok (.iconst 5, 1) := by decide +kernel
theorem dX5_init_51 : decode cX5_init 51 = .ok (.iconst (-1), 1) := by decide +kernel
theorem dX5_init_52 : decode cX5_init 52 = .ok (.iastore, 1) := by decide +kernel
theorem dX5_init_53 : decode cX5_init 53 = .ok (.dup, 1) := by decide +kernel
theorem dX5_init_54 : decode cX5_init 54 = .ok (.bipush 6, 2) := by decide +kernel
theorem dX5_init_56 : decode cX5_init 56 = .ok (.iconst (-1), 1) := by decide +kernel
theorem dX5_init_57 : decode cX5_init 57 = .ok (.iastore, 1) := by decide +kernel
theorem dX5_init_58 : decode cX5_init 58 = .ok (.dup, 1) := by decide +kernel
theorem dX5_init_59 : decode cX5_init 59 = .ok (.bipush 7, 2) := by decide +kernel
theorem dX5_init_61 : decode cX5_init 61 = .ok (.iconst (-1), 1) := by decide +kernel
theorem dX5_init_62 : decode cX5_init 62 = .ok (.iastore, 1) := by decide +kernel
theorem dX5_init_63 : decode cX5_init 63 = .ok (.putfield 20, 3) := by decide +kernel
theorem dX5_init_66 : decode cX5_init 66 = .ok (.return_, 1) := by decide +kernel
theorem dX5_isMissing_0 : decode cX5_isMissing 0 = .ok (.aload_n 0, 1) := by decide +kernel
theorem dX5_isMissing_1 : decode cX5_isMissing 1 = .ok (.getfield 20, 3) := by decide +kernel
theorem dX5_isMissing_4 : decode cX5_isMissing 4 = .ok (.iload_n 1, 1) := by decide +kernel
theorem dX5_isMissing_5 : decode cX5_isMissing 5 = .ok (.iaload, 1) := by decide +kernel
theorem dX5_isMissing_6 : decode cX5_isMissing 6 = .ok (.iconst (-1), 1) := by decide +kernel
theorem dX5_isMissing_7 : decode cX5_isMissing 7 = .ok (.if_icmp .ne 7, 3) := by decide +kernel
theorem dX5_isMissing_10 : decode cX5_isMissing 10 = .ok (.iconst 1, 1) := by decide +kernel
theorem dX5_isMissing_11 : decode cX5_isMissing 11 = .ok (.goto 4, 3) := by decide +kernel
theorem dX5_isMissing_14 : decode cX5_isMissing 14 = .ok (.iconst 0, 1) := by decide +kernel
theorem dX5_isMissing_15 : decode cX5_isMissing 15 = .ok (.ireturn, 1) := by decide +kernel
theorem dX5_holds_0 : decode cX5_holds 0 = .ok (.iload_n 2, 1) := by decide +kernel
theorem dX5_holds_1 : decode cX5_holds 1 = .ok (.ifCond .lt 33, 3) := by decide +kernel
theorem dX5_holds_4 : decode cX5_holds 4 = .ok (.iload_n 3, 1) := by decide +kernel
theorem dX5_holds_5 : decode cX5_holds 5 = .ok (.ifCond .lt 29, 3) := by decide +kernel
theorem dX5_holds_8 : decode cX5_holds 8 = .ok (.iload_n 3, 1) := by decide +kernel
theorem dX5_holds_9 : decode cX5_holds 9 = .ok (.aload_n 0, 1) := by decide +kernel
theorem dX5_holds_10 : decode cX5_holds 10 = .ok (.getfield 20, 3) := by decide +kernel
theorem dX5_holds_13 : decode cX5_holds 13 = .ok (.iload_n 1, 1) := by decide +kernel
theorem dX5_holds_14 : decode cX5_holds 14 = .ok (.iaload, 1) := by decide +kernel
theorem dX5_holds_15 : decode cX5_holds 15 = .ok (.if_icmp .gt 19, 3) := by decide +kernel
theorem dX5_holds_18 : decode cX5_holds 18 = .ok (.iload_n 2, 1) := by decide +kernel
theorem dX5_holds_19 : decode cX5_holds 19 = .ok (.aload_n 0, 1) := by decide +kernel
theorem dX5_holds_20 : decode cX5_holds 20 = .ok (.getfield 20, 3) := by decide +kernel
theorem dX5_holds_23 : decode cX5_holds 23 = .ok (.iload_n 1, 1) := by decide +kernel
theorem dX5_holds_24 : decode cX5_holds 24 = .ok (.iaload, 1) := by decide +kernel
theorem dX5_holds_25 : decode cX5_holds 25 = .ok (.iload_n 3, 1) := by decide +kernel
