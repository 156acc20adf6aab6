theorem dX9_tells_277 : decode cX9_tells 277 = .ok (.sipush (-1000), 3) := by decide +kernel
theorem dX9_tells_280 : decode cX9_tells 280 = .ok (.if_icmp .eq 7, 3) := by decide +kernel
theorem dX9_tells_283 : decode cX9_tells 283 = .ok (.iconst 1, 1) := by decide +kernel
theorem dX9_tells_284 : decode cX9_tells 284 = .ok (.goto 4, 3) := by decide +kernel
theorem dX9_tells_287 : decode cX9_tells 287 = .ok (.iconst 0, 1) := by decide +kernel
theorem dX9_tells_288 : decode cX9_tells 288 = .ok (.istore 6, 2) := by decide +kernel
theorem dX9_tells_290 : decode cX9_tells 290 = .ok (.iinc 8 1, 3) := by decide +kernel
theorem dX9_tells_293 : decode cX9_tells 293 = .ok (.goto (-49), 3) := by decide +kernel
theorem dX9_tells_296 : decode cX9_tells 296 = .ok (.iinc 7 1, 3) := by decide +kernel
theorem dX9_tells_299 : decode cX9_tells 299 = .ok (.goto (-240), 3) := by decide +kernel
theorem dX9_tells_302 : decode cX9_tells 302 = .ok (.return_, 1) := by decide +kernel
theorem dX9_tellsCask_0 : decode cX9_tellsCask 0 = .ok (.aload_n 0, 1) := by decide +kernel
theorem dX9_tellsCask_1 : decode cX9_tellsCask 1 = .ok (.aload_n 1, 1) := by decide +kernel
theorem dX9_tellsCask_2 : decode cX9_tellsCask 2 = .ok (.aload_n 1, 1) := by decide +kernel
theorem dX9_tellsCask_3 : decode cX9_tellsCask 3 = .ok (.bipush 48, 2) := by decide +kernel
theorem dX9_tellsCask_5 : decode cX9_tellsCask 5 = .ok (.iload_n 2, 1) := by decide +kernel
theorem dX9_tellsCask_6 : decode cX9_tellsCask 6 = .ok (.iadd, 1) := by decide +kernel
theorem dX9_tellsCask_7 : decode cX9_tellsCask 7 = .ok (.iaload, 1) := by decide +kernel
theorem dX9_tellsCask_8 : decode cX9_tellsCask 8 = .ok (.aload_n 1, 1) := by decide +kernel
theorem dX9_tellsCask_9 : decode cX9_tellsCask 9 = .ok (.iload_n 2, 1) := by decide +kernel
theorem dX9_tellsCask_10 : decode cX9_tellsCask 10 = .ok (.invokestatic 183, 3) := by decide +kernel
theorem dX9_tellsCask_13 : decode cX9_tellsCask 13 = .ok (.iload_n 3, 1) := by decide +kernel
theorem dX9_tellsCask_14 : decode cX9_tellsCask 14 = .ok (.iload 4, 2) := by decide +kernel
theorem dX9_tellsCask_16 : decode cX9_tellsCask 16 = .ok (.invokevirtual 187, 3) := by decide +kernel
theorem dX9_tellsCask_19 : decode cX9_tellsCask 19 = .ok (.return_, 1) := by decide +kernel
theorem dX9_reached_0 : decode cX9_reached 0 = .ok (.iconst 0, 1) := by decide +kernel
theorem dX9_reached_1 : decode cX9_reached 1 = .ok (.istore_n 1, 1) := by decide +kernel
theorem dX9_reached_2 : decode cX9_reached 2 = .ok (.iconst 0, 1) := by decide +kernel
theorem dX9_reached_3 : decode cX9_reached 3 = .ok (.istore_n 2, 1) := by decide +kernel
theorem dX9_reached_4 : decode cX9_reached 4 = .ok (.iload_n 2, 1) := by decide +kernel
theorem dX9_reached_5 : decode cX9_reached 5 = .ok (.bipush 6, 2) := by decide +kernel
theorem dX9_reached_7 : decode cX9_reached 7 = .ok (.if_icmp .ge 28, 3) := by decide +kernel
theorem dX9_reached_10 : decode cX9_reached 10 = .ok (.iload_n 1, 1) := by decide +kernel
theorem dX9_reached_11 : decode cX9_reached 11 = .ok (.aload_n 0, 1) := by decide +kernel
theorem dX9_reached_12 : decode cX9_reached 12 = .ok (.getfield 47, 3) := by decide +kernel
theorem dX9_reached_15 : decode cX9_reached 15 = .ok (.iload_n 2, 1) := by decide +kernel
theorem dX9_reached_16 : decode cX9_reached 16 = .ok (.iaload, 1) := by decide +kernel
theorem dX9_reached_17 : decode cX9_reached 17 = .ok (.ifCond .ge 7, 3) := by decide +kernel
theorem dX9_reached_20 : decode cX9_reached 20 = .ok (.iconst 0, 1) := by decide +kernel
theorem dX9_reached_21 : decode cX9_reached 21 = .ok (.goto 6, 3) := by decide +kernel
theorem dX9_reached_24 : decode cX9_reached 24 = .ok (.iconst 1, 1) := by decide +kernel
theorem dX9_reached_25 : decode cX9_reached 25 = .ok (.iload_n 2, 1) := by decide +kernel
theorem dX9_reached_26 : decode cX9_reached 26 = .ok (.ishl, 1) := by decide +kernel
theorem dX9_reached_27 : decode cX9_reached 27 = .ok (.ior, 1) := by decide +kernel
theorem dX9_reached_28 : decode cX9_reached 28 = .ok (.istore_n 1, 1) := by decide +kernel
theorem dX9_reached_29 : decode cX9_reached 29 = .ok (.iinc 2 1, 3) := by decide +kernel
theorem dX9_reached_32 : decode cX9_reached 32 = .ok (.goto (-28), 3) := by decide +kernel
theorem dX9_reached_35 : decode cX9_reached 35 = .ok (.iload_n 1, 1) := by decide +kernel
theorem dX9_reached_36 : decode cX9_reached 36 = .ok (.ireturn, 1) := by decide +kernel
theorem dX9_taps_0 : decode cX9_taps 0 = .ok (.aload_n 0, 1) := by decide +kernel
theorem dX9_taps_1 : decode cX9_taps 1 = .ok (.aload_n 1, 1) := by decide +kernel
theorem dX9_taps_2 : decode cX9_taps 2 = .ok (.iload_n 2, 1) := by decide +kernel
theorem dX9_taps_3 : decode cX9_taps 3 = .ok (.iconst 1, 1) := by decide +kernel
theorem dX9_taps_4 : decode cX9_taps 4 = .ok (.iload_n 3, 1) := by decide +kernel
theorem dX9_taps_5 : decode cX9_taps 5 = .ok (.ishl, 1) := by decide +kernel
theorem dX9_taps_6 : decode cX9_taps 6 = .ok (.iconst 0, 1) := by decide +kernel
theorem dX9_taps_7 : decode cX9_taps 7 = .ok (.invokevirtual 191, 3) := by decide +kernel
theorem dX9_taps_10 : decode cX9_taps 10 = .ok (.aload_n 1, 1) := by decide +kernel
theorem dX9_taps_11 : decode cX9_taps 11 = .ok (.bipush 60, 2) := by decide +kernel
theorem dX9_taps_13 : decode cX9_taps 13 = .ok (.aload_n 1, 1) := by decide +kernel
theorem dX9_taps_14 : decode cX9_taps 14 = .ok (.bipush 48, 2) := by decide +kernel
theorem dX9_taps_16 : decode cX9_taps 16 = .ok (.iload_n 2, 1) := by decide +kernel
theorem dX9_taps_17 : decode cX9_taps 17 = .ok (.iadd, 1) := by decide +kernel
theorem dX9_taps_18 : decode cX9_taps 18 = .ok (.iaload, 1) := by decide +kernel
theorem dX9_taps_19 : decode cX9_taps 19 = .ok (.iadd, 1) := by decide +kernel
theorem dX9_taps_20 : decode cX9_taps 20 = .ok (.dup2, 1) := by decide +kernel
theorem dX9_taps_21 : decode cX9_taps 21 = .ok (.iaload, 1) := by decide +kernel
theorem dX9_taps_22 : decode cX9_taps 22 = .ok (.aload_n 0, 1) := by decide +kernel
theorem dX9_taps_23 : decode cX9_taps 23 = .ok (.getfield 168, 3) := by decide +kernel
theorem dX9_taps_26 : decode cX9_taps 26 = .ok (.ior, 1) := by decide +kernel
theorem dX9_taps_27 : decode cX9_taps 27 = .ok (.iastore, 1) := by decide +kernel
theorem dX9_taps_28 : decode cX9_taps 28 = .ok (.aload_n 1, 1) := by decide +kernel
theorem dX9_taps_29 : decode cX9_taps 29 = .ok (.bipush 52, 2) := by decide +kernel
theorem dX9_taps_31 : decode cX9_taps 31 = .ok (.iload_n 2, 1) := by decide +kernel
theorem dX9_taps_32 : decode cX9_taps 32 = .ok (.iadd, 1) := by decide +kernel
theorem dX9_taps_33 : decode cX9_taps 33 = .ok (.dup2, 1) := by decide +kernel
theorem dX9_taps_34 : decode cX9_taps 34 = .ok (.iaload, 1) := by decide +kernel
theorem dX9_taps_35 : decode cX9_taps 35 = .ok (.aload_n 1, 1) := by decide +kernel
theorem dX9_taps_36 : decode cX9_taps 36 = .ok (.bipush 52, 2) := by decide +kernel
theorem dX9_taps_38 : decode cX9_taps 38 = .ok (.iload_n 2, 1) := by decide +kernel
theorem dX9_taps_39 : decode cX9_taps 39 = .ok (.iadd, 1) := by decide +kernel
theorem dX9_taps_40 : decode cX9_taps 40 = .ok (.iaload, 1) := by decide +kernel
theorem dX9_taps_41 : decode cX9_taps 41 = .ok (.ifCond .le 7, 3) := by decide +kernel
theorem dX9_taps_44 : decode cX9_taps 44 = .ok (.iconst 1, 1) := by decide +kernel
theorem dX9_taps_45 : decode cX9_taps 45 = .ok (.goto 4, 3) := by decide +kernel
theorem dX9_taps_48 : decode cX9_taps 48 = .ok (.iconst 0, 1) := by decide +kernel
theorem dX9_taps_49 : decode cX9_taps 49 = .ok (.isub, 1) := by decide +kernel
theorem dX9_taps_50 : decode cX9_taps 50 = .ok (.iastore, 1) := by decide +kernel
theorem dX9_taps_51 : decode cX9_taps 51 = .ok (.aload_n 0, 1) := by decide +kernel
theorem dX9_taps_52 : decode cX9_taps 52 = .ok (.getfield 168, 3) := by decide +kernel
theorem dX9_taps_55 : decode cX9_taps 55 = .ok (.ireturn, 1) := by decide +kernel
theorem dX9_dayGoes_0 : decode cX9_dayGoes 0 = .ok (.iconst 0, 1) := by decide +kernel
theorem dX9_dayGoes_1 : decode cX9_dayGoes 1 = .ok (.istore_n 1, 1) := by decide +kernel
theorem dX9_dayGoes_2 : decode cX9_dayGoes 2 = .ok (.iload_n 1, 1) := by decide +kernel
theorem dX9_dayGoes_3 : decode cX9_dayGoes 3 = .ok (.iconst 4, 1) := by decide +kernel
theorem dX9_dayGoes_4 : decode cX9_dayGoes 4 = .ok (.if_icmp .ge 24, 3) := by decide +kernel
theorem dX9_dayGoes_7 : decode cX9_dayGoes 7 = .ok (.aload_n 0, 1) := by decide +kernel
theorem dX9_dayGoes_8 : decode cX9_dayGoes 8 = .ok (.bipush 56, 2) := by decide +kernel
theorem dX9_dayGoes_10 : decode cX9_dayGoes 10 = .ok (.iload_n 1, 1) := by decide +kernel
theorem dX9_dayGoes_11 : decode cX9_dayGoes 11 = .ok (.iadd, 1) := by decide +kernel
theorem dX9_dayGoes_12 : decode cX9_dayGoes 12 = .ok (.dup2, 1) := by decide +kernel
theorem dX9_dayGoes_13 : decode cX9_dayGoes 13 = .ok (.iaload, 1) := by decide +kernel
theorem dX9_dayGoes_14 : decode cX9_dayGoes 14 = .ok (.aload_n 0, 1) := by decide +kernel
theorem dX9_dayGoes_15 : decode cX9_dayGoes 15 = .ok (.bipush 44, 2) := by decide +kernel
theorem dX9_dayGoes_17 : decode cX9_dayGoes 17 = .ok (.iload_n 1, 1) := by decide +kernel
theorem dX9_dayGoes_18 : decode cX9_dayGoes 18 = .ok (.iadd, 1) := by decide +kernel
theorem dX9_dayGoes_19 : decode cX9_dayGoes 19 = .ok (.iaload, 1) := by decide +kernel
theorem dX9_dayGoes_20 : decode cX9_dayGoes 20 = .ok (.iadd, 1) := by decide +kernel
theorem dX9_dayGoes_21 : decode cX9_dayGoes 21 = .ok (.iastore, 1) := by decide +kernel
theorem dX9_dayGoes_22 : decode cX9_dayGoes 22 = .ok (.iinc 1 1, 3) := by decide +kernel
theorem dX9_dayGoes_25 : decode cX9_dayGoes 25 = .ok (.goto (-23), 3) := by decide +kernel
theorem dX9_dayGoes_28 : decode cX9_dayGoes 28 = .ok (.aload_n 0, 1) := by decide +kernel
theorem dX9_dayGoes_29 : decode cX9_dayGoes 29 = .ok (.iconst 5, 1) := by decide +kernel
theorem dX9_dayGoes_30 : decode cX9_dayGoes 30 = .ok (.dup2, 1) := by decide +kernel
theorem dX9_dayGoes_31 : decode cX9_dayGoes 31 = .ok (.iaload, 1) := by decide +kernel
theorem dX9_dayGoes_32 : decode cX9_dayGoes 32 = .ok (.iconst 1, 1) := by decide +kernel
theorem dX9_dayGoes_33 : decode cX9_dayGoes 33 = .ok (.iadd, 1) := by decide +kernel
theorem dX9_dayGoes_34 : decode cX9_dayGoes 34 = .ok (.iastore, 1) := by decide +kernel
theorem dX9_dayGoes_35 : decode cX9_dayGoes 35 = .ok (.return_, 1) := by decide +kernel
theorem dX9_blends_0 : decode cX9_blends 0 = .ok (.aload_n 0, 1) := by decide +kernel
theorem dX9_blends_1 : decode cX9_blends 1 = .ok (.bipush 52, 2) := by decide +kernel
theorem dX9_blends_3 : decode cX9_blends 3 = .ok (.iload_n 1, 1) := by decide +kernel
theorem dX9_blends_4 : decode cX9_blends 4 = .ok (.iadd, 1) := by decide +kernel
theorem dX9_blends_5 : decode cX9_blends 5 = .ok (.iaload, 1) := by decide +kernel
theorem dX9_blends_6 : decode cX9_blends 6 = .ok (.aload_n 0, 1) := by decide +kernel
theorem dX9_blends_7 : decode cX9_blends 7 = .ok (.bipush 52, 2) := by decide +kernel
theorem dX9_blends_9 : decode cX9_blends 9 = .ok (.iload_n 2, 1) := by decide +kernel
theorem dX9_blends_10 : decode cX9_blends 10 = .ok (.iadd, 1) := by decide +kernel
theorem dX9_blends_11 : decode cX9_blends 11 = .ok (.iaload, 1) := by decide +kernel
theorem dX9_blends_12 : decode cX9_blends 12 = .ok (.iadd, 1) := by decide +kernel
theorem dX9_blends_13 : decode cX9_blends 13 = .ok (.istore_n 3, 1) := by decide +kernel
theorem dX9_blends_14 : decode cX9_blends 14 = .ok (.aload_n 0, 1) := by decide +kernel
theorem dX9_blends_15 : decode cX9_blends 15 = .ok (.bipush 52, 2) := by decide +kernel
theorem dX9_blends_17 : decode cX9_blends 17 = .ok (.iload_n 2, 1) := by decide +kernel
theorem dX9_blends_18 : decode cX9_blends 18 = .ok (.iadd, 1) := by decide +kernel
theorem dX9_blends_19 : decode cX9_blends 19 = .ok (.iload_n 3, 1) := by decide +kernel
theorem dX9_blends_20 : decode cX9_blends 20 = .ok (.bipush 20, 2) := by decide +kernel
theorem dX9_blends_22 : decode cX9_blends 22 = .ok (.if_icmp .le 8, 3) := by decide +kernel
theorem dX9_blends_25 : decode cX9_blends 25 = .ok (.bipush 20, 2) := by decide +kernel
theorem dX9_blends_27 : decode cX9_blends 27 = .ok (.goto 4, 3) := by decide +kernel
theorem dX9_blends_30 : decode cX9_blends 30 = .ok (.iload_n 3, 1) := by decide +kernel
theorem dX9_blends_31 : decode cX9_blends 31 = .ok (.iastore, 1) := by decide +kernel
theorem dX9_blends_32 : decode cX9_blends 32 = .ok (.aload_n 0, 1) := by decide +kernel
theorem dX9_blends_33 : decode cX9_blends 33 = .ok (.iload_n 1, 1) := by decide +kernel
theorem dX9_blends_34 : decode cX9_blends 34 = .ok (.invokestatic 194, 3) := by decide +kernel
theorem dX9_blends_37 : decode cX9_blends 37 = .ok (.return_, 1) := by decide +kernel
theorem dX9_removes_0 : decode cX9_removes 0 = .ok (.aload_n 0, 1) := by decide +kernel
theorem dX9_removes_1 : decode cX9_removes 1 = .ok (.bipush 44, 2) := by decide +kernel
theorem dX9_removes_3 : decode cX9_removes 3 = .ok (.iload_n 1, 1) := by decide +kernel
theorem dX9_removes_4 : decode cX9_removes 4 = .ok (.iadd, 1) := by decide +kernel
theorem dX9_removes_5 : decode cX9_removes 5 = .ok (.iconst 0, 1) := by decide +kernel
theorem dX9_removes_6 : decode cX9_removes 6 = .ok (.iastore, 1) := by decide +kernel
theorem dX9_removes_7 : decode cX9_removes 7 = .ok (.aload_n 0, 1) := by decide +kernel
theorem dX9_removes_8 : decode cX9_removes 8 = .ok (.bipush 48, 2) := by decide +kernel
theorem dX9_removes_10 : decode cX9_removes 10 = .ok (.iload_n 1, 1) := by decide +kernel
theorem dX9_removes_11 : decode cX9_removes 11 = .ok (.iadd, 1) := by decide +kernel
theorem dX9_removes_12 : decode cX9_removes 12 = .ok (.iconst 0, 1) := by decide +kernel
theorem dX9_removes_13 : decode cX9_removes 13 = .ok (.iastore, 1) := by decide +kernel
theorem dX9_removes_14 : decode cX9_removes 14 = .ok (.aload_n 0, 1) := by decide +kernel
theorem dX9_removes_15 : decode cX9_removes 15 = .ok (.bipush 52, 2) := by decide +kernel
theorem dX9_removes_17 : decode cX9_removes 17 = .ok (.iload_n 1, 1) := by decide +kernel
theorem dX9_removes_18 : decode cX9_removes 18 = .ok (.iadd, 1) := by decide +kernel
theorem dX9_removes_19 : decode cX9_removes 19 = .ok (.iconst 0, 1) := by decide +kernel
theorem dX9_removes_20 : decode cX9_removes 20 = .ok (.iastore, 1) := by decide +kernel
theorem dX9_removes_21 : decode cX9_removes 21 = .ok (.aload_n 0, 1) := by decide +kernel
theorem dX9_removes_22 : decode cX9_removes 22 = .ok (.bipush 56, 2) := by decide +kernel
theorem dX9_removes_24 : decode cX9_removes 24 = .ok (.iload_n 1, 1) := by decide +kernel
theorem dX9_removes_25 : decode cX9_removes 25 = .ok (.iadd, 1) := by decide +kernel
theorem dX9_removes_26 : decode cX9_removes 26 = .ok (.iconst 0, 1) := by decide +kernel
theorem dX9_removes_27 : decode cX9_removes 27 = .ok (.iastore, 1) := by decide +kernel
theorem dX9_removes_28 : decode cX9_removes 28 = .ok (.return_, 1) := by decide +kernel
theorem dX9_remember_0 : decode cX9_remember 0 = .ok (.aload_n 0, 1) := by decide +kernel
theorem dX9_remember_1 : decode cX9_remember 1 = .ok (.getfield 147, 3) := by decide +kernel
theorem dX9_remember_4 : decode cX9_remember 4 = .ok (.bipush 24, 2) := by decide +kernel
theorem dX9_remember_6 : decode cX9_remember 6 = .ok (.if_icmp .ne 43, 3) := by decide +kernel
theorem dX9_remember_9 : decode cX9_remember 9 = .ok (.iconst 0, 1) := by decide +kernel
theorem dX9_remember_10 : decode cX9_remember 10 = .ok (.istore_n 1, 1) := by decide +kernel
theorem dX9_remember_11 : decode cX9_remember 11 = .ok (.iload_n 1, 1) := by decide +kernel
theorem dX9_remember_12 : decode cX9_remember 12 = .ok (.sipush 1518, 3) := by decide +kernel
theorem dX9_remember_15 : decode cX9_remember 15 = .ok (.if_icmp .ge 24, 3) := by decide +kernel
theorem dX9_remember_18 : decode cX9_remember 18 = .ok (.aload_n 0, 1) := by decide +kernel
theorem dX9_remember_19 : decode cX9_remember 19 = .ok (.getfield 25, 3) := by decide +kernel
theorem dX9_remember_22 : decode cX9_remember 22 = .ok (.iload_n 1, 1) := by decide +kernel
theorem dX9_remember_23 : decode cX9_remember 23 = .ok (.aload_n 0, 1) := by decide +kernel
theorem dX9_remember_24 : decode cX9_remember 24 = .ok (.getfield 25, 3) := by decide +kernel
theorem dX9_remember_27 : decode cX9_remember 27 = .ok (.iload_n 1, 1) := by decide +kernel
theorem dX9_remember_28 : decode cX9_remember 28 = .ok (.bipush 66, 2) := by decide +kernel
theorem dX9_remember_30 : decode cX9_remember 30 = .ok (.iadd, 1) := by decide +kernel
theorem dX9_remember_31 : decode cX9_remember 31 = .ok (.iaload, 1) := by decide +kernel
theorem dX9_remember_32 : decode cX9_remember 32 = .ok (.iastore, 1) := by decide +kernel
theorem dX9_remember_33 : decode cX9_remember 33 = .ok (.iinc 1 1, 3) := by decide +kernel
theorem dX9_remember_36 : decode cX9_remember 36 = .ok (.goto (-25), 3) := by decide +kernel
theorem dX9_remember_39 : decode cX9_remember 39 = .ok (.aload_n 0, 1) := by decide +kernel
theorem dX9_remember_40 : decode cX9_remember 40 = .ok (.dup, 1) := by decide +kernel
theorem dX9_remember_41 : decode cX9_remember 41 = .ok (.getfield 147, 3) := by decide +kernel
theorem dX9_remember_44 : decode cX9_remember 44 = .ok (.iconst 1, 1) := by decide +kernel
theorem dX9_remember_45 : decode cX9_remember 45 = .ok (.isub, 1) := by decide +kernel
theorem dX9_remember_46 : decode cX9_remember 46 = .ok (.putfield 147, 3) := by decide +kernel
theorem dX9_remember_49 : decode cX9_remember 49 = .ok (.aload_n 0, 1) := by decide +kernel
theorem dX9_remember_50 : decode cX9_remember 50 = .ok (.getfield 22, 3) := by decide +kernel
theorem dX9_remember_53 : decode cX9_remember 53 = .ok (.iconst 0, 1) := by decide +kernel
theorem dX9_remember_54 : decode cX9_remember 54 = .ok (.aload_n 0, 1) := by decide +kernel
theorem dX9_remember_55 : decode cX9_remember 55 = .ok (.getfield 25, 3) := by decide +kernel
theorem dX9_remember_58 : decode cX9_remember 58 = .ok (.bipush 66, 2) := by decide +kernel
theorem dX9_remember_60 : decode cX9_remember 60 = .ok (.aload_n 0, 1) := by decide +kernel
theorem dX9_remember_61 : decode cX9_remember 61 = .ok (.getfield 147, 3) := by decide +kernel
theorem dX9_remember_64 : decode cX9_remember 64 = .ok (.imul, 1) := by decide +kernel
theorem dX9_remember_65 : decode cX9_remember 65 = .ok (.invokestatic 150, 3) := by decide +kernel
theorem dX9_remember_68 : decode cX9_remember 68 = .ok (.aload_n 0, 1) := by decide +kernel
theorem dX9_remember_69 : decode cX9_remember 69 = .ok (.dup, 1) := by decide +kernel
theorem dX9_remember_70 : decode cX9_remember 70 = .ok (.getfield 147, 3) := by decide +kernel
theorem dX9_remember_73 : decode cX9_remember 73 = .ok (.iconst 1, 1) := by decide +kernel
theorem dX9_remember_74 : decode cX9_remember 74 = .ok (.iadd, 1) := by decide +kernel
theorem dX9_remember_75 : decode cX9_remember 75 = .ok (.putfield 147, 3) := by decide +kernel
theorem dX9_remember_78 : decode cX9_remember 78 = .ok (.return_, 1) := by decide +kernel
theorem dX9_undo_0 : decode cX9_undo 0 = .ok (.aload_n 0, 1) := by decide +kernel
theorem dX9_undo_1 : decode cX9_undo 1 = .ok (.getfield 147, 3) := by decide +kernel
theorem dX9_undo_4 : decode cX9_undo 4 = .ok (.ifCond .ne 6, 3) := by decide +kernel
theorem dX9_undo_7 : decode cX9_undo 7 = .ok (.ldc 198, 2) := by decide +kernel
theorem dX9_undo_9 : decode cX9_undo 9 = .ok (.ireturn, 1) := by decide +kernel
theorem dX9_undo_10 : decode cX9_undo 10 = .ok (.aload_n 0, 1) := by decide +kernel
theorem dX9_undo_11 : decode cX9_undo 11 = .ok (.dup, 1) := by decide +kernel
theorem dX9_undo_12 : decode cX9_undo 12 = .ok (.getfield 147, 3) := by decide +kernel
theorem dX9_undo_15 : decode cX9_undo 15 = .ok (.iconst 1, 1) := by decide +kernel
theorem dX9_undo_16 : decode cX9_undo 16 = .ok (.isub, 1) := by decide +kernel
theorem dX9_undo_17 : decode cX9_undo 17 = .ok (.putfield 147, 3) := by decide +kernel
theorem dX9_undo_20 : decode cX9_undo 20 = .ok (.aload_n 0, 1) := by decide +kernel
theorem dX9_undo_21 : decode cX9_undo 21 = .ok (.getfield 25, 3) := by decide +kernel
theorem dX9_undo_24 : decode cX9_undo 24 = .ok (.bipush 66, 2) := by decide +kernel
theorem dX9_undo_26 : decode cX9_undo 26 = .ok (.aload_n 0, 1) := by decide +kernel
theorem dX9_undo_27 : decode cX9_undo 27 = .ok (.getfield 147, 3) := by decide +kernel
theorem dX9_undo_30 : decode cX9_undo 30 = .ok (.imul, 1) := by decide +kernel
theorem dX9_undo_31 : decode cX9_undo 31 = .ok (.aload_n 0, 1) := by decide +kernel
theorem dX9_undo_32 : decode cX9_undo 32 = .ok (.getfield 22, 3) := by decide +kernel
theorem dX9_undo_35 : decode cX9_undo 35 = .ok (.iconst 0, 1) := by decide +kernel
theorem dX9_undo_36 : decode cX9_undo 36 = .ok (.invokestatic 150, 3) := by decide +kernel
theorem dX9_undo_39 : decode cX9_undo 39 = .ok (.aload_n 0, 1) := by decide +kernel
theorem dX9_undo_40 : decode cX9_undo 40 = .ok (.getfield 147, 3) := by decide +kernel
theorem dX9_undo_43 : decode cX9_undo 43 = .ok (.ireturn, 1) := by decide +kernel
theorem dX9_brew_0 : decode cX9_brew 0 = .ok (.aload_n 0, 1) := by decide +kernel
theorem dX9_brew_1 : decode cX9_brew 1 = .ok (.iload_n 1, 1) := by decide +kernel
theorem dX9_brew_2 : decode cX9_brew 2 = .ok (.invokevirtual 199, 3) := by decide +kernel
theorem dX9_brew_5 : decode cX9_brew 5 = .ok (.ifCond .eq 15, 3) := by decide +kernel
theorem dX9_brew_8 : decode cX9_brew 8 = .ok (.iload_n 2, 1) := by decide +kernel
theorem dX9_brew_9 : decode cX9_brew 9 = .ok (.i2l, 1) := by decide +kernel
theorem dX9_brew_10 : decode cX9_brew 10 = .ok (.lconst 0, 1) := by decide +kernel
theorem dX9_brew_11 : decode cX9_brew 11 = .ok (.ldc2_w 202, 3) := by decide +kernel
theorem dX9_brew_14 : decode cX9_brew 14 = .ok (.invokestatic 60, 3) := by decide +kernel
theorem dX9_brew_17 : decode cX9_brew 17 = .ok (.ifCond .ne 6, 3) := by decide +kernel
theorem dX9_brew_20 : decode cX9_brew 20 = .ok (.ldc 70, 2) := by decide +kernel
theorem dX9_brew_22 : decode cX9_brew 22 = .ok (.ireturn, 1) := by decide +kernel
theorem dX9_brew_23 : decode cX9_brew 23 = .ok (.iconst 0, 1) := by decide +kernel
theorem dX9_brew_24 : decode cX9_brew 24 = .ok (.istore_n 3, 1) := by decide +kernel
theorem dX9_brew_25 : decode cX9_brew 25 = .ok (.iload_n 3, 1) := by decide +kernel
theorem dX9_brew_26 : decode cX9_brew 26 = .ok (.iconst 4, 1) := by decide +kernel
theorem dX9_brew_27 : decode cX9_brew 27 = .ok (.if_icmp .ge 67, 3) := by decide +kernel
theorem dX9_brew_30 : decode cX9_brew 30 = .ok (.aload_n 0, 1) := by decide +kernel
theorem dX9_brew_31 : decode cX9_brew 31 = .ok (.getfield 22, 3) := by decide +kernel
theorem dX9_brew_34 : decode cX9_brew 34 = .ok (.bipush 44, 2) := by decide +kernel
theorem dX9_brew_36 : decode cX9_brew 36 = .ok (.iload_n 3, 1) := by decide +kernel
theorem dX9_brew_37 : decode cX9_brew 37 = .ok (.iadd, 1) := by decide +kernel
theorem dX9_brew_38 : decode cX9_brew 38 = .ok (.iaload, 1) := by decide +kernel
theorem dX9_brew_39 : decode cX9_brew 39 = .ok (.ifCond .ne 49, 3) := by decide +kernel
theorem dX9_brew_42 : decode cX9_brew 42 = .ok (.aload_n 0, 1) := by decide +kernel
theorem dX9_brew_43 : decode cX9_brew 43 = .ok (.invokevirtual 204, 3) := by decide +kernel
theorem dX9_brew_46 : decode cX9_brew 46 = .ok (.aload_n 0, 1) := by decide +kernel
theorem dX9_brew_47 : decode cX9_brew 47 = .ok (.getfield 22, 3) := by decide +kernel
theorem dX9_brew_50 : decode cX9_brew 50 = .ok (.bipush 44, 2) := by decide +kernel
theorem dX9_brew_52 : decode cX9_brew 52 = .ok (.iload_n 3, 1) := by decide +kernel
theorem dX9_brew_53 : decode cX9_brew 53 = .ok (.iadd, 1) := by decide +kernel
theorem dX9_brew_54 : decode cX9_brew 54 = .ok (.iconst 1, 1) := by decide +kernel
theorem dX9_brew_55 : decode cX9_brew 55 = .ok (.iastore, 1) := by decide +kernel
theorem dX9_brew_56 : decode cX9_brew 56 = .ok (.aload_n 0, 1) := by decide +kernel
theorem dX9_brew_57 : decode cX9_brew 57 = .ok (.getfield 22, 3) := by decide +kernel
theorem dX9_brew_60 : decode cX9_brew 60 = .ok (.bipush 48, 2) := by decide +kernel
theorem dX9_brew_62 : decode cX9_brew 62 = .ok (.iload_n 3, 1) := by decide +kernel
theorem dX9_brew_63 : decode cX9_brew 63 = .ok (.iadd, 1) := by decide +kernel
theorem dX9_brew_64 : decode cX9_brew 64 = .ok (.iload_n 1, 1) := by decide +kernel
theorem dX9_brew_65 : decode cX9_brew 65 = .ok (.iastore, 1) := by decide +kernel
theorem dX9_brew_66 : decode cX9_brew 66 = .ok (.aload_n 0, 1) := by decide +kernel
theorem dX9_brew_67 : decode cX9_brew 67 = .ok (.getfield 22, 3) := by decide +kernel
theorem dX9_brew_70 : decode cX9_brew 70 = .ok (.bipush 52, 2) := by decide +kernel
theorem dX9_brew_72 : decode cX9_brew 72 = .ok (.iload_n 3, 1) := by decide +kernel
theorem dX9_brew_73 : decode cX9_brew 73 = .ok (.iadd, 1) := by decide +kernel
theorem dX9_brew_74 : decode cX9_brew 74 = .ok (.iload_n 2, 1) := by decide +kernel
theorem dX9_brew_75 : decode cX9_brew 75 = .ok (.iastore, 1) := by decide +kernel
theorem dX9_brew_76 : decode cX9_brew 76 = .ok (.aload_n 0, 1) := by decide +kernel
theorem dX9_brew_77 : decode cX9_brew 77 = .ok (.getfield 22, 3) := by decide +kernel
theorem dX9_brew_80 : decode cX9_brew 80 = .ok (.bipush 56, 2) := by decide +kernel
theorem dX9_brew_82 : decode cX9_brew 82 = .ok (.iload_n 3, 1) := by decide +kernel
theorem dX9_brew_83 : decode cX9_brew 83 = .ok (.iadd, 1) := by decide +kernel
theorem dX9_brew_84 : decode cX9_brew 84 = .ok (.iconst 0, 1) := by decide +kernel
theorem dX9_brew_85 : decode cX9_brew 85 = .ok (.iastore, 1) := by decide +kernel
theorem dX9_brew_86 : decode cX9_brew 86 = .ok (.iload_n 3, 1) := by decide +kernel
theorem dX9_brew_87 : decode cX9_brew 87 = .ok (.ireturn, 1) := by decide +kernel
theorem dX9_brew_88 : decode cX9_brew 88 = .ok (.iinc 3 1, 3) := by decide +kernel
theorem dX9_brew_91 : decode cX9_brew 91 = .ok (.goto (-66), 3) := by decide +kernel
theorem dX9_brew_94 : decode cX9_brew 94 = .ok (.ldc 83, 2) := by decide +kernel
theorem dX9_brew_96 : decode cX9_brew 96 = .ok (.ireturn, 1) := by decide +kernel
theorem dX9_isOff_0 : decode cX9_isOff 0 = .ok (.aload_n 0, 1) := by decide +kernel
theorem dX9_isOff_1 : decode cX9_isOff 1 = .ok (.getfield 22, 3) := by decide +kernel
theorem dX9_isOff_4 : decode cX9_isOff 4 = .ok (.bipush 44, 2) := by decide +kernel
theorem dX9_isOff_6 : decode cX9_isOff 6 = .ok (.iload_n 1, 1) := by decide +kernel
theorem dX9_isOff_7 : decode cX9_isOff 7 = .ok (.iadd, 1) := by decide +kernel
theorem dX9_isOff_8 : decode cX9_isOff 8 = .ok (.iaload, 1) := by decide +kernel
theorem dX9_isOff_9 : decode cX9_isOff 9 = .ok (.iconst 1, 1) := by decide +kernel
theorem dX9_isOff_10 : decode cX9_isOff 10 = .ok (.if_icmp .ne 25, 3) := by decide +kernel
theorem dX9_isOff_13 : decode cX9_isOff 13 = .ok (.aload_n 0, 1) := by decide +kernel
theorem dX9_isOff_14 : decode cX9_isOff 14 = .ok (.getfield 22, 3) := by decide +kernel
theorem dX9_isOff_17 : decode cX9_isOff 17 = .ok (.bipush 56, 2) := by decide +kernel
theorem dX9_isOff_19 : decode cX9_isOff 19 = .ok (.iload_n 1, 1) := by decide +kernel
theorem dX9_isOff_20 : decode cX9_isOff 20 = .ok (.iadd, 1) := by decide +kernel
theorem dX9_isOff_21 : decode cX9_isOff 21 = .ok (.iaload, 1) := by decide +kernel
theorem dX9_isOff_22 : decode cX9_isOff 22 = .ok (.aload_n 0, 1) := by decide +kernel
theorem dX9_isOff_23 : decode cX9_isOff 23 = .ok (.getfield 22, 3) := by decide +kernel
theorem dX9_isOff_26 : decode cX9_isOff 26 = .ok (.iconst 1, 1) := by decide +kernel
theorem dX9_isOff_27 : decode cX9_isOff 27 = .ok (.iaload, 1) := by decide +kernel
theorem dX9_isOff_28 : decode cX9_isOff 28 = .ok (.if_icmp .le 7, 3) := by decide +kernel
theorem dX9_isOff_31 : decode cX9_isOff 31 = .ok (.iconst 1, 1) := by decide +kernel
theorem dX9_isOff_32 : decode cX9_isOff 32 = .ok (.goto 4, 3) := by decide +kernel
theorem dX9_isOff_35 : decode cX9_isOff 35 = .ok (.iconst 0, 1) := by decide +kernel
theorem dX9_isOff_36 : decode cX9_isOff 36 = .ok (.ireturn, 1) := by decide +kernel
theorem dX9_days_0 : decode cX9_days 0 = .ok (.aload_n 0, 1) := by decide +kernel
theorem dX9_days_1 : decode cX9_days 1 = .ok (.getfield 143, 3) := by decide +kernel
theorem dX9_days_4 : decode cX9_days 4 = .ok (.ifCond .ne 6, 3) := by decide +kernel
theorem dX9_days_7 : decode cX9_days 7 = .ok (.ldc 198, 2) := by decide +kernel
theorem dX9_days_9 : decode cX9_days 9 = .ok (.ireturn, 1) := by decide +kernel
theorem dX9_days_10 : decode cX9_days 10 = .ok (.iload_n 1, 1) := by decide +kernel
theorem dX9_days_11 : decode cX9_days 11 = .ok (.i2l, 1) := by decide +kernel
theorem dX9_days_12 : decode cX9_days 12 = .ok (.lconst 1, 1) := by decide +kernel
theorem dX9_days_13 : decode cX9_days 13 = .ok (.ldc2_w 207, 3) := by decide +kernel
theorem dX9_days_16 : decode cX9_days 16 = .ok (.invokestatic 60, 3) := by decide +kernel
theorem dX9_days_19 : decode cX9_days 19 = .ok (.ifCond .ne 6, 3) := by decide +kernel
theorem dX9_days_22 : decode cX9_days 22 = .ok (.ldc 70, 2) := by decide +kernel
theorem dX9_days_24 : decode cX9_days 24 = .ok (.ireturn, 1) := by decide +kernel
theorem dX9_days_25 : decode cX9_days 25 = .ok (.aload_n 0, 1) := by decide +kernel
theorem dX9_days_26 : decode cX9_days 26 = .ok (.getfield 22, 3) := by decide +kernel
theorem dX9_days_29 : decode cX9_days 29 = .ok (.iconst 5, 1) := by decide +kernel
theorem dX9_days_30 : decode cX9_days 30 = .ok (.iaload, 1) := by decide +kernel
theorem dX9_days_31 : decode cX9_days 31 = .ok (.iload_n 1, 1) := by decide +kernel
theorem dX9_days_32 : decode cX9_days 32 = .ok (.iadd, 1) := by decide +kernel
theorem dX9_days_33 : decode cX9_days 33 = .ok (.sipush 999, 3) := by decide +kernel
theorem dX9_days_36 : decode cX9_days 36 = .ok (.if_icmp .le 6, 3) := by decide +kernel
theorem dX9_days_39 : decode cX9_days 39 = .ok (.ldc 83, 2) := by decide +kernel
theorem dX9_days_41 : decode cX9_days 41 = .ok (.ireturn, 1) := by decide +kernel
theorem dX9_days_42 : decode cX9_days 42 = .ok (.iconst 0, 1) := by decide +kernel
theorem dX9_days_43 : decode cX9_days 43 = .ok (.istore_n 2, 1) := by decide +kernel
theorem dX9_days_44 : decode cX9_days 44 = .ok (.iload_n 2, 1) := by decide +kernel
theorem dX9_days_45 : decode cX9_days 45 = .ok (.iload_n 1, 1) := by decide +kernel
theorem dX9_days_46 : decode cX9_days 46 = .ok (.if_icmp .ge 20, 3) := by decide +kernel
theorem dX9_days_49 : decode cX9_days 49 = .ok (.aload_n 0, 1) := by decide +kernel
theorem dX9_days_50 : decode cX9_days 50 = .ok (.invokevirtual 204, 3) := by decide +kernel
theorem dX9_days_53 : decode cX9_days 53 = .ok (.aload_n 0, 1) := by decide +kernel
theorem dX9_days_54 : decode cX9_days 54 = .ok (.getfield 22, 3) := by decide +kernel
theorem dX9_days_57 : decode cX9_days 57 = .ok (.invokestatic 209, 3) := by decide +kernel
theorem dX9_days_60 : decode cX9_days 60 = .ok (.iinc 2 1, 3) := by decide +kernel
theorem dX9_days_63 : decode cX9_days 63 = .ok (.goto (-19), 3) := by decide +kernel
theorem dX9_days_66 : decode cX9_days 66 = .ok (.iconst 0, 1) := by decide +kernel
theorem dX9_days_67 : decode cX9_days 67 = .ok (.istore_n 2, 1) := by decide +kernel
theorem dX9_days_68 : decode cX9_days 68 = .ok (.iconst 0, 1) := by decide +kernel
theorem dX9_days_69 : decode cX9_days 69 = .ok (.istore_n 3, 1) := by decide +kernel
theorem dX9_days_70 : decode cX9_days 70 = .ok (.iload_n 3, 1) := by decide +kernel
theorem dX9_days_71 : decode cX9_days 71 = .ok (.iconst 4, 1) := by decide +kernel
theorem dX9_days_72 : decode cX9_days 72 = .ok (.if_icmp .ge 27, 3) := by decide +kernel
theorem dX9_days_75 : decode cX9_days 75 = .ok (.iload_n 2, 1) := by decide +kernel
theorem dX9_days_76 : decode cX9_days 76 = .ok (.aload_n 0, 1) := by decide +kernel
theorem dX9_days_77 : decode cX9_days 77 = .ok (.iload_n 3, 1) := by decide +kernel
theorem dX9_days_78 : decode cX9_days 78 = .ok (.invokevirtual 213, 3) := by decide +kernel
theorem dX9_days_81 : decode cX9_days 81 = .ok (.ifCond .eq 9, 3) := by decide +kernel
theorem dX9_days_84 : decode cX9_days 84 = .ok (.iconst 1, 1) := by decide +kernel
theorem dX9_days_85 : decode cX9_days 85 = .ok (.iload_n 3, 1) := by decide +kernel
theorem dX9_days_86 : decode cX9_days 86 = .ok (.ishl, 1) := by decide +kernel
theorem dX9_days_87 : decode cX9_days 87 = .ok (.goto 4, 3) := by decide +kernel
theorem dX9_days_90 : decode cX9_days 90 = .ok (.iconst 0, 1) := by decide +kernel
theorem dX9_days_91 : decode cX9_days 91 = .ok (.ior, 1) := by decide +kernel
theorem dX9_days_92 : decode cX9_days 92 = .ok (.istore_n 2, 1) := by decide +kernel
theorem dX9_days_93 : decode cX9_days 93 = .ok (.iinc 3 1, 3) := by decide +kernel
theorem dX9_days_96 : decode cX9_days 96 = .ok (.goto (-26), 3) := by decide +kernel
theorem dX9_days_99 : decode cX9_days 99 = .ok (.iload_n 2, 1) := by decide +kernel
theorem dX9_days_100 : decode cX9_days 100 = .ok (.ireturn, 1) := by decide +kernel
theorem dX9_tap_0 : decode cX9_tap 0 = .ok (.iload_n 1, 1) := by decide +kernel
theorem dX9_tap_1 : decode cX9_tap 1 = .ok (.invokestatic 216, 3) := by decide +kernel
theorem dX9_tap_4 : decode cX9_tap 4 = .ok (.ifCond .eq 11, 3) := by decide +kernel
theorem dX9_tap_7 : decode cX9_tap 7 = .ok (.aload_n 0, 1) := by decide +kernel
theorem dX9_tap_8 : decode cX9_tap 8 = .ok (.iload_n 2, 1) := by decide +kernel
theorem dX9_tap_9 : decode cX9_tap 9 = .ok (.invokevirtual 199, 3) := by decide +kernel
theorem dX9_tap_12 : decode cX9_tap 12 = .ok (.ifCond .ne 6, 3) := by decide +kernel
theorem dX9_tap_15 : decode cX9_tap 15 = .ok (.ldc 70, 2) := by decide +kernel
theorem dX9_tap_17 : decode cX9_tap 17 = .ok (.ireturn, 1) := by decide +kernel
theorem dX9_tap_18 : decode cX9_tap 18 = .ok (.aload_n 0, 1) := by decide +kernel
theorem dX9_tap_19 : decode cX9_tap 19 = .ok (.getfield 22, 3) := by decide +kernel
theorem dX9_tap_22 : decode cX9_tap 22 = .ok (.bipush 44, 2) := by decide +kernel
theorem dX9_tap_24 : decode cX9_tap 24 = .ok (.iload_n 1, 1) := by decide +kernel
theorem dX9_tap_25 : decode cX9_tap 25 = .ok (.iadd, 1) := by decide +kernel
theorem dX9_tap_26 : decode cX9_tap 26 = .ok (.iaload, 1) := by decide +kernel
theorem dX9_tap_27 : decode cX9_tap 27 = .ok (.ifCond .ne 6, 3) := by decide +kernel
theorem dX9_tap_30 : decode cX9_tap 30 = .ok (.ldc 198, 2) := by decide +kernel
theorem dX9_tap_32 : decode cX9_tap 32 = .ok (.ireturn, 1) := by decide +kernel
theorem dX9_tap_33 : decode cX9_tap 33 = .ok (.aload_n 0, 1) := by decide +kernel
theorem dX9_tap_34 : decode cX9_tap 34 = .ok (.invokevirtual 204, 3) := by decide +kernel
theorem dX9_tap_37 : decode cX9_tap 37 = .ok (.aload_n 0, 1) := by decide +kernel
theorem dX9_tap_38 : decode cX9_tap 38 = .ok (.aload_n 0, 1) := by decide +kernel
theorem dX9_tap_39 : decode cX9_tap 39 = .ok (.getfield 22, 3) := by decide +kernel
theorem dX9_tap_42 : decode cX9_tap 42 = .ok (.iload_n 1, 1) := by decide +kernel
theorem dX9_tap_43 : decode cX9_tap 43 = .ok (.iload_n 2, 1) := by decide +kernel
theorem dX9_tap_44 : decode cX9_tap 44 = .ok (.invokevirtual 219, 3) := by decide +kernel
theorem dX9_tap_47 : decode cX9_tap 47 = .ok (.ireturn, 1) := by decide +kernel
theorem dX9_water_0 : decode cX9_water 0 = .ok (.iload_n 1, 1) := by decide +kernel
theorem dX9_water_1 : decode cX9_water 1 = .ok (.invokestatic 216, 3) := by decide +kernel
theorem dX9_water_4 : decode cX9_water 4 = .ok (.ifCond .ne 6, 3) := by decide +kernel
theorem dX9_water_7 : decode cX9_water 7 = .ok (.ldc 70, 2) := by decide +kernel
theorem dX9_water_9 : decode cX9_water 9 = .ok (.ireturn, 1) := by decide +kernel
theorem dX9_water_10 : decode cX9_water 10 = .ok (.aload_n 0, 1) := by decide +kernel
theorem dX9_water_11 : decode cX9_water 11 = .ok (.getfield 22, 3) := by decide +kernel
theorem dX9_water_14 : decode cX9_water 14 = .ok (.bipush 44, 2) := by decide +kernel
theorem dX9_water_16 : decode cX9_water 16 = .ok (.iload_n 1, 1) := by decide +kernel
theorem dX9_water_17 : decode cX9_water 17 = .ok (.iadd, 1) := by decide +kernel
theorem dX9_water_18 : decode cX9_water 18 = .ok (.iaload, 1) := by decide +kernel
theorem dX9_water_19 : decode cX9_water 19 = .ok (.ifCond .ne 6, 3) := by decide +kernel
theorem dX9_water_22 : decode cX9_water 22 = .ok (.ldc 198, 2) := by decide +kernel
theorem dX9_water_24 : decode cX9_water 24 = .ok (.ireturn, 1) := by decide +kernel
theorem dX9_water_25 : decode cX9_water 25 = .ok (.aload_n 0, 1) := by decide +kernel
theorem dX9_water_26 : decode cX9_water 26 = .ok (.invokevirtual 204, 3) := by decide +kernel
theorem dX9_water_29 : decode cX9_water 29 = .ok (.aload_n 0, 1) := by decide +kernel
theorem dX9_water_30 : decode cX9_water 30 = .ok (.getfield 22, 3) := by decide +kernel
theorem dX9_water_33 : decode cX9_water 33 = .ok (.bipush 52, 2) := by decide +kernel
theorem dX9_water_35 : decode cX9_water 35 = .ok (.iload_n 1, 1) := by decide +kernel
theorem dX9_water_36 : decode cX9_water 36 = .ok (.iadd, 1) := by decide +kernel
theorem dX9_water_37 : decode cX9_water 37 = .ok (.dup2, 1) := by decide +kernel
theorem dX9_water_38 : decode cX9_water 38 = .ok (.iaload, 1) := by decide +kernel
theorem dX9_water_39 : decode cX9_water 39 = .ok (.iconst 2, 1) := by decide +kernel
theorem dX9_water_40 : decode cX9_water 40 = .ok (.idiv, 1) := by decide +kernel
theorem dX9_water_41 : decode cX9_water 41 = .ok (.iastore, 1) := by decide +kernel
theorem dX9_water_42 : decode cX9_water 42 = .ok (.aload_n 0, 1) := by decide +kernel
theorem dX9_water_43 : decode cX9_water 43 = .ok (.getfield 22, 3) := by decide +kernel
theorem dX9_water_46 : decode cX9_water 46 = .ok (.bipush 52, 2) := by decide +kernel
theorem dX9_water_48 : decode cX9_water 48 = .ok (.iload_n 1, 1) := by decide +kernel
theorem dX9_water_49 : decode cX9_water 49 = .ok (.iadd, 1) := by decide +kernel
theorem dX9_water_50 : decode cX9_water 50 = .ok (.iaload, 1) := by decide +kernel
theorem dX9_water_51 : decode cX9_water 51 = .ok (.ireturn, 1) := by decide +kernel
theorem dX9_areCasks_0 : decode cX9_areCasks 0 = .ok (.iload_n 0, 1) := by decide +kernel
theorem dX9_areCasks_1 : decode cX9_areCasks 1 = .ok (.invokestatic 216, 3) := by decide +kernel
theorem dX9_areCasks_4 : decode cX9_areCasks 4 = .ok (.ifCond .eq 19, 3) := by decide +kernel
theorem dX9_areCasks_7 : decode cX9_areCasks 7 = .ok (.iload_n 1, 1) := by decide +kernel
theorem dX9_areCasks_8 : decode cX9_areCasks 8 = .ok (.invokestatic 216, 3) := by decide +kernel
theorem dX9_areCasks_11 : decode cX9_areCasks 11 = .ok (.ifCond .eq 12, 3) := by decide +kernel
theorem dX9_areCasks_14 : decode cX9_areCasks 14 = .ok (.iload_n 0, 1) := by decide +kernel
theorem dX9_areCasks_15 : decode cX9_areCasks 15 = .ok (.iload_n 1, 1) := by decide +kernel
theorem dX9_areCasks_16 : decode cX9_areCasks 16 = .ok (.if_icmp .eq 7, 3) := by decide +kernel
theorem dX9_areCasks_19 : decode cX9_areCasks 19 = .ok (.iconst 1, 1) := by decide +kernel
theorem dX9_areCasks_20 : decode cX9_areCasks 20 = .ok (.goto 4, 3) := by decide +kernel
theorem dX9_areCasks_23 : decode cX9_areCasks 23 = .ok (.iconst 0, 1) := by decide +kernel
theorem dX9_areCasks_24 : decode cX9_areCasks 24 = .ok (.ireturn, 1) := by decide +kernel
theorem dX9_blend_0 : decode cX9_blend 0 = .ok (.iload_n 1, 1) := by decide +kernel
theorem dX9_blend_1 : decode cX9_blend 1 = .ok (.iload_n 2, 1) := by decide +kernel
theorem dX9_blend_2 : decode cX9_blend 2 = .ok (.invokestatic 222, 3) := by decide +kernel
theorem dX9_blend_5 : decode cX9_blend 5 = .ok (.ifCond .ne 6, 3) := by decide +kernel
theorem dX9_blend_8 : decode cX9_blend 8 = .ok (.ldc 70, 2) := by decide +kernel
theorem dX9_blend_10 : decode cX9_blend 10 = .ok (.ireturn, 1) := by decide +kernel
theorem dX9_blend_11 : decode cX9_blend 11 = .ok (.aload_n 0, 1) := by decide +kernel
theorem dX9_blend_12 : decode cX9_blend 12 = .ok (.getfield 22, 3) := by decide +kernel
theorem dX9_blend_15 : decode cX9_blend 15 = .ok (.bipush 44, 2) := by decide +kernel
theorem dX9_blend_17 : decode cX9_blend 17 = .ok (.iload_n 1, 1) := by decide +kernel
theorem dX9_blend_18 : decode cX9_blend 18 = .ok (.iadd, 1) := by decide +kernel
theorem dX9_blend_19 : decode cX9_blend 19 = .ok (.iaload, 1) := by decide +kernel
theorem dX9_blend_20 : decode cX9_blend 20 = .ok (.ifCond .eq 15, 3) := by decide +kernel
theorem dX9_blend_23 : decode cX9_blend 23 = .ok (.aload_n 0, 1) := by decide +kernel
theorem dX9_blend_24 : decode cX9_blend 24 = .ok (.getfield 22, 3) := by decide +kernel
theorem dX9_blend_27 : decode cX9_blend 27 = .ok (.bipush 44, 2) := by decide +kernel
theorem dX9_blend_29 : decode cX9_blend 29 = .ok (.iload_n 2, 1) := by decide +kernel
theorem dX9_blend_30 : decode cX9_blend 30 = .ok (.iadd, 1) := by decide +kernel
theorem dX9_blend_31 : decode cX9_blend 31 = .ok (.iaload, 1) := by decide +kernel
theorem dX9_blend_32 : decode cX9_blend 32 = .ok (.ifCond .ne 6, 3) := by decide +kernel
theorem dX9_blend_35 : decode cX9_blend 35 = .ok (.ldc 198, 2) := by decide +kernel
theorem dX9_blend_37 : decode cX9_blend 37 = .ok (.ireturn, 1) := by decide +kernel
theorem dX9_blend_38 : decode cX9_blend 38 = .ok (.aload_n 0, 1) := by decide +kernel
theorem dX9_blend_39 : decode cX9_blend 39 = .ok (.invokevirtual 204, 3) := by decide +kernel
theorem dX9_blend_42 : decode cX9_blend 42 = .ok (.aload_n 0, 1) := by decide +kernel
theorem dX9_blend_43 : decode cX9_blend 43 = .ok (.getfield 22, 3) := by decide +kernel
theorem dX9_blend_46 : decode cX9_blend 46 = .ok (.iload_n 1, 1) := by decide +kernel
theorem dX9_blend_47 : decode cX9_blend 47 = .ok (.iload_n 2, 1) := by decide +kernel
theorem dX9_blend_48 : decode cX9_blend 48 = .ok (.invokestatic 225, 3) := by decide +kernel
theorem dX9_blend_51 : decode cX9_blend 51 = .ok (.aload_n 0, 1) := by decide +kernel
theorem dX9_blend_52 : decode cX9_blend 52 = .ok (.getfield 22, 3) := by decide +kernel
theorem dX9_blend_55 : decode cX9_blend 55 = .ok (.bipush 52, 2) := by decide +kernel
theorem dX9_blend_57 : decode cX9_blend 57 = .ok (.iload_n 2, 1) := by decide +kernel
theorem dX9_blend_58 : decode cX9_blend 58 = .ok (.iadd, 1) := by decide +kernel
theorem dX9_blend_59 : decode cX9_blend 59 = .ok (.iaload, 1) := by decide +kernel
theorem dX9_blend_60 : decode cX9_blend 60 = .ok (.ireturn, 1) := by decide +kernel
theorem dX9_cask_0 : decode cX9_cask 0 = .ok (.iload_n 1, 1) := by decide +kernel
theorem dX9_cask_1 : decode cX9_cask 1 = .ok (.invokestatic 216, 3) := by decide +kernel
theorem dX9_cask_4 : decode cX9_cask 4 = .ok (.ifCond .eq 15, 3) := by decide +kernel
theorem dX9_cask_7 : decode cX9_cask 7 = .ok (.iload_n 2, 1) := by decide +kernel
theorem dX9_cask_8 : decode cX9_cask 8 = .ok (.i2l, 1) := by decide +kernel
theorem dX9_cask_9 : decode cX9_cask 9 = .ok (.lconst 0, 1) := by decide +kernel
theorem dX9_cask_10 : decode cX9_cask 10 = .ok (.ldc2_w 229, 3) := by decide +kernel
theorem dX9_cask_13 : decode cX9_cask 13 = .ok (.invokestatic 60, 3) := by decide +kernel
theorem dX9_cask_16 : decode cX9_cask 16 = .ok (.ifCond .ne 6, 3) := by decide +kernel
theorem dX9_cask_19 : decode cX9_cask 19 = .ok (.ldc 70, 2) := by decide +kernel
theorem dX9_cask_21 : decode cX9_cask 21 = .ok (.ireturn, 1) := by decide +kernel
theorem dX9_cask_22 : decode cX9_cask 22 = .ok (.aload_n 0, 1) := by decide +kernel
theorem dX9_cask_23 : decode cX9_cask 23 = .ok (.getfield 22, 3) := by decide +kernel
theorem dX9_cask_26 : decode cX9_cask 26 = .ok (.bipush 44, 2) := by decide +kernel
theorem dX9_cask_28 : decode cX9_cask 28 = .ok (.iload_n 1, 1) := by decide +kernel
theorem dX9_cask_29 : decode cX9_cask 29 = .ok (.iadd, 1) := by decide +kernel
theorem dX9_cask_30 : decode cX9_cask 30 = .ok (.iaload, 1) := by decide +kernel
theorem dX9_cask_31 : decode cX9_cask 31 = .ok (.ifCond .ne 6, 3) := by decide +kernel
theorem dX9_cask_34 : decode cX9_cask 34 = .ok (.ldc 231, 2) := by decide +kernel
theorem dX9_cask_36 : decode cX9_cask 36 = .ok (.ireturn, 1) := by decide +kernel
theorem dX9_cask_37 : decode cX9_cask 37 = .ok (.iload_n 2, 1) := by decide +kernel
theorem dX9_cask_38 : decode cX9_cask 38 = .ok (.lookupswitch 49 #[(3, 26), (4, 35)], 26) := by decide +kernel
theorem dX9_cask_64 : decode cX9_cask 64 = .ok (.aload_n 0, 1) := by decide +kernel
theorem dX9_cask_65 : decode cX9_cask 65 = .ok (.getfield 22, 3) := by decide +kernel
theorem dX9_cask_68 : decode cX9_cask 68 = .ok (.iload_n 1, 1) := by decide +kernel
theorem dX9_cask_69 : decode cX9_cask 69 = .ok (.invokestatic 183, 3) := by decide +kernel
theorem dX9_cask_72 : decode cX9_cask 72 = .ok (.ireturn, 1) := by decide +kernel
theorem dX9_cask_73 : decode cX9_cask 73 = .ok (.aload_n 0, 1) := by decide +kernel
theorem dX9_cask_74 : decode cX9_cask 74 = .ok (.iload_n 1, 1) := by decide +kernel
theorem dX9_cask_75 : decode cX9_cask 75 = .ok (.invokevirtual 213, 3) := by decide +kernel
theorem dX9_cask_78 : decode cX9_cask 78 = .ok (.ifCond .eq 7, 3) := by decide +kernel
theorem dX9_cask_81 : decode cX9_cask 81 = .ok (.iconst 1, 1) := by decide +kernel
theorem dX9_cask_82 : decode cX9_cask 82 = .ok (.goto 4, 3) := by decide +kernel
theorem dX9_cask_85 : decode cX9_cask 85 = .ok (.iconst 0, 1) := by decide +kernel
theorem dX9_cask_86 : decode cX9_cask 86 = .ok (.ireturn, 1) := by decide +kernel
theorem dX9_cask_87 : decode cX9_cask 87 = .ok (.aload_n 0, 1) := by decide +kernel
theorem dX9_cask_88 : decode cX9_cask 88 = .ok (.getfield 22, 3) := by decide +kernel
theorem dX9_cask_91 : decode cX9_cask 91 = .ok (.bipush 48, 2) := by decide +kernel
theorem dX9_cask_93 : decode cX9_cask 93 = .ok (.iconst 4, 1) := by decide +kernel
theorem dX9_cask_94 : decode cX9_cask 94 = .ok (.iload_n 2, 1) := by decide +kernel
theorem dX9_cask_95 : decode cX9_cask 95 = .ok (.imul, 1) := by decide +kernel
theorem dX9_cask_96 : decode cX9_cask 96 = .ok (.iadd, 1) := by decide +kernel
theorem dX9_cask_97 : decode cX9_cask 97 = .ok (.iload_n 1, 1) := by decide +kernel
theorem dX9_cask_98 : decode cX9_cask 98 = .ok (.iadd, 1) := by decide +kernel
theorem dX9_cask_99 : decode cX9_cask 99 = .ok (.iaload, 1) := by decide +kernel
theorem dX9_cask_100 : decode cX9_cask 100 = .ok (.ireturn, 1) := by decide +kernel
theorem dX9_drinker_0 : decode cX9_drinker 0 = .ok (.aload_n 0, 1) := by decide +kernel
theorem dX9_drinker_1 : decode cX9_drinker 1 = .ok (.iload_n 1, 1) := by decide +kernel
theorem dX9_drinker_2 : decode cX9_drinker 2 = .ok (.invokevirtual 199, 3) := by decide +kernel
theorem dX9_drinker_5 : decode cX9_drinker 5 = .ok (.ifCond .eq 15, 3) := by decide +kernel
theorem dX9_drinker_8 : decode cX9_drinker 8 = .ok (.iload_n 2, 1) := by decide +kernel
theorem dX9_drinker_9 : decode cX9_drinker 9 = .ok (.i2l, 1) := by decide +kernel
theorem dX9_drinker_10 : decode cX9_drinker 10 = .ok (.lconst 0, 1) := by decide +kernel
theorem dX9_drinker_11 : decode cX9_drinker 11 = .ok (.ldc2_w 68, 3) := by decide +kernel
theorem dX9_drinker_14 : decode cX9_drinker 14 = .ok (.invokestatic 60, 3) := by decide +kernel
theorem dX9_drinker_17 : decode cX9_drinker 17 = .ok (.ifCond .ne 6, 3) := by decide +kernel
theorem dX9_drinker_20 : decode cX9_drinker 20 = .ok (.ldc 70, 2) := by decide +kernel
theorem dX9_drinker_22 : decode cX9_drinker 22 = .ok (.ireturn, 1) := by decide +kernel
theorem dX9_drinker_23 : decode cX9_drinker 23 = .ok (.iconst 0, 1) := by decide +kernel
theorem dX9_drinker_24 : decode cX9_drinker 24 = .ok (.istore_n 3, 1) := by decide +kernel
theorem dX9_drinker_25 : decode cX9_drinker 25 = .ok (.iconst 0, 1) := by decide +kernel
theorem dX9_drinker_26 : decode cX9_drinker 26 = .ok (.istore 4, 2) := by decide +kernel
theorem dX9_drinker_28 : decode cX9_drinker 28 = .ok (.iload 4, 2) := by decide +kernel
theorem dX9_drinker_30 : decode cX9_drinker 30 = .ok (.aload_n 0, 1) := by decide +kernel
theorem dX9_drinker_31 : decode cX9_drinker 31 = .ok (.getfield 22, 3) := by decide +kernel
theorem dX9_drinker_34 : decode cX9_drinker 34 = .ok (.iconst 4, 1) := by decide +kernel
theorem dX9_drinker_35 : decode cX9_drinker 35 = .ok (.iaload, 1) := by decide +kernel
theorem dX9_drinker_36 : decode cX9_drinker 36 = .ok (.if_icmp .ge 42, 3) := by decide +kernel
theorem dX9_drinker_39 : decode cX9_drinker 39 = .ok (.iload_n 3, 1) := by decide +kernel
theorem dX9_drinker_40 : decode cX9_drinker 40 = .ok (.aload_n 0, 1) := by decide +kernel
theorem dX9_drinker_41 : decode cX9_drinker 41 = .ok (.getfield 22, 3) := by decide +kernel
theorem dX9_drinker_44 : decode cX9_drinker 44 = .ok (.bipush 24, 2) := by decide +kernel
theorem dX9_drinker_46 : decode cX9_drinker 46 = .ok (.iload 4, 2) := by decide +kernel
theorem dX9_drinker_48 : decode cX9_drinker 48 = .ok (.iadd, 1) := by decide +kernel
theorem dX9_drinker_49 : decode cX9_drinker 49 = .ok (.iaload, 1) := by decide +kernel
theorem dX9_drinker_50 : decode cX9_drinker 50 = .ok (.iload_n 1, 1) := by decide +kernel
theorem dX9_drinker_51 : decode cX9_drinker 51 = .ok (.if_icmp .ne 18, 3) := by decide +kernel
theorem dX9_drinker_54 : decode cX9_drinker 54 = .ok (.iconst 1, 1) := by decide +kernel
theorem dX9_drinker_55 : decode cX9_drinker 55 = .ok (.aload_n 0, 1) := by decide +kernel
theorem dX9_drinker_56 : decode cX9_drinker 56 = .ok (.getfield 22, 3) := by decide +kernel
theorem dX9_drinker_59 : decode cX9_drinker 59 = .ok (.bipush 34, 2) := by decide +kernel
theorem dX9_drinker_61 : decode cX9_drinker 61 = .ok (.iload 4, 2) := by decide +kernel
theorem dX9_drinker_63 : decode cX9_drinker 63 = .ok (.iadd, 1) := by decide +kernel
theorem dX9_drinker_64 : decode cX9_drinker 64 = .ok (.iaload, 1) := by decide +kernel
theorem dX9_drinker_65 : decode cX9_drinker 65 = .ok (.ishl, 1) := by decide +kernel
theorem dX9_drinker_66 : decode cX9_drinker 66 = .ok (.goto 4, 3) := by decide +kernel
theorem dX9_drinker_69 : decode cX9_drinker 69 = .ok (.iconst 0, 1) := by decide +kernel
theorem dX9_drinker_70 : decode cX9_drinker 70 = .ok (.ior, 1) := by decide +kernel
theorem dX9_drinker_71 : decode cX9_drinker 71 = .ok (.istore_n 3, 1) := by decide +kernel
theorem dX9_drinker_72 : decode cX9_drinker 72 = .ok (.iinc 4 1, 3) := by decide +kernel
theorem dX9_drinker_75 : decode cX9_drinker 75 = .ok (.goto (-47), 3) := by decide +kernel
theorem dX9_drinker_78 : decode cX9_drinker 78 = .ok (.iload_n 2, 1) := by decide +kernel
theorem dX9_drinker_79 : decode cX9_drinker 79 = .ok (.iconst 2, 1) := by decide +kernel
theorem dX9_drinker_80 : decode cX9_drinker 80 = .ok (.if_icmp .ne 7, 3) := by decide +kernel
theorem dX9_drinker_83 : decode cX9_drinker 83 = .ok (.iload_n 3, 1) := by decide +kernel
theorem dX9_drinker_84 : decode cX9_drinker 84 = .ok (.goto 17, 3) := by decide +kernel
theorem dX9_drinker_87 : decode cX9_drinker 87 = .ok (.aload_n 0, 1) := by decide +kernel
theorem dX9_drinker_88 : decode cX9_drinker 88 = .ok (.getfield 22, 3) := by decide +kernel
theorem dX9_drinker_91 : decode cX9_drinker 91 = .ok (.bipush 12, 2) := by decide +kernel
theorem dX9_drinker_93 : decode cX9_drinker 93 = .ok (.bipush 6, 2) := by decide +kernel
theorem dX9_drinker_95 : decode cX9_drinker 95 = .ok (.iload_n 2, 1) := by decide +kernel
theorem dX9_drinker_96 : decode cX9_drinker 96 = .ok (.imul, 1) := by decide +kernel
theorem dX9_drinker_97 : decode cX9_drinker 97 = .ok (.iadd, 1) := by decide +kernel
theorem dX9_drinker_98 : decode cX9_drinker 98 = .ok (.iload_n 1, 1) := by decide +kernel
theorem dX9_drinker_99 : decode cX9_drinker 99 = .ok (.iadd, 1) := by decide +kernel
theorem dX9_drinker_100 : decode cX9_drinker 100 = .ok (.iaload, 1) := by decide +kernel
theorem dX9_drinker_101 : decode cX9_drinker 101 = .ok (.ireturn, 1) := by decide +kernel
theorem dX9_rumour_0 : decode cX9_rumour 0 = .ok (.aload_n 0, 1) := by decide +kernel
theorem dX9_rumour_1 : decode cX9_rumour 1 = .ok (.iload_n 1, 1) := by decide +kernel
theorem dX9_rumour_2 : decode cX9_rumour 2 = .ok (.invokevirtual 199, 3) := by decide +kernel
theorem dX9_rumour_5 : decode cX9_rumour 5 = .ok (.ifCond .eq 15, 3) := by decide +kernel
theorem dX9_rumour_8 : decode cX9_rumour 8 = .ok (.aload_n 0, 1) := by decide +kernel
theorem dX9_rumour_9 : decode cX9_rumour 9 = .ok (.getfield 22, 3) := by decide +kernel
theorem dX9_rumour_12 : decode cX9_rumour 12 = .ok (.bipush 60, 2) := by decide +kernel
theorem dX9_rumour_14 : decode cX9_rumour 14 = .ok (.iload_n 1, 1) := by decide +kernel
theorem dX9_rumour_15 : decode cX9_rumour 15 = .ok (.iadd, 1) := by decide +kernel
theorem dX9_rumour_16 : decode cX9_rumour 16 = .ok (.iaload, 1) := by decide +kernel
theorem dX9_rumour_17 : decode cX9_rumour 17 = .ok (.goto 5, 3) := by decide +kernel
theorem dX9_rumour_20 : decode cX9_rumour 20 = .ok (.ldc 70, 2) := by decide +kernel
theorem dX9_rumour_22 : decode cX9_rumour 22 = .ok (.ireturn, 1) := by decide +kernel
theorem dX9_telling_0 : decode cX9_telling 0 = .ok (.iload_n 1, 1) := by decide +kernel
theorem dX9_telling_1 : decode cX9_telling 1 = .ok (.invokestatic 216, 3) := by decide +kernel
theorem dX9_telling_4 : decode cX9_telling 4 = .ok (.ifCond .eq 27, 3) := by decide +kernel
theorem dX9_telling_7 : decode cX9_telling 7 = .ok (.aload_n 0, 1) := by decide +kernel
theorem dX9_telling_8 : decode cX9_telling 8 = .ok (.iload_n 2, 1) := by decide +kernel
theorem dX9_telling_9 : decode cX9_telling 9 = .ok (.invokevirtual 232, 3) := by decide +kernel
theorem dX9_telling_12 : decode cX9_telling 12 = .ok (.ifCond .eq 19, 3) := by decide +kernel
theorem dX9_telling_15 : decode cX9_telling 15 = .ok (.iload_n 2, 1) := by decide +kernel
theorem dX9_telling_16 : decode cX9_telling 16 = .ok (.ifCond .eq 15, 3) := by decide +kernel
theorem dX9_telling_19 : decode cX9_telling 19 = .ok (.iload_n 3, 1) := by decide +kernel
theorem dX9_telling_20 : decode cX9_telling 20 = .ok (.i2l, 1) := by decide +kernel
theorem dX9_telling_21 : decode cX9_telling 21 = .ok (.lconst 0, 1) := by decide +kernel
theorem dX9_telling_22 : decode cX9_telling 22 = .ok (.ldc2_w 154, 3) := by decide +kernel
theorem dX9_telling_25 : decode cX9_telling 25 = .ok (.invokestatic 60, 3) := by decide +kernel
theorem dX9_telling_28 : decode cX9_telling 28 = .ok (.ifCond .ne 6, 3) := by decide +kernel
theorem dX9_telling_31 : decode cX9_telling 31 = .ok (.ldc 70, 2) := by decide +kernel
theorem dX9_telling_33 : decode cX9_telling 33 = .ok (.ireturn, 1) := by decide +kernel
theorem dX9_telling_34 : decode cX9_telling 34 = .ok (.aload_n 0, 1) := by decide +kernel
theorem dX9_telling_35 : decode cX9_telling 35 = .ok (.getfield 22, 3) := by decide +kernel
theorem dX9_telling_38 : decode cX9_telling 38 = .ok (.bipush 44, 2) := by decide +kernel
theorem dX9_telling_40 : decode cX9_telling 40 = .ok (.iload_n 1, 1) := by decide +kernel
theorem dX9_telling_41 : decode cX9_telling 41 = .ok (.iadd, 1) := by decide +kernel
theorem dX9_telling_42 : decode cX9_telling 42 = .ok (.iaload, 1) := by decide +kernel
theorem dX9_telling_43 : decode cX9_telling 43 = .ok (.ifCond .ne 6, 3) := by decide +kernel
theorem dX9_telling_46 : decode cX9_telling 46 = .ok (.ldc 198, 2) := by decide +kernel
theorem dX9_telling_48 : decode cX9_telling 48 = .ok (.ireturn, 1) := by decide +kernel
theorem dX9_telling_49 : decode cX9_telling 49 = .ok (.aload_n 0, 1) := by decide +kernel
theorem dX9_telling_50 : decode cX9_telling 50 = .ok (.aload_n 0, 1) := by decide +kernel
theorem dX9_telling_51 : decode cX9_telling 51 = .ok (.getfield 22, 3) := by decide +kernel
theorem dX9_telling_54 : decode cX9_telling 54 = .ok (.iload_n 1, 1) := by decide +kernel
theorem dX9_telling_55 : decode cX9_telling 55 = .ok (.iload_n 2, 1) := by decide +kernel
theorem dX9_telling_56 : decode cX9_telling 56 = .ok (.iconst 0, 1) := by decide +kernel
theorem dX9_telling_57 : decode cX9_telling 57 = .ok (.invokevirtual 191, 3) := by decide +kernel
theorem dX9_telling_60 : decode cX9_telling 60 = .ok (.iconst 0, 1) := by decide +kernel
theorem dX9_telling_61 : decode cX9_telling 61 = .ok (.istore 4, 2) := by decide +kernel
theorem dX9_telling_63 : decode cX9_telling 63 = .ok (.iconst 0, 1) := by decide +kernel
theorem dX9_telling_64 : decode cX9_telling 64 = .ok (.istore 5, 2) := by decide +kernel
theorem dX9_telling_66 : decode cX9_telling 66 = .ok (.iload 5, 2) := by decide +kernel
theorem dX9_telling_68 : decode cX9_telling 68 = .ok (.bipush 6, 2) := by decide +kernel
theorem dX9_telling_70 : decode cX9_telling 70 = .ok (.if_icmp .ge 35, 3) := by decide +kernel
theorem dX9_telling_73 : decode cX9_telling 73 = .ok (.aload_n 0, 1) := by decide +kernel
theorem dX9_telling_74 : decode cX9_telling 74 = .ok (.getfield 47, 3) := by decide +kernel
theorem dX9_telling_77 : decode cX9_telling 77 = .ok (.iload 5, 2) := by decide +kernel
theorem dX9_telling_79 : decode cX9_telling 79 = .ok (.iaload, 1) := by decide +kernel
theorem dX9_telling_80 : decode cX9_telling 80 = .ok (.iload 4, 2) := by decide +kernel
theorem dX9_telling_82 : decode cX9_telling 82 = .ok (.if_icmp .le 13, 3) := by decide +kernel
theorem dX9_telling_85 : decode cX9_telling 85 = .ok (.aload_n 0, 1) := by decide +kernel
theorem dX9_telling_86 : decode cX9_telling 86 = .ok (.getfield 47, 3) := by decide +kernel
theorem dX9_telling_89 : decode cX9_telling 89 = .ok (.iload 5, 2) := by decide +kernel
theorem dX9_telling_91 : decode cX9_telling 91 = .ok (.iaload, 1) := by decide +kernel
theorem dX9_telling_92 : decode cX9_telling 92 = .ok (.goto 5, 3) := by decide +kernel
theorem dX9_telling_95 : decode cX9_telling 95 = .ok (.iload 4, 2) := by decide +kernel
theorem dX9_telling_97 : decode cX9_telling 97 = .ok (.istore 4, 2) := by decide +kernel
theorem dX9_telling_99 : decode cX9_telling 99 = .ok (.iinc 5 1, 3) := by decide +kernel
theorem dX9_telling_102 : decode cX9_telling 102 = .ok (.goto (-36), 3) := by decide +kernel
theorem dX9_telling_105 : decode cX9_telling 105 = .ok (.iload_n 3, 1) := by decide +kernel
theorem dX9_telling_106 : decode cX9_telling 106 = .ok (.ifCond .ne 10, 3) := by decide +kernel
theorem dX9_telling_109 : decode cX9_telling 109 = .ok (.aload_n 0, 1) := by decide +kernel
theorem dX9_telling_110 : decode cX9_telling 110 = .ok (.getfield 168, 3) := by decide +kernel
theorem dX9_telling_113 : decode cX9_telling 113 = .ok (.goto 39, 3) := by decide +kernel
theorem dX9_telling_116 : decode cX9_telling 116 = .ok (.iload_n 3, 1) := by decide +kernel
theorem dX9_telling_117 : decode cX9_telling 117 = .ok (.iconst 1, 1) := by decide +kernel
theorem dX9_telling_118 : decode cX9_telling 118 = .ok (.if_icmp .ne 10, 3) := by decide +kernel
theorem dX9_telling_121 : decode cX9_telling 121 = .ok (.aload_n 0, 1) := by decide +kernel
theorem dX9_telling_122 : decode cX9_telling 122 = .ok (.invokevirtual 235, 3) := by decide +kernel
theorem dX9_telling_125 : decode cX9_telling 125 = .ok (.goto 27, 3) := by decide +kernel
theorem dX9_telling_128 : decode cX9_telling 128 = .ok (.iload_n 3, 1) := by decide +kernel
theorem dX9_telling_129 : decode cX9_telling 129 = .ok (.iconst 2, 1) := by decide +kernel
theorem dX9_telling_130 : decode cX9_telling 130 = .ok (.if_icmp .ne 8, 3) := by decide +kernel
theorem dX9_telling_133 : decode cX9_telling 133 = .ok (.iload 4, 2) := by decide +kernel
theorem dX9_telling_135 : decode cX9_telling 135 = .ok (.goto 17, 3) := by decide +kernel
theorem dX9_telling_138 : decode cX9_telling 138 = .ok (.aload_n 0, 1) := by decide +kernel
theorem dX9_telling_139 : decode cX9_telling 139 = .ok (.getfield 22, 3) := by decide +kernel
theorem dX9_telling_142 : decode cX9_telling 142 = .ok (.iconst 2, 1) := by decide +kernel
theorem dX9_telling_143 : decode cX9_telling 143 = .ok (.iaload, 1) := by decide +kernel
theorem dX9_telling_144 : decode cX9_telling 144 = .ok (.aload_n 0, 1) := by decide +kernel
theorem dX9_telling_145 : decode cX9_telling 145 = .ok (.invokevirtual 235, 3) := by decide +kernel
theorem dX9_telling_148 : decode cX9_telling 148 = .ok (.invokestatic 239, 3) := by decide +kernel
theorem dX9_telling_151 : decode cX9_telling 151 = .ok (.imul, 1) := by decide +kernel
theorem dX9_telling_152 : decode cX9_telling 152 = .ok (.ireturn, 1) := by decide +kernel
theorem dX9_fewest_0 : decode cX9_fewest 0 = .ok (.iload_n 1, 1) := by decide +kernel
theorem dX9_fewest_1 : decode cX9_fewest 1 = .ok (.invokestatic 216, 3) := by decide +kernel
theorem dX9_fewest_4 : decode cX9_fewest 4 = .ok (.ifCond .eq 33, 3) := by decide +kernel
theorem dX9_fewest_7 : decode cX9_fewest 7 = .ok (.aload_n 0, 1) := by decide +kernel
theorem dX9_fewest_8 : decode cX9_fewest 8 = .ok (.iload_n 2, 1) := by decide +kernel
theorem dX9_fewest_9 : decode cX9_fewest 9 = .ok (.invokevirtual 232, 3) := by decide +kernel
theorem dX9_fewest_12 : decode cX9_fewest 12 = .ok (.ifCond .eq 25, 3) := by decide +kernel
theorem dX9_fewest_15 : decode cX9_fewest 15 = .ok (.aload_n 0, 1) := by decide +kernel
theorem dX9_fewest_16 : decode cX9_fewest 16 = .ok (.iload_n 3, 1) := by decide +kernel
theorem dX9_fewest_17 : decode cX9_fewest 17 = .ok (.invokevirtual 232, 3) := by decide +kernel
theorem dX9_fewest_20 : decode cX9_fewest 20 = .ok (.ifCond .eq 17, 3) := by decide +kernel
