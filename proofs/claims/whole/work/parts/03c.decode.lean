theorem dX5_holds_26 : decode cX5_holds 26 = .ok (.isub, 1) := by decide +kernel
theorem dX5_holds_27 : decode cX5_holds 27 = .ok (.if_icmp .gt 7, 3) := by decide +kernel
theorem dX5_holds_30 : decode cX5_holds 30 = .ok (.iconst 1, 1) := by decide +kernel
theorem dX5_holds_31 : decode cX5_holds 31 = .ok (.goto 4, 3) := by decide +kernel
theorem dX5_holds_34 : decode cX5_holds 34 = .ok (.iconst 0, 1) := by decide +kernel
theorem dX5_holds_35 : decode cX5_holds 35 = .ok (.ireturn, 1) := by decide +kernel
theorem dX5_make_0 : decode cX5_make 0 = .ok (.aload_n 0, 1) := by decide +kernel
theorem dX5_make_1 : decode cX5_make 1 = .ok (.getfield 16, 3) := by decide +kernel
theorem dX5_make_4 : decode cX5_make 4 = .ok (.iload_n 1, 1) := by decide +kernel
theorem dX5_make_5 : decode cX5_make 5 = .ok (.iload_n 2, 1) := by decide +kernel
theorem dX5_make_6 : decode cX5_make 6 = .ok (.iastore, 1) := by decide +kernel
theorem dX5_make_7 : decode cX5_make 7 = .ok (.aload_n 0, 1) := by decide +kernel
theorem dX5_make_8 : decode cX5_make 8 = .ok (.getfield 20, 3) := by decide +kernel
theorem dX5_make_11 : decode cX5_make 11 = .ok (.iload_n 1, 1) := by decide +kernel
theorem dX5_make_12 : decode cX5_make 12 = .ok (.iload_n 3, 1) := by decide +kernel
theorem dX5_make_13 : decode cX5_make 13 = .ok (.iastore, 1) := by decide +kernel
theorem dX5_make_14 : decode cX5_make 14 = .ok (.aload_n 0, 1) := by decide +kernel
theorem dX5_make_15 : decode cX5_make 15 = .ok (.getfield 11, 3) := by decide +kernel
theorem dX5_make_18 : decode cX5_make 18 = .ok (.iload_n 1, 1) := by decide +kernel
theorem dX5_make_19 : decode cX5_make 19 = .ok (.aaload, 1) := by decide +kernel
theorem dX5_make_20 : decode cX5_make 20 = .ok (.iconst 0, 1) := by decide +kernel
theorem dX5_make_21 : decode cX5_make 21 = .ok (.invokestatic 23, 3) := by decide +kernel
theorem dX5_make_24 : decode cX5_make 24 = .ok (.return_, 1) := by decide +kernel
theorem dX5_put_0 : decode cX5_put 0 = .ok (.iload_n 3, 1) := by decide +kernel
theorem dX5_put_1 : decode cX5_put 1 = .ok (.istore 4, 2) := by decide +kernel
theorem dX5_put_3 : decode cX5_put 3 = .ok (.aload_n 0, 1) := by decide +kernel
theorem dX5_put_4 : decode cX5_put 4 = .ok (.getfield 16, 3) := by decide +kernel
theorem dX5_put_7 : decode cX5_put 7 = .ok (.iload_n 1, 1) := by decide +kernel
theorem dX5_put_8 : decode cX5_put 8 = .ok (.iaload, 1) := by decide +kernel
theorem dX5_put_9 : decode cX5_put 9 = .ok (.ifCond .ne 10, 3) := by decide +kernel
theorem dX5_put_12 : decode cX5_put 12 = .ok (.iload_n 3, 1) := by decide +kernel
theorem dX5_put_13 : decode cX5_put 13 = .ok (.i2b, 1) := by decide +kernel
theorem dX5_put_14 : decode cX5_put 14 = .ok (.istore 4, 2) := by decide +kernel
theorem dX5_put_16 : decode cX5_put 16 = .ok (.goto 17, 3) := by decide +kernel
theorem dX5_put_19 : decode cX5_put 19 = .ok (.aload_n 0, 1) := by decide +kernel
theorem dX5_put_20 : decode cX5_put 20 = .ok (.getfield 16, 3) := by decide +kernel
theorem dX5_put_23 : decode cX5_put 23 = .ok (.iload_n 1, 1) := by decide +kernel
theorem dX5_put_24 : decode cX5_put 24 = .ok (.iaload, 1) := by decide +kernel
theorem dX5_put_25 : decode cX5_put 25 = .ok (.iconst 1, 1) := by decide +kernel
theorem dX5_put_26 : decode cX5_put 26 = .ok (.if_icmp .ne 7, 3) := by decide +kernel
theorem dX5_put_29 : decode cX5_put 29 = .ok (.iload_n 3, 1) := by decide +kernel
theorem dX5_put_30 : decode cX5_put 30 = .ok (.i2s, 1) := by decide +kernel
theorem dX5_put_31 : decode cX5_put 31 = .ok (.istore 4, 2) := by decide +kernel
theorem dX5_put_33 : decode cX5_put 33 = .ok (.aload_n 0, 1) := by decide +kernel
theorem dX5_put_34 : decode cX5_put 34 = .ok (.getfield 11, 3) := by decide +kernel
theorem dX5_put_37 : decode cX5_put 37 = .ok (.iload_n 1, 1) := by decide +kernel
theorem dX5_put_38 : decode cX5_put 38 = .ok (.aaload, 1) := by decide +kernel
theorem dX5_put_39 : decode cX5_put 39 = .ok (.iload_n 2, 1) := by decide +kernel
theorem dX5_put_40 : decode cX5_put 40 = .ok (.iload 4, 2) := by decide +kernel
theorem dX5_put_42 : decode cX5_put 42 = .ok (.iastore, 1) := by decide +kernel
theorem dX5_put_43 : decode cX5_put 43 = .ok (.iload 4, 2) := by decide +kernel
theorem dX5_put_45 : decode cX5_put 45 = .ok (.ireturn, 1) := by decide +kernel
theorem dX5_lose_0 : decode cX5_lose 0 = .ok (.aload_n 0, 1) := by decide +kernel
theorem dX5_lose_1 : decode cX5_lose 1 = .ok (.getfield 20, 3) := by decide +kernel
theorem dX5_lose_4 : decode cX5_lose 4 = .ok (.iload_n 1, 1) := by decide +kernel
theorem dX5_lose_5 : decode cX5_lose 5 = .ok (.iaload, 1) := by decide +kernel
theorem dX5_lose_6 : decode cX5_lose 6 = .ok (.istore_n 2, 1) := by decide +kernel
theorem dX5_lose_7 : decode cX5_lose 7 = .ok (.aload_n 0, 1) := by decide +kernel
theorem dX5_lose_8 : decode cX5_lose 8 = .ok (.getfield 20, 3) := by decide +kernel
theorem dX5_lose_11 : decode cX5_lose 11 = .ok (.iload_n 1, 1) := by decide +kernel
theorem dX5_lose_12 : decode cX5_lose 12 = .ok (.iconst (-1), 1) := by decide +kernel
theorem dX5_lose_13 : decode cX5_lose 13 = .ok (.iastore, 1) := by decide +kernel
theorem dX5_lose_14 : decode cX5_lose 14 = .ok (.iload_n 2, 1) := by decide +kernel
theorem dX5_lose_15 : decode cX5_lose 15 = .ok (.ireturn, 1) := by decide +kernel
theorem dX5_howMany_0 : decode cX5_howMany 0 = .ok (.iconst 0, 1) := by decide +kernel
theorem dX5_howMany_1 : decode cX5_howMany 1 = .ok (.istore_n 1, 1) := by decide +kernel
theorem dX5_howMany_2 : decode cX5_howMany 2 = .ok (.aload_n 0, 1) := by decide +kernel
theorem dX5_howMany_3 : decode cX5_howMany 3 = .ok (.getfield 20, 3) := by decide +kernel
theorem dX5_howMany_6 : decode cX5_howMany 6 = .ok (.astore_n 2, 1) := by decide +kernel
theorem dX5_howMany_7 : decode cX5_howMany 7 = .ok (.aload_n 2, 1) := by decide +kernel
theorem dX5_howMany_8 : decode cX5_howMany 8 = .ok (.arraylength, 1) := by decide +kernel
theorem dX5_howMany_9 : decode cX5_howMany 9 = .ok (.istore_n 3, 1) := by decide +kernel
theorem dX5_howMany_10 : decode cX5_howMany 10 = .ok (.iconst 0, 1) := by decide +kernel
theorem dX5_howMany_11 : decode cX5_howMany 11 = .ok (.istore 4, 2) := by decide +kernel
theorem dX5_howMany_13 : decode cX5_howMany 13 = .ok (.iload 4, 2) := by decide +kernel
theorem dX5_howMany_15 : decode cX5_howMany 15 = .ok (.iload_n 3, 1) := by decide +kernel
theorem dX5_howMany_16 : decode cX5_howMany 16 = .ok (.if_icmp .ge 24, 3) := by decide +kernel
theorem dX5_howMany_19 : decode cX5_howMany 19 = .ok (.aload_n 2, 1) := by decide +kernel
theorem dX5_howMany_20 : decode cX5_howMany 20 = .ok (.iload 4, 2) := by decide +kernel
theorem dX5_howMany_22 : decode cX5_howMany 22 = .ok (.iaload, 1) := by decide +kernel
theorem dX5_howMany_23 : decode cX5_howMany 23 = .ok (.istore 5, 2) := by decide +kernel
theorem dX5_howMany_25 : decode cX5_howMany 25 = .ok (.iload 5, 2) := by decide +kernel
theorem dX5_howMany_27 : decode cX5_howMany 27 = .ok (.iconst (-1), 1) := by decide +kernel
theorem dX5_howMany_28 : decode cX5_howMany 28 = .ok (.if_icmp .eq 6, 3) := by decide +kernel
theorem dX5_howMany_31 : decode cX5_howMany 31 = .ok (.iinc 1 1, 3) := by decide +kernel
theorem dX5_howMany_34 : decode cX5_howMany 34 = .ok (.iinc 4 1, 3) := by decide +kernel
theorem dX5_howMany_37 : decode cX5_howMany 37 = .ok (.goto (-24), 3) := by decide +kernel
theorem dX5_howMany_40 : decode cX5_howMany 40 = .ok (.iload_n 1, 1) := by decide +kernel
theorem dX5_howMany_41 : decode cX5_howMany 41 = .ok (.ireturn, 1) := by decide +kernel
theorem dX6_init_0 : decode cX6_init 0 = .ok (.aload_n 0, 1) := by decide +kernel
theorem dX6_init_1 : decode cX6_init 1 = .ok (.invokespecial 3, 3) := by decide +kernel
theorem dX6_init_4 : decode cX6_init 4 = .ok (.aload_n 0, 1) := by decide +kernel
theorem dX6_init_5 : decode cX6_init 5 = .ok (.bipush 6, 2) := by decide +kernel
theorem dX6_init_7 : decode cX6_init 7 = .ok (.newarray .int, 2) := by decide +kernel
theorem dX6_init_9 : decode cX6_init 9 = .ok (.putfield 9, 3) := by decide +kernel
theorem dX6_init_12 : decode cX6_init 12 = .ok (.aload_n 0, 1) := by decide +kernel
theorem dX6_init_13 : decode cX6_init 13 = .ok (.bipush 6, 2) := by decide +kernel
theorem dX6_init_15 : decode cX6_init 15 = .ok (.newarray .int, 2) := by decide +kernel
theorem dX6_init_17 : decode cX6_init 17 = .ok (.putfield 15, 3) := by decide +kernel
theorem dX6_init_20 : decode cX6_init 20 = .ok (.aload_n 0, 1) := by decide +kernel
theorem dX6_init_21 : decode cX6_init 21 = .ok (.bipush 6, 2) := by decide +kernel
theorem dX6_init_23 : decode cX6_init 23 = .ok (.newarray .int, 2) := by decide +kernel
theorem dX6_init_25 : decode cX6_init 25 = .ok (.putfield 18, 3) := by decide +kernel
theorem dX6_init_28 : decode cX6_init 28 = .ok (.aload_n 0, 1) := by decide +kernel
theorem dX6_init_29 : decode cX6_init 29 = .ok (.bipush 6, 2) := by decide +kernel
theorem dX6_init_31 : decode cX6_init 31 = .ok (.newarray .int, 2) := by decide +kernel
theorem dX6_init_33 : decode cX6_init 33 = .ok (.putfield 21, 3) := by decide +kernel
theorem dX6_init_36 : decode cX6_init 36 = .ok (.aload_n 0, 1) := by decide +kernel
theorem dX6_init_37 : decode cX6_init 37 = .ok (.iconst 0, 1) := by decide +kernel
theorem dX6_init_38 : decode cX6_init 38 = .ok (.putfield 24, 3) := by decide +kernel
theorem dX6_init_41 : decode cX6_init 41 = .ok (.aload_n 0, 1) := by decide +kernel
theorem dX6_init_42 : decode cX6_init 42 = .ok (.iconst 0, 1) := by decide +kernel
theorem dX6_init_43 : decode cX6_init 43 = .ok (.putfield 28, 3) := by decide +kernel
theorem dX6_init_46 : decode cX6_init 46 = .ok (.aload_n 0, 1) := by decide +kernel
theorem dX6_init_47 : decode cX6_init 47 = .ok (.iconst 0, 1) := by decide +kernel
theorem dX6_init_48 : decode cX6_init 48 = .ok (.putfield 31, 3) := by decide +kernel
theorem dX6_init_51 : decode cX6_init 51 = .ok (.aload_n 0, 1) := by decide +kernel
theorem dX6_init_52 : decode cX6_init 52 = .ok (.iconst 0, 1) := by decide +kernel
theorem dX6_init_53 : decode cX6_init 53 = .ok (.putfield 34, 3) := by decide +kernel
theorem dX6_init_56 : decode cX6_init 56 = .ok (.aload_n 0, 1) := by decide +kernel
theorem dX6_init_57 : decode cX6_init 57 = .ok (.iconst 0, 1) := by decide +kernel
theorem dX6_init_58 : decode cX6_init 58 = .ok (.putfield 37, 3) := by decide +kernel
theorem dX6_init_61 : decode cX6_init 61 = .ok (.aload_n 0, 1) := by decide +kernel
theorem dX6_init_62 : decode cX6_init 62 = .ok (.aload_n 1, 1) := by decide +kernel
theorem dX6_init_63 : decode cX6_init 63 = .ok (.putfield 40, 3) := by decide +kernel
theorem dX6_init_66 : decode cX6_init 66 = .ok (.return_, 1) := by decide +kernel
theorem dX6_beAsTold_0 : decode cX6_beAsTold 0 = .ok (.aload_n 0, 1) := by decide +kernel
theorem dX6_beAsTold_1 : decode cX6_beAsTold 1 = .ok (.getfield 40, 3) := by decide +kernel
theorem dX6_beAsTold_4 : decode cX6_beAsTold 4 = .ok (.getfield 44, 3) := by decide +kernel
theorem dX6_beAsTold_7 : decode cX6_beAsTold 7 = .ok (.iconst 0, 1) := by decide +kernel
theorem dX6_beAsTold_8 : decode cX6_beAsTold 8 = .ok (.aload_n 0, 1) := by decide +kernel
theorem dX6_beAsTold_9 : decode cX6_beAsTold 9 = .ok (.getfield 9, 3) := by decide +kernel
theorem dX6_beAsTold_12 : decode cX6_beAsTold 12 = .ok (.iconst 0, 1) := by decide +kernel
theorem dX6_beAsTold_13 : decode cX6_beAsTold 13 = .ok (.bipush 6, 2) := by decide +kernel
theorem dX6_beAsTold_15 : decode cX6_beAsTold 15 = .ok (.invokestatic 47, 3) := by decide +kernel
theorem dX6_beAsTold_18 : decode cX6_beAsTold 18 = .ok (.aload_n 0, 1) := by decide +kernel
theorem dX6_beAsTold_19 : decode cX6_beAsTold 19 = .ok (.iconst 0, 1) := by decide +kernel
theorem dX6_beAsTold_20 : decode cX6_beAsTold 20 = .ok (.invokevirtual 53, 3) := by decide +kernel
theorem dX6_beAsTold_23 : decode cX6_beAsTold 23 = .ok (.return_, 1) := by decide +kernel
theorem dX6_leaveOut_0 : decode cX6_leaveOut 0 = .ok (.aload_n 0, 1) := by decide +kernel
theorem dX6_leaveOut_1 : decode cX6_leaveOut 1 = .ok (.getfield 15, 3) := by decide +kernel
theorem dX6_leaveOut_4 : decode cX6_leaveOut 4 = .ok (.iconst 0, 1) := by decide +kernel
theorem dX6_leaveOut_5 : decode cX6_leaveOut 5 = .ok (.invokestatic 57, 3) := by decide +kernel
theorem dX6_leaveOut_8 : decode cX6_leaveOut 8 = .ok (.iconst 0, 1) := by decide +kernel
theorem dX6_leaveOut_9 : decode cX6_leaveOut 9 = .ok (.istore_n 2, 1) := by decide +kernel
theorem dX6_leaveOut_10 : decode cX6_leaveOut 10 = .ok (.iload_n 2, 1) := by decide +kernel
theorem dX6_leaveOut_11 : decode cX6_leaveOut 11 = .ok (.aload_n 0, 1) := by decide +kernel
theorem dX6_leaveOut_12 : decode cX6_leaveOut 12 = .ok (.getfield 40, 3) := by decide +kernel
theorem dX6_leaveOut_15 : decode cX6_leaveOut 15 = .ok (.getfield 63, 3) := by decide +kernel
theorem dX6_leaveOut_18 : decode cX6_leaveOut 18 = .ok (.if_icmp .ge 45, 3) := by decide +kernel
theorem dX6_leaveOut_21 : decode cX6_leaveOut 21 = .ok (.iload_n 1, 1) := by decide +kernel
theorem dX6_leaveOut_22 : decode cX6_leaveOut 22 = .ok (.iload_n 2, 1) := by decide +kernel
theorem dX6_leaveOut_23 : decode cX6_leaveOut 23 = .ok (.ishr, 1) := by decide +kernel
theorem dX6_leaveOut_24 : decode cX6_leaveOut 24 = .ok (.iconst 1, 1) := by decide +kernel
theorem dX6_leaveOut_25 : decode cX6_leaveOut 25 = .ok (.iand, 1) := by decide +kernel
theorem dX6_leaveOut_26 : decode cX6_leaveOut 26 = .ok (.ifCond .ne 31, 3) := by decide +kernel
theorem dX6_leaveOut_29 : decode cX6_leaveOut 29 = .ok (.aload_n 0, 1) := by decide +kernel
theorem dX6_leaveOut_30 : decode cX6_leaveOut 30 = .ok (.getfield 15, 3) := by decide +kernel
theorem dX6_leaveOut_33 : decode cX6_leaveOut 33 = .ok (.aload_n 0, 1) := by decide +kernel
theorem dX6_leaveOut_34 : decode cX6_leaveOut 34 = .ok (.getfield 40, 3) := by decide +kernel
theorem dX6_leaveOut_37 : decode cX6_leaveOut 37 = .ok (.getfield 66, 3) := by decide +kernel
theorem dX6_leaveOut_40 : decode cX6_leaveOut 40 = .ok (.iload_n 2, 1) := by decide +kernel
theorem dX6_leaveOut_41 : decode cX6_leaveOut 41 = .ok (.iaload, 1) := by decide +kernel
theorem dX6_leaveOut_42 : decode cX6_leaveOut 42 = .ok (.dup2, 1) := by decide +kernel
theorem dX6_leaveOut_43 : decode cX6_leaveOut 43 = .ok (.iaload, 1) := by decide +kernel
theorem dX6_leaveOut_44 : decode cX6_leaveOut 44 = .ok (.iconst 1, 1) := by decide +kernel
theorem dX6_leaveOut_45 : decode cX6_leaveOut 45 = .ok (.aload_n 0, 1) := by decide +kernel
theorem dX6_leaveOut_46 : decode cX6_leaveOut 46 = .ok (.getfield 40, 3) := by decide +kernel
theorem dX6_leaveOut_49 : decode cX6_leaveOut 49 = .ok (.getfield 69, 3) := by decide +kernel
theorem dX6_leaveOut_52 : decode cX6_leaveOut 52 = .ok (.iload_n 2, 1) := by decide +kernel
theorem dX6_leaveOut_53 : decode cX6_leaveOut 53 = .ok (.iaload, 1) := by decide +kernel
theorem dX6_leaveOut_54 : decode cX6_leaveOut 54 = .ok (.ishl, 1) := by decide +kernel
theorem dX6_leaveOut_55 : decode cX6_leaveOut 55 = .ok (.ior, 1) := by decide +kernel
theorem dX6_leaveOut_56 : decode cX6_leaveOut 56 = .ok (.iastore, 1) := by decide +kernel
theorem dX6_leaveOut_57 : decode cX6_leaveOut 57 = .ok (.iinc 2 1, 3) := by decide +kernel
theorem dX6_leaveOut_60 : decode cX6_leaveOut 60 = .ok (.goto (-50), 3) := by decide +kernel
theorem dX6_leaveOut_63 : decode cX6_leaveOut 63 = .ok (.return_, 1) := by decide +kernel
theorem dX6_takeAs_0 : decode cX6_takeAs 0 = .ok (.aload_n 0, 1) := by decide +kernel
theorem dX6_takeAs_1 : decode cX6_takeAs 1 = .ok (.getfield 9, 3) := by decide +kernel
theorem dX6_takeAs_4 : decode cX6_takeAs 4 = .ok (.iload_n 1, 1) := by decide +kernel
theorem dX6_takeAs_5 : decode cX6_takeAs 5 = .ok (.iload_n 2, 1) := by decide +kernel
theorem dX6_takeAs_6 : decode cX6_takeAs 6 = .ok (.iastore, 1) := by decide +kernel
theorem dX6_takeAs_7 : decode cX6_takeAs 7 = .ok (.return_, 1) := by decide +kernel
theorem dX6_tapIn_0 : decode cX6_tapIn 0 = .ok (.aload_n 1, 1) := by decide +kernel
theorem dX6_tapIn_1 : decode cX6_tapIn 1 = .ok (.iload_n 2, 1) := by decide +kernel
theorem dX6_tapIn_2 : decode cX6_tapIn 2 = .ok (.invokevirtual 72, 3) := by decide +kernel
theorem dX6_tapIn_5 : decode cX6_tapIn 5 = .ok (.istore 4, 2) := by decide +kernel
theorem dX6_tapIn_7 : decode cX6_tapIn 7 = .ok (.aload_n 0, 1) := by decide +kernel
theorem dX6_tapIn_8 : decode cX6_tapIn 8 = .ok (.invokevirtual 78, 3) := by decide +kernel
theorem dX6_tapIn_11 : decode cX6_tapIn 11 = .ok (.aload_n 0, 1) := by decide +kernel
theorem dX6_tapIn_12 : decode cX6_tapIn 12 = .ok (.aload_n 1, 1) := by decide +kernel
theorem dX6_tapIn_13 : decode cX6_tapIn 13 = .ok (.iload_n 2, 1) := by decide +kernel
theorem dX6_tapIn_14 : decode cX6_tapIn 14 = .ok (.invokevirtual 81, 3) := by decide +kernel
theorem dX6_tapIn_17 : decode cX6_tapIn 17 = .ok (.aload_n 0, 1) := by decide +kernel
theorem dX6_tapIn_18 : decode cX6_tapIn 18 = .ok (.getfield 40, 3) := by decide +kernel
theorem dX6_tapIn_21 : decode cX6_tapIn 21 = .ok (.iload 4, 2) := by decide +kernel
theorem dX6_tapIn_23 : decode cX6_tapIn 23 = .ok (.aload_n 1, 1) := by decide +kernel
theorem dX6_tapIn_24 : decode cX6_tapIn 24 = .ok (.iload_n 2, 1) := by decide +kernel
theorem dX6_tapIn_25 : decode cX6_tapIn 25 = .ok (.invokevirtual 84, 3) := by decide +kernel
theorem dX6_tapIn_28 : decode cX6_tapIn 28 = .ok (.invokevirtual 87, 3) := by decide +kernel
theorem dX6_tapIn_31 : decode cX6_tapIn 31 = .ok (.iconst 1, 1) := by decide +kernel
theorem dX6_tapIn_32 : decode cX6_tapIn 32 = .ok (.iload_n 3, 1) := by decide +kernel
theorem dX6_tapIn_33 : decode cX6_tapIn 33 = .ok (.ishl, 1) := by decide +kernel
theorem dX6_tapIn_34 : decode cX6_tapIn 34 = .ok (.invokevirtual 91, 3) := by decide +kernel
theorem dX6_tapIn_37 : decode cX6_tapIn 37 = .ok (.aload_n 1, 1) := by decide +kernel
theorem dX6_tapIn_38 : decode cX6_tapIn 38 = .ok (.aload_n 0, 1) := by decide +kernel
theorem dX6_tapIn_39 : decode cX6_tapIn 39 = .ok (.getfield 28, 3) := by decide +kernel
theorem dX6_tapIn_42 : decode cX6_tapIn 42 = .ok (.aload_n 0, 1) := by decide +kernel
theorem dX6_tapIn_43 : decode cX6_tapIn 43 = .ok (.getfield 31, 3) := by decide +kernel
theorem dX6_tapIn_46 : decode cX6_tapIn 46 = .ok (.invokevirtual 95, 3) := by decide +kernel
theorem dX6_tapIn_49 : decode cX6_tapIn 49 = .ok (.aload_n 1, 1) := by decide +kernel
theorem dX6_tapIn_50 : decode cX6_tapIn 50 = .ok (.iload_n 2, 1) := by decide +kernel
theorem dX6_tapIn_51 : decode cX6_tapIn 51 = .ok (.iconst 0, 1) := by decide +kernel
theorem dX6_tapIn_52 : decode cX6_tapIn 52 = .ok (.iload 4, 2) := by decide +kernel
theorem dX6_tapIn_54 : decode cX6_tapIn 54 = .ok (.iconst 1, 1) := by decide +kernel
theorem dX6_tapIn_55 : decode cX6_tapIn 55 = .ok (.isub, 1) := by decide +kernel
theorem dX6_tapIn_56 : decode cX6_tapIn 56 = .ok (.invokestatic 99, 3) := by decide +kernel
theorem dX6_tapIn_59 : decode cX6_tapIn 59 = .ok (.invokevirtual 104, 3) := by decide +kernel
theorem dX6_tapIn_62 : decode cX6_tapIn 62 = .ok (.aload_n 0, 1) := by decide +kernel
theorem dX6_tapIn_63 : decode cX6_tapIn 63 = .ok (.getfield 31, 3) := by decide +kernel
theorem dX6_tapIn_66 : decode cX6_tapIn 66 = .ok (.ireturn, 1) := by decide +kernel
theorem dX6_spreadCask_0 : decode cX6_spreadCask 0 = .ok (.aload_n 0, 1) := by decide +kernel
theorem dX6_spreadCask_1 : decode cX6_spreadCask 1 = .ok (.aload_n 0, 1) := by decide +kernel
theorem dX6_spreadCask_2 : decode cX6_spreadCask 2 = .ok (.getfield 40, 3) := by decide +kernel
theorem dX6_spreadCask_5 : decode cX6_spreadCask 5 = .ok (.getfield 107, 3) := by decide +kernel
theorem dX6_spreadCask_8 : decode cX6_spreadCask 8 = .ok (.iload_n 1, 1) := by decide +kernel
theorem dX6_spreadCask_9 : decode cX6_spreadCask 9 = .ok (.invokevirtual 81, 3) := by decide +kernel
theorem dX6_spreadCask_12 : decode cX6_spreadCask 12 = .ok (.aload_n 0, 1) := by decide +kernel
theorem dX6_spreadCask_13 : decode cX6_spreadCask 13 = .ok (.getfield 40, 3) := by decide +kernel
theorem dX6_spreadCask_16 : decode cX6_spreadCask 16 = .ok (.iload_n 1, 1) := by decide +kernel
theorem dX6_spreadCask_17 : decode cX6_spreadCask 17 = .ok (.invokevirtual 111, 3) := by decide +kernel
theorem dX6_spreadCask_20 : decode cX6_spreadCask 20 = .ok (.iload_n 2, 1) := by decide +kernel
theorem dX6_spreadCask_21 : decode cX6_spreadCask 21 = .ok (.invokevirtual 91, 3) := by decide +kernel
theorem dX6_spreadCask_24 : decode cX6_spreadCask 24 = .ok (.return_, 1) := by decide +kernel
theorem dX6_spread_0 : decode cX6_spread 0 = .ok (.aload_n 0, 1) := by decide +kernel
theorem dX6_spread_1 : decode cX6_spread 1 = .ok (.aload_n 0, 1) := by decide +kernel
theorem dX6_spread_2 : decode cX6_spread 2 = .ok (.getfield 40, 3) := by decide +kernel
theorem dX6_spread_5 : decode cX6_spread 5 = .ok (.invokevirtual 114, 3) := by decide +kernel
theorem dX6_spread_8 : decode cX6_spread 8 = .ok (.putfield 24, 3) := by decide +kernel
theorem dX6_spread_11 : decode cX6_spread 11 = .ok (.aload_n 0, 1) := by decide +kernel
theorem dX6_spread_12 : decode cX6_spread 12 = .ok (.iload_n 1, 1) := by decide +kernel
theorem dX6_spread_13 : decode cX6_spread 13 = .ok (.putfield 28, 3) := by decide +kernel
theorem dX6_spread_16 : decode cX6_spread 16 = .ok (.aload_n 0, 1) := by decide +kernel
theorem dX6_spread_17 : decode cX6_spread 17 = .ok (.iconst 0, 1) := by decide +kernel
theorem dX6_spread_18 : decode cX6_spread 18 = .ok (.putfield 31, 3) := by decide +kernel
theorem dX6_spread_21 : decode cX6_spread 21 = .ok (.aload_n 0, 1) := by decide +kernel
theorem dX6_spread_22 : decode cX6_spread 22 = .ok (.iconst 0, 1) := by decide +kernel
theorem dX6_spread_23 : decode cX6_spread 23 = .ok (.putfield 34, 3) := by decide +kernel
theorem dX6_spread_26 : decode cX6_spread 26 = .ok (.aload_n 0, 1) := by decide +kernel
theorem dX6_spread_27 : decode cX6_spread 27 = .ok (.iconst 0, 1) := by decide +kernel
theorem dX6_spread_28 : decode cX6_spread 28 = .ok (.putfield 37, 3) := by decide +kernel
theorem dX6_spread_31 : decode cX6_spread 31 = .ok (.aload_n 0, 1) := by decide +kernel
theorem dX6_spread_32 : decode cX6_spread 32 = .ok (.getfield 18, 3) := by decide +kernel
theorem dX6_spread_35 : decode cX6_spread 35 = .ok (.iload_n 2, 1) := by decide +kernel
theorem dX6_spread_36 : decode cX6_spread 36 = .ok (.invokestatic 57, 3) := by decide +kernel
theorem dX6_spread_39 : decode cX6_spread 39 = .ok (.iload_n 3, 1) := by decide +kernel
theorem dX6_spread_40 : decode cX6_spread 40 = .ok (.istore 4, 2) := by decide +kernel
theorem dX6_spread_42 : decode cX6_spread 42 = .ok (.iconst 0, 1) := by decide +kernel
theorem dX6_spread_43 : decode cX6_spread 43 = .ok (.istore 5, 2) := by decide +kernel
theorem dX6_spread_45 : decode cX6_spread 45 = .ok (.iload 5, 2) := by decide +kernel
theorem dX6_spread_47 : decode cX6_spread 47 = .ok (.bipush 6, 2) := by decide +kernel
theorem dX6_spread_49 : decode cX6_spread 49 = .ok (.if_icmp .gt 40, 3) := by decide +kernel
theorem dX6_spread_52 : decode cX6_spread 52 = .ok (.iload 4, 2) := by decide +kernel
theorem dX6_spread_54 : decode cX6_spread 54 = .ok (.ifCond .eq 35, 3) := by decide +kernel
theorem dX6_spread_57 : decode cX6_spread 57 = .ok (.iload 4, 2) := by decide +kernel
theorem dX6_spread_59 : decode cX6_spread 59 = .ok (.aload_n 0, 1) := by decide +kernel
theorem dX6_spread_60 : decode cX6_spread 60 = .ok (.getfield 34, 3) := by decide +kernel
theorem dX6_spread_63 : decode cX6_spread 63 = .ok (.iconst (-1), 1) := by decide +kernel
theorem dX6_spread_64 : decode cX6_spread 64 = .ok (.ixor, 1) := by decide +kernel
theorem dX6_spread_65 : decode cX6_spread 65 = .ok (.iand, 1) := by decide +kernel
theorem dX6_spread_66 : decode cX6_spread 66 = .ok (.ifCond .eq 9, 3) := by decide +kernel
theorem dX6_spread_69 : decode cX6_spread 69 = .ok (.aload_n 0, 1) := by decide +kernel
theorem dX6_spread_70 : decode cX6_spread 70 = .ok (.iload 5, 2) := by decide +kernel
theorem dX6_spread_72 : decode cX6_spread 72 = .ok (.putfield 37, 3) := by decide +kernel
theorem dX6_spread_75 : decode cX6_spread 75 = .ok (.aload_n 0, 1) := by decide +kernel
theorem dX6_spread_76 : decode cX6_spread 76 = .ok (.iload 4, 2) := by decide +kernel
theorem dX6_spread_78 : decode cX6_spread 78 = .ok (.invokevirtual 117, 3) := by decide +kernel
theorem dX6_spread_81 : decode cX6_spread 81 = .ok (.istore 4, 2) := by decide +kernel
theorem dX6_spread_83 : decode cX6_spread 83 = .ok (.iinc 5 1, 3) := by decide +kernel
theorem dX6_spread_86 : decode cX6_spread 86 = .ok (.goto (-41), 3) := by decide +kernel
theorem dX6_spread_89 : decode cX6_spread 89 = .ok (.return_, 1) := by decide +kernel
theorem dX6_goOneStep_0 : decode cX6_goOneStep 0 = .ok (.iload_n 1, 1) := by decide +kernel
theorem dX6_goOneStep_1 : decode cX6_goOneStep 1 = .ok (.aload_n 0, 1) := by decide +kernel
theorem dX6_goOneStep_2 : decode cX6_goOneStep 2 = .ok (.getfield 34, 3) := by decide +kernel
theorem dX6_goOneStep_5 : decode cX6_goOneStep 5 = .ok (.iconst (-1), 1) := by decide +kernel
theorem dX6_goOneStep_6 : decode cX6_goOneStep 6 = .ok (.ixor, 1) := by decide +kernel
theorem dX6_goOneStep_7 : decode cX6_goOneStep 7 = .ok (.iand, 1) := by decide +kernel
theorem dX6_goOneStep_8 : decode cX6_goOneStep 8 = .ok (.istore_n 2, 1) := by decide +kernel
theorem dX6_goOneStep_9 : decode cX6_goOneStep 9 = .ok (.iconst 0, 1) := by decide +kernel
theorem dX6_goOneStep_10 : decode cX6_goOneStep 10 = .ok (.istore_n 3, 1) := by decide +kernel
theorem dX6_goOneStep_11 : decode cX6_goOneStep 11 = .ok (.aload_n 0, 1) := by decide +kernel
theorem dX6_goOneStep_12 : decode cX6_goOneStep 12 = .ok (.getfield 21, 3) := by decide +kernel
theorem dX6_goOneStep_15 : decode cX6_goOneStep 15 = .ok (.iconst 0, 1) := by decide +kernel
theorem dX6_goOneStep_16 : decode cX6_goOneStep 16 = .ok (.invokestatic 57, 3) := by decide +kernel
theorem dX6_goOneStep_19 : decode cX6_goOneStep 19 = .ok (.iconst 0, 1) := by decide +kernel
theorem dX6_goOneStep_20 : decode cX6_goOneStep 20 = .ok (.istore 4, 2) := by decide +kernel
theorem dX6_goOneStep_22 : decode cX6_goOneStep 22 = .ok (.iload 4, 2) := by decide +kernel
theorem dX6_goOneStep_24 : decode cX6_goOneStep 24 = .ok (.aload_n 0, 1) := by decide +kernel
theorem dX6_goOneStep_25 : decode cX6_goOneStep 25 = .ok (.getfield 40, 3) := by decide +kernel
theorem dX6_goOneStep_28 : decode cX6_goOneStep 28 = .ok (.getfield 120, 3) := by decide +kernel
theorem dX6_goOneStep_31 : decode cX6_goOneStep 31 = .ok (.if_icmp .ge 88, 3) := by decide +kernel
theorem dX6_goOneStep_34 : decode cX6_goOneStep 34 = .ok (.iload_n 1, 1) := by decide +kernel
theorem dX6_goOneStep_35 : decode cX6_goOneStep 35 = .ok (.iload 4, 2) := by decide +kernel
theorem dX6_goOneStep_37 : decode cX6_goOneStep 37 = .ok (.ishr, 1) := by decide +kernel
theorem dX6_goOneStep_38 : decode cX6_goOneStep 38 = .ok (.iconst 1, 1) := by decide +kernel
theorem dX6_goOneStep_39 : decode cX6_goOneStep 39 = .ok (.iand, 1) := by decide +kernel
theorem dX6_goOneStep_40 : decode cX6_goOneStep 40 = .ok (.ifCond .eq 73, 3) := by decide +kernel
theorem dX6_goOneStep_43 : decode cX6_goOneStep 43 = .ok (.aload_n 0, 1) := by decide +kernel
theorem dX6_goOneStep_44 : decode cX6_goOneStep 44 = .ok (.iload 4, 2) := by decide +kernel
theorem dX6_goOneStep_46 : decode cX6_goOneStep 46 = .ok (.aload_n 0, 1) := by decide +kernel
theorem dX6_goOneStep_47 : decode cX6_goOneStep 47 = .ok (.getfield 18, 3) := by decide +kernel
theorem dX6_goOneStep_50 : decode cX6_goOneStep 50 = .ok (.iload 4, 2) := by decide +kernel
theorem dX6_goOneStep_52 : decode cX6_goOneStep 52 = .ok (.iaload, 1) := by decide +kernel
theorem dX6_goOneStep_53 : decode cX6_goOneStep 53 = .ok (.invokevirtual 123, 3) := by decide +kernel
theorem dX6_goOneStep_56 : decode cX6_goOneStep 56 = .ok (.istore 5, 2) := by decide +kernel
theorem dX6_goOneStep_58 : decode cX6_goOneStep 58 = .ok (.iload 5, 2) := by decide +kernel
theorem dX6_goOneStep_60 : decode cX6_goOneStep 60 = .ok (.ifCond .eq 16, 3) := by decide +kernel
theorem dX6_goOneStep_63 : decode cX6_goOneStep 63 = .ok (.aload_n 0, 1) := by decide +kernel
theorem dX6_goOneStep_64 : decode cX6_goOneStep 64 = .ok (.dup, 1) := by decide +kernel
theorem dX6_goOneStep_65 : decode cX6_goOneStep 65 = .ok (.getfield 31, 3) := by decide +kernel
theorem dX6_goOneStep_68 : decode cX6_goOneStep 68 = .ok (.iconst 1, 1) := by decide +kernel
theorem dX6_goOneStep_69 : decode cX6_goOneStep 69 = .ok (.iload 4, 2) := by decide +kernel
theorem dX6_goOneStep_71 : decode cX6_goOneStep 71 = .ok (.ishl, 1) := by decide +kernel
theorem dX6_goOneStep_72 : decode cX6_goOneStep 72 = .ok (.ior, 1) := by decide +kernel
theorem dX6_goOneStep_73 : decode cX6_goOneStep 73 = .ok (.putfield 31, 3) := by decide +kernel
theorem dX6_goOneStep_76 : decode cX6_goOneStep 76 = .ok (.iload_n 2, 1) := by decide +kernel
theorem dX6_goOneStep_77 : decode cX6_goOneStep 77 = .ok (.iload 4, 2) := by decide +kernel
theorem dX6_goOneStep_79 : decode cX6_goOneStep 79 = .ok (.ishr, 1) := by decide +kernel
theorem dX6_goOneStep_80 : decode cX6_goOneStep 80 = .ok (.iconst 1, 1) := by decide +kernel
theorem dX6_goOneStep_81 : decode cX6_goOneStep 81 = .ok (.iand, 1) := by decide +kernel
theorem dX6_goOneStep_82 : decode cX6_goOneStep 82 = .ok (.ifCond .eq 31, 3) := by decide +kernel
theorem dX6_goOneStep_85 : decode cX6_goOneStep 85 = .ok (.iload_n 3, 1) := by decide +kernel
theorem dX6_goOneStep_86 : decode cX6_goOneStep 86 = .ok (.aload_n 0, 1) := by decide +kernel
theorem dX6_goOneStep_87 : decode cX6_goOneStep 87 = .ok (.iload 4, 2) := by decide +kernel
theorem dX6_goOneStep_89 : decode cX6_goOneStep 89 = .ok (.aload_n 0, 1) := by decide +kernel
theorem dX6_goOneStep_90 : decode cX6_goOneStep 90 = .ok (.getfield 9, 3) := by decide +kernel
theorem dX6_goOneStep_93 : decode cX6_goOneStep 93 = .ok (.iload 4, 2) := by decide +kernel
theorem dX6_goOneStep_95 : decode cX6_goOneStep 95 = .ok (.iaload, 1) := by decide +kernel
theorem dX6_goOneStep_96 : decode cX6_goOneStep 96 = .ok (.aload_n 0, 1) := by decide +kernel
theorem dX6_goOneStep_97 : decode cX6_goOneStep 97 = .ok (.getfield 18, 3) := by decide +kernel
theorem dX6_goOneStep_100 : decode cX6_goOneStep 100 = .ok (.iload 4, 2) := by decide +kernel
theorem dX6_goOneStep_102 : decode cX6_goOneStep 102 = .ok (.iaload, 1) := by decide +kernel
theorem dX6_goOneStep_103 : decode cX6_goOneStep 103 = .ok (.iload 5, 2) := by decide +kernel
theorem dX6_goOneStep_105 : decode cX6_goOneStep 105 = .ok (.invokestatic 127, 3) := by decide +kernel
theorem dX6_goOneStep_108 : decode cX6_goOneStep 108 = .ok (.invokevirtual 131, 3) := by decide +kernel
theorem dX6_goOneStep_111 : decode cX6_goOneStep 111 = .ok (.ior, 1) := by decide +kernel
theorem dX6_goOneStep_112 : decode cX6_goOneStep 112 = .ok (.istore_n 3, 1) := by decide +kernel
theorem dX6_goOneStep_113 : decode cX6_goOneStep 113 = .ok (.iinc 4 1, 3) := by decide +kernel
theorem dX6_goOneStep_116 : decode cX6_goOneStep 116 = .ok (.goto (-94), 3) := by decide +kernel
theorem dX6_goOneStep_119 : decode cX6_goOneStep 119 = .ok (.aload_n 0, 1) := by decide +kernel
theorem dX6_goOneStep_120 : decode cX6_goOneStep 120 = .ok (.dup, 1) := by decide +kernel
theorem dX6_goOneStep_121 : decode cX6_goOneStep 121 = .ok (.getfield 34, 3) := by decide +kernel
theorem dX6_goOneStep_124 : decode cX6_goOneStep 124 = .ok (.iload_n 1, 1) := by decide +kernel
theorem dX6_goOneStep_125 : decode cX6_goOneStep 125 = .ok (.ior, 1) := by decide +kernel
theorem dX6_goOneStep_126 : decode cX6_goOneStep 126 = .ok (.putfield 34, 3) := by decide +kernel
theorem dX6_goOneStep_129 : decode cX6_goOneStep 129 = .ok (.aload_n 0, 1) := by decide +kernel
theorem dX6_goOneStep_130 : decode cX6_goOneStep 130 = .ok (.getfield 18, 3) := by decide +kernel
theorem dX6_goOneStep_133 : decode cX6_goOneStep 133 = .ok (.astore 4, 2) := by decide +kernel
theorem dX6_goOneStep_135 : decode cX6_goOneStep 135 = .ok (.aload_n 0, 1) := by decide +kernel
theorem dX6_goOneStep_136 : decode cX6_goOneStep 136 = .ok (.aload_n 0, 1) := by decide +kernel
theorem dX6_goOneStep_137 : decode cX6_goOneStep 137 = .ok (.getfield 21, 3) := by decide +kernel
theorem dX6_goOneStep_140 : decode cX6_goOneStep 140 = .ok (.putfield 18, 3) := by decide +kernel
theorem dX6_goOneStep_143 : decode cX6_goOneStep 143 = .ok (.aload_n 0, 1) := by decide +kernel
theorem dX6_goOneStep_144 : decode cX6_goOneStep 144 = .ok (.aload 4, 2) := by decide +kernel
theorem dX6_goOneStep_146 : decode cX6_goOneStep 146 = .ok (.putfield 21, 3) := by decide +kernel
theorem dX6_goOneStep_149 : decode cX6_goOneStep 149 = .ok (.iload_n 3, 1) := by decide +kernel
theorem dX6_goOneStep_150 : decode cX6_goOneStep 150 = .ok (.ireturn, 1) := by decide +kernel
theorem dX6_isBelieved_0 : decode cX6_isBelieved 0 = .ok (.aload_n 0, 1) := by decide +kernel
theorem dX6_isBelieved_1 : decode cX6_isBelieved 1 = .ok (.getfield 9, 3) := by decide +kernel
theorem dX6_isBelieved_4 : decode cX6_isBelieved 4 = .ok (.iload_n 1, 1) := by decide +kernel
theorem dX6_isBelieved_5 : decode cX6_isBelieved 5 = .ok (.iaload, 1) := by decide +kernel
theorem dX6_isBelieved_6 : decode cX6_isBelieved 6 = .ok (.istore_n 3, 1) := by decide +kernel
theorem dX6_isBelieved_7 : decode cX6_isBelieved 7 = .ok (.iload_n 3, 1) := by decide +kernel
theorem dX6_isBelieved_8 : decode cX6_isBelieved 8 = .ok (.iconst 4, 1) := by decide +kernel
theorem dX6_isBelieved_9 : decode cX6_isBelieved 9 = .ok (.if_icmp .eq 8, 3) := by decide +kernel
theorem dX6_isBelieved_12 : decode cX6_isBelieved 12 = .ok (.iload_n 3, 1) := by decide +kernel
theorem dX6_isBelieved_13 : decode cX6_isBelieved 13 = .ok (.iconst 5, 1) := by decide +kernel
theorem dX6_isBelieved_14 : decode cX6_isBelieved 14 = .ok (.if_icmp .ne 5, 3) := by decide +kernel
theorem dX6_isBelieved_17 : decode cX6_isBelieved 17 = .ok (.iconst 0, 1) := by decide +kernel
theorem dX6_isBelieved_18 : decode cX6_isBelieved 18 = .ok (.ireturn, 1) := by decide +kernel
theorem dX6_isBelieved_19 : decode cX6_isBelieved 19 = .ok (.iload_n 3, 1) := by decide +kernel
theorem dX6_isBelieved_20 : decode cX6_isBelieved 20 = .ok (.iconst 3, 1) := by decide +kernel
theorem dX6_isBelieved_21 : decode cX6_isBelieved 21 = .ok (.if_icmp .ne 9, 3) := by decide +kernel
theorem dX6_isBelieved_24 : decode cX6_isBelieved 24 = .ok (.iload_n 2, 1) := by decide +kernel
theorem dX6_isBelieved_25 : decode cX6_isBelieved 25 = .ok (.iconst 2, 1) := by decide +kernel
theorem dX6_isBelieved_26 : decode cX6_isBelieved 26 = .ok (.idiv, 1) := by decide +kernel
theorem dX6_isBelieved_27 : decode cX6_isBelieved 27 = .ok (.goto 4, 3) := by decide +kernel
theorem dX6_isBelieved_30 : decode cX6_isBelieved 30 = .ok (.iload_n 2, 1) := by decide +kernel
theorem dX6_isBelieved_31 : decode cX6_isBelieved 31 = .ok (.istore 4, 2) := by decide +kernel
theorem dX6_isBelieved_33 : decode cX6_isBelieved 33 = .ok (.iload_n 1, 1) := by decide +kernel
theorem dX6_isBelieved_34 : decode cX6_isBelieved 34 = .ok (.aload_n 0, 1) := by decide +kernel
theorem dX6_isBelieved_35 : decode cX6_isBelieved 35 = .ok (.getfield 28, 3) := by decide +kernel
theorem dX6_isBelieved_38 : decode cX6_isBelieved 38 = .ok (.if_icmp .ne 9, 3) := by decide +kernel
theorem dX6_isBelieved_41 : decode cX6_isBelieved 41 = .ok (.iinc 4 (-5), 3) := by decide +kernel
theorem dX6_isBelieved_44 : decode cX6_isBelieved 44 = .ok (.goto 22, 3) := by decide +kernel
theorem dX6_isBelieved_47 : decode cX6_isBelieved 47 = .ok (.aload_n 0, 1) := by decide +kernel
theorem dX6_isBelieved_48 : decode cX6_isBelieved 48 = .ok (.getfield 40, 3) := by decide +kernel
theorem dX6_isBelieved_51 : decode cX6_isBelieved 51 = .ok (.getfield 134, 3) := by decide +kernel
theorem dX6_isBelieved_54 : decode cX6_isBelieved 54 = .ok (.iload_n 1, 1) := by decide +kernel
theorem dX6_isBelieved_55 : decode cX6_isBelieved 55 = .ok (.iaload, 1) := by decide +kernel
theorem dX6_isBelieved_56 : decode cX6_isBelieved 56 = .ok (.aload_n 0, 1) := by decide +kernel
theorem dX6_isBelieved_57 : decode cX6_isBelieved 57 = .ok (.getfield 28, 3) := by decide +kernel
theorem dX6_isBelieved_60 : decode cX6_isBelieved 60 = .ok (.if_icmp .ne 6, 3) := by decide +kernel
theorem dX6_isBelieved_63 : decode cX6_isBelieved 63 = .ok (.iinc 4 3, 3) := by decide +kernel
theorem dX6_isBelieved_66 : decode cX6_isBelieved 66 = .ok (.iload 4, 2) := by decide +kernel
theorem dX6_isBelieved_68 : decode cX6_isBelieved 68 = .ok (.aload_n 0, 1) := by decide +kernel
theorem dX6_isBelieved_69 : decode cX6_isBelieved 69 = .ok (.getfield 40, 3) := by decide +kernel
theorem dX6_isBelieved_72 : decode cX6_isBelieved 72 = .ok (.getfield 137, 3) := by decide +kernel
theorem dX6_isBelieved_75 : decode cX6_isBelieved 75 = .ok (.iload_n 1, 1) := by decide +kernel
theorem dX6_isBelieved_76 : decode cX6_isBelieved 76 = .ok (.iaload, 1) := by decide +kernel
theorem dX6_isBelieved_77 : decode cX6_isBelieved 77 = .ok (.if_icmp .lt 7, 3) := by decide +kernel
theorem dX6_isBelieved_80 : decode cX6_isBelieved 80 = .ok (.iconst 1, 1) := by decide +kernel
theorem dX6_isBelieved_81 : decode cX6_isBelieved 81 = .ok (.goto 4, 3) := by decide +kernel
theorem dX6_isBelieved_84 : decode cX6_isBelieved 84 = .ok (.iconst 0, 1) := by decide +kernel
theorem dX6_isBelieved_85 : decode cX6_isBelieved 85 = .ok (.ireturn, 1) := by decide +kernel
theorem dX6_passedOn_0 : decode cX6_passedOn 0 = .ok (.iload_n 0, 1) := by decide +kernel
theorem dX6_passedOn_1 : decode cX6_passedOn 1 = .ok (.tableswitch 51 2 5 #[31, 51, 43, 47], 31) := by decide +kernel
theorem dX6_passedOn_32 : decode cX6_passedOn 32 = .ok (.iload_n 2, 1) := by decide +kernel
theorem dX6_passedOn_33 : decode cX6_passedOn 33 = .ok (.ifCond .eq 9, 3) := by decide +kernel
theorem dX6_passedOn_36 : decode cX6_passedOn 36 = .ok (.iload_n 1, 1) := by decide +kernel
theorem dX6_passedOn_37 : decode cX6_passedOn 37 = .ok (.iconst 1, 1) := by decide +kernel
theorem dX6_passedOn_38 : decode cX6_passedOn 38 = .ok (.iadd, 1) := by decide +kernel
theorem dX6_passedOn_39 : decode cX6_passedOn 39 = .ok (.goto 4, 3) := by decide +kernel
theorem dX6_passedOn_42 : decode cX6_passedOn 42 = .ok (.iconst 0, 1) := by decide +kernel
theorem dX6_passedOn_43 : decode cX6_passedOn 43 = .ok (.ireturn, 1) := by decide +kernel
theorem dX6_passedOn_44 : decode cX6_passedOn 44 = .ok (.iload_n 1, 1) := by decide +kernel
theorem dX6_passedOn_45 : decode cX6_passedOn 45 = .ok (.iconst 2, 1) := by decide +kernel
theorem dX6_passedOn_46 : decode cX6_passedOn 46 = .ok (.isub, 1) := by decide +kernel
theorem dX6_passedOn_47 : decode cX6_passedOn 47 = .ok (.ireturn, 1) := by decide +kernel
theorem dX6_passedOn_48 : decode cX6_passedOn 48 = .ok (.iload_n 1, 1) := by decide +kernel
theorem dX6_passedOn_49 : decode cX6_passedOn 49 = .ok (.iconst 2, 1) := by decide +kernel
theorem dX6_passedOn_50 : decode cX6_passedOn 50 = .ok (.idiv, 1) := by decide +kernel
theorem dX6_passedOn_51 : decode cX6_passedOn 51 = .ok (.ireturn, 1) := by decide +kernel
theorem dX6_passedOn_52 : decode cX6_passedOn 52 = .ok (.iload_n 2, 1) := by decide +kernel
theorem dX6_passedOn_53 : decode cX6_passedOn 53 = .ok (.ifCond .eq 9, 3) := by decide +kernel
theorem dX6_passedOn_56 : decode cX6_passedOn 56 = .ok (.iload_n 1, 1) := by decide +kernel
theorem dX6_passedOn_57 : decode cX6_passedOn 57 = .ok (.iconst 1, 1) := by decide +kernel
theorem dX6_passedOn_58 : decode cX6_passedOn 58 = .ok (.isub, 1) := by decide +kernel
theorem dX6_passedOn_59 : decode cX6_passedOn 59 = .ok (.goto 4, 3) := by decide +kernel
theorem dX6_passedOn_62 : decode cX6_passedOn 62 = .ok (.iconst 0, 1) := by decide +kernel
theorem dX6_passedOn_63 : decode cX6_passedOn 63 = .ok (.ireturn, 1) := by decide +kernel
theorem dX6_passOn_0 : decode cX6_passOn 0 = .ok (.iload_n 2, 1) := by decide +kernel
theorem dX6_passOn_1 : decode cX6_passOn 1 = .ok (.ifCond .gt 5, 3) := by decide +kernel
theorem dX6_passOn_4 : decode cX6_passOn 4 = .ok (.iconst 0, 1) := by decide +kernel
theorem dX6_passOn_5 : decode cX6_passOn 5 = .ok (.ireturn, 1) := by decide +kernel
theorem dX6_passOn_6 : decode cX6_passOn 6 = .ok (.aload_n 0, 1) := by decide +kernel
theorem dX6_passOn_7 : decode cX6_passOn 7 = .ok (.getfield 9, 3) := by decide +kernel
theorem dX6_passOn_10 : decode cX6_passOn 10 = .ok (.iload_n 1, 1) := by decide +kernel
theorem dX6_passOn_11 : decode cX6_passOn 11 = .ok (.iaload, 1) := by decide +kernel
theorem dX6_passOn_12 : decode cX6_passOn 12 = .ok (.iconst 5, 1) := by decide +kernel
theorem dX6_passOn_13 : decode cX6_passOn 13 = .ok (.if_icmp .ne 16, 3) := by decide +kernel
theorem dX6_passOn_16 : decode cX6_passOn 16 = .ok (.aload_n 0, 1) := by decide +kernel
theorem dX6_passOn_17 : decode cX6_passOn 17 = .ok (.getfield 24, 3) := by decide +kernel
theorem dX6_passOn_20 : decode cX6_passOn 20 = .ok (.iconst 1, 1) := by decide +kernel
theorem dX6_passOn_21 : decode cX6_passOn 21 = .ok (.iload_n 1, 1) := by decide +kernel
theorem dX6_passOn_22 : decode cX6_passOn 22 = .ok (.ishl, 1) := by decide +kernel
theorem dX6_passOn_23 : decode cX6_passOn 23 = .ok (.iconst (-1), 1) := by decide +kernel
theorem dX6_passOn_24 : decode cX6_passOn 24 = .ok (.ixor, 1) := by decide +kernel
theorem dX6_passOn_25 : decode cX6_passOn 25 = .ok (.iand, 1) := by decide +kernel
theorem dX6_passOn_26 : decode cX6_passOn 26 = .ok (.goto 9, 3) := by decide +kernel
theorem dX6_passOn_29 : decode cX6_passOn 29 = .ok (.aload_n 0, 1) := by decide +kernel
theorem dX6_passOn_30 : decode cX6_passOn 30 = .ok (.getfield 15, 3) := by decide +kernel
theorem dX6_passOn_33 : decode cX6_passOn 33 = .ok (.iload_n 1, 1) := by decide +kernel
theorem dX6_passOn_34 : decode cX6_passOn 34 = .ok (.iaload, 1) := by decide +kernel
theorem dX6_passOn_35 : decode cX6_passOn 35 = .ok (.istore_n 3, 1) := by decide +kernel
theorem dX6_passOn_36 : decode cX6_passOn 36 = .ok (.iconst 0, 1) := by decide +kernel
theorem dX6_passOn_37 : decode cX6_passOn 37 = .ok (.istore 4, 2) := by decide +kernel
theorem dX6_passOn_39 : decode cX6_passOn 39 = .ok (.iload 4, 2) := by decide +kernel
theorem dX6_passOn_41 : decode cX6_passOn 41 = .ok (.aload_n 0, 1) := by decide +kernel
theorem dX6_passOn_42 : decode cX6_passOn 42 = .ok (.getfield 40, 3) := by decide +kernel
theorem dX6_passOn_45 : decode cX6_passOn 45 = .ok (.getfield 120, 3) := by decide +kernel
theorem dX6_passOn_48 : decode cX6_passOn 48 = .ok (.if_icmp .ge 36, 3) := by decide +kernel
theorem dX6_passOn_51 : decode cX6_passOn 51 = .ok (.iload_n 3, 1) := by decide +kernel
theorem dX6_passOn_52 : decode cX6_passOn 52 = .ok (.iload 4, 2) := by decide +kernel
theorem dX6_passOn_54 : decode cX6_passOn 54 = .ok (.ishr, 1) := by decide +kernel
theorem dX6_passOn_55 : decode cX6_passOn 55 = .ok (.iconst 1, 1) := by decide +kernel
theorem dX6_passOn_56 : decode cX6_passOn 56 = .ok (.iand, 1) := by decide +kernel
theorem dX6_passOn_57 : decode cX6_passOn 57 = .ok (.ifCond .eq 21, 3) := by decide +kernel
theorem dX6_passOn_60 : decode cX6_passOn 60 = .ok (.aload_n 0, 1) := by decide +kernel
theorem dX6_passOn_61 : decode cX6_passOn 61 = .ok (.getfield 21, 3) := by decide +kernel
theorem dX6_passOn_64 : decode cX6_passOn 64 = .ok (.iload 4, 2) := by decide +kernel
theorem dX6_passOn_66 : decode cX6_passOn 66 = .ok (.aload_n 0, 1) := by decide +kernel
theorem dX6_passOn_67 : decode cX6_passOn 67 = .ok (.getfield 21, 3) := by decide +kernel
theorem dX6_passOn_70 : decode cX6_passOn 70 = .ok (.iload 4, 2) := by decide +kernel
theorem dX6_passOn_72 : decode cX6_passOn 72 = .ok (.iaload, 1) := by decide +kernel
theorem dX6_passOn_73 : decode cX6_passOn 73 = .ok (.iload_n 2, 1) := by decide +kernel
theorem dX6_passOn_74 : decode cX6_passOn 74 = .ok (.invokestatic 99, 3) := by decide +kernel
theorem dX6_passOn_77 : decode cX6_passOn 77 = .ok (.iastore, 1) := by decide +kernel
theorem dX6_passOn_78 : decode cX6_passOn 78 = .ok (.iinc 4 1, 3) := by decide +kernel
theorem dX6_passOn_81 : decode cX6_passOn 81 = .ok (.goto (-42), 3) := by decide +kernel
theorem dX6_passOn_84 : decode cX6_passOn 84 = .ok (.iload_n 3, 1) := by decide +kernel
theorem dX6_passOn_85 : decode cX6_passOn 85 = .ok (.ireturn, 1) := by decide +kernel
theorem dX7_init_0 : decode cX7_init 0 = .ok (.aload_n 0, 1) := by decide +kernel
theorem dX7_init_1 : decode cX7_init 1 = .ok (.invokespecial 3, 3) := by decide +kernel
theorem dX7_init_4 : decode cX7_init 4 = .ok (.aload_n 0, 1) := by decide +kernel
theorem dX7_init_5 : decode cX7_init 5 = .ok (.iconst 0, 1) := by decide +kernel
theorem dX7_init_6 : decode cX7_init 6 = .ok (.putfield 9, 3) := by decide +kernel
theorem dX7_init_9 : decode cX7_init 9 = .ok (.aload_n 0, 1) := by decide +kernel
theorem dX7_init_10 : decode cX7_init 10 = .ok (.iconst 0, 1) := by decide +kernel
theorem dX7_init_11 : decode cX7_init 11 = .ok (.putfield 15, 3) := by decide +kernel
theorem dX7_init_14 : decode cX7_init 14 = .ok (.aload_n 0, 1) := by decide +kernel
theorem dX7_init_15 : decode cX7_init 15 = .ok (.iconst 0, 1) := by decide +kernel
theorem dX7_init_16 : decode cX7_init 16 = .ok (.putfield 18, 3) := by decide +kernel
theorem dX7_init_19 : decode cX7_init 19 = .ok (.aload_n 0, 1) := by decide +kernel
theorem dX7_init_20 : decode cX7_init 20 = .ok (.iconst 0, 1) := by decide +kernel
theorem dX7_init_21 : decode cX7_init 21 = .ok (.putfield 21, 3) := by decide +kernel
theorem dX7_init_24 : decode cX7_init 24 = .ok (.aload_n 0, 1) := by decide +kernel
theorem dX7_init_25 : decode cX7_init 25 = .ok (.bipush 6, 2) := by decide +kernel
theorem dX7_init_27 : decode cX7_init 27 = .ok (.newarray .int, 2) := by decide +kernel
theorem dX7_init_29 : decode cX7_init 29 = .ok (.putfield 24, 3) := by decide +kernel
theorem dX7_init_32 : decode cX7_init 32 = .ok (.aload_n 0, 1) := by decide +kernel
theorem dX7_init_33 : decode cX7_init 33 = .ok (.bipush 6, 2) := by decide +kernel
theorem dX7_init_35 : decode cX7_init 35 = .ok (.newarray .int, 2) := by decide +kernel
theorem dX7_init_37 : decode cX7_init 37 = .ok (.putfield 28, 3) := by decide +kernel
theorem dX7_init_40 : decode cX7_init 40 = .ok (.aload_n 0, 1) := by decide +kernel
theorem dX7_init_41 : decode cX7_init 41 = .ok (.bipush 6, 2) := by decide +kernel
theorem dX7_init_43 : decode cX7_init 43 = .ok (.newarray .int, 2) := by decide +kernel
theorem dX7_init_45 : decode cX7_init 45 = .ok (.putfield 31, 3) := by decide +kernel
theorem dX7_init_48 : decode cX7_init 48 = .ok (.aload_n 0, 1) := by decide +kernel
theorem dX7_init_49 : decode cX7_init 49 = .ok (.iconst 0, 1) := by decide +kernel
theorem dX7_init_50 : decode cX7_init 50 = .ok (.putfield 34, 3) := by decide +kernel
theorem dX7_init_53 : decode cX7_init 53 = .ok (.aload_n 0, 1) := by decide +kernel
theorem dX7_init_54 : decode cX7_init 54 = .ok (.bipush 10, 2) := by decide +kernel
theorem dX7_init_56 : decode cX7_init 56 = .ok (.newarray .int, 2) := by decide +kernel
theorem dX7_init_58 : decode cX7_init 58 = .ok (.putfield 37, 3) := by decide +kernel
theorem dX7_init_61 : decode cX7_init 61 = .ok (.aload_n 0, 1) := by decide +kernel
theorem dX7_init_62 : decode cX7_init 62 = .ok (.bipush 10, 2) := by decide +kernel
theorem dX7_init_64 : decode cX7_init 64 = .ok (.newarray .int, 2) := by decide +kernel
theorem dX7_init_66 : decode cX7_init 66 = .ok (.putfield 40, 3) := by decide +kernel
theorem dX7_init_69 : decode cX7_init 69 = .ok (.aload_n 0, 1) := by decide +kernel
theorem dX7_init_70 : decode cX7_init 70 = .ok (.new 43, 3) := by decide +kernel
theorem dX7_init_73 : decode cX7_init 73 = .ok (.dup, 1) := by decide +kernel
theorem dX7_init_74 : decode cX7_init 74 = .ok (.invokespecial 45, 3) := by decide +kernel
theorem dX7_init_77 : decode cX7_init 77 = .ok (.putfield 46, 3) := by decide +kernel
theorem dX7_init_80 : decode cX7_init 80 = .ok (.return_, 1) := by decide +kernel
theorem dX7_empty_0 : decode cX7_empty 0 = .ok (.aload_n 0, 1) := by decide +kernel
theorem dX7_empty_1 : decode cX7_empty 1 = .ok (.iconst 0, 1) := by decide +kernel
theorem dX7_empty_2 : decode cX7_empty 2 = .ok (.putfield 21, 3) := by decide +kernel
theorem dX7_empty_5 : decode cX7_empty 5 = .ok (.aload_n 0, 1) := by decide +kernel
theorem dX7_empty_6 : decode cX7_empty 6 = .ok (.iconst 0, 1) := by decide +kernel
theorem dX7_empty_7 : decode cX7_empty 7 = .ok (.putfield 34, 3) := by decide +kernel
theorem dX7_empty_10 : decode cX7_empty 10 = .ok (.aload_n 0, 1) := by decide +kernel
theorem dX7_empty_11 : decode cX7_empty 11 = .ok (.getfield 46, 3) := by decide +kernel
theorem dX7_empty_14 : decode cX7_empty 14 = .ok (.invokevirtual 50, 3) := by decide +kernel
theorem dX7_empty_17 : decode cX7_empty 17 = .ok (.return_, 1) := by decide +kernel
theorem dX7_become_0 : decode cX7_become 0 = .ok (.aload_n 0, 1) := by decide +kernel
theorem dX7_become_1 : decode cX7_become 1 = .ok (.aload_n 1, 1) := by decide +kernel
theorem dX7_become_2 : decode cX7_become 2 = .ok (.getfield 9, 3) := by decide +kernel
theorem dX7_become_5 : decode cX7_become 5 = .ok (.putfield 9, 3) := by decide +kernel
theorem dX7_become_8 : decode cX7_become 8 = .ok (.aload_n 0, 1) := by decide +kernel
theorem dX7_become_9 : decode cX7_become 9 = .ok (.aload_n 1, 1) := by decide +kernel
theorem dX7_become_10 : decode cX7_become 10 = .ok (.getfield 15, 3) := by decide +kernel
theorem dX7_become_13 : decode cX7_become 13 = .ok (.putfield 15, 3) := by decide +kernel
theorem dX7_become_16 : decode cX7_become 16 = .ok (.aload_n 0, 1) := by decide +kernel
theorem dX7_become_17 : decode cX7_become 17 = .ok (.aload_n 1, 1) := by decide +kernel
theorem dX7_become_18 : decode cX7_become 18 = .ok (.getfield 18, 3) := by decide +kernel
theorem dX7_become_21 : decode cX7_become 21 = .ok (.putfield 18, 3) := by decide +kernel
theorem dX7_become_24 : decode cX7_become 24 = .ok (.aload_n 0, 1) := by decide +kernel
theorem dX7_become_25 : decode cX7_become 25 = .ok (.aload_n 1, 1) := by decide +kernel
theorem dX7_become_26 : decode cX7_become 26 = .ok (.getfield 21, 3) := by decide +kernel
theorem dX7_become_29 : decode cX7_become 29 = .ok (.putfield 21, 3) := by decide +kernel
theorem dX7_become_32 : decode cX7_become 32 = .ok (.aload_n 1, 1) := by decide +kernel
theorem dX7_become_33 : decode cX7_become 33 = .ok (.getfield 24, 3) := by decide +kernel
theorem dX7_become_36 : decode cX7_become 36 = .ok (.iconst 0, 1) := by decide +kernel
theorem dX7_become_37 : decode cX7_become 37 = .ok (.aload_n 0, 1) := by decide +kernel
theorem dX7_become_38 : decode cX7_become 38 = .ok (.getfield 24, 3) := by decide +kernel
theorem dX7_become_41 : decode cX7_become 41 = .ok (.iconst 0, 1) := by decide +kernel
theorem dX7_become_42 : decode cX7_become 42 = .ok (.bipush 6, 2) := by decide +kernel
theorem dX7_become_44 : decode cX7_become 44 = .ok (.invokestatic 53, 3) := by decide +kernel
theorem dX7_become_47 : decode cX7_become 47 = .ok (.aload_n 1, 1) := by decide +kernel
theorem dX7_become_48 : decode cX7_become 48 = .ok (.getfield 28, 3) := by decide +kernel
theorem dX7_become_51 : decode cX7_become 51 = .ok (.iconst 0, 1) := by decide +kernel
theorem dX7_become_52 : decode cX7_become 52 = .ok (.aload_n 0, 1) := by decide +kernel
theorem dX7_become_53 : decode cX7_become 53 = .ok (.getfield 28, 3) := by decide +kernel
theorem dX7_become_56 : decode cX7_become 56 = .ok (.iconst 0, 1) := by decide +kernel
theorem dX7_become_57 : decode cX7_become 57 = .ok (.bipush 6, 2) := by decide +kernel
theorem dX7_become_59 : decode cX7_become 59 = .ok (.invokestatic 53, 3) := by decide +kernel
theorem dX7_become_62 : decode cX7_become 62 = .ok (.aload_n 1, 1) := by decide +kernel
theorem dX7_become_63 : decode cX7_become 63 = .ok (.getfield 31, 3) := by decide +kernel
theorem dX7_become_66 : decode cX7_become 66 = .ok (.iconst 0, 1) := by decide +kernel
theorem dX7_become_67 : decode cX7_become 67 = .ok (.aload_n 0, 1) := by decide +kernel
theorem dX7_become_68 : decode cX7_become 68 = .ok (.getfield 31, 3) := by decide +kernel
theorem dX7_become_71 : decode cX7_become 71 = .ok (.iconst 0, 1) := by decide +kernel
theorem dX7_become_72 : decode cX7_become 72 = .ok (.bipush 6, 2) := by decide +kernel
theorem dX7_become_74 : decode cX7_become 74 = .ok (.invokestatic 53, 3) := by decide +kernel
theorem dX7_become_77 : decode cX7_become 77 = .ok (.aload_n 0, 1) := by decide +kernel
theorem dX7_become_78 : decode cX7_become 78 = .ok (.aload_n 1, 1) := by decide +kernel
theorem dX7_become_79 : decode cX7_become 79 = .ok (.getfield 34, 3) := by decide +kernel
theorem dX7_become_82 : decode cX7_become 82 = .ok (.putfield 34, 3) := by decide +kernel
theorem dX7_become_85 : decode cX7_become 85 = .ok (.aload_n 1, 1) := by decide +kernel
theorem dX7_become_86 : decode cX7_become 86 = .ok (.getfield 37, 3) := by decide +kernel
theorem dX7_become_89 : decode cX7_become 89 = .ok (.iconst 0, 1) := by decide +kernel
theorem dX7_become_90 : decode cX7_become 90 = .ok (.aload_n 0, 1) := by decide +kernel
theorem dX7_become_91 : decode cX7_become 91 = .ok (.getfield 37, 3) := by decide +kernel
theorem dX7_become_94 : decode cX7_become 94 = .ok (.iconst 0, 1) := by decide +kernel
theorem dX7_become_95 : decode cX7_become 95 = .ok (.bipush 10, 2) := by decide +kernel
theorem dX7_become_97 : decode cX7_become 97 = .ok (.invokestatic 53, 3) := by decide +kernel
theorem dX7_become_100 : decode cX7_become 100 = .ok (.aload_n 1, 1) := by decide +kernel
theorem dX7_become_101 : decode cX7_become 101 = .ok (.getfield 40, 3) := by decide +kernel
theorem dX7_become_104 : decode cX7_become 104 = .ok (.iconst 0, 1) := by decide +kernel
theorem dX7_become_105 : decode cX7_become 105 = .ok (.aload_n 0, 1) := by decide +kernel
theorem dX7_become_106 : decode cX7_become 106 = .ok (.getfield 40, 3) := by decide +kernel
theorem dX7_become_109 : decode cX7_become 109 = .ok (.iconst 0, 1) := by decide +kernel
theorem dX7_become_110 : decode cX7_become 110 = .ok (.bipush 10, 2) := by decide +kernel
theorem dX7_become_112 : decode cX7_become 112 = .ok (.invokestatic 53, 3) := by decide +kernel
theorem dX7_become_115 : decode cX7_become 115 = .ok (.aload_n 0, 1) := by decide +kernel
theorem dX7_become_116 : decode cX7_become 116 = .ok (.getfield 46, 3) := by decide +kernel
theorem dX7_become_119 : decode cX7_become 119 = .ok (.aload_n 1, 1) := by decide +kernel
theorem dX7_become_120 : decode cX7_become 120 = .ok (.getfield 46, 3) := by decide +kernel
theorem dX7_become_123 : decode cX7_become 123 = .ok (.invokevirtual 59, 3) := by decide +kernel
theorem dX7_become_126 : decode cX7_become 126 = .ok (.return_, 1) := by decide +kernel
theorem dX7_addDrinker_0 : decode cX7_addDrinker 0 = .ok (.aload_n 0, 1) := by decide +kernel
theorem dX7_addDrinker_1 : decode cX7_addDrinker 1 = .ok (.getfield 24, 3) := by decide +kernel
theorem dX7_addDrinker_4 : decode cX7_addDrinker 4 = .ok (.aload_n 0, 1) := by decide +kernel
theorem dX7_addDrinker_5 : decode cX7_addDrinker 5 = .ok (.getfield 21, 3) := by decide +kernel
theorem dX7_addDrinker_8 : decode cX7_addDrinker 8 = .ok (.iload_n 1, 1) := by decide +kernel
theorem dX7_addDrinker_9 : decode cX7_addDrinker 9 = .ok (.iastore, 1) := by decide +kernel
theorem dX7_addDrinker_10 : decode cX7_addDrinker 10 = .ok (.aload_n 0, 1) := by decide +kernel
theorem dX7_addDrinker_11 : decode cX7_addDrinker 11 = .ok (.getfield 28, 3) := by decide +kernel
theorem dX7_addDrinker_14 : decode cX7_addDrinker 14 = .ok (.aload_n 0, 1) := by decide +kernel
theorem dX7_addDrinker_15 : decode cX7_addDrinker 15 = .ok (.getfield 21, 3) := by decide +kernel
theorem dX7_addDrinker_18 : decode cX7_addDrinker 18 = .ok (.iload_n 2, 1) := by decide +kernel
theorem dX7_addDrinker_19 : decode cX7_addDrinker 19 = .ok (.iastore, 1) := by decide +kernel
theorem dX7_addDrinker_20 : decode cX7_addDrinker 20 = .ok (.aload_n 0, 1) := by decide +kernel
theorem dX7_addDrinker_21 : decode cX7_addDrinker 21 = .ok (.getfield 31, 3) := by decide +kernel
theorem dX7_addDrinker_24 : decode cX7_addDrinker 24 = .ok (.aload_n 0, 1) := by decide +kernel
theorem dX7_addDrinker_25 : decode cX7_addDrinker 25 = .ok (.getfield 21, 3) := by decide +kernel
theorem dX7_addDrinker_28 : decode cX7_addDrinker 28 = .ok (.iload_n 3, 1) := by decide +kernel
theorem dX7_addDrinker_29 : decode cX7_addDrinker 29 = .ok (.iastore, 1) := by decide +kernel
theorem dX7_addDrinker_30 : decode cX7_addDrinker 30 = .ok (.aload_n 0, 1) := by decide +kernel
theorem dX7_addDrinker_31 : decode cX7_addDrinker 31 = .ok (.dup, 1) := by decide +kernel
theorem dX7_addDrinker_32 : decode cX7_addDrinker 32 = .ok (.getfield 21, 3) := by decide +kernel
theorem dX7_addDrinker_35 : decode cX7_addDrinker 35 = .ok (.iconst 1, 1) := by decide +kernel
theorem dX7_addDrinker_36 : decode cX7_addDrinker 36 = .ok (.iadd, 1) := by decide +kernel
theorem dX7_addDrinker_37 : decode cX7_addDrinker 37 = .ok (.putfield 21, 3) := by decide +kernel
theorem dX7_addDrinker_40 : decode cX7_addDrinker 40 = .ok (.return_, 1) := by decide +kernel
theorem dX7_addTie_0 : decode cX7_addTie 0 = .ok (.aload_n 0, 1) := by decide +kernel
theorem dX7_addTie_1 : decode cX7_addTie 1 = .ok (.getfield 37, 3) := by decide +kernel
theorem dX7_addTie_4 : decode cX7_addTie 4 = .ok (.aload_n 0, 1) := by decide +kernel
theorem dX7_addTie_5 : decode cX7_addTie 5 = .ok (.getfield 34, 3) := by decide +kernel
theorem dX7_addTie_8 : decode cX7_addTie 8 = .ok (.iload_n 1, 1) := by decide +kernel
theorem dX7_addTie_9 : decode cX7_addTie 9 = .ok (.iastore, 1) := by decide +kernel
theorem dX7_addTie_10 : decode cX7_addTie 10 = .ok (.aload_n 0, 1) := by decide +kernel
theorem dX7_addTie_11 : decode cX7_addTie 11 = .ok (.getfield 40, 3) := by decide +kernel
theorem dX7_addTie_14 : decode cX7_addTie 14 = .ok (.aload_n 0, 1) := by decide +kernel
theorem dX7_addTie_15 : decode cX7_addTie 15 = .ok (.getfield 34, 3) := by decide +kernel
theorem dX7_addTie_18 : decode cX7_addTie 18 = .ok (.iload_n 2, 1) := by decide +kernel
theorem dX7_addTie_19 : decode cX7_addTie 19 = .ok (.iastore, 1) := by decide +kernel
theorem dX7_addTie_20 : decode cX7_addTie 20 = .ok (.aload_n 0, 1) := by decide +kernel
theorem dX7_addTie_21 : decode cX7_addTie 21 = .ok (.dup, 1) := by decide +kernel
theorem dX7_addTie_22 : decode cX7_addTie 22 = .ok (.getfield 34, 3) := by decide +kernel
theorem dX7_addTie_25 : decode cX7_addTie 25 = .ok (.iconst 1, 1) := by decide +kernel
theorem dX7_addTie_26 : decode cX7_addTie 26 = .ok (.iadd, 1) := by decide +kernel
theorem dX7_addTie_27 : decode cX7_addTie 27 = .ok (.putfield 34, 3) := by decide +kernel
theorem dX7_addTie_30 : decode cX7_addTie 30 = .ok (.return_, 1) := by decide +kernel
theorem dX7_everybody_0 : decode cX7_everybody 0 = .ok (.iconst 1, 1) := by decide +kernel
theorem dX7_everybody_1 : decode cX7_everybody 1 = .ok (.aload_n 0, 1) := by decide +kernel
theorem dX7_everybody_2 : decode cX7_everybody 2 = .ok (.getfield 21, 3) := by decide +kernel
theorem dX7_everybody_5 : decode cX7_everybody 5 = .ok (.ishl, 1) := by decide +kernel
theorem dX7_everybody_6 : decode cX7_everybody 6 = .ok (.iconst 1, 1) := by decide +kernel
theorem dX7_everybody_7 : decode cX7_everybody 7 = .ok (.isub, 1) := by decide +kernel
theorem dX7_everybody_8 : decode cX7_everybody 8 = .ok (.ireturn, 1) := by decide +kernel
theorem dX7_hearersOf_0 : decode cX7_hearersOf 0 = .ok (.iconst 0, 1) := by decide +kernel
theorem dX7_hearersOf_1 : decode cX7_hearersOf 1 = .ok (.istore_n 2, 1) := by decide +kernel
theorem dX7_hearersOf_2 : decode cX7_hearersOf 2 = .ok (.iconst 0, 1) := by decide +kernel
theorem dX7_hearersOf_3 : decode cX7_hearersOf 3 = .ok (.istore_n 3, 1) := by decide +kernel
theorem dX7_hearersOf_4 : decode cX7_hearersOf 4 = .ok (.iload_n 3, 1) := by decide +kernel
theorem dX7_hearersOf_5 : decode cX7_hearersOf 5 = .ok (.aload_n 0, 1) := by decide +kernel
theorem dX7_hearersOf_6 : decode cX7_hearersOf 6 = .ok (.getfield 34, 3) := by decide +kernel
theorem dX7_hearersOf_9 : decode cX7_hearersOf 9 = .ok (.if_icmp .ge 30, 3) := by decide +kernel
theorem dX7_hearersOf_12 : decode cX7_hearersOf 12 = .ok (.aload_n 0, 1) := by decide +kernel
theorem dX7_hearersOf_13 : decode cX7_hearersOf 13 = .ok (.getfield 37, 3) := by decide +kernel
theorem dX7_hearersOf_16 : decode cX7_hearersOf 16 = .ok (.iload_n 3, 1) := by decide +kernel
theorem dX7_hearersOf_17 : decode cX7_hearersOf 17 = .ok (.iaload, 1) := by decide +kernel
theorem dX7_hearersOf_18 : decode cX7_hearersOf 18 = .ok (.iload_n 1, 1) := by decide +kernel
theorem dX7_hearersOf_19 : decode cX7_hearersOf 19 = .ok (.if_icmp .ne 14, 3) := by decide +kernel
theorem dX7_hearersOf_22 : decode cX7_hearersOf 22 = .ok (.iload_n 2, 1) := by decide +kernel
theorem dX7_hearersOf_23 : decode cX7_hearersOf 23 = .ok (.iconst 1, 1) := by decide +kernel
theorem dX7_hearersOf_24 : decode cX7_hearersOf 24 = .ok (.aload_n 0, 1) := by decide +kernel
theorem dX7_hearersOf_25 : decode cX7_hearersOf 25 = .ok (.getfield 40, 3) := by decide +kernel
theorem dX7_hearersOf_28 : decode cX7_hearersOf 28 = .ok (.iload_n 3, 1) := by decide +kernel
theorem dX7_hearersOf_29 : decode cX7_hearersOf 29 = .ok (.iaload, 1) := by decide +kernel
theorem dX7_hearersOf_30 : decode cX7_hearersOf 30 = .ok (.ishl, 1) := by decide +kernel
theorem dX7_hearersOf_31 : decode cX7_hearersOf 31 = .ok (.ior, 1) := by decide +kernel
theorem dX7_hearersOf_32 : decode cX7_hearersOf 32 = .ok (.istore_n 2, 1) := by decide +kernel
theorem dX7_hearersOf_33 : decode cX7_hearersOf 33 = .ok (.iinc 3 1, 3) := by decide +kernel
theorem dX7_hearersOf_36 : decode cX7_hearersOf 36 = .ok (.goto (-32), 3) := by decide +kernel
theorem dX7_hearersOf_39 : decode cX7_hearersOf 39 = .ok (.iload_n 2, 1) := by decide +kernel
theorem dX7_hearersOf_40 : decode cX7_hearersOf 40 = .ok (.ireturn, 1) := by decide +kernel
theorem dX7_isOff_0 : decode cX7_isOff 0 = .ok (.iload_n 1, 1) := by decide +kernel
theorem dX7_isOff_1 : decode cX7_isOff 1 = .ok (.aload_n 0, 1) := by decide +kernel
theorem dX7_isOff_2 : decode cX7_isOff 2 = .ok (.getfield 15, 3) := by decide +kernel
theorem dX7_isOff_5 : decode cX7_isOff 5 = .ok (.if_icmp .le 7, 3) := by decide +kernel
theorem dX7_isOff_8 : decode cX7_isOff 8 = .ok (.iconst 1, 1) := by decide +kernel
theorem dX7_isOff_9 : decode cX7_isOff 9 = .ok (.goto 4, 3) := by decide +kernel
theorem dX7_isOff_12 : decode cX7_isOff 12 = .ok (.iconst 0, 1) := by decide +kernel
theorem dX7_isOff_13 : decode cX7_isOff 13 = .ok (.ireturn, 1) := by decide +kernel
theorem dX7_strong_0 : decode cX7_strong 0 = .ok (.aload_n 0, 1) := by decide +kernel
theorem dX7_strong_1 : decode cX7_strong 1 = .ok (.iload_n 2, 1) := by decide +kernel
theorem dX7_strong_2 : decode cX7_strong 2 = .ok (.invokevirtual 63, 3) := by decide +kernel
