theorem dX0_init_0 : decode cX0_init 0 = .ok (.aload_n 0, 1) := by decide +kernel
theorem dX0_init_1 : decode cX0_init 1 = .ok (.iload_n 1, 1) := by decide +kernel
theorem dX0_init_2 : decode cX0_init 2 = .ok (.iload_n 2, 1) := by decide +kernel
theorem dX0_init_3 : decode cX0_init 3 = .ok (.iload_n 3, 1) := by decide +kernel
theorem dX0_init_4 : decode cX0_init 4 = .ok (.iload 4, 2) := by decide +kernel
theorem dX0_init_6 : decode cX0_init 6 = .ok (.invokespecial 1, 3) := by decide +kernel
theorem dX0_init_9 : decode cX0_init 9 = .ok (.return_, 1) := by decide +kernel
theorem dX0_missed_0 : decode cX0_missed 0 = .ok (.iconst 0, 1) := by decide +kernel
theorem dX0_missed_1 : decode cX0_missed 1 = .ok (.ireturn, 1) := by decide +kernel
theorem dX0_offends_0 : decode cX0_offends 0 = .ok (.iconst 1, 1) := by decide +kernel
theorem dX0_offends_1 : decode cX0_offends 1 = .ok (.ireturn, 1) := by decide +kernel
theorem dX1_init_0 : decode cX1_init 0 = .ok (.aload_n 0, 1) := by decide +kernel
theorem dX1_init_1 : decode cX1_init 1 = .ok (.iload_n 1, 1) := by decide +kernel
theorem dX1_init_2 : decode cX1_init 2 = .ok (.iload_n 2, 1) := by decide +kernel
theorem dX1_init_3 : decode cX1_init 3 = .ok (.iload_n 3, 1) := by decide +kernel
theorem dX1_init_4 : decode cX1_init 4 = .ok (.iload 4, 2) := by decide +kernel
theorem dX1_init_6 : decode cX1_init 6 = .ok (.invokespecial 1, 3) := by decide +kernel
theorem dX1_init_9 : decode cX1_init 9 = .ok (.return_, 1) := by decide +kernel
theorem dX1_stands_0 : decode cX1_stands 0 = .ok (.iload_n 1, 1) := by decide +kernel
theorem dX1_stands_1 : decode cX1_stands 1 = .ok (.iconst 4, 1) := by decide +kernel
theorem dX1_stands_2 : decode cX1_stands 2 = .ok (.if_icmp .ge 7, 3) := by decide +kernel
theorem dX1_stands_5 : decode cX1_stands 5 = .ok (.iconst 1, 1) := by decide +kernel
theorem dX1_stands_6 : decode cX1_stands 6 = .ok (.goto 4, 3) := by decide +kernel
theorem dX1_stands_9 : decode cX1_stands 9 = .ok (.iconst 0, 1) := by decide +kernel
theorem dX1_stands_10 : decode cX1_stands 10 = .ok (.ireturn, 1) := by decide +kernel
theorem dX1_missed_0 : decode cX1_missed 0 = .ok (.aload_n 0, 1) := by decide +kernel
theorem dX1_missed_1 : decode cX1_missed 1 = .ok (.invokespecial 7, 3) := by decide +kernel
theorem dX1_missed_4 : decode cX1_missed 4 = .ok (.iconst 1, 1) := by decide +kernel
theorem dX1_missed_5 : decode cX1_missed 5 = .ok (.iadd, 1) := by decide +kernel
theorem dX1_missed_6 : decode cX1_missed 6 = .ok (.ireturn, 1) := by decide +kernel
theorem dX1_offends_0 : decode cX1_offends 0 = .ok (.iload_n 1, 1) := by decide +kernel
theorem dX1_offends_1 : decode cX1_offends 1 = .ok (.aload_n 0, 1) := by decide +kernel
theorem dX1_offends_2 : decode cX1_offends 2 = .ok (.getfield 11, 3) := by decide +kernel
theorem dX1_offends_5 : decode cX1_offends 5 = .ok (.iconst 4, 1) := by decide +kernel
theorem dX1_offends_6 : decode cX1_offends 6 = .ok (.irem, 1) := by decide +kernel
theorem dX1_offends_7 : decode cX1_offends 7 = .ok (.if_icmp .ne 7, 3) := by decide +kernel
theorem dX1_offends_10 : decode cX1_offends 10 = .ok (.iconst 1, 1) := by decide +kernel
theorem dX1_offends_11 : decode cX1_offends 11 = .ok (.goto 8, 3) := by decide +kernel
theorem dX1_offends_14 : decode cX1_offends 14 = .ok (.aload_n 0, 1) := by decide +kernel
theorem dX1_offends_15 : decode cX1_offends 15 = .ok (.iload_n 1, 1) := by decide +kernel
theorem dX1_offends_16 : decode cX1_offends 16 = .ok (.invokespecial 17, 3) := by decide +kernel
theorem dX1_offends_19 : decode cX1_offends 19 = .ok (.ireturn, 1) := by decide +kernel
theorem dX2_init_0 : decode cX2_init 0 = .ok (.aload_n 0, 1) := by decide +kernel
theorem dX2_init_1 : decode cX2_init 1 = .ok (.invokespecial 3, 3) := by decide +kernel
theorem dX2_init_4 : decode cX2_init 4 = .ok (.aload_n 0, 1) := by decide +kernel
theorem dX2_init_5 : decode cX2_init 5 = .ok (.bipush 6, 2) := by decide +kernel
theorem dX2_init_7 : decode cX2_init 7 = .ok (.newarray .int, 2) := by decide +kernel
theorem dX2_init_9 : decode cX2_init 9 = .ok (.putfield 9, 3) := by decide +kernel
theorem dX2_init_12 : decode cX2_init 12 = .ok (.aload_n 0, 1) := by decide +kernel
theorem dX2_init_13 : decode cX2_init 13 = .ok (.iconst 4, 1) := by decide +kernel
theorem dX2_init_14 : decode cX2_init 14 = .ok (.newarray .int, 2) := by decide +kernel
theorem dX2_init_16 : decode cX2_init 16 = .ok (.putfield 15, 3) := by decide +kernel
theorem dX2_init_19 : decode cX2_init 19 = .ok (.aload_n 0, 1) := by decide +kernel
theorem dX2_init_20 : decode cX2_init 20 = .ok (.bipush 7, 2) := by decide +kernel
theorem dX2_init_22 : decode cX2_init 22 = .ok (.newarray .int, 2) := by decide +kernel
theorem dX2_init_24 : decode cX2_init 24 = .ok (.putfield 18, 3) := by decide +kernel
theorem dX2_init_27 : decode cX2_init 27 = .ok (.aload_n 0, 1) := by decide +kernel
theorem dX2_init_28 : decode cX2_init 28 = .ok (.iconst 5, 1) := by decide +kernel
theorem dX2_init_29 : decode cX2_init 29 = .ok (.anewarray 21, 3) := by decide +kernel
theorem dX2_init_32 : decode cX2_init 32 = .ok (.putfield 23, 3) := by decide +kernel
theorem dX2_init_35 : decode cX2_init 35 = .ok (.aload_n 0, 1) := by decide +kernel
theorem dX2_init_36 : decode cX2_init 36 = .ok (.iconst 0, 1) := by decide +kernel
theorem dX2_init_37 : decode cX2_init 37 = .ok (.putfield 27, 3) := by decide +kernel
theorem dX2_init_40 : decode cX2_init 40 = .ok (.aload_n 0, 1) := by decide +kernel
theorem dX2_init_41 : decode cX2_init 41 = .ok (.iconst 0, 1) := by decide +kernel
theorem dX2_init_42 : decode cX2_init 42 = .ok (.putfield 31, 3) := by decide +kernel
theorem dX2_init_45 : decode cX2_init 45 = .ok (.aload_n 0, 1) := by decide +kernel
theorem dX2_init_46 : decode cX2_init 46 = .ok (.getfield 9, 3) := by decide +kernel
theorem dX2_init_49 : decode cX2_init 49 = .ok (.bipush 15, 2) := by decide +kernel
theorem dX2_init_51 : decode cX2_init 51 = .ok (.invokestatic 34, 3) := by decide +kernel
theorem dX2_init_54 : decode cX2_init 54 = .ok (.iconst 0, 1) := by decide +kernel
theorem dX2_init_55 : decode cX2_init 55 = .ok (.istore_n 1, 1) := by decide +kernel
theorem dX2_init_56 : decode cX2_init 56 = .ok (.iload_n 1, 1) := by decide +kernel
theorem dX2_init_57 : decode cX2_init 57 = .ok (.iconst 4, 1) := by decide +kernel
theorem dX2_init_58 : decode cX2_init 58 = .ok (.if_icmp .ge 16, 3) := by decide +kernel
theorem dX2_init_61 : decode cX2_init 61 = .ok (.aload_n 0, 1) := by decide +kernel
theorem dX2_init_62 : decode cX2_init 62 = .ok (.getfield 15, 3) := by decide +kernel
theorem dX2_init_65 : decode cX2_init 65 = .ok (.iload_n 1, 1) := by decide +kernel
theorem dX2_init_66 : decode cX2_init 66 = .ok (.iload_n 1, 1) := by decide +kernel
theorem dX2_init_67 : decode cX2_init 67 = .ok (.iastore, 1) := by decide +kernel
theorem dX2_init_68 : decode cX2_init 68 = .ok (.iinc 1 1, 3) := by decide +kernel
theorem dX2_init_71 : decode cX2_init 71 = .ok (.goto (-15), 3) := by decide +kernel
theorem dX2_init_74 : decode cX2_init 74 = .ok (.iconst 0, 1) := by decide +kernel
theorem dX2_init_75 : decode cX2_init 75 = .ok (.istore_n 1, 1) := by decide +kernel
theorem dX2_init_76 : decode cX2_init 76 = .ok (.iload_n 1, 1) := by decide +kernel
theorem dX2_init_77 : decode cX2_init 77 = .ok (.iconst 5, 1) := by decide +kernel
theorem dX2_init_78 : decode cX2_init 78 = .ok (.if_icmp .ge 26, 3) := by decide +kernel
theorem dX2_init_81 : decode cX2_init 81 = .ok (.aload_n 0, 1) := by decide +kernel
theorem dX2_init_82 : decode cX2_init 82 = .ok (.getfield 23, 3) := by decide +kernel
theorem dX2_init_85 : decode cX2_init 85 = .ok (.iload_n 1, 1) := by decide +kernel
theorem dX2_init_86 : decode cX2_init 86 = .ok (.new 21, 3) := by decide +kernel
theorem dX2_init_89 : decode cX2_init 89 = .ok (.dup, 1) := by decide +kernel
theorem dX2_init_90 : decode cX2_init 90 = .ok (.iconst 0, 1) := by decide +kernel
theorem dX2_init_91 : decode cX2_init 91 = .ok (.iload_n 1, 1) := by decide +kernel
theorem dX2_init_92 : decode cX2_init 92 = .ok (.iconst 0, 1) := by decide +kernel
theorem dX2_init_93 : decode cX2_init 93 = .ok (.iconst 0, 1) := by decide +kernel
theorem dX2_init_94 : decode cX2_init 94 = .ok (.invokespecial 40, 3) := by decide +kernel
theorem dX2_init_97 : decode cX2_init 97 = .ok (.aastore, 1) := by decide +kernel
theorem dX2_init_98 : decode cX2_init 98 = .ok (.iinc 1 1, 3) := by decide +kernel
theorem dX2_init_101 : decode cX2_init 101 = .ok (.goto (-25), 3) := by decide +kernel
theorem dX2_init_104 : decode cX2_init 104 = .ok (.return_, 1) := by decide +kernel
theorem dX2_has_0 : decode cX2_has 0 = .ok (.iload_n 1, 1) := by decide +kernel
theorem dX2_has_1 : decode cX2_has 1 = .ok (.aload_n 0, 1) := by decide +kernel
theorem dX2_has_2 : decode cX2_has 2 = .ok (.getfield 27, 3) := by decide +kernel
theorem dX2_has_5 : decode cX2_has 5 = .ok (.invokestatic 43, 3) := by decide +kernel
theorem dX2_has_8 : decode cX2_has 8 = .ok (.ireturn, 1) := by decide +kernel
theorem dX2_isTaken_0 : decode cX2_isTaken 0 = .ok (.iconst 0, 1) := by decide +kernel
theorem dX2_isTaken_1 : decode cX2_isTaken 1 = .ok (.istore_n 2, 1) := by decide +kernel
theorem dX2_isTaken_2 : decode cX2_isTaken 2 = .ok (.iload_n 2, 1) := by decide +kernel
theorem dX2_isTaken_3 : decode cX2_isTaken 3 = .ok (.aload_n 0, 1) := by decide +kernel
theorem dX2_isTaken_4 : decode cX2_isTaken 4 = .ok (.getfield 27, 3) := by decide +kernel
theorem dX2_isTaken_7 : decode cX2_isTaken 7 = .ok (.if_icmp .ge 24, 3) := by decide +kernel
theorem dX2_isTaken_10 : decode cX2_isTaken 10 = .ok (.aload_n 0, 1) := by decide +kernel
theorem dX2_isTaken_11 : decode cX2_isTaken 11 = .ok (.getfield 23, 3) := by decide +kernel
theorem dX2_isTaken_14 : decode cX2_isTaken 14 = .ok (.iload_n 2, 1) := by decide +kernel
theorem dX2_isTaken_15 : decode cX2_isTaken 15 = .ok (.aaload, 1) := by decide +kernel
theorem dX2_isTaken_16 : decode cX2_isTaken 16 = .ok (.getfield 47, 3) := by decide +kernel
theorem dX2_isTaken_19 : decode cX2_isTaken 19 = .ok (.iload_n 1, 1) := by decide +kernel
theorem dX2_isTaken_20 : decode cX2_isTaken 20 = .ok (.if_icmp .ne 5, 3) := by decide +kernel
theorem dX2_isTaken_23 : decode cX2_isTaken 23 = .ok (.iconst 1, 1) := by decide +kernel
theorem dX2_isTaken_24 : decode cX2_isTaken 24 = .ok (.ireturn, 1) := by decide +kernel
theorem dX2_isTaken_25 : decode cX2_isTaken 25 = .ok (.iinc 2 1, 3) := by decide +kernel
theorem dX2_isTaken_28 : decode cX2_isTaken 28 = .ok (.goto (-26), 3) := by decide +kernel
theorem dX2_isTaken_31 : decode cX2_isTaken 31 = .ok (.iconst 0, 1) := by decide +kernel
theorem dX2_isTaken_32 : decode cX2_isTaken 32 = .ok (.ireturn, 1) := by decide +kernel
theorem dX2_howManyArePut_0 : decode cX2_howManyArePut 0 = .ok (.iconst 0, 1) := by decide +kernel
theorem dX2_howManyArePut_1 : decode cX2_howManyArePut 1 = .ok (.istore_n 1, 1) := by decide +kernel
theorem dX2_howManyArePut_2 : decode cX2_howManyArePut 2 = .ok (.iconst 0, 1) := by decide +kernel
theorem dX2_howManyArePut_3 : decode cX2_howManyArePut 3 = .ok (.istore_n 2, 1) := by decide +kernel
theorem dX2_howManyArePut_4 : decode cX2_howManyArePut 4 = .ok (.iload_n 2, 1) := by decide +kernel
theorem dX2_howManyArePut_5 : decode cX2_howManyArePut 5 = .ok (.aload_n 0, 1) := by decide +kernel
theorem dX2_howManyArePut_6 : decode cX2_howManyArePut 6 = .ok (.getfield 27, 3) := by decide +kernel
theorem dX2_howManyArePut_9 : decode cX2_howManyArePut 9 = .ok (.if_icmp .ge 25, 3) := by decide +kernel
theorem dX2_howManyArePut_12 : decode cX2_howManyArePut 12 = .ok (.aload_n 0, 1) := by decide +kernel
theorem dX2_howManyArePut_13 : decode cX2_howManyArePut 13 = .ok (.getfield 23, 3) := by decide +kernel
theorem dX2_howManyArePut_16 : decode cX2_howManyArePut 16 = .ok (.iload_n 2, 1) := by decide +kernel
theorem dX2_howManyArePut_17 : decode cX2_howManyArePut 17 = .ok (.aaload, 1) := by decide +kernel
theorem dX2_howManyArePut_18 : decode cX2_howManyArePut 18 = .ok (.getfield 47, 3) := by decide +kernel
theorem dX2_howManyArePut_21 : decode cX2_howManyArePut 21 = .ok (.iconst (-1), 1) := by decide +kernel
theorem dX2_howManyArePut_22 : decode cX2_howManyArePut 22 = .ok (.if_icmp .eq 6, 3) := by decide +kernel
theorem dX2_howManyArePut_25 : decode cX2_howManyArePut 25 = .ok (.iinc 1 1, 3) := by decide +kernel
theorem dX2_howManyArePut_28 : decode cX2_howManyArePut 28 = .ok (.iinc 2 1, 3) := by decide +kernel
theorem dX2_howManyArePut_31 : decode cX2_howManyArePut 31 = .ok (.goto (-27), 3) := by decide +kernel
theorem dX2_howManyArePut_34 : decode cX2_howManyArePut 34 = .ok (.iload_n 1, 1) := by decide +kernel
theorem dX2_howManyArePut_35 : decode cX2_howManyArePut 35 = .ok (.ireturn, 1) := by decide +kernel
theorem dX2_take_0 : decode cX2_take 0 = .ok (.aload_n 1, 1) := by decide +kernel
theorem dX2_take_1 : decode cX2_take 1 = .ok (.getfield 9, 3) := by decide +kernel
theorem dX2_take_4 : decode cX2_take 4 = .ok (.iconst 0, 1) := by decide +kernel
theorem dX2_take_5 : decode cX2_take 5 = .ok (.aload_n 0, 1) := by decide +kernel
theorem dX2_take_6 : decode cX2_take 6 = .ok (.getfield 9, 3) := by decide +kernel
theorem dX2_take_9 : decode cX2_take 9 = .ok (.iconst 0, 1) := by decide +kernel
theorem dX2_take_10 : decode cX2_take 10 = .ok (.bipush 6, 2) := by decide +kernel
theorem dX2_take_12 : decode cX2_take 12 = .ok (.invokestatic 50, 3) := by decide +kernel
theorem dX2_take_15 : decode cX2_take 15 = .ok (.aload_n 1, 1) := by decide +kernel
theorem dX2_take_16 : decode cX2_take 16 = .ok (.getfield 15, 3) := by decide +kernel
theorem dX2_take_19 : decode cX2_take 19 = .ok (.iconst 0, 1) := by decide +kernel
theorem dX2_take_20 : decode cX2_take 20 = .ok (.aload_n 0, 1) := by decide +kernel
theorem dX2_take_21 : decode cX2_take 21 = .ok (.getfield 15, 3) := by decide +kernel
theorem dX2_take_24 : decode cX2_take 24 = .ok (.iconst 0, 1) := by decide +kernel
theorem dX2_take_25 : decode cX2_take 25 = .ok (.iconst 4, 1) := by decide +kernel
theorem dX2_take_26 : decode cX2_take 26 = .ok (.invokestatic 50, 3) := by decide +kernel
theorem dX2_take_29 : decode cX2_take 29 = .ok (.aload_n 1, 1) := by decide +kernel
theorem dX2_take_30 : decode cX2_take 30 = .ok (.getfield 18, 3) := by decide +kernel
theorem dX2_take_33 : decode cX2_take 33 = .ok (.iconst 0, 1) := by decide +kernel
theorem dX2_take_34 : decode cX2_take 34 = .ok (.aload_n 0, 1) := by decide +kernel
theorem dX2_take_35 : decode cX2_take 35 = .ok (.getfield 18, 3) := by decide +kernel
theorem dX2_take_38 : decode cX2_take 38 = .ok (.iconst 0, 1) := by decide +kernel
theorem dX2_take_39 : decode cX2_take 39 = .ok (.bipush 7, 2) := by decide +kernel
theorem dX2_take_41 : decode cX2_take 41 = .ok (.invokestatic 50, 3) := by decide +kernel
theorem dX2_take_44 : decode cX2_take 44 = .ok (.aload_n 0, 1) := by decide +kernel
theorem dX2_take_45 : decode cX2_take 45 = .ok (.aload_n 1, 1) := by decide +kernel
theorem dX2_take_46 : decode cX2_take 46 = .ok (.getfield 27, 3) := by decide +kernel
theorem dX2_take_49 : decode cX2_take 49 = .ok (.putfield 27, 3) := by decide +kernel
theorem dX2_take_52 : decode cX2_take 52 = .ok (.aload_n 0, 1) := by decide +kernel
theorem dX2_take_53 : decode cX2_take 53 = .ok (.aload_n 1, 1) := by decide +kernel
theorem dX2_take_54 : decode cX2_take 54 = .ok (.getfield 31, 3) := by decide +kernel
theorem dX2_take_57 : decode cX2_take 57 = .ok (.putfield 31, 3) := by decide +kernel
theorem dX2_take_60 : decode cX2_take 60 = .ok (.iconst 0, 1) := by decide +kernel
theorem dX2_take_61 : decode cX2_take 61 = .ok (.istore_n 2, 1) := by decide +kernel
theorem dX2_take_62 : decode cX2_take 62 = .ok (.iload_n 2, 1) := by decide +kernel
theorem dX2_take_63 : decode cX2_take 63 = .ok (.aload_n 0, 1) := by decide +kernel
theorem dX2_take_64 : decode cX2_take 64 = .ok (.getfield 27, 3) := by decide +kernel
theorem dX2_take_67 : decode cX2_take 67 = .ok (.if_icmp .ge 24, 3) := by decide +kernel
theorem dX2_take_70 : decode cX2_take 70 = .ok (.aload_n 0, 1) := by decide +kernel
theorem dX2_take_71 : decode cX2_take 71 = .ok (.getfield 23, 3) := by decide +kernel
theorem dX2_take_74 : decode cX2_take 74 = .ok (.iload_n 2, 1) := by decide +kernel
theorem dX2_take_75 : decode cX2_take 75 = .ok (.aaload, 1) := by decide +kernel
theorem dX2_take_76 : decode cX2_take 76 = .ok (.aload_n 1, 1) := by decide +kernel
theorem dX2_take_77 : decode cX2_take 77 = .ok (.getfield 23, 3) := by decide +kernel
theorem dX2_take_80 : decode cX2_take 80 = .ok (.iload_n 2, 1) := by decide +kernel
theorem dX2_take_81 : decode cX2_take 81 = .ok (.aaload, 1) := by decide +kernel
theorem dX2_take_82 : decode cX2_take 82 = .ok (.invokevirtual 56, 3) := by decide +kernel
theorem dX2_take_85 : decode cX2_take 85 = .ok (.iinc 2 1, 3) := by decide +kernel
theorem dX2_take_88 : decode cX2_take 88 = .ok (.goto (-26), 3) := by decide +kernel
theorem dX2_take_91 : decode cX2_take 91 = .ok (.return_, 1) := by decide +kernel
theorem dX3_init_0 : decode cX3_init 0 = .ok (.aload_n 0, 1) := by decide +kernel
theorem dX3_init_1 : decode cX3_init 1 = .ok (.iload_n 1, 1) := by decide +kernel
theorem dX3_init_2 : decode cX3_init 2 = .ok (.iload_n 2, 1) := by decide +kernel
theorem dX3_init_3 : decode cX3_init 3 = .ok (.iload_n 3, 1) := by decide +kernel
theorem dX3_init_4 : decode cX3_init 4 = .ok (.iload 4, 2) := by decide +kernel
theorem dX3_init_6 : decode cX3_init 6 = .ok (.invokespecial 1, 3) := by decide +kernel
theorem dX3_init_9 : decode cX3_init 9 = .ok (.return_, 1) := by decide +kernel
theorem dX3_stands_0 : decode cX3_stands 0 = .ok (.iload_n 1, 1) := by decide +kernel
theorem dX3_stands_1 : decode cX3_stands 1 = .ok (.iconst 2, 1) := by decide +kernel
theorem dX3_stands_2 : decode cX3_stands 2 = .ok (.irem, 1) := by decide +kernel
theorem dX3_stands_3 : decode cX3_stands 3 = .ok (.ifCond .ne 7, 3) := by decide +kernel
theorem dX3_stands_6 : decode cX3_stands 6 = .ok (.iconst 1, 1) := by decide +kernel
theorem dX3_stands_7 : decode cX3_stands 7 = .ok (.goto 4, 3) := by decide +kernel
theorem dX3_stands_10 : decode cX3_stands 10 = .ok (.iconst 0, 1) := by decide +kernel
theorem dX3_stands_11 : decode cX3_stands 11 = .ok (.ireturn, 1) := by decide +kernel
theorem dX5_init_0 : decode cX5_init 0 = .ok (.aload_n 0, 1) := by decide +kernel
theorem dX5_init_1 : decode cX5_init 1 = .ok (.iload_n 1, 1) := by decide +kernel
theorem dX5_init_2 : decode cX5_init 2 = .ok (.iload_n 2, 1) := by decide +kernel
theorem dX5_init_3 : decode cX5_init 3 = .ok (.iload_n 3, 1) := by decide +kernel
theorem dX5_init_4 : decode cX5_init 4 = .ok (.iload 4, 2) := by decide +kernel
theorem dX5_init_6 : decode cX5_init 6 = .ok (.invokespecial 1, 3) := by decide +kernel
theorem dX5_init_9 : decode cX5_init 9 = .ok (.return_, 1) := by decide +kernel
theorem dX5_stands_0 : decode cX5_stands 0 = .ok (.iload_n 1, 1) := by decide +kernel
theorem dX5_stands_1 : decode cX5_stands 1 = .ok (.ifCond .eq 15, 3) := by decide +kernel
theorem dX5_stands_4 : decode cX5_stands 4 = .ok (.aload_n 0, 1) := by decide +kernel
theorem dX5_stands_5 : decode cX5_stands 5 = .ok (.iload_n 1, 1) := by decide +kernel
theorem dX5_stands_6 : decode cX5_stands 6 = .ok (.invokespecial 7, 3) := by decide +kernel
theorem dX5_stands_9 : decode cX5_stands 9 = .ok (.ifCond .eq 7, 3) := by decide +kernel
theorem dX5_stands_12 : decode cX5_stands 12 = .ok (.iconst 1, 1) := by decide +kernel
theorem dX5_stands_13 : decode cX5_stands 13 = .ok (.goto 4, 3) := by decide +kernel
theorem dX5_stands_16 : decode cX5_stands 16 = .ok (.iconst 0, 1) := by decide +kernel
theorem dX5_stands_17 : decode cX5_stands 17 = .ok (.ireturn, 1) := by decide +kernel
theorem dX5_missed_0 : decode cX5_missed 0 = .ok (.iconst 2, 1) := by decide +kernel
theorem dX5_missed_1 : decode cX5_missed 1 = .ok (.aload_n 0, 1) := by decide +kernel
theorem dX5_missed_2 : decode cX5_missed 2 = .ok (.invokespecial 11, 3) := by decide +kernel
theorem dX5_missed_5 : decode cX5_missed 5 = .ok (.imul, 1) := by decide +kernel
theorem dX5_missed_6 : decode cX5_missed 6 = .ok (.ireturn, 1) := by decide +kernel
theorem dX5_offends_0 : decode cX5_offends 0 = .ok (.iload_n 1, 1) := by decide +kernel
theorem dX5_offends_1 : decode cX5_offends 1 = .ok (.aload_n 0, 1) := by decide +kernel
theorem dX5_offends_2 : decode cX5_offends 2 = .ok (.getfield 15, 3) := by decide +kernel
theorem dX5_offends_5 : decode cX5_offends 5 = .ok (.if_icmp .ge 7, 3) := by decide +kernel
theorem dX5_offends_8 : decode cX5_offends 8 = .ok (.iconst 1, 1) := by decide +kernel
theorem dX5_offends_9 : decode cX5_offends 9 = .ok (.goto 8, 3) := by decide +kernel
theorem dX5_offends_12 : decode cX5_offends 12 = .ok (.aload_n 0, 1) := by decide +kernel
theorem dX5_offends_13 : decode cX5_offends 13 = .ok (.iload_n 1, 1) := by decide +kernel
theorem dX5_offends_14 : decode cX5_offends 14 = .ok (.invokespecial 21, 3) := by decide +kernel
theorem dX5_offends_17 : decode cX5_offends 17 = .ok (.ireturn, 1) := by decide +kernel
theorem dX7_init_0 : decode cX7_init 0 = .ok (.aload_n 0, 1) := by decide +kernel
theorem dX7_init_1 : decode cX7_init 1 = .ok (.invokespecial 3, 3) := by decide +kernel
theorem dX7_init_4 : decode cX7_init 4 = .ok (.aload_n 0, 1) := by decide +kernel
theorem dX7_init_5 : decode cX7_init 5 = .ok (.iconst (-1), 1) := by decide +kernel
theorem dX7_init_6 : decode cX7_init 6 = .ok (.putfield 9, 3) := by decide +kernel
theorem dX7_init_9 : decode cX7_init 9 = .ok (.aload_n 0, 1) := by decide +kernel
theorem dX7_init_10 : decode cX7_init 10 = .ok (.iconst 0, 1) := by decide +kernel
theorem dX7_init_11 : decode cX7_init 11 = .ok (.putfield 15, 3) := by decide +kernel
theorem dX7_init_14 : decode cX7_init 14 = .ok (.aload_n 0, 1) := by decide +kernel
theorem dX7_init_15 : decode cX7_init 15 = .ok (.bipush 40, 2) := by decide +kernel
theorem dX7_init_17 : decode cX7_init 17 = .ok (.newarray .int, 2) := by decide +kernel
theorem dX7_init_19 : decode cX7_init 19 = .ok (.putfield 18, 3) := by decide +kernel
theorem dX7_init_22 : decode cX7_init 22 = .ok (.return_, 1) := by decide +kernel
theorem dX7_become_0 : decode cX7_become 0 = .ok (.aload_n 0, 1) := by decide +kernel
theorem dX7_become_1 : decode cX7_become 1 = .ok (.iload_n 1, 1) := by decide +kernel
theorem dX7_become_2 : decode cX7_become 2 = .ok (.putfield 9, 3) := by decide +kernel
theorem dX7_become_5 : decode cX7_become 5 = .ok (.aload_n 0, 1) := by decide +kernel
theorem dX7_become_6 : decode cX7_become 6 = .ok (.iload_n 2, 1) := by decide +kernel
theorem dX7_become_7 : decode cX7_become 7 = .ok (.putfield 15, 3) := by decide +kernel
theorem dX7_become_10 : decode cX7_become 10 = .ok (.aload_n 0, 1) := by decide +kernel
theorem dX7_become_11 : decode cX7_become 11 = .ok (.getfield 18, 3) := by decide +kernel
theorem dX7_become_14 : decode cX7_become 14 = .ok (.iconst 0, 1) := by decide +kernel
theorem dX7_become_15 : decode cX7_become 15 = .ok (.invokestatic 22, 3) := by decide +kernel
theorem dX7_become_18 : decode cX7_become 18 = .ok (.return_, 1) := by decide +kernel
theorem dX7_narrowed_0 : decode cX7_narrowed 0 = .ok (.aload_n 0, 1) := by decide +kernel
theorem dX7_narrowed_1 : decode cX7_narrowed 1 = .ok (.getfield 9, 3) := by decide +kernel
theorem dX7_narrowed_4 : decode cX7_narrowed 4 = .ok (.ifCond .ne 8, 3) := by decide +kernel
theorem dX7_narrowed_7 : decode cX7_narrowed 7 = .ok (.iload_n 1, 1) := by decide +kernel
theorem dX7_narrowed_8 : decode cX7_narrowed 8 = .ok (.i2b, 1) := by decide +kernel
theorem dX7_narrowed_9 : decode cX7_narrowed 9 = .ok (.goto 17, 3) := by decide +kernel
theorem dX7_narrowed_12 : decode cX7_narrowed 12 = .ok (.aload_n 0, 1) := by decide +kernel
theorem dX7_narrowed_13 : decode cX7_narrowed 13 = .ok (.getfield 9, 3) := by decide +kernel
theorem dX7_narrowed_16 : decode cX7_narrowed 16 = .ok (.iconst 1, 1) := by decide +kernel
theorem dX7_narrowed_17 : decode cX7_narrowed 17 = .ok (.if_icmp .ne 8, 3) := by decide +kernel
theorem dX7_narrowed_20 : decode cX7_narrowed 20 = .ok (.iload_n 1, 1) := by decide +kernel
theorem dX7_narrowed_21 : decode cX7_narrowed 21 = .ok (.i2s, 1) := by decide +kernel
theorem dX7_narrowed_22 : decode cX7_narrowed 22 = .ok (.goto 4, 3) := by decide +kernel
theorem dX7_narrowed_25 : decode cX7_narrowed 25 = .ok (.iload_n 1, 1) := by decide +kernel
theorem dX7_narrowed_26 : decode cX7_narrowed 26 = .ok (.ireturn, 1) := by decide +kernel
theorem dX7_holds_0 : decode cX7_holds 0 = .ok (.iload_n 2, 1) := by decide +kernel
theorem dX7_holds_1 : decode cX7_holds 1 = .ok (.ifCond .lt 29, 3) := by decide +kernel
theorem dX7_holds_4 : decode cX7_holds 4 = .ok (.iload_n 2, 1) := by decide +kernel
theorem dX7_holds_5 : decode cX7_holds 5 = .ok (.aload_n 0, 1) := by decide +kernel
theorem dX7_holds_6 : decode cX7_holds 6 = .ok (.getfield 15, 3) := by decide +kernel
theorem dX7_holds_9 : decode cX7_holds 9 = .ok (.if_icmp .gt 21, 3) := by decide +kernel
theorem dX7_holds_12 : decode cX7_holds 12 = .ok (.iload_n 1, 1) := by decide +kernel
theorem dX7_holds_13 : decode cX7_holds 13 = .ok (.ifCond .lt 17, 3) := by decide +kernel
theorem dX7_holds_16 : decode cX7_holds 16 = .ok (.iload_n 1, 1) := by decide +kernel
theorem dX7_holds_17 : decode cX7_holds 17 = .ok (.aload_n 0, 1) := by decide +kernel
theorem dX7_holds_18 : decode cX7_holds 18 = .ok (.getfield 15, 3) := by decide +kernel
theorem dX7_holds_21 : decode cX7_holds 21 = .ok (.iload_n 2, 1) := by decide +kernel
theorem dX7_holds_22 : decode cX7_holds 22 = .ok (.isub, 1) := by decide +kernel
theorem dX7_holds_23 : decode cX7_holds 23 = .ok (.if_icmp .gt 7, 3) := by decide +kernel
theorem dX7_holds_26 : decode cX7_holds 26 = .ok (.iconst 1, 1) := by decide +kernel
theorem dX7_holds_27 : decode cX7_holds 27 = .ok (.goto 4, 3) := by decide +kernel
theorem dX7_holds_30 : decode cX7_holds 30 = .ok (.iconst 0, 1) := by decide +kernel
theorem dX7_holds_31 : decode cX7_holds 31 = .ok (.ireturn, 1) := by decide +kernel
theorem dX8_init_0 : decode cX8_init 0 = .ok (.aload_n 0, 1) := by decide +kernel
theorem dX8_init_1 : decode cX8_init 1 = .ok (.invokespecial 3, 3) := by decide +kernel
theorem dX8_init_4 : decode cX8_init 4 = .ok (.aload_n 0, 1) := by decide +kernel
theorem dX8_init_5 : decode cX8_init 5 = .ok (.iconst 0, 1) := by decide +kernel
theorem dX8_init_6 : decode cX8_init 6 = .ok (.putfield 9, 3) := by decide +kernel
theorem dX8_init_9 : decode cX8_init 9 = .ok (.aload_n 0, 1) := by decide +kernel
theorem dX8_init_10 : decode cX8_init 10 = .ok (.aload_n 1, 1) := by decide +kernel
theorem dX8_init_11 : decode cX8_init 11 = .ok (.iload_n 2, 1) := by decide +kernel
theorem dX8_init_12 : decode cX8_init 12 = .ok (.invokestatic 15, 3) := by decide +kernel
theorem dX8_init_15 : decode cX8_init 15 = .ok (.putfield 21, 3) := by decide +kernel
theorem dX8_init_18 : decode cX8_init 18 = .ok (.aload_n 0, 1) := by decide +kernel
theorem dX8_init_19 : decode cX8_init 19 = .ok (.aload_n 3, 1) := by decide +kernel
theorem dX8_init_20 : decode cX8_init 20 = .ok (.iconst 3, 1) := by decide +kernel
theorem dX8_init_21 : decode cX8_init 21 = .ok (.invokestatic 15, 3) := by decide +kernel
theorem dX8_init_24 : decode cX8_init 24 = .ok (.putfield 25, 3) := by decide +kernel
theorem dX8_init_27 : decode cX8_init 27 = .ok (.aload_n 0, 1) := by decide +kernel
theorem dX8_init_28 : decode cX8_init 28 = .ok (.iload_n 2, 1) := by decide +kernel
theorem dX8_init_29 : decode cX8_init 29 = .ok (.newarray .int, 2) := by decide +kernel
theorem dX8_init_31 : decode cX8_init 31 = .ok (.putfield 28, 3) := by decide +kernel
theorem dX8_init_34 : decode cX8_init 34 = .ok (.return_, 1) := by decide +kernel
theorem dX8_tells_0 : decode cX8_tells 0 = .ok (.aload_n 0, 1) := by decide +kernel
theorem dX8_tells_1 : decode cX8_tells 1 = .ok (.iconst 0, 1) := by decide +kernel
theorem dX8_tells_2 : decode cX8_tells 2 = .ok (.putfield 9, 3) := by decide +kernel
theorem dX8_tells_5 : decode cX8_tells 5 = .ok (.aload_n 0, 1) := by decide +kernel
theorem dX8_tells_6 : decode cX8_tells 6 = .ok (.getfield 25, 3) := by decide +kernel
theorem dX8_tells_9 : decode cX8_tells 9 = .ok (.iload_n 1, 1) := by decide +kernel
theorem dX8_tells_10 : decode cX8_tells 10 = .ok (.iaload, 1) := by decide +kernel
theorem dX8_tells_11 : decode cX8_tells 11 = .ok (.istore 5, 2) := by decide +kernel
theorem dX8_tells_13 : decode cX8_tells 13 = .ok (.iload 5, 2) := by decide +kernel
theorem dX8_tells_15 : decode cX8_tells 15 = .ok (.aload_n 0, 1) := by decide +kernel
theorem dX8_tells_16 : decode cX8_tells 16 = .ok (.getfield 21, 3) := by decide +kernel
theorem dX8_tells_19 : decode cX8_tells 19 = .ok (.arraylength, 1) := by decide +kernel
theorem dX8_tells_20 : decode cX8_tells 20 = .ok (.if_icmp .ge 137, 3) := by decide +kernel
theorem dX8_tells_23 : decode cX8_tells 23 = .ok (.aload_n 0, 1) := by decide +kernel
theorem dX8_tells_24 : decode cX8_tells 24 = .ok (.getfield 21, 3) := by decide +kernel
theorem dX8_tells_27 : decode cX8_tells 27 = .ok (.iload 5, 2) := by decide +kernel
theorem dX8_tells_29 : decode cX8_tells 29 = .ok (.iaload, 1) := by decide +kernel
theorem dX8_tells_30 : decode cX8_tells 30 = .ok (.bipush (-16), 2) := by decide +kernel
theorem dX8_tells_32 : decode cX8_tells 32 = .ok (.if_icmp .eq 125, 3) := by decide +kernel
theorem dX8_tells_35 : decode cX8_tells 35 = .ok (.aload_n 0, 1) := by decide +kernel
theorem dX8_tells_36 : decode cX8_tells 36 = .ok (.getfield 21, 3) := by decide +kernel
theorem dX8_tells_39 : decode cX8_tells 39 = .ok (.iload 5, 2) := by decide +kernel
theorem dX8_tells_41 : decode cX8_tells 41 = .ok (.iaload, 1) := by decide +kernel
theorem dX8_tells_42 : decode cX8_tells 42 = .ok (.istore 6, 2) := by decide +kernel
theorem dX8_tells_44 : decode cX8_tells 44 = .ok (.iload 6, 2) := by decide +kernel
theorem dX8_tells_46 : decode cX8_tells 46 = .ok (.ifCond .lt 12, 3) := by decide +kernel
theorem dX8_tells_49 : decode cX8_tells 49 = .ok (.aload_n 0, 1) := by decide +kernel
theorem dX8_tells_50 : decode cX8_tells 50 = .ok (.iload 6, 2) := by decide +kernel
theorem dX8_tells_52 : decode cX8_tells 52 = .ok (.invokevirtual 31, 3) := by decide +kernel
theorem dX8_tells_55 : decode cX8_tells 55 = .ok (.goto 96, 3) := by decide +kernel
theorem dX8_tells_58 : decode cX8_tells 58 = .ok (.iload 6, 2) := by decide +kernel
theorem dX8_tells_60 : decode cX8_tells 60 = .ok (.bipush (-6), 2) := by decide +kernel
theorem dX8_tells_62 : decode cX8_tells 62 = .ok (.if_icmp .lt 19, 3) := by decide +kernel
theorem dX8_tells_65 : decode cX8_tells 65 = .ok (.aload_n 0, 1) := by decide +kernel
theorem dX8_tells_66 : decode cX8_tells 66 = .ok (.iload 6, 2) := by decide +kernel
theorem dX8_tells_68 : decode cX8_tells 68 = .ok (.aload_n 2, 1) := by decide +kernel
theorem dX8_tells_69 : decode cX8_tells 69 = .ok (.iload_n 3, 1) := by decide +kernel
theorem dX8_tells_70 : decode cX8_tells 70 = .ok (.iload 4, 2) := by decide +kernel
theorem dX8_tells_72 : decode cX8_tells 72 = .ok (.invokestatic 35, 3) := by decide +kernel
theorem dX8_tells_75 : decode cX8_tells 75 = .ok (.invokevirtual 31, 3) := by decide +kernel
theorem dX8_tells_78 : decode cX8_tells 78 = .ok (.goto 73, 3) := by decide +kernel
theorem dX8_tells_81 : decode cX8_tells 81 = .ok (.iload 6, 2) := by decide +kernel
theorem dX8_tells_83 : decode cX8_tells 83 = .ok (.bipush (-15), 2) := by decide +kernel
theorem dX8_tells_85 : decode cX8_tells 85 = .ok (.if_icmp .ne 15, 3) := by decide +kernel
theorem dX8_tells_88 : decode cX8_tells 88 = .ok (.aload_n 0, 1) := by decide +kernel
theorem dX8_tells_89 : decode cX8_tells 89 = .ok (.aload_n 0, 1) := by decide +kernel
theorem dX8_tells_90 : decode cX8_tells 90 = .ok (.invokevirtual 39, 3) := by decide +kernel
theorem dX8_tells_93 : decode cX8_tells 93 = .ok (.ineg, 1) := by decide +kernel
theorem dX8_tells_94 : decode cX8_tells 94 = .ok (.invokevirtual 31, 3) := by decide +kernel
theorem dX8_tells_97 : decode cX8_tells 97 = .ok (.goto 54, 3) := by decide +kernel
theorem dX8_tells_100 : decode cX8_tells 100 = .ok (.iload 6, 2) := by decide +kernel
theorem dX8_tells_102 : decode cX8_tells 102 = .ok (.bipush (-9), 2) := by decide +kernel
theorem dX8_tells_104 : decode cX8_tells 104 = .ok (.if_icmp .ne 22, 3) := by decide +kernel
theorem dX8_tells_107 : decode cX8_tells 107 = .ok (.aload_n 0, 1) := by decide +kernel
theorem dX8_tells_108 : decode cX8_tells 108 = .ok (.aload_n 0, 1) := by decide +kernel
theorem dX8_tells_109 : decode cX8_tells 109 = .ok (.invokevirtual 39, 3) := by decide +kernel
theorem dX8_tells_112 : decode cX8_tells 112 = .ok (.ifCond .ne 7, 3) := by decide +kernel
theorem dX8_tells_115 : decode cX8_tells 115 = .ok (.iconst 1, 1) := by decide +kernel
theorem dX8_tells_116 : decode cX8_tells 116 = .ok (.goto 4, 3) := by decide +kernel
theorem dX8_tells_119 : decode cX8_tells 119 = .ok (.iconst 0, 1) := by decide +kernel
theorem dX8_tells_120 : decode cX8_tells 120 = .ok (.invokevirtual 31, 3) := by decide +kernel
theorem dX8_tells_123 : decode cX8_tells 123 = .ok (.goto 28, 3) := by decide +kernel
theorem dX8_tells_126 : decode cX8_tells 126 = .ok (.aload_n 0, 1) := by decide +kernel
theorem dX8_tells_127 : decode cX8_tells 127 = .ok (.invokevirtual 39, 3) := by decide +kernel
theorem dX8_tells_130 : decode cX8_tells 130 = .ok (.istore 7, 2) := by decide +kernel
theorem dX8_tells_132 : decode cX8_tells 132 = .ok (.aload_n 0, 1) := by decide +kernel
theorem dX8_tells_133 : decode cX8_tells 133 = .ok (.invokevirtual 39, 3) := by decide +kernel
theorem dX8_tells_136 : decode cX8_tells 136 = .ok (.istore 8, 2) := by decide +kernel
theorem dX8_tells_138 : decode cX8_tells 138 = .ok (.aload_n 0, 1) := by decide +kernel
theorem dX8_tells_139 : decode cX8_tells 139 = .ok (.iload 6, 2) := by decide +kernel
theorem dX8_tells_141 : decode cX8_tells 141 = .ok (.iload 8, 2) := by decide +kernel
theorem dX8_tells_143 : decode cX8_tells 143 = .ok (.iload 7, 2) := by decide +kernel
theorem dX8_tells_145 : decode cX8_tells 145 = .ok (.invokestatic 43, 3) := by decide +kernel
theorem dX8_tells_148 : decode cX8_tells 148 = .ok (.invokevirtual 31, 3) := by decide +kernel
theorem dX8_tells_151 : decode cX8_tells 151 = .ok (.iinc 5 1, 3) := by decide +kernel
theorem dX8_tells_154 : decode cX8_tells 154 = .ok (.goto (-141), 3) := by decide +kernel
theorem dX8_tells_157 : decode cX8_tells 157 = .ok (.iconst 0, 1) := by decide +kernel
theorem dX8_tells_158 : decode cX8_tells 158 = .ok (.bipush 99, 2) := by decide +kernel
theorem dX8_tells_160 : decode cX8_tells 160 = .ok (.aload_n 0, 1) := by decide +kernel
theorem dX8_tells_161 : decode cX8_tells 161 = .ok (.invokevirtual 39, 3) := by decide +kernel
theorem dX8_tells_164 : decode cX8_tells 164 = .ok (.invokestatic 47, 3) := by decide +kernel
theorem dX8_tells_167 : decode cX8_tells 167 = .ok (.invokestatic 53, 3) := by decide +kernel
theorem dX8_tells_170 : decode cX8_tells 170 = .ok (.ireturn, 1) := by decide +kernel
theorem dX8_push_0 : decode cX8_push 0 = .ok (.aload_n 0, 1) := by decide +kernel
theorem dX8_push_1 : decode cX8_push 1 = .ok (.getfield 9, 3) := by decide +kernel
theorem dX8_push_4 : decode cX8_push 4 = .ok (.aload_n 0, 1) := by decide +kernel
theorem dX8_push_5 : decode cX8_push 5 = .ok (.getfield 28, 3) := by decide +kernel
theorem dX8_push_8 : decode cX8_push 8 = .ok (.arraylength, 1) := by decide +kernel
theorem dX8_push_9 : decode cX8_push 9 = .ok (.if_icmp .ge 23, 3) := by decide +kernel
theorem dX8_push_12 : decode cX8_push 12 = .ok (.aload_n 0, 1) := by decide +kernel
theorem dX8_push_13 : decode cX8_push 13 = .ok (.getfield 28, 3) := by decide +kernel
theorem dX8_push_16 : decode cX8_push 16 = .ok (.aload_n 0, 1) := by decide +kernel
theorem dX8_push_17 : decode cX8_push 17 = .ok (.getfield 9, 3) := by decide +kernel
theorem dX8_push_20 : decode cX8_push 20 = .ok (.iload_n 1, 1) := by decide +kernel
theorem dX8_push_21 : decode cX8_push 21 = .ok (.iastore, 1) := by decide +kernel
theorem dX8_push_22 : decode cX8_push 22 = .ok (.aload_n 0, 1) := by decide +kernel
theorem dX8_push_23 : decode cX8_push 23 = .ok (.dup, 1) := by decide +kernel
theorem dX8_push_24 : decode cX8_push 24 = .ok (.getfield 9, 3) := by decide +kernel
theorem dX8_push_27 : decode cX8_push 27 = .ok (.iconst 1, 1) := by decide +kernel
theorem dX8_push_28 : decode cX8_push 28 = .ok (.iadd, 1) := by decide +kernel
theorem dX8_push_29 : decode cX8_push 29 = .ok (.putfield 9, 3) := by decide +kernel
theorem dX8_push_32 : decode cX8_push 32 = .ok (.return_, 1) := by decide +kernel
theorem dX8_pop_0 : decode cX8_pop 0 = .ok (.aload_n 0, 1) := by decide +kernel
theorem dX8_pop_1 : decode cX8_pop 1 = .ok (.getfield 9, 3) := by decide +kernel
theorem dX8_pop_4 : decode cX8_pop 4 = .ok (.ifCond .ne 5, 3) := by decide +kernel
theorem dX8_pop_7 : decode cX8_pop 7 = .ok (.iconst 0, 1) := by decide +kernel
theorem dX8_pop_8 : decode cX8_pop 8 = .ok (.ireturn, 1) := by decide +kernel
theorem dX8_pop_9 : decode cX8_pop 9 = .ok (.aload_n 0, 1) := by decide +kernel
theorem dX8_pop_10 : decode cX8_pop 10 = .ok (.dup, 1) := by decide +kernel
theorem dX8_pop_11 : decode cX8_pop 11 = .ok (.getfield 9, 3) := by decide +kernel
theorem dX8_pop_14 : decode cX8_pop 14 = .ok (.iconst 1, 1) := by decide +kernel
theorem dX8_pop_15 : decode cX8_pop 15 = .ok (.isub, 1) := by decide +kernel
theorem dX8_pop_16 : decode cX8_pop 16 = .ok (.putfield 9, 3) := by decide +kernel
theorem dX8_pop_19 : decode cX8_pop 19 = .ok (.aload_n 0, 1) := by decide +kernel
theorem dX8_pop_20 : decode cX8_pop 20 = .ok (.getfield 28, 3) := by decide +kernel
theorem dX8_pop_23 : decode cX8_pop 23 = .ok (.aload_n 0, 1) := by decide +kernel
theorem dX8_pop_24 : decode cX8_pop 24 = .ok (.getfield 9, 3) := by decide +kernel
theorem dX8_pop_27 : decode cX8_pop 27 = .ok (.iaload, 1) := by decide +kernel
theorem dX8_pop_28 : decode cX8_pop 28 = .ok (.ireturn, 1) := by decide +kernel
theorem dX8_named_0 : decode cX8_named 0 = .ok (.iload_n 0, 1) := by decide +kernel
theorem dX8_named_1 : decode cX8_named 1 = .ok (.tableswitch 54 (-5) (-1) #[49, 47, 42, 40, 35], 35) := by decide +kernel
theorem dX8_named_36 : decode cX8_named 36 = .ok (.aload_n 1, 1) := by decide +kernel
theorem dX8_named_37 : decode cX8_named 37 = .ok (.getfield 56, 3) := by decide +kernel
theorem dX8_named_40 : decode cX8_named 40 = .ok (.ireturn, 1) := by decide +kernel
theorem dX8_named_41 : decode cX8_named 41 = .ok (.iload_n 2, 1) := by decide +kernel
theorem dX8_named_42 : decode cX8_named 42 = .ok (.ireturn, 1) := by decide +kernel
theorem dX8_named_43 : decode cX8_named 43 = .ok (.aload_n 1, 1) := by decide +kernel
theorem dX8_named_44 : decode cX8_named 44 = .ok (.getfield 61, 3) := by decide +kernel
theorem dX8_named_47 : decode cX8_named 47 = .ok (.ireturn, 1) := by decide +kernel
theorem dX8_named_48 : decode cX8_named 48 = .ok (.iload_n 3, 1) := by decide +kernel
theorem dX8_named_49 : decode cX8_named 49 = .ok (.ireturn, 1) := by decide +kernel
theorem dX8_named_50 : decode cX8_named 50 = .ok (.aload_n 1, 1) := by decide +kernel
theorem dX8_named_51 : decode cX8_named 51 = .ok (.getfield 64, 3) := by decide +kernel
theorem dX8_named_54 : decode cX8_named 54 = .ok (.ireturn, 1) := by decide +kernel
theorem dX8_named_55 : decode cX8_named 55 = .ok (.aload_n 1, 1) := by decide +kernel
theorem dX8_named_56 : decode cX8_named 56 = .ok (.getfield 67, 3) := by decide +kernel
theorem dX8_named_59 : decode cX8_named 59 = .ok (.ireturn, 1) := by decide +kernel
theorem dX8_joined_0 : decode cX8_joined 0 = .ok (.iload_n 0, 1) := by decide +kernel
theorem dX8_joined_1 : decode cX8_joined 1 = .ok (.tableswitch 101 (-13) (-7) #[97, 93, 82, 71, 101, 57, 43], 43) := by decide +kernel
theorem dX8_joined_44 : decode cX8_joined 44 = .ok (.iload_n 1, 1) := by decide +kernel
theorem dX8_joined_45 : decode cX8_joined 45 = .ok (.ifCond .ne 7, 3) := by decide +kernel
theorem dX8_joined_48 : decode cX8_joined 48 = .ok (.iload_n 2, 1) := by decide +kernel
theorem dX8_joined_49 : decode cX8_joined 49 = .ok (.ifCond .eq 7, 3) := by decide +kernel
theorem dX8_joined_52 : decode cX8_joined 52 = .ok (.iconst 1, 1) := by decide +kernel
theorem dX8_joined_53 : decode cX8_joined 53 = .ok (.goto 4, 3) := by decide +kernel
theorem dX8_joined_56 : decode cX8_joined 56 = .ok (.iconst 0, 1) := by decide +kernel
theorem dX8_joined_57 : decode cX8_joined 57 = .ok (.ireturn, 1) := by decide +kernel
theorem dX8_joined_58 : decode cX8_joined 58 = .ok (.iload_n 1, 1) := by decide +kernel
theorem dX8_joined_59 : decode cX8_joined 59 = .ok (.ifCond .eq 11, 3) := by decide +kernel
theorem dX8_joined_62 : decode cX8_joined 62 = .ok (.iload_n 2, 1) := by decide +kernel
theorem dX8_joined_63 : decode cX8_joined 63 = .ok (.ifCond .eq 7, 3) := by decide +kernel
theorem dX8_joined_66 : decode cX8_joined 66 = .ok (.iconst 1, 1) := by decide +kernel
theorem dX8_joined_67 : decode cX8_joined 67 = .ok (.goto 4, 3) := by decide +kernel
theorem dX8_joined_70 : decode cX8_joined 70 = .ok (.iconst 0, 1) := by decide +kernel
theorem dX8_joined_71 : decode cX8_joined 71 = .ok (.ireturn, 1) := by decide +kernel
theorem dX8_joined_72 : decode cX8_joined 72 = .ok (.iload_n 1, 1) := by decide +kernel
theorem dX8_joined_73 : decode cX8_joined 73 = .ok (.iload_n 2, 1) := by decide +kernel
theorem dX8_joined_74 : decode cX8_joined 74 = .ok (.if_icmp .ge 7, 3) := by decide +kernel
theorem dX8_joined_77 : decode cX8_joined 77 = .ok (.iconst 1, 1) := by decide +kernel
theorem dX8_joined_78 : decode cX8_joined 78 = .ok (.goto 4, 3) := by decide +kernel
theorem dX8_joined_81 : decode cX8_joined 81 = .ok (.iconst 0, 1) := by decide +kernel
theorem dX8_joined_82 : decode cX8_joined 82 = .ok (.ireturn, 1) := by decide +kernel
theorem dX8_joined_83 : decode cX8_joined 83 = .ok (.iload_n 1, 1) := by decide +kernel
theorem dX8_joined_84 : decode cX8_joined 84 = .ok (.iload_n 2, 1) := by decide +kernel
theorem dX8_joined_85 : decode cX8_joined 85 = .ok (.if_icmp .ne 7, 3) := by decide +kernel
theorem dX8_joined_88 : decode cX8_joined 88 = .ok (.iconst 1, 1) := by decide +kernel
theorem dX8_joined_89 : decode cX8_joined 89 = .ok (.goto 4, 3) := by decide +kernel
theorem dX8_joined_92 : decode cX8_joined 92 = .ok (.iconst 0, 1) := by decide +kernel
theorem dX8_joined_93 : decode cX8_joined 93 = .ok (.ireturn, 1) := by decide +kernel
theorem dX8_joined_94 : decode cX8_joined 94 = .ok (.iload_n 1, 1) := by decide +kernel
theorem dX8_joined_95 : decode cX8_joined 95 = .ok (.iload_n 2, 1) := by decide +kernel
theorem dX8_joined_96 : decode cX8_joined 96 = .ok (.iadd, 1) := by decide +kernel
theorem dX8_joined_97 : decode cX8_joined 97 = .ok (.ireturn, 1) := by decide +kernel
theorem dX8_joined_98 : decode cX8_joined 98 = .ok (.iload_n 1, 1) := by decide +kernel
theorem dX8_joined_99 : decode cX8_joined 99 = .ok (.iload_n 2, 1) := by decide +kernel
theorem dX8_joined_100 : decode cX8_joined 100 = .ok (.isub, 1) := by decide +kernel
theorem dX8_joined_101 : decode cX8_joined 101 = .ok (.ireturn, 1) := by decide +kernel
theorem dX8_joined_102 : decode cX8_joined 102 = .ok (.iload_n 1, 1) := by decide +kernel
theorem dX8_joined_103 : decode cX8_joined 103 = .ok (.iload_n 2, 1) := by decide +kernel
theorem dX8_joined_104 : decode cX8_joined 104 = .ok (.imul, 1) := by decide +kernel
theorem dX8_joined_105 : decode cX8_joined 105 = .ok (.ireturn, 1) := by decide +kernel
theorem dX9_init_0 : decode cX9_init 0 = .ok (.aload_n 0, 1) := by decide +kernel
theorem dX9_init_1 : decode cX9_init 1 = .ok (.invokespecial 3, 3) := by decide +kernel
theorem dX9_init_4 : decode cX9_init 4 = .ok (.aload_n 0, 1) := by decide +kernel
theorem dX9_init_5 : decode cX9_init 5 = .ok (.iconst (-1), 1) := by decide +kernel
theorem dX9_init_6 : decode cX9_init 6 = .ok (.putfield 9, 3) := by decide +kernel
theorem dX9_init_9 : decode cX9_init 9 = .ok (.aload_n 0, 1) := by decide +kernel
theorem dX9_init_10 : decode cX9_init 10 = .ok (.bipush 7, 2) := by decide +kernel
theorem dX9_init_12 : decode cX9_init 12 = .ok (.newarray .int, 2) := by decide +kernel
theorem dX9_init_14 : decode cX9_init 14 = .ok (.putfield 15, 3) := by decide +kernel
theorem dX9_init_17 : decode cX9_init 17 = .ok (.aload_n 0, 1) := by decide +kernel
theorem dX9_init_18 : decode cX9_init 18 = .ok (.bipush 7, 2) := by decide +kernel
theorem dX9_init_20 : decode cX9_init 20 = .ok (.newarray .int, 2) := by decide +kernel
theorem dX9_init_22 : decode cX9_init 22 = .ok (.putfield 19, 3) := by decide +kernel
theorem dX9_init_25 : decode cX9_init 25 = .ok (.aload_n 0, 1) := by decide +kernel
theorem dX9_init_26 : decode cX9_init 26 = .ok (.iconst 5, 1) := by decide +kernel
theorem dX9_init_27 : decode cX9_init 27 = .ok (.newarray .int, 2) := by decide +kernel
theorem dX9_init_29 : decode cX9_init 29 = .ok (.putfield 22, 3) := by decide +kernel
theorem dX9_init_32 : decode cX9_init 32 = .ok (.aload_n 0, 1) := by decide +kernel
theorem dX9_init_33 : decode cX9_init 33 = .ok (.bipush 16, 2) := by decide +kernel
theorem dX9_init_35 : decode cX9_init 35 = .ok (.newarray .int, 2) := by decide +kernel
theorem dX9_init_37 : decode cX9_init 37 = .ok (.putfield 25, 3) := by decide +kernel
theorem dX9_init_40 : decode cX9_init 40 = .ok (.aload_n 0, 1) := by decide +kernel
theorem dX9_init_41 : decode cX9_init 41 = .ok (.iconst 0, 1) := by decide +kernel
theorem dX9_init_42 : decode cX9_init 42 = .ok (.putfield 28, 3) := by decide +kernel
theorem dX9_init_45 : decode cX9_init 45 = .ok (.aload_n 0, 1) := by decide +kernel
theorem dX9_init_46 : decode cX9_init 46 = .ok (.bipush 7, 2) := by decide +kernel
theorem dX9_init_48 : decode cX9_init 48 = .ok (.newarray .int, 2) := by decide +kernel
theorem dX9_init_50 : decode cX9_init 50 = .ok (.putfield 31, 3) := by decide +kernel
theorem dX9_init_53 : decode cX9_init 53 = .ok (.aload_n 0, 1) := by decide +kernel
theorem dX9_init_54 : decode cX9_init 54 = .ok (.bipush 7, 2) := by decide +kernel
theorem dX9_init_56 : decode cX9_init 56 = .ok (.newarray .int, 2) := by decide +kernel
theorem dX9_init_58 : decode cX9_init 58 = .ok (.putfield 34, 3) := by decide +kernel
theorem dX9_init_61 : decode cX9_init 61 = .ok (.aload_n 0, 1) := by decide +kernel
theorem dX9_init_62 : decode cX9_init 62 = .ok (.iload_n 1, 1) := by decide +kernel
theorem dX9_init_63 : decode cX9_init 63 = .ok (.putfield 37, 3) := by decide +kernel
theorem dX9_init_66 : decode cX9_init 66 = .ok (.aload_n 0, 1) := by decide +kernel
theorem dX9_init_67 : decode cX9_init 67 = .ok (.iload_n 2, 1) := by decide +kernel
theorem dX9_init_68 : decode cX9_init 68 = .ok (.putfield 40, 3) := by decide +kernel
theorem dX9_init_71 : decode cX9_init 71 = .ok (.aload_n 0, 1) := by decide +kernel
theorem dX9_init_72 : decode cX9_init 72 = .ok (.iload_n 3, 1) := by decide +kernel
theorem dX9_init_73 : decode cX9_init 73 = .ok (.bipush 10, 2) := by decide +kernel
theorem dX9_init_75 : decode cX9_init 75 = .ok (.idiv, 1) := by decide +kernel
theorem dX9_init_76 : decode cX9_init 76 = .ok (.putfield 43, 3) := by decide +kernel
theorem dX9_init_79 : decode cX9_init 79 = .ok (.aload_n 0, 1) := by decide +kernel
theorem dX9_init_80 : decode cX9_init 80 = .ok (.iload_n 3, 1) := by decide +kernel
theorem dX9_init_81 : decode cX9_init 81 = .ok (.bipush 10, 2) := by decide +kernel
theorem dX9_init_83 : decode cX9_init 83 = .ok (.irem, 1) := by decide +kernel
theorem dX9_init_84 : decode cX9_init 84 = .ok (.putfield 46, 3) := by decide +kernel
theorem dX9_init_87 : decode cX9_init 87 = .ok (.aload_n 0, 1) := by decide +kernel
theorem dX9_init_88 : decode cX9_init 88 = .ok (.iload 4, 2) := by decide +kernel
theorem dX9_init_90 : decode cX9_init 90 = .ok (.putfield 49, 3) := by decide +kernel
theorem dX9_init_93 : decode cX9_init 93 = .ok (.return_, 1) := by decide +kernel
theorem dX9_stands_0 : decode cX9_stands 0 = .ok (.iconst 1, 1) := by decide +kernel
theorem dX9_stands_1 : decode cX9_stands 1 = .ok (.ireturn, 1) := by decide +kernel
theorem dX9_missed_0 : decode cX9_missed 0 = .ok (.iconst 1, 1) := by decide +kernel
theorem dX9_missed_1 : decode cX9_missed 1 = .ok (.ireturn, 1) := by decide +kernel
theorem dX9_offends_0 : decode cX9_offends 0 = .ok (.iconst 0, 1) := by decide +kernel
theorem dX9_offends_1 : decode cX9_offends 1 = .ok (.ireturn, 1) := by decide +kernel
theorem dX9_change_0 : decode cX9_change 0 = .ok (.iload_n 2, 1) := by decide +kernel
theorem dX9_change_1 : decode cX9_change 1 = .ok (.iload_n 1, 1) := by decide +kernel
theorem dX9_change_2 : decode cX9_change 2 = .ok (.iconst 4, 1) := by decide +kernel
theorem dX9_change_3 : decode cX9_change 3 = .ok (.if_icmp .ne 7, 3) := by decide +kernel
theorem dX9_change_6 : decode cX9_change 6 = .ok (.iconst 4, 1) := by decide +kernel
theorem dX9_change_7 : decode cX9_change 7 = .ok (.goto 5, 3) := by decide +kernel
theorem dX9_change_10 : decode cX9_change 10 = .ok (.bipush 10, 2) := by decide +kernel
theorem dX9_change_12 : decode cX9_change 12 = .ok (.invokestatic 52, 3) := by decide +kernel
theorem dX9_change_15 : decode cX9_change 15 = .ok (.ifCond .ne 6, 3) := by decide +kernel
theorem dX9_change_18 : decode cX9_change 18 = .ok (.bipush (-2), 2) := by decide +kernel
theorem dX9_change_20 : decode cX9_change 20 = .ok (.ireturn, 1) := by decide +kernel
theorem dX9_change_21 : decode cX9_change 21 = .ok (.iload_n 1, 1) := by decide +kernel
theorem dX9_change_22 : decode cX9_change 22 = .ok (.iconst 3, 1) := by decide +kernel
theorem dX9_change_23 : decode cX9_change 23 = .ok (.if_icmp .ne 16, 3) := by decide +kernel
theorem dX9_change_26 : decode cX9_change 26 = .ok (.aload_n 0, 1) := by decide +kernel
theorem dX9_change_27 : decode cX9_change 27 = .ok (.getfield 43, 3) := by decide +kernel
theorem dX9_change_30 : decode cX9_change 30 = .ok (.istore_n 3, 1) := by decide +kernel
theorem dX9_change_31 : decode cX9_change 31 = .ok (.aload_n 0, 1) := by decide +kernel
theorem dX9_change_32 : decode cX9_change 32 = .ok (.iload_n 2, 1) := by decide +kernel
theorem dX9_change_33 : decode cX9_change 33 = .ok (.putfield 43, 3) := by decide +kernel
theorem dX9_change_36 : decode cX9_change 36 = .ok (.goto 31, 3) := by decide +kernel
theorem dX9_change_39 : decode cX9_change 39 = .ok (.iload_n 1, 1) := by decide +kernel
theorem dX9_change_40 : decode cX9_change 40 = .ok (.iconst 4, 1) := by decide +kernel
theorem dX9_change_41 : decode cX9_change 41 = .ok (.if_icmp .ne 16, 3) := by decide +kernel
theorem dX9_change_44 : decode cX9_change 44 = .ok (.aload_n 0, 1) := by decide +kernel
theorem dX9_change_45 : decode cX9_change 45 = .ok (.getfield 49, 3) := by decide +kernel
theorem dX9_change_48 : decode cX9_change 48 = .ok (.istore_n 3, 1) := by decide +kernel
theorem dX9_change_49 : decode cX9_change 49 = .ok (.aload_n 0, 1) := by decide +kernel
theorem dX9_change_50 : decode cX9_change 50 = .ok (.iload_n 2, 1) := by decide +kernel
theorem dX9_change_51 : decode cX9_change 51 = .ok (.putfield 49, 3) := by decide +kernel
theorem dX9_change_54 : decode cX9_change 54 = .ok (.goto 13, 3) := by decide +kernel
theorem dX9_change_57 : decode cX9_change 57 = .ok (.aload_n 0, 1) := by decide +kernel
theorem dX9_change_58 : decode cX9_change 58 = .ok (.getfield 46, 3) := by decide +kernel
theorem dX9_change_61 : decode cX9_change 61 = .ok (.istore_n 3, 1) := by decide +kernel
theorem dX9_change_62 : decode cX9_change 62 = .ok (.aload_n 0, 1) := by decide +kernel
theorem dX9_change_63 : decode cX9_change 63 = .ok (.iload_n 2, 1) := by decide +kernel
theorem dX9_change_64 : decode cX9_change 64 = .ok (.putfield 46, 3) := by decide +kernel
theorem dX9_change_67 : decode cX9_change 67 = .ok (.iload_n 3, 1) := by decide +kernel
theorem dX9_change_68 : decode cX9_change 68 = .ok (.ireturn, 1) := by decide +kernel
theorem dX9_take_0 : decode cX9_take 0 = .ok (.aload_n 0, 1) := by decide +kernel
theorem dX9_take_1 : decode cX9_take 1 = .ok (.aload_n 1, 1) := by decide +kernel
theorem dX9_take_2 : decode cX9_take 2 = .ok (.getfield 43, 3) := by decide +kernel
theorem dX9_take_5 : decode cX9_take 5 = .ok (.putfield 43, 3) := by decide +kernel
theorem dX9_take_8 : decode cX9_take 8 = .ok (.aload_n 0, 1) := by decide +kernel
theorem dX9_take_9 : decode cX9_take 9 = .ok (.aload_n 1, 1) := by decide +kernel
theorem dX9_take_10 : decode cX9_take 10 = .ok (.getfield 49, 3) := by decide +kernel
theorem dX9_take_13 : decode cX9_take 13 = .ok (.putfield 49, 3) := by decide +kernel
theorem dX9_take_16 : decode cX9_take 16 = .ok (.aload_n 0, 1) := by decide +kernel
theorem dX9_take_17 : decode cX9_take 17 = .ok (.aload_n 1, 1) := by decide +kernel
theorem dX9_take_18 : decode cX9_take 18 = .ok (.getfield 46, 3) := by decide +kernel
theorem dX9_take_21 : decode cX9_take 21 = .ok (.putfield 46, 3) := by decide +kernel
theorem dX9_take_24 : decode cX9_take 24 = .ok (.aload_n 0, 1) := by decide +kernel
theorem dX9_take_25 : decode cX9_take 25 = .ok (.aload_n 1, 1) := by decide +kernel
theorem dX9_take_26 : decode cX9_take 26 = .ok (.getfield 9, 3) := by decide +kernel
theorem dX9_take_29 : decode cX9_take 29 = .ok (.putfield 9, 3) := by decide +kernel
theorem dX9_take_32 : decode cX9_take 32 = .ok (.return_, 1) := by decide +kernel
theorem dX9_movesTo_0 : decode cX9_movesTo 0 = .ok (.aload_n 1, 1) := by decide +kernel
theorem dX9_movesTo_1 : decode cX9_movesTo 1 = .ok (.iconst 0, 1) := by decide +kernel
theorem dX9_movesTo_2 : decode cX9_movesTo 2 = .ok (.aload_n 0, 1) := by decide +kernel
theorem dX9_movesTo_3 : decode cX9_movesTo 3 = .ok (.iload_n 2, 1) := by decide +kernel
theorem dX9_movesTo_4 : decode cX9_movesTo 4 = .ok (.ifCond .ne 8, 3) := by decide +kernel
theorem dX9_movesTo_7 : decode cX9_movesTo 7 = .ok (.bipush 6, 2) := by decide +kernel
theorem dX9_movesTo_9 : decode cX9_movesTo 9 = .ok (.goto 6, 3) := by decide +kernel
theorem dX9_movesTo_12 : decode cX9_movesTo 12 = .ok (.iload_n 2, 1) := by decide +kernel
theorem dX9_movesTo_13 : decode cX9_movesTo 13 = .ok (.iconst 1, 1) := by decide +kernel
theorem dX9_movesTo_14 : decode cX9_movesTo 14 = .ok (.isub, 1) := by decide +kernel
theorem dX9_movesTo_15 : decode cX9_movesTo 15 = .ok (.iconst 0, 1) := by decide +kernel
theorem dX9_movesTo_16 : decode cX9_movesTo 16 = .ok (.invokevirtual 56, 3) := by decide +kernel
theorem dX9_movesTo_19 : decode cX9_movesTo 19 = .ok (.ireturn, 1) := by decide +kernel
theorem dX9_learn_0 : decode cX9_learn 0 = .ok (.iconst 0, 1) := by decide +kernel
theorem dX9_learn_1 : decode cX9_learn 1 = .ok (.istore_n 2, 1) := by decide +kernel
theorem dX9_learn_2 : decode cX9_learn 2 = .ok (.iload_n 2, 1) := by decide +kernel
theorem dX9_learn_3 : decode cX9_learn 3 = .ok (.bipush 7, 2) := by decide +kernel
theorem dX9_learn_5 : decode cX9_learn 5 = .ok (.if_icmp .ge 71, 3) := by decide +kernel
theorem dX9_learn_8 : decode cX9_learn 8 = .ok (.aload_n 0, 1) := by decide +kernel
theorem dX9_learn_9 : decode cX9_learn 9 = .ok (.getfield 15, 3) := by decide +kernel
theorem dX9_learn_12 : decode cX9_learn 12 = .ok (.iload_n 2, 1) := by decide +kernel
theorem dX9_learn_13 : decode cX9_learn 13 = .ok (.aload_n 0, 1) := by decide +kernel
theorem dX9_learn_14 : decode cX9_learn 14 = .ok (.aload_n 1, 1) := by decide +kernel
theorem dX9_learn_15 : decode cX9_learn 15 = .ok (.iload_n 2, 1) := by decide +kernel
theorem dX9_learn_16 : decode cX9_learn 16 = .ok (.invokevirtual 62, 3) := by decide +kernel
theorem dX9_learn_19 : decode cX9_learn 19 = .ok (.iastore, 1) := by decide +kernel
theorem dX9_learn_20 : decode cX9_learn 20 = .ok (.aload_n 0, 1) := by decide +kernel
theorem dX9_learn_21 : decode cX9_learn 21 = .ok (.getfield 19, 3) := by decide +kernel
theorem dX9_learn_24 : decode cX9_learn 24 = .ok (.iload_n 2, 1) := by decide +kernel
theorem dX9_learn_25 : decode cX9_learn 25 = .ok (.iload_n 2, 1) := by decide +kernel
theorem dX9_learn_26 : decode cX9_learn 26 = .ok (.ifCond .ne 7, 3) := by decide +kernel
theorem dX9_learn_29 : decode cX9_learn 29 = .ok (.iconst 0, 1) := by decide +kernel
theorem dX9_learn_30 : decode cX9_learn 30 = .ok (.goto 13, 3) := by decide +kernel
theorem dX9_learn_33 : decode cX9_learn 33 = .ok (.aload_n 1, 1) := by decide +kernel
theorem dX9_learn_34 : decode cX9_learn 34 = .ok (.iconst 1, 1) := by decide +kernel
theorem dX9_learn_35 : decode cX9_learn 35 = .ok (.aload_n 0, 1) := by decide +kernel
theorem dX9_learn_36 : decode cX9_learn 36 = .ok (.iload_n 2, 1) := by decide +kernel
theorem dX9_learn_37 : decode cX9_learn 37 = .ok (.iconst 1, 1) := by decide +kernel
theorem dX9_learn_38 : decode cX9_learn 38 = .ok (.isub, 1) := by decide +kernel
theorem dX9_learn_39 : decode cX9_learn 39 = .ok (.iconst 0, 1) := by decide +kernel
theorem dX9_learn_40 : decode cX9_learn 40 = .ok (.invokevirtual 56, 3) := by decide +kernel
theorem dX9_learn_43 : decode cX9_learn 43 = .ok (.iastore, 1) := by decide +kernel
theorem dX9_learn_44 : decode cX9_learn 44 = .ok (.aload_n 0, 1) := by decide +kernel
theorem dX9_learn_45 : decode cX9_learn 45 = .ok (.getfield 31, 3) := by decide +kernel
theorem dX9_learn_48 : decode cX9_learn 48 = .ok (.iload_n 2, 1) := by decide +kernel
theorem dX9_learn_49 : decode cX9_learn 49 = .ok (.iload_n 2, 1) := by decide +kernel
theorem dX9_learn_50 : decode cX9_learn 50 = .ok (.ifCond .eq 13, 3) := by decide +kernel
theorem dX9_learn_53 : decode cX9_learn 53 = .ok (.aload_n 0, 1) := by decide +kernel
theorem dX9_learn_54 : decode cX9_learn 54 = .ok (.iload_n 2, 1) := by decide +kernel
theorem dX9_learn_55 : decode cX9_learn 55 = .ok (.iconst 1, 1) := by decide +kernel
theorem dX9_learn_56 : decode cX9_learn 56 = .ok (.isub, 1) := by decide +kernel
theorem dX9_learn_57 : decode cX9_learn 57 = .ok (.invokevirtual 66, 3) := by decide +kernel
theorem dX9_learn_60 : decode cX9_learn 60 = .ok (.ifCond .eq 7, 3) := by decide +kernel
theorem dX9_learn_63 : decode cX9_learn 63 = .ok (.iconst 0, 1) := by decide +kernel
theorem dX9_learn_64 : decode cX9_learn 64 = .ok (.goto 5, 3) := by decide +kernel
theorem dX9_learn_67 : decode cX9_learn 67 = .ok (.ldc 70, 2) := by decide +kernel
theorem dX9_learn_69 : decode cX9_learn 69 = .ok (.iastore, 1) := by decide +kernel
theorem dX9_learn_70 : decode cX9_learn 70 = .ok (.iinc 2 1, 3) := by decide +kernel
theorem dX9_learn_73 : decode cX9_learn 73 = .ok (.goto (-71), 3) := by decide +kernel
theorem dX9_learn_76 : decode cX9_learn 76 = .ok (.iconst 0, 1) := by decide +kernel
theorem dX9_learn_77 : decode cX9_learn 77 = .ok (.istore_n 2, 1) := by decide +kernel
theorem dX9_learn_78 : decode cX9_learn 78 = .ok (.iload_n 2, 1) := by decide +kernel
theorem dX9_learn_79 : decode cX9_learn 79 = .ok (.iconst 4, 1) := by decide +kernel
theorem dX9_learn_80 : decode cX9_learn 80 = .ok (.if_icmp .gt 23, 3) := by decide +kernel
theorem dX9_learn_83 : decode cX9_learn 83 = .ok (.aload_n 0, 1) := by decide +kernel
theorem dX9_learn_84 : decode cX9_learn 84 = .ok (.getfield 22, 3) := by decide +kernel
theorem dX9_learn_87 : decode cX9_learn 87 = .ok (.iload_n 2, 1) := by decide +kernel
theorem dX9_learn_88 : decode cX9_learn 88 = .ok (.aload_n 1, 1) := by decide +kernel
theorem dX9_learn_89 : decode cX9_learn 89 = .ok (.iconst 2, 1) := by decide +kernel
theorem dX9_learn_90 : decode cX9_learn 90 = .ok (.aload_n 0, 1) := by decide +kernel
theorem dX9_learn_91 : decode cX9_learn 91 = .ok (.iconst 0, 1) := by decide +kernel
theorem dX9_learn_92 : decode cX9_learn 92 = .ok (.iload_n 2, 1) := by decide +kernel
theorem dX9_learn_93 : decode cX9_learn 93 = .ok (.invokevirtual 56, 3) := by decide +kernel
theorem dX9_learn_96 : decode cX9_learn 96 = .ok (.iastore, 1) := by decide +kernel
theorem dX9_learn_97 : decode cX9_learn 97 = .ok (.iinc 2 1, 3) := by decide +kernel
theorem dX9_learn_100 : decode cX9_learn 100 = .ok (.goto (-22), 3) := by decide +kernel
theorem dX9_learn_103 : decode cX9_learn 103 = .ok (.iconst 0, 1) := by decide +kernel
theorem dX9_learn_104 : decode cX9_learn 104 = .ok (.istore_n 2, 1) := by decide +kernel
theorem dX9_learn_105 : decode cX9_learn 105 = .ok (.iload_n 2, 1) := by decide +kernel
theorem dX9_learn_106 : decode cX9_learn 106 = .ok (.bipush 16, 2) := by decide +kernel
theorem dX9_learn_108 : decode cX9_learn 108 = .ok (.if_icmp .ge 20, 3) := by decide +kernel
theorem dX9_learn_111 : decode cX9_learn 111 = .ok (.aload_n 0, 1) := by decide +kernel
theorem dX9_learn_112 : decode cX9_learn 112 = .ok (.getfield 25, 3) := by decide +kernel
theorem dX9_learn_115 : decode cX9_learn 115 = .ok (.iload_n 2, 1) := by decide +kernel
theorem dX9_learn_116 : decode cX9_learn 116 = .ok (.aload_n 0, 1) := by decide +kernel
theorem dX9_learn_117 : decode cX9_learn 117 = .ok (.iload_n 2, 1) := by decide +kernel
theorem dX9_learn_118 : decode cX9_learn 118 = .ok (.invokevirtual 71, 3) := by decide +kernel
theorem dX9_learn_121 : decode cX9_learn 121 = .ok (.iastore, 1) := by decide +kernel
theorem dX9_learn_122 : decode cX9_learn 122 = .ok (.iinc 2 1, 3) := by decide +kernel
theorem dX9_learn_125 : decode cX9_learn 125 = .ok (.goto (-20), 3) := by decide +kernel
theorem dX9_learn_128 : decode cX9_learn 128 = .ok (.aload_n 0, 1) := by decide +kernel
theorem dX9_learn_129 : decode cX9_learn 129 = .ok (.aload_n 0, 1) := by decide +kernel
theorem dX9_learn_130 : decode cX9_learn 130 = .ok (.invokevirtual 75, 3) := by decide +kernel
theorem dX9_learn_133 : decode cX9_learn 133 = .ok (.putfield 28, 3) := by decide +kernel
theorem dX9_learn_136 : decode cX9_learn 136 = .ok (.return_, 1) := by decide +kernel
theorem dX9_isBarred_0 : decode cX9_isBarred 0 = .ok (.aload_n 0, 1) := by decide +kernel
theorem dX9_isBarred_1 : decode cX9_isBarred 1 = .ok (.getfield 31, 3) := by decide +kernel
theorem dX9_isBarred_4 : decode cX9_isBarred 4 = .ok (.iload_n 1, 1) := by decide +kernel
theorem dX9_isBarred_5 : decode cX9_isBarred 5 = .ok (.iaload, 1) := by decide +kernel
theorem dX9_isBarred_6 : decode cX9_isBarred 6 = .ok (.ifCond .eq 7, 3) := by decide +kernel
theorem dX9_isBarred_9 : decode cX9_isBarred 9 = .ok (.iconst 1, 1) := by decide +kernel
theorem dX9_isBarred_10 : decode cX9_isBarred 10 = .ok (.goto 4, 3) := by decide +kernel
theorem dX9_isBarred_13 : decode cX9_isBarred 13 = .ok (.iconst 0, 1) := by decide +kernel
theorem dX9_isBarred_14 : decode cX9_isBarred 14 = .ok (.ireturn, 1) := by decide +kernel
theorem dX9_offenceTo_0 : decode cX9_offenceTo 0 = .ok (.iconst 0, 1) := by decide +kernel
theorem dX9_offenceTo_1 : decode cX9_offenceTo 1 = .ok (.istore_n 2, 1) := by decide +kernel
theorem dX9_offenceTo_2 : decode cX9_offenceTo 2 = .ok (.iconst 0, 1) := by decide +kernel
theorem dX9_offenceTo_3 : decode cX9_offenceTo 3 = .ok (.istore_n 3, 1) := by decide +kernel
theorem dX9_offenceTo_4 : decode cX9_offenceTo 4 = .ok (.iload_n 3, 1) := by decide +kernel
theorem dX9_offenceTo_5 : decode cX9_offenceTo 5 = .ok (.iconst 4, 1) := by decide +kernel
theorem dX9_offenceTo_6 : decode cX9_offenceTo 6 = .ok (.if_icmp .ge 37, 3) := by decide +kernel
theorem dX9_offenceTo_9 : decode cX9_offenceTo 9 = .ok (.iload_n 2, 1) := by decide +kernel
theorem dX9_offenceTo_10 : decode cX9_offenceTo 10 = .ok (.iload_n 3, 1) := by decide +kernel
theorem dX9_offenceTo_11 : decode cX9_offenceTo 11 = .ok (.aload_n 0, 1) := by decide +kernel
theorem dX9_offenceTo_12 : decode cX9_offenceTo 12 = .ok (.getfield 49, 3) := by decide +kernel
theorem dX9_offenceTo_15 : decode cX9_offenceTo 15 = .ok (.if_icmp .eq 19, 3) := by decide +kernel
theorem dX9_offenceTo_18 : decode cX9_offenceTo 18 = .ok (.iload_n 1, 1) := by decide +kernel
theorem dX9_offenceTo_19 : decode cX9_offenceTo 19 = .ok (.iload_n 3, 1) := by decide +kernel
theorem dX9_offenceTo_20 : decode cX9_offenceTo 20 = .ok (.invokestatic 79, 3) := by decide +kernel
theorem dX9_offenceTo_23 : decode cX9_offenceTo 23 = .ok (.ifCond .eq 11, 3) := by decide +kernel
theorem dX9_offenceTo_26 : decode cX9_offenceTo 26 = .ok (.aload_n 0, 1) := by decide +kernel
theorem dX9_offenceTo_27 : decode cX9_offenceTo 27 = .ok (.iload_n 3, 1) := by decide +kernel
theorem dX9_offenceTo_28 : decode cX9_offenceTo 28 = .ok (.invokevirtual 82, 3) := by decide +kernel
theorem dX9_offenceTo_31 : decode cX9_offenceTo 31 = .ok (.goto 4, 3) := by decide +kernel
theorem dX9_offenceTo_34 : decode cX9_offenceTo 34 = .ok (.iconst 0, 1) := by decide +kernel
theorem dX9_offenceTo_35 : decode cX9_offenceTo 35 = .ok (.iadd, 1) := by decide +kernel
theorem dX9_offenceTo_36 : decode cX9_offenceTo 36 = .ok (.istore_n 2, 1) := by decide +kernel
theorem dX9_offenceTo_37 : decode cX9_offenceTo 37 = .ok (.iinc 3 1, 3) := by decide +kernel
theorem dX9_offenceTo_40 : decode cX9_offenceTo 40 = .ok (.goto (-36), 3) := by decide +kernel
theorem dX9_offenceTo_43 : decode cX9_offenceTo 43 = .ok (.iload_n 2, 1) := by decide +kernel
theorem dX9_offenceTo_44 : decode cX9_offenceTo 44 = .ok (.ireturn, 1) := by decide +kernel
theorem dX9_isMissed_0 : decode cX9_isMissed 0 = .ok (.aload_n 0, 1) := by decide +kernel
theorem dX9_isMissed_1 : decode cX9_isMissed 1 = .ok (.getfield 28, 3) := by decide +kernel
theorem dX9_isMissed_4 : decode cX9_isMissed 4 = .ok (.ifCond .le 22, 3) := by decide +kernel
theorem dX9_isMissed_7 : decode cX9_isMissed 7 = .ok (.iload_n 1, 1) := by decide +kernel
theorem dX9_isMissed_8 : decode cX9_isMissed 8 = .ok (.iload_n 2, 1) := by decide +kernel
theorem dX9_isMissed_9 : decode cX9_isMissed 9 = .ok (.iconst (-1), 1) := by decide +kernel
theorem dX9_isMissed_10 : decode cX9_isMissed 10 = .ok (.ixor, 1) := by decide +kernel
theorem dX9_isMissed_11 : decode cX9_isMissed 11 = .ok (.iand, 1) := by decide +kernel
theorem dX9_isMissed_12 : decode cX9_isMissed 12 = .ok (.iconst 1, 1) := by decide +kernel
theorem dX9_isMissed_13 : decode cX9_isMissed 13 = .ok (.aload_n 0, 1) := by decide +kernel
theorem dX9_isMissed_14 : decode cX9_isMissed 14 = .ok (.getfield 49, 3) := by decide +kernel
theorem dX9_isMissed_17 : decode cX9_isMissed 17 = .ok (.ishl, 1) := by decide +kernel
theorem dX9_isMissed_18 : decode cX9_isMissed 18 = .ok (.iand, 1) := by decide +kernel
theorem dX9_isMissed_19 : decode cX9_isMissed 19 = .ok (.ifCond .eq 7, 3) := by decide +kernel
theorem dX9_isMissed_22 : decode cX9_isMissed 22 = .ok (.iconst 1, 1) := by decide +kernel
theorem dX9_isMissed_23 : decode cX9_isMissed 23 = .ok (.goto 4, 3) := by decide +kernel
theorem dX9_isMissed_26 : decode cX9_isMissed 26 = .ok (.iconst 0, 1) := by decide +kernel
theorem dX9_isMissed_27 : decode cX9_isMissed 27 = .ok (.ireturn, 1) := by decide +kernel
theorem dX9_isOffending_0 : decode cX9_isOffending 0 = .ok (.aload_n 0, 1) := by decide +kernel
theorem dX9_isOffending_1 : decode cX9_isOffending 1 = .ok (.getfield 25, 3) := by decide +kernel
theorem dX9_isOffending_4 : decode cX9_isOffending 4 = .ok (.iload_n 1, 1) := by decide +kernel
theorem dX9_isOffending_5 : decode cX9_isOffending 5 = .ok (.iload_n 2, 1) := by decide +kernel
theorem dX9_isOffending_6 : decode cX9_isOffending 6 = .ok (.iand, 1) := by decide +kernel
theorem dX9_isOffending_7 : decode cX9_isOffending 7 = .ok (.iaload, 1) := by decide +kernel
theorem dX9_isOffending_8 : decode cX9_isOffending 8 = .ok (.ifCond .le 7, 3) := by decide +kernel
theorem dX9_isOffending_11 : decode cX9_isOffending 11 = .ok (.iconst 1, 1) := by decide +kernel
theorem dX9_isOffending_12 : decode cX9_isOffending 12 = .ok (.goto 4, 3) := by decide +kernel
theorem dX9_isOffending_15 : decode cX9_isOffending 15 = .ok (.iconst 0, 1) := by decide +kernel
theorem dX9_isOffending_16 : decode cX9_isOffending 16 = .ok (.ireturn, 1) := by decide +kernel
theorem dX9_harm_0 : decode cX9_harm 0 = .ok (.aload_n 0, 1) := by decide +kernel
theorem dX9_harm_1 : decode cX9_harm 1 = .ok (.getfield 25, 3) := by decide +kernel
theorem dX9_harm_4 : decode cX9_harm 4 = .ok (.iload_n 1, 1) := by decide +kernel
theorem dX9_harm_5 : decode cX9_harm 5 = .ok (.iload_n 2, 1) := by decide +kernel
theorem dX9_harm_6 : decode cX9_harm 6 = .ok (.iand, 1) := by decide +kernel
theorem dX9_harm_7 : decode cX9_harm 7 = .ok (.iaload, 1) := by decide +kernel
theorem dX9_harm_8 : decode cX9_harm 8 = .ok (.aload_n 0, 1) := by decide +kernel
theorem dX9_harm_9 : decode cX9_harm 9 = .ok (.iload_n 1, 1) := by decide +kernel
theorem dX9_harm_10 : decode cX9_harm 10 = .ok (.iload_n 2, 1) := by decide +kernel
theorem dX9_harm_11 : decode cX9_harm 11 = .ok (.invokevirtual 85, 3) := by decide +kernel
theorem dX9_harm_14 : decode cX9_harm 14 = .ok (.ifCond .eq 10, 3) := by decide +kernel
theorem dX9_harm_17 : decode cX9_harm 17 = .ok (.aload_n 0, 1) := by decide +kernel
theorem dX9_harm_18 : decode cX9_harm 18 = .ok (.getfield 28, 3) := by decide +kernel
theorem dX9_harm_21 : decode cX9_harm 21 = .ok (.goto 4, 3) := by decide +kernel
theorem dX9_harm_24 : decode cX9_harm 24 = .ok (.iconst 0, 1) := by decide +kernel
theorem dX9_harm_25 : decode cX9_harm 25 = .ok (.iadd, 1) := by decide +kernel
theorem dX9_harm_26 : decode cX9_harm 26 = .ok (.istore_n 3, 1) := by decide +kernel
theorem dX9_harm_27 : decode cX9_harm 27 = .ok (.iload_n 3, 1) := by decide +kernel
theorem dX9_harm_28 : decode cX9_harm 28 = .ok (.aload_n 0, 1) := by decide +kernel
theorem dX9_harm_29 : decode cX9_harm 29 = .ok (.getfield 22, 3) := by decide +kernel
theorem dX9_harm_32 : decode cX9_harm 32 = .ok (.iload_n 1, 1) := by decide +kernel
theorem dX9_harm_33 : decode cX9_harm 33 = .ok (.invokestatic 88, 3) := by decide +kernel
theorem dX9_harm_36 : decode cX9_harm 36 = .ok (.iaload, 1) := by decide +kernel
theorem dX9_harm_37 : decode cX9_harm 37 = .ok (.imul, 1) := by decide +kernel
theorem dX9_harm_38 : decode cX9_harm 38 = .ok (.ireturn, 1) := by decide +kernel
theorem dX9_bad_0 : decode cX9_bad 0 = .ok (.aload_n 0, 1) := by decide +kernel
theorem dX9_bad_1 : decode cX9_bad 1 = .ok (.iload_n 2, 1) := by decide +kernel
theorem dX9_bad_2 : decode cX9_bad 2 = .ok (.iload_n 3, 1) := by decide +kernel
theorem dX9_bad_3 : decode cX9_bad 3 = .ok (.invokevirtual 93, 3) := by decide +kernel
theorem dX9_bad_6 : decode cX9_bad 6 = .ok (.aload_n 0, 1) := by decide +kernel
theorem dX9_bad_7 : decode cX9_bad 7 = .ok (.getfield 19, 3) := by decide +kernel
theorem dX9_bad_10 : decode cX9_bad 10 = .ok (.iload_n 1, 1) := by decide +kernel
theorem dX9_bad_11 : decode cX9_bad 11 = .ok (.iaload, 1) := by decide +kernel
theorem dX9_bad_12 : decode cX9_bad 12 = .ok (.iadd, 1) := by decide +kernel
theorem dX9_bad_13 : decode cX9_bad 13 = .ok (.ireturn, 1) := by decide +kernel
theorem dX9_lackFor_0 : decode cX9_lackFor 0 = .ok (.iload_n 1, 1) := by decide +kernel
theorem dX9_lackFor_1 : decode cX9_lackFor 1 = .ok (.aload_n 0, 1) := by decide +kernel
theorem dX9_lackFor_2 : decode cX9_lackFor 2 = .ok (.getfield 49, 3) := by decide +kernel
theorem dX9_lackFor_5 : decode cX9_lackFor 5 = .ok (.invokestatic 79, 3) := by decide +kernel
theorem dX9_lackFor_8 : decode cX9_lackFor 8 = .ok (.ifCond .eq 20, 3) := by decide +kernel
theorem dX9_lackFor_11 : decode cX9_lackFor 11 = .ok (.aload_n 0, 1) := by decide +kernel
theorem dX9_lackFor_12 : decode cX9_lackFor 12 = .ok (.getfield 28, 3) := by decide +kernel
theorem dX9_lackFor_15 : decode cX9_lackFor 15 = .ok (.aload_n 0, 1) := by decide +kernel
theorem dX9_lackFor_16 : decode cX9_lackFor 16 = .ok (.getfield 22, 3) := by decide +kernel
theorem dX9_lackFor_19 : decode cX9_lackFor 19 = .ok (.iload_n 1, 1) := by decide +kernel
theorem dX9_lackFor_20 : decode cX9_lackFor 20 = .ok (.invokestatic 88, 3) := by decide +kernel
theorem dX9_lackFor_23 : decode cX9_lackFor 23 = .ok (.iaload, 1) := by decide +kernel
theorem dX9_lackFor_24 : decode cX9_lackFor 24 = .ok (.imul, 1) := by decide +kernel
theorem dX9_lackFor_25 : decode cX9_lackFor 25 = .ok (.goto 4, 3) := by decide +kernel
theorem dX9_lackFor_28 : decode cX9_lackFor 28 = .ok (.iconst 0, 1) := by decide +kernel
theorem dX9_lackFor_29 : decode cX9_lackFor 29 = .ok (.ireturn, 1) := by decide +kernel
theorem dX9_priceNothing_0 : decode cX9_priceNothing 0 = .ok (.iconst 0, 1) := by decide +kernel
theorem dX9_priceNothing_1 : decode cX9_priceNothing 1 = .ok (.istore_n 2, 1) := by decide +kernel
theorem dX9_priceNothing_2 : decode cX9_priceNothing 2 = .ok (.iload_n 2, 1) := by decide +kernel
theorem dX9_priceNothing_3 : decode cX9_priceNothing 3 = .ok (.bipush 7, 2) := by decide +kernel
theorem dX9_priceNothing_5 : decode cX9_priceNothing 5 = .ok (.if_icmp .ge 34, 3) := by decide +kernel
theorem dX9_priceNothing_8 : decode cX9_priceNothing 8 = .ok (.aload_n 0, 1) := by decide +kernel
theorem dX9_priceNothing_9 : decode cX9_priceNothing 9 = .ok (.getfield 34, 3) := by decide +kernel
theorem dX9_priceNothing_12 : decode cX9_priceNothing 12 = .ok (.iload_n 2, 1) := by decide +kernel
theorem dX9_priceNothing_13 : decode cX9_priceNothing 13 = .ok (.iload_n 1, 1) := by decide +kernel
theorem dX9_priceNothing_14 : decode cX9_priceNothing 14 = .ok (.ifCond .ne 7, 3) := by decide +kernel
theorem dX9_priceNothing_17 : decode cX9_priceNothing 17 = .ok (.iload_n 2, 1) := by decide +kernel
theorem dX9_priceNothing_18 : decode cX9_priceNothing 18 = .ok (.ifCond .ne 12, 3) := by decide +kernel
theorem dX9_priceNothing_21 : decode cX9_priceNothing 21 = .ok (.aload_n 0, 1) := by decide +kernel
theorem dX9_priceNothing_22 : decode cX9_priceNothing 22 = .ok (.getfield 31, 3) := by decide +kernel
theorem dX9_priceNothing_25 : decode cX9_priceNothing 25 = .ok (.iload_n 2, 1) := by decide +kernel
theorem dX9_priceNothing_26 : decode cX9_priceNothing 26 = .ok (.iaload, 1) := by decide +kernel
theorem dX9_priceNothing_27 : decode cX9_priceNothing 27 = .ok (.goto 5, 3) := by decide +kernel
theorem dX9_priceNothing_30 : decode cX9_priceNothing 30 = .ok (.ldc 70, 2) := by decide +kernel
theorem dX9_priceNothing_32 : decode cX9_priceNothing 32 = .ok (.iastore, 1) := by decide +kernel
theorem dX9_priceNothing_33 : decode cX9_priceNothing 33 = .ok (.iinc 2 1, 3) := by decide +kernel
theorem dX9_priceNothing_36 : decode cX9_priceNothing 36 = .ok (.goto (-34), 3) := by decide +kernel
theorem dX9_priceNothing_39 : decode cX9_priceNothing 39 = .ok (.return_, 1) := by decide +kernel
theorem dX9_priceMoves_0 : decode cX9_priceMoves 0 = .ok (.iconst 0, 1) := by decide +kernel
theorem dX9_priceMoves_1 : decode cX9_priceMoves 1 = .ok (.istore_n 2, 1) := by decide +kernel
theorem dX9_priceMoves_2 : decode cX9_priceMoves 2 = .ok (.iload_n 2, 1) := by decide +kernel
theorem dX9_priceMoves_3 : decode cX9_priceMoves 3 = .ok (.bipush 7, 2) := by decide +kernel
theorem dX9_priceMoves_5 : decode cX9_priceMoves 5 = .ok (.if_icmp .ge 31, 3) := by decide +kernel
theorem dX9_priceMoves_8 : decode cX9_priceMoves 8 = .ok (.iload_n 2, 1) := by decide +kernel
theorem dX9_priceMoves_9 : decode cX9_priceMoves 9 = .ok (.iload_n 1, 1) := by decide +kernel
theorem dX9_priceMoves_10 : decode cX9_priceMoves 10 = .ok (.iconst 1, 1) := by decide +kernel
theorem dX9_priceMoves_11 : decode cX9_priceMoves 11 = .ok (.iadd, 1) := by decide +kernel
theorem dX9_priceMoves_12 : decode cX9_priceMoves 12 = .ok (.if_icmp .eq 18, 3) := by decide +kernel
theorem dX9_priceMoves_15 : decode cX9_priceMoves 15 = .ok (.aload_n 0, 1) := by decide +kernel
theorem dX9_priceMoves_16 : decode cX9_priceMoves 16 = .ok (.getfield 34, 3) := by decide +kernel
theorem dX9_priceMoves_19 : decode cX9_priceMoves 19 = .ok (.iload_n 2, 1) := by decide +kernel
theorem dX9_priceMoves_20 : decode cX9_priceMoves 20 = .ok (.dup2, 1) := by decide +kernel
theorem dX9_priceMoves_21 : decode cX9_priceMoves 21 = .ok (.iaload, 1) := by decide +kernel
theorem dX9_priceMoves_22 : decode cX9_priceMoves 22 = .ok (.aload_n 0, 1) := by decide +kernel
theorem dX9_priceMoves_23 : decode cX9_priceMoves 23 = .ok (.getfield 15, 3) := by decide +kernel
theorem dX9_priceMoves_26 : decode cX9_priceMoves 26 = .ok (.iload_n 2, 1) := by decide +kernel
theorem dX9_priceMoves_27 : decode cX9_priceMoves 27 = .ok (.iaload, 1) := by decide +kernel
theorem dX9_priceMoves_28 : decode cX9_priceMoves 28 = .ok (.iadd, 1) := by decide +kernel
theorem dX9_priceMoves_29 : decode cX9_priceMoves 29 = .ok (.iastore, 1) := by decide +kernel
theorem dX9_priceMoves_30 : decode cX9_priceMoves 30 = .ok (.iinc 2 1, 3) := by decide +kernel
theorem dX9_priceMoves_33 : decode cX9_priceMoves 33 = .ok (.goto (-31), 3) := by decide +kernel
theorem dX9_priceMoves_36 : decode cX9_priceMoves 36 = .ok (.return_, 1) := by decide +kernel
theorem dX9_priceDay_0 : decode cX9_priceDay 0 = .ok (.iconst 0, 1) := by decide +kernel
theorem dX9_priceDay_1 : decode cX9_priceDay 1 = .ok (.istore_n 3, 1) := by decide +kernel
theorem dX9_priceDay_2 : decode cX9_priceDay 2 = .ok (.iload_n 3, 1) := by decide +kernel
theorem dX9_priceDay_3 : decode cX9_priceDay 3 = .ok (.bipush 7, 2) := by decide +kernel
theorem dX9_priceDay_5 : decode cX9_priceDay 5 = .ok (.if_icmp .ge 33, 3) := by decide +kernel
theorem dX9_priceDay_8 : decode cX9_priceDay 8 = .ok (.aload_n 0, 1) := by decide +kernel
theorem dX9_priceDay_9 : decode cX9_priceDay 9 = .ok (.getfield 34, 3) := by decide +kernel
theorem dX9_priceDay_12 : decode cX9_priceDay 12 = .ok (.iload_n 3, 1) := by decide +kernel
theorem dX9_priceDay_13 : decode cX9_priceDay 13 = .ok (.dup2, 1) := by decide +kernel
theorem dX9_priceDay_14 : decode cX9_priceDay 14 = .ok (.iaload, 1) := by decide +kernel
theorem dX9_priceDay_15 : decode cX9_priceDay 15 = .ok (.aload_n 0, 1) := by decide +kernel
theorem dX9_priceDay_16 : decode cX9_priceDay 16 = .ok (.iload_n 1, 1) := by decide +kernel
theorem dX9_priceDay_17 : decode cX9_priceDay 17 = .ok (.aload_n 2, 1) := by decide +kernel
theorem dX9_priceDay_18 : decode cX9_priceDay 18 = .ok (.iload_n 3, 1) := by decide +kernel
theorem dX9_priceDay_19 : decode cX9_priceDay 19 = .ok (.iaload, 1) := by decide +kernel
theorem dX9_priceDay_20 : decode cX9_priceDay 20 = .ok (.invokevirtual 93, 3) := by decide +kernel
theorem dX9_priceDay_23 : decode cX9_priceDay 23 = .ok (.aload_n 0, 1) := by decide +kernel
theorem dX9_priceDay_24 : decode cX9_priceDay 24 = .ok (.getfield 19, 3) := by decide +kernel
theorem dX9_priceDay_27 : decode cX9_priceDay 27 = .ok (.iload_n 3, 1) := by decide +kernel
theorem dX9_priceDay_28 : decode cX9_priceDay 28 = .ok (.iaload, 1) := by decide +kernel
theorem dX9_priceDay_29 : decode cX9_priceDay 29 = .ok (.iadd, 1) := by decide +kernel
theorem dX9_priceDay_30 : decode cX9_priceDay 30 = .ok (.iadd, 1) := by decide +kernel
theorem dX9_priceDay_31 : decode cX9_priceDay 31 = .ok (.iastore, 1) := by decide +kernel
theorem dX9_priceDay_32 : decode cX9_priceDay 32 = .ok (.iinc 3 1, 3) := by decide +kernel
theorem dX9_priceDay_35 : decode cX9_priceDay 35 = .ok (.goto (-33), 3) := by decide +kernel
theorem dX9_priceDay_38 : decode cX9_priceDay 38 = .ok (.return_, 1) := by decide +kernel
theorem dX10_init_0 : decode cX10_init 0 = .ok (.aload_n 0, 1) := by decide +kernel
theorem dX10_init_1 : decode cX10_init 1 = .ok (.iload_n 1, 1) := by decide +kernel
theorem dX10_init_2 : decode cX10_init 2 = .ok (.iload_n 2, 1) := by decide +kernel
theorem dX10_init_3 : decode cX10_init 3 = .ok (.iload_n 3, 1) := by decide +kernel
theorem dX10_init_4 : decode cX10_init 4 = .ok (.iload 4, 2) := by decide +kernel
theorem dX10_init_6 : decode cX10_init 6 = .ok (.invokespecial 1, 3) := by decide +kernel
theorem dX10_init_9 : decode cX10_init 9 = .ok (.return_, 1) := by decide +kernel
theorem dX10_missed_0 : decode cX10_missed 0 = .ok (.aload_n 0, 1) := by decide +kernel
theorem dX10_missed_1 : decode cX10_missed 1 = .ok (.invokespecial 7, 3) := by decide +kernel
theorem dX10_missed_4 : decode cX10_missed 4 = .ok (.aload_n 0, 1) := by decide +kernel
theorem dX10_missed_5 : decode cX10_missed 5 = .ok (.getfield 11, 3) := by decide +kernel
theorem dX10_missed_8 : decode cX10_missed 8 = .ok (.iconst 4, 1) := by decide +kernel
theorem dX10_missed_9 : decode cX10_missed 9 = .ok (.idiv, 1) := by decide +kernel
theorem dX10_missed_10 : decode cX10_missed 10 = .ok (.iadd, 1) := by decide +kernel
theorem dX10_missed_11 : decode cX10_missed 11 = .ok (.ireturn, 1) := by decide +kernel
theorem dX10_offends_0 : decode cX10_offends 0 = .ok (.iconst 2, 1) := by decide +kernel
theorem dX10_offends_1 : decode cX10_offends 1 = .ok (.aload_n 0, 1) := by decide +kernel
theorem dX10_offends_2 : decode cX10_offends 2 = .ok (.iload_n 1, 1) := by decide +kernel
theorem dX10_offends_3 : decode cX10_offends 3 = .ok (.invokespecial 17, 3) := by decide +kernel
theorem dX10_offends_6 : decode cX10_offends 6 = .ok (.imul, 1) := by decide +kernel
theorem dX10_offends_7 : decode cX10_offends 7 = .ok (.ireturn, 1) := by decide +kernel
theorem dJ6_bitCount_0f7a4_0 : decode cJ6_bitCount_0f7a4 0 = .ok (.iload_n 0, 1) := by decide +kernel
theorem dJ6_bitCount_0f7a4_1 : decode cJ6_bitCount_0f7a4 1 = .ok (.iload_n 0, 1) := by decide +kernel
theorem dJ6_bitCount_0f7a4_2 : decode cJ6_bitCount_0f7a4 2 = .ok (.iconst 1, 1) := by decide +kernel
theorem dJ6_bitCount_0f7a4_3 : decode cJ6_bitCount_0f7a4 3 = .ok (.iushr, 1) := by decide +kernel
theorem dJ6_bitCount_0f7a4_4 : decode cJ6_bitCount_0f7a4 4 = .ok (.ldc_w 265, 3) := by decide +kernel
theorem dJ6_bitCount_0f7a4_7 : decode cJ6_bitCount_0f7a4 7 = .ok (.iand, 1) := by decide +kernel
theorem dJ6_bitCount_0f7a4_8 : decode cJ6_bitCount_0f7a4 8 = .ok (.isub, 1) := by decide +kernel
theorem dJ6_bitCount_0f7a4_9 : decode cJ6_bitCount_0f7a4 9 = .ok (.istore_n 0, 1) := by decide +kernel
theorem dJ6_bitCount_0f7a4_10 : decode cJ6_bitCount_0f7a4 10 = .ok (.iload_n 0, 1) := by decide +kernel
theorem dJ6_bitCount_0f7a4_11 : decode cJ6_bitCount_0f7a4 11 = .ok (.ldc_w 266, 3) := by decide +kernel
theorem dJ6_bitCount_0f7a4_14 : decode cJ6_bitCount_0f7a4 14 = .ok (.iand, 1) := by decide +kernel
theorem dJ6_bitCount_0f7a4_15 : decode cJ6_bitCount_0f7a4 15 = .ok (.iload_n 0, 1) := by decide +kernel
theorem dJ6_bitCount_0f7a4_16 : decode cJ6_bitCount_0f7a4 16 = .ok (.iconst 2, 1) := by decide +kernel
theorem dJ6_bitCount_0f7a4_17 : decode cJ6_bitCount_0f7a4 17 = .ok (.iushr, 1) := by decide +kernel
theorem dJ6_bitCount_0f7a4_18 : decode cJ6_bitCount_0f7a4 18 = .ok (.ldc_w 266, 3) := by decide +kernel
theorem dJ6_bitCount_0f7a4_21 : decode cJ6_bitCount_0f7a4 21 = .ok (.iand, 1) := by decide +kernel
theorem dJ6_bitCount_0f7a4_22 : decode cJ6_bitCount_0f7a4 22 = .ok (.iadd, 1) := by decide +kernel
theorem dJ6_bitCount_0f7a4_23 : decode cJ6_bitCount_0f7a4 23 = .ok (.istore_n 0, 1) := by decide +kernel
theorem dJ6_bitCount_0f7a4_24 : decode cJ6_bitCount_0f7a4 24 = .ok (.iload_n 0, 1) := by decide +kernel
theorem dJ6_bitCount_0f7a4_25 : decode cJ6_bitCount_0f7a4 25 = .ok (.iload_n 0, 1) := by decide +kernel
theorem dJ6_bitCount_0f7a4_26 : decode cJ6_bitCount_0f7a4 26 = .ok (.iconst 4, 1) := by decide +kernel
theorem dJ6_bitCount_0f7a4_27 : decode cJ6_bitCount_0f7a4 27 = .ok (.iushr, 1) := by decide +kernel
theorem dJ6_bitCount_0f7a4_28 : decode cJ6_bitCount_0f7a4 28 = .ok (.iadd, 1) := by decide +kernel
theorem dJ6_bitCount_0f7a4_29 : decode cJ6_bitCount_0f7a4 29 = .ok (.ldc_w 267, 3) := by decide +kernel
theorem dJ6_bitCount_0f7a4_32 : decode cJ6_bitCount_0f7a4 32 = .ok (.iand, 1) := by decide +kernel
theorem dJ6_bitCount_0f7a4_33 : decode cJ6_bitCount_0f7a4 33 = .ok (.istore_n 0, 1) := by decide +kernel
theorem dJ6_bitCount_0f7a4_34 : decode cJ6_bitCount_0f7a4 34 = .ok (.iload_n 0, 1) := by decide +kernel
theorem dJ6_bitCount_0f7a4_35 : decode cJ6_bitCount_0f7a4 35 = .ok (.iload_n 0, 1) := by decide +kernel
theorem dJ6_bitCount_0f7a4_36 : decode cJ6_bitCount_0f7a4 36 = .ok (.bipush 8, 2) := by decide +kernel
theorem dJ6_bitCount_0f7a4_38 : decode cJ6_bitCount_0f7a4 38 = .ok (.iushr, 1) := by decide +kernel
theorem dJ6_bitCount_0f7a4_39 : decode cJ6_bitCount_0f7a4 39 = .ok (.iadd, 1) := by decide +kernel
theorem dJ6_bitCount_0f7a4_40 : decode cJ6_bitCount_0f7a4 40 = .ok (.istore_n 0, 1) := by decide +kernel
theorem dJ6_bitCount_0f7a4_41 : decode cJ6_bitCount_0f7a4 41 = .ok (.iload_n 0, 1) := by decide +kernel
theorem dJ6_bitCount_0f7a4_42 : decode cJ6_bitCount_0f7a4 42 = .ok (.iload_n 0, 1) := by decide +kernel
theorem dJ6_bitCount_0f7a4_43 : decode cJ6_bitCount_0f7a4 43 = .ok (.bipush 16, 2) := by decide +kernel
theorem dJ6_bitCount_0f7a4_45 : decode cJ6_bitCount_0f7a4 45 = .ok (.iushr, 1) := by decide +kernel
theorem dJ6_bitCount_0f7a4_46 : decode cJ6_bitCount_0f7a4 46 = .ok (.iadd, 1) := by decide +kernel
theorem dJ6_bitCount_0f7a4_47 : decode cJ6_bitCount_0f7a4 47 = .ok (.istore_n 0, 1) := by decide +kernel
theorem dJ6_bitCount_0f7a4_48 : decode cJ6_bitCount_0f7a4 48 = .ok (.iload_n 0, 1) := by decide +kernel
theorem dJ6_bitCount_0f7a4_49 : decode cJ6_bitCount_0f7a4 49 = .ok (.bipush 63, 2) := by decide +kernel
theorem dJ6_bitCount_0f7a4_51 : decode cJ6_bitCount_0f7a4 51 = .ok (.iand, 1) := by decide +kernel
theorem dJ6_bitCount_0f7a4_52 : decode cJ6_bitCount_0f7a4 52 = .ok (.ireturn, 1) := by decide +kernel
theorem dJ9_max_7cf53_0 : decode cJ9_max_7cf53 0 = .ok (.iload_n 0, 1) := by decide +kernel
theorem dJ9_max_7cf53_1 : decode cJ9_max_7cf53 1 = .ok (.iload_n 1, 1) := by decide +kernel
theorem dJ9_max_7cf53_2 : decode cJ9_max_7cf53 2 = .ok (.if_icmp .lt 7, 3) := by decide +kernel
theorem dJ9_max_7cf53_5 : decode cJ9_max_7cf53 5 = .ok (.iload_n 0, 1) := by decide +kernel
theorem dJ9_max_7cf53_6 : decode cJ9_max_7cf53 6 = .ok (.goto 4, 3) := by decide +kernel
theorem dJ9_max_7cf53_9 : decode cJ9_max_7cf53 9 = .ok (.iload_n 1, 1) := by decide +kernel
theorem dJ9_max_7cf53_10 : decode cJ9_max_7cf53 10 = .ok (.ireturn, 1) := by decide +kernel
theorem dJ9_min_7cf53_0 : decode cJ9_min_7cf53 0 = .ok (.iload_n 0, 1) := by decide +kernel
theorem dJ9_min_7cf53_1 : decode cJ9_min_7cf53 1 = .ok (.iload_n 1, 1) := by decide +kernel
theorem dJ9_min_7cf53_2 : decode cJ9_min_7cf53 2 = .ok (.if_icmp .gt 7, 3) := by decide +kernel
theorem dJ9_min_7cf53_5 : decode cJ9_min_7cf53 5 = .ok (.iload_n 0, 1) := by decide +kernel
theorem dJ9_min_7cf53_6 : decode cJ9_min_7cf53 6 = .ok (.goto 4, 3) := by decide +kernel
theorem dJ9_min_7cf53_9 : decode cJ9_min_7cf53 9 = .ok (.iload_n 1, 1) := by decide +kernel
theorem dJ9_min_7cf53_10 : decode cJ9_min_7cf53 10 = .ok (.ireturn, 1) := by decide +kernel
theorem dJ0_length_8abf5_0 : decode cJ0_length_8abf5 0 = .ok (.aload_n 0, 1) := by decide +kernel
theorem dJ0_length_8abf5_1 : decode cJ0_length_8abf5 1 = .ok (.getfield 9, 3) := by decide +kernel
theorem dJ0_length_8abf5_4 : decode cJ0_length_8abf5 4 = .ok (.arraylength, 1) := by decide +kernel
theorem dJ0_length_8abf5_5 : decode cJ0_length_8abf5 5 = .ok (.aload_n 0, 1) := by decide +kernel
theorem dJ0_length_8abf5_6 : decode cJ0_length_8abf5 6 = .ok (.invokevirtual 335, 3) := by decide +kernel
theorem dJ0_length_8abf5_9 : decode cJ0_length_8abf5 9 = .ok (.ishr, 1) := by decide +kernel
theorem dJ0_length_8abf5_10 : decode cJ0_length_8abf5 10 = .ok (.ireturn, 1) := by decide +kernel
theorem dJ0_charAt_5068e_0 : decode cJ0_charAt_5068e 0 = .ok (.aload_n 0, 1) := by decide +kernel
theorem dJ0_charAt_5068e_1 : decode cJ0_charAt_5068e 1 = .ok (.invokevirtual 492, 3) := by decide +kernel
theorem dJ0_charAt_5068e_4 : decode cJ0_charAt_5068e 4 = .ok (.ifCond .eq 12, 3) := by decide +kernel
theorem dJ0_charAt_5068e_7 : decode cJ0_charAt_5068e 7 = .ok (.aload_n 0, 1) := by decide +kernel
theorem dJ0_charAt_5068e_8 : decode cJ0_charAt_5068e 8 = .ok (.getfield 9, 3) := by decide +kernel
theorem dJ0_charAt_5068e_11 : decode cJ0_charAt_5068e 11 = .ok (.iload_n 1, 1) := by decide +kernel
theorem dJ0_charAt_5068e_12 : decode cJ0_charAt_5068e 12 = .ok (.invokestatic 495, 3) := by decide +kernel
theorem dJ0_charAt_5068e_15 : decode cJ0_charAt_5068e 15 = .ok (.ireturn, 1) := by decide +kernel
theorem dJ0_charAt_5068e_16 : decode cJ0_charAt_5068e 16 = .ok (.aload_n 0, 1) := by decide +kernel
theorem dJ0_charAt_5068e_17 : decode cJ0_charAt_5068e 17 = .ok (.getfield 9, 3) := by decide +kernel
theorem dJ0_charAt_5068e_20 : decode cJ0_charAt_5068e 20 = .ok (.iload_n 1, 1) := by decide +kernel
theorem dJ0_charAt_5068e_21 : decode cJ0_charAt_5068e 21 = .ok (.invokestatic 498, 3) := by decide +kernel
theorem dJ0_charAt_5068e_24 : decode cJ0_charAt_5068e 24 = .ok (.ireturn, 1) := by decide +kernel
theorem dJ0_coder_7d493_0 : decode cJ0_coder_7d493 0 = .ok (.getstatic 38, 3) := by decide +kernel
theorem dJ0_coder_7d493_3 : decode cJ0_coder_7d493 3 = .ok (.ifCond .eq 10, 3) := by decide +kernel
theorem dJ0_coder_7d493_6 : decode cJ0_coder_7d493 6 = .ok (.aload_n 0, 1) := by decide +kernel
theorem dJ0_coder_7d493_7 : decode cJ0_coder_7d493 7 = .ok (.getfield 15, 3) := by decide +kernel
theorem dJ0_coder_7d493_10 : decode cJ0_coder_7d493 10 = .ok (.goto 4, 3) := by decide +kernel
theorem dJ0_coder_7d493_13 : decode cJ0_coder_7d493 13 = .ok (.iconst 1, 1) := by decide +kernel
theorem dJ0_coder_7d493_14 : decode cJ0_coder_7d493 14 = .ok (.ireturn, 1) := by decide +kernel
theorem dJ0_isLatin1_aae02_0 : decode cJ0_isLatin1_aae02 0 = .ok (.getstatic 38, 3) := by decide +kernel
theorem dJ0_isLatin1_aae02_3 : decode cJ0_isLatin1_aae02 3 = .ok (.ifCond .eq 14, 3) := by decide +kernel
theorem dJ0_isLatin1_aae02_6 : decode cJ0_isLatin1_aae02 6 = .ok (.aload_n 0, 1) := by decide +kernel
theorem dJ0_isLatin1_aae02_7 : decode cJ0_isLatin1_aae02 7 = .ok (.getfield 15, 3) := by decide +kernel
theorem dJ0_isLatin1_aae02_10 : decode cJ0_isLatin1_aae02 10 = .ok (.ifCond .ne 7, 3) := by decide +kernel
theorem dJ0_isLatin1_aae02_13 : decode cJ0_isLatin1_aae02 13 = .ok (.iconst 1, 1) := by decide +kernel
theorem dJ0_isLatin1_aae02_14 : decode cJ0_isLatin1_aae02 14 = .ok (.goto 4, 3) := by decide +kernel
theorem dJ0_isLatin1_aae02_17 : decode cJ0_isLatin1_aae02 17 = .ok (.iconst 0, 1) := by decide +kernel
theorem dJ0_isLatin1_aae02_18 : decode cJ0_isLatin1_aae02 18 = .ok (.ireturn, 1) := by decide +kernel
theorem dJ0_checkIndex_df160_0 : decode cJ0_checkIndex_df160 0 = .ok (.iload_n 0, 1) := by decide +kernel
theorem dJ0_checkIndex_df160_1 : decode cJ0_checkIndex_df160 1 = .ok (.iload_n 1, 1) := by decide +kernel
theorem dJ0_checkIndex_df160_2 : decode cJ0_checkIndex_df160 2 = .ok (.getstatic 1053, 3) := by decide +kernel
theorem dJ0_checkIndex_df160_5 : decode cJ0_checkIndex_df160 5 = .ok (.invokestatic 1059, 3) := by decide +kernel
theorem dJ0_checkIndex_df160_8 : decode cJ0_checkIndex_df160 8 = .ok (.pop, 1) := by decide +kernel
theorem dJ0_checkIndex_df160_9 : decode cJ0_checkIndex_df160 9 = .ok (.return_, 1) := by decide +kernel
theorem dJ1_charAt_3b067_0 : decode cJ1_charAt_3b067 0 = .ok (.iload_n 1, 1) := by decide +kernel
theorem dJ1_charAt_3b067_1 : decode cJ1_charAt_3b067 1 = .ok (.aload_n 0, 1) := by decide +kernel
theorem dJ1_charAt_3b067_2 : decode cJ1_charAt_3b067 2 = .ok (.arraylength, 1) := by decide +kernel
theorem dJ1_charAt_3b067_3 : decode cJ1_charAt_3b067 3 = .ok (.invokestatic 9, 3) := by decide +kernel
theorem dJ1_charAt_3b067_6 : decode cJ1_charAt_3b067 6 = .ok (.aload_n 0, 1) := by decide +kernel
theorem dJ1_charAt_3b067_7 : decode cJ1_charAt_3b067 7 = .ok (.iload_n 1, 1) := by decide +kernel
theorem dJ1_charAt_3b067_8 : decode cJ1_charAt_3b067 8 = .ok (.baload, 1) := by decide +kernel
theorem dJ1_charAt_3b067_9 : decode cJ1_charAt_3b067 9 = .ok (.sipush 255, 3) := by decide +kernel
theorem dJ1_charAt_3b067_12 : decode cJ1_charAt_3b067 12 = .ok (.iand, 1) := by decide +kernel
theorem dJ1_charAt_3b067_13 : decode cJ1_charAt_3b067 13 = .ok (.i2c, 1) := by decide +kernel
theorem dJ1_charAt_3b067_14 : decode cJ1_charAt_3b067 14 = .ok (.ireturn, 1) := by decide +kernel
theorem dJ2_getChar_3b067_0 : decode cJ2_getChar_3b067 0 = .ok (.getstatic 44, 3) := by decide +kernel
theorem dJ2_getChar_3b067_3 : decode cJ2_getChar_3b067 3 = .ok (.ifCond .ne 25, 3) := by decide +kernel
theorem dJ2_getChar_3b067_6 : decode cJ2_getChar_3b067 6 = .ok (.iload_n 1, 1) := by decide +kernel
theorem dJ2_getChar_3b067_7 : decode cJ2_getChar_3b067 7 = .ok (.ifCond .lt 11, 3) := by decide +kernel
theorem dJ2_getChar_3b067_10 : decode cJ2_getChar_3b067 10 = .ok (.iload_n 1, 1) := by decide +kernel
theorem dJ2_getChar_3b067_11 : decode cJ2_getChar_3b067 11 = .ok (.aload_n 0, 1) := by decide +kernel
theorem dJ2_getChar_3b067_12 : decode cJ2_getChar_3b067 12 = .ok (.invokestatic 48, 3) := by decide +kernel
theorem dJ2_getChar_3b067_15 : decode cJ2_getChar_3b067 15 = .ok (.if_icmp .lt 13, 3) := by decide +kernel
theorem dJ2_getChar_3b067_18 : decode cJ2_getChar_3b067 18 = .ok (.new 52, 3) := by decide +kernel
theorem dJ2_getChar_3b067_21 : decode cJ2_getChar_3b067 21 = .ok (.dup, 1) := by decide +kernel
theorem dJ2_getChar_3b067_22 : decode cJ2_getChar_3b067 22 = .ok (.ldc 54, 2) := by decide +kernel
theorem dJ2_getChar_3b067_24 : decode cJ2_getChar_3b067 24 = .ok (.invokespecial 56, 3) := by decide +kernel
theorem dJ2_getChar_3b067_27 : decode cJ2_getChar_3b067 27 = .ok (.athrow, 1) := by decide +kernel
theorem dJ2_getChar_3b067_28 : decode cJ2_getChar_3b067 28 = .ok (.iload_n 1, 1) := by decide +kernel
theorem dJ2_getChar_3b067_29 : decode cJ2_getChar_3b067 29 = .ok (.iconst 1, 1) := by decide +kernel
theorem dJ2_getChar_3b067_30 : decode cJ2_getChar_3b067 30 = .ok (.ishl, 1) := by decide +kernel
theorem dJ2_getChar_3b067_31 : decode cJ2_getChar_3b067 31 = .ok (.istore_n 1, 1) := by decide +kernel
theorem dJ2_getChar_3b067_32 : decode cJ2_getChar_3b067 32 = .ok (.aload_n 0, 1) := by decide +kernel
theorem dJ2_getChar_3b067_33 : decode cJ2_getChar_3b067 33 = .ok (.iload_n 1, 1) := by decide +kernel
theorem dJ2_getChar_3b067_34 : decode cJ2_getChar_3b067 34 = .ok (.iinc 1 1, 3) := by decide +kernel
theorem dJ2_getChar_3b067_37 : decode cJ2_getChar_3b067 37 = .ok (.baload, 1) := by decide +kernel
theorem dJ2_getChar_3b067_38 : decode cJ2_getChar_3b067 38 = .ok (.sipush 255, 3) := by decide +kernel
theorem dJ2_getChar_3b067_41 : decode cJ2_getChar_3b067 41 = .ok (.iand, 1) := by decide +kernel
theorem dJ2_getChar_3b067_42 : decode cJ2_getChar_3b067 42 = .ok (.getstatic 59, 3) := by decide +kernel
theorem dJ2_getChar_3b067_45 : decode cJ2_getChar_3b067 45 = .ok (.ishl, 1) := by decide +kernel
theorem dJ2_getChar_3b067_46 : decode cJ2_getChar_3b067 46 = .ok (.aload_n 0, 1) := by decide +kernel
theorem dJ2_getChar_3b067_47 : decode cJ2_getChar_3b067 47 = .ok (.iload_n 1, 1) := by decide +kernel
theorem dJ2_getChar_3b067_48 : decode cJ2_getChar_3b067 48 = .ok (.baload, 1) := by decide +kernel
theorem dJ2_getChar_3b067_49 : decode cJ2_getChar_3b067 49 = .ok (.sipush 255, 3) := by decide +kernel
theorem dJ2_getChar_3b067_52 : decode cJ2_getChar_3b067 52 = .ok (.iand, 1) := by decide +kernel
theorem dJ2_getChar_3b067_53 : decode cJ2_getChar_3b067 53 = .ok (.getstatic 63, 3) := by decide +kernel
theorem dJ2_getChar_3b067_56 : decode cJ2_getChar_3b067 56 = .ok (.ishl, 1) := by decide +kernel
theorem dJ2_getChar_3b067_57 : decode cJ2_getChar_3b067 57 = .ok (.ior, 1) := by decide +kernel
theorem dJ2_getChar_3b067_58 : decode cJ2_getChar_3b067 58 = .ok (.i2c, 1) := by decide +kernel
theorem dJ2_getChar_3b067_59 : decode cJ2_getChar_3b067 59 = .ok (.ireturn, 1) := by decide +kernel
theorem dJ2_length_9d52b_0 : decode cJ2_length_9d52b 0 = .ok (.aload_n 0, 1) := by decide +kernel
theorem dJ2_length_9d52b_1 : decode cJ2_length_9d52b 1 = .ok (.arraylength, 1) := by decide +kernel
theorem dJ2_length_9d52b_2 : decode cJ2_length_9d52b 2 = .ok (.iconst 1, 1) := by decide +kernel
theorem dJ2_length_9d52b_3 : decode cJ2_length_9d52b 3 = .ok (.ishr, 1) := by decide +kernel
theorem dJ2_length_9d52b_4 : decode cJ2_length_9d52b 4 = .ok (.ireturn, 1) := by decide +kernel
theorem dJ2_charAt_3b067_0 : decode cJ2_charAt_3b067 0 = .ok (.iload_n 1, 1) := by decide +kernel
theorem dJ2_charAt_3b067_1 : decode cJ2_charAt_3b067 1 = .ok (.aload_n 0, 1) := by decide +kernel
theorem dJ2_charAt_3b067_2 : decode cJ2_charAt_3b067 2 = .ok (.invokestatic 67, 3) := by decide +kernel
theorem dJ2_charAt_3b067_5 : decode cJ2_charAt_3b067 5 = .ok (.aload_n 0, 1) := by decide +kernel
theorem dJ2_charAt_3b067_6 : decode cJ2_charAt_3b067 6 = .ok (.iload_n 1, 1) := by decide +kernel
theorem dJ2_charAt_3b067_7 : decode cJ2_charAt_3b067 7 = .ok (.invokestatic 71, 3) := by decide +kernel
theorem dJ2_charAt_3b067_10 : decode cJ2_charAt_3b067 10 = .ok (.ireturn, 1) := by decide +kernel
theorem dJ2_checkIndex_2214a_0 : decode cJ2_checkIndex_2214a 0 = .ok (.iload_n 0, 1) := by decide +kernel
theorem dJ2_checkIndex_2214a_1 : decode cJ2_checkIndex_2214a 1 = .ok (.aload_n 1, 1) := by decide +kernel
theorem dJ2_checkIndex_2214a_2 : decode cJ2_checkIndex_2214a 2 = .ok (.invokestatic 48, 3) := by decide +kernel
theorem dJ2_checkIndex_2214a_5 : decode cJ2_checkIndex_2214a 5 = .ok (.invokestatic 414, 3) := by decide +kernel
theorem dJ2_checkIndex_2214a_8 : decode cJ2_checkIndex_2214a 8 = .ok (.return_, 1) := by decide +kernel
theorem dJ7_fill_53178_0 : decode cJ7_fill_53178 0 = .ok (.iconst 0, 1) := by decide +kernel
theorem dJ7_fill_53178_1 : decode cJ7_fill_53178 1 = .ok (.istore_n 2, 1) := by decide +kernel
theorem dJ7_fill_53178_2 : decode cJ7_fill_53178 2 = .ok (.aload_n 0, 1) := by decide +kernel
theorem dJ7_fill_53178_3 : decode cJ7_fill_53178 3 = .ok (.arraylength, 1) := by decide +kernel
theorem dJ7_fill_53178_4 : decode cJ7_fill_53178 4 = .ok (.istore_n 3, 1) := by decide +kernel
theorem dJ7_fill_53178_5 : decode cJ7_fill_53178 5 = .ok (.iload_n 2, 1) := by decide +kernel
theorem dJ7_fill_53178_6 : decode cJ7_fill_53178 6 = .ok (.iload_n 3, 1) := by decide +kernel
theorem dJ7_fill_53178_7 : decode cJ7_fill_53178 7 = .ok (.if_icmp .ge 13, 3) := by decide +kernel
theorem dJ7_fill_53178_10 : decode cJ7_fill_53178 10 = .ok (.aload_n 0, 1) := by decide +kernel
theorem dJ7_fill_53178_11 : decode cJ7_fill_53178 11 = .ok (.iload_n 2, 1) := by decide +kernel
theorem dJ7_fill_53178_12 : decode cJ7_fill_53178 12 = .ok (.iload_n 1, 1) := by decide +kernel
theorem dJ7_fill_53178_13 : decode cJ7_fill_53178 13 = .ok (.iastore, 1) := by decide +kernel
theorem dJ7_fill_53178_14 : decode cJ7_fill_53178 14 = .ok (.iinc 2 1, 3) := by decide +kernel
theorem dJ7_fill_53178_17 : decode cJ7_fill_53178 17 = .ok (.goto (-12), 3) := by decide +kernel
theorem dJ7_fill_53178_20 : decode cJ7_fill_53178 20 = .ok (.return_, 1) := by decide +kernel
theorem dJ7_copyOf_59c91_0 : decode cJ7_copyOf_59c91 0 = .ok (.iload_n 1, 1) := by decide +kernel
theorem dJ7_copyOf_59c91_1 : decode cJ7_copyOf_59c91 1 = .ok (.aload_n 0, 1) := by decide +kernel
theorem dJ7_copyOf_59c91_2 : decode cJ7_copyOf_59c91 2 = .ok (.arraylength, 1) := by decide +kernel
theorem dJ7_copyOf_59c91_3 : decode cJ7_copyOf_59c91 3 = .ok (.if_icmp .ne 11, 3) := by decide +kernel
theorem dJ7_copyOf_59c91_6 : decode cJ7_copyOf_59c91 6 = .ok (.aload_n 0, 1) := by decide +kernel
theorem dJ7_copyOf_59c91_7 : decode cJ7_copyOf_59c91 7 = .ok (.invokevirtual 316, 3) := by decide +kernel
theorem dJ7_copyOf_59c91_10 : decode cJ7_copyOf_59c91 10 = .ok (.checkcast 317, 3) := by decide +kernel
theorem dJ7_copyOf_59c91_13 : decode cJ7_copyOf_59c91 13 = .ok (.areturn, 1) := by decide +kernel
theorem dJ7_copyOf_59c91_14 : decode cJ7_copyOf_59c91 14 = .ok (.iload_n 1, 1) := by decide +kernel
theorem dJ7_copyOf_59c91_15 : decode cJ7_copyOf_59c91 15 = .ok (.newarray .int, 2) := by decide +kernel
theorem dJ7_copyOf_59c91_17 : decode cJ7_copyOf_59c91 17 = .ok (.astore_n 2, 1) := by decide +kernel
theorem dJ7_copyOf_59c91_18 : decode cJ7_copyOf_59c91 18 = .ok (.aload_n 0, 1) := by decide +kernel
theorem dJ7_copyOf_59c91_19 : decode cJ7_copyOf_59c91 19 = .ok (.iconst 0, 1) := by decide +kernel
theorem dJ7_copyOf_59c91_20 : decode cJ7_copyOf_59c91 20 = .ok (.aload_n 2, 1) := by decide +kernel
theorem dJ7_copyOf_59c91_21 : decode cJ7_copyOf_59c91 21 = .ok (.iconst 0, 1) := by decide +kernel
theorem dJ7_copyOf_59c91_22 : decode cJ7_copyOf_59c91 22 = .ok (.aload_n 0, 1) := by decide +kernel
theorem dJ7_copyOf_59c91_23 : decode cJ7_copyOf_59c91 23 = .ok (.arraylength, 1) := by decide +kernel
theorem dJ7_copyOf_59c91_24 : decode cJ7_copyOf_59c91 24 = .ok (.iload_n 1, 1) := by decide +kernel
theorem dJ7_copyOf_59c91_25 : decode cJ7_copyOf_59c91 25 = .ok (.invokestatic 304, 3) := by decide +kernel
theorem dJ7_copyOf_59c91_28 : decode cJ7_copyOf_59c91 28 = .ok (.invokestatic 150, 3) := by decide +kernel
theorem dJ7_copyOf_59c91_31 : decode cJ7_copyOf_59c91 31 = .ok (.aload_n 2, 1) := by decide +kernel
theorem dJ7_copyOf_59c91_32 : decode cJ7_copyOf_59c91 32 = .ok (.areturn, 1) := by decide +kernel
theorem dJ3_checkIndex_8e157_0 : decode cJ3_checkIndex_8e157 0 = .ok (.iload_n 0, 1) := by decide +kernel
theorem dJ3_checkIndex_8e157_1 : decode cJ3_checkIndex_8e157 1 = .ok (.ifCond .lt 8, 3) := by decide +kernel
theorem dJ3_checkIndex_8e157_4 : decode cJ3_checkIndex_8e157 4 = .ok (.iload_n 0, 1) := by decide +kernel
theorem dJ3_checkIndex_8e157_5 : decode cJ3_checkIndex_8e157 5 = .ok (.iload_n 1, 1) := by decide +kernel
theorem dJ3_checkIndex_8e157_6 : decode cJ3_checkIndex_8e157 6 = .ok (.if_icmp .lt 10, 3) := by decide +kernel
theorem dJ3_checkIndex_8e157_9 : decode cJ3_checkIndex_8e157 9 = .ok (.aload_n 2, 1) := by decide +kernel
theorem dJ3_checkIndex_8e157_10 : decode cJ3_checkIndex_8e157 10 = .ok (.iload_n 0, 1) := by decide +kernel
theorem dJ3_checkIndex_8e157_11 : decode cJ3_checkIndex_8e157 11 = .ok (.iload_n 1, 1) := by decide +kernel
theorem dJ3_checkIndex_8e157_12 : decode cJ3_checkIndex_8e157 12 = .ok (.invokestatic 95, 3) := by decide +kernel
theorem dJ3_checkIndex_8e157_15 : decode cJ3_checkIndex_8e157 15 = .ok (.athrow, 1) := by decide +kernel
theorem dJ3_checkIndex_8e157_16 : decode cJ3_checkIndex_8e157 16 = .ok (.iload_n 0, 1) := by decide +kernel
theorem dJ3_checkIndex_8e157_17 : decode cJ3_checkIndex_8e157 17 = .ok (.ireturn, 1) := by decide +kernel
