theorem dX4_init_0 : decode cX4_init 0 = .ok (.aload_n 0, 1) := by decide +kernel
theorem dX4_init_1 : decode cX4_init 1 = .ok (.invokespecial 3, 3) := by decide +kernel
theorem dX4_init_4 : decode cX4_init 4 = .ok (.aload_n 0, 1) := by decide +kernel
theorem dX4_init_5 : decode cX4_init 5 = .ok (.iconst 0, 1) := by decide +kernel
theorem dX4_init_6 : decode cX4_init 6 = .ok (.anewarray 9, 3) := by decide +kernel
theorem dX4_init_9 : decode cX4_init 9 = .ok (.putfield 11, 3) := by decide +kernel
theorem dX4_init_12 : decode cX4_init 12 = .ok (.aload_n 0, 1) := by decide +kernel
theorem dX4_init_13 : decode cX4_init 13 = .ok (.iconst 0, 1) := by decide +kernel
theorem dX4_init_14 : decode cX4_init 14 = .ok (.putfield 17, 3) := by decide +kernel
theorem dX4_init_17 : decode cX4_init 17 = .ok (.aload_n 0, 1) := by decide +kernel
theorem dX4_init_18 : decode cX4_init 18 = .ok (.iconst (-1), 1) := by decide +kernel
theorem dX4_init_19 : decode cX4_init 19 = .ok (.putfield 21, 3) := by decide +kernel
theorem dX4_init_22 : decode cX4_init 22 = .ok (.aload_n 0, 1) := by decide +kernel
theorem dX4_init_23 : decode cX4_init 23 = .ok (.bipush 6, 2) := by decide +kernel
theorem dX4_init_25 : decode cX4_init 25 = .ok (.newarray .int, 2) := by decide +kernel
theorem dX4_init_27 : decode cX4_init 27 = .ok (.putfield 24, 3) := by decide +kernel
theorem dX4_init_30 : decode cX4_init 30 = .ok (.aload_n 0, 1) := by decide +kernel
theorem dX4_init_31 : decode cX4_init 31 = .ok (.iconst 4, 1) := by decide +kernel
theorem dX4_init_32 : decode cX4_init 32 = .ok (.newarray .int, 2) := by decide +kernel
theorem dX4_init_34 : decode cX4_init 34 = .ok (.putfield 28, 3) := by decide +kernel
theorem dX4_init_37 : decode cX4_init 37 = .ok (.aload_n 0, 1) := by decide +kernel
theorem dX4_init_38 : decode cX4_init 38 = .ok (.bipush 7, 2) := by decide +kernel
theorem dX4_init_40 : decode cX4_init 40 = .ok (.newarray .int, 2) := by decide +kernel
theorem dX4_init_42 : decode cX4_init 42 = .ok (.putfield 31, 3) := by decide +kernel
theorem dX4_init_45 : decode cX4_init 45 = .ok (.aload_n 0, 1) := by decide +kernel
theorem dX4_init_46 : decode cX4_init 46 = .ok (.bipush 7, 2) := by decide +kernel
theorem dX4_init_48 : decode cX4_init 48 = .ok (.newarray .int, 2) := by decide +kernel
theorem dX4_init_50 : decode cX4_init 50 = .ok (.putfield 34, 3) := by decide +kernel
theorem dX4_init_53 : decode cX4_init 53 = .ok (.aload_n 0, 1) := by decide +kernel
theorem dX4_init_54 : decode cX4_init 54 = .ok (.iconst 5, 1) := by decide +kernel
theorem dX4_init_55 : decode cX4_init 55 = .ok (.newarray .int, 2) := by decide +kernel
theorem dX4_init_57 : decode cX4_init 57 = .ok (.putfield 37, 3) := by decide +kernel
theorem dX4_init_60 : decode cX4_init 60 = .ok (.aload_n 0, 1) := by decide +kernel
theorem dX4_init_61 : decode cX4_init 61 = .ok (.iconst 5, 1) := by decide +kernel
theorem dX4_init_62 : decode cX4_init 62 = .ok (.newarray .int, 2) := by decide +kernel
theorem dX4_init_64 : decode cX4_init 64 = .ok (.putfield 40, 3) := by decide +kernel
theorem dX4_init_67 : decode cX4_init 67 = .ok (.aload_n 0, 1) := by decide +kernel
theorem dX4_init_68 : decode cX4_init 68 = .ok (.iconst 0, 1) := by decide +kernel
theorem dX4_init_69 : decode cX4_init 69 = .ok (.putfield 43, 3) := by decide +kernel
theorem dX4_init_72 : decode cX4_init 72 = .ok (.aload_n 0, 1) := by decide +kernel
theorem dX4_init_73 : decode cX4_init 73 = .ok (.iconst 0, 1) := by decide +kernel
theorem dX4_init_74 : decode cX4_init 74 = .ok (.putfield 46, 3) := by decide +kernel
theorem dX4_init_77 : decode cX4_init 77 = .ok (.aload_n 0, 1) := by decide +kernel
theorem dX4_init_78 : decode cX4_init 78 = .ok (.bipush 6, 2) := by decide +kernel
theorem dX4_init_80 : decode cX4_init 80 = .ok (.sipush 320, 3) := by decide +kernel
theorem dX4_init_83 : decode cX4_init 83 = .ok (.multianewarray 49 2, 4) := by decide +kernel
theorem dX4_init_87 : decode cX4_init 87 = .ok (.putfield 51, 3) := by decide +kernel
theorem dX4_init_90 : decode cX4_init 90 = .ok (.return_, 1) := by decide +kernel
theorem dX4_start_0 : decode cX4_start 0 = .ok (.aload_n 0, 1) := by decide +kernel
theorem dX4_start_1 : decode cX4_start 1 = .ok (.aload_n 1, 1) := by decide +kernel
theorem dX4_start_2 : decode cX4_start 2 = .ok (.getfield 54, 3) := by decide +kernel
theorem dX4_start_5 : decode cX4_start 5 = .ok (.putfield 11, 3) := by decide +kernel
theorem dX4_start_8 : decode cX4_start 8 = .ok (.aload_n 0, 1) := by decide +kernel
theorem dX4_start_9 : decode cX4_start 9 = .ok (.aload_n 1, 1) := by decide +kernel
theorem dX4_start_10 : decode cX4_start 10 = .ok (.getfield 57, 3) := by decide +kernel
theorem dX4_start_13 : decode cX4_start 13 = .ok (.putfield 17, 3) := by decide +kernel
theorem dX4_start_16 : decode cX4_start 16 = .ok (.aload_n 0, 1) := by decide +kernel
theorem dX4_start_17 : decode cX4_start 17 = .ok (.iconst (-1), 1) := by decide +kernel
theorem dX4_start_18 : decode cX4_start 18 = .ok (.putfield 21, 3) := by decide +kernel
theorem dX4_start_21 : decode cX4_start 21 = .ok (.aload_n 1, 1) := by decide +kernel
theorem dX4_start_22 : decode cX4_start 22 = .ok (.getfield 58, 3) := by decide +kernel
theorem dX4_start_25 : decode cX4_start 25 = .ok (.iconst 0, 1) := by decide +kernel
theorem dX4_start_26 : decode cX4_start 26 = .ok (.aload_n 0, 1) := by decide +kernel
theorem dX4_start_27 : decode cX4_start 27 = .ok (.getfield 24, 3) := by decide +kernel
theorem dX4_start_30 : decode cX4_start 30 = .ok (.iconst 0, 1) := by decide +kernel
theorem dX4_start_31 : decode cX4_start 31 = .ok (.bipush 6, 2) := by decide +kernel
theorem dX4_start_33 : decode cX4_start 33 = .ok (.invokestatic 59, 3) := by decide +kernel
theorem dX4_start_36 : decode cX4_start 36 = .ok (.aload_n 1, 1) := by decide +kernel
theorem dX4_start_37 : decode cX4_start 37 = .ok (.getfield 65, 3) := by decide +kernel
theorem dX4_start_40 : decode cX4_start 40 = .ok (.iconst 0, 1) := by decide +kernel
theorem dX4_start_41 : decode cX4_start 41 = .ok (.aload_n 0, 1) := by decide +kernel
theorem dX4_start_42 : decode cX4_start 42 = .ok (.getfield 28, 3) := by decide +kernel
theorem dX4_start_45 : decode cX4_start 45 = .ok (.iconst 0, 1) := by decide +kernel
theorem dX4_start_46 : decode cX4_start 46 = .ok (.iconst 4, 1) := by decide +kernel
theorem dX4_start_47 : decode cX4_start 47 = .ok (.invokestatic 59, 3) := by decide +kernel
theorem dX4_start_50 : decode cX4_start 50 = .ok (.aload_n 1, 1) := by decide +kernel
theorem dX4_start_51 : decode cX4_start 51 = .ok (.getfield 66, 3) := by decide +kernel
theorem dX4_start_54 : decode cX4_start 54 = .ok (.iconst 0, 1) := by decide +kernel
theorem dX4_start_55 : decode cX4_start 55 = .ok (.aload_n 0, 1) := by decide +kernel
theorem dX4_start_56 : decode cX4_start 56 = .ok (.getfield 31, 3) := by decide +kernel
theorem dX4_start_59 : decode cX4_start 59 = .ok (.iconst 0, 1) := by decide +kernel
theorem dX4_start_60 : decode cX4_start 60 = .ok (.bipush 7, 2) := by decide +kernel
theorem dX4_start_62 : decode cX4_start 62 = .ok (.invokestatic 59, 3) := by decide +kernel
theorem dX4_start_65 : decode cX4_start 65 = .ok (.aload_n 0, 1) := by decide +kernel
theorem dX4_start_66 : decode cX4_start 66 = .ok (.invokevirtual 67, 3) := by decide +kernel
theorem dX4_start_69 : decode cX4_start 69 = .ok (.iconst 0, 1) := by decide +kernel
theorem dX4_start_70 : decode cX4_start 70 = .ok (.istore_n 3, 1) := by decide +kernel
theorem dX4_start_71 : decode cX4_start 71 = .ok (.iload_n 3, 1) := by decide +kernel
theorem dX4_start_72 : decode cX4_start 72 = .ok (.aload_n 0, 1) := by decide +kernel
theorem dX4_start_73 : decode cX4_start 73 = .ok (.getfield 17, 3) := by decide +kernel
theorem dX4_start_76 : decode cX4_start 76 = .ok (.if_icmp .ge 19, 3) := by decide +kernel
theorem dX4_start_79 : decode cX4_start 79 = .ok (.aload_n 0, 1) := by decide +kernel
theorem dX4_start_80 : decode cX4_start 80 = .ok (.getfield 11, 3) := by decide +kernel
theorem dX4_start_83 : decode cX4_start 83 = .ok (.iload_n 3, 1) := by decide +kernel
theorem dX4_start_84 : decode cX4_start 84 = .ok (.aaload, 1) := by decide +kernel
theorem dX4_start_85 : decode cX4_start 85 = .ok (.aload_n 2, 1) := by decide +kernel
theorem dX4_start_86 : decode cX4_start 86 = .ok (.invokevirtual 70, 3) := by decide +kernel
theorem dX4_start_89 : decode cX4_start 89 = .ok (.iinc 3 1, 3) := by decide +kernel
theorem dX4_start_92 : decode cX4_start 92 = .ok (.goto (-21), 3) := by decide +kernel
theorem dX4_start_95 : decode cX4_start 95 = .ok (.aload_n 0, 1) := by decide +kernel
theorem dX4_start_96 : decode cX4_start 96 = .ok (.invokevirtual 74, 3) := by decide +kernel
theorem dX4_start_99 : decode cX4_start 99 = .ok (.return_, 1) := by decide +kernel
theorem dX4_sits_0 : decode cX4_sits 0 = .ok (.aload_n 0, 1) := by decide +kernel
theorem dX4_sits_1 : decode cX4_sits 1 = .ok (.getfield 28, 3) := by decide +kernel
theorem dX4_sits_4 : decode cX4_sits 4 = .ok (.iload_n 1, 1) := by decide +kernel
theorem dX4_sits_5 : decode cX4_sits 5 = .ok (.iload_n 2, 1) := by decide +kernel
theorem dX4_sits_6 : decode cX4_sits 6 = .ok (.iastore, 1) := by decide +kernel
theorem dX4_sits_7 : decode cX4_sits 7 = .ok (.aload_n 0, 1) := by decide +kernel
theorem dX4_sits_8 : decode cX4_sits 8 = .ok (.invokevirtual 67, 3) := by decide +kernel
theorem dX4_sits_11 : decode cX4_sits 11 = .ok (.return_, 1) := by decide +kernel
theorem dX4_lookAround_0 : decode cX4_lookAround 0 = .ok (.iconst 0, 1) := by decide +kernel
theorem dX4_lookAround_1 : decode cX4_lookAround 1 = .ok (.istore_n 1, 1) := by decide +kernel
theorem dX4_lookAround_2 : decode cX4_lookAround 2 = .ok (.iload_n 1, 1) := by decide +kernel
theorem dX4_lookAround_3 : decode cX4_lookAround 3 = .ok (.bipush 6, 2) := by decide +kernel
theorem dX4_lookAround_5 : decode cX4_lookAround 5 = .ok (.if_icmp .ge 30, 3) := by decide +kernel
theorem dX4_lookAround_8 : decode cX4_lookAround 8 = .ok (.aload_n 0, 1) := by decide +kernel
theorem dX4_lookAround_9 : decode cX4_lookAround 9 = .ok (.getfield 34, 3) := by decide +kernel
theorem dX4_lookAround_12 : decode cX4_lookAround 12 = .ok (.iload_n 1, 1) := by decide +kernel
theorem dX4_lookAround_13 : decode cX4_lookAround 13 = .ok (.iconst 1, 1) := by decide +kernel
theorem dX4_lookAround_14 : decode cX4_lookAround 14 = .ok (.iadd, 1) := by decide +kernel
theorem dX4_lookAround_15 : decode cX4_lookAround 15 = .ok (.aload_n 0, 1) := by decide +kernel
theorem dX4_lookAround_16 : decode cX4_lookAround 16 = .ok (.getfield 24, 3) := by decide +kernel
theorem dX4_lookAround_19 : decode cX4_lookAround 19 = .ok (.iload_n 1, 1) := by decide +kernel
theorem dX4_lookAround_20 : decode cX4_lookAround 20 = .ok (.iaload, 1) := by decide +kernel
theorem dX4_lookAround_21 : decode cX4_lookAround 21 = .ok (.aload_n 0, 1) := by decide +kernel
theorem dX4_lookAround_22 : decode cX4_lookAround 22 = .ok (.getfield 28, 3) := by decide +kernel
theorem dX4_lookAround_25 : decode cX4_lookAround 25 = .ok (.invokestatic 77, 3) := by decide +kernel
theorem dX4_lookAround_28 : decode cX4_lookAround 28 = .ok (.iastore, 1) := by decide +kernel
theorem dX4_lookAround_29 : decode cX4_lookAround 29 = .ok (.iinc 1 1, 3) := by decide +kernel
theorem dX4_lookAround_32 : decode cX4_lookAround 32 = .ok (.goto (-30), 3) := by decide +kernel
theorem dX4_lookAround_35 : decode cX4_lookAround 35 = .ok (.return_, 1) := by decide +kernel
theorem dX4_enterNow_0 : decode cX4_enterNow 0 = .ok (.iconst 0, 1) := by decide +kernel
theorem dX4_enterNow_1 : decode cX4_enterNow 1 = .ok (.istore_n 1, 1) := by decide +kernel
theorem dX4_enterNow_2 : decode cX4_enterNow 2 = .ok (.iload_n 1, 1) := by decide +kernel
theorem dX4_enterNow_3 : decode cX4_enterNow 3 = .ok (.aload_n 0, 1) := by decide +kernel
theorem dX4_enterNow_4 : decode cX4_enterNow 4 = .ok (.getfield 17, 3) := by decide +kernel
theorem dX4_enterNow_7 : decode cX4_enterNow 7 = .ok (.if_icmp .ge 36, 3) := by decide +kernel
theorem dX4_enterNow_10 : decode cX4_enterNow 10 = .ok (.aload_n 0, 1) := by decide +kernel
theorem dX4_enterNow_11 : decode cX4_enterNow 11 = .ok (.getfield 37, 3) := by decide +kernel
theorem dX4_enterNow_14 : decode cX4_enterNow 14 = .ok (.iload_n 1, 1) := by decide +kernel
theorem dX4_enterNow_15 : decode cX4_enterNow 15 = .ok (.iload_n 1, 1) := by decide +kernel
theorem dX4_enterNow_16 : decode cX4_enterNow 16 = .ok (.aload_n 0, 1) := by decide +kernel
theorem dX4_enterNow_17 : decode cX4_enterNow 17 = .ok (.getfield 21, 3) := by decide +kernel
theorem dX4_enterNow_20 : decode cX4_enterNow 20 = .ok (.if_icmp .ne 7, 3) := by decide +kernel
theorem dX4_enterNow_23 : decode cX4_enterNow 23 = .ok (.iconst (-1), 1) := by decide +kernel
theorem dX4_enterNow_24 : decode cX4_enterNow 24 = .ok (.goto 12, 3) := by decide +kernel
theorem dX4_enterNow_27 : decode cX4_enterNow 27 = .ok (.aload_n 0, 1) := by decide +kernel
theorem dX4_enterNow_28 : decode cX4_enterNow 28 = .ok (.getfield 11, 3) := by decide +kernel
theorem dX4_enterNow_31 : decode cX4_enterNow 31 = .ok (.iload_n 1, 1) := by decide +kernel
theorem dX4_enterNow_32 : decode cX4_enterNow 32 = .ok (.aaload, 1) := by decide +kernel
theorem dX4_enterNow_33 : decode cX4_enterNow 33 = .ok (.getfield 81, 3) := by decide +kernel
theorem dX4_enterNow_36 : decode cX4_enterNow 36 = .ok (.iastore, 1) := by decide +kernel
theorem dX4_enterNow_37 : decode cX4_enterNow 37 = .ok (.iinc 1 1, 3) := by decide +kernel
theorem dX4_enterNow_40 : decode cX4_enterNow 40 = .ok (.goto (-38), 3) := by decide +kernel
theorem dX4_enterNow_43 : decode cX4_enterNow 43 = .ok (.return_, 1) := by decide +kernel
theorem dX4_enters_0 : decode cX4_enters 0 = .ok (.iconst 0, 1) := by decide +kernel
theorem dX4_enters_1 : decode cX4_enters 1 = .ok (.istore_n 2, 1) := by decide +kernel
theorem dX4_enters_2 : decode cX4_enters 2 = .ok (.iconst 0, 1) := by decide +kernel
theorem dX4_enters_3 : decode cX4_enters 3 = .ok (.istore_n 3, 1) := by decide +kernel
theorem dX4_enters_4 : decode cX4_enters 4 = .ok (.iload_n 3, 1) := by decide +kernel
theorem dX4_enters_5 : decode cX4_enters 5 = .ok (.aload_n 0, 1) := by decide +kernel
theorem dX4_enters_6 : decode cX4_enters 6 = .ok (.getfield 17, 3) := by decide +kernel
theorem dX4_enters_9 : decode cX4_enters 9 = .ok (.if_icmp .ge 80, 3) := by decide +kernel
theorem dX4_enters_12 : decode cX4_enters 12 = .ok (.aload_n 0, 1) := by decide +kernel
theorem dX4_enters_13 : decode cX4_enters 13 = .ok (.getfield 37, 3) := by decide +kernel
theorem dX4_enters_16 : decode cX4_enters 16 = .ok (.iload_n 3, 1) := by decide +kernel
theorem dX4_enters_17 : decode cX4_enters 17 = .ok (.aload_n 1, 1) := by decide +kernel
theorem dX4_enters_18 : decode cX4_enters 18 = .ok (.iload_n 3, 1) := by decide +kernel
theorem dX4_enters_19 : decode cX4_enters 19 = .ok (.iaload, 1) := by decide +kernel
theorem dX4_enters_20 : decode cX4_enters 20 = .ok (.bipush 6, 2) := by decide +kernel
theorem dX4_enters_22 : decode cX4_enters 22 = .ok (.invokestatic 84, 3) := by decide +kernel
theorem dX4_enters_25 : decode cX4_enters 25 = .ok (.ifCond .eq 9, 3) := by decide +kernel
theorem dX4_enters_28 : decode cX4_enters 28 = .ok (.aload_n 1, 1) := by decide +kernel
theorem dX4_enters_29 : decode cX4_enters 29 = .ok (.iload_n 3, 1) := by decide +kernel
theorem dX4_enters_30 : decode cX4_enters 30 = .ok (.iaload, 1) := by decide +kernel
theorem dX4_enters_31 : decode cX4_enters 31 = .ok (.goto 4, 3) := by decide +kernel
theorem dX4_enters_34 : decode cX4_enters 34 = .ok (.iconst (-1), 1) := by decide +kernel
theorem dX4_enters_35 : decode cX4_enters 35 = .ok (.iastore, 1) := by decide +kernel
theorem dX4_enters_36 : decode cX4_enters 36 = .ok (.aload_n 0, 1) := by decide +kernel
theorem dX4_enters_37 : decode cX4_enters 37 = .ok (.getfield 37, 3) := by decide +kernel
theorem dX4_enters_40 : decode cX4_enters 40 = .ok (.iload_n 3, 1) := by decide +kernel
theorem dX4_enters_41 : decode cX4_enters 41 = .ok (.iaload, 1) := by decide +kernel
theorem dX4_enters_42 : decode cX4_enters 42 = .ok (.iconst 1, 1) := by decide +kernel
theorem dX4_enters_43 : decode cX4_enters 43 = .ok (.iadd, 1) := by decide +kernel
theorem dX4_enters_44 : decode cX4_enters 44 = .ok (.invokestatic 88, 3) := by decide +kernel
theorem dX4_enters_47 : decode cX4_enters 47 = .ok (.istore 4, 2) := by decide +kernel
theorem dX4_enters_49 : decode cX4_enters 49 = .ok (.iload_n 2, 1) := by decide +kernel
theorem dX4_enters_50 : decode cX4_enters 50 = .ok (.iload 4, 2) := by decide +kernel
theorem dX4_enters_52 : decode cX4_enters 52 = .ok (.iand, 1) := by decide +kernel
theorem dX4_enters_53 : decode cX4_enters 53 = .ok (.ifCond .ne 23, 3) := by decide +kernel
theorem dX4_enters_56 : decode cX4_enters 56 = .ok (.aload_n 0, 1) := by decide +kernel
theorem dX4_enters_57 : decode cX4_enters 57 = .ok (.getfield 11, 3) := by decide +kernel
theorem dX4_enters_60 : decode cX4_enters 60 = .ok (.iload_n 3, 1) := by decide +kernel
theorem dX4_enters_61 : decode cX4_enters 61 = .ok (.aaload, 1) := by decide +kernel
theorem dX4_enters_62 : decode cX4_enters 62 = .ok (.aload_n 0, 1) := by decide +kernel
theorem dX4_enters_63 : decode cX4_enters 63 = .ok (.getfield 37, 3) := by decide +kernel
theorem dX4_enters_66 : decode cX4_enters 66 = .ok (.iload_n 3, 1) := by decide +kernel
theorem dX4_enters_67 : decode cX4_enters 67 = .ok (.iaload, 1) := by decide +kernel
theorem dX4_enters_68 : decode cX4_enters 68 = .ok (.iconst 1, 1) := by decide +kernel
theorem dX4_enters_69 : decode cX4_enters 69 = .ok (.iadd, 1) := by decide +kernel
theorem dX4_enters_70 : decode cX4_enters 70 = .ok (.invokevirtual 92, 3) := by decide +kernel
theorem dX4_enters_73 : decode cX4_enters 73 = .ok (.ifCond .eq 5, 3) := by decide +kernel
theorem dX4_enters_76 : decode cX4_enters 76 = .ok (.iconst 0, 1) := by decide +kernel
theorem dX4_enters_77 : decode cX4_enters 77 = .ok (.ireturn, 1) := by decide +kernel
theorem dX4_enters_78 : decode cX4_enters 78 = .ok (.iload_n 2, 1) := by decide +kernel
theorem dX4_enters_79 : decode cX4_enters 79 = .ok (.iload 4, 2) := by decide +kernel
theorem dX4_enters_81 : decode cX4_enters 81 = .ok (.ior, 1) := by decide +kernel
theorem dX4_enters_82 : decode cX4_enters 82 = .ok (.istore_n 2, 1) := by decide +kernel
theorem dX4_enters_83 : decode cX4_enters 83 = .ok (.iinc 3 1, 3) := by decide +kernel
theorem dX4_enters_86 : decode cX4_enters 86 = .ok (.goto (-82), 3) := by decide +kernel
theorem dX4_enters_89 : decode cX4_enters 89 = .ok (.iconst 1, 1) := by decide +kernel
theorem dX4_enters_90 : decode cX4_enters 90 = .ok (.ireturn, 1) := by decide +kernel
theorem dX4_badDay_0 : decode cX4_badDay 0 = .ok (.iconst 0, 1) := by decide +kernel
theorem dX4_badDay_1 : decode cX4_badDay 1 = .ok (.istore_n 2, 1) := by decide +kernel
theorem dX4_badDay_2 : decode cX4_badDay 2 = .ok (.iconst 0, 1) := by decide +kernel
theorem dX4_badDay_3 : decode cX4_badDay 3 = .ok (.istore_n 3, 1) := by decide +kernel
theorem dX4_badDay_4 : decode cX4_badDay 4 = .ok (.iload_n 3, 1) := by decide +kernel
theorem dX4_badDay_5 : decode cX4_badDay 5 = .ok (.aload_n 0, 1) := by decide +kernel
theorem dX4_badDay_6 : decode cX4_badDay 6 = .ok (.getfield 17, 3) := by decide +kernel
theorem dX4_badDay_9 : decode cX4_badDay 9 = .ok (.if_icmp .ge 41, 3) := by decide +kernel
theorem dX4_badDay_12 : decode cX4_badDay 12 = .ok (.aload_n 0, 1) := by decide +kernel
theorem dX4_badDay_13 : decode cX4_badDay 13 = .ok (.getfield 37, 3) := by decide +kernel
theorem dX4_badDay_16 : decode cX4_badDay 16 = .ok (.iload_n 3, 1) := by decide +kernel
theorem dX4_badDay_17 : decode cX4_badDay 17 = .ok (.iaload, 1) := by decide +kernel
theorem dX4_badDay_18 : decode cX4_badDay 18 = .ok (.iconst 1, 1) := by decide +kernel
theorem dX4_badDay_19 : decode cX4_badDay 19 = .ok (.iadd, 1) := by decide +kernel
theorem dX4_badDay_20 : decode cX4_badDay 20 = .ok (.istore 4, 2) := by decide +kernel
theorem dX4_badDay_22 : decode cX4_badDay 22 = .ok (.iload_n 2, 1) := by decide +kernel
theorem dX4_badDay_23 : decode cX4_badDay 23 = .ok (.aload_n 0, 1) := by decide +kernel
theorem dX4_badDay_24 : decode cX4_badDay 24 = .ok (.getfield 11, 3) := by decide +kernel
theorem dX4_badDay_27 : decode cX4_badDay 27 = .ok (.iload_n 3, 1) := by decide +kernel
theorem dX4_badDay_28 : decode cX4_badDay 28 = .ok (.aaload, 1) := by decide +kernel
theorem dX4_badDay_29 : decode cX4_badDay 29 = .ok (.iload 4, 2) := by decide +kernel
theorem dX4_badDay_31 : decode cX4_badDay 31 = .ok (.iload_n 1, 1) := by decide +kernel
theorem dX4_badDay_32 : decode cX4_badDay 32 = .ok (.aload_n 0, 1) := by decide +kernel
theorem dX4_badDay_33 : decode cX4_badDay 33 = .ok (.getfield 34, 3) := by decide +kernel
theorem dX4_badDay_36 : decode cX4_badDay 36 = .ok (.iload 4, 2) := by decide +kernel
theorem dX4_badDay_38 : decode cX4_badDay 38 = .ok (.iaload, 1) := by decide +kernel
theorem dX4_badDay_39 : decode cX4_badDay 39 = .ok (.invokevirtual 96, 3) := by decide +kernel
theorem dX4_badDay_42 : decode cX4_badDay 42 = .ok (.iadd, 1) := by decide +kernel
theorem dX4_badDay_43 : decode cX4_badDay 43 = .ok (.istore_n 2, 1) := by decide +kernel
theorem dX4_badDay_44 : decode cX4_badDay 44 = .ok (.iinc 3 1, 3) := by decide +kernel
theorem dX4_badDay_47 : decode cX4_badDay 47 = .ok (.goto (-43), 3) := by decide +kernel
theorem dX4_badDay_50 : decode cX4_badDay 50 = .ok (.iload_n 2, 1) := by decide +kernel
theorem dX4_badDay_51 : decode cX4_badDay 51 = .ok (.ireturn, 1) := by decide +kernel
theorem dX4_thingsThat_0 : decode cX4_thingsThat 0 = .ok (.iconst 0, 1) := by decide +kernel
theorem dX4_thingsThat_1 : decode cX4_thingsThat 1 = .ok (.istore_n 3, 1) := by decide +kernel
theorem dX4_thingsThat_2 : decode cX4_thingsThat 2 = .ok (.iconst 0, 1) := by decide +kernel
theorem dX4_thingsThat_3 : decode cX4_thingsThat 3 = .ok (.istore 4, 2) := by decide +kernel
theorem dX4_thingsThat_5 : decode cX4_thingsThat 5 = .ok (.iload 4, 2) := by decide +kernel
theorem dX4_thingsThat_7 : decode cX4_thingsThat 7 = .ok (.aload_n 0, 1) := by decide +kernel
theorem dX4_thingsThat_8 : decode cX4_thingsThat 8 = .ok (.getfield 17, 3) := by decide +kernel
theorem dX4_thingsThat_11 : decode cX4_thingsThat 11 = .ok (.if_icmp .ge 102, 3) := by decide +kernel
theorem dX4_thingsThat_14 : decode cX4_thingsThat 14 = .ok (.aload_n 0, 1) := by decide +kernel
theorem dX4_thingsThat_15 : decode cX4_thingsThat 15 = .ok (.getfield 34, 3) := by decide +kernel
theorem dX4_thingsThat_18 : decode cX4_thingsThat 18 = .ok (.aload_n 0, 1) := by decide +kernel
theorem dX4_thingsThat_19 : decode cX4_thingsThat 19 = .ok (.getfield 37, 3) := by decide +kernel
theorem dX4_thingsThat_22 : decode cX4_thingsThat 22 = .ok (.iload 4, 2) := by decide +kernel
theorem dX4_thingsThat_24 : decode cX4_thingsThat 24 = .ok (.iaload, 1) := by decide +kernel
theorem dX4_thingsThat_25 : decode cX4_thingsThat 25 = .ok (.iconst 1, 1) := by decide +kernel
theorem dX4_thingsThat_26 : decode cX4_thingsThat 26 = .ok (.iadd, 1) := by decide +kernel
theorem dX4_thingsThat_27 : decode cX4_thingsThat 27 = .ok (.iaload, 1) := by decide +kernel
theorem dX4_thingsThat_28 : decode cX4_thingsThat 28 = .ok (.istore 5, 2) := by decide +kernel
theorem dX4_thingsThat_30 : decode cX4_thingsThat 30 = .ok (.iload_n 2, 1) := by decide +kernel
theorem dX4_thingsThat_31 : decode cX4_thingsThat 31 = .ok (.iconst 1, 1) := by decide +kernel
theorem dX4_thingsThat_32 : decode cX4_thingsThat 32 = .ok (.if_icmp .ne 19, 3) := by decide +kernel
theorem dX4_thingsThat_35 : decode cX4_thingsThat 35 = .ok (.aload_n 0, 1) := by decide +kernel
theorem dX4_thingsThat_36 : decode cX4_thingsThat 36 = .ok (.getfield 11, 3) := by decide +kernel
theorem dX4_thingsThat_39 : decode cX4_thingsThat 39 = .ok (.iload 4, 2) := by decide +kernel
theorem dX4_thingsThat_41 : decode cX4_thingsThat 41 = .ok (.aaload, 1) := by decide +kernel
theorem dX4_thingsThat_42 : decode cX4_thingsThat 42 = .ok (.iload_n 1, 1) := by decide +kernel
theorem dX4_thingsThat_43 : decode cX4_thingsThat 43 = .ok (.iload 5, 2) := by decide +kernel
theorem dX4_thingsThat_45 : decode cX4_thingsThat 45 = .ok (.invokevirtual 100, 3) := by decide +kernel
theorem dX4_thingsThat_48 : decode cX4_thingsThat 48 = .ok (.goto 45, 3) := by decide +kernel
theorem dX4_thingsThat_51 : decode cX4_thingsThat 51 = .ok (.iload_n 2, 1) := by decide +kernel
theorem dX4_thingsThat_52 : decode cX4_thingsThat 52 = .ok (.iconst 2, 1) := by decide +kernel
theorem dX4_thingsThat_53 : decode cX4_thingsThat 53 = .ok (.if_icmp .ne 19, 3) := by decide +kernel
theorem dX4_thingsThat_56 : decode cX4_thingsThat 56 = .ok (.aload_n 0, 1) := by decide +kernel
theorem dX4_thingsThat_57 : decode cX4_thingsThat 57 = .ok (.getfield 11, 3) := by decide +kernel
theorem dX4_thingsThat_60 : decode cX4_thingsThat 60 = .ok (.iload 4, 2) := by decide +kernel
theorem dX4_thingsThat_62 : decode cX4_thingsThat 62 = .ok (.aaload, 1) := by decide +kernel
theorem dX4_thingsThat_63 : decode cX4_thingsThat 63 = .ok (.iload_n 1, 1) := by decide +kernel
theorem dX4_thingsThat_64 : decode cX4_thingsThat 64 = .ok (.iload 5, 2) := by decide +kernel
theorem dX4_thingsThat_66 : decode cX4_thingsThat 66 = .ok (.invokevirtual 103, 3) := by decide +kernel
theorem dX4_thingsThat_69 : decode cX4_thingsThat 69 = .ok (.goto 24, 3) := by decide +kernel
theorem dX4_thingsThat_72 : decode cX4_thingsThat 72 = .ok (.aload_n 0, 1) := by decide +kernel
theorem dX4_thingsThat_73 : decode cX4_thingsThat 73 = .ok (.getfield 11, 3) := by decide +kernel
theorem dX4_thingsThat_76 : decode cX4_thingsThat 76 = .ok (.iload 4, 2) := by decide +kernel
theorem dX4_thingsThat_78 : decode cX4_thingsThat 78 = .ok (.aaload, 1) := by decide +kernel
theorem dX4_thingsThat_79 : decode cX4_thingsThat 79 = .ok (.iload_n 1, 1) := by decide +kernel
theorem dX4_thingsThat_80 : decode cX4_thingsThat 80 = .ok (.iload 5, 2) := by decide +kernel
theorem dX4_thingsThat_82 : decode cX4_thingsThat 82 = .ok (.invokevirtual 106, 3) := by decide +kernel
theorem dX4_thingsThat_85 : decode cX4_thingsThat 85 = .ok (.ifCond .ne 7, 3) := by decide +kernel
theorem dX4_thingsThat_88 : decode cX4_thingsThat 88 = .ok (.iconst 1, 1) := by decide +kernel
theorem dX4_thingsThat_89 : decode cX4_thingsThat 89 = .ok (.goto 4, 3) := by decide +kernel
theorem dX4_thingsThat_92 : decode cX4_thingsThat 92 = .ok (.iconst 0, 1) := by decide +kernel
theorem dX4_thingsThat_93 : decode cX4_thingsThat 93 = .ok (.istore 6, 2) := by decide +kernel
theorem dX4_thingsThat_95 : decode cX4_thingsThat 95 = .ok (.iload 6, 2) := by decide +kernel
theorem dX4_thingsThat_97 : decode cX4_thingsThat 97 = .ok (.ifCond .eq 10, 3) := by decide +kernel
theorem dX4_thingsThat_100 : decode cX4_thingsThat 100 = .ok (.iload_n 3, 1) := by decide +kernel
theorem dX4_thingsThat_101 : decode cX4_thingsThat 101 = .ok (.iconst 1, 1) := by decide +kernel
theorem dX4_thingsThat_102 : decode cX4_thingsThat 102 = .ok (.iload 4, 2) := by decide +kernel
theorem dX4_thingsThat_104 : decode cX4_thingsThat 104 = .ok (.ishl, 1) := by decide +kernel
theorem dX4_thingsThat_105 : decode cX4_thingsThat 105 = .ok (.ior, 1) := by decide +kernel
theorem dX4_thingsThat_106 : decode cX4_thingsThat 106 = .ok (.istore_n 3, 1) := by decide +kernel
theorem dX4_thingsThat_107 : decode cX4_thingsThat 107 = .ok (.iinc 4 1, 3) := by decide +kernel
theorem dX4_thingsThat_110 : decode cX4_thingsThat 110 = .ok (.goto (-105), 3) := by decide +kernel
theorem dX4_thingsThat_113 : decode cX4_thingsThat 113 = .ok (.iload_n 3, 1) := by decide +kernel
theorem dX4_thingsThat_114 : decode cX4_thingsThat 114 = .ok (.ireturn, 1) := by decide +kernel
theorem dX4_surprised_0 : decode cX4_surprised 0 = .ok (.iconst 0, 1) := by decide +kernel
theorem dX4_surprised_1 : decode cX4_surprised 1 = .ok (.istore_n 1, 1) := by decide +kernel
theorem dX4_surprised_2 : decode cX4_surprised 2 = .ok (.iconst 0, 1) := by decide +kernel
theorem dX4_surprised_3 : decode cX4_surprised 3 = .ok (.istore_n 2, 1) := by decide +kernel
theorem dX4_surprised_4 : decode cX4_surprised 4 = .ok (.iload_n 2, 1) := by decide +kernel
theorem dX4_surprised_5 : decode cX4_surprised 5 = .ok (.aload_n 0, 1) := by decide +kernel
theorem dX4_surprised_6 : decode cX4_surprised 6 = .ok (.getfield 17, 3) := by decide +kernel
theorem dX4_surprised_9 : decode cX4_surprised 9 = .ok (.if_icmp .ge 51, 3) := by decide +kernel
theorem dX4_surprised_12 : decode cX4_surprised 12 = .ok (.iconst 1, 1) := by decide +kernel
theorem dX4_surprised_13 : decode cX4_surprised 13 = .ok (.aload_n 0, 1) := by decide +kernel
theorem dX4_surprised_14 : decode cX4_surprised 14 = .ok (.getfield 11, 3) := by decide +kernel
theorem dX4_surprised_17 : decode cX4_surprised 17 = .ok (.iload_n 2, 1) := by decide +kernel
theorem dX4_surprised_18 : decode cX4_surprised 18 = .ok (.aaload, 1) := by decide +kernel
theorem dX4_surprised_19 : decode cX4_surprised 19 = .ok (.getfield 110, 3) := by decide +kernel
theorem dX4_surprised_22 : decode cX4_surprised 22 = .ok (.ishl, 1) := by decide +kernel
theorem dX4_surprised_23 : decode cX4_surprised 23 = .ok (.istore_n 3, 1) := by decide +kernel
theorem dX4_surprised_24 : decode cX4_surprised 24 = .ok (.aload_n 0, 1) := by decide +kernel
theorem dX4_surprised_25 : decode cX4_surprised 25 = .ok (.getfield 11, 3) := by decide +kernel
theorem dX4_surprised_28 : decode cX4_surprised 28 = .ok (.iload_n 2, 1) := by decide +kernel
theorem dX4_surprised_29 : decode cX4_surprised 29 = .ok (.aaload, 1) := by decide +kernel
theorem dX4_surprised_30 : decode cX4_surprised 30 = .ok (.iload_n 3, 1) := by decide +kernel
theorem dX4_surprised_31 : decode cX4_surprised 31 = .ok (.aload_n 0, 1) := by decide +kernel
theorem dX4_surprised_32 : decode cX4_surprised 32 = .ok (.getfield 34, 3) := by decide +kernel
theorem dX4_surprised_35 : decode cX4_surprised 35 = .ok (.aload_n 0, 1) := by decide +kernel
theorem dX4_surprised_36 : decode cX4_surprised 36 = .ok (.getfield 37, 3) := by decide +kernel
theorem dX4_surprised_39 : decode cX4_surprised 39 = .ok (.iload_n 2, 1) := by decide +kernel
theorem dX4_surprised_40 : decode cX4_surprised 40 = .ok (.iaload, 1) := by decide +kernel
theorem dX4_surprised_41 : decode cX4_surprised 41 = .ok (.iconst 1, 1) := by decide +kernel
theorem dX4_surprised_42 : decode cX4_surprised 42 = .ok (.iadd, 1) := by decide +kernel
theorem dX4_surprised_43 : decode cX4_surprised 43 = .ok (.iaload, 1) := by decide +kernel
theorem dX4_surprised_44 : decode cX4_surprised 44 = .ok (.invokevirtual 100, 3) := by decide +kernel
theorem dX4_surprised_47 : decode cX4_surprised 47 = .ok (.ifCond .eq 7, 3) := by decide +kernel
theorem dX4_surprised_50 : decode cX4_surprised 50 = .ok (.iload_n 1, 1) := by decide +kernel
theorem dX4_surprised_51 : decode cX4_surprised 51 = .ok (.iload_n 3, 1) := by decide +kernel
theorem dX4_surprised_52 : decode cX4_surprised 52 = .ok (.ior, 1) := by decide +kernel
theorem dX4_surprised_53 : decode cX4_surprised 53 = .ok (.istore_n 1, 1) := by decide +kernel
theorem dX4_surprised_54 : decode cX4_surprised 54 = .ok (.iinc 2 1, 3) := by decide +kernel
theorem dX4_surprised_57 : decode cX4_surprised 57 = .ok (.goto (-53), 3) := by decide +kernel
theorem dX4_surprised_60 : decode cX4_surprised 60 = .ok (.iload_n 1, 1) := by decide +kernel
theorem dX4_surprised_61 : decode cX4_surprised 61 = .ok (.ireturn, 1) := by decide +kernel
theorem dX4_expected_0 : decode cX4_expected 0 = .ok (.iconst 0, 1) := by decide +kernel
theorem dX4_expected_1 : decode cX4_expected 1 = .ok (.istore_n 1, 1) := by decide +kernel
theorem dX4_expected_2 : decode cX4_expected 2 = .ok (.iconst 0, 1) := by decide +kernel
theorem dX4_expected_3 : decode cX4_expected 3 = .ok (.istore_n 2, 1) := by decide +kernel
theorem dX4_expected_4 : decode cX4_expected 4 = .ok (.iload_n 2, 1) := by decide +kernel
theorem dX4_expected_5 : decode cX4_expected 5 = .ok (.bipush 16, 2) := by decide +kernel
theorem dX4_expected_7 : decode cX4_expected 7 = .ok (.if_icmp .ge 37, 3) := by decide +kernel
theorem dX4_expected_10 : decode cX4_expected 10 = .ok (.aload_n 0, 1) := by decide +kernel
theorem dX4_expected_11 : decode cX4_expected 11 = .ok (.invokevirtual 113, 3) := by decide +kernel
theorem dX4_expected_14 : decode cX4_expected 14 = .ok (.aload_n 0, 1) := by decide +kernel
theorem dX4_expected_15 : decode cX4_expected 15 = .ok (.iload_n 2, 1) := by decide +kernel
theorem dX4_expected_16 : decode cX4_expected 16 = .ok (.invokevirtual 116, 3) := by decide +kernel
theorem dX4_expected_19 : decode cX4_expected 19 = .ok (.aload_n 0, 1) := by decide +kernel
theorem dX4_expected_20 : decode cX4_expected 20 = .ok (.iload_n 2, 1) := by decide +kernel
theorem dX4_expected_21 : decode cX4_expected 21 = .ok (.invokevirtual 120, 3) := by decide +kernel
theorem dX4_expected_24 : decode cX4_expected 24 = .ok (.aload_n 0, 1) := by decide +kernel
theorem dX4_expected_25 : decode cX4_expected 25 = .ok (.iconst 5, 1) := by decide +kernel
theorem dX4_expected_26 : decode cX4_expected 26 = .ok (.invokevirtual 123, 3) := by decide +kernel
theorem dX4_expected_29 : decode cX4_expected 29 = .ok (.if_icmp .ne 9, 3) := by decide +kernel
theorem dX4_expected_32 : decode cX4_expected 32 = .ok (.iload_n 1, 1) := by decide +kernel
theorem dX4_expected_33 : decode cX4_expected 33 = .ok (.iconst 1, 1) := by decide +kernel
theorem dX4_expected_34 : decode cX4_expected 34 = .ok (.iload_n 2, 1) := by decide +kernel
theorem dX4_expected_35 : decode cX4_expected 35 = .ok (.ishl, 1) := by decide +kernel
theorem dX4_expected_36 : decode cX4_expected 36 = .ok (.ior, 1) := by decide +kernel
theorem dX4_expected_37 : decode cX4_expected 37 = .ok (.istore_n 1, 1) := by decide +kernel
theorem dX4_expected_38 : decode cX4_expected 38 = .ok (.iinc 2 1, 3) := by decide +kernel
theorem dX4_expected_41 : decode cX4_expected 41 = .ok (.goto (-37), 3) := by decide +kernel
theorem dX4_expected_44 : decode cX4_expected 44 = .ok (.iload_n 1, 1) := by decide +kernel
theorem dX4_expected_45 : decode cX4_expected 45 = .ok (.ireturn, 1) := by decide +kernel
theorem dX4_bestFor_0 : decode cX4_bestFor 0 = .ok (.aload_n 0, 1) := by decide +kernel
theorem dX4_bestFor_1 : decode cX4_bestFor 1 = .ok (.invokevirtual 113, 3) := by decide +kernel
theorem dX4_bestFor_4 : decode cX4_bestFor 4 = .ok (.aload_n 0, 1) := by decide +kernel
theorem dX4_bestFor_5 : decode cX4_bestFor 5 = .ok (.invokevirtual 126, 3) := by decide +kernel
theorem dX4_bestFor_8 : decode cX4_bestFor 8 = .ok (.aload_n 0, 1) := by decide +kernel
theorem dX4_bestFor_9 : decode cX4_bestFor 9 = .ok (.iload_n 1, 1) := by decide +kernel
theorem dX4_bestFor_10 : decode cX4_bestFor 10 = .ok (.invokevirtual 116, 3) := by decide +kernel
theorem dX4_bestFor_13 : decode cX4_bestFor 13 = .ok (.aload_n 0, 1) := by decide +kernel
theorem dX4_bestFor_14 : decode cX4_bestFor 14 = .ok (.iload_n 2, 1) := by decide +kernel
theorem dX4_bestFor_15 : decode cX4_bestFor 15 = .ok (.invokevirtual 123, 3) := by decide +kernel
theorem dX4_bestFor_18 : decode cX4_bestFor 18 = .ok (.ireturn, 1) := by decide +kernel
theorem dX4_onceCost_0 : decode cX4_onceCost 0 = .ok (.aload_n 0, 1) := by decide +kernel
theorem dX4_onceCost_1 : decode cX4_onceCost 1 = .ok (.invokevirtual 74, 3) := by decide +kernel
theorem dX4_onceCost_4 : decode cX4_onceCost 4 = .ok (.aload_n 0, 1) := by decide +kernel
theorem dX4_onceCost_5 : decode cX4_onceCost 5 = .ok (.invokevirtual 113, 3) := by decide +kernel
theorem dX4_onceCost_8 : decode cX4_onceCost 8 = .ok (.aload_n 0, 1) := by decide +kernel
theorem dX4_onceCost_9 : decode cX4_onceCost 9 = .ok (.invokevirtual 126, 3) := by decide +kernel
theorem dX4_onceCost_12 : decode cX4_onceCost 12 = .ok (.iconst 0, 1) := by decide +kernel
theorem dX4_onceCost_13 : decode cX4_onceCost 13 = .ok (.istore_n 1, 1) := by decide +kernel
theorem dX4_onceCost_14 : decode cX4_onceCost 14 = .ok (.iload_n 1, 1) := by decide +kernel
theorem dX4_onceCost_15 : decode cX4_onceCost 15 = .ok (.bipush 7, 2) := by decide +kernel
theorem dX4_onceCost_17 : decode cX4_onceCost 17 = .ok (.if_icmp .ge 19, 3) := by decide +kernel
theorem dX4_onceCost_20 : decode cX4_onceCost 20 = .ok (.aload_n 0, 1) := by decide +kernel
theorem dX4_onceCost_21 : decode cX4_onceCost 21 = .ok (.aload_n 0, 1) := by decide +kernel
theorem dX4_onceCost_22 : decode cX4_onceCost 22 = .ok (.getfield 31, 3) := by decide +kernel
theorem dX4_onceCost_25 : decode cX4_onceCost 25 = .ok (.iload_n 1, 1) := by decide +kernel
theorem dX4_onceCost_26 : decode cX4_onceCost 26 = .ok (.iaload, 1) := by decide +kernel
theorem dX4_onceCost_27 : decode cX4_onceCost 27 = .ok (.invokevirtual 116, 3) := by decide +kernel
theorem dX4_onceCost_30 : decode cX4_onceCost 30 = .ok (.iinc 1 1, 3) := by decide +kernel
theorem dX4_onceCost_33 : decode cX4_onceCost 33 = .ok (.goto (-19), 3) := by decide +kernel
theorem dX4_onceCost_36 : decode cX4_onceCost 36 = .ok (.aload_n 0, 1) := by decide +kernel
theorem dX4_onceCost_37 : decode cX4_onceCost 37 = .ok (.iconst 5, 1) := by decide +kernel
theorem dX4_onceCost_38 : decode cX4_onceCost 38 = .ok (.invokevirtual 123, 3) := by decide +kernel
theorem dX4_onceCost_41 : decode cX4_onceCost 41 = .ok (.ireturn, 1) := by decide +kernel
theorem dX4_weekCost_0 : decode cX4_weekCost 0 = .ok (.aload_n 0, 1) := by decide +kernel
theorem dX4_weekCost_1 : decode cX4_weekCost 1 = .ok (.invokevirtual 74, 3) := by decide +kernel
theorem dX4_weekCost_4 : decode cX4_weekCost 4 = .ok (.aload_n 0, 1) := by decide +kernel
theorem dX4_weekCost_5 : decode cX4_weekCost 5 = .ok (.iconst 0, 1) := by decide +kernel
theorem dX4_weekCost_6 : decode cX4_weekCost 6 = .ok (.putfield 43, 3) := by decide +kernel
theorem dX4_weekCost_9 : decode cX4_weekCost 9 = .ok (.aload_n 0, 1) := by decide +kernel
theorem dX4_weekCost_10 : decode cX4_weekCost 10 = .ok (.iconst 0, 1) := by decide +kernel
theorem dX4_weekCost_11 : decode cX4_weekCost 11 = .ok (.putfield 46, 3) := by decide +kernel
theorem dX4_weekCost_14 : decode cX4_weekCost 14 = .ok (.iconst 0, 1) := by decide +kernel
theorem dX4_weekCost_15 : decode cX4_weekCost 15 = .ok (.istore_n 1, 1) := by decide +kernel
theorem dX4_weekCost_16 : decode cX4_weekCost 16 = .ok (.iconst 0, 1) := by decide +kernel
theorem dX4_weekCost_17 : decode cX4_weekCost 17 = .ok (.istore_n 2, 1) := by decide +kernel
theorem dX4_weekCost_18 : decode cX4_weekCost 18 = .ok (.iload_n 2, 1) := by decide +kernel
theorem dX4_weekCost_19 : decode cX4_weekCost 19 = .ok (.bipush 7, 2) := by decide +kernel
theorem dX4_weekCost_21 : decode cX4_weekCost 21 = .ok (.if_icmp .ge 56, 3) := by decide +kernel
theorem dX4_weekCost_24 : decode cX4_weekCost 24 = .ok (.iload_n 1, 1) := by decide +kernel
theorem dX4_weekCost_25 : decode cX4_weekCost 25 = .ok (.aload_n 0, 1) := by decide +kernel
theorem dX4_weekCost_26 : decode cX4_weekCost 26 = .ok (.aload_n 0, 1) := by decide +kernel
theorem dX4_weekCost_27 : decode cX4_weekCost 27 = .ok (.getfield 31, 3) := by decide +kernel
theorem dX4_weekCost_30 : decode cX4_weekCost 30 = .ok (.iload_n 2, 1) := by decide +kernel
theorem dX4_weekCost_31 : decode cX4_weekCost 31 = .ok (.iaload, 1) := by decide +kernel
theorem dX4_weekCost_32 : decode cX4_weekCost 32 = .ok (.iconst 5, 1) := by decide +kernel
theorem dX4_weekCost_33 : decode cX4_weekCost 33 = .ok (.invokevirtual 129, 3) := by decide +kernel
theorem dX4_weekCost_36 : decode cX4_weekCost 36 = .ok (.iadd, 1) := by decide +kernel
theorem dX4_weekCost_37 : decode cX4_weekCost 37 = .ok (.istore_n 1, 1) := by decide +kernel
theorem dX4_weekCost_38 : decode cX4_weekCost 38 = .ok (.aload_n 0, 1) := by decide +kernel
theorem dX4_weekCost_39 : decode cX4_weekCost 39 = .ok (.invokevirtual 132, 3) := by decide +kernel
theorem dX4_weekCost_42 : decode cX4_weekCost 42 = .ok (.istore_n 3, 1) := by decide +kernel
theorem dX4_weekCost_43 : decode cX4_weekCost 43 = .ok (.aload_n 0, 1) := by decide +kernel
theorem dX4_weekCost_44 : decode cX4_weekCost 44 = .ok (.dup, 1) := by decide +kernel
theorem dX4_weekCost_45 : decode cX4_weekCost 45 = .ok (.getfield 43, 3) := by decide +kernel
theorem dX4_weekCost_48 : decode cX4_weekCost 48 = .ok (.iload_n 3, 1) := by decide +kernel
theorem dX4_weekCost_49 : decode cX4_weekCost 49 = .ok (.iadd, 1) := by decide +kernel
theorem dX4_weekCost_50 : decode cX4_weekCost 50 = .ok (.putfield 43, 3) := by decide +kernel
theorem dX4_weekCost_53 : decode cX4_weekCost 53 = .ok (.aload_n 0, 1) := by decide +kernel
theorem dX4_weekCost_54 : decode cX4_weekCost 54 = .ok (.dup, 1) := by decide +kernel
theorem dX4_weekCost_55 : decode cX4_weekCost 55 = .ok (.getfield 46, 3) := by decide +kernel
theorem dX4_weekCost_58 : decode cX4_weekCost 58 = .ok (.iload_n 3, 1) := by decide +kernel
theorem dX4_weekCost_59 : decode cX4_weekCost 59 = .ok (.ifCond .le 7, 3) := by decide +kernel
theorem dX4_weekCost_62 : decode cX4_weekCost 62 = .ok (.iconst 1, 1) := by decide +kernel
theorem dX4_weekCost_63 : decode cX4_weekCost 63 = .ok (.goto 4, 3) := by decide +kernel
theorem dX4_weekCost_66 : decode cX4_weekCost 66 = .ok (.iconst 0, 1) := by decide +kernel
theorem dX4_weekCost_67 : decode cX4_weekCost 67 = .ok (.iadd, 1) := by decide +kernel
theorem dX4_weekCost_68 : decode cX4_weekCost 68 = .ok (.putfield 46, 3) := by decide +kernel
theorem dX4_weekCost_71 : decode cX4_weekCost 71 = .ok (.iinc 2 1, 3) := by decide +kernel
theorem dX4_weekCost_74 : decode cX4_weekCost 74 = .ok (.goto (-56), 3) := by decide +kernel
theorem dX4_weekCost_77 : decode cX4_weekCost 77 = .ok (.iload_n 1, 1) := by decide +kernel
theorem dX4_weekCost_78 : decode cX4_weekCost 78 = .ok (.ireturn, 1) := by decide +kernel
theorem dX4_leaveOut_0 : decode cX4_leaveOut 0 = .ok (.iconst 0, 1) := by decide +kernel
theorem dX4_leaveOut_1 : decode cX4_leaveOut 1 = .ok (.istore_n 3, 1) := by decide +kernel
theorem dX4_leaveOut_2 : decode cX4_leaveOut 2 = .ok (.iload_n 3, 1) := by decide +kernel
theorem dX4_leaveOut_3 : decode cX4_leaveOut 3 = .ok (.bipush 7, 2) := by decide +kernel
theorem dX4_leaveOut_5 : decode cX4_leaveOut 5 = .ok (.if_icmp .ge 24, 3) := by decide +kernel
theorem dX4_leaveOut_8 : decode cX4_leaveOut 8 = .ok (.aload_n 0, 1) := by decide +kernel
theorem dX4_leaveOut_9 : decode cX4_leaveOut 9 = .ok (.getfield 31, 3) := by decide +kernel
theorem dX4_leaveOut_12 : decode cX4_leaveOut 12 = .ok (.iload_n 3, 1) := by decide +kernel
theorem dX4_leaveOut_13 : decode cX4_leaveOut 13 = .ok (.aload_n 1, 1) := by decide +kernel
theorem dX4_leaveOut_14 : decode cX4_leaveOut 14 = .ok (.iload_n 3, 1) := by decide +kernel
theorem dX4_leaveOut_15 : decode cX4_leaveOut 15 = .ok (.iaload, 1) := by decide +kernel
theorem dX4_leaveOut_16 : decode cX4_leaveOut 16 = .ok (.iconst 1, 1) := by decide +kernel
theorem dX4_leaveOut_17 : decode cX4_leaveOut 17 = .ok (.iload_n 2, 1) := by decide +kernel
theorem dX4_leaveOut_18 : decode cX4_leaveOut 18 = .ok (.ishl, 1) := by decide +kernel
theorem dX4_leaveOut_19 : decode cX4_leaveOut 19 = .ok (.iconst (-1), 1) := by decide +kernel
theorem dX4_leaveOut_20 : decode cX4_leaveOut 20 = .ok (.ixor, 1) := by decide +kernel
theorem dX4_leaveOut_21 : decode cX4_leaveOut 21 = .ok (.iand, 1) := by decide +kernel
theorem dX4_leaveOut_22 : decode cX4_leaveOut 22 = .ok (.iastore, 1) := by decide +kernel
theorem dX4_leaveOut_23 : decode cX4_leaveOut 23 = .ok (.iinc 3 1, 3) := by decide +kernel
theorem dX4_leaveOut_26 : decode cX4_leaveOut 26 = .ok (.goto (-24), 3) := by decide +kernel
theorem dX4_leaveOut_29 : decode cX4_leaveOut 29 = .ok (.return_, 1) := by decide +kernel
theorem dX4_giveAway_0 : decode cX4_giveAway 0 = .ok (.aload_n 0, 1) := by decide +kernel
theorem dX4_giveAway_1 : decode cX4_giveAway 1 = .ok (.iload_n 1, 1) := by decide +kernel
theorem dX4_giveAway_2 : decode cX4_giveAway 2 = .ok (.putfield 21, 3) := by decide +kernel
theorem dX4_giveAway_5 : decode cX4_giveAway 5 = .ok (.return_, 1) := by decide +kernel
theorem dX4_lackOf_0 : decode cX4_lackOf 0 = .ok (.iconst 0, 1) := by decide +kernel
theorem dX4_lackOf_1 : decode cX4_lackOf 1 = .ok (.istore_n 2, 1) := by decide +kernel
theorem dX4_lackOf_2 : decode cX4_lackOf 2 = .ok (.iconst 0, 1) := by decide +kernel
theorem dX4_lackOf_3 : decode cX4_lackOf 3 = .ok (.istore_n 3, 1) := by decide +kernel
theorem dX4_lackOf_4 : decode cX4_lackOf 4 = .ok (.iload_n 3, 1) := by decide +kernel
theorem dX4_lackOf_5 : decode cX4_lackOf 5 = .ok (.bipush 7, 2) := by decide +kernel
theorem dX4_lackOf_7 : decode cX4_lackOf 7 = .ok (.if_icmp .ge 27, 3) := by decide +kernel
theorem dX4_lackOf_10 : decode cX4_lackOf 10 = .ok (.iload_n 2, 1) := by decide +kernel
theorem dX4_lackOf_11 : decode cX4_lackOf 11 = .ok (.aload_n 0, 1) := by decide +kernel
theorem dX4_lackOf_12 : decode cX4_lackOf 12 = .ok (.getfield 11, 3) := by decide +kernel
theorem dX4_lackOf_15 : decode cX4_lackOf 15 = .ok (.iload_n 1, 1) := by decide +kernel
theorem dX4_lackOf_16 : decode cX4_lackOf 16 = .ok (.aaload, 1) := by decide +kernel
theorem dX4_lackOf_17 : decode cX4_lackOf 17 = .ok (.aload_n 0, 1) := by decide +kernel
theorem dX4_lackOf_18 : decode cX4_lackOf 18 = .ok (.getfield 31, 3) := by decide +kernel
theorem dX4_lackOf_21 : decode cX4_lackOf 21 = .ok (.iload_n 3, 1) := by decide +kernel
theorem dX4_lackOf_22 : decode cX4_lackOf 22 = .ok (.iaload, 1) := by decide +kernel
theorem dX4_lackOf_23 : decode cX4_lackOf 23 = .ok (.invokevirtual 136, 3) := by decide +kernel
theorem dX4_lackOf_26 : decode cX4_lackOf 26 = .ok (.iadd, 1) := by decide +kernel
theorem dX4_lackOf_27 : decode cX4_lackOf 27 = .ok (.istore_n 2, 1) := by decide +kernel
theorem dX4_lackOf_28 : decode cX4_lackOf 28 = .ok (.iinc 3 1, 3) := by decide +kernel
theorem dX4_lackOf_31 : decode cX4_lackOf 31 = .ok (.goto (-27), 3) := by decide +kernel
theorem dX4_lackOf_34 : decode cX4_lackOf 34 = .ok (.iload_n 2, 1) := by decide +kernel
theorem dX4_lackOf_35 : decode cX4_lackOf 35 = .ok (.ireturn, 1) := by decide +kernel
theorem dX4_draw_0 : decode cX4_draw 0 = .ok (.iload_n 1, 1) := by decide +kernel
theorem dX4_draw_1 : decode cX4_draw 1 = .ok (.istore_n 2, 1) := by decide +kernel
theorem dX4_draw_2 : decode cX4_draw 2 = .ok (.iconst 0, 1) := by decide +kernel
theorem dX4_draw_3 : decode cX4_draw 3 = .ok (.istore_n 3, 1) := by decide +kernel
theorem dX4_draw_4 : decode cX4_draw 4 = .ok (.iload_n 3, 1) := by decide +kernel
theorem dX4_draw_5 : decode cX4_draw 5 = .ok (.bipush 7, 2) := by decide +kernel
theorem dX4_draw_7 : decode cX4_draw 7 = .ok (.if_icmp .ge 31, 3) := by decide +kernel
theorem dX4_draw_10 : decode cX4_draw 10 = .ok (.iload_n 2, 1) := by decide +kernel
theorem dX4_draw_11 : decode cX4_draw 11 = .ok (.ldc 139, 2) := by decide +kernel
theorem dX4_draw_13 : decode cX4_draw 13 = .ok (.imul, 1) := by decide +kernel
theorem dX4_draw_14 : decode cX4_draw 14 = .ok (.sipush 12345, 3) := by decide +kernel
theorem dX4_draw_17 : decode cX4_draw 17 = .ok (.iadd, 1) := by decide +kernel
theorem dX4_draw_18 : decode cX4_draw 18 = .ok (.istore_n 2, 1) := by decide +kernel
theorem dX4_draw_19 : decode cX4_draw 19 = .ok (.aload_n 0, 1) := by decide +kernel
theorem dX4_draw_20 : decode cX4_draw 20 = .ok (.getfield 31, 3) := by decide +kernel
theorem dX4_draw_23 : decode cX4_draw 23 = .ok (.iload_n 3, 1) := by decide +kernel
theorem dX4_draw_24 : decode cX4_draw 24 = .ok (.iload_n 2, 1) := by decide +kernel
theorem dX4_draw_25 : decode cX4_draw 25 = .ok (.bipush 9, 2) := by decide +kernel
theorem dX4_draw_27 : decode cX4_draw 27 = .ok (.iushr, 1) := by decide +kernel
theorem dX4_draw_28 : decode cX4_draw 28 = .ok (.bipush 16, 2) := by decide +kernel
theorem dX4_draw_30 : decode cX4_draw 30 = .ok (.irem, 1) := by decide +kernel
theorem dX4_draw_31 : decode cX4_draw 31 = .ok (.iastore, 1) := by decide +kernel
theorem dX4_draw_32 : decode cX4_draw 32 = .ok (.iinc 3 1, 3) := by decide +kernel
theorem dX4_draw_35 : decode cX4_draw 35 = .ok (.goto (-31), 3) := by decide +kernel
theorem dX4_draw_38 : decode cX4_draw 38 = .ok (.return_, 1) := by decide +kernel
theorem dX4_enterFound_0 : decode cX4_enterFound 0 = .ok (.iconst 0, 1) := by decide +kernel
theorem dX4_enterFound_1 : decode cX4_enterFound 1 = .ok (.istore_n 1, 1) := by decide +kernel
theorem dX4_enterFound_2 : decode cX4_enterFound 2 = .ok (.iconst 0, 1) := by decide +kernel
theorem dX4_enterFound_3 : decode cX4_enterFound 3 = .ok (.istore_n 2, 1) := by decide +kernel
theorem dX4_enterFound_4 : decode cX4_enterFound 4 = .ok (.iload_n 2, 1) := by decide +kernel
theorem dX4_enterFound_5 : decode cX4_enterFound 5 = .ok (.aload_n 0, 1) := by decide +kernel
theorem dX4_enterFound_6 : decode cX4_enterFound 6 = .ok (.getfield 17, 3) := by decide +kernel
theorem dX4_enterFound_9 : decode cX4_enterFound 9 = .ok (.if_icmp .ge 39, 3) := by decide +kernel
theorem dX4_enterFound_12 : decode cX4_enterFound 12 = .ok (.aload_n 0, 1) := by decide +kernel
theorem dX4_enterFound_13 : decode cX4_enterFound 13 = .ok (.getfield 37, 3) := by decide +kernel
theorem dX4_enterFound_16 : decode cX4_enterFound 16 = .ok (.iload_n 2, 1) := by decide +kernel
theorem dX4_enterFound_17 : decode cX4_enterFound 17 = .ok (.iaload, 1) := by decide +kernel
theorem dX4_enterFound_18 : decode cX4_enterFound 18 = .ok (.aload_n 0, 1) := by decide +kernel
theorem dX4_enterFound_19 : decode cX4_enterFound 19 = .ok (.getfield 40, 3) := by decide +kernel
theorem dX4_enterFound_22 : decode cX4_enterFound 22 = .ok (.iload_n 2, 1) := by decide +kernel
theorem dX4_enterFound_23 : decode cX4_enterFound 23 = .ok (.iaload, 1) := by decide +kernel
theorem dX4_enterFound_24 : decode cX4_enterFound 24 = .ok (.if_icmp .eq 6, 3) := by decide +kernel
theorem dX4_enterFound_27 : decode cX4_enterFound 27 = .ok (.iinc 1 1, 3) := by decide +kernel
theorem dX4_enterFound_30 : decode cX4_enterFound 30 = .ok (.aload_n 0, 1) := by decide +kernel
theorem dX4_enterFound_31 : decode cX4_enterFound 31 = .ok (.getfield 37, 3) := by decide +kernel
theorem dX4_enterFound_34 : decode cX4_enterFound 34 = .ok (.iload_n 2, 1) := by decide +kernel
theorem dX4_enterFound_35 : decode cX4_enterFound 35 = .ok (.aload_n 0, 1) := by decide +kernel
theorem dX4_enterFound_36 : decode cX4_enterFound 36 = .ok (.getfield 40, 3) := by decide +kernel
theorem dX4_enterFound_39 : decode cX4_enterFound 39 = .ok (.iload_n 2, 1) := by decide +kernel
theorem dX4_enterFound_40 : decode cX4_enterFound 40 = .ok (.iaload, 1) := by decide +kernel
theorem dX4_enterFound_41 : decode cX4_enterFound 41 = .ok (.iastore, 1) := by decide +kernel
theorem dX4_enterFound_42 : decode cX4_enterFound 42 = .ok (.iinc 2 1, 3) := by decide +kernel
theorem dX4_enterFound_45 : decode cX4_enterFound 45 = .ok (.goto (-41), 3) := by decide +kernel
theorem dX4_enterFound_48 : decode cX4_enterFound 48 = .ok (.iload_n 1, 1) := by decide +kernel
theorem dX4_enterFound_49 : decode cX4_enterFound 49 = .ok (.ireturn, 1) := by decide +kernel
theorem dX4_priceNothing_0 : decode cX4_priceNothing 0 = .ok (.iconst 0, 1) := by decide +kernel
theorem dX4_priceNothing_1 : decode cX4_priceNothing 1 = .ok (.istore_n 1, 1) := by decide +kernel
theorem dX4_priceNothing_2 : decode cX4_priceNothing 2 = .ok (.iload_n 1, 1) := by decide +kernel
theorem dX4_priceNothing_3 : decode cX4_priceNothing 3 = .ok (.aload_n 0, 1) := by decide +kernel
theorem dX4_priceNothing_4 : decode cX4_priceNothing 4 = .ok (.getfield 17, 3) := by decide +kernel
theorem dX4_priceNothing_7 : decode cX4_priceNothing 7 = .ok (.if_icmp .ge 31, 3) := by decide +kernel
theorem dX4_priceNothing_10 : decode cX4_priceNothing 10 = .ok (.aload_n 0, 1) := by decide +kernel
theorem dX4_priceNothing_11 : decode cX4_priceNothing 11 = .ok (.getfield 11, 3) := by decide +kernel
theorem dX4_priceNothing_14 : decode cX4_priceNothing 14 = .ok (.iload_n 1, 1) := by decide +kernel
theorem dX4_priceNothing_15 : decode cX4_priceNothing 15 = .ok (.aaload, 1) := by decide +kernel
theorem dX4_priceNothing_16 : decode cX4_priceNothing 16 = .ok (.iload_n 1, 1) := by decide +kernel
theorem dX4_priceNothing_17 : decode cX4_priceNothing 17 = .ok (.aload_n 0, 1) := by decide +kernel
theorem dX4_priceNothing_18 : decode cX4_priceNothing 18 = .ok (.getfield 21, 3) := by decide +kernel
theorem dX4_priceNothing_21 : decode cX4_priceNothing 21 = .ok (.if_icmp .eq 7, 3) := by decide +kernel
theorem dX4_priceNothing_24 : decode cX4_priceNothing 24 = .ok (.iconst 1, 1) := by decide +kernel
theorem dX4_priceNothing_25 : decode cX4_priceNothing 25 = .ok (.goto 4, 3) := by decide +kernel
theorem dX4_priceNothing_28 : decode cX4_priceNothing 28 = .ok (.iconst 0, 1) := by decide +kernel
theorem dX4_priceNothing_29 : decode cX4_priceNothing 29 = .ok (.invokevirtual 140, 3) := by decide +kernel
theorem dX4_priceNothing_32 : decode cX4_priceNothing 32 = .ok (.iinc 1 1, 3) := by decide +kernel
theorem dX4_priceNothing_35 : decode cX4_priceNothing 35 = .ok (.goto (-33), 3) := by decide +kernel
theorem dX4_priceNothing_38 : decode cX4_priceNothing 38 = .ok (.return_, 1) := by decide +kernel
theorem dX4_priceMoves_0 : decode cX4_priceMoves 0 = .ok (.iconst 0, 1) := by decide +kernel
theorem dX4_priceMoves_1 : decode cX4_priceMoves 1 = .ok (.istore_n 1, 1) := by decide +kernel
theorem dX4_priceMoves_2 : decode cX4_priceMoves 2 = .ok (.iload_n 1, 1) := by decide +kernel
theorem dX4_priceMoves_3 : decode cX4_priceMoves 3 = .ok (.aload_n 0, 1) := by decide +kernel
theorem dX4_priceMoves_4 : decode cX4_priceMoves 4 = .ok (.getfield 17, 3) := by decide +kernel
theorem dX4_priceMoves_7 : decode cX4_priceMoves 7 = .ok (.if_icmp .ge 32, 3) := by decide +kernel
theorem dX4_priceMoves_10 : decode cX4_priceMoves 10 = .ok (.iload_n 1, 1) := by decide +kernel
theorem dX4_priceMoves_11 : decode cX4_priceMoves 11 = .ok (.aload_n 0, 1) := by decide +kernel
theorem dX4_priceMoves_12 : decode cX4_priceMoves 12 = .ok (.getfield 21, 3) := by decide +kernel
theorem dX4_priceMoves_15 : decode cX4_priceMoves 15 = .ok (.if_icmp .eq 18, 3) := by decide +kernel
theorem dX4_priceMoves_18 : decode cX4_priceMoves 18 = .ok (.aload_n 0, 1) := by decide +kernel
theorem dX4_priceMoves_19 : decode cX4_priceMoves 19 = .ok (.getfield 11, 3) := by decide +kernel
theorem dX4_priceMoves_22 : decode cX4_priceMoves 22 = .ok (.iload_n 1, 1) := by decide +kernel
theorem dX4_priceMoves_23 : decode cX4_priceMoves 23 = .ok (.aaload, 1) := by decide +kernel
theorem dX4_priceMoves_24 : decode cX4_priceMoves 24 = .ok (.aload_n 0, 1) := by decide +kernel
theorem dX4_priceMoves_25 : decode cX4_priceMoves 25 = .ok (.getfield 37, 3) := by decide +kernel
theorem dX4_priceMoves_28 : decode cX4_priceMoves 28 = .ok (.iload_n 1, 1) := by decide +kernel
theorem dX4_priceMoves_29 : decode cX4_priceMoves 29 = .ok (.iaload, 1) := by decide +kernel
theorem dX4_priceMoves_30 : decode cX4_priceMoves 30 = .ok (.invokevirtual 143, 3) := by decide +kernel
theorem dX4_priceMoves_33 : decode cX4_priceMoves 33 = .ok (.iinc 1 1, 3) := by decide +kernel
theorem dX4_priceMoves_36 : decode cX4_priceMoves 36 = .ok (.goto (-34), 3) := by decide +kernel
theorem dX4_priceMoves_39 : decode cX4_priceMoves 39 = .ok (.return_, 1) := by decide +kernel
theorem dX4_priceDay_0 : decode cX4_priceDay 0 = .ok (.iconst 0, 1) := by decide +kernel
theorem dX4_priceDay_1 : decode cX4_priceDay 1 = .ok (.istore_n 2, 1) := by decide +kernel
theorem dX4_priceDay_2 : decode cX4_priceDay 2 = .ok (.iload_n 2, 1) := by decide +kernel
theorem dX4_priceDay_3 : decode cX4_priceDay 3 = .ok (.aload_n 0, 1) := by decide +kernel
theorem dX4_priceDay_4 : decode cX4_priceDay 4 = .ok (.getfield 17, 3) := by decide +kernel
theorem dX4_priceDay_7 : decode cX4_priceDay 7 = .ok (.if_icmp .ge 31, 3) := by decide +kernel
theorem dX4_priceDay_10 : decode cX4_priceDay 10 = .ok (.iload_n 2, 1) := by decide +kernel
theorem dX4_priceDay_11 : decode cX4_priceDay 11 = .ok (.aload_n 0, 1) := by decide +kernel
theorem dX4_priceDay_12 : decode cX4_priceDay 12 = .ok (.getfield 21, 3) := by decide +kernel
theorem dX4_priceDay_15 : decode cX4_priceDay 15 = .ok (.if_icmp .eq 17, 3) := by decide +kernel
theorem dX4_priceDay_18 : decode cX4_priceDay 18 = .ok (.aload_n 0, 1) := by decide +kernel
theorem dX4_priceDay_19 : decode cX4_priceDay 19 = .ok (.getfield 11, 3) := by decide +kernel
theorem dX4_priceDay_22 : decode cX4_priceDay 22 = .ok (.iload_n 2, 1) := by decide +kernel
theorem dX4_priceDay_23 : decode cX4_priceDay 23 = .ok (.aaload, 1) := by decide +kernel
theorem dX4_priceDay_24 : decode cX4_priceDay 24 = .ok (.iload_n 1, 1) := by decide +kernel
theorem dX4_priceDay_25 : decode cX4_priceDay 25 = .ok (.aload_n 0, 1) := by decide +kernel
theorem dX4_priceDay_26 : decode cX4_priceDay 26 = .ok (.getfield 34, 3) := by decide +kernel
theorem dX4_priceDay_29 : decode cX4_priceDay 29 = .ok (.invokevirtual 145, 3) := by decide +kernel
theorem dX4_priceDay_32 : decode cX4_priceDay 32 = .ok (.iinc 2 1, 3) := by decide +kernel
theorem dX4_priceDay_35 : decode cX4_priceDay 35 = .ok (.goto (-33), 3) := by decide +kernel
theorem dX4_priceDay_38 : decode cX4_priceDay 38 = .ok (.return_, 1) := by decide +kernel
theorem dX4_search_0 : decode cX4_search 0 = .ok (.iload_n 1, 1) := by decide +kernel
theorem dX4_search_1 : decode cX4_search 1 = .ok (.aload_n 0, 1) := by decide +kernel
theorem dX4_search_2 : decode cX4_search 2 = .ok (.getfield 17, 3) := by decide +kernel
theorem dX4_search_5 : decode cX4_search 5 = .ok (.if_icmp .ge 7, 3) := by decide +kernel
theorem dX4_search_8 : decode cX4_search 8 = .ok (.iconst 1, 1) := by decide +kernel
theorem dX4_search_9 : decode cX4_search 9 = .ok (.goto 4, 3) := by decide +kernel
theorem dX4_search_12 : decode cX4_search 12 = .ok (.iconst 0, 1) := by decide +kernel
theorem dX4_search_13 : decode cX4_search 13 = .ok (.istore_n 2, 1) := by decide +kernel
theorem dX4_search_14 : decode cX4_search 14 = .ok (.iload_n 2, 1) := by decide +kernel
theorem dX4_search_15 : decode cX4_search 15 = .ok (.ifCond .eq 7, 3) := by decide +kernel
theorem dX4_search_18 : decode cX4_search 18 = .ok (.iload_n 1, 1) := by decide +kernel
theorem dX4_search_19 : decode cX4_search 19 = .ok (.goto 4, 3) := by decide +kernel
theorem dX4_search_22 : decode cX4_search 22 = .ok (.iconst 0, 1) := by decide +kernel
theorem dX4_search_23 : decode cX4_search 23 = .ok (.istore_n 3, 1) := by decide +kernel
theorem dX4_search_24 : decode cX4_search 24 = .ok (.aload_n 0, 1) := by decide +kernel
theorem dX4_search_25 : decode cX4_search 25 = .ok (.getfield 51, 3) := by decide +kernel
theorem dX4_search_28 : decode cX4_search 28 = .ok (.aload_n 0, 1) := by decide +kernel
theorem dX4_search_29 : decode cX4_search 29 = .ok (.getfield 17, 3) := by decide +kernel
theorem dX4_search_32 : decode cX4_search 32 = .ok (.aaload, 1) := by decide +kernel
theorem dX4_search_33 : decode cX4_search 33 = .ok (.iconst 0, 1) := by decide +kernel
theorem dX4_search_34 : decode cX4_search 34 = .ok (.invokestatic 148, 3) := by decide +kernel
theorem dX4_search_37 : decode cX4_search 37 = .ok (.aload_n 0, 1) := by decide +kernel
theorem dX4_search_38 : decode cX4_search 38 = .ok (.getfield 17, 3) := by decide +kernel
theorem dX4_search_41 : decode cX4_search 41 = .ok (.iconst 1, 1) := by decide +kernel
theorem dX4_search_42 : decode cX4_search 42 = .ok (.isub, 1) := by decide +kernel
theorem dX4_search_43 : decode cX4_search 43 = .ok (.istore 4, 2) := by decide +kernel
theorem dX4_search_45 : decode cX4_search 45 = .ok (.iload 4, 2) := by decide +kernel
theorem dX4_search_47 : decode cX4_search 47 = .ok (.ifCond .lt 33, 3) := by decide +kernel
theorem dX4_search_50 : decode cX4_search 50 = .ok (.iconst 0, 1) := by decide +kernel
theorem dX4_search_51 : decode cX4_search 51 = .ok (.istore 5, 2) := by decide +kernel
theorem dX4_search_53 : decode cX4_search 53 = .ok (.iload 5, 2) := by decide +kernel
theorem dX4_search_55 : decode cX4_search 55 = .ok (.iload_n 3, 1) := by decide +kernel
theorem dX4_search_56 : decode cX4_search 56 = .ok (.if_icmp .gt 18, 3) := by decide +kernel
theorem dX4_search_59 : decode cX4_search 59 = .ok (.aload_n 0, 1) := by decide +kernel
theorem dX4_search_60 : decode cX4_search 60 = .ok (.iload 4, 2) := by decide +kernel
theorem dX4_search_62 : decode cX4_search 62 = .ok (.iload 5, 2) := by decide +kernel
theorem dX4_search_64 : decode cX4_search 64 = .ok (.iload_n 2, 1) := by decide +kernel
theorem dX4_search_65 : decode cX4_search 65 = .ok (.invokevirtual 154, 3) := by decide +kernel
theorem dX4_search_68 : decode cX4_search 68 = .ok (.iinc 5 1, 3) := by decide +kernel
theorem dX4_search_71 : decode cX4_search 71 = .ok (.goto (-18), 3) := by decide +kernel
theorem dX4_search_74 : decode cX4_search 74 = .ok (.iinc 4 (-1), 3) := by decide +kernel
theorem dX4_search_77 : decode cX4_search 77 = .ok (.goto (-32), 3) := by decide +kernel
theorem dX4_search_80 : decode cX4_search 80 = .ok (.aload_n 0, 1) := by decide +kernel
theorem dX4_search_81 : decode cX4_search 81 = .ok (.iload_n 3, 1) := by decide +kernel
theorem dX4_search_82 : decode cX4_search 82 = .ok (.iload_n 2, 1) := by decide +kernel
theorem dX4_search_83 : decode cX4_search 83 = .ok (.invokevirtual 158, 3) := by decide +kernel
theorem dX4_search_86 : decode cX4_search 86 = .ok (.aload_n 0, 1) := by decide +kernel
theorem dX4_search_87 : decode cX4_search 87 = .ok (.getfield 51, 3) := by decide +kernel
theorem dX4_search_90 : decode cX4_search 90 = .ok (.iconst 0, 1) := by decide +kernel
theorem dX4_search_91 : decode cX4_search 91 = .ok (.aaload, 1) := by decide +kernel
theorem dX4_search_92 : decode cX4_search 92 = .ok (.iload_n 3, 1) := by decide +kernel
theorem dX4_search_93 : decode cX4_search 93 = .ok (.bipush 64, 2) := by decide +kernel
theorem dX4_search_95 : decode cX4_search 95 = .ok (.imul, 1) := by decide +kernel
theorem dX4_search_96 : decode cX4_search 96 = .ok (.iaload, 1) := by decide +kernel
theorem dX4_search_97 : decode cX4_search 97 = .ok (.ireturn, 1) := by decide +kernel
theorem dX4_fillLeast_0 : decode cX4_fillLeast 0 = .ok (.iconst 0, 1) := by decide +kernel
theorem dX4_fillLeast_1 : decode cX4_fillLeast 1 = .ok (.istore 4, 2) := by decide +kernel
theorem dX4_fillLeast_3 : decode cX4_fillLeast 3 = .ok (.iload 4, 2) := by decide +kernel
theorem dX4_fillLeast_5 : decode cX4_fillLeast 5 = .ok (.bipush 64, 2) := by decide +kernel
theorem dX4_fillLeast_7 : decode cX4_fillLeast 7 = .ok (.if_icmp .ge 72, 3) := by decide +kernel
theorem dX4_fillLeast_10 : decode cX4_fillLeast 10 = .ok (.iload 4, 2) := by decide +kernel
theorem dX4_fillLeast_12 : decode cX4_fillLeast 12 = .ok (.invokestatic 162, 3) := by decide +kernel
theorem dX4_fillLeast_15 : decode cX4_fillLeast 15 = .ok (.iload_n 1, 1) := by decide +kernel
theorem dX4_fillLeast_16 : decode cX4_fillLeast 16 = .ok (.if_icmp .gt 57, 3) := by decide +kernel
theorem dX4_fillLeast_19 : decode cX4_fillLeast 19 = .ok (.ldc 167, 2) := by decide +kernel
theorem dX4_fillLeast_21 : decode cX4_fillLeast 21 = .ok (.istore 5, 2) := by decide +kernel
theorem dX4_fillLeast_23 : decode cX4_fillLeast 23 = .ok (.iconst 0, 1) := by decide +kernel
theorem dX4_fillLeast_24 : decode cX4_fillLeast 24 = .ok (.istore 6, 2) := by decide +kernel
theorem dX4_fillLeast_26 : decode cX4_fillLeast 26 = .ok (.iload 6, 2) := by decide +kernel
theorem dX4_fillLeast_28 : decode cX4_fillLeast 28 = .ok (.bipush 7, 2) := by decide +kernel
theorem dX4_fillLeast_30 : decode cX4_fillLeast 30 = .ok (.if_icmp .ge 27, 3) := by decide +kernel
theorem dX4_fillLeast_33 : decode cX4_fillLeast 33 = .ok (.iload 5, 2) := by decide +kernel
theorem dX4_fillLeast_35 : decode cX4_fillLeast 35 = .ok (.aload_n 0, 1) := by decide +kernel
theorem dX4_fillLeast_36 : decode cX4_fillLeast 36 = .ok (.iload_n 1, 1) := by decide +kernel
theorem dX4_fillLeast_37 : decode cX4_fillLeast 37 = .ok (.iload 6, 2) := by decide +kernel
theorem dX4_fillLeast_39 : decode cX4_fillLeast 39 = .ok (.iload_n 2, 1) := by decide +kernel
theorem dX4_fillLeast_40 : decode cX4_fillLeast 40 = .ok (.iload 4, 2) := by decide +kernel
theorem dX4_fillLeast_42 : decode cX4_fillLeast 42 = .ok (.iload_n 3, 1) := by decide +kernel
theorem dX4_fillLeast_43 : decode cX4_fillLeast 43 = .ok (.invokevirtual 168, 3) := by decide +kernel
theorem dX4_fillLeast_46 : decode cX4_fillLeast 46 = .ok (.invokestatic 172, 3) := by decide +kernel
theorem dX4_fillLeast_49 : decode cX4_fillLeast 49 = .ok (.istore 5, 2) := by decide +kernel
theorem dX4_fillLeast_51 : decode cX4_fillLeast 51 = .ok (.iinc 6 1, 3) := by decide +kernel
theorem dX4_fillLeast_54 : decode cX4_fillLeast 54 = .ok (.goto (-28), 3) := by decide +kernel
theorem dX4_fillLeast_57 : decode cX4_fillLeast 57 = .ok (.aload_n 0, 1) := by decide +kernel
theorem dX4_fillLeast_58 : decode cX4_fillLeast 58 = .ok (.getfield 51, 3) := by decide +kernel
theorem dX4_fillLeast_61 : decode cX4_fillLeast 61 = .ok (.iload_n 1, 1) := by decide +kernel
theorem dX4_fillLeast_62 : decode cX4_fillLeast 62 = .ok (.aaload, 1) := by decide +kernel
theorem dX4_fillLeast_63 : decode cX4_fillLeast 63 = .ok (.iload_n 2, 1) := by decide +kernel
theorem dX4_fillLeast_64 : decode cX4_fillLeast 64 = .ok (.bipush 64, 2) := by decide +kernel
theorem dX4_fillLeast_66 : decode cX4_fillLeast 66 = .ok (.imul, 1) := by decide +kernel
theorem dX4_fillLeast_67 : decode cX4_fillLeast 67 = .ok (.iload 4, 2) := by decide +kernel
theorem dX4_fillLeast_69 : decode cX4_fillLeast 69 = .ok (.iadd, 1) := by decide +kernel
theorem dX4_fillLeast_70 : decode cX4_fillLeast 70 = .ok (.iload 5, 2) := by decide +kernel
theorem dX4_fillLeast_72 : decode cX4_fillLeast 72 = .ok (.iastore, 1) := by decide +kernel
theorem dX4_fillLeast_73 : decode cX4_fillLeast 73 = .ok (.iinc 4 1, 3) := by decide +kernel
theorem dX4_fillLeast_76 : decode cX4_fillLeast 76 = .ok (.goto (-73), 3) := by decide +kernel
theorem dX4_fillLeast_79 : decode cX4_fillLeast 79 = .ok (.return_, 1) := by decide +kernel
theorem dX4_follow_0 : decode cX4_follow 0 = .ok (.iload_n 1, 1) := by decide +kernel
theorem dX4_follow_1 : decode cX4_follow 1 = .ok (.istore_n 3, 1) := by decide +kernel
theorem dX4_follow_2 : decode cX4_follow 2 = .ok (.iconst 0, 1) := by decide +kernel
theorem dX4_follow_3 : decode cX4_follow 3 = .ok (.istore 4, 2) := by decide +kernel
theorem dX4_follow_5 : decode cX4_follow 5 = .ok (.iconst 0, 1) := by decide +kernel
theorem dX4_follow_6 : decode cX4_follow 6 = .ok (.istore 5, 2) := by decide +kernel
theorem dX4_follow_8 : decode cX4_follow 8 = .ok (.iload 5, 2) := by decide +kernel
theorem dX4_follow_10 : decode cX4_follow 10 = .ok (.aload_n 0, 1) := by decide +kernel
theorem dX4_follow_11 : decode cX4_follow 11 = .ok (.getfield 17, 3) := by decide +kernel
theorem dX4_follow_14 : decode cX4_follow 14 = .ok (.if_icmp .ge 109, 3) := by decide +kernel
theorem dX4_follow_17 : decode cX4_follow 17 = .ok (.aload_n 0, 1) := by decide +kernel
theorem dX4_follow_18 : decode cX4_follow 18 = .ok (.getfield 51, 3) := by decide +kernel
theorem dX4_follow_21 : decode cX4_follow 21 = .ok (.iload 5, 2) := by decide +kernel
theorem dX4_follow_23 : decode cX4_follow 23 = .ok (.aaload, 1) := by decide +kernel
theorem dX4_follow_24 : decode cX4_follow 24 = .ok (.iload_n 3, 1) := by decide +kernel
theorem dX4_follow_25 : decode cX4_follow 25 = .ok (.bipush 64, 2) := by decide +kernel
theorem dX4_follow_27 : decode cX4_follow 27 = .ok (.imul, 1) := by decide +kernel
theorem dX4_follow_28 : decode cX4_follow 28 = .ok (.iload 4, 2) := by decide +kernel
theorem dX4_follow_30 : decode cX4_follow 30 = .ok (.iadd, 1) := by decide +kernel
theorem dX4_follow_31 : decode cX4_follow 31 = .ok (.iaload, 1) := by decide +kernel
theorem dX4_follow_32 : decode cX4_follow 32 = .ok (.istore 6, 2) := by decide +kernel
theorem dX4_follow_34 : decode cX4_follow 34 = .ok (.iconst 0, 1) := by decide +kernel
theorem dX4_follow_35 : decode cX4_follow 35 = .ok (.istore 7, 2) := by decide +kernel
theorem dX4_follow_37 : decode cX4_follow 37 = .ok (.iload 7, 2) := by decide +kernel
theorem dX4_follow_39 : decode cX4_follow 39 = .ok (.bipush 6, 2) := by decide +kernel
theorem dX4_follow_41 : decode cX4_follow 41 = .ok (.if_icmp .ge 26, 3) := by decide +kernel
theorem dX4_follow_44 : decode cX4_follow 44 = .ok (.aload_n 0, 1) := by decide +kernel
theorem dX4_follow_45 : decode cX4_follow 45 = .ok (.iload 5, 2) := by decide +kernel
theorem dX4_follow_47 : decode cX4_follow 47 = .ok (.iload 7, 2) := by decide +kernel
theorem dX4_follow_49 : decode cX4_follow 49 = .ok (.iload_n 3, 1) := by decide +kernel
theorem dX4_follow_50 : decode cX4_follow 50 = .ok (.iload 4, 2) := by decide +kernel
theorem dX4_follow_52 : decode cX4_follow 52 = .ok (.iload_n 2, 1) := by decide +kernel
theorem dX4_follow_53 : decode cX4_follow 53 = .ok (.invokevirtual 168, 3) := by decide +kernel
theorem dX4_follow_56 : decode cX4_follow 56 = .ok (.iload 6, 2) := by decide +kernel
theorem dX4_follow_58 : decode cX4_follow 58 = .ok (.if_icmp .eq 9, 3) := by decide +kernel
theorem dX4_follow_61 : decode cX4_follow 61 = .ok (.iinc 7 1, 3) := by decide +kernel
theorem dX4_follow_64 : decode cX4_follow 64 = .ok (.goto (-27), 3) := by decide +kernel
theorem dX4_follow_67 : decode cX4_follow 67 = .ok (.aload_n 0, 1) := by decide +kernel
theorem dX4_follow_68 : decode cX4_follow 68 = .ok (.getfield 40, 3) := by decide +kernel
theorem dX4_follow_71 : decode cX4_follow 71 = .ok (.iload 5, 2) := by decide +kernel
theorem dX4_follow_73 : decode cX4_follow 73 = .ok (.iload 7, 2) := by decide +kernel
theorem dX4_follow_75 : decode cX4_follow 75 = .ok (.iconst 1, 1) := by decide +kernel
theorem dX4_follow_76 : decode cX4_follow 76 = .ok (.isub, 1) := by decide +kernel
theorem dX4_follow_77 : decode cX4_follow 77 = .ok (.iastore, 1) := by decide +kernel
theorem dX4_follow_78 : decode cX4_follow 78 = .ok (.iload_n 3, 1) := by decide +kernel
theorem dX4_follow_79 : decode cX4_follow 79 = .ok (.iload_n 2, 1) := by decide +kernel
theorem dX4_follow_80 : decode cX4_follow 80 = .ok (.ifCond .eq 24, 3) := by decide +kernel
theorem dX4_follow_83 : decode cX4_follow 83 = .ok (.aload_n 0, 1) := by decide +kernel
theorem dX4_follow_84 : decode cX4_follow 84 = .ok (.getfield 40, 3) := by decide +kernel
theorem dX4_follow_87 : decode cX4_follow 87 = .ok (.iload 5, 2) := by decide +kernel
theorem dX4_follow_89 : decode cX4_follow 89 = .ok (.iaload, 1) := by decide +kernel
theorem dX4_follow_90 : decode cX4_follow 90 = .ok (.aload_n 0, 1) := by decide +kernel
theorem dX4_follow_91 : decode cX4_follow 91 = .ok (.getfield 37, 3) := by decide +kernel
theorem dX4_follow_94 : decode cX4_follow 94 = .ok (.iload 5, 2) := by decide +kernel
theorem dX4_follow_96 : decode cX4_follow 96 = .ok (.iaload, 1) := by decide +kernel
theorem dX4_follow_97 : decode cX4_follow 97 = .ok (.if_icmp .eq 7, 3) := by decide +kernel
theorem dX4_follow_100 : decode cX4_follow 100 = .ok (.iconst 1, 1) := by decide +kernel
theorem dX4_follow_101 : decode cX4_follow 101 = .ok (.goto 4, 3) := by decide +kernel
theorem dX4_follow_104 : decode cX4_follow 104 = .ok (.iconst 0, 1) := by decide +kernel
theorem dX4_follow_105 : decode cX4_follow 105 = .ok (.isub, 1) := by decide +kernel
theorem dX4_follow_106 : decode cX4_follow 106 = .ok (.istore_n 3, 1) := by decide +kernel
theorem dX4_follow_107 : decode cX4_follow 107 = .ok (.iload 4, 2) := by decide +kernel
theorem dX4_follow_109 : decode cX4_follow 109 = .ok (.iload 7, 2) := by decide +kernel
theorem dX4_follow_111 : decode cX4_follow 111 = .ok (.invokestatic 88, 3) := by decide +kernel
theorem dX4_follow_114 : decode cX4_follow 114 = .ok (.ior, 1) := by decide +kernel
theorem dX4_follow_115 : decode cX4_follow 115 = .ok (.istore 4, 2) := by decide +kernel
theorem dX4_follow_117 : decode cX4_follow 117 = .ok (.iinc 5 1, 3) := by decide +kernel
theorem dX4_follow_120 : decode cX4_follow 120 = .ok (.goto (-112), 3) := by decide +kernel
theorem dX4_follow_123 : decode cX4_follow 123 = .ok (.return_, 1) := by decide +kernel
theorem dX4_costFrom_0 : decode cX4_costFrom 0 = .ok (.iload 5, 2) := by decide +kernel
theorem dX4_costFrom_2 : decode cX4_costFrom 2 = .ok (.ifCond .eq 21, 3) := by decide +kernel
theorem dX4_costFrom_5 : decode cX4_costFrom 5 = .ok (.iload_n 2, 1) := by decide +kernel
theorem dX4_costFrom_6 : decode cX4_costFrom 6 = .ok (.iconst 1, 1) := by decide +kernel
theorem dX4_costFrom_7 : decode cX4_costFrom 7 = .ok (.isub, 1) := by decide +kernel
theorem dX4_costFrom_8 : decode cX4_costFrom 8 = .ok (.aload_n 0, 1) := by decide +kernel
theorem dX4_costFrom_9 : decode cX4_costFrom 9 = .ok (.getfield 37, 3) := by decide +kernel
theorem dX4_costFrom_12 : decode cX4_costFrom 12 = .ok (.iload_n 1, 1) := by decide +kernel
theorem dX4_costFrom_13 : decode cX4_costFrom 13 = .ok (.iaload, 1) := by decide +kernel
theorem dX4_costFrom_14 : decode cX4_costFrom 14 = .ok (.if_icmp .eq 9, 3) := by decide +kernel
theorem dX4_costFrom_17 : decode cX4_costFrom 17 = .ok (.iload_n 3, 1) := by decide +kernel
theorem dX4_costFrom_18 : decode cX4_costFrom 18 = .ok (.iconst 1, 1) := by decide +kernel
theorem dX4_costFrom_19 : decode cX4_costFrom 19 = .ok (.isub, 1) := by decide +kernel
theorem dX4_costFrom_20 : decode cX4_costFrom 20 = .ok (.goto 4, 3) := by decide +kernel
theorem dX4_costFrom_23 : decode cX4_costFrom 23 = .ok (.iload_n 3, 1) := by decide +kernel
theorem dX4_costFrom_24 : decode cX4_costFrom 24 = .ok (.istore 6, 2) := by decide +kernel
theorem dX4_costFrom_26 : decode cX4_costFrom 26 = .ok (.iload_n 2, 1) := by decide +kernel
theorem dX4_costFrom_27 : decode cX4_costFrom 27 = .ok (.invokestatic 88, 3) := by decide +kernel
theorem dX4_costFrom_30 : decode cX4_costFrom 30 = .ok (.istore 7, 2) := by decide +kernel
theorem dX4_costFrom_32 : decode cX4_costFrom 32 = .ok (.iload 6, 2) := by decide +kernel
theorem dX4_costFrom_34 : decode cX4_costFrom 34 = .ok (.ifCond .lt 11, 3) := by decide +kernel
theorem dX4_costFrom_37 : decode cX4_costFrom 37 = .ok (.iload 4, 2) := by decide +kernel
theorem dX4_costFrom_39 : decode cX4_costFrom 39 = .ok (.iload 7, 2) := by decide +kernel
theorem dX4_costFrom_41 : decode cX4_costFrom 41 = .ok (.iand, 1) := by decide +kernel
theorem dX4_costFrom_42 : decode cX4_costFrom 42 = .ok (.ifCond .eq 6, 3) := by decide +kernel
theorem dX4_costFrom_45 : decode cX4_costFrom 45 = .ok (.ldc 167, 2) := by decide +kernel
theorem dX4_costFrom_47 : decode cX4_costFrom 47 = .ok (.ireturn, 1) := by decide +kernel
theorem dX4_costFrom_48 : decode cX4_costFrom 48 = .ok (.aload_n 0, 1) := by decide +kernel
theorem dX4_costFrom_49 : decode cX4_costFrom 49 = .ok (.getfield 11, 3) := by decide +kernel
theorem dX4_costFrom_52 : decode cX4_costFrom 52 = .ok (.iload_n 1, 1) := by decide +kernel
theorem dX4_costFrom_53 : decode cX4_costFrom 53 = .ok (.aaload, 1) := by decide +kernel
theorem dX4_costFrom_54 : decode cX4_costFrom 54 = .ok (.getfield 177, 3) := by decide +kernel
theorem dX4_costFrom_57 : decode cX4_costFrom 57 = .ok (.iload_n 2, 1) := by decide +kernel
theorem dX4_costFrom_58 : decode cX4_costFrom 58 = .ok (.iaload, 1) := by decide +kernel
theorem dX4_costFrom_59 : decode cX4_costFrom 59 = .ok (.aload_n 0, 1) := by decide +kernel
theorem dX4_costFrom_60 : decode cX4_costFrom 60 = .ok (.getfield 51, 3) := by decide +kernel
theorem dX4_costFrom_63 : decode cX4_costFrom 63 = .ok (.iload_n 1, 1) := by decide +kernel
theorem dX4_costFrom_64 : decode cX4_costFrom 64 = .ok (.iconst 1, 1) := by decide +kernel
theorem dX4_costFrom_65 : decode cX4_costFrom 65 = .ok (.iadd, 1) := by decide +kernel
theorem dX4_costFrom_66 : decode cX4_costFrom 66 = .ok (.aaload, 1) := by decide +kernel
theorem dX4_costFrom_67 : decode cX4_costFrom 67 = .ok (.iload 6, 2) := by decide +kernel
theorem dX4_costFrom_69 : decode cX4_costFrom 69 = .ok (.bipush 64, 2) := by decide +kernel
theorem dX4_costFrom_71 : decode cX4_costFrom 71 = .ok (.imul, 1) := by decide +kernel
theorem dX4_costFrom_72 : decode cX4_costFrom 72 = .ok (.iload 4, 2) := by decide +kernel
theorem dX4_costFrom_74 : decode cX4_costFrom 74 = .ok (.iload 7, 2) := by decide +kernel
theorem dX4_costFrom_76 : decode cX4_costFrom 76 = .ok (.ior, 1) := by decide +kernel
theorem dX4_costFrom_77 : decode cX4_costFrom 77 = .ok (.iadd, 1) := by decide +kernel
theorem dX4_costFrom_78 : decode cX4_costFrom 78 = .ok (.iaload, 1) := by decide +kernel
theorem dX4_costFrom_79 : decode cX4_costFrom 79 = .ok (.iadd, 1) := by decide +kernel
theorem dX4_costFrom_80 : decode cX4_costFrom 80 = .ok (.ireturn, 1) := by decide +kernel
theorem dX4_bitOf_0 : decode cX4_bitOf 0 = .ok (.iconst 1, 1) := by decide +kernel
theorem dX4_bitOf_1 : decode cX4_bitOf 1 = .ok (.iload_n 0, 1) := by decide +kernel
theorem dX4_bitOf_2 : decode cX4_bitOf 2 = .ok (.ishl, 1) := by decide +kernel
theorem dX4_bitOf_3 : decode cX4_bitOf 3 = .ok (.iconst 1, 1) := by decide +kernel
theorem dX4_bitOf_4 : decode cX4_bitOf 4 = .ok (.ishr, 1) := by decide +kernel
theorem dX4_bitOf_5 : decode cX4_bitOf 5 = .ok (.ireturn, 1) := by decide +kernel
theorem dX6_init_0 : decode cX6_init 0 = .ok (.aload_n 0, 1) := by decide +kernel
theorem dX6_init_1 : decode cX6_init 1 = .ok (.invokespecial 3, 3) := by decide +kernel
theorem dX6_init_4 : decode cX6_init 4 = .ok (.aload_n 0, 1) := by decide +kernel
theorem dX6_init_5 : decode cX6_init 5 = .ok (.iconst 0, 1) := by decide +kernel
theorem dX6_init_6 : decode cX6_init 6 = .ok (.newarray .int, 2) := by decide +kernel
theorem dX6_init_8 : decode cX6_init 8 = .ok (.putfield 9, 3) := by decide +kernel
theorem dX6_init_11 : decode cX6_init 11 = .ok (.aload_n 0, 1) := by decide +kernel
theorem dX6_init_12 : decode cX6_init 12 = .ok (.iconst 0, 1) := by decide +kernel
theorem dX6_init_13 : decode cX6_init 13 = .ok (.putfield 15, 3) := by decide +kernel
theorem dX6_init_16 : decode cX6_init 16 = .ok (.aload_n 0, 1) := by decide +kernel
theorem dX6_init_17 : decode cX6_init 17 = .ok (.iconst 0, 1) := by decide +kernel
theorem dX6_init_18 : decode cX6_init 18 = .ok (.putfield 19, 3) := by decide +kernel
theorem dX6_init_21 : decode cX6_init 21 = .ok (.aload_n 0, 1) := by decide +kernel
theorem dX6_init_22 : decode cX6_init 22 = .ok (.iconst 0, 1) := by decide +kernel
theorem dX6_init_23 : decode cX6_init 23 = .ok (.putfield 22, 3) := by decide +kernel
theorem dX6_init_26 : decode cX6_init 26 = .ok (.aload_n 0, 1) := by decide +kernel
theorem dX6_init_27 : decode cX6_init 27 = .ok (.bipush (-24), 2) := by decide +kernel
theorem dX6_init_29 : decode cX6_init 29 = .ok (.putfield 25, 3) := by decide +kernel
theorem dX6_init_32 : decode cX6_init 32 = .ok (.aload_n 0, 1) := by decide +kernel
theorem dX6_init_33 : decode cX6_init 33 = .ok (.iconst 0, 1) := by decide +kernel
theorem dX6_init_34 : decode cX6_init 34 = .ok (.putfield 28, 3) := by decide +kernel
theorem dX6_init_37 : decode cX6_init 37 = .ok (.aload_n 0, 1) := by decide +kernel
theorem dX6_init_38 : decode cX6_init 38 = .ok (.iconst (-1), 1) := by decide +kernel
theorem dX6_init_39 : decode cX6_init 39 = .ok (.putfield 31, 3) := by decide +kernel
theorem dX6_init_42 : decode cX6_init 42 = .ok (.aload_n 0, 1) := by decide +kernel
theorem dX6_init_43 : decode cX6_init 43 = .ok (.sipush 160, 3) := by decide +kernel
theorem dX6_init_46 : decode cX6_init 46 = .ok (.newarray .int, 2) := by decide +kernel
theorem dX6_init_48 : decode cX6_init 48 = .ok (.putfield 34, 3) := by decide +kernel
theorem dX6_init_51 : decode cX6_init 51 = .ok (.aload_n 0, 1) := by decide +kernel
theorem dX6_init_52 : decode cX6_init 52 = .ok (.iconst 0, 1) := by decide +kernel
theorem dX6_init_53 : decode cX6_init 53 = .ok (.putfield 37, 3) := by decide +kernel
theorem dX6_init_56 : decode cX6_init 56 = .ok (.aload_n 0, 1) := by decide +kernel
theorem dX6_init_57 : decode cX6_init 57 = .ok (.iconst 3, 1) := by decide +kernel
theorem dX6_init_58 : decode cX6_init 58 = .ok (.newarray .int, 2) := by decide +kernel
theorem dX6_init_60 : decode cX6_init 60 = .ok (.putfield 40, 3) := by decide +kernel
theorem dX6_init_63 : decode cX6_init 63 = .ok (.return_, 1) := by decide +kernel
theorem dX6_read_0 : decode cX6_read 0 = .ok (.aload_n 0, 1) := by decide +kernel
theorem dX6_read_1 : decode cX6_read 1 = .ok (.aload_n 1, 1) := by decide +kernel
theorem dX6_read_2 : decode cX6_read 2 = .ok (.putfield 9, 3) := by decide +kernel
theorem dX6_read_5 : decode cX6_read 5 = .ok (.aload_n 0, 1) := by decide +kernel
theorem dX6_read_6 : decode cX6_read 6 = .ok (.iload_n 2, 1) := by decide +kernel
theorem dX6_read_7 : decode cX6_read 7 = .ok (.putfield 15, 3) := by decide +kernel
theorem dX6_read_10 : decode cX6_read 10 = .ok (.aload_n 0, 1) := by decide +kernel
theorem dX6_read_11 : decode cX6_read 11 = .ok (.iconst 0, 1) := by decide +kernel
theorem dX6_read_12 : decode cX6_read 12 = .ok (.putfield 19, 3) := by decide +kernel
theorem dX6_read_15 : decode cX6_read 15 = .ok (.aload_n 0, 1) := by decide +kernel
theorem dX6_read_16 : decode cX6_read 16 = .ok (.iconst 0, 1) := by decide +kernel
theorem dX6_read_17 : decode cX6_read 17 = .ok (.putfield 37, 3) := by decide +kernel
theorem dX6_read_20 : decode cX6_read 20 = .ok (.aload_n 0, 1) := by decide +kernel
theorem dX6_read_21 : decode cX6_read 21 = .ok (.iconst (-1), 1) := by decide +kernel
theorem dX6_read_22 : decode cX6_read 22 = .ok (.putfield 31, 3) := by decide +kernel
theorem dX6_read_25 : decode cX6_read 25 = .ok (.aload_n 0, 1) := by decide +kernel
theorem dX6_read_26 : decode cX6_read 26 = .ok (.invokevirtual 43, 3) := by decide +kernel
theorem dX6_read_29 : decode cX6_read 29 = .ok (.iconst 0, 1) := by decide +kernel
theorem dX6_read_30 : decode cX6_read 30 = .ok (.istore_n 3, 1) := by decide +kernel
theorem dX6_read_31 : decode cX6_read 31 = .ok (.iload_n 3, 1) := by decide +kernel
theorem dX6_read_32 : decode cX6_read 32 = .ok (.iconst 3, 1) := by decide +kernel
theorem dX6_read_33 : decode cX6_read 33 = .ok (.if_icmp .ge 44, 3) := by decide +kernel
theorem dX6_read_36 : decode cX6_read 36 = .ok (.aload_n 0, 1) := by decide +kernel
theorem dX6_read_37 : decode cX6_read 37 = .ok (.bipush (-19), 2) := by decide +kernel
theorem dX6_read_39 : decode cX6_read 39 = .ok (.iload_n 3, 1) := by decide +kernel
theorem dX6_read_40 : decode cX6_read 40 = .ok (.isub, 1) := by decide +kernel
theorem dX6_read_41 : decode cX6_read 41 = .ok (.invokevirtual 46, 3) := by decide +kernel
theorem dX6_read_44 : decode cX6_read 44 = .ok (.aload_n 0, 1) := by decide +kernel
theorem dX6_read_45 : decode cX6_read 45 = .ok (.getfield 40, 3) := by decide +kernel
theorem dX6_read_48 : decode cX6_read 48 = .ok (.iload_n 3, 1) := by decide +kernel
theorem dX6_read_49 : decode cX6_read 49 = .ok (.aload_n 0, 1) := by decide +kernel
theorem dX6_read_50 : decode cX6_read 50 = .ok (.getfield 37, 3) := by decide +kernel
theorem dX6_read_53 : decode cX6_read 53 = .ok (.iastore, 1) := by decide +kernel
theorem dX6_read_54 : decode cX6_read 54 = .ok (.aload_n 0, 1) := by decide +kernel
theorem dX6_read_55 : decode cX6_read 55 = .ok (.iconst 0, 1) := by decide +kernel
theorem dX6_read_56 : decode cX6_read 56 = .ok (.invokevirtual 50, 3) := by decide +kernel
theorem dX6_read_59 : decode cX6_read 59 = .ok (.aload_n 0, 1) := by decide +kernel
theorem dX6_read_60 : decode cX6_read 60 = .ok (.bipush (-16), 2) := by decide +kernel
theorem dX6_read_62 : decode cX6_read 62 = .ok (.invokevirtual 53, 3) := by decide +kernel
theorem dX6_read_65 : decode cX6_read 65 = .ok (.aload_n 0, 1) := by decide +kernel
theorem dX6_read_66 : decode cX6_read 66 = .ok (.bipush (-16), 2) := by decide +kernel
theorem dX6_read_68 : decode cX6_read 68 = .ok (.invokevirtual 46, 3) := by decide +kernel
theorem dX6_read_71 : decode cX6_read 71 = .ok (.iinc 3 1, 3) := by decide +kernel
theorem dX6_read_74 : decode cX6_read 74 = .ok (.goto (-43), 3) := by decide +kernel
theorem dX6_read_77 : decode cX6_read 77 = .ok (.aload_n 0, 1) := by decide +kernel
theorem dX6_read_78 : decode cX6_read 78 = .ok (.bipush (-23), 2) := by decide +kernel
theorem dX6_read_80 : decode cX6_read 80 = .ok (.invokevirtual 46, 3) := by decide +kernel
theorem dX6_read_83 : decode cX6_read 83 = .ok (.aload_n 0, 1) := by decide +kernel
theorem dX6_read_84 : decode cX6_read 84 = .ok (.getfield 31, 3) := by decide +kernel
theorem dX6_read_87 : decode cX6_read 87 = .ok (.ireturn, 1) := by decide +kernel
theorem dX6_made_0 : decode cX6_made 0 = .ok (.new 56, 3) := by decide +kernel
theorem dX6_made_3 : decode cX6_made 3 = .ok (.dup, 1) := by decide +kernel
theorem dX6_made_4 : decode cX6_made 4 = .ok (.aload_n 0, 1) := by decide +kernel
theorem dX6_made_5 : decode cX6_made 5 = .ok (.getfield 34, 3) := by decide +kernel
theorem dX6_made_8 : decode cX6_made 8 = .ok (.aload_n 0, 1) := by decide +kernel
theorem dX6_made_9 : decode cX6_made 9 = .ok (.getfield 37, 3) := by decide +kernel
theorem dX6_made_12 : decode cX6_made 12 = .ok (.aload_n 0, 1) := by decide +kernel
theorem dX6_made_13 : decode cX6_made 13 = .ok (.getfield 40, 3) := by decide +kernel
theorem dX6_made_16 : decode cX6_made 16 = .ok (.invokespecial 58, 3) := by decide +kernel
theorem dX6_made_19 : decode cX6_made 19 = .ok (.areturn, 1) := by decide +kernel
theorem dX6_either_0 : decode cX6_either 0 = .ok (.aload_n 0, 1) := by decide +kernel
theorem dX6_either_1 : decode cX6_either 1 = .ok (.iload_n 1, 1) := by decide +kernel
theorem dX6_either_2 : decode cX6_either 2 = .ok (.invokevirtual 61, 3) := by decide +kernel
theorem dX6_either_5 : decode cX6_either 5 = .ok (.iconst 0, 1) := by decide +kernel
theorem dX6_either_6 : decode cX6_either 6 = .ok (.istore_n 2, 1) := by decide +kernel
theorem dX6_either_7 : decode cX6_either 7 = .ok (.iload_n 2, 1) := by decide +kernel
theorem dX6_either_8 : decode cX6_either 8 = .ok (.sipush 160, 3) := by decide +kernel
theorem dX6_either_11 : decode cX6_either 11 = .ok (.if_icmp .ge 33, 3) := by decide +kernel
theorem dX6_either_14 : decode cX6_either 14 = .ok (.aload_n 0, 1) := by decide +kernel
theorem dX6_either_15 : decode cX6_either 15 = .ok (.getfield 25, 3) := by decide +kernel
theorem dX6_either_18 : decode cX6_either 18 = .ok (.bipush (-7), 2) := by decide +kernel
theorem dX6_either_20 : decode cX6_either 20 = .ok (.if_icmp .ne 24, 3) := by decide +kernel
theorem dX6_either_23 : decode cX6_either 23 = .ok (.aload_n 0, 1) := by decide +kernel
theorem dX6_either_24 : decode cX6_either 24 = .ok (.invokevirtual 43, 3) := by decide +kernel
theorem dX6_either_27 : decode cX6_either 27 = .ok (.aload_n 0, 1) := by decide +kernel
theorem dX6_either_28 : decode cX6_either 28 = .ok (.iload_n 1, 1) := by decide +kernel
theorem dX6_either_29 : decode cX6_either 29 = .ok (.invokevirtual 61, 3) := by decide +kernel
theorem dX6_either_32 : decode cX6_either 32 = .ok (.aload_n 0, 1) := by decide +kernel
theorem dX6_either_33 : decode cX6_either 33 = .ok (.bipush (-7), 2) := by decide +kernel
theorem dX6_either_35 : decode cX6_either 35 = .ok (.invokevirtual 53, 3) := by decide +kernel
theorem dX6_either_38 : decode cX6_either 38 = .ok (.iinc 2 1, 3) := by decide +kernel
theorem dX6_either_41 : decode cX6_either 41 = .ok (.goto (-34), 3) := by decide +kernel
theorem dX6_either_44 : decode cX6_either 44 = .ok (.return_, 1) := by decide +kernel
theorem dX6_both_0 : decode cX6_both 0 = .ok (.aload_n 0, 1) := by decide +kernel
theorem dX6_both_1 : decode cX6_both 1 = .ok (.iload_n 1, 1) := by decide +kernel
theorem dX6_both_2 : decode cX6_both 2 = .ok (.invokevirtual 64, 3) := by decide +kernel
theorem dX6_both_5 : decode cX6_both 5 = .ok (.iconst 0, 1) := by decide +kernel
theorem dX6_both_6 : decode cX6_both 6 = .ok (.istore_n 2, 1) := by decide +kernel
theorem dX6_both_7 : decode cX6_both 7 = .ok (.iload_n 2, 1) := by decide +kernel
theorem dX6_both_8 : decode cX6_both 8 = .ok (.sipush 160, 3) := by decide +kernel
theorem dX6_both_11 : decode cX6_both 11 = .ok (.if_icmp .ge 33, 3) := by decide +kernel
theorem dX6_both_14 : decode cX6_both 14 = .ok (.aload_n 0, 1) := by decide +kernel
theorem dX6_both_15 : decode cX6_both 15 = .ok (.getfield 25, 3) := by decide +kernel
theorem dX6_both_18 : decode cX6_both 18 = .ok (.bipush (-8), 2) := by decide +kernel
theorem dX6_both_20 : decode cX6_both 20 = .ok (.if_icmp .ne 24, 3) := by decide +kernel
theorem dX6_both_23 : decode cX6_both 23 = .ok (.aload_n 0, 1) := by decide +kernel
theorem dX6_both_24 : decode cX6_both 24 = .ok (.invokevirtual 43, 3) := by decide +kernel
theorem dX6_both_27 : decode cX6_both 27 = .ok (.aload_n 0, 1) := by decide +kernel
theorem dX6_both_28 : decode cX6_both 28 = .ok (.iload_n 1, 1) := by decide +kernel
theorem dX6_both_29 : decode cX6_both 29 = .ok (.invokevirtual 64, 3) := by decide +kernel
theorem dX6_both_32 : decode cX6_both 32 = .ok (.aload_n 0, 1) := by decide +kernel
theorem dX6_both_33 : decode cX6_both 33 = .ok (.bipush (-8), 2) := by decide +kernel
theorem dX6_both_35 : decode cX6_both 35 = .ok (.invokevirtual 53, 3) := by decide +kernel
theorem dX6_both_38 : decode cX6_both 38 = .ok (.iinc 2 1, 3) := by decide +kernel
theorem dX6_both_41 : decode cX6_both 41 = .ok (.goto (-34), 3) := by decide +kernel
theorem dX6_both_44 : decode cX6_both 44 = .ok (.return_, 1) := by decide +kernel
theorem dX6_negation_0 : decode cX6_negation 0 = .ok (.aload_n 0, 1) := by decide +kernel
theorem dX6_negation_1 : decode cX6_negation 1 = .ok (.getfield 25, 3) := by decide +kernel
theorem dX6_negation_4 : decode cX6_negation 4 = .ok (.bipush (-9), 2) := by decide +kernel
theorem dX6_negation_6 : decode cX6_negation 6 = .ok (.if_icmp .eq 11, 3) := by decide +kernel
theorem dX6_negation_9 : decode cX6_negation 9 = .ok (.aload_n 0, 1) := by decide +kernel
theorem dX6_negation_10 : decode cX6_negation 10 = .ok (.iload_n 1, 1) := by decide +kernel
theorem dX6_negation_11 : decode cX6_negation 11 = .ok (.invokevirtual 67, 3) := by decide +kernel
theorem dX6_negation_14 : decode cX6_negation 14 = .ok (.goto 32, 3) := by decide +kernel
theorem dX6_negation_17 : decode cX6_negation 17 = .ok (.iload_n 1, 1) := by decide +kernel
theorem dX6_negation_18 : decode cX6_negation 18 = .ok (.iconst 5, 1) := by decide +kernel
theorem dX6_negation_19 : decode cX6_negation 19 = .ok (.if_icmp .lt 10, 3) := by decide +kernel
theorem dX6_negation_22 : decode cX6_negation 22 = .ok (.aload_n 0, 1) := by decide +kernel
theorem dX6_negation_23 : decode cX6_negation 23 = .ok (.invokevirtual 70, 3) := by decide +kernel
theorem dX6_negation_26 : decode cX6_negation 26 = .ok (.goto 20, 3) := by decide +kernel
theorem dX6_negation_29 : decode cX6_negation 29 = .ok (.aload_n 0, 1) := by decide +kernel
theorem dX6_negation_30 : decode cX6_negation 30 = .ok (.invokevirtual 43, 3) := by decide +kernel
theorem dX6_negation_33 : decode cX6_negation 33 = .ok (.aload_n 0, 1) := by decide +kernel
theorem dX6_negation_34 : decode cX6_negation 34 = .ok (.iload_n 1, 1) := by decide +kernel
theorem dX6_negation_35 : decode cX6_negation 35 = .ok (.iconst 1, 1) := by decide +kernel
theorem dX6_negation_36 : decode cX6_negation 36 = .ok (.iadd, 1) := by decide +kernel
theorem dX6_negation_37 : decode cX6_negation 37 = .ok (.invokevirtual 64, 3) := by decide +kernel
theorem dX6_negation_40 : decode cX6_negation 40 = .ok (.aload_n 0, 1) := by decide +kernel
theorem dX6_negation_41 : decode cX6_negation 41 = .ok (.bipush (-9), 2) := by decide +kernel
theorem dX6_negation_43 : decode cX6_negation 43 = .ok (.invokevirtual 53, 3) := by decide +kernel
theorem dX6_negation_46 : decode cX6_negation 46 = .ok (.return_, 1) := by decide +kernel
theorem dX6_comparison_0 : decode cX6_comparison 0 = .ok (.aload_n 0, 1) := by decide +kernel
theorem dX6_comparison_1 : decode cX6_comparison 1 = .ok (.iload_n 1, 1) := by decide +kernel
theorem dX6_comparison_2 : decode cX6_comparison 2 = .ok (.invokevirtual 73, 3) := by decide +kernel
theorem dX6_comparison_5 : decode cX6_comparison 5 = .ok (.aload_n 0, 1) := by decide +kernel
theorem dX6_comparison_6 : decode cX6_comparison 6 = .ok (.getfield 25, 3) := by decide +kernel
theorem dX6_comparison_9 : decode cX6_comparison 9 = .ok (.bipush (-10), 2) := by decide +kernel
theorem dX6_comparison_11 : decode cX6_comparison 11 = .ok (.if_icmp .eq 12, 3) := by decide +kernel
theorem dX6_comparison_14 : decode cX6_comparison 14 = .ok (.aload_n 0, 1) := by decide +kernel
theorem dX6_comparison_15 : decode cX6_comparison 15 = .ok (.getfield 25, 3) := by decide +kernel
theorem dX6_comparison_18 : decode cX6_comparison 18 = .ok (.bipush (-11), 2) := by decide +kernel
theorem dX6_comparison_20 : decode cX6_comparison 20 = .ok (.if_icmp .ne 22, 3) := by decide +kernel
theorem dX6_comparison_23 : decode cX6_comparison 23 = .ok (.aload_n 0, 1) := by decide +kernel
theorem dX6_comparison_24 : decode cX6_comparison 24 = .ok (.getfield 25, 3) := by decide +kernel
theorem dX6_comparison_27 : decode cX6_comparison 27 = .ok (.istore_n 2, 1) := by decide +kernel
theorem dX6_comparison_28 : decode cX6_comparison 28 = .ok (.aload_n 0, 1) := by decide +kernel
theorem dX6_comparison_29 : decode cX6_comparison 29 = .ok (.invokevirtual 43, 3) := by decide +kernel
theorem dX6_comparison_32 : decode cX6_comparison 32 = .ok (.aload_n 0, 1) := by decide +kernel
theorem dX6_comparison_33 : decode cX6_comparison 33 = .ok (.iload_n 1, 1) := by decide +kernel
theorem dX6_comparison_34 : decode cX6_comparison 34 = .ok (.invokevirtual 73, 3) := by decide +kernel
theorem dX6_comparison_37 : decode cX6_comparison 37 = .ok (.aload_n 0, 1) := by decide +kernel
theorem dX6_comparison_38 : decode cX6_comparison 38 = .ok (.iload_n 2, 1) := by decide +kernel
theorem dX6_comparison_39 : decode cX6_comparison 39 = .ok (.invokevirtual 53, 3) := by decide +kernel
theorem dX6_comparison_42 : decode cX6_comparison 42 = .ok (.return_, 1) := by decide +kernel
theorem dX6_sum_0 : decode cX6_sum 0 = .ok (.aload_n 0, 1) := by decide +kernel
theorem dX6_sum_1 : decode cX6_sum 1 = .ok (.iload_n 1, 1) := by decide +kernel
theorem dX6_sum_2 : decode cX6_sum 2 = .ok (.invokevirtual 76, 3) := by decide +kernel
theorem dX6_sum_5 : decode cX6_sum 5 = .ok (.iconst 0, 1) := by decide +kernel
theorem dX6_sum_6 : decode cX6_sum 6 = .ok (.istore_n 2, 1) := by decide +kernel
theorem dX6_sum_7 : decode cX6_sum 7 = .ok (.iload_n 2, 1) := by decide +kernel
theorem dX6_sum_8 : decode cX6_sum 8 = .ok (.sipush 160, 3) := by decide +kernel
theorem dX6_sum_11 : decode cX6_sum 11 = .ok (.if_icmp .ge 46, 3) := by decide +kernel
theorem dX6_sum_14 : decode cX6_sum 14 = .ok (.aload_n 0, 1) := by decide +kernel
theorem dX6_sum_15 : decode cX6_sum 15 = .ok (.getfield 25, 3) := by decide +kernel
theorem dX6_sum_18 : decode cX6_sum 18 = .ok (.bipush (-12), 2) := by decide +kernel
theorem dX6_sum_20 : decode cX6_sum 20 = .ok (.if_icmp .eq 12, 3) := by decide +kernel
theorem dX6_sum_23 : decode cX6_sum 23 = .ok (.aload_n 0, 1) := by decide +kernel
theorem dX6_sum_24 : decode cX6_sum 24 = .ok (.getfield 25, 3) := by decide +kernel
theorem dX6_sum_27 : decode cX6_sum 27 = .ok (.bipush (-13), 2) := by decide +kernel
theorem dX6_sum_29 : decode cX6_sum 29 = .ok (.if_icmp .ne 28, 3) := by decide +kernel
theorem dX6_sum_32 : decode cX6_sum 32 = .ok (.aload_n 0, 1) := by decide +kernel
theorem dX6_sum_33 : decode cX6_sum 33 = .ok (.getfield 25, 3) := by decide +kernel
theorem dX6_sum_36 : decode cX6_sum 36 = .ok (.istore_n 3, 1) := by decide +kernel
theorem dX6_sum_37 : decode cX6_sum 37 = .ok (.aload_n 0, 1) := by decide +kernel
theorem dX6_sum_38 : decode cX6_sum 38 = .ok (.invokevirtual 43, 3) := by decide +kernel
theorem dX6_sum_41 : decode cX6_sum 41 = .ok (.aload_n 0, 1) := by decide +kernel
theorem dX6_sum_42 : decode cX6_sum 42 = .ok (.iload_n 1, 1) := by decide +kernel
theorem dX6_sum_43 : decode cX6_sum 43 = .ok (.invokevirtual 76, 3) := by decide +kernel
theorem dX6_sum_46 : decode cX6_sum 46 = .ok (.aload_n 0, 1) := by decide +kernel
theorem dX6_sum_47 : decode cX6_sum 47 = .ok (.iload_n 3, 1) := by decide +kernel
theorem dX6_sum_48 : decode cX6_sum 48 = .ok (.invokevirtual 53, 3) := by decide +kernel
theorem dX6_sum_51 : decode cX6_sum 51 = .ok (.iinc 2 1, 3) := by decide +kernel
theorem dX6_sum_54 : decode cX6_sum 54 = .ok (.goto (-47), 3) := by decide +kernel
theorem dX6_sum_57 : decode cX6_sum 57 = .ok (.return_, 1) := by decide +kernel
theorem dX6_term_0 : decode cX6_term 0 = .ok (.aload_n 0, 1) := by decide +kernel
theorem dX6_term_1 : decode cX6_term 1 = .ok (.iload_n 1, 1) := by decide +kernel
theorem dX6_term_2 : decode cX6_term 2 = .ok (.invokevirtual 79, 3) := by decide +kernel
theorem dX6_term_5 : decode cX6_term 5 = .ok (.iconst 0, 1) := by decide +kernel
theorem dX6_term_6 : decode cX6_term 6 = .ok (.istore_n 2, 1) := by decide +kernel
theorem dX6_term_7 : decode cX6_term 7 = .ok (.iload_n 2, 1) := by decide +kernel
theorem dX6_term_8 : decode cX6_term 8 = .ok (.sipush 160, 3) := by decide +kernel
theorem dX6_term_11 : decode cX6_term 11 = .ok (.if_icmp .ge 33, 3) := by decide +kernel
theorem dX6_term_14 : decode cX6_term 14 = .ok (.aload_n 0, 1) := by decide +kernel
theorem dX6_term_15 : decode cX6_term 15 = .ok (.getfield 25, 3) := by decide +kernel
theorem dX6_term_18 : decode cX6_term 18 = .ok (.bipush (-14), 2) := by decide +kernel
theorem dX6_term_20 : decode cX6_term 20 = .ok (.if_icmp .ne 24, 3) := by decide +kernel
theorem dX6_term_23 : decode cX6_term 23 = .ok (.aload_n 0, 1) := by decide +kernel
theorem dX6_term_24 : decode cX6_term 24 = .ok (.invokevirtual 43, 3) := by decide +kernel
theorem dX6_term_27 : decode cX6_term 27 = .ok (.aload_n 0, 1) := by decide +kernel
theorem dX6_term_28 : decode cX6_term 28 = .ok (.iload_n 1, 1) := by decide +kernel
theorem dX6_term_29 : decode cX6_term 29 = .ok (.invokevirtual 79, 3) := by decide +kernel
theorem dX6_term_32 : decode cX6_term 32 = .ok (.aload_n 0, 1) := by decide +kernel
theorem dX6_term_33 : decode cX6_term 33 = .ok (.bipush (-14), 2) := by decide +kernel
theorem dX6_term_35 : decode cX6_term 35 = .ok (.invokevirtual 53, 3) := by decide +kernel
theorem dX6_term_38 : decode cX6_term 38 = .ok (.iinc 2 1, 3) := by decide +kernel
theorem dX6_term_41 : decode cX6_term 41 = .ok (.goto (-34), 3) := by decide +kernel
theorem dX6_term_44 : decode cX6_term 44 = .ok (.return_, 1) := by decide +kernel
theorem dX6_one_0 : decode cX6_one 0 = .ok (.aload_n 0, 1) := by decide +kernel
theorem dX6_one_1 : decode cX6_one 1 = .ok (.getfield 25, 3) := by decide +kernel
theorem dX6_one_4 : decode cX6_one 4 = .ok (.bipush (-22), 2) := by decide +kernel
theorem dX6_one_6 : decode cX6_one 6 = .ok (.if_icmp .ne 18, 3) := by decide +kernel
theorem dX6_one_9 : decode cX6_one 9 = .ok (.aload_n 0, 1) := by decide +kernel
theorem dX6_one_10 : decode cX6_one 10 = .ok (.aload_n 0, 1) := by decide +kernel
theorem dX6_one_11 : decode cX6_one 11 = .ok (.getfield 28, 3) := by decide +kernel
theorem dX6_one_14 : decode cX6_one 14 = .ok (.invokevirtual 53, 3) := by decide +kernel
theorem dX6_one_17 : decode cX6_one 17 = .ok (.aload_n 0, 1) := by decide +kernel
theorem dX6_one_18 : decode cX6_one 18 = .ok (.invokevirtual 43, 3) := by decide +kernel
theorem dX6_one_21 : decode cX6_one 21 = .ok (.goto 107, 3) := by decide +kernel
theorem dX6_one_24 : decode cX6_one 24 = .ok (.aload_n 0, 1) := by decide +kernel
theorem dX6_one_25 : decode cX6_one 25 = .ok (.getfield 25, 3) := by decide +kernel
theorem dX6_one_28 : decode cX6_one 28 = .ok (.iconst (-1), 1) := by decide +kernel
theorem dX6_one_29 : decode cX6_one 29 = .ok (.if_icmp .gt 27, 3) := by decide +kernel
theorem dX6_one_32 : decode cX6_one 32 = .ok (.aload_n 0, 1) := by decide +kernel
theorem dX6_one_33 : decode cX6_one 33 = .ok (.getfield 25, 3) := by decide +kernel
theorem dX6_one_36 : decode cX6_one 36 = .ok (.bipush (-6), 2) := by decide +kernel
theorem dX6_one_38 : decode cX6_one 38 = .ok (.if_icmp .lt 18, 3) := by decide +kernel
theorem dX6_one_41 : decode cX6_one 41 = .ok (.aload_n 0, 1) := by decide +kernel
theorem dX6_one_42 : decode cX6_one 42 = .ok (.aload_n 0, 1) := by decide +kernel
theorem dX6_one_43 : decode cX6_one 43 = .ok (.getfield 25, 3) := by decide +kernel
theorem dX6_one_46 : decode cX6_one 46 = .ok (.invokevirtual 53, 3) := by decide +kernel
theorem dX6_one_49 : decode cX6_one 49 = .ok (.aload_n 0, 1) := by decide +kernel
theorem dX6_one_50 : decode cX6_one 50 = .ok (.invokevirtual 43, 3) := by decide +kernel
theorem dX6_one_53 : decode cX6_one 53 = .ok (.goto 75, 3) := by decide +kernel
theorem dX6_one_56 : decode cX6_one 56 = .ok (.aload_n 0, 1) := by decide +kernel
theorem dX6_one_57 : decode cX6_one 57 = .ok (.getfield 25, 3) := by decide +kernel
theorem dX6_one_60 : decode cX6_one 60 = .ok (.bipush (-13), 2) := by decide +kernel
theorem dX6_one_62 : decode cX6_one 62 = .ok (.if_icmp .ne 28, 3) := by decide +kernel
theorem dX6_one_65 : decode cX6_one 65 = .ok (.iload_n 1, 1) := by decide +kernel
theorem dX6_one_66 : decode cX6_one 66 = .ok (.iconst 5, 1) := by decide +kernel
theorem dX6_one_67 : decode cX6_one 67 = .ok (.if_icmp .ge 23, 3) := by decide +kernel
theorem dX6_one_70 : decode cX6_one 70 = .ok (.aload_n 0, 1) := by decide +kernel
theorem dX6_one_71 : decode cX6_one 71 = .ok (.invokevirtual 43, 3) := by decide +kernel
theorem dX6_one_74 : decode cX6_one 74 = .ok (.aload_n 0, 1) := by decide +kernel
theorem dX6_one_75 : decode cX6_one 75 = .ok (.iload_n 1, 1) := by decide +kernel
theorem dX6_one_76 : decode cX6_one 76 = .ok (.iconst 1, 1) := by decide +kernel
theorem dX6_one_77 : decode cX6_one 77 = .ok (.iadd, 1) := by decide +kernel
theorem dX6_one_78 : decode cX6_one 78 = .ok (.invokevirtual 79, 3) := by decide +kernel
theorem dX6_one_81 : decode cX6_one 81 = .ok (.aload_n 0, 1) := by decide +kernel
theorem dX6_one_82 : decode cX6_one 82 = .ok (.bipush (-15), 2) := by decide +kernel
theorem dX6_one_84 : decode cX6_one 84 = .ok (.invokevirtual 53, 3) := by decide +kernel
theorem dX6_one_87 : decode cX6_one 87 = .ok (.goto 41, 3) := by decide +kernel
theorem dX6_one_90 : decode cX6_one 90 = .ok (.aload_n 0, 1) := by decide +kernel
theorem dX6_one_91 : decode cX6_one 91 = .ok (.getfield 25, 3) := by decide +kernel
theorem dX6_one_94 : decode cX6_one 94 = .ok (.bipush (-17), 2) := by decide +kernel
theorem dX6_one_96 : decode cX6_one 96 = .ok (.if_icmp .ne 28, 3) := by decide +kernel
theorem dX6_one_99 : decode cX6_one 99 = .ok (.iload_n 1, 1) := by decide +kernel
theorem dX6_one_100 : decode cX6_one 100 = .ok (.iconst 5, 1) := by decide +kernel
theorem dX6_one_101 : decode cX6_one 101 = .ok (.if_icmp .ge 23, 3) := by decide +kernel
theorem dX6_one_104 : decode cX6_one 104 = .ok (.aload_n 0, 1) := by decide +kernel
theorem dX6_one_105 : decode cX6_one 105 = .ok (.invokevirtual 43, 3) := by decide +kernel
theorem dX6_one_108 : decode cX6_one 108 = .ok (.aload_n 0, 1) := by decide +kernel
theorem dX6_one_109 : decode cX6_one 109 = .ok (.iload_n 1, 1) := by decide +kernel
theorem dX6_one_110 : decode cX6_one 110 = .ok (.iconst 1, 1) := by decide +kernel
theorem dX6_one_111 : decode cX6_one 111 = .ok (.iadd, 1) := by decide +kernel
theorem dX6_one_112 : decode cX6_one 112 = .ok (.invokevirtual 50, 3) := by decide +kernel
theorem dX6_one_115 : decode cX6_one 115 = .ok (.aload_n 0, 1) := by decide +kernel
theorem dX6_one_116 : decode cX6_one 116 = .ok (.bipush (-18), 2) := by decide +kernel
theorem dX6_one_118 : decode cX6_one 118 = .ok (.invokevirtual 46, 3) := by decide +kernel
theorem dX6_one_121 : decode cX6_one 121 = .ok (.goto 7, 3) := by decide +kernel
theorem dX6_one_124 : decode cX6_one 124 = .ok (.aload_n 0, 1) := by decide +kernel
theorem dX6_one_125 : decode cX6_one 125 = .ok (.invokevirtual 70, 3) := by decide +kernel
theorem dX6_one_128 : decode cX6_one 128 = .ok (.return_, 1) := by decide +kernel
theorem dX6_emit_0 : decode cX6_emit 0 = .ok (.aload_n 0, 1) := by decide +kernel
theorem dX6_emit_1 : decode cX6_emit 1 = .ok (.getfield 37, 3) := by decide +kernel
theorem dX6_emit_4 : decode cX6_emit 4 = .ok (.aload_n 0, 1) := by decide +kernel
theorem dX6_emit_5 : decode cX6_emit 5 = .ok (.getfield 34, 3) := by decide +kernel
theorem dX6_emit_8 : decode cX6_emit 8 = .ok (.arraylength, 1) := by decide +kernel
theorem dX6_emit_9 : decode cX6_emit 9 = .ok (.if_icmp .ge 23, 3) := by decide +kernel
theorem dX6_emit_12 : decode cX6_emit 12 = .ok (.aload_n 0, 1) := by decide +kernel
theorem dX6_emit_13 : decode cX6_emit 13 = .ok (.getfield 34, 3) := by decide +kernel
theorem dX6_emit_16 : decode cX6_emit 16 = .ok (.aload_n 0, 1) := by decide +kernel
theorem dX6_emit_17 : decode cX6_emit 17 = .ok (.getfield 37, 3) := by decide +kernel
theorem dX6_emit_20 : decode cX6_emit 20 = .ok (.iload_n 1, 1) := by decide +kernel
theorem dX6_emit_21 : decode cX6_emit 21 = .ok (.iastore, 1) := by decide +kernel
theorem dX6_emit_22 : decode cX6_emit 22 = .ok (.aload_n 0, 1) := by decide +kernel
theorem dX6_emit_23 : decode cX6_emit 23 = .ok (.dup, 1) := by decide +kernel
theorem dX6_emit_24 : decode cX6_emit 24 = .ok (.getfield 37, 3) := by decide +kernel
theorem dX6_emit_27 : decode cX6_emit 27 = .ok (.iconst 1, 1) := by decide +kernel
theorem dX6_emit_28 : decode cX6_emit 28 = .ok (.iadd, 1) := by decide +kernel
theorem dX6_emit_29 : decode cX6_emit 29 = .ok (.putfield 37, 3) := by decide +kernel
theorem dX6_emit_32 : decode cX6_emit 32 = .ok (.return_, 1) := by decide +kernel
theorem dX6_expect_0 : decode cX6_expect 0 = .ok (.aload_n 0, 1) := by decide +kernel
theorem dX6_expect_1 : decode cX6_expect 1 = .ok (.getfield 25, 3) := by decide +kernel
theorem dX6_expect_4 : decode cX6_expect 4 = .ok (.iload_n 1, 1) := by decide +kernel
theorem dX6_expect_5 : decode cX6_expect 5 = .ok (.if_icmp .ne 10, 3) := by decide +kernel
theorem dX6_expect_8 : decode cX6_expect 8 = .ok (.aload_n 0, 1) := by decide +kernel
theorem dX6_expect_9 : decode cX6_expect 9 = .ok (.invokevirtual 43, 3) := by decide +kernel
theorem dX6_expect_12 : decode cX6_expect 12 = .ok (.goto 7, 3) := by decide +kernel
theorem dX6_expect_15 : decode cX6_expect 15 = .ok (.aload_n 0, 1) := by decide +kernel
theorem dX6_expect_16 : decode cX6_expect 16 = .ok (.invokevirtual 70, 3) := by decide +kernel
theorem dX6_expect_19 : decode cX6_expect 19 = .ok (.return_, 1) := by decide +kernel
theorem dX6_fail_0 : decode cX6_fail 0 = .ok (.aload_n 0, 1) := by decide +kernel
theorem dX6_fail_1 : decode cX6_fail 1 = .ok (.getfield 31, 3) := by decide +kernel
theorem dX6_fail_4 : decode cX6_fail 4 = .ok (.iconst (-1), 1) := by decide +kernel
theorem dX6_fail_5 : decode cX6_fail 5 = .ok (.if_icmp .ne 11, 3) := by decide +kernel
theorem dX6_fail_8 : decode cX6_fail 8 = .ok (.aload_n 0, 1) := by decide +kernel
theorem dX6_fail_9 : decode cX6_fail 9 = .ok (.aload_n 0, 1) := by decide +kernel
theorem dX6_fail_10 : decode cX6_fail 10 = .ok (.getfield 22, 3) := by decide +kernel
theorem dX6_fail_13 : decode cX6_fail 13 = .ok (.putfield 31, 3) := by decide +kernel
theorem dX6_fail_16 : decode cX6_fail 16 = .ok (.aload_n 0, 1) := by decide +kernel
theorem dX6_fail_17 : decode cX6_fail 17 = .ok (.bipush (-24), 2) := by decide +kernel
theorem dX6_fail_19 : decode cX6_fail 19 = .ok (.putfield 25, 3) := by decide +kernel
theorem dX6_fail_22 : decode cX6_fail 22 = .ok (.return_, 1) := by decide +kernel
theorem dX6_advance_0 : decode cX6_advance 0 = .ok (.aload_n 0, 1) := by decide +kernel
theorem dX6_advance_1 : decode cX6_advance 1 = .ok (.getfield 31, 3) := by decide +kernel
theorem dX6_advance_4 : decode cX6_advance 4 = .ok (.iconst (-1), 1) := by decide +kernel
theorem dX6_advance_5 : decode cX6_advance 5 = .ok (.if_icmp .eq 4, 3) := by decide +kernel
theorem dX6_advance_8 : decode cX6_advance 8 = .ok (.return_, 1) := by decide +kernel
theorem dX6_advance_9 : decode cX6_advance 9 = .ok (.aload_n 0, 1) := by decide +kernel
theorem dX6_advance_10 : decode cX6_advance 10 = .ok (.getfield 19, 3) := by decide +kernel
theorem dX6_advance_13 : decode cX6_advance 13 = .ok (.aload_n 0, 1) := by decide +kernel
theorem dX6_advance_14 : decode cX6_advance 14 = .ok (.getfield 15, 3) := by decide +kernel
theorem dX6_advance_17 : decode cX6_advance 17 = .ok (.if_icmp .ge 44, 3) := by decide +kernel
theorem dX6_advance_20 : decode cX6_advance 20 = .ok (.aload_n 0, 1) := by decide +kernel
theorem dX6_advance_21 : decode cX6_advance 21 = .ok (.getfield 9, 3) := by decide +kernel
theorem dX6_advance_24 : decode cX6_advance 24 = .ok (.aload_n 0, 1) := by decide +kernel
theorem dX6_advance_25 : decode cX6_advance 25 = .ok (.getfield 19, 3) := by decide +kernel
theorem dX6_advance_28 : decode cX6_advance 28 = .ok (.iaload, 1) := by decide +kernel
theorem dX6_advance_29 : decode cX6_advance 29 = .ok (.bipush 32, 2) := by decide +kernel
theorem dX6_advance_31 : decode cX6_advance 31 = .ok (.if_icmp .eq 17, 3) := by decide +kernel
theorem dX6_advance_34 : decode cX6_advance 34 = .ok (.aload_n 0, 1) := by decide +kernel
theorem dX6_advance_35 : decode cX6_advance 35 = .ok (.getfield 9, 3) := by decide +kernel
theorem dX6_advance_38 : decode cX6_advance 38 = .ok (.aload_n 0, 1) := by decide +kernel
theorem dX6_advance_39 : decode cX6_advance 39 = .ok (.getfield 19, 3) := by decide +kernel
theorem dX6_advance_42 : decode cX6_advance 42 = .ok (.iaload, 1) := by decide +kernel
theorem dX6_advance_43 : decode cX6_advance 43 = .ok (.bipush 10, 2) := by decide +kernel
theorem dX6_advance_45 : decode cX6_advance 45 = .ok (.if_icmp .ne 16, 3) := by decide +kernel
theorem dX6_advance_48 : decode cX6_advance 48 = .ok (.aload_n 0, 1) := by decide +kernel
theorem dX6_advance_49 : decode cX6_advance 49 = .ok (.dup, 1) := by decide +kernel
theorem dX6_advance_50 : decode cX6_advance 50 = .ok (.getfield 19, 3) := by decide +kernel
theorem dX6_advance_53 : decode cX6_advance 53 = .ok (.iconst 1, 1) := by decide +kernel
theorem dX6_advance_54 : decode cX6_advance 54 = .ok (.iadd, 1) := by decide +kernel
theorem dX6_advance_55 : decode cX6_advance 55 = .ok (.putfield 19, 3) := by decide +kernel
theorem dX6_advance_58 : decode cX6_advance 58 = .ok (.goto (-49), 3) := by decide +kernel
theorem dX6_advance_61 : decode cX6_advance 61 = .ok (.aload_n 0, 1) := by decide +kernel
theorem dX6_advance_62 : decode cX6_advance 62 = .ok (.aload_n 0, 1) := by decide +kernel
theorem dX6_advance_63 : decode cX6_advance 63 = .ok (.getfield 19, 3) := by decide +kernel
theorem dX6_advance_66 : decode cX6_advance 66 = .ok (.putfield 22, 3) := by decide +kernel
theorem dX6_advance_69 : decode cX6_advance 69 = .ok (.aload_n 0, 1) := by decide +kernel
theorem dX6_advance_70 : decode cX6_advance 70 = .ok (.getfield 19, 3) := by decide +kernel
theorem dX6_advance_73 : decode cX6_advance 73 = .ok (.aload_n 0, 1) := by decide +kernel
theorem dX6_advance_74 : decode cX6_advance 74 = .ok (.getfield 15, 3) := by decide +kernel
theorem dX6_advance_77 : decode cX6_advance 77 = .ok (.if_icmp .lt 12, 3) := by decide +kernel
theorem dX6_advance_80 : decode cX6_advance 80 = .ok (.aload_n 0, 1) := by decide +kernel
theorem dX6_advance_81 : decode cX6_advance 81 = .ok (.bipush (-23), 2) := by decide +kernel
theorem dX6_advance_83 : decode cX6_advance 83 = .ok (.putfield 25, 3) := by decide +kernel
theorem dX6_advance_86 : decode cX6_advance 86 = .ok (.goto 81, 3) := by decide +kernel
theorem dX6_advance_89 : decode cX6_advance 89 = .ok (.aload_n 0, 1) := by decide +kernel
theorem dX6_advance_90 : decode cX6_advance 90 = .ok (.getfield 9, 3) := by decide +kernel
theorem dX6_advance_93 : decode cX6_advance 93 = .ok (.aload_n 0, 1) := by decide +kernel
theorem dX6_advance_94 : decode cX6_advance 94 = .ok (.getfield 19, 3) := by decide +kernel
theorem dX6_advance_97 : decode cX6_advance 97 = .ok (.iaload, 1) := by decide +kernel
theorem dX6_advance_98 : decode cX6_advance 98 = .ok (.invokestatic 82, 3) := by decide +kernel
theorem dX6_advance_101 : decode cX6_advance 101 = .ok (.ifCond .eq 14, 3) := by decide +kernel
theorem dX6_advance_104 : decode cX6_advance 104 = .ok (.aload_n 0, 1) := by decide +kernel
theorem dX6_advance_105 : decode cX6_advance 105 = .ok (.aload_n 0, 1) := by decide +kernel
theorem dX6_advance_106 : decode cX6_advance 106 = .ok (.invokevirtual 86, 3) := by decide +kernel
theorem dX6_advance_109 : decode cX6_advance 109 = .ok (.putfield 25, 3) := by decide +kernel
theorem dX6_advance_112 : decode cX6_advance 112 = .ok (.goto 55, 3) := by decide +kernel
theorem dX6_advance_115 : decode cX6_advance 115 = .ok (.aload_n 0, 1) := by decide +kernel
theorem dX6_advance_116 : decode cX6_advance 116 = .ok (.getfield 9, 3) := by decide +kernel
theorem dX6_advance_119 : decode cX6_advance 119 = .ok (.aload_n 0, 1) := by decide +kernel
theorem dX6_advance_120 : decode cX6_advance 120 = .ok (.getfield 19, 3) := by decide +kernel
theorem dX6_advance_123 : decode cX6_advance 123 = .ok (.iaload, 1) := by decide +kernel
theorem dX6_advance_124 : decode cX6_advance 124 = .ok (.invokestatic 90, 3) := by decide +kernel
theorem dX6_advance_127 : decode cX6_advance 127 = .ok (.ifCond .eq 14, 3) := by decide +kernel
theorem dX6_advance_130 : decode cX6_advance 130 = .ok (.aload_n 0, 1) := by decide +kernel
theorem dX6_advance_131 : decode cX6_advance 131 = .ok (.aload_n 0, 1) := by decide +kernel
theorem dX6_advance_132 : decode cX6_advance 132 = .ok (.invokevirtual 93, 3) := by decide +kernel
theorem dX6_advance_135 : decode cX6_advance 135 = .ok (.putfield 25, 3) := by decide +kernel
theorem dX6_advance_138 : decode cX6_advance 138 = .ok (.goto 29, 3) := by decide +kernel
theorem dX6_advance_141 : decode cX6_advance 141 = .ok (.aload_n 0, 1) := by decide +kernel
theorem dX6_advance_142 : decode cX6_advance 142 = .ok (.aload_n 0, 1) := by decide +kernel
theorem dX6_advance_143 : decode cX6_advance 143 = .ok (.getfield 9, 3) := by decide +kernel
theorem dX6_advance_146 : decode cX6_advance 146 = .ok (.aload_n 0, 1) := by decide +kernel
theorem dX6_advance_147 : decode cX6_advance 147 = .ok (.getfield 19, 3) := by decide +kernel
theorem dX6_advance_150 : decode cX6_advance 150 = .ok (.iaload, 1) := by decide +kernel
theorem dX6_advance_151 : decode cX6_advance 151 = .ok (.invokestatic 96, 3) := by decide +kernel
theorem dX6_advance_154 : decode cX6_advance 154 = .ok (.putfield 25, 3) := by decide +kernel
theorem dX6_advance_157 : decode cX6_advance 157 = .ok (.aload_n 0, 1) := by decide +kernel
theorem dX6_advance_158 : decode cX6_advance 158 = .ok (.dup, 1) := by decide +kernel
theorem dX6_advance_159 : decode cX6_advance 159 = .ok (.getfield 19, 3) := by decide +kernel
theorem dX6_advance_162 : decode cX6_advance 162 = .ok (.iconst 1, 1) := by decide +kernel
theorem dX6_advance_163 : decode cX6_advance 163 = .ok (.iadd, 1) := by decide +kernel
theorem dX6_advance_164 : decode cX6_advance 164 = .ok (.putfield 19, 3) := by decide +kernel
theorem dX6_advance_167 : decode cX6_advance 167 = .ok (.return_, 1) := by decide +kernel
theorem dX6_word_0 : decode cX6_word 0 = .ok (.aload_n 0, 1) := by decide +kernel
theorem dX6_word_1 : decode cX6_word 1 = .ok (.getfield 19, 3) := by decide +kernel
theorem dX6_word_4 : decode cX6_word 4 = .ok (.aload_n 0, 1) := by decide +kernel
theorem dX6_word_5 : decode cX6_word 5 = .ok (.getfield 15, 3) := by decide +kernel
theorem dX6_word_8 : decode cX6_word 8 = .ok (.if_icmp .ge 31, 3) := by decide +kernel
theorem dX6_word_11 : decode cX6_word 11 = .ok (.aload_n 0, 1) := by decide +kernel
theorem dX6_word_12 : decode cX6_word 12 = .ok (.getfield 9, 3) := by decide +kernel
theorem dX6_word_15 : decode cX6_word 15 = .ok (.aload_n 0, 1) := by decide +kernel
theorem dX6_word_16 : decode cX6_word 16 = .ok (.getfield 19, 3) := by decide +kernel
theorem dX6_word_19 : decode cX6_word 19 = .ok (.iaload, 1) := by decide +kernel
theorem dX6_word_20 : decode cX6_word 20 = .ok (.invokestatic 82, 3) := by decide +kernel
theorem dX6_word_23 : decode cX6_word 23 = .ok (.ifCond .eq 16, 3) := by decide +kernel
theorem dX6_word_26 : decode cX6_word 26 = .ok (.aload_n 0, 1) := by decide +kernel
theorem dX6_word_27 : decode cX6_word 27 = .ok (.dup, 1) := by decide +kernel
theorem dX6_word_28 : decode cX6_word 28 = .ok (.getfield 19, 3) := by decide +kernel
theorem dX6_word_31 : decode cX6_word 31 = .ok (.iconst 1, 1) := by decide +kernel
theorem dX6_word_32 : decode cX6_word 32 = .ok (.iadd, 1) := by decide +kernel
theorem dX6_word_33 : decode cX6_word 33 = .ok (.putfield 19, 3) := by decide +kernel
theorem dX6_word_36 : decode cX6_word 36 = .ok (.goto (-36), 3) := by decide +kernel
theorem dX6_word_39 : decode cX6_word 39 = .ok (.aload_n 0, 1) := by decide +kernel
theorem dX6_word_40 : decode cX6_word 40 = .ok (.invokevirtual 100, 3) := by decide +kernel
theorem dX6_word_43 : decode cX6_word 43 = .ok (.istore_n 1, 1) := by decide +kernel
theorem dX6_word_44 : decode cX6_word 44 = .ok (.iload_n 1, 1) := by decide +kernel
theorem dX6_word_45 : decode cX6_word 45 = .ok (.bipush (-24), 2) := by decide +kernel
theorem dX6_word_47 : decode cX6_word 47 = .ok (.if_icmp .ne 10, 3) := by decide +kernel
theorem dX6_word_50 : decode cX6_word 50 = .ok (.aload_n 0, 1) := by decide +kernel
theorem dX6_word_51 : decode cX6_word 51 = .ok (.invokevirtual 103, 3) := by decide +kernel
theorem dX6_word_54 : decode cX6_word 54 = .ok (.goto 4, 3) := by decide +kernel
theorem dX6_word_57 : decode cX6_word 57 = .ok (.iload_n 1, 1) := by decide +kernel
theorem dX6_word_58 : decode cX6_word 58 = .ok (.ireturn, 1) := by decide +kernel
theorem dX6_key_0 : decode cX6_key 0 = .ok (.aload_n 0, 1) := by decide +kernel
theorem dX6_key_1 : decode cX6_key 1 = .ok (.ldc 106, 2) := by decide +kernel
theorem dX6_key_3 : decode cX6_key 3 = .ok (.invokevirtual 108, 3) := by decide +kernel
theorem dX6_key_6 : decode cX6_key 6 = .ok (.ifCond .eq 8, 3) := by decide +kernel
theorem dX6_key_9 : decode cX6_key 9 = .ok (.bipush (-19), 2) := by decide +kernel
theorem dX6_key_11 : decode cX6_key 11 = .ok (.goto 75, 3) := by decide +kernel
theorem dX6_key_14 : decode cX6_key 14 = .ok (.aload_n 0, 1) := by decide +kernel
theorem dX6_key_15 : decode cX6_key 15 = .ok (.ldc 112, 2) := by decide +kernel
theorem dX6_key_17 : decode cX6_key 17 = .ok (.invokevirtual 108, 3) := by decide +kernel
theorem dX6_key_20 : decode cX6_key 20 = .ok (.ifCond .eq 8, 3) := by decide +kernel
theorem dX6_key_23 : decode cX6_key 23 = .ok (.bipush (-20), 2) := by decide +kernel
theorem dX6_key_25 : decode cX6_key 25 = .ok (.goto 61, 3) := by decide +kernel
theorem dX6_key_28 : decode cX6_key 28 = .ok (.aload_n 0, 1) := by decide +kernel
theorem dX6_key_29 : decode cX6_key 29 = .ok (.ldc 114, 2) := by decide +kernel
theorem dX6_key_31 : decode cX6_key 31 = .ok (.invokevirtual 108, 3) := by decide +kernel
theorem dX6_key_34 : decode cX6_key 34 = .ok (.ifCond .eq 8, 3) := by decide +kernel
theorem dX6_key_37 : decode cX6_key 37 = .ok (.bipush (-21), 2) := by decide +kernel
theorem dX6_key_39 : decode cX6_key 39 = .ok (.goto 47, 3) := by decide +kernel
theorem dX6_key_42 : decode cX6_key 42 = .ok (.aload_n 0, 1) := by decide +kernel
theorem dX6_key_43 : decode cX6_key 43 = .ok (.ldc 116, 2) := by decide +kernel
theorem dX6_key_45 : decode cX6_key 45 = .ok (.invokevirtual 108, 3) := by decide +kernel
theorem dX6_key_48 : decode cX6_key 48 = .ok (.ifCond .eq 8, 3) := by decide +kernel
theorem dX6_key_51 : decode cX6_key 51 = .ok (.bipush (-7), 2) := by decide +kernel
theorem dX6_key_53 : decode cX6_key 53 = .ok (.goto 33, 3) := by decide +kernel
theorem dX6_key_56 : decode cX6_key 56 = .ok (.aload_n 0, 1) := by decide +kernel
theorem dX6_key_57 : decode cX6_key 57 = .ok (.ldc 118, 2) := by decide +kernel
theorem dX6_key_59 : decode cX6_key 59 = .ok (.invokevirtual 108, 3) := by decide +kernel
theorem dX6_key_62 : decode cX6_key 62 = .ok (.ifCond .eq 8, 3) := by decide +kernel
theorem dX6_key_65 : decode cX6_key 65 = .ok (.bipush (-8), 2) := by decide +kernel
theorem dX6_key_67 : decode cX6_key 67 = .ok (.goto 19, 3) := by decide +kernel
theorem dX6_key_70 : decode cX6_key 70 = .ok (.aload_n 0, 1) := by decide +kernel
theorem dX6_key_71 : decode cX6_key 71 = .ok (.ldc 120, 2) := by decide +kernel
theorem dX6_key_73 : decode cX6_key 73 = .ok (.invokevirtual 108, 3) := by decide +kernel
theorem dX6_key_76 : decode cX6_key 76 = .ok (.ifCond .eq 8, 3) := by decide +kernel
theorem dX6_key_79 : decode cX6_key 79 = .ok (.bipush (-9), 2) := by decide +kernel
theorem dX6_key_81 : decode cX6_key 81 = .ok (.goto 5, 3) := by decide +kernel
theorem dX6_key_84 : decode cX6_key 84 = .ok (.bipush (-24), 2) := by decide +kernel
theorem dX6_key_86 : decode cX6_key 86 = .ok (.ireturn, 1) := by decide +kernel
theorem dX6_name_0 : decode cX6_name 0 = .ok (.aload_n 0, 1) := by decide +kernel
theorem dX6_name_1 : decode cX6_name 1 = .ok (.ldc 122, 2) := by decide +kernel
theorem dX6_name_3 : decode cX6_name 3 = .ok (.invokevirtual 108, 3) := by decide +kernel
theorem dX6_name_6 : decode cX6_name 6 = .ok (.ifCond .eq 7, 3) := by decide +kernel
theorem dX6_name_9 : decode cX6_name 9 = .ok (.iconst (-1), 1) := by decide +kernel
theorem dX6_name_10 : decode cX6_name 10 = .ok (.goto 75, 3) := by decide +kernel
theorem dX6_name_13 : decode cX6_name 13 = .ok (.aload_n 0, 1) := by decide +kernel
theorem dX6_name_14 : decode cX6_name 14 = .ok (.ldc 124, 2) := by decide +kernel
theorem dX6_name_16 : decode cX6_name 16 = .ok (.invokevirtual 108, 3) := by decide +kernel
theorem dX6_name_19 : decode cX6_name 19 = .ok (.ifCond .eq 8, 3) := by decide +kernel
theorem dX6_name_22 : decode cX6_name 22 = .ok (.bipush (-2), 2) := by decide +kernel
theorem dX6_name_24 : decode cX6_name 24 = .ok (.goto 61, 3) := by decide +kernel
theorem dX6_name_27 : decode cX6_name 27 = .ok (.aload_n 0, 1) := by decide +kernel
theorem dX6_name_28 : decode cX6_name 28 = .ok (.ldc 126, 2) := by decide +kernel
theorem dX6_name_30 : decode cX6_name 30 = .ok (.invokevirtual 108, 3) := by decide +kernel
theorem dX6_name_33 : decode cX6_name 33 = .ok (.ifCond .eq 8, 3) := by decide +kernel
theorem dX6_name_36 : decode cX6_name 36 = .ok (.bipush (-3), 2) := by decide +kernel
theorem dX6_name_38 : decode cX6_name 38 = .ok (.goto 47, 3) := by decide +kernel
theorem dX6_name_41 : decode cX6_name 41 = .ok (.aload_n 0, 1) := by decide +kernel
theorem dX6_name_42 : decode cX6_name 42 = .ok (.ldc 128, 2) := by decide +kernel
theorem dX6_name_44 : decode cX6_name 44 = .ok (.invokevirtual 108, 3) := by decide +kernel
theorem dX6_name_47 : decode cX6_name 47 = .ok (.ifCond .eq 8, 3) := by decide +kernel
theorem dX6_name_50 : decode cX6_name 50 = .ok (.bipush (-4), 2) := by decide +kernel
theorem dX6_name_52 : decode cX6_name 52 = .ok (.goto 33, 3) := by decide +kernel
theorem dX6_name_55 : decode cX6_name 55 = .ok (.aload_n 0, 1) := by decide +kernel
theorem dX6_name_56 : decode cX6_name 56 = .ok (.ldc 130, 2) := by decide +kernel
theorem dX6_name_58 : decode cX6_name 58 = .ok (.invokevirtual 108, 3) := by decide +kernel
theorem dX6_name_61 : decode cX6_name 61 = .ok (.ifCond .eq 8, 3) := by decide +kernel
theorem dX6_name_64 : decode cX6_name 64 = .ok (.bipush (-5), 2) := by decide +kernel
theorem dX6_name_66 : decode cX6_name 66 = .ok (.goto 19, 3) := by decide +kernel
theorem dX6_name_69 : decode cX6_name 69 = .ok (.aload_n 0, 1) := by decide +kernel
theorem dX6_name_70 : decode cX6_name 70 = .ok (.ldc 132, 2) := by decide +kernel
theorem dX6_name_72 : decode cX6_name 72 = .ok (.invokevirtual 108, 3) := by decide +kernel
theorem dX6_name_75 : decode cX6_name 75 = .ok (.ifCond .eq 8, 3) := by decide +kernel
theorem dX6_name_78 : decode cX6_name 78 = .ok (.bipush (-6), 2) := by decide +kernel
theorem dX6_name_80 : decode cX6_name 80 = .ok (.goto 5, 3) := by decide +kernel
theorem dX6_name_83 : decode cX6_name 83 = .ok (.bipush (-24), 2) := by decide +kernel
theorem dX6_name_85 : decode cX6_name 85 = .ok (.ireturn, 1) := by decide +kernel
theorem dX6_spells_0 : decode cX6_spells 0 = .ok (.aload_n 1, 1) := by decide +kernel
theorem dX6_spells_1 : decode cX6_spells 1 = .ok (.invokevirtual 134, 3) := by decide +kernel
theorem dX6_spells_4 : decode cX6_spells 4 = .ok (.aload_n 0, 1) := by decide +kernel
theorem dX6_spells_5 : decode cX6_spells 5 = .ok (.getfield 19, 3) := by decide +kernel
theorem dX6_spells_8 : decode cX6_spells 8 = .ok (.aload_n 0, 1) := by decide +kernel
theorem dX6_spells_9 : decode cX6_spells 9 = .ok (.getfield 22, 3) := by decide +kernel
theorem dX6_spells_12 : decode cX6_spells 12 = .ok (.isub, 1) := by decide +kernel
theorem dX6_spells_13 : decode cX6_spells 13 = .ok (.if_icmp .eq 5, 3) := by decide +kernel
theorem dX6_spells_16 : decode cX6_spells 16 = .ok (.iconst 0, 1) := by decide +kernel
theorem dX6_spells_17 : decode cX6_spells 17 = .ok (.ireturn, 1) := by decide +kernel
theorem dX6_spells_18 : decode cX6_spells 18 = .ok (.iconst 0, 1) := by decide +kernel
theorem dX6_spells_19 : decode cX6_spells 19 = .ok (.istore_n 2, 1) := by decide +kernel
theorem dX6_spells_20 : decode cX6_spells 20 = .ok (.iload_n 2, 1) := by decide +kernel
