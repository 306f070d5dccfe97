theorem dX12_not_15 : decode cX12_not 15 = .ok (.ifCond .eq 37, 3) := by decide +kernel
theorem dX12_not_18 : decode cX12_not 18 = .ok (.aload_n 0, 1) := by decide +kernel
theorem dX12_not_19 : decode cX12_not 19 = .ok (.invokevirtual 225, 3) := by decide +kernel
theorem dX12_not_22 : decode cX12_not 22 = .ok (.ifCond .ne 5, 3) := by decide +kernel
theorem dX12_not_25 : decode cX12_not 25 = .ok (.iconst 0, 1) := by decide +kernel
theorem dX12_not_26 : decode cX12_not 26 = .ok (.ireturn, 1) := by decide +kernel
theorem dX12_not_27 : decode cX12_not 27 = .ok (.aload_n 0, 1) := by decide +kernel
theorem dX12_not_28 : decode cX12_not 28 = .ok (.invokevirtual 244, 3) := by decide +kernel
theorem dX12_not_31 : decode cX12_not 31 = .ok (.istore_n 1, 1) := by decide +kernel
theorem dX12_not_32 : decode cX12_not 32 = .ok (.aload_n 0, 1) := by decide +kernel
theorem dX12_not_33 : decode cX12_not 33 = .ok (.dup, 1) := by decide +kernel
theorem dX12_not_34 : decode cX12_not 34 = .ok (.getfield 191, 3) := by decide +kernel
theorem dX12_not_37 : decode cX12_not 37 = .ok (.iconst 1, 1) := by decide +kernel
theorem dX12_not_38 : decode cX12_not 38 = .ok (.isub, 1) := by decide +kernel
theorem dX12_not_39 : decode cX12_not 39 = .ok (.putfield 191, 3) := by decide +kernel
theorem dX12_not_42 : decode cX12_not 42 = .ok (.iload_n 1, 1) := by decide +kernel
theorem dX12_not_43 : decode cX12_not 43 = .ok (.ifCond .ne 7, 3) := by decide +kernel
theorem dX12_not_46 : decode cX12_not 46 = .ok (.iconst 1, 1) := by decide +kernel
theorem dX12_not_47 : decode cX12_not 47 = .ok (.goto 4, 3) := by decide +kernel
theorem dX12_not_50 : decode cX12_not 50 = .ok (.iconst 0, 1) := by decide +kernel
theorem dX12_not_51 : decode cX12_not 51 = .ok (.ireturn, 1) := by decide +kernel
theorem dX12_not_52 : decode cX12_not 52 = .ok (.aload_n 0, 1) := by decide +kernel
theorem dX12_not_53 : decode cX12_not 53 = .ok (.invokevirtual 247, 3) := by decide +kernel
theorem dX12_not_56 : decode cX12_not 56 = .ok (.istore_n 1, 1) := by decide +kernel
theorem dX12_not_57 : decode cX12_not 57 = .ok (.aload_n 0, 1) := by decide +kernel
theorem dX12_not_58 : decode cX12_not 58 = .ok (.bipush 60, 2) := by decide +kernel
theorem dX12_not_60 : decode cX12_not 60 = .ok (.invokevirtual 222, 3) := by decide +kernel
theorem dX12_not_63 : decode cX12_not 63 = .ok (.ifCond .ne 14, 3) := by decide +kernel
theorem dX12_not_66 : decode cX12_not 66 = .ok (.aload_n 0, 1) := by decide +kernel
theorem dX12_not_67 : decode cX12_not 67 = .ok (.bipush 61, 2) := by decide +kernel
theorem dX12_not_69 : decode cX12_not 69 = .ok (.invokevirtual 222, 3) := by decide +kernel
theorem dX12_not_72 : decode cX12_not 72 = .ok (.ifCond .ne 5, 3) := by decide +kernel
theorem dX12_not_75 : decode cX12_not 75 = .ok (.iload_n 1, 1) := by decide +kernel
theorem dX12_not_76 : decode cX12_not 76 = .ok (.ireturn, 1) := by decide +kernel
theorem dX12_not_77 : decode cX12_not 77 = .ok (.aload_n 0, 1) := by decide +kernel
theorem dX12_not_78 : decode cX12_not 78 = .ok (.getfield 175, 3) := by decide +kernel
theorem dX12_not_81 : decode cX12_not 81 = .ok (.ldc2_w 250, 3) := by decide +kernel
theorem dX12_not_84 : decode cX12_not 84 = .ok (.lcmp, 1) := by decide +kernel
theorem dX12_not_85 : decode cX12_not 85 = .ok (.ifCond .ne 7, 3) := by decide +kernel
theorem dX12_not_88 : decode cX12_not 88 = .ok (.iconst 1, 1) := by decide +kernel
theorem dX12_not_89 : decode cX12_not 89 = .ok (.goto 4, 3) := by decide +kernel
theorem dX12_not_92 : decode cX12_not 92 = .ok (.iconst 0, 1) := by decide +kernel
theorem dX12_not_93 : decode cX12_not 93 = .ok (.istore_n 2, 1) := by decide +kernel
theorem dX12_not_94 : decode cX12_not 94 = .ok (.aload_n 0, 1) := by decide +kernel
theorem dX12_not_95 : decode cX12_not 95 = .ok (.invokevirtual 197, 3) := by decide +kernel
theorem dX12_not_98 : decode cX12_not 98 = .ok (.aload_n 0, 1) := by decide +kernel
theorem dX12_not_99 : decode cX12_not 99 = .ok (.invokevirtual 247, 3) := by decide +kernel
theorem dX12_not_102 : decode cX12_not 102 = .ok (.istore_n 3, 1) := by decide +kernel
theorem dX12_not_103 : decode cX12_not 103 = .ok (.iload_n 2, 1) := by decide +kernel
theorem dX12_not_104 : decode cX12_not 104 = .ok (.ifCond .eq 11, 3) := by decide +kernel
theorem dX12_not_107 : decode cX12_not 107 = .ok (.iload_n 1, 1) := by decide +kernel
theorem dX12_not_108 : decode cX12_not 108 = .ok (.iload_n 3, 1) := by decide +kernel
theorem dX12_not_109 : decode cX12_not 109 = .ok (.if_icmp .ge 15, 3) := by decide +kernel
theorem dX12_not_112 : decode cX12_not 112 = .ok (.goto 8, 3) := by decide +kernel
theorem dX12_not_115 : decode cX12_not 115 = .ok (.iload_n 1, 1) := by decide +kernel
theorem dX12_not_116 : decode cX12_not 116 = .ok (.iload_n 3, 1) := by decide +kernel
theorem dX12_not_117 : decode cX12_not 117 = .ok (.if_icmp .ne 7, 3) := by decide +kernel
theorem dX12_not_120 : decode cX12_not 120 = .ok (.iconst 1, 1) := by decide +kernel
theorem dX12_not_121 : decode cX12_not 121 = .ok (.goto 4, 3) := by decide +kernel
theorem dX12_not_124 : decode cX12_not 124 = .ok (.iconst 0, 1) := by decide +kernel
theorem dX12_not_125 : decode cX12_not 125 = .ok (.ireturn, 1) := by decide +kernel
theorem dX12_both_0 : decode cX12_both 0 = .ok (.aload_n 0, 1) := by decide +kernel
theorem dX12_both_1 : decode cX12_both 1 = .ok (.invokevirtual 244, 3) := by decide +kernel
theorem dX12_both_4 : decode cX12_both 4 = .ok (.istore_n 1, 1) := by decide +kernel
theorem dX12_both_5 : decode cX12_both 5 = .ok (.aload_n 0, 1) := by decide +kernel
theorem dX12_both_6 : decode cX12_both 6 = .ok (.bipush 97, 2) := by decide +kernel
theorem dX12_both_8 : decode cX12_both 8 = .ok (.bipush 110, 2) := by decide +kernel
theorem dX12_both_10 : decode cX12_both 10 = .ok (.bipush 100, 2) := by decide +kernel
theorem dX12_both_12 : decode cX12_both 12 = .ok (.iconst 0, 1) := by decide +kernel
theorem dX12_both_13 : decode cX12_both 13 = .ok (.iconst 0, 1) := by decide +kernel
theorem dX12_both_14 : decode cX12_both 14 = .ok (.iconst 0, 1) := by decide +kernel
theorem dX12_both_15 : decode cX12_both 15 = .ok (.iconst 0, 1) := by decide +kernel
theorem dX12_both_16 : decode cX12_both 16 = .ok (.iconst 0, 1) := by decide +kernel
theorem dX12_both_17 : decode cX12_both 17 = .ok (.invokevirtual 200, 3) := by decide +kernel
theorem dX12_both_20 : decode cX12_both 20 = .ok (.ifCond .eq 29, 3) := by decide +kernel
theorem dX12_both_23 : decode cX12_both 23 = .ok (.aload_n 0, 1) := by decide +kernel
theorem dX12_both_24 : decode cX12_both 24 = .ok (.invokevirtual 197, 3) := by decide +kernel
theorem dX12_both_27 : decode cX12_both 27 = .ok (.aload_n 0, 1) := by decide +kernel
theorem dX12_both_28 : decode cX12_both 28 = .ok (.invokevirtual 244, 3) := by decide +kernel
theorem dX12_both_31 : decode cX12_both 31 = .ok (.istore_n 2, 1) := by decide +kernel
theorem dX12_both_32 : decode cX12_both 32 = .ok (.iload_n 1, 1) := by decide +kernel
theorem dX12_both_33 : decode cX12_both 33 = .ok (.ifCond .eq 11, 3) := by decide +kernel
theorem dX12_both_36 : decode cX12_both 36 = .ok (.iload_n 2, 1) := by decide +kernel
theorem dX12_both_37 : decode cX12_both 37 = .ok (.ifCond .eq 7, 3) := by decide +kernel
theorem dX12_both_40 : decode cX12_both 40 = .ok (.iconst 1, 1) := by decide +kernel
theorem dX12_both_41 : decode cX12_both 41 = .ok (.goto 4, 3) := by decide +kernel
theorem dX12_both_44 : decode cX12_both 44 = .ok (.iconst 0, 1) := by decide +kernel
theorem dX12_both_45 : decode cX12_both 45 = .ok (.istore_n 1, 1) := by decide +kernel
theorem dX12_both_46 : decode cX12_both 46 = .ok (.goto (-41), 3) := by decide +kernel
theorem dX12_both_49 : decode cX12_both 49 = .ok (.iload_n 1, 1) := by decide +kernel
theorem dX12_both_50 : decode cX12_both 50 = .ok (.ireturn, 1) := by decide +kernel
theorem dX12_either_0 : decode cX12_either 0 = .ok (.aload_n 0, 1) := by decide +kernel
theorem dX12_either_1 : decode cX12_either 1 = .ok (.invokevirtual 252, 3) := by decide +kernel
theorem dX12_either_4 : decode cX12_either 4 = .ok (.istore_n 1, 1) := by decide +kernel
theorem dX12_either_5 : decode cX12_either 5 = .ok (.aload_n 0, 1) := by decide +kernel
theorem dX12_either_6 : decode cX12_either 6 = .ok (.bipush 111, 2) := by decide +kernel
theorem dX12_either_8 : decode cX12_either 8 = .ok (.bipush 114, 2) := by decide +kernel
theorem dX12_either_10 : decode cX12_either 10 = .ok (.iconst 0, 1) := by decide +kernel
theorem dX12_either_11 : decode cX12_either 11 = .ok (.iconst 0, 1) := by decide +kernel
theorem dX12_either_12 : decode cX12_either 12 = .ok (.iconst 0, 1) := by decide +kernel
theorem dX12_either_13 : decode cX12_either 13 = .ok (.iconst 0, 1) := by decide +kernel
theorem dX12_either_14 : decode cX12_either 14 = .ok (.iconst 0, 1) := by decide +kernel
theorem dX12_either_15 : decode cX12_either 15 = .ok (.iconst 0, 1) := by decide +kernel
theorem dX12_either_16 : decode cX12_either 16 = .ok (.invokevirtual 200, 3) := by decide +kernel
theorem dX12_either_19 : decode cX12_either 19 = .ok (.ifCond .eq 29, 3) := by decide +kernel
theorem dX12_either_22 : decode cX12_either 22 = .ok (.aload_n 0, 1) := by decide +kernel
theorem dX12_either_23 : decode cX12_either 23 = .ok (.invokevirtual 197, 3) := by decide +kernel
theorem dX12_either_26 : decode cX12_either 26 = .ok (.aload_n 0, 1) := by decide +kernel
theorem dX12_either_27 : decode cX12_either 27 = .ok (.invokevirtual 252, 3) := by decide +kernel
theorem dX12_either_30 : decode cX12_either 30 = .ok (.istore_n 2, 1) := by decide +kernel
theorem dX12_either_31 : decode cX12_either 31 = .ok (.iload_n 1, 1) := by decide +kernel
theorem dX12_either_32 : decode cX12_either 32 = .ok (.ifCond .ne 7, 3) := by decide +kernel
theorem dX12_either_35 : decode cX12_either 35 = .ok (.iload_n 2, 1) := by decide +kernel
theorem dX12_either_36 : decode cX12_either 36 = .ok (.ifCond .eq 7, 3) := by decide +kernel
theorem dX12_either_39 : decode cX12_either 39 = .ok (.iconst 1, 1) := by decide +kernel
theorem dX12_either_40 : decode cX12_either 40 = .ok (.goto 4, 3) := by decide +kernel
theorem dX12_either_43 : decode cX12_either 43 = .ok (.iconst 0, 1) := by decide +kernel
theorem dX12_either_44 : decode cX12_either 44 = .ok (.istore_n 1, 1) := by decide +kernel
theorem dX12_either_45 : decode cX12_either 45 = .ok (.goto (-40), 3) := by decide +kernel
theorem dX12_either_48 : decode cX12_either 48 = .ok (.iload_n 1, 1) := by decide +kernel
theorem dX12_either_49 : decode cX12_either 49 = .ok (.ireturn, 1) := by decide +kernel
theorem dX12_part_0 : decode cX12_part 0 = .ok (.iload_n 1, 1) := by decide +kernel
theorem dX12_part_1 : decode cX12_part 1 = .ok (.ifCond .ne 7, 3) := by decide +kernel
theorem dX12_part_4 : decode cX12_part 4 = .ok (.aload_n 0, 1) := by decide +kernel
theorem dX12_part_5 : decode cX12_part 5 = .ok (.invokevirtual 194, 3) := by decide +kernel
theorem dX12_part_8 : decode cX12_part 8 = .ok (.aload_n 0, 1) := by decide +kernel
theorem dX12_part_9 : decode cX12_part 9 = .ok (.getfield 181, 3) := by decide +kernel
theorem dX12_part_12 : decode cX12_part 12 = .ok (.ifCond .ne 7, 3) := by decide +kernel
theorem dX12_part_15 : decode cX12_part 15 = .ok (.aload_n 0, 1) := by decide +kernel
theorem dX12_part_16 : decode cX12_part 16 = .ok (.invokevirtual 197, 3) := by decide +kernel
theorem dX12_part_19 : decode cX12_part 19 = .ok (.aload_n 0, 1) := by decide +kernel
theorem dX12_part_20 : decode cX12_part 20 = .ok (.getfield 181, 3) := by decide +kernel
theorem dX12_part_23 : decode cX12_part 23 = .ok (.ifCond .eq 7, 3) := by decide +kernel
theorem dX12_part_26 : decode cX12_part 26 = .ok (.iconst 0, 1) := by decide +kernel
theorem dX12_part_27 : decode cX12_part 27 = .ok (.goto 7, 3) := by decide +kernel
theorem dX12_part_30 : decode cX12_part 30 = .ok (.aload_n 0, 1) := by decide +kernel
theorem dX12_part_31 : decode cX12_part 31 = .ok (.invokevirtual 233, 3) := by decide +kernel
theorem dX12_part_34 : decode cX12_part 34 = .ok (.istore_n 2, 1) := by decide +kernel
theorem dX12_part_35 : decode cX12_part 35 = .ok (.aload_n 0, 1) := by decide +kernel
theorem dX12_part_36 : decode cX12_part 36 = .ok (.bipush 59, 2) := by decide +kernel
theorem dX12_part_38 : decode cX12_part 38 = .ok (.invokevirtual 222, 3) := by decide +kernel
theorem dX12_part_41 : decode cX12_part 41 = .ok (.ifCond .ne 7, 3) := by decide +kernel
theorem dX12_part_44 : decode cX12_part 44 = .ok (.aload_n 0, 1) := by decide +kernel
theorem dX12_part_45 : decode cX12_part 45 = .ok (.invokevirtual 194, 3) := by decide +kernel
theorem dX12_part_48 : decode cX12_part 48 = .ok (.aload_n 0, 1) := by decide +kernel
theorem dX12_part_49 : decode cX12_part 49 = .ok (.getfield 181, 3) := by decide +kernel
theorem dX12_part_52 : decode cX12_part 52 = .ok (.ifCond .ne 7, 3) := by decide +kernel
theorem dX12_part_55 : decode cX12_part 55 = .ok (.aload_n 0, 1) := by decide +kernel
theorem dX12_part_56 : decode cX12_part 56 = .ok (.invokevirtual 197, 3) := by decide +kernel
theorem dX12_part_59 : decode cX12_part 59 = .ok (.iload_n 2, 1) := by decide +kernel
theorem dX12_part_60 : decode cX12_part 60 = .ok (.ireturn, 1) := by decide +kernel
theorem dX12_read_0 : decode cX12_read 0 = .ok (.aload_n 0, 1) := by decide +kernel
theorem dX12_read_1 : decode cX12_read 1 = .ok (.sipush 160, 3) := by decide +kernel
theorem dX12_read_4 : decode cX12_read 4 = .ok (.iload_n 1, 1) := by decide +kernel
theorem dX12_read_5 : decode cX12_read 5 = .ok (.imul, 1) := by decide +kernel
theorem dX12_read_6 : decode cX12_read 6 = .ok (.putfield 151, 3) := by decide +kernel
theorem dX12_read_9 : decode cX12_read 9 = .ok (.aload_n 0, 1) := by decide +kernel
theorem dX12_read_10 : decode cX12_read 10 = .ok (.aload_n 0, 1) := by decide +kernel
theorem dX12_read_11 : decode cX12_read 11 = .ok (.getfield 17, 3) := by decide +kernel
theorem dX12_read_14 : decode cX12_read 14 = .ok (.iload_n 1, 1) := by decide +kernel
theorem dX12_read_15 : decode cX12_read 15 = .ok (.iaload, 1) := by decide +kernel
theorem dX12_read_16 : decode cX12_read 16 = .ok (.putfield 148, 3) := by decide +kernel
theorem dX12_read_19 : decode cX12_read 19 = .ok (.aload_n 0, 1) := by decide +kernel
theorem dX12_read_20 : decode cX12_read 20 = .ok (.iconst 0, 1) := by decide +kernel
theorem dX12_read_21 : decode cX12_read 21 = .ok (.putfield 154, 3) := by decide +kernel
theorem dX12_read_24 : decode cX12_read 24 = .ok (.aload_n 0, 1) := by decide +kernel
theorem dX12_read_25 : decode cX12_read 25 = .ok (.iconst 0, 1) := by decide +kernel
theorem dX12_read_26 : decode cX12_read 26 = .ok (.putfield 191, 3) := by decide +kernel
theorem dX12_read_29 : decode cX12_read 29 = .ok (.aload_n 0, 1) := by decide +kernel
theorem dX12_read_30 : decode cX12_read 30 = .ok (.iconst 0, 1) := by decide +kernel
theorem dX12_read_31 : decode cX12_read 31 = .ok (.putfield 181, 3) := by decide +kernel
theorem dX12_read_34 : decode cX12_read 34 = .ok (.aload_n 0, 1) := by decide +kernel
theorem dX12_read_35 : decode cX12_read 35 = .ok (.invokevirtual 197, 3) := by decide +kernel
theorem dX12_read_38 : decode cX12_read 38 = .ok (.aload_n 0, 1) := by decide +kernel
theorem dX12_read_39 : decode cX12_read 39 = .ok (.aload_n 0, 1) := by decide +kernel
theorem dX12_read_40 : decode cX12_read 40 = .ok (.bipush 109, 2) := by decide +kernel
theorem dX12_read_42 : decode cX12_read 42 = .ok (.bipush 111, 2) := by decide +kernel
theorem dX12_read_44 : decode cX12_read 44 = .ok (.bipush 118, 2) := by decide +kernel
theorem dX12_read_46 : decode cX12_read 46 = .ok (.bipush 101, 2) := by decide +kernel
theorem dX12_read_48 : decode cX12_read 48 = .ok (.bipush 115, 2) := by decide +kernel
theorem dX12_read_50 : decode cX12_read 50 = .ok (.iconst 0, 1) := by decide +kernel
theorem dX12_read_51 : decode cX12_read 51 = .ok (.iconst 0, 1) := by decide +kernel
theorem dX12_read_52 : decode cX12_read 52 = .ok (.iconst 0, 1) := by decide +kernel
theorem dX12_read_53 : decode cX12_read 53 = .ok (.invokevirtual 200, 3) := by decide +kernel
theorem dX12_read_56 : decode cX12_read 56 = .ok (.invokevirtual 255, 3) := by decide +kernel
theorem dX12_read_59 : decode cX12_read 59 = .ok (.istore_n 3, 1) := by decide +kernel
theorem dX12_read_60 : decode cX12_read 60 = .ok (.aload_n 0, 1) := by decide +kernel
theorem dX12_read_61 : decode cX12_read 61 = .ok (.getfield 181, 3) := by decide +kernel
theorem dX12_read_64 : decode cX12_read 64 = .ok (.ifCond .eq 7, 3) := by decide +kernel
theorem dX12_read_67 : decode cX12_read 67 = .ok (.iconst 0, 1) := by decide +kernel
theorem dX12_read_68 : decode cX12_read 68 = .ok (.goto 23, 3) := by decide +kernel
theorem dX12_read_71 : decode cX12_read 71 = .ok (.aload_n 0, 1) := by decide +kernel
theorem dX12_read_72 : decode cX12_read 72 = .ok (.aload_n 0, 1) := by decide +kernel
theorem dX12_read_73 : decode cX12_read 73 = .ok (.bipush 117, 2) := by decide +kernel
theorem dX12_read_75 : decode cX12_read 75 = .ok (.bipush 103, 2) := by decide +kernel
theorem dX12_read_77 : decode cX12_read 77 = .ok (.bipush 108, 2) := by decide +kernel
theorem dX12_read_79 : decode cX12_read 79 = .ok (.bipush 121, 2) := by decide +kernel
theorem dX12_read_81 : decode cX12_read 81 = .ok (.iconst 0, 1) := by decide +kernel
theorem dX12_read_82 : decode cX12_read 82 = .ok (.iconst 0, 1) := by decide +kernel
theorem dX12_read_83 : decode cX12_read 83 = .ok (.iconst 0, 1) := by decide +kernel
theorem dX12_read_84 : decode cX12_read 84 = .ok (.iconst 0, 1) := by decide +kernel
theorem dX12_read_85 : decode cX12_read 85 = .ok (.invokevirtual 200, 3) := by decide +kernel
theorem dX12_read_88 : decode cX12_read 88 = .ok (.invokevirtual 255, 3) := by decide +kernel
theorem dX12_read_91 : decode cX12_read 91 = .ok (.istore 4, 2) := by decide +kernel
theorem dX12_read_93 : decode cX12_read 93 = .ok (.aload_n 0, 1) := by decide +kernel
theorem dX12_read_94 : decode cX12_read 94 = .ok (.getfield 181, 3) := by decide +kernel
theorem dX12_read_97 : decode cX12_read 97 = .ok (.ifCond .eq 7, 3) := by decide +kernel
theorem dX12_read_100 : decode cX12_read 100 = .ok (.iconst 0, 1) := by decide +kernel
theorem dX12_read_101 : decode cX12_read 101 = .ok (.goto 24, 3) := by decide +kernel
theorem dX12_read_104 : decode cX12_read 104 = .ok (.aload_n 0, 1) := by decide +kernel
theorem dX12_read_105 : decode cX12_read 105 = .ok (.aload_n 0, 1) := by decide +kernel
theorem dX12_read_106 : decode cX12_read 106 = .ok (.bipush 109, 2) := by decide +kernel
theorem dX12_read_108 : decode cX12_read 108 = .ok (.bipush 105, 2) := by decide +kernel
theorem dX12_read_110 : decode cX12_read 110 = .ok (.bipush 110, 2) := by decide +kernel
theorem dX12_read_112 : decode cX12_read 112 = .ok (.bipush 100, 2) := by decide +kernel
theorem dX12_read_114 : decode cX12_read 114 = .ok (.bipush 115, 2) := by decide +kernel
theorem dX12_read_116 : decode cX12_read 116 = .ok (.iconst 0, 1) := by decide +kernel
theorem dX12_read_117 : decode cX12_read 117 = .ok (.iconst 0, 1) := by decide +kernel
theorem dX12_read_118 : decode cX12_read 118 = .ok (.iconst 0, 1) := by decide +kernel
theorem dX12_read_119 : decode cX12_read 119 = .ok (.invokevirtual 200, 3) := by decide +kernel
theorem dX12_read_122 : decode cX12_read 122 = .ok (.invokevirtual 255, 3) := by decide +kernel
theorem dX12_read_125 : decode cX12_read 125 = .ok (.istore 5, 2) := by decide +kernel
theorem dX12_read_127 : decode cX12_read 127 = .ok (.aload_n 0, 1) := by decide +kernel
theorem dX12_read_128 : decode cX12_read 128 = .ok (.getfield 181, 3) := by decide +kernel
theorem dX12_read_131 : decode cX12_read 131 = .ok (.ifCond .ne 14, 3) := by decide +kernel
theorem dX12_read_134 : decode cX12_read 134 = .ok (.aload_n 0, 1) := by decide +kernel
theorem dX12_read_135 : decode cX12_read 135 = .ok (.getfield 164, 3) := by decide +kernel
theorem dX12_read_138 : decode cX12_read 138 = .ok (.ifCond .eq 7, 3) := by decide +kernel
theorem dX12_read_141 : decode cX12_read 141 = .ok (.aload_n 0, 1) := by decide +kernel
theorem dX12_read_142 : decode cX12_read 142 = .ok (.invokevirtual 194, 3) := by decide +kernel
theorem dX12_read_145 : decode cX12_read 145 = .ok (.iload_n 2, 1) := by decide +kernel
theorem dX12_read_146 : decode cX12_read 146 = .ok (.ifCond .ne 7, 3) := by decide +kernel
theorem dX12_read_149 : decode cX12_read 149 = .ok (.iload_n 3, 1) := by decide +kernel
theorem dX12_read_150 : decode cX12_read 150 = .ok (.goto 15, 3) := by decide +kernel
theorem dX12_read_153 : decode cX12_read 153 = .ok (.iload_n 2, 1) := by decide +kernel
theorem dX12_read_154 : decode cX12_read 154 = .ok (.iconst 1, 1) := by decide +kernel
theorem dX12_read_155 : decode cX12_read 155 = .ok (.if_icmp .ne 8, 3) := by decide +kernel
theorem dX12_read_158 : decode cX12_read 158 = .ok (.iload 4, 2) := by decide +kernel
theorem dX12_read_160 : decode cX12_read 160 = .ok (.goto 5, 3) := by decide +kernel
theorem dX12_read_163 : decode cX12_read 163 = .ok (.iload 5, 2) := by decide +kernel
theorem dX12_read_165 : decode cX12_read 165 = .ok (.ireturn, 1) := by decide +kernel
theorem dX12_text_0 : decode cX12_text 0 = .ok (.aload_n 0, 1) := by decide +kernel
theorem dX12_text_1 : decode cX12_text 1 = .ok (.getfield 103, 3) := by decide +kernel
theorem dX12_text_4 : decode cX12_text 4 = .ok (.bipush 6, 2) := by decide +kernel
theorem dX12_text_6 : decode cX12_text 6 = .ok (.if_icmp .ne 6, 3) := by decide +kernel
theorem dX12_text_9 : decode cX12_text 9 = .ok (.bipush (-4), 2) := by decide +kernel
theorem dX12_text_11 : decode cX12_text 11 = .ok (.ireturn, 1) := by decide +kernel
theorem dX12_text_12 : decode cX12_text 12 = .ok (.iconst 0, 1) := by decide +kernel
theorem dX12_text_13 : decode cX12_text 13 = .ok (.istore_n 1, 1) := by decide +kernel
theorem dX12_text_14 : decode cX12_text 14 = .ok (.iload_n 1, 1) := by decide +kernel
theorem dX12_text_15 : decode cX12_text 15 = .ok (.aload_n 0, 1) := by decide +kernel
theorem dX12_text_16 : decode cX12_text 16 = .ok (.getfield 145, 3) := by decide +kernel
theorem dX12_text_19 : decode cX12_text 19 = .ok (.if_icmp .ge 30, 3) := by decide +kernel
theorem dX12_text_22 : decode cX12_text 22 = .ok (.aload_n 0, 1) := by decide +kernel
theorem dX12_text_23 : decode cX12_text 23 = .ok (.getfield 13, 3) := by decide +kernel
theorem dX12_text_26 : decode cX12_text 26 = .ok (.sipush 160, 3) := by decide +kernel
theorem dX12_text_29 : decode cX12_text 29 = .ok (.aload_n 0, 1) := by decide +kernel
theorem dX12_text_30 : decode cX12_text 30 = .ok (.getfield 103, 3) := by decide +kernel
theorem dX12_text_33 : decode cX12_text 33 = .ok (.imul, 1) := by decide +kernel
theorem dX12_text_34 : decode cX12_text 34 = .ok (.iload_n 1, 1) := by decide +kernel
theorem dX12_text_35 : decode cX12_text 35 = .ok (.iadd, 1) := by decide +kernel
theorem dX12_text_36 : decode cX12_text 36 = .ok (.aload_n 0, 1) := by decide +kernel
theorem dX12_text_37 : decode cX12_text 37 = .ok (.getfield 20, 3) := by decide +kernel
theorem dX12_text_40 : decode cX12_text 40 = .ok (.iload_n 1, 1) := by decide +kernel
theorem dX12_text_41 : decode cX12_text 41 = .ok (.iaload, 1) := by decide +kernel
theorem dX12_text_42 : decode cX12_text 42 = .ok (.iastore, 1) := by decide +kernel
theorem dX12_text_43 : decode cX12_text 43 = .ok (.iinc 1 1, 3) := by decide +kernel
theorem dX12_text_46 : decode cX12_text 46 = .ok (.goto (-32), 3) := by decide +kernel
theorem dX12_text_49 : decode cX12_text 49 = .ok (.aload_n 0, 1) := by decide +kernel
theorem dX12_text_50 : decode cX12_text 50 = .ok (.getfield 17, 3) := by decide +kernel
theorem dX12_text_53 : decode cX12_text 53 = .ok (.aload_n 0, 1) := by decide +kernel
theorem dX12_text_54 : decode cX12_text 54 = .ok (.getfield 103, 3) := by decide +kernel
theorem dX12_text_57 : decode cX12_text 57 = .ok (.aload_n 0, 1) := by decide +kernel
theorem dX12_text_58 : decode cX12_text 58 = .ok (.getfield 145, 3) := by decide +kernel
theorem dX12_text_61 : decode cX12_text 61 = .ok (.iastore, 1) := by decide +kernel
theorem dX12_text_62 : decode cX12_text 62 = .ok (.aload_n 0, 1) := by decide +kernel
theorem dX12_text_63 : decode cX12_text 63 = .ok (.iconst 0, 1) := by decide +kernel
theorem dX12_text_64 : decode cX12_text 64 = .ok (.putfield 145, 3) := by decide +kernel
theorem dX12_text_67 : decode cX12_text 67 = .ok (.aload_n 0, 1) := by decide +kernel
theorem dX12_text_68 : decode cX12_text 68 = .ok (.aload_n 0, 1) := by decide +kernel
theorem dX12_text_69 : decode cX12_text 69 = .ok (.getfield 103, 3) := by decide +kernel
theorem dX12_text_72 : decode cX12_text 72 = .ok (.iconst 0, 1) := by decide +kernel
theorem dX12_text_73 : decode cX12_text 73 = .ok (.invokevirtual 259, 3) := by decide +kernel
theorem dX12_text_76 : decode cX12_text 76 = .ok (.istore_n 1, 1) := by decide +kernel
theorem dX12_text_77 : decode cX12_text 77 = .ok (.aload_n 0, 1) := by decide +kernel
theorem dX12_text_78 : decode cX12_text 78 = .ok (.getfield 181, 3) := by decide +kernel
theorem dX12_text_81 : decode cX12_text 81 = .ok (.ifCond .eq 11, 3) := by decide +kernel
theorem dX12_text_84 : decode cX12_text 84 = .ok (.bipush (-100), 2) := by decide +kernel
theorem dX12_text_86 : decode cX12_text 86 = .ok (.aload_n 0, 1) := by decide +kernel
theorem dX12_text_87 : decode cX12_text 87 = .ok (.getfield 185, 3) := by decide +kernel
theorem dX12_text_90 : decode cX12_text 90 = .ok (.isub, 1) := by decide +kernel
theorem dX12_text_91 : decode cX12_text 91 = .ok (.ireturn, 1) := by decide +kernel
theorem dX12_text_92 : decode cX12_text 92 = .ok (.aload_n 0, 1) := by decide +kernel
theorem dX12_text_93 : decode cX12_text 93 = .ok (.dup, 1) := by decide +kernel
theorem dX12_text_94 : decode cX12_text 94 = .ok (.getfield 103, 3) := by decide +kernel
theorem dX12_text_97 : decode cX12_text 97 = .ok (.iconst 1, 1) := by decide +kernel
theorem dX12_text_98 : decode cX12_text 98 = .ok (.iadd, 1) := by decide +kernel
theorem dX12_text_99 : decode cX12_text 99 = .ok (.putfield 103, 3) := by decide +kernel
theorem dX12_text_102 : decode cX12_text 102 = .ok (.aload_n 0, 1) := by decide +kernel
theorem dX12_text_103 : decode cX12_text 103 = .ok (.getfield 103, 3) := by decide +kernel
theorem dX12_text_106 : decode cX12_text 106 = .ok (.iconst 1, 1) := by decide +kernel
theorem dX12_text_107 : decode cX12_text 107 = .ok (.isub, 1) := by decide +kernel
theorem dX12_text_108 : decode cX12_text 108 = .ok (.ireturn, 1) := by decide +kernel
theorem dX12_force_0 : decode cX12_force 0 = .ok (.iload_n 1, 1) := by decide +kernel
theorem dX12_force_1 : decode cX12_force 1 = .ok (.i2l, 1) := by decide +kernel
theorem dX12_force_2 : decode cX12_force 2 = .ok (.lconst 0, 1) := by decide +kernel
theorem dX12_force_3 : decode cX12_force 3 = .ok (.aload_n 0, 1) := by decide +kernel
theorem dX12_force_4 : decode cX12_force 4 = .ok (.getfield 103, 3) := by decide +kernel
theorem dX12_force_7 : decode cX12_force 7 = .ok (.iconst 1, 1) := by decide +kernel
theorem dX12_force_8 : decode cX12_force 8 = .ok (.isub, 1) := by decide +kernel
theorem dX12_force_9 : decode cX12_force 9 = .ok (.i2l, 1) := by decide +kernel
theorem dX12_force_10 : decode cX12_force 10 = .ok (.invokestatic 109, 3) := by decide +kernel
theorem dX12_force_13 : decode cX12_force 13 = .ok (.ifCond .ne 6, 3) := by decide +kernel
theorem dX12_force_16 : decode cX12_force 16 = .ok (.bipush (-2), 2) := by decide +kernel
theorem dX12_force_18 : decode cX12_force 18 = .ok (.ireturn, 1) := by decide +kernel
theorem dX12_force_19 : decode cX12_force 19 = .ok (.aload_n 0, 1) := by decide +kernel
theorem dX12_force_20 : decode cX12_force 20 = .ok (.getfield 263, 3) := by decide +kernel
theorem dX12_force_23 : decode cX12_force 23 = .ok (.istore_n 2, 1) := by decide +kernel
theorem dX12_force_24 : decode cX12_force 24 = .ok (.aload_n 0, 1) := by decide +kernel
theorem dX12_force_25 : decode cX12_force 25 = .ok (.iload_n 1, 1) := by decide +kernel
theorem dX12_force_26 : decode cX12_force 26 = .ok (.putfield 263, 3) := by decide +kernel
theorem dX12_force_29 : decode cX12_force 29 = .ok (.iload_n 2, 1) := by decide +kernel
theorem dX12_force_30 : decode cX12_force 30 = .ok (.ireturn, 1) := by decide +kernel
theorem dX12_says_0 : decode cX12_says 0 = .ok (.aload_n 0, 1) := by decide +kernel
theorem dX12_says_1 : decode cX12_says 1 = .ok (.iload_n 2, 1) := by decide +kernel
theorem dX12_says_2 : decode cX12_says 2 = .ok (.putfield 204, 3) := by decide +kernel
theorem dX12_says_5 : decode cX12_says 5 = .ok (.aload_n 0, 1) := by decide +kernel
theorem dX12_says_6 : decode cX12_says 6 = .ok (.iload_n 3, 1) := by decide +kernel
theorem dX12_says_7 : decode cX12_says 7 = .ok (.putfield 207, 3) := by decide +kernel
theorem dX12_says_10 : decode cX12_says 10 = .ok (.aload_n 0, 1) := by decide +kernel
theorem dX12_says_11 : decode cX12_says 11 = .ok (.aload_n 0, 1) := by decide +kernel
theorem dX12_says_12 : decode cX12_says 12 = .ok (.getfield 38, 3) := by decide +kernel
theorem dX12_says_15 : decode cX12_says 15 = .ok (.iload_n 2, 1) := by decide +kernel
theorem dX12_says_16 : decode cX12_says 16 = .ok (.iaload, 1) := by decide +kernel
theorem dX12_says_17 : decode cX12_says 17 = .ok (.putfield 210, 3) := by decide +kernel
theorem dX12_says_20 : decode cX12_says 20 = .ok (.aload_n 0, 1) := by decide +kernel
theorem dX12_says_21 : decode cX12_says 21 = .ok (.iload 4, 2) := by decide +kernel
theorem dX12_says_23 : decode cX12_says 23 = .ok (.putfield 213, 3) := by decide +kernel
theorem dX12_says_26 : decode cX12_says 26 = .ok (.aload_n 0, 1) := by decide +kernel
theorem dX12_says_27 : decode cX12_says 27 = .ok (.aload_n 0, 1) := by decide +kernel
theorem dX12_says_28 : decode cX12_says 28 = .ok (.getfield 41, 3) := by decide +kernel
theorem dX12_says_31 : decode cX12_says 31 = .ok (.iload_n 2, 1) := by decide +kernel
theorem dX12_says_32 : decode cX12_says 32 = .ok (.iaload, 1) := by decide +kernel
theorem dX12_says_33 : decode cX12_says 33 = .ok (.putfield 216, 3) := by decide +kernel
theorem dX12_says_36 : decode cX12_says 36 = .ok (.aload_n 0, 1) := by decide +kernel
theorem dX12_says_37 : decode cX12_says 37 = .ok (.aload_n 0, 1) := by decide +kernel
theorem dX12_says_38 : decode cX12_says 38 = .ok (.getfield 35, 3) := by decide +kernel
theorem dX12_says_41 : decode cX12_says 41 = .ok (.iload_n 2, 1) := by decide +kernel
theorem dX12_says_42 : decode cX12_says 42 = .ok (.iaload, 1) := by decide +kernel
theorem dX12_says_43 : decode cX12_says 43 = .ok (.putfield 219, 3) := by decide +kernel
theorem dX12_says_46 : decode cX12_says 46 = .ok (.aload_n 0, 1) := by decide +kernel
theorem dX12_says_47 : decode cX12_says 47 = .ok (.aload_n 0, 1) := by decide +kernel
theorem dX12_says_48 : decode cX12_says 48 = .ok (.getfield 263, 3) := by decide +kernel
theorem dX12_says_51 : decode cX12_says 51 = .ok (.iload_n 1, 1) := by decide +kernel
theorem dX12_says_52 : decode cX12_says 52 = .ok (.invokevirtual 259, 3) := by decide +kernel
theorem dX12_says_55 : decode cX12_says 55 = .ok (.iconst 0, 1) := by decide +kernel
theorem dX12_says_56 : decode cX12_says 56 = .ok (.bipush 99, 2) := by decide +kernel
theorem dX12_says_58 : decode cX12_says 58 = .ok (.invokestatic 266, 3) := by decide +kernel
theorem dX12_says_61 : decode cX12_says 61 = .ok (.ireturn, 1) := by decide +kernel
theorem dX12_gathers_0 : decode cX12_gathers 0 = .ok (.iconst 0, 1) := by decide +kernel
theorem dX12_gathers_1 : decode cX12_gathers 1 = .ok (.istore_n 1, 1) := by decide +kernel
theorem dX12_gathers_2 : decode cX12_gathers 2 = .ok (.iload_n 1, 1) := by decide +kernel
theorem dX12_gathers_3 : decode cX12_gathers 3 = .ok (.aload_n 0, 1) := by decide +kernel
theorem dX12_gathers_4 : decode cX12_gathers 4 = .ok (.getfield 106, 3) := by decide +kernel
theorem dX12_gathers_7 : decode cX12_gathers 7 = .ok (.if_icmp .ge 113, 3) := by decide +kernel
theorem dX12_gathers_10 : decode cX12_gathers 10 = .ok (.iconst 0, 1) := by decide +kernel
theorem dX12_gathers_11 : decode cX12_gathers 11 = .ok (.istore_n 2, 1) := by decide +kernel
theorem dX12_gathers_12 : decode cX12_gathers 12 = .ok (.iload_n 2, 1) := by decide +kernel
theorem dX12_gathers_13 : decode cX12_gathers 13 = .ok (.bipush 7, 2) := by decide +kernel
theorem dX12_gathers_15 : decode cX12_gathers 15 = .ok (.if_icmp .ge 68, 3) := by decide +kernel
theorem dX12_gathers_18 : decode cX12_gathers 18 = .ok (.aload_n 0, 1) := by decide +kernel
theorem dX12_gathers_19 : decode cX12_gathers 19 = .ok (.getfield 50, 3) := by decide +kernel
theorem dX12_gathers_22 : decode cX12_gathers 22 = .ok (.bipush 7, 2) := by decide +kernel
theorem dX12_gathers_24 : decode cX12_gathers 24 = .ok (.iload_n 1, 1) := by decide +kernel
theorem dX12_gathers_25 : decode cX12_gathers 25 = .ok (.imul, 1) := by decide +kernel
theorem dX12_gathers_26 : decode cX12_gathers 26 = .ok (.iload_n 2, 1) := by decide +kernel
theorem dX12_gathers_27 : decode cX12_gathers 27 = .ok (.iadd, 1) := by decide +kernel
theorem dX12_gathers_28 : decode cX12_gathers 28 = .ok (.aload_n 0, 1) := by decide +kernel
theorem dX12_gathers_29 : decode cX12_gathers 29 = .ok (.iconst 0, 1) := by decide +kernel
theorem dX12_gathers_30 : decode cX12_gathers 30 = .ok (.iload_n 1, 1) := by decide +kernel
theorem dX12_gathers_31 : decode cX12_gathers 31 = .ok (.iload_n 2, 1) := by decide +kernel
theorem dX12_gathers_32 : decode cX12_gathers 32 = .ok (.ifCond .ne 8, 3) := by decide +kernel
theorem dX12_gathers_35 : decode cX12_gathers 35 = .ok (.bipush 6, 2) := by decide +kernel
theorem dX12_gathers_37 : decode cX12_gathers 37 = .ok (.goto 6, 3) := by decide +kernel
theorem dX12_gathers_40 : decode cX12_gathers 40 = .ok (.iload_n 2, 1) := by decide +kernel
theorem dX12_gathers_41 : decode cX12_gathers 41 = .ok (.iconst 1, 1) := by decide +kernel
theorem dX12_gathers_42 : decode cX12_gathers 42 = .ok (.isub, 1) := by decide +kernel
theorem dX12_gathers_43 : decode cX12_gathers 43 = .ok (.iconst 0, 1) := by decide +kernel
theorem dX12_gathers_44 : decode cX12_gathers 44 = .ok (.invokevirtual 134, 3) := by decide +kernel
theorem dX12_gathers_47 : decode cX12_gathers 47 = .ok (.iastore, 1) := by decide +kernel
theorem dX12_gathers_48 : decode cX12_gathers 48 = .ok (.aload_n 0, 1) := by decide +kernel
theorem dX12_gathers_49 : decode cX12_gathers 49 = .ok (.getfield 47, 3) := by decide +kernel
theorem dX12_gathers_52 : decode cX12_gathers 52 = .ok (.bipush 7, 2) := by decide +kernel
theorem dX12_gathers_54 : decode cX12_gathers 54 = .ok (.iload_n 1, 1) := by decide +kernel
theorem dX12_gathers_55 : decode cX12_gathers 55 = .ok (.imul, 1) := by decide +kernel
theorem dX12_gathers_56 : decode cX12_gathers 56 = .ok (.iload_n 2, 1) := by decide +kernel
theorem dX12_gathers_57 : decode cX12_gathers 57 = .ok (.iadd, 1) := by decide +kernel
theorem dX12_gathers_58 : decode cX12_gathers 58 = .ok (.iload_n 2, 1) := by decide +kernel
theorem dX12_gathers_59 : decode cX12_gathers 59 = .ok (.ifCond .ne 7, 3) := by decide +kernel
theorem dX12_gathers_62 : decode cX12_gathers 62 = .ok (.iconst 0, 1) := by decide +kernel
theorem dX12_gathers_63 : decode cX12_gathers 63 = .ok (.goto 13, 3) := by decide +kernel
theorem dX12_gathers_66 : decode cX12_gathers 66 = .ok (.aload_n 0, 1) := by decide +kernel
theorem dX12_gathers_67 : decode cX12_gathers 67 = .ok (.iconst 1, 1) := by decide +kernel
theorem dX12_gathers_68 : decode cX12_gathers 68 = .ok (.iload_n 1, 1) := by decide +kernel
theorem dX12_gathers_69 : decode cX12_gathers 69 = .ok (.iload_n 2, 1) := by decide +kernel
theorem dX12_gathers_70 : decode cX12_gathers 70 = .ok (.iconst 1, 1) := by decide +kernel
theorem dX12_gathers_71 : decode cX12_gathers 71 = .ok (.isub, 1) := by decide +kernel
theorem dX12_gathers_72 : decode cX12_gathers 72 = .ok (.iconst 0, 1) := by decide +kernel
theorem dX12_gathers_73 : decode cX12_gathers 73 = .ok (.invokevirtual 134, 3) := by decide +kernel
theorem dX12_gathers_76 : decode cX12_gathers 76 = .ok (.iastore, 1) := by decide +kernel
theorem dX12_gathers_77 : decode cX12_gathers 77 = .ok (.iinc 2 1, 3) := by decide +kernel
theorem dX12_gathers_80 : decode cX12_gathers 80 = .ok (.goto (-68), 3) := by decide +kernel
theorem dX12_gathers_83 : decode cX12_gathers 83 = .ok (.iconst 0, 1) := by decide +kernel
theorem dX12_gathers_84 : decode cX12_gathers 84 = .ok (.istore_n 2, 1) := by decide +kernel
theorem dX12_gathers_85 : decode cX12_gathers 85 = .ok (.iload_n 2, 1) := by decide +kernel
theorem dX12_gathers_86 : decode cX12_gathers 86 = .ok (.iconst 4, 1) := by decide +kernel
theorem dX12_gathers_87 : decode cX12_gathers 87 = .ok (.if_icmp .gt 27, 3) := by decide +kernel
theorem dX12_gathers_90 : decode cX12_gathers 90 = .ok (.aload_n 0, 1) := by decide +kernel
theorem dX12_gathers_91 : decode cX12_gathers 91 = .ok (.getfield 53, 3) := by decide +kernel
theorem dX12_gathers_94 : decode cX12_gathers 94 = .ok (.iconst 5, 1) := by decide +kernel
theorem dX12_gathers_95 : decode cX12_gathers 95 = .ok (.iload_n 1, 1) := by decide +kernel
theorem dX12_gathers_96 : decode cX12_gathers 96 = .ok (.imul, 1) := by decide +kernel
theorem dX12_gathers_97 : decode cX12_gathers 97 = .ok (.iload_n 2, 1) := by decide +kernel
theorem dX12_gathers_98 : decode cX12_gathers 98 = .ok (.iadd, 1) := by decide +kernel
theorem dX12_gathers_99 : decode cX12_gathers 99 = .ok (.aload_n 0, 1) := by decide +kernel
theorem dX12_gathers_100 : decode cX12_gathers 100 = .ok (.iconst 2, 1) := by decide +kernel
theorem dX12_gathers_101 : decode cX12_gathers 101 = .ok (.iload_n 1, 1) := by decide +kernel
theorem dX12_gathers_102 : decode cX12_gathers 102 = .ok (.iconst 0, 1) := by decide +kernel
theorem dX12_gathers_103 : decode cX12_gathers 103 = .ok (.iload_n 2, 1) := by decide +kernel
theorem dX12_gathers_104 : decode cX12_gathers 104 = .ok (.invokevirtual 134, 3) := by decide +kernel
theorem dX12_gathers_107 : decode cX12_gathers 107 = .ok (.iastore, 1) := by decide +kernel
theorem dX12_gathers_108 : decode cX12_gathers 108 = .ok (.iinc 2 1, 3) := by decide +kernel
theorem dX12_gathers_111 : decode cX12_gathers 111 = .ok (.goto (-26), 3) := by decide +kernel
theorem dX12_gathers_114 : decode cX12_gathers 114 = .ok (.iinc 1 1, 3) := by decide +kernel
theorem dX12_gathers_117 : decode cX12_gathers 117 = .ok (.goto (-115), 3) := by decide +kernel
theorem dX12_gathers_120 : decode cX12_gathers 120 = .ok (.return_, 1) := by decide +kernel
theorem dX12_timesBad_0 : decode cX12_timesBad 0 = .ok (.aload_n 0, 1) := by decide +kernel
theorem dX12_timesBad_1 : decode cX12_timesBad 1 = .ok (.getfield 38, 3) := by decide +kernel
theorem dX12_timesBad_4 : decode cX12_timesBad 4 = .ok (.iload_n 1, 1) := by decide +kernel
theorem dX12_timesBad_5 : decode cX12_timesBad 5 = .ok (.iaload, 1) := by decide +kernel
theorem dX12_timesBad_6 : decode cX12_timesBad 6 = .ok (.istore 4, 2) := by decide +kernel
theorem dX12_timesBad_8 : decode cX12_timesBad 8 = .ok (.iload_n 3, 1) := by decide +kernel
theorem dX12_timesBad_9 : decode cX12_timesBad 9 = .ok (.iload 4, 2) := by decide +kernel
theorem dX12_timesBad_11 : decode cX12_timesBad 11 = .ok (.ishr, 1) := by decide +kernel
theorem dX12_timesBad_12 : decode cX12_timesBad 12 = .ok (.iconst 1, 1) := by decide +kernel
theorem dX12_timesBad_13 : decode cX12_timesBad 13 = .ok (.iand, 1) := by decide +kernel
theorem dX12_timesBad_14 : decode cX12_timesBad 14 = .ok (.iconst 1, 1) := by decide +kernel
theorem dX12_timesBad_15 : decode cX12_timesBad 15 = .ok (.if_icmp .ne 21, 3) := by decide +kernel
theorem dX12_timesBad_18 : decode cX12_timesBad 18 = .ok (.aload_n 0, 1) := by decide +kernel
theorem dX12_timesBad_19 : decode cX12_timesBad 19 = .ok (.iload 4, 2) := by decide +kernel
theorem dX12_timesBad_21 : decode cX12_timesBad 21 = .ok (.iload_n 2, 1) := by decide +kernel
theorem dX12_timesBad_22 : decode cX12_timesBad 22 = .ok (.invokevirtual 140, 3) := by decide +kernel
theorem dX12_timesBad_25 : decode cX12_timesBad 25 = .ok (.ifCond .ne 11, 3) := by decide +kernel
theorem dX12_timesBad_28 : decode cX12_timesBad 28 = .ok (.aload_n 0, 1) := by decide +kernel
theorem dX12_timesBad_29 : decode cX12_timesBad 29 = .ok (.iload_n 1, 1) := by decide +kernel
theorem dX12_timesBad_30 : decode cX12_timesBad 30 = .ok (.invokevirtual 270, 3) := by decide +kernel
theorem dX12_timesBad_33 : decode cX12_timesBad 33 = .ok (.goto 4, 3) := by decide +kernel
theorem dX12_timesBad_36 : decode cX12_timesBad 36 = .ok (.iconst 0, 1) := by decide +kernel
theorem dX12_timesBad_37 : decode cX12_timesBad 37 = .ok (.istore 5, 2) := by decide +kernel
theorem dX12_timesBad_39 : decode cX12_timesBad 39 = .ok (.iconst 0, 1) := by decide +kernel
theorem dX12_timesBad_40 : decode cX12_timesBad 40 = .ok (.istore 6, 2) := by decide +kernel
theorem dX12_timesBad_42 : decode cX12_timesBad 42 = .ok (.iload 6, 2) := by decide +kernel
theorem dX12_timesBad_44 : decode cX12_timesBad 44 = .ok (.iconst 4, 1) := by decide +kernel
theorem dX12_timesBad_45 : decode cX12_timesBad 45 = .ok (.if_icmp .ge 52, 3) := by decide +kernel
theorem dX12_timesBad_48 : decode cX12_timesBad 48 = .ok (.iload 5, 2) := by decide +kernel
theorem dX12_timesBad_50 : decode cX12_timesBad 50 = .ok (.iload_n 3, 1) := by decide +kernel
theorem dX12_timesBad_51 : decode cX12_timesBad 51 = .ok (.iload 6, 2) := by decide +kernel
theorem dX12_timesBad_53 : decode cX12_timesBad 53 = .ok (.ishr, 1) := by decide +kernel
theorem dX12_timesBad_54 : decode cX12_timesBad 54 = .ok (.iconst 1, 1) := by decide +kernel
theorem dX12_timesBad_55 : decode cX12_timesBad 55 = .ok (.iand, 1) := by decide +kernel
theorem dX12_timesBad_56 : decode cX12_timesBad 56 = .ok (.iconst 1, 1) := by decide +kernel
theorem dX12_timesBad_57 : decode cX12_timesBad 57 = .ok (.if_icmp .ne 30, 3) := by decide +kernel
theorem dX12_timesBad_60 : decode cX12_timesBad 60 = .ok (.iload 6, 2) := by decide +kernel
theorem dX12_timesBad_62 : decode cX12_timesBad 62 = .ok (.iload 4, 2) := by decide +kernel
theorem dX12_timesBad_64 : decode cX12_timesBad 64 = .ok (.if_icmp .eq 23, 3) := by decide +kernel
theorem dX12_timesBad_67 : decode cX12_timesBad 67 = .ok (.aload_n 0, 1) := by decide +kernel
theorem dX12_timesBad_68 : decode cX12_timesBad 68 = .ok (.iload 6, 2) := by decide +kernel
theorem dX12_timesBad_70 : decode cX12_timesBad 70 = .ok (.iload_n 2, 1) := by decide +kernel
theorem dX12_timesBad_71 : decode cX12_timesBad 71 = .ok (.invokevirtual 140, 3) := by decide +kernel
theorem dX12_timesBad_74 : decode cX12_timesBad 74 = .ok (.ifCond .eq 13, 3) := by decide +kernel
theorem dX12_timesBad_77 : decode cX12_timesBad 77 = .ok (.aload_n 0, 1) := by decide +kernel
theorem dX12_timesBad_78 : decode cX12_timesBad 78 = .ok (.iload_n 1, 1) := by decide +kernel
theorem dX12_timesBad_79 : decode cX12_timesBad 79 = .ok (.iload 6, 2) := by decide +kernel
theorem dX12_timesBad_81 : decode cX12_timesBad 81 = .ok (.invokevirtual 273, 3) := by decide +kernel
theorem dX12_timesBad_84 : decode cX12_timesBad 84 = .ok (.goto 4, 3) := by decide +kernel
theorem dX12_timesBad_87 : decode cX12_timesBad 87 = .ok (.iconst 0, 1) := by decide +kernel
theorem dX12_timesBad_88 : decode cX12_timesBad 88 = .ok (.iadd, 1) := by decide +kernel
theorem dX12_timesBad_89 : decode cX12_timesBad 89 = .ok (.istore 5, 2) := by decide +kernel
theorem dX12_timesBad_91 : decode cX12_timesBad 91 = .ok (.iinc 6 1, 3) := by decide +kernel
theorem dX12_timesBad_94 : decode cX12_timesBad 94 = .ok (.goto (-52), 3) := by decide +kernel
theorem dX12_timesBad_97 : decode cX12_timesBad 97 = .ok (.iload 5, 2) := by decide +kernel
theorem dX12_timesBad_99 : decode cX12_timesBad 99 = .ok (.ireturn, 1) := by decide +kernel
theorem dX12_badOf_0 : decode cX12_badOf 0 = .ok (.aload_n 0, 1) := by decide +kernel
theorem dX12_badOf_1 : decode cX12_badOf 1 = .ok (.getfield 53, 3) := by decide +kernel
theorem dX12_badOf_4 : decode cX12_badOf 4 = .ok (.iconst 5, 1) := by decide +kernel
theorem dX12_badOf_5 : decode cX12_badOf 5 = .ok (.iload_n 1, 1) := by decide +kernel
theorem dX12_badOf_6 : decode cX12_badOf 6 = .ok (.imul, 1) := by decide +kernel
theorem dX12_badOf_7 : decode cX12_badOf 7 = .ok (.iload_n 3, 1) := by decide +kernel
theorem dX12_badOf_8 : decode cX12_badOf 8 = .ok (.invokestatic 276, 3) := by decide +kernel
theorem dX12_badOf_11 : decode cX12_badOf 11 = .ok (.iadd, 1) := by decide +kernel
theorem dX12_badOf_12 : decode cX12_badOf 12 = .ok (.iaload, 1) := by decide +kernel
theorem dX12_badOf_13 : decode cX12_badOf 13 = .ok (.aload_n 0, 1) := by decide +kernel
theorem dX12_badOf_14 : decode cX12_badOf 14 = .ok (.iload_n 1, 1) := by decide +kernel
theorem dX12_badOf_15 : decode cX12_badOf 15 = .ok (.iload_n 2, 1) := by decide +kernel
theorem dX12_badOf_16 : decode cX12_badOf 16 = .ok (.iconst 1, 1) := by decide +kernel
theorem dX12_badOf_17 : decode cX12_badOf 17 = .ok (.isub, 1) := by decide +kernel
theorem dX12_badOf_18 : decode cX12_badOf 18 = .ok (.iload_n 3, 1) := by decide +kernel
theorem dX12_badOf_19 : decode cX12_badOf 19 = .ok (.invokevirtual 279, 3) := by decide +kernel
theorem dX12_badOf_22 : decode cX12_badOf 22 = .ok (.imul, 1) := by decide +kernel
theorem dX12_badOf_23 : decode cX12_badOf 23 = .ok (.aload_n 0, 1) := by decide +kernel
theorem dX12_badOf_24 : decode cX12_badOf 24 = .ok (.getfield 47, 3) := by decide +kernel
theorem dX12_badOf_27 : decode cX12_badOf 27 = .ok (.bipush 7, 2) := by decide +kernel
theorem dX12_badOf_29 : decode cX12_badOf 29 = .ok (.iload_n 1, 1) := by decide +kernel
theorem dX12_badOf_30 : decode cX12_badOf 30 = .ok (.imul, 1) := by decide +kernel
theorem dX12_badOf_31 : decode cX12_badOf 31 = .ok (.iload_n 2, 1) := by decide +kernel
theorem dX12_badOf_32 : decode cX12_badOf 32 = .ok (.iadd, 1) := by decide +kernel
theorem dX12_badOf_33 : decode cX12_badOf 33 = .ok (.iaload, 1) := by decide +kernel
theorem dX12_badOf_34 : decode cX12_badOf 34 = .ok (.iadd, 1) := by decide +kernel
theorem dX12_badOf_35 : decode cX12_badOf 35 = .ok (.ireturn, 1) := by decide +kernel
theorem dX12_begins_0 : decode cX12_begins 0 = .ok (.aload_n 0, 1) := by decide +kernel
theorem dX12_begins_1 : decode cX12_begins 1 = .ok (.iconst 0, 1) := by decide +kernel
theorem dX12_begins_2 : decode cX12_begins 2 = .ok (.putfield 282, 3) := by decide +kernel
theorem dX12_begins_5 : decode cX12_begins 5 = .ok (.iconst 0, 1) := by decide +kernel
theorem dX12_begins_6 : decode cX12_begins 6 = .ok (.istore_n 1, 1) := by decide +kernel
theorem dX12_begins_7 : decode cX12_begins 7 = .ok (.iload_n 1, 1) := by decide +kernel
theorem dX12_begins_8 : decode cX12_begins 8 = .ok (.bipush 35, 2) := by decide +kernel
theorem dX12_begins_10 : decode cX12_begins 10 = .ok (.if_icmp .ge 16, 3) := by decide +kernel
theorem dX12_begins_13 : decode cX12_begins 13 = .ok (.aload_n 0, 1) := by decide +kernel
theorem dX12_begins_14 : decode cX12_begins 14 = .ok (.getfield 56, 3) := by decide +kernel
theorem dX12_begins_17 : decode cX12_begins 17 = .ok (.iload_n 1, 1) := by decide +kernel
theorem dX12_begins_18 : decode cX12_begins 18 = .ok (.iconst 0, 1) := by decide +kernel
theorem dX12_begins_19 : decode cX12_begins 19 = .ok (.iastore, 1) := by decide +kernel
theorem dX12_begins_20 : decode cX12_begins 20 = .ok (.iinc 1 1, 3) := by decide +kernel
theorem dX12_begins_23 : decode cX12_begins 23 = .ok (.goto (-16), 3) := by decide +kernel
theorem dX12_begins_26 : decode cX12_begins 26 = .ok (.return_, 1) := by decide +kernel
theorem dX12_addsDay_0 : decode cX12_addsDay 0 = .ok (.iconst 0, 1) := by decide +kernel
theorem dX12_addsDay_1 : decode cX12_addsDay 1 = .ok (.istore_n 2, 1) := by decide +kernel
theorem dX12_addsDay_2 : decode cX12_addsDay 2 = .ok (.iload_n 2, 1) := by decide +kernel
theorem dX12_addsDay_3 : decode cX12_addsDay 3 = .ok (.aload_n 0, 1) := by decide +kernel
theorem dX12_addsDay_4 : decode cX12_addsDay 4 = .ok (.getfield 106, 3) := by decide +kernel
theorem dX12_addsDay_7 : decode cX12_addsDay 7 = .ok (.if_icmp .ge 44, 3) := by decide +kernel
theorem dX12_addsDay_10 : decode cX12_addsDay 10 = .ok (.iconst 0, 1) := by decide +kernel
theorem dX12_addsDay_11 : decode cX12_addsDay 11 = .ok (.istore_n 3, 1) := by decide +kernel
theorem dX12_addsDay_12 : decode cX12_addsDay 12 = .ok (.iload_n 3, 1) := by decide +kernel
theorem dX12_addsDay_13 : decode cX12_addsDay 13 = .ok (.bipush 7, 2) := by decide +kernel
theorem dX12_addsDay_15 : decode cX12_addsDay 15 = .ok (.if_icmp .ge 30, 3) := by decide +kernel
theorem dX12_addsDay_18 : decode cX12_addsDay 18 = .ok (.aload_n 0, 1) := by decide +kernel
theorem dX12_addsDay_19 : decode cX12_addsDay 19 = .ok (.getfield 56, 3) := by decide +kernel
theorem dX12_addsDay_22 : decode cX12_addsDay 22 = .ok (.bipush 7, 2) := by decide +kernel
theorem dX12_addsDay_24 : decode cX12_addsDay 24 = .ok (.iload_n 2, 1) := by decide +kernel
theorem dX12_addsDay_25 : decode cX12_addsDay 25 = .ok (.imul, 1) := by decide +kernel
theorem dX12_addsDay_26 : decode cX12_addsDay 26 = .ok (.iload_n 3, 1) := by decide +kernel
theorem dX12_addsDay_27 : decode cX12_addsDay 27 = .ok (.iadd, 1) := by decide +kernel
theorem dX12_addsDay_28 : decode cX12_addsDay 28 = .ok (.dup2, 1) := by decide +kernel
theorem dX12_addsDay_29 : decode cX12_addsDay 29 = .ok (.iaload, 1) := by decide +kernel
theorem dX12_addsDay_30 : decode cX12_addsDay 30 = .ok (.aload_n 0, 1) := by decide +kernel
theorem dX12_addsDay_31 : decode cX12_addsDay 31 = .ok (.iload_n 2, 1) := by decide +kernel
theorem dX12_addsDay_32 : decode cX12_addsDay 32 = .ok (.iload_n 3, 1) := by decide +kernel
theorem dX12_addsDay_33 : decode cX12_addsDay 33 = .ok (.iload_n 1, 1) := by decide +kernel
theorem dX12_addsDay_34 : decode cX12_addsDay 34 = .ok (.invokevirtual 285, 3) := by decide +kernel
theorem dX12_addsDay_37 : decode cX12_addsDay 37 = .ok (.iadd, 1) := by decide +kernel
theorem dX12_addsDay_38 : decode cX12_addsDay 38 = .ok (.iastore, 1) := by decide +kernel
theorem dX12_addsDay_39 : decode cX12_addsDay 39 = .ok (.iinc 3 1, 3) := by decide +kernel
theorem dX12_addsDay_42 : decode cX12_addsDay 42 = .ok (.goto (-30), 3) := by decide +kernel
theorem dX12_addsDay_45 : decode cX12_addsDay 45 = .ok (.iinc 2 1, 3) := by decide +kernel
theorem dX12_addsDay_48 : decode cX12_addsDay 48 = .ok (.goto (-46), 3) := by decide +kernel
theorem dX12_addsDay_51 : decode cX12_addsDay 51 = .ok (.return_, 1) := by decide +kernel
theorem dX12_goesThrough_0 : decode cX12_goesThrough 0 = .ok (.iload_n 1, 1) := by decide +kernel
theorem dX12_goesThrough_1 : decode cX12_goesThrough 1 = .ok (.aload_n 0, 1) := by decide +kernel
theorem dX12_goesThrough_2 : decode cX12_goesThrough 2 = .ok (.getfield 106, 3) := by decide +kernel
theorem dX12_goesThrough_5 : decode cX12_goesThrough 5 = .ok (.if_icmp .ne 61, 3) := by decide +kernel
theorem dX12_goesThrough_8 : decode cX12_goesThrough 8 = .ok (.aload_n 0, 1) := by decide +kernel
theorem dX12_goesThrough_9 : decode cX12_goesThrough 9 = .ok (.getfield 282, 3) := by decide +kernel
theorem dX12_goesThrough_12 : decode cX12_goesThrough 12 = .ok (.ifCond .eq 11, 3) := by decide +kernel
theorem dX12_goesThrough_15 : decode cX12_goesThrough 15 = .ok (.iload_n 3, 1) := by decide +kernel
theorem dX12_goesThrough_16 : decode cX12_goesThrough 16 = .ok (.aload_n 0, 1) := by decide +kernel
theorem dX12_goesThrough_17 : decode cX12_goesThrough 17 = .ok (.getfield 288, 3) := by decide +kernel
theorem dX12_goesThrough_20 : decode cX12_goesThrough 20 = .ok (.if_icmp .ge 45, 3) := by decide +kernel
theorem dX12_goesThrough_23 : decode cX12_goesThrough 23 = .ok (.aload_n 0, 1) := by decide +kernel
theorem dX12_goesThrough_24 : decode cX12_goesThrough 24 = .ok (.iconst 1, 1) := by decide +kernel
theorem dX12_goesThrough_25 : decode cX12_goesThrough 25 = .ok (.putfield 282, 3) := by decide +kernel
theorem dX12_goesThrough_28 : decode cX12_goesThrough 28 = .ok (.aload_n 0, 1) := by decide +kernel
theorem dX12_goesThrough_29 : decode cX12_goesThrough 29 = .ok (.iload_n 3, 1) := by decide +kernel
theorem dX12_goesThrough_30 : decode cX12_goesThrough 30 = .ok (.putfield 288, 3) := by decide +kernel
theorem dX12_goesThrough_33 : decode cX12_goesThrough 33 = .ok (.iconst 0, 1) := by decide +kernel
theorem dX12_goesThrough_34 : decode cX12_goesThrough 34 = .ok (.istore 5, 2) := by decide +kernel
theorem dX12_goesThrough_36 : decode cX12_goesThrough 36 = .ok (.iload 5, 2) := by decide +kernel
theorem dX12_goesThrough_38 : decode cX12_goesThrough 38 = .ok (.aload_n 0, 1) := by decide +kernel
theorem dX12_goesThrough_39 : decode cX12_goesThrough 39 = .ok (.getfield 106, 3) := by decide +kernel
theorem dX12_goesThrough_42 : decode cX12_goesThrough 42 = .ok (.if_icmp .ge 23, 3) := by decide +kernel
theorem dX12_goesThrough_45 : decode cX12_goesThrough 45 = .ok (.aload_n 0, 1) := by decide +kernel
theorem dX12_goesThrough_46 : decode cX12_goesThrough 46 = .ok (.getfield 65, 3) := by decide +kernel
theorem dX12_goesThrough_49 : decode cX12_goesThrough 49 = .ok (.iload 5, 2) := by decide +kernel
theorem dX12_goesThrough_51 : decode cX12_goesThrough 51 = .ok (.aload_n 0, 1) := by decide +kernel
theorem dX12_goesThrough_52 : decode cX12_goesThrough 52 = .ok (.getfield 62, 3) := by decide +kernel
theorem dX12_goesThrough_55 : decode cX12_goesThrough 55 = .ok (.iload 5, 2) := by decide +kernel
theorem dX12_goesThrough_57 : decode cX12_goesThrough 57 = .ok (.iaload, 1) := by decide +kernel
theorem dX12_goesThrough_58 : decode cX12_goesThrough 58 = .ok (.iastore, 1) := by decide +kernel
theorem dX12_goesThrough_59 : decode cX12_goesThrough 59 = .ok (.iinc 5 1, 3) := by decide +kernel
theorem dX12_goesThrough_62 : decode cX12_goesThrough 62 = .ok (.goto (-26), 3) := by decide +kernel
theorem dX12_goesThrough_65 : decode cX12_goesThrough 65 = .ok (.return_, 1) := by decide +kernel
theorem dX12_goesThrough_66 : decode cX12_goesThrough 66 = .ok (.iload_n 1, 1) := by decide +kernel
theorem dX12_goesThrough_67 : decode cX12_goesThrough 67 = .ok (.aload_n 0, 1) := by decide +kernel
theorem dX12_goesThrough_68 : decode cX12_goesThrough 68 = .ok (.getfield 59, 3) := by decide +kernel
theorem dX12_goesThrough_71 : decode cX12_goesThrough 71 = .ok (.if_icmp .ne 22, 3) := by decide +kernel
theorem dX12_goesThrough_74 : decode cX12_goesThrough 74 = .ok (.aload_n 0, 1) := by decide +kernel
theorem dX12_goesThrough_75 : decode cX12_goesThrough 75 = .ok (.getfield 62, 3) := by decide +kernel
theorem dX12_goesThrough_78 : decode cX12_goesThrough 78 = .ok (.iload_n 1, 1) := by decide +kernel
theorem dX12_goesThrough_79 : decode cX12_goesThrough 79 = .ok (.iconst (-1), 1) := by decide +kernel
theorem dX12_goesThrough_80 : decode cX12_goesThrough 80 = .ok (.iastore, 1) := by decide +kernel
theorem dX12_goesThrough_81 : decode cX12_goesThrough 81 = .ok (.aload_n 0, 1) := by decide +kernel
theorem dX12_goesThrough_82 : decode cX12_goesThrough 82 = .ok (.iload_n 1, 1) := by decide +kernel
theorem dX12_goesThrough_83 : decode cX12_goesThrough 83 = .ok (.iconst 1, 1) := by decide +kernel
theorem dX12_goesThrough_84 : decode cX12_goesThrough 84 = .ok (.iadd, 1) := by decide +kernel
theorem dX12_goesThrough_85 : decode cX12_goesThrough 85 = .ok (.iload_n 2, 1) := by decide +kernel
theorem dX12_goesThrough_86 : decode cX12_goesThrough 86 = .ok (.iload_n 3, 1) := by decide +kernel
theorem dX12_goesThrough_87 : decode cX12_goesThrough 87 = .ok (.iload 4, 2) := by decide +kernel
theorem dX12_goesThrough_89 : decode cX12_goesThrough 89 = .ok (.invokevirtual 291, 3) := by decide +kernel
theorem dX12_goesThrough_92 : decode cX12_goesThrough 92 = .ok (.return_, 1) := by decide +kernel
theorem dX12_goesThrough_93 : decode cX12_goesThrough 93 = .ok (.iconst 0, 1) := by decide +kernel
theorem dX12_goesThrough_94 : decode cX12_goesThrough 94 = .ok (.istore 5, 2) := by decide +kernel
theorem dX12_goesThrough_96 : decode cX12_goesThrough 96 = .ok (.iload 5, 2) := by decide +kernel
theorem dX12_goesThrough_98 : decode cX12_goesThrough 98 = .ok (.bipush 7, 2) := by decide +kernel
theorem dX12_goesThrough_100 : decode cX12_goesThrough 100 = .ok (.if_icmp .ge 172, 3) := by decide +kernel
theorem dX12_goesThrough_103 : decode cX12_goesThrough 103 = .ok (.iload 5, 2) := by decide +kernel
theorem dX12_goesThrough_105 : decode cX12_goesThrough 105 = .ok (.iconst 1, 1) := by decide +kernel
theorem dX12_goesThrough_106 : decode cX12_goesThrough 106 = .ok (.isub, 1) := by decide +kernel
theorem dX12_goesThrough_107 : decode cX12_goesThrough 107 = .ok (.istore 6, 2) := by decide +kernel
theorem dX12_goesThrough_109 : decode cX12_goesThrough 109 = .ok (.iload 6, 2) := by decide +kernel
theorem dX12_goesThrough_111 : decode cX12_goesThrough 111 = .ok (.aload_n 0, 1) := by decide +kernel
theorem dX12_goesThrough_112 : decode cX12_goesThrough 112 = .ok (.getfield 68, 3) := by decide +kernel
theorem dX12_goesThrough_115 : decode cX12_goesThrough 115 = .ok (.iload_n 1, 1) := by decide +kernel
theorem dX12_goesThrough_116 : decode cX12_goesThrough 116 = .ok (.iaload, 1) := by decide +kernel
theorem dX12_goesThrough_117 : decode cX12_goesThrough 117 = .ok (.if_icmp .eq 7, 3) := by decide +kernel
theorem dX12_goesThrough_120 : decode cX12_goesThrough 120 = .ok (.iconst 1, 1) := by decide +kernel
theorem dX12_goesThrough_121 : decode cX12_goesThrough 121 = .ok (.goto 4, 3) := by decide +kernel
theorem dX12_goesThrough_124 : decode cX12_goesThrough 124 = .ok (.iconst 0, 1) := by decide +kernel
theorem dX12_goesThrough_125 : decode cX12_goesThrough 125 = .ok (.istore 7, 2) := by decide +kernel
theorem dX12_goesThrough_127 : decode cX12_goesThrough 127 = .ok (.iload 6, 2) := by decide +kernel
theorem dX12_goesThrough_129 : decode cX12_goesThrough 129 = .ok (.iconst (-1), 1) := by decide +kernel
theorem dX12_goesThrough_130 : decode cX12_goesThrough 130 = .ok (.if_icmp .eq 22, 3) := by decide +kernel
theorem dX12_goesThrough_133 : decode cX12_goesThrough 133 = .ok (.iload_n 2, 1) := by decide +kernel
theorem dX12_goesThrough_134 : decode cX12_goesThrough 134 = .ok (.iload 6, 2) := by decide +kernel
theorem dX12_goesThrough_136 : decode cX12_goesThrough 136 = .ok (.ishr, 1) := by decide +kernel
theorem dX12_goesThrough_137 : decode cX12_goesThrough 137 = .ok (.iconst 1, 1) := by decide +kernel
theorem dX12_goesThrough_138 : decode cX12_goesThrough 138 = .ok (.iand, 1) := by decide +kernel
theorem dX12_goesThrough_139 : decode cX12_goesThrough 139 = .ok (.ifCond .ne 17, 3) := by decide +kernel
theorem dX12_goesThrough_142 : decode cX12_goesThrough 142 = .ok (.aload_n 0, 1) := by decide +kernel
theorem dX12_goesThrough_143 : decode cX12_goesThrough 143 = .ok (.iload_n 1, 1) := by decide +kernel
theorem dX12_goesThrough_144 : decode cX12_goesThrough 144 = .ok (.iload 6, 2) := by decide +kernel
theorem dX12_goesThrough_146 : decode cX12_goesThrough 146 = .ok (.invokevirtual 130, 3) := by decide +kernel
theorem dX12_goesThrough_149 : decode cX12_goesThrough 149 = .ok (.ifCond .eq 7, 3) := by decide +kernel
theorem dX12_goesThrough_152 : decode cX12_goesThrough 152 = .ok (.iconst 1, 1) := by decide +kernel
theorem dX12_goesThrough_153 : decode cX12_goesThrough 153 = .ok (.goto 4, 3) := by decide +kernel
theorem dX12_goesThrough_156 : decode cX12_goesThrough 156 = .ok (.iconst 0, 1) := by decide +kernel
theorem dX12_goesThrough_157 : decode cX12_goesThrough 157 = .ok (.istore 8, 2) := by decide +kernel
theorem dX12_goesThrough_159 : decode cX12_goesThrough 159 = .ok (.iload 8, 2) := by decide +kernel
theorem dX12_goesThrough_161 : decode cX12_goesThrough 161 = .ok (.ifCond .eq 105, 3) := by decide +kernel
theorem dX12_goesThrough_164 : decode cX12_goesThrough 164 = .ok (.iload 7, 2) := by decide +kernel
theorem dX12_goesThrough_166 : decode cX12_goesThrough 166 = .ok (.ifCond .eq 12, 3) := by decide +kernel
theorem dX12_goesThrough_169 : decode cX12_goesThrough 169 = .ok (.iload 4, 2) := by decide +kernel
theorem dX12_goesThrough_171 : decode cX12_goesThrough 171 = .ok (.aload_n 0, 1) := by decide +kernel
theorem dX12_goesThrough_172 : decode cX12_goesThrough 172 = .ok (.getfield 295, 3) := by decide +kernel
theorem dX12_goesThrough_175 : decode cX12_goesThrough 175 = .ok (.if_icmp .ge 91, 3) := by decide +kernel
theorem dX12_goesThrough_178 : decode cX12_goesThrough 178 = .ok (.aload_n 0, 1) := by decide +kernel
theorem dX12_goesThrough_179 : decode cX12_goesThrough 179 = .ok (.getfield 62, 3) := by decide +kernel
theorem dX12_goesThrough_182 : decode cX12_goesThrough 182 = .ok (.iload_n 1, 1) := by decide +kernel
theorem dX12_goesThrough_183 : decode cX12_goesThrough 183 = .ok (.iload 6, 2) := by decide +kernel
theorem dX12_goesThrough_185 : decode cX12_goesThrough 185 = .ok (.iastore, 1) := by decide +kernel
theorem dX12_goesThrough_186 : decode cX12_goesThrough 186 = .ok (.aload_n 0, 1) := by decide +kernel
theorem dX12_goesThrough_187 : decode cX12_goesThrough 187 = .ok (.iload_n 1, 1) := by decide +kernel
theorem dX12_goesThrough_188 : decode cX12_goesThrough 188 = .ok (.iconst 1, 1) := by decide +kernel
theorem dX12_goesThrough_189 : decode cX12_goesThrough 189 = .ok (.iadd, 1) := by decide +kernel
theorem dX12_goesThrough_190 : decode cX12_goesThrough 190 = .ok (.iload 6, 2) := by decide +kernel
theorem dX12_goesThrough_192 : decode cX12_goesThrough 192 = .ok (.iconst (-1), 1) := by decide +kernel
theorem dX12_goesThrough_193 : decode cX12_goesThrough 193 = .ok (.if_icmp .ne 7, 3) := by decide +kernel
theorem dX12_goesThrough_196 : decode cX12_goesThrough 196 = .ok (.iload_n 2, 1) := by decide +kernel
theorem dX12_goesThrough_197 : decode cX12_goesThrough 197 = .ok (.goto 9, 3) := by decide +kernel
theorem dX12_goesThrough_200 : decode cX12_goesThrough 200 = .ok (.iload_n 2, 1) := by decide +kernel
theorem dX12_goesThrough_201 : decode cX12_goesThrough 201 = .ok (.iconst 1, 1) := by decide +kernel
theorem dX12_goesThrough_202 : decode cX12_goesThrough 202 = .ok (.iload 6, 2) := by decide +kernel
theorem dX12_goesThrough_204 : decode cX12_goesThrough 204 = .ok (.ishl, 1) := by decide +kernel
theorem dX12_goesThrough_205 : decode cX12_goesThrough 205 = .ok (.ior, 1) := by decide +kernel
theorem dX12_goesThrough_206 : decode cX12_goesThrough 206 = .ok (.iload_n 3, 1) := by decide +kernel
theorem dX12_goesThrough_207 : decode cX12_goesThrough 207 = .ok (.aload_n 0, 1) := by decide +kernel
theorem dX12_goesThrough_208 : decode cX12_goesThrough 208 = .ok (.getfield 56, 3) := by decide +kernel
theorem dX12_goesThrough_211 : decode cX12_goesThrough 211 = .ok (.bipush 7, 2) := by decide +kernel
theorem dX12_goesThrough_213 : decode cX12_goesThrough 213 = .ok (.iload_n 1, 1) := by decide +kernel
theorem dX12_goesThrough_214 : decode cX12_goesThrough 214 = .ok (.imul, 1) := by decide +kernel
theorem dX12_goesThrough_215 : decode cX12_goesThrough 215 = .ok (.iload 5, 2) := by decide +kernel
theorem dX12_goesThrough_217 : decode cX12_goesThrough 217 = .ok (.iadd, 1) := by decide +kernel
theorem dX12_goesThrough_218 : decode cX12_goesThrough 218 = .ok (.iaload, 1) := by decide +kernel
theorem dX12_goesThrough_219 : decode cX12_goesThrough 219 = .ok (.iadd, 1) := by decide +kernel
theorem dX12_goesThrough_220 : decode cX12_goesThrough 220 = .ok (.iload 7, 2) := by decide +kernel
theorem dX12_goesThrough_222 : decode cX12_goesThrough 222 = .ok (.ifCond .eq 25, 3) := by decide +kernel
theorem dX12_goesThrough_225 : decode cX12_goesThrough 225 = .ok (.aload_n 0, 1) := by decide +kernel
theorem dX12_goesThrough_226 : decode cX12_goesThrough 226 = .ok (.getfield 298, 3) := by decide +kernel
theorem dX12_goesThrough_229 : decode cX12_goesThrough 229 = .ok (.ifCond .eq 18, 3) := by decide +kernel
theorem dX12_goesThrough_232 : decode cX12_goesThrough 232 = .ok (.aload_n 0, 1) := by decide +kernel
theorem dX12_goesThrough_233 : decode cX12_goesThrough 233 = .ok (.getfield 50, 3) := by decide +kernel
theorem dX12_goesThrough_236 : decode cX12_goesThrough 236 = .ok (.bipush 7, 2) := by decide +kernel
theorem dX12_goesThrough_238 : decode cX12_goesThrough 238 = .ok (.iload_n 1, 1) := by decide +kernel
theorem dX12_goesThrough_239 : decode cX12_goesThrough 239 = .ok (.imul, 1) := by decide +kernel
theorem dX12_goesThrough_240 : decode cX12_goesThrough 240 = .ok (.iload 5, 2) := by decide +kernel
theorem dX12_goesThrough_242 : decode cX12_goesThrough 242 = .ok (.iadd, 1) := by decide +kernel
theorem dX12_goesThrough_243 : decode cX12_goesThrough 243 = .ok (.iaload, 1) := by decide +kernel
theorem dX12_goesThrough_244 : decode cX12_goesThrough 244 = .ok (.goto 4, 3) := by decide +kernel
theorem dX12_goesThrough_247 : decode cX12_goesThrough 247 = .ok (.iconst 0, 1) := by decide +kernel
theorem dX12_goesThrough_248 : decode cX12_goesThrough 248 = .ok (.iadd, 1) := by decide +kernel
theorem dX12_goesThrough_249 : decode cX12_goesThrough 249 = .ok (.iload 7, 2) := by decide +kernel
theorem dX12_goesThrough_251 : decode cX12_goesThrough 251 = .ok (.ifCond .eq 10, 3) := by decide +kernel
theorem dX12_goesThrough_254 : decode cX12_goesThrough 254 = .ok (.iload 4, 2) := by decide +kernel
theorem dX12_goesThrough_256 : decode cX12_goesThrough 256 = .ok (.iconst 1, 1) := by decide +kernel
theorem dX12_goesThrough_257 : decode cX12_goesThrough 257 = .ok (.iadd, 1) := by decide +kernel
theorem dX12_goesThrough_258 : decode cX12_goesThrough 258 = .ok (.goto 5, 3) := by decide +kernel
theorem dX12_goesThrough_261 : decode cX12_goesThrough 261 = .ok (.iload 4, 2) := by decide +kernel
theorem dX12_goesThrough_263 : decode cX12_goesThrough 263 = .ok (.invokevirtual 291, 3) := by decide +kernel
theorem dX12_goesThrough_266 : decode cX12_goesThrough 266 = .ok (.iinc 5 1, 3) := by decide +kernel
theorem dX12_goesThrough_269 : decode cX12_goesThrough 269 = .ok (.goto (-173), 3) := by decide +kernel
theorem dX12_goesThrough_272 : decode cX12_goesThrough 272 = .ok (.return_, 1) := by decide +kernel
theorem dX12_fromNow_0 : decode cX12_fromNow 0 = .ok (.iconst 0, 1) := by decide +kernel
theorem dX12_fromNow_1 : decode cX12_fromNow 1 = .ok (.istore_n 1, 1) := by decide +kernel
theorem dX12_fromNow_2 : decode cX12_fromNow 2 = .ok (.iload_n 1, 1) := by decide +kernel
theorem dX12_fromNow_3 : decode cX12_fromNow 3 = .ok (.iconst 5, 1) := by decide +kernel
theorem dX12_fromNow_4 : decode cX12_fromNow 4 = .ok (.if_icmp .ge 33, 3) := by decide +kernel
theorem dX12_fromNow_7 : decode cX12_fromNow 7 = .ok (.aload_n 0, 1) := by decide +kernel
theorem dX12_fromNow_8 : decode cX12_fromNow 8 = .ok (.getfield 68, 3) := by decide +kernel
theorem dX12_fromNow_11 : decode cX12_fromNow 11 = .ok (.iload_n 1, 1) := by decide +kernel
theorem dX12_fromNow_12 : decode cX12_fromNow 12 = .ok (.iload_n 1, 1) := by decide +kernel
theorem dX12_fromNow_13 : decode cX12_fromNow 13 = .ok (.aload_n 0, 1) := by decide +kernel
theorem dX12_fromNow_14 : decode cX12_fromNow 14 = .ok (.getfield 106, 3) := by decide +kernel
theorem dX12_fromNow_17 : decode cX12_fromNow 17 = .ok (.if_icmp .ge 12, 3) := by decide +kernel
theorem dX12_fromNow_20 : decode cX12_fromNow 20 = .ok (.aload_n 0, 1) := by decide +kernel
theorem dX12_fromNow_21 : decode cX12_fromNow 21 = .ok (.getfield 44, 3) := by decide +kernel
theorem dX12_fromNow_24 : decode cX12_fromNow 24 = .ok (.iload_n 1, 1) := by decide +kernel
theorem dX12_fromNow_25 : decode cX12_fromNow 25 = .ok (.iaload, 1) := by decide +kernel
theorem dX12_fromNow_26 : decode cX12_fromNow 26 = .ok (.goto 4, 3) := by decide +kernel
theorem dX12_fromNow_29 : decode cX12_fromNow 29 = .ok (.iconst (-1), 1) := by decide +kernel
theorem dX12_fromNow_30 : decode cX12_fromNow 30 = .ok (.iastore, 1) := by decide +kernel
theorem dX12_fromNow_31 : decode cX12_fromNow 31 = .ok (.iinc 1 1, 3) := by decide +kernel
theorem dX12_fromNow_34 : decode cX12_fromNow 34 = .ok (.goto (-32), 3) := by decide +kernel
theorem dX12_fromNow_37 : decode cX12_fromNow 37 = .ok (.return_, 1) := by decide +kernel
theorem dX12_seeksFor_0 : decode cX12_seeksFor 0 = .ok (.aload_n 0, 1) := by decide +kernel
theorem dX12_seeksFor_1 : decode cX12_seeksFor 1 = .ok (.invokevirtual 301, 3) := by decide +kernel
theorem dX12_seeksFor_4 : decode cX12_seeksFor 4 = .ok (.aload_n 0, 1) := by decide +kernel
theorem dX12_seeksFor_5 : decode cX12_seeksFor 5 = .ok (.iload_n 1, 1) := by decide +kernel
theorem dX12_seeksFor_6 : decode cX12_seeksFor 6 = .ok (.invokevirtual 304, 3) := by decide +kernel
theorem dX12_seeksFor_9 : decode cX12_seeksFor 9 = .ok (.aload_n 0, 1) := by decide +kernel
theorem dX12_seeksFor_10 : decode cX12_seeksFor 10 = .ok (.iconst 1, 1) := by decide +kernel
theorem dX12_seeksFor_11 : decode cX12_seeksFor 11 = .ok (.putfield 298, 3) := by decide +kernel
theorem dX12_seeksFor_14 : decode cX12_seeksFor 14 = .ok (.aload_n 0, 1) := by decide +kernel
theorem dX12_seeksFor_15 : decode cX12_seeksFor 15 = .ok (.iload_n 2, 1) := by decide +kernel
theorem dX12_seeksFor_16 : decode cX12_seeksFor 16 = .ok (.putfield 295, 3) := by decide +kernel
theorem dX12_seeksFor_19 : decode cX12_seeksFor 19 = .ok (.aload_n 0, 1) := by decide +kernel
theorem dX12_seeksFor_20 : decode cX12_seeksFor 20 = .ok (.iconst 0, 1) := by decide +kernel
theorem dX12_seeksFor_21 : decode cX12_seeksFor 21 = .ok (.iconst 0, 1) := by decide +kernel
theorem dX12_seeksFor_22 : decode cX12_seeksFor 22 = .ok (.iconst 0, 1) := by decide +kernel
theorem dX12_seeksFor_23 : decode cX12_seeksFor 23 = .ok (.iconst 0, 1) := by decide +kernel
theorem dX12_seeksFor_24 : decode cX12_seeksFor 24 = .ok (.invokevirtual 291, 3) := by decide +kernel
theorem dX12_seeksFor_27 : decode cX12_seeksFor 27 = .ok (.return_, 1) := by decide +kernel
theorem dX12_badNow_0 : decode cX12_badNow 0 = .ok (.iconst 0, 1) := by decide +kernel
theorem dX12_badNow_1 : decode cX12_badNow 1 = .ok (.istore_n 2, 1) := by decide +kernel
theorem dX12_badNow_2 : decode cX12_badNow 2 = .ok (.iconst 0, 1) := by decide +kernel
theorem dX12_badNow_3 : decode cX12_badNow 3 = .ok (.istore_n 3, 1) := by decide +kernel
theorem dX12_badNow_4 : decode cX12_badNow 4 = .ok (.iload_n 3, 1) := by decide +kernel
theorem dX12_badNow_5 : decode cX12_badNow 5 = .ok (.aload_n 0, 1) := by decide +kernel
theorem dX12_badNow_6 : decode cX12_badNow 6 = .ok (.getfield 106, 3) := by decide +kernel
theorem dX12_badNow_9 : decode cX12_badNow 9 = .ok (.if_icmp .ge 26, 3) := by decide +kernel
theorem dX12_badNow_12 : decode cX12_badNow 12 = .ok (.iload_n 2, 1) := by decide +kernel
theorem dX12_badNow_13 : decode cX12_badNow 13 = .ok (.aload_n 0, 1) := by decide +kernel
theorem dX12_badNow_14 : decode cX12_badNow 14 = .ok (.iload_n 3, 1) := by decide +kernel
theorem dX12_badNow_15 : decode cX12_badNow 15 = .ok (.aload_n 0, 1) := by decide +kernel
theorem dX12_badNow_16 : decode cX12_badNow 16 = .ok (.getfield 44, 3) := by decide +kernel
theorem dX12_badNow_19 : decode cX12_badNow 19 = .ok (.iload_n 3, 1) := by decide +kernel
theorem dX12_badNow_20 : decode cX12_badNow 20 = .ok (.iaload, 1) := by decide +kernel
theorem dX12_badNow_21 : decode cX12_badNow 21 = .ok (.iconst 1, 1) := by decide +kernel
theorem dX12_badNow_22 : decode cX12_badNow 22 = .ok (.iadd, 1) := by decide +kernel
theorem dX12_badNow_23 : decode cX12_badNow 23 = .ok (.iload_n 1, 1) := by decide +kernel
theorem dX12_badNow_24 : decode cX12_badNow 24 = .ok (.invokevirtual 285, 3) := by decide +kernel
theorem dX12_badNow_27 : decode cX12_badNow 27 = .ok (.iadd, 1) := by decide +kernel
theorem dX12_badNow_28 : decode cX12_badNow 28 = .ok (.istore_n 2, 1) := by decide +kernel
theorem dX12_badNow_29 : decode cX12_badNow 29 = .ok (.iinc 3 1, 3) := by decide +kernel
theorem dX12_badNow_32 : decode cX12_badNow 32 = .ok (.goto (-28), 3) := by decide +kernel
theorem dX12_badNow_35 : decode cX12_badNow 35 = .ok (.iload_n 2, 1) := by decide +kernel
theorem dX12_badNow_36 : decode cX12_badNow 36 = .ok (.ireturn, 1) := by decide +kernel
theorem dX12_day_0 : decode cX12_day 0 = .ok (.iload_n 1, 1) := by decide +kernel
theorem dX12_day_1 : decode cX12_day 1 = .ok (.invokestatic 308, 3) := by decide +kernel
theorem dX12_day_4 : decode cX12_day 4 = .ok (.ifCond .eq 15, 3) := by decide +kernel
theorem dX12_day_7 : decode cX12_day 7 = .ok (.iload_n 2, 1) := by decide +kernel
theorem dX12_day_8 : decode cX12_day 8 = .ok (.i2l, 1) := by decide +kernel
theorem dX12_day_9 : decode cX12_day 9 = .ok (.lconst 0, 1) := by decide +kernel
theorem dX12_day_10 : decode cX12_day 10 = .ok (.ldc2_w 117, 3) := by decide +kernel
theorem dX12_day_13 : decode cX12_day 13 = .ok (.invokestatic 109, 3) := by decide +kernel
theorem dX12_day_16 : decode cX12_day 16 = .ok (.ifCond .ne 6, 3) := by decide +kernel
theorem dX12_day_19 : decode cX12_day 19 = .ok (.bipush (-2), 2) := by decide +kernel
theorem dX12_day_21 : decode cX12_day 21 = .ok (.ireturn, 1) := by decide +kernel
theorem dX12_day_22 : decode cX12_day 22 = .ok (.aload_n 0, 1) := by decide +kernel
theorem dX12_day_23 : decode cX12_day 23 = .ok (.invokevirtual 311, 3) := by decide +kernel
theorem dX12_day_26 : decode cX12_day 26 = .ok (.iload_n 2, 1) := by decide +kernel
theorem dX12_day_27 : decode cX12_day 27 = .ok (.ifCond .ne 9, 3) := by decide +kernel
theorem dX12_day_30 : decode cX12_day 30 = .ok (.aload_n 0, 1) := by decide +kernel
theorem dX12_day_31 : decode cX12_day 31 = .ok (.iload_n 1, 1) := by decide +kernel
theorem dX12_day_32 : decode cX12_day 32 = .ok (.invokevirtual 314, 3) := by decide +kernel
theorem dX12_day_35 : decode cX12_day 35 = .ok (.ireturn, 1) := by decide +kernel
theorem dX12_day_36 : decode cX12_day 36 = .ok (.iconst 0, 1) := by decide +kernel
theorem dX12_day_37 : decode cX12_day 37 = .ok (.istore_n 3, 1) := by decide +kernel
theorem dX12_day_38 : decode cX12_day 38 = .ok (.iconst 0, 1) := by decide +kernel
theorem dX12_day_39 : decode cX12_day 39 = .ok (.istore 4, 2) := by decide +kernel
theorem dX12_day_41 : decode cX12_day 41 = .ok (.iload 4, 2) := by decide +kernel
theorem dX12_day_43 : decode cX12_day 43 = .ok (.aload_n 0, 1) := by decide +kernel
theorem dX12_day_44 : decode cX12_day 44 = .ok (.getfield 106, 3) := by decide +kernel
theorem dX12_day_47 : decode cX12_day 47 = .ok (.if_icmp .ge 209, 3) := by decide +kernel
theorem dX12_day_50 : decode cX12_day 50 = .ok (.aload_n 0, 1) := by decide +kernel
theorem dX12_day_51 : decode cX12_day 51 = .ok (.getfield 38, 3) := by decide +kernel
theorem dX12_day_54 : decode cX12_day 54 = .ok (.iload 4, 2) := by decide +kernel
theorem dX12_day_56 : decode cX12_day 56 = .ok (.iaload, 1) := by decide +kernel
theorem dX12_day_57 : decode cX12_day 57 = .ok (.istore 5, 2) := by decide +kernel
theorem dX12_day_59 : decode cX12_day 59 = .ok (.iload_n 1, 1) := by decide +kernel
theorem dX12_day_60 : decode cX12_day 60 = .ok (.iload 5, 2) := by decide +kernel
theorem dX12_day_62 : decode cX12_day 62 = .ok (.ishr, 1) := by decide +kernel
theorem dX12_day_63 : decode cX12_day 63 = .ok (.iconst 1, 1) := by decide +kernel
theorem dX12_day_64 : decode cX12_day 64 = .ok (.iand, 1) := by decide +kernel
theorem dX12_day_65 : decode cX12_day 65 = .ok (.iconst 1, 1) := by decide +kernel
theorem dX12_day_66 : decode cX12_day 66 = .ok (.if_icmp .ne 32, 3) := by decide +kernel
theorem dX12_day_69 : decode cX12_day 69 = .ok (.aload_n 0, 1) := by decide +kernel
theorem dX12_day_70 : decode cX12_day 70 = .ok (.iload 5, 2) := by decide +kernel
theorem dX12_day_72 : decode cX12_day 72 = .ok (.aload_n 0, 1) := by decide +kernel
theorem dX12_day_73 : decode cX12_day 73 = .ok (.getfield 44, 3) := by decide +kernel
theorem dX12_day_76 : decode cX12_day 76 = .ok (.iload 4, 2) := by decide +kernel
theorem dX12_day_78 : decode cX12_day 78 = .ok (.iaload, 1) := by decide +kernel
theorem dX12_day_79 : decode cX12_day 79 = .ok (.invokevirtual 140, 3) := by decide +kernel
theorem dX12_day_82 : decode cX12_day 82 = .ok (.ifCond .ne 16, 3) := by decide +kernel
theorem dX12_day_85 : decode cX12_day 85 = .ok (.aload_n 0, 1) := by decide +kernel
theorem dX12_day_86 : decode cX12_day 86 = .ok (.iload 4, 2) := by decide +kernel
theorem dX12_day_88 : decode cX12_day 88 = .ok (.invokevirtual 270, 3) := by decide +kernel
theorem dX12_day_91 : decode cX12_day 91 = .ok (.ifCond .le 7, 3) := by decide +kernel
theorem dX12_day_94 : decode cX12_day 94 = .ok (.iconst 1, 1) := by decide +kernel
theorem dX12_day_95 : decode cX12_day 95 = .ok (.goto 4, 3) := by decide +kernel
theorem dX12_day_98 : decode cX12_day 98 = .ok (.iconst 0, 1) := by decide +kernel
theorem dX12_day_99 : decode cX12_day 99 = .ok (.istore 6, 2) := by decide +kernel
theorem dX12_day_101 : decode cX12_day 101 = .ok (.iconst 0, 1) := by decide +kernel
theorem dX12_day_102 : decode cX12_day 102 = .ok (.istore 7, 2) := by decide +kernel
theorem dX12_day_104 : decode cX12_day 104 = .ok (.iconst 0, 1) := by decide +kernel
theorem dX12_day_105 : decode cX12_day 105 = .ok (.istore 8, 2) := by decide +kernel
theorem dX12_day_107 : decode cX12_day 107 = .ok (.iload 8, 2) := by decide +kernel
theorem dX12_day_109 : decode cX12_day 109 = .ok (.iconst 4, 1) := by decide +kernel
theorem dX12_day_110 : decode cX12_day 110 = .ok (.if_icmp .ge 59, 3) := by decide +kernel
theorem dX12_day_113 : decode cX12_day 113 = .ok (.iload 7, 2) := by decide +kernel
theorem dX12_day_115 : decode cX12_day 115 = .ok (.iload_n 1, 1) := by decide +kernel
theorem dX12_day_116 : decode cX12_day 116 = .ok (.iload 8, 2) := by decide +kernel
theorem dX12_day_118 : decode cX12_day 118 = .ok (.ishr, 1) := by decide +kernel
theorem dX12_day_119 : decode cX12_day 119 = .ok (.iconst 1, 1) := by decide +kernel
theorem dX12_day_120 : decode cX12_day 120 = .ok (.iand, 1) := by decide +kernel
theorem dX12_day_121 : decode cX12_day 121 = .ok (.iconst 1, 1) := by decide +kernel
theorem dX12_day_122 : decode cX12_day 122 = .ok (.if_icmp .ne 37, 3) := by decide +kernel
theorem dX12_day_125 : decode cX12_day 125 = .ok (.iload 8, 2) := by decide +kernel
theorem dX12_day_127 : decode cX12_day 127 = .ok (.iload 5, 2) := by decide +kernel
theorem dX12_day_129 : decode cX12_day 129 = .ok (.if_icmp .eq 30, 3) := by decide +kernel
theorem dX12_day_132 : decode cX12_day 132 = .ok (.aload_n 0, 1) := by decide +kernel
theorem dX12_day_133 : decode cX12_day 133 = .ok (.iload 8, 2) := by decide +kernel
theorem dX12_day_135 : decode cX12_day 135 = .ok (.aload_n 0, 1) := by decide +kernel
theorem dX12_day_136 : decode cX12_day 136 = .ok (.getfield 44, 3) := by decide +kernel
theorem dX12_day_139 : decode cX12_day 139 = .ok (.iload 4, 2) := by decide +kernel
theorem dX12_day_141 : decode cX12_day 141 = .ok (.iaload, 1) := by decide +kernel
theorem dX12_day_142 : decode cX12_day 142 = .ok (.invokevirtual 140, 3) := by decide +kernel
theorem dX12_day_145 : decode cX12_day 145 = .ok (.ifCond .eq 14, 3) := by decide +kernel
theorem dX12_day_148 : decode cX12_day 148 = .ok (.aload_n 0, 1) := by decide +kernel
theorem dX12_day_149 : decode cX12_day 149 = .ok (.iload 4, 2) := by decide +kernel
theorem dX12_day_151 : decode cX12_day 151 = .ok (.iload 8, 2) := by decide +kernel
theorem dX12_day_153 : decode cX12_day 153 = .ok (.invokevirtual 273, 3) := by decide +kernel
theorem dX12_day_156 : decode cX12_day 156 = .ok (.goto 4, 3) := by decide +kernel
theorem dX12_day_159 : decode cX12_day 159 = .ok (.iconst 0, 1) := by decide +kernel
theorem dX12_day_160 : decode cX12_day 160 = .ok (.iadd, 1) := by decide +kernel
theorem dX12_day_161 : decode cX12_day 161 = .ok (.istore 7, 2) := by decide +kernel
theorem dX12_day_163 : decode cX12_day 163 = .ok (.iinc 8 1, 3) := by decide +kernel
theorem dX12_day_166 : decode cX12_day 166 = .ok (.goto (-59), 3) := by decide +kernel
theorem dX12_day_169 : decode cX12_day 169 = .ok (.aload_n 0, 1) := by decide +kernel
theorem dX12_day_170 : decode cX12_day 170 = .ok (.getfield 53, 3) := by decide +kernel
theorem dX12_day_173 : decode cX12_day 173 = .ok (.iconst 5, 1) := by decide +kernel
theorem dX12_day_174 : decode cX12_day 174 = .ok (.iload 4, 2) := by decide +kernel
theorem dX12_day_176 : decode cX12_day 176 = .ok (.imul, 1) := by decide +kernel
theorem dX12_day_177 : decode cX12_day 177 = .ok (.iload_n 1, 1) := by decide +kernel
theorem dX12_day_178 : decode cX12_day 178 = .ok (.invokestatic 276, 3) := by decide +kernel
theorem dX12_day_181 : decode cX12_day 181 = .ok (.iadd, 1) := by decide +kernel
theorem dX12_day_182 : decode cX12_day 182 = .ok (.iaload, 1) := by decide +kernel
theorem dX12_day_183 : decode cX12_day 183 = .ok (.aload_n 0, 1) := by decide +kernel
theorem dX12_day_184 : decode cX12_day 184 = .ok (.iload 4, 2) := by decide +kernel
theorem dX12_day_186 : decode cX12_day 186 = .ok (.aload_n 0, 1) := by decide +kernel
theorem dX12_day_187 : decode cX12_day 187 = .ok (.getfield 44, 3) := by decide +kernel
theorem dX12_day_190 : decode cX12_day 190 = .ok (.iload 4, 2) := by decide +kernel
theorem dX12_day_192 : decode cX12_day 192 = .ok (.iaload, 1) := by decide +kernel
theorem dX12_day_193 : decode cX12_day 193 = .ok (.iload_n 1, 1) := by decide +kernel
theorem dX12_day_194 : decode cX12_day 194 = .ok (.invokevirtual 279, 3) := by decide +kernel
theorem dX12_day_197 : decode cX12_day 197 = .ok (.imul, 1) := by decide +kernel
theorem dX12_day_198 : decode cX12_day 198 = .ok (.ifCond .ne 7, 3) := by decide +kernel
theorem dX12_day_201 : decode cX12_day 201 = .ok (.iconst 1, 1) := by decide +kernel
theorem dX12_day_202 : decode cX12_day 202 = .ok (.goto 4, 3) := by decide +kernel
theorem dX12_day_205 : decode cX12_day 205 = .ok (.iconst 0, 1) := by decide +kernel
theorem dX12_day_206 : decode cX12_day 206 = .ok (.istore 8, 2) := by decide +kernel
theorem dX12_day_208 : decode cX12_day 208 = .ok (.iload_n 3, 1) := by decide +kernel
theorem dX12_day_209 : decode cX12_day 209 = .ok (.iload_n 2, 1) := by decide +kernel
theorem dX12_day_210 : decode cX12_day 210 = .ok (.iconst 1, 1) := by decide +kernel
theorem dX12_day_211 : decode cX12_day 211 = .ok (.if_icmp .ne 11, 3) := by decide +kernel
theorem dX12_day_214 : decode cX12_day 214 = .ok (.iload 6, 2) := by decide +kernel
theorem dX12_day_216 : decode cX12_day 216 = .ok (.ifCond .eq 28, 3) := by decide +kernel
theorem dX12_day_219 : decode cX12_day 219 = .ok (.goto 21, 3) := by decide +kernel
theorem dX12_day_222 : decode cX12_day 222 = .ok (.iload_n 2, 1) := by decide +kernel
theorem dX12_day_223 : decode cX12_day 223 = .ok (.iconst 2, 1) := by decide +kernel
theorem dX12_day_224 : decode cX12_day 224 = .ok (.if_icmp .ne 11, 3) := by decide +kernel
theorem dX12_day_227 : decode cX12_day 227 = .ok (.iload 7, 2) := by decide +kernel
theorem dX12_day_229 : decode cX12_day 229 = .ok (.ifCond .le 15, 3) := by decide +kernel
theorem dX12_day_232 : decode cX12_day 232 = .ok (.goto 8, 3) := by decide +kernel
theorem dX12_day_235 : decode cX12_day 235 = .ok (.iload 8, 2) := by decide +kernel
theorem dX12_day_237 : decode cX12_day 237 = .ok (.ifCond .eq 7, 3) := by decide +kernel
theorem dX12_day_240 : decode cX12_day 240 = .ok (.iconst 1, 1) := by decide +kernel
theorem dX12_day_241 : decode cX12_day 241 = .ok (.goto 4, 3) := by decide +kernel
theorem dX12_day_244 : decode cX12_day 244 = .ok (.iconst 0, 1) := by decide +kernel
theorem dX12_day_245 : decode cX12_day 245 = .ok (.iload 4, 2) := by decide +kernel
theorem dX12_day_247 : decode cX12_day 247 = .ok (.ishl, 1) := by decide +kernel
theorem dX12_day_248 : decode cX12_day 248 = .ok (.ior, 1) := by decide +kernel
theorem dX12_day_249 : decode cX12_day 249 = .ok (.istore_n 3, 1) := by decide +kernel
theorem dX12_day_250 : decode cX12_day 250 = .ok (.iinc 4 1, 3) := by decide +kernel
theorem dX12_day_253 : decode cX12_day 253 = .ok (.goto (-212), 3) := by decide +kernel
theorem dX12_day_256 : decode cX12_day 256 = .ok (.iload_n 3, 1) := by decide +kernel
theorem dX12_day_257 : decode cX12_day 257 = .ok (.ireturn, 1) := by decide +kernel
theorem dX12_best_0 : decode cX12_best 0 = .ok (.iload_n 1, 1) := by decide +kernel
theorem dX12_best_1 : decode cX12_best 1 = .ok (.invokestatic 308, 3) := by decide +kernel
theorem dX12_best_4 : decode cX12_best 4 = .ok (.ifCond .eq 28, 3) := by decide +kernel
theorem dX12_best_7 : decode cX12_best 7 = .ok (.iload_n 2, 1) := by decide +kernel
theorem dX12_best_8 : decode cX12_best 8 = .ok (.i2l, 1) := by decide +kernel
theorem dX12_best_9 : decode cX12_best 9 = .ok (.lconst 0, 1) := by decide +kernel
theorem dX12_best_10 : decode cX12_best 10 = .ok (.ldc2_w 113, 3) := by decide +kernel
theorem dX12_best_13 : decode cX12_best 13 = .ok (.invokestatic 109, 3) := by decide +kernel
theorem dX12_best_16 : decode cX12_best 16 = .ok (.ifCond .eq 16, 3) := by decide +kernel
theorem dX12_best_19 : decode cX12_best 19 = .ok (.iload_n 3, 1) := by decide +kernel
theorem dX12_best_20 : decode cX12_best 20 = .ok (.iconst (-1), 1) := by decide +kernel
theorem dX12_best_21 : decode cX12_best 21 = .ok (.if_icmp .eq 14, 3) := by decide +kernel
theorem dX12_best_24 : decode cX12_best 24 = .ok (.aload_n 0, 1) := by decide +kernel
theorem dX12_best_25 : decode cX12_best 25 = .ok (.iload_n 3, 1) := by decide +kernel
theorem dX12_best_26 : decode cX12_best 26 = .ok (.invokevirtual 123, 3) := by decide +kernel
theorem dX12_best_29 : decode cX12_best 29 = .ok (.ifCond .ne 6, 3) := by decide +kernel
theorem dX12_best_32 : decode cX12_best 32 = .ok (.bipush (-100), 2) := by decide +kernel
theorem dX12_best_34 : decode cX12_best 34 = .ok (.ireturn, 1) := by decide +kernel
theorem dX12_best_35 : decode cX12_best 35 = .ok (.aload_n 0, 1) := by decide +kernel
theorem dX12_best_36 : decode cX12_best 36 = .ok (.invokevirtual 311, 3) := by decide +kernel
theorem dX12_best_39 : decode cX12_best 39 = .ok (.aload_n 0, 1) := by decide +kernel
theorem dX12_best_40 : decode cX12_best 40 = .ok (.invokevirtual 317, 3) := by decide +kernel
theorem dX12_best_43 : decode cX12_best 43 = .ok (.aload_n 0, 1) := by decide +kernel
theorem dX12_best_44 : decode cX12_best 44 = .ok (.iload_n 1, 1) := by decide +kernel
theorem dX12_best_45 : decode cX12_best 45 = .ok (.iload_n 2, 1) := by decide +kernel
theorem dX12_best_46 : decode cX12_best 46 = .ok (.invokevirtual 320, 3) := by decide +kernel
theorem dX12_best_49 : decode cX12_best 49 = .ok (.iload_n 3, 1) := by decide +kernel
theorem dX12_best_50 : decode cX12_best 50 = .ok (.iconst (-1), 1) := by decide +kernel
theorem dX12_best_51 : decode cX12_best 51 = .ok (.if_icmp .ne 10, 3) := by decide +kernel
theorem dX12_best_54 : decode cX12_best 54 = .ok (.aload_n 0, 1) := by decide +kernel
theorem dX12_best_55 : decode cX12_best 55 = .ok (.getfield 288, 3) := by decide +kernel
theorem dX12_best_58 : decode cX12_best 58 = .ok (.goto 9, 3) := by decide +kernel
theorem dX12_best_61 : decode cX12_best 61 = .ok (.aload_n 0, 1) := by decide +kernel
theorem dX12_best_62 : decode cX12_best 62 = .ok (.getfield 65, 3) := by decide +kernel
theorem dX12_best_65 : decode cX12_best 65 = .ok (.iload_n 3, 1) := by decide +kernel
theorem dX12_best_66 : decode cX12_best 66 = .ok (.iaload, 1) := by decide +kernel
theorem dX12_best_67 : decode cX12_best 67 = .ok (.ireturn, 1) := by decide +kernel
theorem dX12_tidy_0 : decode cX12_tidy 0 = .ok (.iload_n 1, 1) := by decide +kernel
theorem dX12_tidy_1 : decode cX12_tidy 1 = .ok (.invokestatic 308, 3) := by decide +kernel
theorem dX12_tidy_4 : decode cX12_tidy 4 = .ok (.ifCond .ne 6, 3) := by decide +kernel
theorem dX12_tidy_7 : decode cX12_tidy 7 = .ok (.bipush (-2), 2) := by decide +kernel
theorem dX12_tidy_9 : decode cX12_tidy 9 = .ok (.ireturn, 1) := by decide +kernel
theorem dX12_tidy_10 : decode cX12_tidy 10 = .ok (.aload_n 0, 1) := by decide +kernel
theorem dX12_tidy_11 : decode cX12_tidy 11 = .ok (.iload_n 1, 1) := by decide +kernel
theorem dX12_tidy_12 : decode cX12_tidy 12 = .ok (.iconst 5, 1) := by decide +kernel
theorem dX12_tidy_13 : decode cX12_tidy 13 = .ok (.iconst (-1), 1) := by decide +kernel
theorem dX12_tidy_14 : decode cX12_tidy 14 = .ok (.invokevirtual 324, 3) := by decide +kernel
theorem dX12_tidy_17 : decode cX12_tidy 17 = .ok (.istore_n 2, 1) := by decide +kernel
theorem dX12_tidy_18 : decode cX12_tidy 18 = .ok (.iconst 0, 1) := by decide +kernel
theorem dX12_tidy_19 : decode cX12_tidy 19 = .ok (.istore_n 3, 1) := by decide +kernel
theorem dX12_tidy_20 : decode cX12_tidy 20 = .ok (.iload_n 3, 1) := by decide +kernel
theorem dX12_tidy_21 : decode cX12_tidy 21 = .ok (.aload_n 0, 1) := by decide +kernel
theorem dX12_tidy_22 : decode cX12_tidy 22 = .ok (.getfield 106, 3) := by decide +kernel
theorem dX12_tidy_25 : decode cX12_tidy 25 = .ok (.if_icmp .ge 21, 3) := by decide +kernel
theorem dX12_tidy_28 : decode cX12_tidy 28 = .ok (.aload_n 0, 1) := by decide +kernel
theorem dX12_tidy_29 : decode cX12_tidy 29 = .ok (.getfield 44, 3) := by decide +kernel
theorem dX12_tidy_32 : decode cX12_tidy 32 = .ok (.iload_n 3, 1) := by decide +kernel
theorem dX12_tidy_33 : decode cX12_tidy 33 = .ok (.aload_n 0, 1) := by decide +kernel
theorem dX12_tidy_34 : decode cX12_tidy 34 = .ok (.getfield 65, 3) := by decide +kernel
theorem dX12_tidy_37 : decode cX12_tidy 37 = .ok (.iload_n 3, 1) := by decide +kernel
theorem dX12_tidy_38 : decode cX12_tidy 38 = .ok (.iaload, 1) := by decide +kernel
theorem dX12_tidy_39 : decode cX12_tidy 39 = .ok (.iastore, 1) := by decide +kernel
theorem dX12_tidy_40 : decode cX12_tidy 40 = .ok (.iinc 3 1, 3) := by decide +kernel
theorem dX12_tidy_43 : decode cX12_tidy 43 = .ok (.goto (-23), 3) := by decide +kernel
theorem dX12_tidy_46 : decode cX12_tidy 46 = .ok (.iload_n 2, 1) := by decide +kernel
theorem dX12_tidy_47 : decode cX12_tidy 47 = .ok (.ireturn, 1) := by decide +kernel
theorem dX12_seeksOnce_0 : decode cX12_seeksOnce 0 = .ok (.aload_n 0, 1) := by decide +kernel
theorem dX12_seeksOnce_1 : decode cX12_seeksOnce 1 = .ok (.invokevirtual 317, 3) := by decide +kernel
theorem dX12_seeksOnce_4 : decode cX12_seeksOnce 4 = .ok (.aload_n 0, 1) := by decide +kernel
theorem dX12_seeksOnce_5 : decode cX12_seeksOnce 5 = .ok (.invokevirtual 301, 3) := by decide +kernel
theorem dX12_seeksOnce_8 : decode cX12_seeksOnce 8 = .ok (.iconst 0, 1) := by decide +kernel
theorem dX12_seeksOnce_9 : decode cX12_seeksOnce 9 = .ok (.istore_n 1, 1) := by decide +kernel
theorem dX12_seeksOnce_10 : decode cX12_seeksOnce 10 = .ok (.iload_n 1, 1) := by decide +kernel
theorem dX12_seeksOnce_11 : decode cX12_seeksOnce 11 = .ok (.bipush 7, 2) := by decide +kernel
theorem dX12_seeksOnce_13 : decode cX12_seeksOnce 13 = .ok (.if_icmp .ge 19, 3) := by decide +kernel
theorem dX12_seeksOnce_16 : decode cX12_seeksOnce 16 = .ok (.aload_n 0, 1) := by decide +kernel
theorem dX12_seeksOnce_17 : decode cX12_seeksOnce 17 = .ok (.aload_n 0, 1) := by decide +kernel
theorem dX12_seeksOnce_18 : decode cX12_seeksOnce 18 = .ok (.getfield 29, 3) := by decide +kernel
theorem dX12_seeksOnce_21 : decode cX12_seeksOnce 21 = .ok (.iload_n 1, 1) := by decide +kernel
theorem dX12_seeksOnce_22 : decode cX12_seeksOnce 22 = .ok (.iaload, 1) := by decide +kernel
theorem dX12_seeksOnce_23 : decode cX12_seeksOnce 23 = .ok (.invokevirtual 304, 3) := by decide +kernel
theorem dX12_seeksOnce_26 : decode cX12_seeksOnce 26 = .ok (.iinc 1 1, 3) := by decide +kernel
theorem dX12_seeksOnce_29 : decode cX12_seeksOnce 29 = .ok (.goto (-19), 3) := by decide +kernel
theorem dX12_seeksOnce_32 : decode cX12_seeksOnce 32 = .ok (.aload_n 0, 1) := by decide +kernel
theorem dX12_seeksOnce_33 : decode cX12_seeksOnce 33 = .ok (.iconst 1, 1) := by decide +kernel
theorem dX12_seeksOnce_34 : decode cX12_seeksOnce 34 = .ok (.putfield 298, 3) := by decide +kernel
theorem dX12_seeksOnce_37 : decode cX12_seeksOnce 37 = .ok (.aload_n 0, 1) := by decide +kernel
theorem dX12_seeksOnce_38 : decode cX12_seeksOnce 38 = .ok (.iconst 5, 1) := by decide +kernel
theorem dX12_seeksOnce_39 : decode cX12_seeksOnce 39 = .ok (.putfield 295, 3) := by decide +kernel
theorem dX12_seeksOnce_42 : decode cX12_seeksOnce 42 = .ok (.aload_n 0, 1) := by decide +kernel
theorem dX12_seeksOnce_43 : decode cX12_seeksOnce 43 = .ok (.iconst 0, 1) := by decide +kernel
theorem dX12_seeksOnce_44 : decode cX12_seeksOnce 44 = .ok (.iconst 0, 1) := by decide +kernel
theorem dX12_seeksOnce_45 : decode cX12_seeksOnce 45 = .ok (.iconst 0, 1) := by decide +kernel
theorem dX12_seeksOnce_46 : decode cX12_seeksOnce 46 = .ok (.iconst 0, 1) := by decide +kernel
theorem dX12_seeksOnce_47 : decode cX12_seeksOnce 47 = .ok (.invokevirtual 291, 3) := by decide +kernel
theorem dX12_seeksOnce_50 : decode cX12_seeksOnce 50 = .ok (.return_, 1) := by decide +kernel
theorem dX12_once_0 : decode cX12_once 0 = .ok (.iload_n 1, 1) := by decide +kernel
theorem dX12_once_1 : decode cX12_once 1 = .ok (.iconst (-1), 1) := by decide +kernel
theorem dX12_once_2 : decode cX12_once 2 = .ok (.if_icmp .eq 14, 3) := by decide +kernel
theorem dX12_once_5 : decode cX12_once 5 = .ok (.aload_n 0, 1) := by decide +kernel
theorem dX12_once_6 : decode cX12_once 6 = .ok (.iload_n 1, 1) := by decide +kernel
theorem dX12_once_7 : decode cX12_once 7 = .ok (.invokevirtual 123, 3) := by decide +kernel
theorem dX12_once_10 : decode cX12_once 10 = .ok (.ifCond .ne 6, 3) := by decide +kernel
theorem dX12_once_13 : decode cX12_once 13 = .ok (.bipush (-100), 2) := by decide +kernel
theorem dX12_once_15 : decode cX12_once 15 = .ok (.ireturn, 1) := by decide +kernel
theorem dX12_once_16 : decode cX12_once 16 = .ok (.aload_n 0, 1) := by decide +kernel
theorem dX12_once_17 : decode cX12_once 17 = .ok (.invokevirtual 311, 3) := by decide +kernel
theorem dX12_once_20 : decode cX12_once 20 = .ok (.aload_n 0, 1) := by decide +kernel
theorem dX12_once_21 : decode cX12_once 21 = .ok (.invokevirtual 327, 3) := by decide +kernel
theorem dX12_once_24 : decode cX12_once 24 = .ok (.iload_n 1, 1) := by decide +kernel
theorem dX12_once_25 : decode cX12_once 25 = .ok (.iconst (-1), 1) := by decide +kernel
theorem dX12_once_26 : decode cX12_once 26 = .ok (.if_icmp .ne 10, 3) := by decide +kernel
theorem dX12_once_29 : decode cX12_once 29 = .ok (.aload_n 0, 1) := by decide +kernel
theorem dX12_once_30 : decode cX12_once 30 = .ok (.getfield 288, 3) := by decide +kernel
theorem dX12_once_33 : decode cX12_once 33 = .ok (.goto 9, 3) := by decide +kernel
theorem dX12_once_36 : decode cX12_once 36 = .ok (.aload_n 0, 1) := by decide +kernel
theorem dX12_once_37 : decode cX12_once 37 = .ok (.getfield 65, 3) := by decide +kernel
theorem dX12_once_40 : decode cX12_once 40 = .ok (.iload_n 1, 1) := by decide +kernel
theorem dX12_once_41 : decode cX12_once 41 = .ok (.iaload, 1) := by decide +kernel
theorem dX12_once_42 : decode cX12_once 42 = .ok (.ireturn, 1) := by decide +kernel
theorem dX12_weeks_0 : decode cX12_weeks 0 = .ok (.aload_n 0, 1) := by decide +kernel
theorem dX12_weeks_1 : decode cX12_weeks 1 = .ok (.invokevirtual 317, 3) := by decide +kernel
theorem dX12_weeks_4 : decode cX12_weeks 4 = .ok (.aload_n 0, 1) := by decide +kernel
theorem dX12_weeks_5 : decode cX12_weeks 5 = .ok (.iconst 0, 1) := by decide +kernel
theorem dX12_weeks_6 : decode cX12_weeks 6 = .ok (.putfield 330, 3) := by decide +kernel
theorem dX12_weeks_9 : decode cX12_weeks 9 = .ok (.aload_n 0, 1) := by decide +kernel
theorem dX12_weeks_10 : decode cX12_weeks 10 = .ok (.iconst 0, 1) := by decide +kernel
theorem dX12_weeks_11 : decode cX12_weeks 11 = .ok (.putfield 333, 3) := by decide +kernel
theorem dX12_weeks_14 : decode cX12_weeks 14 = .ok (.aload_n 0, 1) := by decide +kernel
theorem dX12_weeks_15 : decode cX12_weeks 15 = .ok (.iconst 0, 1) := by decide +kernel
theorem dX12_weeks_16 : decode cX12_weeks 16 = .ok (.putfield 336, 3) := by decide +kernel
theorem dX12_weeks_19 : decode cX12_weeks 19 = .ok (.iconst 0, 1) := by decide +kernel
theorem dX12_weeks_20 : decode cX12_weeks 20 = .ok (.istore_n 1, 1) := by decide +kernel
theorem dX12_weeks_21 : decode cX12_weeks 21 = .ok (.iload_n 1, 1) := by decide +kernel
theorem dX12_weeks_22 : decode cX12_weeks 22 = .ok (.bipush 7, 2) := by decide +kernel
theorem dX12_weeks_24 : decode cX12_weeks 24 = .ok (.if_icmp .ge 122, 3) := by decide +kernel
theorem dX12_weeks_27 : decode cX12_weeks 27 = .ok (.aload_n 0, 1) := by decide +kernel
theorem dX12_weeks_28 : decode cX12_weeks 28 = .ok (.aload_n 0, 1) := by decide +kernel
theorem dX12_weeks_29 : decode cX12_weeks 29 = .ok (.getfield 29, 3) := by decide +kernel
theorem dX12_weeks_32 : decode cX12_weeks 32 = .ok (.iload_n 1, 1) := by decide +kernel
theorem dX12_weeks_33 : decode cX12_weeks 33 = .ok (.iaload, 1) := by decide +kernel
theorem dX12_weeks_34 : decode cX12_weeks 34 = .ok (.iconst 5, 1) := by decide +kernel
theorem dX12_weeks_35 : decode cX12_weeks 35 = .ok (.invokevirtual 320, 3) := by decide +kernel
theorem dX12_weeks_38 : decode cX12_weeks 38 = .ok (.aload_n 0, 1) := by decide +kernel
theorem dX12_weeks_39 : decode cX12_weeks 39 = .ok (.dup, 1) := by decide +kernel
theorem dX12_weeks_40 : decode cX12_weeks 40 = .ok (.getfield 330, 3) := by decide +kernel
theorem dX12_weeks_43 : decode cX12_weeks 43 = .ok (.aload_n 0, 1) := by decide +kernel
theorem dX12_weeks_44 : decode cX12_weeks 44 = .ok (.getfield 288, 3) := by decide +kernel
theorem dX12_weeks_47 : decode cX12_weeks 47 = .ok (.iadd, 1) := by decide +kernel
theorem dX12_weeks_48 : decode cX12_weeks 48 = .ok (.putfield 330, 3) := by decide +kernel
theorem dX12_weeks_51 : decode cX12_weeks 51 = .ok (.iconst 0, 1) := by decide +kernel
theorem dX12_weeks_52 : decode cX12_weeks 52 = .ok (.istore_n 2, 1) := by decide +kernel
theorem dX12_weeks_53 : decode cX12_weeks 53 = .ok (.iconst 0, 1) := by decide +kernel
theorem dX12_weeks_54 : decode cX12_weeks 54 = .ok (.istore_n 3, 1) := by decide +kernel
theorem dX12_weeks_55 : decode cX12_weeks 55 = .ok (.iload_n 3, 1) := by decide +kernel
theorem dX12_weeks_56 : decode cX12_weeks 56 = .ok (.aload_n 0, 1) := by decide +kernel
theorem dX12_weeks_57 : decode cX12_weeks 57 = .ok (.getfield 106, 3) := by decide +kernel
theorem dX12_weeks_60 : decode cX12_weeks 60 = .ok (.if_icmp .ge 52, 3) := by decide +kernel
theorem dX12_weeks_63 : decode cX12_weeks 63 = .ok (.iload_n 2, 1) := by decide +kernel
theorem dX12_weeks_64 : decode cX12_weeks 64 = .ok (.iload_n 3, 1) := by decide +kernel
theorem dX12_weeks_65 : decode cX12_weeks 65 = .ok (.aload_n 0, 1) := by decide +kernel
theorem dX12_weeks_66 : decode cX12_weeks 66 = .ok (.getfield 59, 3) := by decide +kernel
theorem dX12_weeks_69 : decode cX12_weeks 69 = .ok (.if_icmp .eq 22, 3) := by decide +kernel
theorem dX12_weeks_72 : decode cX12_weeks 72 = .ok (.aload_n 0, 1) := by decide +kernel
theorem dX12_weeks_73 : decode cX12_weeks 73 = .ok (.getfield 65, 3) := by decide +kernel
theorem dX12_weeks_76 : decode cX12_weeks 76 = .ok (.iload_n 3, 1) := by decide +kernel
theorem dX12_weeks_77 : decode cX12_weeks 77 = .ok (.iaload, 1) := by decide +kernel
theorem dX12_weeks_78 : decode cX12_weeks 78 = .ok (.aload_n 0, 1) := by decide +kernel
theorem dX12_weeks_79 : decode cX12_weeks 79 = .ok (.getfield 68, 3) := by decide +kernel
theorem dX12_weeks_82 : decode cX12_weeks 82 = .ok (.iload_n 3, 1) := by decide +kernel
theorem dX12_weeks_83 : decode cX12_weeks 83 = .ok (.iaload, 1) := by decide +kernel
theorem dX12_weeks_84 : decode cX12_weeks 84 = .ok (.if_icmp .eq 7, 3) := by decide +kernel
theorem dX12_weeks_87 : decode cX12_weeks 87 = .ok (.iconst 1, 1) := by decide +kernel
theorem dX12_weeks_88 : decode cX12_weeks 88 = .ok (.goto 4, 3) := by decide +kernel
theorem dX12_weeks_91 : decode cX12_weeks 91 = .ok (.iconst 0, 1) := by decide +kernel
theorem dX12_weeks_92 : decode cX12_weeks 92 = .ok (.iadd, 1) := by decide +kernel
theorem dX12_weeks_93 : decode cX12_weeks 93 = .ok (.istore_n 2, 1) := by decide +kernel
theorem dX12_weeks_94 : decode cX12_weeks 94 = .ok (.aload_n 0, 1) := by decide +kernel
theorem dX12_weeks_95 : decode cX12_weeks 95 = .ok (.getfield 68, 3) := by decide +kernel
theorem dX12_weeks_98 : decode cX12_weeks 98 = .ok (.iload_n 3, 1) := by decide +kernel
theorem dX12_weeks_99 : decode cX12_weeks 99 = .ok (.aload_n 0, 1) := by decide +kernel
theorem dX12_weeks_100 : decode cX12_weeks 100 = .ok (.getfield 65, 3) := by decide +kernel
theorem dX12_weeks_103 : decode cX12_weeks 103 = .ok (.iload_n 3, 1) := by decide +kernel
theorem dX12_weeks_104 : decode cX12_weeks 104 = .ok (.iaload, 1) := by decide +kernel
theorem dX12_weeks_105 : decode cX12_weeks 105 = .ok (.iastore, 1) := by decide +kernel
theorem dX12_weeks_106 : decode cX12_weeks 106 = .ok (.iinc 3 1, 3) := by decide +kernel
theorem dX12_weeks_109 : decode cX12_weeks 109 = .ok (.goto (-54), 3) := by decide +kernel
theorem dX12_weeks_112 : decode cX12_weeks 112 = .ok (.aload_n 0, 1) := by decide +kernel
theorem dX12_weeks_113 : decode cX12_weeks 113 = .ok (.dup, 1) := by decide +kernel
theorem dX12_weeks_114 : decode cX12_weeks 114 = .ok (.getfield 333, 3) := by decide +kernel
theorem dX12_weeks_117 : decode cX12_weeks 117 = .ok (.iload_n 2, 1) := by decide +kernel
theorem dX12_weeks_118 : decode cX12_weeks 118 = .ok (.iadd, 1) := by decide +kernel
theorem dX12_weeks_119 : decode cX12_weeks 119 = .ok (.putfield 333, 3) := by decide +kernel
theorem dX12_weeks_122 : decode cX12_weeks 122 = .ok (.aload_n 0, 1) := by decide +kernel
theorem dX12_weeks_123 : decode cX12_weeks 123 = .ok (.dup, 1) := by decide +kernel
theorem dX12_weeks_124 : decode cX12_weeks 124 = .ok (.getfield 336, 3) := by decide +kernel
theorem dX12_weeks_127 : decode cX12_weeks 127 = .ok (.iload_n 2, 1) := by decide +kernel
theorem dX12_weeks_128 : decode cX12_weeks 128 = .ok (.ifCond .le 7, 3) := by decide +kernel
theorem dX12_weeks_131 : decode cX12_weeks 131 = .ok (.iconst 1, 1) := by decide +kernel
theorem dX12_weeks_132 : decode cX12_weeks 132 = .ok (.goto 4, 3) := by decide +kernel
theorem dX12_weeks_135 : decode cX12_weeks 135 = .ok (.iconst 0, 1) := by decide +kernel
theorem dX12_weeks_136 : decode cX12_weeks 136 = .ok (.iadd, 1) := by decide +kernel
theorem dX12_weeks_137 : decode cX12_weeks 137 = .ok (.putfield 336, 3) := by decide +kernel
theorem dX12_weeks_140 : decode cX12_weeks 140 = .ok (.iinc 1 1, 3) := by decide +kernel
theorem dX12_weeks_143 : decode cX12_weeks 143 = .ok (.goto (-122), 3) := by decide +kernel
theorem dX12_weeks_146 : decode cX12_weeks 146 = .ok (.return_, 1) := by decide +kernel
theorem dX12_week_0 : decode cX12_week 0 = .ok (.iload_n 1, 1) := by decide +kernel
theorem dX12_week_1 : decode cX12_week 1 = .ok (.i2l, 1) := by decide +kernel
theorem dX12_week_2 : decode cX12_week 2 = .ok (.lconst 0, 1) := by decide +kernel
theorem dX12_week_3 : decode cX12_week 3 = .ok (.ldc2_w 339, 3) := by decide +kernel
theorem dX12_week_6 : decode cX12_week 6 = .ok (.invokestatic 109, 3) := by decide +kernel
theorem dX12_week_9 : decode cX12_week 9 = .ok (.ifCond .ne 6, 3) := by decide +kernel
theorem dX12_week_12 : decode cX12_week 12 = .ok (.bipush (-2), 2) := by decide +kernel
theorem dX12_week_14 : decode cX12_week 14 = .ok (.ireturn, 1) := by decide +kernel
theorem dX12_week_15 : decode cX12_week 15 = .ok (.aload_n 0, 1) := by decide +kernel
theorem dX12_week_16 : decode cX12_week 16 = .ok (.invokevirtual 311, 3) := by decide +kernel
theorem dX12_week_19 : decode cX12_week 19 = .ok (.aload_n 0, 1) := by decide +kernel
theorem dX12_week_20 : decode cX12_week 20 = .ok (.invokevirtual 341, 3) := by decide +kernel
theorem dX12_week_23 : decode cX12_week 23 = .ok (.iload_n 1, 1) := by decide +kernel
theorem dX12_week_24 : decode cX12_week 24 = .ok (.ifCond .ne 10, 3) := by decide +kernel
theorem dX12_week_27 : decode cX12_week 27 = .ok (.aload_n 0, 1) := by decide +kernel
theorem dX12_week_28 : decode cX12_week 28 = .ok (.getfield 330, 3) := by decide +kernel
theorem dX12_week_31 : decode cX12_week 31 = .ok (.goto 19, 3) := by decide +kernel
theorem dX12_week_34 : decode cX12_week 34 = .ok (.iload_n 1, 1) := by decide +kernel
theorem dX12_week_35 : decode cX12_week 35 = .ok (.iconst 1, 1) := by decide +kernel
theorem dX12_week_36 : decode cX12_week 36 = .ok (.if_icmp .ne 10, 3) := by decide +kernel
theorem dX12_week_39 : decode cX12_week 39 = .ok (.aload_n 0, 1) := by decide +kernel
theorem dX12_week_40 : decode cX12_week 40 = .ok (.getfield 333, 3) := by decide +kernel
theorem dX12_week_43 : decode cX12_week 43 = .ok (.goto 7, 3) := by decide +kernel
theorem dX12_week_46 : decode cX12_week 46 = .ok (.aload_n 0, 1) := by decide +kernel
theorem dX12_week_47 : decode cX12_week 47 = .ok (.getfield 336, 3) := by decide +kernel
theorem dX12_week_50 : decode cX12_week 50 = .ok (.ireturn, 1) := by decide +kernel
theorem dX12_keepsDays_0 : decode cX12_keepsDays 0 = .ok (.iconst 0, 1) := by decide +kernel
theorem dX12_keepsDays_1 : decode cX12_keepsDays 1 = .ok (.istore_n 1, 1) := by decide +kernel
theorem dX12_keepsDays_2 : decode cX12_keepsDays 2 = .ok (.iload_n 1, 1) := by decide +kernel
theorem dX12_keepsDays_3 : decode cX12_keepsDays 3 = .ok (.bipush 7, 2) := by decide +kernel
theorem dX12_keepsDays_5 : decode cX12_keepsDays 5 = .ok (.if_icmp .ge 21, 3) := by decide +kernel
theorem dX12_keepsDays_8 : decode cX12_keepsDays 8 = .ok (.aload_n 0, 1) := by decide +kernel
theorem dX12_keepsDays_9 : decode cX12_keepsDays 9 = .ok (.getfield 71, 3) := by decide +kernel
theorem dX12_keepsDays_12 : decode cX12_keepsDays 12 = .ok (.iload_n 1, 1) := by decide +kernel
theorem dX12_keepsDays_13 : decode cX12_keepsDays 13 = .ok (.aload_n 0, 1) := by decide +kernel
theorem dX12_keepsDays_14 : decode cX12_keepsDays 14 = .ok (.getfield 29, 3) := by decide +kernel
theorem dX12_keepsDays_17 : decode cX12_keepsDays 17 = .ok (.iload_n 1, 1) := by decide +kernel
theorem dX12_keepsDays_18 : decode cX12_keepsDays 18 = .ok (.iaload, 1) := by decide +kernel
theorem dX12_keepsDays_19 : decode cX12_keepsDays 19 = .ok (.iastore, 1) := by decide +kernel
theorem dX12_keepsDays_20 : decode cX12_keepsDays 20 = .ok (.iinc 1 1, 3) := by decide +kernel
theorem dX12_keepsDays_23 : decode cX12_keepsDays 23 = .ok (.goto (-21), 3) := by decide +kernel
theorem dX12_keepsDays_26 : decode cX12_keepsDays 26 = .ok (.return_, 1) := by decide +kernel
theorem dX12_daysBack_0 : decode cX12_daysBack 0 = .ok (.iconst 0, 1) := by decide +kernel
theorem dX12_daysBack_1 : decode cX12_daysBack 1 = .ok (.istore_n 1, 1) := by decide +kernel
theorem dX12_daysBack_2 : decode cX12_daysBack 2 = .ok (.iload_n 1, 1) := by decide +kernel
theorem dX12_daysBack_3 : decode cX12_daysBack 3 = .ok (.bipush 7, 2) := by decide +kernel
theorem dX12_daysBack_5 : decode cX12_daysBack 5 = .ok (.if_icmp .ge 21, 3) := by decide +kernel
theorem dX12_daysBack_8 : decode cX12_daysBack 8 = .ok (.aload_n 0, 1) := by decide +kernel
theorem dX12_daysBack_9 : decode cX12_daysBack 9 = .ok (.getfield 29, 3) := by decide +kernel
theorem dX12_daysBack_12 : decode cX12_daysBack 12 = .ok (.iload_n 1, 1) := by decide +kernel
theorem dX12_daysBack_13 : decode cX12_daysBack 13 = .ok (.aload_n 0, 1) := by decide +kernel
theorem dX12_daysBack_14 : decode cX12_daysBack 14 = .ok (.getfield 71, 3) := by decide +kernel
theorem dX12_daysBack_17 : decode cX12_daysBack 17 = .ok (.iload_n 1, 1) := by decide +kernel
theorem dX12_daysBack_18 : decode cX12_daysBack 18 = .ok (.iaload, 1) := by decide +kernel
theorem dX12_daysBack_19 : decode cX12_daysBack 19 = .ok (.iastore, 1) := by decide +kernel
theorem dX12_daysBack_20 : decode cX12_daysBack 20 = .ok (.iinc 1 1, 3) := by decide +kernel
theorem dX12_daysBack_23 : decode cX12_daysBack 23 = .ok (.goto (-21), 3) := by decide +kernel
theorem dX12_daysBack_26 : decode cX12_daysBack 26 = .ok (.return_, 1) := by decide +kernel
theorem dX12_dearest_0 : decode cX12_dearest 0 = .ok (.iload_n 1, 1) := by decide +kernel
theorem dX12_dearest_1 : decode cX12_dearest 1 = .ok (.i2l, 1) := by decide +kernel
theorem dX12_dearest_2 : decode cX12_dearest 2 = .ok (.lconst 0, 1) := by decide +kernel
theorem dX12_dearest_3 : decode cX12_dearest 3 = .ok (.lconst 1, 1) := by decide +kernel
theorem dX12_dearest_4 : decode cX12_dearest 4 = .ok (.invokestatic 109, 3) := by decide +kernel
theorem dX12_dearest_7 : decode cX12_dearest 7 = .ok (.ifCond .ne 6, 3) := by decide +kernel
theorem dX12_dearest_10 : decode cX12_dearest 10 = .ok (.bipush (-2), 2) := by decide +kernel
theorem dX12_dearest_12 : decode cX12_dearest 12 = .ok (.ireturn, 1) := by decide +kernel
theorem dX12_dearest_13 : decode cX12_dearest 13 = .ok (.aload_n 0, 1) := by decide +kernel
theorem dX12_dearest_14 : decode cX12_dearest 14 = .ok (.invokevirtual 311, 3) := by decide +kernel
theorem dX12_dearest_17 : decode cX12_dearest 17 = .ok (.aload_n 0, 1) := by decide +kernel
theorem dX12_dearest_18 : decode cX12_dearest 18 = .ok (.invokevirtual 344, 3) := by decide +kernel
theorem dX12_dearest_21 : decode cX12_dearest 21 = .ok (.iconst (-1), 1) := by decide +kernel
theorem dX12_dearest_22 : decode cX12_dearest 22 = .ok (.istore_n 2, 1) := by decide +kernel
theorem dX12_dearest_23 : decode cX12_dearest 23 = .ok (.iconst 0, 1) := by decide +kernel
theorem dX12_dearest_24 : decode cX12_dearest 24 = .ok (.istore_n 3, 1) := by decide +kernel
theorem dX12_dearest_25 : decode cX12_dearest 25 = .ok (.iconst 0, 1) := by decide +kernel
theorem dX12_dearest_26 : decode cX12_dearest 26 = .ok (.istore 4, 2) := by decide +kernel
theorem dX12_dearest_28 : decode cX12_dearest 28 = .ok (.iload 4, 2) := by decide +kernel
theorem dX12_dearest_30 : decode cX12_dearest 30 = .ok (.iconst 4, 1) := by decide +kernel
theorem dX12_dearest_31 : decode cX12_dearest 31 = .ok (.if_icmp .ge 71, 3) := by decide +kernel
theorem dX12_dearest_34 : decode cX12_dearest 34 = .ok (.iconst 0, 1) := by decide +kernel
theorem dX12_dearest_35 : decode cX12_dearest 35 = .ok (.istore 5, 2) := by decide +kernel
theorem dX12_dearest_37 : decode cX12_dearest 37 = .ok (.iload 5, 2) := by decide +kernel
theorem dX12_dearest_39 : decode cX12_dearest 39 = .ok (.bipush 7, 2) := by decide +kernel
theorem dX12_dearest_41 : decode cX12_dearest 41 = .ok (.if_icmp .ge 30, 3) := by decide +kernel
theorem dX12_dearest_44 : decode cX12_dearest 44 = .ok (.aload_n 0, 1) := by decide +kernel
theorem dX12_dearest_45 : decode cX12_dearest 45 = .ok (.getfield 29, 3) := by decide +kernel
theorem dX12_dearest_48 : decode cX12_dearest 48 = .ok (.iload 5, 2) := by decide +kernel
theorem dX12_dearest_50 : decode cX12_dearest 50 = .ok (.aload_n 0, 1) := by decide +kernel
theorem dX12_dearest_51 : decode cX12_dearest 51 = .ok (.getfield 71, 3) := by decide +kernel
theorem dX12_dearest_54 : decode cX12_dearest 54 = .ok (.iload 5, 2) := by decide +kernel
theorem dX12_dearest_56 : decode cX12_dearest 56 = .ok (.iaload, 1) := by decide +kernel
theorem dX12_dearest_57 : decode cX12_dearest 57 = .ok (.iconst 1, 1) := by decide +kernel
theorem dX12_dearest_58 : decode cX12_dearest 58 = .ok (.iload 4, 2) := by decide +kernel
theorem dX12_dearest_60 : decode cX12_dearest 60 = .ok (.ishl, 1) := by decide +kernel
theorem dX12_dearest_61 : decode cX12_dearest 61 = .ok (.iconst (-1), 1) := by decide +kernel
theorem dX12_dearest_62 : decode cX12_dearest 62 = .ok (.ixor, 1) := by decide +kernel
theorem dX12_dearest_63 : decode cX12_dearest 63 = .ok (.iand, 1) := by decide +kernel
theorem dX12_dearest_64 : decode cX12_dearest 64 = .ok (.iastore, 1) := by decide +kernel
theorem dX12_dearest_65 : decode cX12_dearest 65 = .ok (.iinc 5 1, 3) := by decide +kernel
theorem dX12_dearest_68 : decode cX12_dearest 68 = .ok (.goto (-31), 3) := by decide +kernel
theorem dX12_dearest_71 : decode cX12_dearest 71 = .ok (.aload_n 0, 1) := by decide +kernel
theorem dX12_dearest_72 : decode cX12_dearest 72 = .ok (.invokevirtual 341, 3) := by decide +kernel
theorem dX12_dearest_75 : decode cX12_dearest 75 = .ok (.iload_n 2, 1) := by decide +kernel
theorem dX12_dearest_76 : decode cX12_dearest 76 = .ok (.iconst (-1), 1) := by decide +kernel
theorem dX12_dearest_77 : decode cX12_dearest 77 = .ok (.if_icmp .eq 11, 3) := by decide +kernel
theorem dX12_dearest_80 : decode cX12_dearest 80 = .ok (.aload_n 0, 1) := by decide +kernel
theorem dX12_dearest_81 : decode cX12_dearest 81 = .ok (.getfield 330, 3) := by decide +kernel
theorem dX12_dearest_84 : decode cX12_dearest 84 = .ok (.iload_n 3, 1) := by decide +kernel
theorem dX12_dearest_85 : decode cX12_dearest 85 = .ok (.if_icmp .ge 11, 3) := by decide +kernel
theorem dX12_dearest_88 : decode cX12_dearest 88 = .ok (.iload 4, 2) := by decide +kernel
theorem dX12_dearest_90 : decode cX12_dearest 90 = .ok (.istore_n 2, 1) := by decide +kernel
theorem dX12_dearest_91 : decode cX12_dearest 91 = .ok (.aload_n 0, 1) := by decide +kernel
theorem dX12_dearest_92 : decode cX12_dearest 92 = .ok (.getfield 330, 3) := by decide +kernel
theorem dX12_dearest_95 : decode cX12_dearest 95 = .ok (.istore_n 3, 1) := by decide +kernel
theorem dX12_dearest_96 : decode cX12_dearest 96 = .ok (.iinc 4 1, 3) := by decide +kernel
theorem dX12_dearest_99 : decode cX12_dearest 99 = .ok (.goto (-71), 3) := by decide +kernel
theorem dX12_dearest_102 : decode cX12_dearest 102 = .ok (.aload_n 0, 1) := by decide +kernel
theorem dX12_dearest_103 : decode cX12_dearest 103 = .ok (.invokevirtual 347, 3) := by decide +kernel
theorem dX12_dearest_106 : decode cX12_dearest 106 = .ok (.iload_n 1, 1) := by decide +kernel
theorem dX12_dearest_107 : decode cX12_dearest 107 = .ok (.ifCond .ne 7, 3) := by decide +kernel
theorem dX12_dearest_110 : decode cX12_dearest 110 = .ok (.iload_n 2, 1) := by decide +kernel
theorem dX12_dearest_111 : decode cX12_dearest 111 = .ok (.goto 4, 3) := by decide +kernel
theorem dX12_dearest_114 : decode cX12_dearest 114 = .ok (.iload_n 3, 1) := by decide +kernel
theorem dX12_dearest_115 : decode cX12_dearest 115 = .ok (.ireturn, 1) := by decide +kernel
theorem dX12_give_0 : decode cX12_give 0 = .ok (.aload_n 0, 1) := by decide +kernel
theorem dX12_give_1 : decode cX12_give 1 = .ok (.invokevirtual 311, 3) := by decide +kernel
theorem dX12_give_4 : decode cX12_give 4 = .ok (.aload_n 0, 1) := by decide +kernel
theorem dX12_give_5 : decode cX12_give 5 = .ok (.invokevirtual 341, 3) := by decide +kernel
theorem dX12_give_8 : decode cX12_give 8 = .ok (.aload_n 0, 1) := by decide +kernel
theorem dX12_give_9 : decode cX12_give 9 = .ok (.getfield 330, 3) := by decide +kernel
theorem dX12_give_12 : decode cX12_give 12 = .ok (.istore_n 1, 1) := by decide +kernel
theorem dX12_give_13 : decode cX12_give 13 = .ok (.iconst (-1), 1) := by decide +kernel
theorem dX12_give_14 : decode cX12_give 14 = .ok (.istore_n 2, 1) := by decide +kernel
theorem dX12_give_15 : decode cX12_give 15 = .ok (.iconst 0, 1) := by decide +kernel
theorem dX12_give_16 : decode cX12_give 16 = .ok (.istore_n 3, 1) := by decide +kernel
theorem dX12_give_17 : decode cX12_give 17 = .ok (.iload_n 3, 1) := by decide +kernel
theorem dX12_give_18 : decode cX12_give 18 = .ok (.aload_n 0, 1) := by decide +kernel
theorem dX12_give_19 : decode cX12_give 19 = .ok (.getfield 106, 3) := by decide +kernel
theorem dX12_give_22 : decode cX12_give 22 = .ok (.if_icmp .ge 110, 3) := by decide +kernel
theorem dX12_give_25 : decode cX12_give 25 = .ok (.aload_n 0, 1) := by decide +kernel
theorem dX12_give_26 : decode cX12_give 26 = .ok (.iload_n 3, 1) := by decide +kernel
theorem dX12_give_27 : decode cX12_give 27 = .ok (.putfield 59, 3) := by decide +kernel
theorem dX12_give_30 : decode cX12_give 30 = .ok (.aload_n 0, 1) := by decide +kernel
theorem dX12_give_31 : decode cX12_give 31 = .ok (.invokevirtual 341, 3) := by decide +kernel
theorem dX12_give_34 : decode cX12_give 34 = .ok (.aload_n 0, 1) := by decide +kernel
theorem dX12_give_35 : decode cX12_give 35 = .ok (.iconst (-1), 1) := by decide +kernel
theorem dX12_give_36 : decode cX12_give 36 = .ok (.putfield 59, 3) := by decide +kernel
theorem dX12_give_39 : decode cX12_give 39 = .ok (.aload_n 0, 1) := by decide +kernel
theorem dX12_give_40 : decode cX12_give 40 = .ok (.getfield 330, 3) := by decide +kernel
theorem dX12_give_43 : decode cX12_give 43 = .ok (.istore 4, 2) := by decide +kernel
theorem dX12_give_45 : decode cX12_give 45 = .ok (.iconst 0, 1) := by decide +kernel
theorem dX12_give_46 : decode cX12_give 46 = .ok (.istore 5, 2) := by decide +kernel
theorem dX12_give_48 : decode cX12_give 48 = .ok (.iload 5, 2) := by decide +kernel
theorem dX12_give_50 : decode cX12_give 50 = .ok (.bipush 7, 2) := by decide +kernel
theorem dX12_give_52 : decode cX12_give 52 = .ok (.if_icmp .ge 63, 3) := by decide +kernel
theorem dX12_give_55 : decode cX12_give 55 = .ok (.iload 4, 2) := by decide +kernel
theorem dX12_give_57 : decode cX12_give 57 = .ok (.aload_n 0, 1) := by decide +kernel
theorem dX12_give_58 : decode cX12_give 58 = .ok (.getfield 29, 3) := by decide +kernel
theorem dX12_give_61 : decode cX12_give 61 = .ok (.iload 5, 2) := by decide +kernel
theorem dX12_give_63 : decode cX12_give 63 = .ok (.iaload, 1) := by decide +kernel
theorem dX12_give_64 : decode cX12_give 64 = .ok (.aload_n 0, 1) := by decide +kernel
theorem dX12_give_65 : decode cX12_give 65 = .ok (.getfield 38, 3) := by decide +kernel
theorem dX12_give_68 : decode cX12_give 68 = .ok (.iload_n 3, 1) := by decide +kernel
theorem dX12_give_69 : decode cX12_give 69 = .ok (.iaload, 1) := by decide +kernel
theorem dX12_give_70 : decode cX12_give 70 = .ok (.ishr, 1) := by decide +kernel
theorem dX12_give_71 : decode cX12_give 71 = .ok (.iconst 1, 1) := by decide +kernel
theorem dX12_give_72 : decode cX12_give 72 = .ok (.iand, 1) := by decide +kernel
theorem dX12_give_73 : decode cX12_give 73 = .ok (.iconst 1, 1) := by decide +kernel
theorem dX12_give_74 : decode cX12_give 74 = .ok (.if_icmp .ne 31, 3) := by decide +kernel
theorem dX12_give_77 : decode cX12_give 77 = .ok (.aload_n 0, 1) := by decide +kernel
theorem dX12_give_78 : decode cX12_give 78 = .ok (.getfield 53, 3) := by decide +kernel
theorem dX12_give_81 : decode cX12_give 81 = .ok (.iconst 5, 1) := by decide +kernel
theorem dX12_give_82 : decode cX12_give 82 = .ok (.iload_n 3, 1) := by decide +kernel
theorem dX12_give_83 : decode cX12_give 83 = .ok (.imul, 1) := by decide +kernel
theorem dX12_give_84 : decode cX12_give 84 = .ok (.aload_n 0, 1) := by decide +kernel
theorem dX12_give_85 : decode cX12_give 85 = .ok (.getfield 29, 3) := by decide +kernel
theorem dX12_give_88 : decode cX12_give 88 = .ok (.iload 5, 2) := by decide +kernel
theorem dX12_give_90 : decode cX12_give 90 = .ok (.iaload, 1) := by decide +kernel
theorem dX12_give_91 : decode cX12_give 91 = .ok (.invokestatic 276, 3) := by decide +kernel
theorem dX12_give_94 : decode cX12_give 94 = .ok (.iadd, 1) := by decide +kernel
theorem dX12_give_95 : decode cX12_give 95 = .ok (.iaload, 1) := by decide +kernel
theorem dX12_give_96 : decode cX12_give 96 = .ok (.aload_n 0, 1) := by decide +kernel
theorem dX12_give_97 : decode cX12_give 97 = .ok (.iload_n 3, 1) := by decide +kernel
theorem dX12_give_98 : decode cX12_give 98 = .ok (.invokevirtual 270, 3) := by decide +kernel
theorem dX12_give_101 : decode cX12_give 101 = .ok (.imul, 1) := by decide +kernel
theorem dX12_give_102 : decode cX12_give 102 = .ok (.goto 4, 3) := by decide +kernel
theorem dX12_give_105 : decode cX12_give 105 = .ok (.iconst 0, 1) := by decide +kernel
theorem dX12_give_106 : decode cX12_give 106 = .ok (.iadd, 1) := by decide +kernel
theorem dX12_give_107 : decode cX12_give 107 = .ok (.istore 4, 2) := by decide +kernel
theorem dX12_give_109 : decode cX12_give 109 = .ok (.iinc 5 1, 3) := by decide +kernel
theorem dX12_give_112 : decode cX12_give 112 = .ok (.goto (-64), 3) := by decide +kernel
theorem dX12_give_115 : decode cX12_give 115 = .ok (.iload 4, 2) := by decide +kernel
theorem dX12_give_117 : decode cX12_give 117 = .ok (.iload_n 1, 1) := by decide +kernel
theorem dX12_give_118 : decode cX12_give 118 = .ok (.if_icmp .ge 8, 3) := by decide +kernel
theorem dX12_give_121 : decode cX12_give 121 = .ok (.iload_n 3, 1) := by decide +kernel
theorem dX12_give_122 : decode cX12_give 122 = .ok (.istore_n 2, 1) := by decide +kernel
theorem dX12_give_123 : decode cX12_give 123 = .ok (.iload 4, 2) := by decide +kernel
theorem dX12_give_125 : decode cX12_give 125 = .ok (.istore_n 1, 1) := by decide +kernel
theorem dX12_give_126 : decode cX12_give 126 = .ok (.iinc 3 1, 3) := by decide +kernel
theorem dX12_give_129 : decode cX12_give 129 = .ok (.goto (-112), 3) := by decide +kernel
theorem dX12_give_132 : decode cX12_give 132 = .ok (.iload_n 2, 1) := by decide +kernel
theorem dX12_give_133 : decode cX12_give 133 = .ok (.ireturn, 1) := by decide +kernel
theorem dX12_seat_0 : decode cX12_seat 0 = .ok (.iload_n 1, 1) := by decide +kernel
theorem dX12_seat_1 : decode cX12_seat 1 = .ok (.i2l, 1) := by decide +kernel
theorem dX12_seat_2 : decode cX12_seat 2 = .ok (.lconst 0, 1) := by decide +kernel
theorem dX12_seat_3 : decode cX12_seat 3 = .ok (.ldc2_w 117, 3) := by decide +kernel
theorem dX12_seat_6 : decode cX12_seat 6 = .ok (.invokestatic 109, 3) := by decide +kernel
theorem dX12_seat_9 : decode cX12_seat 9 = .ok (.ifCond .eq 15, 3) := by decide +kernel
theorem dX12_seat_12 : decode cX12_seat 12 = .ok (.iload_n 2, 1) := by decide +kernel
theorem dX12_seat_13 : decode cX12_seat 13 = .ok (.i2l, 1) := by decide +kernel
theorem dX12_seat_14 : decode cX12_seat 14 = .ok (.lconst 0, 1) := by decide +kernel
theorem dX12_seat_15 : decode cX12_seat 15 = .ok (.ldc2_w 350, 3) := by decide +kernel
theorem dX12_seat_18 : decode cX12_seat 18 = .ok (.invokestatic 109, 3) := by decide +kernel
theorem dX12_seat_21 : decode cX12_seat 21 = .ok (.ifCond .ne 6, 3) := by decide +kernel
theorem dX12_seat_24 : decode cX12_seat 24 = .ok (.bipush (-2), 2) := by decide +kernel
theorem dX12_seat_26 : decode cX12_seat 26 = .ok (.ireturn, 1) := by decide +kernel
theorem dX12_seat_27 : decode cX12_seat 27 = .ok (.aload_n 0, 1) := by decide +kernel
theorem dX12_seat_28 : decode cX12_seat 28 = .ok (.invokevirtual 311, 3) := by decide +kernel
theorem dX12_seat_31 : decode cX12_seat 31 = .ok (.aload_n 0, 1) := by decide +kernel
theorem dX12_seat_32 : decode cX12_seat 32 = .ok (.getfield 26, 3) := by decide +kernel
theorem dX12_seat_35 : decode cX12_seat 35 = .ok (.iload_n 1, 1) := by decide +kernel
theorem dX12_seat_36 : decode cX12_seat 36 = .ok (.iaload, 1) := by decide +kernel
theorem dX12_seat_37 : decode cX12_seat 37 = .ok (.istore_n 3, 1) := by decide +kernel
theorem dX12_seat_38 : decode cX12_seat 38 = .ok (.iconst (-1), 1) := by decide +kernel
theorem dX12_seat_39 : decode cX12_seat 39 = .ok (.istore 4, 2) := by decide +kernel
theorem dX12_seat_41 : decode cX12_seat 41 = .ok (.iconst 0, 1) := by decide +kernel
theorem dX12_seat_42 : decode cX12_seat 42 = .ok (.istore 5, 2) := by decide +kernel
theorem dX12_seat_44 : decode cX12_seat 44 = .ok (.iconst 0, 1) := by decide +kernel
theorem dX12_seat_45 : decode cX12_seat 45 = .ok (.istore 6, 2) := by decide +kernel
theorem dX12_seat_47 : decode cX12_seat 47 = .ok (.iload 6, 2) := by decide +kernel
theorem dX12_seat_49 : decode cX12_seat 49 = .ok (.iconst 4, 1) := by decide +kernel
theorem dX12_seat_50 : decode cX12_seat 50 = .ok (.if_icmp .ge 50, 3) := by decide +kernel
theorem dX12_seat_53 : decode cX12_seat 53 = .ok (.aload_n 0, 1) := by decide +kernel
theorem dX12_seat_54 : decode cX12_seat 54 = .ok (.getfield 26, 3) := by decide +kernel
theorem dX12_seat_57 : decode cX12_seat 57 = .ok (.iload_n 1, 1) := by decide +kernel
theorem dX12_seat_58 : decode cX12_seat 58 = .ok (.iload 6, 2) := by decide +kernel
theorem dX12_seat_60 : decode cX12_seat 60 = .ok (.iastore, 1) := by decide +kernel
theorem dX12_seat_61 : decode cX12_seat 61 = .ok (.aload_n 0, 1) := by decide +kernel
theorem dX12_seat_62 : decode cX12_seat 62 = .ok (.aload_n 0, 1) := by decide +kernel
theorem dX12_seat_63 : decode cX12_seat 63 = .ok (.getfield 29, 3) := by decide +kernel
theorem dX12_seat_66 : decode cX12_seat 66 = .ok (.iload_n 2, 1) := by decide +kernel
theorem dX12_seat_67 : decode cX12_seat 67 = .ok (.iaload, 1) := by decide +kernel
theorem dX12_seat_68 : decode cX12_seat 68 = .ok (.invokevirtual 314, 3) := by decide +kernel
theorem dX12_seat_71 : decode cX12_seat 71 = .ok (.istore 7, 2) := by decide +kernel
theorem dX12_seat_73 : decode cX12_seat 73 = .ok (.iload 4, 2) := by decide +kernel
theorem dX12_seat_75 : decode cX12_seat 75 = .ok (.iconst (-1), 1) := by decide +kernel
theorem dX12_seat_76 : decode cX12_seat 76 = .ok (.if_icmp .eq 10, 3) := by decide +kernel
theorem dX12_seat_79 : decode cX12_seat 79 = .ok (.iload 7, 2) := by decide +kernel
theorem dX12_seat_81 : decode cX12_seat 81 = .ok (.iload 5, 2) := by decide +kernel
theorem dX12_seat_83 : decode cX12_seat 83 = .ok (.if_icmp .ge 11, 3) := by decide +kernel
theorem dX12_seat_86 : decode cX12_seat 86 = .ok (.iload 6, 2) := by decide +kernel
theorem dX12_seat_88 : decode cX12_seat 88 = .ok (.istore 4, 2) := by decide +kernel
theorem dX12_seat_90 : decode cX12_seat 90 = .ok (.iload 7, 2) := by decide +kernel
theorem dX12_seat_92 : decode cX12_seat 92 = .ok (.istore 5, 2) := by decide +kernel
theorem dX12_seat_94 : decode cX12_seat 94 = .ok (.iinc 6 1, 3) := by decide +kernel
theorem dX12_seat_97 : decode cX12_seat 97 = .ok (.goto (-50), 3) := by decide +kernel
theorem dX12_seat_100 : decode cX12_seat 100 = .ok (.aload_n 0, 1) := by decide +kernel
theorem dX12_seat_101 : decode cX12_seat 101 = .ok (.getfield 26, 3) := by decide +kernel
theorem dX12_seat_104 : decode cX12_seat 104 = .ok (.iload_n 1, 1) := by decide +kernel
theorem dX12_seat_105 : decode cX12_seat 105 = .ok (.iload_n 3, 1) := by decide +kernel
theorem dX12_seat_106 : decode cX12_seat 106 = .ok (.iastore, 1) := by decide +kernel
theorem dX12_seat_107 : decode cX12_seat 107 = .ok (.iload 4, 2) := by decide +kernel
theorem dX12_seat_109 : decode cX12_seat 109 = .ok (.ireturn, 1) := by decide +kernel
theorem dX12_isRoom_0 : decode cX12_isRoom 0 = .ok (.iconst 0, 1) := by decide +kernel
theorem dX12_isRoom_1 : decode cX12_isRoom 1 = .ok (.istore_n 2, 1) := by decide +kernel
theorem dX12_isRoom_2 : decode cX12_isRoom 2 = .ok (.iconst 0, 1) := by decide +kernel
theorem dX12_isRoom_3 : decode cX12_isRoom 3 = .ok (.istore_n 3, 1) := by decide +kernel
theorem dX12_isRoom_4 : decode cX12_isRoom 4 = .ok (.iload_n 3, 1) := by decide +kernel
theorem dX12_isRoom_5 : decode cX12_isRoom 5 = .ok (.aload_n 0, 1) := by decide +kernel
