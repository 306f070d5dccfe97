theorem dX11_init_0 : decode cX11_init 0 = .ok (.aload_n 0, 1) := by decide +kernel
theorem dX11_init_1 : decode cX11_init 1 = .ok (.invokespecial 1, 3) := by decide +kernel
theorem dX11_init_4 : decode cX11_init 4 = .ok (.aload_n 0, 1) := by decide +kernel
theorem dX11_init_5 : decode cX11_init 5 = .ok (.new 7, 3) := by decide +kernel
theorem dX11_init_8 : decode cX11_init 8 = .ok (.dup, 1) := by decide +kernel
theorem dX11_init_9 : decode cX11_init 9 = .ok (.invokespecial 9, 3) := by decide +kernel
theorem dX11_init_12 : decode cX11_init 12 = .ok (.putfield 10, 3) := by decide +kernel
theorem dX11_init_15 : decode cX11_init 15 = .ok (.aload_n 0, 1) := by decide +kernel
theorem dX11_init_16 : decode cX11_init 16 = .ok (.aconst_null, 1) := by decide +kernel
theorem dX11_init_17 : decode cX11_init 17 = .ok (.putfield 16, 3) := by decide +kernel
theorem dX11_init_20 : decode cX11_init 20 = .ok (.aload_n 0, 1) := by decide +kernel
theorem dX11_init_21 : decode cX11_init 21 = .ok (.sipush 160, 3) := by decide +kernel
theorem dX11_init_24 : decode cX11_init 24 = .ok (.newarray .int, 2) := by decide +kernel
theorem dX11_init_26 : decode cX11_init 26 = .ok (.putfield 19, 3) := by decide +kernel
theorem dX11_init_29 : decode cX11_init 29 = .ok (.aload_n 0, 1) := by decide +kernel
theorem dX11_init_30 : decode cX11_init 30 = .ok (.iconst 0, 1) := by decide +kernel
theorem dX11_init_31 : decode cX11_init 31 = .ok (.putfield 23, 3) := by decide +kernel
theorem dX11_init_34 : decode cX11_init 34 = .ok (.aload_n 0, 1) := by decide +kernel
theorem dX11_init_35 : decode cX11_init 35 = .ok (.new 27, 3) := by decide +kernel
theorem dX11_init_38 : decode cX11_init 38 = .ok (.dup, 1) := by decide +kernel
theorem dX11_init_39 : decode cX11_init 39 = .ok (.invokespecial 29, 3) := by decide +kernel
theorem dX11_init_42 : decode cX11_init 42 = .ok (.putfield 30, 3) := by decide +kernel
theorem dX11_init_45 : decode cX11_init 45 = .ok (.aload_n 0, 1) := by decide +kernel
theorem dX11_init_46 : decode cX11_init 46 = .ok (.bipush 6, 2) := by decide +kernel
theorem dX11_init_48 : decode cX11_init 48 = .ok (.anewarray 34, 3) := by decide +kernel
theorem dX11_init_51 : decode cX11_init 51 = .ok (.putfield 36, 3) := by decide +kernel
theorem dX11_init_54 : decode cX11_init 54 = .ok (.aload_n 0, 1) := by decide +kernel
theorem dX11_init_55 : decode cX11_init 55 = .ok (.iconst 0, 1) := by decide +kernel
theorem dX11_init_56 : decode cX11_init 56 = .ok (.putfield 40, 3) := by decide +kernel
theorem dX11_init_59 : decode cX11_init 59 = .ok (.aload_n 0, 1) := by decide +kernel
theorem dX11_init_60 : decode cX11_init 60 = .ok (.iconst 4, 1) := by decide +kernel
theorem dX11_init_61 : decode cX11_init 61 = .ok (.anewarray 43, 3) := by decide +kernel
theorem dX11_init_64 : decode cX11_init 64 = .ok (.putfield 45, 3) := by decide +kernel
theorem dX11_init_67 : decode cX11_init 67 = .ok (.aload_n 0, 1) := by decide +kernel
theorem dX11_init_68 : decode cX11_init 68 = .ok (.new 49, 3) := by decide +kernel
theorem dX11_init_71 : decode cX11_init 71 = .ok (.dup, 1) := by decide +kernel
theorem dX11_init_72 : decode cX11_init 72 = .ok (.invokespecial 51, 3) := by decide +kernel
theorem dX11_init_75 : decode cX11_init 75 = .ok (.putfield 52, 3) := by decide +kernel
theorem dX11_init_78 : decode cX11_init 78 = .ok (.iconst 0, 1) := by decide +kernel
theorem dX11_init_79 : decode cX11_init 79 = .ok (.istore_n 1, 1) := by decide +kernel
theorem dX11_init_80 : decode cX11_init 80 = .ok (.iload_n 1, 1) := by decide +kernel
theorem dX11_init_81 : decode cX11_init 81 = .ok (.iconst 4, 1) := by decide +kernel
theorem dX11_init_82 : decode cX11_init 82 = .ok (.if_icmp .ge 22, 3) := by decide +kernel
theorem dX11_init_85 : decode cX11_init 85 = .ok (.aload_n 0, 1) := by decide +kernel
theorem dX11_init_86 : decode cX11_init 86 = .ok (.getfield 45, 3) := by decide +kernel
theorem dX11_init_89 : decode cX11_init 89 = .ok (.iload_n 1, 1) := by decide +kernel
theorem dX11_init_90 : decode cX11_init 90 = .ok (.new 43, 3) := by decide +kernel
theorem dX11_init_93 : decode cX11_init 93 = .ok (.dup, 1) := by decide +kernel
theorem dX11_init_94 : decode cX11_init 94 = .ok (.invokespecial 56, 3) := by decide +kernel
theorem dX11_init_97 : decode cX11_init 97 = .ok (.aastore, 1) := by decide +kernel
theorem dX11_init_98 : decode cX11_init 98 = .ok (.iinc 1 1, 3) := by decide +kernel
theorem dX11_init_101 : decode cX11_init 101 = .ok (.goto (-21), 3) := by decide +kernel
theorem dX11_init_104 : decode cX11_init 104 = .ok (.iconst 0, 1) := by decide +kernel
theorem dX11_init_105 : decode cX11_init 105 = .ok (.istore_n 1, 1) := by decide +kernel
theorem dX11_init_106 : decode cX11_init 106 = .ok (.iload_n 1, 1) := by decide +kernel
theorem dX11_init_107 : decode cX11_init 107 = .ok (.ldc 57, 2) := by decide +kernel
theorem dX11_init_109 : decode cX11_init 109 = .ok (.invokevirtual 59, 3) := by decide +kernel
theorem dX11_init_112 : decode cX11_init 112 = .ok (.if_icmp .ge 21, 3) := by decide +kernel
theorem dX11_init_115 : decode cX11_init 115 = .ok (.aload_n 0, 1) := by decide +kernel
theorem dX11_init_116 : decode cX11_init 116 = .ok (.getfield 19, 3) := by decide +kernel
theorem dX11_init_119 : decode cX11_init 119 = .ok (.iload_n 1, 1) := by decide +kernel
theorem dX11_init_120 : decode cX11_init 120 = .ok (.ldc 57, 2) := by decide +kernel
theorem dX11_init_122 : decode cX11_init 122 = .ok (.iload_n 1, 1) := by decide +kernel
theorem dX11_init_123 : decode cX11_init 123 = .ok (.invokevirtual 65, 3) := by decide +kernel
theorem dX11_init_126 : decode cX11_init 126 = .ok (.iastore, 1) := by decide +kernel
theorem dX11_init_127 : decode cX11_init 127 = .ok (.iinc 1 1, 3) := by decide +kernel
theorem dX11_init_130 : decode cX11_init 130 = .ok (.goto (-24), 3) := by decide +kernel
theorem dX11_init_133 : decode cX11_init 133 = .ok (.aload_n 0, 1) := by decide +kernel
theorem dX11_init_134 : decode cX11_init 134 = .ok (.getfield 30, 3) := by decide +kernel
theorem dX11_init_137 : decode cX11_init 137 = .ok (.aload_n 0, 1) := by decide +kernel
theorem dX11_init_138 : decode cX11_init 138 = .ok (.getfield 19, 3) := by decide +kernel
theorem dX11_init_141 : decode cX11_init 141 = .ok (.ldc 57, 2) := by decide +kernel
theorem dX11_init_143 : decode cX11_init 143 = .ok (.invokevirtual 59, 3) := by decide +kernel
theorem dX11_init_146 : decode cX11_init 146 = .ok (.invokevirtual 69, 3) := by decide +kernel
theorem dX11_init_149 : decode cX11_init 149 = .ok (.pop, 1) := by decide +kernel
theorem dX11_init_150 : decode cX11_init 150 = .ok (.aload_n 0, 1) := by decide +kernel
theorem dX11_init_151 : decode cX11_init 151 = .ok (.getfield 36, 3) := by decide +kernel
theorem dX11_init_154 : decode cX11_init 154 = .ok (.iconst 0, 1) := by decide +kernel
theorem dX11_init_155 : decode cX11_init 155 = .ok (.aload_n 0, 1) := by decide +kernel
theorem dX11_init_156 : decode cX11_init 156 = .ok (.getfield 30, 3) := by decide +kernel
theorem dX11_init_159 : decode cX11_init 159 = .ok (.invokevirtual 73, 3) := by decide +kernel
theorem dX11_init_162 : decode cX11_init 162 = .ok (.aastore, 1) := by decide +kernel
theorem dX11_init_163 : decode cX11_init 163 = .ok (.aload_n 0, 1) := by decide +kernel
theorem dX11_init_164 : decode cX11_init 164 = .ok (.iconst 1, 1) := by decide +kernel
theorem dX11_init_165 : decode cX11_init 165 = .ok (.putfield 40, 3) := by decide +kernel
theorem dX11_init_168 : decode cX11_init 168 = .ok (.return_, 1) := by decide +kernel
theorem dX11_set_0 : decode cX11_set 0 = .ok (.iload_n 1, 1) := by decide +kernel
theorem dX11_set_1 : decode cX11_set 1 = .ok (.tableswitch 114 0 5 #[39, 54, 68, 83, 83, 83], 39) := by decide +kernel
theorem dX11_set_40 : decode cX11_set 40 = .ok (.aload_n 0, 1) := by decide +kernel
theorem dX11_set_41 : decode cX11_set 41 = .ok (.getfield 10, 3) := by decide +kernel
theorem dX11_set_44 : decode cX11_set 44 = .ok (.getfield 77, 3) := by decide +kernel
theorem dX11_set_47 : decode cX11_set 47 = .ok (.iload_n 2, 1) := by decide +kernel
theorem dX11_set_48 : decode cX11_set 48 = .ok (.iload_n 3, 1) := by decide +kernel
theorem dX11_set_49 : decode cX11_set 49 = .ok (.bipush 16, 2) := by decide +kernel
theorem dX11_set_51 : decode cX11_set 51 = .ok (.invokestatic 80, 3) := by decide +kernel
theorem dX11_set_54 : decode cX11_set 54 = .ok (.ireturn, 1) := by decide +kernel
theorem dX11_set_55 : decode cX11_set 55 = .ok (.aload_n 0, 1) := by decide +kernel
theorem dX11_set_56 : decode cX11_set 56 = .ok (.getfield 10, 3) := by decide +kernel
theorem dX11_set_59 : decode cX11_set 59 = .ok (.getfield 84, 3) := by decide +kernel
theorem dX11_set_62 : decode cX11_set 62 = .ok (.iload_n 2, 1) := by decide +kernel
theorem dX11_set_63 : decode cX11_set 63 = .ok (.iload_n 3, 1) := by decide +kernel
theorem dX11_set_64 : decode cX11_set 64 = .ok (.iconst 4, 1) := by decide +kernel
theorem dX11_set_65 : decode cX11_set 65 = .ok (.invokestatic 80, 3) := by decide +kernel
theorem dX11_set_68 : decode cX11_set 68 = .ok (.ireturn, 1) := by decide +kernel
theorem dX11_set_69 : decode cX11_set 69 = .ok (.aload_n 0, 1) := by decide +kernel
theorem dX11_set_70 : decode cX11_set 70 = .ok (.getfield 10, 3) := by decide +kernel
theorem dX11_set_73 : decode cX11_set 73 = .ok (.getfield 87, 3) := by decide +kernel
theorem dX11_set_76 : decode cX11_set 76 = .ok (.iload_n 2, 1) := by decide +kernel
theorem dX11_set_77 : decode cX11_set 77 = .ok (.iload_n 3, 1) := by decide +kernel
theorem dX11_set_78 : decode cX11_set 78 = .ok (.bipush 16, 2) := by decide +kernel
theorem dX11_set_80 : decode cX11_set 80 = .ok (.invokestatic 80, 3) := by decide +kernel
theorem dX11_set_83 : decode cX11_set 83 = .ok (.ireturn, 1) := by decide +kernel
theorem dX11_set_84 : decode cX11_set 84 = .ok (.aload_n 0, 1) := by decide +kernel
theorem dX11_set_85 : decode cX11_set 85 = .ok (.getfield 10, 3) := by decide +kernel
theorem dX11_set_88 : decode cX11_set 88 = .ok (.iload_n 2, 1) := by decide +kernel
theorem dX11_set_89 : decode cX11_set 89 = .ok (.invokevirtual 90, 3) := by decide +kernel
theorem dX11_set_92 : decode cX11_set 92 = .ok (.ifCond .eq 20, 3) := by decide +kernel
theorem dX11_set_95 : decode cX11_set 95 = .ok (.aload_n 0, 1) := by decide +kernel
theorem dX11_set_96 : decode cX11_set 96 = .ok (.getfield 10, 3) := by decide +kernel
theorem dX11_set_99 : decode cX11_set 99 = .ok (.getfield 94, 3) := by decide +kernel
theorem dX11_set_102 : decode cX11_set 102 = .ok (.iload_n 2, 1) := by decide +kernel
theorem dX11_set_103 : decode cX11_set 103 = .ok (.aaload, 1) := by decide +kernel
theorem dX11_set_104 : decode cX11_set 104 = .ok (.iload_n 1, 1) := by decide +kernel
theorem dX11_set_105 : decode cX11_set 105 = .ok (.iload_n 3, 1) := by decide +kernel
theorem dX11_set_106 : decode cX11_set 106 = .ok (.invokevirtual 98, 3) := by decide +kernel
theorem dX11_set_109 : decode cX11_set 109 = .ok (.goto 5, 3) := by decide +kernel
theorem dX11_set_112 : decode cX11_set 112 = .ok (.bipush (-2), 2) := by decide +kernel
theorem dX11_set_114 : decode cX11_set 114 = .ok (.ireturn, 1) := by decide +kernel
theorem dX11_set_115 : decode cX11_set 115 = .ok (.bipush (-2), 2) := by decide +kernel
theorem dX11_set_117 : decode cX11_set 117 = .ok (.ireturn, 1) := by decide +kernel
theorem dX11_thing_0 : decode cX11_thing 0 = .ok (.iload_n 1, 1) := by decide +kernel
theorem dX11_thing_1 : decode cX11_thing 1 = .ok (.bipush 6, 2) := by decide +kernel
theorem dX11_thing_3 : decode cX11_thing 3 = .ok (.invokestatic 104, 3) := by decide +kernel
theorem dX11_thing_6 : decode cX11_thing 6 = .ok (.ifCond .eq 20, 3) := by decide +kernel
theorem dX11_thing_9 : decode cX11_thing 9 = .ok (.iload_n 2, 1) := by decide +kernel
theorem dX11_thing_10 : decode cX11_thing 10 = .ok (.bipush 100, 2) := by decide +kernel
theorem dX11_thing_12 : decode cX11_thing 12 = .ok (.invokestatic 104, 3) := by decide +kernel
theorem dX11_thing_15 : decode cX11_thing 15 = .ok (.ifCond .eq 11, 3) := by decide +kernel
theorem dX11_thing_18 : decode cX11_thing 18 = .ok (.iload_n 3, 1) := by decide +kernel
theorem dX11_thing_19 : decode cX11_thing 19 = .ok (.iconst 4, 1) := by decide +kernel
theorem dX11_thing_20 : decode cX11_thing 20 = .ok (.invokestatic 104, 3) := by decide +kernel
theorem dX11_thing_23 : decode cX11_thing 23 = .ok (.ifCond .ne 6, 3) := by decide +kernel
theorem dX11_thing_26 : decode cX11_thing 26 = .ok (.bipush (-2), 2) := by decide +kernel
theorem dX11_thing_28 : decode cX11_thing 28 = .ok (.ireturn, 1) := by decide +kernel
theorem dX11_thing_29 : decode cX11_thing 29 = .ok (.aload_n 0, 1) := by decide +kernel
theorem dX11_thing_30 : decode cX11_thing 30 = .ok (.getfield 10, 3) := by decide +kernel
theorem dX11_thing_33 : decode cX11_thing 33 = .ok (.getfield 108, 3) := by decide +kernel
theorem dX11_thing_36 : decode cX11_thing 36 = .ok (.iconst 5, 1) := by decide +kernel
theorem dX11_thing_37 : decode cX11_thing 37 = .ok (.if_icmp .lt 6, 3) := by decide +kernel
theorem dX11_thing_40 : decode cX11_thing 40 = .ok (.bipush (-4), 2) := by decide +kernel
theorem dX11_thing_42 : decode cX11_thing 42 = .ok (.ireturn, 1) := by decide +kernel
theorem dX11_thing_43 : decode cX11_thing 43 = .ok (.aload_n 0, 1) := by decide +kernel
theorem dX11_thing_44 : decode cX11_thing 44 = .ok (.getfield 10, 3) := by decide +kernel
theorem dX11_thing_47 : decode cX11_thing 47 = .ok (.getfield 108, 3) := by decide +kernel
theorem dX11_thing_50 : decode cX11_thing 50 = .ok (.istore 4, 2) := by decide +kernel
theorem dX11_thing_52 : decode cX11_thing 52 = .ok (.aload_n 0, 1) := by decide +kernel
theorem dX11_thing_53 : decode cX11_thing 53 = .ok (.getfield 10, 3) := by decide +kernel
theorem dX11_thing_56 : decode cX11_thing 56 = .ok (.getfield 94, 3) := by decide +kernel
theorem dX11_thing_59 : decode cX11_thing 59 = .ok (.iload 4, 2) := by decide +kernel
theorem dX11_thing_61 : decode cX11_thing 61 = .ok (.iload_n 1, 1) := by decide +kernel
theorem dX11_thing_62 : decode cX11_thing 62 = .ok (.iload 4, 2) := by decide +kernel
theorem dX11_thing_64 : decode cX11_thing 64 = .ok (.iload_n 2, 1) := by decide +kernel
theorem dX11_thing_65 : decode cX11_thing 65 = .ok (.iload_n 3, 1) := by decide +kernel
theorem dX11_thing_66 : decode cX11_thing 66 = .ok (.invokestatic 111, 3) := by decide +kernel
theorem dX11_thing_69 : decode cX11_thing 69 = .ok (.aastore, 1) := by decide +kernel
theorem dX11_thing_70 : decode cX11_thing 70 = .ok (.aload_n 0, 1) := by decide +kernel
theorem dX11_thing_71 : decode cX11_thing 71 = .ok (.getfield 10, 3) := by decide +kernel
theorem dX11_thing_74 : decode cX11_thing 74 = .ok (.iload 4, 2) := by decide +kernel
theorem dX11_thing_76 : decode cX11_thing 76 = .ok (.iconst 1, 1) := by decide +kernel
theorem dX11_thing_77 : decode cX11_thing 77 = .ok (.iadd, 1) := by decide +kernel
theorem dX11_thing_78 : decode cX11_thing 78 = .ok (.putfield 108, 3) := by decide +kernel
theorem dX11_thing_81 : decode cX11_thing 81 = .ok (.iload 4, 2) := by decide +kernel
theorem dX11_thing_83 : decode cX11_thing 83 = .ok (.ireturn, 1) := by decide +kernel
theorem dX11_put_0 : decode cX11_put 0 = .ok (.aload_n 0, 1) := by decide +kernel
theorem dX11_put_1 : decode cX11_put 1 = .ok (.getfield 10, 3) := by decide +kernel
theorem dX11_put_4 : decode cX11_put 4 = .ok (.iload_n 1, 1) := by decide +kernel
theorem dX11_put_5 : decode cX11_put 5 = .ok (.invokevirtual 90, 3) := by decide +kernel
theorem dX11_put_8 : decode cX11_put 8 = .ok (.ifCond .eq 17, 3) := by decide +kernel
theorem dX11_put_11 : decode cX11_put 11 = .ok (.iload_n 2, 1) := by decide +kernel
theorem dX11_put_12 : decode cX11_put 12 = .ok (.iconst (-1), 1) := by decide +kernel
theorem dX11_put_13 : decode cX11_put 13 = .ok (.if_icmp .eq 15, 3) := by decide +kernel
theorem dX11_put_16 : decode cX11_put 16 = .ok (.iload_n 2, 1) := by decide +kernel
theorem dX11_put_17 : decode cX11_put 17 = .ok (.bipush 6, 2) := by decide +kernel
theorem dX11_put_19 : decode cX11_put 19 = .ok (.invokestatic 104, 3) := by decide +kernel
theorem dX11_put_22 : decode cX11_put 22 = .ok (.ifCond .ne 6, 3) := by decide +kernel
theorem dX11_put_25 : decode cX11_put 25 = .ok (.bipush (-2), 2) := by decide +kernel
theorem dX11_put_27 : decode cX11_put 27 = .ok (.ireturn, 1) := by decide +kernel
theorem dX11_put_28 : decode cX11_put 28 = .ok (.aload_n 0, 1) := by decide +kernel
theorem dX11_put_29 : decode cX11_put 29 = .ok (.getfield 10, 3) := by decide +kernel
theorem dX11_put_32 : decode cX11_put 32 = .ok (.getfield 94, 3) := by decide +kernel
theorem dX11_put_35 : decode cX11_put 35 = .ok (.iload_n 1, 1) := by decide +kernel
theorem dX11_put_36 : decode cX11_put 36 = .ok (.aaload, 1) := by decide +kernel
theorem dX11_put_37 : decode cX11_put 37 = .ok (.astore_n 3, 1) := by decide +kernel
theorem dX11_put_38 : decode cX11_put 38 = .ok (.aload_n 3, 1) := by decide +kernel
theorem dX11_put_39 : decode cX11_put 39 = .ok (.getfield 114, 3) := by decide +kernel
theorem dX11_put_42 : decode cX11_put 42 = .ok (.iload_n 2, 1) := by decide +kernel
theorem dX11_put_43 : decode cX11_put 43 = .ok (.if_icmp .ne 5, 3) := by decide +kernel
theorem dX11_put_46 : decode cX11_put 46 = .ok (.iconst 0, 1) := by decide +kernel
theorem dX11_put_47 : decode cX11_put 47 = .ok (.ireturn, 1) := by decide +kernel
theorem dX11_put_48 : decode cX11_put 48 = .ok (.iload_n 2, 1) := by decide +kernel
theorem dX11_put_49 : decode cX11_put 49 = .ok (.iconst (-1), 1) := by decide +kernel
theorem dX11_put_50 : decode cX11_put 50 = .ok (.if_icmp .eq 25, 3) := by decide +kernel
theorem dX11_put_53 : decode cX11_put 53 = .ok (.aload_n 3, 1) := by decide +kernel
theorem dX11_put_54 : decode cX11_put 54 = .ok (.iload_n 2, 1) := by decide +kernel
theorem dX11_put_55 : decode cX11_put 55 = .ok (.invokevirtual 117, 3) := by decide +kernel
theorem dX11_put_58 : decode cX11_put 58 = .ok (.ifCond .eq 14, 3) := by decide +kernel
theorem dX11_put_61 : decode cX11_put 61 = .ok (.aload_n 0, 1) := by decide +kernel
theorem dX11_put_62 : decode cX11_put 62 = .ok (.getfield 10, 3) := by decide +kernel
theorem dX11_put_65 : decode cX11_put 65 = .ok (.iload_n 2, 1) := by decide +kernel
theorem dX11_put_66 : decode cX11_put 66 = .ok (.invokevirtual 120, 3) := by decide +kernel
theorem dX11_put_69 : decode cX11_put 69 = .ok (.ifCond .eq 6, 3) := by decide +kernel
theorem dX11_put_72 : decode cX11_put 72 = .ok (.bipush (-3), 2) := by decide +kernel
theorem dX11_put_74 : decode cX11_put 74 = .ok (.ireturn, 1) := by decide +kernel
theorem dX11_put_75 : decode cX11_put 75 = .ok (.aload_n 3, 1) := by decide +kernel
theorem dX11_put_76 : decode cX11_put 76 = .ok (.iload_n 2, 1) := by decide +kernel
theorem dX11_put_77 : decode cX11_put 77 = .ok (.putfield 114, 3) := by decide +kernel
theorem dX11_put_80 : decode cX11_put 80 = .ok (.aload_n 3, 1) := by decide +kernel
theorem dX11_put_81 : decode cX11_put 81 = .ok (.aload_n 0, 1) := by decide +kernel
theorem dX11_put_82 : decode cX11_put 82 = .ok (.invokevirtual 123, 3) := by decide +kernel
theorem dX11_put_85 : decode cX11_put 85 = .ok (.iload_n 2, 1) := by decide +kernel
theorem dX11_put_86 : decode cX11_put 86 = .ok (.iconst 1, 1) := by decide +kernel
theorem dX11_put_87 : decode cX11_put 87 = .ok (.iadd, 1) := by decide +kernel
theorem dX11_put_88 : decode cX11_put 88 = .ok (.invokevirtual 126, 3) := by decide +kernel
theorem dX11_put_91 : decode cX11_put 91 = .ok (.ireturn, 1) := by decide +kernel
theorem dX11_told_0 : decode cX11_told 0 = .ok (.aload_n 0, 1) := by decide +kernel
theorem dX11_told_1 : decode cX11_told 1 = .ok (.getfield 10, 3) := by decide +kernel
theorem dX11_told_4 : decode cX11_told 4 = .ok (.iload_n 1, 1) := by decide +kernel
theorem dX11_told_5 : decode cX11_told 5 = .ok (.invokevirtual 90, 3) := by decide +kernel
theorem dX11_told_8 : decode cX11_told 8 = .ok (.ifCond .ne 6, 3) := by decide +kernel
theorem dX11_told_11 : decode cX11_told 11 = .ok (.bipush (-100), 2) := by decide +kernel
theorem dX11_told_13 : decode cX11_told 13 = .ok (.ireturn, 1) := by decide +kernel
theorem dX11_told_14 : decode cX11_told 14 = .ok (.aload_n 0, 1) := by decide +kernel
theorem dX11_told_15 : decode cX11_told 15 = .ok (.getfield 10, 3) := by decide +kernel
theorem dX11_told_18 : decode cX11_told 18 = .ok (.getfield 94, 3) := by decide +kernel
theorem dX11_told_21 : decode cX11_told 21 = .ok (.iload_n 1, 1) := by decide +kernel
theorem dX11_told_22 : decode cX11_told 22 = .ok (.aaload, 1) := by decide +kernel
theorem dX11_told_23 : decode cX11_told 23 = .ok (.astore_n 3, 1) := by decide +kernel
theorem dX11_told_24 : decode cX11_told 24 = .ok (.iload_n 2, 1) := by decide +kernel
theorem dX11_told_25 : decode cX11_told 25 = .ok (.tableswitch 103 0 5 #[39, 44, 49, 54, 59, 64], 39) := by decide +kernel
theorem dX11_told_64 : decode cX11_told 64 = .ok (.aload_n 3, 1) := by decide +kernel
theorem dX11_told_65 : decode cX11_told 65 = .ok (.getfield 130, 3) := by decide +kernel
theorem dX11_told_68 : decode cX11_told 68 = .ok (.ireturn, 1) := by decide +kernel
theorem dX11_told_69 : decode cX11_told 69 = .ok (.aload_n 3, 1) := by decide +kernel
theorem dX11_told_70 : decode cX11_told 70 = .ok (.getfield 133, 3) := by decide +kernel
theorem dX11_told_73 : decode cX11_told 73 = .ok (.ireturn, 1) := by decide +kernel
theorem dX11_told_74 : decode cX11_told 74 = .ok (.aload_n 3, 1) := by decide +kernel
theorem dX11_told_75 : decode cX11_told 75 = .ok (.getfield 136, 3) := by decide +kernel
theorem dX11_told_78 : decode cX11_told 78 = .ok (.ireturn, 1) := by decide +kernel
theorem dX11_told_79 : decode cX11_told 79 = .ok (.aload_n 3, 1) := by decide +kernel
theorem dX11_told_80 : decode cX11_told 80 = .ok (.getfield 139, 3) := by decide +kernel
theorem dX11_told_83 : decode cX11_told 83 = .ok (.ireturn, 1) := by decide +kernel
theorem dX11_told_84 : decode cX11_told 84 = .ok (.aload_n 3, 1) := by decide +kernel
theorem dX11_told_85 : decode cX11_told 85 = .ok (.getfield 114, 3) := by decide +kernel
theorem dX11_told_88 : decode cX11_told 88 = .ok (.ireturn, 1) := by decide +kernel
theorem dX11_told_89 : decode cX11_told 89 = .ok (.aload_n 3, 1) := by decide +kernel
theorem dX11_told_90 : decode cX11_told 90 = .ok (.getfield 114, 3) := by decide +kernel
theorem dX11_told_93 : decode cX11_told 93 = .ok (.bipush 6, 2) := by decide +kernel
theorem dX11_told_95 : decode cX11_told 95 = .ok (.invokestatic 104, 3) := by decide +kernel
theorem dX11_told_98 : decode cX11_told 98 = .ok (.ifCond .eq 28, 3) := by decide +kernel
theorem dX11_told_101 : decode cX11_told 101 = .ok (.aload_n 0, 1) := by decide +kernel
theorem dX11_told_102 : decode cX11_told 102 = .ok (.getfield 10, 3) := by decide +kernel
theorem dX11_told_105 : decode cX11_told 105 = .ok (.getfield 77, 3) := by decide +kernel
theorem dX11_told_108 : decode cX11_told 108 = .ok (.aload_n 3, 1) := by decide +kernel
theorem dX11_told_109 : decode cX11_told 109 = .ok (.getfield 114, 3) := by decide +kernel
theorem dX11_told_112 : decode cX11_told 112 = .ok (.iaload, 1) := by decide +kernel
theorem dX11_told_113 : decode cX11_told 113 = .ok (.aload_n 0, 1) := by decide +kernel
theorem dX11_told_114 : decode cX11_told 114 = .ok (.getfield 10, 3) := by decide +kernel
theorem dX11_told_117 : decode cX11_told 117 = .ok (.getfield 84, 3) := by decide +kernel
theorem dX11_told_120 : decode cX11_told 120 = .ok (.invokestatic 142, 3) := by decide +kernel
theorem dX11_told_123 : decode cX11_told 123 = .ok (.goto 4, 3) := by decide +kernel
theorem dX11_told_126 : decode cX11_told 126 = .ok (.iconst 0, 1) := by decide +kernel
theorem dX11_told_127 : decode cX11_told 127 = .ok (.ireturn, 1) := by decide +kernel
theorem dX11_told_128 : decode cX11_told 128 = .ok (.iload_n 2, 1) := by decide +kernel
theorem dX11_told_129 : decode cX11_told 129 = .ok (.bipush 6, 2) := by decide +kernel
theorem dX11_told_131 : decode cX11_told 131 = .ok (.if_icmp .lt 9, 3) := by decide +kernel
theorem dX11_told_134 : decode cX11_told 134 = .ok (.iload_n 2, 1) := by decide +kernel
theorem dX11_told_135 : decode cX11_told 135 = .ok (.bipush 12, 2) := by decide +kernel
theorem dX11_told_137 : decode cX11_told 137 = .ok (.if_icmp .lt 8, 3) := by decide +kernel
theorem dX11_told_140 : decode cX11_told 140 = .ok (.bipush (-100), 2) := by decide +kernel
theorem dX11_told_142 : decode cX11_told 142 = .ok (.goto 19, 3) := by decide +kernel
theorem dX11_told_145 : decode cX11_told 145 = .ok (.aload_n 3, 1) := by decide +kernel
theorem dX11_told_146 : decode cX11_told 146 = .ok (.iload_n 2, 1) := by decide +kernel
theorem dX11_told_147 : decode cX11_told 147 = .ok (.bipush 6, 2) := by decide +kernel
theorem dX11_told_149 : decode cX11_told 149 = .ok (.isub, 1) := by decide +kernel
theorem dX11_told_150 : decode cX11_told 150 = .ok (.invokevirtual 117, 3) := by decide +kernel
theorem dX11_told_153 : decode cX11_told 153 = .ok (.ifCond .eq 7, 3) := by decide +kernel
theorem dX11_told_156 : decode cX11_told 156 = .ok (.iconst 1, 1) := by decide +kernel
theorem dX11_told_157 : decode cX11_told 157 = .ok (.goto 4, 3) := by decide +kernel
theorem dX11_told_160 : decode cX11_told 160 = .ok (.iconst 0, 1) := by decide +kernel
theorem dX11_told_161 : decode cX11_told 161 = .ok (.ireturn, 1) := by decide +kernel
theorem dX11_feed_0 : decode cX11_feed 0 = .ok (.iload_n 1, 1) := by decide +kernel
theorem dX11_feed_1 : decode cX11_feed 1 = .ok (.sipush 256, 3) := by decide +kernel
theorem dX11_feed_4 : decode cX11_feed 4 = .ok (.invokestatic 104, 3) := by decide +kernel
theorem dX11_feed_7 : decode cX11_feed 7 = .ok (.ifCond .ne 6, 3) := by decide +kernel
theorem dX11_feed_10 : decode cX11_feed 10 = .ok (.bipush (-2), 2) := by decide +kernel
theorem dX11_feed_12 : decode cX11_feed 12 = .ok (.ireturn, 1) := by decide +kernel
theorem dX11_feed_13 : decode cX11_feed 13 = .ok (.aload_n 0, 1) := by decide +kernel
theorem dX11_feed_14 : decode cX11_feed 14 = .ok (.getfield 23, 3) := by decide +kernel
theorem dX11_feed_17 : decode cX11_feed 17 = .ok (.sipush 160, 3) := by decide +kernel
theorem dX11_feed_20 : decode cX11_feed 20 = .ok (.if_icmp .lt 6, 3) := by decide +kernel
theorem dX11_feed_23 : decode cX11_feed 23 = .ok (.bipush (-4), 2) := by decide +kernel
theorem dX11_feed_25 : decode cX11_feed 25 = .ok (.ireturn, 1) := by decide +kernel
theorem dX11_feed_26 : decode cX11_feed 26 = .ok (.aload_n 0, 1) := by decide +kernel
theorem dX11_feed_27 : decode cX11_feed 27 = .ok (.getfield 19, 3) := by decide +kernel
theorem dX11_feed_30 : decode cX11_feed 30 = .ok (.aload_n 0, 1) := by decide +kernel
theorem dX11_feed_31 : decode cX11_feed 31 = .ok (.getfield 23, 3) := by decide +kernel
theorem dX11_feed_34 : decode cX11_feed 34 = .ok (.iload_n 1, 1) := by decide +kernel
theorem dX11_feed_35 : decode cX11_feed 35 = .ok (.iastore, 1) := by decide +kernel
theorem dX11_feed_36 : decode cX11_feed 36 = .ok (.aload_n 0, 1) := by decide +kernel
theorem dX11_feed_37 : decode cX11_feed 37 = .ok (.dup, 1) := by decide +kernel
theorem dX11_feed_38 : decode cX11_feed 38 = .ok (.getfield 23, 3) := by decide +kernel
theorem dX11_feed_41 : decode cX11_feed 41 = .ok (.iconst 1, 1) := by decide +kernel
theorem dX11_feed_42 : decode cX11_feed 42 = .ok (.iadd, 1) := by decide +kernel
theorem dX11_feed_43 : decode cX11_feed 43 = .ok (.putfield 23, 3) := by decide +kernel
theorem dX11_feed_46 : decode cX11_feed 46 = .ok (.aload_n 0, 1) := by decide +kernel
theorem dX11_feed_47 : decode cX11_feed 47 = .ok (.getfield 23, 3) := by decide +kernel
theorem dX11_feed_50 : decode cX11_feed 50 = .ok (.ireturn, 1) := by decide +kernel
theorem dX11_text_0 : decode cX11_text 0 = .ok (.aload_n 0, 1) := by decide +kernel
theorem dX11_text_1 : decode cX11_text 1 = .ok (.getfield 40, 3) := by decide +kernel
theorem dX11_text_4 : decode cX11_text 4 = .ok (.bipush 6, 2) := by decide +kernel
theorem dX11_text_6 : decode cX11_text 6 = .ok (.if_icmp .lt 6, 3) := by decide +kernel
theorem dX11_text_9 : decode cX11_text 9 = .ok (.bipush (-4), 2) := by decide +kernel
theorem dX11_text_11 : decode cX11_text 11 = .ok (.ireturn, 1) := by decide +kernel
theorem dX11_text_12 : decode cX11_text 12 = .ok (.aload_n 0, 1) := by decide +kernel
theorem dX11_text_13 : decode cX11_text 13 = .ok (.getfield 30, 3) := by decide +kernel
theorem dX11_text_16 : decode cX11_text 16 = .ok (.aload_n 0, 1) := by decide +kernel
theorem dX11_text_17 : decode cX11_text 17 = .ok (.getfield 19, 3) := by decide +kernel
theorem dX11_text_20 : decode cX11_text 20 = .ok (.aload_n 0, 1) := by decide +kernel
theorem dX11_text_21 : decode cX11_text 21 = .ok (.getfield 23, 3) := by decide +kernel
theorem dX11_text_24 : decode cX11_text 24 = .ok (.invokevirtual 69, 3) := by decide +kernel
theorem dX11_text_27 : decode cX11_text 27 = .ok (.istore_n 1, 1) := by decide +kernel
theorem dX11_text_28 : decode cX11_text 28 = .ok (.aload_n 0, 1) := by decide +kernel
theorem dX11_text_29 : decode cX11_text 29 = .ok (.iconst 0, 1) := by decide +kernel
theorem dX11_text_30 : decode cX11_text 30 = .ok (.putfield 23, 3) := by decide +kernel
theorem dX11_text_33 : decode cX11_text 33 = .ok (.iload_n 1, 1) := by decide +kernel
theorem dX11_text_34 : decode cX11_text 34 = .ok (.iconst (-1), 1) := by decide +kernel
theorem dX11_text_35 : decode cX11_text 35 = .ok (.if_icmp .eq 8, 3) := by decide +kernel
theorem dX11_text_38 : decode cX11_text 38 = .ok (.bipush (-100), 2) := by decide +kernel
theorem dX11_text_40 : decode cX11_text 40 = .ok (.iload_n 1, 1) := by decide +kernel
theorem dX11_text_41 : decode cX11_text 41 = .ok (.isub, 1) := by decide +kernel
theorem dX11_text_42 : decode cX11_text 42 = .ok (.ireturn, 1) := by decide +kernel
theorem dX11_text_43 : decode cX11_text 43 = .ok (.aload_n 0, 1) := by decide +kernel
theorem dX11_text_44 : decode cX11_text 44 = .ok (.getfield 36, 3) := by decide +kernel
theorem dX11_text_47 : decode cX11_text 47 = .ok (.aload_n 0, 1) := by decide +kernel
theorem dX11_text_48 : decode cX11_text 48 = .ok (.getfield 40, 3) := by decide +kernel
theorem dX11_text_51 : decode cX11_text 51 = .ok (.aload_n 0, 1) := by decide +kernel
theorem dX11_text_52 : decode cX11_text 52 = .ok (.getfield 30, 3) := by decide +kernel
theorem dX11_text_55 : decode cX11_text 55 = .ok (.invokevirtual 73, 3) := by decide +kernel
theorem dX11_text_58 : decode cX11_text 58 = .ok (.aastore, 1) := by decide +kernel
theorem dX11_text_59 : decode cX11_text 59 = .ok (.aload_n 0, 1) := by decide +kernel
theorem dX11_text_60 : decode cX11_text 60 = .ok (.dup, 1) := by decide +kernel
theorem dX11_text_61 : decode cX11_text 61 = .ok (.getfield 40, 3) := by decide +kernel
theorem dX11_text_64 : decode cX11_text 64 = .ok (.iconst 1, 1) := by decide +kernel
theorem dX11_text_65 : decode cX11_text 65 = .ok (.iadd, 1) := by decide +kernel
theorem dX11_text_66 : decode cX11_text 66 = .ok (.putfield 40, 3) := by decide +kernel
theorem dX11_text_69 : decode cX11_text 69 = .ok (.aload_n 0, 1) := by decide +kernel
theorem dX11_text_70 : decode cX11_text 70 = .ok (.getfield 40, 3) := by decide +kernel
theorem dX11_text_73 : decode cX11_text 73 = .ok (.iconst 1, 1) := by decide +kernel
theorem dX11_text_74 : decode cX11_text 74 = .ok (.isub, 1) := by decide +kernel
theorem dX11_text_75 : decode cX11_text 75 = .ok (.ireturn, 1) := by decide +kernel
theorem dX11_force_0 : decode cX11_force 0 = .ok (.iload_n 1, 1) := by decide +kernel
theorem dX11_force_1 : decode cX11_force 1 = .ok (.aload_n 0, 1) := by decide +kernel
theorem dX11_force_2 : decode cX11_force 2 = .ok (.getfield 40, 3) := by decide +kernel
theorem dX11_force_5 : decode cX11_force 5 = .ok (.invokestatic 104, 3) := by decide +kernel
theorem dX11_force_8 : decode cX11_force 8 = .ok (.ifCond .ne 6, 3) := by decide +kernel
theorem dX11_force_11 : decode cX11_force 11 = .ok (.bipush (-2), 2) := by decide +kernel
theorem dX11_force_13 : decode cX11_force 13 = .ok (.ireturn, 1) := by decide +kernel
theorem dX11_force_14 : decode cX11_force 14 = .ok (.aload_n 0, 1) := by decide +kernel
theorem dX11_force_15 : decode cX11_force 15 = .ok (.getfield 10, 3) := by decide +kernel
theorem dX11_force_18 : decode cX11_force 18 = .ok (.getfield 146, 3) := by decide +kernel
theorem dX11_force_21 : decode cX11_force 21 = .ok (.istore_n 2, 1) := by decide +kernel
theorem dX11_force_22 : decode cX11_force 22 = .ok (.aload_n 0, 1) := by decide +kernel
theorem dX11_force_23 : decode cX11_force 23 = .ok (.getfield 10, 3) := by decide +kernel
theorem dX11_force_26 : decode cX11_force 26 = .ok (.iload_n 1, 1) := by decide +kernel
theorem dX11_force_27 : decode cX11_force 27 = .ok (.putfield 146, 3) := by decide +kernel
theorem dX11_force_30 : decode cX11_force 30 = .ok (.iload_n 2, 1) := by decide +kernel
theorem dX11_force_31 : decode cX11_force 31 = .ok (.ireturn, 1) := by decide +kernel
theorem dX11_day_0 : decode cX11_day 0 = .ok (.iload_n 1, 1) := by decide +kernel
theorem dX11_day_1 : decode cX11_day 1 = .ok (.bipush 16, 2) := by decide +kernel
theorem dX11_day_3 : decode cX11_day 3 = .ok (.invokestatic 104, 3) := by decide +kernel
theorem dX11_day_6 : decode cX11_day 6 = .ok (.ifCond .eq 11, 3) := by decide +kernel
theorem dX11_day_9 : decode cX11_day 9 = .ok (.iload_n 2, 1) := by decide +kernel
theorem dX11_day_10 : decode cX11_day 10 = .ok (.iconst 4, 1) := by decide +kernel
theorem dX11_day_11 : decode cX11_day 11 = .ok (.invokestatic 104, 3) := by decide +kernel
theorem dX11_day_14 : decode cX11_day 14 = .ok (.ifCond .ne 6, 3) := by decide +kernel
theorem dX11_day_17 : decode cX11_day 17 = .ok (.bipush (-2), 2) := by decide +kernel
theorem dX11_day_19 : decode cX11_day 19 = .ok (.ireturn, 1) := by decide +kernel
theorem dX11_day_20 : decode cX11_day 20 = .ok (.aload_n 0, 1) := by decide +kernel
theorem dX11_day_21 : decode cX11_day 21 = .ok (.getfield 52, 3) := by decide +kernel
theorem dX11_day_24 : decode cX11_day 24 = .ok (.aload_n 0, 1) := by decide +kernel
theorem dX11_day_25 : decode cX11_day 25 = .ok (.getfield 10, 3) := by decide +kernel
theorem dX11_day_28 : decode cX11_day 28 = .ok (.aload_n 0, 1) := by decide +kernel
theorem dX11_day_29 : decode cX11_day 29 = .ok (.invokevirtual 123, 3) := by decide +kernel
theorem dX11_day_32 : decode cX11_day 32 = .ok (.invokevirtual 148, 3) := by decide +kernel
theorem dX11_day_35 : decode cX11_day 35 = .ok (.iload_n 2, 1) := by decide +kernel
theorem dX11_day_36 : decode cX11_day 36 = .ok (.ifCond .ne 14, 3) := by decide +kernel
theorem dX11_day_39 : decode cX11_day 39 = .ok (.aload_n 0, 1) := by decide +kernel
theorem dX11_day_40 : decode cX11_day 40 = .ok (.getfield 52, 3) := by decide +kernel
theorem dX11_day_43 : decode cX11_day 43 = .ok (.iload_n 1, 1) := by decide +kernel
theorem dX11_day_44 : decode cX11_day 44 = .ok (.invokevirtual 152, 3) := by decide +kernel
theorem dX11_day_47 : decode cX11_day 47 = .ok (.goto 12, 3) := by decide +kernel
theorem dX11_day_50 : decode cX11_day 50 = .ok (.aload_n 0, 1) := by decide +kernel
theorem dX11_day_51 : decode cX11_day 51 = .ok (.getfield 52, 3) := by decide +kernel
theorem dX11_day_54 : decode cX11_day 54 = .ok (.iload_n 1, 1) := by decide +kernel
theorem dX11_day_55 : decode cX11_day 55 = .ok (.iload_n 2, 1) := by decide +kernel
theorem dX11_day_56 : decode cX11_day 56 = .ok (.invokevirtual 156, 3) := by decide +kernel
theorem dX11_day_59 : decode cX11_day 59 = .ok (.ireturn, 1) := by decide +kernel
theorem dX11_best_0 : decode cX11_best 0 = .ok (.iload_n 1, 1) := by decide +kernel
theorem dX11_best_1 : decode cX11_best 1 = .ok (.bipush 16, 2) := by decide +kernel
theorem dX11_best_3 : decode cX11_best 3 = .ok (.invokestatic 104, 3) := by decide +kernel
theorem dX11_best_6 : decode cX11_best 6 = .ok (.ifCond .eq 28, 3) := by decide +kernel
theorem dX11_best_9 : decode cX11_best 9 = .ok (.iload_n 2, 1) := by decide +kernel
theorem dX11_best_10 : decode cX11_best 10 = .ok (.ifCond .lt 24, 3) := by decide +kernel
theorem dX11_best_13 : decode cX11_best 13 = .ok (.iload_n 2, 1) := by decide +kernel
theorem dX11_best_14 : decode cX11_best 14 = .ok (.iconst 5, 1) := by decide +kernel
theorem dX11_best_15 : decode cX11_best 15 = .ok (.if_icmp .gt 19, 3) := by decide +kernel
theorem dX11_best_18 : decode cX11_best 18 = .ok (.iload_n 3, 1) := by decide +kernel
theorem dX11_best_19 : decode cX11_best 19 = .ok (.iconst (-1), 1) := by decide +kernel
theorem dX11_best_20 : decode cX11_best 20 = .ok (.if_icmp .eq 17, 3) := by decide +kernel
theorem dX11_best_23 : decode cX11_best 23 = .ok (.aload_n 0, 1) := by decide +kernel
theorem dX11_best_24 : decode cX11_best 24 = .ok (.getfield 10, 3) := by decide +kernel
theorem dX11_best_27 : decode cX11_best 27 = .ok (.iload_n 3, 1) := by decide +kernel
theorem dX11_best_28 : decode cX11_best 28 = .ok (.invokevirtual 90, 3) := by decide +kernel
theorem dX11_best_31 : decode cX11_best 31 = .ok (.ifCond .ne 6, 3) := by decide +kernel
theorem dX11_best_34 : decode cX11_best 34 = .ok (.bipush (-100), 2) := by decide +kernel
theorem dX11_best_36 : decode cX11_best 36 = .ok (.ireturn, 1) := by decide +kernel
theorem dX11_best_37 : decode cX11_best 37 = .ok (.aload_n 0, 1) := by decide +kernel
theorem dX11_best_38 : decode cX11_best 38 = .ok (.getfield 52, 3) := by decide +kernel
theorem dX11_best_41 : decode cX11_best 41 = .ok (.aload_n 0, 1) := by decide +kernel
theorem dX11_best_42 : decode cX11_best 42 = .ok (.getfield 10, 3) := by decide +kernel
theorem dX11_best_45 : decode cX11_best 45 = .ok (.aload_n 0, 1) := by decide +kernel
theorem dX11_best_46 : decode cX11_best 46 = .ok (.invokevirtual 123, 3) := by decide +kernel
theorem dX11_best_49 : decode cX11_best 49 = .ok (.invokevirtual 148, 3) := by decide +kernel
theorem dX11_best_52 : decode cX11_best 52 = .ok (.aload_n 0, 1) := by decide +kernel
theorem dX11_best_53 : decode cX11_best 53 = .ok (.getfield 52, 3) := by decide +kernel
theorem dX11_best_56 : decode cX11_best 56 = .ok (.iload_n 1, 1) := by decide +kernel
theorem dX11_best_57 : decode cX11_best 57 = .ok (.iload_n 2, 1) := by decide +kernel
theorem dX11_best_58 : decode cX11_best 58 = .ok (.invokevirtual 159, 3) := by decide +kernel
theorem dX11_best_61 : decode cX11_best 61 = .ok (.istore 4, 2) := by decide +kernel
theorem dX11_best_63 : decode cX11_best 63 = .ok (.iload_n 3, 1) := by decide +kernel
theorem dX11_best_64 : decode cX11_best 64 = .ok (.iconst (-1), 1) := by decide +kernel
theorem dX11_best_65 : decode cX11_best 65 = .ok (.if_icmp .ne 8, 3) := by decide +kernel
theorem dX11_best_68 : decode cX11_best 68 = .ok (.iload 4, 2) := by decide +kernel
theorem dX11_best_70 : decode cX11_best 70 = .ok (.goto 12, 3) := by decide +kernel
theorem dX11_best_73 : decode cX11_best 73 = .ok (.aload_n 0, 1) := by decide +kernel
theorem dX11_best_74 : decode cX11_best 74 = .ok (.getfield 52, 3) := by decide +kernel
theorem dX11_best_77 : decode cX11_best 77 = .ok (.getfield 162, 3) := by decide +kernel
theorem dX11_best_80 : decode cX11_best 80 = .ok (.iload_n 3, 1) := by decide +kernel
theorem dX11_best_81 : decode cX11_best 81 = .ok (.iaload, 1) := by decide +kernel
theorem dX11_best_82 : decode cX11_best 82 = .ok (.ireturn, 1) := by decide +kernel
theorem dX11_tidy_0 : decode cX11_tidy 0 = .ok (.iload_n 1, 1) := by decide +kernel
theorem dX11_tidy_1 : decode cX11_tidy 1 = .ok (.bipush 16, 2) := by decide +kernel
theorem dX11_tidy_3 : decode cX11_tidy 3 = .ok (.invokestatic 104, 3) := by decide +kernel
theorem dX11_tidy_6 : decode cX11_tidy 6 = .ok (.ifCond .ne 6, 3) := by decide +kernel
theorem dX11_tidy_9 : decode cX11_tidy 9 = .ok (.bipush (-2), 2) := by decide +kernel
theorem dX11_tidy_11 : decode cX11_tidy 11 = .ok (.ireturn, 1) := by decide +kernel
theorem dX11_tidy_12 : decode cX11_tidy 12 = .ok (.aload_n 0, 1) := by decide +kernel
theorem dX11_tidy_13 : decode cX11_tidy 13 = .ok (.getfield 52, 3) := by decide +kernel
theorem dX11_tidy_16 : decode cX11_tidy 16 = .ok (.aload_n 0, 1) := by decide +kernel
theorem dX11_tidy_17 : decode cX11_tidy 17 = .ok (.getfield 10, 3) := by decide +kernel
theorem dX11_tidy_20 : decode cX11_tidy 20 = .ok (.aload_n 0, 1) := by decide +kernel
theorem dX11_tidy_21 : decode cX11_tidy 21 = .ok (.invokevirtual 123, 3) := by decide +kernel
theorem dX11_tidy_24 : decode cX11_tidy 24 = .ok (.invokevirtual 148, 3) := by decide +kernel
theorem dX11_tidy_27 : decode cX11_tidy 27 = .ok (.aload_n 0, 1) := by decide +kernel
theorem dX11_tidy_28 : decode cX11_tidy 28 = .ok (.getfield 52, 3) := by decide +kernel
theorem dX11_tidy_31 : decode cX11_tidy 31 = .ok (.iload_n 1, 1) := by decide +kernel
theorem dX11_tidy_32 : decode cX11_tidy 32 = .ok (.iconst 5, 1) := by decide +kernel
theorem dX11_tidy_33 : decode cX11_tidy 33 = .ok (.invokevirtual 159, 3) := by decide +kernel
theorem dX11_tidy_36 : decode cX11_tidy 36 = .ok (.istore_n 2, 1) := by decide +kernel
theorem dX11_tidy_37 : decode cX11_tidy 37 = .ok (.iconst 0, 1) := by decide +kernel
theorem dX11_tidy_38 : decode cX11_tidy 38 = .ok (.istore_n 3, 1) := by decide +kernel
theorem dX11_tidy_39 : decode cX11_tidy 39 = .ok (.iload_n 3, 1) := by decide +kernel
theorem dX11_tidy_40 : decode cX11_tidy 40 = .ok (.aload_n 0, 1) := by decide +kernel
theorem dX11_tidy_41 : decode cX11_tidy 41 = .ok (.getfield 10, 3) := by decide +kernel
theorem dX11_tidy_44 : decode cX11_tidy 44 = .ok (.getfield 108, 3) := by decide +kernel
theorem dX11_tidy_47 : decode cX11_tidy 47 = .ok (.if_icmp .ge 30, 3) := by decide +kernel
theorem dX11_tidy_50 : decode cX11_tidy 50 = .ok (.aload_n 0, 1) := by decide +kernel
theorem dX11_tidy_51 : decode cX11_tidy 51 = .ok (.getfield 10, 3) := by decide +kernel
theorem dX11_tidy_54 : decode cX11_tidy 54 = .ok (.getfield 94, 3) := by decide +kernel
theorem dX11_tidy_57 : decode cX11_tidy 57 = .ok (.iload_n 3, 1) := by decide +kernel
theorem dX11_tidy_58 : decode cX11_tidy 58 = .ok (.aaload, 1) := by decide +kernel
theorem dX11_tidy_59 : decode cX11_tidy 59 = .ok (.aload_n 0, 1) := by decide +kernel
theorem dX11_tidy_60 : decode cX11_tidy 60 = .ok (.getfield 52, 3) := by decide +kernel
theorem dX11_tidy_63 : decode cX11_tidy 63 = .ok (.getfield 162, 3) := by decide +kernel
theorem dX11_tidy_66 : decode cX11_tidy 66 = .ok (.iload_n 3, 1) := by decide +kernel
theorem dX11_tidy_67 : decode cX11_tidy 67 = .ok (.iaload, 1) := by decide +kernel
theorem dX11_tidy_68 : decode cX11_tidy 68 = .ok (.putfield 114, 3) := by decide +kernel
theorem dX11_tidy_71 : decode cX11_tidy 71 = .ok (.iinc 3 1, 3) := by decide +kernel
theorem dX11_tidy_74 : decode cX11_tidy 74 = .ok (.goto (-35), 3) := by decide +kernel
theorem dX11_tidy_77 : decode cX11_tidy 77 = .ok (.iload_n 2, 1) := by decide +kernel
theorem dX11_tidy_78 : decode cX11_tidy 78 = .ok (.ireturn, 1) := by decide +kernel
theorem dX11_once_0 : decode cX11_once 0 = .ok (.iload_n 1, 1) := by decide +kernel
theorem dX11_once_1 : decode cX11_once 1 = .ok (.iconst (-1), 1) := by decide +kernel
theorem dX11_once_2 : decode cX11_once 2 = .ok (.if_icmp .eq 17, 3) := by decide +kernel
theorem dX11_once_5 : decode cX11_once 5 = .ok (.aload_n 0, 1) := by decide +kernel
theorem dX11_once_6 : decode cX11_once 6 = .ok (.getfield 10, 3) := by decide +kernel
theorem dX11_once_9 : decode cX11_once 9 = .ok (.iload_n 1, 1) := by decide +kernel
theorem dX11_once_10 : decode cX11_once 10 = .ok (.invokevirtual 90, 3) := by decide +kernel
theorem dX11_once_13 : decode cX11_once 13 = .ok (.ifCond .ne 6, 3) := by decide +kernel
theorem dX11_once_16 : decode cX11_once 16 = .ok (.bipush (-100), 2) := by decide +kernel
theorem dX11_once_18 : decode cX11_once 18 = .ok (.ireturn, 1) := by decide +kernel
theorem dX11_once_19 : decode cX11_once 19 = .ok (.aload_n 0, 1) := by decide +kernel
theorem dX11_once_20 : decode cX11_once 20 = .ok (.getfield 52, 3) := by decide +kernel
theorem dX11_once_23 : decode cX11_once 23 = .ok (.aload_n 0, 1) := by decide +kernel
theorem dX11_once_24 : decode cX11_once 24 = .ok (.getfield 10, 3) := by decide +kernel
theorem dX11_once_27 : decode cX11_once 27 = .ok (.aload_n 0, 1) := by decide +kernel
theorem dX11_once_28 : decode cX11_once 28 = .ok (.invokevirtual 123, 3) := by decide +kernel
theorem dX11_once_31 : decode cX11_once 31 = .ok (.invokevirtual 148, 3) := by decide +kernel
theorem dX11_once_34 : decode cX11_once 34 = .ok (.aload_n 0, 1) := by decide +kernel
theorem dX11_once_35 : decode cX11_once 35 = .ok (.getfield 52, 3) := by decide +kernel
theorem dX11_once_38 : decode cX11_once 38 = .ok (.invokevirtual 165, 3) := by decide +kernel
theorem dX11_once_41 : decode cX11_once 41 = .ok (.istore_n 2, 1) := by decide +kernel
theorem dX11_once_42 : decode cX11_once 42 = .ok (.iload_n 1, 1) := by decide +kernel
theorem dX11_once_43 : decode cX11_once 43 = .ok (.iconst (-1), 1) := by decide +kernel
theorem dX11_once_44 : decode cX11_once 44 = .ok (.if_icmp .ne 7, 3) := by decide +kernel
theorem dX11_once_47 : decode cX11_once 47 = .ok (.iload_n 2, 1) := by decide +kernel
theorem dX11_once_48 : decode cX11_once 48 = .ok (.goto 12, 3) := by decide +kernel
theorem dX11_once_51 : decode cX11_once 51 = .ok (.aload_n 0, 1) := by decide +kernel
theorem dX11_once_52 : decode cX11_once 52 = .ok (.getfield 52, 3) := by decide +kernel
theorem dX11_once_55 : decode cX11_once 55 = .ok (.getfield 162, 3) := by decide +kernel
theorem dX11_once_58 : decode cX11_once 58 = .ok (.iload_n 1, 1) := by decide +kernel
theorem dX11_once_59 : decode cX11_once 59 = .ok (.iaload, 1) := by decide +kernel
theorem dX11_once_60 : decode cX11_once 60 = .ok (.ireturn, 1) := by decide +kernel
theorem dX11_week_0 : decode cX11_week 0 = .ok (.iload_n 1, 1) := by decide +kernel
theorem dX11_week_1 : decode cX11_week 1 = .ok (.iconst 3, 1) := by decide +kernel
theorem dX11_week_2 : decode cX11_week 2 = .ok (.invokestatic 104, 3) := by decide +kernel
theorem dX11_week_5 : decode cX11_week 5 = .ok (.ifCond .ne 6, 3) := by decide +kernel
theorem dX11_week_8 : decode cX11_week 8 = .ok (.bipush (-2), 2) := by decide +kernel
theorem dX11_week_10 : decode cX11_week 10 = .ok (.ireturn, 1) := by decide +kernel
theorem dX11_week_11 : decode cX11_week 11 = .ok (.aload_n 0, 1) := by decide +kernel
theorem dX11_week_12 : decode cX11_week 12 = .ok (.getfield 52, 3) := by decide +kernel
theorem dX11_week_15 : decode cX11_week 15 = .ok (.aload_n 0, 1) := by decide +kernel
theorem dX11_week_16 : decode cX11_week 16 = .ok (.getfield 10, 3) := by decide +kernel
theorem dX11_week_19 : decode cX11_week 19 = .ok (.aload_n 0, 1) := by decide +kernel
theorem dX11_week_20 : decode cX11_week 20 = .ok (.invokevirtual 123, 3) := by decide +kernel
theorem dX11_week_23 : decode cX11_week 23 = .ok (.invokevirtual 148, 3) := by decide +kernel
theorem dX11_week_26 : decode cX11_week 26 = .ok (.aload_n 0, 1) := by decide +kernel
theorem dX11_week_27 : decode cX11_week 27 = .ok (.getfield 52, 3) := by decide +kernel
theorem dX11_week_30 : decode cX11_week 30 = .ok (.invokevirtual 168, 3) := by decide +kernel
theorem dX11_week_33 : decode cX11_week 33 = .ok (.istore_n 2, 1) := by decide +kernel
theorem dX11_week_34 : decode cX11_week 34 = .ok (.iload_n 1, 1) := by decide +kernel
theorem dX11_week_35 : decode cX11_week 35 = .ok (.ifCond .ne 7, 3) := by decide +kernel
theorem dX11_week_38 : decode cX11_week 38 = .ok (.iload_n 2, 1) := by decide +kernel
theorem dX11_week_39 : decode cX11_week 39 = .ok (.goto 25, 3) := by decide +kernel
theorem dX11_week_42 : decode cX11_week 42 = .ok (.iload_n 1, 1) := by decide +kernel
theorem dX11_week_43 : decode cX11_week 43 = .ok (.iconst 1, 1) := by decide +kernel
theorem dX11_week_44 : decode cX11_week 44 = .ok (.if_icmp .ne 13, 3) := by decide +kernel
theorem dX11_week_47 : decode cX11_week 47 = .ok (.aload_n 0, 1) := by decide +kernel
theorem dX11_week_48 : decode cX11_week 48 = .ok (.getfield 52, 3) := by decide +kernel
theorem dX11_week_51 : decode cX11_week 51 = .ok (.getfield 171, 3) := by decide +kernel
theorem dX11_week_54 : decode cX11_week 54 = .ok (.goto 10, 3) := by decide +kernel
theorem dX11_week_57 : decode cX11_week 57 = .ok (.aload_n 0, 1) := by decide +kernel
theorem dX11_week_58 : decode cX11_week 58 = .ok (.getfield 52, 3) := by decide +kernel
theorem dX11_week_61 : decode cX11_week 61 = .ok (.getfield 174, 3) := by decide +kernel
theorem dX11_week_64 : decode cX11_week 64 = .ok (.ireturn, 1) := by decide +kernel
theorem dX11_dearest_0 : decode cX11_dearest 0 = .ok (.iload_n 1, 1) := by decide +kernel
theorem dX11_dearest_1 : decode cX11_dearest 1 = .ok (.iconst 2, 1) := by decide +kernel
theorem dX11_dearest_2 : decode cX11_dearest 2 = .ok (.invokestatic 104, 3) := by decide +kernel
theorem dX11_dearest_5 : decode cX11_dearest 5 = .ok (.ifCond .ne 6, 3) := by decide +kernel
theorem dX11_dearest_8 : decode cX11_dearest 8 = .ok (.bipush (-2), 2) := by decide +kernel
theorem dX11_dearest_10 : decode cX11_dearest 10 = .ok (.ireturn, 1) := by decide +kernel
theorem dX11_dearest_11 : decode cX11_dearest 11 = .ok (.aload_n 0, 1) := by decide +kernel
theorem dX11_dearest_12 : decode cX11_dearest 12 = .ok (.getfield 52, 3) := by decide +kernel
theorem dX11_dearest_15 : decode cX11_dearest 15 = .ok (.aload_n 0, 1) := by decide +kernel
theorem dX11_dearest_16 : decode cX11_dearest 16 = .ok (.getfield 10, 3) := by decide +kernel
theorem dX11_dearest_19 : decode cX11_dearest 19 = .ok (.aload_n 0, 1) := by decide +kernel
theorem dX11_dearest_20 : decode cX11_dearest 20 = .ok (.invokevirtual 123, 3) := by decide +kernel
theorem dX11_dearest_23 : decode cX11_dearest 23 = .ok (.invokevirtual 148, 3) := by decide +kernel
theorem dX11_dearest_26 : decode cX11_dearest 26 = .ok (.iconst 0, 1) := by decide +kernel
theorem dX11_dearest_27 : decode cX11_dearest 27 = .ok (.istore_n 2, 1) := by decide +kernel
theorem dX11_dearest_28 : decode cX11_dearest 28 = .ok (.ldc 177, 2) := by decide +kernel
theorem dX11_dearest_30 : decode cX11_dearest 30 = .ok (.istore_n 3, 1) := by decide +kernel
theorem dX11_dearest_31 : decode cX11_dearest 31 = .ok (.iconst 0, 1) := by decide +kernel
theorem dX11_dearest_32 : decode cX11_dearest 32 = .ok (.istore 4, 2) := by decide +kernel
theorem dX11_dearest_34 : decode cX11_dearest 34 = .ok (.iload 4, 2) := by decide +kernel
theorem dX11_dearest_36 : decode cX11_dearest 36 = .ok (.iconst 4, 1) := by decide +kernel
theorem dX11_dearest_37 : decode cX11_dearest 37 = .ok (.if_icmp .ge 46, 3) := by decide +kernel
theorem dX11_dearest_40 : decode cX11_dearest 40 = .ok (.aload_n 0, 1) := by decide +kernel
theorem dX11_dearest_41 : decode cX11_dearest 41 = .ok (.getfield 52, 3) := by decide +kernel
theorem dX11_dearest_44 : decode cX11_dearest 44 = .ok (.aload_n 0, 1) := by decide +kernel
theorem dX11_dearest_45 : decode cX11_dearest 45 = .ok (.getfield 10, 3) := by decide +kernel
theorem dX11_dearest_48 : decode cX11_dearest 48 = .ok (.getfield 87, 3) := by decide +kernel
theorem dX11_dearest_51 : decode cX11_dearest 51 = .ok (.iload 4, 2) := by decide +kernel
theorem dX11_dearest_53 : decode cX11_dearest 53 = .ok (.invokevirtual 178, 3) := by decide +kernel
theorem dX11_dearest_56 : decode cX11_dearest 56 = .ok (.aload_n 0, 1) := by decide +kernel
theorem dX11_dearest_57 : decode cX11_dearest 57 = .ok (.getfield 52, 3) := by decide +kernel
theorem dX11_dearest_60 : decode cX11_dearest 60 = .ok (.invokevirtual 168, 3) := by decide +kernel
theorem dX11_dearest_63 : decode cX11_dearest 63 = .ok (.istore 5, 2) := by decide +kernel
theorem dX11_dearest_65 : decode cX11_dearest 65 = .ok (.iload 5, 2) := by decide +kernel
theorem dX11_dearest_67 : decode cX11_dearest 67 = .ok (.iload_n 3, 1) := by decide +kernel
theorem dX11_dearest_68 : decode cX11_dearest 68 = .ok (.if_icmp .ge 9, 3) := by decide +kernel
theorem dX11_dearest_71 : decode cX11_dearest 71 = .ok (.iload 5, 2) := by decide +kernel
theorem dX11_dearest_73 : decode cX11_dearest 73 = .ok (.istore_n 3, 1) := by decide +kernel
theorem dX11_dearest_74 : decode cX11_dearest 74 = .ok (.iload 4, 2) := by decide +kernel
theorem dX11_dearest_76 : decode cX11_dearest 76 = .ok (.istore_n 2, 1) := by decide +kernel
theorem dX11_dearest_77 : decode cX11_dearest 77 = .ok (.iinc 4 1, 3) := by decide +kernel
theorem dX11_dearest_80 : decode cX11_dearest 80 = .ok (.goto (-46), 3) := by decide +kernel
theorem dX11_dearest_83 : decode cX11_dearest 83 = .ok (.iload_n 1, 1) := by decide +kernel
theorem dX11_dearest_84 : decode cX11_dearest 84 = .ok (.ifCond .ne 7, 3) := by decide +kernel
theorem dX11_dearest_87 : decode cX11_dearest 87 = .ok (.iload_n 2, 1) := by decide +kernel
theorem dX11_dearest_88 : decode cX11_dearest 88 = .ok (.goto 4, 3) := by decide +kernel
theorem dX11_dearest_91 : decode cX11_dearest 91 = .ok (.iload_n 3, 1) := by decide +kernel
theorem dX11_dearest_92 : decode cX11_dearest 92 = .ok (.ireturn, 1) := by decide +kernel
theorem dX11_give_0 : decode cX11_give 0 = .ok (.aload_n 0, 1) := by decide +kernel
theorem dX11_give_1 : decode cX11_give 1 = .ok (.getfield 52, 3) := by decide +kernel
theorem dX11_give_4 : decode cX11_give 4 = .ok (.aload_n 0, 1) := by decide +kernel
theorem dX11_give_5 : decode cX11_give 5 = .ok (.getfield 10, 3) := by decide +kernel
theorem dX11_give_8 : decode cX11_give 8 = .ok (.aload_n 0, 1) := by decide +kernel
theorem dX11_give_9 : decode cX11_give 9 = .ok (.invokevirtual 123, 3) := by decide +kernel
theorem dX11_give_12 : decode cX11_give 12 = .ok (.invokevirtual 148, 3) := by decide +kernel
theorem dX11_give_15 : decode cX11_give 15 = .ok (.iconst (-1), 1) := by decide +kernel
theorem dX11_give_16 : decode cX11_give 16 = .ok (.istore_n 1, 1) := by decide +kernel
theorem dX11_give_17 : decode cX11_give 17 = .ok (.aload_n 0, 1) := by decide +kernel
theorem dX11_give_18 : decode cX11_give 18 = .ok (.getfield 52, 3) := by decide +kernel
theorem dX11_give_21 : decode cX11_give 21 = .ok (.invokevirtual 168, 3) := by decide +kernel
theorem dX11_give_24 : decode cX11_give 24 = .ok (.istore_n 2, 1) := by decide +kernel
theorem dX11_give_25 : decode cX11_give 25 = .ok (.iconst 0, 1) := by decide +kernel
theorem dX11_give_26 : decode cX11_give 26 = .ok (.istore_n 3, 1) := by decide +kernel
theorem dX11_give_27 : decode cX11_give 27 = .ok (.iload_n 3, 1) := by decide +kernel
theorem dX11_give_28 : decode cX11_give 28 = .ok (.aload_n 0, 1) := by decide +kernel
theorem dX11_give_29 : decode cX11_give 29 = .ok (.getfield 10, 3) := by decide +kernel
theorem dX11_give_32 : decode cX11_give 32 = .ok (.getfield 108, 3) := by decide +kernel
theorem dX11_give_35 : decode cX11_give 35 = .ok (.if_icmp .ge 46, 3) := by decide +kernel
theorem dX11_give_38 : decode cX11_give 38 = .ok (.aload_n 0, 1) := by decide +kernel
theorem dX11_give_39 : decode cX11_give 39 = .ok (.getfield 52, 3) := by decide +kernel
theorem dX11_give_42 : decode cX11_give 42 = .ok (.iload_n 3, 1) := by decide +kernel
theorem dX11_give_43 : decode cX11_give 43 = .ok (.invokevirtual 182, 3) := by decide +kernel
theorem dX11_give_46 : decode cX11_give 46 = .ok (.aload_n 0, 1) := by decide +kernel
theorem dX11_give_47 : decode cX11_give 47 = .ok (.getfield 52, 3) := by decide +kernel
theorem dX11_give_50 : decode cX11_give 50 = .ok (.invokevirtual 168, 3) := by decide +kernel
theorem dX11_give_53 : decode cX11_give 53 = .ok (.aload_n 0, 1) := by decide +kernel
theorem dX11_give_54 : decode cX11_give 54 = .ok (.getfield 52, 3) := by decide +kernel
theorem dX11_give_57 : decode cX11_give 57 = .ok (.iload_n 3, 1) := by decide +kernel
theorem dX11_give_58 : decode cX11_give 58 = .ok (.invokevirtual 186, 3) := by decide +kernel
theorem dX11_give_61 : decode cX11_give 61 = .ok (.iadd, 1) := by decide +kernel
theorem dX11_give_62 : decode cX11_give 62 = .ok (.istore 4, 2) := by decide +kernel
theorem dX11_give_64 : decode cX11_give 64 = .ok (.iload 4, 2) := by decide +kernel
theorem dX11_give_66 : decode cX11_give 66 = .ok (.iload_n 2, 1) := by decide +kernel
theorem dX11_give_67 : decode cX11_give 67 = .ok (.if_icmp .ge 8, 3) := by decide +kernel
theorem dX11_give_70 : decode cX11_give 70 = .ok (.iload 4, 2) := by decide +kernel
theorem dX11_give_72 : decode cX11_give 72 = .ok (.istore_n 2, 1) := by decide +kernel
theorem dX11_give_73 : decode cX11_give 73 = .ok (.iload_n 3, 1) := by decide +kernel
theorem dX11_give_74 : decode cX11_give 74 = .ok (.istore_n 1, 1) := by decide +kernel
theorem dX11_give_75 : decode cX11_give 75 = .ok (.iinc 3 1, 3) := by decide +kernel
theorem dX11_give_78 : decode cX11_give 78 = .ok (.goto (-51), 3) := by decide +kernel
theorem dX11_give_81 : decode cX11_give 81 = .ok (.iload_n 1, 1) := by decide +kernel
theorem dX11_give_82 : decode cX11_give 82 = .ok (.ireturn, 1) := by decide +kernel
theorem dX11_seat_0 : decode cX11_seat 0 = .ok (.iload_n 1, 1) := by decide +kernel
theorem dX11_seat_1 : decode cX11_seat 1 = .ok (.iconst 4, 1) := by decide +kernel
theorem dX11_seat_2 : decode cX11_seat 2 = .ok (.invokestatic 104, 3) := by decide +kernel
theorem dX11_seat_5 : decode cX11_seat 5 = .ok (.ifCond .eq 12, 3) := by decide +kernel
theorem dX11_seat_8 : decode cX11_seat 8 = .ok (.iload_n 2, 1) := by decide +kernel
theorem dX11_seat_9 : decode cX11_seat 9 = .ok (.bipush 7, 2) := by decide +kernel
theorem dX11_seat_11 : decode cX11_seat 11 = .ok (.invokestatic 104, 3) := by decide +kernel
theorem dX11_seat_14 : decode cX11_seat 14 = .ok (.ifCond .ne 6, 3) := by decide +kernel
theorem dX11_seat_17 : decode cX11_seat 17 = .ok (.bipush (-2), 2) := by decide +kernel
theorem dX11_seat_19 : decode cX11_seat 19 = .ok (.ireturn, 1) := by decide +kernel
theorem dX11_seat_20 : decode cX11_seat 20 = .ok (.aload_n 0, 1) := by decide +kernel
theorem dX11_seat_21 : decode cX11_seat 21 = .ok (.getfield 52, 3) := by decide +kernel
theorem dX11_seat_24 : decode cX11_seat 24 = .ok (.aload_n 0, 1) := by decide +kernel
theorem dX11_seat_25 : decode cX11_seat 25 = .ok (.getfield 10, 3) := by decide +kernel
theorem dX11_seat_28 : decode cX11_seat 28 = .ok (.aload_n 0, 1) := by decide +kernel
theorem dX11_seat_29 : decode cX11_seat 29 = .ok (.invokevirtual 123, 3) := by decide +kernel
theorem dX11_seat_32 : decode cX11_seat 32 = .ok (.invokevirtual 148, 3) := by decide +kernel
theorem dX11_seat_35 : decode cX11_seat 35 = .ok (.iconst 0, 1) := by decide +kernel
theorem dX11_seat_36 : decode cX11_seat 36 = .ok (.istore_n 3, 1) := by decide +kernel
theorem dX11_seat_37 : decode cX11_seat 37 = .ok (.ldc 177, 2) := by decide +kernel
theorem dX11_seat_39 : decode cX11_seat 39 = .ok (.istore 4, 2) := by decide +kernel
theorem dX11_seat_41 : decode cX11_seat 41 = .ok (.iconst 0, 1) := by decide +kernel
theorem dX11_seat_42 : decode cX11_seat 42 = .ok (.istore 5, 2) := by decide +kernel
theorem dX11_seat_44 : decode cX11_seat 44 = .ok (.iload 5, 2) := by decide +kernel
theorem dX11_seat_46 : decode cX11_seat 46 = .ok (.iconst 4, 1) := by decide +kernel
theorem dX11_seat_47 : decode cX11_seat 47 = .ok (.if_icmp .ge 51, 3) := by decide +kernel
theorem dX11_seat_50 : decode cX11_seat 50 = .ok (.aload_n 0, 1) := by decide +kernel
theorem dX11_seat_51 : decode cX11_seat 51 = .ok (.getfield 52, 3) := by decide +kernel
theorem dX11_seat_54 : decode cX11_seat 54 = .ok (.iload_n 1, 1) := by decide +kernel
theorem dX11_seat_55 : decode cX11_seat 55 = .ok (.iload 5, 2) := by decide +kernel
theorem dX11_seat_57 : decode cX11_seat 57 = .ok (.invokevirtual 189, 3) := by decide +kernel
theorem dX11_seat_60 : decode cX11_seat 60 = .ok (.aload_n 0, 1) := by decide +kernel
theorem dX11_seat_61 : decode cX11_seat 61 = .ok (.getfield 52, 3) := by decide +kernel
theorem dX11_seat_64 : decode cX11_seat 64 = .ok (.aload_n 0, 1) := by decide +kernel
theorem dX11_seat_65 : decode cX11_seat 65 = .ok (.getfield 10, 3) := by decide +kernel
theorem dX11_seat_68 : decode cX11_seat 68 = .ok (.getfield 87, 3) := by decide +kernel
theorem dX11_seat_71 : decode cX11_seat 71 = .ok (.iload_n 2, 1) := by decide +kernel
theorem dX11_seat_72 : decode cX11_seat 72 = .ok (.iaload, 1) := by decide +kernel
theorem dX11_seat_73 : decode cX11_seat 73 = .ok (.invokevirtual 152, 3) := by decide +kernel
theorem dX11_seat_76 : decode cX11_seat 76 = .ok (.istore 6, 2) := by decide +kernel
theorem dX11_seat_78 : decode cX11_seat 78 = .ok (.iload 6, 2) := by decide +kernel
theorem dX11_seat_80 : decode cX11_seat 80 = .ok (.iload 4, 2) := by decide +kernel
theorem dX11_seat_82 : decode cX11_seat 82 = .ok (.if_icmp .ge 10, 3) := by decide +kernel
theorem dX11_seat_85 : decode cX11_seat 85 = .ok (.iload 6, 2) := by decide +kernel
theorem dX11_seat_87 : decode cX11_seat 87 = .ok (.istore 4, 2) := by decide +kernel
theorem dX11_seat_89 : decode cX11_seat 89 = .ok (.iload 5, 2) := by decide +kernel
theorem dX11_seat_91 : decode cX11_seat 91 = .ok (.istore_n 3, 1) := by decide +kernel
theorem dX11_seat_92 : decode cX11_seat 92 = .ok (.iinc 5 1, 3) := by decide +kernel
theorem dX11_seat_95 : decode cX11_seat 95 = .ok (.goto (-51), 3) := by decide +kernel
theorem dX11_seat_98 : decode cX11_seat 98 = .ok (.iload_n 3, 1) := by decide +kernel
theorem dX11_seat_99 : decode cX11_seat 99 = .ok (.ireturn, 1) := by decide +kernel
theorem dX11_seen_0 : decode cX11_seen 0 = .ok (.iload_n 1, 1) := by decide +kernel
theorem dX11_seen_1 : decode cX11_seen 1 = .ok (.iconst 4, 1) := by decide +kernel
theorem dX11_seen_2 : decode cX11_seen 2 = .ok (.invokestatic 104, 3) := by decide +kernel
theorem dX11_seen_5 : decode cX11_seen 5 = .ok (.ifCond .eq 11, 3) := by decide +kernel
theorem dX11_seen_8 : decode cX11_seen 8 = .ok (.iload_n 2, 1) := by decide +kernel
theorem dX11_seen_9 : decode cX11_seen 9 = .ok (.iconst 3, 1) := by decide +kernel
theorem dX11_seen_10 : decode cX11_seen 10 = .ok (.invokestatic 104, 3) := by decide +kernel
theorem dX11_seen_13 : decode cX11_seen 13 = .ok (.ifCond .ne 6, 3) := by decide +kernel
theorem dX11_seen_16 : decode cX11_seen 16 = .ok (.bipush (-2), 2) := by decide +kernel
theorem dX11_seen_18 : decode cX11_seen 18 = .ok (.ireturn, 1) := by decide +kernel
theorem dX11_seen_19 : decode cX11_seen 19 = .ok (.aload_n 0, 1) := by decide +kernel
theorem dX11_seen_20 : decode cX11_seen 20 = .ok (.getfield 45, 3) := by decide +kernel
theorem dX11_seen_23 : decode cX11_seen 23 = .ok (.iload_n 1, 1) := by decide +kernel
theorem dX11_seen_24 : decode cX11_seen 24 = .ok (.aaload, 1) := by decide +kernel
theorem dX11_seen_25 : decode cX11_seen 25 = .ok (.astore_n 3, 1) := by decide +kernel
theorem dX11_seen_26 : decode cX11_seen 26 = .ok (.aload_n 3, 1) := by decide +kernel
theorem dX11_seen_27 : decode cX11_seen 27 = .ok (.getfield 193, 3) := by decide +kernel
theorem dX11_seen_30 : decode cX11_seen 30 = .ok (.iconst (-1), 1) := by decide +kernel
theorem dX11_seen_31 : decode cX11_seen 31 = .ok (.if_icmp .ne 6, 3) := by decide +kernel
theorem dX11_seen_34 : decode cX11_seen 34 = .ok (.bipush (-11), 2) := by decide +kernel
theorem dX11_seen_36 : decode cX11_seen 36 = .ok (.ireturn, 1) := by decide +kernel
theorem dX11_seen_37 : decode cX11_seen 37 = .ok (.aload_n 3, 1) := by decide +kernel
theorem dX11_seen_38 : decode cX11_seen 38 = .ok (.getfield 196, 3) := by decide +kernel
theorem dX11_seen_41 : decode cX11_seen 41 = .ok (.aload_n 0, 1) := by decide +kernel
theorem dX11_seen_42 : decode cX11_seen 42 = .ok (.getfield 10, 3) := by decide +kernel
theorem dX11_seen_45 : decode cX11_seen 45 = .ok (.getfield 108, 3) := by decide +kernel
theorem dX11_seen_48 : decode cX11_seen 48 = .ok (.if_icmp .eq 6, 3) := by decide +kernel
theorem dX11_seen_51 : decode cX11_seen 51 = .ok (.bipush (-2), 2) := by decide +kernel
theorem dX11_seen_53 : decode cX11_seen 53 = .ok (.ireturn, 1) := by decide +kernel
theorem dX11_seen_54 : decode cX11_seen 54 = .ok (.aload_n 0, 1) := by decide +kernel
theorem dX11_seen_55 : decode cX11_seen 55 = .ok (.getfield 52, 3) := by decide +kernel
theorem dX11_seen_58 : decode cX11_seen 58 = .ok (.aload_n 0, 1) := by decide +kernel
theorem dX11_seen_59 : decode cX11_seen 59 = .ok (.getfield 10, 3) := by decide +kernel
theorem dX11_seen_62 : decode cX11_seen 62 = .ok (.aload_n 0, 1) := by decide +kernel
theorem dX11_seen_63 : decode cX11_seen 63 = .ok (.invokevirtual 123, 3) := by decide +kernel
theorem dX11_seen_66 : decode cX11_seen 66 = .ok (.invokevirtual 148, 3) := by decide +kernel
theorem dX11_seen_69 : decode cX11_seen 69 = .ok (.aload_n 0, 1) := by decide +kernel
theorem dX11_seen_70 : decode cX11_seen 70 = .ok (.getfield 52, 3) := by decide +kernel
theorem dX11_seen_73 : decode cX11_seen 73 = .ok (.aload_n 3, 1) := by decide +kernel
theorem dX11_seen_74 : decode cX11_seen 74 = .ok (.getfield 199, 3) := by decide +kernel
theorem dX11_seen_77 : decode cX11_seen 77 = .ok (.invokevirtual 202, 3) := by decide +kernel
theorem dX11_seen_80 : decode cX11_seen 80 = .ok (.ifCond .ne 6, 3) := by decide +kernel
theorem dX11_seen_83 : decode cX11_seen 83 = .ok (.bipush (-3), 2) := by decide +kernel
theorem dX11_seen_85 : decode cX11_seen 85 = .ok (.ireturn, 1) := by decide +kernel
theorem dX11_seen_86 : decode cX11_seen 86 = .ok (.iload_n 2, 1) := by decide +kernel
theorem dX11_seen_87 : decode cX11_seen 87 = .ok (.iconst 2, 1) := by decide +kernel
theorem dX11_seen_88 : decode cX11_seen 88 = .ok (.if_icmp .ne 11, 3) := by decide +kernel
theorem dX11_seen_91 : decode cX11_seen 91 = .ok (.aload_n 0, 1) := by decide +kernel
theorem dX11_seen_92 : decode cX11_seen 92 = .ok (.getfield 52, 3) := by decide +kernel
theorem dX11_seen_95 : decode cX11_seen 95 = .ok (.invokevirtual 206, 3) := by decide +kernel
theorem dX11_seen_98 : decode cX11_seen 98 = .ok (.ireturn, 1) := by decide +kernel
theorem dX11_seen_99 : decode cX11_seen 99 = .ok (.aload_n 0, 1) := by decide +kernel
theorem dX11_seen_100 : decode cX11_seen 100 = .ok (.getfield 52, 3) := by decide +kernel
theorem dX11_seen_103 : decode cX11_seen 103 = .ok (.invokevirtual 209, 3) := by decide +kernel
theorem dX11_seen_106 : decode cX11_seen 106 = .ok (.istore 4, 2) := by decide +kernel
theorem dX11_seen_108 : decode cX11_seen 108 = .ok (.iload_n 2, 1) := by decide +kernel
theorem dX11_seen_109 : decode cX11_seen 109 = .ok (.ifCond .ne 11, 3) := by decide +kernel
theorem dX11_seen_112 : decode cX11_seen 112 = .ok (.iload 4, 2) := by decide +kernel
theorem dX11_seen_114 : decode cX11_seen 114 = .ok (.invokestatic 212, 3) := by decide +kernel
theorem dX11_seen_117 : decode cX11_seen 117 = .ok (.goto 8, 3) := by decide +kernel
theorem dX11_seen_120 : decode cX11_seen 120 = .ok (.iload 4, 2) := by decide +kernel
theorem dX11_seen_122 : decode cX11_seen 122 = .ok (.invokestatic 217, 3) := by decide +kernel
theorem dX11_seen_125 : decode cX11_seen 125 = .ok (.ireturn, 1) := by decide +kernel
theorem dX11_film_0 : decode cX11_film 0 = .ok (.iload_n 1, 1) := by decide +kernel
theorem dX11_film_1 : decode cX11_film 1 = .ok (.iconst 4, 1) := by decide +kernel
theorem dX11_film_2 : decode cX11_film 2 = .ok (.invokestatic 104, 3) := by decide +kernel
theorem dX11_film_5 : decode cX11_film 5 = .ok (.ifCond .eq 12, 3) := by decide +kernel
theorem dX11_film_8 : decode cX11_film 8 = .ok (.iload_n 2, 1) := by decide +kernel
theorem dX11_film_9 : decode cX11_film 9 = .ok (.bipush 16, 2) := by decide +kernel
theorem dX11_film_11 : decode cX11_film 11 = .ok (.invokestatic 104, 3) := by decide +kernel
theorem dX11_film_14 : decode cX11_film 14 = .ok (.ifCond .ne 6, 3) := by decide +kernel
theorem dX11_film_17 : decode cX11_film 17 = .ok (.bipush (-2), 2) := by decide +kernel
theorem dX11_film_19 : decode cX11_film 19 = .ok (.ireturn, 1) := by decide +kernel
theorem dX11_film_20 : decode cX11_film 20 = .ok (.aload_n 0, 1) := by decide +kernel
theorem dX11_film_21 : decode cX11_film 21 = .ok (.getfield 52, 3) := by decide +kernel
theorem dX11_film_24 : decode cX11_film 24 = .ok (.aload_n 0, 1) := by decide +kernel
theorem dX11_film_25 : decode cX11_film 25 = .ok (.getfield 10, 3) := by decide +kernel
theorem dX11_film_28 : decode cX11_film 28 = .ok (.aload_n 0, 1) := by decide +kernel
theorem dX11_film_29 : decode cX11_film 29 = .ok (.invokevirtual 123, 3) := by decide +kernel
theorem dX11_film_32 : decode cX11_film 32 = .ok (.invokevirtual 148, 3) := by decide +kernel
theorem dX11_film_35 : decode cX11_film 35 = .ok (.aload_n 0, 1) := by decide +kernel
theorem dX11_film_36 : decode cX11_film 36 = .ok (.getfield 52, 3) := by decide +kernel
theorem dX11_film_39 : decode cX11_film 39 = .ok (.iload_n 2, 1) := by decide +kernel
theorem dX11_film_40 : decode cX11_film 40 = .ok (.iconst 5, 1) := by decide +kernel
theorem dX11_film_41 : decode cX11_film 41 = .ok (.invokevirtual 159, 3) := by decide +kernel
theorem dX11_film_44 : decode cX11_film 44 = .ok (.pop, 1) := by decide +kernel
theorem dX11_film_45 : decode cX11_film 45 = .ok (.aload_n 0, 1) := by decide +kernel
theorem dX11_film_46 : decode cX11_film 46 = .ok (.getfield 45, 3) := by decide +kernel
theorem dX11_film_49 : decode cX11_film 49 = .ok (.iload_n 1, 1) := by decide +kernel
theorem dX11_film_50 : decode cX11_film 50 = .ok (.aaload, 1) := by decide +kernel
theorem dX11_film_51 : decode cX11_film 51 = .ok (.astore_n 3, 1) := by decide +kernel
theorem dX11_film_52 : decode cX11_film 52 = .ok (.aload_n 3, 1) := by decide +kernel
theorem dX11_film_53 : decode cX11_film 53 = .ok (.iconst 0, 1) := by decide +kernel
theorem dX11_film_54 : decode cX11_film 54 = .ok (.aload_n 0, 1) := by decide +kernel
theorem dX11_film_55 : decode cX11_film 55 = .ok (.getfield 10, 3) := by decide +kernel
theorem dX11_film_58 : decode cX11_film 58 = .ok (.getfield 108, 3) := by decide +kernel
theorem dX11_film_61 : decode cX11_film 61 = .ok (.invokevirtual 220, 3) := by decide +kernel
theorem dX11_film_64 : decode cX11_film 64 = .ok (.aload_n 0, 1) := by decide +kernel
theorem dX11_film_65 : decode cX11_film 65 = .ok (.getfield 52, 3) := by decide +kernel
theorem dX11_film_68 : decode cX11_film 68 = .ok (.getfield 162, 3) := by decide +kernel
theorem dX11_film_71 : decode cX11_film 71 = .ok (.iconst 0, 1) := by decide +kernel
theorem dX11_film_72 : decode cX11_film 72 = .ok (.aload_n 3, 1) := by decide +kernel
theorem dX11_film_73 : decode cX11_film 73 = .ok (.getfield 199, 3) := by decide +kernel
theorem dX11_film_76 : decode cX11_film 76 = .ok (.iconst 0, 1) := by decide +kernel
theorem dX11_film_77 : decode cX11_film 77 = .ok (.aload_n 0, 1) := by decide +kernel
theorem dX11_film_78 : decode cX11_film 78 = .ok (.getfield 10, 3) := by decide +kernel
theorem dX11_film_81 : decode cX11_film 81 = .ok (.getfield 108, 3) := by decide +kernel
theorem dX11_film_84 : decode cX11_film 84 = .ok (.invokestatic 223, 3) := by decide +kernel
theorem dX11_film_87 : decode cX11_film 87 = .ok (.aload_n 0, 1) := by decide +kernel
theorem dX11_film_88 : decode cX11_film 88 = .ok (.getfield 10, 3) := by decide +kernel
theorem dX11_film_91 : decode cX11_film 91 = .ok (.getfield 108, 3) := by decide +kernel
theorem dX11_film_94 : decode cX11_film 94 = .ok (.ireturn, 1) := by decide +kernel
theorem dX11_drawn_0 : decode cX11_drawn 0 = .ok (.aload_n 0, 1) := by decide +kernel
theorem dX11_drawn_1 : decode cX11_drawn 1 = .ok (.getfield 52, 3) := by decide +kernel
theorem dX11_drawn_4 : decode cX11_drawn 4 = .ok (.aload_n 0, 1) := by decide +kernel
theorem dX11_drawn_5 : decode cX11_drawn 5 = .ok (.getfield 10, 3) := by decide +kernel
theorem dX11_drawn_8 : decode cX11_drawn 8 = .ok (.aload_n 0, 1) := by decide +kernel
theorem dX11_drawn_9 : decode cX11_drawn 9 = .ok (.invokevirtual 123, 3) := by decide +kernel
theorem dX11_drawn_12 : decode cX11_drawn 12 = .ok (.invokevirtual 148, 3) := by decide +kernel
theorem dX11_drawn_15 : decode cX11_drawn 15 = .ok (.aload_n 0, 1) := by decide +kernel
theorem dX11_drawn_16 : decode cX11_drawn 16 = .ok (.getfield 52, 3) := by decide +kernel
theorem dX11_drawn_19 : decode cX11_drawn 19 = .ok (.iload_n 1, 1) := by decide +kernel
theorem dX11_drawn_20 : decode cX11_drawn 20 = .ok (.invokevirtual 229, 3) := by decide +kernel
theorem dX11_drawn_23 : decode cX11_drawn 23 = .ok (.aload_n 0, 1) := by decide +kernel
theorem dX11_drawn_24 : decode cX11_drawn 24 = .ok (.getfield 52, 3) := by decide +kernel
theorem dX11_drawn_27 : decode cX11_drawn 27 = .ok (.invokevirtual 168, 3) := by decide +kernel
theorem dX11_drawn_30 : decode cX11_drawn 30 = .ok (.ireturn, 1) := by decide +kernel
theorem dX11_chance_0 : decode cX11_chance 0 = .ok (.iload_n 2, 1) := by decide +kernel
theorem dX11_chance_1 : decode cX11_chance 1 = .ok (.iconst 1, 1) := by decide +kernel
theorem dX11_chance_2 : decode cX11_chance 2 = .ok (.if_icmp .lt 17, 3) := by decide +kernel
theorem dX11_chance_5 : decode cX11_chance 5 = .ok (.iload_n 2, 1) := by decide +kernel
theorem dX11_chance_6 : decode cX11_chance 6 = .ok (.bipush 10, 2) := by decide +kernel
theorem dX11_chance_8 : decode cX11_chance 8 = .ok (.if_icmp .gt 11, 3) := by decide +kernel
theorem dX11_chance_11 : decode cX11_chance 11 = .ok (.iload_n 3, 1) := by decide +kernel
theorem dX11_chance_12 : decode cX11_chance 12 = .ok (.iconst 2, 1) := by decide +kernel
theorem dX11_chance_13 : decode cX11_chance 13 = .ok (.invokestatic 104, 3) := by decide +kernel
theorem dX11_chance_16 : decode cX11_chance 16 = .ok (.ifCond .ne 7, 3) := by decide +kernel
theorem dX11_chance_19 : decode cX11_chance 19 = .ok (.ldc2_w 232, 3) := by decide +kernel
theorem dX11_chance_22 : decode cX11_chance 22 = .ok (.lreturn, 1) := by decide +kernel
theorem dX11_chance_23 : decode cX11_chance 23 = .ok (.aload_n 0, 1) := by decide +kernel
theorem dX11_chance_24 : decode cX11_chance 24 = .ok (.getfield 52, 3) := by decide +kernel
theorem dX11_chance_27 : decode cX11_chance 27 = .ok (.aload_n 0, 1) := by decide +kernel
theorem dX11_chance_28 : decode cX11_chance 28 = .ok (.getfield 10, 3) := by decide +kernel
theorem dX11_chance_31 : decode cX11_chance 31 = .ok (.aload_n 0, 1) := by decide +kernel
theorem dX11_chance_32 : decode cX11_chance 32 = .ok (.invokevirtual 123, 3) := by decide +kernel
theorem dX11_chance_35 : decode cX11_chance 35 = .ok (.invokevirtual 148, 3) := by decide +kernel
theorem dX11_chance_38 : decode cX11_chance 38 = .ok (.iconst 0, 1) := by decide +kernel
theorem dX11_chance_39 : decode cX11_chance 39 = .ok (.istore 4, 2) := by decide +kernel
theorem dX11_chance_41 : decode cX11_chance 41 = .ok (.iconst 0, 1) := by decide +kernel
theorem dX11_chance_42 : decode cX11_chance 42 = .ok (.istore 5, 2) := by decide +kernel
theorem dX11_chance_44 : decode cX11_chance 44 = .ok (.iload 5, 2) := by decide +kernel
theorem dX11_chance_46 : decode cX11_chance 46 = .ok (.iload_n 2, 1) := by decide +kernel
theorem dX11_chance_47 : decode cX11_chance 47 = .ok (.if_icmp .ge 40, 3) := by decide +kernel
theorem dX11_chance_50 : decode cX11_chance 50 = .ok (.aload_n 0, 1) := by decide +kernel
theorem dX11_chance_51 : decode cX11_chance 51 = .ok (.getfield 52, 3) := by decide +kernel
theorem dX11_chance_54 : decode cX11_chance 54 = .ok (.iload_n 1, 1) := by decide +kernel
theorem dX11_chance_55 : decode cX11_chance 55 = .ok (.iload 5, 2) := by decide +kernel
theorem dX11_chance_57 : decode cX11_chance 57 = .ok (.iadd, 1) := by decide +kernel
theorem dX11_chance_58 : decode cX11_chance 58 = .ok (.invokevirtual 229, 3) := by decide +kernel
theorem dX11_chance_61 : decode cX11_chance 61 = .ok (.aload_n 0, 1) := by decide +kernel
theorem dX11_chance_62 : decode cX11_chance 62 = .ok (.getfield 52, 3) := by decide +kernel
theorem dX11_chance_65 : decode cX11_chance 65 = .ok (.invokevirtual 165, 3) := by decide +kernel
theorem dX11_chance_68 : decode cX11_chance 68 = .ok (.aload_n 0, 1) := by decide +kernel
theorem dX11_chance_69 : decode cX11_chance 69 = .ok (.getfield 52, 3) := by decide +kernel
theorem dX11_chance_72 : decode cX11_chance 72 = .ok (.invokevirtual 168, 3) := by decide +kernel
theorem dX11_chance_75 : decode cX11_chance 75 = .ok (.if_icmp .gt 6, 3) := by decide +kernel
theorem dX11_chance_78 : decode cX11_chance 78 = .ok (.iinc 4 1, 3) := by decide +kernel
theorem dX11_chance_81 : decode cX11_chance 81 = .ok (.iinc 5 1, 3) := by decide +kernel
theorem dX11_chance_84 : decode cX11_chance 84 = .ok (.goto (-40), 3) := by decide +kernel
theorem dX11_chance_87 : decode cX11_chance 87 = .ok (.iload_n 2, 1) := by decide +kernel
theorem dX11_chance_88 : decode cX11_chance 88 = .ok (.iload 4, 2) := by decide +kernel
theorem dX11_chance_90 : decode cX11_chance 90 = .ok (.invokestatic 234, 3) := by decide +kernel
theorem dX11_chance_93 : decode cX11_chance 93 = .ok (.istore 5, 2) := by decide +kernel
theorem dX11_chance_95 : decode cX11_chance 95 = .ok (.iload_n 3, 1) := by decide +kernel
theorem dX11_chance_96 : decode cX11_chance 96 = .ok (.ifCond .ne 8, 3) := by decide +kernel
theorem dX11_chance_99 : decode cX11_chance 99 = .ok (.iload 4, 2) := by decide +kernel
theorem dX11_chance_101 : decode cX11_chance 101 = .ok (.goto 4, 3) := by decide +kernel
theorem dX11_chance_104 : decode cX11_chance 104 = .ok (.iload_n 2, 1) := by decide +kernel
theorem dX11_chance_105 : decode cX11_chance 105 = .ok (.iload 5, 2) := by decide +kernel
theorem dX11_chance_107 : decode cX11_chance 107 = .ok (.idiv, 1) := by decide +kernel
theorem dX11_chance_108 : decode cX11_chance 108 = .ok (.i2l, 1) := by decide +kernel
theorem dX11_chance_109 : decode cX11_chance 109 = .ok (.lreturn, 1) := by decide +kernel
theorem dX11_image_0 : decode cX11_image 0 = .ok (.aload_n 0, 1) := by decide +kernel
theorem dX11_image_1 : decode cX11_image 1 = .ok (.getfield 16, 3) := by decide +kernel
theorem dX11_image_4 : decode cX11_image 4 = .ok (.ifnonnull 14, 3) := by decide +kernel
theorem dX11_image_7 : decode cX11_image 7 = .ok (.aload_n 0, 1) := by decide +kernel
theorem dX11_image_8 : decode cX11_image 8 = .ok (.new 7, 3) := by decide +kernel
theorem dX11_image_11 : decode cX11_image 11 = .ok (.dup, 1) := by decide +kernel
theorem dX11_image_12 : decode cX11_image 12 = .ok (.invokespecial 9, 3) := by decide +kernel
theorem dX11_image_15 : decode cX11_image 15 = .ok (.putfield 16, 3) := by decide +kernel
theorem dX11_image_18 : decode cX11_image 18 = .ok (.aload_n 0, 1) := by decide +kernel
theorem dX11_image_19 : decode cX11_image 19 = .ok (.getfield 16, 3) := by decide +kernel
theorem dX11_image_22 : decode cX11_image 22 = .ok (.aload_n 0, 1) := by decide +kernel
theorem dX11_image_23 : decode cX11_image 23 = .ok (.getfield 10, 3) := by decide +kernel
theorem dX11_image_26 : decode cX11_image 26 = .ok (.invokevirtual 237, 3) := by decide +kernel
theorem dX11_image_29 : decode cX11_image 29 = .ok (.aload_n 0, 1) := by decide +kernel
theorem dX11_image_30 : decode cX11_image 30 = .ok (.getfield 16, 3) := by decide +kernel
theorem dX11_image_33 : decode cX11_image 33 = .ok (.getfield 108, 3) := by decide +kernel
theorem dX11_image_36 : decode cX11_image 36 = .ok (.ireturn, 1) := by decide +kernel
theorem dX11_back_0 : decode cX11_back 0 = .ok (.aload_n 0, 1) := by decide +kernel
theorem dX11_back_1 : decode cX11_back 1 = .ok (.getfield 16, 3) := by decide +kernel
theorem dX11_back_4 : decode cX11_back 4 = .ok (.ifnonnull 6, 3) := by decide +kernel
theorem dX11_back_7 : decode cX11_back 7 = .ok (.bipush (-3), 2) := by decide +kernel
theorem dX11_back_9 : decode cX11_back 9 = .ok (.ireturn, 1) := by decide +kernel
theorem dX11_back_10 : decode cX11_back 10 = .ok (.aload_n 0, 1) := by decide +kernel
theorem dX11_back_11 : decode cX11_back 11 = .ok (.getfield 10, 3) := by decide +kernel
theorem dX11_back_14 : decode cX11_back 14 = .ok (.aload_n 0, 1) := by decide +kernel
theorem dX11_back_15 : decode cX11_back 15 = .ok (.getfield 16, 3) := by decide +kernel
theorem dX11_back_18 : decode cX11_back 18 = .ok (.invokevirtual 237, 3) := by decide +kernel
theorem dX11_back_21 : decode cX11_back 21 = .ok (.aload_n 0, 1) := by decide +kernel
theorem dX11_back_22 : decode cX11_back 22 = .ok (.getfield 10, 3) := by decide +kernel
theorem dX11_back_25 : decode cX11_back 25 = .ok (.getfield 108, 3) := by decide +kernel
theorem dX11_back_28 : decode cX11_back 28 = .ok (.ireturn, 1) := by decide +kernel
theorem dX11_count_0 : decode cX11_count 0 = .ok (.iload_n 1, 1) := by decide +kernel
theorem dX11_count_1 : decode cX11_count 1 = .ok (.iconst 5, 1) := by decide +kernel
theorem dX11_count_2 : decode cX11_count 2 = .ok (.if_icmp .lt 21, 3) := by decide +kernel
theorem dX11_count_5 : decode cX11_count 5 = .ok (.iload_n 1, 1) := by decide +kernel
theorem dX11_count_6 : decode cX11_count 6 = .ok (.bipush 11, 2) := by decide +kernel
theorem dX11_count_8 : decode cX11_count 8 = .ok (.if_icmp .ge 15, 3) := by decide +kernel
theorem dX11_count_11 : decode cX11_count 11 = .ok (.aload_n 0, 1) := by decide +kernel
theorem dX11_count_12 : decode cX11_count 12 = .ok (.getfield 10, 3) := by decide +kernel
theorem dX11_count_15 : decode cX11_count 15 = .ok (.getfield 77, 3) := by decide +kernel
theorem dX11_count_18 : decode cX11_count 18 = .ok (.iload_n 1, 1) := by decide +kernel
theorem dX11_count_19 : decode cX11_count 19 = .ok (.iconst 5, 1) := by decide +kernel
theorem dX11_count_20 : decode cX11_count 20 = .ok (.isub, 1) := by decide +kernel
theorem dX11_count_21 : decode cX11_count 21 = .ok (.iaload, 1) := by decide +kernel
theorem dX11_count_22 : decode cX11_count 22 = .ok (.ireturn, 1) := by decide +kernel
theorem dX11_count_23 : decode cX11_count 23 = .ok (.iload_n 1, 1) := by decide +kernel
theorem dX11_count_24 : decode cX11_count 24 = .ok (.bipush 11, 2) := by decide +kernel
theorem dX11_count_26 : decode cX11_count 26 = .ok (.if_icmp .lt 22, 3) := by decide +kernel
theorem dX11_count_29 : decode cX11_count 29 = .ok (.iload_n 1, 1) := by decide +kernel
theorem dX11_count_30 : decode cX11_count 30 = .ok (.bipush 15, 2) := by decide +kernel
theorem dX11_count_32 : decode cX11_count 32 = .ok (.if_icmp .ge 16, 3) := by decide +kernel
theorem dX11_count_35 : decode cX11_count 35 = .ok (.aload_n 0, 1) := by decide +kernel
theorem dX11_count_36 : decode cX11_count 36 = .ok (.getfield 10, 3) := by decide +kernel
theorem dX11_count_39 : decode cX11_count 39 = .ok (.getfield 84, 3) := by decide +kernel
theorem dX11_count_42 : decode cX11_count 42 = .ok (.iload_n 1, 1) := by decide +kernel
theorem dX11_count_43 : decode cX11_count 43 = .ok (.bipush 11, 2) := by decide +kernel
theorem dX11_count_45 : decode cX11_count 45 = .ok (.isub, 1) := by decide +kernel
theorem dX11_count_46 : decode cX11_count 46 = .ok (.iaload, 1) := by decide +kernel
theorem dX11_count_47 : decode cX11_count 47 = .ok (.ireturn, 1) := by decide +kernel
theorem dX11_count_48 : decode cX11_count 48 = .ok (.iload_n 1, 1) := by decide +kernel
theorem dX11_count_49 : decode cX11_count 49 = .ok (.bipush 15, 2) := by decide +kernel
theorem dX11_count_51 : decode cX11_count 51 = .ok (.if_icmp .lt 22, 3) := by decide +kernel
theorem dX11_count_54 : decode cX11_count 54 = .ok (.iload_n 1, 1) := by decide +kernel
theorem dX11_count_55 : decode cX11_count 55 = .ok (.bipush 22, 2) := by decide +kernel
theorem dX11_count_57 : decode cX11_count 57 = .ok (.if_icmp .ge 16, 3) := by decide +kernel
theorem dX11_count_60 : decode cX11_count 60 = .ok (.aload_n 0, 1) := by decide +kernel
theorem dX11_count_61 : decode cX11_count 61 = .ok (.getfield 10, 3) := by decide +kernel
theorem dX11_count_64 : decode cX11_count 64 = .ok (.getfield 87, 3) := by decide +kernel
theorem dX11_count_67 : decode cX11_count 67 = .ok (.iload_n 1, 1) := by decide +kernel
theorem dX11_count_68 : decode cX11_count 68 = .ok (.bipush 15, 2) := by decide +kernel
theorem dX11_count_70 : decode cX11_count 70 = .ok (.isub, 1) := by decide +kernel
theorem dX11_count_71 : decode cX11_count 71 = .ok (.iaload, 1) := by decide +kernel
theorem dX11_count_72 : decode cX11_count 72 = .ok (.ireturn, 1) := by decide +kernel
theorem dX11_count_73 : decode cX11_count 73 = .ok (.iload_n 1, 1) := by decide +kernel
theorem dX11_count_74 : decode cX11_count 74 = .ok (.tableswitch 68 0 4 #[34, 42, 50, 55, 60], 34) := by decide +kernel
theorem dX11_count_108 : decode cX11_count 108 = .ok (.aload_n 0, 1) := by decide +kernel
theorem dX11_count_109 : decode cX11_count 109 = .ok (.getfield 10, 3) := by decide +kernel
theorem dX11_count_112 : decode cX11_count 112 = .ok (.getfield 108, 3) := by decide +kernel
theorem dX11_count_115 : decode cX11_count 115 = .ok (.ireturn, 1) := by decide +kernel
theorem dX11_count_116 : decode cX11_count 116 = .ok (.aload_n 0, 1) := by decide +kernel
theorem dX11_count_117 : decode cX11_count 117 = .ok (.getfield 10, 3) := by decide +kernel
theorem dX11_count_120 : decode cX11_count 120 = .ok (.invokevirtual 241, 3) := by decide +kernel
theorem dX11_count_123 : decode cX11_count 123 = .ok (.ireturn, 1) := by decide +kernel
theorem dX11_count_124 : decode cX11_count 124 = .ok (.aload_n 0, 1) := by decide +kernel
theorem dX11_count_125 : decode cX11_count 125 = .ok (.getfield 40, 3) := by decide +kernel
theorem dX11_count_128 : decode cX11_count 128 = .ok (.ireturn, 1) := by decide +kernel
theorem dX11_count_129 : decode cX11_count 129 = .ok (.aload_n 0, 1) := by decide +kernel
theorem dX11_count_130 : decode cX11_count 130 = .ok (.getfield 23, 3) := by decide +kernel
theorem dX11_count_133 : decode cX11_count 133 = .ok (.ireturn, 1) := by decide +kernel
theorem dX11_count_134 : decode cX11_count 134 = .ok (.aload_n 0, 1) := by decide +kernel
theorem dX11_count_135 : decode cX11_count 135 = .ok (.getfield 10, 3) := by decide +kernel
theorem dX11_count_138 : decode cX11_count 138 = .ok (.getfield 146, 3) := by decide +kernel
theorem dX11_count_141 : decode cX11_count 141 = .ok (.ireturn, 1) := by decide +kernel
theorem dX11_count_142 : decode cX11_count 142 = .ok (.bipush (-2), 2) := by decide +kernel
theorem dX11_count_144 : decode cX11_count 144 = .ok (.ireturn, 1) := by decide +kernel
theorem dX11_sheet_0 : decode cX11_sheet 0 = .ok (.iload_n 1, 1) := by decide +kernel
theorem dX11_sheet_1 : decode cX11_sheet 1 = .ok (.iconst 4, 1) := by decide +kernel
theorem dX11_sheet_2 : decode cX11_sheet 2 = .ok (.invokestatic 104, 3) := by decide +kernel
theorem dX11_sheet_5 : decode cX11_sheet 5 = .ok (.ifCond .eq 16, 3) := by decide +kernel
theorem dX11_sheet_8 : decode cX11_sheet 8 = .ok (.iload_n 2, 1) := by decide +kernel
theorem dX11_sheet_9 : decode cX11_sheet 9 = .ok (.iconst (-1), 1) := by decide +kernel
theorem dX11_sheet_10 : decode cX11_sheet 10 = .ok (.if_icmp .eq 14, 3) := by decide +kernel
theorem dX11_sheet_13 : decode cX11_sheet 13 = .ok (.iload_n 2, 1) := by decide +kernel
theorem dX11_sheet_14 : decode cX11_sheet 14 = .ok (.iconst 3, 1) := by decide +kernel
theorem dX11_sheet_15 : decode cX11_sheet 15 = .ok (.invokestatic 104, 3) := by decide +kernel
theorem dX11_sheet_18 : decode cX11_sheet 18 = .ok (.ifCond .ne 6, 3) := by decide +kernel
theorem dX11_sheet_21 : decode cX11_sheet 21 = .ok (.bipush (-2), 2) := by decide +kernel
theorem dX11_sheet_23 : decode cX11_sheet 23 = .ok (.ireturn, 1) := by decide +kernel
theorem dX11_sheet_24 : decode cX11_sheet 24 = .ok (.iload_n 2, 1) := by decide +kernel
theorem dX11_sheet_25 : decode cX11_sheet 25 = .ok (.iconst (-1), 1) := by decide +kernel
theorem dX11_sheet_26 : decode cX11_sheet 26 = .ok (.if_icmp .ne 16, 3) := by decide +kernel
theorem dX11_sheet_29 : decode cX11_sheet 29 = .ok (.aload_n 0, 1) := by decide +kernel
theorem dX11_sheet_30 : decode cX11_sheet 30 = .ok (.getfield 45, 3) := by decide +kernel
theorem dX11_sheet_33 : decode cX11_sheet 33 = .ok (.iload_n 1, 1) := by decide +kernel
theorem dX11_sheet_34 : decode cX11_sheet 34 = .ok (.aaload, 1) := by decide +kernel
theorem dX11_sheet_35 : decode cX11_sheet 35 = .ok (.iconst (-1), 1) := by decide +kernel
theorem dX11_sheet_36 : decode cX11_sheet 36 = .ok (.iconst 0, 1) := by decide +kernel
theorem dX11_sheet_37 : decode cX11_sheet 37 = .ok (.invokevirtual 220, 3) := by decide +kernel
theorem dX11_sheet_40 : decode cX11_sheet 40 = .ok (.iconst 1, 1) := by decide +kernel
theorem dX11_sheet_41 : decode cX11_sheet 41 = .ok (.ireturn, 1) := by decide +kernel
theorem dX11_sheet_42 : decode cX11_sheet 42 = .ok (.iload_n 3, 1) := by decide +kernel
theorem dX11_sheet_43 : decode cX11_sheet 43 = .ok (.bipush 40, 2) := by decide +kernel
theorem dX11_sheet_45 : decode cX11_sheet 45 = .ok (.if_icmp .le 6, 3) := by decide +kernel
theorem dX11_sheet_48 : decode cX11_sheet 48 = .ok (.bipush (-2), 2) := by decide +kernel
theorem dX11_sheet_50 : decode cX11_sheet 50 = .ok (.ireturn, 1) := by decide +kernel
theorem dX11_sheet_51 : decode cX11_sheet 51 = .ok (.iload_n 3, 1) := by decide +kernel
theorem dX11_sheet_52 : decode cX11_sheet 52 = .ok (.ifCond .ge 6, 3) := by decide +kernel
theorem dX11_sheet_55 : decode cX11_sheet 55 = .ok (.bipush (-14), 2) := by decide +kernel
theorem dX11_sheet_57 : decode cX11_sheet 57 = .ok (.ireturn, 1) := by decide +kernel
theorem dX11_sheet_58 : decode cX11_sheet 58 = .ok (.aload_n 0, 1) := by decide +kernel
theorem dX11_sheet_59 : decode cX11_sheet 59 = .ok (.getfield 45, 3) := by decide +kernel
theorem dX11_sheet_62 : decode cX11_sheet 62 = .ok (.iload_n 1, 1) := by decide +kernel
theorem dX11_sheet_63 : decode cX11_sheet 63 = .ok (.aaload, 1) := by decide +kernel
theorem dX11_sheet_64 : decode cX11_sheet 64 = .ok (.iload_n 2, 1) := by decide +kernel
theorem dX11_sheet_65 : decode cX11_sheet 65 = .ok (.iload_n 3, 1) := by decide +kernel
theorem dX11_sheet_66 : decode cX11_sheet 66 = .ok (.invokevirtual 220, 3) := by decide +kernel
theorem dX11_sheet_69 : decode cX11_sheet 69 = .ok (.iconst 1, 1) := by decide +kernel
theorem dX11_sheet_70 : decode cX11_sheet 70 = .ok (.ireturn, 1) := by decide +kernel
theorem dX11_cell_0 : decode cX11_cell 0 = .ok (.iload_n 1, 1) := by decide +kernel
theorem dX11_cell_1 : decode cX11_cell 1 = .ok (.iconst 4, 1) := by decide +kernel
theorem dX11_cell_2 : decode cX11_cell 2 = .ok (.invokestatic 104, 3) := by decide +kernel
theorem dX11_cell_5 : decode cX11_cell 5 = .ok (.ifCond .ne 6, 3) := by decide +kernel
theorem dX11_cell_8 : decode cX11_cell 8 = .ok (.bipush (-2), 2) := by decide +kernel
theorem dX11_cell_10 : decode cX11_cell 10 = .ok (.ireturn, 1) := by decide +kernel
theorem dX11_cell_11 : decode cX11_cell 11 = .ok (.aload_n 0, 1) := by decide +kernel
theorem dX11_cell_12 : decode cX11_cell 12 = .ok (.getfield 45, 3) := by decide +kernel
theorem dX11_cell_15 : decode cX11_cell 15 = .ok (.iload_n 1, 1) := by decide +kernel
theorem dX11_cell_16 : decode cX11_cell 16 = .ok (.aaload, 1) := by decide +kernel
theorem dX11_cell_17 : decode cX11_cell 17 = .ok (.astore 4, 2) := by decide +kernel
theorem dX11_cell_19 : decode cX11_cell 19 = .ok (.aload 4, 2) := by decide +kernel
theorem dX11_cell_21 : decode cX11_cell 21 = .ok (.getfield 193, 3) := by decide +kernel
theorem dX11_cell_24 : decode cX11_cell 24 = .ok (.iconst (-1), 1) := by decide +kernel
theorem dX11_cell_25 : decode cX11_cell 25 = .ok (.if_icmp .ne 6, 3) := by decide +kernel
theorem dX11_cell_28 : decode cX11_cell 28 = .ok (.bipush (-11), 2) := by decide +kernel
theorem dX11_cell_30 : decode cX11_cell 30 = .ok (.ireturn, 1) := by decide +kernel
theorem dX11_cell_31 : decode cX11_cell 31 = .ok (.iload_n 2, 1) := by decide +kernel
theorem dX11_cell_32 : decode cX11_cell 32 = .ok (.aload 4, 2) := by decide +kernel
theorem dX11_cell_34 : decode cX11_cell 34 = .ok (.getfield 196, 3) := by decide +kernel
theorem dX11_cell_37 : decode cX11_cell 37 = .ok (.invokestatic 104, 3) := by decide +kernel
theorem dX11_cell_40 : decode cX11_cell 40 = .ok (.ifCond .ne 6, 3) := by decide +kernel
theorem dX11_cell_43 : decode cX11_cell 43 = .ok (.bipush (-12), 2) := by decide +kernel
theorem dX11_cell_45 : decode cX11_cell 45 = .ok (.ireturn, 1) := by decide +kernel
theorem dX11_cell_46 : decode cX11_cell 46 = .ok (.aload 4, 2) := by decide +kernel
theorem dX11_cell_48 : decode cX11_cell 48 = .ok (.getfield 199, 3) := by decide +kernel
theorem dX11_cell_51 : decode cX11_cell 51 = .ok (.iload_n 2, 1) := by decide +kernel
theorem dX11_cell_52 : decode cX11_cell 52 = .ok (.aload 4, 2) := by decide +kernel
theorem dX11_cell_54 : decode cX11_cell 54 = .ok (.iload_n 3, 1) := by decide +kernel
theorem dX11_cell_55 : decode cX11_cell 55 = .ok (.invokevirtual 244, 3) := by decide +kernel
theorem dX11_cell_58 : decode cX11_cell 58 = .ok (.iastore, 1) := by decide +kernel
theorem dX11_cell_59 : decode cX11_cell 59 = .ok (.iconst 1, 1) := by decide +kernel
theorem dX11_cell_60 : decode cX11_cell 60 = .ok (.ireturn, 1) := by decide +kernel
theorem dX11_copy_0 : decode cX11_copy 0 = .ok (.iload_n 1, 1) := by decide +kernel
theorem dX11_copy_1 : decode cX11_copy 1 = .ok (.iconst 4, 1) := by decide +kernel
theorem dX11_copy_2 : decode cX11_copy 2 = .ok (.invokestatic 104, 3) := by decide +kernel
theorem dX11_copy_5 : decode cX11_copy 5 = .ok (.ifCond .eq 11, 3) := by decide +kernel
theorem dX11_copy_8 : decode cX11_copy 8 = .ok (.iload_n 3, 1) := by decide +kernel
theorem dX11_copy_9 : decode cX11_copy 9 = .ok (.iconst 4, 1) := by decide +kernel
theorem dX11_copy_10 : decode cX11_copy 10 = .ok (.invokestatic 104, 3) := by decide +kernel
theorem dX11_copy_13 : decode cX11_copy 13 = .ok (.ifCond .ne 6, 3) := by decide +kernel
theorem dX11_copy_16 : decode cX11_copy 16 = .ok (.bipush (-2), 2) := by decide +kernel
theorem dX11_copy_18 : decode cX11_copy 18 = .ok (.ireturn, 1) := by decide +kernel
theorem dX11_copy_19 : decode cX11_copy 19 = .ok (.aload_n 0, 1) := by decide +kernel
theorem dX11_copy_20 : decode cX11_copy 20 = .ok (.getfield 45, 3) := by decide +kernel
theorem dX11_copy_23 : decode cX11_copy 23 = .ok (.iload_n 1, 1) := by decide +kernel
theorem dX11_copy_24 : decode cX11_copy 24 = .ok (.aaload, 1) := by decide +kernel
theorem dX11_copy_25 : decode cX11_copy 25 = .ok (.astore 6, 2) := by decide +kernel
theorem dX11_copy_27 : decode cX11_copy 27 = .ok (.aload_n 0, 1) := by decide +kernel
theorem dX11_copy_28 : decode cX11_copy 28 = .ok (.getfield 45, 3) := by decide +kernel
theorem dX11_copy_31 : decode cX11_copy 31 = .ok (.iload_n 3, 1) := by decide +kernel
theorem dX11_copy_32 : decode cX11_copy 32 = .ok (.aaload, 1) := by decide +kernel
theorem dX11_copy_33 : decode cX11_copy 33 = .ok (.astore 7, 2) := by decide +kernel
theorem dX11_copy_35 : decode cX11_copy 35 = .ok (.aload 6, 2) := by decide +kernel
theorem dX11_copy_37 : decode cX11_copy 37 = .ok (.getfield 193, 3) := by decide +kernel
theorem dX11_copy_40 : decode cX11_copy 40 = .ok (.iconst (-1), 1) := by decide +kernel
theorem dX11_copy_41 : decode cX11_copy 41 = .ok (.if_icmp .eq 12, 3) := by decide +kernel
theorem dX11_copy_44 : decode cX11_copy 44 = .ok (.aload 7, 2) := by decide +kernel
theorem dX11_copy_46 : decode cX11_copy 46 = .ok (.getfield 193, 3) := by decide +kernel
theorem dX11_copy_49 : decode cX11_copy 49 = .ok (.iconst (-1), 1) := by decide +kernel
theorem dX11_copy_50 : decode cX11_copy 50 = .ok (.if_icmp .ne 6, 3) := by decide +kernel
theorem dX11_copy_53 : decode cX11_copy 53 = .ok (.bipush (-11), 2) := by decide +kernel
theorem dX11_copy_55 : decode cX11_copy 55 = .ok (.ireturn, 1) := by decide +kernel
theorem dX11_copy_56 : decode cX11_copy 56 = .ok (.aload 6, 2) := by decide +kernel
theorem dX11_copy_58 : decode cX11_copy 58 = .ok (.getfield 193, 3) := by decide +kernel
theorem dX11_copy_61 : decode cX11_copy 61 = .ok (.aload 7, 2) := by decide +kernel
theorem dX11_copy_63 : decode cX11_copy 63 = .ok (.getfield 193, 3) := by decide +kernel
theorem dX11_copy_66 : decode cX11_copy 66 = .ok (.if_icmp .eq 6, 3) := by decide +kernel
theorem dX11_copy_69 : decode cX11_copy 69 = .ok (.bipush (-13), 2) := by decide +kernel
theorem dX11_copy_71 : decode cX11_copy 71 = .ok (.ireturn, 1) := by decide +kernel
theorem dX11_copy_72 : decode cX11_copy 72 = .ok (.aload 6, 2) := by decide +kernel
theorem dX11_copy_74 : decode cX11_copy 74 = .ok (.iload_n 2, 1) := by decide +kernel
theorem dX11_copy_75 : decode cX11_copy 75 = .ok (.iload 5, 2) := by decide +kernel
theorem dX11_copy_77 : decode cX11_copy 77 = .ok (.invokevirtual 247, 3) := by decide +kernel
theorem dX11_copy_80 : decode cX11_copy 80 = .ok (.ifCond .eq 15, 3) := by decide +kernel
theorem dX11_copy_83 : decode cX11_copy 83 = .ok (.aload 7, 2) := by decide +kernel
theorem dX11_copy_85 : decode cX11_copy 85 = .ok (.iload 4, 2) := by decide +kernel
theorem dX11_copy_87 : decode cX11_copy 87 = .ok (.iload 5, 2) := by decide +kernel
theorem dX11_copy_89 : decode cX11_copy 89 = .ok (.invokevirtual 247, 3) := by decide +kernel
theorem dX11_copy_92 : decode cX11_copy 92 = .ok (.ifCond .ne 6, 3) := by decide +kernel
theorem dX11_copy_95 : decode cX11_copy 95 = .ok (.bipush (-12), 2) := by decide +kernel
theorem dX11_copy_97 : decode cX11_copy 97 = .ok (.ireturn, 1) := by decide +kernel
theorem dX11_copy_98 : decode cX11_copy 98 = .ok (.aload 6, 2) := by decide +kernel
theorem dX11_copy_100 : decode cX11_copy 100 = .ok (.getfield 199, 3) := by decide +kernel
theorem dX11_copy_103 : decode cX11_copy 103 = .ok (.iload_n 2, 1) := by decide +kernel
theorem dX11_copy_104 : decode cX11_copy 104 = .ok (.aload 7, 2) := by decide +kernel
theorem dX11_copy_106 : decode cX11_copy 106 = .ok (.getfield 199, 3) := by decide +kernel
theorem dX11_copy_109 : decode cX11_copy 109 = .ok (.iload 4, 2) := by decide +kernel
theorem dX11_copy_111 : decode cX11_copy 111 = .ok (.iload 5, 2) := by decide +kernel
theorem dX11_copy_113 : decode cX11_copy 113 = .ok (.invokestatic 223, 3) := by decide +kernel
theorem dX11_copy_116 : decode cX11_copy 116 = .ok (.iload 5, 2) := by decide +kernel
theorem dX11_copy_118 : decode cX11_copy 118 = .ok (.ireturn, 1) := by decide +kernel
theorem dX11_things_0 : decode cX11_things 0 = .ok (.iload_n 1, 1) := by decide +kernel
theorem dX11_things_1 : decode cX11_things 1 = .ok (.iconst 4, 1) := by decide +kernel
theorem dX11_things_2 : decode cX11_things 2 = .ok (.invokestatic 104, 3) := by decide +kernel
theorem dX11_things_5 : decode cX11_things 5 = .ok (.ifCond .eq 22, 3) := by decide +kernel
theorem dX11_things_8 : decode cX11_things 8 = .ok (.iload_n 2, 1) := by decide +kernel
theorem dX11_things_9 : decode cX11_things 9 = .ok (.iconst 3, 1) := by decide +kernel
theorem dX11_things_10 : decode cX11_things 10 = .ok (.invokestatic 104, 3) := by decide +kernel
theorem dX11_things_13 : decode cX11_things 13 = .ok (.ifCond .eq 14, 3) := by decide +kernel
theorem dX11_things_16 : decode cX11_things 16 = .ok (.iload 4, 2) := by decide +kernel
theorem dX11_things_18 : decode cX11_things 18 = .ok (.ifCond .lt 9, 3) := by decide +kernel
theorem dX11_things_21 : decode cX11_things 21 = .ok (.iload 4, 2) := by decide +kernel
theorem dX11_things_23 : decode cX11_things 23 = .ok (.iconst 5, 1) := by decide +kernel
theorem dX11_things_24 : decode cX11_things 24 = .ok (.if_icmp .le 6, 3) := by decide +kernel
theorem dX11_things_27 : decode cX11_things 27 = .ok (.bipush (-2), 2) := by decide +kernel
theorem dX11_things_29 : decode cX11_things 29 = .ok (.ireturn, 1) := by decide +kernel
theorem dX11_things_30 : decode cX11_things 30 = .ok (.aload_n 0, 1) := by decide +kernel
theorem dX11_things_31 : decode cX11_things 31 = .ok (.getfield 45, 3) := by decide +kernel
theorem dX11_things_34 : decode cX11_things 34 = .ok (.iload_n 1, 1) := by decide +kernel
theorem dX11_things_35 : decode cX11_things 35 = .ok (.aaload, 1) := by decide +kernel
theorem dX11_things_36 : decode cX11_things 36 = .ok (.astore 5, 2) := by decide +kernel
theorem dX11_things_38 : decode cX11_things 38 = .ok (.aload 5, 2) := by decide +kernel
theorem dX11_things_40 : decode cX11_things 40 = .ok (.getfield 193, 3) := by decide +kernel
theorem dX11_things_43 : decode cX11_things 43 = .ok (.iconst (-1), 1) := by decide +kernel
theorem dX11_things_44 : decode cX11_things 44 = .ok (.if_icmp .ne 6, 3) := by decide +kernel
theorem dX11_things_47 : decode cX11_things 47 = .ok (.bipush (-11), 2) := by decide +kernel
theorem dX11_things_49 : decode cX11_things 49 = .ok (.ireturn, 1) := by decide +kernel
theorem dX11_things_50 : decode cX11_things 50 = .ok (.aload 5, 2) := by decide +kernel
theorem dX11_things_52 : decode cX11_things 52 = .ok (.getfield 193, 3) := by decide +kernel
theorem dX11_things_55 : decode cX11_things 55 = .ok (.iload_n 2, 1) := by decide +kernel
theorem dX11_things_56 : decode cX11_things 56 = .ok (.if_icmp .eq 6, 3) := by decide +kernel
theorem dX11_things_59 : decode cX11_things 59 = .ok (.bipush (-13), 2) := by decide +kernel
theorem dX11_things_61 : decode cX11_things 61 = .ok (.ireturn, 1) := by decide +kernel
theorem dX11_things_62 : decode cX11_things 62 = .ok (.iconst 0, 1) := by decide +kernel
theorem dX11_things_63 : decode cX11_things 63 = .ok (.istore 6, 2) := by decide +kernel
theorem dX11_things_65 : decode cX11_things 65 = .ok (.iconst 0, 1) := by decide +kernel
theorem dX11_things_66 : decode cX11_things 66 = .ok (.istore 7, 2) := by decide +kernel
theorem dX11_things_68 : decode cX11_things 68 = .ok (.iload 7, 2) := by decide +kernel
theorem dX11_things_70 : decode cX11_things 70 = .ok (.iload 4, 2) := by decide +kernel
theorem dX11_things_72 : decode cX11_things 72 = .ok (.if_icmp .ge 69, 3) := by decide +kernel
theorem dX11_things_75 : decode cX11_things 75 = .ok (.iload_n 3, 1) := by decide +kernel
theorem dX11_things_76 : decode cX11_things 76 = .ok (.iconst 3, 1) := by decide +kernel
theorem dX11_things_77 : decode cX11_things 77 = .ok (.iload 7, 2) := by decide +kernel
theorem dX11_things_79 : decode cX11_things 79 = .ok (.imul, 1) := by decide +kernel
theorem dX11_things_80 : decode cX11_things 80 = .ok (.iadd, 1) := by decide +kernel
theorem dX11_things_81 : decode cX11_things 81 = .ok (.istore 8, 2) := by decide +kernel
theorem dX11_things_83 : decode cX11_things 83 = .ok (.aload 5, 2) := by decide +kernel
theorem dX11_things_85 : decode cX11_things 85 = .ok (.iload 8, 2) := by decide +kernel
theorem dX11_things_87 : decode cX11_things 87 = .ok (.iconst 3, 1) := by decide +kernel
theorem dX11_things_88 : decode cX11_things 88 = .ok (.invokevirtual 247, 3) := by decide +kernel
theorem dX11_things_91 : decode cX11_things 91 = .ok (.ifCond .ne 6, 3) := by decide +kernel
theorem dX11_things_94 : decode cX11_things 94 = .ok (.bipush (-12), 2) := by decide +kernel
theorem dX11_things_96 : decode cX11_things 96 = .ok (.ireturn, 1) := by decide +kernel
theorem dX11_things_97 : decode cX11_things 97 = .ok (.aload_n 0, 1) := by decide +kernel
theorem dX11_things_98 : decode cX11_things 98 = .ok (.aload 5, 2) := by decide +kernel
theorem dX11_things_100 : decode cX11_things 100 = .ok (.getfield 199, 3) := by decide +kernel
theorem dX11_things_103 : decode cX11_things 103 = .ok (.iload 8, 2) := by decide +kernel
theorem dX11_things_105 : decode cX11_things 105 = .ok (.iaload, 1) := by decide +kernel
theorem dX11_things_106 : decode cX11_things 106 = .ok (.aload 5, 2) := by decide +kernel
theorem dX11_things_108 : decode cX11_things 108 = .ok (.getfield 199, 3) := by decide +kernel
theorem dX11_things_111 : decode cX11_things 111 = .ok (.iload 8, 2) := by decide +kernel
theorem dX11_things_113 : decode cX11_things 113 = .ok (.iconst 1, 1) := by decide +kernel
theorem dX11_things_114 : decode cX11_things 114 = .ok (.iadd, 1) := by decide +kernel
theorem dX11_things_115 : decode cX11_things 115 = .ok (.iaload, 1) := by decide +kernel
theorem dX11_things_116 : decode cX11_things 116 = .ok (.aload 5, 2) := by decide +kernel
theorem dX11_things_118 : decode cX11_things 118 = .ok (.getfield 199, 3) := by decide +kernel
theorem dX11_things_121 : decode cX11_things 121 = .ok (.iload 8, 2) := by decide +kernel
theorem dX11_things_123 : decode cX11_things 123 = .ok (.iconst 2, 1) := by decide +kernel
theorem dX11_things_124 : decode cX11_things 124 = .ok (.iadd, 1) := by decide +kernel
theorem dX11_things_125 : decode cX11_things 125 = .ok (.iaload, 1) := by decide +kernel
theorem dX11_things_126 : decode cX11_things 126 = .ok (.invokevirtual 250, 3) := by decide +kernel
theorem dX11_things_129 : decode cX11_things 129 = .ok (.ifCond .lt 6, 3) := by decide +kernel
theorem dX11_things_132 : decode cX11_things 132 = .ok (.iinc 6 1, 3) := by decide +kernel
theorem dX11_things_135 : decode cX11_things 135 = .ok (.iinc 7 1, 3) := by decide +kernel
theorem dX11_things_138 : decode cX11_things 138 = .ok (.goto (-70), 3) := by decide +kernel
theorem dX11_things_141 : decode cX11_things 141 = .ok (.iload 6, 2) := by decide +kernel
theorem dX11_things_143 : decode cX11_things 143 = .ok (.ireturn, 1) := by decide +kernel
theorem dX11_taken_0 : decode cX11_taken 0 = .ok (.iload_n 2, 1) := by decide +kernel
theorem dX11_taken_1 : decode cX11_taken 1 = .ok (.bipush 6, 2) := by decide +kernel
theorem dX11_taken_3 : decode cX11_taken 3 = .ok (.invokestatic 104, 3) := by decide +kernel
theorem dX11_taken_6 : decode cX11_taken 6 = .ok (.ifCond .ne 6, 3) := by decide +kernel
theorem dX11_taken_9 : decode cX11_taken 9 = .ok (.bipush (-2), 2) := by decide +kernel
theorem dX11_taken_11 : decode cX11_taken 11 = .ok (.ireturn, 1) := by decide +kernel
theorem dX11_taken_12 : decode cX11_taken 12 = .ok (.aload_n 0, 1) := by decide +kernel
theorem dX11_taken_13 : decode cX11_taken 13 = .ok (.getfield 10, 3) := by decide +kernel
theorem dX11_taken_16 : decode cX11_taken 16 = .ok (.iload_n 1, 1) := by decide +kernel
theorem dX11_taken_17 : decode cX11_taken 17 = .ok (.invokevirtual 90, 3) := by decide +kernel
theorem dX11_taken_20 : decode cX11_taken 20 = .ok (.ifCond .ne 6, 3) := by decide +kernel
theorem dX11_taken_23 : decode cX11_taken 23 = .ok (.bipush (-11), 2) := by decide +kernel
theorem dX11_taken_25 : decode cX11_taken 25 = .ok (.ireturn, 1) := by decide +kernel
theorem dX11_taken_26 : decode cX11_taken 26 = .ok (.aload_n 0, 1) := by decide +kernel
theorem dX11_taken_27 : decode cX11_taken 27 = .ok (.getfield 10, 3) := by decide +kernel
theorem dX11_taken_30 : decode cX11_taken 30 = .ok (.getfield 94, 3) := by decide +kernel
theorem dX11_taken_33 : decode cX11_taken 33 = .ok (.iload_n 1, 1) := by decide +kernel
theorem dX11_taken_34 : decode cX11_taken 34 = .ok (.aaload, 1) := by decide +kernel
theorem dX11_taken_35 : decode cX11_taken 35 = .ok (.astore_n 3, 1) := by decide +kernel
theorem dX11_taken_36 : decode cX11_taken 36 = .ok (.aload_n 3, 1) := by decide +kernel
theorem dX11_taken_37 : decode cX11_taken 37 = .ok (.iload_n 2, 1) := by decide +kernel
theorem dX11_taken_38 : decode cX11_taken 38 = .ok (.invokestatic 254, 3) := by decide +kernel
theorem dX11_taken_41 : decode cX11_taken 41 = .ok (.ifCond .eq 10, 3) := by decide +kernel
theorem dX11_taken_44 : decode cX11_taken 44 = .ok (.aload_n 3, 1) := by decide +kernel
theorem dX11_taken_45 : decode cX11_taken 45 = .ok (.getfield 133, 3) := by decide +kernel
theorem dX11_taken_48 : decode cX11_taken 48 = .ok (.goto 5, 3) := by decide +kernel
theorem dX11_taken_51 : decode cX11_taken 51 = .ok (.bipush (-13), 2) := by decide +kernel
theorem dX11_taken_53 : decode cX11_taken 53 = .ok (.ireturn, 1) := by decide +kernel
theorem dX11_rule_0 : decode cX11_rule 0 = .ok (.aload_n 0, 1) := by decide +kernel
theorem dX11_rule_1 : decode cX11_rule 1 = .ok (.getfield 36, 3) := by decide +kernel
theorem dX11_rule_4 : decode cX11_rule 4 = .ok (.aload_n 0, 1) := by decide +kernel
theorem dX11_rule_5 : decode cX11_rule 5 = .ok (.getfield 10, 3) := by decide +kernel
theorem dX11_rule_8 : decode cX11_rule 8 = .ok (.getfield 146, 3) := by decide +kernel
theorem dX11_rule_11 : decode cX11_rule 11 = .ok (.aaload, 1) := by decide +kernel
theorem dX11_rule_12 : decode cX11_rule 12 = .ok (.areturn, 1) := by decide +kernel
theorem dX11_isBelow_0 : decode cX11_isBelow 0 = .ok (.iload_n 0, 1) := by decide +kernel
theorem dX11_isBelow_1 : decode cX11_isBelow 1 = .ok (.ifCond .lt 12, 3) := by decide +kernel
theorem dX11_isBelow_4 : decode cX11_isBelow 4 = .ok (.iload_n 0, 1) := by decide +kernel
theorem dX11_isBelow_5 : decode cX11_isBelow 5 = .ok (.iload_n 1, 1) := by decide +kernel
theorem dX11_isBelow_6 : decode cX11_isBelow 6 = .ok (.if_icmp .ge 7, 3) := by decide +kernel
theorem dX11_isBelow_9 : decode cX11_isBelow 9 = .ok (.iconst 1, 1) := by decide +kernel
theorem dX11_isBelow_10 : decode cX11_isBelow 10 = .ok (.goto 4, 3) := by decide +kernel
theorem dX11_isBelow_13 : decode cX11_isBelow 13 = .ok (.iconst 0, 1) := by decide +kernel
theorem dX11_isBelow_14 : decode cX11_isBelow 14 = .ok (.ireturn, 1) := by decide +kernel
theorem dX11_exchange_0 : decode cX11_exchange 0 = .ok (.iload_n 1, 1) := by decide +kernel
theorem dX11_exchange_1 : decode cX11_exchange 1 = .ok (.aload_n 0, 1) := by decide +kernel
theorem dX11_exchange_2 : decode cX11_exchange 2 = .ok (.arraylength, 1) := by decide +kernel
theorem dX11_exchange_3 : decode cX11_exchange 3 = .ok (.invokestatic 104, 3) := by decide +kernel
theorem dX11_exchange_6 : decode cX11_exchange 6 = .ok (.ifCond .eq 11, 3) := by decide +kernel
theorem dX11_exchange_9 : decode cX11_exchange 9 = .ok (.iload_n 2, 1) := by decide +kernel
theorem dX11_exchange_10 : decode cX11_exchange 10 = .ok (.iload_n 3, 1) := by decide +kernel
theorem dX11_exchange_11 : decode cX11_exchange 11 = .ok (.invokestatic 104, 3) := by decide +kernel
theorem dX11_exchange_14 : decode cX11_exchange 14 = .ok (.ifCond .ne 6, 3) := by decide +kernel
theorem dX11_exchange_17 : decode cX11_exchange 17 = .ok (.bipush (-2), 2) := by decide +kernel
theorem dX11_exchange_19 : decode cX11_exchange 19 = .ok (.ireturn, 1) := by decide +kernel
theorem dX11_exchange_20 : decode cX11_exchange 20 = .ok (.aload_n 0, 1) := by decide +kernel
theorem dX11_exchange_21 : decode cX11_exchange 21 = .ok (.iload_n 1, 1) := by decide +kernel
theorem dX11_exchange_22 : decode cX11_exchange 22 = .ok (.iaload, 1) := by decide +kernel
theorem dX11_exchange_23 : decode cX11_exchange 23 = .ok (.istore 4, 2) := by decide +kernel
theorem dX11_exchange_25 : decode cX11_exchange 25 = .ok (.aload_n 0, 1) := by decide +kernel
theorem dX11_exchange_26 : decode cX11_exchange 26 = .ok (.iload_n 1, 1) := by decide +kernel
theorem dX11_exchange_27 : decode cX11_exchange 27 = .ok (.iload_n 2, 1) := by decide +kernel
theorem dX11_exchange_28 : decode cX11_exchange 28 = .ok (.iastore, 1) := by decide +kernel
theorem dX11_exchange_29 : decode cX11_exchange 29 = .ok (.iload 4, 2) := by decide +kernel
theorem dX11_exchange_31 : decode cX11_exchange 31 = .ok (.ireturn, 1) := by decide +kernel
theorem dX11_made_0 : decode cX11_made 0 = .ok (.iload_n 0, 1) := by decide +kernel
theorem dX11_made_1 : decode cX11_made 1 = .ok (.tableswitch 95 1 5 #[35, 47, 59, 71, 83], 35) := by decide +kernel
theorem dX11_made_36 : decode cX11_made 36 = .ok (.new 258, 3) := by decide +kernel
theorem dX11_made_39 : decode cX11_made 39 = .ok (.dup, 1) := by decide +kernel
theorem dX11_made_40 : decode cX11_made 40 = .ok (.iload_n 0, 1) := by decide +kernel
theorem dX11_made_41 : decode cX11_made 41 = .ok (.iload_n 1, 1) := by decide +kernel
theorem dX11_made_42 : decode cX11_made 42 = .ok (.iload_n 2, 1) := by decide +kernel
theorem dX11_made_43 : decode cX11_made 43 = .ok (.iload_n 3, 1) := by decide +kernel
theorem dX11_made_44 : decode cX11_made 44 = .ok (.invokespecial 260, 3) := by decide +kernel
theorem dX11_made_47 : decode cX11_made 47 = .ok (.areturn, 1) := by decide +kernel
theorem dX11_made_48 : decode cX11_made 48 = .ok (.new 263, 3) := by decide +kernel
theorem dX11_made_51 : decode cX11_made 51 = .ok (.dup, 1) := by decide +kernel
theorem dX11_made_52 : decode cX11_made 52 = .ok (.iload_n 0, 1) := by decide +kernel
theorem dX11_made_53 : decode cX11_made 53 = .ok (.iload_n 1, 1) := by decide +kernel
theorem dX11_made_54 : decode cX11_made 54 = .ok (.iload_n 2, 1) := by decide +kernel
theorem dX11_made_55 : decode cX11_made 55 = .ok (.iload_n 3, 1) := by decide +kernel
theorem dX11_made_56 : decode cX11_made 56 = .ok (.invokespecial 265, 3) := by decide +kernel
theorem dX11_made_59 : decode cX11_made 59 = .ok (.areturn, 1) := by decide +kernel
theorem dX11_made_60 : decode cX11_made 60 = .ok (.new 266, 3) := by decide +kernel
theorem dX11_made_63 : decode cX11_made 63 = .ok (.dup, 1) := by decide +kernel
theorem dX11_made_64 : decode cX11_made 64 = .ok (.iload_n 0, 1) := by decide +kernel
theorem dX11_made_65 : decode cX11_made 65 = .ok (.iload_n 1, 1) := by decide +kernel
theorem dX11_made_66 : decode cX11_made 66 = .ok (.iload_n 2, 1) := by decide +kernel
theorem dX11_made_67 : decode cX11_made 67 = .ok (.iload_n 3, 1) := by decide +kernel
theorem dX11_made_68 : decode cX11_made 68 = .ok (.invokespecial 268, 3) := by decide +kernel
theorem dX11_made_71 : decode cX11_made 71 = .ok (.areturn, 1) := by decide +kernel
theorem dX11_made_72 : decode cX11_made 72 = .ok (.new 269, 3) := by decide +kernel
theorem dX11_made_75 : decode cX11_made 75 = .ok (.dup, 1) := by decide +kernel
theorem dX11_made_76 : decode cX11_made 76 = .ok (.iload_n 0, 1) := by decide +kernel
theorem dX11_made_77 : decode cX11_made 77 = .ok (.iload_n 1, 1) := by decide +kernel
theorem dX11_made_78 : decode cX11_made 78 = .ok (.iload_n 2, 1) := by decide +kernel
theorem dX11_made_79 : decode cX11_made 79 = .ok (.iload_n 3, 1) := by decide +kernel
theorem dX11_made_80 : decode cX11_made 80 = .ok (.invokespecial 271, 3) := by decide +kernel
theorem dX11_made_83 : decode cX11_made 83 = .ok (.areturn, 1) := by decide +kernel
theorem dX11_made_84 : decode cX11_made 84 = .ok (.new 272, 3) := by decide +kernel
theorem dX11_made_87 : decode cX11_made 87 = .ok (.dup, 1) := by decide +kernel
theorem dX11_made_88 : decode cX11_made 88 = .ok (.iload_n 0, 1) := by decide +kernel
theorem dX11_made_89 : decode cX11_made 89 = .ok (.iload_n 1, 1) := by decide +kernel
theorem dX11_made_90 : decode cX11_made 90 = .ok (.iload_n 2, 1) := by decide +kernel
theorem dX11_made_91 : decode cX11_made 91 = .ok (.iload_n 3, 1) := by decide +kernel
theorem dX11_made_92 : decode cX11_made 92 = .ok (.invokespecial 274, 3) := by decide +kernel
theorem dX11_made_95 : decode cX11_made 95 = .ok (.areturn, 1) := by decide +kernel
theorem dX11_made_96 : decode cX11_made 96 = .ok (.new 99, 3) := by decide +kernel
theorem dX11_made_99 : decode cX11_made 99 = .ok (.dup, 1) := by decide +kernel
theorem dX11_made_100 : decode cX11_made 100 = .ok (.iload_n 0, 1) := by decide +kernel
theorem dX11_made_101 : decode cX11_made 101 = .ok (.iload_n 1, 1) := by decide +kernel
theorem dX11_made_102 : decode cX11_made 102 = .ok (.iload_n 2, 1) := by decide +kernel
theorem dX11_made_103 : decode cX11_made 103 = .ok (.iload_n 3, 1) := by decide +kernel
theorem dX11_made_104 : decode cX11_made 104 = .ok (.invokespecial 275, 3) := by decide +kernel
theorem dX11_made_107 : decode cX11_made 107 = .ok (.areturn, 1) := by decide +kernel
theorem dX11_isOf_0 : decode cX11_isOf 0 = .ok (.iload_n 1, 1) := by decide +kernel
theorem dX11_isOf_1 : decode cX11_isOf 1 = .ok (.tableswitch 60 1 5 #[35, 40, 45, 50, 55], 35) := by decide +kernel
theorem dX11_isOf_36 : decode cX11_isOf 36 = .ok (.aload_n 0, 1) := by decide +kernel
theorem dX11_isOf_37 : decode cX11_isOf 37 = .ok (.instanceof 258, 3) := by decide +kernel
theorem dX11_isOf_40 : decode cX11_isOf 40 = .ok (.ireturn, 1) := by decide +kernel
theorem dX11_isOf_41 : decode cX11_isOf 41 = .ok (.aload_n 0, 1) := by decide +kernel
theorem dX11_isOf_42 : decode cX11_isOf 42 = .ok (.instanceof 263, 3) := by decide +kernel
theorem dX11_isOf_45 : decode cX11_isOf 45 = .ok (.ireturn, 1) := by decide +kernel
theorem dX11_isOf_46 : decode cX11_isOf 46 = .ok (.aload_n 0, 1) := by decide +kernel
theorem dX11_isOf_47 : decode cX11_isOf 47 = .ok (.instanceof 266, 3) := by decide +kernel
theorem dX11_isOf_50 : decode cX11_isOf 50 = .ok (.ireturn, 1) := by decide +kernel
theorem dX11_isOf_51 : decode cX11_isOf 51 = .ok (.aload_n 0, 1) := by decide +kernel
theorem dX11_isOf_52 : decode cX11_isOf 52 = .ok (.instanceof 269, 3) := by decide +kernel
theorem dX11_isOf_55 : decode cX11_isOf 55 = .ok (.ireturn, 1) := by decide +kernel
theorem dX11_isOf_56 : decode cX11_isOf 56 = .ok (.aload_n 0, 1) := by decide +kernel
theorem dX11_isOf_57 : decode cX11_isOf 57 = .ok (.instanceof 272, 3) := by decide +kernel
theorem dX11_isOf_60 : decode cX11_isOf 60 = .ok (.ireturn, 1) := by decide +kernel
theorem dX11_isOf_61 : decode cX11_isOf 61 = .ok (.iconst 1, 1) := by decide +kernel
theorem dX11_isOf_62 : decode cX11_isOf 62 = .ok (.ireturn, 1) := by decide +kernel
theorem dX11_viewersOf_0 : decode cX11_viewersOf 0 = .ok (.iconst 0, 1) := by decide +kernel
theorem dX11_viewersOf_1 : decode cX11_viewersOf 1 = .ok (.istore_n 2, 1) := by decide +kernel
theorem dX11_viewersOf_2 : decode cX11_viewersOf 2 = .ok (.iconst 0, 1) := by decide +kernel
theorem dX11_viewersOf_3 : decode cX11_viewersOf 3 = .ok (.istore_n 3, 1) := by decide +kernel
theorem dX11_viewersOf_4 : decode cX11_viewersOf 4 = .ok (.iload_n 3, 1) := by decide +kernel
theorem dX11_viewersOf_5 : decode cX11_viewersOf 5 = .ok (.iconst 4, 1) := by decide +kernel
theorem dX11_viewersOf_6 : decode cX11_viewersOf 6 = .ok (.if_icmp .ge 25, 3) := by decide +kernel
theorem dX11_viewersOf_9 : decode cX11_viewersOf 9 = .ok (.iload_n 0, 1) := by decide +kernel
theorem dX11_viewersOf_10 : decode cX11_viewersOf 10 = .ok (.aload_n 1, 1) := by decide +kernel
theorem dX11_viewersOf_11 : decode cX11_viewersOf 11 = .ok (.iload_n 3, 1) := by decide +kernel
theorem dX11_viewersOf_12 : decode cX11_viewersOf 12 = .ok (.iaload, 1) := by decide +kernel
theorem dX11_viewersOf_13 : decode cX11_viewersOf 13 = .ok (.invokestatic 276, 3) := by decide +kernel
theorem dX11_viewersOf_16 : decode cX11_viewersOf 16 = .ok (.ifCond .eq 9, 3) := by decide +kernel
theorem dX11_viewersOf_19 : decode cX11_viewersOf 19 = .ok (.iload_n 2, 1) := by decide +kernel
theorem dX11_viewersOf_20 : decode cX11_viewersOf 20 = .ok (.iconst 1, 1) := by decide +kernel
theorem dX11_viewersOf_21 : decode cX11_viewersOf 21 = .ok (.iload_n 3, 1) := by decide +kernel
theorem dX11_viewersOf_22 : decode cX11_viewersOf 22 = .ok (.ishl, 1) := by decide +kernel
theorem dX11_viewersOf_23 : decode cX11_viewersOf 23 = .ok (.ior, 1) := by decide +kernel
theorem dX11_viewersOf_24 : decode cX11_viewersOf 24 = .ok (.istore_n 2, 1) := by decide +kernel
theorem dX11_viewersOf_25 : decode cX11_viewersOf 25 = .ok (.iinc 3 1, 3) := by decide +kernel
theorem dX11_viewersOf_28 : decode cX11_viewersOf 28 = .ok (.goto (-24), 3) := by decide +kernel
theorem dX11_viewersOf_31 : decode cX11_viewersOf 31 = .ok (.iload_n 2, 1) := by decide +kernel
theorem dX11_viewersOf_32 : decode cX11_viewersOf 32 = .ok (.ireturn, 1) := by decide +kernel
theorem dX11_hasBit_0 : decode cX11_hasBit 0 = .ok (.iload_n 0, 1) := by decide +kernel
theorem dX11_hasBit_1 : decode cX11_hasBit 1 = .ok (.iload_n 1, 1) := by decide +kernel
theorem dX11_hasBit_2 : decode cX11_hasBit 2 = .ok (.ishr, 1) := by decide +kernel
theorem dX11_hasBit_3 : decode cX11_hasBit 3 = .ok (.iconst 1, 1) := by decide +kernel
theorem dX11_hasBit_4 : decode cX11_hasBit 4 = .ok (.iand, 1) := by decide +kernel
theorem dX11_hasBit_5 : decode cX11_hasBit 5 = .ok (.ifCond .eq 7, 3) := by decide +kernel
theorem dX11_hasBit_8 : decode cX11_hasBit 8 = .ok (.iconst 1, 1) := by decide +kernel
theorem dX11_hasBit_9 : decode cX11_hasBit 9 = .ok (.goto 4, 3) := by decide +kernel
theorem dX11_hasBit_12 : decode cX11_hasBit 12 = .ok (.iconst 0, 1) := by decide +kernel
theorem dX11_hasBit_13 : decode cX11_hasBit 13 = .ok (.ireturn, 1) := by decide +kernel
theorem dX11_lowestBit_0 : decode cX11_lowestBit 0 = .ok (.iconst 0, 1) := by decide +kernel
theorem dX11_lowestBit_1 : decode cX11_lowestBit 1 = .ok (.istore_n 1, 1) := by decide +kernel
theorem dX11_lowestBit_2 : decode cX11_lowestBit 2 = .ok (.iload_n 1, 1) := by decide +kernel
theorem dX11_lowestBit_3 : decode cX11_lowestBit 3 = .ok (.bipush 16, 2) := by decide +kernel
theorem dX11_lowestBit_5 : decode cX11_lowestBit 5 = .ok (.if_icmp .ge 19, 3) := by decide +kernel
theorem dX11_lowestBit_8 : decode cX11_lowestBit 8 = .ok (.iload_n 0, 1) := by decide +kernel
theorem dX11_lowestBit_9 : decode cX11_lowestBit 9 = .ok (.iload_n 1, 1) := by decide +kernel
theorem dX11_lowestBit_10 : decode cX11_lowestBit 10 = .ok (.invokestatic 276, 3) := by decide +kernel
theorem dX11_lowestBit_13 : decode cX11_lowestBit 13 = .ok (.ifCond .eq 5, 3) := by decide +kernel
theorem dX11_lowestBit_16 : decode cX11_lowestBit 16 = .ok (.iload_n 1, 1) := by decide +kernel
theorem dX11_lowestBit_17 : decode cX11_lowestBit 17 = .ok (.ireturn, 1) := by decide +kernel
theorem dX11_lowestBit_18 : decode cX11_lowestBit 18 = .ok (.iinc 1 1, 3) := by decide +kernel
theorem dX11_lowestBit_21 : decode cX11_lowestBit 21 = .ok (.goto (-19), 3) := by decide +kernel
theorem dX11_lowestBit_24 : decode cX11_lowestBit 24 = .ok (.iconst (-1), 1) := by decide +kernel
theorem dX11_lowestBit_25 : decode cX11_lowestBit 25 = .ok (.ireturn, 1) := by decide +kernel
theorem dX11_commonDivisor_0 : decode cX11_commonDivisor 0 = .ok (.iload_n 0, 1) := by decide +kernel
theorem dX11_commonDivisor_1 : decode cX11_commonDivisor 1 = .ok (.iload_n 1, 1) := by decide +kernel
theorem dX11_commonDivisor_2 : decode cX11_commonDivisor 2 = .ok (.invokestatic 279, 3) := by decide +kernel
theorem dX11_commonDivisor_5 : decode cX11_commonDivisor 5 = .ok (.istore_n 2, 1) := by decide +kernel
theorem dX11_commonDivisor_6 : decode cX11_commonDivisor 6 = .ok (.iload_n 2, 1) := by decide +kernel
theorem dX11_commonDivisor_7 : decode cX11_commonDivisor 7 = .ok (.iconst 1, 1) := by decide +kernel
theorem dX11_commonDivisor_8 : decode cX11_commonDivisor 8 = .ok (.if_icmp .le 23, 3) := by decide +kernel
theorem dX11_commonDivisor_11 : decode cX11_commonDivisor 11 = .ok (.iload_n 0, 1) := by decide +kernel
theorem dX11_commonDivisor_12 : decode cX11_commonDivisor 12 = .ok (.iload_n 2, 1) := by decide +kernel
theorem dX11_commonDivisor_13 : decode cX11_commonDivisor 13 = .ok (.irem, 1) := by decide +kernel
theorem dX11_commonDivisor_14 : decode cX11_commonDivisor 14 = .ok (.ifCond .ne 11, 3) := by decide +kernel
theorem dX11_commonDivisor_17 : decode cX11_commonDivisor 17 = .ok (.iload_n 1, 1) := by decide +kernel
theorem dX11_commonDivisor_18 : decode cX11_commonDivisor 18 = .ok (.iload_n 2, 1) := by decide +kernel
theorem dX11_commonDivisor_19 : decode cX11_commonDivisor 19 = .ok (.irem, 1) := by decide +kernel
theorem dX11_commonDivisor_20 : decode cX11_commonDivisor 20 = .ok (.ifCond .ne 5, 3) := by decide +kernel
theorem dX11_commonDivisor_23 : decode cX11_commonDivisor 23 = .ok (.iload_n 2, 1) := by decide +kernel
theorem dX11_commonDivisor_24 : decode cX11_commonDivisor 24 = .ok (.ireturn, 1) := by decide +kernel
theorem dX11_commonDivisor_25 : decode cX11_commonDivisor 25 = .ok (.iinc 2 (-1), 3) := by decide +kernel
theorem dX11_commonDivisor_28 : decode cX11_commonDivisor 28 = .ok (.goto (-22), 3) := by decide +kernel
theorem dX11_commonDivisor_31 : decode cX11_commonDivisor 31 = .ok (.iconst 1, 1) := by decide +kernel
theorem dX11_commonDivisor_32 : decode cX11_commonDivisor 32 = .ok (.ireturn, 1) := by decide +kernel
