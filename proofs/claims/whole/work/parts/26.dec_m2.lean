theorem dX12_isRoom_6 : decode cX12_isRoom 6 = .ok (.getfield 106, 3) := by decide +kernel
theorem dX12_isRoom_9 : decode cX12_isRoom 9 = .ok (.if_icmp .ge 81, 3) := by decide +kernel
theorem dX12_isRoom_12 : decode cX12_isRoom 12 = .ok (.aload_n 0, 1) := by decide +kernel
theorem dX12_isRoom_13 : decode cX12_isRoom 13 = .ok (.getfield 96, 3) := by decide +kernel
theorem dX12_isRoom_16 : decode cX12_isRoom 16 = .ok (.bipush 40, 2) := by decide +kernel
theorem dX12_isRoom_18 : decode cX12_isRoom 18 = .ok (.iload_n 1, 1) := by decide +kernel
theorem dX12_isRoom_19 : decode cX12_isRoom 19 = .ok (.imul, 1) := by decide +kernel
theorem dX12_isRoom_20 : decode cX12_isRoom 20 = .ok (.iload_n 3, 1) := by decide +kernel
theorem dX12_isRoom_21 : decode cX12_isRoom 21 = .ok (.iadd, 1) := by decide +kernel
theorem dX12_isRoom_22 : decode cX12_isRoom 22 = .ok (.iaload, 1) := by decide +kernel
theorem dX12_isRoom_23 : decode cX12_isRoom 23 = .ok (.istore 4, 2) := by decide +kernel
theorem dX12_isRoom_25 : decode cX12_isRoom 25 = .ok (.aload_n 0, 1) := by decide +kernel
theorem dX12_isRoom_26 : decode cX12_isRoom 26 = .ok (.getfield 74, 3) := by decide +kernel
theorem dX12_isRoom_29 : decode cX12_isRoom 29 = .ok (.iload_n 3, 1) := by decide +kernel
theorem dX12_isRoom_30 : decode cX12_isRoom 30 = .ok (.iload 4, 2) := by decide +kernel
theorem dX12_isRoom_32 : decode cX12_isRoom 32 = .ok (.invokestatic 127, 3) := by decide +kernel
theorem dX12_isRoom_35 : decode cX12_isRoom 35 = .ok (.ifCond .eq 8, 3) := by decide +kernel
theorem dX12_isRoom_38 : decode cX12_isRoom 38 = .ok (.iload 4, 2) := by decide +kernel
theorem dX12_isRoom_40 : decode cX12_isRoom 40 = .ok (.goto 4, 3) := by decide +kernel
theorem dX12_isRoom_43 : decode cX12_isRoom 43 = .ok (.iconst (-1), 1) := by decide +kernel
theorem dX12_isRoom_44 : decode cX12_isRoom 44 = .ok (.iastore, 1) := by decide +kernel
theorem dX12_isRoom_45 : decode cX12_isRoom 45 = .ok (.aload_n 0, 1) := by decide +kernel
theorem dX12_isRoom_46 : decode cX12_isRoom 46 = .ok (.getfield 74, 3) := by decide +kernel
theorem dX12_isRoom_49 : decode cX12_isRoom 49 = .ok (.iload_n 3, 1) := by decide +kernel
theorem dX12_isRoom_50 : decode cX12_isRoom 50 = .ok (.iaload, 1) := by decide +kernel
theorem dX12_isRoom_51 : decode cX12_isRoom 51 = .ok (.iconst (-1), 1) := by decide +kernel
theorem dX12_isRoom_52 : decode cX12_isRoom 52 = .ok (.if_icmp .eq 32, 3) := by decide +kernel
theorem dX12_isRoom_55 : decode cX12_isRoom 55 = .ok (.aload_n 0, 1) := by decide +kernel
theorem dX12_isRoom_56 : decode cX12_isRoom 56 = .ok (.iload_n 3, 1) := by decide +kernel
theorem dX12_isRoom_57 : decode cX12_isRoom 57 = .ok (.iload 4, 2) := by decide +kernel
theorem dX12_isRoom_59 : decode cX12_isRoom 59 = .ok (.invokevirtual 130, 3) := by decide +kernel
theorem dX12_isRoom_62 : decode cX12_isRoom 62 = .ok (.ifCond .eq 13, 3) := by decide +kernel
theorem dX12_isRoom_65 : decode cX12_isRoom 65 = .ok (.iload_n 2, 1) := by decide +kernel
theorem dX12_isRoom_66 : decode cX12_isRoom 66 = .ok (.iload 4, 2) := by decide +kernel
theorem dX12_isRoom_68 : decode cX12_isRoom 68 = .ok (.ishr, 1) := by decide +kernel
theorem dX12_isRoom_69 : decode cX12_isRoom 69 = .ok (.iconst 1, 1) := by decide +kernel
theorem dX12_isRoom_70 : decode cX12_isRoom 70 = .ok (.iand, 1) := by decide +kernel
theorem dX12_isRoom_71 : decode cX12_isRoom 71 = .ok (.iconst 1, 1) := by decide +kernel
theorem dX12_isRoom_72 : decode cX12_isRoom 72 = .ok (.if_icmp .ne 5, 3) := by decide +kernel
theorem dX12_isRoom_75 : decode cX12_isRoom 75 = .ok (.iconst 0, 1) := by decide +kernel
theorem dX12_isRoom_76 : decode cX12_isRoom 76 = .ok (.ireturn, 1) := by decide +kernel
theorem dX12_isRoom_77 : decode cX12_isRoom 77 = .ok (.iload_n 2, 1) := by decide +kernel
theorem dX12_isRoom_78 : decode cX12_isRoom 78 = .ok (.iconst 1, 1) := by decide +kernel
theorem dX12_isRoom_79 : decode cX12_isRoom 79 = .ok (.iload 4, 2) := by decide +kernel
theorem dX12_isRoom_81 : decode cX12_isRoom 81 = .ok (.ishl, 1) := by decide +kernel
theorem dX12_isRoom_82 : decode cX12_isRoom 82 = .ok (.ior, 1) := by decide +kernel
theorem dX12_isRoom_83 : decode cX12_isRoom 83 = .ok (.istore_n 2, 1) := by decide +kernel
theorem dX12_isRoom_84 : decode cX12_isRoom 84 = .ok (.iinc 3 1, 3) := by decide +kernel
theorem dX12_isRoom_87 : decode cX12_isRoom 87 = .ok (.goto (-83), 3) := by decide +kernel
theorem dX12_isRoom_90 : decode cX12_isRoom 90 = .ok (.iconst 1, 1) := by decide +kernel
theorem dX12_isRoom_91 : decode cX12_isRoom 91 = .ok (.ireturn, 1) := by decide +kernel
theorem dX12_leastBad_0 : decode cX12_leastBad 0 = .ok (.aload_n 0, 1) := by decide +kernel
theorem dX12_leastBad_1 : decode cX12_leastBad 1 = .ok (.invokevirtual 301, 3) := by decide +kernel
theorem dX12_leastBad_4 : decode cX12_leastBad 4 = .ok (.aload_n 0, 1) := by decide +kernel
theorem dX12_leastBad_5 : decode cX12_leastBad 5 = .ok (.iload_n 1, 1) := by decide +kernel
theorem dX12_leastBad_6 : decode cX12_leastBad 6 = .ok (.invokevirtual 304, 3) := by decide +kernel
theorem dX12_leastBad_9 : decode cX12_leastBad 9 = .ok (.aload_n 0, 1) := by decide +kernel
theorem dX12_leastBad_10 : decode cX12_leastBad 10 = .ok (.iconst 0, 1) := by decide +kernel
theorem dX12_leastBad_11 : decode cX12_leastBad 11 = .ok (.putfield 298, 3) := by decide +kernel
theorem dX12_leastBad_14 : decode cX12_leastBad 14 = .ok (.aload_n 0, 1) := by decide +kernel
theorem dX12_leastBad_15 : decode cX12_leastBad 15 = .ok (.iconst 5, 1) := by decide +kernel
theorem dX12_leastBad_16 : decode cX12_leastBad 16 = .ok (.putfield 295, 3) := by decide +kernel
theorem dX12_leastBad_19 : decode cX12_leastBad 19 = .ok (.aload_n 0, 1) := by decide +kernel
theorem dX12_leastBad_20 : decode cX12_leastBad 20 = .ok (.iconst 0, 1) := by decide +kernel
theorem dX12_leastBad_21 : decode cX12_leastBad 21 = .ok (.iconst 0, 1) := by decide +kernel
theorem dX12_leastBad_22 : decode cX12_leastBad 22 = .ok (.iconst 0, 1) := by decide +kernel
theorem dX12_leastBad_23 : decode cX12_leastBad 23 = .ok (.iconst 0, 1) := by decide +kernel
theorem dX12_leastBad_24 : decode cX12_leastBad 24 = .ok (.invokevirtual 291, 3) := by decide +kernel
theorem dX12_leastBad_27 : decode cX12_leastBad 27 = .ok (.aload_n 0, 1) := by decide +kernel
theorem dX12_leastBad_28 : decode cX12_leastBad 28 = .ok (.getfield 288, 3) := by decide +kernel
theorem dX12_leastBad_31 : decode cX12_leastBad 31 = .ok (.ireturn, 1) := by decide +kernel
theorem dX12_seen_0 : decode cX12_seen 0 = .ok (.iload_n 1, 1) := by decide +kernel
theorem dX12_seen_1 : decode cX12_seen 1 = .ok (.invokestatic 352, 3) := by decide +kernel
theorem dX12_seen_4 : decode cX12_seen 4 = .ok (.ifCond .eq 15, 3) := by decide +kernel
theorem dX12_seen_7 : decode cX12_seen 7 = .ok (.iload_n 2, 1) := by decide +kernel
theorem dX12_seen_8 : decode cX12_seen 8 = .ok (.i2l, 1) := by decide +kernel
theorem dX12_seen_9 : decode cX12_seen 9 = .ok (.lconst 0, 1) := by decide +kernel
theorem dX12_seen_10 : decode cX12_seen 10 = .ok (.ldc2_w 339, 3) := by decide +kernel
theorem dX12_seen_13 : decode cX12_seen 13 = .ok (.invokestatic 109, 3) := by decide +kernel
theorem dX12_seen_16 : decode cX12_seen 16 = .ok (.ifCond .ne 6, 3) := by decide +kernel
theorem dX12_seen_19 : decode cX12_seen 19 = .ok (.bipush (-2), 2) := by decide +kernel
theorem dX12_seen_21 : decode cX12_seen 21 = .ok (.ireturn, 1) := by decide +kernel
theorem dX12_seen_22 : decode cX12_seen 22 = .ok (.aload_n 0, 1) := by decide +kernel
theorem dX12_seen_23 : decode cX12_seen 23 = .ok (.getfield 86, 3) := by decide +kernel
theorem dX12_seen_26 : decode cX12_seen 26 = .ok (.iload_n 1, 1) := by decide +kernel
theorem dX12_seen_27 : decode cX12_seen 27 = .ok (.baload, 1) := by decide +kernel
theorem dX12_seen_28 : decode cX12_seen 28 = .ok (.ifCond .ne 6, 3) := by decide +kernel
theorem dX12_seen_31 : decode cX12_seen 31 = .ok (.bipush (-11), 2) := by decide +kernel
theorem dX12_seen_33 : decode cX12_seen 33 = .ok (.ireturn, 1) := by decide +kernel
theorem dX12_seen_34 : decode cX12_seen 34 = .ok (.aload_n 0, 1) := by decide +kernel
theorem dX12_seen_35 : decode cX12_seen 35 = .ok (.getfield 93, 3) := by decide +kernel
theorem dX12_seen_38 : decode cX12_seen 38 = .ok (.iload_n 1, 1) := by decide +kernel
theorem dX12_seen_39 : decode cX12_seen 39 = .ok (.iaload, 1) := by decide +kernel
theorem dX12_seen_40 : decode cX12_seen 40 = .ok (.aload_n 0, 1) := by decide +kernel
theorem dX12_seen_41 : decode cX12_seen 41 = .ok (.getfield 106, 3) := by decide +kernel
theorem dX12_seen_44 : decode cX12_seen 44 = .ok (.if_icmp .eq 6, 3) := by decide +kernel
theorem dX12_seen_47 : decode cX12_seen 47 = .ok (.bipush (-2), 2) := by decide +kernel
theorem dX12_seen_49 : decode cX12_seen 49 = .ok (.ireturn, 1) := by decide +kernel
theorem dX12_seen_50 : decode cX12_seen 50 = .ok (.aload_n 0, 1) := by decide +kernel
theorem dX12_seen_51 : decode cX12_seen 51 = .ok (.iload_n 1, 1) := by decide +kernel
theorem dX12_seen_52 : decode cX12_seen 52 = .ok (.invokevirtual 355, 3) := by decide +kernel
theorem dX12_seen_55 : decode cX12_seen 55 = .ok (.ifCond .ne 6, 3) := by decide +kernel
theorem dX12_seen_58 : decode cX12_seen 58 = .ok (.bipush (-3), 2) := by decide +kernel
theorem dX12_seen_60 : decode cX12_seen 60 = .ok (.ireturn, 1) := by decide +kernel
theorem dX12_seen_61 : decode cX12_seen 61 = .ok (.aload_n 0, 1) := by decide +kernel
theorem dX12_seen_62 : decode cX12_seen 62 = .ok (.invokevirtual 311, 3) := by decide +kernel
theorem dX12_seen_65 : decode cX12_seen 65 = .ok (.aload_n 0, 1) := by decide +kernel
theorem dX12_seen_66 : decode cX12_seen 66 = .ok (.invokevirtual 317, 3) := by decide +kernel
theorem dX12_seen_69 : decode cX12_seen 69 = .ok (.iconst 0, 1) := by decide +kernel
theorem dX12_seen_70 : decode cX12_seen 70 = .ok (.istore_n 3, 1) := by decide +kernel
theorem dX12_seen_71 : decode cX12_seen 71 = .ok (.iload_n 2, 1) := by decide +kernel
theorem dX12_seen_72 : decode cX12_seen 72 = .ok (.iconst 2, 1) := by decide +kernel
theorem dX12_seen_73 : decode cX12_seen 73 = .ok (.if_icmp .ne 69, 3) := by decide +kernel
theorem dX12_seen_76 : decode cX12_seen 76 = .ok (.iconst 0, 1) := by decide +kernel
theorem dX12_seen_77 : decode cX12_seen 77 = .ok (.istore 4, 2) := by decide +kernel
theorem dX12_seen_79 : decode cX12_seen 79 = .ok (.iload 4, 2) := by decide +kernel
theorem dX12_seen_81 : decode cX12_seen 81 = .ok (.aload_n 0, 1) := by decide +kernel
theorem dX12_seen_82 : decode cX12_seen 82 = .ok (.getfield 106, 3) := by decide +kernel
theorem dX12_seen_85 : decode cX12_seen 85 = .ok (.if_icmp .ge 55, 3) := by decide +kernel
theorem dX12_seen_88 : decode cX12_seen 88 = .ok (.iload_n 3, 1) := by decide +kernel
theorem dX12_seen_89 : decode cX12_seen 89 = .ok (.aload_n 0, 1) := by decide +kernel
theorem dX12_seen_90 : decode cX12_seen 90 = .ok (.iload 4, 2) := by decide +kernel
theorem dX12_seen_92 : decode cX12_seen 92 = .ok (.invokevirtual 270, 3) := by decide +kernel
theorem dX12_seen_95 : decode cX12_seen 95 = .ok (.ifCond .le 28, 3) := by decide +kernel
theorem dX12_seen_98 : decode cX12_seen 98 = .ok (.aload_n 0, 1) := by decide +kernel
theorem dX12_seen_99 : decode cX12_seen 99 = .ok (.aload_n 0, 1) := by decide +kernel
theorem dX12_seen_100 : decode cX12_seen 100 = .ok (.getfield 38, 3) := by decide +kernel
theorem dX12_seen_103 : decode cX12_seen 103 = .ok (.iload 4, 2) := by decide +kernel
theorem dX12_seen_105 : decode cX12_seen 105 = .ok (.iaload, 1) := by decide +kernel
theorem dX12_seen_106 : decode cX12_seen 106 = .ok (.aload_n 0, 1) := by decide +kernel
theorem dX12_seen_107 : decode cX12_seen 107 = .ok (.getfield 74, 3) := by decide +kernel
theorem dX12_seen_110 : decode cX12_seen 110 = .ok (.iload 4, 2) := by decide +kernel
theorem dX12_seen_112 : decode cX12_seen 112 = .ok (.iaload, 1) := by decide +kernel
theorem dX12_seen_113 : decode cX12_seen 113 = .ok (.invokevirtual 140, 3) := by decide +kernel
theorem dX12_seen_116 : decode cX12_seen 116 = .ok (.ifCond .ne 7, 3) := by decide +kernel
theorem dX12_seen_119 : decode cX12_seen 119 = .ok (.iconst 1, 1) := by decide +kernel
theorem dX12_seen_120 : decode cX12_seen 120 = .ok (.goto 4, 3) := by decide +kernel
theorem dX12_seen_123 : decode cX12_seen 123 = .ok (.iconst 0, 1) := by decide +kernel
theorem dX12_seen_124 : decode cX12_seen 124 = .ok (.aload_n 0, 1) := by decide +kernel
theorem dX12_seen_125 : decode cX12_seen 125 = .ok (.getfield 38, 3) := by decide +kernel
theorem dX12_seen_128 : decode cX12_seen 128 = .ok (.iload 4, 2) := by decide +kernel
theorem dX12_seen_130 : decode cX12_seen 130 = .ok (.iaload, 1) := by decide +kernel
theorem dX12_seen_131 : decode cX12_seen 131 = .ok (.ishl, 1) := by decide +kernel
theorem dX12_seen_132 : decode cX12_seen 132 = .ok (.ior, 1) := by decide +kernel
theorem dX12_seen_133 : decode cX12_seen 133 = .ok (.istore_n 3, 1) := by decide +kernel
theorem dX12_seen_134 : decode cX12_seen 134 = .ok (.iinc 4 1, 3) := by decide +kernel
theorem dX12_seen_137 : decode cX12_seen 137 = .ok (.goto (-58), 3) := by decide +kernel
theorem dX12_seen_140 : decode cX12_seen 140 = .ok (.iload_n 3, 1) := by decide +kernel
theorem dX12_seen_141 : decode cX12_seen 141 = .ok (.ireturn, 1) := by decide +kernel
theorem dX12_seen_142 : decode cX12_seen 142 = .ok (.iconst 0, 1) := by decide +kernel
theorem dX12_seen_143 : decode cX12_seen 143 = .ok (.istore 4, 2) := by decide +kernel
theorem dX12_seen_145 : decode cX12_seen 145 = .ok (.iconst (-1), 1) := by decide +kernel
theorem dX12_seen_146 : decode cX12_seen 146 = .ok (.istore 5, 2) := by decide +kernel
theorem dX12_seen_148 : decode cX12_seen 148 = .ok (.iconst 0, 1) := by decide +kernel
theorem dX12_seen_149 : decode cX12_seen 149 = .ok (.istore 6, 2) := by decide +kernel
theorem dX12_seen_151 : decode cX12_seen 151 = .ok (.iload 6, 2) := by decide +kernel
theorem dX12_seen_153 : decode cX12_seen 153 = .ok (.bipush 16, 2) := by decide +kernel
theorem dX12_seen_155 : decode cX12_seen 155 = .ok (.if_icmp .ge 81, 3) := by decide +kernel
theorem dX12_seen_158 : decode cX12_seen 158 = .ok (.iconst 0, 1) := by decide +kernel
theorem dX12_seen_159 : decode cX12_seen 159 = .ok (.istore 7, 2) := by decide +kernel
theorem dX12_seen_161 : decode cX12_seen 161 = .ok (.iconst 0, 1) := by decide +kernel
theorem dX12_seen_162 : decode cX12_seen 162 = .ok (.istore 8, 2) := by decide +kernel
theorem dX12_seen_164 : decode cX12_seen 164 = .ok (.iload 8, 2) := by decide +kernel
theorem dX12_seen_166 : decode cX12_seen 166 = .ok (.aload_n 0, 1) := by decide +kernel
theorem dX12_seen_167 : decode cX12_seen 167 = .ok (.getfield 106, 3) := by decide +kernel
theorem dX12_seen_170 : decode cX12_seen 170 = .ok (.if_icmp .ge 31, 3) := by decide +kernel
theorem dX12_seen_173 : decode cX12_seen 173 = .ok (.iload 7, 2) := by decide +kernel
theorem dX12_seen_175 : decode cX12_seen 175 = .ok (.aload_n 0, 1) := by decide +kernel
theorem dX12_seen_176 : decode cX12_seen 176 = .ok (.iload 8, 2) := by decide +kernel
theorem dX12_seen_178 : decode cX12_seen 178 = .ok (.aload_n 0, 1) := by decide +kernel
theorem dX12_seen_179 : decode cX12_seen 179 = .ok (.getfield 74, 3) := by decide +kernel
theorem dX12_seen_182 : decode cX12_seen 182 = .ok (.iload 8, 2) := by decide +kernel
theorem dX12_seen_184 : decode cX12_seen 184 = .ok (.iaload, 1) := by decide +kernel
theorem dX12_seen_185 : decode cX12_seen 185 = .ok (.iconst 1, 1) := by decide +kernel
theorem dX12_seen_186 : decode cX12_seen 186 = .ok (.iadd, 1) := by decide +kernel
theorem dX12_seen_187 : decode cX12_seen 187 = .ok (.iload 6, 2) := by decide +kernel
theorem dX12_seen_189 : decode cX12_seen 189 = .ok (.invokevirtual 285, 3) := by decide +kernel
theorem dX12_seen_192 : decode cX12_seen 192 = .ok (.iadd, 1) := by decide +kernel
theorem dX12_seen_193 : decode cX12_seen 193 = .ok (.istore 7, 2) := by decide +kernel
theorem dX12_seen_195 : decode cX12_seen 195 = .ok (.iinc 8 1, 3) := by decide +kernel
theorem dX12_seen_198 : decode cX12_seen 198 = .ok (.goto (-34), 3) := by decide +kernel
theorem dX12_seen_201 : decode cX12_seen 201 = .ok (.iload 7, 2) := by decide +kernel
theorem dX12_seen_203 : decode cX12_seen 203 = .ok (.aload_n 0, 1) := by decide +kernel
theorem dX12_seen_204 : decode cX12_seen 204 = .ok (.iload 6, 2) := by decide +kernel
theorem dX12_seen_206 : decode cX12_seen 206 = .ok (.invokevirtual 358, 3) := by decide +kernel
theorem dX12_seen_209 : decode cX12_seen 209 = .ok (.if_icmp .ne 21, 3) := by decide +kernel
theorem dX12_seen_212 : decode cX12_seen 212 = .ok (.iinc 4 1, 3) := by decide +kernel
theorem dX12_seen_215 : decode cX12_seen 215 = .ok (.iload 5, 2) := by decide +kernel
theorem dX12_seen_217 : decode cX12_seen 217 = .ok (.iconst (-1), 1) := by decide +kernel
theorem dX12_seen_218 : decode cX12_seen 218 = .ok (.if_icmp .ne 8, 3) := by decide +kernel
theorem dX12_seen_221 : decode cX12_seen 221 = .ok (.iload 6, 2) := by decide +kernel
theorem dX12_seen_223 : decode cX12_seen 223 = .ok (.goto 5, 3) := by decide +kernel
theorem dX12_seen_226 : decode cX12_seen 226 = .ok (.iload 5, 2) := by decide +kernel
theorem dX12_seen_228 : decode cX12_seen 228 = .ok (.istore 5, 2) := by decide +kernel
theorem dX12_seen_230 : decode cX12_seen 230 = .ok (.iinc 6 1, 3) := by decide +kernel
theorem dX12_seen_233 : decode cX12_seen 233 = .ok (.goto (-82), 3) := by decide +kernel
theorem dX12_seen_236 : decode cX12_seen 236 = .ok (.iload_n 2, 1) := by decide +kernel
theorem dX12_seen_237 : decode cX12_seen 237 = .ok (.ifCond .ne 8, 3) := by decide +kernel
theorem dX12_seen_240 : decode cX12_seen 240 = .ok (.iload 4, 2) := by decide +kernel
theorem dX12_seen_242 : decode cX12_seen 242 = .ok (.goto 5, 3) := by decide +kernel
theorem dX12_seen_245 : decode cX12_seen 245 = .ok (.iload 5, 2) := by decide +kernel
theorem dX12_seen_247 : decode cX12_seen 247 = .ok (.ireturn, 1) := by decide +kernel
theorem dX12_film_0 : decode cX12_film 0 = .ok (.iload_n 1, 1) := by decide +kernel
theorem dX12_film_1 : decode cX12_film 1 = .ok (.invokestatic 352, 3) := by decide +kernel
theorem dX12_film_4 : decode cX12_film 4 = .ok (.ifCond .eq 10, 3) := by decide +kernel
theorem dX12_film_7 : decode cX12_film 7 = .ok (.iload_n 2, 1) := by decide +kernel
theorem dX12_film_8 : decode cX12_film 8 = .ok (.invokestatic 308, 3) := by decide +kernel
theorem dX12_film_11 : decode cX12_film 11 = .ok (.ifCond .ne 6, 3) := by decide +kernel
theorem dX12_film_14 : decode cX12_film 14 = .ok (.bipush (-2), 2) := by decide +kernel
theorem dX12_film_16 : decode cX12_film 16 = .ok (.ireturn, 1) := by decide +kernel
theorem dX12_film_17 : decode cX12_film 17 = .ok (.aload_n 0, 1) := by decide +kernel
theorem dX12_film_18 : decode cX12_film 18 = .ok (.iload_n 2, 1) := by decide +kernel
theorem dX12_film_19 : decode cX12_film 19 = .ok (.iconst 5, 1) := by decide +kernel
theorem dX12_film_20 : decode cX12_film 20 = .ok (.iconst (-1), 1) := by decide +kernel
theorem dX12_film_21 : decode cX12_film 21 = .ok (.invokevirtual 324, 3) := by decide +kernel
theorem dX12_film_24 : decode cX12_film 24 = .ok (.pop, 1) := by decide +kernel
theorem dX12_film_25 : decode cX12_film 25 = .ok (.aload_n 0, 1) := by decide +kernel
theorem dX12_film_26 : decode cX12_film 26 = .ok (.iload_n 1, 1) := by decide +kernel
theorem dX12_film_27 : decode cX12_film 27 = .ok (.iconst 0, 1) := by decide +kernel
theorem dX12_film_28 : decode cX12_film 28 = .ok (.aload_n 0, 1) := by decide +kernel
theorem dX12_film_29 : decode cX12_film 29 = .ok (.getfield 106, 3) := by decide +kernel
theorem dX12_film_32 : decode cX12_film 32 = .ok (.invokevirtual 361, 3) := by decide +kernel
theorem dX12_film_35 : decode cX12_film 35 = .ok (.pop, 1) := by decide +kernel
theorem dX12_film_36 : decode cX12_film 36 = .ok (.iconst 0, 1) := by decide +kernel
theorem dX12_film_37 : decode cX12_film 37 = .ok (.istore_n 3, 1) := by decide +kernel
theorem dX12_film_38 : decode cX12_film 38 = .ok (.iload_n 3, 1) := by decide +kernel
theorem dX12_film_39 : decode cX12_film 39 = .ok (.aload_n 0, 1) := by decide +kernel
theorem dX12_film_40 : decode cX12_film 40 = .ok (.getfield 106, 3) := by decide +kernel
theorem dX12_film_43 : decode cX12_film 43 = .ok (.if_icmp .ge 26, 3) := by decide +kernel
theorem dX12_film_46 : decode cX12_film 46 = .ok (.aload_n 0, 1) := by decide +kernel
theorem dX12_film_47 : decode cX12_film 47 = .ok (.getfield 96, 3) := by decide +kernel
theorem dX12_film_50 : decode cX12_film 50 = .ok (.bipush 40, 2) := by decide +kernel
theorem dX12_film_52 : decode cX12_film 52 = .ok (.iload_n 1, 1) := by decide +kernel
theorem dX12_film_53 : decode cX12_film 53 = .ok (.imul, 1) := by decide +kernel
theorem dX12_film_54 : decode cX12_film 54 = .ok (.iload_n 3, 1) := by decide +kernel
theorem dX12_film_55 : decode cX12_film 55 = .ok (.iadd, 1) := by decide +kernel
theorem dX12_film_56 : decode cX12_film 56 = .ok (.aload_n 0, 1) := by decide +kernel
theorem dX12_film_57 : decode cX12_film 57 = .ok (.getfield 65, 3) := by decide +kernel
theorem dX12_film_60 : decode cX12_film 60 = .ok (.iload_n 3, 1) := by decide +kernel
theorem dX12_film_61 : decode cX12_film 61 = .ok (.iaload, 1) := by decide +kernel
theorem dX12_film_62 : decode cX12_film 62 = .ok (.iastore, 1) := by decide +kernel
theorem dX12_film_63 : decode cX12_film 63 = .ok (.iinc 3 1, 3) := by decide +kernel
theorem dX12_film_66 : decode cX12_film 66 = .ok (.goto (-28), 3) := by decide +kernel
theorem dX12_film_69 : decode cX12_film 69 = .ok (.aload_n 0, 1) := by decide +kernel
theorem dX12_film_70 : decode cX12_film 70 = .ok (.getfield 106, 3) := by decide +kernel
theorem dX12_film_73 : decode cX12_film 73 = .ok (.ireturn, 1) := by decide +kernel
theorem dX12_draws_0 : decode cX12_draws 0 = .ok (.iload_n 1, 1) := by decide +kernel
theorem dX12_draws_1 : decode cX12_draws 1 = .ok (.istore_n 2, 1) := by decide +kernel
theorem dX12_draws_2 : decode cX12_draws 2 = .ok (.iconst 0, 1) := by decide +kernel
theorem dX12_draws_3 : decode cX12_draws 3 = .ok (.istore_n 3, 1) := by decide +kernel
theorem dX12_draws_4 : decode cX12_draws 4 = .ok (.iload_n 3, 1) := by decide +kernel
theorem dX12_draws_5 : decode cX12_draws 5 = .ok (.bipush 7, 2) := by decide +kernel
theorem dX12_draws_7 : decode cX12_draws 7 = .ok (.if_icmp .ge 32, 3) := by decide +kernel
theorem dX12_draws_10 : decode cX12_draws 10 = .ok (.iload_n 2, 1) := by decide +kernel
theorem dX12_draws_11 : decode cX12_draws 11 = .ok (.ldc_w 364, 3) := by decide +kernel
theorem dX12_draws_14 : decode cX12_draws 14 = .ok (.imul, 1) := by decide +kernel
theorem dX12_draws_15 : decode cX12_draws 15 = .ok (.sipush 12345, 3) := by decide +kernel
theorem dX12_draws_18 : decode cX12_draws 18 = .ok (.iadd, 1) := by decide +kernel
theorem dX12_draws_19 : decode cX12_draws 19 = .ok (.istore_n 2, 1) := by decide +kernel
theorem dX12_draws_20 : decode cX12_draws 20 = .ok (.aload_n 0, 1) := by decide +kernel
theorem dX12_draws_21 : decode cX12_draws 21 = .ok (.getfield 29, 3) := by decide +kernel
theorem dX12_draws_24 : decode cX12_draws 24 = .ok (.iload_n 3, 1) := by decide +kernel
theorem dX12_draws_25 : decode cX12_draws 25 = .ok (.iload_n 2, 1) := by decide +kernel
theorem dX12_draws_26 : decode cX12_draws 26 = .ok (.bipush 9, 2) := by decide +kernel
theorem dX12_draws_28 : decode cX12_draws 28 = .ok (.iushr, 1) := by decide +kernel
theorem dX12_draws_29 : decode cX12_draws 29 = .ok (.bipush 16, 2) := by decide +kernel
theorem dX12_draws_31 : decode cX12_draws 31 = .ok (.irem, 1) := by decide +kernel
theorem dX12_draws_32 : decode cX12_draws 32 = .ok (.iastore, 1) := by decide +kernel
theorem dX12_draws_33 : decode cX12_draws 33 = .ok (.iinc 3 1, 3) := by decide +kernel
theorem dX12_draws_36 : decode cX12_draws 36 = .ok (.goto (-32), 3) := by decide +kernel
theorem dX12_draws_39 : decode cX12_draws 39 = .ok (.return_, 1) := by decide +kernel
theorem dX12_drawn_0 : decode cX12_drawn 0 = .ok (.aload_n 0, 1) := by decide +kernel
theorem dX12_drawn_1 : decode cX12_drawn 1 = .ok (.invokevirtual 311, 3) := by decide +kernel
theorem dX12_drawn_4 : decode cX12_drawn 4 = .ok (.aload_n 0, 1) := by decide +kernel
theorem dX12_drawn_5 : decode cX12_drawn 5 = .ok (.invokevirtual 344, 3) := by decide +kernel
theorem dX12_drawn_8 : decode cX12_drawn 8 = .ok (.aload_n 0, 1) := by decide +kernel
theorem dX12_drawn_9 : decode cX12_drawn 9 = .ok (.iload_n 1, 1) := by decide +kernel
theorem dX12_drawn_10 : decode cX12_drawn 10 = .ok (.invokevirtual 365, 3) := by decide +kernel
theorem dX12_drawn_13 : decode cX12_drawn 13 = .ok (.aload_n 0, 1) := by decide +kernel
theorem dX12_drawn_14 : decode cX12_drawn 14 = .ok (.invokevirtual 341, 3) := by decide +kernel
theorem dX12_drawn_17 : decode cX12_drawn 17 = .ok (.aload_n 0, 1) := by decide +kernel
theorem dX12_drawn_18 : decode cX12_drawn 18 = .ok (.invokevirtual 347, 3) := by decide +kernel
theorem dX12_drawn_21 : decode cX12_drawn 21 = .ok (.aload_n 0, 1) := by decide +kernel
theorem dX12_drawn_22 : decode cX12_drawn 22 = .ok (.getfield 330, 3) := by decide +kernel
theorem dX12_drawn_25 : decode cX12_drawn 25 = .ok (.ireturn, 1) := by decide +kernel
theorem dX12_chance_0 : decode cX12_chance 0 = .ok (.iload_n 2, 1) := by decide +kernel
theorem dX12_chance_1 : decode cX12_chance 1 = .ok (.i2l, 1) := by decide +kernel
theorem dX12_chance_2 : decode cX12_chance 2 = .ok (.lconst 1, 1) := by decide +kernel
theorem dX12_chance_3 : decode cX12_chance 3 = .ok (.ldc2_w 179, 3) := by decide +kernel
theorem dX12_chance_6 : decode cX12_chance 6 = .ok (.invokestatic 109, 3) := by decide +kernel
theorem dX12_chance_9 : decode cX12_chance 9 = .ok (.ifCond .eq 13, 3) := by decide +kernel
theorem dX12_chance_12 : decode cX12_chance 12 = .ok (.iload_n 3, 1) := by decide +kernel
theorem dX12_chance_13 : decode cX12_chance 13 = .ok (.i2l, 1) := by decide +kernel
theorem dX12_chance_14 : decode cX12_chance 14 = .ok (.lconst 0, 1) := by decide +kernel
theorem dX12_chance_15 : decode cX12_chance 15 = .ok (.lconst 1, 1) := by decide +kernel
theorem dX12_chance_16 : decode cX12_chance 16 = .ok (.invokestatic 109, 3) := by decide +kernel
theorem dX12_chance_19 : decode cX12_chance 19 = .ok (.ifCond .ne 7, 3) := by decide +kernel
theorem dX12_chance_22 : decode cX12_chance 22 = .ok (.ldc2_w 368, 3) := by decide +kernel
theorem dX12_chance_25 : decode cX12_chance 25 = .ok (.lreturn, 1) := by decide +kernel
theorem dX12_chance_26 : decode cX12_chance 26 = .ok (.aload_n 0, 1) := by decide +kernel
theorem dX12_chance_27 : decode cX12_chance 27 = .ok (.invokevirtual 311, 3) := by decide +kernel
theorem dX12_chance_30 : decode cX12_chance 30 = .ok (.aload_n 0, 1) := by decide +kernel
theorem dX12_chance_31 : decode cX12_chance 31 = .ok (.invokevirtual 344, 3) := by decide +kernel
theorem dX12_chance_34 : decode cX12_chance 34 = .ok (.lconst 0, 1) := by decide +kernel
theorem dX12_chance_35 : decode cX12_chance 35 = .ok (.lstore 4, 2) := by decide +kernel
theorem dX12_chance_37 : decode cX12_chance 37 = .ok (.iconst 0, 1) := by decide +kernel
theorem dX12_chance_38 : decode cX12_chance 38 = .ok (.istore 6, 2) := by decide +kernel
theorem dX12_chance_40 : decode cX12_chance 40 = .ok (.iload 6, 2) := by decide +kernel
theorem dX12_chance_42 : decode cX12_chance 42 = .ok (.iload_n 2, 1) := by decide +kernel
theorem dX12_chance_43 : decode cX12_chance 43 = .ok (.if_icmp .ge 46, 3) := by decide +kernel
theorem dX12_chance_46 : decode cX12_chance 46 = .ok (.aload_n 0, 1) := by decide +kernel
theorem dX12_chance_47 : decode cX12_chance 47 = .ok (.iload_n 1, 1) := by decide +kernel
theorem dX12_chance_48 : decode cX12_chance 48 = .ok (.iload 6, 2) := by decide +kernel
theorem dX12_chance_50 : decode cX12_chance 50 = .ok (.iadd, 1) := by decide +kernel
theorem dX12_chance_51 : decode cX12_chance 51 = .ok (.invokevirtual 365, 3) := by decide +kernel
theorem dX12_chance_54 : decode cX12_chance 54 = .ok (.aload_n 0, 1) := by decide +kernel
theorem dX12_chance_55 : decode cX12_chance 55 = .ok (.invokevirtual 341, 3) := by decide +kernel
theorem dX12_chance_58 : decode cX12_chance 58 = .ok (.aload_n 0, 1) := by decide +kernel
theorem dX12_chance_59 : decode cX12_chance 59 = .ok (.invokevirtual 327, 3) := by decide +kernel
theorem dX12_chance_62 : decode cX12_chance 62 = .ok (.lload 4, 2) := by decide +kernel
theorem dX12_chance_64 : decode cX12_chance 64 = .ok (.aload_n 0, 1) := by decide +kernel
theorem dX12_chance_65 : decode cX12_chance 65 = .ok (.getfield 288, 3) := by decide +kernel
theorem dX12_chance_68 : decode cX12_chance 68 = .ok (.aload_n 0, 1) := by decide +kernel
theorem dX12_chance_69 : decode cX12_chance 69 = .ok (.getfield 330, 3) := by decide +kernel
theorem dX12_chance_72 : decode cX12_chance 72 = .ok (.if_icmp .gt 7, 3) := by decide +kernel
theorem dX12_chance_75 : decode cX12_chance 75 = .ok (.lconst 1, 1) := by decide +kernel
theorem dX12_chance_76 : decode cX12_chance 76 = .ok (.goto 4, 3) := by decide +kernel
theorem dX12_chance_79 : decode cX12_chance 79 = .ok (.lconst 0, 1) := by decide +kernel
theorem dX12_chance_80 : decode cX12_chance 80 = .ok (.ladd, 1) := by decide +kernel
theorem dX12_chance_81 : decode cX12_chance 81 = .ok (.lstore 4, 2) := by decide +kernel
theorem dX12_chance_83 : decode cX12_chance 83 = .ok (.iinc 6 1, 3) := by decide +kernel
theorem dX12_chance_86 : decode cX12_chance 86 = .ok (.goto (-46), 3) := by decide +kernel
theorem dX12_chance_89 : decode cX12_chance 89 = .ok (.aload_n 0, 1) := by decide +kernel
theorem dX12_chance_90 : decode cX12_chance 90 = .ok (.invokevirtual 347, 3) := by decide +kernel
theorem dX12_chance_93 : decode cX12_chance 93 = .ok (.lload 4, 2) := by decide +kernel
theorem dX12_chance_95 : decode cX12_chance 95 = .ok (.lstore 6, 2) := by decide +kernel
theorem dX12_chance_97 : decode cX12_chance 97 = .ok (.iload_n 2, 1) := by decide +kernel
theorem dX12_chance_98 : decode cX12_chance 98 = .ok (.i2l, 1) := by decide +kernel
theorem dX12_chance_99 : decode cX12_chance 99 = .ok (.lstore 8, 2) := by decide +kernel
theorem dX12_chance_101 : decode cX12_chance 101 = .ok (.lload 8, 2) := by decide +kernel
theorem dX12_chance_103 : decode cX12_chance 103 = .ok (.lconst 0, 1) := by decide +kernel
theorem dX12_chance_104 : decode cX12_chance 104 = .ok (.lcmp, 1) := by decide +kernel
theorem dX12_chance_105 : decode cX12_chance 105 = .ok (.ifCond .eq 21, 3) := by decide +kernel
theorem dX12_chance_108 : decode cX12_chance 108 = .ok (.lload 6, 2) := by decide +kernel
theorem dX12_chance_110 : decode cX12_chance 110 = .ok (.lload 8, 2) := by decide +kernel
theorem dX12_chance_112 : decode cX12_chance 112 = .ok (.lrem, 1) := by decide +kernel
theorem dX12_chance_113 : decode cX12_chance 113 = .ok (.lstore 10, 2) := by decide +kernel
theorem dX12_chance_115 : decode cX12_chance 115 = .ok (.lload 8, 2) := by decide +kernel
theorem dX12_chance_117 : decode cX12_chance 117 = .ok (.lstore 6, 2) := by decide +kernel
theorem dX12_chance_119 : decode cX12_chance 119 = .ok (.lload 10, 2) := by decide +kernel
theorem dX12_chance_121 : decode cX12_chance 121 = .ok (.lstore 8, 2) := by decide +kernel
theorem dX12_chance_123 : decode cX12_chance 123 = .ok (.goto (-22), 3) := by decide +kernel
theorem dX12_chance_126 : decode cX12_chance 126 = .ok (.iload_n 3, 1) := by decide +kernel
theorem dX12_chance_127 : decode cX12_chance 127 = .ok (.ifCond .ne 11, 3) := by decide +kernel
theorem dX12_chance_130 : decode cX12_chance 130 = .ok (.lload 4, 2) := by decide +kernel
theorem dX12_chance_132 : decode cX12_chance 132 = .ok (.lload 6, 2) := by decide +kernel
theorem dX12_chance_134 : decode cX12_chance 134 = .ok (.ldiv, 1) := by decide +kernel
theorem dX12_chance_135 : decode cX12_chance 135 = .ok (.goto 8, 3) := by decide +kernel
theorem dX12_chance_138 : decode cX12_chance 138 = .ok (.iload_n 2, 1) := by decide +kernel
theorem dX12_chance_139 : decode cX12_chance 139 = .ok (.i2l, 1) := by decide +kernel
theorem dX12_chance_140 : decode cX12_chance 140 = .ok (.lload 6, 2) := by decide +kernel
theorem dX12_chance_142 : decode cX12_chance 142 = .ok (.ldiv, 1) := by decide +kernel
theorem dX12_chance_143 : decode cX12_chance 143 = .ok (.lreturn, 1) := by decide +kernel
theorem dX12_image_0 : decode cX12_image 0 = .ok (.iconst 0, 1) := by decide +kernel
theorem dX12_image_1 : decode cX12_image 1 = .ok (.istore_n 1, 1) := by decide +kernel
theorem dX12_image_2 : decode cX12_image 2 = .ok (.iload_n 1, 1) := by decide +kernel
theorem dX12_image_3 : decode cX12_image 3 = .ok (.bipush 6, 2) := by decide +kernel
theorem dX12_image_5 : decode cX12_image 5 = .ok (.if_icmp .ge 21, 3) := by decide +kernel
theorem dX12_image_8 : decode cX12_image 8 = .ok (.aload_n 0, 1) := by decide +kernel
theorem dX12_image_9 : decode cX12_image 9 = .ok (.getfield 77, 3) := by decide +kernel
theorem dX12_image_12 : decode cX12_image 12 = .ok (.iload_n 1, 1) := by decide +kernel
theorem dX12_image_13 : decode cX12_image 13 = .ok (.aload_n 0, 1) := by decide +kernel
theorem dX12_image_14 : decode cX12_image 14 = .ok (.getfield 23, 3) := by decide +kernel
theorem dX12_image_17 : decode cX12_image 17 = .ok (.iload_n 1, 1) := by decide +kernel
theorem dX12_image_18 : decode cX12_image 18 = .ok (.iaload, 1) := by decide +kernel
theorem dX12_image_19 : decode cX12_image 19 = .ok (.iastore, 1) := by decide +kernel
theorem dX12_image_20 : decode cX12_image 20 = .ok (.iinc 1 1, 3) := by decide +kernel
theorem dX12_image_23 : decode cX12_image 23 = .ok (.goto (-21), 3) := by decide +kernel
theorem dX12_image_26 : decode cX12_image 26 = .ok (.iconst 0, 1) := by decide +kernel
theorem dX12_image_27 : decode cX12_image 27 = .ok (.istore_n 1, 1) := by decide +kernel
theorem dX12_image_28 : decode cX12_image 28 = .ok (.iload_n 1, 1) := by decide +kernel
theorem dX12_image_29 : decode cX12_image 29 = .ok (.iconst 4, 1) := by decide +kernel
theorem dX12_image_30 : decode cX12_image 30 = .ok (.if_icmp .ge 24, 3) := by decide +kernel
theorem dX12_image_33 : decode cX12_image 33 = .ok (.aload_n 0, 1) := by decide +kernel
theorem dX12_image_34 : decode cX12_image 34 = .ok (.getfield 77, 3) := by decide +kernel
theorem dX12_image_37 : decode cX12_image 37 = .ok (.bipush 6, 2) := by decide +kernel
theorem dX12_image_39 : decode cX12_image 39 = .ok (.iload_n 1, 1) := by decide +kernel
theorem dX12_image_40 : decode cX12_image 40 = .ok (.iadd, 1) := by decide +kernel
theorem dX12_image_41 : decode cX12_image 41 = .ok (.aload_n 0, 1) := by decide +kernel
theorem dX12_image_42 : decode cX12_image 42 = .ok (.getfield 26, 3) := by decide +kernel
theorem dX12_image_45 : decode cX12_image 45 = .ok (.iload_n 1, 1) := by decide +kernel
theorem dX12_image_46 : decode cX12_image 46 = .ok (.iaload, 1) := by decide +kernel
theorem dX12_image_47 : decode cX12_image 47 = .ok (.iastore, 1) := by decide +kernel
theorem dX12_image_48 : decode cX12_image 48 = .ok (.iinc 1 1, 3) := by decide +kernel
theorem dX12_image_51 : decode cX12_image 51 = .ok (.goto (-23), 3) := by decide +kernel
theorem dX12_image_54 : decode cX12_image 54 = .ok (.iconst 0, 1) := by decide +kernel
theorem dX12_image_55 : decode cX12_image 55 = .ok (.istore_n 1, 1) := by decide +kernel
theorem dX12_image_56 : decode cX12_image 56 = .ok (.iload_n 1, 1) := by decide +kernel
theorem dX12_image_57 : decode cX12_image 57 = .ok (.bipush 7, 2) := by decide +kernel
theorem dX12_image_59 : decode cX12_image 59 = .ok (.if_icmp .ge 24, 3) := by decide +kernel
theorem dX12_image_62 : decode cX12_image 62 = .ok (.aload_n 0, 1) := by decide +kernel
theorem dX12_image_63 : decode cX12_image 63 = .ok (.getfield 77, 3) := by decide +kernel
theorem dX12_image_66 : decode cX12_image 66 = .ok (.bipush 10, 2) := by decide +kernel
theorem dX12_image_68 : decode cX12_image 68 = .ok (.iload_n 1, 1) := by decide +kernel
theorem dX12_image_69 : decode cX12_image 69 = .ok (.iadd, 1) := by decide +kernel
theorem dX12_image_70 : decode cX12_image 70 = .ok (.aload_n 0, 1) := by decide +kernel
theorem dX12_image_71 : decode cX12_image 71 = .ok (.getfield 29, 3) := by decide +kernel
theorem dX12_image_74 : decode cX12_image 74 = .ok (.iload_n 1, 1) := by decide +kernel
theorem dX12_image_75 : decode cX12_image 75 = .ok (.iaload, 1) := by decide +kernel
theorem dX12_image_76 : decode cX12_image 76 = .ok (.iastore, 1) := by decide +kernel
theorem dX12_image_77 : decode cX12_image 77 = .ok (.iinc 1 1, 3) := by decide +kernel
theorem dX12_image_80 : decode cX12_image 80 = .ok (.goto (-24), 3) := by decide +kernel
theorem dX12_image_83 : decode cX12_image 83 = .ok (.iconst 0, 1) := by decide +kernel
theorem dX12_image_84 : decode cX12_image 84 = .ok (.istore_n 1, 1) := by decide +kernel
theorem dX12_image_85 : decode cX12_image 85 = .ok (.iload_n 1, 1) := by decide +kernel
theorem dX12_image_86 : decode cX12_image 86 = .ok (.iconst 5, 1) := by decide +kernel
theorem dX12_image_87 : decode cX12_image 87 = .ok (.if_icmp .ge 65, 3) := by decide +kernel
theorem dX12_image_90 : decode cX12_image 90 = .ok (.aload_n 0, 1) := by decide +kernel
theorem dX12_image_91 : decode cX12_image 91 = .ok (.getfield 80, 3) := by decide +kernel
theorem dX12_image_94 : decode cX12_image 94 = .ok (.iload_n 1, 1) := by decide +kernel
theorem dX12_image_95 : decode cX12_image 95 = .ok (.aload_n 0, 1) := by decide +kernel
theorem dX12_image_96 : decode cX12_image 96 = .ok (.getfield 35, 3) := by decide +kernel
theorem dX12_image_99 : decode cX12_image 99 = .ok (.iload_n 1, 1) := by decide +kernel
theorem dX12_image_100 : decode cX12_image 100 = .ok (.iaload, 1) := by decide +kernel
theorem dX12_image_101 : decode cX12_image 101 = .ok (.iastore, 1) := by decide +kernel
theorem dX12_image_102 : decode cX12_image 102 = .ok (.aload_n 0, 1) := by decide +kernel
theorem dX12_image_103 : decode cX12_image 103 = .ok (.getfield 80, 3) := by decide +kernel
theorem dX12_image_106 : decode cX12_image 106 = .ok (.iconst 5, 1) := by decide +kernel
theorem dX12_image_107 : decode cX12_image 107 = .ok (.iload_n 1, 1) := by decide +kernel
theorem dX12_image_108 : decode cX12_image 108 = .ok (.iadd, 1) := by decide +kernel
theorem dX12_image_109 : decode cX12_image 109 = .ok (.aload_n 0, 1) := by decide +kernel
theorem dX12_image_110 : decode cX12_image 110 = .ok (.getfield 38, 3) := by decide +kernel
theorem dX12_image_113 : decode cX12_image 113 = .ok (.iload_n 1, 1) := by decide +kernel
theorem dX12_image_114 : decode cX12_image 114 = .ok (.iaload, 1) := by decide +kernel
theorem dX12_image_115 : decode cX12_image 115 = .ok (.iastore, 1) := by decide +kernel
theorem dX12_image_116 : decode cX12_image 116 = .ok (.aload_n 0, 1) := by decide +kernel
theorem dX12_image_117 : decode cX12_image 117 = .ok (.getfield 80, 3) := by decide +kernel
theorem dX12_image_120 : decode cX12_image 120 = .ok (.bipush 10, 2) := by decide +kernel
theorem dX12_image_122 : decode cX12_image 122 = .ok (.iload_n 1, 1) := by decide +kernel
theorem dX12_image_123 : decode cX12_image 123 = .ok (.iadd, 1) := by decide +kernel
theorem dX12_image_124 : decode cX12_image 124 = .ok (.aload_n 0, 1) := by decide +kernel
theorem dX12_image_125 : decode cX12_image 125 = .ok (.getfield 41, 3) := by decide +kernel
theorem dX12_image_128 : decode cX12_image 128 = .ok (.iload_n 1, 1) := by decide +kernel
theorem dX12_image_129 : decode cX12_image 129 = .ok (.iaload, 1) := by decide +kernel
theorem dX12_image_130 : decode cX12_image 130 = .ok (.iastore, 1) := by decide +kernel
theorem dX12_image_131 : decode cX12_image 131 = .ok (.aload_n 0, 1) := by decide +kernel
theorem dX12_image_132 : decode cX12_image 132 = .ok (.getfield 80, 3) := by decide +kernel
theorem dX12_image_135 : decode cX12_image 135 = .ok (.bipush 15, 2) := by decide +kernel
theorem dX12_image_137 : decode cX12_image 137 = .ok (.iload_n 1, 1) := by decide +kernel
theorem dX12_image_138 : decode cX12_image 138 = .ok (.iadd, 1) := by decide +kernel
theorem dX12_image_139 : decode cX12_image 139 = .ok (.aload_n 0, 1) := by decide +kernel
theorem dX12_image_140 : decode cX12_image 140 = .ok (.getfield 44, 3) := by decide +kernel
theorem dX12_image_143 : decode cX12_image 143 = .ok (.iload_n 1, 1) := by decide +kernel
theorem dX12_image_144 : decode cX12_image 144 = .ok (.iaload, 1) := by decide +kernel
theorem dX12_image_145 : decode cX12_image 145 = .ok (.iastore, 1) := by decide +kernel
theorem dX12_image_146 : decode cX12_image 146 = .ok (.iinc 1 1, 3) := by decide +kernel
theorem dX12_image_149 : decode cX12_image 149 = .ok (.goto (-64), 3) := by decide +kernel
theorem dX12_image_152 : decode cX12_image 152 = .ok (.aload_n 0, 1) := by decide +kernel
theorem dX12_image_153 : decode cX12_image 153 = .ok (.aload_n 0, 1) := by decide +kernel
theorem dX12_image_154 : decode cX12_image 154 = .ok (.getfield 106, 3) := by decide +kernel
theorem dX12_image_157 : decode cX12_image 157 = .ok (.putfield 83, 3) := by decide +kernel
theorem dX12_image_160 : decode cX12_image 160 = .ok (.aload_n 0, 1) := by decide +kernel
theorem dX12_image_161 : decode cX12_image 161 = .ok (.aload_n 0, 1) := by decide +kernel
theorem dX12_image_162 : decode cX12_image 162 = .ok (.getfield 263, 3) := by decide +kernel
theorem dX12_image_165 : decode cX12_image 165 = .ok (.putfield 370, 3) := by decide +kernel
theorem dX12_image_168 : decode cX12_image 168 = .ok (.aload_n 0, 1) := by decide +kernel
theorem dX12_image_169 : decode cX12_image 169 = .ok (.getfield 106, 3) := by decide +kernel
theorem dX12_image_172 : decode cX12_image 172 = .ok (.ireturn, 1) := by decide +kernel
theorem dX12_back_0 : decode cX12_back 0 = .ok (.aload_n 0, 1) := by decide +kernel
theorem dX12_back_1 : decode cX12_back 1 = .ok (.getfield 83, 3) := by decide +kernel
theorem dX12_back_4 : decode cX12_back 4 = .ok (.iconst (-1), 1) := by decide +kernel
theorem dX12_back_5 : decode cX12_back 5 = .ok (.if_icmp .ne 6, 3) := by decide +kernel
theorem dX12_back_8 : decode cX12_back 8 = .ok (.bipush (-3), 2) := by decide +kernel
theorem dX12_back_10 : decode cX12_back 10 = .ok (.ireturn, 1) := by decide +kernel
theorem dX12_back_11 : decode cX12_back 11 = .ok (.iconst 0, 1) := by decide +kernel
theorem dX12_back_12 : decode cX12_back 12 = .ok (.istore_n 1, 1) := by decide +kernel
theorem dX12_back_13 : decode cX12_back 13 = .ok (.iload_n 1, 1) := by decide +kernel
theorem dX12_back_14 : decode cX12_back 14 = .ok (.bipush 6, 2) := by decide +kernel
theorem dX12_back_16 : decode cX12_back 16 = .ok (.if_icmp .ge 21, 3) := by decide +kernel
theorem dX12_back_19 : decode cX12_back 19 = .ok (.aload_n 0, 1) := by decide +kernel
theorem dX12_back_20 : decode cX12_back 20 = .ok (.getfield 23, 3) := by decide +kernel
theorem dX12_back_23 : decode cX12_back 23 = .ok (.iload_n 1, 1) := by decide +kernel
theorem dX12_back_24 : decode cX12_back 24 = .ok (.aload_n 0, 1) := by decide +kernel
theorem dX12_back_25 : decode cX12_back 25 = .ok (.getfield 77, 3) := by decide +kernel
theorem dX12_back_28 : decode cX12_back 28 = .ok (.iload_n 1, 1) := by decide +kernel
theorem dX12_back_29 : decode cX12_back 29 = .ok (.iaload, 1) := by decide +kernel
theorem dX12_back_30 : decode cX12_back 30 = .ok (.iastore, 1) := by decide +kernel
theorem dX12_back_31 : decode cX12_back 31 = .ok (.iinc 1 1, 3) := by decide +kernel
theorem dX12_back_34 : decode cX12_back 34 = .ok (.goto (-21), 3) := by decide +kernel
theorem dX12_back_37 : decode cX12_back 37 = .ok (.iconst 0, 1) := by decide +kernel
theorem dX12_back_38 : decode cX12_back 38 = .ok (.istore_n 1, 1) := by decide +kernel
theorem dX12_back_39 : decode cX12_back 39 = .ok (.iload_n 1, 1) := by decide +kernel
theorem dX12_back_40 : decode cX12_back 40 = .ok (.iconst 4, 1) := by decide +kernel
theorem dX12_back_41 : decode cX12_back 41 = .ok (.if_icmp .ge 24, 3) := by decide +kernel
theorem dX12_back_44 : decode cX12_back 44 = .ok (.aload_n 0, 1) := by decide +kernel
theorem dX12_back_45 : decode cX12_back 45 = .ok (.getfield 26, 3) := by decide +kernel
theorem dX12_back_48 : decode cX12_back 48 = .ok (.iload_n 1, 1) := by decide +kernel
theorem dX12_back_49 : decode cX12_back 49 = .ok (.aload_n 0, 1) := by decide +kernel
theorem dX12_back_50 : decode cX12_back 50 = .ok (.getfield 77, 3) := by decide +kernel
theorem dX12_back_53 : decode cX12_back 53 = .ok (.bipush 6, 2) := by decide +kernel
theorem dX12_back_55 : decode cX12_back 55 = .ok (.iload_n 1, 1) := by decide +kernel
theorem dX12_back_56 : decode cX12_back 56 = .ok (.iadd, 1) := by decide +kernel
theorem dX12_back_57 : decode cX12_back 57 = .ok (.iaload, 1) := by decide +kernel
theorem dX12_back_58 : decode cX12_back 58 = .ok (.iastore, 1) := by decide +kernel
theorem dX12_back_59 : decode cX12_back 59 = .ok (.iinc 1 1, 3) := by decide +kernel
theorem dX12_back_62 : decode cX12_back 62 = .ok (.goto (-23), 3) := by decide +kernel
theorem dX12_back_65 : decode cX12_back 65 = .ok (.iconst 0, 1) := by decide +kernel
theorem dX12_back_66 : decode cX12_back 66 = .ok (.istore_n 1, 1) := by decide +kernel
theorem dX12_back_67 : decode cX12_back 67 = .ok (.iload_n 1, 1) := by decide +kernel
theorem dX12_back_68 : decode cX12_back 68 = .ok (.bipush 7, 2) := by decide +kernel
theorem dX12_back_70 : decode cX12_back 70 = .ok (.if_icmp .ge 24, 3) := by decide +kernel
theorem dX12_back_73 : decode cX12_back 73 = .ok (.aload_n 0, 1) := by decide +kernel
theorem dX12_back_74 : decode cX12_back 74 = .ok (.getfield 29, 3) := by decide +kernel
theorem dX12_back_77 : decode cX12_back 77 = .ok (.iload_n 1, 1) := by decide +kernel
theorem dX12_back_78 : decode cX12_back 78 = .ok (.aload_n 0, 1) := by decide +kernel
theorem dX12_back_79 : decode cX12_back 79 = .ok (.getfield 77, 3) := by decide +kernel
theorem dX12_back_82 : decode cX12_back 82 = .ok (.bipush 10, 2) := by decide +kernel
theorem dX12_back_84 : decode cX12_back 84 = .ok (.iload_n 1, 1) := by decide +kernel
theorem dX12_back_85 : decode cX12_back 85 = .ok (.iadd, 1) := by decide +kernel
theorem dX12_back_86 : decode cX12_back 86 = .ok (.iaload, 1) := by decide +kernel
theorem dX12_back_87 : decode cX12_back 87 = .ok (.iastore, 1) := by decide +kernel
theorem dX12_back_88 : decode cX12_back 88 = .ok (.iinc 1 1, 3) := by decide +kernel
theorem dX12_back_91 : decode cX12_back 91 = .ok (.goto (-24), 3) := by decide +kernel
theorem dX12_back_94 : decode cX12_back 94 = .ok (.iconst 0, 1) := by decide +kernel
theorem dX12_back_95 : decode cX12_back 95 = .ok (.istore_n 1, 1) := by decide +kernel
theorem dX12_back_96 : decode cX12_back 96 = .ok (.iload_n 1, 1) := by decide +kernel
theorem dX12_back_97 : decode cX12_back 97 = .ok (.iconst 5, 1) := by decide +kernel
theorem dX12_back_98 : decode cX12_back 98 = .ok (.if_icmp .ge 65, 3) := by decide +kernel
theorem dX12_back_101 : decode cX12_back 101 = .ok (.aload_n 0, 1) := by decide +kernel
theorem dX12_back_102 : decode cX12_back 102 = .ok (.getfield 35, 3) := by decide +kernel
theorem dX12_back_105 : decode cX12_back 105 = .ok (.iload_n 1, 1) := by decide +kernel
theorem dX12_back_106 : decode cX12_back 106 = .ok (.aload_n 0, 1) := by decide +kernel
theorem dX12_back_107 : decode cX12_back 107 = .ok (.getfield 80, 3) := by decide +kernel
theorem dX12_back_110 : decode cX12_back 110 = .ok (.iload_n 1, 1) := by decide +kernel
theorem dX12_back_111 : decode cX12_back 111 = .ok (.iaload, 1) := by decide +kernel
theorem dX12_back_112 : decode cX12_back 112 = .ok (.iastore, 1) := by decide +kernel
theorem dX12_back_113 : decode cX12_back 113 = .ok (.aload_n 0, 1) := by decide +kernel
theorem dX12_back_114 : decode cX12_back 114 = .ok (.getfield 38, 3) := by decide +kernel
theorem dX12_back_117 : decode cX12_back 117 = .ok (.iload_n 1, 1) := by decide +kernel
theorem dX12_back_118 : decode cX12_back 118 = .ok (.aload_n 0, 1) := by decide +kernel
theorem dX12_back_119 : decode cX12_back 119 = .ok (.getfield 80, 3) := by decide +kernel
theorem dX12_back_122 : decode cX12_back 122 = .ok (.iconst 5, 1) := by decide +kernel
theorem dX12_back_123 : decode cX12_back 123 = .ok (.iload_n 1, 1) := by decide +kernel
theorem dX12_back_124 : decode cX12_back 124 = .ok (.iadd, 1) := by decide +kernel
theorem dX12_back_125 : decode cX12_back 125 = .ok (.iaload, 1) := by decide +kernel
theorem dX12_back_126 : decode cX12_back 126 = .ok (.iastore, 1) := by decide +kernel
theorem dX12_back_127 : decode cX12_back 127 = .ok (.aload_n 0, 1) := by decide +kernel
theorem dX12_back_128 : decode cX12_back 128 = .ok (.getfield 41, 3) := by decide +kernel
theorem dX12_back_131 : decode cX12_back 131 = .ok (.iload_n 1, 1) := by decide +kernel
theorem dX12_back_132 : decode cX12_back 132 = .ok (.aload_n 0, 1) := by decide +kernel
theorem dX12_back_133 : decode cX12_back 133 = .ok (.getfield 80, 3) := by decide +kernel
theorem dX12_back_136 : decode cX12_back 136 = .ok (.bipush 10, 2) := by decide +kernel
theorem dX12_back_138 : decode cX12_back 138 = .ok (.iload_n 1, 1) := by decide +kernel
theorem dX12_back_139 : decode cX12_back 139 = .ok (.iadd, 1) := by decide +kernel
theorem dX12_back_140 : decode cX12_back 140 = .ok (.iaload, 1) := by decide +kernel
theorem dX12_back_141 : decode cX12_back 141 = .ok (.iastore, 1) := by decide +kernel
theorem dX12_back_142 : decode cX12_back 142 = .ok (.aload_n 0, 1) := by decide +kernel
theorem dX12_back_143 : decode cX12_back 143 = .ok (.getfield 44, 3) := by decide +kernel
theorem dX12_back_146 : decode cX12_back 146 = .ok (.iload_n 1, 1) := by decide +kernel
theorem dX12_back_147 : decode cX12_back 147 = .ok (.aload_n 0, 1) := by decide +kernel
theorem dX12_back_148 : decode cX12_back 148 = .ok (.getfield 80, 3) := by decide +kernel
theorem dX12_back_151 : decode cX12_back 151 = .ok (.bipush 15, 2) := by decide +kernel
theorem dX12_back_153 : decode cX12_back 153 = .ok (.iload_n 1, 1) := by decide +kernel
theorem dX12_back_154 : decode cX12_back 154 = .ok (.iadd, 1) := by decide +kernel
theorem dX12_back_155 : decode cX12_back 155 = .ok (.iaload, 1) := by decide +kernel
theorem dX12_back_156 : decode cX12_back 156 = .ok (.iastore, 1) := by decide +kernel
theorem dX12_back_157 : decode cX12_back 157 = .ok (.iinc 1 1, 3) := by decide +kernel
theorem dX12_back_160 : decode cX12_back 160 = .ok (.goto (-64), 3) := by decide +kernel
theorem dX12_back_163 : decode cX12_back 163 = .ok (.aload_n 0, 1) := by decide +kernel
theorem dX12_back_164 : decode cX12_back 164 = .ok (.aload_n 0, 1) := by decide +kernel
theorem dX12_back_165 : decode cX12_back 165 = .ok (.getfield 83, 3) := by decide +kernel
theorem dX12_back_168 : decode cX12_back 168 = .ok (.putfield 106, 3) := by decide +kernel
theorem dX12_back_171 : decode cX12_back 171 = .ok (.aload_n 0, 1) := by decide +kernel
theorem dX12_back_172 : decode cX12_back 172 = .ok (.aload_n 0, 1) := by decide +kernel
theorem dX12_back_173 : decode cX12_back 173 = .ok (.getfield 370, 3) := by decide +kernel
theorem dX12_back_176 : decode cX12_back 176 = .ok (.putfield 263, 3) := by decide +kernel
theorem dX12_back_179 : decode cX12_back 179 = .ok (.aload_n 0, 1) := by decide +kernel
theorem dX12_back_180 : decode cX12_back 180 = .ok (.getfield 106, 3) := by decide +kernel
theorem dX12_back_183 : decode cX12_back 183 = .ok (.ireturn, 1) := by decide +kernel
theorem dX12_count_0 : decode cX12_count 0 = .ok (.iload_n 1, 1) := by decide +kernel
theorem dX12_count_1 : decode cX12_count 1 = .ok (.i2l, 1) := by decide +kernel
theorem dX12_count_2 : decode cX12_count 2 = .ok (.lconst 0, 1) := by decide +kernel
theorem dX12_count_3 : decode cX12_count 3 = .ok (.ldc2_w 373, 3) := by decide +kernel
theorem dX12_count_6 : decode cX12_count 6 = .ok (.invokestatic 109, 3) := by decide +kernel
theorem dX12_count_9 : decode cX12_count 9 = .ok (.ifCond .ne 6, 3) := by decide +kernel
theorem dX12_count_12 : decode cX12_count 12 = .ok (.bipush (-2), 2) := by decide +kernel
theorem dX12_count_14 : decode cX12_count 14 = .ok (.ireturn, 1) := by decide +kernel
theorem dX12_count_15 : decode cX12_count 15 = .ok (.iload_n 1, 1) := by decide +kernel
theorem dX12_count_16 : decode cX12_count 16 = .ok (.iconst 4, 1) := by decide +kernel
theorem dX12_count_17 : decode cX12_count 17 = .ok (.if_icmp .le 48, 3) := by decide +kernel
theorem dX12_count_20 : decode cX12_count 20 = .ok (.iload_n 1, 1) := by decide +kernel
theorem dX12_count_21 : decode cX12_count 21 = .ok (.bipush 11, 2) := by decide +kernel
theorem dX12_count_23 : decode cX12_count 23 = .ok (.if_icmp .ge 14, 3) := by decide +kernel
theorem dX12_count_26 : decode cX12_count 26 = .ok (.aload_n 0, 1) := by decide +kernel
theorem dX12_count_27 : decode cX12_count 27 = .ok (.getfield 23, 3) := by decide +kernel
theorem dX12_count_30 : decode cX12_count 30 = .ok (.iload_n 1, 1) := by decide +kernel
theorem dX12_count_31 : decode cX12_count 31 = .ok (.iconst 5, 1) := by decide +kernel
theorem dX12_count_32 : decode cX12_count 32 = .ok (.isub, 1) := by decide +kernel
theorem dX12_count_33 : decode cX12_count 33 = .ok (.iaload, 1) := by decide +kernel
theorem dX12_count_34 : decode cX12_count 34 = .ok (.goto 30, 3) := by decide +kernel
theorem dX12_count_37 : decode cX12_count 37 = .ok (.iload_n 1, 1) := by decide +kernel
theorem dX12_count_38 : decode cX12_count 38 = .ok (.bipush 15, 2) := by decide +kernel
theorem dX12_count_40 : decode cX12_count 40 = .ok (.if_icmp .ge 15, 3) := by decide +kernel
theorem dX12_count_43 : decode cX12_count 43 = .ok (.aload_n 0, 1) := by decide +kernel
theorem dX12_count_44 : decode cX12_count 44 = .ok (.getfield 26, 3) := by decide +kernel
theorem dX12_count_47 : decode cX12_count 47 = .ok (.iload_n 1, 1) := by decide +kernel
theorem dX12_count_48 : decode cX12_count 48 = .ok (.bipush 11, 2) := by decide +kernel
theorem dX12_count_50 : decode cX12_count 50 = .ok (.isub, 1) := by decide +kernel
theorem dX12_count_51 : decode cX12_count 51 = .ok (.iaload, 1) := by decide +kernel
theorem dX12_count_52 : decode cX12_count 52 = .ok (.goto 12, 3) := by decide +kernel
theorem dX12_count_55 : decode cX12_count 55 = .ok (.aload_n 0, 1) := by decide +kernel
theorem dX12_count_56 : decode cX12_count 56 = .ok (.getfield 29, 3) := by decide +kernel
theorem dX12_count_59 : decode cX12_count 59 = .ok (.iload_n 1, 1) := by decide +kernel
theorem dX12_count_60 : decode cX12_count 60 = .ok (.bipush 15, 2) := by decide +kernel
theorem dX12_count_62 : decode cX12_count 62 = .ok (.isub, 1) := by decide +kernel
theorem dX12_count_63 : decode cX12_count 63 = .ok (.iaload, 1) := by decide +kernel
theorem dX12_count_64 : decode cX12_count 64 = .ok (.ireturn, 1) := by decide +kernel
theorem dX12_count_65 : decode cX12_count 65 = .ok (.iload_n 1, 1) := by decide +kernel
theorem dX12_count_66 : decode cX12_count 66 = .ok (.iconst 1, 1) := by decide +kernel
theorem dX12_count_67 : decode cX12_count 67 = .ok (.if_icmp .eq 43, 3) := by decide +kernel
theorem dX12_count_70 : decode cX12_count 70 = .ok (.iload_n 1, 1) := by decide +kernel
theorem dX12_count_71 : decode cX12_count 71 = .ok (.ifCond .ne 10, 3) := by decide +kernel
theorem dX12_count_74 : decode cX12_count 74 = .ok (.aload_n 0, 1) := by decide +kernel
theorem dX12_count_75 : decode cX12_count 75 = .ok (.getfield 106, 3) := by decide +kernel
theorem dX12_count_78 : decode cX12_count 78 = .ok (.goto 31, 3) := by decide +kernel
theorem dX12_count_81 : decode cX12_count 81 = .ok (.iload_n 1, 1) := by decide +kernel
theorem dX12_count_82 : decode cX12_count 82 = .ok (.iconst 2, 1) := by decide +kernel
theorem dX12_count_83 : decode cX12_count 83 = .ok (.if_icmp .ne 10, 3) := by decide +kernel
theorem dX12_count_86 : decode cX12_count 86 = .ok (.aload_n 0, 1) := by decide +kernel
theorem dX12_count_87 : decode cX12_count 87 = .ok (.getfield 103, 3) := by decide +kernel
theorem dX12_count_90 : decode cX12_count 90 = .ok (.goto 19, 3) := by decide +kernel
theorem dX12_count_93 : decode cX12_count 93 = .ok (.iload_n 1, 1) := by decide +kernel
theorem dX12_count_94 : decode cX12_count 94 = .ok (.iconst 3, 1) := by decide +kernel
theorem dX12_count_95 : decode cX12_count 95 = .ok (.if_icmp .ne 10, 3) := by decide +kernel
theorem dX12_count_98 : decode cX12_count 98 = .ok (.aload_n 0, 1) := by decide +kernel
theorem dX12_count_99 : decode cX12_count 99 = .ok (.getfield 145, 3) := by decide +kernel
theorem dX12_count_102 : decode cX12_count 102 = .ok (.goto 7, 3) := by decide +kernel
theorem dX12_count_105 : decode cX12_count 105 = .ok (.aload_n 0, 1) := by decide +kernel
theorem dX12_count_106 : decode cX12_count 106 = .ok (.getfield 263, 3) := by decide +kernel
theorem dX12_count_109 : decode cX12_count 109 = .ok (.ireturn, 1) := by decide +kernel
theorem dX12_count_110 : decode cX12_count 110 = .ok (.iconst 0, 1) := by decide +kernel
theorem dX12_count_111 : decode cX12_count 111 = .ok (.istore_n 2, 1) := by decide +kernel
theorem dX12_count_112 : decode cX12_count 112 = .ok (.iconst 0, 1) := by decide +kernel
theorem dX12_count_113 : decode cX12_count 113 = .ok (.istore_n 3, 1) := by decide +kernel
theorem dX12_count_114 : decode cX12_count 114 = .ok (.iload_n 3, 1) := by decide +kernel
theorem dX12_count_115 : decode cX12_count 115 = .ok (.aload_n 0, 1) := by decide +kernel
theorem dX12_count_116 : decode cX12_count 116 = .ok (.getfield 106, 3) := by decide +kernel
theorem dX12_count_119 : decode cX12_count 119 = .ok (.if_icmp .ge 27, 3) := by decide +kernel
theorem dX12_count_122 : decode cX12_count 122 = .ok (.iload_n 2, 1) := by decide +kernel
theorem dX12_count_123 : decode cX12_count 123 = .ok (.aload_n 0, 1) := by decide +kernel
theorem dX12_count_124 : decode cX12_count 124 = .ok (.getfield 44, 3) := by decide +kernel
theorem dX12_count_127 : decode cX12_count 127 = .ok (.iload_n 3, 1) := by decide +kernel
theorem dX12_count_128 : decode cX12_count 128 = .ok (.iaload, 1) := by decide +kernel
theorem dX12_count_129 : decode cX12_count 129 = .ok (.iconst (-1), 1) := by decide +kernel
theorem dX12_count_130 : decode cX12_count 130 = .ok (.if_icmp .eq 7, 3) := by decide +kernel
theorem dX12_count_133 : decode cX12_count 133 = .ok (.iconst 1, 1) := by decide +kernel
theorem dX12_count_134 : decode cX12_count 134 = .ok (.goto 4, 3) := by decide +kernel
theorem dX12_count_137 : decode cX12_count 137 = .ok (.iconst 0, 1) := by decide +kernel
theorem dX12_count_138 : decode cX12_count 138 = .ok (.iadd, 1) := by decide +kernel
theorem dX12_count_139 : decode cX12_count 139 = .ok (.istore_n 2, 1) := by decide +kernel
theorem dX12_count_140 : decode cX12_count 140 = .ok (.iinc 3 1, 3) := by decide +kernel
theorem dX12_count_143 : decode cX12_count 143 = .ok (.goto (-29), 3) := by decide +kernel
theorem dX12_count_146 : decode cX12_count 146 = .ok (.iload_n 2, 1) := by decide +kernel
theorem dX12_count_147 : decode cX12_count 147 = .ok (.ireturn, 1) := by decide +kernel
theorem dX12_isSheet_0 : decode cX12_isSheet 0 = .ok (.iload_n 0, 1) := by decide +kernel
theorem dX12_isSheet_1 : decode cX12_isSheet 1 = .ok (.i2l, 1) := by decide +kernel
theorem dX12_isSheet_2 : decode cX12_isSheet 2 = .ok (.lconst 0, 1) := by decide +kernel
theorem dX12_isSheet_3 : decode cX12_isSheet 3 = .ok (.ldc2_w 117, 3) := by decide +kernel
theorem dX12_isSheet_6 : decode cX12_isSheet 6 = .ok (.invokestatic 109, 3) := by decide +kernel
theorem dX12_isSheet_9 : decode cX12_isSheet 9 = .ok (.ireturn, 1) := by decide +kernel
theorem dX12_sheet_0 : decode cX12_sheet 0 = .ok (.iload_n 1, 1) := by decide +kernel
theorem dX12_sheet_1 : decode cX12_sheet 1 = .ok (.invokestatic 352, 3) := by decide +kernel
theorem dX12_sheet_4 : decode cX12_sheet 4 = .ok (.ifCond .eq 27, 3) := by decide +kernel
theorem dX12_sheet_7 : decode cX12_sheet 7 = .ok (.iload_n 2, 1) := by decide +kernel
theorem dX12_sheet_8 : decode cX12_sheet 8 = .ok (.i2l, 1) := by decide +kernel
theorem dX12_sheet_9 : decode cX12_sheet 9 = .ok (.ldc2_w 375, 3) := by decide +kernel
theorem dX12_sheet_12 : decode cX12_sheet 12 = .ok (.ldc2_w 339, 3) := by decide +kernel
theorem dX12_sheet_15 : decode cX12_sheet 15 = .ok (.invokestatic 109, 3) := by decide +kernel
theorem dX12_sheet_18 : decode cX12_sheet 18 = .ok (.ifCond .eq 13, 3) := by decide +kernel
theorem dX12_sheet_21 : decode cX12_sheet 21 = .ok (.iload_n 2, 1) := by decide +kernel
theorem dX12_sheet_22 : decode cX12_sheet 22 = .ok (.ifCond .lt 12, 3) := by decide +kernel
theorem dX12_sheet_25 : decode cX12_sheet 25 = .ok (.iload_n 3, 1) := by decide +kernel
theorem dX12_sheet_26 : decode cX12_sheet 26 = .ok (.bipush 40, 2) := by decide +kernel
theorem dX12_sheet_28 : decode cX12_sheet 28 = .ok (.if_icmp .le 6, 3) := by decide +kernel
theorem dX12_sheet_31 : decode cX12_sheet 31 = .ok (.bipush (-2), 2) := by decide +kernel
theorem dX12_sheet_33 : decode cX12_sheet 33 = .ok (.ireturn, 1) := by decide +kernel
theorem dX12_sheet_34 : decode cX12_sheet 34 = .ok (.iload_n 2, 1) := by decide +kernel
theorem dX12_sheet_35 : decode cX12_sheet 35 = .ok (.ifCond .lt 10, 3) := by decide +kernel
theorem dX12_sheet_38 : decode cX12_sheet 38 = .ok (.iload_n 3, 1) := by decide +kernel
theorem dX12_sheet_39 : decode cX12_sheet 39 = .ok (.ifCond .ge 6, 3) := by decide +kernel
theorem dX12_sheet_42 : decode cX12_sheet 42 = .ok (.bipush (-14), 2) := by decide +kernel
theorem dX12_sheet_44 : decode cX12_sheet 44 = .ok (.ireturn, 1) := by decide +kernel
theorem dX12_sheet_45 : decode cX12_sheet 45 = .ok (.aload_n 0, 1) := by decide +kernel
theorem dX12_sheet_46 : decode cX12_sheet 46 = .ok (.getfield 86, 3) := by decide +kernel
theorem dX12_sheet_49 : decode cX12_sheet 49 = .ok (.iload_n 1, 1) := by decide +kernel
theorem dX12_sheet_50 : decode cX12_sheet 50 = .ok (.iload_n 2, 1) := by decide +kernel
theorem dX12_sheet_51 : decode cX12_sheet 51 = .ok (.ifCond .lt 7, 3) := by decide +kernel
theorem dX12_sheet_54 : decode cX12_sheet 54 = .ok (.iconst 1, 1) := by decide +kernel
theorem dX12_sheet_55 : decode cX12_sheet 55 = .ok (.goto 4, 3) := by decide +kernel
theorem dX12_sheet_58 : decode cX12_sheet 58 = .ok (.iconst 0, 1) := by decide +kernel
theorem dX12_sheet_59 : decode cX12_sheet 59 = .ok (.bastore, 1) := by decide +kernel
theorem dX12_sheet_60 : decode cX12_sheet 60 = .ok (.aload_n 0, 1) := by decide +kernel
theorem dX12_sheet_61 : decode cX12_sheet 61 = .ok (.getfield 90, 3) := by decide +kernel
theorem dX12_sheet_64 : decode cX12_sheet 64 = .ok (.iload_n 1, 1) := by decide +kernel
theorem dX12_sheet_65 : decode cX12_sheet 65 = .ok (.iload_n 2, 1) := by decide +kernel
theorem dX12_sheet_66 : decode cX12_sheet 66 = .ok (.iastore, 1) := by decide +kernel
theorem dX12_sheet_67 : decode cX12_sheet 67 = .ok (.aload_n 0, 1) := by decide +kernel
theorem dX12_sheet_68 : decode cX12_sheet 68 = .ok (.getfield 93, 3) := by decide +kernel
theorem dX12_sheet_71 : decode cX12_sheet 71 = .ok (.iload_n 1, 1) := by decide +kernel
theorem dX12_sheet_72 : decode cX12_sheet 72 = .ok (.iload_n 3, 1) := by decide +kernel
theorem dX12_sheet_73 : decode cX12_sheet 73 = .ok (.iastore, 1) := by decide +kernel
theorem dX12_sheet_74 : decode cX12_sheet 74 = .ok (.iconst 0, 1) := by decide +kernel
theorem dX12_sheet_75 : decode cX12_sheet 75 = .ok (.istore 4, 2) := by decide +kernel
theorem dX12_sheet_77 : decode cX12_sheet 77 = .ok (.iload 4, 2) := by decide +kernel
theorem dX12_sheet_79 : decode cX12_sheet 79 = .ok (.iload_n 3, 1) := by decide +kernel
theorem dX12_sheet_80 : decode cX12_sheet 80 = .ok (.if_icmp .ge 26, 3) := by decide +kernel
theorem dX12_sheet_83 : decode cX12_sheet 83 = .ok (.iload_n 2, 1) := by decide +kernel
theorem dX12_sheet_84 : decode cX12_sheet 84 = .ok (.ifCond .lt 22, 3) := by decide +kernel
theorem dX12_sheet_87 : decode cX12_sheet 87 = .ok (.aload_n 0, 1) := by decide +kernel
theorem dX12_sheet_88 : decode cX12_sheet 88 = .ok (.getfield 96, 3) := by decide +kernel
theorem dX12_sheet_91 : decode cX12_sheet 91 = .ok (.bipush 40, 2) := by decide +kernel
theorem dX12_sheet_93 : decode cX12_sheet 93 = .ok (.iload_n 1, 1) := by decide +kernel
theorem dX12_sheet_94 : decode cX12_sheet 94 = .ok (.imul, 1) := by decide +kernel
theorem dX12_sheet_95 : decode cX12_sheet 95 = .ok (.iload 4, 2) := by decide +kernel
theorem dX12_sheet_97 : decode cX12_sheet 97 = .ok (.iadd, 1) := by decide +kernel
theorem dX12_sheet_98 : decode cX12_sheet 98 = .ok (.iconst 0, 1) := by decide +kernel
theorem dX12_sheet_99 : decode cX12_sheet 99 = .ok (.iastore, 1) := by decide +kernel
theorem dX12_sheet_100 : decode cX12_sheet 100 = .ok (.iinc 4 1, 3) := by decide +kernel
theorem dX12_sheet_103 : decode cX12_sheet 103 = .ok (.goto (-26), 3) := by decide +kernel
theorem dX12_sheet_106 : decode cX12_sheet 106 = .ok (.iconst 1, 1) := by decide +kernel
theorem dX12_sheet_107 : decode cX12_sheet 107 = .ok (.ireturn, 1) := by decide +kernel
theorem dX12_cell_0 : decode cX12_cell 0 = .ok (.iload_n 1, 1) := by decide +kernel
theorem dX12_cell_1 : decode cX12_cell 1 = .ok (.invokestatic 352, 3) := by decide +kernel
theorem dX12_cell_4 : decode cX12_cell 4 = .ok (.ifCond .ne 6, 3) := by decide +kernel
theorem dX12_cell_7 : decode cX12_cell 7 = .ok (.bipush (-2), 2) := by decide +kernel
theorem dX12_cell_9 : decode cX12_cell 9 = .ok (.ireturn, 1) := by decide +kernel
theorem dX12_cell_10 : decode cX12_cell 10 = .ok (.aload_n 0, 1) := by decide +kernel
theorem dX12_cell_11 : decode cX12_cell 11 = .ok (.getfield 86, 3) := by decide +kernel
theorem dX12_cell_14 : decode cX12_cell 14 = .ok (.iload_n 1, 1) := by decide +kernel
theorem dX12_cell_15 : decode cX12_cell 15 = .ok (.baload, 1) := by decide +kernel
theorem dX12_cell_16 : decode cX12_cell 16 = .ok (.ifCond .ne 6, 3) := by decide +kernel
theorem dX12_cell_19 : decode cX12_cell 19 = .ok (.bipush (-11), 2) := by decide +kernel
theorem dX12_cell_21 : decode cX12_cell 21 = .ok (.ireturn, 1) := by decide +kernel
theorem dX12_cell_22 : decode cX12_cell 22 = .ok (.iload_n 2, 1) := by decide +kernel
theorem dX12_cell_23 : decode cX12_cell 23 = .ok (.i2l, 1) := by decide +kernel
theorem dX12_cell_24 : decode cX12_cell 24 = .ok (.lconst 0, 1) := by decide +kernel
theorem dX12_cell_25 : decode cX12_cell 25 = .ok (.aload_n 0, 1) := by decide +kernel
theorem dX12_cell_26 : decode cX12_cell 26 = .ok (.getfield 93, 3) := by decide +kernel
theorem dX12_cell_29 : decode cX12_cell 29 = .ok (.iload_n 1, 1) := by decide +kernel
theorem dX12_cell_30 : decode cX12_cell 30 = .ok (.iaload, 1) := by decide +kernel
theorem dX12_cell_31 : decode cX12_cell 31 = .ok (.iconst 1, 1) := by decide +kernel
theorem dX12_cell_32 : decode cX12_cell 32 = .ok (.isub, 1) := by decide +kernel
theorem dX12_cell_33 : decode cX12_cell 33 = .ok (.i2l, 1) := by decide +kernel
theorem dX12_cell_34 : decode cX12_cell 34 = .ok (.invokestatic 109, 3) := by decide +kernel
theorem dX12_cell_37 : decode cX12_cell 37 = .ok (.ifCond .ne 6, 3) := by decide +kernel
theorem dX12_cell_40 : decode cX12_cell 40 = .ok (.bipush (-12), 2) := by decide +kernel
theorem dX12_cell_42 : decode cX12_cell 42 = .ok (.ireturn, 1) := by decide +kernel
theorem dX12_cell_43 : decode cX12_cell 43 = .ok (.aload_n 0, 1) := by decide +kernel
theorem dX12_cell_44 : decode cX12_cell 44 = .ok (.getfield 96, 3) := by decide +kernel
theorem dX12_cell_47 : decode cX12_cell 47 = .ok (.bipush 40, 2) := by decide +kernel
theorem dX12_cell_49 : decode cX12_cell 49 = .ok (.iload_n 1, 1) := by decide +kernel
theorem dX12_cell_50 : decode cX12_cell 50 = .ok (.imul, 1) := by decide +kernel
theorem dX12_cell_51 : decode cX12_cell 51 = .ok (.iload_n 2, 1) := by decide +kernel
theorem dX12_cell_52 : decode cX12_cell 52 = .ok (.iadd, 1) := by decide +kernel
theorem dX12_cell_53 : decode cX12_cell 53 = .ok (.aload_n 0, 1) := by decide +kernel
theorem dX12_cell_54 : decode cX12_cell 54 = .ok (.getfield 90, 3) := by decide +kernel
theorem dX12_cell_57 : decode cX12_cell 57 = .ok (.iload_n 1, 1) := by decide +kernel
theorem dX12_cell_58 : decode cX12_cell 58 = .ok (.iaload, 1) := by decide +kernel
theorem dX12_cell_59 : decode cX12_cell 59 = .ok (.ifCond .ne 8, 3) := by decide +kernel
theorem dX12_cell_62 : decode cX12_cell 62 = .ok (.iload_n 3, 1) := by decide +kernel
theorem dX12_cell_63 : decode cX12_cell 63 = .ok (.i2b, 1) := by decide +kernel
theorem dX12_cell_64 : decode cX12_cell 64 = .ok (.goto 19, 3) := by decide +kernel
theorem dX12_cell_67 : decode cX12_cell 67 = .ok (.aload_n 0, 1) := by decide +kernel
theorem dX12_cell_68 : decode cX12_cell 68 = .ok (.getfield 90, 3) := by decide +kernel
theorem dX12_cell_71 : decode cX12_cell 71 = .ok (.iload_n 1, 1) := by decide +kernel
theorem dX12_cell_72 : decode cX12_cell 72 = .ok (.iaload, 1) := by decide +kernel
theorem dX12_cell_73 : decode cX12_cell 73 = .ok (.iconst 1, 1) := by decide +kernel
theorem dX12_cell_74 : decode cX12_cell 74 = .ok (.if_icmp .ne 8, 3) := by decide +kernel
theorem dX12_cell_77 : decode cX12_cell 77 = .ok (.iload_n 3, 1) := by decide +kernel
theorem dX12_cell_78 : decode cX12_cell 78 = .ok (.i2s, 1) := by decide +kernel
theorem dX12_cell_79 : decode cX12_cell 79 = .ok (.goto 4, 3) := by decide +kernel
theorem dX12_cell_82 : decode cX12_cell 82 = .ok (.iload_n 3, 1) := by decide +kernel
theorem dX12_cell_83 : decode cX12_cell 83 = .ok (.iastore, 1) := by decide +kernel
theorem dX12_cell_84 : decode cX12_cell 84 = .ok (.iconst 1, 1) := by decide +kernel
theorem dX12_cell_85 : decode cX12_cell 85 = .ok (.ireturn, 1) := by decide +kernel
theorem dX12_copy_0 : decode cX12_copy 0 = .ok (.iload_n 1, 1) := by decide +kernel
theorem dX12_copy_1 : decode cX12_copy 1 = .ok (.invokestatic 352, 3) := by decide +kernel
theorem dX12_copy_4 : decode cX12_copy 4 = .ok (.ifCond .eq 10, 3) := by decide +kernel
theorem dX12_copy_7 : decode cX12_copy 7 = .ok (.iload_n 3, 1) := by decide +kernel
theorem dX12_copy_8 : decode cX12_copy 8 = .ok (.invokestatic 352, 3) := by decide +kernel
theorem dX12_copy_11 : decode cX12_copy 11 = .ok (.ifCond .ne 6, 3) := by decide +kernel
theorem dX12_copy_14 : decode cX12_copy 14 = .ok (.bipush (-2), 2) := by decide +kernel
theorem dX12_copy_16 : decode cX12_copy 16 = .ok (.ireturn, 1) := by decide +kernel
theorem dX12_copy_17 : decode cX12_copy 17 = .ok (.aload_n 0, 1) := by decide +kernel
theorem dX12_copy_18 : decode cX12_copy 18 = .ok (.getfield 86, 3) := by decide +kernel
theorem dX12_copy_21 : decode cX12_copy 21 = .ok (.iload_n 1, 1) := by decide +kernel
theorem dX12_copy_22 : decode cX12_copy 22 = .ok (.baload, 1) := by decide +kernel
theorem dX12_copy_23 : decode cX12_copy 23 = .ok (.ifCond .eq 12, 3) := by decide +kernel
theorem dX12_copy_26 : decode cX12_copy 26 = .ok (.aload_n 0, 1) := by decide +kernel
theorem dX12_copy_27 : decode cX12_copy 27 = .ok (.getfield 86, 3) := by decide +kernel
theorem dX12_copy_30 : decode cX12_copy 30 = .ok (.iload_n 3, 1) := by decide +kernel
theorem dX12_copy_31 : decode cX12_copy 31 = .ok (.baload, 1) := by decide +kernel
theorem dX12_copy_32 : decode cX12_copy 32 = .ok (.ifCond .ne 6, 3) := by decide +kernel
theorem dX12_copy_35 : decode cX12_copy 35 = .ok (.bipush (-11), 2) := by decide +kernel
theorem dX12_copy_37 : decode cX12_copy 37 = .ok (.ireturn, 1) := by decide +kernel
theorem dX12_copy_38 : decode cX12_copy 38 = .ok (.aload_n 0, 1) := by decide +kernel
theorem dX12_copy_39 : decode cX12_copy 39 = .ok (.getfield 90, 3) := by decide +kernel
theorem dX12_copy_42 : decode cX12_copy 42 = .ok (.iload_n 1, 1) := by decide +kernel
theorem dX12_copy_43 : decode cX12_copy 43 = .ok (.iaload, 1) := by decide +kernel
theorem dX12_copy_44 : decode cX12_copy 44 = .ok (.aload_n 0, 1) := by decide +kernel
theorem dX12_copy_45 : decode cX12_copy 45 = .ok (.getfield 90, 3) := by decide +kernel
theorem dX12_copy_48 : decode cX12_copy 48 = .ok (.iload_n 3, 1) := by decide +kernel
theorem dX12_copy_49 : decode cX12_copy 49 = .ok (.iaload, 1) := by decide +kernel
theorem dX12_copy_50 : decode cX12_copy 50 = .ok (.if_icmp .eq 6, 3) := by decide +kernel
theorem dX12_copy_53 : decode cX12_copy 53 = .ok (.bipush (-13), 2) := by decide +kernel
theorem dX12_copy_55 : decode cX12_copy 55 = .ok (.ireturn, 1) := by decide +kernel
theorem dX12_copy_56 : decode cX12_copy 56 = .ok (.iload 5, 2) := by decide +kernel
theorem dX12_copy_58 : decode cX12_copy 58 = .ok (.ifCond .lt 39, 3) := by decide +kernel
theorem dX12_copy_61 : decode cX12_copy 61 = .ok (.iload_n 2, 1) := by decide +kernel
theorem dX12_copy_62 : decode cX12_copy 62 = .ok (.ifCond .lt 35, 3) := by decide +kernel
theorem dX12_copy_65 : decode cX12_copy 65 = .ok (.iload 4, 2) := by decide +kernel
theorem dX12_copy_67 : decode cX12_copy 67 = .ok (.ifCond .lt 30, 3) := by decide +kernel
theorem dX12_copy_70 : decode cX12_copy 70 = .ok (.iload_n 2, 1) := by decide +kernel
theorem dX12_copy_71 : decode cX12_copy 71 = .ok (.aload_n 0, 1) := by decide +kernel
theorem dX12_copy_72 : decode cX12_copy 72 = .ok (.getfield 93, 3) := by decide +kernel
theorem dX12_copy_75 : decode cX12_copy 75 = .ok (.iload_n 1, 1) := by decide +kernel
theorem dX12_copy_76 : decode cX12_copy 76 = .ok (.iaload, 1) := by decide +kernel
theorem dX12_copy_77 : decode cX12_copy 77 = .ok (.iload 5, 2) := by decide +kernel
theorem dX12_copy_79 : decode cX12_copy 79 = .ok (.isub, 1) := by decide +kernel
theorem dX12_copy_80 : decode cX12_copy 80 = .ok (.if_icmp .gt 17, 3) := by decide +kernel
theorem dX12_copy_83 : decode cX12_copy 83 = .ok (.iload 4, 2) := by decide +kernel
theorem dX12_copy_85 : decode cX12_copy 85 = .ok (.aload_n 0, 1) := by decide +kernel
theorem dX12_copy_86 : decode cX12_copy 86 = .ok (.getfield 93, 3) := by decide +kernel
theorem dX12_copy_89 : decode cX12_copy 89 = .ok (.iload_n 3, 1) := by decide +kernel
theorem dX12_copy_90 : decode cX12_copy 90 = .ok (.iaload, 1) := by decide +kernel
theorem dX12_copy_91 : decode cX12_copy 91 = .ok (.iload 5, 2) := by decide +kernel
theorem dX12_copy_93 : decode cX12_copy 93 = .ok (.isub, 1) := by decide +kernel
theorem dX12_copy_94 : decode cX12_copy 94 = .ok (.if_icmp .le 6, 3) := by decide +kernel
theorem dX12_copy_97 : decode cX12_copy 97 = .ok (.bipush (-12), 2) := by decide +kernel
theorem dX12_copy_99 : decode cX12_copy 99 = .ok (.ireturn, 1) := by decide +kernel
theorem dX12_copy_100 : decode cX12_copy 100 = .ok (.iload_n 1, 1) := by decide +kernel
theorem dX12_copy_101 : decode cX12_copy 101 = .ok (.iload_n 3, 1) := by decide +kernel
theorem dX12_copy_102 : decode cX12_copy 102 = .ok (.if_icmp .ne 13, 3) := by decide +kernel
theorem dX12_copy_105 : decode cX12_copy 105 = .ok (.iload_n 2, 1) := by decide +kernel
theorem dX12_copy_106 : decode cX12_copy 106 = .ok (.iload 4, 2) := by decide +kernel
theorem dX12_copy_108 : decode cX12_copy 108 = .ok (.if_icmp .ge 7, 3) := by decide +kernel
theorem dX12_copy_111 : decode cX12_copy 111 = .ok (.iconst 1, 1) := by decide +kernel
theorem dX12_copy_112 : decode cX12_copy 112 = .ok (.goto 4, 3) := by decide +kernel
theorem dX12_copy_115 : decode cX12_copy 115 = .ok (.iconst 0, 1) := by decide +kernel
theorem dX12_copy_116 : decode cX12_copy 116 = .ok (.istore 6, 2) := by decide +kernel
theorem dX12_copy_118 : decode cX12_copy 118 = .ok (.iconst 0, 1) := by decide +kernel
theorem dX12_copy_119 : decode cX12_copy 119 = .ok (.istore 7, 2) := by decide +kernel
theorem dX12_copy_121 : decode cX12_copy 121 = .ok (.iload 7, 2) := by decide +kernel
theorem dX12_copy_123 : decode cX12_copy 123 = .ok (.iload 5, 2) := by decide +kernel
theorem dX12_copy_125 : decode cX12_copy 125 = .ok (.if_icmp .ge 57, 3) := by decide +kernel
theorem dX12_copy_128 : decode cX12_copy 128 = .ok (.iload 6, 2) := by decide +kernel
theorem dX12_copy_130 : decode cX12_copy 130 = .ok (.ifCond .eq 13, 3) := by decide +kernel
theorem dX12_copy_133 : decode cX12_copy 133 = .ok (.iload 5, 2) := by decide +kernel
theorem dX12_copy_135 : decode cX12_copy 135 = .ok (.iconst 1, 1) := by decide +kernel
theorem dX12_copy_136 : decode cX12_copy 136 = .ok (.isub, 1) := by decide +kernel
theorem dX12_copy_137 : decode cX12_copy 137 = .ok (.iload 7, 2) := by decide +kernel
theorem dX12_copy_139 : decode cX12_copy 139 = .ok (.isub, 1) := by decide +kernel
theorem dX12_copy_140 : decode cX12_copy 140 = .ok (.goto 5, 3) := by decide +kernel
theorem dX12_copy_143 : decode cX12_copy 143 = .ok (.iload 7, 2) := by decide +kernel
theorem dX12_copy_145 : decode cX12_copy 145 = .ok (.istore 8, 2) := by decide +kernel
theorem dX12_copy_147 : decode cX12_copy 147 = .ok (.aload_n 0, 1) := by decide +kernel
theorem dX12_copy_148 : decode cX12_copy 148 = .ok (.getfield 96, 3) := by decide +kernel
theorem dX12_copy_151 : decode cX12_copy 151 = .ok (.bipush 40, 2) := by decide +kernel
theorem dX12_copy_153 : decode cX12_copy 153 = .ok (.iload_n 3, 1) := by decide +kernel
theorem dX12_copy_154 : decode cX12_copy 154 = .ok (.imul, 1) := by decide +kernel
theorem dX12_copy_155 : decode cX12_copy 155 = .ok (.iload 4, 2) := by decide +kernel
theorem dX12_copy_157 : decode cX12_copy 157 = .ok (.iadd, 1) := by decide +kernel
theorem dX12_copy_158 : decode cX12_copy 158 = .ok (.iload 8, 2) := by decide +kernel
theorem dX12_copy_160 : decode cX12_copy 160 = .ok (.iadd, 1) := by decide +kernel
theorem dX12_copy_161 : decode cX12_copy 161 = .ok (.aload_n 0, 1) := by decide +kernel
theorem dX12_copy_162 : decode cX12_copy 162 = .ok (.getfield 96, 3) := by decide +kernel
theorem dX12_copy_165 : decode cX12_copy 165 = .ok (.bipush 40, 2) := by decide +kernel
theorem dX12_copy_167 : decode cX12_copy 167 = .ok (.iload_n 1, 1) := by decide +kernel
theorem dX12_copy_168 : decode cX12_copy 168 = .ok (.imul, 1) := by decide +kernel
theorem dX12_copy_169 : decode cX12_copy 169 = .ok (.iload_n 2, 1) := by decide +kernel
theorem dX12_copy_170 : decode cX12_copy 170 = .ok (.iadd, 1) := by decide +kernel
theorem dX12_copy_171 : decode cX12_copy 171 = .ok (.iload 8, 2) := by decide +kernel
theorem dX12_copy_173 : decode cX12_copy 173 = .ok (.iadd, 1) := by decide +kernel
theorem dX12_copy_174 : decode cX12_copy 174 = .ok (.iaload, 1) := by decide +kernel
theorem dX12_copy_175 : decode cX12_copy 175 = .ok (.iastore, 1) := by decide +kernel
theorem dX12_copy_176 : decode cX12_copy 176 = .ok (.iinc 7 1, 3) := by decide +kernel
theorem dX12_copy_179 : decode cX12_copy 179 = .ok (.goto (-58), 3) := by decide +kernel
theorem dX12_copy_182 : decode cX12_copy 182 = .ok (.iload 5, 2) := by decide +kernel
theorem dX12_copy_184 : decode cX12_copy 184 = .ok (.ireturn, 1) := by decide +kernel
theorem dX12_things_0 : decode cX12_things 0 = .ok (.iload_n 1, 1) := by decide +kernel
theorem dX12_things_1 : decode cX12_things 1 = .ok (.invokestatic 352, 3) := by decide +kernel
theorem dX12_things_4 : decode cX12_things 4 = .ok (.ifCond .eq 28, 3) := by decide +kernel
theorem dX12_things_7 : decode cX12_things 7 = .ok (.iload_n 2, 1) := by decide +kernel
theorem dX12_things_8 : decode cX12_things 8 = .ok (.i2l, 1) := by decide +kernel
theorem dX12_things_9 : decode cX12_things 9 = .ok (.lconst 0, 1) := by decide +kernel
theorem dX12_things_10 : decode cX12_things 10 = .ok (.ldc2_w 339, 3) := by decide +kernel
theorem dX12_things_13 : decode cX12_things 13 = .ok (.invokestatic 109, 3) := by decide +kernel
theorem dX12_things_16 : decode cX12_things 16 = .ok (.ifCond .eq 16, 3) := by decide +kernel
theorem dX12_things_19 : decode cX12_things 19 = .ok (.iload 4, 2) := by decide +kernel
theorem dX12_things_21 : decode cX12_things 21 = .ok (.i2l, 1) := by decide +kernel
theorem dX12_things_22 : decode cX12_things 22 = .ok (.lconst 0, 1) := by decide +kernel
theorem dX12_things_23 : decode cX12_things 23 = .ok (.ldc2_w 113, 3) := by decide +kernel
theorem dX12_things_26 : decode cX12_things 26 = .ok (.invokestatic 109, 3) := by decide +kernel
theorem dX12_things_29 : decode cX12_things 29 = .ok (.ifCond .ne 6, 3) := by decide +kernel
theorem dX12_things_32 : decode cX12_things 32 = .ok (.bipush (-2), 2) := by decide +kernel
theorem dX12_things_34 : decode cX12_things 34 = .ok (.ireturn, 1) := by decide +kernel
theorem dX12_things_35 : decode cX12_things 35 = .ok (.aload_n 0, 1) := by decide +kernel
theorem dX12_things_36 : decode cX12_things 36 = .ok (.getfield 86, 3) := by decide +kernel
theorem dX12_things_39 : decode cX12_things 39 = .ok (.iload_n 1, 1) := by decide +kernel
theorem dX12_things_40 : decode cX12_things 40 = .ok (.baload, 1) := by decide +kernel
theorem dX12_things_41 : decode cX12_things 41 = .ok (.ifCond .eq 16, 3) := by decide +kernel
theorem dX12_things_44 : decode cX12_things 44 = .ok (.aload_n 0, 1) := by decide +kernel
theorem dX12_things_45 : decode cX12_things 45 = .ok (.getfield 90, 3) := by decide +kernel
theorem dX12_things_48 : decode cX12_things 48 = .ok (.iload_n 1, 1) := by decide +kernel
theorem dX12_things_49 : decode cX12_things 49 = .ok (.iaload, 1) := by decide +kernel
theorem dX12_things_50 : decode cX12_things 50 = .ok (.iload_n 2, 1) := by decide +kernel
theorem dX12_things_51 : decode cX12_things 51 = .ok (.if_icmp .eq 6, 3) := by decide +kernel
theorem dX12_things_54 : decode cX12_things 54 = .ok (.bipush (-13), 2) := by decide +kernel
theorem dX12_things_56 : decode cX12_things 56 = .ok (.ireturn, 1) := by decide +kernel
theorem dX12_things_57 : decode cX12_things 57 = .ok (.aload_n 0, 1) := by decide +kernel
theorem dX12_things_58 : decode cX12_things 58 = .ok (.getfield 86, 3) := by decide +kernel
theorem dX12_things_61 : decode cX12_things 61 = .ok (.iload_n 1, 1) := by decide +kernel
theorem dX12_things_62 : decode cX12_things 62 = .ok (.baload, 1) := by decide +kernel
theorem dX12_things_63 : decode cX12_things 63 = .ok (.ifCond .ne 6, 3) := by decide +kernel
theorem dX12_things_66 : decode cX12_things 66 = .ok (.bipush (-11), 2) := by decide +kernel
theorem dX12_things_68 : decode cX12_things 68 = .ok (.ireturn, 1) := by decide +kernel
theorem dX12_things_69 : decode cX12_things 69 = .ok (.iconst 0, 1) := by decide +kernel
theorem dX12_things_70 : decode cX12_things 70 = .ok (.istore 5, 2) := by decide +kernel
theorem dX12_things_72 : decode cX12_things 72 = .ok (.iconst 0, 1) := by decide +kernel
theorem dX12_things_73 : decode cX12_things 73 = .ok (.istore 6, 2) := by decide +kernel
theorem dX12_things_75 : decode cX12_things 75 = .ok (.iload 6, 2) := by decide +kernel
theorem dX12_things_77 : decode cX12_things 77 = .ok (.iload 4, 2) := by decide +kernel
theorem dX12_things_79 : decode cX12_things 79 = .ok (.if_icmp .ge 88, 3) := by decide +kernel
theorem dX12_things_82 : decode cX12_things 82 = .ok (.iload_n 3, 1) := by decide +kernel
theorem dX12_things_83 : decode cX12_things 83 = .ok (.ifCond .lt 20, 3) := by decide +kernel
theorem dX12_things_86 : decode cX12_things 86 = .ok (.iload_n 3, 1) := by decide +kernel
theorem dX12_things_87 : decode cX12_things 87 = .ok (.aload_n 0, 1) := by decide +kernel
theorem dX12_things_88 : decode cX12_things 88 = .ok (.getfield 93, 3) := by decide +kernel
theorem dX12_things_91 : decode cX12_things 91 = .ok (.iload_n 1, 1) := by decide +kernel
theorem dX12_things_92 : decode cX12_things 92 = .ok (.iaload, 1) := by decide +kernel
theorem dX12_things_93 : decode cX12_things 93 = .ok (.iconst 3, 1) := by decide +kernel
theorem dX12_things_94 : decode cX12_things 94 = .ok (.iload 6, 2) := by decide +kernel
theorem dX12_things_96 : decode cX12_things 96 = .ok (.imul, 1) := by decide +kernel
theorem dX12_things_97 : decode cX12_things 97 = .ok (.isub, 1) := by decide +kernel
theorem dX12_things_98 : decode cX12_things 98 = .ok (.iconst 3, 1) := by decide +kernel
theorem dX12_things_99 : decode cX12_things 99 = .ok (.isub, 1) := by decide +kernel
theorem dX12_things_100 : decode cX12_things 100 = .ok (.if_icmp .le 6, 3) := by decide +kernel
theorem dX12_things_103 : decode cX12_things 103 = .ok (.bipush (-12), 2) := by decide +kernel
theorem dX12_things_105 : decode cX12_things 105 = .ok (.ireturn, 1) := by decide +kernel
theorem dX12_things_106 : decode cX12_things 106 = .ok (.bipush 40, 2) := by decide +kernel
theorem dX12_things_108 : decode cX12_things 108 = .ok (.iload_n 1, 1) := by decide +kernel
theorem dX12_things_109 : decode cX12_things 109 = .ok (.imul, 1) := by decide +kernel
theorem dX12_things_110 : decode cX12_things 110 = .ok (.iload_n 3, 1) := by decide +kernel
theorem dX12_things_111 : decode cX12_things 111 = .ok (.iadd, 1) := by decide +kernel
theorem dX12_things_112 : decode cX12_things 112 = .ok (.iconst 3, 1) := by decide +kernel
theorem dX12_things_113 : decode cX12_things 113 = .ok (.iload 6, 2) := by decide +kernel
theorem dX12_things_115 : decode cX12_things 115 = .ok (.imul, 1) := by decide +kernel
theorem dX12_things_116 : decode cX12_things 116 = .ok (.iadd, 1) := by decide +kernel
theorem dX12_things_117 : decode cX12_things 117 = .ok (.istore 7, 2) := by decide +kernel
theorem dX12_things_119 : decode cX12_things 119 = .ok (.iload 5, 2) := by decide +kernel
theorem dX12_things_121 : decode cX12_things 121 = .ok (.aload_n 0, 1) := by decide +kernel
theorem dX12_things_122 : decode cX12_things 122 = .ok (.aload_n 0, 1) := by decide +kernel
theorem dX12_things_123 : decode cX12_things 123 = .ok (.getfield 96, 3) := by decide +kernel
theorem dX12_things_126 : decode cX12_things 126 = .ok (.iload 7, 2) := by decide +kernel
theorem dX12_things_128 : decode cX12_things 128 = .ok (.iaload, 1) := by decide +kernel
theorem dX12_things_129 : decode cX12_things 129 = .ok (.aload_n 0, 1) := by decide +kernel
theorem dX12_things_130 : decode cX12_things 130 = .ok (.getfield 96, 3) := by decide +kernel
theorem dX12_things_133 : decode cX12_things 133 = .ok (.iload 7, 2) := by decide +kernel
theorem dX12_things_135 : decode cX12_things 135 = .ok (.iconst 1, 1) := by decide +kernel
theorem dX12_things_136 : decode cX12_things 136 = .ok (.iadd, 1) := by decide +kernel
theorem dX12_things_137 : decode cX12_things 137 = .ok (.iaload, 1) := by decide +kernel
theorem dX12_things_138 : decode cX12_things 138 = .ok (.aload_n 0, 1) := by decide +kernel
theorem dX12_things_139 : decode cX12_things 139 = .ok (.getfield 96, 3) := by decide +kernel
theorem dX12_things_142 : decode cX12_things 142 = .ok (.iload 7, 2) := by decide +kernel
theorem dX12_things_144 : decode cX12_things 144 = .ok (.iconst 2, 1) := by decide +kernel
theorem dX12_things_145 : decode cX12_things 145 = .ok (.iadd, 1) := by decide +kernel
theorem dX12_things_146 : decode cX12_things 146 = .ok (.iaload, 1) := by decide +kernel
theorem dX12_things_147 : decode cX12_things 147 = .ok (.invokevirtual 377, 3) := by decide +kernel
theorem dX12_things_150 : decode cX12_things 150 = .ok (.ifCond .lt 7, 3) := by decide +kernel
theorem dX12_things_153 : decode cX12_things 153 = .ok (.iconst 1, 1) := by decide +kernel
theorem dX12_things_154 : decode cX12_things 154 = .ok (.goto 4, 3) := by decide +kernel
theorem dX12_things_157 : decode cX12_things 157 = .ok (.iconst 0, 1) := by decide +kernel
theorem dX12_things_158 : decode cX12_things 158 = .ok (.iadd, 1) := by decide +kernel
theorem dX12_things_159 : decode cX12_things 159 = .ok (.istore 5, 2) := by decide +kernel
theorem dX12_things_161 : decode cX12_things 161 = .ok (.iinc 6 1, 3) := by decide +kernel
theorem dX12_things_164 : decode cX12_things 164 = .ok (.goto (-89), 3) := by decide +kernel
theorem dX12_things_167 : decode cX12_things 167 = .ok (.iload 5, 2) := by decide +kernel
theorem dX12_things_169 : decode cX12_things 169 = .ok (.ireturn, 1) := by decide +kernel
theorem dX12_over_0 : decode cX12_over 0 = .ok (.iload_n 0, 1) := by decide +kernel
theorem dX12_over_1 : decode cX12_over 1 = .ok (.ifCond .ne 7, 3) := by decide +kernel
theorem dX12_over_4 : decode cX12_over 4 = .ok (.iconst (-1), 1) := by decide +kernel
theorem dX12_over_5 : decode cX12_over 5 = .ok (.goto 22, 3) := by decide +kernel
theorem dX12_over_8 : decode cX12_over 8 = .ok (.iload_n 0, 1) := by decide +kernel
theorem dX12_over_9 : decode cX12_over 9 = .ok (.iconst 3, 1) := by decide +kernel
theorem dX12_over_10 : decode cX12_over 10 = .ok (.if_icmp .ne 7, 3) := by decide +kernel
theorem dX12_over_13 : decode cX12_over 13 = .ok (.iconst 1, 1) := by decide +kernel
theorem dX12_over_14 : decode cX12_over 14 = .ok (.goto 13, 3) := by decide +kernel
theorem dX12_over_17 : decode cX12_over 17 = .ok (.iload_n 0, 1) := by decide +kernel
theorem dX12_over_18 : decode cX12_over 18 = .ok (.iconst 4, 1) := by decide +kernel
theorem dX12_over_19 : decode cX12_over 19 = .ok (.if_icmp .ne 7, 3) := by decide +kernel
theorem dX12_over_22 : decode cX12_over 22 = .ok (.iconst 2, 1) := by decide +kernel
theorem dX12_over_23 : decode cX12_over 23 = .ok (.goto 4, 3) := by decide +kernel
theorem dX12_over_26 : decode cX12_over 26 = .ok (.iconst 0, 1) := by decide +kernel
theorem dX12_over_27 : decode cX12_over 27 = .ok (.ireturn, 1) := by decide +kernel
theorem dX12_taken_0 : decode cX12_taken 0 = .ok (.iload_n 2, 1) := by decide +kernel
theorem dX12_taken_1 : decode cX12_taken 1 = .ok (.i2l, 1) := by decide +kernel
theorem dX12_taken_2 : decode cX12_taken 2 = .ok (.lconst 0, 1) := by decide +kernel
theorem dX12_taken_3 : decode cX12_taken 3 = .ok (.ldc2_w 113, 3) := by decide +kernel
theorem dX12_taken_6 : decode cX12_taken 6 = .ok (.invokestatic 109, 3) := by decide +kernel
theorem dX12_taken_9 : decode cX12_taken 9 = .ok (.ifCond .ne 6, 3) := by decide +kernel
theorem dX12_taken_12 : decode cX12_taken 12 = .ok (.bipush (-2), 2) := by decide +kernel
theorem dX12_taken_14 : decode cX12_taken 14 = .ok (.ireturn, 1) := by decide +kernel
theorem dX12_taken_15 : decode cX12_taken 15 = .ok (.aload_n 0, 1) := by decide +kernel
theorem dX12_taken_16 : decode cX12_taken 16 = .ok (.iload_n 1, 1) := by decide +kernel
theorem dX12_taken_17 : decode cX12_taken 17 = .ok (.invokevirtual 123, 3) := by decide +kernel
theorem dX12_taken_20 : decode cX12_taken 20 = .ok (.ifCond .ne 6, 3) := by decide +kernel
theorem dX12_taken_23 : decode cX12_taken 23 = .ok (.bipush (-11), 2) := by decide +kernel
theorem dX12_taken_25 : decode cX12_taken 25 = .ok (.ireturn, 1) := by decide +kernel
theorem dX12_taken_26 : decode cX12_taken 26 = .ok (.aload_n 0, 1) := by decide +kernel
theorem dX12_taken_27 : decode cX12_taken 27 = .ok (.getfield 32, 3) := by decide +kernel
theorem dX12_taken_30 : decode cX12_taken 30 = .ok (.iload_n 1, 1) := by decide +kernel
theorem dX12_taken_31 : decode cX12_taken 31 = .ok (.iaload, 1) := by decide +kernel
theorem dX12_taken_32 : decode cX12_taken 32 = .ok (.istore_n 3, 1) := by decide +kernel
theorem dX12_taken_33 : decode cX12_taken 33 = .ok (.iload_n 3, 1) := by decide +kernel
theorem dX12_taken_34 : decode cX12_taken 34 = .ok (.iconst (-1), 1) := by decide +kernel
theorem dX12_taken_35 : decode cX12_taken 35 = .ok (.if_icmp .eq 16, 3) := by decide +kernel
theorem dX12_taken_38 : decode cX12_taken 38 = .ok (.iload_n 3, 1) := by decide +kernel
theorem dX12_taken_39 : decode cX12_taken 39 = .ok (.iload_n 2, 1) := by decide +kernel
theorem dX12_taken_40 : decode cX12_taken 40 = .ok (.if_icmp .eq 11, 3) := by decide +kernel
theorem dX12_taken_43 : decode cX12_taken 43 = .ok (.iload_n 3, 1) := by decide +kernel
theorem dX12_taken_44 : decode cX12_taken 44 = .ok (.invokestatic 380, 3) := by decide +kernel
theorem dX12_taken_47 : decode cX12_taken 47 = .ok (.istore_n 3, 1) := by decide +kernel
theorem dX12_taken_48 : decode cX12_taken 48 = .ok (.goto (-15), 3) := by decide +kernel
theorem dX12_taken_51 : decode cX12_taken 51 = .ok (.iload_n 3, 1) := by decide +kernel
theorem dX12_taken_52 : decode cX12_taken 52 = .ok (.iload_n 2, 1) := by decide +kernel
theorem dX12_taken_53 : decode cX12_taken 53 = .ok (.if_icmp .ne 12, 3) := by decide +kernel
theorem dX12_taken_56 : decode cX12_taken 56 = .ok (.aload_n 0, 1) := by decide +kernel
theorem dX12_taken_57 : decode cX12_taken 57 = .ok (.getfield 35, 3) := by decide +kernel
theorem dX12_taken_60 : decode cX12_taken 60 = .ok (.iload_n 1, 1) := by decide +kernel
theorem dX12_taken_61 : decode cX12_taken 61 = .ok (.iaload, 1) := by decide +kernel
theorem dX12_taken_62 : decode cX12_taken 62 = .ok (.goto 5, 3) := by decide +kernel
theorem dX12_taken_65 : decode cX12_taken 65 = .ok (.bipush (-13), 2) := by decide +kernel
theorem dX12_taken_67 : decode cX12_taken 67 = .ok (.ireturn, 1) := by decide +kernel
