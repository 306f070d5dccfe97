theorem dX12_in_0 : decode cX12_in 0 = .ok (.lload_n 0, 1) := by decide +kernel
theorem dX12_in_1 : decode cX12_in 1 = .ok (.lload_n 2, 1) := by decide +kernel
theorem dX12_in_2 : decode cX12_in 2 = .ok (.lcmp, 1) := by decide +kernel
theorem dX12_in_3 : decode cX12_in 3 = .ok (.ifCond .lt 14, 3) := by decide +kernel
theorem dX12_in_6 : decode cX12_in 6 = .ok (.lload_n 0, 1) := by decide +kernel
theorem dX12_in_7 : decode cX12_in 7 = .ok (.lload 4, 2) := by decide +kernel
theorem dX12_in_9 : decode cX12_in 9 = .ok (.lcmp, 1) := by decide +kernel
theorem dX12_in_10 : decode cX12_in 10 = .ok (.ifCond .gt 7, 3) := by decide +kernel
theorem dX12_in_13 : decode cX12_in 13 = .ok (.iconst 1, 1) := by decide +kernel
theorem dX12_in_14 : decode cX12_in 14 = .ok (.goto 4, 3) := by decide +kernel
theorem dX12_in_17 : decode cX12_in 17 = .ok (.iconst 0, 1) := by decide +kernel
theorem dX12_in_18 : decode cX12_in 18 = .ok (.ireturn, 1) := by decide +kernel
theorem dX12_within_0 : decode cX12_within 0 = .ok (.iload_n 0, 1) := by decide +kernel
theorem dX12_within_1 : decode cX12_within 1 = .ok (.iload_n 1, 1) := by decide +kernel
theorem dX12_within_2 : decode cX12_within 2 = .ok (.if_icmp .ge 7, 3) := by decide +kernel
theorem dX12_within_5 : decode cX12_within 5 = .ok (.iload_n 1, 1) := by decide +kernel
theorem dX12_within_6 : decode cX12_within 6 = .ok (.goto 13, 3) := by decide +kernel
theorem dX12_within_9 : decode cX12_within 9 = .ok (.iload_n 0, 1) := by decide +kernel
theorem dX12_within_10 : decode cX12_within 10 = .ok (.iload_n 2, 1) := by decide +kernel
theorem dX12_within_11 : decode cX12_within 11 = .ok (.if_icmp .le 7, 3) := by decide +kernel
theorem dX12_within_14 : decode cX12_within 14 = .ok (.iload_n 2, 1) := by decide +kernel
theorem dX12_within_15 : decode cX12_within 15 = .ok (.goto 4, 3) := by decide +kernel
theorem dX12_within_18 : decode cX12_within 18 = .ok (.iload_n 0, 1) := by decide +kernel
theorem dX12_within_19 : decode cX12_within 19 = .ok (.ireturn, 1) := by decide +kernel
theorem dX12_bitsOf_0 : decode cX12_bitsOf 0 = .ok (.iconst 0, 1) := by decide +kernel
theorem dX12_bitsOf_1 : decode cX12_bitsOf 1 = .ok (.istore_n 1, 1) := by decide +kernel
theorem dX12_bitsOf_2 : decode cX12_bitsOf 2 = .ok (.iload_n 0, 1) := by decide +kernel
theorem dX12_bitsOf_3 : decode cX12_bitsOf 3 = .ok (.istore_n 2, 1) := by decide +kernel
theorem dX12_bitsOf_4 : decode cX12_bitsOf 4 = .ok (.iload_n 2, 1) := by decide +kernel
theorem dX12_bitsOf_5 : decode cX12_bitsOf 5 = .ok (.ifCond .eq 15, 3) := by decide +kernel
theorem dX12_bitsOf_8 : decode cX12_bitsOf 8 = .ok (.iinc 1 1, 3) := by decide +kernel
theorem dX12_bitsOf_11 : decode cX12_bitsOf 11 = .ok (.iload_n 2, 1) := by decide +kernel
theorem dX12_bitsOf_12 : decode cX12_bitsOf 12 = .ok (.iload_n 2, 1) := by decide +kernel
theorem dX12_bitsOf_13 : decode cX12_bitsOf 13 = .ok (.iconst 1, 1) := by decide +kernel
theorem dX12_bitsOf_14 : decode cX12_bitsOf 14 = .ok (.isub, 1) := by decide +kernel
theorem dX12_bitsOf_15 : decode cX12_bitsOf 15 = .ok (.iand, 1) := by decide +kernel
theorem dX12_bitsOf_16 : decode cX12_bitsOf 16 = .ok (.istore_n 2, 1) := by decide +kernel
theorem dX12_bitsOf_17 : decode cX12_bitsOf 17 = .ok (.goto (-13), 3) := by decide +kernel
theorem dX12_bitsOf_20 : decode cX12_bitsOf 20 = .ok (.iload_n 1, 1) := by decide +kernel
theorem dX12_bitsOf_21 : decode cX12_bitsOf 21 = .ok (.ireturn, 1) := by decide +kernel
theorem dX12_init_0 : decode cX12_init 0 = .ok (.aload_n 0, 1) := by decide +kernel
theorem dX12_init_1 : decode cX12_init 1 = .ok (.invokespecial 7, 3) := by decide +kernel
theorem dX12_init_4 : decode cX12_init 4 = .ok (.aload_n 0, 1) := by decide +kernel
theorem dX12_init_5 : decode cX12_init 5 = .ok (.sipush 960, 3) := by decide +kernel
theorem dX12_init_8 : decode cX12_init 8 = .ok (.newarray .int, 2) := by decide +kernel
theorem dX12_init_10 : decode cX12_init 10 = .ok (.putfield 13, 3) := by decide +kernel
theorem dX12_init_13 : decode cX12_init 13 = .ok (.aload_n 0, 1) := by decide +kernel
theorem dX12_init_14 : decode cX12_init 14 = .ok (.bipush 6, 2) := by decide +kernel
theorem dX12_init_16 : decode cX12_init 16 = .ok (.newarray .int, 2) := by decide +kernel
theorem dX12_init_18 : decode cX12_init 18 = .ok (.putfield 17, 3) := by decide +kernel
theorem dX12_init_21 : decode cX12_init 21 = .ok (.aload_n 0, 1) := by decide +kernel
theorem dX12_init_22 : decode cX12_init 22 = .ok (.sipush 160, 3) := by decide +kernel
theorem dX12_init_25 : decode cX12_init 25 = .ok (.newarray .int, 2) := by decide +kernel
theorem dX12_init_27 : decode cX12_init 27 = .ok (.putfield 20, 3) := by decide +kernel
theorem dX12_init_30 : decode cX12_init 30 = .ok (.aload_n 0, 1) := by decide +kernel
theorem dX12_init_31 : decode cX12_init 31 = .ok (.bipush 6, 2) := by decide +kernel
theorem dX12_init_33 : decode cX12_init 33 = .ok (.newarray .int, 2) := by decide +kernel
theorem dX12_init_35 : decode cX12_init 35 = .ok (.putfield 23, 3) := by decide +kernel
theorem dX12_init_38 : decode cX12_init 38 = .ok (.aload_n 0, 1) := by decide +kernel
theorem dX12_init_39 : decode cX12_init 39 = .ok (.iconst 4, 1) := by decide +kernel
theorem dX12_init_40 : decode cX12_init 40 = .ok (.newarray .int, 2) := by decide +kernel
theorem dX12_init_42 : decode cX12_init 42 = .ok (.putfield 26, 3) := by decide +kernel
theorem dX12_init_45 : decode cX12_init 45 = .ok (.aload_n 0, 1) := by decide +kernel
theorem dX12_init_46 : decode cX12_init 46 = .ok (.bipush 7, 2) := by decide +kernel
theorem dX12_init_48 : decode cX12_init 48 = .ok (.newarray .int, 2) := by decide +kernel
theorem dX12_init_50 : decode cX12_init 50 = .ok (.putfield 29, 3) := by decide +kernel
theorem dX12_init_53 : decode cX12_init 53 = .ok (.aload_n 0, 1) := by decide +kernel
theorem dX12_init_54 : decode cX12_init 54 = .ok (.iconst 5, 1) := by decide +kernel
theorem dX12_init_55 : decode cX12_init 55 = .ok (.newarray .int, 2) := by decide +kernel
theorem dX12_init_57 : decode cX12_init 57 = .ok (.putfield 32, 3) := by decide +kernel
theorem dX12_init_60 : decode cX12_init 60 = .ok (.aload_n 0, 1) := by decide +kernel
theorem dX12_init_61 : decode cX12_init 61 = .ok (.iconst 5, 1) := by decide +kernel
theorem dX12_init_62 : decode cX12_init 62 = .ok (.newarray .int, 2) := by decide +kernel
theorem dX12_init_64 : decode cX12_init 64 = .ok (.putfield 35, 3) := by decide +kernel
theorem dX12_init_67 : decode cX12_init 67 = .ok (.aload_n 0, 1) := by decide +kernel
theorem dX12_init_68 : decode cX12_init 68 = .ok (.iconst 5, 1) := by decide +kernel
theorem dX12_init_69 : decode cX12_init 69 = .ok (.newarray .int, 2) := by decide +kernel
theorem dX12_init_71 : decode cX12_init 71 = .ok (.putfield 38, 3) := by decide +kernel
theorem dX12_init_74 : decode cX12_init 74 = .ok (.aload_n 0, 1) := by decide +kernel
theorem dX12_init_75 : decode cX12_init 75 = .ok (.iconst 5, 1) := by decide +kernel
theorem dX12_init_76 : decode cX12_init 76 = .ok (.newarray .int, 2) := by decide +kernel
theorem dX12_init_78 : decode cX12_init 78 = .ok (.putfield 41, 3) := by decide +kernel
theorem dX12_init_81 : decode cX12_init 81 = .ok (.aload_n 0, 1) := by decide +kernel
theorem dX12_init_82 : decode cX12_init 82 = .ok (.iconst 5, 1) := by decide +kernel
theorem dX12_init_83 : decode cX12_init 83 = .ok (.newarray .int, 2) := by decide +kernel
theorem dX12_init_85 : decode cX12_init 85 = .ok (.putfield 44, 3) := by decide +kernel
theorem dX12_init_88 : decode cX12_init 88 = .ok (.aload_n 0, 1) := by decide +kernel
theorem dX12_init_89 : decode cX12_init 89 = .ok (.bipush 35, 2) := by decide +kernel
theorem dX12_init_91 : decode cX12_init 91 = .ok (.newarray .int, 2) := by decide +kernel
theorem dX12_init_93 : decode cX12_init 93 = .ok (.putfield 47, 3) := by decide +kernel
theorem dX12_init_96 : decode cX12_init 96 = .ok (.aload_n 0, 1) := by decide +kernel
theorem dX12_init_97 : decode cX12_init 97 = .ok (.bipush 35, 2) := by decide +kernel
theorem dX12_init_99 : decode cX12_init 99 = .ok (.newarray .int, 2) := by decide +kernel
theorem dX12_init_101 : decode cX12_init 101 = .ok (.putfield 50, 3) := by decide +kernel
theorem dX12_init_104 : decode cX12_init 104 = .ok (.aload_n 0, 1) := by decide +kernel
theorem dX12_init_105 : decode cX12_init 105 = .ok (.bipush 25, 2) := by decide +kernel
theorem dX12_init_107 : decode cX12_init 107 = .ok (.newarray .int, 2) := by decide +kernel
theorem dX12_init_109 : decode cX12_init 109 = .ok (.putfield 53, 3) := by decide +kernel
theorem dX12_init_112 : decode cX12_init 112 = .ok (.aload_n 0, 1) := by decide +kernel
theorem dX12_init_113 : decode cX12_init 113 = .ok (.bipush 35, 2) := by decide +kernel
theorem dX12_init_115 : decode cX12_init 115 = .ok (.newarray .int, 2) := by decide +kernel
theorem dX12_init_117 : decode cX12_init 117 = .ok (.putfield 56, 3) := by decide +kernel
theorem dX12_init_120 : decode cX12_init 120 = .ok (.aload_n 0, 1) := by decide +kernel
theorem dX12_init_121 : decode cX12_init 121 = .ok (.iconst (-1), 1) := by decide +kernel
theorem dX12_init_122 : decode cX12_init 122 = .ok (.putfield 59, 3) := by decide +kernel
theorem dX12_init_125 : decode cX12_init 125 = .ok (.aload_n 0, 1) := by decide +kernel
theorem dX12_init_126 : decode cX12_init 126 = .ok (.iconst 5, 1) := by decide +kernel
theorem dX12_init_127 : decode cX12_init 127 = .ok (.newarray .int, 2) := by decide +kernel
theorem dX12_init_129 : decode cX12_init 129 = .ok (.putfield 62, 3) := by decide +kernel
theorem dX12_init_132 : decode cX12_init 132 = .ok (.aload_n 0, 1) := by decide +kernel
theorem dX12_init_133 : decode cX12_init 133 = .ok (.iconst 5, 1) := by decide +kernel
theorem dX12_init_134 : decode cX12_init 134 = .ok (.newarray .int, 2) := by decide +kernel
theorem dX12_init_136 : decode cX12_init 136 = .ok (.putfield 65, 3) := by decide +kernel
theorem dX12_init_139 : decode cX12_init 139 = .ok (.aload_n 0, 1) := by decide +kernel
theorem dX12_init_140 : decode cX12_init 140 = .ok (.iconst 5, 1) := by decide +kernel
theorem dX12_init_141 : decode cX12_init 141 = .ok (.newarray .int, 2) := by decide +kernel
theorem dX12_init_143 : decode cX12_init 143 = .ok (.putfield 68, 3) := by decide +kernel
theorem dX12_init_146 : decode cX12_init 146 = .ok (.aload_n 0, 1) := by decide +kernel
theorem dX12_init_147 : decode cX12_init 147 = .ok (.bipush 7, 2) := by decide +kernel
theorem dX12_init_149 : decode cX12_init 149 = .ok (.newarray .int, 2) := by decide +kernel
theorem dX12_init_151 : decode cX12_init 151 = .ok (.putfield 71, 3) := by decide +kernel
theorem dX12_init_154 : decode cX12_init 154 = .ok (.aload_n 0, 1) := by decide +kernel
theorem dX12_init_155 : decode cX12_init 155 = .ok (.iconst 5, 1) := by decide +kernel
theorem dX12_init_156 : decode cX12_init 156 = .ok (.newarray .int, 2) := by decide +kernel
theorem dX12_init_158 : decode cX12_init 158 = .ok (.putfield 74, 3) := by decide +kernel
theorem dX12_init_161 : decode cX12_init 161 = .ok (.aload_n 0, 1) := by decide +kernel
theorem dX12_init_162 : decode cX12_init 162 = .ok (.bipush 17, 2) := by decide +kernel
theorem dX12_init_164 : decode cX12_init 164 = .ok (.newarray .int, 2) := by decide +kernel
theorem dX12_init_166 : decode cX12_init 166 = .ok (.putfield 77, 3) := by decide +kernel
theorem dX12_init_169 : decode cX12_init 169 = .ok (.aload_n 0, 1) := by decide +kernel
theorem dX12_init_170 : decode cX12_init 170 = .ok (.bipush 20, 2) := by decide +kernel
theorem dX12_init_172 : decode cX12_init 172 = .ok (.newarray .int, 2) := by decide +kernel
theorem dX12_init_174 : decode cX12_init 174 = .ok (.putfield 80, 3) := by decide +kernel
theorem dX12_init_177 : decode cX12_init 177 = .ok (.aload_n 0, 1) := by decide +kernel
theorem dX12_init_178 : decode cX12_init 178 = .ok (.iconst (-1), 1) := by decide +kernel
theorem dX12_init_179 : decode cX12_init 179 = .ok (.putfield 83, 3) := by decide +kernel
theorem dX12_init_182 : decode cX12_init 182 = .ok (.aload_n 0, 1) := by decide +kernel
theorem dX12_init_183 : decode cX12_init 183 = .ok (.iconst 4, 1) := by decide +kernel
theorem dX12_init_184 : decode cX12_init 184 = .ok (.newarray .boolean, 2) := by decide +kernel
theorem dX12_init_186 : decode cX12_init 186 = .ok (.putfield 86, 3) := by decide +kernel
theorem dX12_init_189 : decode cX12_init 189 = .ok (.aload_n 0, 1) := by decide +kernel
theorem dX12_init_190 : decode cX12_init 190 = .ok (.iconst 4, 1) := by decide +kernel
theorem dX12_init_191 : decode cX12_init 191 = .ok (.newarray .int, 2) := by decide +kernel
theorem dX12_init_193 : decode cX12_init 193 = .ok (.putfield 90, 3) := by decide +kernel
theorem dX12_init_196 : decode cX12_init 196 = .ok (.aload_n 0, 1) := by decide +kernel
theorem dX12_init_197 : decode cX12_init 197 = .ok (.iconst 4, 1) := by decide +kernel
theorem dX12_init_198 : decode cX12_init 198 = .ok (.newarray .int, 2) := by decide +kernel
theorem dX12_init_200 : decode cX12_init 200 = .ok (.putfield 93, 3) := by decide +kernel
theorem dX12_init_203 : decode cX12_init 203 = .ok (.aload_n 0, 1) := by decide +kernel
theorem dX12_init_204 : decode cX12_init 204 = .ok (.sipush 160, 3) := by decide +kernel
theorem dX12_init_207 : decode cX12_init 207 = .ok (.newarray .int, 2) := by decide +kernel
theorem dX12_init_209 : decode cX12_init 209 = .ok (.putfield 96, 3) := by decide +kernel
theorem dX12_init_212 : decode cX12_init 212 = .ok (.iconst 0, 1) := by decide +kernel
theorem dX12_init_213 : decode cX12_init 213 = .ok (.istore_n 1, 1) := by decide +kernel
theorem dX12_init_214 : decode cX12_init 214 = .ok (.iload_n 1, 1) := by decide +kernel
theorem dX12_init_215 : decode cX12_init 215 = .ok (.bipush 6, 2) := by decide +kernel
theorem dX12_init_217 : decode cX12_init 217 = .ok (.if_icmp .ge 17, 3) := by decide +kernel
theorem dX12_init_220 : decode cX12_init 220 = .ok (.aload_n 0, 1) := by decide +kernel
theorem dX12_init_221 : decode cX12_init 221 = .ok (.getfield 23, 3) := by decide +kernel
theorem dX12_init_224 : decode cX12_init 224 = .ok (.iload_n 1, 1) := by decide +kernel
theorem dX12_init_225 : decode cX12_init 225 = .ok (.bipush 15, 2) := by decide +kernel
theorem dX12_init_227 : decode cX12_init 227 = .ok (.iastore, 1) := by decide +kernel
theorem dX12_init_228 : decode cX12_init 228 = .ok (.iinc 1 1, 3) := by decide +kernel
theorem dX12_init_231 : decode cX12_init 231 = .ok (.goto (-17), 3) := by decide +kernel
theorem dX12_init_234 : decode cX12_init 234 = .ok (.iconst 0, 1) := by decide +kernel
theorem dX12_init_235 : decode cX12_init 235 = .ok (.istore_n 1, 1) := by decide +kernel
theorem dX12_init_236 : decode cX12_init 236 = .ok (.iload_n 1, 1) := by decide +kernel
theorem dX12_init_237 : decode cX12_init 237 = .ok (.iconst 4, 1) := by decide +kernel
theorem dX12_init_238 : decode cX12_init 238 = .ok (.if_icmp .ge 16, 3) := by decide +kernel
theorem dX12_init_241 : decode cX12_init 241 = .ok (.aload_n 0, 1) := by decide +kernel
theorem dX12_init_242 : decode cX12_init 242 = .ok (.getfield 26, 3) := by decide +kernel
theorem dX12_init_245 : decode cX12_init 245 = .ok (.iload_n 1, 1) := by decide +kernel
theorem dX12_init_246 : decode cX12_init 246 = .ok (.iload_n 1, 1) := by decide +kernel
theorem dX12_init_247 : decode cX12_init 247 = .ok (.iastore, 1) := by decide +kernel
theorem dX12_init_248 : decode cX12_init 248 = .ok (.iinc 1 1, 3) := by decide +kernel
theorem dX12_init_251 : decode cX12_init 251 = .ok (.goto (-15), 3) := by decide +kernel
theorem dX12_init_254 : decode cX12_init 254 = .ok (.aload_n 0, 1) := by decide +kernel
theorem dX12_init_255 : decode cX12_init 255 = .ok (.iconst 0, 1) := by decide +kernel
theorem dX12_init_256 : decode cX12_init 256 = .ok (.bipush 109, 2) := by decide +kernel
theorem dX12_init_258 : decode cX12_init 258 = .ok (.bipush 111, 2) := by decide +kernel
theorem dX12_init_260 : decode cX12_init 260 = .ok (.bipush 118, 2) := by decide +kernel
theorem dX12_init_262 : decode cX12_init 262 = .ok (.bipush 101, 2) := by decide +kernel
theorem dX12_init_264 : decode cX12_init 264 = .ok (.bipush 115, 2) := by decide +kernel
theorem dX12_init_266 : decode cX12_init 266 = .ok (.bipush 32, 2) := by decide +kernel
theorem dX12_init_268 : decode cX12_init 268 = .ok (.bipush 49, 2) := by decide +kernel
theorem dX12_init_270 : decode cX12_init 270 = .ok (.bipush 32, 2) := by decide +kernel
theorem dX12_init_272 : decode cX12_init 272 = .ok (.invokevirtual 99, 3) := by decide +kernel
theorem dX12_init_275 : decode cX12_init 275 = .ok (.aload_n 0, 1) := by decide +kernel
theorem dX12_init_276 : decode cX12_init 276 = .ok (.bipush 8, 2) := by decide +kernel
theorem dX12_init_278 : decode cX12_init 278 = .ok (.bipush 59, 2) := by decide +kernel
theorem dX12_init_280 : decode cX12_init 280 = .ok (.bipush 32, 2) := by decide +kernel
theorem dX12_init_282 : decode cX12_init 282 = .ok (.bipush 117, 2) := by decide +kernel
theorem dX12_init_284 : decode cX12_init 284 = .ok (.bipush 103, 2) := by decide +kernel
theorem dX12_init_286 : decode cX12_init 286 = .ok (.bipush 108, 2) := by decide +kernel
theorem dX12_init_288 : decode cX12_init 288 = .ok (.bipush 121, 2) := by decide +kernel
theorem dX12_init_290 : decode cX12_init 290 = .ok (.bipush 32, 2) := by decide +kernel
theorem dX12_init_292 : decode cX12_init 292 = .ok (.bipush 57, 2) := by decide +kernel
theorem dX12_init_294 : decode cX12_init 294 = .ok (.invokevirtual 99, 3) := by decide +kernel
theorem dX12_init_297 : decode cX12_init 297 = .ok (.aload_n 0, 1) := by decide +kernel
theorem dX12_init_298 : decode cX12_init 298 = .ok (.bipush 16, 2) := by decide +kernel
theorem dX12_init_300 : decode cX12_init 300 = .ok (.bipush 32, 2) := by decide +kernel
theorem dX12_init_302 : decode cX12_init 302 = .ok (.bipush 45, 2) := by decide +kernel
theorem dX12_init_304 : decode cX12_init 304 = .ok (.bipush 32, 2) := by decide +kernel
theorem dX12_init_306 : decode cX12_init 306 = .ok (.bipush 108, 2) := by decide +kernel
theorem dX12_init_308 : decode cX12_init 308 = .ok (.bipush 111, 2) := by decide +kernel
theorem dX12_init_310 : decode cX12_init 310 = .ok (.bipush 111, 2) := by decide +kernel
theorem dX12_init_312 : decode cX12_init 312 = .ok (.bipush 107, 2) := by decide +kernel
theorem dX12_init_314 : decode cX12_init 314 = .ok (.bipush 32, 2) := by decide +kernel
theorem dX12_init_316 : decode cX12_init 316 = .ok (.invokevirtual 99, 3) := by decide +kernel
theorem dX12_init_319 : decode cX12_init 319 = .ok (.aload_n 0, 1) := by decide +kernel
theorem dX12_init_320 : decode cX12_init 320 = .ok (.bipush 24, 2) := by decide +kernel
theorem dX12_init_322 : decode cX12_init 322 = .ok (.bipush 59, 2) := by decide +kernel
theorem dX12_init_324 : decode cX12_init 324 = .ok (.bipush 32, 2) := by decide +kernel
theorem dX12_init_326 : decode cX12_init 326 = .ok (.bipush 109, 2) := by decide +kernel
theorem dX12_init_328 : decode cX12_init 328 = .ok (.bipush 105, 2) := by decide +kernel
theorem dX12_init_330 : decode cX12_init 330 = .ok (.bipush 110, 2) := by decide +kernel
theorem dX12_init_332 : decode cX12_init 332 = .ok (.bipush 100, 2) := by decide +kernel
theorem dX12_init_334 : decode cX12_init 334 = .ok (.bipush 115, 2) := by decide +kernel
theorem dX12_init_336 : decode cX12_init 336 = .ok (.bipush 32, 2) := by decide +kernel
theorem dX12_init_338 : decode cX12_init 338 = .ok (.invokevirtual 99, 3) := by decide +kernel
theorem dX12_init_341 : decode cX12_init 341 = .ok (.aload_n 0, 1) := by decide +kernel
theorem dX12_init_342 : decode cX12_init 342 = .ok (.bipush 32, 2) := by decide +kernel
theorem dX12_init_344 : decode cX12_init 344 = .ok (.bipush 50, 2) := by decide +kernel
theorem dX12_init_346 : decode cX12_init 346 = .ok (.bipush 48, 2) := by decide +kernel
theorem dX12_init_348 : decode cX12_init 348 = .ok (.bipush 32, 2) := by decide +kernel
theorem dX12_init_350 : decode cX12_init 350 = .ok (.bipush 59, 2) := by decide +kernel
theorem dX12_init_352 : decode cX12_init 352 = .ok (.bipush 32, 2) := by decide +kernel
theorem dX12_init_354 : decode cX12_init 354 = .ok (.bipush 32, 2) := by decide +kernel
theorem dX12_init_356 : decode cX12_init 356 = .ok (.bipush 32, 2) := by decide +kernel
theorem dX12_init_358 : decode cX12_init 358 = .ok (.bipush 32, 2) := by decide +kernel
theorem dX12_init_360 : decode cX12_init 360 = .ok (.invokevirtual 99, 3) := by decide +kernel
theorem dX12_init_363 : decode cX12_init 363 = .ok (.aload_n 0, 1) := by decide +kernel
theorem dX12_init_364 : decode cX12_init 364 = .ok (.getfield 17, 3) := by decide +kernel
theorem dX12_init_367 : decode cX12_init 367 = .ok (.iconst 0, 1) := by decide +kernel
theorem dX12_init_368 : decode cX12_init 368 = .ok (.bipush 40, 2) := by decide +kernel
theorem dX12_init_370 : decode cX12_init 370 = .ok (.iastore, 1) := by decide +kernel
theorem dX12_init_371 : decode cX12_init 371 = .ok (.aload_n 0, 1) := by decide +kernel
theorem dX12_init_372 : decode cX12_init 372 = .ok (.iconst 1, 1) := by decide +kernel
theorem dX12_init_373 : decode cX12_init 373 = .ok (.putfield 103, 3) := by decide +kernel
theorem dX12_init_376 : decode cX12_init 376 = .ok (.return_, 1) := by decide +kernel
theorem dX12_spell_0 : decode cX12_spell 0 = .ok (.aload_n 0, 1) := by decide +kernel
theorem dX12_spell_1 : decode cX12_spell 1 = .ok (.getfield 13, 3) := by decide +kernel
theorem dX12_spell_4 : decode cX12_spell 4 = .ok (.iload_n 1, 1) := by decide +kernel
theorem dX12_spell_5 : decode cX12_spell 5 = .ok (.iload_n 2, 1) := by decide +kernel
theorem dX12_spell_6 : decode cX12_spell 6 = .ok (.iastore, 1) := by decide +kernel
theorem dX12_spell_7 : decode cX12_spell 7 = .ok (.aload_n 0, 1) := by decide +kernel
theorem dX12_spell_8 : decode cX12_spell 8 = .ok (.getfield 13, 3) := by decide +kernel
theorem dX12_spell_11 : decode cX12_spell 11 = .ok (.iload_n 1, 1) := by decide +kernel
theorem dX12_spell_12 : decode cX12_spell 12 = .ok (.iconst 1, 1) := by decide +kernel
theorem dX12_spell_13 : decode cX12_spell 13 = .ok (.iadd, 1) := by decide +kernel
theorem dX12_spell_14 : decode cX12_spell 14 = .ok (.iload_n 3, 1) := by decide +kernel
theorem dX12_spell_15 : decode cX12_spell 15 = .ok (.iastore, 1) := by decide +kernel
theorem dX12_spell_16 : decode cX12_spell 16 = .ok (.aload_n 0, 1) := by decide +kernel
theorem dX12_spell_17 : decode cX12_spell 17 = .ok (.getfield 13, 3) := by decide +kernel
theorem dX12_spell_20 : decode cX12_spell 20 = .ok (.iload_n 1, 1) := by decide +kernel
theorem dX12_spell_21 : decode cX12_spell 21 = .ok (.iconst 2, 1) := by decide +kernel
theorem dX12_spell_22 : decode cX12_spell 22 = .ok (.iadd, 1) := by decide +kernel
theorem dX12_spell_23 : decode cX12_spell 23 = .ok (.iload 4, 2) := by decide +kernel
theorem dX12_spell_25 : decode cX12_spell 25 = .ok (.iastore, 1) := by decide +kernel
theorem dX12_spell_26 : decode cX12_spell 26 = .ok (.aload_n 0, 1) := by decide +kernel
theorem dX12_spell_27 : decode cX12_spell 27 = .ok (.getfield 13, 3) := by decide +kernel
theorem dX12_spell_30 : decode cX12_spell 30 = .ok (.iload_n 1, 1) := by decide +kernel
theorem dX12_spell_31 : decode cX12_spell 31 = .ok (.iconst 3, 1) := by decide +kernel
theorem dX12_spell_32 : decode cX12_spell 32 = .ok (.iadd, 1) := by decide +kernel
theorem dX12_spell_33 : decode cX12_spell 33 = .ok (.iload 5, 2) := by decide +kernel
theorem dX12_spell_35 : decode cX12_spell 35 = .ok (.iastore, 1) := by decide +kernel
theorem dX12_spell_36 : decode cX12_spell 36 = .ok (.aload_n 0, 1) := by decide +kernel
theorem dX12_spell_37 : decode cX12_spell 37 = .ok (.getfield 13, 3) := by decide +kernel
theorem dX12_spell_40 : decode cX12_spell 40 = .ok (.iload_n 1, 1) := by decide +kernel
theorem dX12_spell_41 : decode cX12_spell 41 = .ok (.iconst 4, 1) := by decide +kernel
theorem dX12_spell_42 : decode cX12_spell 42 = .ok (.iadd, 1) := by decide +kernel
theorem dX12_spell_43 : decode cX12_spell 43 = .ok (.iload 6, 2) := by decide +kernel
theorem dX12_spell_45 : decode cX12_spell 45 = .ok (.iastore, 1) := by decide +kernel
theorem dX12_spell_46 : decode cX12_spell 46 = .ok (.aload_n 0, 1) := by decide +kernel
theorem dX12_spell_47 : decode cX12_spell 47 = .ok (.getfield 13, 3) := by decide +kernel
theorem dX12_spell_50 : decode cX12_spell 50 = .ok (.iload_n 1, 1) := by decide +kernel
theorem dX12_spell_51 : decode cX12_spell 51 = .ok (.iconst 5, 1) := by decide +kernel
theorem dX12_spell_52 : decode cX12_spell 52 = .ok (.iadd, 1) := by decide +kernel
theorem dX12_spell_53 : decode cX12_spell 53 = .ok (.iload 7, 2) := by decide +kernel
theorem dX12_spell_55 : decode cX12_spell 55 = .ok (.iastore, 1) := by decide +kernel
theorem dX12_spell_56 : decode cX12_spell 56 = .ok (.aload_n 0, 1) := by decide +kernel
theorem dX12_spell_57 : decode cX12_spell 57 = .ok (.getfield 13, 3) := by decide +kernel
theorem dX12_spell_60 : decode cX12_spell 60 = .ok (.iload_n 1, 1) := by decide +kernel
theorem dX12_spell_61 : decode cX12_spell 61 = .ok (.bipush 6, 2) := by decide +kernel
theorem dX12_spell_63 : decode cX12_spell 63 = .ok (.iadd, 1) := by decide +kernel
theorem dX12_spell_64 : decode cX12_spell 64 = .ok (.iload 8, 2) := by decide +kernel
theorem dX12_spell_66 : decode cX12_spell 66 = .ok (.iastore, 1) := by decide +kernel
theorem dX12_spell_67 : decode cX12_spell 67 = .ok (.aload_n 0, 1) := by decide +kernel
theorem dX12_spell_68 : decode cX12_spell 68 = .ok (.getfield 13, 3) := by decide +kernel
theorem dX12_spell_71 : decode cX12_spell 71 = .ok (.iload_n 1, 1) := by decide +kernel
theorem dX12_spell_72 : decode cX12_spell 72 = .ok (.bipush 7, 2) := by decide +kernel
theorem dX12_spell_74 : decode cX12_spell 74 = .ok (.iadd, 1) := by decide +kernel
theorem dX12_spell_75 : decode cX12_spell 75 = .ok (.iload 9, 2) := by decide +kernel
theorem dX12_spell_77 : decode cX12_spell 77 = .ok (.iastore, 1) := by decide +kernel
theorem dX12_spell_78 : decode cX12_spell 78 = .ok (.return_, 1) := by decide +kernel
theorem dX12_isThing_0 : decode cX12_isThing 0 = .ok (.iload_n 1, 1) := by decide +kernel
theorem dX12_isThing_1 : decode cX12_isThing 1 = .ok (.i2l, 1) := by decide +kernel
theorem dX12_isThing_2 : decode cX12_isThing 2 = .ok (.lconst 0, 1) := by decide +kernel
theorem dX12_isThing_3 : decode cX12_isThing 3 = .ok (.aload_n 0, 1) := by decide +kernel
theorem dX12_isThing_4 : decode cX12_isThing 4 = .ok (.getfield 106, 3) := by decide +kernel
theorem dX12_isThing_7 : decode cX12_isThing 7 = .ok (.iconst 1, 1) := by decide +kernel
theorem dX12_isThing_8 : decode cX12_isThing 8 = .ok (.isub, 1) := by decide +kernel
theorem dX12_isThing_9 : decode cX12_isThing 9 = .ok (.i2l, 1) := by decide +kernel
theorem dX12_isThing_10 : decode cX12_isThing 10 = .ok (.invokestatic 109, 3) := by decide +kernel
theorem dX12_isThing_13 : decode cX12_isThing 13 = .ok (.ireturn, 1) := by decide +kernel
theorem dX12_isPlace_0 : decode cX12_isPlace 0 = .ok (.iload_n 0, 1) := by decide +kernel
theorem dX12_isPlace_1 : decode cX12_isPlace 1 = .ok (.i2l, 1) := by decide +kernel
theorem dX12_isPlace_2 : decode cX12_isPlace 2 = .ok (.lconst 0, 1) := by decide +kernel
theorem dX12_isPlace_3 : decode cX12_isPlace 3 = .ok (.ldc2_w 113, 3) := by decide +kernel
theorem dX12_isPlace_6 : decode cX12_isPlace 6 = .ok (.invokestatic 109, 3) := by decide +kernel
theorem dX12_isPlace_9 : decode cX12_isPlace 9 = .ok (.ireturn, 1) := by decide +kernel
theorem dX12_areGuests_0 : decode cX12_areGuests 0 = .ok (.iload_n 0, 1) := by decide +kernel
theorem dX12_areGuests_1 : decode cX12_areGuests 1 = .ok (.i2l, 1) := by decide +kernel
theorem dX12_areGuests_2 : decode cX12_areGuests 2 = .ok (.lconst 0, 1) := by decide +kernel
theorem dX12_areGuests_3 : decode cX12_areGuests 3 = .ok (.ldc2_w 115, 3) := by decide +kernel
theorem dX12_areGuests_6 : decode cX12_areGuests 6 = .ok (.invokestatic 109, 3) := by decide +kernel
theorem dX12_areGuests_9 : decode cX12_areGuests 9 = .ok (.ireturn, 1) := by decide +kernel
theorem dX12_set_0 : decode cX12_set 0 = .ok (.iload_n 1, 1) := by decide +kernel
theorem dX12_set_1 : decode cX12_set 1 = .ok (.ifCond .ne 8, 3) := by decide +kernel
theorem dX12_set_4 : decode cX12_set 4 = .ok (.bipush 6, 2) := by decide +kernel
theorem dX12_set_6 : decode cX12_set 6 = .ok (.goto 26, 3) := by decide +kernel
theorem dX12_set_9 : decode cX12_set 9 = .ok (.iload_n 1, 1) := by decide +kernel
theorem dX12_set_10 : decode cX12_set 10 = .ok (.iconst 1, 1) := by decide +kernel
theorem dX12_set_11 : decode cX12_set 11 = .ok (.if_icmp .ne 7, 3) := by decide +kernel
theorem dX12_set_14 : decode cX12_set 14 = .ok (.iconst 4, 1) := by decide +kernel
theorem dX12_set_15 : decode cX12_set 15 = .ok (.goto 17, 3) := by decide +kernel
theorem dX12_set_18 : decode cX12_set 18 = .ok (.iload_n 1, 1) := by decide +kernel
theorem dX12_set_19 : decode cX12_set 19 = .ok (.iconst 2, 1) := by decide +kernel
theorem dX12_set_20 : decode cX12_set 20 = .ok (.if_icmp .ne 8, 3) := by decide +kernel
theorem dX12_set_23 : decode cX12_set 23 = .ok (.bipush 7, 2) := by decide +kernel
theorem dX12_set_25 : decode cX12_set 25 = .ok (.goto 7, 3) := by decide +kernel
theorem dX12_set_28 : decode cX12_set 28 = .ok (.aload_n 0, 1) := by decide +kernel
theorem dX12_set_29 : decode cX12_set 29 = .ok (.getfield 106, 3) := by decide +kernel
theorem dX12_set_32 : decode cX12_set 32 = .ok (.istore 4, 2) := by decide +kernel
theorem dX12_set_34 : decode cX12_set 34 = .ok (.iload_n 1, 1) := by decide +kernel
theorem dX12_set_35 : decode cX12_set 35 = .ok (.i2l, 1) := by decide +kernel
theorem dX12_set_36 : decode cX12_set 36 = .ok (.lconst 0, 1) := by decide +kernel
theorem dX12_set_37 : decode cX12_set 37 = .ok (.ldc2_w 113, 3) := by decide +kernel
theorem dX12_set_40 : decode cX12_set 40 = .ok (.invokestatic 109, 3) := by decide +kernel
theorem dX12_set_43 : decode cX12_set 43 = .ok (.ifCond .eq 60, 3) := by decide +kernel
theorem dX12_set_46 : decode cX12_set 46 = .ok (.iload_n 2, 1) := by decide +kernel
theorem dX12_set_47 : decode cX12_set 47 = .ok (.i2l, 1) := by decide +kernel
theorem dX12_set_48 : decode cX12_set 48 = .ok (.lconst 0, 1) := by decide +kernel
theorem dX12_set_49 : decode cX12_set 49 = .ok (.iload 4, 2) := by decide +kernel
theorem dX12_set_51 : decode cX12_set 51 = .ok (.iconst 1, 1) := by decide +kernel
theorem dX12_set_52 : decode cX12_set 52 = .ok (.isub, 1) := by decide +kernel
theorem dX12_set_53 : decode cX12_set 53 = .ok (.i2l, 1) := by decide +kernel
theorem dX12_set_54 : decode cX12_set 54 = .ok (.invokestatic 109, 3) := by decide +kernel
theorem dX12_set_57 : decode cX12_set 57 = .ok (.ifCond .eq 46, 3) := by decide +kernel
theorem dX12_set_60 : decode cX12_set 60 = .ok (.iload_n 3, 1) := by decide +kernel
theorem dX12_set_61 : decode cX12_set 61 = .ok (.i2l, 1) := by decide +kernel
theorem dX12_set_62 : decode cX12_set 62 = .ok (.lconst 0, 1) := by decide +kernel
theorem dX12_set_63 : decode cX12_set 63 = .ok (.iload_n 1, 1) := by decide +kernel
theorem dX12_set_64 : decode cX12_set 64 = .ok (.ifCond .eq 8, 3) := by decide +kernel
theorem dX12_set_67 : decode cX12_set 67 = .ok (.iload_n 1, 1) := by decide +kernel
theorem dX12_set_68 : decode cX12_set 68 = .ok (.iconst 2, 1) := by decide +kernel
theorem dX12_set_69 : decode cX12_set 69 = .ok (.if_icmp .ne 9, 3) := by decide +kernel
theorem dX12_set_72 : decode cX12_set 72 = .ok (.ldc2_w 115, 3) := by decide +kernel
theorem dX12_set_75 : decode cX12_set 75 = .ok (.goto 22, 3) := by decide +kernel
theorem dX12_set_78 : decode cX12_set 78 = .ok (.iload_n 1, 1) := by decide +kernel
theorem dX12_set_79 : decode cX12_set 79 = .ok (.iconst 1, 1) := by decide +kernel
theorem dX12_set_80 : decode cX12_set 80 = .ok (.if_icmp .eq 8, 3) := by decide +kernel
theorem dX12_set_83 : decode cX12_set 83 = .ok (.iload_n 1, 1) := by decide +kernel
theorem dX12_set_84 : decode cX12_set 84 = .ok (.iconst 4, 1) := by decide +kernel
theorem dX12_set_85 : decode cX12_set 85 = .ok (.if_icmp .ne 9, 3) := by decide +kernel
theorem dX12_set_88 : decode cX12_set 88 = .ok (.ldc2_w 117, 3) := by decide +kernel
theorem dX12_set_91 : decode cX12_set 91 = .ok (.goto 6, 3) := by decide +kernel
theorem dX12_set_94 : decode cX12_set 94 = .ok (.ldc2_w 119, 3) := by decide +kernel
theorem dX12_set_97 : decode cX12_set 97 = .ok (.invokestatic 109, 3) := by decide +kernel
theorem dX12_set_100 : decode cX12_set 100 = .ok (.ifCond .ne 6, 3) := by decide +kernel
theorem dX12_set_103 : decode cX12_set 103 = .ok (.bipush (-2), 2) := by decide +kernel
theorem dX12_set_105 : decode cX12_set 105 = .ok (.ireturn, 1) := by decide +kernel
theorem dX12_set_106 : decode cX12_set 106 = .ok (.iload_n 1, 1) := by decide +kernel
theorem dX12_set_107 : decode cX12_set 107 = .ok (.ifCond .ne 12, 3) := by decide +kernel
theorem dX12_set_110 : decode cX12_set 110 = .ok (.aload_n 0, 1) := by decide +kernel
theorem dX12_set_111 : decode cX12_set 111 = .ok (.getfield 23, 3) := by decide +kernel
theorem dX12_set_114 : decode cX12_set 114 = .ok (.iload_n 2, 1) := by decide +kernel
theorem dX12_set_115 : decode cX12_set 115 = .ok (.iaload, 1) := by decide +kernel
theorem dX12_set_116 : decode cX12_set 116 = .ok (.goto 65, 3) := by decide +kernel
theorem dX12_set_119 : decode cX12_set 119 = .ok (.iload_n 1, 1) := by decide +kernel
theorem dX12_set_120 : decode cX12_set 120 = .ok (.iconst 1, 1) := by decide +kernel
theorem dX12_set_121 : decode cX12_set 121 = .ok (.if_icmp .ne 12, 3) := by decide +kernel
theorem dX12_set_124 : decode cX12_set 124 = .ok (.aload_n 0, 1) := by decide +kernel
theorem dX12_set_125 : decode cX12_set 125 = .ok (.getfield 26, 3) := by decide +kernel
theorem dX12_set_128 : decode cX12_set 128 = .ok (.iload_n 2, 1) := by decide +kernel
theorem dX12_set_129 : decode cX12_set 129 = .ok (.iaload, 1) := by decide +kernel
theorem dX12_set_130 : decode cX12_set 130 = .ok (.goto 51, 3) := by decide +kernel
theorem dX12_set_133 : decode cX12_set 133 = .ok (.iload_n 1, 1) := by decide +kernel
theorem dX12_set_134 : decode cX12_set 134 = .ok (.iconst 2, 1) := by decide +kernel
theorem dX12_set_135 : decode cX12_set 135 = .ok (.if_icmp .ne 12, 3) := by decide +kernel
theorem dX12_set_138 : decode cX12_set 138 = .ok (.aload_n 0, 1) := by decide +kernel
theorem dX12_set_139 : decode cX12_set 139 = .ok (.getfield 29, 3) := by decide +kernel
theorem dX12_set_142 : decode cX12_set 142 = .ok (.iload_n 2, 1) := by decide +kernel
theorem dX12_set_143 : decode cX12_set 143 = .ok (.iaload, 1) := by decide +kernel
theorem dX12_set_144 : decode cX12_set 144 = .ok (.goto 37, 3) := by decide +kernel
theorem dX12_set_147 : decode cX12_set 147 = .ok (.iload_n 1, 1) := by decide +kernel
theorem dX12_set_148 : decode cX12_set 148 = .ok (.iconst 3, 1) := by decide +kernel
theorem dX12_set_149 : decode cX12_set 149 = .ok (.if_icmp .ne 12, 3) := by decide +kernel
theorem dX12_set_152 : decode cX12_set 152 = .ok (.aload_n 0, 1) := by decide +kernel
theorem dX12_set_153 : decode cX12_set 153 = .ok (.getfield 35, 3) := by decide +kernel
theorem dX12_set_156 : decode cX12_set 156 = .ok (.iload_n 2, 1) := by decide +kernel
theorem dX12_set_157 : decode cX12_set 157 = .ok (.iaload, 1) := by decide +kernel
theorem dX12_set_158 : decode cX12_set 158 = .ok (.goto 23, 3) := by decide +kernel
theorem dX12_set_161 : decode cX12_set 161 = .ok (.iload_n 1, 1) := by decide +kernel
theorem dX12_set_162 : decode cX12_set 162 = .ok (.iconst 4, 1) := by decide +kernel
theorem dX12_set_163 : decode cX12_set 163 = .ok (.if_icmp .ne 12, 3) := by decide +kernel
theorem dX12_set_166 : decode cX12_set 166 = .ok (.aload_n 0, 1) := by decide +kernel
theorem dX12_set_167 : decode cX12_set 167 = .ok (.getfield 38, 3) := by decide +kernel
theorem dX12_set_170 : decode cX12_set 170 = .ok (.iload_n 2, 1) := by decide +kernel
theorem dX12_set_171 : decode cX12_set 171 = .ok (.iaload, 1) := by decide +kernel
theorem dX12_set_172 : decode cX12_set 172 = .ok (.goto 9, 3) := by decide +kernel
theorem dX12_set_175 : decode cX12_set 175 = .ok (.aload_n 0, 1) := by decide +kernel
theorem dX12_set_176 : decode cX12_set 176 = .ok (.getfield 41, 3) := by decide +kernel
theorem dX12_set_179 : decode cX12_set 179 = .ok (.iload_n 2, 1) := by decide +kernel
theorem dX12_set_180 : decode cX12_set 180 = .ok (.iaload, 1) := by decide +kernel
theorem dX12_set_181 : decode cX12_set 181 = .ok (.istore 5, 2) := by decide +kernel
theorem dX12_set_183 : decode cX12_set 183 = .ok (.iload_n 1, 1) := by decide +kernel
theorem dX12_set_184 : decode cX12_set 184 = .ok (.ifCond .ne 13, 3) := by decide +kernel
theorem dX12_set_187 : decode cX12_set 187 = .ok (.aload_n 0, 1) := by decide +kernel
theorem dX12_set_188 : decode cX12_set 188 = .ok (.getfield 23, 3) := by decide +kernel
theorem dX12_set_191 : decode cX12_set 191 = .ok (.iload_n 2, 1) := by decide +kernel
theorem dX12_set_192 : decode cX12_set 192 = .ok (.iload_n 3, 1) := by decide +kernel
theorem dX12_set_193 : decode cX12_set 193 = .ok (.iastore, 1) := by decide +kernel
theorem dX12_set_194 : decode cX12_set 194 = .ok (.goto 70, 3) := by decide +kernel
theorem dX12_set_197 : decode cX12_set 197 = .ok (.iload_n 1, 1) := by decide +kernel
theorem dX12_set_198 : decode cX12_set 198 = .ok (.iconst 1, 1) := by decide +kernel
theorem dX12_set_199 : decode cX12_set 199 = .ok (.if_icmp .ne 13, 3) := by decide +kernel
theorem dX12_set_202 : decode cX12_set 202 = .ok (.aload_n 0, 1) := by decide +kernel
theorem dX12_set_203 : decode cX12_set 203 = .ok (.getfield 26, 3) := by decide +kernel
theorem dX12_set_206 : decode cX12_set 206 = .ok (.iload_n 2, 1) := by decide +kernel
theorem dX12_set_207 : decode cX12_set 207 = .ok (.iload_n 3, 1) := by decide +kernel
theorem dX12_set_208 : decode cX12_set 208 = .ok (.iastore, 1) := by decide +kernel
theorem dX12_set_209 : decode cX12_set 209 = .ok (.goto 55, 3) := by decide +kernel
theorem dX12_set_212 : decode cX12_set 212 = .ok (.iload_n 1, 1) := by decide +kernel
theorem dX12_set_213 : decode cX12_set 213 = .ok (.iconst 2, 1) := by decide +kernel
theorem dX12_set_214 : decode cX12_set 214 = .ok (.if_icmp .ne 13, 3) := by decide +kernel
theorem dX12_set_217 : decode cX12_set 217 = .ok (.aload_n 0, 1) := by decide +kernel
theorem dX12_set_218 : decode cX12_set 218 = .ok (.getfield 29, 3) := by decide +kernel
theorem dX12_set_221 : decode cX12_set 221 = .ok (.iload_n 2, 1) := by decide +kernel
theorem dX12_set_222 : decode cX12_set 222 = .ok (.iload_n 3, 1) := by decide +kernel
theorem dX12_set_223 : decode cX12_set 223 = .ok (.iastore, 1) := by decide +kernel
theorem dX12_set_224 : decode cX12_set 224 = .ok (.goto 40, 3) := by decide +kernel
theorem dX12_set_227 : decode cX12_set 227 = .ok (.iload_n 1, 1) := by decide +kernel
theorem dX12_set_228 : decode cX12_set 228 = .ok (.iconst 3, 1) := by decide +kernel
theorem dX12_set_229 : decode cX12_set 229 = .ok (.if_icmp .ne 13, 3) := by decide +kernel
theorem dX12_set_232 : decode cX12_set 232 = .ok (.aload_n 0, 1) := by decide +kernel
theorem dX12_set_233 : decode cX12_set 233 = .ok (.getfield 35, 3) := by decide +kernel
theorem dX12_set_236 : decode cX12_set 236 = .ok (.iload_n 2, 1) := by decide +kernel
theorem dX12_set_237 : decode cX12_set 237 = .ok (.iload_n 3, 1) := by decide +kernel
theorem dX12_set_238 : decode cX12_set 238 = .ok (.iastore, 1) := by decide +kernel
theorem dX12_set_239 : decode cX12_set 239 = .ok (.goto 25, 3) := by decide +kernel
theorem dX12_set_242 : decode cX12_set 242 = .ok (.iload_n 1, 1) := by decide +kernel
theorem dX12_set_243 : decode cX12_set 243 = .ok (.iconst 4, 1) := by decide +kernel
theorem dX12_set_244 : decode cX12_set 244 = .ok (.if_icmp .ne 13, 3) := by decide +kernel
theorem dX12_set_247 : decode cX12_set 247 = .ok (.aload_n 0, 1) := by decide +kernel
theorem dX12_set_248 : decode cX12_set 248 = .ok (.getfield 38, 3) := by decide +kernel
theorem dX12_set_251 : decode cX12_set 251 = .ok (.iload_n 2, 1) := by decide +kernel
theorem dX12_set_252 : decode cX12_set 252 = .ok (.iload_n 3, 1) := by decide +kernel
theorem dX12_set_253 : decode cX12_set 253 = .ok (.iastore, 1) := by decide +kernel
theorem dX12_set_254 : decode cX12_set 254 = .ok (.goto 10, 3) := by decide +kernel
theorem dX12_set_257 : decode cX12_set 257 = .ok (.aload_n 0, 1) := by decide +kernel
theorem dX12_set_258 : decode cX12_set 258 = .ok (.getfield 41, 3) := by decide +kernel
theorem dX12_set_261 : decode cX12_set 261 = .ok (.iload_n 2, 1) := by decide +kernel
theorem dX12_set_262 : decode cX12_set 262 = .ok (.iload_n 3, 1) := by decide +kernel
theorem dX12_set_263 : decode cX12_set 263 = .ok (.iastore, 1) := by decide +kernel
theorem dX12_set_264 : decode cX12_set 264 = .ok (.iload 5, 2) := by decide +kernel
theorem dX12_set_266 : decode cX12_set 266 = .ok (.ireturn, 1) := by decide +kernel
theorem dX12_thing_0 : decode cX12_thing 0 = .ok (.iload_n 1, 1) := by decide +kernel
theorem dX12_thing_1 : decode cX12_thing 1 = .ok (.i2l, 1) := by decide +kernel
theorem dX12_thing_2 : decode cX12_thing 2 = .ok (.lconst 0, 1) := by decide +kernel
theorem dX12_thing_3 : decode cX12_thing 3 = .ok (.ldc2_w 113, 3) := by decide +kernel
theorem dX12_thing_6 : decode cX12_thing 6 = .ok (.invokestatic 109, 3) := by decide +kernel
theorem dX12_thing_9 : decode cX12_thing 9 = .ok (.ifCond .eq 27, 3) := by decide +kernel
theorem dX12_thing_12 : decode cX12_thing 12 = .ok (.iload_n 2, 1) := by decide +kernel
theorem dX12_thing_13 : decode cX12_thing 13 = .ok (.i2l, 1) := by decide +kernel
theorem dX12_thing_14 : decode cX12_thing 14 = .ok (.lconst 0, 1) := by decide +kernel
theorem dX12_thing_15 : decode cX12_thing 15 = .ok (.ldc2_w 121, 3) := by decide +kernel
theorem dX12_thing_18 : decode cX12_thing 18 = .ok (.invokestatic 109, 3) := by decide +kernel
theorem dX12_thing_21 : decode cX12_thing 21 = .ok (.ifCond .eq 15, 3) := by decide +kernel
theorem dX12_thing_24 : decode cX12_thing 24 = .ok (.iload_n 3, 1) := by decide +kernel
theorem dX12_thing_25 : decode cX12_thing 25 = .ok (.i2l, 1) := by decide +kernel
theorem dX12_thing_26 : decode cX12_thing 26 = .ok (.lconst 0, 1) := by decide +kernel
theorem dX12_thing_27 : decode cX12_thing 27 = .ok (.ldc2_w 117, 3) := by decide +kernel
theorem dX12_thing_30 : decode cX12_thing 30 = .ok (.invokestatic 109, 3) := by decide +kernel
theorem dX12_thing_33 : decode cX12_thing 33 = .ok (.ifCond .ne 6, 3) := by decide +kernel
theorem dX12_thing_36 : decode cX12_thing 36 = .ok (.bipush (-2), 2) := by decide +kernel
theorem dX12_thing_38 : decode cX12_thing 38 = .ok (.ireturn, 1) := by decide +kernel
theorem dX12_thing_39 : decode cX12_thing 39 = .ok (.aload_n 0, 1) := by decide +kernel
theorem dX12_thing_40 : decode cX12_thing 40 = .ok (.getfield 106, 3) := by decide +kernel
theorem dX12_thing_43 : decode cX12_thing 43 = .ok (.iconst 5, 1) := by decide +kernel
theorem dX12_thing_44 : decode cX12_thing 44 = .ok (.if_icmp .ne 6, 3) := by decide +kernel
theorem dX12_thing_47 : decode cX12_thing 47 = .ok (.bipush (-4), 2) := by decide +kernel
theorem dX12_thing_49 : decode cX12_thing 49 = .ok (.ireturn, 1) := by decide +kernel
theorem dX12_thing_50 : decode cX12_thing 50 = .ok (.aload_n 0, 1) := by decide +kernel
theorem dX12_thing_51 : decode cX12_thing 51 = .ok (.getfield 32, 3) := by decide +kernel
theorem dX12_thing_54 : decode cX12_thing 54 = .ok (.aload_n 0, 1) := by decide +kernel
theorem dX12_thing_55 : decode cX12_thing 55 = .ok (.getfield 106, 3) := by decide +kernel
theorem dX12_thing_58 : decode cX12_thing 58 = .ok (.iload_n 1, 1) := by decide +kernel
theorem dX12_thing_59 : decode cX12_thing 59 = .ok (.iastore, 1) := by decide +kernel
theorem dX12_thing_60 : decode cX12_thing 60 = .ok (.aload_n 0, 1) := by decide +kernel
theorem dX12_thing_61 : decode cX12_thing 61 = .ok (.getfield 35, 3) := by decide +kernel
theorem dX12_thing_64 : decode cX12_thing 64 = .ok (.aload_n 0, 1) := by decide +kernel
theorem dX12_thing_65 : decode cX12_thing 65 = .ok (.getfield 106, 3) := by decide +kernel
theorem dX12_thing_68 : decode cX12_thing 68 = .ok (.iload_n 2, 1) := by decide +kernel
theorem dX12_thing_69 : decode cX12_thing 69 = .ok (.bipush 10, 2) := by decide +kernel
theorem dX12_thing_71 : decode cX12_thing 71 = .ok (.idiv, 1) := by decide +kernel
theorem dX12_thing_72 : decode cX12_thing 72 = .ok (.iastore, 1) := by decide +kernel
theorem dX12_thing_73 : decode cX12_thing 73 = .ok (.aload_n 0, 1) := by decide +kernel
theorem dX12_thing_74 : decode cX12_thing 74 = .ok (.getfield 41, 3) := by decide +kernel
theorem dX12_thing_77 : decode cX12_thing 77 = .ok (.aload_n 0, 1) := by decide +kernel
theorem dX12_thing_78 : decode cX12_thing 78 = .ok (.getfield 106, 3) := by decide +kernel
theorem dX12_thing_81 : decode cX12_thing 81 = .ok (.iload_n 2, 1) := by decide +kernel
theorem dX12_thing_82 : decode cX12_thing 82 = .ok (.bipush 10, 2) := by decide +kernel
theorem dX12_thing_84 : decode cX12_thing 84 = .ok (.irem, 1) := by decide +kernel
theorem dX12_thing_85 : decode cX12_thing 85 = .ok (.iastore, 1) := by decide +kernel
theorem dX12_thing_86 : decode cX12_thing 86 = .ok (.aload_n 0, 1) := by decide +kernel
theorem dX12_thing_87 : decode cX12_thing 87 = .ok (.getfield 38, 3) := by decide +kernel
theorem dX12_thing_90 : decode cX12_thing 90 = .ok (.aload_n 0, 1) := by decide +kernel
theorem dX12_thing_91 : decode cX12_thing 91 = .ok (.getfield 106, 3) := by decide +kernel
theorem dX12_thing_94 : decode cX12_thing 94 = .ok (.iload_n 3, 1) := by decide +kernel
theorem dX12_thing_95 : decode cX12_thing 95 = .ok (.iastore, 1) := by decide +kernel
theorem dX12_thing_96 : decode cX12_thing 96 = .ok (.aload_n 0, 1) := by decide +kernel
theorem dX12_thing_97 : decode cX12_thing 97 = .ok (.getfield 44, 3) := by decide +kernel
theorem dX12_thing_100 : decode cX12_thing 100 = .ok (.aload_n 0, 1) := by decide +kernel
theorem dX12_thing_101 : decode cX12_thing 101 = .ok (.getfield 106, 3) := by decide +kernel
theorem dX12_thing_104 : decode cX12_thing 104 = .ok (.iconst (-1), 1) := by decide +kernel
theorem dX12_thing_105 : decode cX12_thing 105 = .ok (.iastore, 1) := by decide +kernel
theorem dX12_thing_106 : decode cX12_thing 106 = .ok (.aload_n 0, 1) := by decide +kernel
theorem dX12_thing_107 : decode cX12_thing 107 = .ok (.dup, 1) := by decide +kernel
theorem dX12_thing_108 : decode cX12_thing 108 = .ok (.getfield 106, 3) := by decide +kernel
theorem dX12_thing_111 : decode cX12_thing 111 = .ok (.iconst 1, 1) := by decide +kernel
theorem dX12_thing_112 : decode cX12_thing 112 = .ok (.iadd, 1) := by decide +kernel
theorem dX12_thing_113 : decode cX12_thing 113 = .ok (.putfield 106, 3) := by decide +kernel
theorem dX12_thing_116 : decode cX12_thing 116 = .ok (.aload_n 0, 1) := by decide +kernel
theorem dX12_thing_117 : decode cX12_thing 117 = .ok (.getfield 106, 3) := by decide +kernel
theorem dX12_thing_120 : decode cX12_thing 120 = .ok (.iconst 1, 1) := by decide +kernel
theorem dX12_thing_121 : decode cX12_thing 121 = .ok (.isub, 1) := by decide +kernel
theorem dX12_thing_122 : decode cX12_thing 122 = .ok (.ireturn, 1) := by decide +kernel
theorem dX12_stands_0 : decode cX12_stands 0 = .ok (.aload_n 0, 1) := by decide +kernel
theorem dX12_stands_1 : decode cX12_stands 1 = .ok (.getfield 32, 3) := by decide +kernel
theorem dX12_stands_4 : decode cX12_stands 4 = .ok (.iload_n 1, 1) := by decide +kernel
theorem dX12_stands_5 : decode cX12_stands 5 = .ok (.iaload, 1) := by decide +kernel
theorem dX12_stands_6 : decode cX12_stands 6 = .ok (.istore_n 3, 1) := by decide +kernel
theorem dX12_stands_7 : decode cX12_stands 7 = .ok (.iload_n 3, 1) := by decide +kernel
theorem dX12_stands_8 : decode cX12_stands 8 = .ok (.iconst 1, 1) := by decide +kernel
theorem dX12_stands_9 : decode cX12_stands 9 = .ok (.if_icmp .eq 8, 3) := by decide +kernel
theorem dX12_stands_12 : decode cX12_stands 12 = .ok (.iload_n 3, 1) := by decide +kernel
theorem dX12_stands_13 : decode cX12_stands 13 = .ok (.iconst 3, 1) := by decide +kernel
theorem dX12_stands_14 : decode cX12_stands 14 = .ok (.if_icmp .ne 24, 3) := by decide +kernel
theorem dX12_stands_17 : decode cX12_stands 17 = .ok (.iload_n 2, 1) := by decide +kernel
theorem dX12_stands_18 : decode cX12_stands 18 = .ok (.iconst 2, 1) := by decide +kernel
theorem dX12_stands_19 : decode cX12_stands 19 = .ok (.irem, 1) := by decide +kernel
theorem dX12_stands_20 : decode cX12_stands 20 = .ok (.ifCond .ne 16, 3) := by decide +kernel
theorem dX12_stands_23 : decode cX12_stands 23 = .ok (.iload_n 3, 1) := by decide +kernel
theorem dX12_stands_24 : decode cX12_stands 24 = .ok (.iconst 1, 1) := by decide +kernel
theorem dX12_stands_25 : decode cX12_stands 25 = .ok (.if_icmp .eq 7, 3) := by decide +kernel
theorem dX12_stands_28 : decode cX12_stands 28 = .ok (.iload_n 2, 1) := by decide +kernel
theorem dX12_stands_29 : decode cX12_stands 29 = .ok (.ifCond .eq 7, 3) := by decide +kernel
theorem dX12_stands_32 : decode cX12_stands 32 = .ok (.iconst 1, 1) := by decide +kernel
theorem dX12_stands_33 : decode cX12_stands 33 = .ok (.goto 4, 3) := by decide +kernel
theorem dX12_stands_36 : decode cX12_stands 36 = .ok (.iconst 0, 1) := by decide +kernel
theorem dX12_stands_37 : decode cX12_stands 37 = .ok (.ireturn, 1) := by decide +kernel
theorem dX12_stands_38 : decode cX12_stands 38 = .ok (.iload_n 3, 1) := by decide +kernel
theorem dX12_stands_39 : decode cX12_stands 39 = .ok (.iconst 2, 1) := by decide +kernel
theorem dX12_stands_40 : decode cX12_stands 40 = .ok (.if_icmp .eq 8, 3) := by decide +kernel
theorem dX12_stands_43 : decode cX12_stands 43 = .ok (.iload_n 3, 1) := by decide +kernel
theorem dX12_stands_44 : decode cX12_stands 44 = .ok (.iconst 4, 1) := by decide +kernel
theorem dX12_stands_45 : decode cX12_stands 45 = .ok (.if_icmp .ne 8, 3) := by decide +kernel
theorem dX12_stands_48 : decode cX12_stands 48 = .ok (.iload_n 2, 1) := by decide +kernel
theorem dX12_stands_49 : decode cX12_stands 49 = .ok (.iconst 4, 1) := by decide +kernel
theorem dX12_stands_50 : decode cX12_stands 50 = .ok (.if_icmp .ge 7, 3) := by decide +kernel
theorem dX12_stands_53 : decode cX12_stands 53 = .ok (.iconst 1, 1) := by decide +kernel
theorem dX12_stands_54 : decode cX12_stands 54 = .ok (.goto 4, 3) := by decide +kernel
theorem dX12_stands_57 : decode cX12_stands 57 = .ok (.iconst 0, 1) := by decide +kernel
theorem dX12_stands_58 : decode cX12_stands 58 = .ok (.ireturn, 1) := by decide +kernel
theorem dX12_missedOf_0 : decode cX12_missedOf 0 = .ok (.aload_n 0, 1) := by decide +kernel
theorem dX12_missedOf_1 : decode cX12_missedOf 1 = .ok (.getfield 32, 3) := by decide +kernel
theorem dX12_missedOf_4 : decode cX12_missedOf 4 = .ok (.iload_n 1, 1) := by decide +kernel
theorem dX12_missedOf_5 : decode cX12_missedOf 5 = .ok (.iaload, 1) := by decide +kernel
theorem dX12_missedOf_6 : decode cX12_missedOf 6 = .ok (.istore_n 2, 1) := by decide +kernel
theorem dX12_missedOf_7 : decode cX12_missedOf 7 = .ok (.iload_n 2, 1) := by decide +kernel
theorem dX12_missedOf_8 : decode cX12_missedOf 8 = .ok (.ifCond .eq 8, 3) := by decide +kernel
theorem dX12_missedOf_11 : decode cX12_missedOf 11 = .ok (.iload_n 2, 1) := by decide +kernel
theorem dX12_missedOf_12 : decode cX12_missedOf 12 = .ok (.iconst 1, 1) := by decide +kernel
theorem dX12_missedOf_13 : decode cX12_missedOf 13 = .ok (.if_icmp .ne 7, 3) := by decide +kernel
theorem dX12_missedOf_16 : decode cX12_missedOf 16 = .ok (.iconst 1, 1) := by decide +kernel
theorem dX12_missedOf_17 : decode cX12_missedOf 17 = .ok (.goto 31, 3) := by decide +kernel
theorem dX12_missedOf_20 : decode cX12_missedOf 20 = .ok (.iload_n 2, 1) := by decide +kernel
theorem dX12_missedOf_21 : decode cX12_missedOf 21 = .ok (.iconst 5, 1) := by decide +kernel
theorem dX12_missedOf_22 : decode cX12_missedOf 22 = .ok (.if_icmp .ne 7, 3) := by decide +kernel
theorem dX12_missedOf_25 : decode cX12_missedOf 25 = .ok (.iconst 0, 1) := by decide +kernel
theorem dX12_missedOf_26 : decode cX12_missedOf 26 = .ok (.goto 22, 3) := by decide +kernel
theorem dX12_missedOf_29 : decode cX12_missedOf 29 = .ok (.iload_n 2, 1) := by decide +kernel
theorem dX12_missedOf_30 : decode cX12_missedOf 30 = .ok (.iconst 4, 1) := by decide +kernel
theorem dX12_missedOf_31 : decode cX12_missedOf 31 = .ok (.if_icmp .ne 16, 3) := by decide +kernel
theorem dX12_missedOf_34 : decode cX12_missedOf 34 = .ok (.iconst 2, 1) := by decide +kernel
theorem dX12_missedOf_35 : decode cX12_missedOf 35 = .ok (.aload_n 0, 1) := by decide +kernel
theorem dX12_missedOf_36 : decode cX12_missedOf 36 = .ok (.getfield 35, 3) := by decide +kernel
theorem dX12_missedOf_39 : decode cX12_missedOf 39 = .ok (.iload_n 1, 1) := by decide +kernel
theorem dX12_missedOf_40 : decode cX12_missedOf 40 = .ok (.iaload, 1) := by decide +kernel
theorem dX12_missedOf_41 : decode cX12_missedOf 41 = .ok (.iconst 4, 1) := by decide +kernel
theorem dX12_missedOf_42 : decode cX12_missedOf 42 = .ok (.idiv, 1) := by decide +kernel
theorem dX12_missedOf_43 : decode cX12_missedOf 43 = .ok (.iadd, 1) := by decide +kernel
theorem dX12_missedOf_44 : decode cX12_missedOf 44 = .ok (.goto 4, 3) := by decide +kernel
theorem dX12_missedOf_47 : decode cX12_missedOf 47 = .ok (.iconst 2, 1) := by decide +kernel
theorem dX12_missedOf_48 : decode cX12_missedOf 48 = .ok (.ireturn, 1) := by decide +kernel
theorem dX12_offendsOf_0 : decode cX12_offendsOf 0 = .ok (.aload_n 0, 1) := by decide +kernel
theorem dX12_offendsOf_1 : decode cX12_offendsOf 1 = .ok (.getfield 32, 3) := by decide +kernel
theorem dX12_offendsOf_4 : decode cX12_offendsOf 4 = .ok (.iload_n 1, 1) := by decide +kernel
theorem dX12_offendsOf_5 : decode cX12_offendsOf 5 = .ok (.iaload, 1) := by decide +kernel
theorem dX12_offendsOf_6 : decode cX12_offendsOf 6 = .ok (.istore_n 3, 1) := by decide +kernel
theorem dX12_offendsOf_7 : decode cX12_offendsOf 7 = .ok (.iload_n 2, 1) := by decide +kernel
theorem dX12_offendsOf_8 : decode cX12_offendsOf 8 = .ok (.aload_n 0, 1) := by decide +kernel
theorem dX12_offendsOf_9 : decode cX12_offendsOf 9 = .ok (.getfield 35, 3) := by decide +kernel
theorem dX12_offendsOf_12 : decode cX12_offendsOf 12 = .ok (.iload_n 1, 1) := by decide +kernel
theorem dX12_offendsOf_13 : decode cX12_offendsOf 13 = .ok (.iaload, 1) := by decide +kernel
theorem dX12_offendsOf_14 : decode cX12_offendsOf 14 = .ok (.iconst 4, 1) := by decide +kernel
theorem dX12_offendsOf_15 : decode cX12_offendsOf 15 = .ok (.irem, 1) := by decide +kernel
theorem dX12_offendsOf_16 : decode cX12_offendsOf 16 = .ok (.if_icmp .ne 7, 3) := by decide +kernel
theorem dX12_offendsOf_19 : decode cX12_offendsOf 19 = .ok (.iconst 1, 1) := by decide +kernel
theorem dX12_offendsOf_20 : decode cX12_offendsOf 20 = .ok (.goto 4, 3) := by decide +kernel
theorem dX12_offendsOf_23 : decode cX12_offendsOf 23 = .ok (.iconst 0, 1) := by decide +kernel
theorem dX12_offendsOf_24 : decode cX12_offendsOf 24 = .ok (.istore 4, 2) := by decide +kernel
theorem dX12_offendsOf_26 : decode cX12_offendsOf 26 = .ok (.iload_n 3, 1) := by decide +kernel
theorem dX12_offendsOf_27 : decode cX12_offendsOf 27 = .ok (.iconst 2, 1) := by decide +kernel
theorem dX12_offendsOf_28 : decode cX12_offendsOf 28 = .ok (.if_icmp .eq 8, 3) := by decide +kernel
theorem dX12_offendsOf_31 : decode cX12_offendsOf 31 = .ok (.iload_n 3, 1) := by decide +kernel
theorem dX12_offendsOf_32 : decode cX12_offendsOf 32 = .ok (.iconst 4, 1) := by decide +kernel
theorem dX12_offendsOf_33 : decode cX12_offendsOf 33 = .ok (.if_icmp .ne 18, 3) := by decide +kernel
theorem dX12_offendsOf_36 : decode cX12_offendsOf 36 = .ok (.iload_n 3, 1) := by decide +kernel
theorem dX12_offendsOf_37 : decode cX12_offendsOf 37 = .ok (.iconst 4, 1) := by decide +kernel
theorem dX12_offendsOf_38 : decode cX12_offendsOf 38 = .ok (.if_icmp .ne 10, 3) := by decide +kernel
theorem dX12_offendsOf_41 : decode cX12_offendsOf 41 = .ok (.iconst 2, 1) := by decide +kernel
theorem dX12_offendsOf_42 : decode cX12_offendsOf 42 = .ok (.iload 4, 2) := by decide +kernel
theorem dX12_offendsOf_44 : decode cX12_offendsOf 44 = .ok (.imul, 1) := by decide +kernel
theorem dX12_offendsOf_45 : decode cX12_offendsOf 45 = .ok (.goto 5, 3) := by decide +kernel
theorem dX12_offendsOf_48 : decode cX12_offendsOf 48 = .ok (.iload 4, 2) := by decide +kernel
theorem dX12_offendsOf_50 : decode cX12_offendsOf 50 = .ok (.ireturn, 1) := by decide +kernel
theorem dX12_offendsOf_51 : decode cX12_offendsOf 51 = .ok (.iload_n 3, 1) := by decide +kernel
theorem dX12_offendsOf_52 : decode cX12_offendsOf 52 = .ok (.iconst 5, 1) := by decide +kernel
theorem dX12_offendsOf_53 : decode cX12_offendsOf 53 = .ok (.if_icmp .eq 18, 3) := by decide +kernel
theorem dX12_offendsOf_56 : decode cX12_offendsOf 56 = .ok (.iload_n 3, 1) := by decide +kernel
theorem dX12_offendsOf_57 : decode cX12_offendsOf 57 = .ok (.iconst 3, 1) := by decide +kernel
theorem dX12_offendsOf_58 : decode cX12_offendsOf 58 = .ok (.if_icmp .ne 17, 3) := by decide +kernel
theorem dX12_offendsOf_61 : decode cX12_offendsOf 61 = .ok (.iload_n 2, 1) := by decide +kernel
theorem dX12_offendsOf_62 : decode cX12_offendsOf 62 = .ok (.aload_n 0, 1) := by decide +kernel
theorem dX12_offendsOf_63 : decode cX12_offendsOf 63 = .ok (.getfield 38, 3) := by decide +kernel
theorem dX12_offendsOf_66 : decode cX12_offendsOf 66 = .ok (.iload_n 1, 1) := by decide +kernel
theorem dX12_offendsOf_67 : decode cX12_offendsOf 67 = .ok (.iaload, 1) := by decide +kernel
theorem dX12_offendsOf_68 : decode cX12_offendsOf 68 = .ok (.if_icmp .ge 7, 3) := by decide +kernel
theorem dX12_offendsOf_71 : decode cX12_offendsOf 71 = .ok (.iconst 1, 1) := by decide +kernel
theorem dX12_offendsOf_72 : decode cX12_offendsOf 72 = .ok (.goto 4, 3) := by decide +kernel
theorem dX12_offendsOf_75 : decode cX12_offendsOf 75 = .ok (.iconst 0, 1) := by decide +kernel
theorem dX12_offendsOf_76 : decode cX12_offendsOf 76 = .ok (.ireturn, 1) := by decide +kernel
theorem dX12_doesSee_0 : decode cX12_doesSee 0 = .ok (.iload_n 2, 1) := by decide +kernel
theorem dX12_doesSee_1 : decode cX12_doesSee 1 = .ok (.iconst (-1), 1) := by decide +kernel
theorem dX12_doesSee_2 : decode cX12_doesSee 2 = .ok (.if_icmp .eq 26, 3) := by decide +kernel
theorem dX12_doesSee_5 : decode cX12_doesSee 5 = .ok (.aload_n 0, 1) := by decide +kernel
theorem dX12_doesSee_6 : decode cX12_doesSee 6 = .ok (.getfield 23, 3) := by decide +kernel
theorem dX12_doesSee_9 : decode cX12_doesSee 9 = .ok (.iload_n 2, 1) := by decide +kernel
theorem dX12_doesSee_10 : decode cX12_doesSee 10 = .ok (.iaload, 1) := by decide +kernel
theorem dX12_doesSee_11 : decode cX12_doesSee 11 = .ok (.aload_n 0, 1) := by decide +kernel
theorem dX12_doesSee_12 : decode cX12_doesSee 12 = .ok (.getfield 26, 3) := by decide +kernel
theorem dX12_doesSee_15 : decode cX12_doesSee 15 = .ok (.iload_n 1, 1) := by decide +kernel
theorem dX12_doesSee_16 : decode cX12_doesSee 16 = .ok (.iaload, 1) := by decide +kernel
theorem dX12_doesSee_17 : decode cX12_doesSee 17 = .ok (.ishr, 1) := by decide +kernel
theorem dX12_doesSee_18 : decode cX12_doesSee 18 = .ok (.iconst 1, 1) := by decide +kernel
theorem dX12_doesSee_19 : decode cX12_doesSee 19 = .ok (.iand, 1) := by decide +kernel
theorem dX12_doesSee_20 : decode cX12_doesSee 20 = .ok (.iconst 1, 1) := by decide +kernel
theorem dX12_doesSee_21 : decode cX12_doesSee 21 = .ok (.if_icmp .ne 7, 3) := by decide +kernel
theorem dX12_doesSee_24 : decode cX12_doesSee 24 = .ok (.iconst 1, 1) := by decide +kernel
theorem dX12_doesSee_25 : decode cX12_doesSee 25 = .ok (.goto 4, 3) := by decide +kernel
theorem dX12_doesSee_28 : decode cX12_doesSee 28 = .ok (.iconst 0, 1) := by decide +kernel
theorem dX12_doesSee_29 : decode cX12_doesSee 29 = .ok (.ireturn, 1) := by decide +kernel
theorem dX12_put_0 : decode cX12_put 0 = .ok (.aload_n 0, 1) := by decide +kernel
theorem dX12_put_1 : decode cX12_put 1 = .ok (.iload_n 1, 1) := by decide +kernel
theorem dX12_put_2 : decode cX12_put 2 = .ok (.invokevirtual 123, 3) := by decide +kernel
theorem dX12_put_5 : decode cX12_put 5 = .ok (.ifCond .eq 15, 3) := by decide +kernel
theorem dX12_put_8 : decode cX12_put 8 = .ok (.iload_n 2, 1) := by decide +kernel
theorem dX12_put_9 : decode cX12_put 9 = .ok (.iconst (-1), 1) := by decide +kernel
theorem dX12_put_10 : decode cX12_put 10 = .ok (.if_icmp .eq 13, 3) := by decide +kernel
theorem dX12_put_13 : decode cX12_put 13 = .ok (.iload_n 2, 1) := by decide +kernel
theorem dX12_put_14 : decode cX12_put 14 = .ok (.invokestatic 127, 3) := by decide +kernel
theorem dX12_put_17 : decode cX12_put 17 = .ok (.ifCond .ne 6, 3) := by decide +kernel
theorem dX12_put_20 : decode cX12_put 20 = .ok (.bipush (-2), 2) := by decide +kernel
theorem dX12_put_22 : decode cX12_put 22 = .ok (.ireturn, 1) := by decide +kernel
theorem dX12_put_23 : decode cX12_put 23 = .ok (.iload_n 2, 1) := by decide +kernel
theorem dX12_put_24 : decode cX12_put 24 = .ok (.aload_n 0, 1) := by decide +kernel
theorem dX12_put_25 : decode cX12_put 25 = .ok (.getfield 44, 3) := by decide +kernel
theorem dX12_put_28 : decode cX12_put 28 = .ok (.iload_n 1, 1) := by decide +kernel
theorem dX12_put_29 : decode cX12_put 29 = .ok (.iaload, 1) := by decide +kernel
theorem dX12_put_30 : decode cX12_put 30 = .ok (.if_icmp .ne 5, 3) := by decide +kernel
theorem dX12_put_33 : decode cX12_put 33 = .ok (.iconst 0, 1) := by decide +kernel
theorem dX12_put_34 : decode cX12_put 34 = .ok (.ireturn, 1) := by decide +kernel
theorem dX12_put_35 : decode cX12_put 35 = .ok (.iload_n 2, 1) := by decide +kernel
theorem dX12_put_36 : decode cX12_put 36 = .ok (.iconst (-1), 1) := by decide +kernel
theorem dX12_put_37 : decode cX12_put 37 = .ok (.if_icmp .eq 44, 3) := by decide +kernel
theorem dX12_put_40 : decode cX12_put 40 = .ok (.aload_n 0, 1) := by decide +kernel
theorem dX12_put_41 : decode cX12_put 41 = .ok (.iload_n 1, 1) := by decide +kernel
theorem dX12_put_42 : decode cX12_put 42 = .ok (.iload_n 2, 1) := by decide +kernel
theorem dX12_put_43 : decode cX12_put 43 = .ok (.invokevirtual 130, 3) := by decide +kernel
theorem dX12_put_46 : decode cX12_put 46 = .ok (.ifCond .ne 6, 3) := by decide +kernel
theorem dX12_put_49 : decode cX12_put 49 = .ok (.bipush (-3), 2) := by decide +kernel
theorem dX12_put_51 : decode cX12_put 51 = .ok (.ireturn, 1) := by decide +kernel
theorem dX12_put_52 : decode cX12_put 52 = .ok (.iconst 0, 1) := by decide +kernel
theorem dX12_put_53 : decode cX12_put 53 = .ok (.istore_n 3, 1) := by decide +kernel
theorem dX12_put_54 : decode cX12_put 54 = .ok (.iload_n 3, 1) := by decide +kernel
theorem dX12_put_55 : decode cX12_put 55 = .ok (.aload_n 0, 1) := by decide +kernel
theorem dX12_put_56 : decode cX12_put 56 = .ok (.getfield 106, 3) := by decide +kernel
theorem dX12_put_59 : decode cX12_put 59 = .ok (.if_icmp .ge 22, 3) := by decide +kernel
theorem dX12_put_62 : decode cX12_put 62 = .ok (.aload_n 0, 1) := by decide +kernel
theorem dX12_put_63 : decode cX12_put 63 = .ok (.getfield 44, 3) := by decide +kernel
theorem dX12_put_66 : decode cX12_put 66 = .ok (.iload_n 3, 1) := by decide +kernel
theorem dX12_put_67 : decode cX12_put 67 = .ok (.iaload, 1) := by decide +kernel
theorem dX12_put_68 : decode cX12_put 68 = .ok (.iload_n 2, 1) := by decide +kernel
theorem dX12_put_69 : decode cX12_put 69 = .ok (.if_icmp .ne 6, 3) := by decide +kernel
theorem dX12_put_72 : decode cX12_put 72 = .ok (.bipush (-3), 2) := by decide +kernel
theorem dX12_put_74 : decode cX12_put 74 = .ok (.ireturn, 1) := by decide +kernel
theorem dX12_put_75 : decode cX12_put 75 = .ok (.iinc 3 1, 3) := by decide +kernel
theorem dX12_put_78 : decode cX12_put 78 = .ok (.goto (-24), 3) := by decide +kernel
theorem dX12_put_81 : decode cX12_put 81 = .ok (.aload_n 0, 1) := by decide +kernel
theorem dX12_put_82 : decode cX12_put 82 = .ok (.getfield 44, 3) := by decide +kernel
theorem dX12_put_85 : decode cX12_put 85 = .ok (.iload_n 1, 1) := by decide +kernel
theorem dX12_put_86 : decode cX12_put 86 = .ok (.iload_n 2, 1) := by decide +kernel
theorem dX12_put_87 : decode cX12_put 87 = .ok (.iastore, 1) := by decide +kernel
theorem dX12_put_88 : decode cX12_put 88 = .ok (.aload_n 0, 1) := by decide +kernel
theorem dX12_put_89 : decode cX12_put 89 = .ok (.iconst 0, 1) := by decide +kernel
theorem dX12_put_90 : decode cX12_put 90 = .ok (.iload_n 1, 1) := by decide +kernel
theorem dX12_put_91 : decode cX12_put 91 = .ok (.iload_n 2, 1) := by decide +kernel
theorem dX12_put_92 : decode cX12_put 92 = .ok (.iconst (-1), 1) := by decide +kernel
theorem dX12_put_93 : decode cX12_put 93 = .ok (.if_icmp .ne 8, 3) := by decide +kernel
theorem dX12_put_96 : decode cX12_put 96 = .ok (.bipush 6, 2) := by decide +kernel
theorem dX12_put_98 : decode cX12_put 98 = .ok (.goto 4, 3) := by decide +kernel
theorem dX12_put_101 : decode cX12_put 101 = .ok (.iload_n 2, 1) := by decide +kernel
theorem dX12_put_102 : decode cX12_put 102 = .ok (.iconst 0, 1) := by decide +kernel
theorem dX12_put_103 : decode cX12_put 103 = .ok (.invokevirtual 134, 3) := by decide +kernel
theorem dX12_put_106 : decode cX12_put 106 = .ok (.ireturn, 1) := by decide +kernel
theorem dX12_told_0 : decode cX12_told 0 = .ok (.aload_n 0, 1) := by decide +kernel
theorem dX12_told_1 : decode cX12_told 1 = .ok (.iload_n 1, 1) := by decide +kernel
theorem dX12_told_2 : decode cX12_told 2 = .ok (.invokevirtual 123, 3) := by decide +kernel
theorem dX12_told_5 : decode cX12_told 5 = .ok (.ifCond .eq 15, 3) := by decide +kernel
theorem dX12_told_8 : decode cX12_told 8 = .ok (.iload_n 2, 1) := by decide +kernel
theorem dX12_told_9 : decode cX12_told 9 = .ok (.i2l, 1) := by decide +kernel
theorem dX12_told_10 : decode cX12_told 10 = .ok (.lconst 0, 1) := by decide +kernel
theorem dX12_told_11 : decode cX12_told 11 = .ok (.ldc2_w 138, 3) := by decide +kernel
theorem dX12_told_14 : decode cX12_told 14 = .ok (.invokestatic 109, 3) := by decide +kernel
theorem dX12_told_17 : decode cX12_told 17 = .ok (.ifCond .ne 6, 3) := by decide +kernel
theorem dX12_told_20 : decode cX12_told 20 = .ok (.bipush (-100), 2) := by decide +kernel
theorem dX12_told_22 : decode cX12_told 22 = .ok (.ireturn, 1) := by decide +kernel
theorem dX12_told_23 : decode cX12_told 23 = .ok (.iload_n 2, 1) := by decide +kernel
theorem dX12_told_24 : decode cX12_told 24 = .ok (.iconst 5, 1) := by decide +kernel
theorem dX12_told_25 : decode cX12_told 25 = .ok (.if_icmp .le 21, 3) := by decide +kernel
theorem dX12_told_28 : decode cX12_told 28 = .ok (.aload_n 0, 1) := by decide +kernel
theorem dX12_told_29 : decode cX12_told 29 = .ok (.iload_n 1, 1) := by decide +kernel
theorem dX12_told_30 : decode cX12_told 30 = .ok (.iload_n 2, 1) := by decide +kernel
theorem dX12_told_31 : decode cX12_told 31 = .ok (.bipush 6, 2) := by decide +kernel
theorem dX12_told_33 : decode cX12_told 33 = .ok (.isub, 1) := by decide +kernel
theorem dX12_told_34 : decode cX12_told 34 = .ok (.invokevirtual 130, 3) := by decide +kernel
theorem dX12_told_37 : decode cX12_told 37 = .ok (.ifCond .eq 7, 3) := by decide +kernel
theorem dX12_told_40 : decode cX12_told 40 = .ok (.iconst 1, 1) := by decide +kernel
theorem dX12_told_41 : decode cX12_told 41 = .ok (.goto 4, 3) := by decide +kernel
theorem dX12_told_44 : decode cX12_told 44 = .ok (.iconst 0, 1) := by decide +kernel
theorem dX12_told_45 : decode cX12_told 45 = .ok (.ireturn, 1) := by decide +kernel
theorem dX12_told_46 : decode cX12_told 46 = .ok (.iload_n 2, 1) := by decide +kernel
theorem dX12_told_47 : decode cX12_told 47 = .ok (.iconst 5, 1) := by decide +kernel
theorem dX12_told_48 : decode cX12_told 48 = .ok (.if_icmp .ge 65, 3) := by decide +kernel
theorem dX12_told_51 : decode cX12_told 51 = .ok (.iload_n 2, 1) := by decide +kernel
theorem dX12_told_52 : decode cX12_told 52 = .ok (.ifCond .ne 12, 3) := by decide +kernel
theorem dX12_told_55 : decode cX12_told 55 = .ok (.aload_n 0, 1) := by decide +kernel
theorem dX12_told_56 : decode cX12_told 56 = .ok (.getfield 32, 3) := by decide +kernel
theorem dX12_told_59 : decode cX12_told 59 = .ok (.iload_n 1, 1) := by decide +kernel
theorem dX12_told_60 : decode cX12_told 60 = .ok (.iaload, 1) := by decide +kernel
theorem dX12_told_61 : decode cX12_told 61 = .ok (.goto 51, 3) := by decide +kernel
theorem dX12_told_64 : decode cX12_told 64 = .ok (.iload_n 2, 1) := by decide +kernel
theorem dX12_told_65 : decode cX12_told 65 = .ok (.iconst 1, 1) := by decide +kernel
theorem dX12_told_66 : decode cX12_told 66 = .ok (.if_icmp .ne 12, 3) := by decide +kernel
theorem dX12_told_69 : decode cX12_told 69 = .ok (.aload_n 0, 1) := by decide +kernel
theorem dX12_told_70 : decode cX12_told 70 = .ok (.getfield 35, 3) := by decide +kernel
theorem dX12_told_73 : decode cX12_told 73 = .ok (.iload_n 1, 1) := by decide +kernel
theorem dX12_told_74 : decode cX12_told 74 = .ok (.iaload, 1) := by decide +kernel
theorem dX12_told_75 : decode cX12_told 75 = .ok (.goto 37, 3) := by decide +kernel
theorem dX12_told_78 : decode cX12_told 78 = .ok (.iload_n 2, 1) := by decide +kernel
theorem dX12_told_79 : decode cX12_told 79 = .ok (.iconst 2, 1) := by decide +kernel
theorem dX12_told_80 : decode cX12_told 80 = .ok (.if_icmp .ne 12, 3) := by decide +kernel
theorem dX12_told_83 : decode cX12_told 83 = .ok (.aload_n 0, 1) := by decide +kernel
theorem dX12_told_84 : decode cX12_told 84 = .ok (.getfield 38, 3) := by decide +kernel
theorem dX12_told_87 : decode cX12_told 87 = .ok (.iload_n 1, 1) := by decide +kernel
theorem dX12_told_88 : decode cX12_told 88 = .ok (.iaload, 1) := by decide +kernel
theorem dX12_told_89 : decode cX12_told 89 = .ok (.goto 23, 3) := by decide +kernel
theorem dX12_told_92 : decode cX12_told 92 = .ok (.iload_n 2, 1) := by decide +kernel
theorem dX12_told_93 : decode cX12_told 93 = .ok (.iconst 3, 1) := by decide +kernel
theorem dX12_told_94 : decode cX12_told 94 = .ok (.if_icmp .ne 12, 3) := by decide +kernel
theorem dX12_told_97 : decode cX12_told 97 = .ok (.aload_n 0, 1) := by decide +kernel
theorem dX12_told_98 : decode cX12_told 98 = .ok (.getfield 41, 3) := by decide +kernel
theorem dX12_told_101 : decode cX12_told 101 = .ok (.iload_n 1, 1) := by decide +kernel
theorem dX12_told_102 : decode cX12_told 102 = .ok (.iaload, 1) := by decide +kernel
theorem dX12_told_103 : decode cX12_told 103 = .ok (.goto 9, 3) := by decide +kernel
theorem dX12_told_106 : decode cX12_told 106 = .ok (.aload_n 0, 1) := by decide +kernel
theorem dX12_told_107 : decode cX12_told 107 = .ok (.getfield 44, 3) := by decide +kernel
theorem dX12_told_110 : decode cX12_told 110 = .ok (.iload_n 1, 1) := by decide +kernel
theorem dX12_told_111 : decode cX12_told 111 = .ok (.iaload, 1) := by decide +kernel
theorem dX12_told_112 : decode cX12_told 112 = .ok (.ireturn, 1) := by decide +kernel
theorem dX12_told_113 : decode cX12_told 113 = .ok (.iconst 0, 1) := by decide +kernel
theorem dX12_told_114 : decode cX12_told 114 = .ok (.istore_n 3, 1) := by decide +kernel
theorem dX12_told_115 : decode cX12_told 115 = .ok (.iconst 0, 1) := by decide +kernel
theorem dX12_told_116 : decode cX12_told 116 = .ok (.istore 4, 2) := by decide +kernel
theorem dX12_told_118 : decode cX12_told 118 = .ok (.iload 4, 2) := by decide +kernel
theorem dX12_told_120 : decode cX12_told 120 = .ok (.iconst 4, 1) := by decide +kernel
theorem dX12_told_121 : decode cX12_told 121 = .ok (.if_icmp .ge 35, 3) := by decide +kernel
theorem dX12_told_124 : decode cX12_told 124 = .ok (.iload_n 3, 1) := by decide +kernel
theorem dX12_told_125 : decode cX12_told 125 = .ok (.aload_n 0, 1) := by decide +kernel
theorem dX12_told_126 : decode cX12_told 126 = .ok (.iload 4, 2) := by decide +kernel
theorem dX12_told_128 : decode cX12_told 128 = .ok (.aload_n 0, 1) := by decide +kernel
theorem dX12_told_129 : decode cX12_told 129 = .ok (.getfield 44, 3) := by decide +kernel
theorem dX12_told_132 : decode cX12_told 132 = .ok (.iload_n 1, 1) := by decide +kernel
theorem dX12_told_133 : decode cX12_told 133 = .ok (.iaload, 1) := by decide +kernel
theorem dX12_told_134 : decode cX12_told 134 = .ok (.invokevirtual 140, 3) := by decide +kernel
theorem dX12_told_137 : decode cX12_told 137 = .ok (.ifCond .eq 7, 3) := by decide +kernel
theorem dX12_told_140 : decode cX12_told 140 = .ok (.iconst 1, 1) := by decide +kernel
theorem dX12_told_141 : decode cX12_told 141 = .ok (.goto 4, 3) := by decide +kernel
theorem dX12_told_144 : decode cX12_told 144 = .ok (.iconst 0, 1) := by decide +kernel
theorem dX12_told_145 : decode cX12_told 145 = .ok (.iload 4, 2) := by decide +kernel
theorem dX12_told_147 : decode cX12_told 147 = .ok (.ishl, 1) := by decide +kernel
theorem dX12_told_148 : decode cX12_told 148 = .ok (.ior, 1) := by decide +kernel
theorem dX12_told_149 : decode cX12_told 149 = .ok (.istore_n 3, 1) := by decide +kernel
theorem dX12_told_150 : decode cX12_told 150 = .ok (.iinc 4 1, 3) := by decide +kernel
theorem dX12_told_153 : decode cX12_told 153 = .ok (.goto (-35), 3) := by decide +kernel
theorem dX12_told_156 : decode cX12_told 156 = .ok (.iload_n 3, 1) := by decide +kernel
theorem dX12_told_157 : decode cX12_told 157 = .ok (.ireturn, 1) := by decide +kernel
theorem dX12_feed_0 : decode cX12_feed 0 = .ok (.iload_n 1, 1) := by decide +kernel
theorem dX12_feed_1 : decode cX12_feed 1 = .ok (.i2l, 1) := by decide +kernel
theorem dX12_feed_2 : decode cX12_feed 2 = .ok (.lconst 0, 1) := by decide +kernel
theorem dX12_feed_3 : decode cX12_feed 3 = .ok (.ldc2_w 143, 3) := by decide +kernel
theorem dX12_feed_6 : decode cX12_feed 6 = .ok (.invokestatic 109, 3) := by decide +kernel
theorem dX12_feed_9 : decode cX12_feed 9 = .ok (.ifCond .ne 6, 3) := by decide +kernel
theorem dX12_feed_12 : decode cX12_feed 12 = .ok (.bipush (-2), 2) := by decide +kernel
theorem dX12_feed_14 : decode cX12_feed 14 = .ok (.ireturn, 1) := by decide +kernel
theorem dX12_feed_15 : decode cX12_feed 15 = .ok (.aload_n 0, 1) := by decide +kernel
theorem dX12_feed_16 : decode cX12_feed 16 = .ok (.getfield 145, 3) := by decide +kernel
theorem dX12_feed_19 : decode cX12_feed 19 = .ok (.sipush 160, 3) := by decide +kernel
theorem dX12_feed_22 : decode cX12_feed 22 = .ok (.if_icmp .ne 6, 3) := by decide +kernel
theorem dX12_feed_25 : decode cX12_feed 25 = .ok (.bipush (-4), 2) := by decide +kernel
theorem dX12_feed_27 : decode cX12_feed 27 = .ok (.ireturn, 1) := by decide +kernel
theorem dX12_feed_28 : decode cX12_feed 28 = .ok (.aload_n 0, 1) := by decide +kernel
theorem dX12_feed_29 : decode cX12_feed 29 = .ok (.getfield 20, 3) := by decide +kernel
theorem dX12_feed_32 : decode cX12_feed 32 = .ok (.aload_n 0, 1) := by decide +kernel
theorem dX12_feed_33 : decode cX12_feed 33 = .ok (.getfield 145, 3) := by decide +kernel
theorem dX12_feed_36 : decode cX12_feed 36 = .ok (.iload_n 1, 1) := by decide +kernel
theorem dX12_feed_37 : decode cX12_feed 37 = .ok (.iastore, 1) := by decide +kernel
theorem dX12_feed_38 : decode cX12_feed 38 = .ok (.aload_n 0, 1) := by decide +kernel
theorem dX12_feed_39 : decode cX12_feed 39 = .ok (.dup, 1) := by decide +kernel
theorem dX12_feed_40 : decode cX12_feed 40 = .ok (.getfield 145, 3) := by decide +kernel
theorem dX12_feed_43 : decode cX12_feed 43 = .ok (.iconst 1, 1) := by decide +kernel
theorem dX12_feed_44 : decode cX12_feed 44 = .ok (.iadd, 1) := by decide +kernel
theorem dX12_feed_45 : decode cX12_feed 45 = .ok (.putfield 145, 3) := by decide +kernel
theorem dX12_feed_48 : decode cX12_feed 48 = .ok (.aload_n 0, 1) := by decide +kernel
theorem dX12_feed_49 : decode cX12_feed 49 = .ok (.getfield 145, 3) := by decide +kernel
theorem dX12_feed_52 : decode cX12_feed 52 = .ok (.ireturn, 1) := by decide +kernel
theorem dX12_byteAt_0 : decode cX12_byteAt 0 = .ok (.iload_n 1, 1) := by decide +kernel
theorem dX12_byteAt_1 : decode cX12_byteAt 1 = .ok (.aload_n 0, 1) := by decide +kernel
theorem dX12_byteAt_2 : decode cX12_byteAt 2 = .ok (.getfield 148, 3) := by decide +kernel
theorem dX12_byteAt_5 : decode cX12_byteAt 5 = .ok (.if_icmp .ge 17, 3) := by decide +kernel
theorem dX12_byteAt_8 : decode cX12_byteAt 8 = .ok (.aload_n 0, 1) := by decide +kernel
theorem dX12_byteAt_9 : decode cX12_byteAt 9 = .ok (.getfield 13, 3) := by decide +kernel
theorem dX12_byteAt_12 : decode cX12_byteAt 12 = .ok (.aload_n 0, 1) := by decide +kernel
theorem dX12_byteAt_13 : decode cX12_byteAt 13 = .ok (.getfield 151, 3) := by decide +kernel
theorem dX12_byteAt_16 : decode cX12_byteAt 16 = .ok (.iload_n 1, 1) := by decide +kernel
theorem dX12_byteAt_17 : decode cX12_byteAt 17 = .ok (.iadd, 1) := by decide +kernel
theorem dX12_byteAt_18 : decode cX12_byteAt 18 = .ok (.iaload, 1) := by decide +kernel
theorem dX12_byteAt_19 : decode cX12_byteAt 19 = .ok (.goto 4, 3) := by decide +kernel
theorem dX12_byteAt_22 : decode cX12_byteAt 22 = .ok (.iconst (-1), 1) := by decide +kernel
theorem dX12_byteAt_23 : decode cX12_byteAt 23 = .ok (.ireturn, 1) := by decide +kernel
theorem dX12_next_0 : decode cX12_next 0 = .ok (.aload_n 0, 1) := by decide +kernel
theorem dX12_next_1 : decode cX12_next 1 = .ok (.aload_n 0, 1) := by decide +kernel
theorem dX12_next_2 : decode cX12_next 2 = .ok (.getfield 154, 3) := by decide +kernel
theorem dX12_next_5 : decode cX12_next 5 = .ok (.invokevirtual 157, 3) := by decide +kernel
theorem dX12_next_8 : decode cX12_next 8 = .ok (.bipush 32, 2) := by decide +kernel
theorem dX12_next_10 : decode cX12_next 10 = .ok (.if_icmp .eq 16, 3) := by decide +kernel
theorem dX12_next_13 : decode cX12_next 13 = .ok (.aload_n 0, 1) := by decide +kernel
theorem dX12_next_14 : decode cX12_next 14 = .ok (.aload_n 0, 1) := by decide +kernel
theorem dX12_next_15 : decode cX12_next 15 = .ok (.getfield 154, 3) := by decide +kernel
theorem dX12_next_18 : decode cX12_next 18 = .ok (.invokevirtual 157, 3) := by decide +kernel
theorem dX12_next_21 : decode cX12_next 21 = .ok (.bipush 10, 2) := by decide +kernel
theorem dX12_next_23 : decode cX12_next 23 = .ok (.if_icmp .ne 16, 3) := by decide +kernel
theorem dX12_next_26 : decode cX12_next 26 = .ok (.aload_n 0, 1) := by decide +kernel
theorem dX12_next_27 : decode cX12_next 27 = .ok (.dup, 1) := by decide +kernel
theorem dX12_next_28 : decode cX12_next 28 = .ok (.getfield 154, 3) := by decide +kernel
theorem dX12_next_31 : decode cX12_next 31 = .ok (.iconst 1, 1) := by decide +kernel
theorem dX12_next_32 : decode cX12_next 32 = .ok (.iadd, 1) := by decide +kernel
theorem dX12_next_33 : decode cX12_next 33 = .ok (.putfield 154, 3) := by decide +kernel
theorem dX12_next_36 : decode cX12_next 36 = .ok (.goto (-36), 3) := by decide +kernel
theorem dX12_next_39 : decode cX12_next 39 = .ok (.aload_n 0, 1) := by decide +kernel
theorem dX12_next_40 : decode cX12_next 40 = .ok (.aload_n 0, 1) := by decide +kernel
theorem dX12_next_41 : decode cX12_next 41 = .ok (.getfield 154, 3) := by decide +kernel
theorem dX12_next_44 : decode cX12_next 44 = .ok (.putfield 161, 3) := by decide +kernel
theorem dX12_next_47 : decode cX12_next 47 = .ok (.aload_n 0, 1) := by decide +kernel
theorem dX12_next_48 : decode cX12_next 48 = .ok (.aload_n 0, 1) := by decide +kernel
theorem dX12_next_49 : decode cX12_next 49 = .ok (.getfield 154, 3) := by decide +kernel
theorem dX12_next_52 : decode cX12_next 52 = .ok (.invokevirtual 157, 3) := by decide +kernel
theorem dX12_next_55 : decode cX12_next 55 = .ok (.istore_n 1, 1) := by decide +kernel
theorem dX12_next_56 : decode cX12_next 56 = .ok (.aload_n 0, 1) := by decide +kernel
theorem dX12_next_57 : decode cX12_next 57 = .ok (.iconst 4, 1) := by decide +kernel
theorem dX12_next_58 : decode cX12_next 58 = .ok (.putfield 164, 3) := by decide +kernel
theorem dX12_next_61 : decode cX12_next 61 = .ok (.iload_n 1, 1) := by decide +kernel
theorem dX12_next_62 : decode cX12_next 62 = .ok (.ifCond .ge 19, 3) := by decide +kernel
theorem dX12_next_65 : decode cX12_next 65 = .ok (.aload_n 0, 1) := by decide +kernel
theorem dX12_next_66 : decode cX12_next 66 = .ok (.iconst 0, 1) := by decide +kernel
theorem dX12_next_67 : decode cX12_next 67 = .ok (.putfield 164, 3) := by decide +kernel
theorem dX12_next_70 : decode cX12_next 70 = .ok (.aload_n 0, 1) := by decide +kernel
theorem dX12_next_71 : decode cX12_next 71 = .ok (.aload_n 0, 1) := by decide +kernel
theorem dX12_next_72 : decode cX12_next 72 = .ok (.getfield 148, 3) := by decide +kernel
theorem dX12_next_75 : decode cX12_next 75 = .ok (.putfield 161, 3) := by decide +kernel
theorem dX12_next_78 : decode cX12_next 78 = .ok (.goto 243, 3) := by decide +kernel
theorem dX12_next_81 : decode cX12_next 81 = .ok (.iload_n 1, 1) := by decide +kernel
theorem dX12_next_82 : decode cX12_next 82 = .ok (.i2l, 1) := by decide +kernel
theorem dX12_next_83 : decode cX12_next 83 = .ok (.ldc2_w 167, 3) := by decide +kernel
theorem dX12_next_86 : decode cX12_next 86 = .ok (.ldc2_w 169, 3) := by decide +kernel
theorem dX12_next_89 : decode cX12_next 89 = .ok (.invokestatic 109, 3) := by decide +kernel
theorem dX12_next_92 : decode cX12_next 92 = .ok (.ifCond .eq 42, 3) := by decide +kernel
theorem dX12_next_95 : decode cX12_next 95 = .ok (.aload_n 0, 1) := by decide +kernel
theorem dX12_next_96 : decode cX12_next 96 = .ok (.iconst 1, 1) := by decide +kernel
theorem dX12_next_97 : decode cX12_next 97 = .ok (.putfield 164, 3) := by decide +kernel
theorem dX12_next_100 : decode cX12_next 100 = .ok (.aload_n 0, 1) := by decide +kernel
theorem dX12_next_101 : decode cX12_next 101 = .ok (.aload_n 0, 1) := by decide +kernel
theorem dX12_next_102 : decode cX12_next 102 = .ok (.getfield 154, 3) := by decide +kernel
theorem dX12_next_105 : decode cX12_next 105 = .ok (.invokevirtual 157, 3) := by decide +kernel
theorem dX12_next_108 : decode cX12_next 108 = .ok (.i2l, 1) := by decide +kernel
theorem dX12_next_109 : decode cX12_next 109 = .ok (.ldc2_w 167, 3) := by decide +kernel
theorem dX12_next_112 : decode cX12_next 112 = .ok (.ldc2_w 169, 3) := by decide +kernel
theorem dX12_next_115 : decode cX12_next 115 = .ok (.invokestatic 109, 3) := by decide +kernel
theorem dX12_next_118 : decode cX12_next 118 = .ok (.ifCond .eq 203, 3) := by decide +kernel
theorem dX12_next_121 : decode cX12_next 121 = .ok (.aload_n 0, 1) := by decide +kernel
theorem dX12_next_122 : decode cX12_next 122 = .ok (.dup, 1) := by decide +kernel
theorem dX12_next_123 : decode cX12_next 123 = .ok (.getfield 154, 3) := by decide +kernel
theorem dX12_next_126 : decode cX12_next 126 = .ok (.iconst 1, 1) := by decide +kernel
theorem dX12_next_127 : decode cX12_next 127 = .ok (.iadd, 1) := by decide +kernel
theorem dX12_next_128 : decode cX12_next 128 = .ok (.putfield 154, 3) := by decide +kernel
theorem dX12_next_131 : decode cX12_next 131 = .ok (.goto (-31), 3) := by decide +kernel
theorem dX12_next_134 : decode cX12_next 134 = .ok (.iload_n 1, 1) := by decide +kernel
theorem dX12_next_135 : decode cX12_next 135 = .ok (.i2l, 1) := by decide +kernel
theorem dX12_next_136 : decode cX12_next 136 = .ok (.ldc2_w 171, 3) := by decide +kernel
theorem dX12_next_139 : decode cX12_next 139 = .ok (.ldc2_w 173, 3) := by decide +kernel
theorem dX12_next_142 : decode cX12_next 142 = .ok (.invokestatic 109, 3) := by decide +kernel
theorem dX12_next_145 : decode cX12_next 145 = .ok (.ifCond .eq 107, 3) := by decide +kernel
theorem dX12_next_148 : decode cX12_next 148 = .ok (.aload_n 0, 1) := by decide +kernel
theorem dX12_next_149 : decode cX12_next 149 = .ok (.iconst 2, 1) := by decide +kernel
theorem dX12_next_150 : decode cX12_next 150 = .ok (.putfield 164, 3) := by decide +kernel
theorem dX12_next_153 : decode cX12_next 153 = .ok (.aload_n 0, 1) := by decide +kernel
theorem dX12_next_154 : decode cX12_next 154 = .ok (.lconst 0, 1) := by decide +kernel
theorem dX12_next_155 : decode cX12_next 155 = .ok (.putfield 175, 3) := by decide +kernel
theorem dX12_next_158 : decode cX12_next 158 = .ok (.iconst 0, 1) := by decide +kernel
theorem dX12_next_159 : decode cX12_next 159 = .ok (.istore_n 2, 1) := by decide +kernel
theorem dX12_next_160 : decode cX12_next 160 = .ok (.aload_n 0, 1) := by decide +kernel
theorem dX12_next_161 : decode cX12_next 161 = .ok (.aload_n 0, 1) := by decide +kernel
theorem dX12_next_162 : decode cX12_next 162 = .ok (.getfield 154, 3) := by decide +kernel
theorem dX12_next_165 : decode cX12_next 165 = .ok (.invokevirtual 157, 3) := by decide +kernel
theorem dX12_next_168 : decode cX12_next 168 = .ok (.i2l, 1) := by decide +kernel
theorem dX12_next_169 : decode cX12_next 169 = .ok (.ldc2_w 171, 3) := by decide +kernel
theorem dX12_next_172 : decode cX12_next 172 = .ok (.ldc2_w 173, 3) := by decide +kernel
theorem dX12_next_175 : decode cX12_next 175 = .ok (.invokestatic 109, 3) := by decide +kernel
theorem dX12_next_178 : decode cX12_next 178 = .ok (.ifCond .eq 57, 3) := by decide +kernel
theorem dX12_next_181 : decode cX12_next 181 = .ok (.aload_n 0, 1) := by decide +kernel
theorem dX12_next_182 : decode cX12_next 182 = .ok (.iload_n 2, 1) := by decide +kernel
theorem dX12_next_183 : decode cX12_next 183 = .ok (.iconst 4, 1) := by decide +kernel
theorem dX12_next_184 : decode cX12_next 184 = .ok (.if_icmp .ge 28, 3) := by decide +kernel
theorem dX12_next_187 : decode cX12_next 187 = .ok (.ldc2_w 179, 3) := by decide +kernel
theorem dX12_next_190 : decode cX12_next 190 = .ok (.aload_n 0, 1) := by decide +kernel
theorem dX12_next_191 : decode cX12_next 191 = .ok (.getfield 175, 3) := by decide +kernel
theorem dX12_next_194 : decode cX12_next 194 = .ok (.lmul, 1) := by decide +kernel
theorem dX12_next_195 : decode cX12_next 195 = .ok (.aload_n 0, 1) := by decide +kernel
theorem dX12_next_196 : decode cX12_next 196 = .ok (.aload_n 0, 1) := by decide +kernel
theorem dX12_next_197 : decode cX12_next 197 = .ok (.getfield 154, 3) := by decide +kernel
theorem dX12_next_200 : decode cX12_next 200 = .ok (.invokevirtual 157, 3) := by decide +kernel
theorem dX12_next_203 : decode cX12_next 203 = .ok (.i2l, 1) := by decide +kernel
theorem dX12_next_204 : decode cX12_next 204 = .ok (.ladd, 1) := by decide +kernel
theorem dX12_next_205 : decode cX12_next 205 = .ok (.ldc2_w 171, 3) := by decide +kernel
theorem dX12_next_208 : decode cX12_next 208 = .ok (.lsub, 1) := by decide +kernel
theorem dX12_next_209 : decode cX12_next 209 = .ok (.goto 7, 3) := by decide +kernel
theorem dX12_next_212 : decode cX12_next 212 = .ok (.aload_n 0, 1) := by decide +kernel
theorem dX12_next_213 : decode cX12_next 213 = .ok (.getfield 175, 3) := by decide +kernel
theorem dX12_next_216 : decode cX12_next 216 = .ok (.putfield 175, 3) := by decide +kernel
theorem dX12_next_219 : decode cX12_next 219 = .ok (.iinc 2 1, 3) := by decide +kernel
theorem dX12_next_222 : decode cX12_next 222 = .ok (.aload_n 0, 1) := by decide +kernel
theorem dX12_next_223 : decode cX12_next 223 = .ok (.dup, 1) := by decide +kernel
theorem dX12_next_224 : decode cX12_next 224 = .ok (.getfield 154, 3) := by decide +kernel
theorem dX12_next_227 : decode cX12_next 227 = .ok (.iconst 1, 1) := by decide +kernel
theorem dX12_next_228 : decode cX12_next 228 = .ok (.iadd, 1) := by decide +kernel
theorem dX12_next_229 : decode cX12_next 229 = .ok (.putfield 154, 3) := by decide +kernel
theorem dX12_next_232 : decode cX12_next 232 = .ok (.goto (-72), 3) := by decide +kernel
theorem dX12_next_235 : decode cX12_next 235 = .ok (.aload_n 0, 1) := by decide +kernel
theorem dX12_next_236 : decode cX12_next 236 = .ok (.iload_n 2, 1) := by decide +kernel
theorem dX12_next_237 : decode cX12_next 237 = .ok (.iconst 4, 1) := by decide +kernel
theorem dX12_next_238 : decode cX12_next 238 = .ok (.if_icmp .le 7, 3) := by decide +kernel
theorem dX12_next_241 : decode cX12_next 241 = .ok (.iconst 4, 1) := by decide +kernel
theorem dX12_next_242 : decode cX12_next 242 = .ok (.goto 4, 3) := by decide +kernel
theorem dX12_next_245 : decode cX12_next 245 = .ok (.iconst 2, 1) := by decide +kernel
theorem dX12_next_246 : decode cX12_next 246 = .ok (.putfield 164, 3) := by decide +kernel
theorem dX12_next_249 : decode cX12_next 249 = .ok (.goto 72, 3) := by decide +kernel
theorem dX12_next_252 : decode cX12_next 252 = .ok (.iload_n 1, 1) := by decide +kernel
theorem dX12_next_253 : decode cX12_next 253 = .ok (.bipush 40, 2) := by decide +kernel
theorem dX12_next_255 : decode cX12_next 255 = .ok (.if_icmp .eq 45, 3) := by decide +kernel
theorem dX12_next_258 : decode cX12_next 258 = .ok (.iload_n 1, 1) := by decide +kernel
theorem dX12_next_259 : decode cX12_next 259 = .ok (.bipush 41, 2) := by decide +kernel
theorem dX12_next_261 : decode cX12_next 261 = .ok (.if_icmp .eq 39, 3) := by decide +kernel
theorem dX12_next_264 : decode cX12_next 264 = .ok (.iload_n 1, 1) := by decide +kernel
theorem dX12_next_265 : decode cX12_next 265 = .ok (.bipush 59, 2) := by decide +kernel
theorem dX12_next_267 : decode cX12_next 267 = .ok (.if_icmp .eq 33, 3) := by decide +kernel
theorem dX12_next_270 : decode cX12_next 270 = .ok (.iload_n 1, 1) := by decide +kernel
theorem dX12_next_271 : decode cX12_next 271 = .ok (.bipush 43, 2) := by decide +kernel
theorem dX12_next_273 : decode cX12_next 273 = .ok (.if_icmp .eq 27, 3) := by decide +kernel
theorem dX12_next_276 : decode cX12_next 276 = .ok (.iload_n 1, 1) := by decide +kernel
theorem dX12_next_277 : decode cX12_next 277 = .ok (.bipush 45, 2) := by decide +kernel
theorem dX12_next_279 : decode cX12_next 279 = .ok (.if_icmp .eq 21, 3) := by decide +kernel
theorem dX12_next_282 : decode cX12_next 282 = .ok (.iload_n 1, 1) := by decide +kernel
theorem dX12_next_283 : decode cX12_next 283 = .ok (.bipush 42, 2) := by decide +kernel
theorem dX12_next_285 : decode cX12_next 285 = .ok (.if_icmp .eq 15, 3) := by decide +kernel
theorem dX12_next_288 : decode cX12_next 288 = .ok (.iload_n 1, 1) := by decide +kernel
theorem dX12_next_289 : decode cX12_next 289 = .ok (.bipush 60, 2) := by decide +kernel
theorem dX12_next_291 : decode cX12_next 291 = .ok (.if_icmp .eq 9, 3) := by decide +kernel
theorem dX12_next_294 : decode cX12_next 294 = .ok (.iload_n 1, 1) := by decide +kernel
theorem dX12_next_295 : decode cX12_next 295 = .ok (.bipush 61, 2) := by decide +kernel
theorem dX12_next_297 : decode cX12_next 297 = .ok (.if_icmp .ne 24, 3) := by decide +kernel
theorem dX12_next_300 : decode cX12_next 300 = .ok (.aload_n 0, 1) := by decide +kernel
theorem dX12_next_301 : decode cX12_next 301 = .ok (.iconst 3, 1) := by decide +kernel
theorem dX12_next_302 : decode cX12_next 302 = .ok (.putfield 164, 3) := by decide +kernel
theorem dX12_next_305 : decode cX12_next 305 = .ok (.aload_n 0, 1) := by decide +kernel
theorem dX12_next_306 : decode cX12_next 306 = .ok (.iload_n 1, 1) := by decide +kernel
theorem dX12_next_307 : decode cX12_next 307 = .ok (.i2l, 1) := by decide +kernel
theorem dX12_next_308 : decode cX12_next 308 = .ok (.putfield 175, 3) := by decide +kernel
theorem dX12_next_311 : decode cX12_next 311 = .ok (.aload_n 0, 1) := by decide +kernel
theorem dX12_next_312 : decode cX12_next 312 = .ok (.dup, 1) := by decide +kernel
theorem dX12_next_313 : decode cX12_next 313 = .ok (.getfield 154, 3) := by decide +kernel
theorem dX12_next_316 : decode cX12_next 316 = .ok (.iconst 1, 1) := by decide +kernel
theorem dX12_next_317 : decode cX12_next 317 = .ok (.iadd, 1) := by decide +kernel
theorem dX12_next_318 : decode cX12_next 318 = .ok (.putfield 154, 3) := by decide +kernel
theorem dX12_next_321 : decode cX12_next 321 = .ok (.return_, 1) := by decide +kernel
theorem dX12_fail_0 : decode cX12_fail 0 = .ok (.aload_n 0, 1) := by decide +kernel
theorem dX12_fail_1 : decode cX12_fail 1 = .ok (.getfield 181, 3) := by decide +kernel
theorem dX12_fail_4 : decode cX12_fail 4 = .ok (.ifCond .ne 16, 3) := by decide +kernel
theorem dX12_fail_7 : decode cX12_fail 7 = .ok (.aload_n 0, 1) := by decide +kernel
theorem dX12_fail_8 : decode cX12_fail 8 = .ok (.iconst 1, 1) := by decide +kernel
theorem dX12_fail_9 : decode cX12_fail 9 = .ok (.putfield 181, 3) := by decide +kernel
theorem dX12_fail_12 : decode cX12_fail 12 = .ok (.aload_n 0, 1) := by decide +kernel
theorem dX12_fail_13 : decode cX12_fail 13 = .ok (.aload_n 0, 1) := by decide +kernel
theorem dX12_fail_14 : decode cX12_fail 14 = .ok (.getfield 161, 3) := by decide +kernel
theorem dX12_fail_17 : decode cX12_fail 17 = .ok (.putfield 185, 3) := by decide +kernel
theorem dX12_fail_20 : decode cX12_fail 20 = .ok (.return_, 1) := by decide +kernel
theorem dX12_isLetter_0 : decode cX12_isLetter 0 = .ok (.aload_n 0, 1) := by decide +kernel
theorem dX12_isLetter_1 : decode cX12_isLetter 1 = .ok (.getfield 161, 3) := by decide +kernel
theorem dX12_isLetter_4 : decode cX12_isLetter 4 = .ok (.iload_n 1, 1) := by decide +kernel
theorem dX12_isLetter_5 : decode cX12_isLetter 5 = .ok (.iadd, 1) := by decide +kernel
theorem dX12_isLetter_6 : decode cX12_isLetter 6 = .ok (.aload_n 0, 1) := by decide +kernel
theorem dX12_isLetter_7 : decode cX12_isLetter 7 = .ok (.getfield 154, 3) := by decide +kernel
theorem dX12_isLetter_10 : decode cX12_isLetter 10 = .ok (.if_icmp .ge 25, 3) := by decide +kernel
theorem dX12_isLetter_13 : decode cX12_isLetter 13 = .ok (.aload_n 0, 1) := by decide +kernel
theorem dX12_isLetter_14 : decode cX12_isLetter 14 = .ok (.aload_n 0, 1) := by decide +kernel
theorem dX12_isLetter_15 : decode cX12_isLetter 15 = .ok (.getfield 161, 3) := by decide +kernel
theorem dX12_isLetter_18 : decode cX12_isLetter 18 = .ok (.iload_n 1, 1) := by decide +kernel
theorem dX12_isLetter_19 : decode cX12_isLetter 19 = .ok (.iadd, 1) := by decide +kernel
theorem dX12_isLetter_20 : decode cX12_isLetter 20 = .ok (.invokevirtual 157, 3) := by decide +kernel
theorem dX12_isLetter_23 : decode cX12_isLetter 23 = .ok (.iload_n 2, 1) := by decide +kernel
theorem dX12_isLetter_24 : decode cX12_isLetter 24 = .ok (.if_icmp .ne 7, 3) := by decide +kernel
theorem dX12_isLetter_27 : decode cX12_isLetter 27 = .ok (.iconst 1, 1) := by decide +kernel
theorem dX12_isLetter_28 : decode cX12_isLetter 28 = .ok (.goto 16, 3) := by decide +kernel
theorem dX12_isLetter_31 : decode cX12_isLetter 31 = .ok (.iconst 0, 1) := by decide +kernel
theorem dX12_isLetter_32 : decode cX12_isLetter 32 = .ok (.goto 12, 3) := by decide +kernel
theorem dX12_isLetter_35 : decode cX12_isLetter 35 = .ok (.iload_n 2, 1) := by decide +kernel
theorem dX12_isLetter_36 : decode cX12_isLetter 36 = .ok (.ifCond .ne 7, 3) := by decide +kernel
theorem dX12_isLetter_39 : decode cX12_isLetter 39 = .ok (.iconst 1, 1) := by decide +kernel
theorem dX12_isLetter_40 : decode cX12_isLetter 40 = .ok (.goto 4, 3) := by decide +kernel
theorem dX12_isLetter_43 : decode cX12_isLetter 43 = .ok (.iconst 0, 1) := by decide +kernel
theorem dX12_isLetter_44 : decode cX12_isLetter 44 = .ok (.ireturn, 1) := by decide +kernel
theorem dX12_isWord_0 : decode cX12_isWord 0 = .ok (.aload_n 0, 1) := by decide +kernel
theorem dX12_isWord_1 : decode cX12_isWord 1 = .ok (.getfield 181, 3) := by decide +kernel
theorem dX12_isWord_4 : decode cX12_isWord 4 = .ok (.ifCond .ne 108, 3) := by decide +kernel
theorem dX12_isWord_7 : decode cX12_isWord 7 = .ok (.aload_n 0, 1) := by decide +kernel
theorem dX12_isWord_8 : decode cX12_isWord 8 = .ok (.getfield 164, 3) := by decide +kernel
theorem dX12_isWord_11 : decode cX12_isWord 11 = .ok (.iconst 1, 1) := by decide +kernel
theorem dX12_isWord_12 : decode cX12_isWord 12 = .ok (.if_icmp .ne 100, 3) := by decide +kernel
theorem dX12_isWord_15 : decode cX12_isWord 15 = .ok (.aload_n 0, 1) := by decide +kernel
theorem dX12_isWord_16 : decode cX12_isWord 16 = .ok (.getfield 154, 3) := by decide +kernel
theorem dX12_isWord_19 : decode cX12_isWord 19 = .ok (.aload_n 0, 1) := by decide +kernel
theorem dX12_isWord_20 : decode cX12_isWord 20 = .ok (.getfield 161, 3) := by decide +kernel
theorem dX12_isWord_23 : decode cX12_isWord 23 = .ok (.bipush 8, 2) := by decide +kernel
theorem dX12_isWord_25 : decode cX12_isWord 25 = .ok (.iadd, 1) := by decide +kernel
theorem dX12_isWord_26 : decode cX12_isWord 26 = .ok (.if_icmp .gt 86, 3) := by decide +kernel
theorem dX12_isWord_29 : decode cX12_isWord 29 = .ok (.aload_n 0, 1) := by decide +kernel
theorem dX12_isWord_30 : decode cX12_isWord 30 = .ok (.iconst 0, 1) := by decide +kernel
theorem dX12_isWord_31 : decode cX12_isWord 31 = .ok (.iload_n 1, 1) := by decide +kernel
theorem dX12_isWord_32 : decode cX12_isWord 32 = .ok (.invokevirtual 188, 3) := by decide +kernel
theorem dX12_isWord_35 : decode cX12_isWord 35 = .ok (.ifCond .eq 77, 3) := by decide +kernel
theorem dX12_isWord_38 : decode cX12_isWord 38 = .ok (.aload_n 0, 1) := by decide +kernel
theorem dX12_isWord_39 : decode cX12_isWord 39 = .ok (.iconst 1, 1) := by decide +kernel
theorem dX12_isWord_40 : decode cX12_isWord 40 = .ok (.iload_n 2, 1) := by decide +kernel
theorem dX12_isWord_41 : decode cX12_isWord 41 = .ok (.invokevirtual 188, 3) := by decide +kernel
theorem dX12_isWord_44 : decode cX12_isWord 44 = .ok (.ifCond .eq 68, 3) := by decide +kernel
theorem dX12_isWord_47 : decode cX12_isWord 47 = .ok (.aload_n 0, 1) := by decide +kernel
theorem dX12_isWord_48 : decode cX12_isWord 48 = .ok (.iconst 2, 1) := by decide +kernel
theorem dX12_isWord_49 : decode cX12_isWord 49 = .ok (.iload_n 3, 1) := by decide +kernel
theorem dX12_isWord_50 : decode cX12_isWord 50 = .ok (.invokevirtual 188, 3) := by decide +kernel
theorem dX12_isWord_53 : decode cX12_isWord 53 = .ok (.ifCond .eq 59, 3) := by decide +kernel
theorem dX12_isWord_56 : decode cX12_isWord 56 = .ok (.aload_n 0, 1) := by decide +kernel
theorem dX12_isWord_57 : decode cX12_isWord 57 = .ok (.iconst 3, 1) := by decide +kernel
theorem dX12_isWord_58 : decode cX12_isWord 58 = .ok (.iload 4, 2) := by decide +kernel
theorem dX12_isWord_60 : decode cX12_isWord 60 = .ok (.invokevirtual 188, 3) := by decide +kernel
theorem dX12_isWord_63 : decode cX12_isWord 63 = .ok (.ifCond .eq 49, 3) := by decide +kernel
theorem dX12_isWord_66 : decode cX12_isWord 66 = .ok (.aload_n 0, 1) := by decide +kernel
theorem dX12_isWord_67 : decode cX12_isWord 67 = .ok (.iconst 4, 1) := by decide +kernel
theorem dX12_isWord_68 : decode cX12_isWord 68 = .ok (.iload 5, 2) := by decide +kernel
theorem dX12_isWord_70 : decode cX12_isWord 70 = .ok (.invokevirtual 188, 3) := by decide +kernel
theorem dX12_isWord_73 : decode cX12_isWord 73 = .ok (.ifCond .eq 39, 3) := by decide +kernel
theorem dX12_isWord_76 : decode cX12_isWord 76 = .ok (.aload_n 0, 1) := by decide +kernel
theorem dX12_isWord_77 : decode cX12_isWord 77 = .ok (.iconst 5, 1) := by decide +kernel
theorem dX12_isWord_78 : decode cX12_isWord 78 = .ok (.iload 6, 2) := by decide +kernel
theorem dX12_isWord_80 : decode cX12_isWord 80 = .ok (.invokevirtual 188, 3) := by decide +kernel
theorem dX12_isWord_83 : decode cX12_isWord 83 = .ok (.ifCond .eq 29, 3) := by decide +kernel
theorem dX12_isWord_86 : decode cX12_isWord 86 = .ok (.aload_n 0, 1) := by decide +kernel
theorem dX12_isWord_87 : decode cX12_isWord 87 = .ok (.bipush 6, 2) := by decide +kernel
theorem dX12_isWord_89 : decode cX12_isWord 89 = .ok (.iload 7, 2) := by decide +kernel
theorem dX12_isWord_91 : decode cX12_isWord 91 = .ok (.invokevirtual 188, 3) := by decide +kernel
theorem dX12_isWord_94 : decode cX12_isWord 94 = .ok (.ifCond .eq 18, 3) := by decide +kernel
theorem dX12_isWord_97 : decode cX12_isWord 97 = .ok (.aload_n 0, 1) := by decide +kernel
theorem dX12_isWord_98 : decode cX12_isWord 98 = .ok (.bipush 7, 2) := by decide +kernel
theorem dX12_isWord_100 : decode cX12_isWord 100 = .ok (.iload 8, 2) := by decide +kernel
theorem dX12_isWord_102 : decode cX12_isWord 102 = .ok (.invokevirtual 188, 3) := by decide +kernel
theorem dX12_isWord_105 : decode cX12_isWord 105 = .ok (.ifCond .eq 7, 3) := by decide +kernel
theorem dX12_isWord_108 : decode cX12_isWord 108 = .ok (.iconst 1, 1) := by decide +kernel
theorem dX12_isWord_109 : decode cX12_isWord 109 = .ok (.goto 4, 3) := by decide +kernel
theorem dX12_isWord_112 : decode cX12_isWord 112 = .ok (.iconst 0, 1) := by decide +kernel
theorem dX12_isWord_113 : decode cX12_isWord 113 = .ok (.ireturn, 1) := by decide +kernel
theorem dX12_isSign_0 : decode cX12_isSign 0 = .ok (.aload_n 0, 1) := by decide +kernel
theorem dX12_isSign_1 : decode cX12_isSign 1 = .ok (.getfield 181, 3) := by decide +kernel
theorem dX12_isSign_4 : decode cX12_isSign 4 = .ok (.ifCond .ne 25, 3) := by decide +kernel
theorem dX12_isSign_7 : decode cX12_isSign 7 = .ok (.aload_n 0, 1) := by decide +kernel
theorem dX12_isSign_8 : decode cX12_isSign 8 = .ok (.getfield 164, 3) := by decide +kernel
theorem dX12_isSign_11 : decode cX12_isSign 11 = .ok (.iconst 3, 1) := by decide +kernel
theorem dX12_isSign_12 : decode cX12_isSign 12 = .ok (.if_icmp .ne 17, 3) := by decide +kernel
theorem dX12_isSign_15 : decode cX12_isSign 15 = .ok (.aload_n 0, 1) := by decide +kernel
theorem dX12_isSign_16 : decode cX12_isSign 16 = .ok (.getfield 175, 3) := by decide +kernel
theorem dX12_isSign_19 : decode cX12_isSign 19 = .ok (.iload_n 1, 1) := by decide +kernel
theorem dX12_isSign_20 : decode cX12_isSign 20 = .ok (.i2l, 1) := by decide +kernel
theorem dX12_isSign_21 : decode cX12_isSign 21 = .ok (.lcmp, 1) := by decide +kernel
theorem dX12_isSign_22 : decode cX12_isSign 22 = .ok (.ifCond .ne 7, 3) := by decide +kernel
theorem dX12_isSign_25 : decode cX12_isSign 25 = .ok (.iconst 1, 1) := by decide +kernel
theorem dX12_isSign_26 : decode cX12_isSign 26 = .ok (.goto 4, 3) := by decide +kernel
theorem dX12_isSign_29 : decode cX12_isSign 29 = .ok (.iconst 0, 1) := by decide +kernel
theorem dX12_isSign_30 : decode cX12_isSign 30 = .ok (.ireturn, 1) := by decide +kernel
theorem dX12_opens_0 : decode cX12_opens 0 = .ok (.aload_n 0, 1) := by decide +kernel
theorem dX12_opens_1 : decode cX12_opens 1 = .ok (.getfield 191, 3) := by decide +kernel
theorem dX12_opens_4 : decode cX12_opens 4 = .ok (.iconst 5, 1) := by decide +kernel
theorem dX12_opens_5 : decode cX12_opens 5 = .ok (.if_icmp .ne 9, 3) := by decide +kernel
theorem dX12_opens_8 : decode cX12_opens 8 = .ok (.aload_n 0, 1) := by decide +kernel
theorem dX12_opens_9 : decode cX12_opens 9 = .ok (.invokevirtual 194, 3) := by decide +kernel
theorem dX12_opens_12 : decode cX12_opens 12 = .ok (.iconst 0, 1) := by decide +kernel
theorem dX12_opens_13 : decode cX12_opens 13 = .ok (.ireturn, 1) := by decide +kernel
theorem dX12_opens_14 : decode cX12_opens 14 = .ok (.aload_n 0, 1) := by decide +kernel
theorem dX12_opens_15 : decode cX12_opens 15 = .ok (.dup, 1) := by decide +kernel
theorem dX12_opens_16 : decode cX12_opens 16 = .ok (.getfield 191, 3) := by decide +kernel
theorem dX12_opens_19 : decode cX12_opens 19 = .ok (.iconst 1, 1) := by decide +kernel
theorem dX12_opens_20 : decode cX12_opens 20 = .ok (.iadd, 1) := by decide +kernel
theorem dX12_opens_21 : decode cX12_opens 21 = .ok (.putfield 191, 3) := by decide +kernel
theorem dX12_opens_24 : decode cX12_opens 24 = .ok (.aload_n 0, 1) := by decide +kernel
theorem dX12_opens_25 : decode cX12_opens 25 = .ok (.invokevirtual 197, 3) := by decide +kernel
theorem dX12_opens_28 : decode cX12_opens 28 = .ok (.iconst 1, 1) := by decide +kernel
theorem dX12_opens_29 : decode cX12_opens 29 = .ok (.ireturn, 1) := by decide +kernel
theorem dX12_name_0 : decode cX12_name 0 = .ok (.aload_n 0, 1) := by decide +kernel
theorem dX12_name_1 : decode cX12_name 1 = .ok (.bipush 116, 2) := by decide +kernel
theorem dX12_name_3 : decode cX12_name 3 = .ok (.bipush 104, 2) := by decide +kernel
theorem dX12_name_5 : decode cX12_name 5 = .ok (.bipush 105, 2) := by decide +kernel
theorem dX12_name_7 : decode cX12_name 7 = .ok (.bipush 110, 2) := by decide +kernel
theorem dX12_name_9 : decode cX12_name 9 = .ok (.bipush 103, 2) := by decide +kernel
theorem dX12_name_11 : decode cX12_name 11 = .ok (.iconst 0, 1) := by decide +kernel
theorem dX12_name_12 : decode cX12_name 12 = .ok (.iconst 0, 1) := by decide +kernel
theorem dX12_name_13 : decode cX12_name 13 = .ok (.iconst 0, 1) := by decide +kernel
theorem dX12_name_14 : decode cX12_name 14 = .ok (.invokevirtual 200, 3) := by decide +kernel
theorem dX12_name_17 : decode cX12_name 17 = .ok (.ifCond .eq 8, 3) := by decide +kernel
theorem dX12_name_20 : decode cX12_name 20 = .ok (.aload_n 0, 1) := by decide +kernel
theorem dX12_name_21 : decode cX12_name 21 = .ok (.getfield 204, 3) := by decide +kernel
theorem dX12_name_24 : decode cX12_name 24 = .ok (.ireturn, 1) := by decide +kernel
theorem dX12_name_25 : decode cX12_name 25 = .ok (.aload_n 0, 1) := by decide +kernel
theorem dX12_name_26 : decode cX12_name 26 = .ok (.bipush 112, 2) := by decide +kernel
theorem dX12_name_28 : decode cX12_name 28 = .ok (.bipush 108, 2) := by decide +kernel
theorem dX12_name_30 : decode cX12_name 30 = .ok (.bipush 97, 2) := by decide +kernel
theorem dX12_name_32 : decode cX12_name 32 = .ok (.bipush 99, 2) := by decide +kernel
theorem dX12_name_34 : decode cX12_name 34 = .ok (.bipush 101, 2) := by decide +kernel
theorem dX12_name_36 : decode cX12_name 36 = .ok (.iconst 0, 1) := by decide +kernel
theorem dX12_name_37 : decode cX12_name 37 = .ok (.iconst 0, 1) := by decide +kernel
theorem dX12_name_38 : decode cX12_name 38 = .ok (.iconst 0, 1) := by decide +kernel
theorem dX12_name_39 : decode cX12_name 39 = .ok (.invokevirtual 200, 3) := by decide +kernel
theorem dX12_name_42 : decode cX12_name 42 = .ok (.ifCond .eq 8, 3) := by decide +kernel
theorem dX12_name_45 : decode cX12_name 45 = .ok (.aload_n 0, 1) := by decide +kernel
theorem dX12_name_46 : decode cX12_name 46 = .ok (.getfield 207, 3) := by decide +kernel
theorem dX12_name_49 : decode cX12_name 49 = .ok (.ireturn, 1) := by decide +kernel
theorem dX12_name_50 : decode cX12_name 50 = .ok (.aload_n 0, 1) := by decide +kernel
theorem dX12_name_51 : decode cX12_name 51 = .ok (.bipush 103, 2) := by decide +kernel
theorem dX12_name_53 : decode cX12_name 53 = .ok (.bipush 105, 2) := by decide +kernel
theorem dX12_name_55 : decode cX12_name 55 = .ok (.bipush 118, 2) := by decide +kernel
theorem dX12_name_57 : decode cX12_name 57 = .ok (.bipush 101, 2) := by decide +kernel
theorem dX12_name_59 : decode cX12_name 59 = .ok (.bipush 114, 2) := by decide +kernel
theorem dX12_name_61 : decode cX12_name 61 = .ok (.iconst 0, 1) := by decide +kernel
theorem dX12_name_62 : decode cX12_name 62 = .ok (.iconst 0, 1) := by decide +kernel
theorem dX12_name_63 : decode cX12_name 63 = .ok (.iconst 0, 1) := by decide +kernel
theorem dX12_name_64 : decode cX12_name 64 = .ok (.invokevirtual 200, 3) := by decide +kernel
theorem dX12_name_67 : decode cX12_name 67 = .ok (.ifCond .eq 8, 3) := by decide +kernel
theorem dX12_name_70 : decode cX12_name 70 = .ok (.aload_n 0, 1) := by decide +kernel
theorem dX12_name_71 : decode cX12_name 71 = .ok (.getfield 210, 3) := by decide +kernel
theorem dX12_name_74 : decode cX12_name 74 = .ok (.ireturn, 1) := by decide +kernel
theorem dX12_name_75 : decode cX12_name 75 = .ok (.aload_n 0, 1) := by decide +kernel
theorem dX12_name_76 : decode cX12_name 76 = .ok (.bipush 103, 2) := by decide +kernel
theorem dX12_name_78 : decode cX12_name 78 = .ok (.bipush 117, 2) := by decide +kernel
theorem dX12_name_80 : decode cX12_name 80 = .ok (.bipush 101, 2) := by decide +kernel
theorem dX12_name_82 : decode cX12_name 82 = .ok (.bipush 115, 2) := by decide +kernel
theorem dX12_name_84 : decode cX12_name 84 = .ok (.bipush 116, 2) := by decide +kernel
theorem dX12_name_86 : decode cX12_name 86 = .ok (.bipush 115, 2) := by decide +kernel
theorem dX12_name_88 : decode cX12_name 88 = .ok (.iconst 0, 1) := by decide +kernel
theorem dX12_name_89 : decode cX12_name 89 = .ok (.iconst 0, 1) := by decide +kernel
theorem dX12_name_90 : decode cX12_name 90 = .ok (.invokevirtual 200, 3) := by decide +kernel
theorem dX12_name_93 : decode cX12_name 93 = .ok (.ifCond .eq 8, 3) := by decide +kernel
theorem dX12_name_96 : decode cX12_name 96 = .ok (.aload_n 0, 1) := by decide +kernel
theorem dX12_name_97 : decode cX12_name 97 = .ok (.getfield 213, 3) := by decide +kernel
theorem dX12_name_100 : decode cX12_name 100 = .ok (.ireturn, 1) := by decide +kernel
theorem dX12_name_101 : decode cX12_name 101 = .ok (.aload_n 0, 1) := by decide +kernel
theorem dX12_name_102 : decode cX12_name 102 = .ok (.bipush 108, 2) := by decide +kernel
theorem dX12_name_104 : decode cX12_name 104 = .ok (.bipush 111, 2) := by decide +kernel
theorem dX12_name_106 : decode cX12_name 106 = .ok (.bipush 111, 2) := by decide +kernel
theorem dX12_name_108 : decode cX12_name 108 = .ok (.bipush 107, 2) := by decide +kernel
theorem dX12_name_110 : decode cX12_name 110 = .ok (.iconst 0, 1) := by decide +kernel
theorem dX12_name_111 : decode cX12_name 111 = .ok (.iconst 0, 1) := by decide +kernel
theorem dX12_name_112 : decode cX12_name 112 = .ok (.iconst 0, 1) := by decide +kernel
theorem dX12_name_113 : decode cX12_name 113 = .ok (.iconst 0, 1) := by decide +kernel
theorem dX12_name_114 : decode cX12_name 114 = .ok (.invokevirtual 200, 3) := by decide +kernel
theorem dX12_name_117 : decode cX12_name 117 = .ok (.ifCond .eq 8, 3) := by decide +kernel
theorem dX12_name_120 : decode cX12_name 120 = .ok (.aload_n 0, 1) := by decide +kernel
theorem dX12_name_121 : decode cX12_name 121 = .ok (.getfield 216, 3) := by decide +kernel
theorem dX12_name_124 : decode cX12_name 124 = .ok (.ireturn, 1) := by decide +kernel
theorem dX12_name_125 : decode cX12_name 125 = .ok (.aload_n 0, 1) := by decide +kernel
theorem dX12_name_126 : decode cX12_name 126 = .ok (.bipush 110, 2) := by decide +kernel
theorem dX12_name_128 : decode cX12_name 128 = .ok (.bipush 117, 2) := by decide +kernel
theorem dX12_name_130 : decode cX12_name 130 = .ok (.bipush 109, 2) := by decide +kernel
theorem dX12_name_132 : decode cX12_name 132 = .ok (.bipush 98, 2) := by decide +kernel
theorem dX12_name_134 : decode cX12_name 134 = .ok (.bipush 101, 2) := by decide +kernel
theorem dX12_name_136 : decode cX12_name 136 = .ok (.bipush 114, 2) := by decide +kernel
theorem dX12_name_138 : decode cX12_name 138 = .ok (.iconst 0, 1) := by decide +kernel
theorem dX12_name_139 : decode cX12_name 139 = .ok (.iconst 0, 1) := by decide +kernel
theorem dX12_name_140 : decode cX12_name 140 = .ok (.invokevirtual 200, 3) := by decide +kernel
theorem dX12_name_143 : decode cX12_name 143 = .ok (.ifCond .eq 8, 3) := by decide +kernel
theorem dX12_name_146 : decode cX12_name 146 = .ok (.aload_n 0, 1) := by decide +kernel
theorem dX12_name_147 : decode cX12_name 147 = .ok (.getfield 219, 3) := by decide +kernel
theorem dX12_name_150 : decode cX12_name 150 = .ok (.ireturn, 1) := by decide +kernel
theorem dX12_name_151 : decode cX12_name 151 = .ok (.aload_n 0, 1) := by decide +kernel
theorem dX12_name_152 : decode cX12_name 152 = .ok (.invokevirtual 194, 3) := by decide +kernel
theorem dX12_name_155 : decode cX12_name 155 = .ok (.iconst 0, 1) := by decide +kernel
theorem dX12_name_156 : decode cX12_name 156 = .ok (.ireturn, 1) := by decide +kernel
theorem dX12_atom_0 : decode cX12_atom 0 = .ok (.iconst 0, 1) := by decide +kernel
theorem dX12_atom_1 : decode cX12_atom 1 = .ok (.istore_n 1, 1) := by decide +kernel
theorem dX12_atom_2 : decode cX12_atom 2 = .ok (.aload_n 0, 1) := by decide +kernel
theorem dX12_atom_3 : decode cX12_atom 3 = .ok (.bipush 45, 2) := by decide +kernel
theorem dX12_atom_5 : decode cX12_atom 5 = .ok (.invokevirtual 222, 3) := by decide +kernel
theorem dX12_atom_8 : decode cX12_atom 8 = .ok (.ifCond .eq 29, 3) := by decide +kernel
theorem dX12_atom_11 : decode cX12_atom 11 = .ok (.aload_n 0, 1) := by decide +kernel
theorem dX12_atom_12 : decode cX12_atom 12 = .ok (.invokevirtual 225, 3) := by decide +kernel
theorem dX12_atom_15 : decode cX12_atom 15 = .ok (.ifCond .eq 146, 3) := by decide +kernel
theorem dX12_atom_18 : decode cX12_atom 18 = .ok (.aload_n 0, 1) := by decide +kernel
theorem dX12_atom_19 : decode cX12_atom 19 = .ok (.invokevirtual 229, 3) := by decide +kernel
theorem dX12_atom_22 : decode cX12_atom 22 = .ok (.ineg, 1) := by decide +kernel
theorem dX12_atom_23 : decode cX12_atom 23 = .ok (.istore_n 1, 1) := by decide +kernel
theorem dX12_atom_24 : decode cX12_atom 24 = .ok (.aload_n 0, 1) := by decide +kernel
theorem dX12_atom_25 : decode cX12_atom 25 = .ok (.dup, 1) := by decide +kernel
theorem dX12_atom_26 : decode cX12_atom 26 = .ok (.getfield 191, 3) := by decide +kernel
theorem dX12_atom_29 : decode cX12_atom 29 = .ok (.iconst 1, 1) := by decide +kernel
theorem dX12_atom_30 : decode cX12_atom 30 = .ok (.isub, 1) := by decide +kernel
theorem dX12_atom_31 : decode cX12_atom 31 = .ok (.putfield 191, 3) := by decide +kernel
theorem dX12_atom_34 : decode cX12_atom 34 = .ok (.goto 127, 3) := by decide +kernel
theorem dX12_atom_37 : decode cX12_atom 37 = .ok (.aload_n 0, 1) := by decide +kernel
theorem dX12_atom_38 : decode cX12_atom 38 = .ok (.bipush 40, 2) := by decide +kernel
theorem dX12_atom_40 : decode cX12_atom 40 = .ok (.invokevirtual 222, 3) := by decide +kernel
theorem dX12_atom_43 : decode cX12_atom 43 = .ok (.ifCond .eq 52, 3) := by decide +kernel
theorem dX12_atom_46 : decode cX12_atom 46 = .ok (.aload_n 0, 1) := by decide +kernel
theorem dX12_atom_47 : decode cX12_atom 47 = .ok (.invokevirtual 225, 3) := by decide +kernel
theorem dX12_atom_50 : decode cX12_atom 50 = .ok (.ifCond .eq 111, 3) := by decide +kernel
theorem dX12_atom_53 : decode cX12_atom 53 = .ok (.aload_n 0, 1) := by decide +kernel
theorem dX12_atom_54 : decode cX12_atom 54 = .ok (.invokevirtual 233, 3) := by decide +kernel
theorem dX12_atom_57 : decode cX12_atom 57 = .ok (.istore_n 1, 1) := by decide +kernel
theorem dX12_atom_58 : decode cX12_atom 58 = .ok (.aload_n 0, 1) := by decide +kernel
theorem dX12_atom_59 : decode cX12_atom 59 = .ok (.bipush 41, 2) := by decide +kernel
theorem dX12_atom_61 : decode cX12_atom 61 = .ok (.invokevirtual 222, 3) := by decide +kernel
theorem dX12_atom_64 : decode cX12_atom 64 = .ok (.ifCond .ne 7, 3) := by decide +kernel
theorem dX12_atom_67 : decode cX12_atom 67 = .ok (.aload_n 0, 1) := by decide +kernel
theorem dX12_atom_68 : decode cX12_atom 68 = .ok (.invokevirtual 194, 3) := by decide +kernel
theorem dX12_atom_71 : decode cX12_atom 71 = .ok (.aload_n 0, 1) := by decide +kernel
theorem dX12_atom_72 : decode cX12_atom 72 = .ok (.dup, 1) := by decide +kernel
theorem dX12_atom_73 : decode cX12_atom 73 = .ok (.getfield 191, 3) := by decide +kernel
theorem dX12_atom_76 : decode cX12_atom 76 = .ok (.iconst 1, 1) := by decide +kernel
theorem dX12_atom_77 : decode cX12_atom 77 = .ok (.isub, 1) := by decide +kernel
theorem dX12_atom_78 : decode cX12_atom 78 = .ok (.putfield 191, 3) := by decide +kernel
theorem dX12_atom_81 : decode cX12_atom 81 = .ok (.aload_n 0, 1) := by decide +kernel
theorem dX12_atom_82 : decode cX12_atom 82 = .ok (.getfield 181, 3) := by decide +kernel
theorem dX12_atom_85 : decode cX12_atom 85 = .ok (.ifCond .ne 76, 3) := by decide +kernel
theorem dX12_atom_88 : decode cX12_atom 88 = .ok (.aload_n 0, 1) := by decide +kernel
theorem dX12_atom_89 : decode cX12_atom 89 = .ok (.invokevirtual 197, 3) := by decide +kernel
theorem dX12_atom_92 : decode cX12_atom 92 = .ok (.goto 69, 3) := by decide +kernel
theorem dX12_atom_95 : decode cX12_atom 95 = .ok (.aload_n 0, 1) := by decide +kernel
theorem dX12_atom_96 : decode cX12_atom 96 = .ok (.getfield 181, 3) := by decide +kernel
theorem dX12_atom_99 : decode cX12_atom 99 = .ok (.ifCond .ne 24, 3) := by decide +kernel
theorem dX12_atom_102 : decode cX12_atom 102 = .ok (.aload_n 0, 1) := by decide +kernel
theorem dX12_atom_103 : decode cX12_atom 103 = .ok (.getfield 164, 3) := by decide +kernel
theorem dX12_atom_106 : decode cX12_atom 106 = .ok (.iconst 2, 1) := by decide +kernel
theorem dX12_atom_107 : decode cX12_atom 107 = .ok (.if_icmp .ne 16, 3) := by decide +kernel
theorem dX12_atom_110 : decode cX12_atom 110 = .ok (.aload_n 0, 1) := by decide +kernel
theorem dX12_atom_111 : decode cX12_atom 111 = .ok (.getfield 175, 3) := by decide +kernel
theorem dX12_atom_114 : decode cX12_atom 114 = .ok (.l2i, 1) := by decide +kernel
theorem dX12_atom_115 : decode cX12_atom 115 = .ok (.istore_n 1, 1) := by decide +kernel
theorem dX12_atom_116 : decode cX12_atom 116 = .ok (.aload_n 0, 1) := by decide +kernel
theorem dX12_atom_117 : decode cX12_atom 117 = .ok (.invokevirtual 197, 3) := by decide +kernel
theorem dX12_atom_120 : decode cX12_atom 120 = .ok (.goto 41, 3) := by decide +kernel
theorem dX12_atom_123 : decode cX12_atom 123 = .ok (.aload_n 0, 1) := by decide +kernel
theorem dX12_atom_124 : decode cX12_atom 124 = .ok (.getfield 181, 3) := by decide +kernel
theorem dX12_atom_127 : decode cX12_atom 127 = .ok (.ifCond .ne 30, 3) := by decide +kernel
theorem dX12_atom_130 : decode cX12_atom 130 = .ok (.aload_n 0, 1) := by decide +kernel
theorem dX12_atom_131 : decode cX12_atom 131 = .ok (.getfield 164, 3) := by decide +kernel
theorem dX12_atom_134 : decode cX12_atom 134 = .ok (.iconst 1, 1) := by decide +kernel
theorem dX12_atom_135 : decode cX12_atom 135 = .ok (.if_icmp .ne 22, 3) := by decide +kernel
theorem dX12_atom_138 : decode cX12_atom 138 = .ok (.aload_n 0, 1) := by decide +kernel
theorem dX12_atom_139 : decode cX12_atom 139 = .ok (.invokevirtual 236, 3) := by decide +kernel
theorem dX12_atom_142 : decode cX12_atom 142 = .ok (.istore_n 1, 1) := by decide +kernel
theorem dX12_atom_143 : decode cX12_atom 143 = .ok (.aload_n 0, 1) := by decide +kernel
theorem dX12_atom_144 : decode cX12_atom 144 = .ok (.getfield 181, 3) := by decide +kernel
theorem dX12_atom_147 : decode cX12_atom 147 = .ok (.ifCond .ne 14, 3) := by decide +kernel
theorem dX12_atom_150 : decode cX12_atom 150 = .ok (.aload_n 0, 1) := by decide +kernel
theorem dX12_atom_151 : decode cX12_atom 151 = .ok (.invokevirtual 197, 3) := by decide +kernel
theorem dX12_atom_154 : decode cX12_atom 154 = .ok (.goto 7, 3) := by decide +kernel
theorem dX12_atom_157 : decode cX12_atom 157 = .ok (.aload_n 0, 1) := by decide +kernel
theorem dX12_atom_158 : decode cX12_atom 158 = .ok (.invokevirtual 194, 3) := by decide +kernel
theorem dX12_atom_161 : decode cX12_atom 161 = .ok (.iload_n 1, 1) := by decide +kernel
theorem dX12_atom_162 : decode cX12_atom 162 = .ok (.ireturn, 1) := by decide +kernel
theorem dX12_term_0 : decode cX12_term 0 = .ok (.aload_n 0, 1) := by decide +kernel
theorem dX12_term_1 : decode cX12_term 1 = .ok (.invokevirtual 229, 3) := by decide +kernel
theorem dX12_term_4 : decode cX12_term 4 = .ok (.istore_n 1, 1) := by decide +kernel
theorem dX12_term_5 : decode cX12_term 5 = .ok (.aload_n 0, 1) := by decide +kernel
theorem dX12_term_6 : decode cX12_term 6 = .ok (.bipush 42, 2) := by decide +kernel
theorem dX12_term_8 : decode cX12_term 8 = .ok (.invokevirtual 222, 3) := by decide +kernel
theorem dX12_term_11 : decode cX12_term 11 = .ok (.ifCond .eq 17, 3) := by decide +kernel
theorem dX12_term_14 : decode cX12_term 14 = .ok (.aload_n 0, 1) := by decide +kernel
theorem dX12_term_15 : decode cX12_term 15 = .ok (.invokevirtual 197, 3) := by decide +kernel
theorem dX12_term_18 : decode cX12_term 18 = .ok (.iload_n 1, 1) := by decide +kernel
theorem dX12_term_19 : decode cX12_term 19 = .ok (.aload_n 0, 1) := by decide +kernel
theorem dX12_term_20 : decode cX12_term 20 = .ok (.invokevirtual 229, 3) := by decide +kernel
theorem dX12_term_23 : decode cX12_term 23 = .ok (.imul, 1) := by decide +kernel
theorem dX12_term_24 : decode cX12_term 24 = .ok (.istore_n 1, 1) := by decide +kernel
theorem dX12_term_25 : decode cX12_term 25 = .ok (.goto (-20), 3) := by decide +kernel
theorem dX12_term_28 : decode cX12_term 28 = .ok (.iload_n 1, 1) := by decide +kernel
theorem dX12_term_29 : decode cX12_term 29 = .ok (.ireturn, 1) := by decide +kernel
theorem dX12_added_0 : decode cX12_added 0 = .ok (.aload_n 0, 1) := by decide +kernel
theorem dX12_added_1 : decode cX12_added 1 = .ok (.invokevirtual 239, 3) := by decide +kernel
theorem dX12_added_4 : decode cX12_added 4 = .ok (.istore_n 1, 1) := by decide +kernel
theorem dX12_added_5 : decode cX12_added 5 = .ok (.aload_n 0, 1) := by decide +kernel
theorem dX12_added_6 : decode cX12_added 6 = .ok (.bipush 43, 2) := by decide +kernel
theorem dX12_added_8 : decode cX12_added 8 = .ok (.invokevirtual 222, 3) := by decide +kernel
theorem dX12_added_11 : decode cX12_added 11 = .ok (.ifCond .ne 12, 3) := by decide +kernel
theorem dX12_added_14 : decode cX12_added 14 = .ok (.aload_n 0, 1) := by decide +kernel
theorem dX12_added_15 : decode cX12_added 15 = .ok (.bipush 45, 2) := by decide +kernel
theorem dX12_added_17 : decode cX12_added 17 = .ok (.invokevirtual 222, 3) := by decide +kernel
theorem dX12_added_20 : decode cX12_added 20 = .ok (.ifCond .eq 46, 3) := by decide +kernel
theorem dX12_added_23 : decode cX12_added 23 = .ok (.aload_n 0, 1) := by decide +kernel
theorem dX12_added_24 : decode cX12_added 24 = .ok (.getfield 175, 3) := by decide +kernel
theorem dX12_added_27 : decode cX12_added 27 = .ok (.ldc2_w 242, 3) := by decide +kernel
theorem dX12_added_30 : decode cX12_added 30 = .ok (.lcmp, 1) := by decide +kernel
theorem dX12_added_31 : decode cX12_added 31 = .ok (.ifCond .ne 7, 3) := by decide +kernel
theorem dX12_added_34 : decode cX12_added 34 = .ok (.iconst 1, 1) := by decide +kernel
theorem dX12_added_35 : decode cX12_added 35 = .ok (.goto 4, 3) := by decide +kernel
theorem dX12_added_38 : decode cX12_added 38 = .ok (.iconst 0, 1) := by decide +kernel
theorem dX12_added_39 : decode cX12_added 39 = .ok (.istore_n 2, 1) := by decide +kernel
theorem dX12_added_40 : decode cX12_added 40 = .ok (.aload_n 0, 1) := by decide +kernel
theorem dX12_added_41 : decode cX12_added 41 = .ok (.invokevirtual 197, 3) := by decide +kernel
theorem dX12_added_44 : decode cX12_added 44 = .ok (.aload_n 0, 1) := by decide +kernel
theorem dX12_added_45 : decode cX12_added 45 = .ok (.invokevirtual 239, 3) := by decide +kernel
theorem dX12_added_48 : decode cX12_added 48 = .ok (.istore_n 3, 1) := by decide +kernel
theorem dX12_added_49 : decode cX12_added 49 = .ok (.iload_n 2, 1) := by decide +kernel
theorem dX12_added_50 : decode cX12_added 50 = .ok (.ifCond .eq 9, 3) := by decide +kernel
theorem dX12_added_53 : decode cX12_added 53 = .ok (.iload_n 1, 1) := by decide +kernel
theorem dX12_added_54 : decode cX12_added 54 = .ok (.iload_n 3, 1) := by decide +kernel
theorem dX12_added_55 : decode cX12_added 55 = .ok (.iadd, 1) := by decide +kernel
theorem dX12_added_56 : decode cX12_added 56 = .ok (.goto 6, 3) := by decide +kernel
theorem dX12_added_59 : decode cX12_added 59 = .ok (.iload_n 1, 1) := by decide +kernel
theorem dX12_added_60 : decode cX12_added 60 = .ok (.iload_n 3, 1) := by decide +kernel
theorem dX12_added_61 : decode cX12_added 61 = .ok (.isub, 1) := by decide +kernel
theorem dX12_added_62 : decode cX12_added 62 = .ok (.istore_n 1, 1) := by decide +kernel
theorem dX12_added_63 : decode cX12_added 63 = .ok (.goto (-58), 3) := by decide +kernel
theorem dX12_added_66 : decode cX12_added 66 = .ok (.iload_n 1, 1) := by decide +kernel
theorem dX12_added_67 : decode cX12_added 67 = .ok (.ireturn, 1) := by decide +kernel
theorem dX12_not_0 : decode cX12_not 0 = .ok (.aload_n 0, 1) := by decide +kernel
theorem dX12_not_1 : decode cX12_not 1 = .ok (.bipush 110, 2) := by decide +kernel
theorem dX12_not_3 : decode cX12_not 3 = .ok (.bipush 111, 2) := by decide +kernel
theorem dX12_not_5 : decode cX12_not 5 = .ok (.bipush 116, 2) := by decide +kernel
theorem dX12_not_7 : decode cX12_not 7 = .ok (.iconst 0, 1) := by decide +kernel
theorem dX12_not_8 : decode cX12_not 8 = .ok (.iconst 0, 1) := by decide +kernel
theorem dX12_not_9 : decode cX12_not 9 = .ok (.iconst 0, 1) := by decide +kernel
theorem dX12_not_10 : decode cX12_not 10 = .ok (.iconst 0, 1) := by decide +kernel
theorem dX12_not_11 : decode cX12_not 11 = .ok (.iconst 0, 1) := by decide +kernel
theorem dX12_not_12 : decode cX12_not 12 = .ok (.invokevirtual 200, 3) := by decide +kernel
