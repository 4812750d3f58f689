theorem dX8_count_73 : decode cX8_count 73 = .ok (.ireturn, 1) := by decide +kernel
theorem dX8_count_74 : decode cX8_count 74 = .ok (.aload_n 0, 1) := by decide +kernel
theorem dX8_count_75 : decode cX8_count 75 = .ok (.getfield 39, 3) := by decide +kernel
theorem dX8_count_78 : decode cX8_count 78 = .ok (.getfield 166, 3) := by decide +kernel
theorem dX8_count_81 : decode cX8_count 81 = .ok (.ireturn, 1) := by decide +kernel
theorem dX8_count_82 : decode cX8_count 82 = .ok (.aload_n 0, 1) := by decide +kernel
theorem dX8_count_83 : decode cX8_count 83 = .ok (.getfield 57, 3) := by decide +kernel
theorem dX8_count_86 : decode cX8_count 86 = .ok (.invokevirtual 281, 3) := by decide +kernel
theorem dX8_count_89 : decode cX8_count 89 = .ok (.ireturn, 1) := by decide +kernel
theorem dX8_count_90 : decode cX8_count 90 = .ok (.aload_n 0, 1) := by decide +kernel
theorem dX8_count_91 : decode cX8_count 91 = .ok (.getfield 16, 3) := by decide +kernel
theorem dX8_count_94 : decode cX8_count 94 = .ok (.invokevirtual 284, 3) := by decide +kernel
theorem dX8_count_97 : decode cX8_count 97 = .ok (.ireturn, 1) := by decide +kernel
theorem dX8_count_98 : decode cX8_count 98 = .ok (.aload_n 0, 1) := by decide +kernel
theorem dX8_count_99 : decode cX8_count 99 = .ok (.getfield 32, 3) := by decide +kernel
theorem dX8_count_102 : decode cX8_count 102 = .ok (.invokevirtual 287, 3) := by decide +kernel
theorem dX8_count_105 : decode cX8_count 105 = .ok (.ireturn, 1) := by decide +kernel
theorem dX8_count_106 : decode cX8_count 106 = .ok (.bipush (-3), 2) := by decide +kernel
theorem dX8_count_108 : decode cX8_count 108 = .ok (.ireturn, 1) := by decide +kernel
theorem dX8_isWithin_0 : decode cX8_isWithin 0 = .ok (.iload_n 0, 1) := by decide +kernel
theorem dX8_isWithin_1 : decode cX8_isWithin 1 = .ok (.iload_n 1, 1) := by decide +kernel
theorem dX8_isWithin_2 : decode cX8_isWithin 2 = .ok (.if_icmp .lt 12, 3) := by decide +kernel
theorem dX8_isWithin_5 : decode cX8_isWithin 5 = .ok (.iload_n 0, 1) := by decide +kernel
theorem dX8_isWithin_6 : decode cX8_isWithin 6 = .ok (.iload_n 2, 1) := by decide +kernel
theorem dX8_isWithin_7 : decode cX8_isWithin 7 = .ok (.if_icmp .gt 7, 3) := by decide +kernel
theorem dX8_isWithin_10 : decode cX8_isWithin 10 = .ok (.iconst 1, 1) := by decide +kernel
theorem dX8_isWithin_11 : decode cX8_isWithin 11 = .ok (.goto 4, 3) := by decide +kernel
theorem dX8_isWithin_14 : decode cX8_isWithin 14 = .ok (.iconst 0, 1) := by decide +kernel
theorem dX8_isWithin_15 : decode cX8_isWithin 15 = .ok (.ireturn, 1) := by decide +kernel
theorem dX8_isDay_0 : decode cX8_isDay 0 = .ok (.iload_n 0, 1) := by decide +kernel
theorem dX8_isDay_1 : decode cX8_isDay 1 = .ok (.iconst 0, 1) := by decide +kernel
theorem dX8_isDay_2 : decode cX8_isDay 2 = .ok (.sipush 999, 3) := by decide +kernel
theorem dX8_isDay_5 : decode cX8_isDay 5 = .ok (.invokestatic 65, 3) := by decide +kernel
theorem dX8_isDay_8 : decode cX8_isDay 8 = .ok (.ireturn, 1) := by decide +kernel
theorem dX8_isMark_0 : decode cX8_isMark 0 = .ok (.iload_n 0, 1) := by decide +kernel
theorem dX8_isMark_1 : decode cX8_isMark 1 = .ok (.iconst 0, 1) := by decide +kernel
theorem dX8_isMark_2 : decode cX8_isMark 2 = .ok (.iconst 2, 1) := by decide +kernel
theorem dX8_isMark_3 : decode cX8_isMark 3 = .ok (.invokestatic 65, 3) := by decide +kernel
theorem dX8_isMark_6 : decode cX8_isMark 6 = .ok (.ireturn, 1) := by decide +kernel
theorem dX8_isKind_0 : decode cX8_isKind 0 = .ok (.iload_n 0, 1) := by decide +kernel
theorem dX8_isKind_1 : decode cX8_isKind 1 = .ok (.iconst 0, 1) := by decide +kernel
theorem dX8_isKind_2 : decode cX8_isKind 2 = .ok (.iconst 4, 1) := by decide +kernel
theorem dX8_isKind_3 : decode cX8_isKind 3 = .ok (.invokestatic 65, 3) := by decide +kernel
theorem dX8_isKind_6 : decode cX8_isKind 6 = .ok (.ireturn, 1) := by decide +kernel
theorem dX8_isSurvey_0 : decode cX8_isSurvey 0 = .ok (.iload_n 0, 1) := by decide +kernel
theorem dX8_isSurvey_1 : decode cX8_isSurvey 1 = .ok (.iconst 0, 1) := by decide +kernel
theorem dX8_isSurvey_2 : decode cX8_isSurvey 2 = .ok (.iconst 2, 1) := by decide +kernel
theorem dX8_isSurvey_3 : decode cX8_isSurvey 3 = .ok (.invokestatic 65, 3) := by decide +kernel
theorem dX8_isSurvey_6 : decode cX8_isSurvey 6 = .ok (.ireturn, 1) := by decide +kernel
theorem dX9_init_0 : decode cX9_init 0 = .ok (.aload_n 0, 1) := by decide +kernel
theorem dX9_init_1 : decode cX9_init 1 = .ok (.invokespecial 1, 3) := by decide +kernel
theorem dX9_init_4 : decode cX9_init 4 = .ok (.aload_n 0, 1) := by decide +kernel
theorem dX9_init_5 : decode cX9_init 5 = .ok (.bipush 6, 2) := by decide +kernel
theorem dX9_init_7 : decode cX9_init 7 = .ok (.putfield 7, 3) := by decide +kernel
theorem dX9_init_10 : decode cX9_init 10 = .ok (.aload_n 0, 1) := by decide +kernel
theorem dX9_init_11 : decode cX9_init 11 = .ok (.iconst 5, 1) := by decide +kernel
theorem dX9_init_12 : decode cX9_init 12 = .ok (.putfield 13, 3) := by decide +kernel
theorem dX9_init_15 : decode cX9_init 15 = .ok (.aload_n 0, 1) := by decide +kernel
theorem dX9_init_16 : decode cX9_init 16 = .ok (.bipush 80, 2) := by decide +kernel
theorem dX9_init_18 : decode cX9_init 18 = .ok (.newarray .int, 2) := by decide +kernel
theorem dX9_init_20 : decode cX9_init 20 = .ok (.putfield 16, 3) := by decide +kernel
theorem dX9_init_23 : decode cX9_init 23 = .ok (.aload_n 0, 1) := by decide +kernel
theorem dX9_init_24 : decode cX9_init 24 = .ok (.bipush 80, 2) := by decide +kernel
theorem dX9_init_26 : decode cX9_init 26 = .ok (.newarray .int, 2) := by decide +kernel
theorem dX9_init_28 : decode cX9_init 28 = .ok (.putfield 20, 3) := by decide +kernel
theorem dX9_init_31 : decode cX9_init 31 = .ok (.aload_n 0, 1) := by decide +kernel
theorem dX9_init_32 : decode cX9_init 32 = .ok (.bipush 80, 2) := by decide +kernel
theorem dX9_init_34 : decode cX9_init 34 = .ok (.newarray .boolean, 2) := by decide +kernel
theorem dX9_init_36 : decode cX9_init 36 = .ok (.putfield 23, 3) := by decide +kernel
theorem dX9_init_39 : decode cX9_init 39 = .ok (.aload_n 0, 1) := by decide +kernel
theorem dX9_init_40 : decode cX9_init 40 = .ok (.iconst 3, 1) := by decide +kernel
theorem dX9_init_41 : decode cX9_init 41 = .ok (.newarray .int, 2) := by decide +kernel
theorem dX9_init_43 : decode cX9_init 43 = .ok (.putfield 27, 3) := by decide +kernel
theorem dX9_init_46 : decode cX9_init 46 = .ok (.aload_n 0, 1) := by decide +kernel
theorem dX9_init_47 : decode cX9_init 47 = .ok (.iconst 3, 1) := by decide +kernel
theorem dX9_init_48 : decode cX9_init 48 = .ok (.newarray .int, 2) := by decide +kernel
theorem dX9_init_50 : decode cX9_init 50 = .ok (.putfield 30, 3) := by decide +kernel
theorem dX9_init_53 : decode cX9_init 53 = .ok (.aload_n 0, 1) := by decide +kernel
theorem dX9_init_54 : decode cX9_init 54 = .ok (.sipush 240, 3) := by decide +kernel
theorem dX9_init_57 : decode cX9_init 57 = .ok (.newarray .int, 2) := by decide +kernel
theorem dX9_init_59 : decode cX9_init 59 = .ok (.putfield 33, 3) := by decide +kernel
theorem dX9_init_62 : decode cX9_init 62 = .ok (.aload_n 0, 1) := by decide +kernel
theorem dX9_init_63 : decode cX9_init 63 = .ok (.bipush 8, 2) := by decide +kernel
theorem dX9_init_65 : decode cX9_init 65 = .ok (.newarray .int, 2) := by decide +kernel
theorem dX9_init_67 : decode cX9_init 67 = .ok (.putfield 36, 3) := by decide +kernel
theorem dX9_init_70 : decode cX9_init 70 = .ok (.aload_n 0, 1) := by decide +kernel
theorem dX9_init_71 : decode cX9_init 71 = .ok (.bipush 8, 2) := by decide +kernel
theorem dX9_init_73 : decode cX9_init 73 = .ok (.newarray .int, 2) := by decide +kernel
theorem dX9_init_75 : decode cX9_init 75 = .ok (.putfield 39, 3) := by decide +kernel
theorem dX9_init_78 : decode cX9_init 78 = .ok (.aload_n 0, 1) := by decide +kernel
theorem dX9_init_79 : decode cX9_init 79 = .ok (.bipush 40, 2) := by decide +kernel
theorem dX9_init_81 : decode cX9_init 81 = .ok (.newarray .int, 2) := by decide +kernel
theorem dX9_init_83 : decode cX9_init 83 = .ok (.putfield 42, 3) := by decide +kernel
theorem dX9_init_86 : decode cX9_init 86 = .ok (.aload_n 0, 1) := by decide +kernel
theorem dX9_init_87 : decode cX9_init 87 = .ok (.bipush 40, 2) := by decide +kernel
theorem dX9_init_89 : decode cX9_init 89 = .ok (.newarray .int, 2) := by decide +kernel
theorem dX9_init_91 : decode cX9_init 91 = .ok (.putfield 45, 3) := by decide +kernel
theorem dX9_init_94 : decode cX9_init 94 = .ok (.aload_n 0, 1) := by decide +kernel
theorem dX9_init_95 : decode cX9_init 95 = .ok (.bipush 40, 2) := by decide +kernel
theorem dX9_init_97 : decode cX9_init 97 = .ok (.newarray .int, 2) := by decide +kernel
theorem dX9_init_99 : decode cX9_init 99 = .ok (.putfield 48, 3) := by decide +kernel
theorem dX9_init_102 : decode cX9_init 102 = .ok (.aload_n 0, 1) := by decide +kernel
theorem dX9_init_103 : decode cX9_init 103 = .ok (.bipush 40, 2) := by decide +kernel
theorem dX9_init_105 : decode cX9_init 105 = .ok (.newarray .int, 2) := by decide +kernel
theorem dX9_init_107 : decode cX9_init 107 = .ok (.putfield 51, 3) := by decide +kernel
theorem dX9_init_110 : decode cX9_init 110 = .ok (.aload_n 0, 1) := by decide +kernel
theorem dX9_init_111 : decode cX9_init 111 = .ok (.bipush 20, 2) := by decide +kernel
theorem dX9_init_113 : decode cX9_init 113 = .ok (.newarray .int, 2) := by decide +kernel
theorem dX9_init_115 : decode cX9_init 115 = .ok (.putfield 54, 3) := by decide +kernel
theorem dX9_init_118 : decode cX9_init 118 = .ok (.aload_n 0, 1) := by decide +kernel
theorem dX9_init_119 : decode cX9_init 119 = .ok (.bipush 20, 2) := by decide +kernel
theorem dX9_init_121 : decode cX9_init 121 = .ok (.newarray .int, 2) := by decide +kernel
theorem dX9_init_123 : decode cX9_init 123 = .ok (.putfield 57, 3) := by decide +kernel
theorem dX9_init_126 : decode cX9_init 126 = .ok (.aload_n 0, 1) := by decide +kernel
theorem dX9_init_127 : decode cX9_init 127 = .ok (.bipush 20, 2) := by decide +kernel
theorem dX9_init_129 : decode cX9_init 129 = .ok (.newarray .int, 2) := by decide +kernel
theorem dX9_init_131 : decode cX9_init 131 = .ok (.putfield 60, 3) := by decide +kernel
theorem dX9_init_134 : decode cX9_init 134 = .ok (.aload_n 0, 1) := by decide +kernel
theorem dX9_init_135 : decode cX9_init 135 = .ok (.sipush 500, 3) := by decide +kernel
theorem dX9_init_138 : decode cX9_init 138 = .ok (.putfield 63, 3) := by decide +kernel
theorem dX9_init_141 : decode cX9_init 141 = .ok (.aload_n 0, 1) := by decide +kernel
theorem dX9_init_142 : decode cX9_init 142 = .ok (.sipush 900, 3) := by decide +kernel
theorem dX9_init_145 : decode cX9_init 145 = .ok (.putfield 66, 3) := by decide +kernel
theorem dX9_init_148 : decode cX9_init 148 = .ok (.aload_n 0, 1) := by decide +kernel
theorem dX9_init_149 : decode cX9_init 149 = .ok (.iconst 2, 1) := by decide +kernel
theorem dX9_init_150 : decode cX9_init 150 = .ok (.putfield 69, 3) := by decide +kernel
theorem dX9_init_153 : decode cX9_init 153 = .ok (.aload_n 0, 1) := by decide +kernel
theorem dX9_init_154 : decode cX9_init 154 = .ok (.bipush 8, 2) := by decide +kernel
theorem dX9_init_156 : decode cX9_init 156 = .ok (.newarray .int, 2) := by decide +kernel
theorem dX9_init_158 : decode cX9_init 158 = .ok (.putfield 72, 3) := by decide +kernel
theorem dX9_init_161 : decode cX9_init 161 = .ok (.aload_n 0, 1) := by decide +kernel
theorem dX9_init_162 : decode cX9_init 162 = .ok (.bipush 8, 2) := by decide +kernel
theorem dX9_init_164 : decode cX9_init 164 = .ok (.newarray .int, 2) := by decide +kernel
theorem dX9_init_166 : decode cX9_init 166 = .ok (.putfield 75, 3) := by decide +kernel
theorem dX9_init_169 : decode cX9_init 169 = .ok (.aload_n 0, 1) := by decide +kernel
theorem dX9_init_170 : decode cX9_init 170 = .ok (.bipush 8, 2) := by decide +kernel
theorem dX9_init_172 : decode cX9_init 172 = .ok (.newarray .int, 2) := by decide +kernel
theorem dX9_init_174 : decode cX9_init 174 = .ok (.putfield 78, 3) := by decide +kernel
theorem dX9_init_177 : decode cX9_init 177 = .ok (.aload_n 0, 1) := by decide +kernel
theorem dX9_init_178 : decode cX9_init 178 = .ok (.bipush 8, 2) := by decide +kernel
theorem dX9_init_180 : decode cX9_init 180 = .ok (.newarray .int, 2) := by decide +kernel
theorem dX9_init_182 : decode cX9_init 182 = .ok (.putfield 81, 3) := by decide +kernel
theorem dX9_init_185 : decode cX9_init 185 = .ok (.aload_n 0, 1) := by decide +kernel
theorem dX9_init_186 : decode cX9_init 186 = .ok (.bipush 80, 2) := by decide +kernel
theorem dX9_init_188 : decode cX9_init 188 = .ok (.newarray .int, 2) := by decide +kernel
theorem dX9_init_190 : decode cX9_init 190 = .ok (.putfield 84, 3) := by decide +kernel
theorem dX9_init_193 : decode cX9_init 193 = .ok (.aload_n 0, 1) := by decide +kernel
theorem dX9_init_194 : decode cX9_init 194 = .ok (.bipush 80, 2) := by decide +kernel
theorem dX9_init_196 : decode cX9_init 196 = .ok (.newarray .int, 2) := by decide +kernel
theorem dX9_init_198 : decode cX9_init 198 = .ok (.putfield 87, 3) := by decide +kernel
theorem dX9_init_201 : decode cX9_init 201 = .ok (.aload_n 0, 1) := by decide +kernel
theorem dX9_init_202 : decode cX9_init 202 = .ok (.bipush 8, 2) := by decide +kernel
theorem dX9_init_204 : decode cX9_init 204 = .ok (.newarray .int, 2) := by decide +kernel
theorem dX9_init_206 : decode cX9_init 206 = .ok (.putfield 90, 3) := by decide +kernel
theorem dX9_init_209 : decode cX9_init 209 = .ok (.aload_n 0, 1) := by decide +kernel
theorem dX9_init_210 : decode cX9_init 210 = .ok (.bipush 8, 2) := by decide +kernel
theorem dX9_init_212 : decode cX9_init 212 = .ok (.newarray .int, 2) := by decide +kernel
theorem dX9_init_214 : decode cX9_init 214 = .ok (.putfield 93, 3) := by decide +kernel
theorem dX9_init_217 : decode cX9_init 217 = .ok (.aload_n 0, 1) := by decide +kernel
theorem dX9_init_218 : decode cX9_init 218 = .ok (.bipush 8, 2) := by decide +kernel
theorem dX9_init_220 : decode cX9_init 220 = .ok (.newarray .int, 2) := by decide +kernel
theorem dX9_init_222 : decode cX9_init 222 = .ok (.putfield 96, 3) := by decide +kernel
theorem dX9_init_225 : decode cX9_init 225 = .ok (.aload_n 0, 1) := by decide +kernel
theorem dX9_init_226 : decode cX9_init 226 = .ok (.bipush 8, 2) := by decide +kernel
theorem dX9_init_228 : decode cX9_init 228 = .ok (.newarray .int, 2) := by decide +kernel
theorem dX9_init_230 : decode cX9_init 230 = .ok (.putfield 99, 3) := by decide +kernel
theorem dX9_init_233 : decode cX9_init 233 = .ok (.aload_n 0, 1) := by decide +kernel
theorem dX9_init_234 : decode cX9_init 234 = .ok (.bipush 8, 2) := by decide +kernel
theorem dX9_init_236 : decode cX9_init 236 = .ok (.newarray .boolean, 2) := by decide +kernel
theorem dX9_init_238 : decode cX9_init 238 = .ok (.putfield 102, 3) := by decide +kernel
theorem dX9_init_241 : decode cX9_init 241 = .ok (.aload_n 0, 1) := by decide +kernel
theorem dX9_init_242 : decode cX9_init 242 = .ok (.sipush 2000, 3) := by decide +kernel
theorem dX9_init_245 : decode cX9_init 245 = .ok (.newarray .int, 2) := by decide +kernel
theorem dX9_init_247 : decode cX9_init 247 = .ok (.putfield 105, 3) := by decide +kernel
theorem dX9_init_250 : decode cX9_init 250 = .ok (.aload_n 0, 1) := by decide +kernel
theorem dX9_init_251 : decode cX9_init 251 = .ok (.sipush 2000, 3) := by decide +kernel
theorem dX9_init_254 : decode cX9_init 254 = .ok (.newarray .int, 2) := by decide +kernel
theorem dX9_init_256 : decode cX9_init 256 = .ok (.putfield 108, 3) := by decide +kernel
theorem dX9_init_259 : decode cX9_init 259 = .ok (.aload_n 0, 1) := by decide +kernel
theorem dX9_init_260 : decode cX9_init 260 = .ok (.sipush 2000, 3) := by decide +kernel
theorem dX9_init_263 : decode cX9_init 263 = .ok (.newarray .int, 2) := by decide +kernel
theorem dX9_init_265 : decode cX9_init 265 = .ok (.putfield 111, 3) := by decide +kernel
theorem dX9_init_268 : decode cX9_init 268 = .ok (.aload_n 0, 1) := by decide +kernel
theorem dX9_init_269 : decode cX9_init 269 = .ok (.sipush 2000, 3) := by decide +kernel
theorem dX9_init_272 : decode cX9_init 272 = .ok (.newarray .int, 2) := by decide +kernel
theorem dX9_init_274 : decode cX9_init 274 = .ok (.putfield 114, 3) := by decide +kernel
theorem dX9_init_277 : decode cX9_init 277 = .ok (.aload_n 0, 1) := by decide +kernel
theorem dX9_init_278 : decode cX9_init 278 = .ok (.sipush 2000, 3) := by decide +kernel
theorem dX9_init_281 : decode cX9_init 281 = .ok (.newarray .long, 2) := by decide +kernel
theorem dX9_init_283 : decode cX9_init 283 = .ok (.putfield 117, 3) := by decide +kernel
theorem dX9_init_286 : decode cX9_init 286 = .ok (.aload_n 0, 1) := by decide +kernel
theorem dX9_init_287 : decode cX9_init 287 = .ok (.sipush 2000, 3) := by decide +kernel
theorem dX9_init_290 : decode cX9_init 290 = .ok (.newarray .long, 2) := by decide +kernel
theorem dX9_init_292 : decode cX9_init 292 = .ok (.putfield 121, 3) := by decide +kernel
theorem dX9_init_295 : decode cX9_init 295 = .ok (.aload_n 0, 1) := by decide +kernel
theorem dX9_init_296 : decode cX9_init 296 = .ok (.bipush 8, 2) := by decide +kernel
theorem dX9_init_298 : decode cX9_init 298 = .ok (.newarray .int, 2) := by decide +kernel
theorem dX9_init_300 : decode cX9_init 300 = .ok (.putfield 124, 3) := by decide +kernel
theorem dX9_init_303 : decode cX9_init 303 = .ok (.aload_n 0, 1) := by decide +kernel
theorem dX9_init_304 : decode cX9_init 304 = .ok (.bipush 8, 2) := by decide +kernel
theorem dX9_init_306 : decode cX9_init 306 = .ok (.newarray .int, 2) := by decide +kernel
theorem dX9_init_308 : decode cX9_init 308 = .ok (.putfield 127, 3) := by decide +kernel
theorem dX9_init_311 : decode cX9_init 311 = .ok (.iconst 0, 1) := by decide +kernel
theorem dX9_init_312 : decode cX9_init 312 = .ok (.istore_n 1, 1) := by decide +kernel
theorem dX9_init_313 : decode cX9_init 313 = .ok (.iload_n 1, 1) := by decide +kernel
theorem dX9_init_314 : decode cX9_init 314 = .ok (.iconst 3, 1) := by decide +kernel
theorem dX9_init_315 : decode cX9_init 315 = .ok (.if_icmp .ge 16, 3) := by decide +kernel
theorem dX9_init_318 : decode cX9_init 318 = .ok (.aload_n 0, 1) := by decide +kernel
theorem dX9_init_319 : decode cX9_init 319 = .ok (.getfield 27, 3) := by decide +kernel
theorem dX9_init_322 : decode cX9_init 322 = .ok (.iload_n 1, 1) := by decide +kernel
theorem dX9_init_323 : decode cX9_init 323 = .ok (.iconst (-1), 1) := by decide +kernel
theorem dX9_init_324 : decode cX9_init 324 = .ok (.iastore, 1) := by decide +kernel
theorem dX9_init_325 : decode cX9_init 325 = .ok (.iinc 1 1, 3) := by decide +kernel
theorem dX9_init_328 : decode cX9_init 328 = .ok (.goto (-15), 3) := by decide +kernel
theorem dX9_init_331 : decode cX9_init 331 = .ok (.aload_n 0, 1) := by decide +kernel
theorem dX9_init_332 : decode cX9_init 332 = .ok (.invokevirtual 130, 3) := by decide +kernel
theorem dX9_init_335 : decode cX9_init 335 = .ok (.return_, 1) := by decide +kernel
theorem dX9_in_0 : decode cX9_in 0 = .ok (.iload_n 0, 1) := by decide +kernel
theorem dX9_in_1 : decode cX9_in 1 = .ok (.iload_n 1, 1) := by decide +kernel
theorem dX9_in_2 : decode cX9_in 2 = .ok (.if_icmp .lt 12, 3) := by decide +kernel
theorem dX9_in_5 : decode cX9_in 5 = .ok (.iload_n 0, 1) := by decide +kernel
theorem dX9_in_6 : decode cX9_in 6 = .ok (.iload_n 2, 1) := by decide +kernel
theorem dX9_in_7 : decode cX9_in 7 = .ok (.if_icmp .gt 7, 3) := by decide +kernel
theorem dX9_in_10 : decode cX9_in 10 = .ok (.iconst 1, 1) := by decide +kernel
theorem dX9_in_11 : decode cX9_in 11 = .ok (.goto 4, 3) := by decide +kernel
theorem dX9_in_14 : decode cX9_in 14 = .ok (.iconst 0, 1) := by decide +kernel
theorem dX9_in_15 : decode cX9_in 15 = .ok (.ireturn, 1) := by decide +kernel
theorem dX9_clearLand_0 : decode cX9_clearLand 0 = .ok (.iconst 0, 1) := by decide +kernel
theorem dX9_clearLand_1 : decode cX9_clearLand 1 = .ok (.istore_n 1, 1) := by decide +kernel
theorem dX9_clearLand_2 : decode cX9_clearLand 2 = .ok (.iload_n 1, 1) := by decide +kernel
theorem dX9_clearLand_3 : decode cX9_clearLand 3 = .ok (.bipush 80, 2) := by decide +kernel
theorem dX9_clearLand_5 : decode cX9_clearLand 5 = .ok (.if_icmp .ge 30, 3) := by decide +kernel
theorem dX9_clearLand_8 : decode cX9_clearLand 8 = .ok (.aload_n 0, 1) := by decide +kernel
theorem dX9_clearLand_9 : decode cX9_clearLand 9 = .ok (.getfield 16, 3) := by decide +kernel
theorem dX9_clearLand_12 : decode cX9_clearLand 12 = .ok (.iload_n 1, 1) := by decide +kernel
theorem dX9_clearLand_13 : decode cX9_clearLand 13 = .ok (.iconst 1, 1) := by decide +kernel
theorem dX9_clearLand_14 : decode cX9_clearLand 14 = .ok (.iastore, 1) := by decide +kernel
theorem dX9_clearLand_15 : decode cX9_clearLand 15 = .ok (.aload_n 0, 1) := by decide +kernel
theorem dX9_clearLand_16 : decode cX9_clearLand 16 = .ok (.getfield 20, 3) := by decide +kernel
theorem dX9_clearLand_19 : decode cX9_clearLand 19 = .ok (.iload_n 1, 1) := by decide +kernel
theorem dX9_clearLand_20 : decode cX9_clearLand 20 = .ok (.iconst 0, 1) := by decide +kernel
theorem dX9_clearLand_21 : decode cX9_clearLand 21 = .ok (.iastore, 1) := by decide +kernel
theorem dX9_clearLand_22 : decode cX9_clearLand 22 = .ok (.aload_n 0, 1) := by decide +kernel
theorem dX9_clearLand_23 : decode cX9_clearLand 23 = .ok (.getfield 23, 3) := by decide +kernel
theorem dX9_clearLand_26 : decode cX9_clearLand 26 = .ok (.iload_n 1, 1) := by decide +kernel
theorem dX9_clearLand_27 : decode cX9_clearLand 27 = .ok (.iconst 0, 1) := by decide +kernel
theorem dX9_clearLand_28 : decode cX9_clearLand 28 = .ok (.bastore, 1) := by decide +kernel
theorem dX9_clearLand_29 : decode cX9_clearLand 29 = .ok (.iinc 1 1, 3) := by decide +kernel
theorem dX9_clearLand_32 : decode cX9_clearLand 32 = .ok (.goto (-30), 3) := by decide +kernel
theorem dX9_clearLand_35 : decode cX9_clearLand 35 = .ok (.aload_n 0, 1) := by decide +kernel
theorem dX9_clearLand_36 : decode cX9_clearLand 36 = .ok (.iconst 0, 1) := by decide +kernel
theorem dX9_clearLand_37 : decode cX9_clearLand 37 = .ok (.putfield 136, 3) := by decide +kernel
theorem dX9_clearLand_40 : decode cX9_clearLand 40 = .ok (.aload_n 0, 1) := by decide +kernel
theorem dX9_clearLand_41 : decode cX9_clearLand 41 = .ok (.iconst 0, 1) := by decide +kernel
theorem dX9_clearLand_42 : decode cX9_clearLand 42 = .ok (.putfield 139, 3) := by decide +kernel
theorem dX9_clearLand_45 : decode cX9_clearLand 45 = .ok (.aload_n 0, 1) := by decide +kernel
theorem dX9_clearLand_46 : decode cX9_clearLand 46 = .ok (.iconst 0, 1) := by decide +kernel
theorem dX9_clearLand_47 : decode cX9_clearLand 47 = .ok (.putfield 142, 3) := by decide +kernel
theorem dX9_clearLand_50 : decode cX9_clearLand 50 = .ok (.aload_n 0, 1) := by decide +kernel
theorem dX9_clearLand_51 : decode cX9_clearLand 51 = .ok (.iconst 0, 1) := by decide +kernel
theorem dX9_clearLand_52 : decode cX9_clearLand 52 = .ok (.putfield 145, 3) := by decide +kernel
theorem dX9_clearLand_55 : decode cX9_clearLand 55 = .ok (.return_, 1) := by decide +kernel
theorem dX9_cells_0 : decode cX9_cells 0 = .ok (.aload_n 0, 1) := by decide +kernel
theorem dX9_cells_1 : decode cX9_cells 1 = .ok (.getfield 7, 3) := by decide +kernel
theorem dX9_cells_4 : decode cX9_cells 4 = .ok (.aload_n 0, 1) := by decide +kernel
theorem dX9_cells_5 : decode cX9_cells 5 = .ok (.getfield 13, 3) := by decide +kernel
theorem dX9_cells_8 : decode cX9_cells 8 = .ok (.imul, 1) := by decide +kernel
theorem dX9_cells_9 : decode cX9_cells 9 = .ok (.ireturn, 1) := by decide +kernel
theorem dX9_isCell_0 : decode cX9_isCell 0 = .ok (.iload_n 1, 1) := by decide +kernel
theorem dX9_isCell_1 : decode cX9_isCell 1 = .ok (.iconst 0, 1) := by decide +kernel
theorem dX9_isCell_2 : decode cX9_isCell 2 = .ok (.aload_n 0, 1) := by decide +kernel
theorem dX9_isCell_3 : decode cX9_isCell 3 = .ok (.invokevirtual 148, 3) := by decide +kernel
theorem dX9_isCell_6 : decode cX9_isCell 6 = .ok (.iconst 1, 1) := by decide +kernel
theorem dX9_isCell_7 : decode cX9_isCell 7 = .ok (.isub, 1) := by decide +kernel
theorem dX9_isCell_8 : decode cX9_isCell 8 = .ok (.invokestatic 152, 3) := by decide +kernel
theorem dX9_isCell_11 : decode cX9_isCell 11 = .ok (.ireturn, 1) := by decide +kernel
theorem dX9_isPerson_0 : decode cX9_isPerson 0 = .ok (.iload_n 1, 1) := by decide +kernel
theorem dX9_isPerson_1 : decode cX9_isPerson 1 = .ok (.iconst 0, 1) := by decide +kernel
theorem dX9_isPerson_2 : decode cX9_isPerson 2 = .ok (.aload_n 0, 1) := by decide +kernel
theorem dX9_isPerson_3 : decode cX9_isPerson 3 = .ok (.getfield 139, 3) := by decide +kernel
theorem dX9_isPerson_6 : decode cX9_isPerson 6 = .ok (.iconst 1, 1) := by decide +kernel
theorem dX9_isPerson_7 : decode cX9_isPerson 7 = .ok (.isub, 1) := by decide +kernel
theorem dX9_isPerson_8 : decode cX9_isPerson 8 = .ok (.invokestatic 152, 3) := by decide +kernel
theorem dX9_isPerson_11 : decode cX9_isPerson 11 = .ok (.ireturn, 1) := by decide +kernel
theorem dX9_isDay_0 : decode cX9_isDay 0 = .ok (.iload_n 0, 1) := by decide +kernel
theorem dX9_isDay_1 : decode cX9_isDay 1 = .ok (.iconst 0, 1) := by decide +kernel
theorem dX9_isDay_2 : decode cX9_isDay 2 = .ok (.sipush 999, 3) := by decide +kernel
theorem dX9_isDay_5 : decode cX9_isDay 5 = .ok (.invokestatic 152, 3) := by decide +kernel
theorem dX9_isDay_8 : decode cX9_isDay 8 = .ok (.ireturn, 1) := by decide +kernel
theorem dX9_isPlain_0 : decode cX9_isPlain 0 = .ok (.aload_n 0, 1) := by decide +kernel
theorem dX9_isPlain_1 : decode cX9_isPlain 1 = .ok (.getfield 20, 3) := by decide +kernel
theorem dX9_isPlain_4 : decode cX9_isPlain 4 = .ok (.iload_n 1, 1) := by decide +kernel
theorem dX9_isPlain_5 : decode cX9_isPlain 5 = .ok (.iaload, 1) := by decide +kernel
theorem dX9_isPlain_6 : decode cX9_isPlain 6 = .ok (.iconst 2, 1) := by decide +kernel
theorem dX9_isPlain_7 : decode cX9_isPlain 7 = .ok (.if_icmp .eq 16, 3) := by decide +kernel
theorem dX9_isPlain_10 : decode cX9_isPlain 10 = .ok (.aload_n 0, 1) := by decide +kernel
theorem dX9_isPlain_11 : decode cX9_isPlain 11 = .ok (.getfield 23, 3) := by decide +kernel
theorem dX9_isPlain_14 : decode cX9_isPlain 14 = .ok (.iload_n 1, 1) := by decide +kernel
theorem dX9_isPlain_15 : decode cX9_isPlain 15 = .ok (.baload, 1) := by decide +kernel
theorem dX9_isPlain_16 : decode cX9_isPlain 16 = .ok (.ifCond .ne 7, 3) := by decide +kernel
theorem dX9_isPlain_19 : decode cX9_isPlain 19 = .ok (.iconst 1, 1) := by decide +kernel
theorem dX9_isPlain_20 : decode cX9_isPlain 20 = .ok (.goto 4, 3) := by decide +kernel
theorem dX9_isPlain_23 : decode cX9_isPlain 23 = .ok (.iconst 0, 1) := by decide +kernel
theorem dX9_isPlain_24 : decode cX9_isPlain 24 = .ok (.ireturn, 1) := by decide +kernel
theorem dX9_beside_0 : decode cX9_beside 0 = .ok (.iload_n 1, 1) := by decide +kernel
theorem dX9_beside_1 : decode cX9_beside 1 = .ok (.aload_n 0, 1) := by decide +kernel
theorem dX9_beside_2 : decode cX9_beside 2 = .ok (.getfield 7, 3) := by decide +kernel
theorem dX9_beside_5 : decode cX9_beside 5 = .ok (.irem, 1) := by decide +kernel
theorem dX9_beside_6 : decode cX9_beside 6 = .ok (.istore_n 3, 1) := by decide +kernel
theorem dX9_beside_7 : decode cX9_beside 7 = .ok (.iload_n 1, 1) := by decide +kernel
theorem dX9_beside_8 : decode cX9_beside 8 = .ok (.aload_n 0, 1) := by decide +kernel
theorem dX9_beside_9 : decode cX9_beside 9 = .ok (.getfield 7, 3) := by decide +kernel
theorem dX9_beside_12 : decode cX9_beside 12 = .ok (.idiv, 1) := by decide +kernel
theorem dX9_beside_13 : decode cX9_beside 13 = .ok (.istore 4, 2) := by decide +kernel
theorem dX9_beside_15 : decode cX9_beside 15 = .ok (.iload_n 2, 1) := by decide +kernel
theorem dX9_beside_16 : decode cX9_beside 16 = .ok (.ifCond .ne 15, 3) := by decide +kernel
theorem dX9_beside_19 : decode cX9_beside 19 = .ok (.iload_n 3, 1) := by decide +kernel
theorem dX9_beside_20 : decode cX9_beside 20 = .ok (.ifCond .le 9, 3) := by decide +kernel
theorem dX9_beside_23 : decode cX9_beside 23 = .ok (.iload_n 1, 1) := by decide +kernel
theorem dX9_beside_24 : decode cX9_beside 24 = .ok (.iconst 1, 1) := by decide +kernel
theorem dX9_beside_25 : decode cX9_beside 25 = .ok (.isub, 1) := by decide +kernel
theorem dX9_beside_26 : decode cX9_beside 26 = .ok (.goto 4, 3) := by decide +kernel
theorem dX9_beside_29 : decode cX9_beside 29 = .ok (.iconst (-1), 1) := by decide +kernel
theorem dX9_beside_30 : decode cX9_beside 30 = .ok (.ireturn, 1) := by decide +kernel
theorem dX9_beside_31 : decode cX9_beside 31 = .ok (.iload_n 2, 1) := by decide +kernel
theorem dX9_beside_32 : decode cX9_beside 32 = .ok (.iconst 1, 1) := by decide +kernel
theorem dX9_beside_33 : decode cX9_beside 33 = .ok (.if_icmp .ne 21, 3) := by decide +kernel
theorem dX9_beside_36 : decode cX9_beside 36 = .ok (.iload_n 3, 1) := by decide +kernel
theorem dX9_beside_37 : decode cX9_beside 37 = .ok (.iconst 1, 1) := by decide +kernel
theorem dX9_beside_38 : decode cX9_beside 38 = .ok (.iadd, 1) := by decide +kernel
theorem dX9_beside_39 : decode cX9_beside 39 = .ok (.aload_n 0, 1) := by decide +kernel
theorem dX9_beside_40 : decode cX9_beside 40 = .ok (.getfield 7, 3) := by decide +kernel
theorem dX9_beside_43 : decode cX9_beside 43 = .ok (.if_icmp .ge 9, 3) := by decide +kernel
theorem dX9_beside_46 : decode cX9_beside 46 = .ok (.iload_n 1, 1) := by decide +kernel
theorem dX9_beside_47 : decode cX9_beside 47 = .ok (.iconst 1, 1) := by decide +kernel
theorem dX9_beside_48 : decode cX9_beside 48 = .ok (.iadd, 1) := by decide +kernel
theorem dX9_beside_49 : decode cX9_beside 49 = .ok (.goto 4, 3) := by decide +kernel
theorem dX9_beside_52 : decode cX9_beside 52 = .ok (.iconst (-1), 1) := by decide +kernel
theorem dX9_beside_53 : decode cX9_beside 53 = .ok (.ireturn, 1) := by decide +kernel
theorem dX9_beside_54 : decode cX9_beside 54 = .ok (.iload_n 2, 1) := by decide +kernel
theorem dX9_beside_55 : decode cX9_beside 55 = .ok (.iconst 2, 1) := by decide +kernel
theorem dX9_beside_56 : decode cX9_beside 56 = .ok (.if_icmp .ne 21, 3) := by decide +kernel
theorem dX9_beside_59 : decode cX9_beside 59 = .ok (.iload 4, 2) := by decide +kernel
theorem dX9_beside_61 : decode cX9_beside 61 = .ok (.ifCond .le 12, 3) := by decide +kernel
theorem dX9_beside_64 : decode cX9_beside 64 = .ok (.iload_n 1, 1) := by decide +kernel
theorem dX9_beside_65 : decode cX9_beside 65 = .ok (.aload_n 0, 1) := by decide +kernel
theorem dX9_beside_66 : decode cX9_beside 66 = .ok (.getfield 7, 3) := by decide +kernel
theorem dX9_beside_69 : decode cX9_beside 69 = .ok (.isub, 1) := by decide +kernel
theorem dX9_beside_70 : decode cX9_beside 70 = .ok (.goto 28, 3) := by decide +kernel
theorem dX9_beside_73 : decode cX9_beside 73 = .ok (.iconst (-1), 1) := by decide +kernel
theorem dX9_beside_74 : decode cX9_beside 74 = .ok (.goto 24, 3) := by decide +kernel
theorem dX9_beside_77 : decode cX9_beside 77 = .ok (.iload 4, 2) := by decide +kernel
theorem dX9_beside_79 : decode cX9_beside 79 = .ok (.iconst 1, 1) := by decide +kernel
theorem dX9_beside_80 : decode cX9_beside 80 = .ok (.iadd, 1) := by decide +kernel
theorem dX9_beside_81 : decode cX9_beside 81 = .ok (.aload_n 0, 1) := by decide +kernel
theorem dX9_beside_82 : decode cX9_beside 82 = .ok (.getfield 13, 3) := by decide +kernel
theorem dX9_beside_85 : decode cX9_beside 85 = .ok (.if_icmp .ge 12, 3) := by decide +kernel
theorem dX9_beside_88 : decode cX9_beside 88 = .ok (.iload_n 1, 1) := by decide +kernel
theorem dX9_beside_89 : decode cX9_beside 89 = .ok (.aload_n 0, 1) := by decide +kernel
theorem dX9_beside_90 : decode cX9_beside 90 = .ok (.getfield 7, 3) := by decide +kernel
theorem dX9_beside_93 : decode cX9_beside 93 = .ok (.iadd, 1) := by decide +kernel
theorem dX9_beside_94 : decode cX9_beside 94 = .ok (.goto 4, 3) := by decide +kernel
theorem dX9_beside_97 : decode cX9_beside 97 = .ok (.iconst (-1), 1) := by decide +kernel
theorem dX9_beside_98 : decode cX9_beside 98 = .ok (.ireturn, 1) := by decide +kernel
theorem dX9_land_0 : decode cX9_land 0 = .ok (.aload_n 0, 1) := by decide +kernel
theorem dX9_land_1 : decode cX9_land 1 = .ok (.iconst 0, 1) := by decide +kernel
theorem dX9_land_2 : decode cX9_land 2 = .ok (.putfield 133, 3) := by decide +kernel
theorem dX9_land_5 : decode cX9_land 5 = .ok (.iload_n 1, 1) := by decide +kernel
theorem dX9_land_6 : decode cX9_land 6 = .ok (.iconst 2, 1) := by decide +kernel
theorem dX9_land_7 : decode cX9_land 7 = .ok (.bipush 10, 2) := by decide +kernel
theorem dX9_land_9 : decode cX9_land 9 = .ok (.invokestatic 152, 3) := by decide +kernel
theorem dX9_land_12 : decode cX9_land 12 = .ok (.ifCond .eq 13, 3) := by decide +kernel
theorem dX9_land_15 : decode cX9_land 15 = .ok (.iload_n 2, 1) := by decide +kernel
theorem dX9_land_16 : decode cX9_land 16 = .ok (.iconst 2, 1) := by decide +kernel
theorem dX9_land_17 : decode cX9_land 17 = .ok (.bipush 8, 2) := by decide +kernel
theorem dX9_land_19 : decode cX9_land 19 = .ok (.invokestatic 152, 3) := by decide +kernel
theorem dX9_land_22 : decode cX9_land 22 = .ok (.ifCond .ne 6, 3) := by decide +kernel
theorem dX9_land_25 : decode cX9_land 25 = .ok (.bipush (-3), 2) := by decide +kernel
theorem dX9_land_27 : decode cX9_land 27 = .ok (.ireturn, 1) := by decide +kernel
theorem dX9_land_28 : decode cX9_land 28 = .ok (.aload_n 0, 1) := by decide +kernel
theorem dX9_land_29 : decode cX9_land 29 = .ok (.iload_n 1, 1) := by decide +kernel
theorem dX9_land_30 : decode cX9_land 30 = .ok (.putfield 7, 3) := by decide +kernel
theorem dX9_land_33 : decode cX9_land 33 = .ok (.aload_n 0, 1) := by decide +kernel
theorem dX9_land_34 : decode cX9_land 34 = .ok (.iload_n 2, 1) := by decide +kernel
theorem dX9_land_35 : decode cX9_land 35 = .ok (.putfield 13, 3) := by decide +kernel
theorem dX9_land_38 : decode cX9_land 38 = .ok (.aload_n 0, 1) := by decide +kernel
theorem dX9_land_39 : decode cX9_land 39 = .ok (.invokevirtual 130, 3) := by decide +kernel
theorem dX9_land_42 : decode cX9_land 42 = .ok (.aload_n 0, 1) := by decide +kernel
theorem dX9_land_43 : decode cX9_land 43 = .ok (.invokevirtual 148, 3) := by decide +kernel
theorem dX9_land_46 : decode cX9_land 46 = .ok (.ireturn, 1) := by decide +kernel
theorem dX9_toldOf_0 : decode cX9_toldOf 0 = .ok (.iload_n 2, 1) := by decide +kernel
theorem dX9_toldOf_1 : decode cX9_toldOf 1 = .ok (.ifCond .ne 12, 3) := by decide +kernel
theorem dX9_toldOf_4 : decode cX9_toldOf 4 = .ok (.aload_n 0, 1) := by decide +kernel
theorem dX9_toldOf_5 : decode cX9_toldOf 5 = .ok (.getfield 16, 3) := by decide +kernel
theorem dX9_toldOf_8 : decode cX9_toldOf 8 = .ok (.iload_n 1, 1) := by decide +kernel
theorem dX9_toldOf_9 : decode cX9_toldOf 9 = .ok (.iaload, 1) := by decide +kernel
theorem dX9_toldOf_10 : decode cX9_toldOf 10 = .ok (.goto 31, 3) := by decide +kernel
theorem dX9_toldOf_13 : decode cX9_toldOf 13 = .ok (.iload_n 2, 1) := by decide +kernel
theorem dX9_toldOf_14 : decode cX9_toldOf 14 = .ok (.iconst 1, 1) := by decide +kernel
theorem dX9_toldOf_15 : decode cX9_toldOf 15 = .ok (.if_icmp .ne 12, 3) := by decide +kernel
theorem dX9_toldOf_18 : decode cX9_toldOf 18 = .ok (.aload_n 0, 1) := by decide +kernel
theorem dX9_toldOf_19 : decode cX9_toldOf 19 = .ok (.getfield 20, 3) := by decide +kernel
theorem dX9_toldOf_22 : decode cX9_toldOf 22 = .ok (.iload_n 1, 1) := by decide +kernel
theorem dX9_toldOf_23 : decode cX9_toldOf 23 = .ok (.iaload, 1) := by decide +kernel
theorem dX9_toldOf_24 : decode cX9_toldOf 24 = .ok (.goto 17, 3) := by decide +kernel
theorem dX9_toldOf_27 : decode cX9_toldOf 27 = .ok (.aload_n 0, 1) := by decide +kernel
theorem dX9_toldOf_28 : decode cX9_toldOf 28 = .ok (.getfield 23, 3) := by decide +kernel
theorem dX9_toldOf_31 : decode cX9_toldOf 31 = .ok (.iload_n 1, 1) := by decide +kernel
theorem dX9_toldOf_32 : decode cX9_toldOf 32 = .ok (.baload, 1) := by decide +kernel
theorem dX9_toldOf_33 : decode cX9_toldOf 33 = .ok (.ifCond .eq 7, 3) := by decide +kernel
theorem dX9_toldOf_36 : decode cX9_toldOf 36 = .ok (.iconst 1, 1) := by decide +kernel
theorem dX9_toldOf_37 : decode cX9_toldOf 37 = .ok (.goto 4, 3) := by decide +kernel
theorem dX9_toldOf_40 : decode cX9_toldOf 40 = .ok (.iconst 0, 1) := by decide +kernel
theorem dX9_toldOf_41 : decode cX9_toldOf 41 = .ok (.ireturn, 1) := by decide +kernel
theorem dX9_cell_0 : decode cX9_cell 0 = .ok (.aload_n 0, 1) := by decide +kernel
theorem dX9_cell_1 : decode cX9_cell 1 = .ok (.iconst 0, 1) := by decide +kernel
theorem dX9_cell_2 : decode cX9_cell 2 = .ok (.putfield 133, 3) := by decide +kernel
theorem dX9_cell_5 : decode cX9_cell 5 = .ok (.aload_n 0, 1) := by decide +kernel
theorem dX9_cell_6 : decode cX9_cell 6 = .ok (.iload_n 1, 1) := by decide +kernel
theorem dX9_cell_7 : decode cX9_cell 7 = .ok (.invokevirtual 156, 3) := by decide +kernel
theorem dX9_cell_10 : decode cX9_cell 10 = .ok (.ifCond .eq 39, 3) := by decide +kernel
theorem dX9_cell_13 : decode cX9_cell 13 = .ok (.iload_n 2, 1) := by decide +kernel
theorem dX9_cell_14 : decode cX9_cell 14 = .ok (.iconst 0, 1) := by decide +kernel
theorem dX9_cell_15 : decode cX9_cell 15 = .ok (.iconst 2, 1) := by decide +kernel
theorem dX9_cell_16 : decode cX9_cell 16 = .ok (.invokestatic 152, 3) := by decide +kernel
theorem dX9_cell_19 : decode cX9_cell 19 = .ok (.ifCond .eq 30, 3) := by decide +kernel
theorem dX9_cell_22 : decode cX9_cell 22 = .ok (.iload_n 3, 1) := by decide +kernel
theorem dX9_cell_23 : decode cX9_cell 23 = .ok (.iconst 0, 1) := by decide +kernel
theorem dX9_cell_24 : decode cX9_cell 24 = .ok (.iload_n 2, 1) := by decide +kernel
theorem dX9_cell_25 : decode cX9_cell 25 = .ok (.ifCond .ne 8, 3) := by decide +kernel
theorem dX9_cell_28 : decode cX9_cell 28 = .ok (.bipush 9, 2) := by decide +kernel
theorem dX9_cell_30 : decode cX9_cell 30 = .ok (.goto 13, 3) := by decide +kernel
theorem dX9_cell_33 : decode cX9_cell 33 = .ok (.iload_n 2, 1) := by decide +kernel
theorem dX9_cell_34 : decode cX9_cell 34 = .ok (.iconst 1, 1) := by decide +kernel
theorem dX9_cell_35 : decode cX9_cell 35 = .ok (.if_icmp .ne 7, 3) := by decide +kernel
theorem dX9_cell_38 : decode cX9_cell 38 = .ok (.iconst 2, 1) := by decide +kernel
theorem dX9_cell_39 : decode cX9_cell 39 = .ok (.goto 4, 3) := by decide +kernel
theorem dX9_cell_42 : decode cX9_cell 42 = .ok (.iconst 1, 1) := by decide +kernel
theorem dX9_cell_43 : decode cX9_cell 43 = .ok (.invokestatic 152, 3) := by decide +kernel
theorem dX9_cell_46 : decode cX9_cell 46 = .ok (.ifCond .ne 6, 3) := by decide +kernel
theorem dX9_cell_49 : decode cX9_cell 49 = .ok (.bipush (-3), 2) := by decide +kernel
theorem dX9_cell_51 : decode cX9_cell 51 = .ok (.ireturn, 1) := by decide +kernel
theorem dX9_cell_52 : decode cX9_cell 52 = .ok (.aload_n 0, 1) := by decide +kernel
theorem dX9_cell_53 : decode cX9_cell 53 = .ok (.iload_n 1, 1) := by decide +kernel
theorem dX9_cell_54 : decode cX9_cell 54 = .ok (.iload_n 2, 1) := by decide +kernel
theorem dX9_cell_55 : decode cX9_cell 55 = .ok (.invokevirtual 160, 3) := by decide +kernel
theorem dX9_cell_58 : decode cX9_cell 58 = .ok (.istore 4, 2) := by decide +kernel
theorem dX9_cell_60 : decode cX9_cell 60 = .ok (.aload_n 0, 1) := by decide +kernel
theorem dX9_cell_61 : decode cX9_cell 61 = .ok (.getfield 16, 3) := by decide +kernel
theorem dX9_cell_64 : decode cX9_cell 64 = .ok (.iload_n 1, 1) := by decide +kernel
theorem dX9_cell_65 : decode cX9_cell 65 = .ok (.iload_n 2, 1) := by decide +kernel
theorem dX9_cell_66 : decode cX9_cell 66 = .ok (.ifCond .ne 7, 3) := by decide +kernel
theorem dX9_cell_69 : decode cX9_cell 69 = .ok (.iload_n 3, 1) := by decide +kernel
theorem dX9_cell_70 : decode cX9_cell 70 = .ok (.goto 9, 3) := by decide +kernel
theorem dX9_cell_73 : decode cX9_cell 73 = .ok (.aload_n 0, 1) := by decide +kernel
theorem dX9_cell_74 : decode cX9_cell 74 = .ok (.getfield 16, 3) := by decide +kernel
theorem dX9_cell_77 : decode cX9_cell 77 = .ok (.iload_n 1, 1) := by decide +kernel
theorem dX9_cell_78 : decode cX9_cell 78 = .ok (.iaload, 1) := by decide +kernel
theorem dX9_cell_79 : decode cX9_cell 79 = .ok (.iastore, 1) := by decide +kernel
theorem dX9_cell_80 : decode cX9_cell 80 = .ok (.aload_n 0, 1) := by decide +kernel
theorem dX9_cell_81 : decode cX9_cell 81 = .ok (.getfield 20, 3) := by decide +kernel
theorem dX9_cell_84 : decode cX9_cell 84 = .ok (.iload_n 1, 1) := by decide +kernel
theorem dX9_cell_85 : decode cX9_cell 85 = .ok (.iload_n 2, 1) := by decide +kernel
theorem dX9_cell_86 : decode cX9_cell 86 = .ok (.iconst 1, 1) := by decide +kernel
theorem dX9_cell_87 : decode cX9_cell 87 = .ok (.if_icmp .ne 7, 3) := by decide +kernel
theorem dX9_cell_90 : decode cX9_cell 90 = .ok (.iload_n 3, 1) := by decide +kernel
theorem dX9_cell_91 : decode cX9_cell 91 = .ok (.goto 9, 3) := by decide +kernel
theorem dX9_cell_94 : decode cX9_cell 94 = .ok (.aload_n 0, 1) := by decide +kernel
theorem dX9_cell_95 : decode cX9_cell 95 = .ok (.getfield 20, 3) := by decide +kernel
theorem dX9_cell_98 : decode cX9_cell 98 = .ok (.iload_n 1, 1) := by decide +kernel
theorem dX9_cell_99 : decode cX9_cell 99 = .ok (.iaload, 1) := by decide +kernel
theorem dX9_cell_100 : decode cX9_cell 100 = .ok (.iastore, 1) := by decide +kernel
theorem dX9_cell_101 : decode cX9_cell 101 = .ok (.aload_n 0, 1) := by decide +kernel
theorem dX9_cell_102 : decode cX9_cell 102 = .ok (.getfield 23, 3) := by decide +kernel
theorem dX9_cell_105 : decode cX9_cell 105 = .ok (.iload_n 1, 1) := by decide +kernel
theorem dX9_cell_106 : decode cX9_cell 106 = .ok (.iload_n 2, 1) := by decide +kernel
theorem dX9_cell_107 : decode cX9_cell 107 = .ok (.iconst 2, 1) := by decide +kernel
theorem dX9_cell_108 : decode cX9_cell 108 = .ok (.if_icmp .ne 16, 3) := by decide +kernel
theorem dX9_cell_111 : decode cX9_cell 111 = .ok (.iload_n 3, 1) := by decide +kernel
theorem dX9_cell_112 : decode cX9_cell 112 = .ok (.iconst 1, 1) := by decide +kernel
theorem dX9_cell_113 : decode cX9_cell 113 = .ok (.if_icmp .ne 7, 3) := by decide +kernel
theorem dX9_cell_116 : decode cX9_cell 116 = .ok (.iconst 1, 1) := by decide +kernel
theorem dX9_cell_117 : decode cX9_cell 117 = .ok (.goto 13, 3) := by decide +kernel
theorem dX9_cell_120 : decode cX9_cell 120 = .ok (.iconst 0, 1) := by decide +kernel
theorem dX9_cell_121 : decode cX9_cell 121 = .ok (.goto 9, 3) := by decide +kernel
theorem dX9_cell_124 : decode cX9_cell 124 = .ok (.aload_n 0, 1) := by decide +kernel
theorem dX9_cell_125 : decode cX9_cell 125 = .ok (.getfield 23, 3) := by decide +kernel
theorem dX9_cell_128 : decode cX9_cell 128 = .ok (.iload_n 1, 1) := by decide +kernel
theorem dX9_cell_129 : decode cX9_cell 129 = .ok (.baload, 1) := by decide +kernel
theorem dX9_cell_130 : decode cX9_cell 130 = .ok (.bastore, 1) := by decide +kernel
theorem dX9_cell_131 : decode cX9_cell 131 = .ok (.iload 4, 2) := by decide +kernel
theorem dX9_cell_133 : decode cX9_cell 133 = .ok (.ireturn, 1) := by decide +kernel
theorem dX9_told_0 : decode cX9_told 0 = .ok (.aload_n 0, 1) := by decide +kernel
theorem dX9_told_1 : decode cX9_told 1 = .ok (.iconst 0, 1) := by decide +kernel
theorem dX9_told_2 : decode cX9_told 2 = .ok (.putfield 133, 3) := by decide +kernel
theorem dX9_told_5 : decode cX9_told 5 = .ok (.aload_n 0, 1) := by decide +kernel
theorem dX9_told_6 : decode cX9_told 6 = .ok (.iload_n 1, 1) := by decide +kernel
theorem dX9_told_7 : decode cX9_told 7 = .ok (.invokevirtual 156, 3) := by decide +kernel
theorem dX9_told_10 : decode cX9_told 10 = .ok (.ifCond .eq 21, 3) := by decide +kernel
theorem dX9_told_13 : decode cX9_told 13 = .ok (.iload_n 2, 1) := by decide +kernel
theorem dX9_told_14 : decode cX9_told 14 = .ok (.iconst 0, 1) := by decide +kernel
theorem dX9_told_15 : decode cX9_told 15 = .ok (.iconst 2, 1) := by decide +kernel
theorem dX9_told_16 : decode cX9_told 16 = .ok (.invokestatic 152, 3) := by decide +kernel
theorem dX9_told_19 : decode cX9_told 19 = .ok (.ifCond .eq 12, 3) := by decide +kernel
theorem dX9_told_22 : decode cX9_told 22 = .ok (.aload_n 0, 1) := by decide +kernel
theorem dX9_told_23 : decode cX9_told 23 = .ok (.iload_n 1, 1) := by decide +kernel
theorem dX9_told_24 : decode cX9_told 24 = .ok (.iload_n 2, 1) := by decide +kernel
theorem dX9_told_25 : decode cX9_told 25 = .ok (.invokevirtual 160, 3) := by decide +kernel
theorem dX9_told_28 : decode cX9_told 28 = .ok (.goto 5, 3) := by decide +kernel
theorem dX9_told_31 : decode cX9_told 31 = .ok (.bipush (-3), 2) := by decide +kernel
theorem dX9_told_33 : decode cX9_told 33 = .ok (.ireturn, 1) := by decide +kernel
theorem dX9_isSurvey_0 : decode cX9_isSurvey 0 = .ok (.iload_n 0, 1) := by decide +kernel
theorem dX9_isSurvey_1 : decode cX9_isSurvey 1 = .ok (.iconst 0, 1) := by decide +kernel
theorem dX9_isSurvey_2 : decode cX9_isSurvey 2 = .ok (.iconst 2, 1) := by decide +kernel
theorem dX9_isSurvey_3 : decode cX9_isSurvey 3 = .ok (.invokestatic 152, 3) := by decide +kernel
theorem dX9_isSurvey_6 : decode cX9_isSurvey 6 = .ok (.ireturn, 1) := by decide +kernel
theorem dX9_survey_0 : decode cX9_survey 0 = .ok (.aload_n 0, 1) := by decide +kernel
theorem dX9_survey_1 : decode cX9_survey 1 = .ok (.iconst 0, 1) := by decide +kernel
theorem dX9_survey_2 : decode cX9_survey 2 = .ok (.putfield 133, 3) := by decide +kernel
theorem dX9_survey_5 : decode cX9_survey 5 = .ok (.iload_n 1, 1) := by decide +kernel
theorem dX9_survey_6 : decode cX9_survey 6 = .ok (.invokestatic 164, 3) := by decide +kernel
theorem dX9_survey_9 : decode cX9_survey 9 = .ok (.ifCond .eq 18, 3) := by decide +kernel
theorem dX9_survey_12 : decode cX9_survey 12 = .ok (.iload_n 2, 1) := by decide +kernel
theorem dX9_survey_13 : decode cX9_survey 13 = .ok (.iconst 0, 1) := by decide +kernel
theorem dX9_survey_14 : decode cX9_survey 14 = .ok (.iconst 2, 1) := by decide +kernel
theorem dX9_survey_15 : decode cX9_survey 15 = .ok (.invokestatic 152, 3) := by decide +kernel
theorem dX9_survey_18 : decode cX9_survey 18 = .ok (.ifCond .eq 9, 3) := by decide +kernel
theorem dX9_survey_21 : decode cX9_survey 21 = .ok (.iload_n 3, 1) := by decide +kernel
theorem dX9_survey_22 : decode cX9_survey 22 = .ok (.bipush 80, 2) := by decide +kernel
theorem dX9_survey_24 : decode cX9_survey 24 = .ok (.if_icmp .le 6, 3) := by decide +kernel
theorem dX9_survey_27 : decode cX9_survey 27 = .ok (.bipush (-3), 2) := by decide +kernel
theorem dX9_survey_29 : decode cX9_survey 29 = .ok (.ireturn, 1) := by decide +kernel
theorem dX9_survey_30 : decode cX9_survey 30 = .ok (.iload_n 3, 1) := by decide +kernel
theorem dX9_survey_31 : decode cX9_survey 31 = .ok (.ifCond .ge 6, 3) := by decide +kernel
theorem dX9_survey_34 : decode cX9_survey 34 = .ok (.bipush (-14), 2) := by decide +kernel
theorem dX9_survey_36 : decode cX9_survey 36 = .ok (.ireturn, 1) := by decide +kernel
theorem dX9_survey_37 : decode cX9_survey 37 = .ok (.aload_n 0, 1) := by decide +kernel
theorem dX9_survey_38 : decode cX9_survey 38 = .ok (.getfield 27, 3) := by decide +kernel
theorem dX9_survey_41 : decode cX9_survey 41 = .ok (.iload_n 1, 1) := by decide +kernel
theorem dX9_survey_42 : decode cX9_survey 42 = .ok (.iload_n 2, 1) := by decide +kernel
theorem dX9_survey_43 : decode cX9_survey 43 = .ok (.iastore, 1) := by decide +kernel
theorem dX9_survey_44 : decode cX9_survey 44 = .ok (.aload_n 0, 1) := by decide +kernel
theorem dX9_survey_45 : decode cX9_survey 45 = .ok (.getfield 30, 3) := by decide +kernel
theorem dX9_survey_48 : decode cX9_survey 48 = .ok (.iload_n 1, 1) := by decide +kernel
theorem dX9_survey_49 : decode cX9_survey 49 = .ok (.iload_n 3, 1) := by decide +kernel
theorem dX9_survey_50 : decode cX9_survey 50 = .ok (.iastore, 1) := by decide +kernel
theorem dX9_survey_51 : decode cX9_survey 51 = .ok (.iconst 0, 1) := by decide +kernel
theorem dX9_survey_52 : decode cX9_survey 52 = .ok (.istore 4, 2) := by decide +kernel
theorem dX9_survey_54 : decode cX9_survey 54 = .ok (.iload 4, 2) := by decide +kernel
theorem dX9_survey_56 : decode cX9_survey 56 = .ok (.bipush 80, 2) := by decide +kernel
theorem dX9_survey_58 : decode cX9_survey 58 = .ok (.if_icmp .ge 22, 3) := by decide +kernel
theorem dX9_survey_61 : decode cX9_survey 61 = .ok (.aload_n 0, 1) := by decide +kernel
theorem dX9_survey_62 : decode cX9_survey 62 = .ok (.getfield 33, 3) := by decide +kernel
theorem dX9_survey_65 : decode cX9_survey 65 = .ok (.bipush 80, 2) := by decide +kernel
theorem dX9_survey_67 : decode cX9_survey 67 = .ok (.iload_n 1, 1) := by decide +kernel
theorem dX9_survey_68 : decode cX9_survey 68 = .ok (.imul, 1) := by decide +kernel
theorem dX9_survey_69 : decode cX9_survey 69 = .ok (.iload 4, 2) := by decide +kernel
theorem dX9_survey_71 : decode cX9_survey 71 = .ok (.iadd, 1) := by decide +kernel
theorem dX9_survey_72 : decode cX9_survey 72 = .ok (.iconst 0, 1) := by decide +kernel
theorem dX9_survey_73 : decode cX9_survey 73 = .ok (.iastore, 1) := by decide +kernel
theorem dX9_survey_74 : decode cX9_survey 74 = .ok (.iinc 4 1, 3) := by decide +kernel
theorem dX9_survey_77 : decode cX9_survey 77 = .ok (.goto (-23), 3) := by decide +kernel
theorem dX9_survey_80 : decode cX9_survey 80 = .ok (.iload_n 3, 1) := by decide +kernel
theorem dX9_survey_81 : decode cX9_survey 81 = .ok (.ireturn, 1) := by decide +kernel
theorem dX9_lose_0 : decode cX9_lose 0 = .ok (.aload_n 0, 1) := by decide +kernel
theorem dX9_lose_1 : decode cX9_lose 1 = .ok (.iconst 0, 1) := by decide +kernel
theorem dX9_lose_2 : decode cX9_lose 2 = .ok (.putfield 133, 3) := by decide +kernel
theorem dX9_lose_5 : decode cX9_lose 5 = .ok (.iload_n 1, 1) := by decide +kernel
theorem dX9_lose_6 : decode cX9_lose 6 = .ok (.invokestatic 164, 3) := by decide +kernel
theorem dX9_lose_9 : decode cX9_lose 9 = .ok (.ifCond .ne 6, 3) := by decide +kernel
theorem dX9_lose_12 : decode cX9_lose 12 = .ok (.bipush (-3), 2) := by decide +kernel
theorem dX9_lose_14 : decode cX9_lose 14 = .ok (.ireturn, 1) := by decide +kernel
theorem dX9_lose_15 : decode cX9_lose 15 = .ok (.aload_n 0, 1) := by decide +kernel
theorem dX9_lose_16 : decode cX9_lose 16 = .ok (.getfield 27, 3) := by decide +kernel
theorem dX9_lose_19 : decode cX9_lose 19 = .ok (.iload_n 1, 1) := by decide +kernel
theorem dX9_lose_20 : decode cX9_lose 20 = .ok (.iaload, 1) := by decide +kernel
theorem dX9_lose_21 : decode cX9_lose 21 = .ok (.ifCond .ge 6, 3) := by decide +kernel
theorem dX9_lose_24 : decode cX9_lose 24 = .ok (.bipush (-11), 2) := by decide +kernel
theorem dX9_lose_26 : decode cX9_lose 26 = .ok (.ireturn, 1) := by decide +kernel
theorem dX9_lose_27 : decode cX9_lose 27 = .ok (.aload_n 0, 1) := by decide +kernel
theorem dX9_lose_28 : decode cX9_lose 28 = .ok (.getfield 27, 3) := by decide +kernel
theorem dX9_lose_31 : decode cX9_lose 31 = .ok (.iload_n 1, 1) := by decide +kernel
theorem dX9_lose_32 : decode cX9_lose 32 = .ok (.iconst (-1), 1) := by decide +kernel
theorem dX9_lose_33 : decode cX9_lose 33 = .ok (.iastore, 1) := by decide +kernel
theorem dX9_lose_34 : decode cX9_lose 34 = .ok (.aload_n 0, 1) := by decide +kernel
theorem dX9_lose_35 : decode cX9_lose 35 = .ok (.getfield 30, 3) := by decide +kernel
theorem dX9_lose_38 : decode cX9_lose 38 = .ok (.iload_n 1, 1) := by decide +kernel
theorem dX9_lose_39 : decode cX9_lose 39 = .ok (.iaload, 1) := by decide +kernel
theorem dX9_lose_40 : decode cX9_lose 40 = .ok (.ireturn, 1) := by decide +kernel
theorem dX9_mark_0 : decode cX9_mark 0 = .ok (.aload_n 0, 1) := by decide +kernel
theorem dX9_mark_1 : decode cX9_mark 1 = .ok (.iconst 0, 1) := by decide +kernel
theorem dX9_mark_2 : decode cX9_mark 2 = .ok (.putfield 133, 3) := by decide +kernel
theorem dX9_mark_5 : decode cX9_mark 5 = .ok (.iload_n 1, 1) := by decide +kernel
theorem dX9_mark_6 : decode cX9_mark 6 = .ok (.invokestatic 164, 3) := by decide +kernel
theorem dX9_mark_9 : decode cX9_mark 9 = .ok (.ifCond .ne 6, 3) := by decide +kernel
theorem dX9_mark_12 : decode cX9_mark 12 = .ok (.bipush (-3), 2) := by decide +kernel
theorem dX9_mark_14 : decode cX9_mark 14 = .ok (.ireturn, 1) := by decide +kernel
theorem dX9_mark_15 : decode cX9_mark 15 = .ok (.aload_n 0, 1) := by decide +kernel
theorem dX9_mark_16 : decode cX9_mark 16 = .ok (.getfield 27, 3) := by decide +kernel
theorem dX9_mark_19 : decode cX9_mark 19 = .ok (.iload_n 1, 1) := by decide +kernel
theorem dX9_mark_20 : decode cX9_mark 20 = .ok (.iaload, 1) := by decide +kernel
theorem dX9_mark_21 : decode cX9_mark 21 = .ok (.ifCond .ge 6, 3) := by decide +kernel
theorem dX9_mark_24 : decode cX9_mark 24 = .ok (.bipush (-11), 2) := by decide +kernel
theorem dX9_mark_26 : decode cX9_mark 26 = .ok (.ireturn, 1) := by decide +kernel
theorem dX9_mark_27 : decode cX9_mark 27 = .ok (.iload_n 2, 1) := by decide +kernel
theorem dX9_mark_28 : decode cX9_mark 28 = .ok (.iconst 0, 1) := by decide +kernel
theorem dX9_mark_29 : decode cX9_mark 29 = .ok (.aload_n 0, 1) := by decide +kernel
theorem dX9_mark_30 : decode cX9_mark 30 = .ok (.getfield 30, 3) := by decide +kernel
theorem dX9_mark_33 : decode cX9_mark 33 = .ok (.iload_n 1, 1) := by decide +kernel
theorem dX9_mark_34 : decode cX9_mark 34 = .ok (.iaload, 1) := by decide +kernel
theorem dX9_mark_35 : decode cX9_mark 35 = .ok (.iconst 1, 1) := by decide +kernel
theorem dX9_mark_36 : decode cX9_mark 36 = .ok (.isub, 1) := by decide +kernel
theorem dX9_mark_37 : decode cX9_mark 37 = .ok (.invokestatic 152, 3) := by decide +kernel
theorem dX9_mark_40 : decode cX9_mark 40 = .ok (.ifCond .ne 6, 3) := by decide +kernel
theorem dX9_mark_43 : decode cX9_mark 43 = .ok (.bipush (-13), 2) := by decide +kernel
theorem dX9_mark_45 : decode cX9_mark 45 = .ok (.ireturn, 1) := by decide +kernel
theorem dX9_mark_46 : decode cX9_mark 46 = .ok (.aload_n 0, 1) := by decide +kernel
theorem dX9_mark_47 : decode cX9_mark 47 = .ok (.getfield 33, 3) := by decide +kernel
theorem dX9_mark_50 : decode cX9_mark 50 = .ok (.bipush 80, 2) := by decide +kernel
theorem dX9_mark_52 : decode cX9_mark 52 = .ok (.iload_n 1, 1) := by decide +kernel
theorem dX9_mark_53 : decode cX9_mark 53 = .ok (.imul, 1) := by decide +kernel
theorem dX9_mark_54 : decode cX9_mark 54 = .ok (.iload_n 2, 1) := by decide +kernel
theorem dX9_mark_55 : decode cX9_mark 55 = .ok (.iadd, 1) := by decide +kernel
theorem dX9_mark_56 : decode cX9_mark 56 = .ok (.iaload, 1) := by decide +kernel
theorem dX9_mark_57 : decode cX9_mark 57 = .ok (.istore 4, 2) := by decide +kernel
theorem dX9_mark_59 : decode cX9_mark 59 = .ok (.aload_n 0, 1) := by decide +kernel
theorem dX9_mark_60 : decode cX9_mark 60 = .ok (.getfield 33, 3) := by decide +kernel
theorem dX9_mark_63 : decode cX9_mark 63 = .ok (.bipush 80, 2) := by decide +kernel
theorem dX9_mark_65 : decode cX9_mark 65 = .ok (.iload_n 1, 1) := by decide +kernel
theorem dX9_mark_66 : decode cX9_mark 66 = .ok (.imul, 1) := by decide +kernel
theorem dX9_mark_67 : decode cX9_mark 67 = .ok (.iload_n 2, 1) := by decide +kernel
theorem dX9_mark_68 : decode cX9_mark 68 = .ok (.iadd, 1) := by decide +kernel
theorem dX9_mark_69 : decode cX9_mark 69 = .ok (.aload_n 0, 1) := by decide +kernel
theorem dX9_mark_70 : decode cX9_mark 70 = .ok (.getfield 27, 3) := by decide +kernel
theorem dX9_mark_73 : decode cX9_mark 73 = .ok (.iload_n 1, 1) := by decide +kernel
theorem dX9_mark_74 : decode cX9_mark 74 = .ok (.iaload, 1) := by decide +kernel
theorem dX9_mark_75 : decode cX9_mark 75 = .ok (.ifCond .ne 8, 3) := by decide +kernel
theorem dX9_mark_78 : decode cX9_mark 78 = .ok (.iload_n 3, 1) := by decide +kernel
theorem dX9_mark_79 : decode cX9_mark 79 = .ok (.i2b, 1) := by decide +kernel
theorem dX9_mark_80 : decode cX9_mark 80 = .ok (.goto 19, 3) := by decide +kernel
theorem dX9_mark_83 : decode cX9_mark 83 = .ok (.aload_n 0, 1) := by decide +kernel
theorem dX9_mark_84 : decode cX9_mark 84 = .ok (.getfield 27, 3) := by decide +kernel
theorem dX9_mark_87 : decode cX9_mark 87 = .ok (.iload_n 1, 1) := by decide +kernel
theorem dX9_mark_88 : decode cX9_mark 88 = .ok (.iaload, 1) := by decide +kernel
theorem dX9_mark_89 : decode cX9_mark 89 = .ok (.iconst 1, 1) := by decide +kernel
theorem dX9_mark_90 : decode cX9_mark 90 = .ok (.if_icmp .ne 8, 3) := by decide +kernel
theorem dX9_mark_93 : decode cX9_mark 93 = .ok (.iload_n 3, 1) := by decide +kernel
theorem dX9_mark_94 : decode cX9_mark 94 = .ok (.i2s, 1) := by decide +kernel
theorem dX9_mark_95 : decode cX9_mark 95 = .ok (.goto 4, 3) := by decide +kernel
theorem dX9_mark_98 : decode cX9_mark 98 = .ok (.iload_n 3, 1) := by decide +kernel
theorem dX9_mark_99 : decode cX9_mark 99 = .ok (.iastore, 1) := by decide +kernel
theorem dX9_mark_100 : decode cX9_mark 100 = .ok (.iload 4, 2) := by decide +kernel
theorem dX9_mark_102 : decode cX9_mark 102 = .ok (.ireturn, 1) := by decide +kernel
theorem dX9_copy_0 : decode cX9_copy 0 = .ok (.aload_n 0, 1) := by decide +kernel
theorem dX9_copy_1 : decode cX9_copy 1 = .ok (.iconst 0, 1) := by decide +kernel
theorem dX9_copy_2 : decode cX9_copy 2 = .ok (.putfield 133, 3) := by decide +kernel
theorem dX9_copy_5 : decode cX9_copy 5 = .ok (.iload_n 1, 1) := by decide +kernel
theorem dX9_copy_6 : decode cX9_copy 6 = .ok (.invokestatic 164, 3) := by decide +kernel
theorem dX9_copy_9 : decode cX9_copy 9 = .ok (.ifCond .eq 10, 3) := by decide +kernel
theorem dX9_copy_12 : decode cX9_copy 12 = .ok (.iload_n 3, 1) := by decide +kernel
theorem dX9_copy_13 : decode cX9_copy 13 = .ok (.invokestatic 164, 3) := by decide +kernel
theorem dX9_copy_16 : decode cX9_copy 16 = .ok (.ifCond .ne 6, 3) := by decide +kernel
theorem dX9_copy_19 : decode cX9_copy 19 = .ok (.bipush (-3), 2) := by decide +kernel
theorem dX9_copy_21 : decode cX9_copy 21 = .ok (.ireturn, 1) := by decide +kernel
theorem dX9_copy_22 : decode cX9_copy 22 = .ok (.aload_n 0, 1) := by decide +kernel
theorem dX9_copy_23 : decode cX9_copy 23 = .ok (.getfield 27, 3) := by decide +kernel
theorem dX9_copy_26 : decode cX9_copy 26 = .ok (.iload_n 1, 1) := by decide +kernel
theorem dX9_copy_27 : decode cX9_copy 27 = .ok (.iaload, 1) := by decide +kernel
theorem dX9_copy_28 : decode cX9_copy 28 = .ok (.ifCond .lt 12, 3) := by decide +kernel
theorem dX9_copy_31 : decode cX9_copy 31 = .ok (.aload_n 0, 1) := by decide +kernel
theorem dX9_copy_32 : decode cX9_copy 32 = .ok (.getfield 27, 3) := by decide +kernel
theorem dX9_copy_35 : decode cX9_copy 35 = .ok (.iload_n 3, 1) := by decide +kernel
theorem dX9_copy_36 : decode cX9_copy 36 = .ok (.iaload, 1) := by decide +kernel
theorem dX9_copy_37 : decode cX9_copy 37 = .ok (.ifCond .ge 6, 3) := by decide +kernel
theorem dX9_copy_40 : decode cX9_copy 40 = .ok (.bipush (-11), 2) := by decide +kernel
theorem dX9_copy_42 : decode cX9_copy 42 = .ok (.ireturn, 1) := by decide +kernel
theorem dX9_copy_43 : decode cX9_copy 43 = .ok (.aload_n 0, 1) := by decide +kernel
theorem dX9_copy_44 : decode cX9_copy 44 = .ok (.getfield 27, 3) := by decide +kernel
theorem dX9_copy_47 : decode cX9_copy 47 = .ok (.iload_n 1, 1) := by decide +kernel
theorem dX9_copy_48 : decode cX9_copy 48 = .ok (.iaload, 1) := by decide +kernel
theorem dX9_copy_49 : decode cX9_copy 49 = .ok (.aload_n 0, 1) := by decide +kernel
theorem dX9_copy_50 : decode cX9_copy 50 = .ok (.getfield 27, 3) := by decide +kernel
theorem dX9_copy_53 : decode cX9_copy 53 = .ok (.iload_n 3, 1) := by decide +kernel
theorem dX9_copy_54 : decode cX9_copy 54 = .ok (.iaload, 1) := by decide +kernel
theorem dX9_copy_55 : decode cX9_copy 55 = .ok (.if_icmp .eq 6, 3) := by decide +kernel
theorem dX9_copy_58 : decode cX9_copy 58 = .ok (.bipush (-4), 2) := by decide +kernel
theorem dX9_copy_60 : decode cX9_copy 60 = .ok (.ireturn, 1) := by decide +kernel
theorem dX9_copy_61 : decode cX9_copy 61 = .ok (.iload 5, 2) := by decide +kernel
theorem dX9_copy_63 : decode cX9_copy 63 = .ok (.ifCond .lt 46, 3) := by decide +kernel
theorem dX9_copy_66 : decode cX9_copy 66 = .ok (.iload_n 2, 1) := by decide +kernel
theorem dX9_copy_67 : decode cX9_copy 67 = .ok (.ifCond .lt 42, 3) := by decide +kernel
theorem dX9_copy_70 : decode cX9_copy 70 = .ok (.iload 4, 2) := by decide +kernel
theorem dX9_copy_72 : decode cX9_copy 72 = .ok (.ifCond .lt 37, 3) := by decide +kernel
theorem dX9_copy_75 : decode cX9_copy 75 = .ok (.iload 5, 2) := by decide +kernel
theorem dX9_copy_77 : decode cX9_copy 77 = .ok (.bipush 80, 2) := by decide +kernel
theorem dX9_copy_79 : decode cX9_copy 79 = .ok (.if_icmp .gt 30, 3) := by decide +kernel
theorem dX9_copy_82 : decode cX9_copy 82 = .ok (.iload_n 2, 1) := by decide +kernel
theorem dX9_copy_83 : decode cX9_copy 83 = .ok (.aload_n 0, 1) := by decide +kernel
theorem dX9_copy_84 : decode cX9_copy 84 = .ok (.getfield 30, 3) := by decide +kernel
theorem dX9_copy_87 : decode cX9_copy 87 = .ok (.iload_n 1, 1) := by decide +kernel
theorem dX9_copy_88 : decode cX9_copy 88 = .ok (.iaload, 1) := by decide +kernel
theorem dX9_copy_89 : decode cX9_copy 89 = .ok (.iload 5, 2) := by decide +kernel
theorem dX9_copy_91 : decode cX9_copy 91 = .ok (.isub, 1) := by decide +kernel
theorem dX9_copy_92 : decode cX9_copy 92 = .ok (.if_icmp .gt 17, 3) := by decide +kernel
theorem dX9_copy_95 : decode cX9_copy 95 = .ok (.iload 4, 2) := by decide +kernel
theorem dX9_copy_97 : decode cX9_copy 97 = .ok (.aload_n 0, 1) := by decide +kernel
theorem dX9_copy_98 : decode cX9_copy 98 = .ok (.getfield 30, 3) := by decide +kernel
theorem dX9_copy_101 : decode cX9_copy 101 = .ok (.iload_n 3, 1) := by decide +kernel
theorem dX9_copy_102 : decode cX9_copy 102 = .ok (.iaload, 1) := by decide +kernel
theorem dX9_copy_103 : decode cX9_copy 103 = .ok (.iload 5, 2) := by decide +kernel
theorem dX9_copy_105 : decode cX9_copy 105 = .ok (.isub, 1) := by decide +kernel
theorem dX9_copy_106 : decode cX9_copy 106 = .ok (.if_icmp .le 6, 3) := by decide +kernel
theorem dX9_copy_109 : decode cX9_copy 109 = .ok (.bipush (-13), 2) := by decide +kernel
theorem dX9_copy_111 : decode cX9_copy 111 = .ok (.ireturn, 1) := by decide +kernel
theorem dX9_copy_112 : decode cX9_copy 112 = .ok (.iconst 0, 1) := by decide +kernel
theorem dX9_copy_113 : decode cX9_copy 113 = .ok (.istore 6, 2) := by decide +kernel
theorem dX9_copy_115 : decode cX9_copy 115 = .ok (.iload 6, 2) := by decide +kernel
theorem dX9_copy_117 : decode cX9_copy 117 = .ok (.iload 5, 2) := by decide +kernel
theorem dX9_copy_119 : decode cX9_copy 119 = .ok (.if_icmp .ge 58, 3) := by decide +kernel
theorem dX9_copy_122 : decode cX9_copy 122 = .ok (.iload 4, 2) := by decide +kernel
theorem dX9_copy_124 : decode cX9_copy 124 = .ok (.iload_n 2, 1) := by decide +kernel
theorem dX9_copy_125 : decode cX9_copy 125 = .ok (.if_icmp .le 13, 3) := by decide +kernel
theorem dX9_copy_128 : decode cX9_copy 128 = .ok (.iload 5, 2) := by decide +kernel
theorem dX9_copy_130 : decode cX9_copy 130 = .ok (.iconst 1, 1) := by decide +kernel
theorem dX9_copy_131 : decode cX9_copy 131 = .ok (.isub, 1) := by decide +kernel
theorem dX9_copy_132 : decode cX9_copy 132 = .ok (.iload 6, 2) := by decide +kernel
theorem dX9_copy_134 : decode cX9_copy 134 = .ok (.isub, 1) := by decide +kernel
theorem dX9_copy_135 : decode cX9_copy 135 = .ok (.goto 5, 3) := by decide +kernel
theorem dX9_copy_138 : decode cX9_copy 138 = .ok (.iload 6, 2) := by decide +kernel
theorem dX9_copy_140 : decode cX9_copy 140 = .ok (.istore 7, 2) := by decide +kernel
theorem dX9_copy_142 : decode cX9_copy 142 = .ok (.aload_n 0, 1) := by decide +kernel
theorem dX9_copy_143 : decode cX9_copy 143 = .ok (.getfield 33, 3) := by decide +kernel
theorem dX9_copy_146 : decode cX9_copy 146 = .ok (.bipush 80, 2) := by decide +kernel
theorem dX9_copy_148 : decode cX9_copy 148 = .ok (.iload_n 3, 1) := by decide +kernel
theorem dX9_copy_149 : decode cX9_copy 149 = .ok (.imul, 1) := by decide +kernel
theorem dX9_copy_150 : decode cX9_copy 150 = .ok (.iload 4, 2) := by decide +kernel
theorem dX9_copy_152 : decode cX9_copy 152 = .ok (.iadd, 1) := by decide +kernel
theorem dX9_copy_153 : decode cX9_copy 153 = .ok (.iload 7, 2) := by decide +kernel
theorem dX9_copy_155 : decode cX9_copy 155 = .ok (.iadd, 1) := by decide +kernel
theorem dX9_copy_156 : decode cX9_copy 156 = .ok (.aload_n 0, 1) := by decide +kernel
theorem dX9_copy_157 : decode cX9_copy 157 = .ok (.getfield 33, 3) := by decide +kernel
theorem dX9_copy_160 : decode cX9_copy 160 = .ok (.bipush 80, 2) := by decide +kernel
theorem dX9_copy_162 : decode cX9_copy 162 = .ok (.iload_n 1, 1) := by decide +kernel
theorem dX9_copy_163 : decode cX9_copy 163 = .ok (.imul, 1) := by decide +kernel
theorem dX9_copy_164 : decode cX9_copy 164 = .ok (.iload_n 2, 1) := by decide +kernel
theorem dX9_copy_165 : decode cX9_copy 165 = .ok (.iadd, 1) := by decide +kernel
theorem dX9_copy_166 : decode cX9_copy 166 = .ok (.iload 7, 2) := by decide +kernel
theorem dX9_copy_168 : decode cX9_copy 168 = .ok (.iadd, 1) := by decide +kernel
theorem dX9_copy_169 : decode cX9_copy 169 = .ok (.iaload, 1) := by decide +kernel
theorem dX9_copy_170 : decode cX9_copy 170 = .ok (.iastore, 1) := by decide +kernel
theorem dX9_copy_171 : decode cX9_copy 171 = .ok (.iinc 6 1, 3) := by decide +kernel
theorem dX9_copy_174 : decode cX9_copy 174 = .ok (.goto (-59), 3) := by decide +kernel
theorem dX9_copy_177 : decode cX9_copy 177 = .ok (.iload 5, 2) := by decide +kernel
theorem dX9_copy_179 : decode cX9_copy 179 = .ok (.ireturn, 1) := by decide +kernel
theorem dX9_read_0 : decode cX9_read 0 = .ok (.aload_n 0, 1) := by decide +kernel
theorem dX9_read_1 : decode cX9_read 1 = .ok (.iconst 0, 1) := by decide +kernel
theorem dX9_read_2 : decode cX9_read 2 = .ok (.putfield 133, 3) := by decide +kernel
theorem dX9_read_5 : decode cX9_read 5 = .ok (.iload_n 1, 1) := by decide +kernel
theorem dX9_read_6 : decode cX9_read 6 = .ok (.invokestatic 164, 3) := by decide +kernel
theorem dX9_read_9 : decode cX9_read 9 = .ok (.ifCond .ne 6, 3) := by decide +kernel
theorem dX9_read_12 : decode cX9_read 12 = .ok (.bipush (-3), 2) := by decide +kernel
theorem dX9_read_14 : decode cX9_read 14 = .ok (.ireturn, 1) := by decide +kernel
theorem dX9_read_15 : decode cX9_read 15 = .ok (.aload_n 0, 1) := by decide +kernel
theorem dX9_read_16 : decode cX9_read 16 = .ok (.getfield 27, 3) := by decide +kernel
theorem dX9_read_19 : decode cX9_read 19 = .ok (.iload_n 1, 1) := by decide +kernel
theorem dX9_read_20 : decode cX9_read 20 = .ok (.iaload, 1) := by decide +kernel
theorem dX9_read_21 : decode cX9_read 21 = .ok (.ifCond .ge 6, 3) := by decide +kernel
theorem dX9_read_24 : decode cX9_read 24 = .ok (.bipush (-11), 2) := by decide +kernel
theorem dX9_read_26 : decode cX9_read 26 = .ok (.ireturn, 1) := by decide +kernel
theorem dX9_read_27 : decode cX9_read 27 = .ok (.aload_n 0, 1) := by decide +kernel
theorem dX9_read_28 : decode cX9_read 28 = .ok (.getfield 30, 3) := by decide +kernel
theorem dX9_read_31 : decode cX9_read 31 = .ok (.iload_n 1, 1) := by decide +kernel
theorem dX9_read_32 : decode cX9_read 32 = .ok (.iaload, 1) := by decide +kernel
theorem dX9_read_33 : decode cX9_read 33 = .ok (.aload_n 0, 1) := by decide +kernel
theorem dX9_read_34 : decode cX9_read 34 = .ok (.invokevirtual 148, 3) := by decide +kernel
theorem dX9_read_37 : decode cX9_read 37 = .ok (.if_icmp .ge 12, 3) := by decide +kernel
theorem dX9_read_40 : decode cX9_read 40 = .ok (.aload_n 0, 1) := by decide +kernel
theorem dX9_read_41 : decode cX9_read 41 = .ok (.getfield 30, 3) := by decide +kernel
theorem dX9_read_44 : decode cX9_read 44 = .ok (.iload_n 1, 1) := by decide +kernel
theorem dX9_read_45 : decode cX9_read 45 = .ok (.iaload, 1) := by decide +kernel
theorem dX9_read_46 : decode cX9_read 46 = .ok (.goto 7, 3) := by decide +kernel
theorem dX9_read_49 : decode cX9_read 49 = .ok (.aload_n 0, 1) := by decide +kernel
theorem dX9_read_50 : decode cX9_read 50 = .ok (.invokevirtual 148, 3) := by decide +kernel
theorem dX9_read_53 : decode cX9_read 53 = .ok (.istore_n 2, 1) := by decide +kernel
theorem dX9_read_54 : decode cX9_read 54 = .ok (.iconst 0, 1) := by decide +kernel
theorem dX9_read_55 : decode cX9_read 55 = .ok (.istore_n 3, 1) := by decide +kernel
theorem dX9_read_56 : decode cX9_read 56 = .ok (.iload_n 3, 1) := by decide +kernel
theorem dX9_read_57 : decode cX9_read 57 = .ok (.iload_n 2, 1) := by decide +kernel
theorem dX9_read_58 : decode cX9_read 58 = .ok (.if_icmp .ge 32, 3) := by decide +kernel
theorem dX9_read_61 : decode cX9_read 61 = .ok (.aload_n 0, 1) := by decide +kernel
theorem dX9_read_62 : decode cX9_read 62 = .ok (.getfield 33, 3) := by decide +kernel
theorem dX9_read_65 : decode cX9_read 65 = .ok (.bipush 80, 2) := by decide +kernel
theorem dX9_read_67 : decode cX9_read 67 = .ok (.iload_n 1, 1) := by decide +kernel
theorem dX9_read_68 : decode cX9_read 68 = .ok (.imul, 1) := by decide +kernel
theorem dX9_read_69 : decode cX9_read 69 = .ok (.iload_n 3, 1) := by decide +kernel
theorem dX9_read_70 : decode cX9_read 70 = .ok (.iadd, 1) := by decide +kernel
theorem dX9_read_71 : decode cX9_read 71 = .ok (.iaload, 1) := by decide +kernel
theorem dX9_read_72 : decode cX9_read 72 = .ok (.iconst 0, 1) := by decide +kernel
theorem dX9_read_73 : decode cX9_read 73 = .ok (.bipush 9, 2) := by decide +kernel
theorem dX9_read_75 : decode cX9_read 75 = .ok (.invokestatic 152, 3) := by decide +kernel
theorem dX9_read_78 : decode cX9_read 78 = .ok (.ifCond .ne 6, 3) := by decide +kernel
theorem dX9_read_81 : decode cX9_read 81 = .ok (.bipush (-4), 2) := by decide +kernel
theorem dX9_read_83 : decode cX9_read 83 = .ok (.ireturn, 1) := by decide +kernel
theorem dX9_read_84 : decode cX9_read 84 = .ok (.iinc 3 1, 3) := by decide +kernel
theorem dX9_read_87 : decode cX9_read 87 = .ok (.goto (-31), 3) := by decide +kernel
theorem dX9_read_90 : decode cX9_read 90 = .ok (.iconst 0, 1) := by decide +kernel
theorem dX9_read_91 : decode cX9_read 91 = .ok (.istore_n 3, 1) := by decide +kernel
theorem dX9_read_92 : decode cX9_read 92 = .ok (.iload_n 3, 1) := by decide +kernel
theorem dX9_read_93 : decode cX9_read 93 = .ok (.iload_n 2, 1) := by decide +kernel
theorem dX9_read_94 : decode cX9_read 94 = .ok (.if_icmp .ge 26, 3) := by decide +kernel
theorem dX9_read_97 : decode cX9_read 97 = .ok (.aload_n 0, 1) := by decide +kernel
theorem dX9_read_98 : decode cX9_read 98 = .ok (.getfield 16, 3) := by decide +kernel
theorem dX9_read_101 : decode cX9_read 101 = .ok (.iload_n 3, 1) := by decide +kernel
theorem dX9_read_102 : decode cX9_read 102 = .ok (.aload_n 0, 1) := by decide +kernel
theorem dX9_read_103 : decode cX9_read 103 = .ok (.getfield 33, 3) := by decide +kernel
theorem dX9_read_106 : decode cX9_read 106 = .ok (.bipush 80, 2) := by decide +kernel
theorem dX9_read_108 : decode cX9_read 108 = .ok (.iload_n 1, 1) := by decide +kernel
theorem dX9_read_109 : decode cX9_read 109 = .ok (.imul, 1) := by decide +kernel
theorem dX9_read_110 : decode cX9_read 110 = .ok (.iload_n 3, 1) := by decide +kernel
theorem dX9_read_111 : decode cX9_read 111 = .ok (.iadd, 1) := by decide +kernel
theorem dX9_read_112 : decode cX9_read 112 = .ok (.iaload, 1) := by decide +kernel
theorem dX9_read_113 : decode cX9_read 113 = .ok (.iastore, 1) := by decide +kernel
theorem dX9_read_114 : decode cX9_read 114 = .ok (.iinc 3 1, 3) := by decide +kernel
theorem dX9_read_117 : decode cX9_read 117 = .ok (.goto (-25), 3) := by decide +kernel
theorem dX9_read_120 : decode cX9_read 120 = .ok (.iload_n 2, 1) := by decide +kernel
theorem dX9_read_121 : decode cX9_read 121 = .ok (.ireturn, 1) := by decide +kernel
theorem dX9_priceOf_0 : decode cX9_priceOf 0 = .ok (.aload_n 0, 1) := by decide +kernel
theorem dX9_priceOf_1 : decode cX9_priceOf 1 = .ok (.getfield 23, 3) := by decide +kernel
theorem dX9_priceOf_4 : decode cX9_priceOf 4 = .ok (.iload_n 1, 1) := by decide +kernel
theorem dX9_priceOf_5 : decode cX9_priceOf 5 = .ok (.baload, 1) := by decide +kernel
theorem dX9_priceOf_6 : decode cX9_priceOf 6 = .ok (.ifCond .eq 7, 3) := by decide +kernel
theorem dX9_priceOf_9 : decode cX9_priceOf 9 = .ok (.iconst 1, 1) := by decide +kernel
theorem dX9_priceOf_10 : decode cX9_priceOf 10 = .ok (.goto 15, 3) := by decide +kernel
theorem dX9_priceOf_13 : decode cX9_priceOf 13 = .ok (.bipush 100, 2) := by decide +kernel
theorem dX9_priceOf_15 : decode cX9_priceOf 15 = .ok (.aload_n 0, 1) := by decide +kernel
theorem dX9_priceOf_16 : decode cX9_priceOf 16 = .ok (.getfield 16, 3) := by decide +kernel
theorem dX9_priceOf_19 : decode cX9_priceOf 19 = .ok (.iload_n 1, 1) := by decide +kernel
theorem dX9_priceOf_20 : decode cX9_priceOf 20 = .ok (.iaload, 1) := by decide +kernel
theorem dX9_priceOf_21 : decode cX9_priceOf 21 = .ok (.imul, 1) := by decide +kernel
theorem dX9_priceOf_22 : decode cX9_priceOf 22 = .ok (.bipush 101, 2) := by decide +kernel
theorem dX9_priceOf_24 : decode cX9_priceOf 24 = .ok (.iadd, 1) := by decide +kernel
theorem dX9_priceOf_25 : decode cX9_priceOf 25 = .ok (.ireturn, 1) := by decide +kernel
theorem dX9_findPrices_0 : decode cX9_findPrices 0 = .ok (.iconst 0, 1) := by decide +kernel
theorem dX9_findPrices_1 : decode cX9_findPrices 1 = .ok (.istore_n 2, 1) := by decide +kernel
theorem dX9_findPrices_2 : decode cX9_findPrices 2 = .ok (.iload_n 2, 1) := by decide +kernel
theorem dX9_findPrices_3 : decode cX9_findPrices 3 = .ok (.aload_n 0, 1) := by decide +kernel
theorem dX9_findPrices_4 : decode cX9_findPrices 4 = .ok (.invokevirtual 148, 3) := by decide +kernel
theorem dX9_findPrices_7 : decode cX9_findPrices 7 = .ok (.if_icmp .ge 30, 3) := by decide +kernel
theorem dX9_findPrices_10 : decode cX9_findPrices 10 = .ok (.aload_n 0, 1) := by decide +kernel
theorem dX9_findPrices_11 : decode cX9_findPrices 11 = .ok (.getfield 84, 3) := by decide +kernel
theorem dX9_findPrices_14 : decode cX9_findPrices 14 = .ok (.iload_n 2, 1) := by decide +kernel
theorem dX9_findPrices_15 : decode cX9_findPrices 15 = .ok (.iload_n 2, 1) := by decide +kernel
theorem dX9_findPrices_16 : decode cX9_findPrices 16 = .ok (.iload_n 1, 1) := by decide +kernel
theorem dX9_findPrices_17 : decode cX9_findPrices 17 = .ok (.if_icmp .ne 11, 3) := by decide +kernel
theorem dX9_findPrices_20 : decode cX9_findPrices 20 = .ok (.aload_n 0, 1) := by decide +kernel
theorem dX9_findPrices_21 : decode cX9_findPrices 21 = .ok (.iload_n 2, 1) := by decide +kernel
theorem dX9_findPrices_22 : decode cX9_findPrices 22 = .ok (.invokevirtual 167, 3) := by decide +kernel
theorem dX9_findPrices_25 : decode cX9_findPrices 25 = .ok (.goto 5, 3) := by decide +kernel
theorem dX9_findPrices_28 : decode cX9_findPrices 28 = .ok (.ldc 171, 2) := by decide +kernel
theorem dX9_findPrices_30 : decode cX9_findPrices 30 = .ok (.iastore, 1) := by decide +kernel
theorem dX9_findPrices_31 : decode cX9_findPrices 31 = .ok (.iinc 2 1, 3) := by decide +kernel
theorem dX9_findPrices_34 : decode cX9_findPrices 34 = .ok (.goto (-32), 3) := by decide +kernel
theorem dX9_findPrices_37 : decode cX9_findPrices 37 = .ok (.iconst 1, 1) := by decide +kernel
theorem dX9_findPrices_38 : decode cX9_findPrices 38 = .ok (.istore_n 2, 1) := by decide +kernel
theorem dX9_findPrices_39 : decode cX9_findPrices 39 = .ok (.iload_n 2, 1) := by decide +kernel
theorem dX9_findPrices_40 : decode cX9_findPrices 40 = .ok (.ifCond .eq 130, 3) := by decide +kernel
theorem dX9_findPrices_43 : decode cX9_findPrices 43 = .ok (.iconst 0, 1) := by decide +kernel
theorem dX9_findPrices_44 : decode cX9_findPrices 44 = .ok (.istore_n 2, 1) := by decide +kernel
theorem dX9_findPrices_45 : decode cX9_findPrices 45 = .ok (.iconst 0, 1) := by decide +kernel
theorem dX9_findPrices_46 : decode cX9_findPrices 46 = .ok (.istore_n 3, 1) := by decide +kernel
theorem dX9_findPrices_47 : decode cX9_findPrices 47 = .ok (.iload_n 3, 1) := by decide +kernel
theorem dX9_findPrices_48 : decode cX9_findPrices 48 = .ok (.aload_n 0, 1) := by decide +kernel
theorem dX9_findPrices_49 : decode cX9_findPrices 49 = .ok (.invokevirtual 148, 3) := by decide +kernel
theorem dX9_findPrices_52 : decode cX9_findPrices 52 = .ok (.if_icmp .ge 115, 3) := by decide +kernel
theorem dX9_findPrices_55 : decode cX9_findPrices 55 = .ok (.iconst 0, 1) := by decide +kernel
theorem dX9_findPrices_56 : decode cX9_findPrices 56 = .ok (.istore 4, 2) := by decide +kernel
theorem dX9_findPrices_58 : decode cX9_findPrices 58 = .ok (.iload 4, 2) := by decide +kernel
theorem dX9_findPrices_60 : decode cX9_findPrices 60 = .ok (.iconst 4, 1) := by decide +kernel
theorem dX9_findPrices_61 : decode cX9_findPrices 61 = .ok (.if_icmp .ge 100, 3) := by decide +kernel
theorem dX9_findPrices_64 : decode cX9_findPrices 64 = .ok (.aload_n 0, 1) := by decide +kernel
theorem dX9_findPrices_65 : decode cX9_findPrices 65 = .ok (.getfield 20, 3) := by decide +kernel
theorem dX9_findPrices_68 : decode cX9_findPrices 68 = .ok (.iload_n 3, 1) := by decide +kernel
theorem dX9_findPrices_69 : decode cX9_findPrices 69 = .ok (.iaload, 1) := by decide +kernel
theorem dX9_findPrices_70 : decode cX9_findPrices 70 = .ok (.iconst 2, 1) := by decide +kernel
theorem dX9_findPrices_71 : decode cX9_findPrices 71 = .ok (.if_icmp .eq 90, 3) := by decide +kernel
theorem dX9_findPrices_74 : decode cX9_findPrices 74 = .ok (.aload_n 0, 1) := by decide +kernel
theorem dX9_findPrices_75 : decode cX9_findPrices 75 = .ok (.iload_n 3, 1) := by decide +kernel
theorem dX9_findPrices_76 : decode cX9_findPrices 76 = .ok (.iload 4, 2) := by decide +kernel
theorem dX9_findPrices_78 : decode cX9_findPrices 78 = .ok (.invokevirtual 172, 3) := by decide +kernel
theorem dX9_findPrices_81 : decode cX9_findPrices 81 = .ok (.istore 5, 2) := by decide +kernel
theorem dX9_findPrices_83 : decode cX9_findPrices 83 = .ok (.iload 5, 2) := by decide +kernel
theorem dX9_findPrices_85 : decode cX9_findPrices 85 = .ok (.iconst (-1), 1) := by decide +kernel
theorem dX9_findPrices_86 : decode cX9_findPrices 86 = .ok (.if_icmp .eq 69, 3) := by decide +kernel
theorem dX9_findPrices_89 : decode cX9_findPrices 89 = .ok (.aload_n 0, 1) := by decide +kernel
theorem dX9_findPrices_90 : decode cX9_findPrices 90 = .ok (.getfield 20, 3) := by decide +kernel
theorem dX9_findPrices_93 : decode cX9_findPrices 93 = .ok (.iload 5, 2) := by decide +kernel
theorem dX9_findPrices_95 : decode cX9_findPrices 95 = .ok (.iaload, 1) := by decide +kernel
theorem dX9_findPrices_96 : decode cX9_findPrices 96 = .ok (.iconst 2, 1) := by decide +kernel
theorem dX9_findPrices_97 : decode cX9_findPrices 97 = .ok (.if_icmp .eq 58, 3) := by decide +kernel
theorem dX9_findPrices_100 : decode cX9_findPrices 100 = .ok (.aload_n 0, 1) := by decide +kernel
theorem dX9_findPrices_101 : decode cX9_findPrices 101 = .ok (.getfield 84, 3) := by decide +kernel
theorem dX9_findPrices_104 : decode cX9_findPrices 104 = .ok (.iload 5, 2) := by decide +kernel
theorem dX9_findPrices_106 : decode cX9_findPrices 106 = .ok (.iaload, 1) := by decide +kernel
theorem dX9_findPrices_107 : decode cX9_findPrices 107 = .ok (.ldc 171, 2) := by decide +kernel
theorem dX9_findPrices_109 : decode cX9_findPrices 109 = .ok (.if_icmp .ge 46, 3) := by decide +kernel
theorem dX9_findPrices_112 : decode cX9_findPrices 112 = .ok (.aload_n 0, 1) := by decide +kernel
theorem dX9_findPrices_113 : decode cX9_findPrices 113 = .ok (.getfield 84, 3) := by decide +kernel
theorem dX9_findPrices_116 : decode cX9_findPrices 116 = .ok (.iload 5, 2) := by decide +kernel
theorem dX9_findPrices_118 : decode cX9_findPrices 118 = .ok (.iaload, 1) := by decide +kernel
theorem dX9_findPrices_119 : decode cX9_findPrices 119 = .ok (.aload_n 0, 1) := by decide +kernel
theorem dX9_findPrices_120 : decode cX9_findPrices 120 = .ok (.iload_n 3, 1) := by decide +kernel
theorem dX9_findPrices_121 : decode cX9_findPrices 121 = .ok (.invokevirtual 167, 3) := by decide +kernel
theorem dX9_findPrices_124 : decode cX9_findPrices 124 = .ok (.iadd, 1) := by decide +kernel
theorem dX9_findPrices_125 : decode cX9_findPrices 125 = .ok (.aload_n 0, 1) := by decide +kernel
theorem dX9_findPrices_126 : decode cX9_findPrices 126 = .ok (.getfield 84, 3) := by decide +kernel
theorem dX9_findPrices_129 : decode cX9_findPrices 129 = .ok (.iload_n 3, 1) := by decide +kernel
theorem dX9_findPrices_130 : decode cX9_findPrices 130 = .ok (.iaload, 1) := by decide +kernel
theorem dX9_findPrices_131 : decode cX9_findPrices 131 = .ok (.if_icmp .ge 24, 3) := by decide +kernel
theorem dX9_findPrices_134 : decode cX9_findPrices 134 = .ok (.aload_n 0, 1) := by decide +kernel
theorem dX9_findPrices_135 : decode cX9_findPrices 135 = .ok (.getfield 84, 3) := by decide +kernel
theorem dX9_findPrices_138 : decode cX9_findPrices 138 = .ok (.iload_n 3, 1) := by decide +kernel
theorem dX9_findPrices_139 : decode cX9_findPrices 139 = .ok (.aload_n 0, 1) := by decide +kernel
theorem dX9_findPrices_140 : decode cX9_findPrices 140 = .ok (.getfield 84, 3) := by decide +kernel
theorem dX9_findPrices_143 : decode cX9_findPrices 143 = .ok (.iload 5, 2) := by decide +kernel
theorem dX9_findPrices_145 : decode cX9_findPrices 145 = .ok (.iaload, 1) := by decide +kernel
theorem dX9_findPrices_146 : decode cX9_findPrices 146 = .ok (.aload_n 0, 1) := by decide +kernel
theorem dX9_findPrices_147 : decode cX9_findPrices 147 = .ok (.iload_n 3, 1) := by decide +kernel
theorem dX9_findPrices_148 : decode cX9_findPrices 148 = .ok (.invokevirtual 167, 3) := by decide +kernel
theorem dX9_findPrices_151 : decode cX9_findPrices 151 = .ok (.iadd, 1) := by decide +kernel
theorem dX9_findPrices_152 : decode cX9_findPrices 152 = .ok (.iastore, 1) := by decide +kernel
theorem dX9_findPrices_153 : decode cX9_findPrices 153 = .ok (.iconst 1, 1) := by decide +kernel
theorem dX9_findPrices_154 : decode cX9_findPrices 154 = .ok (.istore_n 2, 1) := by decide +kernel
theorem dX9_findPrices_155 : decode cX9_findPrices 155 = .ok (.iinc 4 1, 3) := by decide +kernel
theorem dX9_findPrices_158 : decode cX9_findPrices 158 = .ok (.goto (-100), 3) := by decide +kernel
theorem dX9_findPrices_161 : decode cX9_findPrices 161 = .ok (.iinc 3 1, 3) := by decide +kernel
theorem dX9_findPrices_164 : decode cX9_findPrices 164 = .ok (.goto (-117), 3) := by decide +kernel
theorem dX9_findPrices_167 : decode cX9_findPrices 167 = .ok (.goto (-128), 3) := by decide +kernel
theorem dX9_findPrices_170 : decode cX9_findPrices 170 = .ok (.return_, 1) := by decide +kernel
theorem dX9_cameFrom_0 : decode cX9_cameFrom 0 = .ok (.iconst (-1), 1) := by decide +kernel
theorem dX9_cameFrom_1 : decode cX9_cameFrom 1 = .ok (.istore_n 2, 1) := by decide +kernel
theorem dX9_cameFrom_2 : decode cX9_cameFrom 2 = .ok (.iconst 0, 1) := by decide +kernel
theorem dX9_cameFrom_3 : decode cX9_cameFrom 3 = .ok (.istore_n 3, 1) := by decide +kernel
theorem dX9_cameFrom_4 : decode cX9_cameFrom 4 = .ok (.iload_n 3, 1) := by decide +kernel
theorem dX9_cameFrom_5 : decode cX9_cameFrom 5 = .ok (.iconst 4, 1) := by decide +kernel
theorem dX9_cameFrom_6 : decode cX9_cameFrom 6 = .ok (.if_icmp .ge 70, 3) := by decide +kernel
theorem dX9_cameFrom_9 : decode cX9_cameFrom 9 = .ok (.aload_n 0, 1) := by decide +kernel
theorem dX9_cameFrom_10 : decode cX9_cameFrom 10 = .ok (.iload_n 1, 1) := by decide +kernel
theorem dX9_cameFrom_11 : decode cX9_cameFrom 11 = .ok (.iload_n 3, 1) := by decide +kernel
theorem dX9_cameFrom_12 : decode cX9_cameFrom 12 = .ok (.invokevirtual 172, 3) := by decide +kernel
theorem dX9_cameFrom_15 : decode cX9_cameFrom 15 = .ok (.istore 4, 2) := by decide +kernel
theorem dX9_cameFrom_17 : decode cX9_cameFrom 17 = .ok (.iload 4, 2) := by decide +kernel
theorem dX9_cameFrom_19 : decode cX9_cameFrom 19 = .ok (.iconst (-1), 1) := by decide +kernel
theorem dX9_cameFrom_20 : decode cX9_cameFrom 20 = .ok (.if_icmp .eq 50, 3) := by decide +kernel
theorem dX9_cameFrom_23 : decode cX9_cameFrom 23 = .ok (.aload_n 0, 1) := by decide +kernel
theorem dX9_cameFrom_24 : decode cX9_cameFrom 24 = .ok (.getfield 20, 3) := by decide +kernel
theorem dX9_cameFrom_27 : decode cX9_cameFrom 27 = .ok (.iload 4, 2) := by decide +kernel
theorem dX9_cameFrom_29 : decode cX9_cameFrom 29 = .ok (.iaload, 1) := by decide +kernel
theorem dX9_cameFrom_30 : decode cX9_cameFrom 30 = .ok (.iconst 2, 1) := by decide +kernel
theorem dX9_cameFrom_31 : decode cX9_cameFrom 31 = .ok (.if_icmp .eq 39, 3) := by decide +kernel
theorem dX9_cameFrom_34 : decode cX9_cameFrom 34 = .ok (.aload_n 0, 1) := by decide +kernel
theorem dX9_cameFrom_35 : decode cX9_cameFrom 35 = .ok (.getfield 84, 3) := by decide +kernel
theorem dX9_cameFrom_38 : decode cX9_cameFrom 38 = .ok (.iload 4, 2) := by decide +kernel
theorem dX9_cameFrom_40 : decode cX9_cameFrom 40 = .ok (.iaload, 1) := by decide +kernel
theorem dX9_cameFrom_41 : decode cX9_cameFrom 41 = .ok (.aload_n 0, 1) := by decide +kernel
theorem dX9_cameFrom_42 : decode cX9_cameFrom 42 = .ok (.getfield 84, 3) := by decide +kernel
theorem dX9_cameFrom_45 : decode cX9_cameFrom 45 = .ok (.iload_n 1, 1) := by decide +kernel
theorem dX9_cameFrom_46 : decode cX9_cameFrom 46 = .ok (.iaload, 1) := by decide +kernel
theorem dX9_cameFrom_47 : decode cX9_cameFrom 47 = .ok (.aload_n 0, 1) := by decide +kernel
theorem dX9_cameFrom_48 : decode cX9_cameFrom 48 = .ok (.iload_n 1, 1) := by decide +kernel
theorem dX9_cameFrom_49 : decode cX9_cameFrom 49 = .ok (.invokevirtual 167, 3) := by decide +kernel
theorem dX9_cameFrom_52 : decode cX9_cameFrom 52 = .ok (.isub, 1) := by decide +kernel
theorem dX9_cameFrom_53 : decode cX9_cameFrom 53 = .ok (.if_icmp .ne 17, 3) := by decide +kernel
theorem dX9_cameFrom_56 : decode cX9_cameFrom 56 = .ok (.iload_n 2, 1) := by decide +kernel
theorem dX9_cameFrom_57 : decode cX9_cameFrom 57 = .ok (.iconst (-1), 1) := by decide +kernel
theorem dX9_cameFrom_58 : decode cX9_cameFrom 58 = .ok (.if_icmp .eq 9, 3) := by decide +kernel
theorem dX9_cameFrom_61 : decode cX9_cameFrom 61 = .ok (.iload 4, 2) := by decide +kernel
theorem dX9_cameFrom_63 : decode cX9_cameFrom 63 = .ok (.iload_n 2, 1) := by decide +kernel
theorem dX9_cameFrom_64 : decode cX9_cameFrom 64 = .ok (.if_icmp .ge 6, 3) := by decide +kernel
theorem dX9_cameFrom_67 : decode cX9_cameFrom 67 = .ok (.iload 4, 2) := by decide +kernel
theorem dX9_cameFrom_69 : decode cX9_cameFrom 69 = .ok (.istore_n 2, 1) := by decide +kernel
theorem dX9_cameFrom_70 : decode cX9_cameFrom 70 = .ok (.iinc 3 1, 3) := by decide +kernel
theorem dX9_cameFrom_73 : decode cX9_cameFrom 73 = .ok (.goto (-69), 3) := by decide +kernel
theorem dX9_cameFrom_76 : decode cX9_cameFrom 76 = .ok (.iload_n 2, 1) := by decide +kernel
theorem dX9_cameFrom_77 : decode cX9_cameFrom 77 = .ok (.ireturn, 1) := by decide +kernel
theorem dX9_road_0 : decode cX9_road 0 = .ok (.aload_n 0, 1) := by decide +kernel
theorem dX9_road_1 : decode cX9_road 1 = .ok (.iconst 0, 1) := by decide +kernel
theorem dX9_road_2 : decode cX9_road 2 = .ok (.putfield 133, 3) := by decide +kernel
theorem dX9_road_5 : decode cX9_road 5 = .ok (.aload_n 0, 1) := by decide +kernel
theorem dX9_road_6 : decode cX9_road 6 = .ok (.iload_n 1, 1) := by decide +kernel
theorem dX9_road_7 : decode cX9_road 7 = .ok (.invokevirtual 156, 3) := by decide +kernel
theorem dX9_road_10 : decode cX9_road 10 = .ok (.ifCond .eq 16, 3) := by decide +kernel
theorem dX9_road_13 : decode cX9_road 13 = .ok (.aload_n 0, 1) := by decide +kernel
theorem dX9_road_14 : decode cX9_road 14 = .ok (.iload_n 2, 1) := by decide +kernel
theorem dX9_road_15 : decode cX9_road 15 = .ok (.invokevirtual 156, 3) := by decide +kernel
theorem dX9_road_18 : decode cX9_road 18 = .ok (.ifCond .eq 8, 3) := by decide +kernel
theorem dX9_road_21 : decode cX9_road 21 = .ok (.iload_n 1, 1) := by decide +kernel
theorem dX9_road_22 : decode cX9_road 22 = .ok (.iload_n 2, 1) := by decide +kernel
theorem dX9_road_23 : decode cX9_road 23 = .ok (.if_icmp .ne 6, 3) := by decide +kernel
theorem dX9_road_26 : decode cX9_road 26 = .ok (.bipush (-3), 2) := by decide +kernel
theorem dX9_road_28 : decode cX9_road 28 = .ok (.ireturn, 1) := by decide +kernel
theorem dX9_road_29 : decode cX9_road 29 = .ok (.aload_n 0, 1) := by decide +kernel
theorem dX9_road_30 : decode cX9_road 30 = .ok (.getfield 20, 3) := by decide +kernel
theorem dX9_road_33 : decode cX9_road 33 = .ok (.iload_n 1, 1) := by decide +kernel
theorem dX9_road_34 : decode cX9_road 34 = .ok (.iaload, 1) := by decide +kernel
theorem dX9_road_35 : decode cX9_road 35 = .ok (.iconst 2, 1) := by decide +kernel
theorem dX9_road_36 : decode cX9_road 36 = .ok (.if_icmp .eq 13, 3) := by decide +kernel
theorem dX9_road_39 : decode cX9_road 39 = .ok (.aload_n 0, 1) := by decide +kernel
theorem dX9_road_40 : decode cX9_road 40 = .ok (.getfield 20, 3) := by decide +kernel
theorem dX9_road_43 : decode cX9_road 43 = .ok (.iload_n 2, 1) := by decide +kernel
theorem dX9_road_44 : decode cX9_road 44 = .ok (.iaload, 1) := by decide +kernel
theorem dX9_road_45 : decode cX9_road 45 = .ok (.iconst 2, 1) := by decide +kernel
theorem dX9_road_46 : decode cX9_road 46 = .ok (.if_icmp .ne 6, 3) := by decide +kernel
theorem dX9_road_49 : decode cX9_road 49 = .ok (.bipush (-4), 2) := by decide +kernel
theorem dX9_road_51 : decode cX9_road 51 = .ok (.ireturn, 1) := by decide +kernel
theorem dX9_road_52 : decode cX9_road 52 = .ok (.aload_n 0, 1) := by decide +kernel
theorem dX9_road_53 : decode cX9_road 53 = .ok (.iload_n 1, 1) := by decide +kernel
theorem dX9_road_54 : decode cX9_road 54 = .ok (.invokevirtual 175, 3) := by decide +kernel
theorem dX9_road_57 : decode cX9_road 57 = .ok (.aload_n 0, 1) := by decide +kernel
theorem dX9_road_58 : decode cX9_road 58 = .ok (.getfield 84, 3) := by decide +kernel
theorem dX9_road_61 : decode cX9_road 61 = .ok (.iload_n 2, 1) := by decide +kernel
theorem dX9_road_62 : decode cX9_road 62 = .ok (.iaload, 1) := by decide +kernel
theorem dX9_road_63 : decode cX9_road 63 = .ok (.ldc 171, 2) := by decide +kernel
theorem dX9_road_65 : decode cX9_road 65 = .ok (.if_icmp .ne 6, 3) := by decide +kernel
theorem dX9_road_68 : decode cX9_road 68 = .ok (.bipush (-4), 2) := by decide +kernel
theorem dX9_road_70 : decode cX9_road 70 = .ok (.ireturn, 1) := by decide +kernel
theorem dX9_road_71 : decode cX9_road 71 = .ok (.iconst 0, 1) := by decide +kernel
theorem dX9_road_72 : decode cX9_road 72 = .ok (.istore_n 3, 1) := by decide +kernel
theorem dX9_road_73 : decode cX9_road 73 = .ok (.iload_n 2, 1) := by decide +kernel
theorem dX9_road_74 : decode cX9_road 74 = .ok (.istore 4, 2) := by decide +kernel
theorem dX9_road_76 : decode cX9_road 76 = .ok (.iconst 1, 1) := by decide +kernel
theorem dX9_road_77 : decode cX9_road 77 = .ok (.istore 5, 2) := by decide +kernel
theorem dX9_road_79 : decode cX9_road 79 = .ok (.iload 5, 2) := by decide +kernel
theorem dX9_road_81 : decode cX9_road 81 = .ok (.ifCond .eq 48, 3) := by decide +kernel
theorem dX9_road_84 : decode cX9_road 84 = .ok (.aload_n 0, 1) := by decide +kernel
theorem dX9_road_85 : decode cX9_road 85 = .ok (.getfield 87, 3) := by decide +kernel
theorem dX9_road_88 : decode cX9_road 88 = .ok (.iload_n 3, 1) := by decide +kernel
theorem dX9_road_89 : decode cX9_road 89 = .ok (.iload 4, 2) := by decide +kernel
theorem dX9_road_91 : decode cX9_road 91 = .ok (.iastore, 1) := by decide +kernel
theorem dX9_road_92 : decode cX9_road 92 = .ok (.iinc 3 1, 3) := by decide +kernel
theorem dX9_road_95 : decode cX9_road 95 = .ok (.iload 4, 2) := by decide +kernel
theorem dX9_road_97 : decode cX9_road 97 = .ok (.iload_n 1, 1) := by decide +kernel
theorem dX9_road_98 : decode cX9_road 98 = .ok (.if_icmp .eq 7, 3) := by decide +kernel
theorem dX9_road_101 : decode cX9_road 101 = .ok (.iconst 1, 1) := by decide +kernel
theorem dX9_road_102 : decode cX9_road 102 = .ok (.goto 4, 3) := by decide +kernel
theorem dX9_road_105 : decode cX9_road 105 = .ok (.iconst 0, 1) := by decide +kernel
theorem dX9_road_106 : decode cX9_road 106 = .ok (.istore 5, 2) := by decide +kernel
theorem dX9_road_108 : decode cX9_road 108 = .ok (.iload 5, 2) := by decide +kernel
theorem dX9_road_110 : decode cX9_road 110 = .ok (.ifCond .eq 12, 3) := by decide +kernel
theorem dX9_road_113 : decode cX9_road 113 = .ok (.aload_n 0, 1) := by decide +kernel
theorem dX9_road_114 : decode cX9_road 114 = .ok (.iload 4, 2) := by decide +kernel
theorem dX9_road_116 : decode cX9_road 116 = .ok (.invokevirtual 179, 3) := by decide +kernel
theorem dX9_road_119 : decode cX9_road 119 = .ok (.goto 5, 3) := by decide +kernel
theorem dX9_road_122 : decode cX9_road 122 = .ok (.iload 4, 2) := by decide +kernel
theorem dX9_road_124 : decode cX9_road 124 = .ok (.istore 4, 2) := by decide +kernel
theorem dX9_road_126 : decode cX9_road 126 = .ok (.goto (-47), 3) := by decide +kernel
theorem dX9_road_129 : decode cX9_road 129 = .ok (.iconst 0, 1) := by decide +kernel
theorem dX9_road_130 : decode cX9_road 130 = .ok (.istore 6, 2) := by decide +kernel
theorem dX9_road_132 : decode cX9_road 132 = .ok (.iconst 0, 1) := by decide +kernel
theorem dX9_road_133 : decode cX9_road 133 = .ok (.istore 7, 2) := by decide +kernel
theorem dX9_road_135 : decode cX9_road 135 = .ok (.iload 7, 2) := by decide +kernel
theorem dX9_road_137 : decode cX9_road 137 = .ok (.iload_n 3, 1) := by decide +kernel
theorem dX9_road_138 : decode cX9_road 138 = .ok (.if_icmp .ge 47, 3) := by decide +kernel
theorem dX9_road_141 : decode cX9_road 141 = .ok (.iload 6, 2) := by decide +kernel
theorem dX9_road_143 : decode cX9_road 143 = .ok (.aload_n 0, 1) := by decide +kernel
theorem dX9_road_144 : decode cX9_road 144 = .ok (.getfield 23, 3) := by decide +kernel
theorem dX9_road_147 : decode cX9_road 147 = .ok (.aload_n 0, 1) := by decide +kernel
theorem dX9_road_148 : decode cX9_road 148 = .ok (.getfield 87, 3) := by decide +kernel
theorem dX9_road_151 : decode cX9_road 151 = .ok (.iload 7, 2) := by decide +kernel
theorem dX9_road_153 : decode cX9_road 153 = .ok (.iaload, 1) := by decide +kernel
theorem dX9_road_154 : decode cX9_road 154 = .ok (.baload, 1) := by decide +kernel
theorem dX9_road_155 : decode cX9_road 155 = .ok (.ifCond .eq 7, 3) := by decide +kernel
theorem dX9_road_158 : decode cX9_road 158 = .ok (.iconst 0, 1) := by decide +kernel
theorem dX9_road_159 : decode cX9_road 159 = .ok (.goto 4, 3) := by decide +kernel
theorem dX9_road_162 : decode cX9_road 162 = .ok (.iconst 1, 1) := by decide +kernel
theorem dX9_road_163 : decode cX9_road 163 = .ok (.iadd, 1) := by decide +kernel
theorem dX9_road_164 : decode cX9_road 164 = .ok (.istore 6, 2) := by decide +kernel
theorem dX9_road_166 : decode cX9_road 166 = .ok (.aload_n 0, 1) := by decide +kernel
theorem dX9_road_167 : decode cX9_road 167 = .ok (.getfield 23, 3) := by decide +kernel
theorem dX9_road_170 : decode cX9_road 170 = .ok (.aload_n 0, 1) := by decide +kernel
theorem dX9_road_171 : decode cX9_road 171 = .ok (.getfield 87, 3) := by decide +kernel
theorem dX9_road_174 : decode cX9_road 174 = .ok (.iload 7, 2) := by decide +kernel
theorem dX9_road_176 : decode cX9_road 176 = .ok (.iaload, 1) := by decide +kernel
theorem dX9_road_177 : decode cX9_road 177 = .ok (.iconst 1, 1) := by decide +kernel
theorem dX9_road_178 : decode cX9_road 178 = .ok (.bastore, 1) := by decide +kernel
theorem dX9_road_179 : decode cX9_road 179 = .ok (.iinc 7 1, 3) := by decide +kernel
theorem dX9_road_182 : decode cX9_road 182 = .ok (.goto (-47), 3) := by decide +kernel
theorem dX9_road_185 : decode cX9_road 185 = .ok (.aload_n 0, 1) := by decide +kernel
theorem dX9_road_186 : decode cX9_road 186 = .ok (.dup, 1) := by decide +kernel
theorem dX9_road_187 : decode cX9_road 187 = .ok (.getfield 136, 3) := by decide +kernel
theorem dX9_road_190 : decode cX9_road 190 = .ok (.bipush 10, 2) := by decide +kernel
theorem dX9_road_192 : decode cX9_road 192 = .ok (.iload 6, 2) := by decide +kernel
theorem dX9_road_194 : decode cX9_road 194 = .ok (.imul, 1) := by decide +kernel
theorem dX9_road_195 : decode cX9_road 195 = .ok (.iadd, 1) := by decide +kernel
theorem dX9_road_196 : decode cX9_road 196 = .ok (.putfield 136, 3) := by decide +kernel
theorem dX9_road_199 : decode cX9_road 199 = .ok (.iload 6, 2) := by decide +kernel
theorem dX9_road_201 : decode cX9_road 201 = .ok (.ireturn, 1) := by decide +kernel
theorem dX9_claimant_0 : decode cX9_claimant 0 = .ok (.aload_n 0, 1) := by decide +kernel
theorem dX9_claimant_1 : decode cX9_claimant 1 = .ok (.iconst 0, 1) := by decide +kernel
theorem dX9_claimant_2 : decode cX9_claimant 2 = .ok (.putfield 133, 3) := by decide +kernel
theorem dX9_claimant_5 : decode cX9_claimant 5 = .ok (.iload_n 1, 1) := by decide +kernel
