theorem d_M_init_0 : decode b_M_init 0 = .ok (.aload_n 0, 1) := by decide +kernel
theorem d_M_init_1 : decode b_M_init 1 = .ok (.invokespecial 1, 3) := by decide +kernel
theorem d_M_init_4 : decode b_M_init 4 = .ok (.aload_n 0, 1) := by decide +kernel
theorem d_M_init_5 : decode b_M_init 5 = .ok (.sipush 2400, 3) := by decide +kernel
theorem d_M_init_8 : decode b_M_init 8 = .ok (.newarray .int, 2) := by decide +kernel
theorem d_M_init_10 : decode b_M_init 10 = .ok (.putfield 7, 3) := by decide +kernel
theorem d_M_init_13 : decode b_M_init 13 = .ok (.aload_n 0, 1) := by decide +kernel
theorem d_M_init_14 : decode b_M_init 14 = .ok (.iconst 4, 1) := by decide +kernel
theorem d_M_init_15 : decode b_M_init 15 = .ok (.newarray .int, 2) := by decide +kernel
theorem d_M_init_17 : decode b_M_init 17 = .ok (.putfield 13, 3) := by decide +kernel
theorem d_M_init_20 : decode b_M_init 20 = .ok (.aload_n 0, 1) := by decide +kernel
theorem d_M_init_21 : decode b_M_init 21 = .ok (.bipush 80, 2) := by decide +kernel
theorem d_M_init_23 : decode b_M_init 23 = .ok (.newarray .int, 2) := by decide +kernel
theorem d_M_init_25 : decode b_M_init 25 = .ok (.putfield 16, 3) := by decide +kernel
theorem d_M_init_28 : decode b_M_init 28 = .ok (.iconst 0, 1) := by decide +kernel
theorem d_M_init_29 : decode b_M_init 29 = .ok (.istore_n 1, 1) := by decide +kernel
theorem d_M_init_30 : decode b_M_init 30 = .ok (.iload_n 1, 1) := by decide +kernel
theorem d_M_init_31 : decode b_M_init 31 = .ok (.bipush 75, 2) := by decide +kernel
theorem d_M_init_33 : decode b_M_init 33 = .ok (.if_icmp .ge 14, 3) := by decide +kernel
theorem d_M_init_36 : decode b_M_init 36 = .ok (.aload_n 0, 1) := by decide +kernel
theorem d_M_init_37 : decode b_M_init 37 = .ok (.iload_n 1, 1) := by decide +kernel
theorem d_M_init_38 : decode b_M_init 38 = .ok (.invokevirtual 19, 3) := by decide +kernel
theorem d_M_init_41 : decode b_M_init 41 = .ok (.iinc 1 1, 3) := by decide +kernel
theorem d_M_init_44 : decode b_M_init 44 = .ok (.goto (-14), 3) := by decide +kernel
theorem d_M_init_47 : decode b_M_init 47 = .ok (.aload_n 0, 1) := by decide +kernel
theorem d_M_init_48 : decode b_M_init 48 = .ok (.invokevirtual 23, 3) := by decide +kernel
theorem d_M_init_51 : decode b_M_init 51 = .ok (.return_, 1) := by decide +kernel
theorem d_M_layLong_0 : decode b_M_layLong 0 = .ok (.iload_n 1, 1) := by decide +kernel
theorem d_M_layLong_1 : decode b_M_layLong 1 = .ok (.bipush 48, 2) := by decide +kernel
theorem d_M_layLong_3 : decode b_M_layLong 3 = .ok (.if_icmp .lt 4, 3) := by decide +kernel
theorem d_M_layLong_6 : decode b_M_layLong 6 = .ok (.return_, 1) := by decide +kernel
theorem d_M_layLong_7 : decode b_M_layLong 7 = .ok (.iload_n 1, 1) := by decide +kernel
theorem d_M_layLong_8 : decode b_M_layLong 8 = .ok (.bipush 44, 2) := by decide +kernel
theorem d_M_layLong_10 : decode b_M_layLong 10 = .ok (.if_icmp .le 36, 3) := by decide +kernel
theorem d_M_layLong_13 : decode b_M_layLong 13 = .ok (.aload_n 0, 1) := by decide +kernel
theorem d_M_layLong_14 : decode b_M_layLong 14 = .ok (.iload_n 1, 1) := by decide +kernel
theorem d_M_layLong_15 : decode b_M_layLong 15 = .ok (.iconst 0, 1) := by decide +kernel
theorem d_M_layLong_16 : decode b_M_layLong 16 = .ok (.bipush 32, 2) := by decide +kernel
theorem d_M_layLong_18 : decode b_M_layLong 18 = .ok (.iload_n 1, 1) := by decide +kernel
theorem d_M_layLong_19 : decode b_M_layLong 19 = .ok (.bipush 45, 2) := by decide +kernel
theorem d_M_layLong_21 : decode b_M_layLong 21 = .ok (.if_icmp .ne 8, 3) := by decide +kernel
theorem d_M_layLong_24 : decode b_M_layLong 24 = .ok (.ldc 30, 2) := by decide +kernel
theorem d_M_layLong_26 : decode b_M_layLong 26 = .ok (.goto 16, 3) := by decide +kernel
theorem d_M_layLong_29 : decode b_M_layLong 29 = .ok (.iload_n 1, 1) := by decide +kernel
theorem d_M_layLong_30 : decode b_M_layLong 30 = .ok (.bipush 46, 2) := by decide +kernel
theorem d_M_layLong_32 : decode b_M_layLong 32 = .ok (.if_icmp .ne 8, 3) := by decide +kernel
theorem d_M_layLong_35 : decode b_M_layLong 35 = .ok (.bipush 115, 2) := by decide +kernel
theorem d_M_layLong_37 : decode b_M_layLong 37 = .ok (.goto 5, 3) := by decide +kernel
theorem d_M_layLong_40 : decode b_M_layLong 40 = .ok (.ldc 31, 2) := by decide +kernel
theorem d_M_layLong_42 : decode b_M_layLong 42 = .ok (.invokevirtual 32, 3) := by decide +kernel
theorem d_M_layLong_45 : decode b_M_layLong 45 = .ok (.return_, 1) := by decide +kernel
theorem d_M_layLong_46 : decode b_M_layLong 46 = .ok (.aload_n 0, 1) := by decide +kernel
theorem d_M_layLong_47 : decode b_M_layLong 47 = .ok (.iload_n 1, 1) := by decide +kernel
theorem d_M_layLong_48 : decode b_M_layLong 48 = .ok (.iconst 0, 1) := by decide +kernel
theorem d_M_layLong_49 : decode b_M_layLong 49 = .ok (.bipush 7, 2) := by decide +kernel
theorem d_M_layLong_51 : decode b_M_layLong 51 = .ok (.iload_n 1, 1) := by decide +kernel
theorem d_M_layLong_52 : decode b_M_layLong 52 = .ok (.invokestatic 36, 3) := by decide +kernel
theorem d_M_layLong_55 : decode b_M_layLong 55 = .ok (.invokevirtual 32, 3) := by decide +kernel
theorem d_M_layLong_58 : decode b_M_layLong 58 = .ok (.iload_n 1, 1) := by decide +kernel
theorem d_M_layLong_59 : decode b_M_layLong 59 = .ok (.iconst 3, 1) := by decide +kernel
theorem d_M_layLong_60 : decode b_M_layLong 60 = .ok (.if_icmp .ge 94, 3) := by decide +kernel
theorem d_M_layLong_63 : decode b_M_layLong 63 = .ok (.aload_n 0, 1) := by decide +kernel
theorem d_M_layLong_64 : decode b_M_layLong 64 = .ok (.iload_n 1, 1) := by decide +kernel
theorem d_M_layLong_65 : decode b_M_layLong 65 = .ok (.bipush 11, 2) := by decide +kernel
theorem d_M_layLong_67 : decode b_M_layLong 67 = .ok (.bipush 7, 2) := by decide +kernel
theorem d_M_layLong_69 : decode b_M_layLong 69 = .ok (.bipush 100, 2) := by decide +kernel
theorem d_M_layLong_71 : decode b_M_layLong 71 = .ok (.iconst 4, 1) := by decide +kernel
theorem d_M_layLong_72 : decode b_M_layLong 72 = .ok (.invokevirtual 40, 3) := by decide +kernel
theorem d_M_layLong_75 : decode b_M_layLong 75 = .ok (.iload_n 1, 1) := by decide +kernel
theorem d_M_layLong_76 : decode b_M_layLong 76 = .ok (.iconst 2, 1) := by decide +kernel
theorem d_M_layLong_77 : decode b_M_layLong 77 = .ok (.if_icmp .ge 20, 3) := by decide +kernel
theorem d_M_layLong_80 : decode b_M_layLong 80 = .ok (.aload_n 0, 1) := by decide +kernel
theorem d_M_layLong_81 : decode b_M_layLong 81 = .ok (.iload_n 1, 1) := by decide +kernel
theorem d_M_layLong_82 : decode b_M_layLong 82 = .ok (.bipush 31, 2) := by decide +kernel
theorem d_M_layLong_84 : decode b_M_layLong 84 = .ok (.bipush 12, 2) := by decide +kernel
theorem d_M_layLong_86 : decode b_M_layLong 86 = .ok (.sipush 400, 3) := by decide +kernel
theorem d_M_layLong_89 : decode b_M_layLong 89 = .ok (.bipush 19, 2) := by decide +kernel
theorem d_M_layLong_91 : decode b_M_layLong 91 = .ok (.invokevirtual 40, 3) := by decide +kernel
theorem d_M_layLong_94 : decode b_M_layLong 94 = .ok (.goto 59, 3) := by decide +kernel
theorem d_M_layLong_97 : decode b_M_layLong 97 = .ok (.aload_n 0, 1) := by decide +kernel
theorem d_M_layLong_98 : decode b_M_layLong 98 = .ok (.iload_n 1, 1) := by decide +kernel
theorem d_M_layLong_99 : decode b_M_layLong 99 = .ok (.bipush 31, 2) := by decide +kernel
theorem d_M_layLong_101 : decode b_M_layLong 101 = .ok (.bipush 31, 2) := by decide +kernel
theorem d_M_layLong_103 : decode b_M_layLong 103 = .ok (.sipush 400, 3) := by decide +kernel
theorem d_M_layLong_106 : decode b_M_layLong 106 = .ok (.bipush 20, 2) := by decide +kernel
theorem d_M_layLong_108 : decode b_M_layLong 108 = .ok (.invokevirtual 40, 3) := by decide +kernel
theorem d_M_layLong_111 : decode b_M_layLong 111 = .ok (.aload_n 0, 1) := by decide +kernel
theorem d_M_layLong_112 : decode b_M_layLong 112 = .ok (.iload_n 1, 1) := by decide +kernel
theorem d_M_layLong_113 : decode b_M_layLong 113 = .ok (.bipush 30, 2) := by decide +kernel
theorem d_M_layLong_115 : decode b_M_layLong 115 = .ok (.bipush 21, 2) := by decide +kernel
theorem d_M_layLong_117 : decode b_M_layLong 117 = .ok (.sipush 400, 3) := by decide +kernel
theorem d_M_layLong_120 : decode b_M_layLong 120 = .ok (.bipush 10, 2) := by decide +kernel
theorem d_M_layLong_122 : decode b_M_layLong 122 = .ok (.invokevirtual 40, 3) := by decide +kernel
theorem d_M_layLong_125 : decode b_M_layLong 125 = .ok (.aload_n 0, 1) := by decide +kernel
theorem d_M_layLong_126 : decode b_M_layLong 126 = .ok (.iload_n 1, 1) := by decide +kernel
theorem d_M_layLong_127 : decode b_M_layLong 127 = .ok (.bipush 20, 2) := by decide +kernel
theorem d_M_layLong_129 : decode b_M_layLong 129 = .ok (.bipush 20, 2) := by decide +kernel
theorem d_M_layLong_131 : decode b_M_layLong 131 = .ok (.sipush 400, 3) := by decide +kernel
theorem d_M_layLong_134 : decode b_M_layLong 134 = .ok (.bipush 11, 2) := by decide +kernel
theorem d_M_layLong_136 : decode b_M_layLong 136 = .ok (.invokevirtual 40, 3) := by decide +kernel
theorem d_M_layLong_139 : decode b_M_layLong 139 = .ok (.aload_n 0, 1) := by decide +kernel
theorem d_M_layLong_140 : decode b_M_layLong 140 = .ok (.iload_n 1, 1) := by decide +kernel
theorem d_M_layLong_141 : decode b_M_layLong 141 = .ok (.bipush 19, 2) := by decide +kernel
theorem d_M_layLong_143 : decode b_M_layLong 143 = .ok (.bipush 12, 2) := by decide +kernel
theorem d_M_layLong_145 : decode b_M_layLong 145 = .ok (.sipush 400, 3) := by decide +kernel
theorem d_M_layLong_148 : decode b_M_layLong 148 = .ok (.bipush 19, 2) := by decide +kernel
theorem d_M_layLong_150 : decode b_M_layLong 150 = .ok (.invokevirtual 40, 3) := by decide +kernel
theorem d_M_layLong_153 : decode b_M_layLong 153 = .ok (.return_, 1) := by decide +kernel
theorem d_M_layLong_154 : decode b_M_layLong 154 = .ok (.aload_n 0, 1) := by decide +kernel
theorem d_M_layLong_155 : decode b_M_layLong 155 = .ok (.iload_n 1, 1) := by decide +kernel
theorem d_M_layLong_156 : decode b_M_layLong 156 = .ok (.bipush 12, 2) := by decide +kernel
theorem d_M_layLong_158 : decode b_M_layLong 158 = .ok (.iconst 3, 1) := by decide +kernel
theorem d_M_layLong_159 : decode b_M_layLong 159 = .ok (.iload_n 1, 1) := by decide +kernel
theorem d_M_layLong_160 : decode b_M_layLong 160 = .ok (.invokestatic 44, 3) := by decide +kernel
theorem d_M_layLong_163 : decode b_M_layLong 163 = .ok (.invokevirtual 32, 3) := by decide +kernel
theorem d_M_layLong_166 : decode b_M_layLong 166 = .ok (.aload_n 0, 1) := by decide +kernel
theorem d_M_layLong_167 : decode b_M_layLong 167 = .ok (.iload_n 1, 1) := by decide +kernel
theorem d_M_layLong_168 : decode b_M_layLong 168 = .ok (.bipush 19, 2) := by decide +kernel
theorem d_M_layLong_170 : decode b_M_layLong 170 = .ok (.bipush 15, 2) := by decide +kernel
theorem d_M_layLong_172 : decode b_M_layLong 172 = .ok (.sipush 200, 3) := by decide +kernel
theorem d_M_layLong_175 : decode b_M_layLong 175 = .ok (.iconst 4, 1) := by decide +kernel
theorem d_M_layLong_176 : decode b_M_layLong 176 = .ok (.invokevirtual 40, 3) := by decide +kernel
theorem d_M_layLong_179 : decode b_M_layLong 179 = .ok (.iload_n 1, 1) := by decide +kernel
theorem d_M_layLong_180 : decode b_M_layLong 180 = .ok (.invokestatic 47, 3) := by decide +kernel
theorem d_M_layLong_183 : decode b_M_layLong 183 = .ok (.ifCond .eq 74, 3) := by decide +kernel
theorem d_M_layLong_186 : decode b_M_layLong 186 = .ok (.aload_n 0, 1) := by decide +kernel
theorem d_M_layLong_187 : decode b_M_layLong 187 = .ok (.iload_n 1, 1) := by decide +kernel
theorem d_M_layLong_188 : decode b_M_layLong 188 = .ok (.bipush 24, 2) := by decide +kernel
theorem d_M_layLong_190 : decode b_M_layLong 190 = .ok (.bipush 20, 2) := by decide +kernel
theorem d_M_layLong_192 : decode b_M_layLong 192 = .ok (.sipush 300, 3) := by decide +kernel
theorem d_M_layLong_195 : decode b_M_layLong 195 = .ok (.iconst 4, 1) := by decide +kernel
theorem d_M_layLong_196 : decode b_M_layLong 196 = .ok (.invokevirtual 40, 3) := by decide +kernel
theorem d_M_layLong_199 : decode b_M_layLong 199 = .ok (.aload_n 0, 1) := by decide +kernel
theorem d_M_layLong_200 : decode b_M_layLong 200 = .ok (.iload_n 1, 1) := by decide +kernel
theorem d_M_layLong_201 : decode b_M_layLong 201 = .ok (.bipush 31, 2) := by decide +kernel
theorem d_M_layLong_203 : decode b_M_layLong 203 = .ok (.bipush 31, 2) := by decide +kernel
theorem d_M_layLong_205 : decode b_M_layLong 205 = .ok (.sipush 400, 3) := by decide +kernel
theorem d_M_layLong_208 : decode b_M_layLong 208 = .ok (.bipush 12, 2) := by decide +kernel
theorem d_M_layLong_210 : decode b_M_layLong 210 = .ok (.invokevirtual 40, 3) := by decide +kernel
theorem d_M_layLong_213 : decode b_M_layLong 213 = .ok (.aload_n 0, 1) := by decide +kernel
theorem d_M_layLong_214 : decode b_M_layLong 214 = .ok (.iload_n 1, 1) := by decide +kernel
theorem d_M_layLong_215 : decode b_M_layLong 215 = .ok (.bipush 30, 2) := by decide +kernel
theorem d_M_layLong_217 : decode b_M_layLong 217 = .ok (.bipush 25, 2) := by decide +kernel
theorem d_M_layLong_219 : decode b_M_layLong 219 = .ok (.sipush 400, 3) := by decide +kernel
theorem d_M_layLong_222 : decode b_M_layLong 222 = .ok (.bipush 10, 2) := by decide +kernel
theorem d_M_layLong_224 : decode b_M_layLong 224 = .ok (.invokevirtual 40, 3) := by decide +kernel
theorem d_M_layLong_227 : decode b_M_layLong 227 = .ok (.aload_n 0, 1) := by decide +kernel
theorem d_M_layLong_228 : decode b_M_layLong 228 = .ok (.iload_n 1, 1) := by decide +kernel
theorem d_M_layLong_229 : decode b_M_layLong 229 = .ok (.bipush 11, 2) := by decide +kernel
theorem d_M_layLong_231 : decode b_M_layLong 231 = .ok (.bipush 8, 2) := by decide +kernel
theorem d_M_layLong_233 : decode b_M_layLong 233 = .ok (.sipush 400, 3) := by decide +kernel
theorem d_M_layLong_236 : decode b_M_layLong 236 = .ok (.iconst 4, 1) := by decide +kernel
theorem d_M_layLong_237 : decode b_M_layLong 237 = .ok (.invokevirtual 40, 3) := by decide +kernel
theorem d_M_layLong_240 : decode b_M_layLong 240 = .ok (.aload_n 0, 1) := by decide +kernel
theorem d_M_layLong_241 : decode b_M_layLong 241 = .ok (.iload_n 1, 1) := by decide +kernel
theorem d_M_layLong_242 : decode b_M_layLong 242 = .ok (.bipush 7, 2) := by decide +kernel
theorem d_M_layLong_244 : decode b_M_layLong 244 = .ok (.bipush 7, 2) := by decide +kernel
theorem d_M_layLong_246 : decode b_M_layLong 246 = .ok (.sipush 400, 3) := by decide +kernel
theorem d_M_layLong_249 : decode b_M_layLong 249 = .ok (.bipush 11, 2) := by decide +kernel
theorem d_M_layLong_251 : decode b_M_layLong 251 = .ok (.invokevirtual 40, 3) := by decide +kernel
theorem d_M_layLong_254 : decode b_M_layLong 254 = .ok (.goto 150, 3) := by decide +kernel
theorem d_M_layLong_257 : decode b_M_layLong 257 = .ok (.iload_n 1, 1) := by decide +kernel
theorem d_M_layLong_258 : decode b_M_layLong 258 = .ok (.invokestatic 51, 3) := by decide +kernel
theorem d_M_layLong_261 : decode b_M_layLong 261 = .ok (.ifCond .eq 46, 3) := by decide +kernel
theorem d_M_layLong_264 : decode b_M_layLong 264 = .ok (.aload_n 0, 1) := by decide +kernel
theorem d_M_layLong_265 : decode b_M_layLong 265 = .ok (.iload_n 1, 1) := by decide +kernel
theorem d_M_layLong_266 : decode b_M_layLong 266 = .ok (.bipush 24, 2) := by decide +kernel
theorem d_M_layLong_268 : decode b_M_layLong 268 = .ok (.bipush 20, 2) := by decide +kernel
theorem d_M_layLong_270 : decode b_M_layLong 270 = .ok (.sipush 300, 3) := by decide +kernel
theorem d_M_layLong_273 : decode b_M_layLong 273 = .ok (.iconst 4, 1) := by decide +kernel
theorem d_M_layLong_274 : decode b_M_layLong 274 = .ok (.invokevirtual 40, 3) := by decide +kernel
theorem d_M_layLong_277 : decode b_M_layLong 277 = .ok (.aload_n 0, 1) := by decide +kernel
theorem d_M_layLong_278 : decode b_M_layLong 278 = .ok (.iload_n 1, 1) := by decide +kernel
theorem d_M_layLong_279 : decode b_M_layLong 279 = .ok (.bipush 31, 2) := by decide +kernel
theorem d_M_layLong_281 : decode b_M_layLong 281 = .ok (.bipush 25, 2) := by decide +kernel
theorem d_M_layLong_283 : decode b_M_layLong 283 = .ok (.sipush 400, 3) := by decide +kernel
theorem d_M_layLong_286 : decode b_M_layLong 286 = .ok (.bipush 11, 2) := by decide +kernel
theorem d_M_layLong_288 : decode b_M_layLong 288 = .ok (.invokevirtual 40, 3) := by decide +kernel
theorem d_M_layLong_291 : decode b_M_layLong 291 = .ok (.aload_n 0, 1) := by decide +kernel
theorem d_M_layLong_292 : decode b_M_layLong 292 = .ok (.iload_n 1, 1) := by decide +kernel
theorem d_M_layLong_293 : decode b_M_layLong 293 = .ok (.bipush 11, 2) := by decide +kernel
theorem d_M_layLong_295 : decode b_M_layLong 295 = .ok (.bipush 7, 2) := by decide +kernel
theorem d_M_layLong_297 : decode b_M_layLong 297 = .ok (.sipush 400, 3) := by decide +kernel
theorem d_M_layLong_300 : decode b_M_layLong 300 = .ok (.iconst 4, 1) := by decide +kernel
theorem d_M_layLong_301 : decode b_M_layLong 301 = .ok (.invokevirtual 40, 3) := by decide +kernel
theorem d_M_layLong_304 : decode b_M_layLong 304 = .ok (.goto 100, 3) := by decide +kernel
theorem d_M_layLong_307 : decode b_M_layLong 307 = .ok (.aload_n 0, 1) := by decide +kernel
theorem d_M_layLong_308 : decode b_M_layLong 308 = .ok (.iload_n 1, 1) := by decide +kernel
theorem d_M_layLong_309 : decode b_M_layLong 309 = .ok (.bipush 11, 2) := by decide +kernel
theorem d_M_layLong_311 : decode b_M_layLong 311 = .ok (.bipush 7, 2) := by decide +kernel
theorem d_M_layLong_313 : decode b_M_layLong 313 = .ok (.bipush 100, 2) := by decide +kernel
theorem d_M_layLong_315 : decode b_M_layLong 315 = .ok (.iconst 4, 1) := by decide +kernel
theorem d_M_layLong_316 : decode b_M_layLong 316 = .ok (.invokevirtual 40, 3) := by decide +kernel
theorem d_M_layLong_319 : decode b_M_layLong 319 = .ok (.iload_n 1, 1) := by decide +kernel
theorem d_M_layLong_320 : decode b_M_layLong 320 = .ok (.bipush 26, 2) := by decide +kernel
theorem d_M_layLong_322 : decode b_M_layLong 322 = .ok (.if_icmp .le 32, 3) := by decide +kernel
theorem d_M_layLong_325 : decode b_M_layLong 325 = .ok (.aload_n 0, 1) := by decide +kernel
theorem d_M_layLong_326 : decode b_M_layLong 326 = .ok (.iload_n 1, 1) := by decide +kernel
theorem d_M_layLong_327 : decode b_M_layLong 327 = .ok (.bipush 24, 2) := by decide +kernel
theorem d_M_layLong_329 : decode b_M_layLong 329 = .ok (.bipush 20, 2) := by decide +kernel
theorem d_M_layLong_331 : decode b_M_layLong 331 = .ok (.sipush 300, 3) := by decide +kernel
theorem d_M_layLong_334 : decode b_M_layLong 334 = .ok (.iconst 4, 1) := by decide +kernel
theorem d_M_layLong_335 : decode b_M_layLong 335 = .ok (.invokevirtual 40, 3) := by decide +kernel
theorem d_M_layLong_338 : decode b_M_layLong 338 = .ok (.aload_n 0, 1) := by decide +kernel
theorem d_M_layLong_339 : decode b_M_layLong 339 = .ok (.iload_n 1, 1) := by decide +kernel
theorem d_M_layLong_340 : decode b_M_layLong 340 = .ok (.bipush 25, 2) := by decide +kernel
theorem d_M_layLong_342 : decode b_M_layLong 342 = .ok (.bipush 7, 2) := by decide +kernel
theorem d_M_layLong_344 : decode b_M_layLong 344 = .ok (.iload_n 1, 1) := by decide +kernel
theorem d_M_layLong_345 : decode b_M_layLong 345 = .ok (.invokestatic 54, 3) := by decide +kernel
theorem d_M_layLong_348 : decode b_M_layLong 348 = .ok (.invokevirtual 32, 3) := by decide +kernel
theorem d_M_layLong_351 : decode b_M_layLong 351 = .ok (.goto 53, 3) := by decide +kernel
theorem d_M_layLong_354 : decode b_M_layLong 354 = .ok (.iload_n 1, 1) := by decide +kernel
theorem d_M_layLong_355 : decode b_M_layLong 355 = .ok (.invokestatic 57, 3) := by decide +kernel
theorem d_M_layLong_358 : decode b_M_layLong 358 = .ok (.ifCond .eq 32, 3) := by decide +kernel
theorem d_M_layLong_361 : decode b_M_layLong 361 = .ok (.aload_n 0, 1) := by decide +kernel
theorem d_M_layLong_362 : decode b_M_layLong 362 = .ok (.iload_n 1, 1) := by decide +kernel
theorem d_M_layLong_363 : decode b_M_layLong 363 = .ok (.bipush 24, 2) := by decide +kernel
theorem d_M_layLong_365 : decode b_M_layLong 365 = .ok (.bipush 20, 2) := by decide +kernel
theorem d_M_layLong_367 : decode b_M_layLong 367 = .ok (.sipush 400, 3) := by decide +kernel
theorem d_M_layLong_370 : decode b_M_layLong 370 = .ok (.iconst 4, 1) := by decide +kernel
theorem d_M_layLong_371 : decode b_M_layLong 371 = .ok (.invokevirtual 40, 3) := by decide +kernel
theorem d_M_layLong_374 : decode b_M_layLong 374 = .ok (.aload_n 0, 1) := by decide +kernel
theorem d_M_layLong_375 : decode b_M_layLong 375 = .ok (.iload_n 1, 1) := by decide +kernel
theorem d_M_layLong_376 : decode b_M_layLong 376 = .ok (.bipush 25, 2) := by decide +kernel
theorem d_M_layLong_378 : decode b_M_layLong 378 = .ok (.bipush 7, 2) := by decide +kernel
theorem d_M_layLong_380 : decode b_M_layLong 380 = .ok (.iload_n 1, 1) := by decide +kernel
theorem d_M_layLong_381 : decode b_M_layLong 381 = .ok (.invokestatic 54, 3) := by decide +kernel
theorem d_M_layLong_384 : decode b_M_layLong 384 = .ok (.invokevirtual 32, 3) := by decide +kernel
theorem d_M_layLong_387 : decode b_M_layLong 387 = .ok (.goto 17, 3) := by decide +kernel
theorem d_M_layLong_390 : decode b_M_layLong 390 = .ok (.aload_n 0, 1) := by decide +kernel
theorem d_M_layLong_391 : decode b_M_layLong 391 = .ok (.iload_n 1, 1) := by decide +kernel
theorem d_M_layLong_392 : decode b_M_layLong 392 = .ok (.bipush 31, 2) := by decide +kernel
theorem d_M_layLong_394 : decode b_M_layLong 394 = .ok (.bipush 20, 2) := by decide +kernel
theorem d_M_layLong_396 : decode b_M_layLong 396 = .ok (.sipush 400, 3) := by decide +kernel
theorem d_M_layLong_399 : decode b_M_layLong 399 = .ok (.bipush 11, 2) := by decide +kernel
theorem d_M_layLong_401 : decode b_M_layLong 401 = .ok (.invokevirtual 40, 3) := by decide +kernel
theorem d_M_layLong_404 : decode b_M_layLong 404 = .ok (.return_, 1) := by decide +kernel
theorem d_M_fix_0 : decode b_M_fix 0 = .ok (.iconst 0, 1) := by decide +kernel
theorem d_M_fix_1 : decode b_M_fix 1 = .ok (.istore 5, 2) := by decide +kernel
theorem d_M_fix_3 : decode b_M_fix 3 = .ok (.iload 5, 2) := by decide +kernel
theorem d_M_fix_5 : decode b_M_fix 5 = .ok (.iload_n 3, 1) := by decide +kernel
theorem d_M_fix_6 : decode b_M_fix 6 = .ok (.if_icmp .ge 30, 3) := by decide +kernel
theorem d_M_fix_9 : decode b_M_fix 9 = .ok (.aload_n 0, 1) := by decide +kernel
theorem d_M_fix_10 : decode b_M_fix 10 = .ok (.getfield 7, 3) := by decide +kernel
theorem d_M_fix_13 : decode b_M_fix 13 = .ok (.bipush 32, 2) := by decide +kernel
theorem d_M_fix_15 : decode b_M_fix 15 = .ok (.iload_n 1, 1) := by decide +kernel
theorem d_M_fix_16 : decode b_M_fix 16 = .ok (.imul, 1) := by decide +kernel
theorem d_M_fix_17 : decode b_M_fix 17 = .ok (.iload_n 2, 1) := by decide +kernel
theorem d_M_fix_18 : decode b_M_fix 18 = .ok (.iadd, 1) := by decide +kernel
theorem d_M_fix_19 : decode b_M_fix 19 = .ok (.iload 5, 2) := by decide +kernel
theorem d_M_fix_21 : decode b_M_fix 21 = .ok (.iadd, 1) := by decide +kernel
theorem d_M_fix_22 : decode b_M_fix 22 = .ok (.iload 4, 2) := by decide +kernel
theorem d_M_fix_24 : decode b_M_fix 24 = .ok (.iload 5, 2) := by decide +kernel
theorem d_M_fix_26 : decode b_M_fix 26 = .ok (.ishr, 1) := by decide +kernel
theorem d_M_fix_27 : decode b_M_fix 27 = .ok (.iconst 1, 1) := by decide +kernel
theorem d_M_fix_28 : decode b_M_fix 28 = .ok (.iand, 1) := by decide +kernel
theorem d_M_fix_29 : decode b_M_fix 29 = .ok (.iastore, 1) := by decide +kernel
theorem d_M_fix_30 : decode b_M_fix 30 = .ok (.iinc 5 1, 3) := by decide +kernel
theorem d_M_fix_33 : decode b_M_fix 33 = .ok (.goto (-30), 3) := by decide +kernel
theorem d_M_fix_36 : decode b_M_fix 36 = .ok (.return_, 1) := by decide +kernel
theorem d_M_opcodeOf_0 : decode b_M_opcodeOf 0 = .ok (.iload_n 0, 1) := by decide +kernel
theorem d_M_opcodeOf_1 : decode b_M_opcodeOf 1 = .ok (.ifCond .ne 6, 3) := by decide +kernel
theorem d_M_opcodeOf_4 : decode b_M_opcodeOf 4 = .ok (.bipush 55, 2) := by decide +kernel
theorem d_M_opcodeOf_6 : decode b_M_opcodeOf 6 = .ok (.ireturn, 1) := by decide +kernel
theorem d_M_opcodeOf_7 : decode b_M_opcodeOf 7 = .ok (.iload_n 0, 1) := by decide +kernel
theorem d_M_opcodeOf_8 : decode b_M_opcodeOf 8 = .ok (.iconst 1, 1) := by decide +kernel
theorem d_M_opcodeOf_9 : decode b_M_opcodeOf 9 = .ok (.if_icmp .ne 6, 3) := by decide +kernel
theorem d_M_opcodeOf_12 : decode b_M_opcodeOf 12 = .ok (.bipush 23, 2) := by decide +kernel
theorem d_M_opcodeOf_14 : decode b_M_opcodeOf 14 = .ok (.ireturn, 1) := by decide +kernel
theorem d_M_opcodeOf_15 : decode b_M_opcodeOf 15 = .ok (.iload_n 0, 1) := by decide +kernel
theorem d_M_opcodeOf_16 : decode b_M_opcodeOf 16 = .ok (.iconst 2, 1) := by decide +kernel
theorem d_M_opcodeOf_17 : decode b_M_opcodeOf 17 = .ok (.if_icmp .ne 6, 3) := by decide +kernel
theorem d_M_opcodeOf_20 : decode b_M_opcodeOf 20 = .ok (.bipush 111, 2) := by decide +kernel
theorem d_M_opcodeOf_22 : decode b_M_opcodeOf 22 = .ok (.ireturn, 1) := by decide +kernel
theorem d_M_opcodeOf_23 : decode b_M_opcodeOf 23 = .ok (.iload_n 0, 1) := by decide +kernel
theorem d_M_opcodeOf_24 : decode b_M_opcodeOf 24 = .ok (.iconst 3, 1) := by decide +kernel
theorem d_M_opcodeOf_25 : decode b_M_opcodeOf 25 = .ok (.if_icmp .ne 6, 3) := by decide +kernel
theorem d_M_opcodeOf_28 : decode b_M_opcodeOf 28 = .ok (.bipush 103, 2) := by decide +kernel
theorem d_M_opcodeOf_30 : decode b_M_opcodeOf 30 = .ok (.ireturn, 1) := by decide +kernel
theorem d_M_opcodeOf_31 : decode b_M_opcodeOf 31 = .ok (.iload_n 0, 1) := by decide +kernel
theorem d_M_opcodeOf_32 : decode b_M_opcodeOf 32 = .ok (.bipush 10, 2) := by decide +kernel
theorem d_M_opcodeOf_34 : decode b_M_opcodeOf 34 = .ok (.if_icmp .ge 6, 3) := by decide +kernel
theorem d_M_opcodeOf_37 : decode b_M_opcodeOf 37 = .ok (.bipush 99, 2) := by decide +kernel
theorem d_M_opcodeOf_39 : decode b_M_opcodeOf 39 = .ok (.ireturn, 1) := by decide +kernel
theorem d_M_opcodeOf_40 : decode b_M_opcodeOf 40 = .ok (.iload_n 0, 1) := by decide +kernel
theorem d_M_opcodeOf_41 : decode b_M_opcodeOf 41 = .ok (.bipush 15, 2) := by decide +kernel
theorem d_M_opcodeOf_43 : decode b_M_opcodeOf 43 = .ok (.if_icmp .ge 5, 3) := by decide +kernel
theorem d_M_opcodeOf_46 : decode b_M_opcodeOf 46 = .ok (.iconst 3, 1) := by decide +kernel
theorem d_M_opcodeOf_47 : decode b_M_opcodeOf 47 = .ok (.ireturn, 1) := by decide +kernel
theorem d_M_opcodeOf_48 : decode b_M_opcodeOf 48 = .ok (.iload_n 0, 1) := by decide +kernel
theorem d_M_opcodeOf_49 : decode b_M_opcodeOf 49 = .ok (.bipush 18, 2) := by decide +kernel
theorem d_M_opcodeOf_51 : decode b_M_opcodeOf 51 = .ok (.if_icmp .ge 6, 3) := by decide +kernel
theorem d_M_opcodeOf_54 : decode b_M_opcodeOf 54 = .ok (.bipush 35, 2) := by decide +kernel
theorem d_M_opcodeOf_56 : decode b_M_opcodeOf 56 = .ok (.ireturn, 1) := by decide +kernel
theorem d_M_opcodeOf_57 : decode b_M_opcodeOf 57 = .ok (.iload_n 0, 1) := by decide +kernel
theorem d_M_opcodeOf_58 : decode b_M_opcodeOf 58 = .ok (.bipush 27, 2) := by decide +kernel
theorem d_M_opcodeOf_60 : decode b_M_opcodeOf 60 = .ok (.if_icmp .ge 8, 3) := by decide +kernel
theorem d_M_opcodeOf_63 : decode b_M_opcodeOf 63 = .ok (.bipush 19, 2) := by decide +kernel
theorem d_M_opcodeOf_65 : decode b_M_opcodeOf 65 = .ok (.goto 5, 3) := by decide +kernel
theorem d_M_opcodeOf_68 : decode b_M_opcodeOf 68 = .ok (.bipush 51, 2) := by decide +kernel
theorem d_M_opcodeOf_70 : decode b_M_opcodeOf 70 = .ok (.ireturn, 1) := by decide +kernel
theorem d_M_lay_0 : decode b_M_lay 0 = .ok (.iload_n 2, 1) := by decide +kernel
theorem d_M_lay_1 : decode b_M_lay 1 = .ok (.istore 6, 2) := by decide +kernel
theorem d_M_lay_3 : decode b_M_lay 3 = .ok (.iload 6, 2) := by decide +kernel
theorem d_M_lay_5 : decode b_M_lay 5 = .ok (.iload_n 3, 1) := by decide +kernel
theorem d_M_lay_6 : decode b_M_lay 6 = .ok (.if_icmp .lt 31, 3) := by decide +kernel
theorem d_M_lay_9 : decode b_M_lay 9 = .ok (.aload_n 0, 1) := by decide +kernel
theorem d_M_lay_10 : decode b_M_lay 10 = .ok (.getfield 7, 3) := by decide +kernel
theorem d_M_lay_13 : decode b_M_lay 13 = .ok (.bipush 32, 2) := by decide +kernel
theorem d_M_lay_15 : decode b_M_lay 15 = .ok (.iload_n 1, 1) := by decide +kernel
theorem d_M_lay_16 : decode b_M_lay 16 = .ok (.imul, 1) := by decide +kernel
theorem d_M_lay_17 : decode b_M_lay 17 = .ok (.iload 6, 2) := by decide +kernel
theorem d_M_lay_19 : decode b_M_lay 19 = .ok (.iadd, 1) := by decide +kernel
theorem d_M_lay_20 : decode b_M_lay 20 = .ok (.iload 4, 2) := by decide +kernel
theorem d_M_lay_22 : decode b_M_lay 22 = .ok (.iload 5, 2) := by decide +kernel
theorem d_M_lay_24 : decode b_M_lay 24 = .ok (.iadd, 1) := by decide +kernel
theorem d_M_lay_25 : decode b_M_lay 25 = .ok (.iload_n 2, 1) := by decide +kernel
theorem d_M_lay_26 : decode b_M_lay 26 = .ok (.iload 6, 2) := by decide +kernel
theorem d_M_lay_28 : decode b_M_lay 28 = .ok (.isub, 1) := by decide +kernel
theorem d_M_lay_29 : decode b_M_lay 29 = .ok (.isub, 1) := by decide +kernel
theorem d_M_lay_30 : decode b_M_lay 30 = .ok (.iastore, 1) := by decide +kernel
theorem d_M_lay_31 : decode b_M_lay 31 = .ok (.iinc 6 (-1), 3) := by decide +kernel
theorem d_M_lay_34 : decode b_M_lay 34 = .ok (.goto (-31), 3) := by decide +kernel
theorem d_M_lay_37 : decode b_M_lay 37 = .ok (.return_, 1) := by decide +kernel
theorem d_M_thirdOf_0 : decode b_M_thirdOf 0 = .ok (.iload_n 0, 1) := by decide +kernel
theorem d_M_thirdOf_1 : decode b_M_thirdOf 1 = .ok (.tableswitch 191 5 44 #[175, 181, 183, 185, 188, 191, 175, 177, 181, 183, 191, 175, 177, 191, 177, 179, 181, 185, 188, 175, 183, 183, 191, 191, 175, 177, 179, 181, 183, 183, 185, 188, 191, 175, 177, 179, 181, 183, 185, 188], 175) := by decide +kernel
theorem d_M_thirdOf_176 : decode b_M_thirdOf 176 = .ok (.iconst 1, 1) := by decide +kernel
theorem d_M_thirdOf_177 : decode b_M_thirdOf 177 = .ok (.ireturn, 1) := by decide +kernel
theorem d_M_thirdOf_178 : decode b_M_thirdOf 178 = .ok (.iconst 2, 1) := by decide +kernel
theorem d_M_thirdOf_179 : decode b_M_thirdOf 179 = .ok (.ireturn, 1) := by decide +kernel
theorem d_M_thirdOf_180 : decode b_M_thirdOf 180 = .ok (.iconst 3, 1) := by decide +kernel
theorem d_M_thirdOf_181 : decode b_M_thirdOf 181 = .ok (.ireturn, 1) := by decide +kernel
theorem d_M_thirdOf_182 : decode b_M_thirdOf 182 = .ok (.iconst 4, 1) := by decide +kernel
theorem d_M_thirdOf_183 : decode b_M_thirdOf 183 = .ok (.ireturn, 1) := by decide +kernel
theorem d_M_thirdOf_184 : decode b_M_thirdOf 184 = .ok (.iconst 5, 1) := by decide +kernel
theorem d_M_thirdOf_185 : decode b_M_thirdOf 185 = .ok (.ireturn, 1) := by decide +kernel
theorem d_M_thirdOf_186 : decode b_M_thirdOf 186 = .ok (.bipush 6, 2) := by decide +kernel
theorem d_M_thirdOf_188 : decode b_M_thirdOf 188 = .ok (.ireturn, 1) := by decide +kernel
theorem d_M_thirdOf_189 : decode b_M_thirdOf 189 = .ok (.bipush 7, 2) := by decide +kernel
theorem d_M_thirdOf_191 : decode b_M_thirdOf 191 = .ok (.ireturn, 1) := by decide +kernel
theorem d_M_thirdOf_192 : decode b_M_thirdOf 192 = .ok (.iconst 0, 1) := by decide +kernel
theorem d_M_thirdOf_193 : decode b_M_thirdOf 193 = .ok (.ireturn, 1) := by decide +kernel
theorem d_M_isBranch_0 : decode b_M_isBranch 0 = .ok (.iload_n 0, 1) := by decide +kernel
theorem d_M_isBranch_1 : decode b_M_isBranch 1 = .ok (.iconst 3, 1) := by decide +kernel
theorem d_M_isBranch_2 : decode b_M_isBranch 2 = .ok (.if_icmp .le 13, 3) := by decide +kernel
theorem d_M_isBranch_5 : decode b_M_isBranch 5 = .ok (.iload_n 0, 1) := by decide +kernel
theorem d_M_isBranch_6 : decode b_M_isBranch 6 = .ok (.bipush 10, 2) := by decide +kernel
theorem d_M_isBranch_8 : decode b_M_isBranch 8 = .ok (.if_icmp .ge 7, 3) := by decide +kernel
theorem d_M_isBranch_11 : decode b_M_isBranch 11 = .ok (.iconst 1, 1) := by decide +kernel
theorem d_M_isBranch_12 : decode b_M_isBranch 12 = .ok (.goto 4, 3) := by decide +kernel
theorem d_M_isBranch_15 : decode b_M_isBranch 15 = .ok (.iconst 0, 1) := by decide +kernel
theorem d_M_isBranch_16 : decode b_M_isBranch 16 = .ok (.ireturn, 1) := by decide +kernel
theorem d_M_isStore_0 : decode b_M_isStore 0 = .ok (.iload_n 0, 1) := by decide +kernel
theorem d_M_isStore_1 : decode b_M_isStore 1 = .ok (.bipush 14, 2) := by decide +kernel
theorem d_M_isStore_3 : decode b_M_isStore 3 = .ok (.if_icmp .le 13, 3) := by decide +kernel
theorem d_M_isStore_6 : decode b_M_isStore 6 = .ok (.iload_n 0, 1) := by decide +kernel
theorem d_M_isStore_7 : decode b_M_isStore 7 = .ok (.bipush 18, 2) := by decide +kernel
theorem d_M_isStore_9 : decode b_M_isStore 9 = .ok (.if_icmp .ge 7, 3) := by decide +kernel
theorem d_M_isStore_12 : decode b_M_isStore 12 = .ok (.iconst 1, 1) := by decide +kernel
theorem d_M_isStore_13 : decode b_M_isStore 13 = .ok (.goto 4, 3) := by decide +kernel
theorem d_M_isStore_16 : decode b_M_isStore 16 = .ok (.iconst 0, 1) := by decide +kernel
theorem d_M_isStore_17 : decode b_M_isStore 17 = .ok (.ireturn, 1) := by decide +kernel
theorem d_M_seventhOf_0 : decode b_M_seventhOf 0 = .ok (.iload_n 0, 1) := by decide +kernel
theorem d_M_seventhOf_1 : decode b_M_seventhOf 1 = .ok (.bipush 26, 2) := by decide +kernel
theorem d_M_seventhOf_3 : decode b_M_seventhOf 3 = .ok (.if_icmp .eq 15, 3) := by decide +kernel
theorem d_M_seventhOf_6 : decode b_M_seventhOf 6 = .ok (.iload_n 0, 1) := by decide +kernel
theorem d_M_seventhOf_7 : decode b_M_seventhOf 7 = .ok (.bipush 28, 2) := by decide +kernel
theorem d_M_seventhOf_9 : decode b_M_seventhOf 9 = .ok (.if_icmp .eq 9, 3) := by decide +kernel
theorem d_M_seventhOf_12 : decode b_M_seventhOf 12 = .ok (.iload_n 0, 1) := by decide +kernel
theorem d_M_seventhOf_13 : decode b_M_seventhOf 13 = .ok (.bipush 34, 2) := by decide +kernel
theorem d_M_seventhOf_15 : decode b_M_seventhOf 15 = .ok (.if_icmp .ne 8, 3) := by decide +kernel
theorem d_M_seventhOf_18 : decode b_M_seventhOf 18 = .ok (.bipush 32, 2) := by decide +kernel
theorem d_M_seventhOf_20 : decode b_M_seventhOf 20 = .ok (.goto 14, 3) := by decide +kernel
theorem d_M_seventhOf_23 : decode b_M_seventhOf 23 = .ok (.iload_n 0, 1) := by decide +kernel
theorem d_M_seventhOf_24 : decode b_M_seventhOf 24 = .ok (.bipush 36, 2) := by decide +kernel
theorem d_M_seventhOf_26 : decode b_M_seventhOf 26 = .ok (.if_icmp .le 7, 3) := by decide +kernel
theorem d_M_seventhOf_29 : decode b_M_seventhOf 29 = .ok (.iconst 1, 1) := by decide +kernel
theorem d_M_seventhOf_30 : decode b_M_seventhOf 30 = .ok (.goto 4, 3) := by decide +kernel
theorem d_M_seventhOf_33 : decode b_M_seventhOf 33 = .ok (.iconst 0, 1) := by decide +kernel
theorem d_M_seventhOf_34 : decode b_M_seventhOf 34 = .ok (.ireturn, 1) := by decide +kernel
theorem d_M_isShift_0 : decode b_M_isShift 0 = .ok (.iload_n 0, 1) := by decide +kernel
theorem d_M_isShift_1 : decode b_M_isShift 1 = .ok (.bipush 23, 2) := by decide +kernel
theorem d_M_isShift_3 : decode b_M_isShift 3 = .ok (.if_icmp .le 13, 3) := by decide +kernel
theorem d_M_isShift_6 : decode b_M_isShift 6 = .ok (.iload_n 0, 1) := by decide +kernel
theorem d_M_isShift_7 : decode b_M_isShift 7 = .ok (.bipush 27, 2) := by decide +kernel
theorem d_M_isShift_9 : decode b_M_isShift 9 = .ok (.if_icmp .ge 7, 3) := by decide +kernel
theorem d_M_isShift_12 : decode b_M_isShift 12 = .ok (.iconst 1, 1) := by decide +kernel
theorem d_M_isShift_13 : decode b_M_isShift 13 = .ok (.goto 4, 3) := by decide +kernel
theorem d_M_isShift_16 : decode b_M_isShift 16 = .ok (.iconst 0, 1) := by decide +kernel
theorem d_M_isShift_17 : decode b_M_isShift 17 = .ok (.ireturn, 1) := by decide +kernel
theorem d_M_layShort_0 : decode b_M_layShort 0 = .ok (.aload_n 0, 1) := by decide +kernel
theorem d_M_layShort_1 : decode b_M_layShort 1 = .ok (.bipush 48, 2) := by decide +kernel
theorem d_M_layShort_3 : decode b_M_layShort 3 = .ok (.iconst 0, 1) := by decide +kernel
theorem d_M_layShort_4 : decode b_M_layShort 4 = .ok (.iconst 0, 1) := by decide +kernel
theorem d_M_layShort_5 : decode b_M_layShort 5 = .ok (.invokevirtual 60, 3) := by decide +kernel
theorem d_M_layShort_8 : decode b_M_layShort 8 = .ok (.aload_n 0, 1) := by decide +kernel
theorem d_M_layShort_9 : decode b_M_layShort 9 = .ok (.bipush 48, 2) := by decide +kernel
theorem d_M_layShort_11 : decode b_M_layShort 11 = .ok (.bipush 12, 2) := by decide +kernel
theorem d_M_layShort_13 : decode b_M_layShort 13 = .ok (.bipush 11, 2) := by decide +kernel
theorem d_M_layShort_15 : decode b_M_layShort 15 = .ok (.sipush 400, 3) := by decide +kernel
theorem d_M_layShort_18 : decode b_M_layShort 18 = .ok (.iconst 5, 1) := by decide +kernel
theorem d_M_layShort_19 : decode b_M_layShort 19 = .ok (.invokevirtual 40, 3) := by decide +kernel
theorem d_M_layShort_22 : decode b_M_layShort 22 = .ok (.aload_n 0, 1) := by decide +kernel
theorem d_M_layShort_23 : decode b_M_layShort 23 = .ok (.bipush 48, 2) := by decide +kernel
theorem d_M_layShort_25 : decode b_M_layShort 25 = .ok (.bipush 10, 2) := by decide +kernel
theorem d_M_layShort_27 : decode b_M_layShort 27 = .ok (.bipush 7, 2) := by decide +kernel
theorem d_M_layShort_29 : decode b_M_layShort 29 = .ok (.sipush 400, 3) := by decide +kernel
theorem d_M_layShort_32 : decode b_M_layShort 32 = .ok (.bipush 9, 2) := by decide +kernel
theorem d_M_layShort_34 : decode b_M_layShort 34 = .ok (.invokevirtual 40, 3) := by decide +kernel
theorem d_M_layShort_37 : decode b_M_layShort 37 = .ok (.aload_n 0, 1) := by decide +kernel
theorem d_M_layShort_38 : decode b_M_layShort 38 = .ok (.bipush 48, 2) := by decide +kernel
theorem d_M_layShort_40 : decode b_M_layShort 40 = .ok (.bipush 6, 2) := by decide +kernel
theorem d_M_layShort_42 : decode b_M_layShort 42 = .ok (.iconst 2, 1) := by decide +kernel
theorem d_M_layShort_43 : decode b_M_layShort 43 = .ok (.invokevirtual 64, 3) := by decide +kernel
theorem d_M_layShort_46 : decode b_M_layShort 46 = .ok (.aload_n 0, 1) := by decide +kernel
theorem d_M_layShort_47 : decode b_M_layShort 47 = .ok (.bipush 48, 2) := by decide +kernel
theorem d_M_layShort_49 : decode b_M_layShort 49 = .ok (.iconst 5, 1) := by decide +kernel
theorem d_M_layShort_50 : decode b_M_layShort 50 = .ok (.iconst 3, 1) := by decide +kernel
theorem d_M_layShort_51 : decode b_M_layShort 51 = .ok (.invokevirtual 64, 3) := by decide +kernel
theorem d_M_layShort_54 : decode b_M_layShort 54 = .ok (.aload_n 0, 1) := by decide +kernel
theorem d_M_layShort_55 : decode b_M_layShort 55 = .ok (.bipush 48, 2) := by decide +kernel
theorem d_M_layShort_57 : decode b_M_layShort 57 = .ok (.iconst 4, 1) := by decide +kernel
theorem d_M_layShort_58 : decode b_M_layShort 58 = .ok (.iconst 2, 1) := by decide +kernel
theorem d_M_layShort_59 : decode b_M_layShort 59 = .ok (.sipush 500, 3) := by decide +kernel
theorem d_M_layShort_62 : decode b_M_layShort 62 = .ok (.iconst 2, 1) := by decide +kernel
theorem d_M_layShort_63 : decode b_M_layShort 63 = .ok (.invokevirtual 40, 3) := by decide +kernel
theorem d_M_layShort_66 : decode b_M_layShort 66 = .ok (.bipush 49, 2) := by decide +kernel
theorem d_M_layShort_68 : decode b_M_layShort 68 = .ok (.istore_n 1, 1) := by decide +kernel
theorem d_M_layShort_69 : decode b_M_layShort 69 = .ok (.iload_n 1, 1) := by decide +kernel
theorem d_M_layShort_70 : decode b_M_layShort 70 = .ok (.bipush 51, 2) := by decide +kernel
theorem d_M_layShort_72 : decode b_M_layShort 72 = .ok (.if_icmp .ge 92, 3) := by decide +kernel
theorem d_M_layShort_75 : decode b_M_layShort 75 = .ok (.aload_n 0, 1) := by decide +kernel
theorem d_M_layShort_76 : decode b_M_layShort 76 = .ok (.iload_n 1, 1) := by decide +kernel
theorem d_M_layShort_77 : decode b_M_layShort 77 = .ok (.iload_n 1, 1) := by decide +kernel
theorem d_M_layShort_78 : decode b_M_layShort 78 = .ok (.bipush 49, 2) := by decide +kernel
theorem d_M_layShort_80 : decode b_M_layShort 80 = .ok (.if_icmp .ne 7, 3) := by decide +kernel
theorem d_M_layShort_83 : decode b_M_layShort 83 = .ok (.iconst 2, 1) := by decide +kernel
theorem d_M_layShort_84 : decode b_M_layShort 84 = .ok (.goto 5, 3) := by decide +kernel
theorem d_M_layShort_87 : decode b_M_layShort 87 = .ok (.bipush 6, 2) := by decide +kernel
theorem d_M_layShort_89 : decode b_M_layShort 89 = .ok (.iconst 0, 1) := by decide +kernel
theorem d_M_layShort_90 : decode b_M_layShort 90 = .ok (.invokevirtual 60, 3) := by decide +kernel
theorem d_M_layShort_93 : decode b_M_layShort 93 = .ok (.aload_n 0, 1) := by decide +kernel
theorem d_M_layShort_94 : decode b_M_layShort 94 = .ok (.iload_n 1, 1) := by decide +kernel
theorem d_M_layShort_95 : decode b_M_layShort 95 = .ok (.bipush 12, 2) := by decide +kernel
theorem d_M_layShort_97 : decode b_M_layShort 97 = .ok (.bipush 10, 2) := by decide +kernel
theorem d_M_layShort_99 : decode b_M_layShort 99 = .ok (.sipush 400, 3) := by decide +kernel
theorem d_M_layShort_102 : decode b_M_layShort 102 = .ok (.iconst 5, 1) := by decide +kernel
theorem d_M_layShort_103 : decode b_M_layShort 103 = .ok (.invokevirtual 40, 3) := by decide +kernel
theorem d_M_layShort_106 : decode b_M_layShort 106 = .ok (.aload_n 0, 1) := by decide +kernel
theorem d_M_layShort_107 : decode b_M_layShort 107 = .ok (.iload_n 1, 1) := by decide +kernel
theorem d_M_layShort_108 : decode b_M_layShort 108 = .ok (.bipush 9, 2) := by decide +kernel
theorem d_M_layShort_110 : decode b_M_layShort 110 = .ok (.bipush 7, 2) := by decide +kernel
theorem d_M_layShort_112 : decode b_M_layShort 112 = .ok (.sipush 600, 3) := by decide +kernel
theorem d_M_layShort_115 : decode b_M_layShort 115 = .ok (.iconst 2, 1) := by decide +kernel
theorem d_M_layShort_116 : decode b_M_layShort 116 = .ok (.invokevirtual 40, 3) := by decide +kernel
theorem d_M_layShort_119 : decode b_M_layShort 119 = .ok (.aload_n 0, 1) := by decide +kernel
theorem d_M_layShort_120 : decode b_M_layShort 120 = .ok (.iload_n 1, 1) := by decide +kernel
theorem d_M_layShort_121 : decode b_M_layShort 121 = .ok (.bipush 6, 2) := by decide +kernel
theorem d_M_layShort_123 : decode b_M_layShort 123 = .ok (.iconst 2, 1) := by decide +kernel
theorem d_M_layShort_124 : decode b_M_layShort 124 = .ok (.invokevirtual 64, 3) := by decide +kernel
theorem d_M_layShort_127 : decode b_M_layShort 127 = .ok (.aload_n 0, 1) := by decide +kernel
theorem d_M_layShort_128 : decode b_M_layShort 128 = .ok (.iload_n 1, 1) := by decide +kernel
theorem d_M_layShort_129 : decode b_M_layShort 129 = .ok (.iconst 5, 1) := by decide +kernel
theorem d_M_layShort_130 : decode b_M_layShort 130 = .ok (.bipush 6, 2) := by decide +kernel
theorem d_M_layShort_132 : decode b_M_layShort 132 = .ok (.invokevirtual 64, 3) := by decide +kernel
theorem d_M_layShort_135 : decode b_M_layShort 135 = .ok (.aload_n 0, 1) := by decide +kernel
theorem d_M_layShort_136 : decode b_M_layShort 136 = .ok (.iload_n 1, 1) := by decide +kernel
theorem d_M_layShort_137 : decode b_M_layShort 137 = .ok (.iconst 4, 1) := by decide +kernel
theorem d_M_layShort_138 : decode b_M_layShort 138 = .ok (.iconst 2, 1) := by decide +kernel
theorem d_M_layShort_139 : decode b_M_layShort 139 = .ok (.iload_n 1, 1) := by decide +kernel
theorem d_M_layShort_140 : decode b_M_layShort 140 = .ok (.bipush 49, 2) := by decide +kernel
theorem d_M_layShort_142 : decode b_M_layShort 142 = .ok (.if_icmp .ne 9, 3) := by decide +kernel
theorem d_M_layShort_145 : decode b_M_layShort 145 = .ok (.sipush 500, 3) := by decide +kernel
theorem d_M_layShort_148 : decode b_M_layShort 148 = .ok (.goto 6, 3) := by decide +kernel
theorem d_M_layShort_151 : decode b_M_layShort 151 = .ok (.sipush 700, 3) := by decide +kernel
theorem d_M_layShort_154 : decode b_M_layShort 154 = .ok (.iconst 2, 1) := by decide +kernel
theorem d_M_layShort_155 : decode b_M_layShort 155 = .ok (.invokevirtual 40, 3) := by decide +kernel
theorem d_M_layShort_158 : decode b_M_layShort 158 = .ok (.iinc 1 1, 3) := by decide +kernel
theorem d_M_layShort_161 : decode b_M_layShort 161 = .ok (.goto (-92), 3) := by decide +kernel
theorem d_M_layShort_164 : decode b_M_layShort 164 = .ok (.aload_n 0, 1) := by decide +kernel
theorem d_M_layShort_165 : decode b_M_layShort 165 = .ok (.bipush 51, 2) := by decide +kernel
theorem d_M_layShort_167 : decode b_M_layShort 167 = .ok (.iconst 0, 1) := by decide +kernel
theorem d_M_layShort_168 : decode b_M_layShort 168 = .ok (.bipush 16, 2) := by decide +kernel
theorem d_M_layShort_170 : decode b_M_layShort 170 = .ok (.iconst 1, 1) := by decide +kernel
theorem d_M_layShort_171 : decode b_M_layShort 171 = .ok (.invokevirtual 32, 3) := by decide +kernel
theorem d_M_layShort_174 : decode b_M_layShort 174 = .ok (.bipush 52, 2) := by decide +kernel
theorem d_M_layShort_176 : decode b_M_layShort 176 = .ok (.istore_n 1, 1) := by decide +kernel
theorem d_M_layShort_177 : decode b_M_layShort 177 = .ok (.iload_n 1, 1) := by decide +kernel
theorem d_M_layShort_178 : decode b_M_layShort 178 = .ok (.bipush 57, 2) := by decide +kernel
theorem d_M_layShort_180 : decode b_M_layShort 180 = .ok (.if_icmp .ge 83, 3) := by decide +kernel
theorem d_M_layShort_183 : decode b_M_layShort 183 = .ok (.iload_n 1, 1) := by decide +kernel
theorem d_M_layShort_184 : decode b_M_layShort 184 = .ok (.bipush 53, 2) := by decide +kernel
theorem d_M_layShort_186 : decode b_M_layShort 186 = .ok (.if_icmp .eq 71, 3) := by decide +kernel
theorem d_M_layShort_189 : decode b_M_layShort 189 = .ok (.iload_n 1, 1) := by decide +kernel
theorem d_M_layShort_190 : decode b_M_layShort 190 = .ok (.bipush 55, 2) := by decide +kernel
theorem d_M_layShort_192 : decode b_M_layShort 192 = .ok (.if_icmp .ne 6, 3) := by decide +kernel
theorem d_M_layShort_195 : decode b_M_layShort 195 = .ok (.goto 62, 3) := by decide +kernel
theorem d_M_layShort_198 : decode b_M_layShort 198 = .ok (.aload_n 0, 1) := by decide +kernel
theorem d_M_layShort_199 : decode b_M_layShort 199 = .ok (.iload_n 1, 1) := by decide +kernel
theorem d_M_layShort_200 : decode b_M_layShort 200 = .ok (.iload_n 1, 1) := by decide +kernel
theorem d_M_layShort_201 : decode b_M_layShort 201 = .ok (.bipush 52, 2) := by decide +kernel
theorem d_M_layShort_203 : decode b_M_layShort 203 = .ok (.if_icmp .ne 7, 3) := by decide +kernel
theorem d_M_layShort_206 : decode b_M_layShort 206 = .ok (.iconst 0, 1) := by decide +kernel
theorem d_M_layShort_207 : decode b_M_layShort 207 = .ok (.goto 14, 3) := by decide +kernel
theorem d_M_layShort_210 : decode b_M_layShort 210 = .ok (.iload_n 1, 1) := by decide +kernel
theorem d_M_layShort_211 : decode b_M_layShort 211 = .ok (.bipush 54, 2) := by decide +kernel
theorem d_M_layShort_213 : decode b_M_layShort 213 = .ok (.if_icmp .ne 7, 3) := by decide +kernel
theorem d_M_layShort_216 : decode b_M_layShort 216 = .ok (.iconst 2, 1) := by decide +kernel
theorem d_M_layShort_217 : decode b_M_layShort 217 = .ok (.goto 4, 3) := by decide +kernel
theorem d_M_layShort_220 : decode b_M_layShort 220 = .ok (.iconst 3, 1) := by decide +kernel
theorem d_M_layShort_221 : decode b_M_layShort 221 = .ok (.iconst 1, 1) := by decide +kernel
theorem d_M_layShort_222 : decode b_M_layShort 222 = .ok (.invokevirtual 60, 3) := by decide +kernel
theorem d_M_layShort_225 : decode b_M_layShort 225 = .ok (.aload_n 0, 1) := by decide +kernel
theorem d_M_layShort_226 : decode b_M_layShort 226 = .ok (.iload_n 1, 1) := by decide +kernel
theorem d_M_layShort_227 : decode b_M_layShort 227 = .ok (.bipush 12, 2) := by decide +kernel
theorem d_M_layShort_229 : decode b_M_layShort 229 = .ok (.iconst 5, 1) := by decide +kernel
theorem d_M_layShort_230 : decode b_M_layShort 230 = .ok (.invokevirtual 64, 3) := by decide +kernel
theorem d_M_layShort_233 : decode b_M_layShort 233 = .ok (.aload_n 0, 1) := by decide +kernel
theorem d_M_layShort_234 : decode b_M_layShort 234 = .ok (.iload_n 1, 1) := by decide +kernel
theorem d_M_layShort_235 : decode b_M_layShort 235 = .ok (.bipush 11, 2) := by decide +kernel
theorem d_M_layShort_237 : decode b_M_layShort 237 = .ok (.bipush 7, 2) := by decide +kernel
theorem d_M_layShort_239 : decode b_M_layShort 239 = .ok (.bipush 100, 2) := by decide +kernel
theorem d_M_layShort_241 : decode b_M_layShort 241 = .ok (.iconst 4, 1) := by decide +kernel
theorem d_M_layShort_242 : decode b_M_layShort 242 = .ok (.invokevirtual 40, 3) := by decide +kernel
theorem d_M_layShort_245 : decode b_M_layShort 245 = .ok (.aload_n 0, 1) := by decide +kernel
theorem d_M_layShort_246 : decode b_M_layShort 246 = .ok (.iload_n 1, 1) := by decide +kernel
theorem d_M_layShort_247 : decode b_M_layShort 247 = .ok (.bipush 6, 2) := by decide +kernel
theorem d_M_layShort_249 : decode b_M_layShort 249 = .ok (.iconst 2, 1) := by decide +kernel
theorem d_M_layShort_250 : decode b_M_layShort 250 = .ok (.sipush 400, 3) := by decide +kernel
theorem d_M_layShort_253 : decode b_M_layShort 253 = .ok (.iconst 4, 1) := by decide +kernel
theorem d_M_layShort_254 : decode b_M_layShort 254 = .ok (.invokevirtual 40, 3) := by decide +kernel
theorem d_M_layShort_257 : decode b_M_layShort 257 = .ok (.iinc 1 1, 3) := by decide +kernel
theorem d_M_layShort_260 : decode b_M_layShort 260 = .ok (.goto (-83), 3) := by decide +kernel
theorem d_M_layShort_263 : decode b_M_layShort 263 = .ok (.aload_n 0, 1) := by decide +kernel
theorem d_M_layShort_264 : decode b_M_layShort 264 = .ok (.bipush 53, 2) := by decide +kernel
theorem d_M_layShort_266 : decode b_M_layShort 266 = .ok (.iconst 1, 1) := by decide +kernel
theorem d_M_layShort_267 : decode b_M_layShort 267 = .ok (.invokevirtual 67, 3) := by decide +kernel
theorem d_M_layShort_270 : decode b_M_layShort 270 = .ok (.aload_n 0, 1) := by decide +kernel
theorem d_M_layShort_271 : decode b_M_layShort 271 = .ok (.bipush 64, 2) := by decide +kernel
theorem d_M_layShort_273 : decode b_M_layShort 273 = .ok (.iconst 5, 1) := by decide +kernel
theorem d_M_layShort_274 : decode b_M_layShort 274 = .ok (.invokevirtual 67, 3) := by decide +kernel
theorem d_M_layShort_277 : decode b_M_layShort 277 = .ok (.aload_n 0, 1) := by decide +kernel
theorem d_M_layShort_278 : decode b_M_layShort 278 = .ok (.bipush 55, 2) := by decide +kernel
theorem d_M_layShort_280 : decode b_M_layShort 280 = .ok (.iconst 3, 1) := by decide +kernel
theorem d_M_layShort_281 : decode b_M_layShort 281 = .ok (.iconst 1, 1) := by decide +kernel
theorem d_M_layShort_282 : decode b_M_layShort 282 = .ok (.invokevirtual 60, 3) := by decide +kernel
theorem d_M_layShort_285 : decode b_M_layShort 285 = .ok (.aload_n 0, 1) := by decide +kernel
theorem d_M_layShort_286 : decode b_M_layShort 286 = .ok (.bipush 55, 2) := by decide +kernel
theorem d_M_layShort_288 : decode b_M_layShort 288 = .ok (.bipush 12, 2) := by decide +kernel
theorem d_M_layShort_290 : decode b_M_layShort 290 = .ok (.bipush 9, 2) := by decide +kernel
theorem d_M_layShort_292 : decode b_M_layShort 292 = .ok (.invokevirtual 64, 3) := by decide +kernel
theorem d_M_layShort_295 : decode b_M_layShort 295 = .ok (.aload_n 0, 1) := by decide +kernel
theorem d_M_layShort_296 : decode b_M_layShort 296 = .ok (.bipush 55, 2) := by decide +kernel
theorem d_M_layShort_298 : decode b_M_layShort 298 = .ok (.bipush 7, 2) := by decide +kernel
theorem d_M_layShort_300 : decode b_M_layShort 300 = .ok (.iconst 5, 1) := by decide +kernel
theorem d_M_layShort_301 : decode b_M_layShort 301 = .ok (.iconst 2, 1) := by decide +kernel
theorem d_M_layShort_302 : decode b_M_layShort 302 = .ok (.invokevirtual 32, 3) := by decide +kernel
theorem d_M_layShort_305 : decode b_M_layShort 305 = .ok (.aload_n 0, 1) := by decide +kernel
theorem d_M_layShort_306 : decode b_M_layShort 306 = .ok (.bipush 55, 2) := by decide +kernel
theorem d_M_layShort_308 : decode b_M_layShort 308 = .ok (.bipush 6, 2) := by decide +kernel
theorem d_M_layShort_310 : decode b_M_layShort 310 = .ok (.iconst 4, 1) := by decide +kernel
theorem d_M_layShort_311 : decode b_M_layShort 311 = .ok (.invokevirtual 64, 3) := by decide +kernel
theorem d_M_layShort_314 : decode b_M_layShort 314 = .ok (.aload_n 0, 1) := by decide +kernel
theorem d_M_layShort_315 : decode b_M_layShort 315 = .ok (.bipush 55, 2) := by decide +kernel
theorem d_M_layShort_317 : decode b_M_layShort 317 = .ok (.iconst 5, 1) := by decide +kernel
theorem d_M_layShort_318 : decode b_M_layShort 318 = .ok (.bipush 6, 2) := by decide +kernel
theorem d_M_layShort_320 : decode b_M_layShort 320 = .ok (.invokevirtual 64, 3) := by decide +kernel
theorem d_M_layShort_323 : decode b_M_layShort 323 = .ok (.aload_n 0, 1) := by decide +kernel
theorem d_M_layShort_324 : decode b_M_layShort 324 = .ok (.bipush 55, 2) := by decide +kernel
theorem d_M_layShort_326 : decode b_M_layShort 326 = .ok (.iconst 4, 1) := by decide +kernel
theorem d_M_layShort_327 : decode b_M_layShort 327 = .ok (.iconst 3, 1) := by decide +kernel
theorem d_M_layShort_328 : decode b_M_layShort 328 = .ok (.sipush 400, 3) := by decide +kernel
theorem d_M_layShort_331 : decode b_M_layShort 331 = .ok (.bipush 8, 2) := by decide +kernel
theorem d_M_layShort_333 : decode b_M_layShort 333 = .ok (.invokevirtual 40, 3) := by decide +kernel
theorem d_M_layShort_336 : decode b_M_layShort 336 = .ok (.aload_n 0, 1) := by decide +kernel
theorem d_M_layShort_337 : decode b_M_layShort 337 = .ok (.bipush 55, 2) := by decide +kernel
theorem d_M_layShort_339 : decode b_M_layShort 339 = .ok (.iconst 2, 1) := by decide +kernel
theorem d_M_layShort_340 : decode b_M_layShort 340 = .ok (.iconst 5, 1) := by decide +kernel
theorem d_M_layShort_341 : decode b_M_layShort 341 = .ok (.invokevirtual 64, 3) := by decide +kernel
theorem d_M_layShort_344 : decode b_M_layShort 344 = .ok (.bipush 57, 2) := by decide +kernel
theorem d_M_layShort_346 : decode b_M_layShort 346 = .ok (.istore_n 1, 1) := by decide +kernel
theorem d_M_layShort_347 : decode b_M_layShort 347 = .ok (.iload_n 1, 1) := by decide +kernel
theorem d_M_layShort_348 : decode b_M_layShort 348 = .ok (.bipush 60, 2) := by decide +kernel
theorem d_M_layShort_350 : decode b_M_layShort 350 = .ok (.if_icmp .ge 67, 3) := by decide +kernel
theorem d_M_layShort_353 : decode b_M_layShort 353 = .ok (.aload_n 0, 1) := by decide +kernel
theorem d_M_layShort_354 : decode b_M_layShort 354 = .ok (.iload_n 1, 1) := by decide +kernel
theorem d_M_layShort_355 : decode b_M_layShort 355 = .ok (.iconst 4, 1) := by decide +kernel
theorem d_M_layShort_356 : decode b_M_layShort 356 = .ok (.iconst 1, 1) := by decide +kernel
theorem d_M_layShort_357 : decode b_M_layShort 357 = .ok (.invokevirtual 60, 3) := by decide +kernel
theorem d_M_layShort_360 : decode b_M_layShort 360 = .ok (.aload_n 0, 1) := by decide +kernel
theorem d_M_layShort_361 : decode b_M_layShort 361 = .ok (.iload_n 1, 1) := by decide +kernel
theorem d_M_layShort_362 : decode b_M_layShort 362 = .ok (.bipush 10, 2) := by decide +kernel
theorem d_M_layShort_364 : decode b_M_layShort 364 = .ok (.iconst 3, 1) := by decide +kernel
theorem d_M_layShort_365 : decode b_M_layShort 365 = .ok (.iload_n 1, 1) := by decide +kernel
theorem d_M_layShort_366 : decode b_M_layShort 366 = .ok (.bipush 57, 2) := by decide +kernel
theorem d_M_layShort_368 : decode b_M_layShort 368 = .ok (.isub, 1) := by decide +kernel
theorem d_M_layShort_369 : decode b_M_layShort 369 = .ok (.invokevirtual 32, 3) := by decide +kernel
theorem d_M_layShort_372 : decode b_M_layShort 372 = .ok (.iload_n 1, 1) := by decide +kernel
theorem d_M_layShort_373 : decode b_M_layShort 373 = .ok (.bipush 59, 2) := by decide +kernel
theorem d_M_layShort_375 : decode b_M_layShort 375 = .ok (.if_icmp .ne 11, 3) := by decide +kernel
theorem d_M_layShort_378 : decode b_M_layShort 378 = .ok (.aload_n 0, 1) := by decide +kernel
theorem d_M_layShort_379 : decode b_M_layShort 379 = .ok (.iload_n 1, 1) := by decide +kernel
theorem d_M_layShort_380 : decode b_M_layShort 380 = .ok (.bipush 12, 2) := by decide +kernel
theorem d_M_layShort_382 : decode b_M_layShort 382 = .ok (.iconst 5, 1) := by decide +kernel
theorem d_M_layShort_383 : decode b_M_layShort 383 = .ok (.invokevirtual 64, 3) := by decide +kernel
theorem d_M_layShort_386 : decode b_M_layShort 386 = .ok (.aload_n 0, 1) := by decide +kernel
theorem d_M_layShort_387 : decode b_M_layShort 387 = .ok (.iload_n 1, 1) := by decide +kernel
theorem d_M_layShort_388 : decode b_M_layShort 388 = .ok (.bipush 9, 2) := by decide +kernel
theorem d_M_layShort_390 : decode b_M_layShort 390 = .ok (.bipush 7, 2) := by decide +kernel
theorem d_M_layShort_392 : decode b_M_layShort 392 = .ok (.sipush 500, 3) := by decide +kernel
theorem d_M_layShort_395 : decode b_M_layShort 395 = .ok (.iconst 2, 1) := by decide +kernel
theorem d_M_layShort_396 : decode b_M_layShort 396 = .ok (.invokevirtual 40, 3) := by decide +kernel
theorem d_M_layShort_399 : decode b_M_layShort 399 = .ok (.aload_n 0, 1) := by decide +kernel
theorem d_M_layShort_400 : decode b_M_layShort 400 = .ok (.iload_n 1, 1) := by decide +kernel
theorem d_M_layShort_401 : decode b_M_layShort 401 = .ok (.bipush 6, 2) := by decide +kernel
theorem d_M_layShort_403 : decode b_M_layShort 403 = .ok (.iconst 2, 1) := by decide +kernel
theorem d_M_layShort_404 : decode b_M_layShort 404 = .ok (.sipush 400, 3) := by decide +kernel
theorem d_M_layShort_407 : decode b_M_layShort 407 = .ok (.iconst 4, 1) := by decide +kernel
theorem d_M_layShort_408 : decode b_M_layShort 408 = .ok (.invokevirtual 40, 3) := by decide +kernel
theorem d_M_layShort_411 : decode b_M_layShort 411 = .ok (.iinc 1 1, 3) := by decide +kernel
theorem d_M_layShort_414 : decode b_M_layShort 414 = .ok (.goto (-67), 3) := by decide +kernel
theorem d_M_layShort_417 : decode b_M_layShort 417 = .ok (.bipush 60, 2) := by decide +kernel
theorem d_M_layShort_419 : decode b_M_layShort 419 = .ok (.istore_n 1, 1) := by decide +kernel
theorem d_M_layShort_420 : decode b_M_layShort 420 = .ok (.iload_n 1, 1) := by decide +kernel
theorem d_M_layShort_421 : decode b_M_layShort 421 = .ok (.bipush 64, 2) := by decide +kernel
theorem d_M_layShort_423 : decode b_M_layShort 423 = .ok (.if_icmp .ge 60, 3) := by decide +kernel
theorem d_M_layShort_426 : decode b_M_layShort 426 = .ok (.aload_n 0, 1) := by decide +kernel
theorem d_M_layShort_427 : decode b_M_layShort 427 = .ok (.iload_n 1, 1) := by decide +kernel
theorem d_M_layShort_428 : decode b_M_layShort 428 = .ok (.iconst 4, 1) := by decide +kernel
theorem d_M_layShort_429 : decode b_M_layShort 429 = .ok (.iconst 1, 1) := by decide +kernel
theorem d_M_layShort_430 : decode b_M_layShort 430 = .ok (.invokevirtual 60, 3) := by decide +kernel
theorem d_M_layShort_433 : decode b_M_layShort 433 = .ok (.aload_n 0, 1) := by decide +kernel
theorem d_M_layShort_434 : decode b_M_layShort 434 = .ok (.iload_n 1, 1) := by decide +kernel
theorem d_M_layShort_435 : decode b_M_layShort 435 = .ok (.bipush 10, 2) := by decide +kernel
theorem d_M_layShort_437 : decode b_M_layShort 437 = .ok (.iconst 3, 1) := by decide +kernel
theorem d_M_layShort_438 : decode b_M_layShort 438 = .ok (.iconst 3, 1) := by decide +kernel
theorem d_M_layShort_439 : decode b_M_layShort 439 = .ok (.invokevirtual 32, 3) := by decide +kernel
theorem d_M_layShort_442 : decode b_M_layShort 442 = .ok (.aload_n 0, 1) := by decide +kernel
theorem d_M_layShort_443 : decode b_M_layShort 443 = .ok (.iload_n 1, 1) := by decide +kernel
theorem d_M_layShort_444 : decode b_M_layShort 444 = .ok (.bipush 9, 2) := by decide +kernel
theorem d_M_layShort_446 : decode b_M_layShort 446 = .ok (.bipush 7, 2) := by decide +kernel
theorem d_M_layShort_448 : decode b_M_layShort 448 = .ok (.sipush 500, 3) := by decide +kernel
theorem d_M_layShort_451 : decode b_M_layShort 451 = .ok (.iconst 2, 1) := by decide +kernel
theorem d_M_layShort_452 : decode b_M_layShort 452 = .ok (.invokevirtual 40, 3) := by decide +kernel
theorem d_M_layShort_455 : decode b_M_layShort 455 = .ok (.aload_n 0, 1) := by decide +kernel
theorem d_M_layShort_456 : decode b_M_layShort 456 = .ok (.iload_n 1, 1) := by decide +kernel
theorem d_M_layShort_457 : decode b_M_layShort 457 = .ok (.iconst 5, 1) := by decide +kernel
theorem d_M_layShort_458 : decode b_M_layShort 458 = .ok (.iconst 2, 1) := by decide +kernel
theorem d_M_layShort_459 : decode b_M_layShort 459 = .ok (.iload_n 1, 1) := by decide +kernel
theorem d_M_layShort_460 : decode b_M_layShort 460 = .ok (.bipush 60, 2) := by decide +kernel
theorem d_M_layShort_462 : decode b_M_layShort 462 = .ok (.isub, 1) := by decide +kernel
theorem d_M_layShort_463 : decode b_M_layShort 463 = .ok (.invokevirtual 32, 3) := by decide +kernel
theorem d_M_layShort_466 : decode b_M_layShort 466 = .ok (.aload_n 0, 1) := by decide +kernel
theorem d_M_layShort_467 : decode b_M_layShort 467 = .ok (.iload_n 1, 1) := by decide +kernel
theorem d_M_layShort_468 : decode b_M_layShort 468 = .ok (.iconst 4, 1) := by decide +kernel
theorem d_M_layShort_469 : decode b_M_layShort 469 = .ok (.iconst 2, 1) := by decide +kernel
theorem d_M_layShort_470 : decode b_M_layShort 470 = .ok (.sipush 700, 3) := by decide +kernel
theorem d_M_layShort_473 : decode b_M_layShort 473 = .ok (.iconst 2, 1) := by decide +kernel
theorem d_M_layShort_474 : decode b_M_layShort 474 = .ok (.invokevirtual 40, 3) := by decide +kernel
theorem d_M_layShort_477 : decode b_M_layShort 477 = .ok (.iinc 1 1, 3) := by decide +kernel
theorem d_M_layShort_480 : decode b_M_layShort 480 = .ok (.goto (-60), 3) := by decide +kernel
theorem d_M_layShort_483 : decode b_M_layShort 483 = .ok (.bipush 65, 2) := by decide +kernel
theorem d_M_layShort_485 : decode b_M_layShort 485 = .ok (.istore_n 1, 1) := by decide +kernel
theorem d_M_layShort_486 : decode b_M_layShort 486 = .ok (.iload_n 1, 1) := by decide +kernel
theorem d_M_layShort_487 : decode b_M_layShort 487 = .ok (.bipush 67, 2) := by decide +kernel
theorem d_M_layShort_489 : decode b_M_layShort 489 = .ok (.if_icmp .ge 94, 3) := by decide +kernel
theorem d_M_layShort_492 : decode b_M_layShort 492 = .ok (.aload_n 0, 1) := by decide +kernel
theorem d_M_layShort_493 : decode b_M_layShort 493 = .ok (.iload_n 1, 1) := by decide +kernel
theorem d_M_layShort_494 : decode b_M_layShort 494 = .ok (.iload_n 1, 1) := by decide +kernel
theorem d_M_layShort_495 : decode b_M_layShort 495 = .ok (.bipush 65, 2) := by decide +kernel
theorem d_M_layShort_497 : decode b_M_layShort 497 = .ok (.if_icmp .ne 8, 3) := by decide +kernel
theorem d_M_layShort_500 : decode b_M_layShort 500 = .ok (.bipush 6, 2) := by decide +kernel
theorem d_M_layShort_502 : decode b_M_layShort 502 = .ok (.goto 5, 3) := by decide +kernel
theorem d_M_layShort_505 : decode b_M_layShort 505 = .ok (.bipush 7, 2) := by decide +kernel
theorem d_M_layShort_507 : decode b_M_layShort 507 = .ok (.iconst 1, 1) := by decide +kernel
theorem d_M_layShort_508 : decode b_M_layShort 508 = .ok (.invokevirtual 60, 3) := by decide +kernel
theorem d_M_layShort_511 : decode b_M_layShort 511 = .ok (.aload_n 0, 1) := by decide +kernel
theorem d_M_layShort_512 : decode b_M_layShort 512 = .ok (.iload_n 1, 1) := by decide +kernel
theorem d_M_layShort_513 : decode b_M_layShort 513 = .ok (.bipush 12, 2) := by decide +kernel
theorem d_M_layShort_515 : decode b_M_layShort 515 = .ok (.bipush 8, 2) := by decide +kernel
theorem d_M_layShort_517 : decode b_M_layShort 517 = .ok (.invokevirtual 64, 3) := by decide +kernel
theorem d_M_layShort_520 : decode b_M_layShort 520 = .ok (.aload_n 0, 1) := by decide +kernel
theorem d_M_layShort_521 : decode b_M_layShort 521 = .ok (.iload_n 1, 1) := by decide +kernel
theorem d_M_layShort_522 : decode b_M_layShort 522 = .ok (.bipush 11, 2) := by decide +kernel
theorem d_M_layShort_524 : decode b_M_layShort 524 = .ok (.bipush 10, 2) := by decide +kernel
theorem d_M_layShort_526 : decode b_M_layShort 526 = .ok (.sipush 400, 3) := by decide +kernel
theorem d_M_layShort_529 : decode b_M_layShort 529 = .ok (.iconst 4, 1) := by decide +kernel
theorem d_M_layShort_530 : decode b_M_layShort 530 = .ok (.invokevirtual 40, 3) := by decide +kernel
theorem d_M_layShort_533 : decode b_M_layShort 533 = .ok (.aload_n 0, 1) := by decide +kernel
theorem d_M_layShort_534 : decode b_M_layShort 534 = .ok (.iload_n 1, 1) := by decide +kernel
theorem d_M_layShort_535 : decode b_M_layShort 535 = .ok (.bipush 9, 2) := by decide +kernel
theorem d_M_layShort_537 : decode b_M_layShort 537 = .ok (.bipush 7, 2) := by decide +kernel
theorem d_M_layShort_539 : decode b_M_layShort 539 = .ok (.sipush 600, 3) := by decide +kernel
theorem d_M_layShort_542 : decode b_M_layShort 542 = .ok (.iconst 2, 1) := by decide +kernel
theorem d_M_layShort_543 : decode b_M_layShort 543 = .ok (.invokevirtual 40, 3) := by decide +kernel
theorem d_M_layShort_546 : decode b_M_layShort 546 = .ok (.aload_n 0, 1) := by decide +kernel
theorem d_M_layShort_547 : decode b_M_layShort 547 = .ok (.iload_n 1, 1) := by decide +kernel
theorem d_M_layShort_548 : decode b_M_layShort 548 = .ok (.bipush 6, 2) := by decide +kernel
theorem d_M_layShort_550 : decode b_M_layShort 550 = .ok (.iconst 5, 1) := by decide +kernel
theorem d_M_layShort_551 : decode b_M_layShort 551 = .ok (.sipush 400, 3) := by decide +kernel
theorem d_M_layShort_554 : decode b_M_layShort 554 = .ok (.bipush 7, 2) := by decide +kernel
theorem d_M_layShort_556 : decode b_M_layShort 556 = .ok (.invokevirtual 40, 3) := by decide +kernel
theorem d_M_layShort_559 : decode b_M_layShort 559 = .ok (.aload_n 0, 1) := by decide +kernel
theorem d_M_layShort_560 : decode b_M_layShort 560 = .ok (.iload_n 1, 1) := by decide +kernel
theorem d_M_layShort_561 : decode b_M_layShort 561 = .ok (.iconst 4, 1) := by decide +kernel
theorem d_M_layShort_562 : decode b_M_layShort 562 = .ok (.iconst 3, 1) := by decide +kernel
theorem d_M_layShort_563 : decode b_M_layShort 563 = .ok (.sipush 400, 3) := by decide +kernel
theorem d_M_layShort_566 : decode b_M_layShort 566 = .ok (.iconst 2, 1) := by decide +kernel
theorem d_M_layShort_567 : decode b_M_layShort 567 = .ok (.invokevirtual 40, 3) := by decide +kernel
theorem d_M_layShort_570 : decode b_M_layShort 570 = .ok (.aload_n 0, 1) := by decide +kernel
theorem d_M_layShort_571 : decode b_M_layShort 571 = .ok (.iload_n 1, 1) := by decide +kernel
theorem d_M_layShort_572 : decode b_M_layShort 572 = .ok (.iconst 2, 1) := by decide +kernel
theorem d_M_layShort_573 : decode b_M_layShort 573 = .ok (.iconst 5, 1) := by decide +kernel
theorem d_M_layShort_574 : decode b_M_layShort 574 = .ok (.invokevirtual 64, 3) := by decide +kernel
theorem d_M_layShort_577 : decode b_M_layShort 577 = .ok (.iinc 1 1, 3) := by decide +kernel
theorem d_M_layShort_580 : decode b_M_layShort 580 = .ok (.goto (-94), 3) := by decide +kernel
theorem d_M_layShort_583 : decode b_M_layShort 583 = .ok (.aload_n 0, 1) := by decide +kernel
theorem d_M_layShort_584 : decode b_M_layShort 584 = .ok (.bipush 67, 2) := by decide +kernel
theorem d_M_layShort_586 : decode b_M_layShort 586 = .ok (.iconst 0, 1) := by decide +kernel
theorem d_M_layShort_587 : decode b_M_layShort 587 = .ok (.iconst 2, 1) := by decide +kernel
theorem d_M_layShort_588 : decode b_M_layShort 588 = .ok (.invokevirtual 60, 3) := by decide +kernel
theorem d_M_layShort_591 : decode b_M_layShort 591 = .ok (.aload_n 0, 1) := by decide +kernel
theorem d_M_layShort_592 : decode b_M_layShort 592 = .ok (.bipush 67, 2) := by decide +kernel
theorem d_M_layShort_594 : decode b_M_layShort 594 = .ok (.bipush 11, 2) := by decide +kernel
theorem d_M_layShort_596 : decode b_M_layShort 596 = .ok (.bipush 7, 2) := by decide +kernel
theorem d_M_layShort_598 : decode b_M_layShort 598 = .ok (.bipush 100, 2) := by decide +kernel
theorem d_M_layShort_600 : decode b_M_layShort 600 = .ok (.iconst 4, 1) := by decide +kernel
theorem d_M_layShort_601 : decode b_M_layShort 601 = .ok (.invokevirtual 40, 3) := by decide +kernel
theorem d_M_layShort_604 : decode b_M_layShort 604 = .ok (.aload_n 0, 1) := by decide +kernel
theorem d_M_layShort_605 : decode b_M_layShort 605 = .ok (.bipush 67, 2) := by decide +kernel
theorem d_M_layShort_607 : decode b_M_layShort 607 = .ok (.bipush 6, 2) := by decide +kernel
theorem d_M_layShort_609 : decode b_M_layShort 609 = .ok (.iconst 2, 1) := by decide +kernel
theorem d_M_layShort_610 : decode b_M_layShort 610 = .ok (.sipush 400, 3) := by decide +kernel
theorem d_M_layShort_613 : decode b_M_layShort 613 = .ok (.iconst 4, 1) := by decide +kernel
theorem d_M_layShort_614 : decode b_M_layShort 614 = .ok (.invokevirtual 40, 3) := by decide +kernel
theorem d_M_layShort_617 : decode b_M_layShort 617 = .ok (.aload_n 0, 1) := by decide +kernel
theorem d_M_layShort_618 : decode b_M_layShort 618 = .ok (.bipush 68, 2) := by decide +kernel
theorem d_M_layShort_620 : decode b_M_layShort 620 = .ok (.iconst 2, 1) := by decide +kernel
theorem d_M_layShort_621 : decode b_M_layShort 621 = .ok (.iconst 2, 1) := by decide +kernel
theorem d_M_layShort_622 : decode b_M_layShort 622 = .ok (.invokevirtual 60, 3) := by decide +kernel
theorem d_M_layShort_625 : decode b_M_layShort 625 = .ok (.aload_n 0, 1) := by decide +kernel
theorem d_M_layShort_626 : decode b_M_layShort 626 = .ok (.bipush 68, 2) := by decide +kernel
theorem d_M_layShort_628 : decode b_M_layShort 628 = .ok (.bipush 12, 2) := by decide +kernel
theorem d_M_layShort_630 : decode b_M_layShort 630 = .ok (.iconst 5, 1) := by decide +kernel
theorem d_M_layShort_631 : decode b_M_layShort 631 = .ok (.invokevirtual 64, 3) := by decide +kernel
theorem d_M_layShort_634 : decode b_M_layShort 634 = .ok (.aload_n 0, 1) := by decide +kernel
theorem d_M_layShort_635 : decode b_M_layShort 635 = .ok (.bipush 68, 2) := by decide +kernel
theorem d_M_layShort_637 : decode b_M_layShort 637 = .ok (.bipush 11, 2) := by decide +kernel
theorem d_M_layShort_639 : decode b_M_layShort 639 = .ok (.bipush 7, 2) := by decide +kernel
theorem d_M_layShort_641 : decode b_M_layShort 641 = .ok (.bipush 100, 2) := by decide +kernel
theorem d_M_layShort_643 : decode b_M_layShort 643 = .ok (.iconst 4, 1) := by decide +kernel
theorem d_M_layShort_644 : decode b_M_layShort 644 = .ok (.invokevirtual 40, 3) := by decide +kernel
theorem d_M_layShort_647 : decode b_M_layShort 647 = .ok (.aload_n 0, 1) := by decide +kernel
theorem d_M_layShort_648 : decode b_M_layShort 648 = .ok (.bipush 68, 2) := by decide +kernel
theorem d_M_layShort_650 : decode b_M_layShort 650 = .ok (.bipush 6, 2) := by decide +kernel
theorem d_M_layShort_652 : decode b_M_layShort 652 = .ok (.iconst 4, 1) := by decide +kernel
theorem d_M_layShort_653 : decode b_M_layShort 653 = .ok (.sipush 400, 3) := by decide +kernel
theorem d_M_layShort_656 : decode b_M_layShort 656 = .ok (.iconst 4, 1) := by decide +kernel
theorem d_M_layShort_657 : decode b_M_layShort 657 = .ok (.invokevirtual 40, 3) := by decide +kernel
theorem d_M_layShort_660 : decode b_M_layShort 660 = .ok (.aload_n 0, 1) := by decide +kernel
theorem d_M_layShort_661 : decode b_M_layShort 661 = .ok (.bipush 68, 2) := by decide +kernel
theorem d_M_layShort_663 : decode b_M_layShort 663 = .ok (.iconst 3, 1) := by decide +kernel
theorem d_M_layShort_664 : decode b_M_layShort 664 = .ok (.iconst 2, 1) := by decide +kernel
theorem d_M_layShort_665 : decode b_M_layShort 665 = .ok (.sipush 400, 3) := by decide +kernel
theorem d_M_layShort_668 : decode b_M_layShort 668 = .ok (.bipush 7, 2) := by decide +kernel
theorem d_M_layShort_670 : decode b_M_layShort 670 = .ok (.invokevirtual 40, 3) := by decide +kernel
theorem d_M_layShort_673 : decode b_M_layShort 673 = .ok (.bipush 69, 2) := by decide +kernel
theorem d_M_layShort_675 : decode b_M_layShort 675 = .ok (.istore_n 1, 1) := by decide +kernel
theorem d_M_layShort_676 : decode b_M_layShort 676 = .ok (.iload_n 1, 1) := by decide +kernel
theorem d_M_layShort_677 : decode b_M_layShort 677 = .ok (.bipush 74, 2) := by decide +kernel
theorem d_M_layShort_679 : decode b_M_layShort 679 = .ok (.if_icmp .ge 108, 3) := by decide +kernel
theorem d_M_layShort_682 : decode b_M_layShort 682 = .ok (.aload_n 0, 1) := by decide +kernel
theorem d_M_layShort_683 : decode b_M_layShort 683 = .ok (.iload_n 1, 1) := by decide +kernel
theorem d_M_layShort_684 : decode b_M_layShort 684 = .ok (.iconst 4, 1) := by decide +kernel
theorem d_M_layShort_685 : decode b_M_layShort 685 = .ok (.iconst 2, 1) := by decide +kernel
theorem d_M_layShort_686 : decode b_M_layShort 686 = .ok (.invokevirtual 60, 3) := by decide +kernel
theorem d_M_layShort_689 : decode b_M_layShort 689 = .ok (.aload_n 0, 1) := by decide +kernel
theorem d_M_layShort_690 : decode b_M_layShort 690 = .ok (.iload_n 1, 1) := by decide +kernel
theorem d_M_layShort_691 : decode b_M_layShort 691 = .ok (.bipush 12, 2) := by decide +kernel
theorem d_M_layShort_693 : decode b_M_layShort 693 = .ok (.iconst 1, 1) := by decide +kernel
theorem d_M_layShort_694 : decode b_M_layShort 694 = .ok (.iload_n 1, 1) := by decide +kernel
theorem d_M_layShort_695 : decode b_M_layShort 695 = .ok (.bipush 70, 2) := by decide +kernel
theorem d_M_layShort_697 : decode b_M_layShort 697 = .ok (.if_icmp .le 7, 3) := by decide +kernel
theorem d_M_layShort_700 : decode b_M_layShort 700 = .ok (.iconst 1, 1) := by decide +kernel
theorem d_M_layShort_701 : decode b_M_layShort 701 = .ok (.goto 4, 3) := by decide +kernel
theorem d_M_layShort_704 : decode b_M_layShort 704 = .ok (.iconst 0, 1) := by decide +kernel
theorem d_M_layShort_705 : decode b_M_layShort 705 = .ok (.invokevirtual 32, 3) := by decide +kernel
theorem d_M_layShort_708 : decode b_M_layShort 708 = .ok (.iload_n 1, 1) := by decide +kernel
theorem d_M_layShort_709 : decode b_M_layShort 709 = .ok (.bipush 69, 2) := by decide +kernel
theorem d_M_layShort_711 : decode b_M_layShort 711 = .ok (.if_icmp .eq 9, 3) := by decide +kernel
theorem d_M_layShort_714 : decode b_M_layShort 714 = .ok (.iload_n 1, 1) := by decide +kernel
theorem d_M_layShort_715 : decode b_M_layShort 715 = .ok (.bipush 72, 2) := by decide +kernel
theorem d_M_layShort_717 : decode b_M_layShort 717 = .ok (.if_icmp .ne 16, 3) := by decide +kernel
theorem d_M_layShort_720 : decode b_M_layShort 720 = .ok (.aload_n 0, 1) := by decide +kernel
theorem d_M_layShort_721 : decode b_M_layShort 721 = .ok (.iload_n 1, 1) := by decide +kernel
theorem d_M_layShort_722 : decode b_M_layShort 722 = .ok (.bipush 11, 2) := by decide +kernel
theorem d_M_layShort_724 : decode b_M_layShort 724 = .ok (.bipush 7, 2) := by decide +kernel
theorem d_M_layShort_726 : decode b_M_layShort 726 = .ok (.sipush 200, 3) := by decide +kernel
theorem d_M_layShort_729 : decode b_M_layShort 729 = .ok (.iconst 4, 1) := by decide +kernel
theorem d_M_layShort_730 : decode b_M_layShort 730 = .ok (.invokevirtual 40, 3) := by decide +kernel
theorem d_M_layShort_733 : decode b_M_layShort 733 = .ok (.iload_n 1, 1) := by decide +kernel
theorem d_M_layShort_734 : decode b_M_layShort 734 = .ok (.bipush 70, 2) := by decide +kernel
theorem d_M_layShort_736 : decode b_M_layShort 736 = .ok (.if_icmp .eq 9, 3) := by decide +kernel
theorem d_M_layShort_739 : decode b_M_layShort 739 = .ok (.iload_n 1, 1) := by decide +kernel
theorem d_M_layShort_740 : decode b_M_layShort 740 = .ok (.bipush 73, 2) := by decide +kernel
theorem d_M_layShort_742 : decode b_M_layShort 742 = .ok (.if_icmp .ne 15, 3) := by decide +kernel
theorem d_M_layShort_745 : decode b_M_layShort 745 = .ok (.aload_n 0, 1) := by decide +kernel
theorem d_M_layShort_746 : decode b_M_layShort 746 = .ok (.iload_n 1, 1) := by decide +kernel
theorem d_M_layShort_747 : decode b_M_layShort 747 = .ok (.bipush 11, 2) := by decide +kernel
theorem d_M_layShort_749 : decode b_M_layShort 749 = .ok (.bipush 7, 2) := by decide +kernel
theorem d_M_layShort_751 : decode b_M_layShort 751 = .ok (.bipush 100, 2) := by decide +kernel
theorem d_M_layShort_753 : decode b_M_layShort 753 = .ok (.iconst 4, 1) := by decide +kernel
theorem d_M_layShort_754 : decode b_M_layShort 754 = .ok (.invokevirtual 40, 3) := by decide +kernel
theorem d_M_layShort_757 : decode b_M_layShort 757 = .ok (.iload_n 1, 1) := by decide +kernel
theorem d_M_layShort_758 : decode b_M_layShort 758 = .ok (.bipush 70, 2) := by decide +kernel
theorem d_M_layShort_760 : decode b_M_layShort 760 = .ok (.if_icmp .eq 9, 3) := by decide +kernel
theorem d_M_layShort_763 : decode b_M_layShort 763 = .ok (.iload_n 1, 1) := by decide +kernel
theorem d_M_layShort_764 : decode b_M_layShort 764 = .ok (.bipush 73, 2) := by decide +kernel
theorem d_M_layShort_766 : decode b_M_layShort 766 = .ok (.if_icmp .ne 15, 3) := by decide +kernel
theorem d_M_layShort_769 : decode b_M_layShort 769 = .ok (.aload_n 0, 1) := by decide +kernel
theorem d_M_layShort_770 : decode b_M_layShort 770 = .ok (.iload_n 1, 1) := by decide +kernel
theorem d_M_layShort_771 : decode b_M_layShort 771 = .ok (.bipush 6, 2) := by decide +kernel
theorem d_M_layShort_773 : decode b_M_layShort 773 = .ok (.iconst 2, 1) := by decide +kernel
theorem d_M_layShort_774 : decode b_M_layShort 774 = .ok (.sipush 300, 3) := by decide +kernel
theorem d_M_layShort_777 : decode b_M_layShort 777 = .ok (.iconst 4, 1) := by decide +kernel
theorem d_M_layShort_778 : decode b_M_layShort 778 = .ok (.invokevirtual 40, 3) := by decide +kernel
theorem d_M_layShort_781 : decode b_M_layShort 781 = .ok (.iinc 1 1, 3) := by decide +kernel
theorem d_M_layShort_784 : decode b_M_layShort 784 = .ok (.goto (-108), 3) := by decide +kernel
theorem d_M_layShort_787 : decode b_M_layShort 787 = .ok (.aload_n 0, 1) := by decide +kernel
theorem d_M_layShort_788 : decode b_M_layShort 788 = .ok (.bipush 74, 2) := by decide +kernel
theorem d_M_layShort_790 : decode b_M_layShort 790 = .ok (.bipush 6, 2) := by decide +kernel
theorem d_M_layShort_792 : decode b_M_layShort 792 = .ok (.iconst 2, 1) := by decide +kernel
theorem d_M_layShort_793 : decode b_M_layShort 793 = .ok (.invokevirtual 60, 3) := by decide +kernel
theorem d_M_layShort_796 : decode b_M_layShort 796 = .ok (.aload_n 0, 1) := by decide +kernel
theorem d_M_layShort_797 : decode b_M_layShort 797 = .ok (.bipush 74, 2) := by decide +kernel
theorem d_M_layShort_799 : decode b_M_layShort 799 = .ok (.bipush 12, 2) := by decide +kernel
theorem d_M_layShort_801 : decode b_M_layShort 801 = .ok (.bipush 9, 2) := by decide +kernel
theorem d_M_layShort_803 : decode b_M_layShort 803 = .ok (.sipush 400, 3) := by decide +kernel
theorem d_M_layShort_806 : decode b_M_layShort 806 = .ok (.iconst 5, 1) := by decide +kernel
theorem d_M_layShort_807 : decode b_M_layShort 807 = .ok (.invokevirtual 40, 3) := by decide +kernel
theorem d_M_layShort_810 : decode b_M_layShort 810 = .ok (.aload_n 0, 1) := by decide +kernel
theorem d_M_layShort_811 : decode b_M_layShort 811 = .ok (.bipush 74, 2) := by decide +kernel
theorem d_M_layShort_813 : decode b_M_layShort 813 = .ok (.bipush 8, 2) := by decide +kernel
theorem d_M_layShort_815 : decode b_M_layShort 815 = .ok (.bipush 7, 2) := by decide +kernel
theorem d_M_layShort_817 : decode b_M_layShort 817 = .ok (.sipush 400, 3) := by decide +kernel
theorem d_M_layShort_820 : decode b_M_layShort 820 = .ok (.bipush 7, 2) := by decide +kernel
theorem d_M_layShort_822 : decode b_M_layShort 822 = .ok (.invokevirtual 40, 3) := by decide +kernel
theorem d_M_layShort_825 : decode b_M_layShort 825 = .ok (.aload_n 0, 1) := by decide +kernel
theorem d_M_layShort_826 : decode b_M_layShort 826 = .ok (.bipush 74, 2) := by decide +kernel
theorem d_M_layShort_828 : decode b_M_layShort 828 = .ok (.bipush 6, 2) := by decide +kernel
theorem d_M_layShort_830 : decode b_M_layShort 830 = .ok (.iconst 2, 1) := by decide +kernel
theorem d_M_layShort_831 : decode b_M_layShort 831 = .ok (.sipush 300, 3) := by decide +kernel
theorem d_M_layShort_834 : decode b_M_layShort 834 = .ok (.iconst 4, 1) := by decide +kernel
theorem d_M_layShort_835 : decode b_M_layShort 835 = .ok (.invokevirtual 40, 3) := by decide +kernel
theorem d_M_layShort_838 : decode b_M_layShort 838 = .ok (.return_, 1) := by decide +kernel
theorem d_M_ends_0 : decode b_M_ends 0 = .ok (.aload_n 0, 1) := by decide +kernel
theorem d_M_ends_1 : decode b_M_ends 1 = .ok (.iload_n 1, 1) := by decide +kernel
theorem d_M_ends_2 : decode b_M_ends 2 = .ok (.bipush 13, 2) := by decide +kernel
theorem d_M_ends_4 : decode b_M_ends 4 = .ok (.iconst 3, 1) := by decide +kernel
theorem d_M_ends_5 : decode b_M_ends 5 = .ok (.iload_n 2, 1) := by decide +kernel
theorem d_M_ends_6 : decode b_M_ends 6 = .ok (.invokevirtual 32, 3) := by decide +kernel
theorem d_M_ends_9 : decode b_M_ends 9 = .ok (.aload_n 0, 1) := by decide +kernel
theorem d_M_ends_10 : decode b_M_ends 10 = .ok (.iload_n 1, 1) := by decide +kernel
theorem d_M_ends_11 : decode b_M_ends 11 = .ok (.iconst 0, 1) := by decide +kernel
theorem d_M_ends_12 : decode b_M_ends 12 = .ok (.iconst 2, 1) := by decide +kernel
theorem d_M_ends_13 : decode b_M_ends 13 = .ok (.iload_n 3, 1) := by decide +kernel
theorem d_M_ends_14 : decode b_M_ends 14 = .ok (.invokevirtual 32, 3) := by decide +kernel
theorem d_M_ends_17 : decode b_M_ends 17 = .ok (.return_, 1) := by decide +kernel
theorem d_M_one_0 : decode b_M_one 0 = .ok (.aload_n 0, 1) := by decide +kernel
theorem d_M_one_1 : decode b_M_one 1 = .ok (.getfield 7, 3) := by decide +kernel
theorem d_M_one_4 : decode b_M_one 4 = .ok (.bipush 32, 2) := by decide +kernel
theorem d_M_one_6 : decode b_M_one 6 = .ok (.iload_n 1, 1) := by decide +kernel
theorem d_M_one_7 : decode b_M_one 7 = .ok (.imul, 1) := by decide +kernel
theorem d_M_one_8 : decode b_M_one 8 = .ok (.iload_n 2, 1) := by decide +kernel
theorem d_M_one_9 : decode b_M_one 9 = .ok (.iadd, 1) := by decide +kernel
theorem d_M_one_10 : decode b_M_one 10 = .ok (.sipush 400, 3) := by decide +kernel
theorem d_M_one_13 : decode b_M_one 13 = .ok (.iload_n 3, 1) := by decide +kernel
theorem d_M_one_14 : decode b_M_one 14 = .ok (.iadd, 1) := by decide +kernel
theorem d_M_one_15 : decode b_M_one 15 = .ok (.iastore, 1) := by decide +kernel
theorem d_M_one_16 : decode b_M_one 16 = .ok (.return_, 1) := by decide +kernel
theorem d_M_layJump_0 : decode b_M_layJump 0 = .ok (.aload_n 0, 1) := by decide +kernel
theorem d_M_layJump_1 : decode b_M_layJump 1 = .ok (.iload_n 1, 1) := by decide +kernel
theorem d_M_layJump_2 : decode b_M_layJump 2 = .ok (.iload_n 2, 1) := by decide +kernel
theorem d_M_layJump_3 : decode b_M_layJump 3 = .ok (.iconst 1, 1) := by decide +kernel
theorem d_M_layJump_4 : decode b_M_layJump 4 = .ok (.invokevirtual 60, 3) := by decide +kernel
theorem d_M_layJump_7 : decode b_M_layJump 7 = .ok (.aload_n 0, 1) := by decide +kernel
theorem d_M_layJump_8 : decode b_M_layJump 8 = .ok (.iload_n 1, 1) := by decide +kernel
theorem d_M_layJump_9 : decode b_M_layJump 9 = .ok (.bipush 12, 2) := by decide +kernel
theorem d_M_layJump_11 : decode b_M_layJump 11 = .ok (.bipush 11, 2) := by decide +kernel
theorem d_M_layJump_13 : decode b_M_layJump 13 = .ok (.invokevirtual 64, 3) := by decide +kernel
theorem d_M_layJump_16 : decode b_M_layJump 16 = .ok (.aload_n 0, 1) := by decide +kernel
theorem d_M_layJump_17 : decode b_M_layJump 17 = .ok (.iload_n 1, 1) := by decide +kernel
theorem d_M_layJump_18 : decode b_M_layJump 18 = .ok (.bipush 11, 2) := by decide +kernel
theorem d_M_layJump_20 : decode b_M_layJump 20 = .ok (.iconst 4, 1) := by decide +kernel
theorem d_M_layJump_21 : decode b_M_layJump 21 = .ok (.invokevirtual 64, 3) := by decide +kernel
theorem d_M_layJump_24 : decode b_M_layJump 24 = .ok (.aload_n 0, 1) := by decide +kernel
theorem d_M_layJump_25 : decode b_M_layJump 25 = .ok (.iload_n 1, 1) := by decide +kernel
theorem d_M_layJump_26 : decode b_M_layJump 26 = .ok (.bipush 10, 2) := by decide +kernel
theorem d_M_layJump_28 : decode b_M_layJump 28 = .ok (.bipush 9, 2) := by decide +kernel
theorem d_M_layJump_30 : decode b_M_layJump 30 = .ok (.sipush 400, 3) := by decide +kernel
theorem d_M_layJump_33 : decode b_M_layJump 33 = .ok (.bipush 9, 2) := by decide +kernel
theorem d_M_layJump_35 : decode b_M_layJump 35 = .ok (.invokevirtual 40, 3) := by decide +kernel
theorem d_M_layJump_38 : decode b_M_layJump 38 = .ok (.aload_n 0, 1) := by decide +kernel
theorem d_M_layJump_39 : decode b_M_layJump 39 = .ok (.iload_n 1, 1) := by decide +kernel
theorem d_M_layJump_40 : decode b_M_layJump 40 = .ok (.bipush 8, 2) := by decide +kernel
theorem d_M_layJump_42 : decode b_M_layJump 42 = .ok (.bipush 10, 2) := by decide +kernel
theorem d_M_layJump_44 : decode b_M_layJump 44 = .ok (.invokevirtual 64, 3) := by decide +kernel
theorem d_M_layJump_47 : decode b_M_layJump 47 = .ok (.aload_n 0, 1) := by decide +kernel
theorem d_M_layJump_48 : decode b_M_layJump 48 = .ok (.iload_n 1, 1) := by decide +kernel
theorem d_M_layJump_49 : decode b_M_layJump 49 = .ok (.bipush 7, 2) := by decide +kernel
theorem d_M_layJump_51 : decode b_M_layJump 51 = .ok (.bipush 6, 2) := by decide +kernel
theorem d_M_layJump_53 : decode b_M_layJump 53 = .ok (.invokevirtual 64, 3) := by decide +kernel
theorem d_M_layJump_56 : decode b_M_layJump 56 = .ok (.aload_n 0, 1) := by decide +kernel
theorem d_M_layJump_57 : decode b_M_layJump 57 = .ok (.iload_n 1, 1) := by decide +kernel
theorem d_M_layJump_58 : decode b_M_layJump 58 = .ok (.bipush 6, 2) := by decide +kernel
theorem d_M_layJump_60 : decode b_M_layJump 60 = .ok (.bipush 7, 2) := by decide +kernel
theorem d_M_layJump_62 : decode b_M_layJump 62 = .ok (.invokevirtual 64, 3) := by decide +kernel
theorem d_M_layJump_65 : decode b_M_layJump 65 = .ok (.aload_n 0, 1) := by decide +kernel
theorem d_M_layJump_66 : decode b_M_layJump 66 = .ok (.iload_n 1, 1) := by decide +kernel
theorem d_M_layJump_67 : decode b_M_layJump 67 = .ok (.iconst 5, 1) := by decide +kernel
theorem d_M_layJump_68 : decode b_M_layJump 68 = .ok (.iconst 3, 1) := by decide +kernel
theorem d_M_layJump_69 : decode b_M_layJump 69 = .ok (.sipush 400, 3) := by decide +kernel
theorem d_M_layJump_72 : decode b_M_layJump 72 = .ok (.iconst 3, 1) := by decide +kernel
theorem d_M_layJump_73 : decode b_M_layJump 73 = .ok (.invokevirtual 40, 3) := by decide +kernel
theorem d_M_layJump_76 : decode b_M_layJump 76 = .ok (.aload_n 0, 1) := by decide +kernel
theorem d_M_layJump_77 : decode b_M_layJump 77 = .ok (.iload_n 1, 1) := by decide +kernel
theorem d_M_layJump_78 : decode b_M_layJump 78 = .ok (.iconst 2, 1) := by decide +kernel
theorem d_M_layJump_79 : decode b_M_layJump 79 = .ok (.iconst 5, 1) := by decide +kernel
theorem d_M_layJump_80 : decode b_M_layJump 80 = .ok (.invokevirtual 64, 3) := by decide +kernel
theorem d_M_layJump_83 : decode b_M_layJump 83 = .ok (.return_, 1) := by decide +kernel
theorem d_M_thrown_0 : decode b_M_thrown 0 = .ok (.aload_n 0, 1) := by decide +kernel
theorem d_M_thrown_1 : decode b_M_thrown 1 = .ok (.getfield 26, 3) := by decide +kernel
theorem d_M_thrown_4 : decode b_M_thrown 4 = .ok (.ireturn, 1) := by decide +kernel
theorem d_M_word_0 : decode b_M_word 0 = .ok (.aload_n 0, 1) := by decide +kernel
theorem d_M_word_1 : decode b_M_word 1 = .ok (.iload_n 1, 1) := by decide +kernel
theorem d_M_word_2 : decode b_M_word 2 = .ok (.invokestatic 148, 3) := by decide +kernel
theorem d_M_word_5 : decode b_M_word 5 = .ok (.ifCond .eq 7, 3) := by decide +kernel
theorem d_M_word_8 : decode b_M_word 8 = .ok (.iconst 0, 1) := by decide +kernel
theorem d_M_word_9 : decode b_M_word 9 = .ok (.goto 4, 3) := by decide +kernel
theorem d_M_word_12 : decode b_M_word 12 = .ok (.iconst 1, 1) := by decide +kernel
theorem d_M_word_13 : decode b_M_word 13 = .ok (.putfield 26, 3) := by decide +kernel
theorem d_M_word_16 : decode b_M_word 16 = .ok (.aload_n 0, 1) := by decide +kernel
theorem d_M_word_17 : decode b_M_word 17 = .ok (.getfield 26, 3) := by decide +kernel
theorem d_M_word_20 : decode b_M_word 20 = .ok (.ifCond .eq 5, 3) := by decide +kernel
theorem d_M_word_23 : decode b_M_word 23 = .ok (.iconst 0, 1) := by decide +kernel
theorem d_M_word_24 : decode b_M_word 24 = .ok (.ireturn, 1) := by decide +kernel
theorem d_M_word_25 : decode b_M_word 25 = .ok (.aload_n 0, 1) := by decide +kernel
theorem d_M_word_26 : decode b_M_word 26 = .ok (.getfield 13, 3) := by decide +kernel
theorem d_M_word_29 : decode b_M_word 29 = .ok (.iconst 0, 1) := by decide +kernel
theorem d_M_word_30 : decode b_M_word 30 = .ok (.iload_n 2, 1) := by decide +kernel
theorem d_M_word_31 : decode b_M_word 31 = .ok (.iastore, 1) := by decide +kernel
theorem d_M_word_32 : decode b_M_word 32 = .ok (.aload_n 0, 1) := by decide +kernel
theorem d_M_word_33 : decode b_M_word 33 = .ok (.getfield 13, 3) := by decide +kernel
theorem d_M_word_36 : decode b_M_word 36 = .ok (.iconst 1, 1) := by decide +kernel
theorem d_M_word_37 : decode b_M_word 37 = .ok (.iload_n 3, 1) := by decide +kernel
theorem d_M_word_38 : decode b_M_word 38 = .ok (.iastore, 1) := by decide +kernel
theorem d_M_word_39 : decode b_M_word 39 = .ok (.aload_n 0, 1) := by decide +kernel
theorem d_M_word_40 : decode b_M_word 40 = .ok (.getfield 13, 3) := by decide +kernel
theorem d_M_word_43 : decode b_M_word 43 = .ok (.iconst 2, 1) := by decide +kernel
theorem d_M_word_44 : decode b_M_word 44 = .ok (.iload 4, 2) := by decide +kernel
theorem d_M_word_46 : decode b_M_word 46 = .ok (.iastore, 1) := by decide +kernel
theorem d_M_word_47 : decode b_M_word 47 = .ok (.aload_n 0, 1) := by decide +kernel
theorem d_M_word_48 : decode b_M_word 48 = .ok (.getfield 13, 3) := by decide +kernel
theorem d_M_word_51 : decode b_M_word 51 = .ok (.iconst 3, 1) := by decide +kernel
theorem d_M_word_52 : decode b_M_word 52 = .ok (.iload 5, 2) := by decide +kernel
theorem d_M_word_54 : decode b_M_word 54 = .ok (.iastore, 1) := by decide +kernel
theorem d_M_word_55 : decode b_M_word 55 = .ok (.aload_n 0, 1) := by decide +kernel
theorem d_M_word_56 : decode b_M_word 56 = .ok (.aload_n 0, 1) := by decide +kernel
theorem d_M_word_57 : decode b_M_word 57 = .ok (.iload_n 1, 1) := by decide +kernel
theorem d_M_word_58 : decode b_M_word 58 = .ok (.invokevirtual 139, 3) := by decide +kernel
theorem d_M_word_61 : decode b_M_word 61 = .ok (.ifCond .eq 7, 3) := by decide +kernel
theorem d_M_word_64 : decode b_M_word 64 = .ok (.iconst 0, 1) := by decide +kernel
theorem d_M_word_65 : decode b_M_word 65 = .ok (.goto 4, 3) := by decide +kernel
theorem d_M_word_68 : decode b_M_word 68 = .ok (.iconst 2, 1) := by decide +kernel
theorem d_M_word_69 : decode b_M_word 69 = .ok (.putfield 26, 3) := by decide +kernel
theorem d_M_word_72 : decode b_M_word 72 = .ok (.aload_n 0, 1) := by decide +kernel
theorem d_M_word_73 : decode b_M_word 73 = .ok (.getfield 26, 3) := by decide +kernel
theorem d_M_word_76 : decode b_M_word 76 = .ok (.ifCond .ne 11, 3) := by decide +kernel
theorem d_M_word_79 : decode b_M_word 79 = .ok (.aload_n 0, 1) := by decide +kernel
theorem d_M_word_80 : decode b_M_word 80 = .ok (.iload_n 1, 1) := by decide +kernel
theorem d_M_word_81 : decode b_M_word 81 = .ok (.invokevirtual 151, 3) := by decide +kernel
theorem d_M_word_84 : decode b_M_word 84 = .ok (.goto 4, 3) := by decide +kernel
theorem d_M_word_87 : decode b_M_word 87 = .ok (.iconst 0, 1) := by decide +kernel
theorem d_M_word_88 : decode b_M_word 88 = .ok (.ireturn, 1) := by decide +kernel
theorem d_M_isKind_0 : decode b_M_isKind 0 = .ok (.iload_n 0, 1) := by decide +kernel
theorem d_M_isKind_1 : decode b_M_isKind 1 = .ok (.ifCond .lt 13, 3) := by decide +kernel
theorem d_M_isKind_4 : decode b_M_isKind 4 = .ok (.iload_n 0, 1) := by decide +kernel
theorem d_M_isKind_5 : decode b_M_isKind 5 = .ok (.bipush 75, 2) := by decide +kernel
theorem d_M_isKind_7 : decode b_M_isKind 7 = .ok (.if_icmp .ge 7, 3) := by decide +kernel
theorem d_M_isKind_10 : decode b_M_isKind 10 = .ok (.iconst 1, 1) := by decide +kernel
theorem d_M_isKind_11 : decode b_M_isKind 11 = .ok (.goto 4, 3) := by decide +kernel
theorem d_M_isKind_14 : decode b_M_isKind 14 = .ok (.iconst 0, 1) := by decide +kernel
theorem d_M_isKind_15 : decode b_M_isKind 15 = .ok (.ireturn, 1) := by decide +kernel
theorem d_M_areGood_0 : decode b_M_areGood 0 = .ok (.iconst 0, 1) := by decide +kernel
theorem d_M_areGood_1 : decode b_M_areGood 1 = .ok (.istore_n 2, 1) := by decide +kernel
theorem d_M_areGood_2 : decode b_M_areGood 2 = .ok (.iload_n 2, 1) := by decide +kernel
theorem d_M_areGood_3 : decode b_M_areGood 3 = .ok (.iconst 3, 1) := by decide +kernel
theorem d_M_areGood_4 : decode b_M_areGood 4 = .ok (.if_icmp .ge 35, 3) := by decide +kernel
theorem d_M_areGood_7 : decode b_M_areGood 7 = .ok (.aload_n 0, 1) := by decide +kernel
theorem d_M_areGood_8 : decode b_M_areGood 8 = .ok (.iload_n 1, 1) := by decide +kernel
theorem d_M_areGood_9 : decode b_M_areGood 9 = .ok (.iload_n 2, 1) := by decide +kernel
theorem d_M_areGood_10 : decode b_M_areGood 10 = .ok (.invokevirtual 124, 3) := by decide +kernel
theorem d_M_areGood_13 : decode b_M_areGood 13 = .ok (.ifCond .eq 20, 3) := by decide +kernel
theorem d_M_areGood_16 : decode b_M_areGood 16 = .ok (.aload_n 0, 1) := by decide +kernel
theorem d_M_areGood_17 : decode b_M_areGood 17 = .ok (.iload_n 1, 1) := by decide +kernel
theorem d_M_areGood_18 : decode b_M_areGood 18 = .ok (.iload_n 2, 1) := by decide +kernel
theorem d_M_areGood_19 : decode b_M_areGood 19 = .ok (.aload_n 0, 1) := by decide +kernel
theorem d_M_areGood_20 : decode b_M_areGood 20 = .ok (.getfield 13, 3) := by decide +kernel
theorem d_M_areGood_23 : decode b_M_areGood 23 = .ok (.iload_n 2, 1) := by decide +kernel
theorem d_M_areGood_24 : decode b_M_areGood 24 = .ok (.iaload, 1) := by decide +kernel
theorem d_M_areGood_25 : decode b_M_areGood 25 = .ok (.invokevirtual 127, 3) := by decide +kernel
theorem d_M_areGood_28 : decode b_M_areGood 28 = .ok (.ifCond .ne 5, 3) := by decide +kernel
theorem d_M_areGood_31 : decode b_M_areGood 31 = .ok (.iconst 0, 1) := by decide +kernel
theorem d_M_areGood_32 : decode b_M_areGood 32 = .ok (.ireturn, 1) := by decide +kernel
theorem d_M_areGood_33 : decode b_M_areGood 33 = .ok (.iinc 2 1, 3) := by decide +kernel
theorem d_M_areGood_36 : decode b_M_areGood 36 = .ok (.goto (-34), 3) := by decide +kernel
theorem d_M_areGood_39 : decode b_M_areGood 39 = .ok (.aload_n 0, 1) := by decide +kernel
theorem d_M_areGood_40 : decode b_M_areGood 40 = .ok (.iload_n 1, 1) := by decide +kernel
theorem d_M_areGood_41 : decode b_M_areGood 41 = .ok (.iconst 3, 1) := by decide +kernel
theorem d_M_areGood_42 : decode b_M_areGood 42 = .ok (.invokevirtual 124, 3) := by decide +kernel
theorem d_M_areGood_45 : decode b_M_areGood 45 = .ok (.ifCond .eq 17, 3) := by decide +kernel
theorem d_M_areGood_48 : decode b_M_areGood 48 = .ok (.iload_n 1, 1) := by decide +kernel
theorem d_M_areGood_49 : decode b_M_areGood 49 = .ok (.aload_n 0, 1) := by decide +kernel
theorem d_M_areGood_50 : decode b_M_areGood 50 = .ok (.getfield 13, 3) := by decide +kernel
theorem d_M_areGood_53 : decode b_M_areGood 53 = .ok (.iconst 3, 1) := by decide +kernel
theorem d_M_areGood_54 : decode b_M_areGood 54 = .ok (.iaload, 1) := by decide +kernel
theorem d_M_areGood_55 : decode b_M_areGood 55 = .ok (.i2l, 1) := by decide +kernel
theorem d_M_areGood_56 : decode b_M_areGood 56 = .ok (.invokestatic 131, 3) := by decide +kernel
theorem d_M_areGood_59 : decode b_M_areGood 59 = .ok (.ifCond .eq 7, 3) := by decide +kernel
theorem d_M_areGood_62 : decode b_M_areGood 62 = .ok (.iconst 1, 1) := by decide +kernel
theorem d_M_areGood_63 : decode b_M_areGood 63 = .ok (.goto 4, 3) := by decide +kernel
theorem d_M_areGood_66 : decode b_M_areGood 66 = .ok (.iconst 0, 1) := by decide +kernel
theorem d_M_areGood_67 : decode b_M_areGood 67 = .ok (.ireturn, 1) := by decide +kernel
theorem d_M_has_0 : decode b_M_has 0 = .ok (.bipush 32, 2) := by decide +kernel
theorem d_M_has_2 : decode b_M_has 2 = .ok (.iload_n 1, 1) := by decide +kernel
theorem d_M_has_3 : decode b_M_has 3 = .ok (.imul, 1) := by decide +kernel
theorem d_M_has_4 : decode b_M_has 4 = .ok (.istore_n 3, 1) := by decide +kernel
theorem d_M_has_5 : decode b_M_has 5 = .ok (.iload_n 3, 1) := by decide +kernel
theorem d_M_has_6 : decode b_M_has 6 = .ok (.bipush 32, 2) := by decide +kernel
theorem d_M_has_8 : decode b_M_has 8 = .ok (.iload_n 1, 1) := by decide +kernel
theorem d_M_has_9 : decode b_M_has 9 = .ok (.imul, 1) := by decide +kernel
theorem d_M_has_10 : decode b_M_has 10 = .ok (.iload_n 1, 1) := by decide +kernel
theorem d_M_has_11 : decode b_M_has 11 = .ok (.invokestatic 71, 3) := by decide +kernel
theorem d_M_has_14 : decode b_M_has 14 = .ok (.iadd, 1) := by decide +kernel
theorem d_M_has_15 : decode b_M_has 15 = .ok (.if_icmp .ge 53, 3) := by decide +kernel
theorem d_M_has_18 : decode b_M_has 18 = .ok (.aload_n 0, 1) := by decide +kernel
theorem d_M_has_19 : decode b_M_has 19 = .ok (.getfield 7, 3) := by decide +kernel
theorem d_M_has_22 : decode b_M_has 22 = .ok (.iload_n 3, 1) := by decide +kernel
theorem d_M_has_23 : decode b_M_has 23 = .ok (.iaload, 1) := by decide +kernel
theorem d_M_has_24 : decode b_M_has 24 = .ok (.bipush 100, 2) := by decide +kernel
theorem d_M_has_26 : decode b_M_has 26 = .ok (.idiv, 1) := by decide +kernel
theorem d_M_has_27 : decode b_M_has 27 = .ok (.iconst 1, 1) := by decide +kernel
theorem d_M_has_28 : decode b_M_has 28 = .ok (.isub, 1) := by decide +kernel
theorem d_M_has_29 : decode b_M_has 29 = .ok (.istore 4, 2) := by decide +kernel
theorem d_M_has_31 : decode b_M_has 31 = .ok (.aload_n 0, 1) := by decide +kernel
theorem d_M_has_32 : decode b_M_has 32 = .ok (.getfield 7, 3) := by decide +kernel
theorem d_M_has_35 : decode b_M_has 35 = .ok (.iload_n 3, 1) := by decide +kernel
theorem d_M_has_36 : decode b_M_has 36 = .ok (.iaload, 1) := by decide +kernel
theorem d_M_has_37 : decode b_M_has 37 = .ok (.iconst 1, 1) := by decide +kernel
theorem d_M_has_38 : decode b_M_has 38 = .ok (.if_icmp .le 24, 3) := by decide +kernel
theorem d_M_has_41 : decode b_M_has 41 = .ok (.iload 4, 2) := by decide +kernel
theorem d_M_has_43 : decode b_M_has 43 = .ok (.iconst 3, 1) := by decide +kernel
theorem d_M_has_44 : decode b_M_has 44 = .ok (.if_icmp .le 10, 3) := by decide +kernel
theorem d_M_has_47 : decode b_M_has 47 = .ok (.iload 4, 2) := by decide +kernel
theorem d_M_has_49 : decode b_M_has 49 = .ok (.iconst 4, 1) := by decide +kernel
theorem d_M_has_50 : decode b_M_has 50 = .ok (.isub, 1) := by decide +kernel
theorem d_M_has_51 : decode b_M_has 51 = .ok (.goto 5, 3) := by decide +kernel
theorem d_M_has_54 : decode b_M_has 54 = .ok (.iload 4, 2) := by decide +kernel
theorem d_M_has_56 : decode b_M_has 56 = .ok (.iload_n 2, 1) := by decide +kernel
theorem d_M_has_57 : decode b_M_has 57 = .ok (.if_icmp .ne 5, 3) := by decide +kernel
theorem d_M_has_60 : decode b_M_has 60 = .ok (.iconst 1, 1) := by decide +kernel
theorem d_M_has_61 : decode b_M_has 61 = .ok (.ireturn, 1) := by decide +kernel
theorem d_M_has_62 : decode b_M_has 62 = .ok (.iinc 3 1, 3) := by decide +kernel
theorem d_M_has_65 : decode b_M_has 65 = .ok (.goto (-60), 3) := by decide +kernel
theorem d_M_has_68 : decode b_M_has 68 = .ok (.iconst 0, 1) := by decide +kernel
theorem d_M_has_69 : decode b_M_has 69 = .ok (.ireturn, 1) := by decide +kernel
theorem d_M_bitsOf_0 : decode b_M_bitsOf 0 = .ok (.iload_n 0, 1) := by decide +kernel
theorem d_M_bitsOf_1 : decode b_M_bitsOf 1 = .ok (.bipush 48, 2) := by decide +kernel
theorem d_M_bitsOf_3 : decode b_M_bitsOf 3 = .ok (.if_icmp .ge 8, 3) := by decide +kernel
theorem d_M_bitsOf_6 : decode b_M_bitsOf 6 = .ok (.bipush 32, 2) := by decide +kernel
theorem d_M_bitsOf_8 : decode b_M_bitsOf 8 = .ok (.goto 5, 3) := by decide +kernel
theorem d_M_bitsOf_11 : decode b_M_bitsOf 11 = .ok (.bipush 16, 2) := by decide +kernel
theorem d_M_bitsOf_13 : decode b_M_bitsOf 13 = .ok (.ireturn, 1) := by decide +kernel
theorem d_M_isRegister_0 : decode b_M_isRegister 0 = .ok (.aload_n 0, 1) := by decide +kernel
theorem d_M_isRegister_1 : decode b_M_isRegister 1 = .ok (.iload_n 1, 1) := by decide +kernel
theorem d_M_isRegister_2 : decode b_M_isRegister 2 = .ok (.iload_n 2, 1) := by decide +kernel
theorem d_M_isRegister_3 : decode b_M_isRegister 3 = .ok (.invokevirtual 74, 3) := by decide +kernel
theorem d_M_isRegister_6 : decode b_M_isRegister 6 = .ok (.ifCond .eq 21, 3) := by decide +kernel
theorem d_M_isRegister_9 : decode b_M_isRegister 9 = .ok (.iload_n 3, 1) := by decide +kernel
theorem d_M_isRegister_10 : decode b_M_isRegister 10 = .ok (.bipush 8, 2) := by decide +kernel
theorem d_M_isRegister_12 : decode b_M_isRegister 12 = .ok (.if_icmp .lt 13, 3) := by decide +kernel
theorem d_M_isRegister_15 : decode b_M_isRegister 15 = .ok (.iload_n 3, 1) := by decide +kernel
theorem d_M_isRegister_16 : decode b_M_isRegister 16 = .ok (.bipush 16, 2) := by decide +kernel
theorem d_M_isRegister_18 : decode b_M_isRegister 18 = .ok (.if_icmp .ge 7, 3) := by decide +kernel
theorem d_M_isRegister_21 : decode b_M_isRegister 21 = .ok (.iconst 1, 1) := by decide +kernel
theorem d_M_isRegister_22 : decode b_M_isRegister 22 = .ok (.goto 4, 3) := by decide +kernel
theorem d_M_isRegister_25 : decode b_M_isRegister 25 = .ok (.iconst 0, 1) := by decide +kernel
theorem d_M_isRegister_26 : decode b_M_isRegister 26 = .ok (.ireturn, 1) := by decide +kernel
theorem d_M_isRegister_27 : decode b_M_isRegister 27 = .ok (.iload_n 3, 1) := by decide +kernel
theorem d_M_isRegister_28 : decode b_M_isRegister 28 = .ok (.ifCond .lt 9, 3) := by decide +kernel
theorem d_M_isRegister_31 : decode b_M_isRegister 31 = .ok (.iload_n 3, 1) := by decide +kernel
theorem d_M_isRegister_32 : decode b_M_isRegister 32 = .ok (.bipush 31, 2) := by decide +kernel
theorem d_M_isRegister_34 : decode b_M_isRegister 34 = .ok (.if_icmp .le 5, 3) := by decide +kernel
theorem d_M_isRegister_37 : decode b_M_isRegister 37 = .ok (.iconst 0, 1) := by decide +kernel
theorem d_M_isRegister_38 : decode b_M_isRegister 38 = .ok (.ireturn, 1) := by decide +kernel
theorem d_M_isRegister_39 : decode b_M_isRegister 39 = .ok (.iload_n 1, 1) := by decide +kernel
theorem d_M_isRegister_40 : decode b_M_isRegister 40 = .ok (.bipush 48, 2) := by decide +kernel
theorem d_M_isRegister_42 : decode b_M_isRegister 42 = .ok (.if_icmp .lt 9, 3) := by decide +kernel
theorem d_M_isRegister_45 : decode b_M_isRegister 45 = .ok (.iload_n 1, 1) := by decide +kernel
theorem d_M_isRegister_46 : decode b_M_isRegister 46 = .ok (.bipush 74, 2) := by decide +kernel
theorem d_M_isRegister_48 : decode b_M_isRegister 48 = .ok (.if_icmp .ne 5, 3) := by decide +kernel
theorem d_M_isRegister_51 : decode b_M_isRegister 51 = .ok (.iconst 1, 1) := by decide +kernel
theorem d_M_isRegister_52 : decode b_M_isRegister 52 = .ok (.ireturn, 1) := by decide +kernel
theorem d_M_isRegister_53 : decode b_M_isRegister 53 = .ok (.iload_n 3, 1) := by decide +kernel
theorem d_M_isRegister_54 : decode b_M_isRegister 54 = .ok (.ifCond .eq 18, 3) := by decide +kernel
theorem d_M_isRegister_57 : decode b_M_isRegister 57 = .ok (.iload_n 1, 1) := by decide +kernel
theorem d_M_isRegister_58 : decode b_M_isRegister 58 = .ok (.bipush 56, 2) := by decide +kernel
theorem d_M_isRegister_60 : decode b_M_isRegister 60 = .ok (.if_icmp .ne 8, 3) := by decide +kernel
theorem d_M_isRegister_63 : decode b_M_isRegister 63 = .ok (.iload_n 3, 1) := by decide +kernel
theorem d_M_isRegister_64 : decode b_M_isRegister 64 = .ok (.iconst 2, 1) := by decide +kernel
theorem d_M_isRegister_65 : decode b_M_isRegister 65 = .ok (.if_icmp .eq 7, 3) := by decide +kernel
theorem d_M_isRegister_68 : decode b_M_isRegister 68 = .ok (.iconst 1, 1) := by decide +kernel
theorem d_M_isRegister_69 : decode b_M_isRegister 69 = .ok (.goto 4, 3) := by decide +kernel
theorem d_M_isRegister_72 : decode b_M_isRegister 72 = .ok (.iconst 0, 1) := by decide +kernel
theorem d_M_isRegister_73 : decode b_M_isRegister 73 = .ok (.ireturn, 1) := by decide +kernel
theorem d_M_isShortPart_0 : decode b_M_isShortPart 0 = .ok (.bipush 32, 2) := by decide +kernel
theorem d_M_isShortPart_2 : decode b_M_isShortPart 2 = .ok (.iload_n 1, 1) := by decide +kernel
theorem d_M_isShortPart_3 : decode b_M_isShortPart 3 = .ok (.imul, 1) := by decide +kernel
theorem d_M_isShortPart_4 : decode b_M_isShortPart 4 = .ok (.istore_n 3, 1) := by decide +kernel
theorem d_M_isShortPart_5 : decode b_M_isShortPart 5 = .ok (.iload_n 3, 1) := by decide +kernel
theorem d_M_isShortPart_6 : decode b_M_isShortPart 6 = .ok (.bipush 32, 2) := by decide +kernel
theorem d_M_isShortPart_8 : decode b_M_isShortPart 8 = .ok (.iload_n 1, 1) := by decide +kernel
theorem d_M_isShortPart_9 : decode b_M_isShortPart 9 = .ok (.imul, 1) := by decide +kernel
theorem d_M_isShortPart_10 : decode b_M_isShortPart 10 = .ok (.iload_n 1, 1) := by decide +kernel
theorem d_M_isShortPart_11 : decode b_M_isShortPart 11 = .ok (.invokestatic 71, 3) := by decide +kernel
theorem d_M_isShortPart_14 : decode b_M_isShortPart 14 = .ok (.iadd, 1) := by decide +kernel
theorem d_M_isShortPart_15 : decode b_M_isShortPart 15 = .ok (.if_icmp .ge 26, 3) := by decide +kernel
theorem d_M_isShortPart_18 : decode b_M_isShortPart 18 = .ok (.aload_n 0, 1) := by decide +kernel
theorem d_M_isShortPart_19 : decode b_M_isShortPart 19 = .ok (.getfield 7, 3) := by decide +kernel
theorem d_M_isShortPart_22 : decode b_M_isShortPart 22 = .ok (.iload_n 3, 1) := by decide +kernel
theorem d_M_isShortPart_23 : decode b_M_isShortPart 23 = .ok (.iaload, 1) := by decide +kernel
theorem d_M_isShortPart_24 : decode b_M_isShortPart 24 = .ok (.bipush 100, 2) := by decide +kernel
theorem d_M_isShortPart_26 : decode b_M_isShortPart 26 = .ok (.idiv, 1) := by decide +kernel
theorem d_M_isShortPart_27 : decode b_M_isShortPart 27 = .ok (.iconst 5, 1) := by decide +kernel
theorem d_M_isShortPart_28 : decode b_M_isShortPart 28 = .ok (.isub, 1) := by decide +kernel
theorem d_M_isShortPart_29 : decode b_M_isShortPart 29 = .ok (.iload_n 2, 1) := by decide +kernel
theorem d_M_isShortPart_30 : decode b_M_isShortPart 30 = .ok (.if_icmp .ne 5, 3) := by decide +kernel
theorem d_M_isShortPart_33 : decode b_M_isShortPart 33 = .ok (.iconst 1, 1) := by decide +kernel
theorem d_M_isShortPart_34 : decode b_M_isShortPart 34 = .ok (.ireturn, 1) := by decide +kernel
theorem d_M_isShortPart_35 : decode b_M_isShortPart 35 = .ok (.iinc 3 1, 3) := by decide +kernel
theorem d_M_isShortPart_38 : decode b_M_isShortPart 38 = .ok (.goto (-33), 3) := by decide +kernel
theorem d_M_isShortPart_41 : decode b_M_isShortPart 41 = .ok (.iconst 0, 1) := by decide +kernel
theorem d_M_isShortPart_42 : decode b_M_isShortPart 42 = .ok (.ireturn, 1) := by decide +kernel
theorem d_M_isImmediate_0 : decode b_M_isImmediate 0 = .ok (.iload_n 0, 1) := by decide +kernel
theorem d_M_isImmediate_1 : decode b_M_isImmediate 1 = .ok (.iconst 2, 1) := by decide +kernel
theorem d_M_isImmediate_2 : decode b_M_isImmediate 2 = .ok (.if_icmp .ge 13, 3) := by decide +kernel
theorem d_M_isImmediate_5 : decode b_M_isImmediate 5 = .ok (.lload_n 1, 1) := by decide +kernel
theorem d_M_isImmediate_6 : decode b_M_isImmediate 6 = .ok (.lconst 0, 1) := by decide +kernel
theorem d_M_isImmediate_7 : decode b_M_isImmediate 7 = .ok (.ldc2_w 78, 3) := by decide +kernel
theorem d_M_isImmediate_10 : decode b_M_isImmediate 10 = .ok (.lconst 1, 1) := by decide +kernel
theorem d_M_isImmediate_11 : decode b_M_isImmediate 11 = .ok (.invokestatic 80, 3) := by decide +kernel
theorem d_M_isImmediate_14 : decode b_M_isImmediate 14 = .ok (.ireturn, 1) := by decide +kernel
theorem d_M_isImmediate_15 : decode b_M_isImmediate 15 = .ok (.iload_n 0, 1) := by decide +kernel
theorem d_M_isImmediate_16 : decode b_M_isImmediate 16 = .ok (.iconst 2, 1) := by decide +kernel
theorem d_M_isImmediate_17 : decode b_M_isImmediate 17 = .ok (.if_icmp .ne 17, 3) := by decide +kernel
theorem d_M_isImmediate_20 : decode b_M_isImmediate 20 = .ok (.lload_n 1, 1) := by decide +kernel
theorem d_M_isImmediate_21 : decode b_M_isImmediate 21 = .ok (.ldc2_w 84, 3) := by decide +kernel
theorem d_M_isImmediate_24 : decode b_M_isImmediate 24 = .ok (.ldc2_w 86, 3) := by decide +kernel
theorem d_M_isImmediate_27 : decode b_M_isImmediate 27 = .ok (.ldc2_w 88, 3) := by decide +kernel
theorem d_M_isImmediate_30 : decode b_M_isImmediate 30 = .ok (.invokestatic 80, 3) := by decide +kernel
theorem d_M_isImmediate_33 : decode b_M_isImmediate 33 = .ok (.ireturn, 1) := by decide +kernel
theorem d_M_isImmediate_34 : decode b_M_isImmediate 34 = .ok (.iload_n 0, 1) := by decide +kernel
theorem d_M_isImmediate_35 : decode b_M_isImmediate 35 = .ok (.invokestatic 47, 3) := by decide +kernel
theorem d_M_isImmediate_38 : decode b_M_isImmediate 38 = .ok (.ifCond .eq 17, 3) := by decide +kernel
theorem d_M_isImmediate_41 : decode b_M_isImmediate 41 = .ok (.lload_n 1, 1) := by decide +kernel
theorem d_M_isImmediate_42 : decode b_M_isImmediate 42 = .ok (.ldc2_w 90, 3) := by decide +kernel
theorem d_M_isImmediate_45 : decode b_M_isImmediate 45 = .ok (.ldc2_w 92, 3) := by decide +kernel
theorem d_M_isImmediate_48 : decode b_M_isImmediate 48 = .ok (.ldc2_w 88, 3) := by decide +kernel
theorem d_M_isImmediate_51 : decode b_M_isImmediate 51 = .ok (.invokestatic 80, 3) := by decide +kernel
theorem d_M_isImmediate_54 : decode b_M_isImmediate 54 = .ok (.ireturn, 1) := by decide +kernel
theorem d_M_isImmediate_55 : decode b_M_isImmediate 55 = .ok (.iload_n 0, 1) := by decide +kernel
theorem d_M_isImmediate_56 : decode b_M_isImmediate 56 = .ok (.invokestatic 57, 3) := by decide +kernel
theorem d_M_isImmediate_59 : decode b_M_isImmediate 59 = .ok (.ifCond .eq 13, 3) := by decide +kernel
theorem d_M_isImmediate_62 : decode b_M_isImmediate 62 = .ok (.lload_n 1, 1) := by decide +kernel
theorem d_M_isImmediate_63 : decode b_M_isImmediate 63 = .ok (.lconst 0, 1) := by decide +kernel
theorem d_M_isImmediate_64 : decode b_M_isImmediate 64 = .ok (.ldc2_w 94, 3) := by decide +kernel
theorem d_M_isImmediate_67 : decode b_M_isImmediate 67 = .ok (.lconst 1, 1) := by decide +kernel
theorem d_M_isImmediate_68 : decode b_M_isImmediate 68 = .ok (.invokestatic 80, 3) := by decide +kernel
theorem d_M_isImmediate_71 : decode b_M_isImmediate 71 = .ok (.ireturn, 1) := by decide +kernel
theorem d_M_isImmediate_72 : decode b_M_isImmediate 72 = .ok (.iload_n 0, 1) := by decide +kernel
theorem d_M_isImmediate_73 : decode b_M_isImmediate 73 = .ok (.bipush 48, 2) := by decide +kernel
theorem d_M_isImmediate_75 : decode b_M_isImmediate 75 = .ok (.if_icmp .ge 15, 3) := by decide +kernel
theorem d_M_isImmediate_78 : decode b_M_isImmediate 78 = .ok (.lload_n 1, 1) := by decide +kernel
theorem d_M_isImmediate_79 : decode b_M_isImmediate 79 = .ok (.ldc2_w 96, 3) := by decide +kernel
theorem d_M_isImmediate_82 : decode b_M_isImmediate 82 = .ok (.ldc2_w 98, 3) := by decide +kernel
theorem d_M_isImmediate_85 : decode b_M_isImmediate 85 = .ok (.lconst 1, 1) := by decide +kernel
theorem d_M_isImmediate_86 : decode b_M_isImmediate 86 = .ok (.invokestatic 80, 3) := by decide +kernel
theorem d_M_isImmediate_89 : decode b_M_isImmediate 89 = .ok (.ireturn, 1) := by decide +kernel
theorem d_M_isImmediate_90 : decode b_M_isImmediate 90 = .ok (.iload_n 0, 1) := by decide +kernel
theorem d_M_isImmediate_91 : decode b_M_isImmediate 91 = .ok (.tableswitch 255 48 67 #[93, 107, 107, 255, 119, 145, 159, 171, 199, 231, 231, 159, 255, 255, 255, 255, 145, 241, 241, 231], 93) := by decide +kernel
theorem d_M_isImmediate_184 : decode b_M_isImmediate 184 = .ok (.lload_n 1, 1) := by decide +kernel
theorem d_M_isImmediate_185 : decode b_M_isImmediate 185 = .ok (.ldc2_w 100, 3) := by decide +kernel
theorem d_M_isImmediate_188 : decode b_M_isImmediate 188 = .ok (.ldc2_w 102, 3) := by decide +kernel
theorem d_M_isImmediate_191 : decode b_M_isImmediate 191 = .ok (.ldc2_w 100, 3) := by decide +kernel
theorem d_M_isImmediate_194 : decode b_M_isImmediate 194 = .ok (.invokestatic 80, 3) := by decide +kernel
theorem d_M_isImmediate_197 : decode b_M_isImmediate 197 = .ok (.ireturn, 1) := by decide +kernel
theorem d_M_isImmediate_198 : decode b_M_isImmediate 198 = .ok (.lload_n 1, 1) := by decide +kernel
theorem d_M_isImmediate_199 : decode b_M_isImmediate 199 = .ok (.lconst 0, 1) := by decide +kernel
theorem d_M_isImmediate_200 : decode b_M_isImmediate 200 = .ok (.ldc2_w 104, 3) := by decide +kernel
theorem d_M_isImmediate_203 : decode b_M_isImmediate 203 = .ok (.ldc2_w 100, 3) := by decide +kernel
theorem d_M_isImmediate_206 : decode b_M_isImmediate 206 = .ok (.invokestatic 80, 3) := by decide +kernel
theorem d_M_isImmediate_209 : decode b_M_isImmediate 209 = .ok (.ireturn, 1) := by decide +kernel
theorem d_M_isImmediate_210 : decode b_M_isImmediate 210 = .ok (.lload_n 1, 1) := by decide +kernel
theorem d_M_isImmediate_211 : decode b_M_isImmediate 211 = .ok (.lconst 0, 1) := by decide +kernel
theorem d_M_isImmediate_212 : decode b_M_isImmediate 212 = .ok (.lcmp, 1) := by decide +kernel
theorem d_M_isImmediate_213 : decode b_M_isImmediate 213 = .ok (.ifCond .eq 21, 3) := by decide +kernel
theorem d_M_isImmediate_216 : decode b_M_isImmediate 216 = .ok (.lload_n 1, 1) := by decide +kernel
theorem d_M_isImmediate_217 : decode b_M_isImmediate 217 = .ok (.ldc2_w 106, 3) := by decide +kernel
theorem d_M_isImmediate_220 : decode b_M_isImmediate 220 = .ok (.ldc2_w 94, 3) := by decide +kernel
theorem d_M_isImmediate_223 : decode b_M_isImmediate 223 = .ok (.lconst 1, 1) := by decide +kernel
theorem d_M_isImmediate_224 : decode b_M_isImmediate 224 = .ok (.invokestatic 80, 3) := by decide +kernel
theorem d_M_isImmediate_227 : decode b_M_isImmediate 227 = .ok (.ifCond .eq 7, 3) := by decide +kernel
theorem d_M_isImmediate_230 : decode b_M_isImmediate 230 = .ok (.iconst 1, 1) := by decide +kernel
theorem d_M_isImmediate_231 : decode b_M_isImmediate 231 = .ok (.goto 4, 3) := by decide +kernel
theorem d_M_isImmediate_234 : decode b_M_isImmediate 234 = .ok (.iconst 0, 1) := by decide +kernel
theorem d_M_isImmediate_235 : decode b_M_isImmediate 235 = .ok (.ireturn, 1) := by decide +kernel
theorem d_M_isImmediate_236 : decode b_M_isImmediate 236 = .ok (.lload_n 1, 1) := by decide +kernel
theorem d_M_isImmediate_237 : decode b_M_isImmediate 237 = .ok (.ldc2_w 96, 3) := by decide +kernel
theorem d_M_isImmediate_240 : decode b_M_isImmediate 240 = .ok (.ldc2_w 108, 3) := by decide +kernel
theorem d_M_isImmediate_243 : decode b_M_isImmediate 243 = .ok (.ldc2_w 88, 3) := by decide +kernel
theorem d_M_isImmediate_246 : decode b_M_isImmediate 246 = .ok (.invokestatic 80, 3) := by decide +kernel
theorem d_M_isImmediate_249 : decode b_M_isImmediate 249 = .ok (.ireturn, 1) := by decide +kernel
theorem d_M_isImmediate_250 : decode b_M_isImmediate 250 = .ok (.lload_n 1, 1) := by decide +kernel
theorem d_M_isImmediate_251 : decode b_M_isImmediate 251 = .ok (.ldc2_w 106, 3) := by decide +kernel
theorem d_M_isImmediate_254 : decode b_M_isImmediate 254 = .ok (.ldc2_w 94, 3) := by decide +kernel
theorem d_M_isImmediate_257 : decode b_M_isImmediate 257 = .ok (.lconst 1, 1) := by decide +kernel
theorem d_M_isImmediate_258 : decode b_M_isImmediate 258 = .ok (.invokestatic 80, 3) := by decide +kernel
theorem d_M_isImmediate_261 : decode b_M_isImmediate 261 = .ok (.ireturn, 1) := by decide +kernel
theorem d_M_isImmediate_262 : decode b_M_isImmediate 262 = .ok (.lload_n 1, 1) := by decide +kernel
theorem d_M_isImmediate_263 : decode b_M_isImmediate 263 = .ok (.lconst 0, 1) := by decide +kernel
theorem d_M_isImmediate_264 : decode b_M_isImmediate 264 = .ok (.lcmp, 1) := by decide +kernel
theorem d_M_isImmediate_265 : decode b_M_isImmediate 265 = .ok (.ifCond .eq 23, 3) := by decide +kernel
theorem d_M_isImmediate_268 : decode b_M_isImmediate 268 = .ok (.lload_n 1, 1) := by decide +kernel
theorem d_M_isImmediate_269 : decode b_M_isImmediate 269 = .ok (.ldc2_w 110, 3) := by decide +kernel
theorem d_M_isImmediate_272 : decode b_M_isImmediate 272 = .ok (.ldc2_w 112, 3) := by decide +kernel
theorem d_M_isImmediate_275 : decode b_M_isImmediate 275 = .ok (.ldc2_w 114, 3) := by decide +kernel
theorem d_M_isImmediate_278 : decode b_M_isImmediate 278 = .ok (.invokestatic 80, 3) := by decide +kernel
theorem d_M_isImmediate_281 : decode b_M_isImmediate 281 = .ok (.ifCond .eq 7, 3) := by decide +kernel
theorem d_M_isImmediate_284 : decode b_M_isImmediate 284 = .ok (.iconst 1, 1) := by decide +kernel
theorem d_M_isImmediate_285 : decode b_M_isImmediate 285 = .ok (.goto 4, 3) := by decide +kernel
theorem d_M_isImmediate_288 : decode b_M_isImmediate 288 = .ok (.iconst 0, 1) := by decide +kernel
theorem d_M_isImmediate_289 : decode b_M_isImmediate 289 = .ok (.ireturn, 1) := by decide +kernel
theorem d_M_isImmediate_290 : decode b_M_isImmediate 290 = .ok (.lload_n 1, 1) := by decide +kernel
theorem d_M_isImmediate_291 : decode b_M_isImmediate 291 = .ok (.lconst 1, 1) := by decide +kernel
theorem d_M_isImmediate_292 : decode b_M_isImmediate 292 = .ok (.ldc2_w 94, 3) := by decide +kernel
theorem d_M_isImmediate_295 : decode b_M_isImmediate 295 = .ok (.lconst 1, 1) := by decide +kernel
theorem d_M_isImmediate_296 : decode b_M_isImmediate 296 = .ok (.invokestatic 80, 3) := by decide +kernel
theorem d_M_isImmediate_299 : decode b_M_isImmediate 299 = .ok (.ifCond .ne 17, 3) := by decide +kernel
theorem d_M_isImmediate_302 : decode b_M_isImmediate 302 = .ok (.lload_n 1, 1) := by decide +kernel
theorem d_M_isImmediate_303 : decode b_M_isImmediate 303 = .ok (.ldc2_w 116, 3) := by decide +kernel
theorem d_M_isImmediate_306 : decode b_M_isImmediate 306 = .ok (.ldc2_w 78, 3) := by decide +kernel
theorem d_M_isImmediate_309 : decode b_M_isImmediate 309 = .ok (.lconst 1, 1) := by decide +kernel
theorem d_M_isImmediate_310 : decode b_M_isImmediate 310 = .ok (.invokestatic 80, 3) := by decide +kernel
theorem d_M_isImmediate_313 : decode b_M_isImmediate 313 = .ok (.ifCond .eq 7, 3) := by decide +kernel
theorem d_M_isImmediate_316 : decode b_M_isImmediate 316 = .ok (.iconst 1, 1) := by decide +kernel
theorem d_M_isImmediate_317 : decode b_M_isImmediate 317 = .ok (.goto 4, 3) := by decide +kernel
theorem d_M_isImmediate_320 : decode b_M_isImmediate 320 = .ok (.iconst 0, 1) := by decide +kernel
theorem d_M_isImmediate_321 : decode b_M_isImmediate 321 = .ok (.ireturn, 1) := by decide +kernel
theorem d_M_isImmediate_322 : decode b_M_isImmediate 322 = .ok (.lload_n 1, 1) := by decide +kernel
theorem d_M_isImmediate_323 : decode b_M_isImmediate 323 = .ok (.lconst 1, 1) := by decide +kernel
theorem d_M_isImmediate_324 : decode b_M_isImmediate 324 = .ok (.ldc2_w 94, 3) := by decide +kernel
theorem d_M_isImmediate_327 : decode b_M_isImmediate 327 = .ok (.lconst 1, 1) := by decide +kernel
theorem d_M_isImmediate_328 : decode b_M_isImmediate 328 = .ok (.invokestatic 80, 3) := by decide +kernel
theorem d_M_isImmediate_331 : decode b_M_isImmediate 331 = .ok (.ireturn, 1) := by decide +kernel
theorem d_M_isImmediate_332 : decode b_M_isImmediate 332 = .ok (.lload_n 1, 1) := by decide +kernel
theorem d_M_isImmediate_333 : decode b_M_isImmediate 333 = .ok (.ldc2_w 118, 3) := by decide +kernel
theorem d_M_isImmediate_336 : decode b_M_isImmediate 336 = .ok (.ldc2_w 120, 3) := by decide +kernel
theorem d_M_isImmediate_339 : decode b_M_isImmediate 339 = .ok (.ldc2_w 88, 3) := by decide +kernel
theorem d_M_isImmediate_342 : decode b_M_isImmediate 342 = .ok (.invokestatic 80, 3) := by decide +kernel
theorem d_M_isImmediate_345 : decode b_M_isImmediate 345 = .ok (.ireturn, 1) := by decide +kernel
theorem d_M_isImmediate_346 : decode b_M_isImmediate 346 = .ok (.lload_n 1, 1) := by decide +kernel
theorem d_M_isImmediate_347 : decode b_M_isImmediate 347 = .ok (.lconst 0, 1) := by decide +kernel
theorem d_M_isImmediate_348 : decode b_M_isImmediate 348 = .ok (.ldc2_w 122, 3) := by decide +kernel
theorem d_M_isImmediate_351 : decode b_M_isImmediate 351 = .ok (.ldc2_w 100, 3) := by decide +kernel
theorem d_M_isImmediate_354 : decode b_M_isImmediate 354 = .ok (.invokestatic 80, 3) := by decide +kernel
theorem d_M_isImmediate_357 : decode b_M_isImmediate 357 = .ok (.ireturn, 1) := by decide +kernel
theorem d_M_isStep_0 : decode b_M_isStep 0 = .ok (.lload_n 0, 1) := by decide +kernel
theorem d_M_isStep_1 : decode b_M_isStep 1 = .ok (.lload_n 2, 1) := by decide +kernel
theorem d_M_isStep_2 : decode b_M_isStep 2 = .ok (.lcmp, 1) := by decide +kernel
theorem d_M_isStep_3 : decode b_M_isStep 3 = .ok (.ifCond .lt 23, 3) := by decide +kernel
theorem d_M_isStep_6 : decode b_M_isStep 6 = .ok (.lload_n 0, 1) := by decide +kernel
theorem d_M_isStep_7 : decode b_M_isStep 7 = .ok (.lload 4, 2) := by decide +kernel
theorem d_M_isStep_9 : decode b_M_isStep 9 = .ok (.lcmp, 1) := by decide +kernel
theorem d_M_isStep_10 : decode b_M_isStep 10 = .ok (.ifCond .gt 16, 3) := by decide +kernel
theorem d_M_isStep_13 : decode b_M_isStep 13 = .ok (.lload_n 0, 1) := by decide +kernel
theorem d_M_isStep_14 : decode b_M_isStep 14 = .ok (.lload 6, 2) := by decide +kernel
theorem d_M_isStep_16 : decode b_M_isStep 16 = .ok (.lrem, 1) := by decide +kernel
theorem d_M_isStep_17 : decode b_M_isStep 17 = .ok (.lconst 0, 1) := by decide +kernel
theorem d_M_isStep_18 : decode b_M_isStep 18 = .ok (.lcmp, 1) := by decide +kernel
theorem d_M_isStep_19 : decode b_M_isStep 19 = .ok (.ifCond .ne 7, 3) := by decide +kernel
theorem d_M_isStep_22 : decode b_M_isStep 22 = .ok (.iconst 1, 1) := by decide +kernel
theorem d_M_isStep_23 : decode b_M_isStep 23 = .ok (.goto 4, 3) := by decide +kernel
theorem d_M_isStep_26 : decode b_M_isStep 26 = .ok (.iconst 0, 1) := by decide +kernel
theorem d_M_isStep_27 : decode b_M_isStep 27 = .ok (.ireturn, 1) := by decide +kernel
theorem d_M_put_0 : decode b_M_put 0 = .ok (.iconst 0, 1) := by decide +kernel
theorem d_M_put_1 : decode b_M_put 1 = .ok (.istore_n 2, 1) := by decide +kernel
theorem d_M_put_2 : decode b_M_put 2 = .ok (.iconst 0, 1) := by decide +kernel
theorem d_M_put_3 : decode b_M_put 3 = .ok (.istore_n 3, 1) := by decide +kernel
theorem d_M_put_4 : decode b_M_put 4 = .ok (.iload_n 3, 1) := by decide +kernel
theorem d_M_put_5 : decode b_M_put 5 = .ok (.iload_n 1, 1) := by decide +kernel
theorem d_M_put_6 : decode b_M_put 6 = .ok (.invokestatic 71, 3) := by decide +kernel
theorem d_M_put_9 : decode b_M_put 9 = .ok (.if_icmp .ge 96, 3) := by decide +kernel
theorem d_M_put_12 : decode b_M_put 12 = .ok (.aload_n 0, 1) := by decide +kernel
theorem d_M_put_13 : decode b_M_put 13 = .ok (.getfield 7, 3) := by decide +kernel
theorem d_M_put_16 : decode b_M_put 16 = .ok (.bipush 32, 2) := by decide +kernel
theorem d_M_put_18 : decode b_M_put 18 = .ok (.iload_n 1, 1) := by decide +kernel
theorem d_M_put_19 : decode b_M_put 19 = .ok (.imul, 1) := by decide +kernel
theorem d_M_put_20 : decode b_M_put 20 = .ok (.iload_n 3, 1) := by decide +kernel
theorem d_M_put_21 : decode b_M_put 21 = .ok (.iadd, 1) := by decide +kernel
theorem d_M_put_22 : decode b_M_put 22 = .ok (.iaload, 1) := by decide +kernel
theorem d_M_put_23 : decode b_M_put 23 = .ok (.istore 4, 2) := by decide +kernel
theorem d_M_put_25 : decode b_M_put 25 = .ok (.iload 4, 2) := by decide +kernel
theorem d_M_put_27 : decode b_M_put 27 = .ok (.iconst 2, 1) := by decide +kernel
theorem d_M_put_28 : decode b_M_put 28 = .ok (.if_icmp .ge 8, 3) := by decide +kernel
theorem d_M_put_31 : decode b_M_put 31 = .ok (.iload 4, 2) := by decide +kernel
theorem d_M_put_33 : decode b_M_put 33 = .ok (.goto 57, 3) := by decide +kernel
theorem d_M_put_36 : decode b_M_put 36 = .ok (.iload 4, 2) := by decide +kernel
theorem d_M_put_38 : decode b_M_put 38 = .ok (.sipush 500, 3) := by decide +kernel
theorem d_M_put_41 : decode b_M_put 41 = .ok (.if_icmp .ge 26, 3) := by decide +kernel
theorem d_M_put_44 : decode b_M_put 44 = .ok (.aload_n 0, 1) := by decide +kernel
theorem d_M_put_45 : decode b_M_put 45 = .ok (.getfield 13, 3) := by decide +kernel
theorem d_M_put_48 : decode b_M_put 48 = .ok (.iload 4, 2) := by decide +kernel
theorem d_M_put_50 : decode b_M_put 50 = .ok (.bipush 100, 2) := by decide +kernel
theorem d_M_put_52 : decode b_M_put 52 = .ok (.idiv, 1) := by decide +kernel
theorem d_M_put_53 : decode b_M_put 53 = .ok (.iconst 1, 1) := by decide +kernel
theorem d_M_put_54 : decode b_M_put 54 = .ok (.isub, 1) := by decide +kernel
theorem d_M_put_55 : decode b_M_put 55 = .ok (.iaload, 1) := by decide +kernel
theorem d_M_put_56 : decode b_M_put 56 = .ok (.iload 4, 2) := by decide +kernel
theorem d_M_put_58 : decode b_M_put 58 = .ok (.bipush 100, 2) := by decide +kernel
theorem d_M_put_60 : decode b_M_put 60 = .ok (.irem, 1) := by decide +kernel
theorem d_M_put_61 : decode b_M_put 61 = .ok (.ishr, 1) := by decide +kernel
theorem d_M_put_62 : decode b_M_put 62 = .ok (.iconst 1, 1) := by decide +kernel
theorem d_M_put_63 : decode b_M_put 63 = .ok (.iand, 1) := by decide +kernel
theorem d_M_put_64 : decode b_M_put 64 = .ok (.goto 26, 3) := by decide +kernel
theorem d_M_put_67 : decode b_M_put 67 = .ok (.aload_n 0, 1) := by decide +kernel
theorem d_M_put_68 : decode b_M_put 68 = .ok (.getfield 13, 3) := by decide +kernel
theorem d_M_put_71 : decode b_M_put 71 = .ok (.iload 4, 2) := by decide +kernel
theorem d_M_put_73 : decode b_M_put 73 = .ok (.bipush 100, 2) := by decide +kernel
theorem d_M_put_75 : decode b_M_put 75 = .ok (.idiv, 1) := by decide +kernel
theorem d_M_put_76 : decode b_M_put 76 = .ok (.iconst 5, 1) := by decide +kernel
theorem d_M_put_77 : decode b_M_put 77 = .ok (.isub, 1) := by decide +kernel
theorem d_M_put_78 : decode b_M_put 78 = .ok (.iaload, 1) := by decide +kernel
theorem d_M_put_79 : decode b_M_put 79 = .ok (.bipush 8, 2) := by decide +kernel
theorem d_M_put_81 : decode b_M_put 81 = .ok (.isub, 1) := by decide +kernel
theorem d_M_put_82 : decode b_M_put 82 = .ok (.iload 4, 2) := by decide +kernel
theorem d_M_put_84 : decode b_M_put 84 = .ok (.bipush 100, 2) := by decide +kernel
theorem d_M_put_86 : decode b_M_put 86 = .ok (.irem, 1) := by decide +kernel
theorem d_M_put_87 : decode b_M_put 87 = .ok (.ishr, 1) := by decide +kernel
theorem d_M_put_88 : decode b_M_put 88 = .ok (.iconst 1, 1) := by decide +kernel
theorem d_M_put_89 : decode b_M_put 89 = .ok (.iand, 1) := by decide +kernel
theorem d_M_put_90 : decode b_M_put 90 = .ok (.istore 5, 2) := by decide +kernel
theorem d_M_put_92 : decode b_M_put 92 = .ok (.iload_n 2, 1) := by decide +kernel
theorem d_M_put_93 : decode b_M_put 93 = .ok (.iload 5, 2) := by decide +kernel
theorem d_M_put_95 : decode b_M_put 95 = .ok (.iload_n 3, 1) := by decide +kernel
theorem d_M_put_96 : decode b_M_put 96 = .ok (.ishl, 1) := by decide +kernel
theorem d_M_put_97 : decode b_M_put 97 = .ok (.ior, 1) := by decide +kernel
theorem d_M_put_98 : decode b_M_put 98 = .ok (.istore_n 2, 1) := by decide +kernel
theorem d_M_put_99 : decode b_M_put 99 = .ok (.iinc 3 1, 3) := by decide +kernel
theorem d_M_put_102 : decode b_M_put 102 = .ok (.goto (-98), 3) := by decide +kernel
theorem d_M_put_105 : decode b_M_put 105 = .ok (.iload_n 2, 1) := by decide +kernel
theorem d_M_put_106 : decode b_M_put 106 = .ok (.ireturn, 1) := by decide +kernel
theorem d_M_kind_0 : decode b_M_kind 0 = .ok (.aload_n 0, 1) := by decide +kernel
theorem d_M_kind_1 : decode b_M_kind 1 = .ok (.iconst 0, 1) := by decide +kernel
theorem d_M_kind_2 : decode b_M_kind 2 = .ok (.putfield 26, 3) := by decide +kernel
theorem d_M_kind_5 : decode b_M_kind 5 = .ok (.aload_n 0, 1) := by decide +kernel
theorem d_M_kind_6 : decode b_M_kind 6 = .ok (.iload_n 1, 1) := by decide +kernel
theorem d_M_kind_7 : decode b_M_kind 7 = .ok (.invokevirtual 154, 3) := by decide +kernel
theorem d_M_kind_10 : decode b_M_kind 10 = .ok (.ireturn, 1) := by decide +kernel
theorem d_M_find_0 : decode b_M_find 0 = .ok (.iload_n 1, 1) := by decide +kernel
theorem d_M_find_1 : decode b_M_find 1 = .ok (.invokestatic 142, 3) := by decide +kernel
theorem d_M_find_4 : decode b_M_find 4 = .ok (.ifCond .eq 7, 3) := by decide +kernel
theorem d_M_find_7 : decode b_M_find 7 = .ok (.iconst 0, 1) := by decide +kernel
theorem d_M_find_8 : decode b_M_find 8 = .ok (.goto 5, 3) := by decide +kernel
theorem d_M_find_11 : decode b_M_find 11 = .ok (.bipush 48, 2) := by decide +kernel
theorem d_M_find_13 : decode b_M_find 13 = .ok (.istore_n 2, 1) := by decide +kernel
theorem d_M_find_14 : decode b_M_find 14 = .ok (.iload_n 1, 1) := by decide +kernel
theorem d_M_find_15 : decode b_M_find 15 = .ok (.invokestatic 142, 3) := by decide +kernel
theorem d_M_find_18 : decode b_M_find 18 = .ok (.ifCond .eq 8, 3) := by decide +kernel
theorem d_M_find_21 : decode b_M_find 21 = .ok (.bipush 48, 2) := by decide +kernel
theorem d_M_find_23 : decode b_M_find 23 = .ok (.goto 5, 3) := by decide +kernel
theorem d_M_find_26 : decode b_M_find 26 = .ok (.bipush 75, 2) := by decide +kernel
theorem d_M_find_28 : decode b_M_find 28 = .ok (.istore_n 3, 1) := by decide +kernel
theorem d_M_find_29 : decode b_M_find 29 = .ok (.iload_n 2, 1) := by decide +kernel
theorem d_M_find_30 : decode b_M_find 30 = .ok (.istore 4, 2) := by decide +kernel
theorem d_M_find_32 : decode b_M_find 32 = .ok (.iload 4, 2) := by decide +kernel
theorem d_M_find_34 : decode b_M_find 34 = .ok (.iload_n 3, 1) := by decide +kernel
theorem d_M_find_35 : decode b_M_find 35 = .ok (.if_icmp .ge 22, 3) := by decide +kernel
theorem d_M_find_38 : decode b_M_find 38 = .ok (.aload_n 0, 1) := by decide +kernel
theorem d_M_find_39 : decode b_M_find 39 = .ok (.iload 4, 2) := by decide +kernel
theorem d_M_find_41 : decode b_M_find 41 = .ok (.iload_n 1, 1) := by decide +kernel
theorem d_M_find_42 : decode b_M_find 42 = .ok (.invokevirtual 145, 3) := by decide +kernel
theorem d_M_find_45 : decode b_M_find 45 = .ok (.ifCond .eq 6, 3) := by decide +kernel
theorem d_M_find_48 : decode b_M_find 48 = .ok (.iload 4, 2) := by decide +kernel
theorem d_M_find_50 : decode b_M_find 50 = .ok (.ireturn, 1) := by decide +kernel
theorem d_M_find_51 : decode b_M_find 51 = .ok (.iinc 4 1, 3) := by decide +kernel
theorem d_M_find_54 : decode b_M_find 54 = .ok (.goto (-22), 3) := by decide +kernel
theorem d_M_find_57 : decode b_M_find 57 = .ok (.iconst (-1), 1) := by decide +kernel
theorem d_M_find_58 : decode b_M_find 58 = .ok (.ireturn, 1) := by decide +kernel
theorem d_M_isLong_0 : decode b_M_isLong 0 = .ok (.iload_n 0, 1) := by decide +kernel
theorem d_M_isLong_1 : decode b_M_isLong 1 = .ok (.iconst 3, 1) := by decide +kernel
theorem d_M_isLong_2 : decode b_M_isLong 2 = .ok (.iand, 1) := by decide +kernel
theorem d_M_isLong_3 : decode b_M_isLong 3 = .ok (.iconst 3, 1) := by decide +kernel
theorem d_M_isLong_4 : decode b_M_isLong 4 = .ok (.if_icmp .ne 7, 3) := by decide +kernel
theorem d_M_isLong_7 : decode b_M_isLong 7 = .ok (.iconst 1, 1) := by decide +kernel
theorem d_M_isLong_8 : decode b_M_isLong 8 = .ok (.goto 4, 3) := by decide +kernel
theorem d_M_isLong_11 : decode b_M_isLong 11 = .ok (.iconst 0, 1) := by decide +kernel
theorem d_M_isLong_12 : decode b_M_isLong 12 = .ok (.ireturn, 1) := by decide +kernel
theorem d_M_take_0 : decode b_M_take 0 = .ok (.iconst 0, 1) := by decide +kernel
theorem d_M_take_1 : decode b_M_take 1 = .ok (.istore_n 3, 1) := by decide +kernel
theorem d_M_take_2 : decode b_M_take 2 = .ok (.iload_n 3, 1) := by decide +kernel
theorem d_M_take_3 : decode b_M_take 3 = .ok (.iconst 4, 1) := by decide +kernel
theorem d_M_take_4 : decode b_M_take 4 = .ok (.if_icmp .ge 35, 3) := by decide +kernel
theorem d_M_take_7 : decode b_M_take 7 = .ok (.aload_n 0, 1) := by decide +kernel
theorem d_M_take_8 : decode b_M_take 8 = .ok (.getfield 13, 3) := by decide +kernel
theorem d_M_take_11 : decode b_M_take 11 = .ok (.iload_n 3, 1) := by decide +kernel
theorem d_M_take_12 : decode b_M_take 12 = .ok (.iload_n 3, 1) := by decide +kernel
theorem d_M_take_13 : decode b_M_take 13 = .ok (.iconst 3, 1) := by decide +kernel
theorem d_M_take_14 : decode b_M_take 14 = .ok (.if_icmp .ge 17, 3) := by decide +kernel
theorem d_M_take_17 : decode b_M_take 17 = .ok (.aload_n 0, 1) := by decide +kernel
theorem d_M_take_18 : decode b_M_take 18 = .ok (.iload_n 1, 1) := by decide +kernel
theorem d_M_take_19 : decode b_M_take 19 = .ok (.iload_n 3, 1) := by decide +kernel
theorem d_M_take_20 : decode b_M_take 20 = .ok (.invokevirtual 74, 3) := by decide +kernel
theorem d_M_take_23 : decode b_M_take 23 = .ok (.ifCond .eq 8, 3) := by decide +kernel
theorem d_M_take_26 : decode b_M_take 26 = .ok (.bipush 8, 2) := by decide +kernel
theorem d_M_take_28 : decode b_M_take 28 = .ok (.goto 4, 3) := by decide +kernel
theorem d_M_take_31 : decode b_M_take 31 = .ok (.iconst 0, 1) := by decide +kernel
theorem d_M_take_32 : decode b_M_take 32 = .ok (.iastore, 1) := by decide +kernel
theorem d_M_take_33 : decode b_M_take 33 = .ok (.iinc 3 1, 3) := by decide +kernel
theorem d_M_take_36 : decode b_M_take 36 = .ok (.goto (-34), 3) := by decide +kernel
theorem d_M_take_39 : decode b_M_take 39 = .ok (.iconst 0, 1) := by decide +kernel
theorem d_M_take_40 : decode b_M_take 40 = .ok (.istore_n 3, 1) := by decide +kernel
theorem d_M_take_41 : decode b_M_take 41 = .ok (.iload_n 3, 1) := by decide +kernel
theorem d_M_take_42 : decode b_M_take 42 = .ok (.iload_n 1, 1) := by decide +kernel
theorem d_M_take_43 : decode b_M_take 43 = .ok (.invokestatic 71, 3) := by decide +kernel
theorem d_M_take_46 : decode b_M_take 46 = .ok (.if_icmp .ge 112, 3) := by decide +kernel
theorem d_M_take_49 : decode b_M_take 49 = .ok (.aload_n 0, 1) := by decide +kernel
theorem d_M_take_50 : decode b_M_take 50 = .ok (.getfield 7, 3) := by decide +kernel
theorem d_M_take_53 : decode b_M_take 53 = .ok (.bipush 32, 2) := by decide +kernel
theorem d_M_take_55 : decode b_M_take 55 = .ok (.iload_n 1, 1) := by decide +kernel
theorem d_M_take_56 : decode b_M_take 56 = .ok (.imul, 1) := by decide +kernel
theorem d_M_take_57 : decode b_M_take 57 = .ok (.iload_n 3, 1) := by decide +kernel
theorem d_M_take_58 : decode b_M_take 58 = .ok (.iadd, 1) := by decide +kernel
theorem d_M_take_59 : decode b_M_take 59 = .ok (.iaload, 1) := by decide +kernel
theorem d_M_take_60 : decode b_M_take 60 = .ok (.istore 4, 2) := by decide +kernel
theorem d_M_take_62 : decode b_M_take 62 = .ok (.iload_n 2, 1) := by decide +kernel
theorem d_M_take_63 : decode b_M_take 63 = .ok (.iload_n 3, 1) := by decide +kernel
theorem d_M_take_64 : decode b_M_take 64 = .ok (.ishr, 1) := by decide +kernel
theorem d_M_take_65 : decode b_M_take 65 = .ok (.iconst 1, 1) := by decide +kernel
theorem d_M_take_66 : decode b_M_take 66 = .ok (.iand, 1) := by decide +kernel
theorem d_M_take_67 : decode b_M_take 67 = .ok (.istore 5, 2) := by decide +kernel
theorem d_M_take_69 : decode b_M_take 69 = .ok (.iload 4, 2) := by decide +kernel
theorem d_M_take_71 : decode b_M_take 71 = .ok (.iconst 2, 1) := by decide +kernel
