theorem dL_rows_442 : decode cL_rows 442 = .ok (.goto 4, 3) := by decide +kernel
theorem dL_rows_445 : decode cL_rows 445 = .ok (.iconst 0, 1) := by decide +kernel
theorem dL_rows_446 : decode cL_rows 446 = .ok (.ireturn, 1) := by decide +kernel
theorem dL_hands_0 : decode cL_hands 0 = .ok (.new 8, 3) := by decide +kernel
theorem dL_hands_3 : decode cL_hands 3 = .ok (.dup, 1) := by decide +kernel
theorem dL_hands_4 : decode cL_hands 4 = .ok (.invokespecial 102, 3) := by decide +kernel
theorem dL_hands_7 : decode cL_hands 7 = .ok (.astore_n 0, 1) := by decide +kernel
theorem dL_hands_8 : decode cL_hands 8 = .ok (.bipush (-73), 2) := by decide +kernel
theorem dL_hands_10 : decode cL_hands 10 = .ok (.istore_n 1, 1) := by decide +kernel
theorem dL_hands_11 : decode cL_hands 11 = .ok (.iconst 0, 1) := by decide +kernel
theorem dL_hands_12 : decode cL_hands 12 = .ok (.istore_n 2, 1) := by decide +kernel
theorem dL_hands_13 : decode cL_hands 13 = .ok (.iload_n 2, 1) := by decide +kernel
theorem dL_hands_14 : decode cL_hands 14 = .ok (.bipush 7, 2) := by decide +kernel
theorem dL_hands_16 : decode cL_hands 16 = .ok (.if_icmp .ge 51, 3) := by decide +kernel
theorem dL_hands_19 : decode cL_hands 19 = .ok (.aload_n 0, 1) := by decide +kernel
theorem dL_hands_20 : decode cL_hands 20 = .ok (.iconst 0, 1) := by decide +kernel
theorem dL_hands_21 : decode cL_hands 21 = .ok (.iconst 0, 1) := by decide +kernel
theorem dL_hands_22 : decode cL_hands 22 = .ok (.iconst 0, 1) := by decide +kernel
theorem dL_hands_23 : decode cL_hands 23 = .ok (.iconst 0, 1) := by decide +kernel
theorem dL_hands_24 : decode cL_hands 24 = .ok (.iconst 0, 1) := by decide +kernel
theorem dL_hands_25 : decode cL_hands 25 = .ok (.invokestatic 91, 3) := by decide +kernel
theorem dL_hands_28 : decode cL_hands 28 = .ok (.iload_n 2, 1) := by decide +kernel
theorem dL_hands_29 : decode cL_hands 29 = .ok (.bipush 6, 2) := by decide +kernel
theorem dL_hands_31 : decode cL_hands 31 = .ok (.if_icmp .ge 7, 3) := by decide +kernel
theorem dL_hands_34 : decode cL_hands 34 = .ok (.iload_n 2, 1) := by decide +kernel
theorem dL_hands_35 : decode cL_hands 35 = .ok (.goto 4, 3) := by decide +kernel
theorem dL_hands_38 : decode cL_hands 38 = .ok (.iload_n 1, 1) := by decide +kernel
theorem dL_hands_39 : decode cL_hands 39 = .ok (.if_icmp .ne 20, 3) := by decide +kernel
theorem dL_hands_42 : decode cL_hands 42 = .ok (.iload_n 2, 1) := by decide +kernel
theorem dL_hands_43 : decode cL_hands 43 = .ok (.bipush 6, 2) := by decide +kernel
theorem dL_hands_45 : decode cL_hands 45 = .ok (.if_icmp .ge 16, 3) := by decide +kernel
theorem dL_hands_48 : decode cL_hands 48 = .ok (.aload_n 0, 1) := by decide +kernel
theorem dL_hands_49 : decode cL_hands 49 = .ok (.iload_n 2, 1) := by decide +kernel
theorem dL_hands_50 : decode cL_hands 50 = .ok (.iload_n 2, 1) := by decide +kernel
theorem dL_hands_51 : decode cL_hands 51 = .ok (.iconst 3, 1) := by decide +kernel
theorem dL_hands_52 : decode cL_hands 52 = .ok (.irem, 1) := by decide +kernel
theorem dL_hands_53 : decode cL_hands 53 = .ok (.invokestatic 97, 3) := by decide +kernel
theorem dL_hands_56 : decode cL_hands 56 = .ok (.ifCond .eq 5, 3) := by decide +kernel
theorem dL_hands_59 : decode cL_hands 59 = .ok (.iconst 0, 1) := by decide +kernel
theorem dL_hands_60 : decode cL_hands 60 = .ok (.ireturn, 1) := by decide +kernel
theorem dL_hands_61 : decode cL_hands 61 = .ok (.iinc 2 1, 3) := by decide +kernel
theorem dL_hands_64 : decode cL_hands 64 = .ok (.goto (-51), 3) := by decide +kernel
theorem dL_hands_67 : decode cL_hands 67 = .ok (.aload_n 0, 1) := by decide +kernel
theorem dL_hands_68 : decode cL_hands 68 = .ok (.iconst 0, 1) := by decide +kernel
theorem dL_hands_69 : decode cL_hands 69 = .ok (.iconst 0, 1) := by decide +kernel
theorem dL_hands_70 : decode cL_hands 70 = .ok (.iconst 0, 1) := by decide +kernel
theorem dL_hands_71 : decode cL_hands 71 = .ok (.iconst 1, 1) := by decide +kernel
theorem dL_hands_72 : decode cL_hands 72 = .ok (.invokevirtual 26, 3) := by decide +kernel
theorem dL_hands_75 : decode cL_hands 75 = .ok (.iconst (-1), 1) := by decide +kernel
theorem dL_hands_76 : decode cL_hands 76 = .ok (.if_icmp .ne 404, 3) := by decide +kernel
theorem dL_hands_79 : decode cL_hands 79 = .ok (.aload_n 0, 1) := by decide +kernel
theorem dL_hands_80 : decode cL_hands 80 = .ok (.iconst 1, 1) := by decide +kernel
theorem dL_hands_81 : decode cL_hands 81 = .ok (.iconst 1, 1) := by decide +kernel
theorem dL_hands_82 : decode cL_hands 82 = .ok (.iconst 0, 1) := by decide +kernel
theorem dL_hands_83 : decode cL_hands 83 = .ok (.iconst 2, 1) := by decide +kernel
theorem dL_hands_84 : decode cL_hands 84 = .ok (.invokevirtual 26, 3) := by decide +kernel
theorem dL_hands_87 : decode cL_hands 87 = .ok (.iconst (-1), 1) := by decide +kernel
theorem dL_hands_88 : decode cL_hands 88 = .ok (.if_icmp .ne 392, 3) := by decide +kernel
theorem dL_hands_91 : decode cL_hands 91 = .ok (.aload_n 0, 1) := by decide +kernel
theorem dL_hands_92 : decode cL_hands 92 = .ok (.iconst 1, 1) := by decide +kernel
theorem dL_hands_93 : decode cL_hands 93 = .ok (.iconst 1, 1) := by decide +kernel
theorem dL_hands_94 : decode cL_hands 94 = .ok (.iconst 1, 1) := by decide +kernel
theorem dL_hands_95 : decode cL_hands 95 = .ok (.iconst 2, 1) := by decide +kernel
theorem dL_hands_96 : decode cL_hands 96 = .ok (.invokevirtual 26, 3) := by decide +kernel
theorem dL_hands_99 : decode cL_hands 99 = .ok (.iconst (-1), 1) := by decide +kernel
theorem dL_hands_100 : decode cL_hands 100 = .ok (.if_icmp .ne 380, 3) := by decide +kernel
theorem dL_hands_103 : decode cL_hands 103 = .ok (.aload_n 0, 1) := by decide +kernel
theorem dL_hands_104 : decode cL_hands 104 = .ok (.iconst 2, 1) := by decide +kernel
theorem dL_hands_105 : decode cL_hands 105 = .ok (.iconst 2, 1) := by decide +kernel
theorem dL_hands_106 : decode cL_hands 106 = .ok (.iconst 2, 1) := by decide +kernel
theorem dL_hands_107 : decode cL_hands 107 = .ok (.iconst 0, 1) := by decide +kernel
theorem dL_hands_108 : decode cL_hands 108 = .ok (.invokevirtual 26, 3) := by decide +kernel
theorem dL_hands_111 : decode cL_hands 111 = .ok (.iconst (-1), 1) := by decide +kernel
theorem dL_hands_112 : decode cL_hands 112 = .ok (.if_icmp .ne 368, 3) := by decide +kernel
theorem dL_hands_115 : decode cL_hands 115 = .ok (.aload_n 0, 1) := by decide +kernel
theorem dL_hands_116 : decode cL_hands 116 = .ok (.iconst 2, 1) := by decide +kernel
theorem dL_hands_117 : decode cL_hands 117 = .ok (.iconst 2, 1) := by decide +kernel
theorem dL_hands_118 : decode cL_hands 118 = .ok (.bipush 7, 2) := by decide +kernel
theorem dL_hands_120 : decode cL_hands 120 = .ok (.iconst 1, 1) := by decide +kernel
theorem dL_hands_121 : decode cL_hands 121 = .ok (.invokevirtual 30, 3) := by decide +kernel
theorem dL_hands_124 : decode cL_hands 124 = .ok (.ifCond .ne 356, 3) := by decide +kernel
theorem dL_hands_127 : decode cL_hands 127 = .ok (.aload_n 0, 1) := by decide +kernel
theorem dL_hands_128 : decode cL_hands 128 = .ok (.iconst 3, 1) := by decide +kernel
theorem dL_hands_129 : decode cL_hands 129 = .ok (.iconst 0, 1) := by decide +kernel
theorem dL_hands_130 : decode cL_hands 130 = .ok (.iconst 1, 1) := by decide +kernel
theorem dL_hands_131 : decode cL_hands 131 = .ok (.iconst 1, 1) := by decide +kernel
theorem dL_hands_132 : decode cL_hands 132 = .ok (.invokevirtual 34, 3) := by decide +kernel
theorem dL_hands_135 : decode cL_hands 135 = .ok (.ifCond .ne 345, 3) := by decide +kernel
theorem dL_hands_138 : decode cL_hands 138 = .ok (.aload_n 0, 1) := by decide +kernel
theorem dL_hands_139 : decode cL_hands 139 = .ok (.iconst 3, 1) := by decide +kernel
theorem dL_hands_140 : decode cL_hands 140 = .ok (.iconst 0, 1) := by decide +kernel
theorem dL_hands_141 : decode cL_hands 141 = .ok (.invokevirtual 37, 3) := by decide +kernel
theorem dL_hands_144 : decode cL_hands 144 = .ok (.iconst 2, 1) := by decide +kernel
theorem dL_hands_145 : decode cL_hands 145 = .ok (.if_icmp .ne 335, 3) := by decide +kernel
theorem dL_hands_148 : decode cL_hands 148 = .ok (.aload_n 0, 1) := by decide +kernel
theorem dL_hands_149 : decode cL_hands 149 = .ok (.iconst 3, 1) := by decide +kernel
theorem dL_hands_150 : decode cL_hands 150 = .ok (.iconst 0, 1) := by decide +kernel
theorem dL_hands_151 : decode cL_hands 151 = .ok (.iconst 0, 1) := by decide +kernel
theorem dL_hands_152 : decode cL_hands 152 = .ok (.iconst 1, 1) := by decide +kernel
theorem dL_hands_153 : decode cL_hands 153 = .ok (.invokevirtual 34, 3) := by decide +kernel
theorem dL_hands_156 : decode cL_hands 156 = .ok (.ifCond .ne 324, 3) := by decide +kernel
theorem dL_hands_159 : decode cL_hands 159 = .ok (.aload_n 0, 1) := by decide +kernel
theorem dL_hands_160 : decode cL_hands 160 = .ok (.iconst 3, 1) := by decide +kernel
theorem dL_hands_161 : decode cL_hands 161 = .ok (.iconst 0, 1) := by decide +kernel
theorem dL_hands_162 : decode cL_hands 162 = .ok (.invokevirtual 37, 3) := by decide +kernel
theorem dL_hands_165 : decode cL_hands 165 = .ok (.iconst 1, 1) := by decide +kernel
theorem dL_hands_166 : decode cL_hands 166 = .ok (.if_icmp .ne 314, 3) := by decide +kernel
theorem dL_hands_169 : decode cL_hands 169 = .ok (.aload_n 0, 1) := by decide +kernel
theorem dL_hands_170 : decode cL_hands 170 = .ok (.iconst 3, 1) := by decide +kernel
theorem dL_hands_171 : decode cL_hands 171 = .ok (.iconst 1, 1) := by decide +kernel
theorem dL_hands_172 : decode cL_hands 172 = .ok (.invokevirtual 37, 3) := by decide +kernel
theorem dL_hands_175 : decode cL_hands 175 = .ok (.iconst 2, 1) := by decide +kernel
theorem dL_hands_176 : decode cL_hands 176 = .ok (.if_icmp .ne 304, 3) := by decide +kernel
theorem dL_hands_179 : decode cL_hands 179 = .ok (.aload_n 0, 1) := by decide +kernel
theorem dL_hands_180 : decode cL_hands 180 = .ok (.iconst 3, 1) := by decide +kernel
theorem dL_hands_181 : decode cL_hands 181 = .ok (.iconst 2, 1) := by decide +kernel
theorem dL_hands_182 : decode cL_hands 182 = .ok (.invokevirtual 37, 3) := by decide +kernel
theorem dL_hands_185 : decode cL_hands 185 = .ok (.iconst (-1), 1) := by decide +kernel
theorem dL_hands_186 : decode cL_hands 186 = .ok (.if_icmp .ne 294, 3) := by decide +kernel
theorem dL_hands_189 : decode cL_hands 189 = .ok (.aload_n 0, 1) := by decide +kernel
theorem dL_hands_190 : decode cL_hands 190 = .ok (.iconst 0, 1) := by decide +kernel
theorem dL_hands_191 : decode cL_hands 191 = .ok (.iconst 0, 1) := by decide +kernel
theorem dL_hands_192 : decode cL_hands 192 = .ok (.iconst 2, 1) := by decide +kernel
theorem dL_hands_193 : decode cL_hands 193 = .ok (.iconst 1, 1) := by decide +kernel
theorem dL_hands_194 : decode cL_hands 194 = .ok (.invokevirtual 34, 3) := by decide +kernel
theorem dL_hands_197 : decode cL_hands 197 = .ok (.ifCond .ne 283, 3) := by decide +kernel
theorem dL_hands_200 : decode cL_hands 200 = .ok (.aload_n 0, 1) := by decide +kernel
theorem dL_hands_201 : decode cL_hands 201 = .ok (.iconst 3, 1) := by decide +kernel
theorem dL_hands_202 : decode cL_hands 202 = .ok (.iconst 2, 1) := by decide +kernel
theorem dL_hands_203 : decode cL_hands 203 = .ok (.invokevirtual 37, 3) := by decide +kernel
theorem dL_hands_206 : decode cL_hands 206 = .ok (.ifCond .ne 274, 3) := by decide +kernel
theorem dL_hands_209 : decode cL_hands 209 = .ok (.aload_n 0, 1) := by decide +kernel
theorem dL_hands_210 : decode cL_hands 210 = .ok (.iconst 3, 1) := by decide +kernel
theorem dL_hands_211 : decode cL_hands 211 = .ok (.bipush 7, 2) := by decide +kernel
theorem dL_hands_213 : decode cL_hands 213 = .ok (.invokevirtual 41, 3) := by decide +kernel
theorem dL_hands_216 : decode cL_hands 216 = .ok (.ifCond .eq 264, 3) := by decide +kernel
theorem dL_hands_219 : decode cL_hands 219 = .ok (.aload_n 0, 1) := by decide +kernel
theorem dL_hands_220 : decode cL_hands 220 = .ok (.iconst 0, 1) := by decide +kernel
theorem dL_hands_221 : decode cL_hands 221 = .ok (.bipush 7, 2) := by decide +kernel
theorem dL_hands_223 : decode cL_hands 223 = .ok (.invokevirtual 41, 3) := by decide +kernel
theorem dL_hands_226 : decode cL_hands 226 = .ok (.ifCond .eq 254, 3) := by decide +kernel
theorem dL_hands_229 : decode cL_hands 229 = .ok (.aload_n 0, 1) := by decide +kernel
theorem dL_hands_230 : decode cL_hands 230 = .ok (.iconst 1, 1) := by decide +kernel
theorem dL_hands_231 : decode cL_hands 231 = .ok (.bipush 7, 2) := by decide +kernel
theorem dL_hands_233 : decode cL_hands 233 = .ok (.invokevirtual 41, 3) := by decide +kernel
theorem dL_hands_236 : decode cL_hands 236 = .ok (.ifCond .ne 244, 3) := by decide +kernel
theorem dL_hands_239 : decode cL_hands 239 = .ok (.aload_n 0, 1) := by decide +kernel
theorem dL_hands_240 : decode cL_hands 240 = .ok (.iconst 3, 1) := by decide +kernel
theorem dL_hands_241 : decode cL_hands 241 = .ok (.iconst 2, 1) := by decide +kernel
theorem dL_hands_242 : decode cL_hands 242 = .ok (.iconst 2, 1) := by decide +kernel
theorem dL_hands_243 : decode cL_hands 243 = .ok (.iconst 3, 1) := by decide +kernel
theorem dL_hands_244 : decode cL_hands 244 = .ok (.iconst 1, 1) := by decide +kernel
theorem dL_hands_245 : decode cL_hands 245 = .ok (.invokestatic 91, 3) := by decide +kernel
theorem dL_hands_248 : decode cL_hands 248 = .ok (.iload_n 1, 1) := by decide +kernel
theorem dL_hands_249 : decode cL_hands 249 = .ok (.if_icmp .ne 231, 3) := by decide +kernel
theorem dL_hands_252 : decode cL_hands 252 = .ok (.aload_n 0, 1) := by decide +kernel
theorem dL_hands_253 : decode cL_hands 253 = .ok (.iconst 3, 1) := by decide +kernel
theorem dL_hands_254 : decode cL_hands 254 = .ok (.iconst 2, 1) := by decide +kernel
theorem dL_hands_255 : decode cL_hands 255 = .ok (.iconst 2, 1) := by decide +kernel
theorem dL_hands_256 : decode cL_hands 256 = .ok (.iconst 2, 1) := by decide +kernel
theorem dL_hands_257 : decode cL_hands 257 = .ok (.iconst 1, 1) := by decide +kernel
theorem dL_hands_258 : decode cL_hands 258 = .ok (.invokestatic 91, 3) := by decide +kernel
theorem dL_hands_261 : decode cL_hands 261 = .ok (.iload_n 1, 1) := by decide +kernel
theorem dL_hands_262 : decode cL_hands 262 = .ok (.if_icmp .ne 218, 3) := by decide +kernel
theorem dL_hands_265 : decode cL_hands 265 = .ok (.aload_n 0, 1) := by decide +kernel
theorem dL_hands_266 : decode cL_hands 266 = .ok (.iconst 3, 1) := by decide +kernel
theorem dL_hands_267 : decode cL_hands 267 = .ok (.iconst 2, 1) := by decide +kernel
theorem dL_hands_268 : decode cL_hands 268 = .ok (.iconst 2, 1) := by decide +kernel
theorem dL_hands_269 : decode cL_hands 269 = .ok (.iconst 0, 1) := by decide +kernel
theorem dL_hands_270 : decode cL_hands 270 = .ok (.iconst 1, 1) := by decide +kernel
theorem dL_hands_271 : decode cL_hands 271 = .ok (.invokestatic 91, 3) := by decide +kernel
theorem dL_hands_274 : decode cL_hands 274 = .ok (.iload_n 1, 1) := by decide +kernel
theorem dL_hands_275 : decode cL_hands 275 = .ok (.if_icmp .ne 205, 3) := by decide +kernel
theorem dL_hands_278 : decode cL_hands 278 = .ok (.aload_n 0, 1) := by decide +kernel
theorem dL_hands_279 : decode cL_hands 279 = .ok (.iconst 2, 1) := by decide +kernel
theorem dL_hands_280 : decode cL_hands 280 = .ok (.iconst 2, 1) := by decide +kernel
theorem dL_hands_281 : decode cL_hands 281 = .ok (.iconst 3, 1) := by decide +kernel
theorem dL_hands_282 : decode cL_hands 282 = .ok (.iconst 0, 1) := by decide +kernel
theorem dL_hands_283 : decode cL_hands 283 = .ok (.invokevirtual 34, 3) := by decide +kernel
theorem dL_hands_286 : decode cL_hands 286 = .ok (.ifCond .ne 194, 3) := by decide +kernel
theorem dL_hands_289 : decode cL_hands 289 = .ok (.aload_n 0, 1) := by decide +kernel
theorem dL_hands_290 : decode cL_hands 290 = .ok (.iconst 2, 1) := by decide +kernel
theorem dL_hands_291 : decode cL_hands 291 = .ok (.iconst 2, 1) := by decide +kernel
theorem dL_hands_292 : decode cL_hands 292 = .ok (.iconst 2, 1) := by decide +kernel
theorem dL_hands_293 : decode cL_hands 293 = .ok (.iconst 0, 1) := by decide +kernel
theorem dL_hands_294 : decode cL_hands 294 = .ok (.invokevirtual 34, 3) := by decide +kernel
theorem dL_hands_297 : decode cL_hands 297 = .ok (.ifCond .ne 183, 3) := by decide +kernel
theorem dL_hands_300 : decode cL_hands 300 = .ok (.aload_n 0, 1) := by decide +kernel
theorem dL_hands_301 : decode cL_hands 301 = .ok (.iconst 3, 1) := by decide +kernel
theorem dL_hands_302 : decode cL_hands 302 = .ok (.iconst 0, 1) := by decide +kernel
theorem dL_hands_303 : decode cL_hands 303 = .ok (.iconst 0, 1) := by decide +kernel
theorem dL_hands_304 : decode cL_hands 304 = .ok (.iconst 0, 1) := by decide +kernel
theorem dL_hands_305 : decode cL_hands 305 = .ok (.invokevirtual 26, 3) := by decide +kernel
theorem dL_hands_308 : decode cL_hands 308 = .ok (.iconst (-1), 1) := by decide +kernel
theorem dL_hands_309 : decode cL_hands 309 = .ok (.if_icmp .ne 171, 3) := by decide +kernel
theorem dL_hands_312 : decode cL_hands 312 = .ok (.aload_n 0, 1) := by decide +kernel
theorem dL_hands_313 : decode cL_hands 313 = .ok (.iconst 3, 1) := by decide +kernel
theorem dL_hands_314 : decode cL_hands 314 = .ok (.iconst 0, 1) := by decide +kernel
theorem dL_hands_315 : decode cL_hands 315 = .ok (.invokevirtual 37, 3) := by decide +kernel
theorem dL_hands_318 : decode cL_hands 318 = .ok (.ifCond .ne 162, 3) := by decide +kernel
theorem dL_hands_321 : decode cL_hands 321 = .ok (.aload_n 0, 1) := by decide +kernel
theorem dL_hands_322 : decode cL_hands 322 = .ok (.iconst 3, 1) := by decide +kernel
theorem dL_hands_323 : decode cL_hands 323 = .ok (.iconst 0, 1) := by decide +kernel
theorem dL_hands_324 : decode cL_hands 324 = .ok (.iconst 0, 1) := by decide +kernel
theorem dL_hands_325 : decode cL_hands 325 = .ok (.iconst (-1), 1) := by decide +kernel
theorem dL_hands_326 : decode cL_hands 326 = .ok (.invokevirtual 26, 3) := by decide +kernel
theorem dL_hands_329 : decode cL_hands 329 = .ok (.ifCond .ne 151, 3) := by decide +kernel
theorem dL_hands_332 : decode cL_hands 332 = .ok (.aload_n 0, 1) := by decide +kernel
theorem dL_hands_333 : decode cL_hands 333 = .ok (.iconst 3, 1) := by decide +kernel
theorem dL_hands_334 : decode cL_hands 334 = .ok (.iconst 0, 1) := by decide +kernel
theorem dL_hands_335 : decode cL_hands 335 = .ok (.invokevirtual 37, 3) := by decide +kernel
theorem dL_hands_338 : decode cL_hands 338 = .ok (.iconst 1, 1) := by decide +kernel
theorem dL_hands_339 : decode cL_hands 339 = .ok (.if_icmp .ne 141, 3) := by decide +kernel
theorem dL_hands_342 : decode cL_hands 342 = .ok (.aload_n 0, 1) := by decide +kernel
theorem dL_hands_343 : decode cL_hands 343 = .ok (.iconst 0, 1) := by decide +kernel
theorem dL_hands_344 : decode cL_hands 344 = .ok (.iconst 0, 1) := by decide +kernel
theorem dL_hands_345 : decode cL_hands 345 = .ok (.iconst 0, 1) := by decide +kernel
theorem dL_hands_346 : decode cL_hands 346 = .ok (.iconst (-1), 1) := by decide +kernel
theorem dL_hands_347 : decode cL_hands 347 = .ok (.invokevirtual 26, 3) := by decide +kernel
theorem dL_hands_350 : decode cL_hands 350 = .ok (.iconst 1, 1) := by decide +kernel
theorem dL_hands_351 : decode cL_hands 351 = .ok (.if_icmp .ne 129, 3) := by decide +kernel
theorem dL_hands_354 : decode cL_hands 354 = .ok (.aload_n 0, 1) := by decide +kernel
theorem dL_hands_355 : decode cL_hands 355 = .ok (.iconst 3, 1) := by decide +kernel
theorem dL_hands_356 : decode cL_hands 356 = .ok (.iconst 0, 1) := by decide +kernel
theorem dL_hands_357 : decode cL_hands 357 = .ok (.invokevirtual 37, 3) := by decide +kernel
theorem dL_hands_360 : decode cL_hands 360 = .ok (.iconst 2, 1) := by decide +kernel
theorem dL_hands_361 : decode cL_hands 361 = .ok (.if_icmp .ne 119, 3) := by decide +kernel
theorem dL_hands_364 : decode cL_hands 364 = .ok (.aload_n 0, 1) := by decide +kernel
theorem dL_hands_365 : decode cL_hands 365 = .ok (.iconst 2, 1) := by decide +kernel
theorem dL_hands_366 : decode cL_hands 366 = .ok (.iconst 2, 1) := by decide +kernel
theorem dL_hands_367 : decode cL_hands 367 = .ok (.iconst 1, 1) := by decide +kernel
theorem dL_hands_368 : decode cL_hands 368 = .ok (.iconst 1, 1) := by decide +kernel
theorem dL_hands_369 : decode cL_hands 369 = .ok (.invokevirtual 34, 3) := by decide +kernel
theorem dL_hands_372 : decode cL_hands 372 = .ok (.ifCond .ne 108, 3) := by decide +kernel
theorem dL_hands_375 : decode cL_hands 375 = .ok (.aload_n 0, 1) := by decide +kernel
theorem dL_hands_376 : decode cL_hands 376 = .ok (.iconst 0, 1) := by decide +kernel
theorem dL_hands_377 : decode cL_hands 377 = .ok (.iconst 0, 1) := by decide +kernel
theorem dL_hands_378 : decode cL_hands 378 = .ok (.invokevirtual 37, 3) := by decide +kernel
theorem dL_hands_381 : decode cL_hands 381 = .ok (.iconst 2, 1) := by decide +kernel
theorem dL_hands_382 : decode cL_hands 382 = .ok (.if_icmp .ne 98, 3) := by decide +kernel
theorem dL_hands_385 : decode cL_hands 385 = .ok (.aload_n 0, 1) := by decide +kernel
theorem dL_hands_386 : decode cL_hands 386 = .ok (.iconst 0, 1) := by decide +kernel
theorem dL_hands_387 : decode cL_hands 387 = .ok (.iconst 1, 1) := by decide +kernel
theorem dL_hands_388 : decode cL_hands 388 = .ok (.invokevirtual 37, 3) := by decide +kernel
theorem dL_hands_391 : decode cL_hands 391 = .ok (.iconst 2, 1) := by decide +kernel
theorem dL_hands_392 : decode cL_hands 392 = .ok (.if_icmp .ne 88, 3) := by decide +kernel
theorem dL_hands_395 : decode cL_hands 395 = .ok (.aload_n 0, 1) := by decide +kernel
theorem dL_hands_396 : decode cL_hands 396 = .ok (.iconst 3, 1) := by decide +kernel
theorem dL_hands_397 : decode cL_hands 397 = .ok (.iconst 1, 1) := by decide +kernel
theorem dL_hands_398 : decode cL_hands 398 = .ok (.iconst 1, 1) := by decide +kernel
theorem dL_hands_399 : decode cL_hands 399 = .ok (.iconst 3, 1) := by decide +kernel
theorem dL_hands_400 : decode cL_hands 400 = .ok (.iconst 1, 1) := by decide +kernel
theorem dL_hands_401 : decode cL_hands 401 = .ok (.invokestatic 91, 3) := by decide +kernel
theorem dL_hands_404 : decode cL_hands 404 = .ok (.iload_n 1, 1) := by decide +kernel
theorem dL_hands_405 : decode cL_hands 405 = .ok (.if_icmp .ne 75, 3) := by decide +kernel
theorem dL_hands_408 : decode cL_hands 408 = .ok (.aload_n 0, 1) := by decide +kernel
theorem dL_hands_409 : decode cL_hands 409 = .ok (.iconst 3, 1) := by decide +kernel
theorem dL_hands_410 : decode cL_hands 410 = .ok (.iconst 0, 1) := by decide +kernel
theorem dL_hands_411 : decode cL_hands 411 = .ok (.iconst 1, 1) := by decide +kernel
theorem dL_hands_412 : decode cL_hands 412 = .ok (.iconst 1, 1) := by decide +kernel
theorem dL_hands_413 : decode cL_hands 413 = .ok (.invokevirtual 34, 3) := by decide +kernel
theorem dL_hands_416 : decode cL_hands 416 = .ok (.ifCond .eq 64, 3) := by decide +kernel
theorem dL_hands_419 : decode cL_hands 419 = .ok (.aload_n 0, 1) := by decide +kernel
theorem dL_hands_420 : decode cL_hands 420 = .ok (.iconst 3, 1) := by decide +kernel
theorem dL_hands_421 : decode cL_hands 421 = .ok (.iconst 0, 1) := by decide +kernel
theorem dL_hands_422 : decode cL_hands 422 = .ok (.iconst 1, 1) := by decide +kernel
theorem dL_hands_423 : decode cL_hands 423 = .ok (.iconst 0, 1) := by decide +kernel
theorem dL_hands_424 : decode cL_hands 424 = .ok (.invokevirtual 34, 3) := by decide +kernel
theorem dL_hands_427 : decode cL_hands 427 = .ok (.ifCond .eq 53, 3) := by decide +kernel
theorem dL_hands_430 : decode cL_hands 430 = .ok (.aload_n 0, 1) := by decide +kernel
theorem dL_hands_431 : decode cL_hands 431 = .ok (.iconst 3, 1) := by decide +kernel
theorem dL_hands_432 : decode cL_hands 432 = .ok (.iconst 1, 1) := by decide +kernel
theorem dL_hands_433 : decode cL_hands 433 = .ok (.invokevirtual 37, 3) := by decide +kernel
theorem dL_hands_436 : decode cL_hands 436 = .ok (.iconst 2, 1) := by decide +kernel
theorem dL_hands_437 : decode cL_hands 437 = .ok (.if_icmp .ne 43, 3) := by decide +kernel
theorem dL_hands_440 : decode cL_hands 440 = .ok (.aload_n 0, 1) := by decide +kernel
theorem dL_hands_441 : decode cL_hands 441 = .ok (.iconst 0, 1) := by decide +kernel
theorem dL_hands_442 : decode cL_hands 442 = .ok (.iconst 0, 1) := by decide +kernel
theorem dL_hands_443 : decode cL_hands 443 = .ok (.iconst 2, 1) := by decide +kernel
theorem dL_hands_444 : decode cL_hands 444 = .ok (.iconst 0, 1) := by decide +kernel
theorem dL_hands_445 : decode cL_hands 445 = .ok (.invokevirtual 34, 3) := by decide +kernel
theorem dL_hands_448 : decode cL_hands 448 = .ok (.ifCond .eq 32, 3) := by decide +kernel
theorem dL_hands_451 : decode cL_hands 451 = .ok (.aload_n 0, 1) := by decide +kernel
theorem dL_hands_452 : decode cL_hands 452 = .ok (.iconst 3, 1) := by decide +kernel
theorem dL_hands_453 : decode cL_hands 453 = .ok (.iconst 1, 1) := by decide +kernel
theorem dL_hands_454 : decode cL_hands 454 = .ok (.invokevirtual 37, 3) := by decide +kernel
theorem dL_hands_457 : decode cL_hands 457 = .ok (.iconst (-1), 1) := by decide +kernel
theorem dL_hands_458 : decode cL_hands 458 = .ok (.if_icmp .ne 22, 3) := by decide +kernel
theorem dL_hands_461 : decode cL_hands 461 = .ok (.aload_n 0, 1) := by decide +kernel
theorem dL_hands_462 : decode cL_hands 462 = .ok (.iconst 3, 1) := by decide +kernel
theorem dL_hands_463 : decode cL_hands 463 = .ok (.bipush 7, 2) := by decide +kernel
theorem dL_hands_465 : decode cL_hands 465 = .ok (.invokevirtual 41, 3) := by decide +kernel
theorem dL_hands_468 : decode cL_hands 468 = .ok (.ifCond .ne 12, 3) := by decide +kernel
theorem dL_hands_471 : decode cL_hands 471 = .ok (.aload_n 0, 1) := by decide +kernel
theorem dL_hands_472 : decode cL_hands 472 = .ok (.iconst 0, 1) := by decide +kernel
theorem dL_hands_473 : decode cL_hands 473 = .ok (.iconst 0, 1) := by decide +kernel
theorem dL_hands_474 : decode cL_hands 474 = .ok (.invokestatic 103, 3) := by decide +kernel
theorem dL_hands_477 : decode cL_hands 477 = .ok (.ifCond .ne 5, 3) := by decide +kernel
theorem dL_hands_480 : decode cL_hands 480 = .ok (.iconst 0, 1) := by decide +kernel
theorem dL_hands_481 : decode cL_hands 481 = .ok (.ireturn, 1) := by decide +kernel
theorem dL_hands_482 : decode cL_hands 482 = .ok (.aload_n 0, 1) := by decide +kernel
theorem dL_hands_483 : decode cL_hands 483 = .ok (.iconst 5, 1) := by decide +kernel
theorem dL_hands_484 : decode cL_hands 484 = .ok (.iconst 2, 1) := by decide +kernel
theorem dL_hands_485 : decode cL_hands 485 = .ok (.iconst 2, 1) := by decide +kernel
theorem dL_hands_486 : decode cL_hands 486 = .ok (.iconst 1, 1) := by decide +kernel
theorem dL_hands_487 : decode cL_hands 487 = .ok (.invokevirtual 34, 3) := by decide +kernel
theorem dL_hands_490 : decode cL_hands 490 = .ok (.ifCond .ne 128, 3) := by decide +kernel
theorem dL_hands_493 : decode cL_hands 493 = .ok (.aload_n 0, 1) := by decide +kernel
theorem dL_hands_494 : decode cL_hands 494 = .ok (.iconst 5, 1) := by decide +kernel
theorem dL_hands_495 : decode cL_hands 495 = .ok (.invokevirtual 68, 3) := by decide +kernel
theorem dL_hands_498 : decode cL_hands 498 = .ok (.ifCond .ne 120, 3) := by decide +kernel
theorem dL_hands_501 : decode cL_hands 501 = .ok (.aload_n 0, 1) := by decide +kernel
theorem dL_hands_502 : decode cL_hands 502 = .ok (.iconst 5, 1) := by decide +kernel
theorem dL_hands_503 : decode cL_hands 503 = .ok (.invokevirtual 75, 3) := by decide +kernel
theorem dL_hands_506 : decode cL_hands 506 = .ok (.ifCond .ne 112, 3) := by decide +kernel
theorem dL_hands_509 : decode cL_hands 509 = .ok (.aload_n 0, 1) := by decide +kernel
theorem dL_hands_510 : decode cL_hands 510 = .ok (.iconst 0, 1) := by decide +kernel
theorem dL_hands_511 : decode cL_hands 511 = .ok (.invokevirtual 81, 3) := by decide +kernel
theorem dL_hands_514 : decode cL_hands 514 = .ok (.ifCond .eq 104, 3) := by decide +kernel
theorem dL_hands_517 : decode cL_hands 517 = .ok (.aload_n 0, 1) := by decide +kernel
theorem dL_hands_518 : decode cL_hands 518 = .ok (.iconst 1, 1) := by decide +kernel
theorem dL_hands_519 : decode cL_hands 519 = .ok (.iconst 1, 1) := by decide +kernel
theorem dL_hands_520 : decode cL_hands 520 = .ok (.iconst 1, 1) := by decide +kernel
theorem dL_hands_521 : decode cL_hands 521 = .ok (.iconst (-1), 1) := by decide +kernel
theorem dL_hands_522 : decode cL_hands 522 = .ok (.invokevirtual 26, 3) := by decide +kernel
theorem dL_hands_525 : decode cL_hands 525 = .ok (.iconst 2, 1) := by decide +kernel
theorem dL_hands_526 : decode cL_hands 526 = .ok (.if_icmp .ne 92, 3) := by decide +kernel
theorem dL_hands_529 : decode cL_hands 529 = .ok (.aload_n 0, 1) := by decide +kernel
theorem dL_hands_530 : decode cL_hands 530 = .ok (.iconst 0, 1) := by decide +kernel
theorem dL_hands_531 : decode cL_hands 531 = .ok (.invokevirtual 71, 3) := by decide +kernel
theorem dL_hands_534 : decode cL_hands 534 = .ok (.ifCond .ne 84, 3) := by decide +kernel
theorem dL_hands_537 : decode cL_hands 537 = .ok (.aload_n 0, 1) := by decide +kernel
theorem dL_hands_538 : decode cL_hands 538 = .ok (.iconst 0, 1) := by decide +kernel
theorem dL_hands_539 : decode cL_hands 539 = .ok (.invokevirtual 81, 3) := by decide +kernel
theorem dL_hands_542 : decode cL_hands 542 = .ok (.ifCond .ne 76, 3) := by decide +kernel
theorem dL_hands_545 : decode cL_hands 545 = .ok (.aload_n 0, 1) := by decide +kernel
theorem dL_hands_546 : decode cL_hands 546 = .ok (.invokevirtual 87, 3) := by decide +kernel
theorem dL_hands_549 : decode cL_hands 549 = .ok (.iconst 1, 1) := by decide +kernel
theorem dL_hands_550 : decode cL_hands 550 = .ok (.if_icmp .ne 68, 3) := by decide +kernel
theorem dL_hands_553 : decode cL_hands 553 = .ok (.aload_n 0, 1) := by decide +kernel
theorem dL_hands_554 : decode cL_hands 554 = .ok (.iconst 5, 1) := by decide +kernel
theorem dL_hands_555 : decode cL_hands 555 = .ok (.iconst 2, 1) := by decide +kernel
theorem dL_hands_556 : decode cL_hands 556 = .ok (.iconst 1, 1) := by decide +kernel
theorem dL_hands_557 : decode cL_hands 557 = .ok (.iconst 2, 1) := by decide +kernel
theorem dL_hands_558 : decode cL_hands 558 = .ok (.invokevirtual 26, 3) := by decide +kernel
theorem dL_hands_561 : decode cL_hands 561 = .ok (.iconst (-1), 1) := by decide +kernel
theorem dL_hands_562 : decode cL_hands 562 = .ok (.if_icmp .ne 56, 3) := by decide +kernel
theorem dL_hands_565 : decode cL_hands 565 = .ok (.aload_n 0, 1) := by decide +kernel
theorem dL_hands_566 : decode cL_hands 566 = .ok (.iconst 0, 1) := by decide +kernel
theorem dL_hands_567 : decode cL_hands 567 = .ok (.invokevirtual 71, 3) := by decide +kernel
theorem dL_hands_570 : decode cL_hands 570 = .ok (.ifCond .eq 48, 3) := by decide +kernel
theorem dL_hands_573 : decode cL_hands 573 = .ok (.aload_n 0, 1) := by decide +kernel
theorem dL_hands_574 : decode cL_hands 574 = .ok (.invokevirtual 87, 3) := by decide +kernel
theorem dL_hands_577 : decode cL_hands 577 = .ok (.ifCond .ne 41, 3) := by decide +kernel
theorem dL_hands_580 : decode cL_hands 580 = .ok (.aload_n 0, 1) := by decide +kernel
theorem dL_hands_581 : decode cL_hands 581 = .ok (.iconst 4, 1) := by decide +kernel
theorem dL_hands_582 : decode cL_hands 582 = .ok (.iconst 1, 1) := by decide +kernel
theorem dL_hands_583 : decode cL_hands 583 = .ok (.iconst 5, 1) := by decide +kernel
theorem dL_hands_584 : decode cL_hands 584 = .ok (.iconst 1, 1) := by decide +kernel
theorem dL_hands_585 : decode cL_hands 585 = .ok (.invokevirtual 34, 3) := by decide +kernel
theorem dL_hands_588 : decode cL_hands 588 = .ok (.ifCond .ne 30, 3) := by decide +kernel
theorem dL_hands_591 : decode cL_hands 591 = .ok (.aload_n 0, 1) := by decide +kernel
theorem dL_hands_592 : decode cL_hands 592 = .ok (.iconst 4, 1) := by decide +kernel
theorem dL_hands_593 : decode cL_hands 593 = .ok (.invokevirtual 75, 3) := by decide +kernel
theorem dL_hands_596 : decode cL_hands 596 = .ok (.iconst 1, 1) := by decide +kernel
theorem dL_hands_597 : decode cL_hands 597 = .ok (.if_icmp .ne 21, 3) := by decide +kernel
theorem dL_hands_600 : decode cL_hands 600 = .ok (.aload_n 0, 1) := by decide +kernel
theorem dL_hands_601 : decode cL_hands 601 = .ok (.iconst 1, 1) := by decide +kernel
theorem dL_hands_602 : decode cL_hands 602 = .ok (.invokevirtual 78, 3) := by decide +kernel
theorem dL_hands_605 : decode cL_hands 605 = .ok (.iconst (-1), 1) := by decide +kernel
theorem dL_hands_606 : decode cL_hands 606 = .ok (.if_icmp .ne 12, 3) := by decide +kernel
theorem dL_hands_609 : decode cL_hands 609 = .ok (.aload_n 0, 1) := by decide +kernel
theorem dL_hands_610 : decode cL_hands 610 = .ok (.iconst 1, 1) := by decide +kernel
theorem dL_hands_611 : decode cL_hands 611 = .ok (.iconst 2, 1) := by decide +kernel
theorem dL_hands_612 : decode cL_hands 612 = .ok (.invokestatic 103, 3) := by decide +kernel
theorem dL_hands_615 : decode cL_hands 615 = .ok (.ifCond .ne 5, 3) := by decide +kernel
theorem dL_hands_618 : decode cL_hands 618 = .ok (.iconst 0, 1) := by decide +kernel
theorem dL_hands_619 : decode cL_hands 619 = .ok (.ireturn, 1) := by decide +kernel
theorem dL_hands_620 : decode cL_hands 620 = .ok (.aload_n 0, 1) := by decide +kernel
theorem dL_hands_621 : decode cL_hands 621 = .ok (.iconst 4, 1) := by decide +kernel
theorem dL_hands_622 : decode cL_hands 622 = .ok (.iconst 1, 1) := by decide +kernel
theorem dL_hands_623 : decode cL_hands 623 = .ok (.iconst 5, 1) := by decide +kernel
theorem dL_hands_624 : decode cL_hands 624 = .ok (.invokevirtual 61, 3) := by decide +kernel
theorem dL_hands_627 : decode cL_hands 627 = .ok (.iconst (-1), 1) := by decide +kernel
theorem dL_hands_628 : decode cL_hands 628 = .ok (.if_icmp .ne 236, 3) := by decide +kernel
theorem dL_hands_631 : decode cL_hands 631 = .ok (.aload_n 0, 1) := by decide +kernel
theorem dL_hands_632 : decode cL_hands 632 = .ok (.iconst 4, 1) := by decide +kernel
theorem dL_hands_633 : decode cL_hands 633 = .ok (.invokevirtual 65, 3) := by decide +kernel
theorem dL_hands_636 : decode cL_hands 636 = .ok (.iconst 5, 1) := by decide +kernel
theorem dL_hands_637 : decode cL_hands 637 = .ok (.if_icmp .ne 227, 3) := by decide +kernel
theorem dL_hands_640 : decode cL_hands 640 = .ok (.aload_n 0, 1) := by decide +kernel
theorem dL_hands_641 : decode cL_hands 641 = .ok (.iconst 1, 1) := by decide +kernel
theorem dL_hands_642 : decode cL_hands 642 = .ok (.iconst 4, 1) := by decide +kernel
theorem dL_hands_643 : decode cL_hands 643 = .ok (.iconst 1, 1) := by decide +kernel
theorem dL_hands_644 : decode cL_hands 644 = .ok (.iconst 3, 1) := by decide +kernel
theorem dL_hands_645 : decode cL_hands 645 = .ok (.iconst 1, 1) := by decide +kernel
theorem dL_hands_646 : decode cL_hands 646 = .ok (.invokestatic 91, 3) := by decide +kernel
theorem dL_hands_649 : decode cL_hands 649 = .ok (.iload_n 1, 1) := by decide +kernel
theorem dL_hands_650 : decode cL_hands 650 = .ok (.if_icmp .ne 214, 3) := by decide +kernel
theorem dL_hands_653 : decode cL_hands 653 = .ok (.aload_n 0, 1) := by decide +kernel
theorem dL_hands_654 : decode cL_hands 654 = .ok (.iconst 4, 1) := by decide +kernel
theorem dL_hands_655 : decode cL_hands 655 = .ok (.iconst 5, 1) := by decide +kernel
theorem dL_hands_656 : decode cL_hands 656 = .ok (.iconst 3, 1) := by decide +kernel
theorem dL_hands_657 : decode cL_hands 657 = .ok (.iconst 1, 1) := by decide +kernel
theorem dL_hands_658 : decode cL_hands 658 = .ok (.invokevirtual 26, 3) := by decide +kernel
theorem dL_hands_661 : decode cL_hands 661 = .ok (.iconst (-1), 1) := by decide +kernel
theorem dL_hands_662 : decode cL_hands 662 = .ok (.if_icmp .ne 202, 3) := by decide +kernel
theorem dL_hands_665 : decode cL_hands 665 = .ok (.aload_n 0, 1) := by decide +kernel
theorem dL_hands_666 : decode cL_hands 666 = .ok (.iconst 4, 1) := by decide +kernel
theorem dL_hands_667 : decode cL_hands 667 = .ok (.iconst 1, 1) := by decide +kernel
theorem dL_hands_668 : decode cL_hands 668 = .ok (.invokestatic 100, 3) := by decide +kernel
theorem dL_hands_671 : decode cL_hands 671 = .ok (.iload_n 1, 1) := by decide +kernel
theorem dL_hands_672 : decode cL_hands 672 = .ok (.if_icmp .ne 192, 3) := by decide +kernel
theorem dL_hands_675 : decode cL_hands 675 = .ok (.aload_n 0, 1) := by decide +kernel
theorem dL_hands_676 : decode cL_hands 676 = .ok (.iconst 4, 1) := by decide +kernel
theorem dL_hands_677 : decode cL_hands 677 = .ok (.iconst 5, 1) := by decide +kernel
theorem dL_hands_678 : decode cL_hands 678 = .ok (.invokestatic 100, 3) := by decide +kernel
theorem dL_hands_681 : decode cL_hands 681 = .ok (.iload_n 1, 1) := by decide +kernel
theorem dL_hands_682 : decode cL_hands 682 = .ok (.if_icmp .ne 182, 3) := by decide +kernel
theorem dL_hands_685 : decode cL_hands 685 = .ok (.aload_n 0, 1) := by decide +kernel
theorem dL_hands_686 : decode cL_hands 686 = .ok (.bipush 11, 2) := by decide +kernel
theorem dL_hands_688 : decode cL_hands 688 = .ok (.iconst 4, 1) := by decide +kernel
theorem dL_hands_689 : decode cL_hands 689 = .ok (.iconst 5, 1) := by decide +kernel
theorem dL_hands_690 : decode cL_hands 690 = .ok (.iconst 0, 1) := by decide +kernel
theorem dL_hands_691 : decode cL_hands 691 = .ok (.iconst 0, 1) := by decide +kernel
theorem dL_hands_692 : decode cL_hands 692 = .ok (.invokestatic 91, 3) := by decide +kernel
theorem dL_hands_695 : decode cL_hands 695 = .ok (.iload_n 1, 1) := by decide +kernel
theorem dL_hands_696 : decode cL_hands 696 = .ok (.if_icmp .ne 168, 3) := by decide +kernel
theorem dL_hands_699 : decode cL_hands 699 = .ok (.aload_n 0, 1) := by decide +kernel
theorem dL_hands_700 : decode cL_hands 700 = .ok (.iconst 4, 1) := by decide +kernel
theorem dL_hands_701 : decode cL_hands 701 = .ok (.iconst 1, 1) := by decide +kernel
theorem dL_hands_702 : decode cL_hands 702 = .ok (.iconst 0, 1) := by decide +kernel
theorem dL_hands_703 : decode cL_hands 703 = .ok (.invokevirtual 61, 3) := by decide +kernel
theorem dL_hands_706 : decode cL_hands 706 = .ok (.iconst 5, 1) := by decide +kernel
theorem dL_hands_707 : decode cL_hands 707 = .ok (.if_icmp .ne 157, 3) := by decide +kernel
theorem dL_hands_710 : decode cL_hands 710 = .ok (.aload_n 0, 1) := by decide +kernel
theorem dL_hands_711 : decode cL_hands 711 = .ok (.iconst 4, 1) := by decide +kernel
theorem dL_hands_712 : decode cL_hands 712 = .ok (.invokevirtual 65, 3) := by decide +kernel
theorem dL_hands_715 : decode cL_hands 715 = .ok (.ifCond .ne 149, 3) := by decide +kernel
theorem dL_hands_718 : decode cL_hands 718 = .ok (.aload_n 0, 1) := by decide +kernel
theorem dL_hands_719 : decode cL_hands 719 = .ok (.iconst 2, 1) := by decide +kernel
theorem dL_hands_720 : decode cL_hands 720 = .ok (.iconst 4, 1) := by decide +kernel
theorem dL_hands_721 : decode cL_hands 721 = .ok (.iconst 5, 1) := by decide +kernel
theorem dL_hands_722 : decode cL_hands 722 = .ok (.iconst 3, 1) := by decide +kernel
theorem dL_hands_723 : decode cL_hands 723 = .ok (.iconst 1, 1) := by decide +kernel
theorem dL_hands_724 : decode cL_hands 724 = .ok (.invokestatic 91, 3) := by decide +kernel
theorem dL_hands_727 : decode cL_hands 727 = .ok (.iload_n 1, 1) := by decide +kernel
theorem dL_hands_728 : decode cL_hands 728 = .ok (.if_icmp .ne 136, 3) := by decide +kernel
theorem dL_hands_731 : decode cL_hands 731 = .ok (.aload_n 0, 1) := by decide +kernel
theorem dL_hands_732 : decode cL_hands 732 = .ok (.iconst 4, 1) := by decide +kernel
theorem dL_hands_733 : decode cL_hands 733 = .ok (.iconst 0, 1) := by decide +kernel
theorem dL_hands_734 : decode cL_hands 734 = .ok (.iconst 3, 1) := by decide +kernel
theorem dL_hands_735 : decode cL_hands 735 = .ok (.iconst 1, 1) := by decide +kernel
theorem dL_hands_736 : decode cL_hands 736 = .ok (.invokevirtual 30, 3) := by decide +kernel
theorem dL_hands_739 : decode cL_hands 739 = .ok (.ifCond .ne 125, 3) := by decide +kernel
theorem dL_hands_742 : decode cL_hands 742 = .ok (.aload_n 0, 1) := by decide +kernel
theorem dL_hands_743 : decode cL_hands 743 = .ok (.iconst 4, 1) := by decide +kernel
theorem dL_hands_744 : decode cL_hands 744 = .ok (.iconst 1, 1) := by decide +kernel
theorem dL_hands_745 : decode cL_hands 745 = .ok (.iconst (-1), 1) := by decide +kernel
theorem dL_hands_746 : decode cL_hands 746 = .ok (.invokevirtual 61, 3) := by decide +kernel
theorem dL_hands_749 : decode cL_hands 749 = .ok (.ifCond .ne 115, 3) := by decide +kernel
theorem dL_hands_752 : decode cL_hands 752 = .ok (.aload_n 0, 1) := by decide +kernel
theorem dL_hands_753 : decode cL_hands 753 = .ok (.iconst 4, 1) := by decide +kernel
theorem dL_hands_754 : decode cL_hands 754 = .ok (.iconst 1, 1) := by decide +kernel
theorem dL_hands_755 : decode cL_hands 755 = .ok (.iconst (-1), 1) := by decide +kernel
theorem dL_hands_756 : decode cL_hands 756 = .ok (.invokevirtual 61, 3) := by decide +kernel
theorem dL_hands_759 : decode cL_hands 759 = .ok (.iconst (-1), 1) := by decide +kernel
theorem dL_hands_760 : decode cL_hands 760 = .ok (.if_icmp .ne 104, 3) := by decide +kernel
theorem dL_hands_763 : decode cL_hands 763 = .ok (.aload_n 0, 1) := by decide +kernel
theorem dL_hands_764 : decode cL_hands 764 = .ok (.iconst 4, 1) := by decide +kernel
theorem dL_hands_765 : decode cL_hands 765 = .ok (.invokevirtual 65, 3) := by decide +kernel
theorem dL_hands_768 : decode cL_hands 768 = .ok (.iconst 1, 1) := by decide +kernel
theorem dL_hands_769 : decode cL_hands 769 = .ok (.if_icmp .ne 95, 3) := by decide +kernel
theorem dL_hands_772 : decode cL_hands 772 = .ok (.aload_n 0, 1) := by decide +kernel
theorem dL_hands_773 : decode cL_hands 773 = .ok (.iconst 4, 1) := by decide +kernel
theorem dL_hands_774 : decode cL_hands 774 = .ok (.iconst 0, 1) := by decide +kernel
theorem dL_hands_775 : decode cL_hands 775 = .ok (.invokestatic 100, 3) := by decide +kernel
theorem dL_hands_778 : decode cL_hands 778 = .ok (.iload_n 1, 1) := by decide +kernel
theorem dL_hands_779 : decode cL_hands 779 = .ok (.if_icmp .ne 85, 3) := by decide +kernel
theorem dL_hands_782 : decode cL_hands 782 = .ok (.aload_n 0, 1) := by decide +kernel
theorem dL_hands_783 : decode cL_hands 783 = .ok (.iconst 4, 1) := by decide +kernel
theorem dL_hands_784 : decode cL_hands 784 = .ok (.iconst 1, 1) := by decide +kernel
theorem dL_hands_785 : decode cL_hands 785 = .ok (.invokestatic 100, 3) := by decide +kernel
theorem dL_hands_788 : decode cL_hands 788 = .ok (.ifCond .ne 76, 3) := by decide +kernel
theorem dL_hands_791 : decode cL_hands 791 = .ok (.aload_n 0, 1) := by decide +kernel
theorem dL_hands_792 : decode cL_hands 792 = .ok (.iconst 4, 1) := by decide +kernel
theorem dL_hands_793 : decode cL_hands 793 = .ok (.iconst 1, 1) := by decide +kernel
theorem dL_hands_794 : decode cL_hands 794 = .ok (.invokestatic 100, 3) := by decide +kernel
theorem dL_hands_797 : decode cL_hands 797 = .ok (.iload_n 1, 1) := by decide +kernel
theorem dL_hands_798 : decode cL_hands 798 = .ok (.if_icmp .ne 66, 3) := by decide +kernel
theorem dL_hands_801 : decode cL_hands 801 = .ok (.aload_n 0, 1) := by decide +kernel
theorem dL_hands_802 : decode cL_hands 802 = .ok (.iconst 4, 1) := by decide +kernel
theorem dL_hands_803 : decode cL_hands 803 = .ok (.invokevirtual 65, 3) := by decide +kernel
theorem dL_hands_806 : decode cL_hands 806 = .ok (.iconst (-1), 1) := by decide +kernel
theorem dL_hands_807 : decode cL_hands 807 = .ok (.if_icmp .ne 57, 3) := by decide +kernel
theorem dL_hands_810 : decode cL_hands 810 = .ok (.aload_n 0, 1) := by decide +kernel
theorem dL_hands_811 : decode cL_hands 811 = .ok (.iconst 3, 1) := by decide +kernel
theorem dL_hands_812 : decode cL_hands 812 = .ok (.iconst 4, 1) := by decide +kernel
theorem dL_hands_813 : decode cL_hands 813 = .ok (.iconst 1, 1) := by decide +kernel
theorem dL_hands_814 : decode cL_hands 814 = .ok (.iconst 0, 1) := by decide +kernel
theorem dL_hands_815 : decode cL_hands 815 = .ok (.iconst 1, 1) := by decide +kernel
theorem dL_hands_816 : decode cL_hands 816 = .ok (.invokestatic 91, 3) := by decide +kernel
theorem dL_hands_819 : decode cL_hands 819 = .ok (.iload_n 1, 1) := by decide +kernel
theorem dL_hands_820 : decode cL_hands 820 = .ok (.if_icmp .ne 44, 3) := by decide +kernel
theorem dL_hands_823 : decode cL_hands 823 = .ok (.aload_n 0, 1) := by decide +kernel
theorem dL_hands_824 : decode cL_hands 824 = .ok (.iconst 4, 1) := by decide +kernel
theorem dL_hands_825 : decode cL_hands 825 = .ok (.iconst 5, 1) := by decide +kernel
theorem dL_hands_826 : decode cL_hands 826 = .ok (.invokestatic 97, 3) := by decide +kernel
theorem dL_hands_829 : decode cL_hands 829 = .ok (.ifCond .ne 35, 3) := by decide +kernel
theorem dL_hands_832 : decode cL_hands 832 = .ok (.aload_n 0, 1) := by decide +kernel
theorem dL_hands_833 : decode cL_hands 833 = .ok (.iconst 4, 1) := by decide +kernel
theorem dL_hands_834 : decode cL_hands 834 = .ok (.invokevirtual 65, 3) := by decide +kernel
theorem dL_hands_837 : decode cL_hands 837 = .ok (.iconst 5, 1) := by decide +kernel
theorem dL_hands_838 : decode cL_hands 838 = .ok (.if_icmp .ne 26, 3) := by decide +kernel
theorem dL_hands_841 : decode cL_hands 841 = .ok (.aload_n 0, 1) := by decide +kernel
theorem dL_hands_842 : decode cL_hands 842 = .ok (.iconst 4, 1) := by decide +kernel
theorem dL_hands_843 : decode cL_hands 843 = .ok (.iconst 3, 1) := by decide +kernel
theorem dL_hands_844 : decode cL_hands 844 = .ok (.invokevirtual 37, 3) := by decide +kernel
theorem dL_hands_847 : decode cL_hands 847 = .ok (.iconst 1, 1) := by decide +kernel
theorem dL_hands_848 : decode cL_hands 848 = .ok (.if_icmp .ne 16, 3) := by decide +kernel
theorem dL_hands_851 : decode cL_hands 851 = .ok (.aload_n 0, 1) := by decide +kernel
theorem dL_hands_852 : decode cL_hands 852 = .ok (.iconst 1, 1) := by decide +kernel
theorem dL_hands_853 : decode cL_hands 853 = .ok (.iconst 2, 1) := by decide +kernel
theorem dL_hands_854 : decode cL_hands 854 = .ok (.invokestatic 103, 3) := by decide +kernel
theorem dL_hands_857 : decode cL_hands 857 = .ok (.ifCond .eq 7, 3) := by decide +kernel
theorem dL_hands_860 : decode cL_hands 860 = .ok (.iconst 1, 1) := by decide +kernel
theorem dL_hands_861 : decode cL_hands 861 = .ok (.goto 4, 3) := by decide +kernel
theorem dL_hands_864 : decode cL_hands 864 = .ok (.iconst 0, 1) := by decide +kernel
theorem dL_hands_865 : decode cL_hands 865 = .ok (.ireturn, 1) := by decide +kernel
theorem dL_law_0 : decode cL_law 0 = .ok (.invokestatic 111, 3) := by decide +kernel
theorem dL_law_3 : decode cL_law 3 = .ok (.ifCond .eq 15, 3) := by decide +kernel
theorem dL_law_6 : decode cL_law 6 = .ok (.invokestatic 115, 3) := by decide +kernel
theorem dL_law_9 : decode cL_law 9 = .ok (.ifCond .eq 9, 3) := by decide +kernel
theorem dL_law_12 : decode cL_law 12 = .ok (.invokestatic 118, 3) := by decide +kernel
theorem dL_law_15 : decode cL_law 15 = .ok (.ifCond .ne 5, 3) := by decide +kernel
theorem dL_law_18 : decode cL_law 18 = .ok (.iconst 0, 1) := by decide +kernel
theorem dL_law_19 : decode cL_law 19 = .ok (.ireturn, 1) := by decide +kernel
theorem dL_law_20 : decode cL_law 20 = .ok (.new 8, 3) := by decide +kernel
theorem dL_law_23 : decode cL_law 23 = .ok (.dup, 1) := by decide +kernel
theorem dL_law_24 : decode cL_law 24 = .ok (.invokespecial 102, 3) := by decide +kernel
theorem dL_law_27 : decode cL_law 27 = .ok (.astore_n 1, 1) := by decide +kernel
theorem dL_law_28 : decode cL_law 28 = .ok (.aload_n 1, 1) := by decide +kernel
theorem dL_law_29 : decode cL_law 29 = .ok (.invokevirtual 22, 3) := by decide +kernel
theorem dL_law_32 : decode cL_law 32 = .ok (.ifCond .ne 24, 3) := by decide +kernel
theorem dL_law_35 : decode cL_law 35 = .ok (.aload_n 1, 1) := by decide +kernel
theorem dL_law_36 : decode cL_law 36 = .ok (.iconst 0, 1) := by decide +kernel
theorem dL_law_37 : decode cL_law 37 = .ok (.iconst 5, 1) := by decide +kernel
theorem dL_law_38 : decode cL_law 38 = .ok (.invokestatic 97, 3) := by decide +kernel
theorem dL_law_41 : decode cL_law 41 = .ok (.ifCond .ne 15, 3) := by decide +kernel
theorem dL_law_44 : decode cL_law 44 = .ok (.aload_n 1, 1) := by decide +kernel
theorem dL_law_45 : decode cL_law 45 = .ok (.iconst 0, 1) := by decide +kernel
theorem dL_law_46 : decode cL_law 46 = .ok (.iconst 5, 1) := by decide +kernel
theorem dL_law_47 : decode cL_law 47 = .ok (.bipush 12, 2) := by decide +kernel
theorem dL_law_49 : decode cL_law 49 = .ok (.iconst 1, 1) := by decide +kernel
theorem dL_law_50 : decode cL_law 50 = .ok (.invokevirtual 30, 3) := by decide +kernel
theorem dL_law_53 : decode cL_law 53 = .ok (.ifCond .eq 5, 3) := by decide +kernel
theorem dL_law_56 : decode cL_law 56 = .ok (.iconst 0, 1) := by decide +kernel
theorem dL_law_57 : decode cL_law 57 = .ok (.ireturn, 1) := by decide +kernel
theorem dL_law_58 : decode cL_law 58 = .ok (.iconst 0, 1) := by decide +kernel
theorem dL_law_59 : decode cL_law 59 = .ok (.istore_n 2, 1) := by decide +kernel
theorem dL_law_60 : decode cL_law 60 = .ok (.iload_n 2, 1) := by decide +kernel
theorem dL_law_61 : decode cL_law 61 = .ok (.bipush 31, 2) := by decide +kernel
theorem dL_law_63 : decode cL_law 63 = .ok (.if_icmp .ge 87, 3) := by decide +kernel
theorem dL_law_66 : decode cL_law 66 = .ok (.aload_n 1, 1) := by decide +kernel
theorem dL_law_67 : decode cL_law 67 = .ok (.bipush 13, 2) := by decide +kernel
theorem dL_law_69 : decode cL_law 69 = .ok (.iconst 0, 1) := by decide +kernel
theorem dL_law_70 : decode cL_law 70 = .ok (.iconst 0, 1) := by decide +kernel
theorem dL_law_71 : decode cL_law 71 = .ok (.iconst 0, 1) := by decide +kernel
theorem dL_law_72 : decode cL_law 72 = .ok (.iconst 0, 1) := by decide +kernel
theorem dL_law_73 : decode cL_law 73 = .ok (.invokestatic 91, 3) := by decide +kernel
theorem dL_law_76 : decode cL_law 76 = .ok (.iload_n 2, 1) := by decide +kernel
theorem dL_law_77 : decode cL_law 77 = .ok (.bipush 20, 2) := by decide +kernel
theorem dL_law_79 : decode cL_law 79 = .ok (.if_icmp .ge 7, 3) := by decide +kernel
theorem dL_law_82 : decode cL_law 82 = .ok (.iload_n 2, 1) := by decide +kernel
theorem dL_law_83 : decode cL_law 83 = .ok (.goto 5, 3) := by decide +kernel
theorem dL_law_86 : decode cL_law 86 = .ok (.bipush (-73), 2) := by decide +kernel
theorem dL_law_88 : decode cL_law 88 = .ok (.if_icmp .ne 54, 3) := by decide +kernel
theorem dL_law_91 : decode cL_law 91 = .ok (.aload_n 1, 1) := by decide +kernel
theorem dL_law_92 : decode cL_law 92 = .ok (.bipush 15, 2) := by decide +kernel
theorem dL_law_94 : decode cL_law 94 = .ok (.iconst 0, 1) := by decide +kernel
theorem dL_law_95 : decode cL_law 95 = .ok (.iconst 0, 1) := by decide +kernel
theorem dL_law_96 : decode cL_law 96 = .ok (.iconst 0, 1) := by decide +kernel
theorem dL_law_97 : decode cL_law 97 = .ok (.iconst 0, 1) := by decide +kernel
theorem dL_law_98 : decode cL_law 98 = .ok (.invokestatic 91, 3) := by decide +kernel
theorem dL_law_101 : decode cL_law 101 = .ok (.iload_n 2, 1) := by decide +kernel
theorem dL_law_102 : decode cL_law 102 = .ok (.bipush 30, 2) := by decide +kernel
theorem dL_law_104 : decode cL_law 104 = .ok (.if_icmp .ge 7, 3) := by decide +kernel
theorem dL_law_107 : decode cL_law 107 = .ok (.iload_n 2, 1) := by decide +kernel
theorem dL_law_108 : decode cL_law 108 = .ok (.goto 5, 3) := by decide +kernel
theorem dL_law_111 : decode cL_law 111 = .ok (.bipush (-73), 2) := by decide +kernel
theorem dL_law_113 : decode cL_law 113 = .ok (.if_icmp .ne 29, 3) := by decide +kernel
theorem dL_law_116 : decode cL_law 116 = .ok (.iload_n 2, 1) := by decide +kernel
theorem dL_law_117 : decode cL_law 117 = .ok (.bipush 30, 2) := by decide +kernel
theorem dL_law_119 : decode cL_law 119 = .ok (.if_icmp .ge 25, 3) := by decide +kernel
theorem dL_law_122 : decode cL_law 122 = .ok (.aload_n 1, 1) := by decide +kernel
theorem dL_law_123 : decode cL_law 123 = .ok (.iload_n 2, 1) := by decide +kernel
theorem dL_law_124 : decode cL_law 124 = .ok (.invokevirtual 78, 3) := by decide +kernel
theorem dL_law_127 : decode cL_law 127 = .ok (.iload_n 2, 1) := by decide +kernel
theorem dL_law_128 : decode cL_law 128 = .ok (.bipush 20, 2) := by decide +kernel
theorem dL_law_130 : decode cL_law 130 = .ok (.if_icmp .ge 7, 3) := by decide +kernel
theorem dL_law_133 : decode cL_law 133 = .ok (.iload_n 2, 1) := by decide +kernel
theorem dL_law_134 : decode cL_law 134 = .ok (.goto 5, 3) := by decide +kernel
theorem dL_law_137 : decode cL_law 137 = .ok (.bipush 19, 2) := by decide +kernel
theorem dL_law_139 : decode cL_law 139 = .ok (.if_icmp .eq 5, 3) := by decide +kernel
theorem dL_law_142 : decode cL_law 142 = .ok (.iconst 0, 1) := by decide +kernel
theorem dL_law_143 : decode cL_law 143 = .ok (.ireturn, 1) := by decide +kernel
theorem dL_law_144 : decode cL_law 144 = .ok (.iinc 2 1, 3) := by decide +kernel
theorem dL_law_147 : decode cL_law 147 = .ok (.goto (-87), 3) := by decide +kernel
theorem dL_law_150 : decode cL_law 150 = .ok (.iconst 0, 1) := by decide +kernel
theorem dL_law_151 : decode cL_law 151 = .ok (.istore_n 2, 1) := by decide +kernel
theorem dL_law_152 : decode cL_law 152 = .ok (.iload_n 2, 1) := by decide +kernel
theorem dL_law_153 : decode cL_law 153 = .ok (.bipush 30, 2) := by decide +kernel
theorem dL_law_155 : decode cL_law 155 = .ok (.if_icmp .ge 138, 3) := by decide +kernel
theorem dL_law_158 : decode cL_law 158 = .ok (.aload_n 0, 1) := by decide +kernel
theorem dL_law_159 : decode cL_law 159 = .ok (.arraylength, 1) := by decide +kernel
theorem dL_law_160 : decode cL_law 160 = .ok (.ifCond .ne 10, 3) := by decide +kernel
theorem dL_law_163 : decode cL_law 163 = .ok (.bipush 61, 2) := by decide +kernel
theorem dL_law_165 : decode cL_law 165 = .ok (.iload_n 2, 1) := by decide +kernel
theorem dL_law_166 : decode cL_law 166 = .ok (.imul, 1) := by decide +kernel
theorem dL_law_167 : decode cL_law 167 = .ok (.goto 12, 3) := by decide +kernel
theorem dL_law_170 : decode cL_law 170 = .ok (.aload_n 0, 1) := by decide +kernel
theorem dL_law_171 : decode cL_law 171 = .ok (.iload_n 2, 1) := by decide +kernel
theorem dL_law_172 : decode cL_law 172 = .ok (.aload_n 0, 1) := by decide +kernel
theorem dL_law_173 : decode cL_law 173 = .ok (.arraylength, 1) := by decide +kernel
theorem dL_law_174 : decode cL_law 174 = .ok (.irem, 1) := by decide +kernel
theorem dL_law_175 : decode cL_law 175 = .ok (.iaload, 1) := by decide +kernel
theorem dL_law_176 : decode cL_law 176 = .ok (.bipush 8, 2) := by decide +kernel
theorem dL_law_178 : decode cL_law 178 = .ok (.iushr, 1) := by decide +kernel
theorem dL_law_179 : decode cL_law 179 = .ok (.istore_n 3, 1) := by decide +kernel
theorem dL_law_180 : decode cL_law 180 = .ok (.aload_n 1, 1) := by decide +kernel
theorem dL_law_181 : decode cL_law 181 = .ok (.iconst 0, 1) := by decide +kernel
theorem dL_law_182 : decode cL_law 182 = .ok (.iload_n 3, 1) := by decide +kernel
theorem dL_law_183 : decode cL_law 183 = .ok (.bipush 40, 2) := by decide +kernel
theorem dL_law_185 : decode cL_law 185 = .ok (.irem, 1) := by decide +kernel
theorem dL_law_186 : decode cL_law 186 = .ok (.invokevirtual 37, 3) := by decide +kernel
theorem dL_law_189 : decode cL_law 189 = .ok (.istore 4, 2) := by decide +kernel
theorem dL_law_191 : decode cL_law 191 = .ok (.aload_n 1, 1) := by decide +kernel
theorem dL_law_192 : decode cL_law 192 = .ok (.iconst 0, 1) := by decide +kernel
theorem dL_law_193 : decode cL_law 193 = .ok (.iconst 5, 1) := by decide +kernel
theorem dL_law_194 : decode cL_law 194 = .ok (.iload_n 3, 1) := by decide +kernel
theorem dL_law_195 : decode cL_law 195 = .ok (.bipush 40, 2) := by decide +kernel
theorem dL_law_197 : decode cL_law 197 = .ok (.irem, 1) := by decide +kernel
theorem dL_law_198 : decode cL_law 198 = .ok (.iload_n 3, 1) := by decide +kernel
theorem dL_law_199 : decode cL_law 199 = .ok (.bipush 40, 2) := by decide +kernel
theorem dL_law_201 : decode cL_law 201 = .ok (.idiv, 1) := by decide +kernel
theorem dL_law_202 : decode cL_law 202 = .ok (.iconst 4, 1) := by decide +kernel
theorem dL_law_203 : decode cL_law 203 = .ok (.irem, 1) := by decide +kernel
theorem dL_law_204 : decode cL_law 204 = .ok (.iconst 1, 1) := by decide +kernel
theorem dL_law_205 : decode cL_law 205 = .ok (.isub, 1) := by decide +kernel
theorem dL_law_206 : decode cL_law 206 = .ok (.invokevirtual 26, 3) := by decide +kernel
theorem dL_law_209 : decode cL_law 209 = .ok (.iload 4, 2) := by decide +kernel
theorem dL_law_211 : decode cL_law 211 = .ok (.if_icmp .ne 74, 3) := by decide +kernel
theorem dL_law_214 : decode cL_law 214 = .ok (.aload_n 1, 1) := by decide +kernel
theorem dL_law_215 : decode cL_law 215 = .ok (.iconst 0, 1) := by decide +kernel
theorem dL_law_216 : decode cL_law 216 = .ok (.iload_n 3, 1) := by decide +kernel
theorem dL_law_217 : decode cL_law 217 = .ok (.bipush 40, 2) := by decide +kernel
theorem dL_law_219 : decode cL_law 219 = .ok (.irem, 1) := by decide +kernel
theorem dL_law_220 : decode cL_law 220 = .ok (.invokevirtual 37, 3) := by decide +kernel
theorem dL_law_223 : decode cL_law 223 = .ok (.iload_n 3, 1) := by decide +kernel
theorem dL_law_224 : decode cL_law 224 = .ok (.bipush 40, 2) := by decide +kernel
theorem dL_law_226 : decode cL_law 226 = .ok (.idiv, 1) := by decide +kernel
theorem dL_law_227 : decode cL_law 227 = .ok (.iconst 4, 1) := by decide +kernel
theorem dL_law_228 : decode cL_law 228 = .ok (.irem, 1) := by decide +kernel
theorem dL_law_229 : decode cL_law 229 = .ok (.iconst 1, 1) := by decide +kernel
theorem dL_law_230 : decode cL_law 230 = .ok (.isub, 1) := by decide +kernel
theorem dL_law_231 : decode cL_law 231 = .ok (.if_icmp .ne 54, 3) := by decide +kernel
theorem dL_law_234 : decode cL_law 234 = .ok (.aload_n 1, 1) := by decide +kernel
theorem dL_law_235 : decode cL_law 235 = .ok (.iconst 0, 1) := by decide +kernel
theorem dL_law_236 : decode cL_law 236 = .ok (.iload_n 3, 1) := by decide +kernel
theorem dL_law_237 : decode cL_law 237 = .ok (.bipush 25, 2) := by decide +kernel
theorem dL_law_239 : decode cL_law 239 = .ok (.irem, 1) := by decide +kernel
theorem dL_law_240 : decode cL_law 240 = .ok (.invokevirtual 52, 3) := by decide +kernel
theorem dL_law_243 : decode cL_law 243 = .ok (.iconst 1, 1) := by decide +kernel
theorem dL_law_244 : decode cL_law 244 = .ok (.if_icmp .lt 41, 3) := by decide +kernel
theorem dL_law_247 : decode cL_law 247 = .ok (.aload_n 1, 1) := by decide +kernel
theorem dL_law_248 : decode cL_law 248 = .ok (.iconst 0, 1) := by decide +kernel
theorem dL_law_249 : decode cL_law 249 = .ok (.iload_n 3, 1) := by decide +kernel
theorem dL_law_250 : decode cL_law 250 = .ok (.bipush 25, 2) := by decide +kernel
theorem dL_law_252 : decode cL_law 252 = .ok (.irem, 1) := by decide +kernel
theorem dL_law_253 : decode cL_law 253 = .ok (.invokevirtual 52, 3) := by decide +kernel
theorem dL_law_256 : decode cL_law 256 = .ok (.bipush 26, 2) := by decide +kernel
theorem dL_law_258 : decode cL_law 258 = .ok (.aload_n 1, 1) := by decide +kernel
theorem dL_law_259 : decode cL_law 259 = .ok (.iconst 0, 1) := by decide +kernel
theorem dL_law_260 : decode cL_law 260 = .ok (.invokevirtual 45, 3) := by decide +kernel
theorem dL_law_263 : decode cL_law 263 = .ok (.isub, 1) := by decide +kernel
theorem dL_law_264 : decode cL_law 264 = .ok (.if_icmp .gt 21, 3) := by decide +kernel
theorem dL_law_267 : decode cL_law 267 = .ok (.iload_n 2, 1) := by decide +kernel
theorem dL_law_268 : decode cL_law 268 = .ok (.bipush 8, 2) := by decide +kernel
theorem dL_law_270 : decode cL_law 270 = .ok (.irem, 1) := by decide +kernel
theorem dL_law_271 : decode cL_law 271 = .ok (.ifCond .ne 16, 3) := by decide +kernel
theorem dL_law_274 : decode cL_law 274 = .ok (.aload_n 1, 1) := by decide +kernel
theorem dL_law_275 : decode cL_law 275 = .ok (.bipush 20, 2) := by decide +kernel
theorem dL_law_277 : decode cL_law 277 = .ok (.bipush 30, 2) := by decide +kernel
theorem dL_law_279 : decode cL_law 279 = .ok (.invokestatic 103, 3) := by decide +kernel
theorem dL_law_282 : decode cL_law 282 = .ok (.ifCond .ne 5, 3) := by decide +kernel
theorem dL_law_285 : decode cL_law 285 = .ok (.iconst 0, 1) := by decide +kernel
theorem dL_law_286 : decode cL_law 286 = .ok (.ireturn, 1) := by decide +kernel
theorem dL_law_287 : decode cL_law 287 = .ok (.iinc 2 1, 3) := by decide +kernel
theorem dL_law_290 : decode cL_law 290 = .ok (.goto (-138), 3) := by decide +kernel
theorem dL_law_293 : decode cL_law 293 = .ok (.aload_n 1, 1) := by decide +kernel
theorem dL_law_294 : decode cL_law 294 = .ok (.iconst 0, 1) := by decide +kernel
theorem dL_law_295 : decode cL_law 295 = .ok (.bipush 12, 2) := by decide +kernel
theorem dL_law_297 : decode cL_law 297 = .ok (.invokevirtual 55, 3) := by decide +kernel
theorem dL_law_300 : decode cL_law 300 = .ok (.ifCond .ne 7, 3) := by decide +kernel
theorem dL_law_303 : decode cL_law 303 = .ok (.iconst 1, 1) := by decide +kernel
theorem dL_law_304 : decode cL_law 304 = .ok (.goto 4, 3) := by decide +kernel
theorem dL_law_307 : decode cL_law 307 = .ok (.iconst 0, 1) := by decide +kernel
theorem dL_law_308 : decode cL_law 308 = .ok (.ireturn, 1) := by decide +kernel
