theorem dL_isText_0 : decode cL_isText 0 = .ok (.aload_n 0, 1) := by decide +kernel
theorem dL_isText_1 : decode cL_isText 1 = .ok (.invokevirtual 87, 3) := by decide +kernel
theorem dL_isText_4 : decode cL_isText 4 = .ok (.istore_n 2, 1) := by decide +kernel
theorem dL_isText_5 : decode cL_isText 5 = .ok (.iconst 0, 1) := by decide +kernel
theorem dL_isText_6 : decode cL_isText 6 = .ok (.istore_n 3, 1) := by decide +kernel
theorem dL_isText_7 : decode cL_isText 7 = .ok (.iconst 0, 1) := by decide +kernel
theorem dL_isText_8 : decode cL_isText 8 = .ok (.istore 4, 2) := by decide +kernel
theorem dL_isText_10 : decode cL_isText 10 = .ok (.aload_n 0, 1) := by decide +kernel
theorem dL_isText_11 : decode cL_isText 11 = .ok (.invokevirtual 90, 3) := by decide +kernel
theorem dL_isText_14 : decode cL_isText 14 = .ok (.aload_n 1, 1) := by decide +kernel
theorem dL_isText_15 : decode cL_isText 15 = .ok (.iconst 1, 1) := by decide +kernel
theorem dL_isText_16 : decode cL_isText 16 = .ok (.iaload, 1) := by decide +kernel
theorem dL_isText_17 : decode cL_isText 17 = .ok (.iconst 1, 1) := by decide +kernel
theorem dL_isText_18 : decode cL_isText 18 = .ok (.if_icmp .ne 7, 3) := by decide +kernel
theorem dL_isText_21 : decode cL_isText 21 = .ok (.iconst 1, 1) := by decide +kernel
theorem dL_isText_22 : decode cL_isText 22 = .ok (.goto 4, 3) := by decide +kernel
theorem dL_isText_25 : decode cL_isText 25 = .ok (.iconst 0, 1) := by decide +kernel
theorem dL_isText_26 : decode cL_isText 26 = .ok (.if_icmp .ne 68, 3) := by decide +kernel
theorem dL_isText_29 : decode cL_isText 29 = .ok (.aload_n 0, 1) := by decide +kernel
theorem dL_isText_30 : decode cL_isText 30 = .ok (.iconst 0, 1) := by decide +kernel
theorem dL_isText_31 : decode cL_isText 31 = .ok (.iconst 0, 1) := by decide +kernel
theorem dL_isText_32 : decode cL_isText 32 = .ok (.iconst 0, 1) := by decide +kernel
theorem dL_isText_33 : decode cL_isText 33 = .ok (.invokestatic 94, 3) := by decide +kernel
theorem dL_isText_36 : decode cL_isText 36 = .ok (.aload_n 1, 1) := by decide +kernel
theorem dL_isText_37 : decode cL_isText 37 = .ok (.iconst 1, 1) := by decide +kernel
theorem dL_isText_38 : decode cL_isText 38 = .ok (.iaload, 1) := by decide +kernel
theorem dL_isText_39 : decode cL_isText 39 = .ok (.iconst 1, 1) := by decide +kernel
theorem dL_isText_40 : decode cL_isText 40 = .ok (.if_icmp .ne 8, 3) := by decide +kernel
theorem dL_isText_43 : decode cL_isText 43 = .ok (.bipush (-10), 2) := by decide +kernel
theorem dL_isText_45 : decode cL_isText 45 = .ok (.goto 6, 3) := by decide +kernel
theorem dL_isText_48 : decode cL_isText 48 = .ok (.aload_n 1, 1) := by decide +kernel
theorem dL_isText_49 : decode cL_isText 49 = .ok (.iconst 2, 1) := by decide +kernel
theorem dL_isText_50 : decode cL_isText 50 = .ok (.iaload, 1) := by decide +kernel
theorem dL_isText_51 : decode cL_isText 51 = .ok (.if_icmp .ne 43, 3) := by decide +kernel
theorem dL_isText_54 : decode cL_isText 54 = .ok (.aload_n 0, 1) := by decide +kernel
theorem dL_isText_55 : decode cL_isText 55 = .ok (.iconst 1, 1) := by decide +kernel
theorem dL_isText_56 : decode cL_isText 56 = .ok (.iload_n 2, 1) := by decide +kernel
theorem dL_isText_57 : decode cL_isText 57 = .ok (.iconst 0, 1) := by decide +kernel
theorem dL_isText_58 : decode cL_isText 58 = .ok (.invokestatic 94, 3) := by decide +kernel
theorem dL_isText_61 : decode cL_isText 61 = .ok (.bipush (-30), 2) := by decide +kernel
theorem dL_isText_63 : decode cL_isText 63 = .ok (.if_icmp .ne 31, 3) := by decide +kernel
theorem dL_isText_66 : decode cL_isText 66 = .ok (.aload_n 0, 1) := by decide +kernel
theorem dL_isText_67 : decode cL_isText 67 = .ok (.iconst 2, 1) := by decide +kernel
theorem dL_isText_68 : decode cL_isText 68 = .ok (.iconst (-1), 1) := by decide +kernel
theorem dL_isText_69 : decode cL_isText 69 = .ok (.iconst 0, 1) := by decide +kernel
theorem dL_isText_70 : decode cL_isText 70 = .ok (.invokestatic 94, 3) := by decide +kernel
theorem dL_isText_73 : decode cL_isText 73 = .ok (.bipush (-30), 2) := by decide +kernel
theorem dL_isText_75 : decode cL_isText 75 = .ok (.if_icmp .ne 19, 3) := by decide +kernel
theorem dL_isText_78 : decode cL_isText 78 = .ok (.aload_n 0, 1) := by decide +kernel
theorem dL_isText_79 : decode cL_isText 79 = .ok (.iconst 3, 1) := by decide +kernel
theorem dL_isText_80 : decode cL_isText 80 = .ok (.iload_n 2, 1) := by decide +kernel
theorem dL_isText_81 : decode cL_isText 81 = .ok (.iconst 0, 1) := by decide +kernel
theorem dL_isText_82 : decode cL_isText 82 = .ok (.invokestatic 94, 3) := by decide +kernel
theorem dL_isText_85 : decode cL_isText 85 = .ok (.bipush (-30), 2) := by decide +kernel
theorem dL_isText_87 : decode cL_isText 87 = .ok (.if_icmp .ne 7, 3) := by decide +kernel
theorem dL_isText_90 : decode cL_isText 90 = .ok (.iconst 1, 1) := by decide +kernel
theorem dL_isText_91 : decode cL_isText 91 = .ok (.goto 4, 3) := by decide +kernel
theorem dL_isText_94 : decode cL_isText 94 = .ok (.iconst 0, 1) := by decide +kernel
theorem dL_isText_95 : decode cL_isText 95 = .ok (.istore 5, 2) := by decide +kernel
theorem dL_isText_97 : decode cL_isText 97 = .ok (.iconst 0, 1) := by decide +kernel
theorem dL_isText_98 : decode cL_isText 98 = .ok (.istore 6, 2) := by decide +kernel
theorem dL_isText_100 : decode cL_isText 100 = .ok (.iload 6, 2) := by decide +kernel
theorem dL_isText_102 : decode cL_isText 102 = .ok (.iload_n 2, 1) := by decide +kernel
theorem dL_isText_103 : decode cL_isText 103 = .ok (.if_icmp .ge 193, 3) := by decide +kernel
theorem dL_isText_106 : decode cL_isText 106 = .ok (.iload 5, 2) := by decide +kernel
theorem dL_isText_108 : decode cL_isText 108 = .ok (.ifCond .eq 188, 3) := by decide +kernel
theorem dL_isText_111 : decode cL_isText 111 = .ok (.aload_n 0, 1) := by decide +kernel
theorem dL_isText_112 : decode cL_isText 112 = .ok (.iload 6, 2) := by decide +kernel
theorem dL_isText_114 : decode cL_isText 114 = .ok (.invokevirtual 57, 3) := by decide +kernel
theorem dL_isText_117 : decode cL_isText 117 = .ok (.istore 7, 2) := by decide +kernel
theorem dL_isText_119 : decode cL_isText 119 = .ok (.aload_n 0, 1) := by decide +kernel
theorem dL_isText_120 : decode cL_isText 120 = .ok (.iload 6, 2) := by decide +kernel
theorem dL_isText_122 : decode cL_isText 122 = .ok (.invokevirtual 60, 3) := by decide +kernel
theorem dL_isText_125 : decode cL_isText 125 = .ok (.istore 8, 2) := by decide +kernel
theorem dL_isText_127 : decode cL_isText 127 = .ok (.iload_n 3, 1) := by decide +kernel
theorem dL_isText_128 : decode cL_isText 128 = .ok (.iload 7, 2) := by decide +kernel
theorem dL_isText_130 : decode cL_isText 130 = .ok (.iadd, 1) := by decide +kernel
theorem dL_isText_131 : decode cL_isText 131 = .ok (.istore_n 3, 1) := by decide +kernel
theorem dL_isText_132 : decode cL_isText 132 = .ok (.iload 4, 2) := by decide +kernel
theorem dL_isText_134 : decode cL_isText 134 = .ok (.iload 8, 2) := by decide +kernel
theorem dL_isText_136 : decode cL_isText 136 = .ok (.iadd, 1) := by decide +kernel
theorem dL_isText_137 : decode cL_isText 137 = .ok (.istore 4, 2) := by decide +kernel
theorem dL_isText_139 : decode cL_isText 139 = .ok (.iload 7, 2) := by decide +kernel
theorem dL_isText_141 : decode cL_isText 141 = .ok (.ifCond .le 92, 3) := by decide +kernel
theorem dL_isText_144 : decode cL_isText 144 = .ok (.iload 7, 2) := by decide +kernel
theorem dL_isText_146 : decode cL_isText 146 = .ok (.aload_n 1, 1) := by decide +kernel
theorem dL_isText_147 : decode cL_isText 147 = .ok (.iconst 1, 1) := by decide +kernel
theorem dL_isText_148 : decode cL_isText 148 = .ok (.iaload, 1) := by decide +kernel
theorem dL_isText_149 : decode cL_isText 149 = .ok (.iconst 1, 1) := by decide +kernel
theorem dL_isText_150 : decode cL_isText 150 = .ok (.if_icmp .ne 8, 3) := by decide +kernel
theorem dL_isText_153 : decode cL_isText 153 = .ok (.bipush 70, 2) := by decide +kernel
theorem dL_isText_155 : decode cL_isText 155 = .ok (.goto 6, 3) := by decide +kernel
theorem dL_isText_158 : decode cL_isText 158 = .ok (.sipush 160, 3) := by decide +kernel
theorem dL_isText_161 : decode cL_isText 161 = .ok (.if_icmp .gt 72, 3) := by decide +kernel
theorem dL_isText_164 : decode cL_isText 164 = .ok (.iload 8, 2) := by decide +kernel
theorem dL_isText_166 : decode cL_isText 166 = .ok (.ifCond .le 67, 3) := by decide +kernel
theorem dL_isText_169 : decode cL_isText 169 = .ok (.iload 8, 2) := by decide +kernel
theorem dL_isText_171 : decode cL_isText 171 = .ok (.sipush 140, 3) := by decide +kernel
theorem dL_isText_174 : decode cL_isText 174 = .ok (.if_icmp .gt 59, 3) := by decide +kernel
theorem dL_isText_177 : decode cL_isText 177 = .ok (.iload_n 2, 1) := by decide +kernel
theorem dL_isText_178 : decode cL_isText 178 = .ok (.iconst 1, 1) := by decide +kernel
theorem dL_isText_179 : decode cL_isText 179 = .ok (.if_icmp .eq 23, 3) := by decide +kernel
theorem dL_isText_182 : decode cL_isText 182 = .ok (.iload 7, 2) := by decide +kernel
theorem dL_isText_184 : decode cL_isText 184 = .ok (.aload_n 1, 1) := by decide +kernel
theorem dL_isText_185 : decode cL_isText 185 = .ok (.iconst 1, 1) := by decide +kernel
theorem dL_isText_186 : decode cL_isText 186 = .ok (.iaload, 1) := by decide +kernel
theorem dL_isText_187 : decode cL_isText 187 = .ok (.iconst 1, 1) := by decide +kernel
theorem dL_isText_188 : decode cL_isText 188 = .ok (.if_icmp .ne 8, 3) := by decide +kernel
theorem dL_isText_191 : decode cL_isText 191 = .ok (.bipush 67, 2) := by decide +kernel
theorem dL_isText_193 : decode cL_isText 193 = .ok (.goto 6, 3) := by decide +kernel
theorem dL_isText_196 : decode cL_isText 196 = .ok (.sipush 153, 3) := by decide +kernel
theorem dL_isText_199 : decode cL_isText 199 = .ok (.if_icmp .gt 34, 3) := by decide +kernel
theorem dL_isText_202 : decode cL_isText 202 = .ok (.aload_n 0, 1) := by decide +kernel
theorem dL_isText_203 : decode cL_isText 203 = .ok (.iconst 3, 1) := by decide +kernel
theorem dL_isText_204 : decode cL_isText 204 = .ok (.iload 6, 2) := by decide +kernel
theorem dL_isText_206 : decode cL_isText 206 = .ok (.iload 8, 2) := by decide +kernel
theorem dL_isText_208 : decode cL_isText 208 = .ok (.invokestatic 94, 3) := by decide +kernel
theorem dL_isText_211 : decode cL_isText 211 = .ok (.bipush (-30), 2) := by decide +kernel
theorem dL_isText_213 : decode cL_isText 213 = .ok (.if_icmp .ne 20, 3) := by decide +kernel
theorem dL_isText_216 : decode cL_isText 216 = .ok (.aload_n 0, 1) := by decide +kernel
theorem dL_isText_217 : decode cL_isText 217 = .ok (.iconst 3, 1) := by decide +kernel
theorem dL_isText_218 : decode cL_isText 218 = .ok (.iload 6, 2) := by decide +kernel
theorem dL_isText_220 : decode cL_isText 220 = .ok (.iconst (-1), 1) := by decide +kernel
theorem dL_isText_221 : decode cL_isText 221 = .ok (.invokestatic 94, 3) := by decide +kernel
theorem dL_isText_224 : decode cL_isText 224 = .ok (.bipush (-30), 2) := by decide +kernel
theorem dL_isText_226 : decode cL_isText 226 = .ok (.if_icmp .ne 7, 3) := by decide +kernel
theorem dL_isText_229 : decode cL_isText 229 = .ok (.iconst 1, 1) := by decide +kernel
theorem dL_isText_230 : decode cL_isText 230 = .ok (.goto 4, 3) := by decide +kernel
theorem dL_isText_233 : decode cL_isText 233 = .ok (.iconst 0, 1) := by decide +kernel
theorem dL_isText_234 : decode cL_isText 234 = .ok (.istore 5, 2) := by decide +kernel
theorem dL_isText_236 : decode cL_isText 236 = .ok (.iload 5, 2) := by decide +kernel
theorem dL_isText_238 : decode cL_isText 238 = .ok (.ifCond .eq 49, 3) := by decide +kernel
theorem dL_isText_241 : decode cL_isText 241 = .ok (.aload_n 0, 1) := by decide +kernel
theorem dL_isText_242 : decode cL_isText 242 = .ok (.iconst 3, 1) := by decide +kernel
theorem dL_isText_243 : decode cL_isText 243 = .ok (.iload 6, 2) := by decide +kernel
theorem dL_isText_245 : decode cL_isText 245 = .ok (.iconst 0, 1) := by decide +kernel
theorem dL_isText_246 : decode cL_isText 246 = .ok (.invokestatic 94, 3) := by decide +kernel
theorem dL_isText_249 : decode cL_isText 249 = .ok (.ifCond .lt 38, 3) := by decide +kernel
theorem dL_isText_252 : decode cL_isText 252 = .ok (.aload_n 0, 1) := by decide +kernel
theorem dL_isText_253 : decode cL_isText 253 = .ok (.iconst 3, 1) := by decide +kernel
theorem dL_isText_254 : decode cL_isText 254 = .ok (.iload 6, 2) := by decide +kernel
theorem dL_isText_256 : decode cL_isText 256 = .ok (.iload 8, 2) := by decide +kernel
theorem dL_isText_258 : decode cL_isText 258 = .ok (.iconst 1, 1) := by decide +kernel
theorem dL_isText_259 : decode cL_isText 259 = .ok (.isub, 1) := by decide +kernel
theorem dL_isText_260 : decode cL_isText 260 = .ok (.invokestatic 94, 3) := by decide +kernel
theorem dL_isText_263 : decode cL_isText 263 = .ok (.ifCond .lt 24, 3) := by decide +kernel
theorem dL_isText_266 : decode cL_isText 266 = .ok (.aload_n 0, 1) := by decide +kernel
theorem dL_isText_267 : decode cL_isText 267 = .ok (.iconst 3, 1) := by decide +kernel
theorem dL_isText_268 : decode cL_isText 268 = .ok (.iload 6, 2) := by decide +kernel
theorem dL_isText_270 : decode cL_isText 270 = .ok (.iload 8, 2) := by decide +kernel
theorem dL_isText_272 : decode cL_isText 272 = .ok (.iconst 1, 1) := by decide +kernel
theorem dL_isText_273 : decode cL_isText 273 = .ok (.isub, 1) := by decide +kernel
theorem dL_isText_274 : decode cL_isText 274 = .ok (.invokestatic 94, 3) := by decide +kernel
theorem dL_isText_277 : decode cL_isText 277 = .ok (.sipush 256, 3) := by decide +kernel
theorem dL_isText_280 : decode cL_isText 280 = .ok (.if_icmp .ge 7, 3) := by decide +kernel
theorem dL_isText_283 : decode cL_isText 283 = .ok (.iconst 1, 1) := by decide +kernel
theorem dL_isText_284 : decode cL_isText 284 = .ok (.goto 4, 3) := by decide +kernel
theorem dL_isText_287 : decode cL_isText 287 = .ok (.iconst 0, 1) := by decide +kernel
theorem dL_isText_288 : decode cL_isText 288 = .ok (.istore 5, 2) := by decide +kernel
theorem dL_isText_290 : decode cL_isText 290 = .ok (.iinc 6 1, 3) := by decide +kernel
theorem dL_isText_293 : decode cL_isText 293 = .ok (.goto (-193), 3) := by decide +kernel
theorem dL_isText_296 : decode cL_isText 296 = .ok (.iload 5, 2) := by decide +kernel
theorem dL_isText_298 : decode cL_isText 298 = .ok (.ifCond .eq 98, 3) := by decide +kernel
theorem dL_isText_301 : decode cL_isText 301 = .ok (.iload_n 3, 1) := by decide +kernel
theorem dL_isText_302 : decode cL_isText 302 = .ok (.aload_n 1, 1) := by decide +kernel
theorem dL_isText_303 : decode cL_isText 303 = .ok (.iconst 0, 1) := by decide +kernel
theorem dL_isText_304 : decode cL_isText 304 = .ok (.iaload, 1) := by decide +kernel
theorem dL_isText_305 : decode cL_isText 305 = .ok (.if_icmp .ne 91, 3) := by decide +kernel
theorem dL_isText_308 : decode cL_isText 308 = .ok (.iload_n 2, 1) := by decide +kernel
theorem dL_isText_309 : decode cL_isText 309 = .ok (.ifCond .ne 7, 3) := by decide +kernel
theorem dL_isText_312 : decode cL_isText 312 = .ok (.iconst 1, 1) := by decide +kernel
theorem dL_isText_313 : decode cL_isText 313 = .ok (.goto 4, 3) := by decide +kernel
theorem dL_isText_316 : decode cL_isText 316 = .ok (.iconst 0, 1) := by decide +kernel
theorem dL_isText_317 : decode cL_isText 317 = .ok (.aload_n 1, 1) := by decide +kernel
theorem dL_isText_318 : decode cL_isText 318 = .ok (.iconst 0, 1) := by decide +kernel
theorem dL_isText_319 : decode cL_isText 319 = .ok (.iaload, 1) := by decide +kernel
theorem dL_isText_320 : decode cL_isText 320 = .ok (.ifCond .ne 7, 3) := by decide +kernel
theorem dL_isText_323 : decode cL_isText 323 = .ok (.iconst 1, 1) := by decide +kernel
theorem dL_isText_324 : decode cL_isText 324 = .ok (.goto 4, 3) := by decide +kernel
theorem dL_isText_327 : decode cL_isText 327 = .ok (.iconst 0, 1) := by decide +kernel
theorem dL_isText_328 : decode cL_isText 328 = .ok (.if_icmp .ne 68, 3) := by decide +kernel
theorem dL_isText_331 : decode cL_isText 331 = .ok (.iload_n 2, 1) := by decide +kernel
theorem dL_isText_332 : decode cL_isText 332 = .ok (.bipush 10, 2) := by decide +kernel
theorem dL_isText_334 : decode cL_isText 334 = .ok (.if_icmp .ge 62, 3) := by decide +kernel
theorem dL_isText_337 : decode cL_isText 337 = .ok (.aload_n 1, 1) := by decide +kernel
theorem dL_isText_338 : decode cL_isText 338 = .ok (.iconst 1, 1) := by decide +kernel
theorem dL_isText_339 : decode cL_isText 339 = .ok (.iaload, 1) := by decide +kernel
theorem dL_isText_340 : decode cL_isText 340 = .ok (.iconst 1, 1) := by decide +kernel
theorem dL_isText_341 : decode cL_isText 341 = .ok (.if_icmp .ne 16, 3) := by decide +kernel
theorem dL_isText_344 : decode cL_isText 344 = .ok (.iload 4, 2) := by decide +kernel
theorem dL_isText_346 : decode cL_isText 346 = .ok (.iconst 2, 1) := by decide +kernel
theorem dL_isText_347 : decode cL_isText 347 = .ok (.aload_n 1, 1) := by decide +kernel
theorem dL_isText_348 : decode cL_isText 348 = .ok (.iconst 0, 1) := by decide +kernel
theorem dL_isText_349 : decode cL_isText 349 = .ok (.iaload, 1) := by decide +kernel
theorem dL_isText_350 : decode cL_isText 350 = .ok (.imul, 1) := by decide +kernel
theorem dL_isText_351 : decode cL_isText 351 = .ok (.if_icmp .ne 45, 3) := by decide +kernel
theorem dL_isText_354 : decode cL_isText 354 = .ok (.goto 38, 3) := by decide +kernel
theorem dL_isText_357 : decode cL_isText 357 = .ok (.bipush 8, 2) := by decide +kernel
theorem dL_isText_359 : decode cL_isText 359 = .ok (.iload 4, 2) := by decide +kernel
theorem dL_isText_361 : decode cL_isText 361 = .ok (.imul, 1) := by decide +kernel
theorem dL_isText_362 : decode cL_isText 362 = .ok (.bipush 7, 2) := by decide +kernel
theorem dL_isText_364 : decode cL_isText 364 = .ok (.aload_n 1, 1) := by decide +kernel
theorem dL_isText_365 : decode cL_isText 365 = .ok (.iconst 2, 1) := by decide +kernel
theorem dL_isText_366 : decode cL_isText 366 = .ok (.iaload, 1) := by decide +kernel
theorem dL_isText_367 : decode cL_isText 367 = .ok (.imul, 1) := by decide +kernel
theorem dL_isText_368 : decode cL_isText 368 = .ok (.if_icmp .lt 28, 3) := by decide +kernel
theorem dL_isText_371 : decode cL_isText 371 = .ok (.bipush 8, 2) := by decide +kernel
theorem dL_isText_373 : decode cL_isText 373 = .ok (.iload 4, 2) := by decide +kernel
theorem dL_isText_375 : decode cL_isText 375 = .ok (.imul, 1) := by decide +kernel
theorem dL_isText_376 : decode cL_isText 376 = .ok (.bipush 7, 2) := by decide +kernel
theorem dL_isText_378 : decode cL_isText 378 = .ok (.aload_n 1, 1) := by decide +kernel
theorem dL_isText_379 : decode cL_isText 379 = .ok (.iconst 2, 1) := by decide +kernel
theorem dL_isText_380 : decode cL_isText 380 = .ok (.iaload, 1) := by decide +kernel
theorem dL_isText_381 : decode cL_isText 381 = .ok (.imul, 1) := by decide +kernel
theorem dL_isText_382 : decode cL_isText 382 = .ok (.bipush 8, 2) := by decide +kernel
theorem dL_isText_384 : decode cL_isText 384 = .ok (.iload_n 2, 1) := by decide +kernel
theorem dL_isText_385 : decode cL_isText 385 = .ok (.imul, 1) := by decide +kernel
theorem dL_isText_386 : decode cL_isText 386 = .ok (.iadd, 1) := by decide +kernel
theorem dL_isText_387 : decode cL_isText 387 = .ok (.iconst 1, 1) := by decide +kernel
theorem dL_isText_388 : decode cL_isText 388 = .ok (.iadd, 1) := by decide +kernel
theorem dL_isText_389 : decode cL_isText 389 = .ok (.if_icmp .ge 7, 3) := by decide +kernel
theorem dL_isText_392 : decode cL_isText 392 = .ok (.iconst 1, 1) := by decide +kernel
theorem dL_isText_393 : decode cL_isText 393 = .ok (.goto 4, 3) := by decide +kernel
theorem dL_isText_396 : decode cL_isText 396 = .ok (.iconst 0, 1) := by decide +kernel
theorem dL_isText_397 : decode cL_isText 397 = .ok (.ireturn, 1) := by decide +kernel
theorem dL_isDone_0 : decode cL_isDone 0 = .ok (.aload_n 1, 1) := by decide +kernel
theorem dL_isDone_1 : decode cL_isDone 1 = .ok (.iload_n 2, 1) := by decide +kernel
theorem dL_isDone_2 : decode cL_isDone 2 = .ok (.bipush 40, 2) := by decide +kernel
theorem dL_isDone_4 : decode cL_isDone 4 = .ok (.invokestatic 114, 3) := by decide +kernel
theorem dL_isDone_7 : decode cL_isDone 7 = .ok (.istore 7, 2) := by decide +kernel
theorem dL_isDone_9 : decode cL_isDone 9 = .ok (.aload_n 1, 1) := by decide +kernel
theorem dL_isDone_10 : decode cL_isDone 10 = .ok (.iload_n 2, 1) := by decide +kernel
theorem dL_isDone_11 : decode cL_isDone 11 = .ok (.iconst 1, 1) := by decide +kernel
theorem dL_isDone_12 : decode cL_isDone 12 = .ok (.iadd, 1) := by decide +kernel
theorem dL_isDone_13 : decode cL_isDone 13 = .ok (.sipush 6000, 3) := by decide +kernel
theorem dL_isDone_16 : decode cL_isDone 16 = .ok (.invokestatic 114, 3) := by decide +kernel
theorem dL_isDone_19 : decode cL_isDone 19 = .ok (.istore 8, 2) := by decide +kernel
theorem dL_isDone_21 : decode cL_isDone 21 = .ok (.aload_n 1, 1) := by decide +kernel
theorem dL_isDone_22 : decode cL_isDone 22 = .ok (.iload_n 2, 1) := by decide +kernel
theorem dL_isDone_23 : decode cL_isDone 23 = .ok (.iconst 2, 1) := by decide +kernel
theorem dL_isDone_24 : decode cL_isDone 24 = .ok (.iadd, 1) := by decide +kernel
theorem dL_isDone_25 : decode cL_isDone 25 = .ok (.sipush 7000, 3) := by decide +kernel
theorem dL_isDone_28 : decode cL_isDone 28 = .ok (.invokestatic 114, 3) := by decide +kernel
theorem dL_isDone_31 : decode cL_isDone 31 = .ok (.istore 9, 2) := by decide +kernel
theorem dL_isDone_33 : decode cL_isDone 33 = .ok (.iload 7, 2) := by decide +kernel
theorem dL_isDone_35 : decode cL_isDone 35 = .ok (.bipush 10, 2) := by decide +kernel
theorem dL_isDone_37 : decode cL_isDone 37 = .ok (.if_icmp .ge 75, 3) := by decide +kernel
theorem dL_isDone_40 : decode cL_isDone 40 = .ok (.aload_n 0, 1) := by decide +kernel
theorem dL_isDone_41 : decode cL_isDone 41 = .ok (.aload 6, 2) := by decide +kernel
theorem dL_isDone_43 : decode cL_isDone 43 = .ok (.iload 8, 2) := by decide +kernel
theorem dL_isDone_45 : decode cL_isDone 45 = .ok (.iconst 5, 1) := by decide +kernel
theorem dL_isDone_46 : decode cL_isDone 46 = .ok (.irem, 1) := by decide +kernel
theorem dL_isDone_47 : decode cL_isDone 47 = .ok (.ifCond .ne 12, 3) := by decide +kernel
theorem dL_isDone_50 : decode cL_isDone 50 = .ok (.iload 8, 2) := by decide +kernel
theorem dL_isDone_52 : decode cL_isDone 52 = .ok (.sipush 1001, 3) := by decide +kernel
theorem dL_isDone_55 : decode cL_isDone 55 = .ok (.irem, 1) := by decide +kernel
theorem dL_isDone_56 : decode cL_isDone 56 = .ok (.goto 29, 3) := by decide +kernel
theorem dL_isDone_59 : decode cL_isDone 59 = .ok (.iload 8, 2) := by decide +kernel
theorem dL_isDone_61 : decode cL_isDone 61 = .ok (.iconst 5, 1) := by decide +kernel
theorem dL_isDone_62 : decode cL_isDone 62 = .ok (.irem, 1) := by decide +kernel
theorem dL_isDone_63 : decode cL_isDone 63 = .ok (.iconst 1, 1) := by decide +kernel
theorem dL_isDone_64 : decode cL_isDone 64 = .ok (.if_icmp .ne 15, 3) := by decide +kernel
theorem dL_isDone_67 : decode cL_isDone 67 = .ok (.sipush 128, 3) := by decide +kernel
theorem dL_isDone_70 : decode cL_isDone 70 = .ok (.iload 8, 2) := by decide +kernel
theorem dL_isDone_72 : decode cL_isDone 72 = .ok (.bipush 32, 2) := by decide +kernel
theorem dL_isDone_74 : decode cL_isDone 74 = .ok (.irem, 1) := by decide +kernel
theorem dL_isDone_75 : decode cL_isDone 75 = .ok (.iadd, 1) := by decide +kernel
theorem dL_isDone_76 : decode cL_isDone 76 = .ok (.goto 9, 3) := by decide +kernel
theorem dL_isDone_79 : decode cL_isDone 79 = .ok (.iload 8, 2) := by decide +kernel
theorem dL_isDone_81 : decode cL_isDone 81 = .ok (.sipush 128, 3) := by decide +kernel
theorem dL_isDone_84 : decode cL_isDone 84 = .ok (.irem, 1) := by decide +kernel
theorem dL_isDone_85 : decode cL_isDone 85 = .ok (.iload 9, 2) := by decide +kernel
theorem dL_isDone_87 : decode cL_isDone 87 = .ok (.iconst 3, 1) := by decide +kernel
theorem dL_isDone_88 : decode cL_isDone 88 = .ok (.irem, 1) := by decide +kernel
theorem dL_isDone_89 : decode cL_isDone 89 = .ok (.ifCond .ne 12, 3) := by decide +kernel
theorem dL_isDone_92 : decode cL_isDone 92 = .ok (.iload 9, 2) := by decide +kernel
theorem dL_isDone_94 : decode cL_isDone 94 = .ok (.sipush 203, 3) := by decide +kernel
theorem dL_isDone_97 : decode cL_isDone 97 = .ok (.irem, 1) := by decide +kernel
theorem dL_isDone_98 : decode cL_isDone 98 = .ok (.goto 10, 3) := by decide +kernel
theorem dL_isDone_101 : decode cL_isDone 101 = .ok (.iconst 1, 1) := by decide +kernel
theorem dL_isDone_102 : decode cL_isDone 102 = .ok (.iload 9, 2) := by decide +kernel
theorem dL_isDone_104 : decode cL_isDone 104 = .ok (.bipush 30, 2) := by decide +kernel
theorem dL_isDone_106 : decode cL_isDone 106 = .ok (.irem, 1) := by decide +kernel
theorem dL_isDone_107 : decode cL_isDone 107 = .ok (.iadd, 1) := by decide +kernel
theorem dL_isDone_108 : decode cL_isDone 108 = .ok (.invokestatic 118, 3) := by decide +kernel
theorem dL_isDone_111 : decode cL_isDone 111 = .ok (.ireturn, 1) := by decide +kernel
theorem dL_isDone_112 : decode cL_isDone 112 = .ok (.iload 7, 2) := by decide +kernel
theorem dL_isDone_114 : decode cL_isDone 114 = .ok (.bipush 16, 2) := by decide +kernel
theorem dL_isDone_116 : decode cL_isDone 116 = .ok (.if_icmp .ge 37, 3) := by decide +kernel
theorem dL_isDone_119 : decode cL_isDone 119 = .ok (.aload_n 0, 1) := by decide +kernel
theorem dL_isDone_120 : decode cL_isDone 120 = .ok (.aload_n 3, 1) := by decide +kernel
theorem dL_isDone_121 : decode cL_isDone 121 = .ok (.aload 6, 2) := by decide +kernel
theorem dL_isDone_123 : decode cL_isDone 123 = .ok (.iload 8, 2) := by decide +kernel
theorem dL_isDone_125 : decode cL_isDone 125 = .ok (.bipush 10, 2) := by decide +kernel
theorem dL_isDone_127 : decode cL_isDone 127 = .ok (.irem, 1) := by decide +kernel
theorem dL_isDone_128 : decode cL_isDone 128 = .ok (.iload 9, 2) := by decide +kernel
theorem dL_isDone_130 : decode cL_isDone 130 = .ok (.bipush 20, 2) := by decide +kernel
theorem dL_isDone_132 : decode cL_isDone 132 = .ok (.irem, 1) := by decide +kernel
theorem dL_isDone_133 : decode cL_isDone 133 = .ok (.ifCond .ne 9, 3) := by decide +kernel
theorem dL_isDone_136 : decode cL_isDone 136 = .ok (.sipush 1001, 3) := by decide +kernel
theorem dL_isDone_139 : decode cL_isDone 139 = .ok (.goto 10, 3) := by decide +kernel
theorem dL_isDone_142 : decode cL_isDone 142 = .ok (.iconst 1, 1) := by decide +kernel
theorem dL_isDone_143 : decode cL_isDone 143 = .ok (.iload 9, 2) := by decide +kernel
theorem dL_isDone_145 : decode cL_isDone 145 = .ok (.bipush 90, 2) := by decide +kernel
theorem dL_isDone_147 : decode cL_isDone 147 = .ok (.irem, 1) := by decide +kernel
theorem dL_isDone_148 : decode cL_isDone 148 = .ok (.iadd, 1) := by decide +kernel
theorem dL_isDone_149 : decode cL_isDone 149 = .ok (.invokestatic 122, 3) := by decide +kernel
theorem dL_isDone_152 : decode cL_isDone 152 = .ok (.ireturn, 1) := by decide +kernel
theorem dL_isDone_153 : decode cL_isDone 153 = .ok (.iload 7, 2) := by decide +kernel
theorem dL_isDone_155 : decode cL_isDone 155 = .ok (.bipush 22, 2) := by decide +kernel
theorem dL_isDone_157 : decode cL_isDone 157 = .ok (.if_icmp .ge 36, 3) := by decide +kernel
theorem dL_isDone_160 : decode cL_isDone 160 = .ok (.aload_n 0, 1) := by decide +kernel
theorem dL_isDone_161 : decode cL_isDone 161 = .ok (.aload 4, 2) := by decide +kernel
theorem dL_isDone_163 : decode cL_isDone 163 = .ok (.aload 6, 2) := by decide +kernel
theorem dL_isDone_165 : decode cL_isDone 165 = .ok (.iload 9, 2) := by decide +kernel
theorem dL_isDone_167 : decode cL_isDone 167 = .ok (.bipush 15, 2) := by decide +kernel
theorem dL_isDone_169 : decode cL_isDone 169 = .ok (.irem, 1) := by decide +kernel
theorem dL_isDone_170 : decode cL_isDone 170 = .ok (.ifCond .ne 12, 3) := by decide +kernel
theorem dL_isDone_173 : decode cL_isDone 173 = .ok (.iload 8, 2) := by decide +kernel
theorem dL_isDone_175 : decode cL_isDone 175 = .ok (.sipush 203, 3) := by decide +kernel
theorem dL_isDone_178 : decode cL_isDone 178 = .ok (.irem, 1) := by decide +kernel
theorem dL_isDone_179 : decode cL_isDone 179 = .ok (.goto 10, 3) := by decide +kernel
theorem dL_isDone_182 : decode cL_isDone 182 = .ok (.iconst 1, 1) := by decide +kernel
theorem dL_isDone_183 : decode cL_isDone 183 = .ok (.iload 8, 2) := by decide +kernel
theorem dL_isDone_185 : decode cL_isDone 185 = .ok (.bipush 6, 2) := by decide +kernel
theorem dL_isDone_187 : decode cL_isDone 187 = .ok (.irem, 1) := by decide +kernel
theorem dL_isDone_188 : decode cL_isDone 188 = .ok (.iadd, 1) := by decide +kernel
theorem dL_isDone_189 : decode cL_isDone 189 = .ok (.invokestatic 126, 3) := by decide +kernel
theorem dL_isDone_192 : decode cL_isDone 192 = .ok (.ireturn, 1) := by decide +kernel
theorem dL_isDone_193 : decode cL_isDone 193 = .ok (.iload 7, 2) := by decide +kernel
theorem dL_isDone_195 : decode cL_isDone 195 = .ok (.bipush 29, 2) := by decide +kernel
theorem dL_isDone_197 : decode cL_isDone 197 = .ok (.if_icmp .ge 33, 3) := by decide +kernel
theorem dL_isDone_200 : decode cL_isDone 200 = .ok (.aload_n 0, 1) := by decide +kernel
theorem dL_isDone_201 : decode cL_isDone 201 = .ok (.aload_n 3, 1) := by decide +kernel
theorem dL_isDone_202 : decode cL_isDone 202 = .ok (.aload 4, 2) := by decide +kernel
theorem dL_isDone_204 : decode cL_isDone 204 = .ok (.aload 6, 2) := by decide +kernel
theorem dL_isDone_206 : decode cL_isDone 206 = .ok (.iload 8, 2) := by decide +kernel
theorem dL_isDone_208 : decode cL_isDone 208 = .ok (.iconst 4, 1) := by decide +kernel
theorem dL_isDone_209 : decode cL_isDone 209 = .ok (.irem, 1) := by decide +kernel
theorem dL_isDone_210 : decode cL_isDone 210 = .ok (.iload 9, 2) := by decide +kernel
theorem dL_isDone_212 : decode cL_isDone 212 = .ok (.bipush 9, 2) := by decide +kernel
theorem dL_isDone_214 : decode cL_isDone 214 = .ok (.irem, 1) := by decide +kernel
theorem dL_isDone_215 : decode cL_isDone 215 = .ok (.ifCond .ne 7, 3) := by decide +kernel
theorem dL_isDone_218 : decode cL_isDone 218 = .ok (.iconst 4, 1) := by decide +kernel
theorem dL_isDone_219 : decode cL_isDone 219 = .ok (.goto 7, 3) := by decide +kernel
theorem dL_isDone_222 : decode cL_isDone 222 = .ok (.iload 9, 2) := by decide +kernel
theorem dL_isDone_224 : decode cL_isDone 224 = .ok (.iconst 4, 1) := by decide +kernel
theorem dL_isDone_225 : decode cL_isDone 225 = .ok (.irem, 1) := by decide +kernel
theorem dL_isDone_226 : decode cL_isDone 226 = .ok (.invokestatic 130, 3) := by decide +kernel
theorem dL_isDone_229 : decode cL_isDone 229 = .ok (.ireturn, 1) := by decide +kernel
theorem dL_isDone_230 : decode cL_isDone 230 = .ok (.iload 7, 2) := by decide +kernel
theorem dL_isDone_232 : decode cL_isDone 232 = .ok (.bipush 31, 2) := by decide +kernel
theorem dL_isDone_234 : decode cL_isDone 234 = .ok (.if_icmp .ge 71, 3) := by decide +kernel
theorem dL_isDone_237 : decode cL_isDone 237 = .ok (.iload 8, 2) := by decide +kernel
theorem dL_isDone_239 : decode cL_isDone 239 = .ok (.iconst 4, 1) := by decide +kernel
theorem dL_isDone_240 : decode cL_isDone 240 = .ok (.irem, 1) := by decide +kernel
theorem dL_isDone_241 : decode cL_isDone 241 = .ok (.istore 10, 2) := by decide +kernel
theorem dL_isDone_243 : decode cL_isDone 243 = .ok (.iload 10, 2) := by decide +kernel
theorem dL_isDone_245 : decode cL_isDone 245 = .ok (.iconst 3, 1) := by decide +kernel
theorem dL_isDone_246 : decode cL_isDone 246 = .ok (.if_icmp .ge 21, 3) := by decide +kernel
theorem dL_isDone_249 : decode cL_isDone 249 = .ok (.aload 4, 2) := by decide +kernel
theorem dL_isDone_251 : decode cL_isDone 251 = .ok (.bipush 6, 2) := by decide +kernel
theorem dL_isDone_253 : decode cL_isDone 253 = .ok (.iload 10, 2) := by decide +kernel
theorem dL_isDone_255 : decode cL_isDone 255 = .ok (.iadd, 1) := by decide +kernel
theorem dL_isDone_256 : decode cL_isDone 256 = .ok (.iconst 1, 1) := by decide +kernel
theorem dL_isDone_257 : decode cL_isDone 257 = .ok (.aload 4, 2) := by decide +kernel
theorem dL_isDone_259 : decode cL_isDone 259 = .ok (.bipush 6, 2) := by decide +kernel
theorem dL_isDone_261 : decode cL_isDone 261 = .ok (.iload 10, 2) := by decide +kernel
theorem dL_isDone_263 : decode cL_isDone 263 = .ok (.iadd, 1) := by decide +kernel
theorem dL_isDone_264 : decode cL_isDone 264 = .ok (.iaload, 1) := by decide +kernel
theorem dL_isDone_265 : decode cL_isDone 265 = .ok (.isub, 1) := by decide +kernel
theorem dL_isDone_266 : decode cL_isDone 266 = .ok (.iastore, 1) := by decide +kernel
theorem dL_isDone_267 : decode cL_isDone 267 = .ok (.aload_n 0, 1) := by decide +kernel
theorem dL_isDone_268 : decode cL_isDone 268 = .ok (.iconst 3, 1) := by decide +kernel
theorem dL_isDone_269 : decode cL_isDone 269 = .ok (.iload 10, 2) := by decide +kernel
theorem dL_isDone_271 : decode cL_isDone 271 = .ok (.iconst 0, 1) := by decide +kernel
theorem dL_isDone_272 : decode cL_isDone 272 = .ok (.invokestatic 107, 3) := by decide +kernel
theorem dL_isDone_275 : decode cL_isDone 275 = .ok (.iload 10, 2) := by decide +kernel
theorem dL_isDone_277 : decode cL_isDone 277 = .ok (.iconst 3, 1) := by decide +kernel
theorem dL_isDone_278 : decode cL_isDone 278 = .ok (.if_icmp .ne 8, 3) := by decide +kernel
theorem dL_isDone_281 : decode cL_isDone 281 = .ok (.bipush (-30), 2) := by decide +kernel
theorem dL_isDone_283 : decode cL_isDone 283 = .ok (.goto 13, 3) := by decide +kernel
theorem dL_isDone_286 : decode cL_isDone 286 = .ok (.iconst 1, 1) := by decide +kernel
theorem dL_isDone_287 : decode cL_isDone 287 = .ok (.aload 4, 2) := by decide +kernel
theorem dL_isDone_289 : decode cL_isDone 289 = .ok (.bipush 6, 2) := by decide +kernel
theorem dL_isDone_291 : decode cL_isDone 291 = .ok (.iload 10, 2) := by decide +kernel
theorem dL_isDone_293 : decode cL_isDone 293 = .ok (.iadd, 1) := by decide +kernel
theorem dL_isDone_294 : decode cL_isDone 294 = .ok (.iaload, 1) := by decide +kernel
theorem dL_isDone_295 : decode cL_isDone 295 = .ok (.isub, 1) := by decide +kernel
theorem dL_isDone_296 : decode cL_isDone 296 = .ok (.if_icmp .ne 7, 3) := by decide +kernel
theorem dL_isDone_299 : decode cL_isDone 299 = .ok (.iconst 1, 1) := by decide +kernel
theorem dL_isDone_300 : decode cL_isDone 300 = .ok (.goto 4, 3) := by decide +kernel
theorem dL_isDone_303 : decode cL_isDone 303 = .ok (.iconst 0, 1) := by decide +kernel
theorem dL_isDone_304 : decode cL_isDone 304 = .ok (.ireturn, 1) := by decide +kernel
theorem dL_isDone_305 : decode cL_isDone 305 = .ok (.iload 7, 2) := by decide +kernel
theorem dL_isDone_307 : decode cL_isDone 307 = .ok (.bipush 31, 2) := by decide +kernel
theorem dL_isDone_309 : decode cL_isDone 309 = .ok (.if_icmp .ne 88, 3) := by decide +kernel
theorem dL_isDone_312 : decode cL_isDone 312 = .ok (.iload 8, 2) := by decide +kernel
theorem dL_isDone_314 : decode cL_isDone 314 = .ok (.iconst 4, 1) := by decide +kernel
theorem dL_isDone_315 : decode cL_isDone 315 = .ok (.irem, 1) := by decide +kernel
theorem dL_isDone_316 : decode cL_isDone 316 = .ok (.istore 10, 2) := by decide +kernel
theorem dL_isDone_318 : decode cL_isDone 318 = .ok (.iload 9, 2) := by decide +kernel
theorem dL_isDone_320 : decode cL_isDone 320 = .ok (.bipush 12, 2) := by decide +kernel
theorem dL_isDone_322 : decode cL_isDone 322 = .ok (.irem, 1) := by decide +kernel
theorem dL_isDone_323 : decode cL_isDone 323 = .ok (.istore 11, 2) := by decide +kernel
theorem dL_isDone_325 : decode cL_isDone 325 = .ok (.iload 10, 2) := by decide +kernel
theorem dL_isDone_327 : decode cL_isDone 327 = .ok (.iconst 3, 1) := by decide +kernel
theorem dL_isDone_328 : decode cL_isDone 328 = .ok (.if_icmp .ne 8, 3) := by decide +kernel
theorem dL_isDone_331 : decode cL_isDone 331 = .ok (.bipush (-30), 2) := by decide +kernel
theorem dL_isDone_333 : decode cL_isDone 333 = .ok (.goto 28, 3) := by decide +kernel
theorem dL_isDone_336 : decode cL_isDone 336 = .ok (.iload 11, 2) := by decide +kernel
theorem dL_isDone_338 : decode cL_isDone 338 = .ok (.iconst 1, 1) := by decide +kernel
theorem dL_isDone_339 : decode cL_isDone 339 = .ok (.if_icmp .lt 10, 3) := by decide +kernel
theorem dL_isDone_342 : decode cL_isDone 342 = .ok (.iload 11, 2) := by decide +kernel
theorem dL_isDone_344 : decode cL_isDone 344 = .ok (.bipush 10, 2) := by decide +kernel
theorem dL_isDone_346 : decode cL_isDone 346 = .ok (.if_icmp .le 8, 3) := by decide +kernel
theorem dL_isDone_349 : decode cL_isDone 349 = .ok (.bipush (-20), 2) := by decide +kernel
theorem dL_isDone_351 : decode cL_isDone 351 = .ok (.goto 10, 3) := by decide +kernel
theorem dL_isDone_354 : decode cL_isDone 354 = .ok (.aload 4, 2) := by decide +kernel
theorem dL_isDone_356 : decode cL_isDone 356 = .ok (.iconst 3, 1) := by decide +kernel
theorem dL_isDone_357 : decode cL_isDone 357 = .ok (.iload 10, 2) := by decide +kernel
theorem dL_isDone_359 : decode cL_isDone 359 = .ok (.iadd, 1) := by decide +kernel
theorem dL_isDone_360 : decode cL_isDone 360 = .ok (.iaload, 1) := by decide +kernel
theorem dL_isDone_361 : decode cL_isDone 361 = .ok (.istore 12, 2) := by decide +kernel
theorem dL_isDone_363 : decode cL_isDone 363 = .ok (.iload 12, 2) := by decide +kernel
theorem dL_isDone_365 : decode cL_isDone 365 = .ok (.ifCond .lt 12, 3) := by decide +kernel
theorem dL_isDone_368 : decode cL_isDone 368 = .ok (.aload 4, 2) := by decide +kernel
theorem dL_isDone_370 : decode cL_isDone 370 = .ok (.iconst 3, 1) := by decide +kernel
theorem dL_isDone_371 : decode cL_isDone 371 = .ok (.iload 10, 2) := by decide +kernel
theorem dL_isDone_373 : decode cL_isDone 373 = .ok (.iadd, 1) := by decide +kernel
theorem dL_isDone_374 : decode cL_isDone 374 = .ok (.iload 11, 2) := by decide +kernel
theorem dL_isDone_376 : decode cL_isDone 376 = .ok (.iastore, 1) := by decide +kernel
theorem dL_isDone_377 : decode cL_isDone 377 = .ok (.aload_n 0, 1) := by decide +kernel
theorem dL_isDone_378 : decode cL_isDone 378 = .ok (.iconst 4, 1) := by decide +kernel
theorem dL_isDone_379 : decode cL_isDone 379 = .ok (.iload 10, 2) := by decide +kernel
theorem dL_isDone_381 : decode cL_isDone 381 = .ok (.iload 11, 2) := by decide +kernel
theorem dL_isDone_383 : decode cL_isDone 383 = .ok (.invokestatic 107, 3) := by decide +kernel
theorem dL_isDone_386 : decode cL_isDone 386 = .ok (.iload 12, 2) := by decide +kernel
theorem dL_isDone_388 : decode cL_isDone 388 = .ok (.if_icmp .ne 7, 3) := by decide +kernel
theorem dL_isDone_391 : decode cL_isDone 391 = .ok (.iconst 1, 1) := by decide +kernel
theorem dL_isDone_392 : decode cL_isDone 392 = .ok (.goto 4, 3) := by decide +kernel
theorem dL_isDone_395 : decode cL_isDone 395 = .ok (.iconst 0, 1) := by decide +kernel
theorem dL_isDone_396 : decode cL_isDone 396 = .ok (.ireturn, 1) := by decide +kernel
theorem dL_isDone_397 : decode cL_isDone 397 = .ok (.iload 7, 2) := by decide +kernel
theorem dL_isDone_399 : decode cL_isDone 399 = .ok (.bipush 34, 2) := by decide +kernel
theorem dL_isDone_401 : decode cL_isDone 401 = .ok (.if_icmp .ge 68, 3) := by decide +kernel
theorem dL_isDone_404 : decode cL_isDone 404 = .ok (.aload_n 0, 1) := by decide +kernel
theorem dL_isDone_405 : decode cL_isDone 405 = .ok (.bipush 6, 2) := by decide +kernel
theorem dL_isDone_407 : decode cL_isDone 407 = .ok (.iload 8, 2) := by decide +kernel
theorem dL_isDone_409 : decode cL_isDone 409 = .ok (.bipush 10, 2) := by decide +kernel
theorem dL_isDone_411 : decode cL_isDone 411 = .ok (.irem, 1) := by decide +kernel
theorem dL_isDone_412 : decode cL_isDone 412 = .ok (.iconst 0, 1) := by decide +kernel
theorem dL_isDone_413 : decode cL_isDone 413 = .ok (.invokestatic 107, 3) := by decide +kernel
theorem dL_isDone_416 : decode cL_isDone 416 = .ok (.istore 10, 2) := by decide +kernel
theorem dL_isDone_418 : decode cL_isDone 418 = .ok (.iload 8, 2) := by decide +kernel
theorem dL_isDone_420 : decode cL_isDone 420 = .ok (.bipush 10, 2) := by decide +kernel
theorem dL_isDone_422 : decode cL_isDone 422 = .ok (.irem, 1) := by decide +kernel
theorem dL_isDone_423 : decode cL_isDone 423 = .ok (.bipush 9, 2) := by decide +kernel
theorem dL_isDone_425 : decode cL_isDone 425 = .ok (.if_icmp .ne 18, 3) := by decide +kernel
theorem dL_isDone_428 : decode cL_isDone 428 = .ok (.iload 10, 2) := by decide +kernel
theorem dL_isDone_430 : decode cL_isDone 430 = .ok (.bipush (-20), 2) := by decide +kernel
theorem dL_isDone_432 : decode cL_isDone 432 = .ok (.if_icmp .ne 7, 3) := by decide +kernel
theorem dL_isDone_435 : decode cL_isDone 435 = .ok (.iconst 1, 1) := by decide +kernel
theorem dL_isDone_436 : decode cL_isDone 436 = .ok (.goto 32, 3) := by decide +kernel
theorem dL_isDone_439 : decode cL_isDone 439 = .ok (.iconst 0, 1) := by decide +kernel
theorem dL_isDone_440 : decode cL_isDone 440 = .ok (.goto 28, 3) := by decide +kernel
theorem dL_isDone_443 : decode cL_isDone 443 = .ok (.iload 10, 2) := by decide +kernel
theorem dL_isDone_445 : decode cL_isDone 445 = .ok (.ifCond .lt 22, 3) := by decide +kernel
theorem dL_isDone_448 : decode cL_isDone 448 = .ok (.aload_n 0, 1) := by decide +kernel
theorem dL_isDone_449 : decode cL_isDone 449 = .ok (.bipush 6, 2) := by decide +kernel
theorem dL_isDone_451 : decode cL_isDone 451 = .ok (.iload 8, 2) := by decide +kernel
theorem dL_isDone_453 : decode cL_isDone 453 = .ok (.bipush 10, 2) := by decide +kernel
theorem dL_isDone_455 : decode cL_isDone 455 = .ok (.irem, 1) := by decide +kernel
theorem dL_isDone_456 : decode cL_isDone 456 = .ok (.iconst 0, 1) := by decide +kernel
theorem dL_isDone_457 : decode cL_isDone 457 = .ok (.invokestatic 107, 3) := by decide +kernel
theorem dL_isDone_460 : decode cL_isDone 460 = .ok (.ifCond .ne 7, 3) := by decide +kernel
theorem dL_isDone_463 : decode cL_isDone 463 = .ok (.iconst 1, 1) := by decide +kernel
theorem dL_isDone_464 : decode cL_isDone 464 = .ok (.goto 4, 3) := by decide +kernel
theorem dL_isDone_467 : decode cL_isDone 467 = .ok (.iconst 0, 1) := by decide +kernel
theorem dL_isDone_468 : decode cL_isDone 468 = .ok (.ireturn, 1) := by decide +kernel
theorem dL_isDone_469 : decode cL_isDone 469 = .ok (.iload 7, 2) := by decide +kernel
theorem dL_isDone_471 : decode cL_isDone 471 = .ok (.bipush 38, 2) := by decide +kernel
theorem dL_isDone_473 : decode cL_isDone 473 = .ok (.if_icmp .ge 35, 3) := by decide +kernel
theorem dL_isDone_476 : decode cL_isDone 476 = .ok (.aload_n 0, 1) := by decide +kernel
theorem dL_isDone_477 : decode cL_isDone 477 = .ok (.aload 5, 2) := by decide +kernel
theorem dL_isDone_479 : decode cL_isDone 479 = .ok (.aload 6, 2) := by decide +kernel
theorem dL_isDone_481 : decode cL_isDone 481 = .ok (.iload 8, 2) := by decide +kernel
theorem dL_isDone_483 : decode cL_isDone 483 = .ok (.bipush 10, 2) := by decide +kernel
theorem dL_isDone_485 : decode cL_isDone 485 = .ok (.irem, 1) := by decide +kernel
theorem dL_isDone_486 : decode cL_isDone 486 = .ok (.iload 9, 2) := by decide +kernel
theorem dL_isDone_488 : decode cL_isDone 488 = .ok (.bipush 7, 2) := by decide +kernel
theorem dL_isDone_490 : decode cL_isDone 490 = .ok (.irem, 1) := by decide +kernel
theorem dL_isDone_491 : decode cL_isDone 491 = .ok (.ifCond .ne 9, 3) := by decide +kernel
theorem dL_isDone_494 : decode cL_isDone 494 = .ok (.sipush 1000, 3) := by decide +kernel
theorem dL_isDone_497 : decode cL_isDone 497 = .ok (.goto 7, 3) := by decide +kernel
theorem dL_isDone_500 : decode cL_isDone 500 = .ok (.iload 9, 2) := by decide +kernel
theorem dL_isDone_502 : decode cL_isDone 502 = .ok (.iconst 5, 1) := by decide +kernel
theorem dL_isDone_503 : decode cL_isDone 503 = .ok (.irem, 1) := by decide +kernel
theorem dL_isDone_504 : decode cL_isDone 504 = .ok (.invokestatic 134, 3) := by decide +kernel
theorem dL_isDone_507 : decode cL_isDone 507 = .ok (.ireturn, 1) := by decide +kernel
theorem dL_isDone_508 : decode cL_isDone 508 = .ok (.iload 7, 2) := by decide +kernel
theorem dL_isDone_510 : decode cL_isDone 510 = .ok (.bipush 38, 2) := by decide +kernel
theorem dL_isDone_512 : decode cL_isDone 512 = .ok (.if_icmp .ne 135, 3) := by decide +kernel
theorem dL_isDone_515 : decode cL_isDone 515 = .ok (.iload 8, 2) := by decide +kernel
theorem dL_isDone_517 : decode cL_isDone 517 = .ok (.bipush 6, 2) := by decide +kernel
theorem dL_isDone_519 : decode cL_isDone 519 = .ok (.irem, 1) := by decide +kernel
theorem dL_isDone_520 : decode cL_isDone 520 = .ok (.istore 10, 2) := by decide +kernel
theorem dL_isDone_522 : decode cL_isDone 522 = .ok (.iload 9, 2) := by decide +kernel
theorem dL_isDone_524 : decode cL_isDone 524 = .ok (.bipush 6, 2) := by decide +kernel
theorem dL_isDone_526 : decode cL_isDone 526 = .ok (.irem, 1) := by decide +kernel
theorem dL_isDone_527 : decode cL_isDone 527 = .ok (.iconst 1, 1) := by decide +kernel
theorem dL_isDone_528 : decode cL_isDone 528 = .ok (.isub, 1) := by decide +kernel
theorem dL_isDone_529 : decode cL_isDone 529 = .ok (.istore 11, 2) := by decide +kernel
theorem dL_isDone_531 : decode cL_isDone 531 = .ok (.iload 10, 2) := by decide +kernel
theorem dL_isDone_533 : decode cL_isDone 533 = .ok (.ifCond .le 13, 3) := by decide +kernel
theorem dL_isDone_536 : decode cL_isDone 536 = .ok (.iload 10, 2) := by decide +kernel
theorem dL_isDone_538 : decode cL_isDone 538 = .ok (.iconst 5, 1) := by decide +kernel
theorem dL_isDone_539 : decode cL_isDone 539 = .ok (.if_icmp .ge 7, 3) := by decide +kernel
theorem dL_isDone_542 : decode cL_isDone 542 = .ok (.iconst 1, 1) := by decide +kernel
theorem dL_isDone_543 : decode cL_isDone 543 = .ok (.goto 4, 3) := by decide +kernel
theorem dL_isDone_546 : decode cL_isDone 546 = .ok (.iconst 0, 1) := by decide +kernel
theorem dL_isDone_547 : decode cL_isDone 547 = .ok (.istore 12, 2) := by decide +kernel
theorem dL_isDone_549 : decode cL_isDone 549 = .ok (.iconst 1, 1) := by decide +kernel
theorem dL_isDone_550 : decode cL_isDone 550 = .ok (.istore 13, 2) := by decide +kernel
theorem dL_isDone_552 : decode cL_isDone 552 = .ok (.iload 13, 2) := by decide +kernel
theorem dL_isDone_554 : decode cL_isDone 554 = .ok (.iconst 5, 1) := by decide +kernel
theorem dL_isDone_555 : decode cL_isDone 555 = .ok (.if_icmp .ge 47, 3) := by decide +kernel
theorem dL_isDone_558 : decode cL_isDone 558 = .ok (.iload 12, 2) := by decide +kernel
theorem dL_isDone_560 : decode cL_isDone 560 = .ok (.ifCond .eq 42, 3) := by decide +kernel
theorem dL_isDone_563 : decode cL_isDone 563 = .ok (.aload 5, 2) := by decide +kernel
theorem dL_isDone_565 : decode cL_isDone 565 = .ok (.bipush 18, 2) := by decide +kernel
theorem dL_isDone_567 : decode cL_isDone 567 = .ok (.iload 13, 2) := by decide +kernel
theorem dL_isDone_569 : decode cL_isDone 569 = .ok (.iadd, 1) := by decide +kernel
theorem dL_isDone_570 : decode cL_isDone 570 = .ok (.aload 5, 2) := by decide +kernel
theorem dL_isDone_572 : decode cL_isDone 572 = .ok (.bipush 18, 2) := by decide +kernel
theorem dL_isDone_574 : decode cL_isDone 574 = .ok (.iload 13, 2) := by decide +kernel
theorem dL_isDone_576 : decode cL_isDone 576 = .ok (.iadd, 1) := by decide +kernel
theorem dL_isDone_577 : decode cL_isDone 577 = .ok (.iaload, 1) := by decide +kernel
theorem dL_isDone_578 : decode cL_isDone 578 = .ok (.iload 11, 2) := by decide +kernel
theorem dL_isDone_580 : decode cL_isDone 580 = .ok (.if_icmp .ne 7, 3) := by decide +kernel
theorem dL_isDone_583 : decode cL_isDone 583 = .ok (.iconst (-1), 1) := by decide +kernel
theorem dL_isDone_584 : decode cL_isDone 584 = .ok (.goto 11, 3) := by decide +kernel
theorem dL_isDone_587 : decode cL_isDone 587 = .ok (.aload 5, 2) := by decide +kernel
theorem dL_isDone_589 : decode cL_isDone 589 = .ok (.bipush 18, 2) := by decide +kernel
theorem dL_isDone_591 : decode cL_isDone 591 = .ok (.iload 13, 2) := by decide +kernel
theorem dL_isDone_593 : decode cL_isDone 593 = .ok (.iadd, 1) := by decide +kernel
theorem dL_isDone_594 : decode cL_isDone 594 = .ok (.iaload, 1) := by decide +kernel
theorem dL_isDone_595 : decode cL_isDone 595 = .ok (.iastore, 1) := by decide +kernel
theorem dL_isDone_596 : decode cL_isDone 596 = .ok (.iinc 13 1, 3) := by decide +kernel
theorem dL_isDone_599 : decode cL_isDone 599 = .ok (.goto (-47), 3) := by decide +kernel
theorem dL_isDone_602 : decode cL_isDone 602 = .ok (.iload 12, 2) := by decide +kernel
theorem dL_isDone_604 : decode cL_isDone 604 = .ok (.ifCond .eq 13, 3) := by decide +kernel
theorem dL_isDone_607 : decode cL_isDone 607 = .ok (.aload 5, 2) := by decide +kernel
theorem dL_isDone_609 : decode cL_isDone 609 = .ok (.bipush 18, 2) := by decide +kernel
theorem dL_isDone_611 : decode cL_isDone 611 = .ok (.iload 10, 2) := by decide +kernel
theorem dL_isDone_613 : decode cL_isDone 613 = .ok (.iadd, 1) := by decide +kernel
theorem dL_isDone_614 : decode cL_isDone 614 = .ok (.iload 11, 2) := by decide +kernel
theorem dL_isDone_616 : decode cL_isDone 616 = .ok (.iastore, 1) := by decide +kernel
theorem dL_isDone_617 : decode cL_isDone 617 = .ok (.aload_n 0, 1) := by decide +kernel
theorem dL_isDone_618 : decode cL_isDone 618 = .ok (.bipush 8, 2) := by decide +kernel
theorem dL_isDone_620 : decode cL_isDone 620 = .ok (.iload 10, 2) := by decide +kernel
theorem dL_isDone_622 : decode cL_isDone 622 = .ok (.iload 11, 2) := by decide +kernel
theorem dL_isDone_624 : decode cL_isDone 624 = .ok (.invokestatic 107, 3) := by decide +kernel
theorem dL_isDone_627 : decode cL_isDone 627 = .ok (.iload 12, 2) := by decide +kernel
theorem dL_isDone_629 : decode cL_isDone 629 = .ok (.ifCond .eq 7, 3) := by decide +kernel
theorem dL_isDone_632 : decode cL_isDone 632 = .ok (.iconst 0, 1) := by decide +kernel
theorem dL_isDone_633 : decode cL_isDone 633 = .ok (.goto 5, 3) := by decide +kernel
theorem dL_isDone_636 : decode cL_isDone 636 = .ok (.bipush (-20), 2) := by decide +kernel
theorem dL_isDone_638 : decode cL_isDone 638 = .ok (.if_icmp .ne 7, 3) := by decide +kernel
theorem dL_isDone_641 : decode cL_isDone 641 = .ok (.iconst 1, 1) := by decide +kernel
theorem dL_isDone_642 : decode cL_isDone 642 = .ok (.goto 4, 3) := by decide +kernel
theorem dL_isDone_645 : decode cL_isDone 645 = .ok (.iconst 0, 1) := by decide +kernel
theorem dL_isDone_646 : decode cL_isDone 646 = .ok (.ireturn, 1) := by decide +kernel
theorem dL_isDone_647 : decode cL_isDone 647 = .ok (.aload 6, 2) := by decide +kernel
theorem dL_isDone_649 : decode cL_isDone 649 = .ok (.iconst 0, 1) := by decide +kernel
theorem dL_isDone_650 : decode cL_isDone 650 = .ok (.iaload, 1) := by decide +kernel
theorem dL_isDone_651 : decode cL_isDone 651 = .ok (.istore 10, 2) := by decide +kernel
theorem dL_isDone_653 : decode cL_isDone 653 = .ok (.aload 6, 2) := by decide +kernel
theorem dL_isDone_655 : decode cL_isDone 655 = .ok (.invokestatic 110, 3) := by decide +kernel
theorem dL_isDone_658 : decode cL_isDone 658 = .ok (.aload_n 0, 1) := by decide +kernel
theorem dL_isDone_659 : decode cL_isDone 659 = .ok (.invokevirtual 137, 3) := by decide +kernel
theorem dL_isDone_662 : decode cL_isDone 662 = .ok (.iload 10, 2) := by decide +kernel
theorem dL_isDone_664 : decode cL_isDone 664 = .ok (.if_icmp .ne 7, 3) := by decide +kernel
theorem dL_isDone_667 : decode cL_isDone 667 = .ok (.iconst 1, 1) := by decide +kernel
theorem dL_isDone_668 : decode cL_isDone 668 = .ok (.goto 4, 3) := by decide +kernel
theorem dL_isDone_671 : decode cL_isDone 671 = .ok (.iconst 0, 1) := by decide +kernel
theorem dL_isDone_672 : decode cL_isDone 672 = .ok (.ireturn, 1) := by decide +kernel
theorem dL_law_0 : decode cL_law 0 = .ok (.new 9, 3) := by decide +kernel
theorem dL_law_3 : decode cL_law 3 = .ok (.dup, 1) := by decide +kernel
theorem dL_law_4 : decode cL_law 4 = .ok (.invokespecial 140, 3) := by decide +kernel
theorem dL_law_7 : decode cL_law 7 = .ok (.astore_n 1, 1) := by decide +kernel
theorem dL_law_8 : decode cL_law 8 = .ok (.bipush 60, 2) := by decide +kernel
theorem dL_law_10 : decode cL_law 10 = .ok (.newarray .int, 2) := by decide +kernel
theorem dL_law_12 : decode cL_law 12 = .ok (.astore_n 2, 1) := by decide +kernel
theorem dL_law_13 : decode cL_law 13 = .ok (.bipush 9, 2) := by decide +kernel
theorem dL_law_15 : decode cL_law 15 = .ok (.newarray .int, 2) := by decide +kernel
theorem dL_law_17 : decode cL_law 17 = .ok (.astore_n 3, 1) := by decide +kernel
theorem dL_law_18 : decode cL_law 18 = .ok (.bipush 23, 2) := by decide +kernel
theorem dL_law_20 : decode cL_law 20 = .ok (.newarray .int, 2) := by decide +kernel
theorem dL_law_22 : decode cL_law 22 = .ok (.astore 4, 2) := by decide +kernel
theorem dL_law_24 : decode cL_law 24 = .ok (.bipush 6, 2) := by decide +kernel
theorem dL_law_26 : decode cL_law 26 = .ok (.newarray .int, 2) := by decide +kernel
theorem dL_law_28 : decode cL_law 28 = .ok (.astore 5, 2) := by decide +kernel
theorem dL_law_30 : decode cL_law 30 = .ok (.iconst 0, 1) := by decide +kernel
theorem dL_law_31 : decode cL_law 31 = .ok (.istore 6, 2) := by decide +kernel
theorem dL_law_33 : decode cL_law 33 = .ok (.iload 6, 2) := by decide +kernel
theorem dL_law_35 : decode cL_law 35 = .ok (.iconst 3, 1) := by decide +kernel
theorem dL_law_36 : decode cL_law 36 = .ok (.if_icmp .ge 16, 3) := by decide +kernel
theorem dL_law_39 : decode cL_law 39 = .ok (.aload_n 3, 1) := by decide +kernel
theorem dL_law_40 : decode cL_law 40 = .ok (.iconst 3, 1) := by decide +kernel
theorem dL_law_41 : decode cL_law 41 = .ok (.iload 6, 2) := by decide +kernel
theorem dL_law_43 : decode cL_law 43 = .ok (.iadd, 1) := by decide +kernel
theorem dL_law_44 : decode cL_law 44 = .ok (.iconst 2, 1) := by decide +kernel
theorem dL_law_45 : decode cL_law 45 = .ok (.iastore, 1) := by decide +kernel
theorem dL_law_46 : decode cL_law 46 = .ok (.iinc 6 1, 3) := by decide +kernel
theorem dL_law_49 : decode cL_law 49 = .ok (.goto (-16), 3) := by decide +kernel
theorem dL_law_52 : decode cL_law 52 = .ok (.bipush 18, 2) := by decide +kernel
theorem dL_law_54 : decode cL_law 54 = .ok (.istore 6, 2) := by decide +kernel
theorem dL_law_56 : decode cL_law 56 = .ok (.iload 6, 2) := by decide +kernel
theorem dL_law_58 : decode cL_law 58 = .ok (.bipush 23, 2) := by decide +kernel
theorem dL_law_60 : decode cL_law 60 = .ok (.if_icmp .ge 15, 3) := by decide +kernel
theorem dL_law_63 : decode cL_law 63 = .ok (.aload 4, 2) := by decide +kernel
theorem dL_law_65 : decode cL_law 65 = .ok (.iload 6, 2) := by decide +kernel
theorem dL_law_67 : decode cL_law 67 = .ok (.iconst (-1), 1) := by decide +kernel
theorem dL_law_68 : decode cL_law 68 = .ok (.iastore, 1) := by decide +kernel
theorem dL_law_69 : decode cL_law 69 = .ok (.iinc 6 1, 3) := by decide +kernel
theorem dL_law_72 : decode cL_law 72 = .ok (.goto (-16), 3) := by decide +kernel
theorem dL_law_75 : decode cL_law 75 = .ok (.aload_n 1, 1) := by decide +kernel
theorem dL_law_76 : decode cL_law 76 = .ok (.aload 5, 2) := by decide +kernel
theorem dL_law_78 : decode cL_law 78 = .ok (.invokestatic 141, 3) := by decide +kernel
theorem dL_law_81 : decode cL_law 81 = .ok (.ifCond .eq 28, 3) := by decide +kernel
theorem dL_law_84 : decode cL_law 84 = .ok (.aload_n 1, 1) := by decide +kernel
theorem dL_law_85 : decode cL_law 85 = .ok (.aload_n 2, 1) := by decide +kernel
theorem dL_law_86 : decode cL_law 86 = .ok (.aload 5, 2) := by decide +kernel
theorem dL_law_88 : decode cL_law 88 = .ok (.invokestatic 145, 3) := by decide +kernel
theorem dL_law_91 : decode cL_law 91 = .ok (.ifCond .eq 18, 3) := by decide +kernel
theorem dL_law_94 : decode cL_law 94 = .ok (.aload_n 1, 1) := by decide +kernel
theorem dL_law_95 : decode cL_law 95 = .ok (.aload_n 2, 1) := by decide +kernel
theorem dL_law_96 : decode cL_law 96 = .ok (.aload_n 3, 1) := by decide +kernel
theorem dL_law_97 : decode cL_law 97 = .ok (.aload 5, 2) := by decide +kernel
theorem dL_law_99 : decode cL_law 99 = .ok (.invokestatic 149, 3) := by decide +kernel
theorem dL_law_102 : decode cL_law 102 = .ok (.ifCond .eq 7, 3) := by decide +kernel
theorem dL_law_105 : decode cL_law 105 = .ok (.iconst 1, 1) := by decide +kernel
theorem dL_law_106 : decode cL_law 106 = .ok (.goto 4, 3) := by decide +kernel
theorem dL_law_109 : decode cL_law 109 = .ok (.iconst 0, 1) := by decide +kernel
theorem dL_law_110 : decode cL_law 110 = .ok (.istore 6, 2) := by decide +kernel
theorem dL_law_112 : decode cL_law 112 = .ok (.iconst 0, 1) := by decide +kernel
theorem dL_law_113 : decode cL_law 113 = .ok (.istore 7, 2) := by decide +kernel
theorem dL_law_115 : decode cL_law 115 = .ok (.iload 7, 2) := by decide +kernel
theorem dL_law_117 : decode cL_law 117 = .ok (.bipush 60, 2) := by decide +kernel
theorem dL_law_119 : decode cL_law 119 = .ok (.if_icmp .ge 69, 3) := by decide +kernel
theorem dL_law_122 : decode cL_law 122 = .ok (.iload 6, 2) := by decide +kernel
theorem dL_law_124 : decode cL_law 124 = .ok (.ifCond .eq 64, 3) := by decide +kernel
theorem dL_law_127 : decode cL_law 127 = .ok (.aload_n 1, 1) := by decide +kernel
theorem dL_law_128 : decode cL_law 128 = .ok (.aload_n 0, 1) := by decide +kernel
theorem dL_law_129 : decode cL_law 129 = .ok (.iconst 3, 1) := by decide +kernel
theorem dL_law_130 : decode cL_law 130 = .ok (.iload 7, 2) := by decide +kernel
theorem dL_law_132 : decode cL_law 132 = .ok (.imul, 1) := by decide +kernel
theorem dL_law_133 : decode cL_law 133 = .ok (.aload_n 2, 1) := by decide +kernel
theorem dL_law_134 : decode cL_law 134 = .ok (.aload_n 3, 1) := by decide +kernel
theorem dL_law_135 : decode cL_law 135 = .ok (.aload 4, 2) := by decide +kernel
theorem dL_law_137 : decode cL_law 137 = .ok (.aload 5, 2) := by decide +kernel
theorem dL_law_139 : decode cL_law 139 = .ok (.invokestatic 153, 3) := by decide +kernel
theorem dL_law_142 : decode cL_law 142 = .ok (.ifCond .eq 37, 3) := by decide +kernel
theorem dL_law_145 : decode cL_law 145 = .ok (.aload_n 1, 1) := by decide +kernel
theorem dL_law_146 : decode cL_law 146 = .ok (.aload 5, 2) := by decide +kernel
theorem dL_law_148 : decode cL_law 148 = .ok (.invokestatic 141, 3) := by decide +kernel
theorem dL_law_151 : decode cL_law 151 = .ok (.ifCond .eq 28, 3) := by decide +kernel
theorem dL_law_154 : decode cL_law 154 = .ok (.aload_n 1, 1) := by decide +kernel
theorem dL_law_155 : decode cL_law 155 = .ok (.aload_n 2, 1) := by decide +kernel
theorem dL_law_156 : decode cL_law 156 = .ok (.aload 5, 2) := by decide +kernel
theorem dL_law_158 : decode cL_law 158 = .ok (.invokestatic 145, 3) := by decide +kernel
theorem dL_law_161 : decode cL_law 161 = .ok (.ifCond .eq 18, 3) := by decide +kernel
theorem dL_law_164 : decode cL_law 164 = .ok (.aload_n 1, 1) := by decide +kernel
theorem dL_law_165 : decode cL_law 165 = .ok (.aload_n 2, 1) := by decide +kernel
theorem dL_law_166 : decode cL_law 166 = .ok (.aload_n 3, 1) := by decide +kernel
theorem dL_law_167 : decode cL_law 167 = .ok (.aload 5, 2) := by decide +kernel
theorem dL_law_169 : decode cL_law 169 = .ok (.invokestatic 149, 3) := by decide +kernel
theorem dL_law_172 : decode cL_law 172 = .ok (.ifCond .eq 7, 3) := by decide +kernel
theorem dL_law_175 : decode cL_law 175 = .ok (.iconst 1, 1) := by decide +kernel
theorem dL_law_176 : decode cL_law 176 = .ok (.goto 4, 3) := by decide +kernel
theorem dL_law_179 : decode cL_law 179 = .ok (.iconst 0, 1) := by decide +kernel
theorem dL_law_180 : decode cL_law 180 = .ok (.istore 6, 2) := by decide +kernel
theorem dL_law_182 : decode cL_law 182 = .ok (.iinc 7 1, 3) := by decide +kernel
theorem dL_law_185 : decode cL_law 185 = .ok (.goto (-70), 3) := by decide +kernel
theorem dL_law_188 : decode cL_law 188 = .ok (.iload 6, 2) := by decide +kernel
theorem dL_law_190 : decode cL_law 190 = .ok (.ifCond .eq 121, 3) := by decide +kernel
theorem dL_law_193 : decode cL_law 193 = .ok (.aload_n 1, 1) := by decide +kernel
theorem dL_law_194 : decode cL_law 194 = .ok (.iconst 0, 1) := by decide +kernel
theorem dL_law_195 : decode cL_law 195 = .ok (.iconst (-1), 1) := by decide +kernel
theorem dL_law_196 : decode cL_law 196 = .ok (.iconst 1, 1) := by decide +kernel
theorem dL_law_197 : decode cL_law 197 = .ok (.invokestatic 107, 3) := by decide +kernel
theorem dL_law_200 : decode cL_law 200 = .ok (.bipush (-20), 2) := by decide +kernel
theorem dL_law_202 : decode cL_law 202 = .ok (.if_icmp .ne 109, 3) := by decide +kernel
theorem dL_law_205 : decode cL_law 205 = .ok (.aload_n 1, 1) := by decide +kernel
theorem dL_law_206 : decode cL_law 206 = .ok (.iconst 1, 1) := by decide +kernel
theorem dL_law_207 : decode cL_law 207 = .ok (.iconst (-1), 1) := by decide +kernel
theorem dL_law_208 : decode cL_law 208 = .ok (.iconst 1, 1) := by decide +kernel
theorem dL_law_209 : decode cL_law 209 = .ok (.invokestatic 107, 3) := by decide +kernel
theorem dL_law_212 : decode cL_law 212 = .ok (.bipush (-20), 2) := by decide +kernel
theorem dL_law_214 : decode cL_law 214 = .ok (.if_icmp .ne 97, 3) := by decide +kernel
theorem dL_law_217 : decode cL_law 217 = .ok (.aload_n 1, 1) := by decide +kernel
theorem dL_law_218 : decode cL_law 218 = .ok (.iconst 2, 1) := by decide +kernel
theorem dL_law_219 : decode cL_law 219 = .ok (.iconst 0, 1) := by decide +kernel
theorem dL_law_220 : decode cL_law 220 = .ok (.iconst 0, 1) := by decide +kernel
theorem dL_law_221 : decode cL_law 221 = .ok (.invokestatic 107, 3) := by decide +kernel
theorem dL_law_224 : decode cL_law 224 = .ok (.bipush (-20), 2) := by decide +kernel
theorem dL_law_226 : decode cL_law 226 = .ok (.if_icmp .ne 85, 3) := by decide +kernel
theorem dL_law_229 : decode cL_law 229 = .ok (.aload_n 1, 1) := by decide +kernel
theorem dL_law_230 : decode cL_law 230 = .ok (.iconst 3, 1) := by decide +kernel
theorem dL_law_231 : decode cL_law 231 = .ok (.iconst (-1), 1) := by decide +kernel
theorem dL_law_232 : decode cL_law 232 = .ok (.iconst 0, 1) := by decide +kernel
theorem dL_law_233 : decode cL_law 233 = .ok (.invokestatic 107, 3) := by decide +kernel
theorem dL_law_236 : decode cL_law 236 = .ok (.bipush (-30), 2) := by decide +kernel
theorem dL_law_238 : decode cL_law 238 = .ok (.if_icmp .ne 73, 3) := by decide +kernel
theorem dL_law_241 : decode cL_law 241 = .ok (.aload_n 1, 1) := by decide +kernel
theorem dL_law_242 : decode cL_law 242 = .ok (.iconst 4, 1) := by decide +kernel
theorem dL_law_243 : decode cL_law 243 = .ok (.iconst 3, 1) := by decide +kernel
theorem dL_law_244 : decode cL_law 244 = .ok (.iconst 0, 1) := by decide +kernel
theorem dL_law_245 : decode cL_law 245 = .ok (.invokestatic 107, 3) := by decide +kernel
theorem dL_law_248 : decode cL_law 248 = .ok (.bipush (-30), 2) := by decide +kernel
theorem dL_law_250 : decode cL_law 250 = .ok (.if_icmp .ne 61, 3) := by decide +kernel
theorem dL_law_253 : decode cL_law 253 = .ok (.aload_n 1, 1) := by decide +kernel
theorem dL_law_254 : decode cL_law 254 = .ok (.iconst 5, 1) := by decide +kernel
theorem dL_law_255 : decode cL_law 255 = .ok (.iconst (-1), 1) := by decide +kernel
theorem dL_law_256 : decode cL_law 256 = .ok (.bipush 9, 2) := by decide +kernel
theorem dL_law_258 : decode cL_law 258 = .ok (.invokestatic 107, 3) := by decide +kernel
theorem dL_law_261 : decode cL_law 261 = .ok (.bipush (-30), 2) := by decide +kernel
theorem dL_law_263 : decode cL_law 263 = .ok (.if_icmp .ne 48, 3) := by decide +kernel
theorem dL_law_266 : decode cL_law 266 = .ok (.aload_n 1, 1) := by decide +kernel
theorem dL_law_267 : decode cL_law 267 = .ok (.bipush 6, 2) := by decide +kernel
theorem dL_law_269 : decode cL_law 269 = .ok (.iconst (-1), 1) := by decide +kernel
theorem dL_law_270 : decode cL_law 270 = .ok (.iconst 0, 1) := by decide +kernel
theorem dL_law_271 : decode cL_law 271 = .ok (.invokestatic 107, 3) := by decide +kernel
theorem dL_law_274 : decode cL_law 274 = .ok (.bipush (-20), 2) := by decide +kernel
theorem dL_law_276 : decode cL_law 276 = .ok (.if_icmp .ne 35, 3) := by decide +kernel
theorem dL_law_279 : decode cL_law 279 = .ok (.aload_n 1, 1) := by decide +kernel
theorem dL_law_280 : decode cL_law 280 = .ok (.bipush 7, 2) := by decide +kernel
theorem dL_law_282 : decode cL_law 282 = .ok (.iconst 0, 1) := by decide +kernel
theorem dL_law_283 : decode cL_law 283 = .ok (.iconst (-1), 1) := by decide +kernel
theorem dL_law_284 : decode cL_law 284 = .ok (.invokestatic 107, 3) := by decide +kernel
theorem dL_law_287 : decode cL_law 287 = .ok (.bipush (-20), 2) := by decide +kernel
theorem dL_law_289 : decode cL_law 289 = .ok (.if_icmp .ne 22, 3) := by decide +kernel
theorem dL_law_292 : decode cL_law 292 = .ok (.aload_n 1, 1) := by decide +kernel
theorem dL_law_293 : decode cL_law 293 = .ok (.bipush 8, 2) := by decide +kernel
theorem dL_law_295 : decode cL_law 295 = .ok (.iconst 1, 1) := by decide +kernel
theorem dL_law_296 : decode cL_law 296 = .ok (.sipush 1000, 3) := by decide +kernel
theorem dL_law_299 : decode cL_law 299 = .ok (.invokestatic 107, 3) := by decide +kernel
theorem dL_law_302 : decode cL_law 302 = .ok (.bipush (-20), 2) := by decide +kernel
theorem dL_law_304 : decode cL_law 304 = .ok (.if_icmp .ne 7, 3) := by decide +kernel
theorem dL_law_307 : decode cL_law 307 = .ok (.iconst 1, 1) := by decide +kernel
theorem dL_law_308 : decode cL_law 308 = .ok (.goto 4, 3) := by decide +kernel
theorem dL_law_311 : decode cL_law 311 = .ok (.iconst 0, 1) := by decide +kernel
theorem dL_law_312 : decode cL_law 312 = .ok (.ireturn, 1) := by decide +kernel
