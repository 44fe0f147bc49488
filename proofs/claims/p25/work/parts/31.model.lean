theorem dX9_copy_0 : decode cX9_copy 0 = .ok (.aload_n 0, 1) := by decide +kernel
theorem dX9_copy_1 : decode cX9_copy 1 = .ok (.iconst 0, 1) := by decide +kernel
theorem dX9_copy_2 : decode cX9_copy 2 = .ok (.putfield 147, 3) := by decide +kernel
theorem dX9_copy_5 : decode cX9_copy 5 = .ok (.iload 5, 2) := by decide +kernel
theorem dX9_copy_7 : decode cX9_copy 7 = .ok (.ifCond .lt 10, 3) := by decide +kernel
theorem dX9_copy_10 : decode cX9_copy 10 = .ok (.iload 5, 2) := by decide +kernel
theorem dX9_copy_12 : decode cX9_copy 12 = .ok (.bipush 90, 2) := by decide +kernel
theorem dX9_copy_14 : decode cX9_copy 14 = .ok (.if_icmp .le 7, 3) := by decide +kernel
theorem dX9_copy_17 : decode cX9_copy 17 = .ok (.iconst 1, 1) := by decide +kernel
theorem dX9_copy_18 : decode cX9_copy 18 = .ok (.goto 4, 3) := by decide +kernel
theorem dX9_copy_21 : decode cX9_copy 21 = .ok (.iconst 0, 1) := by decide +kernel
theorem dX9_copy_22 : decode cX9_copy 22 = .ok (.istore 6, 2) := by decide +kernel
theorem dX9_copy_24 : decode cX9_copy 24 = .ok (.aload_n 0, 1) := by decide +kernel
theorem dX9_copy_25 : decode cX9_copy 25 = .ok (.iload 6, 2) := by decide +kernel
theorem dX9_copy_27 : decode cX9_copy 27 = .ok (.aload_n 0, 1) := by decide +kernel
theorem dX9_copy_28 : decode cX9_copy 28 = .ok (.iload_n 1, 1) := by decide +kernel
theorem dX9_copy_29 : decode cX9_copy 29 = .ok (.iload_n 2, 1) := by decide +kernel
theorem dX9_copy_30 : decode cX9_copy 30 = .ok (.invokevirtual 206, 3) := by decide +kernel
theorem dX9_copy_33 : decode cX9_copy 33 = .ok (.invokevirtual 209, 3) := by decide +kernel
theorem dX9_copy_36 : decode cX9_copy 36 = .ok (.istore 6, 2) := by decide +kernel
theorem dX9_copy_38 : decode cX9_copy 38 = .ok (.aload_n 0, 1) := by decide +kernel
theorem dX9_copy_39 : decode cX9_copy 39 = .ok (.iload 6, 2) := by decide +kernel
theorem dX9_copy_41 : decode cX9_copy 41 = .ok (.aload_n 0, 1) := by decide +kernel
theorem dX9_copy_42 : decode cX9_copy 42 = .ok (.iload_n 3, 1) := by decide +kernel
theorem dX9_copy_43 : decode cX9_copy 43 = .ok (.iload 4, 2) := by decide +kernel
theorem dX9_copy_45 : decode cX9_copy 45 = .ok (.invokevirtual 206, 3) := by decide +kernel
theorem dX9_copy_48 : decode cX9_copy 48 = .ok (.invokevirtual 209, 3) := by decide +kernel
theorem dX9_copy_51 : decode cX9_copy 51 = .ok (.istore 6, 2) := by decide +kernel
theorem dX9_copy_53 : decode cX9_copy 53 = .ok (.iload 6, 2) := by decide +kernel
theorem dX9_copy_55 : decode cX9_copy 55 = .ok (.ifCond .eq 10, 3) := by decide +kernel
theorem dX9_copy_58 : decode cX9_copy 58 = .ok (.aload_n 0, 1) := by decide +kernel
theorem dX9_copy_59 : decode cX9_copy 59 = .ok (.iload 6, 2) := by decide +kernel
theorem dX9_copy_61 : decode cX9_copy 61 = .ok (.invokevirtual 168, 3) := by decide +kernel
theorem dX9_copy_64 : decode cX9_copy 64 = .ok (.ireturn, 1) := by decide +kernel
theorem dX9_copy_65 : decode cX9_copy 65 = .ok (.iconst 0, 1) := by decide +kernel
theorem dX9_copy_66 : decode cX9_copy 66 = .ok (.istore 7, 2) := by decide +kernel
theorem dX9_copy_68 : decode cX9_copy 68 = .ok (.iconst 0, 1) := by decide +kernel
theorem dX9_copy_69 : decode cX9_copy 69 = .ok (.istore 8, 2) := by decide +kernel
theorem dX9_copy_71 : decode cX9_copy 71 = .ok (.iload 8, 2) := by decide +kernel
theorem dX9_copy_73 : decode cX9_copy 73 = .ok (.aload_n 0, 1) := by decide +kernel
theorem dX9_copy_74 : decode cX9_copy 74 = .ok (.getfield 180, 3) := by decide +kernel
theorem dX9_copy_77 : decode cX9_copy 77 = .ok (.if_icmp .ge 54, 3) := by decide +kernel
theorem dX9_copy_80 : decode cX9_copy 80 = .ok (.aload_n 0, 1) := by decide +kernel
theorem dX9_copy_81 : decode cX9_copy 81 = .ok (.getfield 51, 3) := by decide +kernel
theorem dX9_copy_84 : decode cX9_copy 84 = .ok (.iload 8, 2) := by decide +kernel
theorem dX9_copy_86 : decode cX9_copy 86 = .ok (.baload, 1) := by decide +kernel
theorem dX9_copy_87 : decode cX9_copy 87 = .ok (.iload_n 3, 1) := by decide +kernel
theorem dX9_copy_88 : decode cX9_copy 88 = .ok (.if_icmp .eq 6, 3) := by decide +kernel
theorem dX9_copy_91 : decode cX9_copy 91 = .ok (.goto 34, 3) := by decide +kernel
theorem dX9_copy_94 : decode cX9_copy 94 = .ok (.aload_n 0, 1) := by decide +kernel
theorem dX9_copy_95 : decode cX9_copy 95 = .ok (.getfield 120, 3) := by decide +kernel
theorem dX9_copy_98 : decode cX9_copy 98 = .ok (.iload 7, 2) := by decide +kernel
theorem dX9_copy_100 : decode cX9_copy 100 = .ok (.aload_n 0, 1) := by decide +kernel
theorem dX9_copy_101 : decode cX9_copy 101 = .ok (.getfield 54, 3) := by decide +kernel
theorem dX9_copy_104 : decode cX9_copy 104 = .ok (.iload 8, 2) := by decide +kernel
theorem dX9_copy_106 : decode cX9_copy 106 = .ok (.iaload, 1) := by decide +kernel
theorem dX9_copy_107 : decode cX9_copy 107 = .ok (.iastore, 1) := by decide +kernel
theorem dX9_copy_108 : decode cX9_copy 108 = .ok (.aload_n 0, 1) := by decide +kernel
theorem dX9_copy_109 : decode cX9_copy 109 = .ok (.getfield 123, 3) := by decide +kernel
theorem dX9_copy_112 : decode cX9_copy 112 = .ok (.iload 7, 2) := by decide +kernel
theorem dX9_copy_114 : decode cX9_copy 114 = .ok (.aload_n 0, 1) := by decide +kernel
theorem dX9_copy_115 : decode cX9_copy 115 = .ok (.getfield 57, 3) := by decide +kernel
theorem dX9_copy_118 : decode cX9_copy 118 = .ok (.iload 8, 2) := by decide +kernel
theorem dX9_copy_120 : decode cX9_copy 120 = .ok (.baload, 1) := by decide +kernel
theorem dX9_copy_121 : decode cX9_copy 121 = .ok (.bastore, 1) := by decide +kernel
theorem dX9_copy_122 : decode cX9_copy 122 = .ok (.iinc 7 1, 3) := by decide +kernel
theorem dX9_copy_125 : decode cX9_copy 125 = .ok (.iinc 8 1, 3) := by decide +kernel
theorem dX9_copy_128 : decode cX9_copy 128 = .ok (.goto (-57), 3) := by decide +kernel
theorem dX9_copy_131 : decode cX9_copy 131 = .ok (.iconst 0, 1) := by decide +kernel
theorem dX9_copy_132 : decode cX9_copy 132 = .ok (.istore 8, 2) := by decide +kernel
theorem dX9_copy_134 : decode cX9_copy 134 = .ok (.iload 8, 2) := by decide +kernel
theorem dX9_copy_136 : decode cX9_copy 136 = .ok (.bipush 90, 2) := by decide +kernel
theorem dX9_copy_138 : decode cX9_copy 138 = .ok (.if_icmp .ge 47, 3) := by decide +kernel
theorem dX9_copy_141 : decode cX9_copy 141 = .ok (.aload_n 0, 1) := by decide +kernel
theorem dX9_copy_142 : decode cX9_copy 142 = .ok (.getfield 126, 3) := by decide +kernel
theorem dX9_copy_145 : decode cX9_copy 145 = .ok (.iload 8, 2) := by decide +kernel
theorem dX9_copy_147 : decode cX9_copy 147 = .ok (.aload_n 0, 1) := by decide +kernel
theorem dX9_copy_148 : decode cX9_copy 148 = .ok (.getfield 40, 3) := by decide +kernel
theorem dX9_copy_151 : decode cX9_copy 151 = .ok (.bipush 90, 2) := by decide +kernel
theorem dX9_copy_153 : decode cX9_copy 153 = .ok (.iload_n 3, 1) := by decide +kernel
theorem dX9_copy_154 : decode cX9_copy 154 = .ok (.imul, 1) := by decide +kernel
theorem dX9_copy_155 : decode cX9_copy 155 = .ok (.iload 8, 2) := by decide +kernel
theorem dX9_copy_157 : decode cX9_copy 157 = .ok (.iadd, 1) := by decide +kernel
theorem dX9_copy_158 : decode cX9_copy 158 = .ok (.saload, 1) := by decide +kernel
theorem dX9_copy_159 : decode cX9_copy 159 = .ok (.sastore, 1) := by decide +kernel
theorem dX9_copy_160 : decode cX9_copy 160 = .ok (.aload_n 0, 1) := by decide +kernel
theorem dX9_copy_161 : decode cX9_copy 161 = .ok (.getfield 129, 3) := by decide +kernel
theorem dX9_copy_164 : decode cX9_copy 164 = .ok (.iload 8, 2) := by decide +kernel
theorem dX9_copy_166 : decode cX9_copy 166 = .ok (.aload_n 0, 1) := by decide +kernel
theorem dX9_copy_167 : decode cX9_copy 167 = .ok (.getfield 44, 3) := by decide +kernel
theorem dX9_copy_170 : decode cX9_copy 170 = .ok (.bipush 90, 2) := by decide +kernel
theorem dX9_copy_172 : decode cX9_copy 172 = .ok (.iload_n 3, 1) := by decide +kernel
theorem dX9_copy_173 : decode cX9_copy 173 = .ok (.imul, 1) := by decide +kernel
theorem dX9_copy_174 : decode cX9_copy 174 = .ok (.iload 8, 2) := by decide +kernel
theorem dX9_copy_176 : decode cX9_copy 176 = .ok (.iadd, 1) := by decide +kernel
theorem dX9_copy_177 : decode cX9_copy 177 = .ok (.baload, 1) := by decide +kernel
theorem dX9_copy_178 : decode cX9_copy 178 = .ok (.bastore, 1) := by decide +kernel
theorem dX9_copy_179 : decode cX9_copy 179 = .ok (.iinc 8 1, 3) := by decide +kernel
theorem dX9_copy_182 : decode cX9_copy 182 = .ok (.goto (-48), 3) := by decide +kernel
theorem dX9_copy_185 : decode cX9_copy 185 = .ok (.iconst 0, 1) := by decide +kernel
theorem dX9_copy_186 : decode cX9_copy 186 = .ok (.istore 8, 2) := by decide +kernel
theorem dX9_copy_188 : decode cX9_copy 188 = .ok (.iconst 0, 1) := by decide +kernel
theorem dX9_copy_189 : decode cX9_copy 189 = .ok (.istore 9, 2) := by decide +kernel
theorem dX9_copy_191 : decode cX9_copy 191 = .ok (.aload_n 0, 1) := by decide +kernel
theorem dX9_copy_192 : decode cX9_copy 192 = .ok (.iload_n 3, 1) := by decide +kernel
theorem dX9_copy_193 : decode cX9_copy 193 = .ok (.iconst 2, 1) := by decide +kernel
theorem dX9_copy_194 : decode cX9_copy 194 = .ok (.invokevirtual 161, 3) := by decide +kernel
theorem dX9_copy_197 : decode cX9_copy 197 = .ok (.istore 10, 2) := by decide +kernel
theorem dX9_copy_199 : decode cX9_copy 199 = .ok (.iload 8, 2) := by decide +kernel
theorem dX9_copy_201 : decode cX9_copy 201 = .ok (.iload 5, 2) := by decide +kernel
theorem dX9_copy_203 : decode cX9_copy 203 = .ok (.if_icmp .ge 284, 3) := by decide +kernel
theorem dX9_copy_206 : decode cX9_copy 206 = .ok (.iload 9, 2) := by decide +kernel
theorem dX9_copy_208 : decode cX9_copy 208 = .ok (.ifCond .ne 279, 3) := by decide +kernel
theorem dX9_copy_211 : decode cX9_copy 211 = .ok (.iload_n 2, 1) := by decide +kernel
theorem dX9_copy_212 : decode cX9_copy 212 = .ok (.iload 8, 2) := by decide +kernel
theorem dX9_copy_214 : decode cX9_copy 214 = .ok (.iadd, 1) := by decide +kernel
theorem dX9_copy_215 : decode cX9_copy 215 = .ok (.istore 11, 2) := by decide +kernel
theorem dX9_copy_217 : decode cX9_copy 217 = .ok (.iload 4, 2) := by decide +kernel
theorem dX9_copy_219 : decode cX9_copy 219 = .ok (.iload 8, 2) := by decide +kernel
theorem dX9_copy_221 : decode cX9_copy 221 = .ok (.iadd, 1) := by decide +kernel
theorem dX9_copy_222 : decode cX9_copy 222 = .ok (.istore 12, 2) := by decide +kernel
theorem dX9_copy_224 : decode cX9_copy 224 = .ok (.iload 11, 2) := by decide +kernel
theorem dX9_copy_226 : decode cX9_copy 226 = .ok (.aload_n 0, 1) := by decide +kernel
theorem dX9_copy_227 : decode cX9_copy 227 = .ok (.iload_n 1, 1) := by decide +kernel
theorem dX9_copy_228 : decode cX9_copy 228 = .ok (.iconst 2, 1) := by decide +kernel
theorem dX9_copy_229 : decode cX9_copy 229 = .ok (.invokevirtual 161, 3) := by decide +kernel
theorem dX9_copy_232 : decode cX9_copy 232 = .ok (.if_icmp .ge 10, 3) := by decide +kernel
theorem dX9_copy_235 : decode cX9_copy 235 = .ok (.iload 12, 2) := by decide +kernel
theorem dX9_copy_237 : decode cX9_copy 237 = .ok (.iload 10, 2) := by decide +kernel
theorem dX9_copy_239 : decode cX9_copy 239 = .ok (.if_icmp .lt 9, 3) := by decide +kernel
theorem dX9_copy_242 : decode cX9_copy 242 = .ok (.iconst 4, 1) := by decide +kernel
theorem dX9_copy_243 : decode cX9_copy 243 = .ok (.istore 9, 2) := by decide +kernel
theorem dX9_copy_245 : decode cX9_copy 245 = .ok (.goto 239, 3) := by decide +kernel
theorem dX9_copy_248 : decode cX9_copy 248 = .ok (.iconst 0, 1) := by decide +kernel
theorem dX9_copy_249 : decode cX9_copy 249 = .ok (.istore 13, 2) := by decide +kernel
theorem dX9_copy_251 : decode cX9_copy 251 = .ok (.iconst 0, 1) := by decide +kernel
theorem dX9_copy_252 : decode cX9_copy 252 = .ok (.istore 14, 2) := by decide +kernel
theorem dX9_copy_254 : decode cX9_copy 254 = .ok (.iload 14, 2) := by decide +kernel
theorem dX9_copy_256 : decode cX9_copy 256 = .ok (.iload 7, 2) := by decide +kernel
theorem dX9_copy_258 : decode cX9_copy 258 = .ok (.if_icmp .ge 28, 3) := by decide +kernel
theorem dX9_copy_261 : decode cX9_copy 261 = .ok (.aload_n 0, 1) := by decide +kernel
theorem dX9_copy_262 : decode cX9_copy 262 = .ok (.getfield 120, 3) := by decide +kernel
theorem dX9_copy_265 : decode cX9_copy 265 = .ok (.iload 14, 2) := by decide +kernel
theorem dX9_copy_267 : decode cX9_copy 267 = .ok (.iaload, 1) := by decide +kernel
theorem dX9_copy_268 : decode cX9_copy 268 = .ok (.sipush 1440, 3) := by decide +kernel
theorem dX9_copy_271 : decode cX9_copy 271 = .ok (.idiv, 1) := by decide +kernel
theorem dX9_copy_272 : decode cX9_copy 272 = .ok (.iload 12, 2) := by decide +kernel
theorem dX9_copy_274 : decode cX9_copy 274 = .ok (.if_icmp .ne 6, 3) := by decide +kernel
theorem dX9_copy_277 : decode cX9_copy 277 = .ok (.iinc 13 1, 3) := by decide +kernel
theorem dX9_copy_280 : decode cX9_copy 280 = .ok (.iinc 14 1, 3) := by decide +kernel
theorem dX9_copy_283 : decode cX9_copy 283 = .ok (.goto (-29), 3) := by decide +kernel
theorem dX9_copy_286 : decode cX9_copy 286 = .ok (.iconst 0, 1) := by decide +kernel
theorem dX9_copy_287 : decode cX9_copy 287 = .ok (.istore 14, 2) := by decide +kernel
theorem dX9_copy_289 : decode cX9_copy 289 = .ok (.iconst 0, 1) := by decide +kernel
theorem dX9_copy_290 : decode cX9_copy 290 = .ok (.istore 15, 2) := by decide +kernel
theorem dX9_copy_292 : decode cX9_copy 292 = .ok (.iload 15, 2) := by decide +kernel
theorem dX9_copy_294 : decode cX9_copy 294 = .ok (.aload_n 0, 1) := by decide +kernel
theorem dX9_copy_295 : decode cX9_copy 295 = .ok (.getfield 180, 3) := by decide +kernel
theorem dX9_copy_298 : decode cX9_copy 298 = .ok (.if_icmp .ge 39, 3) := by decide +kernel
theorem dX9_copy_301 : decode cX9_copy 301 = .ok (.aload_n 0, 1) := by decide +kernel
theorem dX9_copy_302 : decode cX9_copy 302 = .ok (.getfield 51, 3) := by decide +kernel
theorem dX9_copy_305 : decode cX9_copy 305 = .ok (.iload 15, 2) := by decide +kernel
theorem dX9_copy_307 : decode cX9_copy 307 = .ok (.baload, 1) := by decide +kernel
theorem dX9_copy_308 : decode cX9_copy 308 = .ok (.iload_n 1, 1) := by decide +kernel
theorem dX9_copy_309 : decode cX9_copy 309 = .ok (.if_icmp .ne 22, 3) := by decide +kernel
theorem dX9_copy_312 : decode cX9_copy 312 = .ok (.aload_n 0, 1) := by decide +kernel
theorem dX9_copy_313 : decode cX9_copy 313 = .ok (.getfield 54, 3) := by decide +kernel
theorem dX9_copy_316 : decode cX9_copy 316 = .ok (.iload 15, 2) := by decide +kernel
theorem dX9_copy_318 : decode cX9_copy 318 = .ok (.iaload, 1) := by decide +kernel
theorem dX9_copy_319 : decode cX9_copy 319 = .ok (.sipush 1440, 3) := by decide +kernel
theorem dX9_copy_322 : decode cX9_copy 322 = .ok (.idiv, 1) := by decide +kernel
theorem dX9_copy_323 : decode cX9_copy 323 = .ok (.iload 11, 2) := by decide +kernel
theorem dX9_copy_325 : decode cX9_copy 325 = .ok (.if_icmp .ne 6, 3) := by decide +kernel
theorem dX9_copy_328 : decode cX9_copy 328 = .ok (.iinc 14 1, 3) := by decide +kernel
theorem dX9_copy_331 : decode cX9_copy 331 = .ok (.iinc 15 1, 3) := by decide +kernel
theorem dX9_copy_334 : decode cX9_copy 334 = .ok (.goto (-42), 3) := by decide +kernel
theorem dX9_copy_337 : decode cX9_copy 337 = .ok (.aload_n 0, 1) := by decide +kernel
theorem dX9_copy_338 : decode cX9_copy 338 = .ok (.getfield 180, 3) := by decide +kernel
theorem dX9_copy_341 : decode cX9_copy 341 = .ok (.iload 14, 2) := by decide +kernel
theorem dX9_copy_343 : decode cX9_copy 343 = .ok (.isub, 1) := by decide +kernel
theorem dX9_copy_344 : decode cX9_copy 344 = .ok (.iload 13, 2) := by decide +kernel
theorem dX9_copy_346 : decode cX9_copy 346 = .ok (.iadd, 1) := by decide +kernel
theorem dX9_copy_347 : decode cX9_copy 347 = .ok (.sipush 5000, 3) := by decide +kernel
theorem dX9_copy_350 : decode cX9_copy 350 = .ok (.if_icmp .le 9, 3) := by decide +kernel
theorem dX9_copy_353 : decode cX9_copy 353 = .ok (.iconst 5, 1) := by decide +kernel
theorem dX9_copy_354 : decode cX9_copy 354 = .ok (.istore 9, 2) := by decide +kernel
theorem dX9_copy_356 : decode cX9_copy 356 = .ok (.goto 128, 3) := by decide +kernel
theorem dX9_copy_359 : decode cX9_copy 359 = .ok (.aload_n 0, 1) := by decide +kernel
theorem dX9_copy_360 : decode cX9_copy 360 = .ok (.iload_n 1, 1) := by decide +kernel
theorem dX9_copy_361 : decode cX9_copy 361 = .ok (.sipush 1440, 3) := by decide +kernel
theorem dX9_copy_364 : decode cX9_copy 364 = .ok (.iload 11, 2) := by decide +kernel
theorem dX9_copy_366 : decode cX9_copy 366 = .ok (.imul, 1) := by decide +kernel
theorem dX9_copy_367 : decode cX9_copy 367 = .ok (.sipush 1440, 3) := by decide +kernel
theorem dX9_copy_370 : decode cX9_copy 370 = .ok (.iload 11, 2) := by decide +kernel
theorem dX9_copy_372 : decode cX9_copy 372 = .ok (.imul, 1) := by decide +kernel
theorem dX9_copy_373 : decode cX9_copy 373 = .ok (.sipush 1440, 3) := by decide +kernel
theorem dX9_copy_376 : decode cX9_copy 376 = .ok (.iadd, 1) := by decide +kernel
theorem dX9_copy_377 : decode cX9_copy 377 = .ok (.invokevirtual 183, 3) := by decide +kernel
theorem dX9_copy_380 : decode cX9_copy 380 = .ok (.pop, 1) := by decide +kernel
theorem dX9_copy_381 : decode cX9_copy 381 = .ok (.iconst 0, 1) := by decide +kernel
theorem dX9_copy_382 : decode cX9_copy 382 = .ok (.istore 15, 2) := by decide +kernel
theorem dX9_copy_384 : decode cX9_copy 384 = .ok (.iload 15, 2) := by decide +kernel
theorem dX9_copy_386 : decode cX9_copy 386 = .ok (.iload 7, 2) := by decide +kernel
theorem dX9_copy_388 : decode cX9_copy 388 = .ok (.if_icmp .ge 55, 3) := by decide +kernel
theorem dX9_copy_391 : decode cX9_copy 391 = .ok (.aload_n 0, 1) := by decide +kernel
theorem dX9_copy_392 : decode cX9_copy 392 = .ok (.getfield 120, 3) := by decide +kernel
theorem dX9_copy_395 : decode cX9_copy 395 = .ok (.iload 15, 2) := by decide +kernel
theorem dX9_copy_397 : decode cX9_copy 397 = .ok (.iaload, 1) := by decide +kernel
theorem dX9_copy_398 : decode cX9_copy 398 = .ok (.sipush 1440, 3) := by decide +kernel
theorem dX9_copy_401 : decode cX9_copy 401 = .ok (.idiv, 1) := by decide +kernel
theorem dX9_copy_402 : decode cX9_copy 402 = .ok (.iload 12, 2) := by decide +kernel
theorem dX9_copy_404 : decode cX9_copy 404 = .ok (.if_icmp .ne 33, 3) := by decide +kernel
theorem dX9_copy_407 : decode cX9_copy 407 = .ok (.aload_n 0, 1) := by decide +kernel
theorem dX9_copy_408 : decode cX9_copy 408 = .ok (.iload_n 1, 1) := by decide +kernel
theorem dX9_copy_409 : decode cX9_copy 409 = .ok (.sipush 1440, 3) := by decide +kernel
theorem dX9_copy_412 : decode cX9_copy 412 = .ok (.iload 11, 2) := by decide +kernel
theorem dX9_copy_414 : decode cX9_copy 414 = .ok (.imul, 1) := by decide +kernel
theorem dX9_copy_415 : decode cX9_copy 415 = .ok (.aload_n 0, 1) := by decide +kernel
theorem dX9_copy_416 : decode cX9_copy 416 = .ok (.getfield 120, 3) := by decide +kernel
theorem dX9_copy_419 : decode cX9_copy 419 = .ok (.iload 15, 2) := by decide +kernel
theorem dX9_copy_421 : decode cX9_copy 421 = .ok (.iaload, 1) := by decide +kernel
theorem dX9_copy_422 : decode cX9_copy 422 = .ok (.sipush 1440, 3) := by decide +kernel
theorem dX9_copy_425 : decode cX9_copy 425 = .ok (.irem, 1) := by decide +kernel
theorem dX9_copy_426 : decode cX9_copy 426 = .ok (.iadd, 1) := by decide +kernel
theorem dX9_copy_427 : decode cX9_copy 427 = .ok (.aload_n 0, 1) := by decide +kernel
theorem dX9_copy_428 : decode cX9_copy 428 = .ok (.getfield 123, 3) := by decide +kernel
theorem dX9_copy_431 : decode cX9_copy 431 = .ok (.iload 15, 2) := by decide +kernel
theorem dX9_copy_433 : decode cX9_copy 433 = .ok (.baload, 1) := by decide +kernel
theorem dX9_copy_434 : decode cX9_copy 434 = .ok (.invokevirtual 202, 3) := by decide +kernel
theorem dX9_copy_437 : decode cX9_copy 437 = .ok (.iinc 15 1, 3) := by decide +kernel
theorem dX9_copy_440 : decode cX9_copy 440 = .ok (.goto (-56), 3) := by decide +kernel
theorem dX9_copy_443 : decode cX9_copy 443 = .ok (.aload_n 0, 1) := by decide +kernel
theorem dX9_copy_444 : decode cX9_copy 444 = .ok (.getfield 40, 3) := by decide +kernel
theorem dX9_copy_447 : decode cX9_copy 447 = .ok (.bipush 90, 2) := by decide +kernel
theorem dX9_copy_449 : decode cX9_copy 449 = .ok (.iload_n 1, 1) := by decide +kernel
theorem dX9_copy_450 : decode cX9_copy 450 = .ok (.imul, 1) := by decide +kernel
theorem dX9_copy_451 : decode cX9_copy 451 = .ok (.iload 11, 2) := by decide +kernel
theorem dX9_copy_453 : decode cX9_copy 453 = .ok (.iadd, 1) := by decide +kernel
theorem dX9_copy_454 : decode cX9_copy 454 = .ok (.aload_n 0, 1) := by decide +kernel
theorem dX9_copy_455 : decode cX9_copy 455 = .ok (.getfield 126, 3) := by decide +kernel
theorem dX9_copy_458 : decode cX9_copy 458 = .ok (.iload 12, 2) := by decide +kernel
theorem dX9_copy_460 : decode cX9_copy 460 = .ok (.saload, 1) := by decide +kernel
theorem dX9_copy_461 : decode cX9_copy 461 = .ok (.sastore, 1) := by decide +kernel
theorem dX9_copy_462 : decode cX9_copy 462 = .ok (.aload_n 0, 1) := by decide +kernel
theorem dX9_copy_463 : decode cX9_copy 463 = .ok (.getfield 44, 3) := by decide +kernel
theorem dX9_copy_466 : decode cX9_copy 466 = .ok (.bipush 90, 2) := by decide +kernel
theorem dX9_copy_468 : decode cX9_copy 468 = .ok (.iload_n 1, 1) := by decide +kernel
theorem dX9_copy_469 : decode cX9_copy 469 = .ok (.imul, 1) := by decide +kernel
theorem dX9_copy_470 : decode cX9_copy 470 = .ok (.iload 11, 2) := by decide +kernel
theorem dX9_copy_472 : decode cX9_copy 472 = .ok (.iadd, 1) := by decide +kernel
theorem dX9_copy_473 : decode cX9_copy 473 = .ok (.aload_n 0, 1) := by decide +kernel
theorem dX9_copy_474 : decode cX9_copy 474 = .ok (.getfield 129, 3) := by decide +kernel
theorem dX9_copy_477 : decode cX9_copy 477 = .ok (.iload 12, 2) := by decide +kernel
theorem dX9_copy_479 : decode cX9_copy 479 = .ok (.baload, 1) := by decide +kernel
theorem dX9_copy_480 : decode cX9_copy 480 = .ok (.bastore, 1) := by decide +kernel
theorem dX9_copy_481 : decode cX9_copy 481 = .ok (.iinc 8 1, 3) := by decide +kernel
theorem dX9_copy_484 : decode cX9_copy 484 = .ok (.goto (-285), 3) := by decide +kernel
theorem dX9_copy_487 : decode cX9_copy 487 = .ok (.iload 9, 2) := by decide +kernel
theorem dX9_copy_489 : decode cX9_copy 489 = .ok (.ifCond .eq 10, 3) := by decide +kernel
theorem dX9_copy_492 : decode cX9_copy 492 = .ok (.aload_n 0, 1) := by decide +kernel
theorem dX9_copy_493 : decode cX9_copy 493 = .ok (.iload 9, 2) := by decide +kernel
theorem dX9_copy_495 : decode cX9_copy 495 = .ok (.invokevirtual 168, 3) := by decide +kernel
theorem dX9_copy_498 : decode cX9_copy 498 = .ok (.pop, 1) := by decide +kernel
theorem dX9_copy_499 : decode cX9_copy 499 = .ok (.iload 8, 2) := by decide +kernel
theorem dX9_copy_501 : decode cX9_copy 501 = .ok (.ireturn, 1) := by decide +kernel
set_option maxHeartbeats 4000000 in
set_option maxRecDepth 100000 in
theorem g_X9_copy (l : Launch) (G : xG) (S : yS) (d : yD) (h0 : Nat) (p0 : Int32) (p1 : Int32) (p2 : Int32) (p3 : Int32) (p4 : Int32) (hSh : ySh S) (hPo : yPo S d) (hm_h0 : h0 ∈ S.1) (hk_h0 : S.2.1 h0 = 9) (hI : yMI S d h0) : xWi l G yX9_copy cX9_copy 16 (some .int) 3 65 0 0 [.ref h0, .int p0, .int p1, .int p2, .int p3, .int p4] (yW G S d) (fun r (u : yD) => yAg S [9, 42, 43, 45, 46, 47, 69, 70, 71, 72, 73] d u ∧ (yPo S d → yPo S u) ∧ yK [1, 38] d u h0 ∧ ((yMI S u h0) ∧ ((((0 ≤ p0.toInt ∧ p0.toInt ≤ 7 ∧ yOI S d h0 p0.toInt.toNat = 1 ∧ 0 ≤ p1.toInt ∧ p1.toInt < yOf S d h0 p0.toInt.toNat 2) ∧ (0 ≤ p2.toInt ∧ p2.toInt ≤ 7 ∧ yOI S d h0 p2.toInt.toNat = 1 ∧ 0 ≤ p3.toInt ∧ p3.toInt < yOf S d h0 p2.toInt.toNat 2) ∧ 0 ≤ p4.toInt ∧ p4.toInt ≤ 90) → zMC S d u h0 p0 p1 p2 p3 p4 r) ∧ (¬ ((0 ≤ p0.toInt ∧ p0.toInt ≤ 7 ∧ yOI S d h0 p0.toInt.toNat = 1 ∧ 0 ≤ p1.toInt ∧ p1.toInt < yOf S d h0 p0.toInt.toNat 2) ∧ (0 ≤ p2.toInt ∧ p2.toInt ≤ 7 ∧ yOI S d h0 p2.toInt.toNat = 1 ∧ 0 ≤ p3.toInt ∧ p3.toInt < yOf S d h0 p2.toInt.toNat 2) ∧ 0 ≤ p4.toInt ∧ p4.toInt ≤ 90) → r.toInt = -1 ∧ zMe S d u h0)))) (fun u => yW G S u) := by
  intro sz
  refine xstart (by decide) (Nat.le_of_ble_eq_true rfl) (fun p e s m args below meth c ls C0 hr hlocks hin hsz hP hK hD hN hl => ?_)
  obtain ⟨hx, hb, hml, hown, htl⟩ := id C0
  subst hsz
  have hD := hD.self (sz := s.heap.size)
  generalize hAe : va_A (yW G S d) s.heap.size = A at hD ⊢
  have hA : ∀ q : Nat, s.heap.size ≤ q → A q := fun q h => by rw [← hAe]; exact Or.inr h
  have hS : va_S A s.heap s.heap [] := va_S.rf
  have hg0 : yAg S [9, 42, 43, 45, 46, 47, 69, 70, 71, 72, 73] d d := yAg.rf
  have hl : lv_has ls 16 [(0, .ref h0), (1, .int p0), (2, .int p1), (3, .int p2), (4, .int p3), (5, .int p4)] := hl
  refine lv_aload_n hx hb dX9_copy_0 rfl (lv_at hl 0 rfl) ?_
  refine lv_iconst (v := 0) hx hb dX9_copy_1 (by decide) ?_
  refine yputI (ci := 9) (k := 38) (ty := .int) (C := RX9) (T := TX9) (N := 67) C0 hK hP hD hS hm_h0 hk_h0 (by decide) rfl inlX9 tyX9 tyX9_ok nmX9 (by decide) mW175 (fun _ h9 => h9) rfl (by decide +kernel) rfl rfl (Nat.le_of_ble_eq_true rfl) ysi_9_38 dX9_copy_2 (fun H locs hP hD hS => ?_)
  obtain ⟨d_1, ed_1⟩ : ∃ z : yD, z = yi d h0 38 0 := ⟨_, rfl⟩
  rw [← ed_1] at hP hD
  have hgd_1 : yAg S [9, 42, 43, 45, 46, 47, 69, 70, 71, 72, 73] d d_1 := by rw [ed_1]; exact yAg.i hg0 (by rw [hk_h0]; decide)
  have hsd_1 : yAg S [9] d d_1 := by rw [ed_1]; exact yAg.i yAg.rf (by rw [hk_h0]; decide)
  have hPod_1 : yPo S d_1 := by rw [ed_1]; exact yPo.i hPo hk_h0 (Or.inl rfl)
  have hfd_1 : yK [1, 38] d d_1 h0 := by rw [ed_1]; exact yK.i yK.rf (by decide)
  have hId_1 : yMI S d_1 h0 := yMI.ag hI hSh hm_h0 hk_h0 (show yAg S [9] d d_1 from by rw [ed_1]; exact yAg.i yAg.rf (by rw [hk_h0]; decide)) (show yK [38] d d_1 h0 from by rw [ed_1]; exact yK.i yK.rf (by decide)) (by decide) (by decide)
  have hE0d_1 : (d_1.1 h0 0).toInt = (d.1 h0 0).toInt := congrArg Int32.toInt ((show yK [38] d d_1 h0 from by rw [ed_1]; exact yK.i yK.rf (by decide)) 0 (by decide))
  have hE1d_1 : (d_1.1 h0 1).toInt = (d.1 h0 1).toInt := congrArg Int32.toInt ((show yK [38] d d_1 h0 from by rw [ed_1]; exact yK.i yK.rf (by decide)) 1 (by decide))
  have hE2d_1 : (d_1.1 h0 2).toInt = (d.1 h0 2).toInt := congrArg Int32.toInt ((show yK [38] d d_1 h0 from by rw [ed_1]; exact yK.i yK.rf (by decide)) 2 (by decide))
  have hE3d_1 : (d_1.1 h0 3).toInt = (d.1 h0 3).toInt := congrArg Int32.toInt ((show yK [38] d d_1 h0 from by rw [ed_1]; exact yK.i yK.rf (by decide)) 3 (by decide))
  have hE63d_1 : (d_1.1 h0 63).toInt = (d.1 h0 63).toInt := congrArg Int32.toInt ((show yK [38] d d_1 h0 from by rw [ed_1]; exact yK.i yK.rf (by decide)) 63 (by decide))
  refine lv_iload hx hb dX9_copy_5 (lv_at hl 5 rfl) ?_
  refine lv_if_lt (tgt := 17) hx hb dX9_copy_7 (by decide) (fun c_2 => ?_) (fun c_2 => ?_)
  · refine lv_iconst (v := 1) hx hb dX9_copy_17 (by decide) ?_
    refine lv_goto (tgt := 22) hx hb dX9_copy_18 (by decide) ?_
    refine lv_istore (lv' := [(6, .int 1), (0, .ref h0), (1, .int p0), (2, .int p1), (3, .int p2), (4, .int p3), (5, .int p4)]) hx hb dX9_copy_22 hl (by decide) rfl (fun ls hl => ?_)
    refine lv_aload_n hx hb dX9_copy_24 rfl (lv_at hl 1 rfl) ?_
    refine lv_iload hx hb dX9_copy_25 (lv_at hl 0 rfl) ?_
    refine lv_aload_n hx hb dX9_copy_27 rfl (lv_at hl 1 rfl) ?_
    refine lv_iload_n hx hb dX9_copy_28 rfl (lv_at hl 2 rfl) ?_
    refine lv_iload_n hx hb dX9_copy_29 rfl (lv_at hl 3 rfl) ?_
    refine yVri (As := [.int p0, .int p1]) (rest := [.int 1, .ref h0]) C0 (g_X9_dayWhy l G S d_1 h0 p0 p1 hSh hm_h0 hk_h0 hId_1) ok_X9_dayWhy (mW450 : Cond.methodLink RX9 206 yX9_dayWhy ∈ wsT) ⟨Nat.le_of_ble_eq_true rfl, Nat.le_of_ble_eq_true rfl⟩ hP hD hK hN hm_h0 hk_h0 (by decide) rfl rfl rfl hl.1 rfl (Nat.le_of_ble_eq_true rfl) ⟨Nat.le_of_ble_eq_true rfl, Nat.le_of_ble_eq_true rfl⟩ dX9_copy_30 (fun r_3 hr_3 => ?_)
    have F_4 := flt (rfl : (p4 : Int32).toInt = (p4 : Int32).toInt) (by decide +kernel : (0 : Int32).toInt = 0) c_2
    refine yVri (As := [.int 1, .int r_3]) (rest := []) C0 (g_X9_lesser l G S d_1 h0 1 r_3 hSh hm_h0 hk_h0 (by decide +kernel) (by refine ⟨?_, ?_⟩ <;> omega)) ok_X9_lesser (mW489 : Cond.methodLink RX9 209 yX9_lesser ∈ wsT) ⟨Nat.le_of_ble_eq_true rfl, Nat.le_of_ble_eq_true rfl⟩ hP hD hK hN hm_h0 hk_h0 (by decide) rfl rfl rfl hl.1 rfl (Nat.le_of_ble_eq_true rfl) ⟨Nat.le_of_ble_eq_true rfl, Nat.le_of_ble_eq_true rfl⟩ dX9_copy_33 (fun r_5 hr_5 => ?_)
    refine lv_istore (lv' := [(6, .int r_5), (0, .ref h0), (1, .int p0), (2, .int p1), (3, .int p2), (4, .int p3), (5, .int p4)]) hx hb dX9_copy_36 hl (by decide) rfl (fun ls hl => ?_)
    refine lv_aload_n hx hb dX9_copy_38 rfl (lv_at hl 1 rfl) ?_
    refine lv_iload hx hb dX9_copy_39 (lv_at hl 0 rfl) ?_
    refine lv_aload_n hx hb dX9_copy_41 rfl (lv_at hl 1 rfl) ?_
    refine lv_iload_n hx hb dX9_copy_42 rfl (lv_at hl 4 rfl) ?_
    refine lv_iload hx hb dX9_copy_43 (lv_at hl 5 rfl) ?_
    refine yVri (As := [.int p2, .int p3]) (rest := [.int r_5, .ref h0]) C0 (g_X9_dayWhy l G S d_1 h0 p2 p3 hSh hm_h0 hk_h0 hId_1) ok_X9_dayWhy (mW450 : Cond.methodLink RX9 206 yX9_dayWhy ∈ wsT) ⟨Nat.le_of_ble_eq_true rfl, Nat.le_of_ble_eq_true rfl⟩ hP hD hK hN hm_h0 hk_h0 (by decide) rfl rfl rfl hl.1 rfl (Nat.le_of_ble_eq_true rfl) ⟨Nat.le_of_ble_eq_true rfl, Nat.le_of_ble_eq_true rfl⟩ dX9_copy_45 (fun r_6 hr_6 => ?_)
    refine yVri (As := [.int r_5, .int r_6]) (rest := []) C0 (g_X9_lesser l G S d_1 h0 r_5 r_6 hSh hm_h0 hk_h0 (by refine ⟨?_, ?_⟩ <;> omega) (by refine ⟨?_, ?_⟩ <;> omega)) ok_X9_lesser (mW489 : Cond.methodLink RX9 209 yX9_lesser ∈ wsT) ⟨Nat.le_of_ble_eq_true rfl, Nat.le_of_ble_eq_true rfl⟩ hP hD hK hN hm_h0 hk_h0 (by decide) rfl rfl rfl hl.1 rfl (Nat.le_of_ble_eq_true rfl) ⟨Nat.le_of_ble_eq_true rfl, Nat.le_of_ble_eq_true rfl⟩ dX9_copy_48 (fun r_7 hr_7 => ?_)
    refine lv_istore (lv' := [(6, .int r_7), (0, .ref h0), (1, .int p0), (2, .int p1), (3, .int p2), (4, .int p3), (5, .int p4)]) hx hb dX9_copy_51 hl (by decide) rfl (fun ls hl => ?_)
    refine lv_iload hx hb dX9_copy_53 (lv_at hl 0 rfl) ?_
    refine lv_if_eq (tgt := 65) hx hb dX9_copy_55 (by decide) (fun c_8 => (by exfalso; have q1 := (hr_7.2.2.1 (by rw [c_8]; decide +kernel)).1; have q2 := (hr_5.2.2.1 q1).1; exact absurd q2 (by decide +kernel))) (fun c_8 => ?_)
    refine lv_aload_n hx hb dX9_copy_58 rfl (lv_at hl 1 rfl) ?_
    refine lv_iload hx hb dX9_copy_59 (lv_at hl 0 rfl) ?_
    have F_9 := fne (rfl : (r_7 : Int32).toInt = (r_7 : Int32).toInt) (by decide +kernel : (0 : Int32).toInt = 0) c_8
    refine yVwi (As := [.int r_7]) (rest := []) C0 (g_X9_no l G S d_1 h0 r_7 hSh hPod_1 hm_h0 hk_h0 (by refine ⟨?_, ?_⟩ <;> omega)) ok_X9_no (mW177 : Cond.methodLink RX9 168 yX9_no ∈ wsT) ⟨Nat.le_of_ble_eq_true rfl, Nat.le_of_ble_eq_true rfl⟩ hP hD hS hA hK hN hm_h0 hk_h0 (by decide) rfl rfl rfl hl.1 rfl (Nat.le_of_ble_eq_true rfl) ⟨Nat.le_of_ble_eq_true rfl, Nat.le_of_ble_eq_true rfl⟩ dX9_copy_61 (fun r_10 d_11 H locs hr_10 hP hD hS => ?_)
    obtain ⟨hgad_11, hpad_11, hfad_11, hxd_11⟩ := hr_10
    have hfd_11 : yK [1, 38] d d_11 h0 := yK.tr hfd_1 hfad_11 (by decide)
    have hE0d_11 : (d_11.1 h0 0).toInt = (d_1.1 h0 0).toInt := congrArg Int32.toInt (hfad_11 0 (by decide))
    have hE1d_11 : (d_11.1 h0 1).toInt = (d_1.1 h0 1).toInt := congrArg Int32.toInt (hfad_11 1 (by decide))
    have hE2d_11 : (d_11.1 h0 2).toInt = (d_1.1 h0 2).toInt := congrArg Int32.toInt (hfad_11 2 (by decide))
    have hE3d_11 : (d_11.1 h0 3).toInt = (d_1.1 h0 3).toInt := congrArg Int32.toInt (hfad_11 3 (by decide))
    have hE63d_11 : (d_11.1 h0 63).toInt = (d_1.1 h0 63).toInt := congrArg Int32.toInt (hfad_11 63 (by decide))
    have hId_11 : yMI S d_11 h0 := yMI.ag hId_1 hSh hm_h0 hk_h0 hgad_11 hfad_11 (by decide) (by decide)
    have hgd_11 : yAg S [9, 42, 43, 45, 46, 47, 69, 70, 71, 72, 73] d d_11 := yAg.tr hgd_1 hgad_11 (by first | decide | exact fun _ h => h)
    have hPod_11 : yPo S d_11 := hpad_11 hPod_1
    have hm1r_10 : (r_10 : Int32).toInt = -1 := by rw [hxd_11]; decide +kernel
    have hrf_12 : d_1.2.2.2.2 (S.2.2.1 h0 11) = d.2.2.2.2 (S.2.2.1 h0 11) := (hsd_1 _ (by rw [(ySh.f9_11 hSh h0 hm_h0 hk_h0).2]; decide)).2.2.2.2
    have hrf_12a : yOI S d_1 h0 (p0 : Int32).toInt.toNat = yOI S d h0 (p0 : Int32).toInt.toNat := by unfold yOI; rw [hrf_12]
    have hrf_12b : yOf S d_1 h0 (p0 : Int32).toInt.toNat 2 = yOf S d h0 (p0 : Int32).toInt.toNat 2 := by unfold yOf; rw [hrf_12]
    have hrf_13 : d_1.2.2.2.2 (S.2.2.1 h0 11) = d.2.2.2.2 (S.2.2.1 h0 11) := (hsd_1 _ (by rw [(ySh.f9_11 hSh h0 hm_h0 hk_h0).2]; decide)).2.2.2.2
    have hrf_13a : yOI S d_1 h0 (p2 : Int32).toInt.toNat = yOI S d h0 (p2 : Int32).toInt.toNat := by unfold yOI; rw [hrf_13]
    have hrf_13b : yOf S d_1 h0 (p2 : Int32).toInt.toNat 2 = yOf S d h0 (p2 : Int32).toInt.toNat 2 := by unfold yOf; rw [hrf_13]
    have hCC_14 := yMI.c hId_11
    have hz00_ : (0 : Int32).toInt = 0 := by decide +kernel
    have hz11_ : (1 : Int32).toInt = 1 := by decide +kernel
    exact W.iret (v := r_10) hx hb hr (fun t ht hW => ⟨⟨r_10, d_11, rfl, ⟨hgd_11, (fun _ => hPod_11), hfd_11, ⟨hId_11, ⟨fun hc_ => absurd hc_ (by omega), fun _ => ⟨by omega, (zMe.ag (zMe.ag zMe.rf hSh hm_h0 hk_h0 hsd_1 (show yK [38] d d_1 h0 from by rw [ed_1]; exact yK.i yK.rf (by decide)) (by decide) (by decide)) hSh hm_h0 hk_h0 hgad_11 hfad_11 (by decide) (by decide))⟩⟩⟩⟩, by rw [ht]; exact hP, hD⟩, hS.F ht⟩) hS.2.2 dX9_copy_64
  · refine lv_iload hx hb dX9_copy_10 (lv_at hl 5 rfl) ?_
    refine lv_bipush (v := 90) hx hb dX9_copy_12 (by decide) ?_
    refine lv_icmp_le (tgt := 21) hx hb dX9_copy_14 (by decide) (fun c_15 => ?_) (fun c_15 => ?_)
    · refine lv_iconst (v := 0) hx hb dX9_copy_21 (by decide) ?_
      refine lv_istore (lv' := [(6, .int 0), (0, .ref h0), (1, .int p0), (2, .int p1), (3, .int p2), (4, .int p3), (5, .int p4)]) hx hb dX9_copy_22 hl (by decide) rfl (fun ls hl => ?_)
      refine lv_aload_n hx hb dX9_copy_24 rfl (lv_at hl 1 rfl) ?_
      refine lv_iload hx hb dX9_copy_25 (lv_at hl 0 rfl) ?_
      refine lv_aload_n hx hb dX9_copy_27 rfl (lv_at hl 1 rfl) ?_
      refine lv_iload_n hx hb dX9_copy_28 rfl (lv_at hl 2 rfl) ?_
      refine lv_iload_n hx hb dX9_copy_29 rfl (lv_at hl 3 rfl) ?_
      refine yVri (As := [.int p0, .int p1]) (rest := [.int 0, .ref h0]) C0 (g_X9_dayWhy l G S d_1 h0 p0 p1 hSh hm_h0 hk_h0 hId_1) ok_X9_dayWhy (mW450 : Cond.methodLink RX9 206 yX9_dayWhy ∈ wsT) ⟨Nat.le_of_ble_eq_true rfl, Nat.le_of_ble_eq_true rfl⟩ hP hD hK hN hm_h0 hk_h0 (by decide) rfl rfl rfl hl.1 rfl (Nat.le_of_ble_eq_true rfl) ⟨Nat.le_of_ble_eq_true rfl, Nat.le_of_ble_eq_true rfl⟩ dX9_copy_30 (fun r_16 hr_16 => ?_)
      have F_17 := fnlt (rfl : (p4 : Int32).toInt = (p4 : Int32).toInt) (by decide +kernel : (0 : Int32).toInt = 0) c_2
      have F_18 := fle (rfl : (p4 : Int32).toInt = (p4 : Int32).toInt) (by decide +kernel : (90 : Int32).toInt = 90) c_15
      refine yVri (As := [.int 0, .int r_16]) (rest := []) C0 (g_X9_lesser l G S d_1 h0 0 r_16 hSh hm_h0 hk_h0 (by decide +kernel) (by refine ⟨?_, ?_⟩ <;> omega)) ok_X9_lesser (mW489 : Cond.methodLink RX9 209 yX9_lesser ∈ wsT) ⟨Nat.le_of_ble_eq_true rfl, Nat.le_of_ble_eq_true rfl⟩ hP hD hK hN hm_h0 hk_h0 (by decide) rfl rfl rfl hl.1 rfl (Nat.le_of_ble_eq_true rfl) ⟨Nat.le_of_ble_eq_true rfl, Nat.le_of_ble_eq_true rfl⟩ dX9_copy_33 (fun r_19 hr_19 => ?_)
      refine lv_istore (lv' := [(6, .int r_19), (0, .ref h0), (1, .int p0), (2, .int p1), (3, .int p2), (4, .int p3), (5, .int p4)]) hx hb dX9_copy_36 hl (by decide) rfl (fun ls hl => ?_)
      refine lv_aload_n hx hb dX9_copy_38 rfl (lv_at hl 1 rfl) ?_
      refine lv_iload hx hb dX9_copy_39 (lv_at hl 0 rfl) ?_
      refine lv_aload_n hx hb dX9_copy_41 rfl (lv_at hl 1 rfl) ?_
      refine lv_iload_n hx hb dX9_copy_42 rfl (lv_at hl 4 rfl) ?_
      refine lv_iload hx hb dX9_copy_43 (lv_at hl 5 rfl) ?_
      refine yVri (As := [.int p2, .int p3]) (rest := [.int r_19, .ref h0]) C0 (g_X9_dayWhy l G S d_1 h0 p2 p3 hSh hm_h0 hk_h0 hId_1) ok_X9_dayWhy (mW450 : Cond.methodLink RX9 206 yX9_dayWhy ∈ wsT) ⟨Nat.le_of_ble_eq_true rfl, Nat.le_of_ble_eq_true rfl⟩ hP hD hK hN hm_h0 hk_h0 (by decide) rfl rfl rfl hl.1 rfl (Nat.le_of_ble_eq_true rfl) ⟨Nat.le_of_ble_eq_true rfl, Nat.le_of_ble_eq_true rfl⟩ dX9_copy_45 (fun r_20 hr_20 => ?_)
      refine yVri (As := [.int r_19, .int r_20]) (rest := []) C0 (g_X9_lesser l G S d_1 h0 r_19 r_20 hSh hm_h0 hk_h0 (by refine ⟨?_, ?_⟩ <;> omega) (by refine ⟨?_, ?_⟩ <;> omega)) ok_X9_lesser (mW489 : Cond.methodLink RX9 209 yX9_lesser ∈ wsT) ⟨Nat.le_of_ble_eq_true rfl, Nat.le_of_ble_eq_true rfl⟩ hP hD hK hN hm_h0 hk_h0 (by decide) rfl rfl rfl hl.1 rfl (Nat.le_of_ble_eq_true rfl) ⟨Nat.le_of_ble_eq_true rfl, Nat.le_of_ble_eq_true rfl⟩ dX9_copy_48 (fun r_21 hr_21 => ?_)
      refine lv_istore (lv' := [(6, .int r_21), (0, .ref h0), (1, .int p0), (2, .int p1), (3, .int p2), (4, .int p3), (5, .int p4)]) hx hb dX9_copy_51 hl (by decide) rfl (fun ls hl => ?_)
      refine lv_iload hx hb dX9_copy_53 (lv_at hl 0 rfl) ?_
      refine lv_if_eq (tgt := 65) hx hb dX9_copy_55 (by decide) (fun c_22 => ?_) (fun c_22 => ?_)
      · refine lv_iconst (v := 0) hx hb dX9_copy_65 (by decide) ?_
        refine lv_istore (lv' := [(7, .int 0), (6, .int r_21), (0, .ref h0), (1, .int p0), (2, .int p1), (3, .int p2), (4, .int p3), (5, .int p4)]) hx hb dX9_copy_66 hl (by decide) rfl (fun ls hl => ?_)
        refine lv_iconst (v := 0) hx hb dX9_copy_68 (by decide) ?_
        refine lv_istore (lv' := [(8, .int 0), (7, .int 0), (6, .int r_21), (0, .ref h0), (1, .int p0), (2, .int p1), (3, .int p2), (4, .int p3), (5, .int p4)]) hx hb dX9_copy_69 hl (by decide) rfl (fun ls hl => ?_)
        have hCC_23 := yMI.c hId_1
        have F_24 := feq (rfl : (r_21 : Int32).toInt = (r_21 : Int32).toInt) (by decide +kernel : (0 : Int32).toInt = 0) c_22
        have hz0_ : (0 : Int32).toInt.toNat = 0 := by decide +kernel
        refine yloop (σ := Int32 × Int32 × yD) (fun x => (2147483647 - (x.2.1 : Int32).toInt).toNat) 71 (fun x H locs ls => va_P G.1 xcl (yW G S x.2.2) H ∧ va_D A (yW G S x.2.2) ∧ va_S A s.heap H locs ∧ yAg S [9, 42, 43, 45, 46, 47, 69, 70, 71, 72, 73] d x.2.2 ∧ yPo S x.2.2 ∧ yK [1, 38] d x.2.2 h0 ∧ yMI S x.2.2 h0 ∧ yAg S [70, 71] d_1 x.2.2 ∧ yK [] d_1 x.2.2 h0 ∧ ((0 ≤ ((x.1) : Int32).toInt ∧ ((x.1) : Int32).toInt ≤ ((x.2.1) : Int32).toInt ∧ ((x.2.1) : Int32).toInt ≤ 5000) ∧ zM1 S d x.2.2 h0 p2 x.1 x.2.1) ∧ lv_has ls 16 [(8, .int x.2.1), (7, .int x.1), (0, .ref h0), (1, .int p0), (2, .int p1), (3, .int p2), (4, .int p3), (5, .int p4)]) (fun x H locs ls hI hnext_28 => ?_) (0, 0, d_1) ⟨hP, hD, hS, hgd_1, hPod_1, hfd_1, hId_1, yAg.rf, yK.rf, ⟨(show (0 ≤ ((0) : Int32).toInt ∧ ((0) : Int32).toInt ≤ ((0) : Int32).toInt ∧ ((0) : Int32).toInt ≤ 5000) from by have hl0_ : (0 : Int32).toInt = 0 := (by decide +kernel); have hl1_ : (0 : Int32).toInt = 0 := (by decide +kernel); have hq0_ : (0 : Int32).toInt = 0 := (by decide +kernel); omega), zM1.ini⟩, lv_sub hl [0, 1, 3, 4, 5, 6, 7, 8] rfl⟩
        obtain ⟨v_25, v_26, d_27⟩ := x
        obtain ⟨hP, hD, hS, hgd_27, hPod_27, hfd_27, hId_27, hLJd_27, hKJd_27, hex_29, hl⟩ := hI
        have hId_27 : yMI S d_27 h0 := hId_27
        have hex_29 : ((0 ≤ ((v_25) : Int32).toInt ∧ ((v_25) : Int32).toInt ≤ ((v_26) : Int32).toInt ∧ ((v_26) : Int32).toInt ≤ 5000) ∧ zM1 S d d_27 h0 p2 v_25 v_26) := hex_29
        have hl : lv_has ls 16 [(8, .int v_26), (7, .int v_25), (0, .ref h0), (1, .int p0), (2, .int p1), (3, .int p2), (4, .int p3), (5, .int p4)] := hl
        have hLJd_27 : yAg S [70, 71] d_1 d_27 := hLJd_27
        have hKJd_27 : yK [] d_1 d_27 h0 := hKJd_27
        have hE0d_27 : (d_27.1 h0 0).toInt = (d_1.1 h0 0).toInt := congrArg Int32.toInt (hKJd_27 0 (by decide))
        have hE1d_27 : (d_27.1 h0 1).toInt = (d_1.1 h0 1).toInt := congrArg Int32.toInt (hKJd_27 1 (by decide))
        have hE2d_27 : (d_27.1 h0 2).toInt = (d_1.1 h0 2).toInt := congrArg Int32.toInt (hKJd_27 2 (by decide))
        have hE3d_27 : (d_27.1 h0 3).toInt = (d_1.1 h0 3).toInt := congrArg Int32.toInt (hKJd_27 3 (by decide))
        have hE63d_27 : (d_27.1 h0 63).toInt = (d_1.1 h0 63).toInt := congrArg Int32.toInt (hKJd_27 63 (by decide))
        have hohex_29 := hex_29.1
        refine lv_iload hx hb dX9_copy_71 (lv_at hl 0 rfl) ?_
        refine lv_aload_n hx hb dX9_copy_73 rfl (lv_at hl 2 rfl) ?_
        refine yget (ci := 9) (k := 1) (v := .int (d_27.1 h0 1)) (C := RX9) (T := TX9) (N := 67) C0 hK hP hm_h0 hk_h0 (by decide) rfl inlX9 (by decide) mW364 (fun _ h9 => h9) rfl dX9_copy_74 ?_
        refine lv_topi (fun z_30 ez_30 => ?_)
        refine lv_icmp_ge (tgt := 131) hx hb dX9_copy_77 (by decide) (fun c_31 => ?_) (fun c_31 => ?_)
        · refine lv_iconst (v := 0) hx hb dX9_copy_131 (by decide) ?_
          refine lv_istore (lv' := [(8, .int 0), (7, .int v_25), (0, .ref h0), (1, .int p0), (2, .int p1), (3, .int p2), (4, .int p3), (5, .int p4)]) hx hb dX9_copy_132 hl (by decide) rfl (fun ls hl => ?_)
          have hCC_32 := yMI.c hId_27
          have T_33 : (z_30 : Int32).toInt = (d_27.1 h0 1).toInt := by rw [ez_30]
          have F_34 := fle (rfl : (z_30 : Int32).toInt = (z_30 : Int32).toInt) (rfl : (v_26 : Int32).toInt = (v_26 : Int32).toInt) c_31
          have hz0_ : (0 : Int32).toInt.toNat = 0 := by decide +kernel
          refine yloop (σ := Int32 × yD) (fun x => (2147483647 - (x.1 : Int32).toInt).toNat) 134 (fun x H locs ls => va_P G.1 xcl (yW G S x.2) H ∧ va_D A (yW G S x.2) ∧ va_S A s.heap H locs ∧ yAg S [9, 42, 43, 45, 46, 47, 69, 70, 71, 72, 73] d x.2 ∧ yPo S x.2 ∧ yK [1, 38] d x.2 h0 ∧ yMI S x.2 h0 ∧ yAg S [72, 73] d_27 x.2 ∧ yK [] d_27 x.2 h0 ∧ ((0 ≤ ((x.1) : Int32).toInt) ∧ zM2 S d x.2 h0 p2 x.1) ∧ lv_has ls 16 [(8, .int x.1), (7, .int v_25), (0, .ref h0), (1, .int p0), (2, .int p1), (3, .int p2), (4, .int p3), (5, .int p4)]) (fun x H locs ls hI hnext_37 => ?_) (0, d_27) ⟨hP, hD, hS, hgd_27, hPod_27, hfd_27, hId_27, yAg.rf, yK.rf, ⟨(show (0 ≤ ((0) : Int32).toInt) from by have hl0_ : (0 : Int32).toInt = 0 := (by decide +kernel); have hq0_ : (0 : Int32).toInt = 0 := (by decide +kernel); omega), zM2.ini⟩, lv_sub hl [0, 1, 2, 3, 4, 5, 6, 7] rfl⟩
          obtain ⟨v_35, d_36⟩ := x
          obtain ⟨hP, hD, hS, hgd_36, hPod_36, hfd_36, hId_36, hLJd_36, hKJd_36, hex_38, hl⟩ := hI
          have hId_36 : yMI S d_36 h0 := hId_36
          have hex_38 : ((0 ≤ ((v_35) : Int32).toInt) ∧ zM2 S d d_36 h0 p2 v_35) := hex_38
          have hl : lv_has ls 16 [(8, .int v_35), (7, .int v_25), (0, .ref h0), (1, .int p0), (2, .int p1), (3, .int p2), (4, .int p3), (5, .int p4)] := hl
          have hLJd_36 : yAg S [72, 73] d_27 d_36 := hLJd_36
          have hKJd_36 : yK [] d_27 d_36 h0 := hKJd_36
          have hE0d_36 : (d_36.1 h0 0).toInt = (d_27.1 h0 0).toInt := congrArg Int32.toInt (hKJd_36 0 (by decide))
          have hE1d_36 : (d_36.1 h0 1).toInt = (d_27.1 h0 1).toInt := congrArg Int32.toInt (hKJd_36 1 (by decide))
          have hE2d_36 : (d_36.1 h0 2).toInt = (d_27.1 h0 2).toInt := congrArg Int32.toInt (hKJd_36 2 (by decide))
          have hE3d_36 : (d_36.1 h0 3).toInt = (d_27.1 h0 3).toInt := congrArg Int32.toInt (hKJd_36 3 (by decide))
          have hE63d_36 : (d_36.1 h0 63).toInt = (d_27.1 h0 63).toInt := congrArg Int32.toInt (hKJd_36 63 (by decide))
          have hohex_38 := hex_38.1
          refine lv_iload hx hb dX9_copy_134 (lv_at hl 0 rfl) ?_
          refine lv_bipush (v := 90) hx hb dX9_copy_136 (by decide) ?_
          refine lv_icmp_ge (tgt := 185) hx hb dX9_copy_138 (by decide) (fun c_39 => ?_) (fun c_39 => ?_)
          · refine lv_iconst (v := 0) hx hb dX9_copy_185 (by decide) ?_
            refine lv_istore (lv' := [(8, .int 0), (7, .int v_25), (0, .ref h0), (1, .int p0), (2, .int p1), (3, .int p2), (4, .int p3), (5, .int p4)]) hx hb dX9_copy_186 hl (by decide) rfl (fun ls hl => ?_)
            refine lv_iconst (v := 0) hx hb dX9_copy_188 (by decide) ?_
            refine lv_istore (lv' := [(9, .int 0), (8, .int 0), (7, .int v_25), (0, .ref h0), (1, .int p0), (2, .int p1), (3, .int p2), (4, .int p3), (5, .int p4)]) hx hb dX9_copy_189 hl (by decide) rfl (fun ls hl => ?_)
            refine lv_aload_n hx hb dX9_copy_191 rfl (lv_at hl 3 rfl) ?_
            refine lv_iload_n hx hb dX9_copy_192 rfl (lv_at hl 6 rfl) ?_
            refine lv_iconst (v := 2) hx hb dX9_copy_193 (by decide) ?_
            have F_40 := fle (by decide +kernel : (90 : Int32).toInt = 90) (rfl : (v_35 : Int32).toInt = (v_35 : Int32).toInt) c_39
            refine yVri (As := [.int p2, .int 2]) (rest := []) C0 (g_X9_of l G S d_36 h0 p2 2 hSh hm_h0 hk_h0 (by refine ⟨?_, ?_⟩ <;> omega) (by decide +kernel)) ok_X9_of (mW425 : Cond.methodLink RX9 161 yX9_of ∈ wsT) ⟨Nat.le_of_ble_eq_true rfl, Nat.le_of_ble_eq_true rfl⟩ hP hD hK hN hm_h0 hk_h0 (by decide) rfl rfl rfl hl.1 rfl (Nat.le_of_ble_eq_true rfl) ⟨Nat.le_of_ble_eq_true rfl, Nat.le_of_ble_eq_true rfl⟩ dX9_copy_194 (fun r_41 hr_41 => ?_)
            have hOr_41 : (r_41 : Int32).toInt = yOf S d_36 h0 (p2 : Int32).toInt.toNat 2 := by rw [hr_41, show (2 : Int32).toInt.toNat = 2 by decide +kernel]; rfl
            have hCC_42 := yMI.c hId_36
            have hbr_41 := xof2 hId_36 (p := p2) (by refine ⟨?_, ?_⟩ <;> omega) hr_41
            refine lv_istore (lv' := [(10, .int r_41), (9, .int 0), (8, .int 0), (7, .int v_25), (0, .ref h0), (1, .int p0), (2, .int p1), (3, .int p2), (4, .int p3), (5, .int p4)]) hx hb dX9_copy_197 hl (by decide) rfl (fun ls hl => ?_)
            have hz0_ : (0 : Int32).toInt.toNat = 0 := by decide +kernel
            have hbb_ : (d.1 h0 1).toInt ≤ 5000 := hI.c.2.1.2
            have he0_ : (z_30 : Int32).toInt = (d.1 h0 1).toInt := by omega
            refine yloop (σ := Int32 × Int32 × yD) (fun x => (2147483647 - (x.1 : Int32).toInt).toNat + (if x.2.1 = 0 then 1 else 0)) 199 (fun x H locs ls => va_P G.1 xcl (yW G S x.2.2) H ∧ va_D A (yW G S x.2.2) ∧ va_S A s.heap H locs ∧ yAg S [9, 42, 43, 45, 46, 47, 69, 70, 71, 72, 73] d x.2.2 ∧ yPo S x.2.2 ∧ yK [1, 38] d x.2.2 h0 ∧ yMI S x.2.2 h0 ∧ yAg S [9, 42, 43, 45, 46, 47] d_36 x.2.2 ∧ yK [1] d_36 x.2.2 h0 ∧ ((0 ≤ ((x.1) : Int32).toInt ∧ 0 ≤ ((x.2.1) : Int32).toInt ∧ ((x.2.1) : Int32).toInt ≤ 5) ∧ zM3 S d x.2.2 h0 p0 p1 p2 p3 p4 v_25 x.1 x.2.1) ∧ lv_has ls 16 [(10, .int r_41), (9, .int x.2.1), (8, .int x.1), (7, .int v_25), (0, .ref h0), (1, .int p0), (2, .int p1), (4, .int p3), (5, .int p4)]) (fun x H locs ls hI hnext_46 => ?_) (0, 0, d_36) ⟨hP, hD, hS, hgd_36, hPod_36, hfd_36, hId_36, yAg.rf, yK.rf, ⟨(show (0 ≤ ((0) : Int32).toInt ∧ 0 ≤ ((0) : Int32).toInt ∧ ((0) : Int32).toInt ≤ 5) from by have hl0_ : (0 : Int32).toInt = 0 := (by decide +kernel); have hl1_ : (0 : Int32).toInt = 0 := (by decide +kernel); have hq0_ : (0 : Int32).toInt = 0 := (by decide +kernel); omega), (zM3.ini hex_29.2 he0_ c_31 hex_38.2 c_39 hbb_ (zMe.ag (zMe.ag (zMe.ag zMe.rf hSh hm_h0 hk_h0 hsd_1 (show yK [38] d d_1 h0 from by rw [ed_1]; exact yK.i yK.rf (by decide)) (by decide) (by decide)) hSh hm_h0 hk_h0 hLJd_27 hKJd_27 (by decide) (by decide)) hSh hm_h0 hk_h0 hLJd_36 hKJd_36 (by decide) (by decide)) (hLJd_36 _ (by rw [(ySh.f9_40 hSh h0 hm_h0 hk_h0).2]; decide)).2.2.2.1 (hLJd_36 _ (by rw [(ySh.f9_41 hSh h0 hm_h0 hk_h0).2]; decide)).2.2.2.1 rfl rfl)⟩, lv_sub hl [0, 1, 2, 3, 4, 5, 6, 8, 9] rfl⟩
            obtain ⟨v_43, v_44, d_45⟩ := x
            obtain ⟨hP, hD, hS, hgd_45, hPod_45, hfd_45, hId_45, hLJd_45, hKJd_45, hex_47, hl⟩ := hI
            have hId_45 : yMI S d_45 h0 := hId_45
            have hex_47 : ((0 ≤ ((v_43) : Int32).toInt ∧ 0 ≤ ((v_44) : Int32).toInt ∧ ((v_44) : Int32).toInt ≤ 5) ∧ zM3 S d d_45 h0 p0 p1 p2 p3 p4 v_25 v_43 v_44) := hex_47
            have hl : lv_has ls 16 [(10, .int r_41), (9, .int v_44), (8, .int v_43), (7, .int v_25), (0, .ref h0), (1, .int p0), (2, .int p1), (4, .int p3), (5, .int p4)] := hl
            have hLJd_45 : yAg S [9, 42, 43, 45, 46, 47] d_36 d_45 := hLJd_45
            have hKJd_45 : yK [1] d_36 d_45 h0 := hKJd_45
            have hE0d_45 : (d_45.1 h0 0).toInt = (d_36.1 h0 0).toInt := congrArg Int32.toInt (hKJd_45 0 (by decide))
            have hE2d_45 : (d_45.1 h0 2).toInt = (d_36.1 h0 2).toInt := congrArg Int32.toInt (hKJd_45 2 (by decide))
            have hE3d_45 : (d_45.1 h0 3).toInt = (d_36.1 h0 3).toInt := congrArg Int32.toInt (hKJd_45 3 (by decide))
            have hE63d_45 : (d_45.1 h0 63).toInt = (d_36.1 h0 63).toInt := congrArg Int32.toInt (hKJd_45 63 (by decide))
            have hohex_47 := hex_47.1
            refine lv_iload hx hb dX9_copy_199 (lv_at hl 2 rfl) ?_
            refine lv_iload hx hb dX9_copy_201 (lv_at hl 8 rfl) ?_
            refine lv_icmp_ge (tgt := 487) hx hb dX9_copy_203 (by decide) (fun c_48 => ?_) (fun c_48 => ?_)
            · refine lv_iload hx hb dX9_copy_487 (lv_at hl 1 rfl) ?_
              refine lv_if_eq (tgt := 499) hx hb dX9_copy_489 (by decide) (fun c_49 => ?_) (fun c_49 => ?_)
              · refine lv_iload hx hb dX9_copy_499 (lv_at hl 2 rfl) ?_
                have hrf_50 : d_1.2.2.2.2 (S.2.2.1 h0 11) = d.2.2.2.2 (S.2.2.1 h0 11) := (hsd_1 _ (by rw [(ySh.f9_11 hSh h0 hm_h0 hk_h0).2]; decide)).2.2.2.2
                have hrf_50a : yOI S d_1 h0 (p0 : Int32).toInt.toNat = yOI S d h0 (p0 : Int32).toInt.toNat := by unfold yOI; rw [hrf_50]
                have hrf_50b : yOf S d_1 h0 (p0 : Int32).toInt.toNat 2 = yOf S d h0 (p0 : Int32).toInt.toNat 2 := by unfold yOf; rw [hrf_50]
                have hrf_51 : d_1.2.2.2.2 (S.2.2.1 h0 11) = d.2.2.2.2 (S.2.2.1 h0 11) := (hsd_1 _ (by rw [(ySh.f9_11 hSh h0 hm_h0 hk_h0).2]; decide)).2.2.2.2
                have hrf_51a : yOI S d_1 h0 (p2 : Int32).toInt.toNat = yOI S d h0 (p2 : Int32).toInt.toNat := by unfold yOI; rw [hrf_51]
                have hrf_51b : yOf S d_1 h0 (p2 : Int32).toInt.toNat 2 = yOf S d h0 (p2 : Int32).toInt.toNat 2 := by unfold yOf; rw [hrf_51]
                have hrf_52 : d_36.2.2.2.2 (S.2.2.1 h0 11) = d.2.2.2.2 (S.2.2.1 h0 11) := (((hLJd_36 _ (by rw [(ySh.f9_11 hSh h0 hm_h0 hk_h0).2]; decide)).2.2.2.2).trans (((hLJd_27 _ (by rw [(ySh.f9_11 hSh h0 hm_h0 hk_h0).2]; decide)).2.2.2.2).trans (hsd_1 _ (by rw [(ySh.f9_11 hSh h0 hm_h0 hk_h0).2]; decide)).2.2.2.2))
                have hrf_52a : yOI S d_36 h0 (p2 : Int32).toInt.toNat = yOI S d h0 (p2 : Int32).toInt.toNat := by unfold yOI; rw [hrf_52]
                have hrf_52b : yOf S d_36 h0 (p2 : Int32).toInt.toNat 2 = yOf S d h0 (p2 : Int32).toInt.toNat 2 := by unfold yOf; rw [hrf_52]
                have hCC_53 := yMI.c hId_45
                have F_54 := fle (rfl : (p4 : Int32).toInt = (p4 : Int32).toInt) (rfl : (v_43 : Int32).toInt = (v_43 : Int32).toInt) c_48
                have F_55 := feq (rfl : (v_44 : Int32).toInt = (v_44 : Int32).toInt) (by decide +kernel : (0 : Int32).toInt = 0) c_49
                have hz00_ : (0 : Int32).toInt = 0 := by decide +kernel
                have hz11_ : (1 : Int32).toInt = 1 := by decide +kernel
                exact W.iret (v := v_43) hx hb hr (fun t ht hW => ⟨⟨v_43, d_45, rfl, ⟨hgd_45, (fun _ => hPod_45), hfd_45, ⟨hId_45, ⟨fun _ => (zM3.fin hex_47.2 (Or.inl c_48) zMe.rf), fun hn_ => absurd (by omega) hn_⟩⟩⟩, by rw [ht]; exact hP, hD⟩, hS.F ht⟩) hS.2.2 dX9_copy_501
              · refine lv_aload_n hx hb dX9_copy_492 rfl (lv_at hl 4 rfl) ?_
                refine lv_iload hx hb dX9_copy_493 (lv_at hl 1 rfl) ?_
                have F_56 := fle (rfl : (p4 : Int32).toInt = (p4 : Int32).toInt) (rfl : (v_43 : Int32).toInt = (v_43 : Int32).toInt) c_48
                have F_57 := fne (rfl : (v_44 : Int32).toInt = (v_44 : Int32).toInt) (by decide +kernel : (0 : Int32).toInt = 0) c_49
                refine yVwi (As := [.int v_44]) (rest := []) C0 (g_X9_no l G S d_45 h0 v_44 hSh hPod_45 hm_h0 hk_h0 (by refine ⟨?_, ?_⟩ <;> omega)) ok_X9_no (mW177 : Cond.methodLink RX9 168 yX9_no ∈ wsT) ⟨Nat.le_of_ble_eq_true rfl, Nat.le_of_ble_eq_true rfl⟩ hP hD hS hA hK hN hm_h0 hk_h0 (by decide) rfl rfl rfl hl.1 rfl (Nat.le_of_ble_eq_true rfl) ⟨Nat.le_of_ble_eq_true rfl, Nat.le_of_ble_eq_true rfl⟩ dX9_copy_495 (fun r_58 d_59 H locs hr_58 hP hD hS => ?_)
                obtain ⟨hgad_59, hpad_59, hfad_59, hxd_59⟩ := hr_58
                have hfd_59 : yK [1, 38] d d_59 h0 := yK.tr hfd_45 hfad_59 (by decide)
                have hE0d_59 : (d_59.1 h0 0).toInt = (d_45.1 h0 0).toInt := congrArg Int32.toInt (hfad_59 0 (by decide))
                have hE1d_59 : (d_59.1 h0 1).toInt = (d_45.1 h0 1).toInt := congrArg Int32.toInt (hfad_59 1 (by decide))
                have hE2d_59 : (d_59.1 h0 2).toInt = (d_45.1 h0 2).toInt := congrArg Int32.toInt (hfad_59 2 (by decide))
                have hE3d_59 : (d_59.1 h0 3).toInt = (d_45.1 h0 3).toInt := congrArg Int32.toInt (hfad_59 3 (by decide))
                have hE63d_59 : (d_59.1 h0 63).toInt = (d_45.1 h0 63).toInt := congrArg Int32.toInt (hfad_59 63 (by decide))
                have hId_59 : yMI S d_59 h0 := yMI.ag hId_45 hSh hm_h0 hk_h0 hgad_59 hfad_59 (by decide) (by decide)
                have hgd_59 : yAg S [9, 42, 43, 45, 46, 47, 69, 70, 71, 72, 73] d d_59 := yAg.tr hgd_45 hgad_59 (by first | decide | exact fun _ h => h)
                have hPod_59 : yPo S d_59 := hpad_59 hPod_45
                have hm1r_58 : (r_58 : Int32).toInt = -1 := by rw [hxd_59]; decide +kernel
                refine lv_pop hx hb dX9_copy_498 rfl ?_
                refine lv_iload hx hb dX9_copy_499 (lv_at hl 2 rfl) ?_
                have hrf_60 : d_1.2.2.2.2 (S.2.2.1 h0 11) = d.2.2.2.2 (S.2.2.1 h0 11) := (hsd_1 _ (by rw [(ySh.f9_11 hSh h0 hm_h0 hk_h0).2]; decide)).2.2.2.2
                have hrf_60a : yOI S d_1 h0 (p0 : Int32).toInt.toNat = yOI S d h0 (p0 : Int32).toInt.toNat := by unfold yOI; rw [hrf_60]
                have hrf_60b : yOf S d_1 h0 (p0 : Int32).toInt.toNat 2 = yOf S d h0 (p0 : Int32).toInt.toNat 2 := by unfold yOf; rw [hrf_60]
                have hrf_61 : d_1.2.2.2.2 (S.2.2.1 h0 11) = d.2.2.2.2 (S.2.2.1 h0 11) := (hsd_1 _ (by rw [(ySh.f9_11 hSh h0 hm_h0 hk_h0).2]; decide)).2.2.2.2
                have hrf_61a : yOI S d_1 h0 (p2 : Int32).toInt.toNat = yOI S d h0 (p2 : Int32).toInt.toNat := by unfold yOI; rw [hrf_61]
                have hrf_61b : yOf S d_1 h0 (p2 : Int32).toInt.toNat 2 = yOf S d h0 (p2 : Int32).toInt.toNat 2 := by unfold yOf; rw [hrf_61]
                have hrf_62 : d_36.2.2.2.2 (S.2.2.1 h0 11) = d.2.2.2.2 (S.2.2.1 h0 11) := (((hLJd_36 _ (by rw [(ySh.f9_11 hSh h0 hm_h0 hk_h0).2]; decide)).2.2.2.2).trans (((hLJd_27 _ (by rw [(ySh.f9_11 hSh h0 hm_h0 hk_h0).2]; decide)).2.2.2.2).trans (hsd_1 _ (by rw [(ySh.f9_11 hSh h0 hm_h0 hk_h0).2]; decide)).2.2.2.2))
                have hrf_62a : yOI S d_36 h0 (p2 : Int32).toInt.toNat = yOI S d h0 (p2 : Int32).toInt.toNat := by unfold yOI; rw [hrf_62]
                have hrf_62b : yOf S d_36 h0 (p2 : Int32).toInt.toNat 2 = yOf S d h0 (p2 : Int32).toInt.toNat 2 := by unfold yOf; rw [hrf_62]
                have hCC_63 := yMI.c hId_59
                have hz00_ : (0 : Int32).toInt = 0 := by decide +kernel
                have hz11_ : (1 : Int32).toInt = 1 := by decide +kernel
                exact W.iret (v := v_43) hx hb hr (fun t ht hW => ⟨⟨v_43, d_59, rfl, ⟨hgd_59, (fun _ => hPod_59), hfd_59, ⟨hId_59, ⟨fun _ => (zM3.fin hex_47.2 (Or.inl c_48) (zMe.ag zMe.rf hSh hm_h0 hk_h0 hgad_59 hfad_59 (by decide) (by decide))), fun hn_ => absurd (by omega) hn_⟩⟩⟩, by rw [ht]; exact hP, hD⟩, hS.F ht⟩) hS.2.2 dX9_copy_501
            · refine lv_iload hx hb dX9_copy_206 (lv_at hl 1 rfl) ?_
              refine lv_if_ne (tgt := 487) hx hb dX9_copy_208 (by decide) (fun c_64 => ?_) (fun c_64 => ?_)
              · refine lv_iload hx hb dX9_copy_487 (lv_at hl 1 rfl) ?_
                refine lv_if_eq (tgt := 499) hx hb dX9_copy_489 (by decide) (fun c_65 => ?_) (fun c_65 => ?_)
                · refine lv_iload hx hb dX9_copy_499 (lv_at hl 2 rfl) ?_
                  have hrf_66 : d_1.2.2.2.2 (S.2.2.1 h0 11) = d.2.2.2.2 (S.2.2.1 h0 11) := (hsd_1 _ (by rw [(ySh.f9_11 hSh h0 hm_h0 hk_h0).2]; decide)).2.2.2.2
                  have hrf_66a : yOI S d_1 h0 (p0 : Int32).toInt.toNat = yOI S d h0 (p0 : Int32).toInt.toNat := by unfold yOI; rw [hrf_66]
                  have hrf_66b : yOf S d_1 h0 (p0 : Int32).toInt.toNat 2 = yOf S d h0 (p0 : Int32).toInt.toNat 2 := by unfold yOf; rw [hrf_66]
                  have hrf_67 : d_1.2.2.2.2 (S.2.2.1 h0 11) = d.2.2.2.2 (S.2.2.1 h0 11) := (hsd_1 _ (by rw [(ySh.f9_11 hSh h0 hm_h0 hk_h0).2]; decide)).2.2.2.2
                  have hrf_67a : yOI S d_1 h0 (p2 : Int32).toInt.toNat = yOI S d h0 (p2 : Int32).toInt.toNat := by unfold yOI; rw [hrf_67]
                  have hrf_67b : yOf S d_1 h0 (p2 : Int32).toInt.toNat 2 = yOf S d h0 (p2 : Int32).toInt.toNat 2 := by unfold yOf; rw [hrf_67]
                  have hrf_68 : d_36.2.2.2.2 (S.2.2.1 h0 11) = d.2.2.2.2 (S.2.2.1 h0 11) := (((hLJd_36 _ (by rw [(ySh.f9_11 hSh h0 hm_h0 hk_h0).2]; decide)).2.2.2.2).trans (((hLJd_27 _ (by rw [(ySh.f9_11 hSh h0 hm_h0 hk_h0).2]; decide)).2.2.2.2).trans (hsd_1 _ (by rw [(ySh.f9_11 hSh h0 hm_h0 hk_h0).2]; decide)).2.2.2.2))
                  have hrf_68a : yOI S d_36 h0 (p2 : Int32).toInt.toNat = yOI S d h0 (p2 : Int32).toInt.toNat := by unfold yOI; rw [hrf_68]
                  have hrf_68b : yOf S d_36 h0 (p2 : Int32).toInt.toNat 2 = yOf S d h0 (p2 : Int32).toInt.toNat 2 := by unfold yOf; rw [hrf_68]
                  have hCC_69 := yMI.c hId_45
                  have F_70 := fnle (rfl : (p4 : Int32).toInt = (p4 : Int32).toInt) (rfl : (v_43 : Int32).toInt = (v_43 : Int32).toInt) c_48
                  have F_71 := fne (rfl : (v_44 : Int32).toInt = (v_44 : Int32).toInt) (by decide +kernel : (0 : Int32).toInt = 0) c_64
                  have F_72 := feq (rfl : (v_44 : Int32).toInt = (v_44 : Int32).toInt) (by decide +kernel : (0 : Int32).toInt = 0) c_65
                  have hz00_ : (0 : Int32).toInt = 0 := by decide +kernel
                  have hz11_ : (1 : Int32).toInt = 1 := by decide +kernel
                  exact W.iret (v := v_43) hx hb hr (fun t ht hW => ⟨⟨v_43, d_45, rfl, ⟨hgd_45, (fun _ => hPod_45), hfd_45, ⟨hId_45, ⟨fun _ => (zM3.fin hex_47.2 (Or.inr (by omega)) zMe.rf), fun hn_ => absurd (by omega) hn_⟩⟩⟩, by rw [ht]; exact hP, hD⟩, hS.F ht⟩) hS.2.2 dX9_copy_501
                · refine lv_aload_n hx hb dX9_copy_492 rfl (lv_at hl 4 rfl) ?_
                  refine lv_iload hx hb dX9_copy_493 (lv_at hl 1 rfl) ?_
                  have F_73 := fnle (rfl : (p4 : Int32).toInt = (p4 : Int32).toInt) (rfl : (v_43 : Int32).toInt = (v_43 : Int32).toInt) c_48
                  have F_74 := fne (rfl : (v_44 : Int32).toInt = (v_44 : Int32).toInt) (by decide +kernel : (0 : Int32).toInt = 0) c_64
                  have F_75 := fne (rfl : (v_44 : Int32).toInt = (v_44 : Int32).toInt) (by decide +kernel : (0 : Int32).toInt = 0) c_65
                  refine yVwi (As := [.int v_44]) (rest := []) C0 (g_X9_no l G S d_45 h0 v_44 hSh hPod_45 hm_h0 hk_h0 (by refine ⟨?_, ?_⟩ <;> omega)) ok_X9_no (mW177 : Cond.methodLink RX9 168 yX9_no ∈ wsT) ⟨Nat.le_of_ble_eq_true rfl, Nat.le_of_ble_eq_true rfl⟩ hP hD hS hA hK hN hm_h0 hk_h0 (by decide) rfl rfl rfl hl.1 rfl (Nat.le_of_ble_eq_true rfl) ⟨Nat.le_of_ble_eq_true rfl, Nat.le_of_ble_eq_true rfl⟩ dX9_copy_495 (fun r_76 d_77 H locs hr_76 hP hD hS => ?_)
                  obtain ⟨hgad_77, hpad_77, hfad_77, hxd_77⟩ := hr_76
                  have hfd_77 : yK [1, 38] d d_77 h0 := yK.tr hfd_45 hfad_77 (by decide)
                  have hE0d_77 : (d_77.1 h0 0).toInt = (d_45.1 h0 0).toInt := congrArg Int32.toInt (hfad_77 0 (by decide))
                  have hE1d_77 : (d_77.1 h0 1).toInt = (d_45.1 h0 1).toInt := congrArg Int32.toInt (hfad_77 1 (by decide))
                  have hE2d_77 : (d_77.1 h0 2).toInt = (d_45.1 h0 2).toInt := congrArg Int32.toInt (hfad_77 2 (by decide))
                  have hE3d_77 : (d_77.1 h0 3).toInt = (d_45.1 h0 3).toInt := congrArg Int32.toInt (hfad_77 3 (by decide))
                  have hE63d_77 : (d_77.1 h0 63).toInt = (d_45.1 h0 63).toInt := congrArg Int32.toInt (hfad_77 63 (by decide))
                  have hId_77 : yMI S d_77 h0 := yMI.ag hId_45 hSh hm_h0 hk_h0 hgad_77 hfad_77 (by decide) (by decide)
                  have hgd_77 : yAg S [9, 42, 43, 45, 46, 47, 69, 70, 71, 72, 73] d d_77 := yAg.tr hgd_45 hgad_77 (by first | decide | exact fun _ h => h)
                  have hPod_77 : yPo S d_77 := hpad_77 hPod_45
                  have hm1r_76 : (r_76 : Int32).toInt = -1 := by rw [hxd_77]; decide +kernel
                  refine lv_pop hx hb dX9_copy_498 rfl ?_
                  refine lv_iload hx hb dX9_copy_499 (lv_at hl 2 rfl) ?_
                  have hrf_78 : d_1.2.2.2.2 (S.2.2.1 h0 11) = d.2.2.2.2 (S.2.2.1 h0 11) := (hsd_1 _ (by rw [(ySh.f9_11 hSh h0 hm_h0 hk_h0).2]; decide)).2.2.2.2
                  have hrf_78a : yOI S d_1 h0 (p0 : Int32).toInt.toNat = yOI S d h0 (p0 : Int32).toInt.toNat := by unfold yOI; rw [hrf_78]
                  have hrf_78b : yOf S d_1 h0 (p0 : Int32).toInt.toNat 2 = yOf S d h0 (p0 : Int32).toInt.toNat 2 := by unfold yOf; rw [hrf_78]
                  have hrf_79 : d_1.2.2.2.2 (S.2.2.1 h0 11) = d.2.2.2.2 (S.2.2.1 h0 11) := (hsd_1 _ (by rw [(ySh.f9_11 hSh h0 hm_h0 hk_h0).2]; decide)).2.2.2.2
                  have hrf_79a : yOI S d_1 h0 (p2 : Int32).toInt.toNat = yOI S d h0 (p2 : Int32).toInt.toNat := by unfold yOI; rw [hrf_79]
                  have hrf_79b : yOf S d_1 h0 (p2 : Int32).toInt.toNat 2 = yOf S d h0 (p2 : Int32).toInt.toNat 2 := by unfold yOf; rw [hrf_79]
                  have hrf_80 : d_36.2.2.2.2 (S.2.2.1 h0 11) = d.2.2.2.2 (S.2.2.1 h0 11) := (((hLJd_36 _ (by rw [(ySh.f9_11 hSh h0 hm_h0 hk_h0).2]; decide)).2.2.2.2).trans (((hLJd_27 _ (by rw [(ySh.f9_11 hSh h0 hm_h0 hk_h0).2]; decide)).2.2.2.2).trans (hsd_1 _ (by rw [(ySh.f9_11 hSh h0 hm_h0 hk_h0).2]; decide)).2.2.2.2))
                  have hrf_80a : yOI S d_36 h0 (p2 : Int32).toInt.toNat = yOI S d h0 (p2 : Int32).toInt.toNat := by unfold yOI; rw [hrf_80]
                  have hrf_80b : yOf S d_36 h0 (p2 : Int32).toInt.toNat 2 = yOf S d h0 (p2 : Int32).toInt.toNat 2 := by unfold yOf; rw [hrf_80]
                  have hCC_81 := yMI.c hId_77
                  have hz00_ : (0 : Int32).toInt = 0 := by decide +kernel
                  have hz11_ : (1 : Int32).toInt = 1 := by decide +kernel
                  exact W.iret (v := v_43) hx hb hr (fun t ht hW => ⟨⟨v_43, d_77, rfl, ⟨hgd_77, (fun _ => hPod_77), hfd_77, ⟨hId_77, ⟨fun _ => (zM3.fin hex_47.2 (Or.inr (by omega)) (zMe.ag zMe.rf hSh hm_h0 hk_h0 hgad_77 hfad_77 (by decide) (by decide))), fun hn_ => absurd (by omega) hn_⟩⟩⟩, by rw [ht]; exact hP, hD⟩, hS.F ht⟩) hS.2.2 dX9_copy_501
              · refine lv_iload_n hx hb dX9_copy_211 rfl (lv_at hl 6 rfl) ?_
                refine lv_iload hx hb dX9_copy_212 (lv_at hl 2 rfl) ?_
                refine lv_iadd hx hb dX9_copy_214 ?_
                refine lv_topi (fun z_82 ez_82 => ?_)
                refine lv_istore (lv' := [(11, .int z_82), (10, .int r_41), (9, .int v_44), (8, .int v_43), (7, .int v_25), (0, .ref h0), (1, .int p0), (2, .int p1), (4, .int p3), (5, .int p4)]) hx hb dX9_copy_215 hl (by decide) rfl (fun ls hl => ?_)
                refine lv_iload hx hb dX9_copy_217 (lv_at hl 8 rfl) ?_
                refine lv_iload hx hb dX9_copy_219 (lv_at hl 3 rfl) ?_
                refine lv_iadd hx hb dX9_copy_221 ?_
                refine lv_topi (fun z_83 ez_83 => ?_)
                refine lv_istore (lv' := [(12, .int z_83), (11, .int z_82), (10, .int r_41), (9, .int v_44), (8, .int v_43), (7, .int v_25), (0, .ref h0), (1, .int p0), (2, .int p1), (4, .int p3), (5, .int p4)]) hx hb dX9_copy_222 hl (by decide) rfl (fun ls hl => ?_)
                refine lv_iload hx hb dX9_copy_224 (lv_at hl 1 rfl) ?_
                refine lv_aload_n hx hb dX9_copy_226 rfl (lv_at hl 6 rfl) ?_
                refine lv_iload_n hx hb dX9_copy_227 rfl (lv_at hl 7 rfl) ?_
                refine lv_iconst (v := 2) hx hb dX9_copy_228 (by decide) ?_
                have F_84 := fnle (rfl : (p4 : Int32).toInt = (p4 : Int32).toInt) (rfl : (v_43 : Int32).toInt = (v_43 : Int32).toInt) c_48
                have F_85 := feq (rfl : (v_44 : Int32).toInt = (v_44 : Int32).toInt) (by decide +kernel : (0 : Int32).toInt = 0) c_64
                refine yVri (As := [.int p0, .int 2]) (rest := [.int z_82]) C0 (g_X9_of l G S d_45 h0 p0 2 hSh hm_h0 hk_h0 (by refine ⟨?_, ?_⟩ <;> omega) (by decide +kernel)) ok_X9_of (mW425 : Cond.methodLink RX9 161 yX9_of ∈ wsT) ⟨Nat.le_of_ble_eq_true rfl, Nat.le_of_ble_eq_true rfl⟩ hP hD hK hN hm_h0 hk_h0 (by decide) rfl rfl rfl hl.1 rfl (Nat.le_of_ble_eq_true rfl) ⟨Nat.le_of_ble_eq_true rfl, Nat.le_of_ble_eq_true rfl⟩ dX9_copy_229 (fun r_86 hr_86 => ?_)
                have hOr_86 : (r_86 : Int32).toInt = yOf S d_45 h0 (p0 : Int32).toInt.toNat 2 := by rw [hr_86, show (2 : Int32).toInt.toNat = 2 by decide +kernel]; rfl
                have hCC_87 := yMI.c hId_45
                have hbr_86 := xof2 hId_45 (p := p0) (by refine ⟨?_, ?_⟩ <;> omega) hr_86
                refine lv_icmp_ge (tgt := 242) hx hb dX9_copy_232 (by decide) (fun c_88 => ?_) (fun c_88 => ?_)
                · refine lv_iconst (v := 4) hx hb dX9_copy_242 (by decide) ?_
                  refine lv_istore (lv' := [(9, .int 4), (12, .int z_83), (11, .int z_82), (10, .int r_41), (8, .int v_43), (7, .int v_25), (0, .ref h0), (1, .int p0), (2, .int p1), (4, .int p3), (5, .int p4)]) hx hb dX9_copy_243 hl (by decide) rfl (fun ls hl => ?_)
                  refine lv_goto (tgt := 484) hx hb dX9_copy_245 (by decide) ?_
                  refine lv_goto (tgt := 199) hx hb dX9_copy_484 (by decide) ?_
                  have T_89 : (z_82 : Int32).toInt = (p1 : Int32).toInt + (v_43 : Int32).toInt := tadd ez_82 (rfl : (p1 : Int32).toInt = (p1 : Int32).toInt) (rfl : (v_43 : Int32).toInt = (v_43 : Int32).toInt) (by omega) (by omega)
                  have F_90 := fle (rfl : (r_86 : Int32).toInt = (r_86 : Int32).toInt) (rfl : (z_82 : Int32).toInt = (z_82 : Int32).toInt) c_88
                  have hrf_91 : d_1.2.2.2.2 (S.2.2.1 h0 11) = d.2.2.2.2 (S.2.2.1 h0 11) := (hsd_1 _ (by rw [(ySh.f9_11 hSh h0 hm_h0 hk_h0).2]; decide)).2.2.2.2
                  have hrf_91a : yOI S d_1 h0 (p0 : Int32).toInt.toNat = yOI S d h0 (p0 : Int32).toInt.toNat := by unfold yOI; rw [hrf_91]
                  have hrf_91b : yOf S d_1 h0 (p0 : Int32).toInt.toNat 2 = yOf S d h0 (p0 : Int32).toInt.toNat 2 := by unfold yOf; rw [hrf_91]
                  have hrf_92 : d_1.2.2.2.2 (S.2.2.1 h0 11) = d.2.2.2.2 (S.2.2.1 h0 11) := (hsd_1 _ (by rw [(ySh.f9_11 hSh h0 hm_h0 hk_h0).2]; decide)).2.2.2.2
                  have hrf_92a : yOI S d_1 h0 (p2 : Int32).toInt.toNat = yOI S d h0 (p2 : Int32).toInt.toNat := by unfold yOI; rw [hrf_92]
                  have hrf_92b : yOf S d_1 h0 (p2 : Int32).toInt.toNat 2 = yOf S d h0 (p2 : Int32).toInt.toNat 2 := by unfold yOf; rw [hrf_92]
                  have hrf_93 : d_36.2.2.2.2 (S.2.2.1 h0 11) = d.2.2.2.2 (S.2.2.1 h0 11) := (((hLJd_36 _ (by rw [(ySh.f9_11 hSh h0 hm_h0 hk_h0).2]; decide)).2.2.2.2).trans (((hLJd_27 _ (by rw [(ySh.f9_11 hSh h0 hm_h0 hk_h0).2]; decide)).2.2.2.2).trans (hsd_1 _ (by rw [(ySh.f9_11 hSh h0 hm_h0 hk_h0).2]; decide)).2.2.2.2))
                  have hrf_93a : yOI S d_36 h0 (p2 : Int32).toInt.toNat = yOI S d h0 (p2 : Int32).toInt.toNat := by unfold yOI; rw [hrf_93]
                  have hrf_93b : yOf S d_36 h0 (p2 : Int32).toInt.toNat 2 = yOf S d h0 (p2 : Int32).toInt.toNat 2 := by unfold yOf; rw [hrf_93]
                  have hrf_94 : d_45.2.2.2.2 (S.2.2.1 h0 11) = d.2.2.2.2 (S.2.2.1 h0 11) := (((hLJd_45 _ (by rw [(ySh.f9_11 hSh h0 hm_h0 hk_h0).2]; decide)).2.2.2.2).trans (((hLJd_36 _ (by rw [(ySh.f9_11 hSh h0 hm_h0 hk_h0).2]; decide)).2.2.2.2).trans (((hLJd_27 _ (by rw [(ySh.f9_11 hSh h0 hm_h0 hk_h0).2]; decide)).2.2.2.2).trans (hsd_1 _ (by rw [(ySh.f9_11 hSh h0 hm_h0 hk_h0).2]; decide)).2.2.2.2)))
                  have hrf_94a : yOI S d_45 h0 (p0 : Int32).toInt.toNat = yOI S d h0 (p0 : Int32).toInt.toNat := by unfold yOI; rw [hrf_94]
                  have hrf_94b : yOf S d_45 h0 (p0 : Int32).toInt.toNat 2 = yOf S d h0 (p0 : Int32).toInt.toNat 2 := by unfold yOf; rw [hrf_94]
                  exact hnext_46 (v_43, 4, d_45) _ _ ls ((show (2147483647 - (v_43 : Int32).toInt).toNat + (if (4 : Int32) = 0 then 1 else 0) < (2147483647 - (v_43 : Int32).toInt).toNat + (if v_44 = 0 then 1 else 0) from by rw [if_pos c_64, if_neg (by decide +kernel)]; omega)) ⟨hP, hD, hS, hgd_45, hPod_45, hfd_45, hId_45, hLJd_45, hKJd_45, ⟨(show (0 ≤ ((v_43) : Int32).toInt ∧ 0 ≤ ((4) : Int32).toInt ∧ ((4) : Int32).toInt ≤ 5) from by have hl1_ : (4 : Int32).toInt = 4 := (by decide +kernel); have hq0_ : (0 : Int32).toInt = 0 := (by decide +kernel); omega), (zM3.s4 hex_47.2 ez_82 ez_83 (DP := r_86) (DQ := r_41) (by omega) (by omega) (Or.inl c_88) 4)⟩, lv_sub hl [3, 0, 4, 5, 6, 7, 8, 9, 10] rfl⟩
                · refine lv_iload hx hb dX9_copy_235 (lv_at hl 0 rfl) ?_
                  refine lv_iload hx hb dX9_copy_237 (lv_at hl 2 rfl) ?_
                  refine lv_icmp_lt (tgt := 248) hx hb dX9_copy_239 (by decide) (fun c_95 => ?_) (fun c_95 => ?_)
                  · refine lv_iconst (v := 0) hx hb dX9_copy_248 (by decide) ?_
                    refine lv_istore (lv' := [(13, .int 0), (12, .int z_83), (11, .int z_82), (10, .int r_41), (9, .int v_44), (8, .int v_43), (7, .int v_25), (0, .ref h0), (1, .int p0), (2, .int p1), (4, .int p3), (5, .int p4)]) hx hb dX9_copy_249 hl (by decide) rfl (fun ls hl => ?_)
                    refine lv_iconst (v := 0) hx hb dX9_copy_251 (by decide) ?_
                    refine lv_istore (lv' := [(14, .int 0), (13, .int 0), (12, .int z_83), (11, .int z_82), (10, .int r_41), (9, .int v_44), (8, .int v_43), (7, .int v_25), (0, .ref h0), (1, .int p0), (2, .int p1), (4, .int p3), (5, .int p4)]) hx hb dX9_copy_252 hl (by decide) rfl (fun ls hl => ?_)
                    have T_96 : (z_82 : Int32).toInt = (p1 : Int32).toInt + (v_43 : Int32).toInt := tadd ez_82 (rfl : (p1 : Int32).toInt = (p1 : Int32).toInt) (rfl : (v_43 : Int32).toInt = (v_43 : Int32).toInt) (by omega) (by omega)
                    have F_97 := fnle (rfl : (r_86 : Int32).toInt = (r_86 : Int32).toInt) (rfl : (z_82 : Int32).toInt = (z_82 : Int32).toInt) c_88
                    have T_98 : (z_83 : Int32).toInt = (p3 : Int32).toInt + (v_43 : Int32).toInt := tadd ez_83 (rfl : (p3 : Int32).toInt = (p3 : Int32).toInt) (rfl : (v_43 : Int32).toInt = (v_43 : Int32).toInt) (by omega) (by omega)
                    have F_99 := flt (rfl : (z_83 : Int32).toInt = (z_83 : Int32).toInt) (rfl : (r_41 : Int32).toInt = (r_41 : Int32).toInt) c_95
                    have hz0_ : (0 : Int32).toInt.toNat = 0 := by decide +kernel
                    have hc0_ : ycn (yPm S d_45 h0 z_83) (0 : Int32).toInt.toNat = 0 := by rw [hz0_]; rfl
                    refine yloopR (σ := Int32 × Int32) (fun x => (2147483647 - (x.2 : Int32).toInt).toNat) 254 (fun x ls => (0 ≤ ((x.2) : Int32).toInt ∧ ((x.2) : Int32).toInt ≤ (v_25 : Int32).toInt ∧ ((x.1) : Int32).toInt ≤ ((x.2) : Int32).toInt ∧ ((x.1) : Int32).toInt = (ycn (yPm S d_45 h0 (z_83)) ((x.2) : Int32).toInt.toNat : Int)) ∧ lv_has ls 16 [(14, .int x.2), (13, .int x.1), (12, .int z_83), (11, .int z_82), (10, .int r_41), (9, .int v_44), (8, .int v_43), (7, .int v_25), (0, .ref h0), (1, .int p0), (2, .int p1), (4, .int p3), (5, .int p4)]) (fun x ls hl hnext_102 => ?_) (0, 0) ⟨(show (0 ≤ ((0) : Int32).toInt ∧ ((0) : Int32).toInt ≤ (v_25 : Int32).toInt ∧ ((0) : Int32).toInt ≤ ((0) : Int32).toInt ∧ ((0) : Int32).toInt = (ycn (yPm S d_45 h0 (z_83)) ((0) : Int32).toInt.toNat : Int)) from by have hl0_ : (0 : Int32).toInt = 0 := (by decide +kernel); have hl1_ : (0 : Int32).toInt = 0 := (by decide +kernel); have hq0_ : (0 : Int32).toInt = 0 := (by decide +kernel); omega), lv_sub hl [0, 1, 2, 3, 4, 5, 6, 7, 8, 9, 10, 11, 12] rfl⟩
                    obtain ⟨v_100, v_101⟩ := x
                    obtain ⟨hex_103, hl⟩ := hl
                    have hex_103 : (0 ≤ ((v_101) : Int32).toInt ∧ ((v_101) : Int32).toInt ≤ (v_25 : Int32).toInt ∧ ((v_100) : Int32).toInt ≤ ((v_101) : Int32).toInt ∧ ((v_100) : Int32).toInt = (ycn (yPm S d_45 h0 (z_83)) ((v_101) : Int32).toInt.toNat : Int)) := hex_103
                    have hl : lv_has ls 16 [(14, .int v_101), (13, .int v_100), (12, .int z_83), (11, .int z_82), (10, .int r_41), (9, .int v_44), (8, .int v_43), (7, .int v_25), (0, .ref h0), (1, .int p0), (2, .int p1), (4, .int p3), (5, .int p4)] := hl
                    refine lv_iload hx hb dX9_copy_254 (lv_at hl 0 rfl) ?_
                    refine lv_iload hx hb dX9_copy_256 (lv_at hl 7 rfl) ?_
                    refine lv_icmp_ge (tgt := 286) hx hb dX9_copy_258 (by decide) (fun c_104 => ?_) (fun c_104 => ?_)
                    · refine lv_iconst (v := 0) hx hb dX9_copy_286 (by decide) ?_
                      refine lv_istore (lv' := [(14, .int 0), (13, .int v_100), (12, .int z_83), (11, .int z_82), (10, .int r_41), (9, .int v_44), (8, .int v_43), (7, .int v_25), (0, .ref h0), (1, .int p0), (2, .int p1), (4, .int p3), (5, .int p4)]) hx hb dX9_copy_287 hl (by decide) rfl (fun ls hl => ?_)
                      refine lv_iconst (v := 0) hx hb dX9_copy_289 (by decide) ?_
                      refine lv_istore (lv' := [(15, .int 0), (14, .int 0), (13, .int v_100), (12, .int z_83), (11, .int z_82), (10, .int r_41), (9, .int v_44), (8, .int v_43), (7, .int v_25), (0, .ref h0), (1, .int p0), (2, .int p1), (4, .int p3), (5, .int p4)]) hx hb dX9_copy_290 hl (by decide) rfl (fun ls hl => ?_)
                      have F_105 := fle (rfl : (v_25 : Int32).toInt = (v_25 : Int32).toInt) (rfl : (v_101 : Int32).toInt = (v_101 : Int32).toInt) c_104
                      have hz0_ : (0 : Int32).toInt.toNat = 0 := by decide +kernel
                      have hc0_ : ycn (yPl S d_45 h0 p0 z_82) (0 : Int32).toInt.toNat = 0 := by rw [hz0_]; rfl
                      refine yloopR (σ := Int32 × Int32) (fun x => (2147483647 - (x.2 : Int32).toInt).toNat) 292 (fun x ls => (0 ≤ ((x.2) : Int32).toInt ∧ ((x.2) : Int32).toInt ≤ (d_45.1 h0 1).toInt ∧ ((x.1) : Int32).toInt ≤ ((x.2) : Int32).toInt ∧ ((x.1) : Int32).toInt = (ycn (yPl S d_45 h0 p0 (z_82)) ((x.2) : Int32).toInt.toNat : Int)) ∧ lv_has ls 16 [(15, .int x.2), (14, .int x.1), (13, .int v_100), (12, .int z_83), (11, .int z_82), (10, .int r_41), (9, .int v_44), (8, .int v_43), (7, .int v_25), (0, .ref h0), (1, .int p0), (2, .int p1), (4, .int p3), (5, .int p4)]) (fun x ls hl hnext_108 => ?_) (0, 0) ⟨(show (0 ≤ ((0) : Int32).toInt ∧ ((0) : Int32).toInt ≤ (d_45.1 h0 1).toInt ∧ ((0) : Int32).toInt ≤ ((0) : Int32).toInt ∧ ((0) : Int32).toInt = (ycn (yPl S d_45 h0 p0 (z_82)) ((0) : Int32).toInt.toNat : Int)) from by have hl0_ : (0 : Int32).toInt = 0 := (by decide +kernel); have hl1_ : (0 : Int32).toInt = 0 := (by decide +kernel); have hq0_ : (0 : Int32).toInt = 0 := (by decide +kernel); omega), lv_sub hl [0, 1, 2, 3, 4, 5, 6, 7, 8, 9, 10, 11, 12, 13] rfl⟩
                      obtain ⟨v_106, v_107⟩ := x
                      obtain ⟨hex_109, hl⟩ := hl
                      have hex_109 : (0 ≤ ((v_107) : Int32).toInt ∧ ((v_107) : Int32).toInt ≤ (d_45.1 h0 1).toInt ∧ ((v_106) : Int32).toInt ≤ ((v_107) : Int32).toInt ∧ ((v_106) : Int32).toInt = (ycn (yPl S d_45 h0 p0 (z_82)) ((v_107) : Int32).toInt.toNat : Int)) := hex_109
                      have hl : lv_has ls 16 [(15, .int v_107), (14, .int v_106), (13, .int v_100), (12, .int z_83), (11, .int z_82), (10, .int r_41), (9, .int v_44), (8, .int v_43), (7, .int v_25), (0, .ref h0), (1, .int p0), (2, .int p1), (4, .int p3), (5, .int p4)] := hl
                      refine lv_iload hx hb dX9_copy_292 (lv_at hl 0 rfl) ?_
                      refine lv_aload_n hx hb dX9_copy_294 rfl (lv_at hl 9 rfl) ?_
                      refine yget (ci := 9) (k := 1) (v := .int (d_45.1 h0 1)) (C := RX9) (T := TX9) (N := 67) C0 hK hP hm_h0 hk_h0 (by decide) rfl inlX9 (by decide) mW364 (fun _ h9 => h9) rfl dX9_copy_295 ?_
                      refine lv_topi (fun z_110 ez_110 => ?_)
                      refine lv_icmp_ge (tgt := 337) hx hb dX9_copy_298 (by decide) (fun c_111 => ?_) (fun c_111 => ?_)
                      · refine lv_aload_n hx hb dX9_copy_337 rfl (lv_at hl 9 rfl) ?_
                        refine yget (ci := 9) (k := 1) (v := .int (d_45.1 h0 1)) (C := RX9) (T := TX9) (N := 67) C0 hK hP hm_h0 hk_h0 (by decide) rfl inlX9 (by decide) mW364 (fun _ h9 => h9) rfl dX9_copy_338 ?_
                        refine lv_topi (fun z_112 ez_112 => ?_)
                        refine lv_iload hx hb dX9_copy_341 (lv_at hl 1 rfl) ?_
                        refine lv_isub hx hb dX9_copy_343 ?_
                        refine lv_topi (fun z_113 ez_113 => ?_)
                        refine lv_iload hx hb dX9_copy_344 (lv_at hl 2 rfl) ?_
                        refine lv_iadd hx hb dX9_copy_346 ?_
                        refine lv_topi (fun z_114 ez_114 => ?_)
                        refine lv_sipush (v := 5000) hx hb dX9_copy_347 (by decide) ?_
                        refine lv_icmp_le (tgt := 359) hx hb dX9_copy_350 (by decide) (fun c_115 => ?_) (fun c_115 => ?_)
                        · have T_116 : (z_110 : Int32).toInt = (d_45.1 h0 1).toInt := by rw [ez_110]
                          have F_117 := fle (rfl : (z_110 : Int32).toInt = (z_110 : Int32).toInt) (rfl : (v_107 : Int32).toInt = (v_107 : Int32).toInt) c_111
                          have T_120 : (z_112 : Int32).toInt = (d_45.1 h0 1).toInt := by rw [ez_112]
                          have T_119 : (z_113 : Int32).toInt = (z_112 : Int32).toInt - (v_106 : Int32).toInt := tsub ez_113 (rfl : (z_112 : Int32).toInt = (z_112 : Int32).toInt) (rfl : (v_106 : Int32).toInt = (v_106 : Int32).toInt) (by omega) (by omega)
                          have T_118 : (z_114 : Int32).toInt = (z_113 : Int32).toInt + (v_100 : Int32).toInt := tadd ez_114 (rfl : (z_113 : Int32).toInt = (z_113 : Int32).toInt) (rfl : (v_100 : Int32).toInt = (v_100 : Int32).toInt) (by omega) (by omega)
                          have F_121 := fle (rfl : (z_114 : Int32).toInt = (z_114 : Int32).toInt) (by decide +kernel : (5000 : Int32).toInt = 5000) c_115
                          have hm1_ : ycn (yPm S d_45 h0 z_83) (v_101 : Int32).toInt.toNat = ycn (yPm S d_45 h0 z_83) (v_25 : Int32).toInt.toNat := by rw [show (v_101 : Int32).toInt.toNat = (v_25 : Int32).toInt.toNat by omega]
                          have hm2_ : ycn (yPl S d_45 h0 p0 z_82) (v_107 : Int32).toInt.toNat = ycn (yPl S d_45 h0 p0 z_82) (d_45.1 h0 1).toInt.toNat := by rw [show (v_107 : Int32).toInt.toNat = (d_45.1 h0 1).toInt.toNat by omega]
                          refine lv_aload_n hx hb dX9_copy_359 rfl (lv_at hl 9 rfl) ?_
                          refine lv_iload_n hx hb dX9_copy_360 rfl (lv_at hl 10 rfl) ?_
                          refine lv_sipush (v := 1440) hx hb dX9_copy_361 (by decide) ?_
                          refine lv_iload hx hb dX9_copy_364 (lv_at hl 4 rfl) ?_
                          refine lv_imul hx hb dX9_copy_366 ?_
                          refine lv_topi (fun z_122 ez_122 => ?_)
                          refine lv_sipush (v := 1440) hx hb dX9_copy_367 (by decide) ?_
                          refine lv_iload hx hb dX9_copy_370 (lv_at hl 4 rfl) ?_
                          refine lv_imul hx hb dX9_copy_372 ?_
                          refine lv_topi (fun z_123 ez_123 => ?_)
                          refine lv_sipush (v := 1440) hx hb dX9_copy_373 (by decide) ?_
                          refine lv_iadd hx hb dX9_copy_376 ?_
                          refine lv_topi (fun z_124 ez_124 => ?_)
                          refine yVwi (As := [.int p0, .int z_122, .int z_124]) (rest := []) C0 (g_X9_clear l G S d_45 h0 p0 z_122 z_124 hSh hPod_45 hm_h0 hk_h0 hId_45) ok_X9_clear (mW360 : Cond.methodLink RX9 183 yX9_clear ∈ wsT) ⟨Nat.le_of_ble_eq_true rfl, Nat.le_of_ble_eq_true rfl⟩ hP hD hS hA hK hN hm_h0 hk_h0 (by decide) rfl rfl rfl hl.1 rfl (Nat.le_of_ble_eq_true rfl) ⟨Nat.le_of_ble_eq_true rfl, Nat.le_of_ble_eq_true rfl⟩ dX9_copy_377 (fun r_125 d_126 H locs hr_125 hP hD hS => ?_)
                          obtain ⟨hgad_126, hpad_126, hfad_126, hxd_126⟩ := hr_125
                          have hfd_126 : yK [1, 38] d d_126 h0 := yK.tr hfd_45 hfad_126 (by decide)
                          have hE0d_126 : (d_126.1 h0 0).toInt = (d_45.1 h0 0).toInt := congrArg Int32.toInt (hfad_126 0 (by decide))
                          have hE2d_126 : (d_126.1 h0 2).toInt = (d_45.1 h0 2).toInt := congrArg Int32.toInt (hfad_126 2 (by decide))
                          have hE3d_126 : (d_126.1 h0 3).toInt = (d_45.1 h0 3).toInt := congrArg Int32.toInt (hfad_126 3 (by decide))
                          have hE63d_126 : (d_126.1 h0 63).toInt = (d_45.1 h0 63).toInt := congrArg Int32.toInt (hfad_126 63 (by decide))
                          have hId_126 : yMI S d_126 h0 := hxd_126.1
                          have hL0d_126 : yAg S [9, 42, 43, 45, 46, 47] d_36 d_126 := yAg.tr hLJd_45 hgad_126 (by first | decide | exact fun _ h => h)
                          have hK0d_126 : yK [1] d_36 d_126 h0 := yK.tr hKJd_45 hfad_126 (by decide)
                          have hgd_126 : yAg S [9, 42, 43, 45, 46, 47, 69, 70, 71, 72, 73] d d_126 := yAg.tr hgd_45 hgad_126 (by first | decide | exact fun _ h => h)
                          have hPod_126 : yPo S d_126 := hpad_126 hPod_45
                          have hcl_ : ycn (yPl S d_45 h0 p0 z_82) (d_45.1 h0 1).toInt.toNat = ycn (yPc S d_45 h0 p0 z_122 z_124) (d_45.1 h0 1).toInt.toNat := ycn_congr (fun k _ => yPlc hId_45 (by refine ⟨?_, ?_⟩ <;> omega) ez_122 (by rw [ez_124, ez_123]))
                          have hcmd_126 : d_126.2.2.2.1 (S.2.2.1 h0 40) = d_45.2.2.2.1 (S.2.2.1 h0 40) := (hgad_126 _ (by rw [(ySh.f9_40 hSh h0 hm_h0 hk_h0).2]; decide)).2.2.2.1
                          have hcqa_ := hxd_126.2.1
                          have hcqb_ := hxd_126.2.2.1
                          have hcqc_ := hxd_126.2.2.2.1
                          refine lv_pop hx hb dX9_copy_380 rfl ?_
                          refine lv_iconst (v := 0) hx hb dX9_copy_381 (by decide) ?_
                          refine lv_istore (lv' := [(15, .int 0), (14, .int v_106), (13, .int v_100), (12, .int z_83), (11, .int z_82), (10, .int r_41), (9, .int v_44), (8, .int v_43), (7, .int v_25), (0, .ref h0), (1, .int p0), (2, .int p1), (4, .int p3), (5, .int p4)]) hx hb dX9_copy_382 hl (by decide) rfl (fun ls hl => ?_)
                          have hCC_127 := yMI.c hId_126
                          have hz0_ : (0 : Int32).toInt.toNat = 0 := by decide +kernel
                          have hc0_ : ycn (yPm S d_45 h0 z_83) (0 : Int32).toInt.toNat = 0 := by rw [hz0_]; rfl
                          have hrf_128 : d_1.2.2.2.2 (S.2.2.1 h0 11) = d.2.2.2.2 (S.2.2.1 h0 11) := (hsd_1 _ (by rw [(ySh.f9_11 hSh h0 hm_h0 hk_h0).2]; decide)).2.2.2.2
                          have hrf_128a : yOI S d_1 h0 (p0 : Int32).toInt.toNat = yOI S d h0 (p0 : Int32).toInt.toNat := by unfold yOI; rw [hrf_128]
                          have hrf_128b : yOf S d_1 h0 (p0 : Int32).toInt.toNat 2 = yOf S d h0 (p0 : Int32).toInt.toNat 2 := by unfold yOf; rw [hrf_128]
                          have hrf_129 : d_1.2.2.2.2 (S.2.2.1 h0 11) = d.2.2.2.2 (S.2.2.1 h0 11) := (hsd_1 _ (by rw [(ySh.f9_11 hSh h0 hm_h0 hk_h0).2]; decide)).2.2.2.2
                          have hrf_129a : yOI S d_1 h0 (p2 : Int32).toInt.toNat = yOI S d h0 (p2 : Int32).toInt.toNat := by unfold yOI; rw [hrf_129]
                          have hrf_129b : yOf S d_1 h0 (p2 : Int32).toInt.toNat 2 = yOf S d h0 (p2 : Int32).toInt.toNat 2 := by unfold yOf; rw [hrf_129]
                          have hrf_130 : d_36.2.2.2.2 (S.2.2.1 h0 11) = d.2.2.2.2 (S.2.2.1 h0 11) := (((hLJd_36 _ (by rw [(ySh.f9_11 hSh h0 hm_h0 hk_h0).2]; decide)).2.2.2.2).trans (((hLJd_27 _ (by rw [(ySh.f9_11 hSh h0 hm_h0 hk_h0).2]; decide)).2.2.2.2).trans (hsd_1 _ (by rw [(ySh.f9_11 hSh h0 hm_h0 hk_h0).2]; decide)).2.2.2.2))
                          have hrf_130a : yOI S d_36 h0 (p2 : Int32).toInt.toNat = yOI S d h0 (p2 : Int32).toInt.toNat := by unfold yOI; rw [hrf_130]
                          have hrf_130b : yOf S d_36 h0 (p2 : Int32).toInt.toNat 2 = yOf S d h0 (p2 : Int32).toInt.toNat 2 := by unfold yOf; rw [hrf_130]
                          have hrf_131 : d_45.2.2.2.2 (S.2.2.1 h0 11) = d.2.2.2.2 (S.2.2.1 h0 11) := (((hLJd_45 _ (by rw [(ySh.f9_11 hSh h0 hm_h0 hk_h0).2]; decide)).2.2.2.2).trans (((hLJd_36 _ (by rw [(ySh.f9_11 hSh h0 hm_h0 hk_h0).2]; decide)).2.2.2.2).trans (((hLJd_27 _ (by rw [(ySh.f9_11 hSh h0 hm_h0 hk_h0).2]; decide)).2.2.2.2).trans (hsd_1 _ (by rw [(ySh.f9_11 hSh h0 hm_h0 hk_h0).2]; decide)).2.2.2.2)))
                          have hrf_131a : yOI S d_45 h0 (p0 : Int32).toInt.toNat = yOI S d h0 (p0 : Int32).toInt.toNat := by unfold yOI; rw [hrf_131]
                          have hrf_131b : yOf S d_45 h0 (p0 : Int32).toInt.toNat 2 = yOf S d h0 (p0 : Int32).toInt.toNat 2 := by unfold yOf; rw [hrf_131]
                          refine yloop (σ := Int32 × yD) (fun x => (2147483647 - (x.1 : Int32).toInt).toNat) 384 (fun x H locs ls => va_P G.1 xcl (yW G S x.2) H ∧ va_D A (yW G S x.2) ∧ va_S A s.heap H locs ∧ yAg S [9, 42, 43, 45, 46, 47, 69, 70, 71, 72, 73] d x.2 ∧ yPo S x.2 ∧ yK [1, 38] d x.2 h0 ∧ yMI S x.2 h0 ∧ yAg S [9, 45, 46, 47] d_126 x.2 ∧ yK [1] d_126 x.2 h0 ∧ yAg S [9, 42, 43, 45, 46, 47] d_36 x.2 ∧ yK [1] d_36 x.2 h0 ∧ ((0 ≤ ((x.1) : Int32).toInt ∧ ((x.1) : Int32).toInt ≤ (v_25 : Int32).toInt ∧ (x.2.1 h0 1).toInt = (d_45.1 h0 1).toInt - (v_106 : Int32).toInt + (ycn (yPm S d_45 h0 (z_83)) ((x.1) : Int32).toInt.toNat : Int)) ∧ zM4 S d x.2 h0 p0 p1 p2 p3 p4 v_43 z_82 z_83 x.1) ∧ lv_has ls 16 [(15, .int x.1), (12, .int z_83), (11, .int z_82), (10, .int r_41), (9, .int v_44), (8, .int v_43), (7, .int v_25), (0, .ref h0), (1, .int p0), (2, .int p1), (4, .int p3), (5, .int p4)]) (fun x H locs ls hI hnext_134 => ?_) (0, d_126) ⟨hP, hD, hS, hgd_126, hPod_126, hfd_126, hId_126, yAg.rf, yK.rf, hL0d_126, hK0d_126, ⟨(show (0 ≤ ((0) : Int32).toInt ∧ ((0) : Int32).toInt ≤ (v_25 : Int32).toInt ∧ (d_126.1 h0 1).toInt = (d_45.1 h0 1).toInt - (v_106 : Int32).toInt + (ycn (yPm S d_45 h0 (z_83)) ((0) : Int32).toInt.toNat : Int)) from by have hl0_ : (0 : Int32).toInt = 0 := (by decide +kernel); have hq0_ : (0 : Int32).toInt = 0 := (by decide +kernel); omega), (zM4.ini hex_47.2 ez_82 ez_83 (by omega) (by omega) ez_122 ez_123 ez_124 hxd_126.2.2.2.2)⟩, lv_sub hl [0, 3, 4, 5, 6, 7, 8, 9, 10, 11, 12, 13] rfl⟩
                          obtain ⟨v_132, d_133⟩ := x
                          obtain ⟨hP, hD, hS, hgd_133, hPod_133, hfd_133, hId_133, hLJd_133, hKJd_133, hL0d_133, hK0d_133, hex_135, hl⟩ := hI
                          have hId_133 : yMI S d_133 h0 := hId_133
                          have hex_135 : ((0 ≤ ((v_132) : Int32).toInt ∧ ((v_132) : Int32).toInt ≤ (v_25 : Int32).toInt ∧ (d_133.1 h0 1).toInt = (d_45.1 h0 1).toInt - (v_106 : Int32).toInt + (ycn (yPm S d_45 h0 (z_83)) ((v_132) : Int32).toInt.toNat : Int)) ∧ zM4 S d d_133 h0 p0 p1 p2 p3 p4 v_43 z_82 z_83 v_132) := hex_135
                          have hl : lv_has ls 16 [(15, .int v_132), (12, .int z_83), (11, .int z_82), (10, .int r_41), (9, .int v_44), (8, .int v_43), (7, .int v_25), (0, .ref h0), (1, .int p0), (2, .int p1), (4, .int p3), (5, .int p4)] := hl
                          have hLJd_133 : yAg S [9, 45, 46, 47] d_126 d_133 := hLJd_133
                          have hKJd_133 : yK [1] d_126 d_133 h0 := hKJd_133
                          have hE0d_133 : (d_133.1 h0 0).toInt = (d_126.1 h0 0).toInt := congrArg Int32.toInt (hKJd_133 0 (by decide))
                          have hE2d_133 : (d_133.1 h0 2).toInt = (d_126.1 h0 2).toInt := congrArg Int32.toInt (hKJd_133 2 (by decide))
                          have hE3d_133 : (d_133.1 h0 3).toInt = (d_126.1 h0 3).toInt := congrArg Int32.toInt (hKJd_133 3 (by decide))
                          have hE63d_133 : (d_133.1 h0 63).toInt = (d_126.1 h0 63).toInt := congrArg Int32.toInt (hKJd_133 63 (by decide))
                          have hohex_135 := hex_135.1
                          have hcmd_133 : d_133.2.2.2.1 (S.2.2.1 h0 40) = d_45.2.2.2.1 (S.2.2.1 h0 40) := (hLJd_133 _ (by rw [(ySh.f9_40 hSh h0 hm_h0 hk_h0).2]; decide)).2.2.2.1.trans hcmd_126
                          refine lv_iload hx hb dX9_copy_384 (lv_at hl 0 rfl) ?_
                          refine lv_iload hx hb dX9_copy_386 (lv_at hl 6 rfl) ?_
                          refine lv_icmp_ge (tgt := 443) hx hb dX9_copy_388 (by decide) (fun c_136 => ?_) (fun c_136 => ?_)
                          · refine lv_aload_n hx hb dX9_copy_443 rfl (lv_at hl 7 rfl) ?_
                            refine yget (ci := 9) (k := 12) (v := .ref (S.2.2.1 h0 12)) (C := RX9) (T := TX9) (N := 67) C0 hK hP hm_h0 hk_h0 (by decide) rfl inlX9 (by decide) mW118 (fun _ h9 => h9) rfl dX9_copy_444 ?_
                            obtain ⟨hmy_137, hky_137⟩ := ySh.f9_12 hSh _ hm_h0 hk_h0
                            refine lv_bipush (v := 90) hx hb dX9_copy_447 (by decide) ?_
                            refine lv_iload_n hx hb dX9_copy_449 rfl (lv_at hl 8 rfl) ?_
                            refine lv_imul hx hb dX9_copy_450 ?_
                            refine lv_topi (fun z_138 ez_138 => ?_)
                            refine lv_iload hx hb dX9_copy_451 (lv_at hl 2 rfl) ?_
                            refine lv_iadd hx hb dX9_copy_453 ?_
                            refine lv_topi (fun z_139 ez_139 => ?_)
                            refine lv_aload_n hx hb dX9_copy_454 rfl (lv_at hl 7 rfl) ?_
                            refine yget (ci := 9) (k := 42) (v := .ref (S.2.2.1 h0 42)) (C := RX9) (T := TX9) (N := 67) C0 hK hP hm_h0 hk_h0 (by decide) rfl inlX9 (by decide) mW147 (fun _ h9 => h9) rfl dX9_copy_455 ?_
                            obtain ⟨hmy_140, hky_140⟩ := ySh.f9_42 hSh _ hm_h0 hk_h0
                            refine lv_iload hx hb dX9_copy_458 (lv_at hl 1 rfl) ?_
                            have hCC_141 := yMI.c hId_133
                            have F_142 := fle (rfl : (v_25 : Int32).toInt = (v_25 : Int32).toInt) (rfl : (v_132 : Int32).toInt = (v_132 : Int32).toInt) c_136
                            refine yaldS C0 hK hP hmy_140 hky_140 (by decide) rfl 2 rfl (xinT 90 rfl (by omega) (by omega)) dX9_copy_460 ?_
                            refine lv_topi (fun z_143 ez_143 => ?_)
                            have T_145 : (z_138 : Int32).toInt = 90 * (p0 : Int32).toInt := tmul ez_138 (by decide +kernel : (90 : Int32).toInt = 90) (rfl : (p0 : Int32).toInt = (p0 : Int32).toInt) (by omega) (by omega)
                            have T_144 : (z_139 : Int32).toInt = (z_138 : Int32).toInt + (z_82 : Int32).toInt := tadd ez_139 (rfl : (z_138 : Int32).toInt = (z_138 : Int32).toInt) (rfl : (z_82 : Int32).toInt = (z_82 : Int32).toInt) (by omega) (by omega)
                            refine yastS C0 hK hP hD hS hmy_137 hky_137 (by decide) rfl 2 rfl (xinT 720 rfl (by omega) (by omega)) dX9_copy_461 (fun H locs hP hD hS => ?_)
                            obtain ⟨d_146, ed_146⟩ : ∃ z : yD, z = ycs d_133 (S.2.2.1 h0 12) (upd (d_133.2.2.2.1 (S.2.2.1 h0 12)) (z_139 : Int32).toNatClampNeg (vp_nar .short z_143)) := ⟨_, rfl⟩
                            rw [← ed_146] at hP hD
                            have hgd_146 : yAg S [9, 42, 43, 45, 46, 47, 69, 70, 71, 72, 73] d d_146 := by rw [ed_146]; exact yAg.cs hgd_133 (by rw [hky_137]; decide)
                            have hsd_146 : yAg S [42] d_133 d_146 := by rw [ed_146]; exact yAg.cs yAg.rf (by rw [hky_137]; decide)
                            have hPod_146 : yPo S d_146 := by rw [ed_146]; exact hPod_133
                            have hfd_146 : yK [1, 38] d d_146 h0 := yK.ag hfd_133 (show yAg S [42] d_133 d_146 from by rw [ed_146]; exact yAg.cs yAg.rf (by rw [hky_137]; decide)) (by rw [hk_h0]; decide)
                            have hL0d_146 : yAg S [9, 42, 43, 45, 46, 47] d_36 d_146 := by rw [ed_146]; exact yAg.cs hL0d_133 (by rw [hky_137]; decide)
                            have hK0d_146 : yK [1] d_36 d_146 h0 := yK.ag hK0d_133 (show yAg S [42] d_133 d_146 from by rw [ed_146]; exact yAg.cs yAg.rf (by rw [hky_137]; decide)) (by rw [hk_h0]; decide)
                            have hId_146 : yMI S d_146 h0 := yMI.ag hId_133 hSh hm_h0 hk_h0 (show yAg S [42] d_133 d_146 from by rw [ed_146]; exact yAg.cs yAg.rf (by rw [hky_137]; decide)) (yK.ag (F := []) yK.rf (show yAg S [42] d_133 d_146 from by rw [ed_146]; exact yAg.cs yAg.rf (by rw [hky_137]; decide)) (by rw [hk_h0]; decide)) (by decide) (by decide)
                            have hE0d_146 : (d_146.1 h0 0).toInt = (d_133.1 h0 0).toInt := congrArg Int32.toInt ((yK.ag (F := []) yK.rf (show yAg S [42] d_133 d_146 from by rw [ed_146]; exact yAg.cs yAg.rf (by rw [hky_137]; decide)) (by rw [hk_h0]; decide)) 0 (by decide))
                            have hE1d_146 : (d_146.1 h0 1).toInt = (d_133.1 h0 1).toInt := congrArg Int32.toInt ((yK.ag (F := []) yK.rf (show yAg S [42] d_133 d_146 from by rw [ed_146]; exact yAg.cs yAg.rf (by rw [hky_137]; decide)) (by rw [hk_h0]; decide)) 1 (by decide))
                            have hE2d_146 : (d_146.1 h0 2).toInt = (d_133.1 h0 2).toInt := congrArg Int32.toInt ((yK.ag (F := []) yK.rf (show yAg S [42] d_133 d_146 from by rw [ed_146]; exact yAg.cs yAg.rf (by rw [hky_137]; decide)) (by rw [hk_h0]; decide)) 2 (by decide))
                            have hE3d_146 : (d_146.1 h0 3).toInt = (d_133.1 h0 3).toInt := congrArg Int32.toInt ((yK.ag (F := []) yK.rf (show yAg S [42] d_133 d_146 from by rw [ed_146]; exact yAg.cs yAg.rf (by rw [hky_137]; decide)) (by rw [hk_h0]; decide)) 3 (by decide))
                            have hE63d_146 : (d_146.1 h0 63).toInt = (d_133.1 h0 63).toInt := congrArg Int32.toInt ((yK.ag (F := []) yK.rf (show yAg S [42] d_133 d_146 from by rw [ed_146]; exact yAg.cs yAg.rf (by rw [hky_137]; decide)) (by rw [hk_h0]; decide)) 63 (by decide))
                            refine lv_aload_n hx hb dX9_copy_462 rfl (lv_at hl 7 rfl) ?_
                            refine yget (ci := 9) (k := 13) (v := .ref (S.2.2.1 h0 13)) (C := RX9) (T := TX9) (N := 67) C0 hK hP hm_h0 hk_h0 (by decide) rfl inlX9 (by decide) mW120 (fun _ h9 => h9) rfl dX9_copy_463 ?_
                            obtain ⟨hmy_147, hky_147⟩ := ySh.f9_13 hSh _ hm_h0 hk_h0
                            refine lv_bipush (v := 90) hx hb dX9_copy_466 (by decide) ?_
                            refine lv_iload_n hx hb dX9_copy_468 rfl (lv_at hl 8 rfl) ?_
                            refine lv_imul hx hb dX9_copy_469 ?_
                            refine lv_topi (fun z_148 ez_148 => ?_)
                            refine lv_iload hx hb dX9_copy_470 (lv_at hl 2 rfl) ?_
                            refine lv_iadd hx hb dX9_copy_472 ?_
                            refine lv_topi (fun z_149 ez_149 => ?_)
                            refine lv_aload_n hx hb dX9_copy_473 rfl (lv_at hl 7 rfl) ?_
                            refine yget (ci := 9) (k := 43) (v := .ref (S.2.2.1 h0 43)) (C := RX9) (T := TX9) (N := 67) C0 hK hP hm_h0 hk_h0 (by decide) rfl inlX9 (by decide) mW148 (fun _ h9 => h9) rfl dX9_copy_474 ?_
                            obtain ⟨hmy_150, hky_150⟩ := ySh.f9_43 hSh _ hm_h0 hk_h0
                            refine lv_iload hx hb dX9_copy_477 (lv_at hl 1 rfl) ?_
                            have hCC_151 := yMI.c hId_146
                            refine yaldZ C0 hK hP hmy_150 hky_150 (by decide) rfl 3 rfl (xinT 90 rfl (by omega) (by omega)) dX9_copy_479 ?_
                            refine lv_topi (fun z_152 ez_152 => ?_)
                            have T_154 : (z_148 : Int32).toInt = 90 * (p0 : Int32).toInt := tmul ez_148 (by decide +kernel : (90 : Int32).toInt = 90) (rfl : (p0 : Int32).toInt = (p0 : Int32).toInt) (by omega) (by omega)
                            have T_153 : (z_149 : Int32).toInt = (z_148 : Int32).toInt + (z_82 : Int32).toInt := tadd ez_149 (rfl : (z_148 : Int32).toInt = (z_148 : Int32).toInt) (rfl : (z_82 : Int32).toInt = (z_82 : Int32).toInt) (by omega) (by omega)
                            refine yastZ C0 hK hP hD hS hmy_147 hky_147 (by decide) rfl 3 rfl (xinT 720 rfl (by omega) (by omega)) dX9_copy_480 (fun H locs hP hD hS => ?_)
                            obtain ⟨d_155, ed_155⟩ : ∃ z : yD, z = ycs d_146 (S.2.2.1 h0 13) (upd (d_146.2.2.2.1 (S.2.2.1 h0 13)) (z_149 : Int32).toNatClampNeg (vp_nar .boolean z_152)) := ⟨_, rfl⟩
                            rw [← ed_155] at hP hD
                            have hgd_155 : yAg S [9, 42, 43, 45, 46, 47, 69, 70, 71, 72, 73] d d_155 := by rw [ed_155]; exact yAg.cs hgd_146 (by rw [hky_147]; decide)
                            have hsd_155 : yAg S [43] d_146 d_155 := by rw [ed_155]; exact yAg.cs yAg.rf (by rw [hky_147]; decide)
                            have hPod_155 : yPo S d_155 := by rw [ed_155]; exact hPod_146
                            have hfd_155 : yK [1, 38] d d_155 h0 := yK.ag hfd_146 (show yAg S [43] d_146 d_155 from by rw [ed_155]; exact yAg.cs yAg.rf (by rw [hky_147]; decide)) (by rw [hk_h0]; decide)
                            have hL0d_155 : yAg S [9, 42, 43, 45, 46, 47] d_36 d_155 := by rw [ed_155]; exact yAg.cs hL0d_146 (by rw [hky_147]; decide)
                            have hK0d_155 : yK [1] d_36 d_155 h0 := yK.ag hK0d_146 (show yAg S [43] d_146 d_155 from by rw [ed_155]; exact yAg.cs yAg.rf (by rw [hky_147]; decide)) (by rw [hk_h0]; decide)
                            have hId_155 : yMI S d_155 h0 := yMI.ag hId_146 hSh hm_h0 hk_h0 (show yAg S [43] d_146 d_155 from by rw [ed_155]; exact yAg.cs yAg.rf (by rw [hky_147]; decide)) (yK.ag (F := []) yK.rf (show yAg S [43] d_146 d_155 from by rw [ed_155]; exact yAg.cs yAg.rf (by rw [hky_147]; decide)) (by rw [hk_h0]; decide)) (by decide) (by decide)
                            have hE0d_155 : (d_155.1 h0 0).toInt = (d_146.1 h0 0).toInt := congrArg Int32.toInt ((yK.ag (F := []) yK.rf (show yAg S [43] d_146 d_155 from by rw [ed_155]; exact yAg.cs yAg.rf (by rw [hky_147]; decide)) (by rw [hk_h0]; decide)) 0 (by decide))
                            have hE1d_155 : (d_155.1 h0 1).toInt = (d_146.1 h0 1).toInt := congrArg Int32.toInt ((yK.ag (F := []) yK.rf (show yAg S [43] d_146 d_155 from by rw [ed_155]; exact yAg.cs yAg.rf (by rw [hky_147]; decide)) (by rw [hk_h0]; decide)) 1 (by decide))
                            have hE2d_155 : (d_155.1 h0 2).toInt = (d_146.1 h0 2).toInt := congrArg Int32.toInt ((yK.ag (F := []) yK.rf (show yAg S [43] d_146 d_155 from by rw [ed_155]; exact yAg.cs yAg.rf (by rw [hky_147]; decide)) (by rw [hk_h0]; decide)) 2 (by decide))
                            have hE3d_155 : (d_155.1 h0 3).toInt = (d_146.1 h0 3).toInt := congrArg Int32.toInt ((yK.ag (F := []) yK.rf (show yAg S [43] d_146 d_155 from by rw [ed_155]; exact yAg.cs yAg.rf (by rw [hky_147]; decide)) (by rw [hk_h0]; decide)) 3 (by decide))
                            have hE63d_155 : (d_155.1 h0 63).toInt = (d_146.1 h0 63).toInt := congrArg Int32.toInt ((yK.ag (F := []) yK.rf (show yAg S [43] d_146 d_155 from by rw [ed_155]; exact yAg.cs yAg.rf (by rw [hky_147]; decide)) (by rw [hk_h0]; decide)) 63 (by decide))
                            refine lv_iinc (v := v_43 + 1) (lv' := [(8, .int (v_43 + 1)), (15, .int v_132), (12, .int z_83), (11, .int z_82), (10, .int r_41), (9, .int v_44), (7, .int v_25), (0, .ref h0), (1, .int p0), (2, .int p1), (4, .int p3), (5, .int p4)]) hx hb dX9_copy_481 hl (k := 5) rfl rfl (by decide) rfl (fun ls hl => ?_)
                            refine lv_goto (tgt := 199) hx hb dX9_copy_484 (by decide) ?_
                            have hCC_157 := yMI.c hId_155
                            have T_158 : ((v_43 + 1) : Int32).toInt = (v_43 : Int32).toInt + 1 := tadd rfl (rfl : (v_43 : Int32).toInt = (v_43 : Int32).toInt) (by decide +kernel : (1 : Int32).toInt = 1) (by omega) (by omega)
                            exact hnext_46 (v_43 + 1, v_44, d_155) _ _ ls ((show (2147483647 - ((v_43 + 1) : Int32).toInt).toNat + (if v_44 = 0 then 1 else 0) < (2147483647 - (v_43 : Int32).toInt).toNat + (if v_44 = 0 then 1 else 0) from by rw [if_pos c_64]; have q := xup c_48; omega)) ⟨hP, hD, hS, hgd_155, hPod_155, hfd_155, hId_155, hL0d_155, hK0d_155, ⟨(show (0 ≤ (((v_43 + 1)) : Int32).toInt ∧ 0 ≤ ((v_44) : Int32).toInt ∧ ((v_44) : Int32).toInt ≤ 5) from by have hq0_ : (0 : Int32).toInt = 0 := (by decide +kernel); omega), (zM3.next hex_47.2 hSh hm_h0 hk_h0 c_48 ez_82 ez_83 (by omega) (by omega) (more := v_100) (less := v_106) (by omega) (by omega) (by omega) hex_135.2 c_136 (((hLJd_133 _ (by rw [(ySh.f9_12 hSh h0 hm_h0 hk_h0).2]; decide)).2.2.2.1).trans (hgad_126 _ (by rw [(ySh.f9_12 hSh h0 hm_h0 hk_h0).2]; decide)).2.2.2.1) (((hLJd_133 _ (by rw [(ySh.f9_13 hSh h0 hm_h0 hk_h0).2]; decide)).2.2.2.1).trans (hgad_126 _ (by rw [(ySh.f9_13 hSh h0 hm_h0 hk_h0).2]; decide)).2.2.2.1) (((hsd_155 _ (by rw [(ySh.f9_40 hSh h0 hm_h0 hk_h0).2]; decide)).2.2.2.1).trans (((hsd_146 _ (by rw [(ySh.f9_40 hSh h0 hm_h0 hk_h0).2]; decide)).2.2.2.1).trans (((hLJd_133 _ (by rw [(ySh.f9_40 hSh h0 hm_h0 hk_h0).2]; decide)).2.2.2.1).trans (hgad_126 _ (by rw [(ySh.f9_40 hSh h0 hm_h0 hk_h0).2]; decide)).2.2.2.1))) (((hsd_155 _ (by rw [(ySh.f9_41 hSh h0 hm_h0 hk_h0).2]; decide)).2.2.2.1).trans (((hsd_146 _ (by rw [(ySh.f9_41 hSh h0 hm_h0 hk_h0).2]; decide)).2.2.2.1).trans (((hLJd_133 _ (by rw [(ySh.f9_41 hSh h0 hm_h0 hk_h0).2]; decide)).2.2.2.1).trans (hgad_126 _ (by rw [(ySh.f9_41 hSh h0 hm_h0 hk_h0).2]; decide)).2.2.2.1))) (((hsd_155 _ (by rw [(ySh.f9_42 hSh h0 hm_h0 hk_h0).2]; decide)).2.2.2.1).trans (((hsd_146 _ (by rw [(ySh.f9_42 hSh h0 hm_h0 hk_h0).2]; decide)).2.2.2.1).trans (((hLJd_133 _ (by rw [(ySh.f9_42 hSh h0 hm_h0 hk_h0).2]; decide)).2.2.2.1).trans (hgad_126 _ (by rw [(ySh.f9_42 hSh h0 hm_h0 hk_h0).2]; decide)).2.2.2.1))) (((hsd_155 _ (by rw [(ySh.f9_43 hSh h0 hm_h0 hk_h0).2]; decide)).2.2.2.1).trans (((hsd_146 _ (by rw [(ySh.f9_43 hSh h0 hm_h0 hk_h0).2]; decide)).2.2.2.1).trans (((hLJd_133 _ (by rw [(ySh.f9_43 hSh h0 hm_h0 hk_h0).2]; decide)).2.2.2.1).trans (hgad_126 _ (by rw [(ySh.f9_43 hSh h0 hm_h0 hk_h0).2]; decide)).2.2.2.1))) (((hLJd_133 _ (by rw [(ySh.f9_42 hSh h0 hm_h0 hk_h0).2]; decide)).2.2.2.1).trans (hgad_126 _ (by rw [(ySh.f9_42 hSh h0 hm_h0 hk_h0).2]; decide)).2.2.2.1) (((hsd_146 _ (by rw [(ySh.f9_43 hSh h0 hm_h0 hk_h0).2]; decide)).2.2.2.1).trans (((hLJd_133 _ (by rw [(ySh.f9_43 hSh h0 hm_h0 hk_h0).2]; decide)).2.2.2.1).trans (hgad_126 _ (by rw [(ySh.f9_43 hSh h0 hm_h0 hk_h0).2]; decide)).2.2.2.1)) (by omega) (by omega) ez_143 ed_146 ez_152 ed_155 v_44 (by first | decide +kernel | omega))⟩, lv_sub hl [4, 5, 0, 6, 7, 8, 9, 10, 11] rfl⟩
                          · refine lv_aload_n hx hb dX9_copy_391 rfl (lv_at hl 7 rfl) ?_
                            refine yget (ci := 9) (k := 40) (v := .ref (S.2.2.1 h0 40)) (C := RX9) (T := TX9) (N := 67) C0 hK hP hm_h0 hk_h0 (by decide) rfl inlX9 (by decide) mW145 (fun _ h9 => h9) rfl dX9_copy_392 ?_
                            obtain ⟨hmy_159, hky_159⟩ := ySh.f9_40 hSh _ hm_h0 hk_h0
                            refine lv_iload hx hb dX9_copy_395 (lv_at hl 0 rfl) ?_
                            have hCC_160 := yMI.c hId_133
                            have F_161 := fnle (rfl : (v_25 : Int32).toInt = (v_25 : Int32).toInt) (rfl : (v_132 : Int32).toInt = (v_132 : Int32).toInt) c_136
                            refine yald C0 hK hP hmy_159 hky_159 (by decide) rfl 0 rfl (xinT 5000 rfl (by omega) (by omega)) dX9_copy_397 ?_
                            refine lv_topi (fun z_162 ez_162 => ?_)
                            have hvz_162 : 0 ≤ (z_162 : Int32).toInt ∧ (z_162 : Int32).toInt ≤ 129599 := by rw [ez_162]; exact yMI.cm_ hId_133 _
                            refine lv_sipush (v := 1440) hx hb dX9_copy_398 (by decide) ?_
                            refine lv_idiv hx hb dX9_copy_401 (by decide) ?_
                            refine lv_topi (fun z_163 ez_163 => ?_)
                            refine lv_iload hx hb dX9_copy_402 (lv_at hl 1 rfl) ?_
                            refine lv_icmp_ne (tgt := 437) hx hb dX9_copy_404 (by decide) (fun c_164 => ?_) (fun c_164 => ?_)
                            · refine lv_iinc (v := v_132 + 1) (lv' := [(15, .int (v_132 + 1)), (12, .int z_83), (11, .int z_82), (10, .int r_41), (9, .int v_44), (8, .int v_43), (7, .int v_25), (0, .ref h0), (1, .int p0), (2, .int p1), (4, .int p3), (5, .int p4)]) hx hb dX9_copy_437 hl (k := 0) rfl rfl (by decide) rfl (fun ls hl => ?_)
                              refine lv_goto (tgt := 384) hx hb dX9_copy_440 (by decide) ?_
                              have T_166 := tdivc ez_163 (rfl : (z_162 : Int32).toInt = (z_162 : Int32).toInt) (by decide +kernel : (1440 : Int32).toInt = 1440) (by omega) (by omega)
                              have F_168 := fne (rfl : (z_163 : Int32).toInt = (z_163 : Int32).toInt) (rfl : (z_83 : Int32).toInt = (z_83 : Int32).toInt) c_164
                              have T_169 : ((v_132 + 1) : Int32).toInt = (v_132 : Int32).toInt + 1 := tadd rfl (rfl : (v_132 : Int32).toInt = (v_132 : Int32).toInt) (by decide +kernel : (1 : Int32).toInt = 1) (by omega) (by omega)
                              have hcn_ : yPm S d_45 h0 z_83 (v_132 : Int32).toInt.toNat = false := by
                                have q0 : d_45.2.2.2.1 (S.2.2.1 h0 40) (v_132 : Int32).toInt.toNat / 1440 = z_163 := by rw [ez_163, ez_162, show d_133.2.2.2.1 (S.2.2.1 h0 40) = d_45.2.2.2.1 (S.2.2.1 h0 40) from hcmd_133]; rfl
                                exact decide_eq_false (fun q => c_164 (q0.symm.trans q))
                              have hcs_ := ycnF (P := yPm S d_45 h0 z_83) (k := v_132) (z := v_132 + 1) rfl (by omega) (by omega) hcn_
                              exact hnext_134 (v_132 + 1, d_133) _ _ ls (xup c_136) ⟨hP, hD, hS, hgd_133, hPod_133, hfd_133, hId_133, hLJd_133, hKJd_133, hL0d_133, hK0d_133, ⟨(show (0 ≤ (((v_132 + 1)) : Int32).toInt ∧ (((v_132 + 1)) : Int32).toInt ≤ (v_25 : Int32).toInt ∧ (d_133.1 h0 1).toInt = (d_45.1 h0 1).toInt - (v_106 : Int32).toInt + (ycn (yPm S d_45 h0 (z_83)) (((v_132 + 1)) : Int32).toInt.toNat : Int)) from by have hq0_ : (0 : Int32).toInt = 0 := (by decide +kernel); omega), (zM4.no hex_135.2 (fun E hE hC => ⟨((hex_47.2 E hE hC).1.1).1, by omega, by omega⟩) (((hLJd_133 _ (by rw [(ySh.f9_40 hSh h0 hm_h0 hk_h0).2]; decide)).2.2.2.1).trans (hgad_126 _ (by rw [(ySh.f9_40 hSh h0 hm_h0 hk_h0).2]; decide)).2.2.2.1) c_136 ez_162 ez_163 c_164 (by omega))⟩, lv_sub hl [0, 1, 2, 3, 4, 5, 6, 7, 8, 9, 10, 11] rfl⟩
                            · have T_170 := tdivc ez_163 (rfl : (z_162 : Int32).toInt = (z_162 : Int32).toInt) (by decide +kernel : (1440 : Int32).toInt = 1440) (by omega) (by omega)
                              have F_172 := feq (rfl : (z_163 : Int32).toInt = (z_163 : Int32).toInt) (rfl : (z_83 : Int32).toInt = (z_83 : Int32).toInt) c_164
                              have hcn1_ : yPm S d_45 h0 z_83 (v_132 : Int32).toInt.toNat = true := by
                                have q0 : d_45.2.2.2.1 (S.2.2.1 h0 40) (v_132 : Int32).toInt.toNat / 1440 = z_163 := by rw [ez_163, ez_162, hcmd_133]; rfl
                                exact decide_eq_true (q0.trans c_164)
                              have hcs1_ := ycnT (P := yPm S d_45 h0 z_83) (k := v_132) (z := v_132 + 1) rfl (by omega) (by omega) hcn1_
                              have T_173 : ((v_132 + 1) : Int32).toInt = (v_132 : Int32).toInt + 1 := tadd rfl (rfl : (v_132 : Int32).toInt = (v_132 : Int32).toInt) (by decide +kernel : (1 : Int32).toInt = 1) (by omega) (by omega)
                              have hcx_ := ycn_mono (P := yPm S d_45 h0 z_83) (show (v_132 + 1 : Int32).toInt.toNat ≤ (v_25 : Int32).toInt.toNat by omega)
                              refine lv_aload_n hx hb dX9_copy_407 rfl (lv_at hl 7 rfl) ?_
                              refine lv_iload_n hx hb dX9_copy_408 rfl (lv_at hl 8 rfl) ?_
                              refine lv_sipush (v := 1440) hx hb dX9_copy_409 (by decide) ?_
                              refine lv_iload hx hb dX9_copy_412 (lv_at hl 2 rfl) ?_
                              refine lv_imul hx hb dX9_copy_414 ?_
                              refine lv_topi (fun z_174 ez_174 => ?_)
                              refine lv_aload_n hx hb dX9_copy_415 rfl (lv_at hl 7 rfl) ?_
                              refine yget (ci := 9) (k := 40) (v := .ref (S.2.2.1 h0 40)) (C := RX9) (T := TX9) (N := 67) C0 hK hP hm_h0 hk_h0 (by decide) rfl inlX9 (by decide) mW145 (fun _ h9 => h9) rfl dX9_copy_416 ?_
                              refine lv_iload hx hb dX9_copy_419 (lv_at hl 0 rfl) ?_
                              refine yald C0 hK hP hmy_159 hky_159 (by decide) rfl 0 rfl (xinT 5000 rfl (by omega) (by omega)) dX9_copy_421 ?_
                              refine lv_topi (fun z_175 ez_175 => ?_)
                              have hvz_175 : 0 ≤ (z_175 : Int32).toInt ∧ (z_175 : Int32).toInt ≤ 129599 := by rw [ez_175]; exact yMI.cm_ hId_133 _
                              refine lv_sipush (v := 1440) hx hb dX9_copy_422 (by decide) ?_
                              refine lv_irem hx hb dX9_copy_425 (by decide) ?_
                              refine lv_topi (fun z_176 ez_176 => ?_)
                              refine lv_iadd hx hb dX9_copy_426 ?_
                              refine lv_topi (fun z_177 ez_177 => ?_)
                              refine lv_aload_n hx hb dX9_copy_427 rfl (lv_at hl 7 rfl) ?_
                              refine yget (ci := 9) (k := 41) (v := .ref (S.2.2.1 h0 41)) (C := RX9) (T := TX9) (N := 67) C0 hK hP hm_h0 hk_h0 (by decide) rfl inlX9 (by decide) mW146 (fun _ h9 => h9) rfl dX9_copy_428 ?_
                              obtain ⟨hmy_178, hky_178⟩ := ySh.f9_41 hSh _ hm_h0 hk_h0
                              refine lv_iload hx hb dX9_copy_431 (lv_at hl 0 rfl) ?_
                              refine yaldB C0 hK hP hmy_178 hky_178 (by decide) rfl 1 rfl (xinT 5000 rfl (by omega) (by omega)) dX9_copy_433 ?_
                              refine lv_topi (fun z_179 ez_179 => ?_)
                              have T_181 : (z_174 : Int32).toInt = 1440 * (z_82 : Int32).toInt := tmul ez_174 (by decide +kernel : (1440 : Int32).toInt = 1440) (rfl : (z_82 : Int32).toInt = (z_82 : Int32).toInt) (by omega) (by omega)
                              have T_182 := tremc ez_176 (rfl : (z_175 : Int32).toInt = (z_175 : Int32).toInt) (by decide +kernel : (1440 : Int32).toInt = 1440) (by omega) (by omega)
                              have T_180 : (z_177 : Int32).toInt = (z_174 : Int32).toInt + (z_176 : Int32).toInt := tadd ez_177 (rfl : (z_174 : Int32).toInt = (z_174 : Int32).toInt) (rfl : (z_176 : Int32).toInt = (z_176 : Int32).toInt) (by omega) (by omega)
                              refine yVwv (As := [.int p0, .int z_177, .int z_179]) (rest := []) C0 (g_X9_insert l G S d_133 h0 p0 z_177 z_179 hSh hPod_133 hm_h0 hk_h0 hId_133 (by omega) (by refine ⟨?_, ?_⟩ <;> omega)) ok_X9_insert (mW433 : Cond.methodLink RX9 202 yX9_insert ∈ wsT) ⟨Nat.le_of_ble_eq_true rfl, Nat.le_of_ble_eq_true rfl⟩ hP hD hS hA hK hN hm_h0 hk_h0 (by decide) rfl rfl rfl hl.1 rfl (Nat.le_of_ble_eq_true rfl) ⟨Nat.le_of_ble_eq_true rfl, Nat.le_of_ble_eq_true rfl⟩ dX9_copy_434 (fun d_185 H locs hr_184 hP hD hS => ?_)
                              obtain ⟨hgad_185, hpad_185, hfad_185, hxd_185⟩ := hr_184
                              have hfd_185 : yK [1, 38] d d_185 h0 := yK.tr hfd_133 hfad_185 (by decide)
                              have hE0d_185 : (d_185.1 h0 0).toInt = (d_133.1 h0 0).toInt := congrArg Int32.toInt (hfad_185 0 (by decide))
                              have hE2d_185 : (d_185.1 h0 2).toInt = (d_133.1 h0 2).toInt := congrArg Int32.toInt (hfad_185 2 (by decide))
                              have hE3d_185 : (d_185.1 h0 3).toInt = (d_133.1 h0 3).toInt := congrArg Int32.toInt (hfad_185 3 (by decide))
                              have hE63d_185 : (d_185.1 h0 63).toInt = (d_133.1 h0 63).toInt := congrArg Int32.toInt (hfad_185 63 (by decide))
                              have hId_185 : yMI S d_185 h0 := hxd_185.1
                              have hL0d_185 : yAg S [9, 42, 43, 45, 46, 47] d_36 d_185 := yAg.tr hL0d_133 hgad_185 (by first | decide | exact fun _ h => h)
                              have hK0d_185 : yK [1] d_36 d_185 h0 := yK.tr hK0d_133 hfad_185 (by decide)
                              have hL1d_185 : yAg S [9, 45, 46, 47] d_126 d_185 := yAg.tr hLJd_133 hgad_185 (by first | decide | exact fun _ h => h)
                              have hK1d_185 : yK [1] d_126 d_185 h0 := yK.tr hKJd_133 hfad_185 (by decide)
                              have hgd_185 : yAg S [9, 42, 43, 45, 46, 47, 69, 70, 71, 72, 73] d d_185 := yAg.tr hgd_133 hgad_185 (by first | decide | exact fun _ h => h)
                              have hPod_185 : yPo S d_185 := hpad_185 hPod_133
                              refine lv_iinc (v := v_132 + 1) (lv' := [(15, .int (v_132 + 1)), (12, .int z_83), (11, .int z_82), (10, .int r_41), (9, .int v_44), (8, .int v_43), (7, .int v_25), (0, .ref h0), (1, .int p0), (2, .int p1), (4, .int p3), (5, .int p4)]) hx hb dX9_copy_437 hl (k := 0) rfl rfl (by decide) rfl (fun ls hl => ?_)
                              refine lv_goto (tgt := 384) hx hb dX9_copy_440 (by decide) ?_
                              have hCC_187 := yMI.c hId_185
                              have hcn_ : yPm S d_45 h0 z_83 (v_132 : Int32).toInt.toNat = true := by
                                have q0 : d_45.2.2.2.1 (S.2.2.1 h0 40) (v_132 : Int32).toInt.toNat / 1440 = z_163 := by rw [ez_163, ez_162, show d_133.2.2.2.1 (S.2.2.1 h0 40) = d_45.2.2.2.1 (S.2.2.1 h0 40) from hcmd_133]; rfl
                                exact decide_eq_true (q0.trans c_164)
                              have hcs_ := ycnT (P := yPm S d_45 h0 z_83) (k := v_132) (z := v_132 + 1) rfl (by omega) (by omega) hcn_
                              exact hnext_134 (v_132 + 1, d_185) _ _ ls (xup c_136) ⟨hP, hD, hS, hgd_185, hPod_185, hfd_185, hId_185, hL1d_185, hK1d_185, hL0d_185, hK0d_185, ⟨(show (0 ≤ (((v_132 + 1)) : Int32).toInt ∧ (((v_132 + 1)) : Int32).toInt ≤ (v_25 : Int32).toInt ∧ (d_185.1 h0 1).toInt = (d_45.1 h0 1).toInt - (v_106 : Int32).toInt + (ycn (yPm S d_45 h0 (z_83)) (((v_132 + 1)) : Int32).toInt.toNat : Int)) from by have hq0_ : (0 : Int32).toInt = 0 := (by decide +kernel); omega), (zM4.yes hex_135.2 (fun E hE hC => ⟨((hex_47.2 E hE hC).1.1).1, by omega, by omega, by omega, by omega⟩) (((hLJd_133 _ (by rw [(ySh.f9_40 hSh h0 hm_h0 hk_h0).2]; decide)).2.2.2.1).trans (hgad_126 _ (by rw [(ySh.f9_40 hSh h0 hm_h0 hk_h0).2]; decide)).2.2.2.1) (((hLJd_133 _ (by rw [(ySh.f9_41 hSh h0 hm_h0 hk_h0).2]; decide)).2.2.2.1).trans (hgad_126 _ (by rw [(ySh.f9_41 hSh h0 hm_h0 hk_h0).2]; decide)).2.2.2.1) c_136 ez_162 ez_163 c_164 (by omega) ez_174 ez_175 ez_176 ez_177 ez_179 (by omega) hxd_185.2.2)⟩, lv_sub hl [0, 1, 2, 3, 4, 5, 6, 7, 8, 9, 10, 11] rfl⟩
                        · refine lv_iconst (v := 5) hx hb dX9_copy_353 (by decide) ?_
                          refine lv_istore (lv' := [(9, .int 5), (15, .int v_107), (14, .int v_106), (13, .int v_100), (12, .int z_83), (11, .int z_82), (10, .int r_41), (8, .int v_43), (7, .int v_25), (0, .ref h0), (1, .int p0), (2, .int p1), (4, .int p3), (5, .int p4)]) hx hb dX9_copy_354 hl (by decide) rfl (fun ls hl => ?_)
                          refine lv_goto (tgt := 484) hx hb dX9_copy_356 (by decide) ?_
                          refine lv_goto (tgt := 199) hx hb dX9_copy_484 (by decide) ?_
                          have T_188 : (z_110 : Int32).toInt = (d_45.1 h0 1).toInt := by rw [ez_110]
                          have F_189 := fle (rfl : (z_110 : Int32).toInt = (z_110 : Int32).toInt) (rfl : (v_107 : Int32).toInt = (v_107 : Int32).toInt) c_111
                          have T_192 : (z_112 : Int32).toInt = (d_45.1 h0 1).toInt := by rw [ez_112]
                          have T_191 : (z_113 : Int32).toInt = (z_112 : Int32).toInt - (v_106 : Int32).toInt := tsub ez_113 (rfl : (z_112 : Int32).toInt = (z_112 : Int32).toInt) (rfl : (v_106 : Int32).toInt = (v_106 : Int32).toInt) (by omega) (by omega)
                          have T_190 : (z_114 : Int32).toInt = (z_113 : Int32).toInt + (v_100 : Int32).toInt := tadd ez_114 (rfl : (z_113 : Int32).toInt = (z_113 : Int32).toInt) (rfl : (v_100 : Int32).toInt = (v_100 : Int32).toInt) (by omega) (by omega)
                          have F_193 := fnle (rfl : (z_114 : Int32).toInt = (z_114 : Int32).toInt) (by decide +kernel : (5000 : Int32).toInt = 5000) c_115
                          have hrf_194 : d_1.2.2.2.2 (S.2.2.1 h0 11) = d.2.2.2.2 (S.2.2.1 h0 11) := (hsd_1 _ (by rw [(ySh.f9_11 hSh h0 hm_h0 hk_h0).2]; decide)).2.2.2.2
                          have hrf_194a : yOI S d_1 h0 (p0 : Int32).toInt.toNat = yOI S d h0 (p0 : Int32).toInt.toNat := by unfold yOI; rw [hrf_194]
                          have hrf_194b : yOf S d_1 h0 (p0 : Int32).toInt.toNat 2 = yOf S d h0 (p0 : Int32).toInt.toNat 2 := by unfold yOf; rw [hrf_194]
                          have hrf_195 : d_1.2.2.2.2 (S.2.2.1 h0 11) = d.2.2.2.2 (S.2.2.1 h0 11) := (hsd_1 _ (by rw [(ySh.f9_11 hSh h0 hm_h0 hk_h0).2]; decide)).2.2.2.2
                          have hrf_195a : yOI S d_1 h0 (p2 : Int32).toInt.toNat = yOI S d h0 (p2 : Int32).toInt.toNat := by unfold yOI; rw [hrf_195]
                          have hrf_195b : yOf S d_1 h0 (p2 : Int32).toInt.toNat 2 = yOf S d h0 (p2 : Int32).toInt.toNat 2 := by unfold yOf; rw [hrf_195]
                          have hrf_196 : d_36.2.2.2.2 (S.2.2.1 h0 11) = d.2.2.2.2 (S.2.2.1 h0 11) := (((hLJd_36 _ (by rw [(ySh.f9_11 hSh h0 hm_h0 hk_h0).2]; decide)).2.2.2.2).trans (((hLJd_27 _ (by rw [(ySh.f9_11 hSh h0 hm_h0 hk_h0).2]; decide)).2.2.2.2).trans (hsd_1 _ (by rw [(ySh.f9_11 hSh h0 hm_h0 hk_h0).2]; decide)).2.2.2.2))
                          have hrf_196a : yOI S d_36 h0 (p2 : Int32).toInt.toNat = yOI S d h0 (p2 : Int32).toInt.toNat := by unfold yOI; rw [hrf_196]
                          have hrf_196b : yOf S d_36 h0 (p2 : Int32).toInt.toNat 2 = yOf S d h0 (p2 : Int32).toInt.toNat 2 := by unfold yOf; rw [hrf_196]
                          have hrf_197 : d_45.2.2.2.2 (S.2.2.1 h0 11) = d.2.2.2.2 (S.2.2.1 h0 11) := (((hLJd_45 _ (by rw [(ySh.f9_11 hSh h0 hm_h0 hk_h0).2]; decide)).2.2.2.2).trans (((hLJd_36 _ (by rw [(ySh.f9_11 hSh h0 hm_h0 hk_h0).2]; decide)).2.2.2.2).trans (((hLJd_27 _ (by rw [(ySh.f9_11 hSh h0 hm_h0 hk_h0).2]; decide)).2.2.2.2).trans (hsd_1 _ (by rw [(ySh.f9_11 hSh h0 hm_h0 hk_h0).2]; decide)).2.2.2.2)))
                          have hrf_197a : yOI S d_45 h0 (p0 : Int32).toInt.toNat = yOI S d h0 (p0 : Int32).toInt.toNat := by unfold yOI; rw [hrf_197]
                          have hrf_197b : yOf S d_45 h0 (p0 : Int32).toInt.toNat 2 = yOf S d h0 (p0 : Int32).toInt.toNat 2 := by unfold yOf; rw [hrf_197]
                          have hm1_ : ycn (yPm S d_45 h0 z_83) (v_101 : Int32).toInt.toNat = ycn (yPm S d_45 h0 z_83) (v_25 : Int32).toInt.toNat := by rw [show (v_101 : Int32).toInt.toNat = (v_25 : Int32).toInt.toNat by omega]
                          have hm2_ : ycn (yPl S d_45 h0 p0 z_82) (v_107 : Int32).toInt.toNat = ycn (yPl S d_45 h0 p0 z_82) (d_45.1 h0 1).toInt.toNat := by rw [show (v_107 : Int32).toInt.toNat = (d_45.1 h0 1).toInt.toNat by omega]
                          exact hnext_46 (v_43, 5, d_45) _ _ ls ((show (2147483647 - (v_43 : Int32).toInt).toNat + (if (5 : Int32) = 0 then 1 else 0) < (2147483647 - (v_43 : Int32).toInt).toNat + (if v_44 = 0 then 1 else 0) from by rw [if_pos c_64, if_neg (by decide +kernel)]; omega)) ⟨hP, hD, hS, hgd_45, hPod_45, hfd_45, hId_45, hLJd_45, hKJd_45, ⟨(show (0 ≤ ((v_43) : Int32).toInt ∧ 0 ≤ ((5) : Int32).toInt ∧ ((5) : Int32).toInt ≤ 5) from by have hl1_ : (5 : Int32).toInt = 5 := (by decide +kernel); have hq0_ : (0 : Int32).toInt = 0 := (by decide +kernel); omega), (zM3.s5 hex_47.2 ez_82 ez_83 (by omega) (by omega) (more := v_100) (less := v_106) (by omega) (by omega) (by omega) 5)⟩, lv_sub hl [6, 0, 7, 8, 9, 10, 11, 12, 13] rfl⟩
                      · refine lv_aload_n hx hb dX9_copy_301 rfl (lv_at hl 9 rfl) ?_
                        refine yget (ci := 9) (k := 15) (v := .ref (S.2.2.1 h0 15)) (C := RX9) (T := TX9) (N := 67) C0 hK hP hm_h0 hk_h0 (by decide) rfl inlX9 (by decide) mW122 (fun _ h9 => h9) rfl dX9_copy_302 ?_
                        obtain ⟨hmy_198, hky_198⟩ := ySh.f9_15 hSh _ hm_h0 hk_h0
                        refine lv_iload hx hb dX9_copy_305 (lv_at hl 0 rfl) ?_
                        have T_199 : (z_110 : Int32).toInt = (d_45.1 h0 1).toInt := by rw [ez_110]
                        have F_200 := fnle (rfl : (z_110 : Int32).toInt = (z_110 : Int32).toInt) (rfl : (v_107 : Int32).toInt = (v_107 : Int32).toInt) c_111
                        refine yaldB C0 hK hP hmy_198 hky_198 (by decide) rfl 1 rfl (xinT 5000 rfl (by omega) (by omega)) dX9_copy_307 ?_
                        refine lv_topi (fun z_201 ez_201 => ?_)
                        refine lv_iload_n hx hb dX9_copy_308 rfl (lv_at hl 10 rfl) ?_
                        refine lv_icmp_ne (tgt := 331) hx hb dX9_copy_309 (by decide) (fun c_202 => ?_) (fun c_202 => ?_)
                        · refine lv_iinc (v := v_107 + 1) (lv' := [(15, .int (v_107 + 1)), (14, .int v_106), (13, .int v_100), (12, .int z_83), (11, .int z_82), (10, .int r_41), (9, .int v_44), (8, .int v_43), (7, .int v_25), (0, .ref h0), (1, .int p0), (2, .int p1), (4, .int p3), (5, .int p4)]) hx hb dX9_copy_331 hl (k := 0) rfl rfl (by decide) rfl (fun ls hl => ?_)
                          refine lv_goto (tgt := 292) hx hb dX9_copy_334 (by decide) ?_
                          have F_205 := fne (rfl : (z_201 : Int32).toInt = (z_201 : Int32).toInt) (rfl : (p0 : Int32).toInt = (p0 : Int32).toInt) c_202
                          have T_206 : ((v_107 + 1) : Int32).toInt = (v_107 : Int32).toInt + 1 := tadd rfl (rfl : (v_107 : Int32).toInt = (v_107 : Int32).toInt) (by decide +kernel : (1 : Int32).toInt = 1) (by omega) (by omega)
                          have hcn_ : yPl S d_45 h0 p0 z_82 (v_107 : Int32).toInt.toNat = false := by
                            have q1 : d_45.2.2.2.1 (S.2.2.1 h0 15) (v_107 : Int32).toInt.toNat = z_201 := by rw [ez_201]; rfl
                            exact decide_eq_false (fun q => c_202 (q1.symm.trans q.1))
                          have hcs_ := ycnF (P := yPl S d_45 h0 p0 z_82) (k := v_107) (z := v_107 + 1) rfl (by omega) (by omega) hcn_
                          exact hnext_108 (v_106, v_107 + 1) ls (xup c_111) ⟨(show (0 ≤ (((v_107 + 1)) : Int32).toInt ∧ (((v_107 + 1)) : Int32).toInt ≤ (d_45.1 h0 1).toInt ∧ ((v_106) : Int32).toInt ≤ (((v_107 + 1)) : Int32).toInt ∧ ((v_106) : Int32).toInt = (ycn (yPl S d_45 h0 p0 (z_82)) (((v_107 + 1)) : Int32).toInt.toNat : Int)) from by have hq0_ : (0 : Int32).toInt = 0 := (by decide +kernel); omega), (lv_sub hl [0, 1, 2, 3, 4, 5, 6, 7, 8, 9, 10, 11, 12, 13] rfl)⟩
                        · refine lv_aload_n hx hb dX9_copy_312 rfl (lv_at hl 9 rfl) ?_
                          refine yget (ci := 9) (k := 16) (v := .ref (S.2.2.1 h0 16)) (C := RX9) (T := TX9) (N := 67) C0 hK hP hm_h0 hk_h0 (by decide) rfl inlX9 (by decide) mW123 (fun _ h9 => h9) rfl dX9_copy_313 ?_
                          obtain ⟨hmy_207, hky_207⟩ := ySh.f9_16 hSh _ hm_h0 hk_h0
                          refine lv_iload hx hb dX9_copy_316 (lv_at hl 0 rfl) ?_
                          have F_209 := feq (rfl : (z_201 : Int32).toInt = (z_201 : Int32).toInt) (rfl : (p0 : Int32).toInt = (p0 : Int32).toInt) c_202
                          refine yald C0 hK hP hmy_207 hky_207 (by decide) rfl 0 rfl (xinT 5000 rfl (by omega) (by omega)) dX9_copy_318 ?_
                          refine lv_topi (fun z_210 ez_210 => ?_)
                          have hvz_210 : 0 ≤ (z_210 : Int32).toInt ∧ (z_210 : Int32).toInt ≤ 129599 := by rw [ez_210]; exact yMI.em_ hId_45 _
                          refine lv_sipush (v := 1440) hx hb dX9_copy_319 (by decide) ?_
                          refine lv_idiv hx hb dX9_copy_322 (by decide) ?_
                          refine lv_topi (fun z_211 ez_211 => ?_)
                          refine lv_iload hx hb dX9_copy_323 (lv_at hl 4 rfl) ?_
                          refine lv_icmp_ne (tgt := 331) hx hb dX9_copy_325 (by decide) (fun c_212 => ?_) (fun c_212 => ?_)
                          · refine lv_iinc (v := v_107 + 1) (lv' := [(15, .int (v_107 + 1)), (14, .int v_106), (13, .int v_100), (12, .int z_83), (11, .int z_82), (10, .int r_41), (9, .int v_44), (8, .int v_43), (7, .int v_25), (0, .ref h0), (1, .int p0), (2, .int p1), (4, .int p3), (5, .int p4)]) hx hb dX9_copy_331 hl (k := 0) rfl rfl (by decide) rfl (fun ls hl => ?_)
                            refine lv_goto (tgt := 292) hx hb dX9_copy_334 (by decide) ?_
                            have T_214 := tdivc ez_211 (rfl : (z_210 : Int32).toInt = (z_210 : Int32).toInt) (by decide +kernel : (1440 : Int32).toInt = 1440) (by omega) (by omega)
                            have F_216 := fne (rfl : (z_211 : Int32).toInt = (z_211 : Int32).toInt) (rfl : (z_82 : Int32).toInt = (z_82 : Int32).toInt) c_212
                            have T_217 : ((v_107 + 1) : Int32).toInt = (v_107 : Int32).toInt + 1 := tadd rfl (rfl : (v_107 : Int32).toInt = (v_107 : Int32).toInt) (by decide +kernel : (1 : Int32).toInt = 1) (by omega) (by omega)
                            have hcn_ : yPl S d_45 h0 p0 z_82 (v_107 : Int32).toInt.toNat = false := by
                              have q1 : d_45.2.2.2.1 (S.2.2.1 h0 15) (v_107 : Int32).toInt.toNat = z_201 := by rw [ez_201]; rfl
                              have q0 : d_45.2.2.2.1 (S.2.2.1 h0 16) (v_107 : Int32).toInt.toNat / 1440 = z_211 := by rw [ez_211, ez_210]; rfl
                              exact decide_eq_false (fun q => c_212 (q0.symm.trans q.2))
                            have hcs_ := ycnF (P := yPl S d_45 h0 p0 z_82) (k := v_107) (z := v_107 + 1) rfl (by omega) (by omega) hcn_
                            exact hnext_108 (v_106, v_107 + 1) ls (xup c_111) ⟨(show (0 ≤ (((v_107 + 1)) : Int32).toInt ∧ (((v_107 + 1)) : Int32).toInt ≤ (d_45.1 h0 1).toInt ∧ ((v_106) : Int32).toInt ≤ (((v_107 + 1)) : Int32).toInt ∧ ((v_106) : Int32).toInt = (ycn (yPl S d_45 h0 p0 (z_82)) (((v_107 + 1)) : Int32).toInt.toNat : Int)) from by have hq0_ : (0 : Int32).toInt = 0 := (by decide +kernel); omega), (lv_sub hl [0, 1, 2, 3, 4, 5, 6, 7, 8, 9, 10, 11, 12, 13] rfl)⟩
                          · refine lv_iinc (v := v_106 + 1) (lv' := [(14, .int (v_106 + 1)), (15, .int v_107), (13, .int v_100), (12, .int z_83), (11, .int z_82), (10, .int r_41), (9, .int v_44), (8, .int v_43), (7, .int v_25), (0, .ref h0), (1, .int p0), (2, .int p1), (4, .int p3), (5, .int p4)]) hx hb dX9_copy_328 hl (k := 1) rfl rfl (by decide) rfl (fun ls hl => ?_)
                            refine lv_iinc (v := v_107 + 1) (lv' := [(15, .int (v_107 + 1)), (14, .int (v_106 + 1)), (13, .int v_100), (12, .int z_83), (11, .int z_82), (10, .int r_41), (9, .int v_44), (8, .int v_43), (7, .int v_25), (0, .ref h0), (1, .int p0), (2, .int p1), (4, .int p3), (5, .int p4)]) hx hb dX9_copy_331 hl (k := 1) rfl rfl (by decide) rfl (fun ls hl => ?_)
                            refine lv_goto (tgt := 292) hx hb dX9_copy_334 (by decide) ?_
                            have T_220 := tdivc ez_211 (rfl : (z_210 : Int32).toInt = (z_210 : Int32).toInt) (by decide +kernel : (1440 : Int32).toInt = 1440) (by omega) (by omega)
                            have F_222 := feq (rfl : (z_211 : Int32).toInt = (z_211 : Int32).toInt) (rfl : (z_82 : Int32).toInt = (z_82 : Int32).toInt) c_212
                            have T_223 : ((v_106 + 1) : Int32).toInt = (v_106 : Int32).toInt + 1 := tadd rfl (rfl : (v_106 : Int32).toInt = (v_106 : Int32).toInt) (by decide +kernel : (1 : Int32).toInt = 1) (by omega) (by omega)
                            have T_224 : ((v_107 + 1) : Int32).toInt = (v_107 : Int32).toInt + 1 := tadd rfl (rfl : (v_107 : Int32).toInt = (v_107 : Int32).toInt) (by decide +kernel : (1 : Int32).toInt = 1) (by omega) (by omega)
                            have hcn_ : yPl S d_45 h0 p0 z_82 (v_107 : Int32).toInt.toNat = true := by
                              have q1 : d_45.2.2.2.1 (S.2.2.1 h0 15) (v_107 : Int32).toInt.toNat = z_201 := by rw [ez_201]; rfl
                              have q0 : d_45.2.2.2.1 (S.2.2.1 h0 16) (v_107 : Int32).toInt.toNat / 1440 = z_211 := by rw [ez_211, ez_210]; rfl
                              exact decide_eq_true ⟨q1.trans c_202, q0.trans c_212⟩
                            have hcs_ := ycnT (P := yPl S d_45 h0 p0 z_82) (k := v_107) (z := v_107 + 1) rfl (by omega) (by omega) hcn_
                            exact hnext_108 (v_106 + 1, v_107 + 1) ls (xup c_111) ⟨(show (0 ≤ (((v_107 + 1)) : Int32).toInt ∧ (((v_107 + 1)) : Int32).toInt ≤ (d_45.1 h0 1).toInt ∧ (((v_106 + 1)) : Int32).toInt ≤ (((v_107 + 1)) : Int32).toInt ∧ (((v_106 + 1)) : Int32).toInt = (ycn (yPl S d_45 h0 p0 (z_82)) (((v_107 + 1)) : Int32).toInt.toNat : Int)) from by have hq0_ : (0 : Int32).toInt = 0 := (by decide +kernel); omega), (lv_sub hl [0, 1, 2, 3, 4, 5, 6, 7, 8, 9, 10, 11, 12, 13] rfl)⟩
                    · refine lv_aload_n hx hb dX9_copy_261 rfl (lv_at hl 8 rfl) ?_
                      refine yget (ci := 9) (k := 40) (v := .ref (S.2.2.1 h0 40)) (C := RX9) (T := TX9) (N := 67) C0 hK hP hm_h0 hk_h0 (by decide) rfl inlX9 (by decide) mW145 (fun _ h9 => h9) rfl dX9_copy_262 ?_
                      obtain ⟨hmy_225, hky_225⟩ := ySh.f9_40 hSh _ hm_h0 hk_h0
                      refine lv_iload hx hb dX9_copy_265 (lv_at hl 0 rfl) ?_
                      have F_226 := fnle (rfl : (v_25 : Int32).toInt = (v_25 : Int32).toInt) (rfl : (v_101 : Int32).toInt = (v_101 : Int32).toInt) c_104
                      refine yald C0 hK hP hmy_225 hky_225 (by decide) rfl 0 rfl (xinT 5000 rfl (by omega) (by omega)) dX9_copy_267 ?_
                      refine lv_topi (fun z_227 ez_227 => ?_)
                      have hvz_227 : 0 ≤ (z_227 : Int32).toInt ∧ (z_227 : Int32).toInt ≤ 129599 := by rw [ez_227]; exact yMI.cm_ hId_45 _
                      refine lv_sipush (v := 1440) hx hb dX9_copy_268 (by decide) ?_
                      refine lv_idiv hx hb dX9_copy_271 (by decide) ?_
                      refine lv_topi (fun z_228 ez_228 => ?_)
                      refine lv_iload hx hb dX9_copy_272 (lv_at hl 2 rfl) ?_
                      refine lv_icmp_ne (tgt := 280) hx hb dX9_copy_274 (by decide) (fun c_229 => ?_) (fun c_229 => ?_)
                      · refine lv_iinc (v := v_101 + 1) (lv' := [(14, .int (v_101 + 1)), (13, .int v_100), (12, .int z_83), (11, .int z_82), (10, .int r_41), (9, .int v_44), (8, .int v_43), (7, .int v_25), (0, .ref h0), (1, .int p0), (2, .int p1), (4, .int p3), (5, .int p4)]) hx hb dX9_copy_280 hl (k := 0) rfl rfl (by decide) rfl (fun ls hl => ?_)
                        refine lv_goto (tgt := 254) hx hb dX9_copy_283 (by decide) ?_
                        have T_231 := tdivc ez_228 (rfl : (z_227 : Int32).toInt = (z_227 : Int32).toInt) (by decide +kernel : (1440 : Int32).toInt = 1440) (by omega) (by omega)
                        have F_233 := fne (rfl : (z_228 : Int32).toInt = (z_228 : Int32).toInt) (rfl : (z_83 : Int32).toInt = (z_83 : Int32).toInt) c_229
                        have T_234 : ((v_101 + 1) : Int32).toInt = (v_101 : Int32).toInt + 1 := tadd rfl (rfl : (v_101 : Int32).toInt = (v_101 : Int32).toInt) (by decide +kernel : (1 : Int32).toInt = 1) (by omega) (by omega)
                        have hcn_ : yPm S d_45 h0 z_83 (v_101 : Int32).toInt.toNat = false := by
                          have q0 : d_45.2.2.2.1 (S.2.2.1 h0 40) (v_101 : Int32).toInt.toNat / 1440 = z_228 := by rw [ez_228, ez_227]; rfl
                          exact decide_eq_false (fun q => c_229 (q0.symm.trans q))
                        have hcs_ := ycnF (P := yPm S d_45 h0 z_83) (k := v_101) (z := v_101 + 1) rfl (by omega) (by omega) hcn_
                        exact hnext_102 (v_100, v_101 + 1) ls (xup c_104) ⟨(show (0 ≤ (((v_101 + 1)) : Int32).toInt ∧ (((v_101 + 1)) : Int32).toInt ≤ (v_25 : Int32).toInt ∧ ((v_100) : Int32).toInt ≤ (((v_101 + 1)) : Int32).toInt ∧ ((v_100) : Int32).toInt = (ycn (yPm S d_45 h0 (z_83)) (((v_101 + 1)) : Int32).toInt.toNat : Int)) from by have hq0_ : (0 : Int32).toInt = 0 := (by decide +kernel); omega), (lv_sub hl [0, 1, 2, 3, 4, 5, 6, 7, 8, 9, 10, 11, 12] rfl)⟩
                      · refine lv_iinc (v := v_100 + 1) (lv' := [(13, .int (v_100 + 1)), (14, .int v_101), (12, .int z_83), (11, .int z_82), (10, .int r_41), (9, .int v_44), (8, .int v_43), (7, .int v_25), (0, .ref h0), (1, .int p0), (2, .int p1), (4, .int p3), (5, .int p4)]) hx hb dX9_copy_277 hl (k := 1) rfl rfl (by decide) rfl (fun ls hl => ?_)
                        refine lv_iinc (v := v_101 + 1) (lv' := [(14, .int (v_101 + 1)), (13, .int (v_100 + 1)), (12, .int z_83), (11, .int z_82), (10, .int r_41), (9, .int v_44), (8, .int v_43), (7, .int v_25), (0, .ref h0), (1, .int p0), (2, .int p1), (4, .int p3), (5, .int p4)]) hx hb dX9_copy_280 hl (k := 1) rfl rfl (by decide) rfl (fun ls hl => ?_)
                        refine lv_goto (tgt := 254) hx hb dX9_copy_283 (by decide) ?_
                        have T_237 := tdivc ez_228 (rfl : (z_227 : Int32).toInt = (z_227 : Int32).toInt) (by decide +kernel : (1440 : Int32).toInt = 1440) (by omega) (by omega)
                        have F_239 := feq (rfl : (z_228 : Int32).toInt = (z_228 : Int32).toInt) (rfl : (z_83 : Int32).toInt = (z_83 : Int32).toInt) c_229
                        have T_240 : ((v_100 + 1) : Int32).toInt = (v_100 : Int32).toInt + 1 := tadd rfl (rfl : (v_100 : Int32).toInt = (v_100 : Int32).toInt) (by decide +kernel : (1 : Int32).toInt = 1) (by omega) (by omega)
                        have T_241 : ((v_101 + 1) : Int32).toInt = (v_101 : Int32).toInt + 1 := tadd rfl (rfl : (v_101 : Int32).toInt = (v_101 : Int32).toInt) (by decide +kernel : (1 : Int32).toInt = 1) (by omega) (by omega)
                        have hcn_ : yPm S d_45 h0 z_83 (v_101 : Int32).toInt.toNat = true := by
                          have q0 : d_45.2.2.2.1 (S.2.2.1 h0 40) (v_101 : Int32).toInt.toNat / 1440 = z_228 := by rw [ez_228, ez_227]; rfl
                          exact decide_eq_true (q0.trans c_229)
                        have hcs_ := ycnT (P := yPm S d_45 h0 z_83) (k := v_101) (z := v_101 + 1) rfl (by omega) (by omega) hcn_
                        exact hnext_102 (v_100 + 1, v_101 + 1) ls (xup c_104) ⟨(show (0 ≤ (((v_101 + 1)) : Int32).toInt ∧ (((v_101 + 1)) : Int32).toInt ≤ (v_25 : Int32).toInt ∧ (((v_100 + 1)) : Int32).toInt ≤ (((v_101 + 1)) : Int32).toInt ∧ (((v_100 + 1)) : Int32).toInt = (ycn (yPm S d_45 h0 (z_83)) (((v_101 + 1)) : Int32).toInt.toNat : Int)) from by have hq0_ : (0 : Int32).toInt = 0 := (by decide +kernel); omega), (lv_sub hl [0, 1, 2, 3, 4, 5, 6, 7, 8, 9, 10, 11, 12] rfl)⟩
                  · refine lv_iconst (v := 4) hx hb dX9_copy_242 (by decide) ?_
                    refine lv_istore (lv' := [(9, .int 4), (12, .int z_83), (11, .int z_82), (10, .int r_41), (8, .int v_43), (7, .int v_25), (0, .ref h0), (1, .int p0), (2, .int p1), (4, .int p3), (5, .int p4)]) hx hb dX9_copy_243 hl (by decide) rfl (fun ls hl => ?_)
                    refine lv_goto (tgt := 484) hx hb dX9_copy_245 (by decide) ?_
                    refine lv_goto (tgt := 199) hx hb dX9_copy_484 (by decide) ?_
                    have T_242 : (z_82 : Int32).toInt = (p1 : Int32).toInt + (v_43 : Int32).toInt := tadd ez_82 (rfl : (p1 : Int32).toInt = (p1 : Int32).toInt) (rfl : (v_43 : Int32).toInt = (v_43 : Int32).toInt) (by omega) (by omega)
                    have F_243 := fnle (rfl : (r_86 : Int32).toInt = (r_86 : Int32).toInt) (rfl : (z_82 : Int32).toInt = (z_82 : Int32).toInt) c_88
                    have T_244 : (z_83 : Int32).toInt = (p3 : Int32).toInt + (v_43 : Int32).toInt := tadd ez_83 (rfl : (p3 : Int32).toInt = (p3 : Int32).toInt) (rfl : (v_43 : Int32).toInt = (v_43 : Int32).toInt) (by omega) (by omega)
                    have F_245 := fnlt (rfl : (z_83 : Int32).toInt = (z_83 : Int32).toInt) (rfl : (r_41 : Int32).toInt = (r_41 : Int32).toInt) c_95
                    have hrf_246 : d_1.2.2.2.2 (S.2.2.1 h0 11) = d.2.2.2.2 (S.2.2.1 h0 11) := (hsd_1 _ (by rw [(ySh.f9_11 hSh h0 hm_h0 hk_h0).2]; decide)).2.2.2.2
                    have hrf_246a : yOI S d_1 h0 (p0 : Int32).toInt.toNat = yOI S d h0 (p0 : Int32).toInt.toNat := by unfold yOI; rw [hrf_246]
                    have hrf_246b : yOf S d_1 h0 (p0 : Int32).toInt.toNat 2 = yOf S d h0 (p0 : Int32).toInt.toNat 2 := by unfold yOf; rw [hrf_246]
                    have hrf_247 : d_1.2.2.2.2 (S.2.2.1 h0 11) = d.2.2.2.2 (S.2.2.1 h0 11) := (hsd_1 _ (by rw [(ySh.f9_11 hSh h0 hm_h0 hk_h0).2]; decide)).2.2.2.2
                    have hrf_247a : yOI S d_1 h0 (p2 : Int32).toInt.toNat = yOI S d h0 (p2 : Int32).toInt.toNat := by unfold yOI; rw [hrf_247]
                    have hrf_247b : yOf S d_1 h0 (p2 : Int32).toInt.toNat 2 = yOf S d h0 (p2 : Int32).toInt.toNat 2 := by unfold yOf; rw [hrf_247]
                    have hrf_248 : d_36.2.2.2.2 (S.2.2.1 h0 11) = d.2.2.2.2 (S.2.2.1 h0 11) := (((hLJd_36 _ (by rw [(ySh.f9_11 hSh h0 hm_h0 hk_h0).2]; decide)).2.2.2.2).trans (((hLJd_27 _ (by rw [(ySh.f9_11 hSh h0 hm_h0 hk_h0).2]; decide)).2.2.2.2).trans (hsd_1 _ (by rw [(ySh.f9_11 hSh h0 hm_h0 hk_h0).2]; decide)).2.2.2.2))
                    have hrf_248a : yOI S d_36 h0 (p2 : Int32).toInt.toNat = yOI S d h0 (p2 : Int32).toInt.toNat := by unfold yOI; rw [hrf_248]
                    have hrf_248b : yOf S d_36 h0 (p2 : Int32).toInt.toNat 2 = yOf S d h0 (p2 : Int32).toInt.toNat 2 := by unfold yOf; rw [hrf_248]
                    have hrf_249 : d_45.2.2.2.2 (S.2.2.1 h0 11) = d.2.2.2.2 (S.2.2.1 h0 11) := (((hLJd_45 _ (by rw [(ySh.f9_11 hSh h0 hm_h0 hk_h0).2]; decide)).2.2.2.2).trans (((hLJd_36 _ (by rw [(ySh.f9_11 hSh h0 hm_h0 hk_h0).2]; decide)).2.2.2.2).trans (((hLJd_27 _ (by rw [(ySh.f9_11 hSh h0 hm_h0 hk_h0).2]; decide)).2.2.2.2).trans (hsd_1 _ (by rw [(ySh.f9_11 hSh h0 hm_h0 hk_h0).2]; decide)).2.2.2.2)))
                    have hrf_249a : yOI S d_45 h0 (p0 : Int32).toInt.toNat = yOI S d h0 (p0 : Int32).toInt.toNat := by unfold yOI; rw [hrf_249]
                    have hrf_249b : yOf S d_45 h0 (p0 : Int32).toInt.toNat 2 = yOf S d h0 (p0 : Int32).toInt.toNat 2 := by unfold yOf; rw [hrf_249]
                    exact hnext_46 (v_43, 4, d_45) _ _ ls ((show (2147483647 - (v_43 : Int32).toInt).toNat + (if (4 : Int32) = 0 then 1 else 0) < (2147483647 - (v_43 : Int32).toInt).toNat + (if v_44 = 0 then 1 else 0) from by rw [if_pos c_64, if_neg (by decide +kernel)]; omega)) ⟨hP, hD, hS, hgd_45, hPod_45, hfd_45, hId_45, hLJd_45, hKJd_45, ⟨(show (0 ≤ ((v_43) : Int32).toInt ∧ 0 ≤ ((4) : Int32).toInt ∧ ((4) : Int32).toInt ≤ 5) from by have hl1_ : (4 : Int32).toInt = 4 := (by decide +kernel); have hq0_ : (0 : Int32).toInt = 0 := (by decide +kernel); omega), (zM3.s4 hex_47.2 ez_82 ez_83 (DP := r_86) (DQ := r_41) (by omega) (by omega) (Or.inr (Int32.not_lt.mp c_95)) 4)⟩, lv_sub hl [3, 0, 4, 5, 6, 7, 8, 9, 10] rfl⟩
          · refine lv_aload_n hx hb dX9_copy_141 rfl (lv_at hl 2 rfl) ?_
            refine yget (ci := 9) (k := 42) (v := .ref (S.2.2.1 h0 42)) (C := RX9) (T := TX9) (N := 67) C0 hK hP hm_h0 hk_h0 (by decide) rfl inlX9 (by decide) mW147 (fun _ h9 => h9) rfl dX9_copy_142 ?_
            obtain ⟨hmy_250, hky_250⟩ := ySh.f9_42 hSh _ hm_h0 hk_h0
            refine lv_iload hx hb dX9_copy_145 (lv_at hl 0 rfl) ?_
            refine lv_aload_n hx hb dX9_copy_147 rfl (lv_at hl 2 rfl) ?_
            refine yget (ci := 9) (k := 12) (v := .ref (S.2.2.1 h0 12)) (C := RX9) (T := TX9) (N := 67) C0 hK hP hm_h0 hk_h0 (by decide) rfl inlX9 (by decide) mW118 (fun _ h9 => h9) rfl dX9_copy_148 ?_
            obtain ⟨hmy_251, hky_251⟩ := ySh.f9_12 hSh _ hm_h0 hk_h0
            refine lv_bipush (v := 90) hx hb dX9_copy_151 (by decide) ?_
            refine lv_iload_n hx hb dX9_copy_153 rfl (lv_at hl 5 rfl) ?_
            refine lv_imul hx hb dX9_copy_154 ?_
            refine lv_topi (fun z_252 ez_252 => ?_)
            refine lv_iload hx hb dX9_copy_155 (lv_at hl 0 rfl) ?_
            refine lv_iadd hx hb dX9_copy_157 ?_
            refine lv_topi (fun z_253 ez_253 => ?_)
            have hCC_254 := yMI.c hId_36
            have F_255 := fnle (by decide +kernel : (90 : Int32).toInt = 90) (rfl : (v_35 : Int32).toInt = (v_35 : Int32).toInt) c_39
            have T_257 : (z_252 : Int32).toInt = 90 * (p2 : Int32).toInt := tmul ez_252 (by decide +kernel : (90 : Int32).toInt = 90) (rfl : (p2 : Int32).toInt = (p2 : Int32).toInt) (by omega) (by omega)
            have T_256 : (z_253 : Int32).toInt = (z_252 : Int32).toInt + (v_35 : Int32).toInt := tadd ez_253 (rfl : (z_252 : Int32).toInt = (z_252 : Int32).toInt) (rfl : (v_35 : Int32).toInt = (v_35 : Int32).toInt) (by omega) (by omega)
            refine yaldS C0 hK hP hmy_251 hky_251 (by decide) rfl 2 rfl (xinT 720 rfl (by omega) (by omega)) dX9_copy_158 ?_
            refine lv_topi (fun z_258 ez_258 => ?_)
            refine yastS C0 hK hP hD hS hmy_250 hky_250 (by decide) rfl 2 rfl (xinT 90 rfl (by omega) (by omega)) dX9_copy_159 (fun H locs hP hD hS => ?_)
            obtain ⟨d_259, ed_259⟩ : ∃ z : yD, z = ycs d_36 (S.2.2.1 h0 42) (upd (d_36.2.2.2.1 (S.2.2.1 h0 42)) (v_35 : Int32).toNatClampNeg (vp_nar .short z_258)) := ⟨_, rfl⟩
            rw [← ed_259] at hP hD
            have hgd_259 : yAg S [9, 42, 43, 45, 46, 47, 69, 70, 71, 72, 73] d d_259 := by rw [ed_259]; exact yAg.cs hgd_36 (by rw [hky_250]; decide)
            have hsd_259 : yAg S [72] d_36 d_259 := by rw [ed_259]; exact yAg.cs yAg.rf (by rw [hky_250]; decide)
            have hPod_259 : yPo S d_259 := by rw [ed_259]; exact hPod_36
            have hfd_259 : yK [1, 38] d d_259 h0 := yK.ag hfd_36 (show yAg S [72] d_36 d_259 from by rw [ed_259]; exact yAg.cs yAg.rf (by rw [hky_250]; decide)) (by rw [hk_h0]; decide)
            have hL0d_259 : yAg S [72, 73] d_27 d_259 := by rw [ed_259]; exact yAg.cs hLJd_36 (by rw [hky_250]; decide)
            have hK0d_259 : yK [] d_27 d_259 h0 := yK.ag hKJd_36 (show yAg S [72] d_36 d_259 from by rw [ed_259]; exact yAg.cs yAg.rf (by rw [hky_250]; decide)) (by rw [hk_h0]; decide)
            have hId_259 : yMI S d_259 h0 := yMI.ag hId_36 hSh hm_h0 hk_h0 (show yAg S [72] d_36 d_259 from by rw [ed_259]; exact yAg.cs yAg.rf (by rw [hky_250]; decide)) (yK.ag (F := []) yK.rf (show yAg S [72] d_36 d_259 from by rw [ed_259]; exact yAg.cs yAg.rf (by rw [hky_250]; decide)) (by rw [hk_h0]; decide)) (by decide) (by decide)
            have hE0d_259 : (d_259.1 h0 0).toInt = (d_36.1 h0 0).toInt := congrArg Int32.toInt ((yK.ag (F := []) yK.rf (show yAg S [72] d_36 d_259 from by rw [ed_259]; exact yAg.cs yAg.rf (by rw [hky_250]; decide)) (by rw [hk_h0]; decide)) 0 (by decide))
            have hE1d_259 : (d_259.1 h0 1).toInt = (d_36.1 h0 1).toInt := congrArg Int32.toInt ((yK.ag (F := []) yK.rf (show yAg S [72] d_36 d_259 from by rw [ed_259]; exact yAg.cs yAg.rf (by rw [hky_250]; decide)) (by rw [hk_h0]; decide)) 1 (by decide))
            have hE2d_259 : (d_259.1 h0 2).toInt = (d_36.1 h0 2).toInt := congrArg Int32.toInt ((yK.ag (F := []) yK.rf (show yAg S [72] d_36 d_259 from by rw [ed_259]; exact yAg.cs yAg.rf (by rw [hky_250]; decide)) (by rw [hk_h0]; decide)) 2 (by decide))
            have hE3d_259 : (d_259.1 h0 3).toInt = (d_36.1 h0 3).toInt := congrArg Int32.toInt ((yK.ag (F := []) yK.rf (show yAg S [72] d_36 d_259 from by rw [ed_259]; exact yAg.cs yAg.rf (by rw [hky_250]; decide)) (by rw [hk_h0]; decide)) 3 (by decide))
            have hE63d_259 : (d_259.1 h0 63).toInt = (d_36.1 h0 63).toInt := congrArg Int32.toInt ((yK.ag (F := []) yK.rf (show yAg S [72] d_36 d_259 from by rw [ed_259]; exact yAg.cs yAg.rf (by rw [hky_250]; decide)) (by rw [hk_h0]; decide)) 63 (by decide))
            refine lv_aload_n hx hb dX9_copy_160 rfl (lv_at hl 2 rfl) ?_
            refine yget (ci := 9) (k := 43) (v := .ref (S.2.2.1 h0 43)) (C := RX9) (T := TX9) (N := 67) C0 hK hP hm_h0 hk_h0 (by decide) rfl inlX9 (by decide) mW148 (fun _ h9 => h9) rfl dX9_copy_161 ?_
            obtain ⟨hmy_260, hky_260⟩ := ySh.f9_43 hSh _ hm_h0 hk_h0
            refine lv_iload hx hb dX9_copy_164 (lv_at hl 0 rfl) ?_
            refine lv_aload_n hx hb dX9_copy_166 rfl (lv_at hl 2 rfl) ?_
            refine yget (ci := 9) (k := 13) (v := .ref (S.2.2.1 h0 13)) (C := RX9) (T := TX9) (N := 67) C0 hK hP hm_h0 hk_h0 (by decide) rfl inlX9 (by decide) mW120 (fun _ h9 => h9) rfl dX9_copy_167 ?_
            obtain ⟨hmy_261, hky_261⟩ := ySh.f9_13 hSh _ hm_h0 hk_h0
            refine lv_bipush (v := 90) hx hb dX9_copy_170 (by decide) ?_
            refine lv_iload_n hx hb dX9_copy_172 rfl (lv_at hl 5 rfl) ?_
            refine lv_imul hx hb dX9_copy_173 ?_
            refine lv_topi (fun z_262 ez_262 => ?_)
            refine lv_iload hx hb dX9_copy_174 (lv_at hl 0 rfl) ?_
            refine lv_iadd hx hb dX9_copy_176 ?_
            refine lv_topi (fun z_263 ez_263 => ?_)
            have hCC_264 := yMI.c hId_259
            have T_266 : (z_262 : Int32).toInt = 90 * (p2 : Int32).toInt := tmul ez_262 (by decide +kernel : (90 : Int32).toInt = 90) (rfl : (p2 : Int32).toInt = (p2 : Int32).toInt) (by omega) (by omega)
            have T_265 : (z_263 : Int32).toInt = (z_262 : Int32).toInt + (v_35 : Int32).toInt := tadd ez_263 (rfl : (z_262 : Int32).toInt = (z_262 : Int32).toInt) (rfl : (v_35 : Int32).toInt = (v_35 : Int32).toInt) (by omega) (by omega)
            refine yaldZ C0 hK hP hmy_261 hky_261 (by decide) rfl 3 rfl (xinT 720 rfl (by omega) (by omega)) dX9_copy_177 ?_
            refine lv_topi (fun z_267 ez_267 => ?_)
            refine yastZ C0 hK hP hD hS hmy_260 hky_260 (by decide) rfl 3 rfl (xinT 90 rfl (by omega) (by omega)) dX9_copy_178 (fun H locs hP hD hS => ?_)
            obtain ⟨d_268, ed_268⟩ : ∃ z : yD, z = ycs d_259 (S.2.2.1 h0 43) (upd (d_259.2.2.2.1 (S.2.2.1 h0 43)) (v_35 : Int32).toNatClampNeg (vp_nar .boolean z_267)) := ⟨_, rfl⟩
            rw [← ed_268] at hP hD
            have hgd_268 : yAg S [9, 42, 43, 45, 46, 47, 69, 70, 71, 72, 73] d d_268 := by rw [ed_268]; exact yAg.cs hgd_259 (by rw [hky_260]; decide)
            have hsd_268 : yAg S [73] d_259 d_268 := by rw [ed_268]; exact yAg.cs yAg.rf (by rw [hky_260]; decide)
            have hPod_268 : yPo S d_268 := by rw [ed_268]; exact hPod_259
            have hfd_268 : yK [1, 38] d d_268 h0 := yK.ag hfd_259 (show yAg S [73] d_259 d_268 from by rw [ed_268]; exact yAg.cs yAg.rf (by rw [hky_260]; decide)) (by rw [hk_h0]; decide)
            have hL0d_268 : yAg S [72, 73] d_27 d_268 := by rw [ed_268]; exact yAg.cs hL0d_259 (by rw [hky_260]; decide)
            have hK0d_268 : yK [] d_27 d_268 h0 := yK.ag hK0d_259 (show yAg S [73] d_259 d_268 from by rw [ed_268]; exact yAg.cs yAg.rf (by rw [hky_260]; decide)) (by rw [hk_h0]; decide)
            have hId_268 : yMI S d_268 h0 := yMI.ag hId_259 hSh hm_h0 hk_h0 (show yAg S [73] d_259 d_268 from by rw [ed_268]; exact yAg.cs yAg.rf (by rw [hky_260]; decide)) (yK.ag (F := []) yK.rf (show yAg S [73] d_259 d_268 from by rw [ed_268]; exact yAg.cs yAg.rf (by rw [hky_260]; decide)) (by rw [hk_h0]; decide)) (by decide) (by decide)
            have hE0d_268 : (d_268.1 h0 0).toInt = (d_259.1 h0 0).toInt := congrArg Int32.toInt ((yK.ag (F := []) yK.rf (show yAg S [73] d_259 d_268 from by rw [ed_268]; exact yAg.cs yAg.rf (by rw [hky_260]; decide)) (by rw [hk_h0]; decide)) 0 (by decide))
            have hE1d_268 : (d_268.1 h0 1).toInt = (d_259.1 h0 1).toInt := congrArg Int32.toInt ((yK.ag (F := []) yK.rf (show yAg S [73] d_259 d_268 from by rw [ed_268]; exact yAg.cs yAg.rf (by rw [hky_260]; decide)) (by rw [hk_h0]; decide)) 1 (by decide))
            have hE2d_268 : (d_268.1 h0 2).toInt = (d_259.1 h0 2).toInt := congrArg Int32.toInt ((yK.ag (F := []) yK.rf (show yAg S [73] d_259 d_268 from by rw [ed_268]; exact yAg.cs yAg.rf (by rw [hky_260]; decide)) (by rw [hk_h0]; decide)) 2 (by decide))
            have hE3d_268 : (d_268.1 h0 3).toInt = (d_259.1 h0 3).toInt := congrArg Int32.toInt ((yK.ag (F := []) yK.rf (show yAg S [73] d_259 d_268 from by rw [ed_268]; exact yAg.cs yAg.rf (by rw [hky_260]; decide)) (by rw [hk_h0]; decide)) 3 (by decide))
            have hE63d_268 : (d_268.1 h0 63).toInt = (d_259.1 h0 63).toInt := congrArg Int32.toInt ((yK.ag (F := []) yK.rf (show yAg S [73] d_259 d_268 from by rw [ed_268]; exact yAg.cs yAg.rf (by rw [hky_260]; decide)) (by rw [hk_h0]; decide)) 63 (by decide))
            refine lv_iinc (v := v_35 + 1) (lv' := [(8, .int (v_35 + 1)), (7, .int v_25), (0, .ref h0), (1, .int p0), (2, .int p1), (3, .int p2), (4, .int p3), (5, .int p4)]) hx hb dX9_copy_179 hl (k := 0) rfl rfl (by decide) rfl (fun ls hl => ?_)
            refine lv_goto (tgt := 134) hx hb dX9_copy_182 (by decide) ?_
            have hCC_270 := yMI.c hId_268
            have T_271 : ((v_35 + 1) : Int32).toInt = (v_35 : Int32).toInt + 1 := tadd rfl (rfl : (v_35 : Int32).toInt = (v_35 : Int32).toInt) (by decide +kernel : (1 : Int32).toInt = 1) (by omega) (by omega)
            exact hnext_37 (v_35 + 1, d_268) _ _ ls (xup c_39) ⟨hP, hD, hS, hgd_268, hPod_268, hfd_268, hId_268, hL0d_268, hK0d_268, ⟨(show (0 ≤ (((v_35 + 1)) : Int32).toInt) from by have hq0_ : (0 : Int32).toInt = 0 := (by decide +kernel); omega), (zM2.step hex_38.2 hSh hm_h0 hk_h0 c_39 (((hLJd_36 _ (by rw [(ySh.f9_12 hSh h0 hm_h0 hk_h0).2]; decide)).2.2.2.1).trans (((hLJd_27 _ (by rw [(ySh.f9_12 hSh h0 hm_h0 hk_h0).2]; decide)).2.2.2.1).trans (hsd_1 _ (by rw [(ySh.f9_12 hSh h0 hm_h0 hk_h0).2]; decide)).2.2.2.1)) (((hsd_259 _ (by rw [(ySh.f9_13 hSh h0 hm_h0 hk_h0).2]; decide)).2.2.2.1).trans (((hLJd_36 _ (by rw [(ySh.f9_13 hSh h0 hm_h0 hk_h0).2]; decide)).2.2.2.1).trans (((hLJd_27 _ (by rw [(ySh.f9_13 hSh h0 hm_h0 hk_h0).2]; decide)).2.2.2.1).trans (hsd_1 _ (by rw [(ySh.f9_13 hSh h0 hm_h0 hk_h0).2]; decide)).2.2.2.1))) (by omega) (by omega) (by omega) ez_258 ed_259 ez_267 ed_268)⟩, lv_sub hl [0, 1, 2, 3, 4, 5, 6, 7] rfl⟩
        · refine lv_aload_n hx hb dX9_copy_80 rfl (lv_at hl 2 rfl) ?_
          refine yget (ci := 9) (k := 15) (v := .ref (S.2.2.1 h0 15)) (C := RX9) (T := TX9) (N := 67) C0 hK hP hm_h0 hk_h0 (by decide) rfl inlX9 (by decide) mW122 (fun _ h9 => h9) rfl dX9_copy_81 ?_
          obtain ⟨hmy_272, hky_272⟩ := ySh.f9_15 hSh _ hm_h0 hk_h0
          refine lv_iload hx hb dX9_copy_84 (lv_at hl 0 rfl) ?_
          have hCC_273 := yMI.c hId_27
          have T_274 : (z_30 : Int32).toInt = (d_27.1 h0 1).toInt := by rw [ez_30]
          have F_275 := fnle (rfl : (z_30 : Int32).toInt = (z_30 : Int32).toInt) (rfl : (v_26 : Int32).toInt = (v_26 : Int32).toInt) c_31
          refine yaldB C0 hK hP hmy_272 hky_272 (by decide) rfl 1 rfl (xinT 5000 rfl (by omega) (by omega)) dX9_copy_86 ?_
          refine lv_topi (fun z_276 ez_276 => ?_)
          refine lv_iload_n hx hb dX9_copy_87 rfl (lv_at hl 5 rfl) ?_
          refine lv_icmp_eq (tgt := 94) hx hb dX9_copy_88 (by decide) (fun c_277 => ?_) (fun c_277 => ?_)
          · refine lv_aload_n hx hb dX9_copy_94 rfl (lv_at hl 2 rfl) ?_
            refine yget (ci := 9) (k := 40) (v := .ref (S.2.2.1 h0 40)) (C := RX9) (T := TX9) (N := 67) C0 hK hP hm_h0 hk_h0 (by decide) rfl inlX9 (by decide) mW145 (fun _ h9 => h9) rfl dX9_copy_95 ?_
            obtain ⟨hmy_278, hky_278⟩ := ySh.f9_40 hSh _ hm_h0 hk_h0
            refine lv_iload hx hb dX9_copy_98 (lv_at hl 1 rfl) ?_
            refine lv_aload_n hx hb dX9_copy_100 rfl (lv_at hl 2 rfl) ?_
            refine yget (ci := 9) (k := 16) (v := .ref (S.2.2.1 h0 16)) (C := RX9) (T := TX9) (N := 67) C0 hK hP hm_h0 hk_h0 (by decide) rfl inlX9 (by decide) mW123 (fun _ h9 => h9) rfl dX9_copy_101 ?_
            obtain ⟨hmy_279, hky_279⟩ := ySh.f9_16 hSh _ hm_h0 hk_h0
            refine lv_iload hx hb dX9_copy_104 (lv_at hl 0 rfl) ?_
            have F_281 := feq (rfl : (z_276 : Int32).toInt = (z_276 : Int32).toInt) (rfl : (p2 : Int32).toInt = (p2 : Int32).toInt) c_277
            refine yald C0 hK hP hmy_279 hky_279 (by decide) rfl 0 rfl (xinT 5000 rfl (by omega) (by omega)) dX9_copy_106 ?_
            refine lv_topi (fun z_282 ez_282 => ?_)
            have hvz_282 : 0 ≤ (z_282 : Int32).toInt ∧ (z_282 : Int32).toInt ≤ 129599 := by rw [ez_282]; exact yMI.em_ hId_27 _
            refine yast C0 hK hP hD hS hmy_278 hky_278 (by decide) rfl 0 rfl (xinT 5000 rfl (by omega) (by omega)) dX9_copy_107 (fun H locs hP hD hS => ?_)
            obtain ⟨d_283, ed_283⟩ : ∃ z : yD, z = ycs d_27 (S.2.2.1 h0 40) (upd (d_27.2.2.2.1 (S.2.2.1 h0 40)) (v_25 : Int32).toNatClampNeg z_282) := ⟨_, rfl⟩
            rw [← ed_283] at hP hD
            have hgd_283 : yAg S [9, 42, 43, 45, 46, 47, 69, 70, 71, 72, 73] d d_283 := by rw [ed_283]; exact yAg.cs hgd_27 (by rw [hky_278]; decide)
            have hsd_283 : yAg S [70] d_27 d_283 := by rw [ed_283]; exact yAg.cs yAg.rf (by rw [hky_278]; decide)
            have hPod_283 : yPo S d_283 := by rw [ed_283]; exact hPod_27
            have hfd_283 : yK [1, 38] d d_283 h0 := yK.ag hfd_27 (show yAg S [70] d_27 d_283 from by rw [ed_283]; exact yAg.cs yAg.rf (by rw [hky_278]; decide)) (by rw [hk_h0]; decide)
            have hL0d_283 : yAg S [70, 71] d_1 d_283 := by rw [ed_283]; exact yAg.cs hLJd_27 (by rw [hky_278]; decide)
            have hK0d_283 : yK [] d_1 d_283 h0 := yK.ag hKJd_27 (show yAg S [70] d_27 d_283 from by rw [ed_283]; exact yAg.cs yAg.rf (by rw [hky_278]; decide)) (by rw [hk_h0]; decide)
            have hId_283 : yMI S d_283 h0 := by rw [ed_283]; exact yMI.w40 hId_27 hSh hm_h0 hk_h0 (yBr.up (yMI.cm_ hId_27) ⟨by omega, by omega⟩)
            have hE0d_283 : (d_283.1 h0 0).toInt = (d_27.1 h0 0).toInt := congrArg Int32.toInt ((yK.ag (F := []) yK.rf (show yAg S [70] d_27 d_283 from by rw [ed_283]; exact yAg.cs yAg.rf (by rw [hky_278]; decide)) (by rw [hk_h0]; decide)) 0 (by decide))
            have hE1d_283 : (d_283.1 h0 1).toInt = (d_27.1 h0 1).toInt := congrArg Int32.toInt ((yK.ag (F := []) yK.rf (show yAg S [70] d_27 d_283 from by rw [ed_283]; exact yAg.cs yAg.rf (by rw [hky_278]; decide)) (by rw [hk_h0]; decide)) 1 (by decide))
            have hE2d_283 : (d_283.1 h0 2).toInt = (d_27.1 h0 2).toInt := congrArg Int32.toInt ((yK.ag (F := []) yK.rf (show yAg S [70] d_27 d_283 from by rw [ed_283]; exact yAg.cs yAg.rf (by rw [hky_278]; decide)) (by rw [hk_h0]; decide)) 2 (by decide))
            have hE3d_283 : (d_283.1 h0 3).toInt = (d_27.1 h0 3).toInt := congrArg Int32.toInt ((yK.ag (F := []) yK.rf (show yAg S [70] d_27 d_283 from by rw [ed_283]; exact yAg.cs yAg.rf (by rw [hky_278]; decide)) (by rw [hk_h0]; decide)) 3 (by decide))
            have hE63d_283 : (d_283.1 h0 63).toInt = (d_27.1 h0 63).toInt := congrArg Int32.toInt ((yK.ag (F := []) yK.rf (show yAg S [70] d_27 d_283 from by rw [ed_283]; exact yAg.cs yAg.rf (by rw [hky_278]; decide)) (by rw [hk_h0]; decide)) 63 (by decide))
            refine lv_aload_n hx hb dX9_copy_108 rfl (lv_at hl 2 rfl) ?_
            refine yget (ci := 9) (k := 41) (v := .ref (S.2.2.1 h0 41)) (C := RX9) (T := TX9) (N := 67) C0 hK hP hm_h0 hk_h0 (by decide) rfl inlX9 (by decide) mW146 (fun _ h9 => h9) rfl dX9_copy_109 ?_
            obtain ⟨hmy_285, hky_285⟩ := ySh.f9_41 hSh _ hm_h0 hk_h0
            refine lv_iload hx hb dX9_copy_112 (lv_at hl 1 rfl) ?_
            refine lv_aload_n hx hb dX9_copy_114 rfl (lv_at hl 2 rfl) ?_
            refine yget (ci := 9) (k := 17) (v := .ref (S.2.2.1 h0 17)) (C := RX9) (T := TX9) (N := 67) C0 hK hP hm_h0 hk_h0 (by decide) rfl inlX9 (by decide) mW124 (fun _ h9 => h9) rfl dX9_copy_115 ?_
            obtain ⟨hmy_286, hky_286⟩ := ySh.f9_17 hSh _ hm_h0 hk_h0
            refine lv_iload hx hb dX9_copy_118 (lv_at hl 0 rfl) ?_
            have hCC_287 := yMI.c hId_283
            refine yaldB C0 hK hP hmy_286 hky_286 (by decide) rfl 1 rfl (xinT 5000 rfl (by omega) (by omega)) dX9_copy_120 ?_
            refine lv_topi (fun z_288 ez_288 => ?_)
            refine yastB C0 hK hP hD hS hmy_285 hky_285 (by decide) rfl 1 rfl (xinT 5000 rfl (by omega) (by omega)) dX9_copy_121 (fun H locs hP hD hS => ?_)
            obtain ⟨d_289, ed_289⟩ : ∃ z : yD, z = ycs d_283 (S.2.2.1 h0 41) (upd (d_283.2.2.2.1 (S.2.2.1 h0 41)) (v_25 : Int32).toNatClampNeg (vp_nar .byte z_288)) := ⟨_, rfl⟩
            rw [← ed_289] at hP hD
            have hgd_289 : yAg S [9, 42, 43, 45, 46, 47, 69, 70, 71, 72, 73] d d_289 := by rw [ed_289]; exact yAg.cs hgd_283 (by rw [hky_285]; decide)
            have hsd_289 : yAg S [71] d_283 d_289 := by rw [ed_289]; exact yAg.cs yAg.rf (by rw [hky_285]; decide)
            have hPod_289 : yPo S d_289 := by rw [ed_289]; exact hPod_283
            have hfd_289 : yK [1, 38] d d_289 h0 := yK.ag hfd_283 (show yAg S [71] d_283 d_289 from by rw [ed_289]; exact yAg.cs yAg.rf (by rw [hky_285]; decide)) (by rw [hk_h0]; decide)
            have hL0d_289 : yAg S [70, 71] d_1 d_289 := by rw [ed_289]; exact yAg.cs hL0d_283 (by rw [hky_285]; decide)
            have hK0d_289 : yK [] d_1 d_289 h0 := yK.ag hK0d_283 (show yAg S [71] d_283 d_289 from by rw [ed_289]; exact yAg.cs yAg.rf (by rw [hky_285]; decide)) (by rw [hk_h0]; decide)
            have hId_289 : yMI S d_289 h0 := yMI.ag hId_283 hSh hm_h0 hk_h0 (show yAg S [71] d_283 d_289 from by rw [ed_289]; exact yAg.cs yAg.rf (by rw [hky_285]; decide)) (yK.ag (F := []) yK.rf (show yAg S [71] d_283 d_289 from by rw [ed_289]; exact yAg.cs yAg.rf (by rw [hky_285]; decide)) (by rw [hk_h0]; decide)) (by decide) (by decide)
            have hE0d_289 : (d_289.1 h0 0).toInt = (d_283.1 h0 0).toInt := congrArg Int32.toInt ((yK.ag (F := []) yK.rf (show yAg S [71] d_283 d_289 from by rw [ed_289]; exact yAg.cs yAg.rf (by rw [hky_285]; decide)) (by rw [hk_h0]; decide)) 0 (by decide))
            have hE1d_289 : (d_289.1 h0 1).toInt = (d_283.1 h0 1).toInt := congrArg Int32.toInt ((yK.ag (F := []) yK.rf (show yAg S [71] d_283 d_289 from by rw [ed_289]; exact yAg.cs yAg.rf (by rw [hky_285]; decide)) (by rw [hk_h0]; decide)) 1 (by decide))
            have hE2d_289 : (d_289.1 h0 2).toInt = (d_283.1 h0 2).toInt := congrArg Int32.toInt ((yK.ag (F := []) yK.rf (show yAg S [71] d_283 d_289 from by rw [ed_289]; exact yAg.cs yAg.rf (by rw [hky_285]; decide)) (by rw [hk_h0]; decide)) 2 (by decide))
            have hE3d_289 : (d_289.1 h0 3).toInt = (d_283.1 h0 3).toInt := congrArg Int32.toInt ((yK.ag (F := []) yK.rf (show yAg S [71] d_283 d_289 from by rw [ed_289]; exact yAg.cs yAg.rf (by rw [hky_285]; decide)) (by rw [hk_h0]; decide)) 3 (by decide))
            have hE63d_289 : (d_289.1 h0 63).toInt = (d_283.1 h0 63).toInt := congrArg Int32.toInt ((yK.ag (F := []) yK.rf (show yAg S [71] d_283 d_289 from by rw [ed_289]; exact yAg.cs yAg.rf (by rw [hky_285]; decide)) (by rw [hk_h0]; decide)) 63 (by decide))
            refine lv_iinc (v := v_25 + 1) (lv' := [(7, .int (v_25 + 1)), (8, .int v_26), (0, .ref h0), (1, .int p0), (2, .int p1), (3, .int p2), (4, .int p3), (5, .int p4)]) hx hb dX9_copy_122 hl (k := 1) rfl rfl (by decide) rfl (fun ls hl => ?_)
            refine lv_iinc (v := v_26 + 1) (lv' := [(8, .int (v_26 + 1)), (7, .int (v_25 + 1)), (0, .ref h0), (1, .int p0), (2, .int p1), (3, .int p2), (4, .int p3), (5, .int p4)]) hx hb dX9_copy_125 hl (k := 1) rfl rfl (by decide) rfl (fun ls hl => ?_)
            refine lv_goto (tgt := 71) hx hb dX9_copy_128 (by decide) ?_
            have hCC_292 := yMI.c hId_289
            have T_293 : ((v_25 + 1) : Int32).toInt = (v_25 : Int32).toInt + 1 := tadd rfl (rfl : (v_25 : Int32).toInt = (v_25 : Int32).toInt) (by decide +kernel : (1 : Int32).toInt = 1) (by omega) (by omega)
            have T_294 : ((v_26 + 1) : Int32).toInt = (v_26 : Int32).toInt + 1 := tadd rfl (rfl : (v_26 : Int32).toInt = (v_26 : Int32).toInt) (by decide +kernel : (1 : Int32).toInt = 1) (by omega) (by omega)
            have hbb_ : (d.1 h0 1).toInt ≤ 5000 := hI.c.2.1.2
            have he0_ : (z_30 : Int32).toInt = (d.1 h0 1).toInt := by omega
            exact hnext_28 (v_25 + 1, v_26 + 1, d_289) _ _ ls (xup c_31) ⟨hP, hD, hS, hgd_289, hPod_289, hfd_289, hId_289, hL0d_289, hK0d_289, ⟨(show (0 ≤ (((v_25 + 1)) : Int32).toInt ∧ (((v_25 + 1)) : Int32).toInt ≤ (((v_26 + 1)) : Int32).toInt ∧ (((v_26 + 1)) : Int32).toInt ≤ 5000) from by have hq0_ : (0 : Int32).toInt = 0 := (by decide +kernel); omega), (zM1.yes hex_29.2 hSh hm_h0 hk_h0 hbb_ he0_ c_31 (((hLJd_27 _ (by rw [(ySh.f9_15 hSh h0 hm_h0 hk_h0).2]; decide)).2.2.2.1).trans (hsd_1 _ (by rw [(ySh.f9_15 hSh h0 hm_h0 hk_h0).2]; decide)).2.2.2.1) (((hLJd_27 _ (by rw [(ySh.f9_16 hSh h0 hm_h0 hk_h0).2]; decide)).2.2.2.1).trans (hsd_1 _ (by rw [(ySh.f9_16 hSh h0 hm_h0 hk_h0).2]; decide)).2.2.2.1) (((hsd_283 _ (by rw [(ySh.f9_17 hSh h0 hm_h0 hk_h0).2]; decide)).2.2.2.1).trans (((hLJd_27 _ (by rw [(ySh.f9_17 hSh h0 hm_h0 hk_h0).2]; decide)).2.2.2.1).trans (hsd_1 _ (by rw [(ySh.f9_17 hSh h0 hm_h0 hk_h0).2]; decide)).2.2.2.1)) ez_276 c_277 ez_282 ed_283 ez_288 ed_289)⟩, lv_sub hl [0, 1, 2, 3, 4, 5, 6, 7] rfl⟩
          · refine lv_goto (tgt := 125) hx hb dX9_copy_91 (by decide) ?_
            refine lv_iinc (v := v_26 + 1) (lv' := [(8, .int (v_26 + 1)), (7, .int v_25), (0, .ref h0), (1, .int p0), (2, .int p1), (3, .int p2), (4, .int p3), (5, .int p4)]) hx hb dX9_copy_125 hl (k := 0) rfl rfl (by decide) rfl (fun ls hl => ?_)
            refine lv_goto (tgt := 71) hx hb dX9_copy_128 (by decide) ?_
            have F_297 := fne (rfl : (z_276 : Int32).toInt = (z_276 : Int32).toInt) (rfl : (p2 : Int32).toInt = (p2 : Int32).toInt) c_277
            have T_298 : ((v_26 + 1) : Int32).toInt = (v_26 : Int32).toInt + 1 := tadd rfl (rfl : (v_26 : Int32).toInt = (v_26 : Int32).toInt) (by decide +kernel : (1 : Int32).toInt = 1) (by omega) (by omega)
            have hbb_ : (d.1 h0 1).toInt ≤ 5000 := hI.c.2.1.2
            have he0_ : (z_30 : Int32).toInt = (d.1 h0 1).toInt := by omega
            exact hnext_28 (v_25, v_26 + 1, d_27) _ _ ls (xup c_31) ⟨hP, hD, hS, hgd_27, hPod_27, hfd_27, hId_27, hLJd_27, hKJd_27, ⟨(show (0 ≤ ((v_25) : Int32).toInt ∧ ((v_25) : Int32).toInt ≤ (((v_26 + 1)) : Int32).toInt ∧ (((v_26 + 1)) : Int32).toInt ≤ 5000) from by have hq0_ : (0 : Int32).toInt = 0 := (by decide +kernel); omega), (zM1.no hex_29.2 hbb_ he0_ c_31 (((hLJd_27 _ (by rw [(ySh.f9_15 hSh h0 hm_h0 hk_h0).2]; decide)).2.2.2.1).trans (hsd_1 _ (by rw [(ySh.f9_15 hSh h0 hm_h0 hk_h0).2]; decide)).2.2.2.1) ez_276 c_277)⟩, lv_sub hl [0, 1, 2, 3, 4, 5, 6, 7] rfl⟩
      · refine lv_aload_n hx hb dX9_copy_58 rfl (lv_at hl 1 rfl) ?_
        refine lv_iload hx hb dX9_copy_59 (lv_at hl 0 rfl) ?_
        have F_299 := fne (rfl : (r_21 : Int32).toInt = (r_21 : Int32).toInt) (by decide +kernel : (0 : Int32).toInt = 0) c_22
        refine yVwi (As := [.int r_21]) (rest := []) C0 (g_X9_no l G S d_1 h0 r_21 hSh hPod_1 hm_h0 hk_h0 (by refine ⟨?_, ?_⟩ <;> omega)) ok_X9_no (mW177 : Cond.methodLink RX9 168 yX9_no ∈ wsT) ⟨Nat.le_of_ble_eq_true rfl, Nat.le_of_ble_eq_true rfl⟩ hP hD hS hA hK hN hm_h0 hk_h0 (by decide) rfl rfl rfl hl.1 rfl (Nat.le_of_ble_eq_true rfl) ⟨Nat.le_of_ble_eq_true rfl, Nat.le_of_ble_eq_true rfl⟩ dX9_copy_61 (fun r_300 d_301 H locs hr_300 hP hD hS => ?_)
        obtain ⟨hgad_301, hpad_301, hfad_301, hxd_301⟩ := hr_300
        have hfd_301 : yK [1, 38] d d_301 h0 := yK.tr hfd_1 hfad_301 (by decide)
        have hE0d_301 : (d_301.1 h0 0).toInt = (d_1.1 h0 0).toInt := congrArg Int32.toInt (hfad_301 0 (by decide))
        have hE1d_301 : (d_301.1 h0 1).toInt = (d_1.1 h0 1).toInt := congrArg Int32.toInt (hfad_301 1 (by decide))
        have hE2d_301 : (d_301.1 h0 2).toInt = (d_1.1 h0 2).toInt := congrArg Int32.toInt (hfad_301 2 (by decide))
        have hE3d_301 : (d_301.1 h0 3).toInt = (d_1.1 h0 3).toInt := congrArg Int32.toInt (hfad_301 3 (by decide))
        have hE63d_301 : (d_301.1 h0 63).toInt = (d_1.1 h0 63).toInt := congrArg Int32.toInt (hfad_301 63 (by decide))
        have hId_301 : yMI S d_301 h0 := yMI.ag hId_1 hSh hm_h0 hk_h0 hgad_301 hfad_301 (by decide) (by decide)
        have hgd_301 : yAg S [9, 42, 43, 45, 46, 47, 69, 70, 71, 72, 73] d d_301 := yAg.tr hgd_1 hgad_301 (by first | decide | exact fun _ h => h)
        have hPod_301 : yPo S d_301 := hpad_301 hPod_1
        have hm1r_300 : (r_300 : Int32).toInt = -1 := by rw [hxd_301]; decide +kernel
        have hrf_302 : d_1.2.2.2.2 (S.2.2.1 h0 11) = d.2.2.2.2 (S.2.2.1 h0 11) := (hsd_1 _ (by rw [(ySh.f9_11 hSh h0 hm_h0 hk_h0).2]; decide)).2.2.2.2
        have hrf_302a : yOI S d_1 h0 (p0 : Int32).toInt.toNat = yOI S d h0 (p0 : Int32).toInt.toNat := by unfold yOI; rw [hrf_302]
        have hrf_302b : yOf S d_1 h0 (p0 : Int32).toInt.toNat 2 = yOf S d h0 (p0 : Int32).toInt.toNat 2 := by unfold yOf; rw [hrf_302]
        have hrf_303 : d_1.2.2.2.2 (S.2.2.1 h0 11) = d.2.2.2.2 (S.2.2.1 h0 11) := (hsd_1 _ (by rw [(ySh.f9_11 hSh h0 hm_h0 hk_h0).2]; decide)).2.2.2.2
        have hrf_303a : yOI S d_1 h0 (p2 : Int32).toInt.toNat = yOI S d h0 (p2 : Int32).toInt.toNat := by unfold yOI; rw [hrf_303]
        have hrf_303b : yOf S d_1 h0 (p2 : Int32).toInt.toNat 2 = yOf S d h0 (p2 : Int32).toInt.toNat 2 := by unfold yOf; rw [hrf_303]
        have hCC_304 := yMI.c hId_301
        have hz00_ : (0 : Int32).toInt = 0 := by decide +kernel
        have hz11_ : (1 : Int32).toInt = 1 := by decide +kernel
        exact W.iret (v := r_300) hx hb hr (fun t ht hW => ⟨⟨r_300, d_301, rfl, ⟨hgd_301, (fun _ => hPod_301), hfd_301, ⟨hId_301, ⟨fun hc_ => absurd hc_ (by omega), fun _ => ⟨by omega, (zMe.ag (zMe.ag zMe.rf hSh hm_h0 hk_h0 hsd_1 (show yK [38] d d_1 h0 from by rw [ed_1]; exact yK.i yK.rf (by decide)) (by decide) (by decide)) hSh hm_h0 hk_h0 hgad_301 hfad_301 (by decide) (by decide))⟩⟩⟩⟩, by rw [ht]; exact hP, hD⟩, hS.F ht⟩) hS.2.2 dX9_copy_64
    · refine lv_iconst (v := 1) hx hb dX9_copy_17 (by decide) ?_
      refine lv_goto (tgt := 22) hx hb dX9_copy_18 (by decide) ?_
      refine lv_istore (lv' := [(6, .int 1), (0, .ref h0), (1, .int p0), (2, .int p1), (3, .int p2), (4, .int p3), (5, .int p4)]) hx hb dX9_copy_22 hl (by decide) rfl (fun ls hl => ?_)
      refine lv_aload_n hx hb dX9_copy_24 rfl (lv_at hl 1 rfl) ?_
      refine lv_iload hx hb dX9_copy_25 (lv_at hl 0 rfl) ?_
      refine lv_aload_n hx hb dX9_copy_27 rfl (lv_at hl 1 rfl) ?_
      refine lv_iload_n hx hb dX9_copy_28 rfl (lv_at hl 2 rfl) ?_
      refine lv_iload_n hx hb dX9_copy_29 rfl (lv_at hl 3 rfl) ?_
      refine yVri (As := [.int p0, .int p1]) (rest := [.int 1, .ref h0]) C0 (g_X9_dayWhy l G S d_1 h0 p0 p1 hSh hm_h0 hk_h0 hId_1) ok_X9_dayWhy (mW450 : Cond.methodLink RX9 206 yX9_dayWhy ∈ wsT) ⟨Nat.le_of_ble_eq_true rfl, Nat.le_of_ble_eq_true rfl⟩ hP hD hK hN hm_h0 hk_h0 (by decide) rfl rfl rfl hl.1 rfl (Nat.le_of_ble_eq_true rfl) ⟨Nat.le_of_ble_eq_true rfl, Nat.le_of_ble_eq_true rfl⟩ dX9_copy_30 (fun r_305 hr_305 => ?_)
      have F_306 := fnlt (rfl : (p4 : Int32).toInt = (p4 : Int32).toInt) (by decide +kernel : (0 : Int32).toInt = 0) c_2
      have F_307 := fnle (rfl : (p4 : Int32).toInt = (p4 : Int32).toInt) (by decide +kernel : (90 : Int32).toInt = 90) c_15
      refine yVri (As := [.int 1, .int r_305]) (rest := []) C0 (g_X9_lesser l G S d_1 h0 1 r_305 hSh hm_h0 hk_h0 (by decide +kernel) (by refine ⟨?_, ?_⟩ <;> omega)) ok_X9_lesser (mW489 : Cond.methodLink RX9 209 yX9_lesser ∈ wsT) ⟨Nat.le_of_ble_eq_true rfl, Nat.le_of_ble_eq_true rfl⟩ hP hD hK hN hm_h0 hk_h0 (by decide) rfl rfl rfl hl.1 rfl (Nat.le_of_ble_eq_true rfl) ⟨Nat.le_of_ble_eq_true rfl, Nat.le_of_ble_eq_true rfl⟩ dX9_copy_33 (fun r_308 hr_308 => ?_)
      refine lv_istore (lv' := [(6, .int r_308), (0, .ref h0), (1, .int p0), (2, .int p1), (3, .int p2), (4, .int p3), (5, .int p4)]) hx hb dX9_copy_36 hl (by decide) rfl (fun ls hl => ?_)
      refine lv_aload_n hx hb dX9_copy_38 rfl (lv_at hl 1 rfl) ?_
      refine lv_iload hx hb dX9_copy_39 (lv_at hl 0 rfl) ?_
      refine lv_aload_n hx hb dX9_copy_41 rfl (lv_at hl 1 rfl) ?_
      refine lv_iload_n hx hb dX9_copy_42 rfl (lv_at hl 4 rfl) ?_
      refine lv_iload hx hb dX9_copy_43 (lv_at hl 5 rfl) ?_
      refine yVri (As := [.int p2, .int p3]) (rest := [.int r_308, .ref h0]) C0 (g_X9_dayWhy l G S d_1 h0 p2 p3 hSh hm_h0 hk_h0 hId_1) ok_X9_dayWhy (mW450 : Cond.methodLink RX9 206 yX9_dayWhy ∈ wsT) ⟨Nat.le_of_ble_eq_true rfl, Nat.le_of_ble_eq_true rfl⟩ hP hD hK hN hm_h0 hk_h0 (by decide) rfl rfl rfl hl.1 rfl (Nat.le_of_ble_eq_true rfl) ⟨Nat.le_of_ble_eq_true rfl, Nat.le_of_ble_eq_true rfl⟩ dX9_copy_45 (fun r_309 hr_309 => ?_)
      refine yVri (As := [.int r_308, .int r_309]) (rest := []) C0 (g_X9_lesser l G S d_1 h0 r_308 r_309 hSh hm_h0 hk_h0 (by refine ⟨?_, ?_⟩ <;> omega) (by refine ⟨?_, ?_⟩ <;> omega)) ok_X9_lesser (mW489 : Cond.methodLink RX9 209 yX9_lesser ∈ wsT) ⟨Nat.le_of_ble_eq_true rfl, Nat.le_of_ble_eq_true rfl⟩ hP hD hK hN hm_h0 hk_h0 (by decide) rfl rfl rfl hl.1 rfl (Nat.le_of_ble_eq_true rfl) ⟨Nat.le_of_ble_eq_true rfl, Nat.le_of_ble_eq_true rfl⟩ dX9_copy_48 (fun r_310 hr_310 => ?_)
      refine lv_istore (lv' := [(6, .int r_310), (0, .ref h0), (1, .int p0), (2, .int p1), (3, .int p2), (4, .int p3), (5, .int p4)]) hx hb dX9_copy_51 hl (by decide) rfl (fun ls hl => ?_)
      refine lv_iload hx hb dX9_copy_53 (lv_at hl 0 rfl) ?_
      refine lv_if_eq (tgt := 65) hx hb dX9_copy_55 (by decide) (fun c_311 => (by exfalso; have q1 := (hr_310.2.2.1 (by rw [c_311]; decide +kernel)).1; have q2 := (hr_308.2.2.1 q1).1; exact absurd q2 (by decide +kernel))) (fun c_311 => ?_)
      refine lv_aload_n hx hb dX9_copy_58 rfl (lv_at hl 1 rfl) ?_
      refine lv_iload hx hb dX9_copy_59 (lv_at hl 0 rfl) ?_
      have F_312 := fne (rfl : (r_310 : Int32).toInt = (r_310 : Int32).toInt) (by decide +kernel : (0 : Int32).toInt = 0) c_311
      refine yVwi (As := [.int r_310]) (rest := []) C0 (g_X9_no l G S d_1 h0 r_310 hSh hPod_1 hm_h0 hk_h0 (by refine ⟨?_, ?_⟩ <;> omega)) ok_X9_no (mW177 : Cond.methodLink RX9 168 yX9_no ∈ wsT) ⟨Nat.le_of_ble_eq_true rfl, Nat.le_of_ble_eq_true rfl⟩ hP hD hS hA hK hN hm_h0 hk_h0 (by decide) rfl rfl rfl hl.1 rfl (Nat.le_of_ble_eq_true rfl) ⟨Nat.le_of_ble_eq_true rfl, Nat.le_of_ble_eq_true rfl⟩ dX9_copy_61 (fun r_313 d_314 H locs hr_313 hP hD hS => ?_)
      obtain ⟨hgad_314, hpad_314, hfad_314, hxd_314⟩ := hr_313
      have hfd_314 : yK [1, 38] d d_314 h0 := yK.tr hfd_1 hfad_314 (by decide)
      have hE0d_314 : (d_314.1 h0 0).toInt = (d_1.1 h0 0).toInt := congrArg Int32.toInt (hfad_314 0 (by decide))
      have hE1d_314 : (d_314.1 h0 1).toInt = (d_1.1 h0 1).toInt := congrArg Int32.toInt (hfad_314 1 (by decide))
      have hE2d_314 : (d_314.1 h0 2).toInt = (d_1.1 h0 2).toInt := congrArg Int32.toInt (hfad_314 2 (by decide))
      have hE3d_314 : (d_314.1 h0 3).toInt = (d_1.1 h0 3).toInt := congrArg Int32.toInt (hfad_314 3 (by decide))
      have hE63d_314 : (d_314.1 h0 63).toInt = (d_1.1 h0 63).toInt := congrArg Int32.toInt (hfad_314 63 (by decide))
      have hId_314 : yMI S d_314 h0 := yMI.ag hId_1 hSh hm_h0 hk_h0 hgad_314 hfad_314 (by decide) (by decide)
      have hgd_314 : yAg S [9, 42, 43, 45, 46, 47, 69, 70, 71, 72, 73] d d_314 := yAg.tr hgd_1 hgad_314 (by first | decide | exact fun _ h => h)
      have hPod_314 : yPo S d_314 := hpad_314 hPod_1
      have hm1r_313 : (r_313 : Int32).toInt = -1 := by rw [hxd_314]; decide +kernel
      have hrf_315 : d_1.2.2.2.2 (S.2.2.1 h0 11) = d.2.2.2.2 (S.2.2.1 h0 11) := (hsd_1 _ (by rw [(ySh.f9_11 hSh h0 hm_h0 hk_h0).2]; decide)).2.2.2.2
      have hrf_315a : yOI S d_1 h0 (p0 : Int32).toInt.toNat = yOI S d h0 (p0 : Int32).toInt.toNat := by unfold yOI; rw [hrf_315]
      have hrf_315b : yOf S d_1 h0 (p0 : Int32).toInt.toNat 2 = yOf S d h0 (p0 : Int32).toInt.toNat 2 := by unfold yOf; rw [hrf_315]
      have hrf_316 : d_1.2.2.2.2 (S.2.2.1 h0 11) = d.2.2.2.2 (S.2.2.1 h0 11) := (hsd_1 _ (by rw [(ySh.f9_11 hSh h0 hm_h0 hk_h0).2]; decide)).2.2.2.2
      have hrf_316a : yOI S d_1 h0 (p2 : Int32).toInt.toNat = yOI S d h0 (p2 : Int32).toInt.toNat := by unfold yOI; rw [hrf_316]
      have hrf_316b : yOf S d_1 h0 (p2 : Int32).toInt.toNat 2 = yOf S d h0 (p2 : Int32).toInt.toNat 2 := by unfold yOf; rw [hrf_316]
      have hCC_317 := yMI.c hId_314
      have hz00_ : (0 : Int32).toInt = 0 := by decide +kernel
      have hz11_ : (1 : Int32).toInt = 1 := by decide +kernel
      exact W.iret (v := r_313) hx hb hr (fun t ht hW => ⟨⟨r_313, d_314, rfl, ⟨hgd_314, (fun _ => hPod_314), hfd_314, ⟨hId_314, ⟨fun hc_ => absurd hc_ (by omega), fun _ => ⟨by omega, (zMe.ag (zMe.ag zMe.rf hSh hm_h0 hk_h0 hsd_1 (show yK [38] d d_1 h0 from by rw [ed_1]; exact yK.i yK.rf (by decide)) (by decide) (by decide)) hSh hm_h0 hk_h0 hgad_314 hfad_314 (by decide) (by decide))⟩⟩⟩⟩, by rw [ht]; exact hP, hD⟩, hS.F ht⟩) hS.2.2 dX9_copy_64
