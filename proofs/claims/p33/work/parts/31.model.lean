theorem dX9_copy_0 : decode cX9_copy 0 = .ok (.aload_n 0, 1) := by decide +kernel
theorem dX9_copy_1 : decode cX9_copy 1 = .ok (.iconst 0, 1) := by decide +kernel
theorem dX9_copy_2 : decode cX9_copy 2 = .ok (.putfield 147, 3) := by decide +kernel
theorem dX9_copy_5 : decode cX9_copy 5 = .ok (.iload 5, 2) := by decide +kernel
theorem dX9_copy_7 : decode cX9_copy 7 = .ok (.ifCond .lt 10, 3) := by decide +kernel
theorem dX9_copy_10 : decode cX9_copy 10 = .ok (.iload 5, 2) := by decide +kernel
theorem dX9_copy_12 : decode cX9_copy 12 = .ok (.bipush 90, 2) := by decide +kernel
theorem dX9_copy_14 : decode cX9_copy 14 = .ok (.if_icmp .le 7, 3) := by decide +kernel
theorem dX9_copy_17 : decode cX9_copy 17 = .ok (.iconst 1, 1) := by decide +kernel
theorem dX9_copy_18 : decode cX9_copy 18 = .ok (.goto 4, 3) := by decide +kernel
theorem dX9_copy_21 : decode cX9_copy 21 = .ok (.iconst 0, 1) := by decide +kernel
theorem dX9_copy_22 : decode cX9_copy 22 = .ok (.istore 6, 2) := by decide +kernel
theorem dX9_copy_24 : decode cX9_copy 24 = .ok (.aload_n 0, 1) := by decide +kernel
theorem dX9_copy_25 : decode cX9_copy 25 = .ok (.iload 6, 2) := by decide +kernel
theorem dX9_copy_27 : decode cX9_copy 27 = .ok (.aload_n 0, 1) := by decide +kernel
theorem dX9_copy_28 : decode cX9_copy 28 = .ok (.iload_n 1, 1) := by decide +kernel
theorem dX9_copy_29 : decode cX9_copy 29 = .ok (.iload_n 2, 1) := by decide +kernel
theorem dX9_copy_30 : decode cX9_copy 30 = .ok (.invokevirtual 206, 3) := by decide +kernel
theorem dX9_copy_33 : decode cX9_copy 33 = .ok (.invokevirtual 209, 3) := by decide +kernel
theorem dX9_copy_36 : decode cX9_copy 36 = .ok (.istore 6, 2) := by decide +kernel
theorem dX9_copy_38 : decode cX9_copy 38 = .ok (.aload_n 0, 1) := by decide +kernel
theorem dX9_copy_39 : decode cX9_copy 39 = .ok (.iload 6, 2) := by decide +kernel
theorem dX9_copy_41 : decode cX9_copy 41 = .ok (.aload_n 0, 1) := by decide +kernel
theorem dX9_copy_42 : decode cX9_copy 42 = .ok (.iload_n 3, 1) := by decide +kernel
theorem dX9_copy_43 : decode cX9_copy 43 = .ok (.iload 4, 2) := by decide +kernel
theorem dX9_copy_45 : decode cX9_copy 45 = .ok (.invokevirtual 206, 3) := by decide +kernel
theorem dX9_copy_48 : decode cX9_copy 48 = .ok (.invokevirtual 209, 3) := by decide +kernel
theorem dX9_copy_51 : decode cX9_copy 51 = .ok (.istore 6, 2) := by decide +kernel
theorem dX9_copy_53 : decode cX9_copy 53 = .ok (.iload 6, 2) := by decide +kernel
theorem dX9_copy_55 : decode cX9_copy 55 = .ok (.ifCond .eq 10, 3) := by decide +kernel
theorem dX9_copy_58 : decode cX9_copy 58 = .ok (.aload_n 0, 1) := by decide +kernel
theorem dX9_copy_59 : decode cX9_copy 59 = .ok (.iload 6, 2) := by decide +kernel
theorem dX9_copy_61 : decode cX9_copy 61 = .ok (.invokevirtual 168, 3) := by decide +kernel
theorem dX9_copy_64 : decode cX9_copy 64 = .ok (.ireturn, 1) := by decide +kernel
theorem dX9_copy_65 : decode cX9_copy 65 = .ok (.iconst 0, 1) := by decide +kernel
theorem dX9_copy_66 : decode cX9_copy 66 = .ok (.istore 7, 2) := by decide +kernel
theorem dX9_copy_68 : decode cX9_copy 68 = .ok (.iconst 0, 1) := by decide +kernel
theorem dX9_copy_69 : decode cX9_copy 69 = .ok (.istore 8, 2) := by decide +kernel
theorem dX9_copy_71 : decode cX9_copy 71 = .ok (.iload 8, 2) := by decide +kernel
theorem dX9_copy_73 : decode cX9_copy 73 = .ok (.aload_n 0, 1) := by decide +kernel
theorem dX9_copy_74 : decode cX9_copy 74 = .ok (.getfield 180, 3) := by decide +kernel
theorem dX9_copy_77 : decode cX9_copy 77 = .ok (.if_icmp .ge 54, 3) := by decide +kernel
theorem dX9_copy_80 : decode cX9_copy 80 = .ok (.aload_n 0, 1) := by decide +kernel
theorem dX9_copy_81 : decode cX9_copy 81 = .ok (.getfield 51, 3) := by decide +kernel
theorem dX9_copy_84 : decode cX9_copy 84 = .ok (.iload 8, 2) := by decide +kernel
theorem dX9_copy_86 : decode cX9_copy 86 = .ok (.baload, 1) := by decide +kernel
theorem dX9_copy_87 : decode cX9_copy 87 = .ok (.iload_n 3, 1) := by decide +kernel
theorem dX9_copy_88 : decode cX9_copy 88 = .ok (.if_icmp .eq 6, 3) := by decide +kernel
theorem dX9_copy_91 : decode cX9_copy 91 = .ok (.goto 34, 3) := by decide +kernel
theorem dX9_copy_94 : decode cX9_copy 94 = .ok (.aload_n 0, 1) := by decide +kernel
theorem dX9_copy_95 : decode cX9_copy 95 = .ok (.getfield 120, 3) := by decide +kernel
theorem dX9_copy_98 : decode cX9_copy 98 = .ok (.iload 7, 2) := by decide +kernel
theorem dX9_copy_100 : decode cX9_copy 100 = .ok (.aload_n 0, 1) := by decide +kernel
theorem dX9_copy_101 : decode cX9_copy 101 = .ok (.getfield 54, 3) := by decide +kernel
theorem dX9_copy_104 : decode cX9_copy 104 = .ok (.iload 8, 2) := by decide +kernel
theorem dX9_copy_106 : decode cX9_copy 106 = .ok (.iaload, 1) := by decide +kernel
theorem dX9_copy_107 : decode cX9_copy 107 = .ok (.iastore, 1) := by decide +kernel
theorem dX9_copy_108 : decode cX9_copy 108 = .ok (.aload_n 0, 1) := by decide +kernel
theorem dX9_copy_109 : decode cX9_copy 109 = .ok (.getfield 123, 3) := by decide +kernel
theorem dX9_copy_112 : decode cX9_copy 112 = .ok (.iload 7, 2) := by decide +kernel
theorem dX9_copy_114 : decode cX9_copy 114 = .ok (.aload_n 0, 1) := by decide +kernel
theorem dX9_copy_115 : decode cX9_copy 115 = .ok (.getfield 57, 3) := by decide +kernel
theorem dX9_copy_118 : decode cX9_copy 118 = .ok (.iload 8, 2) := by decide +kernel
theorem dX9_copy_120 : decode cX9_copy 120 = .ok (.baload, 1) := by decide +kernel
theorem dX9_copy_121 : decode cX9_copy 121 = .ok (.bastore, 1) := by decide +kernel
theorem dX9_copy_122 : decode cX9_copy 122 = .ok (.iinc 7 1, 3) := by decide +kernel
theorem dX9_copy_125 : decode cX9_copy 125 = .ok (.iinc 8 1, 3) := by decide +kernel
theorem dX9_copy_128 : decode cX9_copy 128 = .ok (.goto (-57), 3) := by decide +kernel
theorem dX9_copy_131 : decode cX9_copy 131 = .ok (.iconst 0, 1) := by decide +kernel
theorem dX9_copy_132 : decode cX9_copy 132 = .ok (.istore 8, 2) := by decide +kernel
theorem dX9_copy_134 : decode cX9_copy 134 = .ok (.iload 8, 2) := by decide +kernel
theorem dX9_copy_136 : decode cX9_copy 136 = .ok (.bipush 90, 2) := by decide +kernel
theorem dX9_copy_138 : decode cX9_copy 138 = .ok (.if_icmp .ge 47, 3) := by decide +kernel
theorem dX9_copy_141 : decode cX9_copy 141 = .ok (.aload_n 0, 1) := by decide +kernel
theorem dX9_copy_142 : decode cX9_copy 142 = .ok (.getfield 126, 3) := by decide +kernel
theorem dX9_copy_145 : decode cX9_copy 145 = .ok (.iload 8, 2) := by decide +kernel
theorem dX9_copy_147 : decode cX9_copy 147 = .ok (.aload_n 0, 1) := by decide +kernel
theorem dX9_copy_148 : decode cX9_copy 148 = .ok (.getfield 40, 3) := by decide +kernel
theorem dX9_copy_151 : decode cX9_copy 151 = .ok (.bipush 90, 2) := by decide +kernel
theorem dX9_copy_153 : decode cX9_copy 153 = .ok (.iload_n 3, 1) := by decide +kernel
theorem dX9_copy_154 : decode cX9_copy 154 = .ok (.imul, 1) := by decide +kernel
theorem dX9_copy_155 : decode cX9_copy 155 = .ok (.iload 8, 2) := by decide +kernel
theorem dX9_copy_157 : decode cX9_copy 157 = .ok (.iadd, 1) := by decide +kernel
theorem dX9_copy_158 : decode cX9_copy 158 = .ok (.saload, 1) := by decide +kernel
theorem dX9_copy_159 : decode cX9_copy 159 = .ok (.sastore, 1) := by decide +kernel
theorem dX9_copy_160 : decode cX9_copy 160 = .ok (.aload_n 0, 1) := by decide +kernel
theorem dX9_copy_161 : decode cX9_copy 161 = .ok (.getfield 129, 3) := by decide +kernel
theorem dX9_copy_164 : decode cX9_copy 164 = .ok (.iload 8, 2) := by decide +kernel
theorem dX9_copy_166 : decode cX9_copy 166 = .ok (.aload_n 0, 1) := by decide +kernel
theorem dX9_copy_167 : decode cX9_copy 167 = .ok (.getfield 44, 3) := by decide +kernel
theorem dX9_copy_170 : decode cX9_copy 170 = .ok (.bipush 90, 2) := by decide +kernel
theorem dX9_copy_172 : decode cX9_copy 172 = .ok (.iload_n 3, 1) := by decide +kernel
theorem dX9_copy_173 : decode cX9_copy 173 = .ok (.imul, 1) := by decide +kernel
theorem dX9_copy_174 : decode cX9_copy 174 = .ok (.iload 8, 2) := by decide +kernel
theorem dX9_copy_176 : decode cX9_copy 176 = .ok (.iadd, 1) := by decide +kernel
theorem dX9_copy_177 : decode cX9_copy 177 = .ok (.baload, 1) := by decide +kernel
theorem dX9_copy_178 : decode cX9_copy 178 = .ok (.bastore, 1) := by decide +kernel
theorem dX9_copy_179 : decode cX9_copy 179 = .ok (.iinc 8 1, 3) := by decide +kernel
theorem dX9_copy_182 : decode cX9_copy 182 = .ok (.goto (-48), 3) := by decide +kernel
theorem dX9_copy_185 : decode cX9_copy 185 = .ok (.iconst 0, 1) := by decide +kernel
theorem dX9_copy_186 : decode cX9_copy 186 = .ok (.istore 8, 2) := by decide +kernel
theorem dX9_copy_188 : decode cX9_copy 188 = .ok (.iconst 0, 1) := by decide +kernel
theorem dX9_copy_189 : decode cX9_copy 189 = .ok (.istore 9, 2) := by decide +kernel
theorem dX9_copy_191 : decode cX9_copy 191 = .ok (.aload_n 0, 1) := by decide +kernel
theorem dX9_copy_192 : decode cX9_copy 192 = .ok (.iload_n 3, 1) := by decide +kernel
theorem dX9_copy_193 : decode cX9_copy 193 = .ok (.iconst 2, 1) := by decide +kernel
theorem dX9_copy_194 : decode cX9_copy 194 = .ok (.invokevirtual 161, 3) := by decide +kernel
theorem dX9_copy_197 : decode cX9_copy 197 = .ok (.istore 10, 2) := by decide +kernel
theorem dX9_copy_199 : decode cX9_copy 199 = .ok (.iload 8, 2) := by decide +kernel
theorem dX9_copy_201 : decode cX9_copy 201 = .ok (.iload 5, 2) := by decide +kernel
theorem dX9_copy_203 : decode cX9_copy 203 = .ok (.if_icmp .ge 284, 3) := by decide +kernel
theorem dX9_copy_206 : decode cX9_copy 206 = .ok (.iload 9, 2) := by decide +kernel
theorem dX9_copy_208 : decode cX9_copy 208 = .ok (.ifCond .ne 279, 3) := by decide +kernel
theorem dX9_copy_211 : decode cX9_copy 211 = .ok (.iload_n 2, 1) := by decide +kernel
theorem dX9_copy_212 : decode cX9_copy 212 = .ok (.iload 8, 2) := by decide +kernel
theorem dX9_copy_214 : decode cX9_copy 214 = .ok (.iadd, 1) := by decide +kernel
theorem dX9_copy_215 : decode cX9_copy 215 = .ok (.istore 11, 2) := by decide +kernel
theorem dX9_copy_217 : decode cX9_copy 217 = .ok (.iload 4, 2) := by decide +kernel
theorem dX9_copy_219 : decode cX9_copy 219 = .ok (.iload 8, 2) := by decide +kernel
theorem dX9_copy_221 : decode cX9_copy 221 = .ok (.iadd, 1) := by decide +kernel
theorem dX9_copy_222 : decode cX9_copy 222 = .ok (.istore 12, 2) := by decide +kernel
theorem dX9_copy_224 : decode cX9_copy 224 = .ok (.iload 11, 2) := by decide +kernel
theorem dX9_copy_226 : decode cX9_copy 226 = .ok (.aload_n 0, 1) := by decide +kernel
theorem dX9_copy_227 : decode cX9_copy 227 = .ok (.iload_n 1, 1) := by decide +kernel
theorem dX9_copy_228 : decode cX9_copy 228 = .ok (.iconst 2, 1) := by decide +kernel
theorem dX9_copy_229 : decode cX9_copy 229 = .ok (.invokevirtual 161, 3) := by decide +kernel
theorem dX9_copy_232 : decode cX9_copy 232 = .ok (.if_icmp .ge 10, 3) := by decide +kernel
theorem dX9_copy_235 : decode cX9_copy 235 = .ok (.iload 12, 2) := by decide +kernel
theorem dX9_copy_237 : decode cX9_copy 237 = .ok (.iload 10, 2) := by decide +kernel
theorem dX9_copy_239 : decode cX9_copy 239 = .ok (.if_icmp .lt 9, 3) := by decide +kernel
theorem dX9_copy_242 : decode cX9_copy 242 = .ok (.iconst 4, 1) := by decide +kernel
theorem dX9_copy_243 : decode cX9_copy 243 = .ok (.istore 9, 2) := by decide +kernel
theorem dX9_copy_245 : decode cX9_copy 245 = .ok (.goto 239, 3) := by decide +kernel
theorem dX9_copy_248 : decode cX9_copy 248 = .ok (.iconst 0, 1) := by decide +kernel
theorem dX9_copy_249 : decode cX9_copy 249 = .ok (.istore 13, 2) := by decide +kernel
theorem dX9_copy_251 : decode cX9_copy 251 = .ok (.iconst 0, 1) := by decide +kernel
theorem dX9_copy_252 : decode cX9_copy 252 = .ok (.istore 14, 2) := by decide +kernel
theorem dX9_copy_254 : decode cX9_copy 254 = .ok (.iload 14, 2) := by decide +kernel
theorem dX9_copy_256 : decode cX9_copy 256 = .ok (.iload 7, 2) := by decide +kernel
theorem dX9_copy_258 : decode cX9_copy 258 = .ok (.if_icmp .ge 28, 3) := by decide +kernel
theorem dX9_copy_261 : decode cX9_copy 261 = .ok (.aload_n 0, 1) := by decide +kernel
theorem dX9_copy_262 : decode cX9_copy 262 = .ok (.getfield 120, 3) := by decide +kernel
theorem dX9_copy_265 : decode cX9_copy 265 = .ok (.iload 14, 2) := by decide +kernel
theorem dX9_copy_267 : decode cX9_copy 267 = .ok (.iaload, 1) := by decide +kernel
theorem dX9_copy_268 : decode cX9_copy 268 = .ok (.sipush 1440, 3) := by decide +kernel
theorem dX9_copy_271 : decode cX9_copy 271 = .ok (.idiv, 1) := by decide +kernel
theorem dX9_copy_272 : decode cX9_copy 272 = .ok (.iload 12, 2) := by decide +kernel
theorem dX9_copy_274 : decode cX9_copy 274 = .ok (.if_icmp .ne 6, 3) := by decide +kernel
theorem dX9_copy_277 : decode cX9_copy 277 = .ok (.iinc 13 1, 3) := by decide +kernel
theorem dX9_copy_280 : decode cX9_copy 280 = .ok (.iinc 14 1, 3) := by decide +kernel
theorem dX9_copy_283 : decode cX9_copy 283 = .ok (.goto (-29), 3) := by decide +kernel
theorem dX9_copy_286 : decode cX9_copy 286 = .ok (.iconst 0, 1) := by decide +kernel
theorem dX9_copy_287 : decode cX9_copy 287 = .ok (.istore 14, 2) := by decide +kernel
theorem dX9_copy_289 : decode cX9_copy 289 = .ok (.iconst 0, 1) := by decide +kernel
theorem dX9_copy_290 : decode cX9_copy 290 = .ok (.istore 15, 2) := by decide +kernel
theorem dX9_copy_292 : decode cX9_copy 292 = .ok (.iload 15, 2) := by decide +kernel
theorem dX9_copy_294 : decode cX9_copy 294 = .ok (.aload_n 0, 1) := by decide +kernel
theorem dX9_copy_295 : decode cX9_copy 295 = .ok (.getfield 180, 3) := by decide +kernel
theorem dX9_copy_298 : decode cX9_copy 298 = .ok (.if_icmp .ge 39, 3) := by decide +kernel
theorem dX9_copy_301 : decode cX9_copy 301 = .ok (.aload_n 0, 1) := by decide +kernel
theorem dX9_copy_302 : decode cX9_copy 302 = .ok (.getfield 51, 3) := by decide +kernel
theorem dX9_copy_305 : decode cX9_copy 305 = .ok (.iload 15, 2) := by decide +kernel
theorem dX9_copy_307 : decode cX9_copy 307 = .ok (.baload, 1) := by decide +kernel
theorem dX9_copy_308 : decode cX9_copy 308 = .ok (.iload_n 1, 1) := by decide +kernel
theorem dX9_copy_309 : decode cX9_copy 309 = .ok (.if_icmp .ne 22, 3) := by decide +kernel
theorem dX9_copy_312 : decode cX9_copy 312 = .ok (.aload_n 0, 1) := by decide +kernel
theorem dX9_copy_313 : decode cX9_copy 313 = .ok (.getfield 54, 3) := by decide +kernel
theorem dX9_copy_316 : decode cX9_copy 316 = .ok (.iload 15, 2) := by decide +kernel
theorem dX9_copy_318 : decode cX9_copy 318 = .ok (.iaload, 1) := by decide +kernel
theorem dX9_copy_319 : decode cX9_copy 319 = .ok (.sipush 1440, 3) := by decide +kernel
theorem dX9_copy_322 : decode cX9_copy 322 = .ok (.idiv, 1) := by decide +kernel
theorem dX9_copy_323 : decode cX9_copy 323 = .ok (.iload 11, 2) := by decide +kernel
theorem dX9_copy_325 : decode cX9_copy 325 = .ok (.if_icmp .ne 6, 3) := by decide +kernel
theorem dX9_copy_328 : decode cX9_copy 328 = .ok (.iinc 14 1, 3) := by decide +kernel
theorem dX9_copy_331 : decode cX9_copy 331 = .ok (.iinc 15 1, 3) := by decide +kernel
theorem dX9_copy_334 : decode cX9_copy 334 = .ok (.goto (-42), 3) := by decide +kernel
theorem dX9_copy_337 : decode cX9_copy 337 = .ok (.aload_n 0, 1) := by decide +kernel
theorem dX9_copy_338 : decode cX9_copy 338 = .ok (.getfield 180, 3) := by decide +kernel
theorem dX9_copy_341 : decode cX9_copy 341 = .ok (.iload 14, 2) := by decide +kernel
theorem dX9_copy_343 : decode cX9_copy 343 = .ok (.isub, 1) := by decide +kernel
theorem dX9_copy_344 : decode cX9_copy 344 = .ok (.iload 13, 2) := by decide +kernel
theorem dX9_copy_346 : decode cX9_copy 346 = .ok (.iadd, 1) := by decide +kernel
theorem dX9_copy_347 : decode cX9_copy 347 = .ok (.sipush 5000, 3) := by decide +kernel
theorem dX9_copy_350 : decode cX9_copy 350 = .ok (.if_icmp .le 9, 3) := by decide +kernel
theorem dX9_copy_353 : decode cX9_copy 353 = .ok (.iconst 5, 1) := by decide +kernel
theorem dX9_copy_354 : decode cX9_copy 354 = .ok (.istore 9, 2) := by decide +kernel
theorem dX9_copy_356 : decode cX9_copy 356 = .ok (.goto 128, 3) := by decide +kernel
theorem dX9_copy_359 : decode cX9_copy 359 = .ok (.aload_n 0, 1) := by decide +kernel
theorem dX9_copy_360 : decode cX9_copy 360 = .ok (.iload_n 1, 1) := by decide +kernel
theorem dX9_copy_361 : decode cX9_copy 361 = .ok (.sipush 1440, 3) := by decide +kernel
theorem dX9_copy_364 : decode cX9_copy 364 = .ok (.iload 11, 2) := by decide +kernel
theorem dX9_copy_366 : decode cX9_copy 366 = .ok (.imul, 1) := by decide +kernel
theorem dX9_copy_367 : decode cX9_copy 367 = .ok (.sipush 1440, 3) := by decide +kernel
theorem dX9_copy_370 : decode cX9_copy 370 = .ok (.iload 11, 2) := by decide +kernel
theorem dX9_copy_372 : decode cX9_copy 372 = .ok (.imul, 1) := by decide +kernel
theorem dX9_copy_373 : decode cX9_copy 373 = .ok (.sipush 1440, 3) := by decide +kernel
theorem dX9_copy_376 : decode cX9_copy 376 = .ok (.iadd, 1) := by decide +kernel
theorem dX9_copy_377 : decode cX9_copy 377 = .ok (.invokevirtual 183, 3) := by decide +kernel
theorem dX9_copy_380 : decode cX9_copy 380 = .ok (.pop, 1) := by decide +kernel
theorem dX9_copy_381 : decode cX9_copy 381 = .ok (.iconst 0, 1) := by decide +kernel
theorem dX9_copy_382 : decode cX9_copy 382 = .ok (.istore 15, 2) := by decide +kernel
theorem dX9_copy_384 : decode cX9_copy 384 = .ok (.iload 15, 2) := by decide +kernel
theorem dX9_copy_386 : decode cX9_copy 386 = .ok (.iload 7, 2) := by decide +kernel
theorem dX9_copy_388 : decode cX9_copy 388 = .ok (.if_icmp .ge 55, 3) := by decide +kernel
theorem dX9_copy_391 : decode cX9_copy 391 = .ok (.aload_n 0, 1) := by decide +kernel
theorem dX9_copy_392 : decode cX9_copy 392 = .ok (.getfield 120, 3) := by decide +kernel
theorem dX9_copy_395 : decode cX9_copy 395 = .ok (.iload 15, 2) := by decide +kernel
theorem dX9_copy_397 : decode cX9_copy 397 = .ok (.iaload, 1) := by decide +kernel
theorem dX9_copy_398 : decode cX9_copy 398 = .ok (.sipush 1440, 3) := by decide +kernel
theorem dX9_copy_401 : decode cX9_copy 401 = .ok (.idiv, 1) := by decide +kernel
theorem dX9_copy_402 : decode cX9_copy 402 = .ok (.iload 12, 2) := by decide +kernel
theorem dX9_copy_404 : decode cX9_copy 404 = .ok (.if_icmp .ne 33, 3) := by decide +kernel
theorem dX9_copy_407 : decode cX9_copy 407 = .ok (.aload_n 0, 1) := by decide +kernel
theorem dX9_copy_408 : decode cX9_copy 408 = .ok (.iload_n 1, 1) := by decide +kernel
theorem dX9_copy_409 : decode cX9_copy 409 = .ok (.sipush 1440, 3) := by decide +kernel
theorem dX9_copy_412 : decode cX9_copy 412 = .ok (.iload 11, 2) := by decide +kernel
theorem dX9_copy_414 : decode cX9_copy 414 = .ok (.imul, 1) := by decide +kernel
theorem dX9_copy_415 : decode cX9_copy 415 = .ok (.aload_n 0, 1) := by decide +kernel
theorem dX9_copy_416 : decode cX9_copy 416 = .ok (.getfield 120, 3) := by decide +kernel
theorem dX9_copy_419 : decode cX9_copy 419 = .ok (.iload 15, 2) := by decide +kernel
theorem dX9_copy_421 : decode cX9_copy 421 = .ok (.iaload, 1) := by decide +kernel
theorem dX9_copy_422 : decode cX9_copy 422 = .ok (.sipush 1440, 3) := by decide +kernel
theorem dX9_copy_425 : decode cX9_copy 425 = .ok (.irem, 1) := by decide +kernel
theorem dX9_copy_426 : decode cX9_copy 426 = .ok (.iadd, 1) := by decide +kernel
theorem dX9_copy_427 : decode cX9_copy 427 = .ok (.aload_n 0, 1) := by decide +kernel
theorem dX9_copy_428 : decode cX9_copy 428 = .ok (.getfield 123, 3) := by decide +kernel
theorem dX9_copy_431 : decode cX9_copy 431 = .ok (.iload 15, 2) := by decide +kernel
theorem dX9_copy_433 : decode cX9_copy 433 = .ok (.baload, 1) := by decide +kernel
theorem dX9_copy_434 : decode cX9_copy 434 = .ok (.invokevirtual 202, 3) := by decide +kernel
theorem dX9_copy_437 : decode cX9_copy 437 = .ok (.iinc 15 1, 3) := by decide +kernel
theorem dX9_copy_440 : decode cX9_copy 440 = .ok (.goto (-56), 3) := by decide +kernel
theorem dX9_copy_443 : decode cX9_copy 443 = .ok (.aload_n 0, 1) := by decide +kernel
theorem dX9_copy_444 : decode cX9_copy 444 = .ok (.getfield 40, 3) := by decide +kernel
theorem dX9_copy_447 : decode cX9_copy 447 = .ok (.bipush 90, 2) := by decide +kernel
theorem dX9_copy_449 : decode cX9_copy 449 = .ok (.iload_n 1, 1) := by decide +kernel
theorem dX9_copy_450 : decode cX9_copy 450 = .ok (.imul, 1) := by decide +kernel
theorem dX9_copy_451 : decode cX9_copy 451 = .ok (.iload 11, 2) := by decide +kernel
theorem dX9_copy_453 : decode cX9_copy 453 = .ok (.iadd, 1) := by decide +kernel
theorem dX9_copy_454 : decode cX9_copy 454 = .ok (.aload_n 0, 1) := by decide +kernel
theorem dX9_copy_455 : decode cX9_copy 455 = .ok (.getfield 126, 3) := by decide +kernel
theorem dX9_copy_458 : decode cX9_copy 458 = .ok (.iload 12, 2) := by decide +kernel
theorem dX9_copy_460 : decode cX9_copy 460 = .ok (.saload, 1) := by decide +kernel
theorem dX9_copy_461 : decode cX9_copy 461 = .ok (.sastore, 1) := by decide +kernel
theorem dX9_copy_462 : decode cX9_copy 462 = .ok (.aload_n 0, 1) := by decide +kernel
theorem dX9_copy_463 : decode cX9_copy 463 = .ok (.getfield 44, 3) := by decide +kernel
theorem dX9_copy_466 : decode cX9_copy 466 = .ok (.bipush 90, 2) := by decide +kernel
theorem dX9_copy_468 : decode cX9_copy 468 = .ok (.iload_n 1, 1) := by decide +kernel
theorem dX9_copy_469 : decode cX9_copy 469 = .ok (.imul, 1) := by decide +kernel
theorem dX9_copy_470 : decode cX9_copy 470 = .ok (.iload 11, 2) := by decide +kernel
theorem dX9_copy_472 : decode cX9_copy 472 = .ok (.iadd, 1) := by decide +kernel
theorem dX9_copy_473 : decode cX9_copy 473 = .ok (.aload_n 0, 1) := by decide +kernel
theorem dX9_copy_474 : decode cX9_copy 474 = .ok (.getfield 129, 3) := by decide +kernel
theorem dX9_copy_477 : decode cX9_copy 477 = .ok (.iload 12, 2) := by decide +kernel
theorem dX9_copy_479 : decode cX9_copy 479 = .ok (.baload, 1) := by decide +kernel
theorem dX9_copy_480 : decode cX9_copy 480 = .ok (.bastore, 1) := by decide +kernel
theorem dX9_copy_481 : decode cX9_copy 481 = .ok (.iinc 8 1, 3) := by decide +kernel
theorem dX9_copy_484 : decode cX9_copy 484 = .ok (.goto (-285), 3) := by decide +kernel
theorem dX9_copy_487 : decode cX9_copy 487 = .ok (.iload 9, 2) := by decide +kernel
theorem dX9_copy_489 : decode cX9_copy 489 = .ok (.ifCond .eq 10, 3) := by decide +kernel
theorem dX9_copy_492 : decode cX9_copy 492 = .ok (.aload_n 0, 1) := by decide +kernel
theorem dX9_copy_493 : decode cX9_copy 493 = .ok (.iload 9, 2) := by decide +kernel
theorem dX9_copy_495 : decode cX9_copy 495 = .ok (.invokevirtual 168, 3) := by decide +kernel
theorem dX9_copy_498 : decode cX9_copy 498 = .ok (.pop, 1) := by decide +kernel
theorem dX9_copy_499 : decode cX9_copy 499 = .ok (.iload 8, 2) := by decide +kernel
theorem dX9_copy_501 : decode cX9_copy 501 = .ok (.ireturn, 1) := by decide +kernel
set_option maxHeartbeats 4000000 in
set_option maxRecDepth 100000 in
theorem g_X9_copy (l : Launch) (G : xG) (S : yS) (d : yD) (h0 : Nat) (p0 : Int32) (p1 : Int32) (p2 : Int32) (p3 : Int32) (p4 : Int32) (hSh : ySh S) (hPo : yPo S d) (hm_h0 : h0 ∈ S.1) (hk_h0 : S.2.1 h0 = 9) (hI : yMI S d h0) : xWi l G yX9_copy cX9_copy 16 (some .int) 3 65 0 0 [.ref h0, .int p0, .int p1, .int p2, .int p3, .int p4] (yW G S d) (fun r (u : yD) => yAg S [9, 42, 43, 45, 46, 47, 69, 70, 71, 72, 73] d u ∧ (yPo S d → yPo S u) ∧ yK [1, 38] d u h0 ∧ (yMI S u h0)) (fun u => yW G S u) := by
  intro sz
  refine xstart (by decide) (Nat.le_of_ble_eq_true rfl) (fun p e s m args below meth c ls C0 hr hlocks hin hsz hP hK hD hN hl => ?_)
  obtain ⟨hx, hb, hml, hown, htl⟩ := id C0
  subst hsz
  have hD := hD.self (sz := s.heap.size)
  generalize hAe : va_A (yW G S d) s.heap.size = A at hD ⊢
  have hA : ∀ q : Nat, s.heap.size ≤ q → A q := fun q h => by rw [← hAe]; exact Or.inr h
  have hS : va_S A s.heap s.heap [] := va_S.rf
  have hg0 : yAg S [9, 42, 43, 45, 46, 47, 69, 70, 71, 72, 73] d d := yAg.rf
  have hl : lv_has ls 16 [(0, .ref h0), (1, .int p0), (2, .int p1), (3, .int p2), (4, .int p3), (5, .int p4)] := hl
  refine lv_aload_n hx hb dX9_copy_0 rfl (lv_at hl 0 rfl) ?_
  refine lv_iconst (v := 0) hx hb dX9_copy_1 (by decide) ?_
  refine yputI (ci := 9) (k := 38) (ty := .int) (C := RX9) (T := TX9) (N := 67) C0 hK hP hD hS hm_h0 hk_h0 (by decide) rfl inlX9 tyX9 tyX9_ok nmX9 (by decide) mW175 (fun _ h9 => h9) rfl (by decide +kernel) rfl rfl (Nat.le_of_ble_eq_true rfl) ysi_9_38 dX9_copy_2 (fun H locs hP hD hS => ?_)
  obtain ⟨d_1, ed_1⟩ : ∃ z : yD, z = yi d h0 38 0 := ⟨_, rfl⟩
  rw [← ed_1] at hP hD
  have hgd_1 : yAg S [9, 42, 43, 45, 46, 47, 69, 70, 71, 72, 73] d d_1 := by rw [ed_1]; exact yAg.i hg0 (by rw [hk_h0]; decide)
  have hPod_1 : yPo S d_1 := by rw [ed_1]; exact yPo.i hPo hk_h0 (Or.inl rfl)
  have hfd_1 : yK [1, 38] d d_1 h0 := by rw [ed_1]; exact yK.i yK.rf (by decide)
  have hId_1 : yMI S d_1 h0 := yMI.ag hI hSh hm_h0 hk_h0 (show yAg S [9] d d_1 from by rw [ed_1]; exact yAg.i yAg.rf (by rw [hk_h0]; decide)) (show yK [38] d d_1 h0 from by rw [ed_1]; exact yK.i yK.rf (by decide)) (by decide) (by decide)
  have hE0d_1 : (d_1.1 h0 0).toInt = (d.1 h0 0).toInt := congrArg Int32.toInt ((show yK [38] d d_1 h0 from by rw [ed_1]; exact yK.i yK.rf (by decide)) 0 (by decide))
  have hE1d_1 : (d_1.1 h0 1).toInt = (d.1 h0 1).toInt := congrArg Int32.toInt ((show yK [38] d d_1 h0 from by rw [ed_1]; exact yK.i yK.rf (by decide)) 1 (by decide))
  have hE2d_1 : (d_1.1 h0 2).toInt = (d.1 h0 2).toInt := congrArg Int32.toInt ((show yK [38] d d_1 h0 from by rw [ed_1]; exact yK.i yK.rf (by decide)) 2 (by decide))
  have hE3d_1 : (d_1.1 h0 3).toInt = (d.1 h0 3).toInt := congrArg Int32.toInt ((show yK [38] d d_1 h0 from by rw [ed_1]; exact yK.i yK.rf (by decide)) 3 (by decide))
  have hE63d_1 : (d_1.1 h0 63).toInt = (d.1 h0 63).toInt := congrArg Int32.toInt ((show yK [38] d d_1 h0 from by rw [ed_1]; exact yK.i yK.rf (by decide)) 63 (by decide))
  refine lv_iload hx hb dX9_copy_5 (lv_at hl 5 rfl) ?_
  refine lv_if_lt (tgt := 17) hx hb dX9_copy_7 (by decide) (fun c_2 => ?_) (fun c_2 => ?_)
  · refine lv_iconst (v := 1) hx hb dX9_copy_17 (by decide) ?_
    refine lv_goto (tgt := 22) hx hb dX9_copy_18 (by decide) ?_
    refine lv_istore (lv' := [(6, .int 1), (0, .ref h0), (1, .int p0), (2, .int p1), (3, .int p2), (4, .int p3), (5, .int p4)]) hx hb dX9_copy_22 hl (by decide) rfl (fun ls hl => ?_)
    refine lv_aload_n hx hb dX9_copy_24 rfl (lv_at hl 1 rfl) ?_
    refine lv_iload hx hb dX9_copy_25 (lv_at hl 0 rfl) ?_
    refine lv_aload_n hx hb dX9_copy_27 rfl (lv_at hl 1 rfl) ?_
    refine lv_iload_n hx hb dX9_copy_28 rfl (lv_at hl 2 rfl) ?_
    refine lv_iload_n hx hb dX9_copy_29 rfl (lv_at hl 3 rfl) ?_
    refine yVri (As := [.int p0, .int p1]) (rest := [.int 1, .ref h0]) C0 (g_X9_dayWhy l G S d_1 h0 p0 p1 hSh hm_h0 hk_h0 hId_1) ok_X9_dayWhy (mW450 : Cond.methodLink RX9 206 yX9_dayWhy ∈ wsT) ⟨Nat.le_of_ble_eq_true rfl, Nat.le_of_ble_eq_true rfl⟩ hP hD hK hN hm_h0 hk_h0 (by decide) rfl rfl rfl hl.1 rfl (Nat.le_of_ble_eq_true rfl) ⟨Nat.le_of_ble_eq_true rfl, Nat.le_of_ble_eq_true rfl⟩ dX9_copy_30 (fun r_3 hr_3 => ?_)
    have F_4 := flt (rfl : (p4 : Int32).toInt = (p4 : Int32).toInt) (by decide +kernel : (0 : Int32).toInt = 0) c_2
    refine yVri (As := [.int 1, .int r_3]) (rest := []) C0 (g_X9_lesser l G S d_1 h0 1 r_3 hSh hm_h0 hk_h0 (by decide +kernel) (by refine ⟨?_, ?_⟩ <;> omega)) ok_X9_lesser (mW489 : Cond.methodLink RX9 209 yX9_lesser ∈ wsT) ⟨Nat.le_of_ble_eq_true rfl, Nat.le_of_ble_eq_true rfl⟩ hP hD hK hN hm_h0 hk_h0 (by decide) rfl rfl rfl hl.1 rfl (Nat.le_of_ble_eq_true rfl) ⟨Nat.le_of_ble_eq_true rfl, Nat.le_of_ble_eq_true rfl⟩ dX9_copy_33 (fun r_5 hr_5 => ?_)
    refine lv_istore (lv' := [(6, .int r_5), (0, .ref h0), (1, .int p0), (2, .int p1), (3, .int p2), (4, .int p3), (5, .int p4)]) hx hb dX9_copy_36 hl (by decide) rfl (fun ls hl => ?_)
    refine lv_aload_n hx hb dX9_copy_38 rfl (lv_at hl 1 rfl) ?_
    refine lv_iload hx hb dX9_copy_39 (lv_at hl 0 rfl) ?_
    refine lv_aload_n hx hb dX9_copy_41 rfl (lv_at hl 1 rfl) ?_
    refine lv_iload_n hx hb dX9_copy_42 rfl (lv_at hl 4 rfl) ?_
    refine lv_iload hx hb dX9_copy_43 (lv_at hl 5 rfl) ?_
    refine yVri (As := [.int p2, .int p3]) (rest := [.int r_5, .ref h0]) C0 (g_X9_dayWhy l G S d_1 h0 p2 p3 hSh hm_h0 hk_h0 hId_1) ok_X9_dayWhy (mW450 : Cond.methodLink RX9 206 yX9_dayWhy ∈ wsT) ⟨Nat.le_of_ble_eq_true rfl, Nat.le_of_ble_eq_true rfl⟩ hP hD hK hN hm_h0 hk_h0 (by decide) rfl rfl rfl hl.1 rfl (Nat.le_of_ble_eq_true rfl) ⟨Nat.le_of_ble_eq_true rfl, Nat.le_of_ble_eq_true rfl⟩ dX9_copy_45 (fun r_6 hr_6 => ?_)
    refine yVri (As := [.int r_5, .int r_6]) (rest := []) C0 (g_X9_lesser l G S d_1 h0 r_5 r_6 hSh hm_h0 hk_h0 (by refine ⟨?_, ?_⟩ <;> omega) (by refine ⟨?_, ?_⟩ <;> omega)) ok_X9_lesser (mW489 : Cond.methodLink RX9 209 yX9_lesser ∈ wsT) ⟨Nat.le_of_ble_eq_true rfl, Nat.le_of_ble_eq_true rfl⟩ hP hD hK hN hm_h0 hk_h0 (by decide) rfl rfl rfl hl.1 rfl (Nat.le_of_ble_eq_true rfl) ⟨Nat.le_of_ble_eq_true rfl, Nat.le_of_ble_eq_true rfl⟩ dX9_copy_48 (fun r_7 hr_7 => ?_)
    refine lv_istore (lv' := [(6, .int r_7), (0, .ref h0), (1, .int p0), (2, .int p1), (3, .int p2), (4, .int p3), (5, .int p4)]) hx hb dX9_copy_51 hl (by decide) rfl (fun ls hl => ?_)
    refine lv_iload hx hb dX9_copy_53 (lv_at hl 0 rfl) ?_
    refine lv_if_eq (tgt := 65) hx hb dX9_copy_55 (by decide) (fun c_8 => (by exfalso; have q1 := (hr_7.2.2 (by rw [c_8]; decide +kernel)).1; have q2 := (hr_5.2.2 q1).1; exact absurd q2 (by decide +kernel))) (fun c_8 => ?_)
    refine lv_aload_n hx hb dX9_copy_58 rfl (lv_at hl 1 rfl) ?_
    refine lv_iload hx hb dX9_copy_59 (lv_at hl 0 rfl) ?_
    have F_9 := fne (rfl : (r_7 : Int32).toInt = (r_7 : Int32).toInt) (by decide +kernel : (0 : Int32).toInt = 0) c_8
    refine yVwi (As := [.int r_7]) (rest := []) C0 (g_X9_no l G S d_1 h0 r_7 hSh hPod_1 hm_h0 hk_h0 (by refine ⟨?_, ?_⟩ <;> omega)) ok_X9_no (mW177 : Cond.methodLink RX9 168 yX9_no ∈ wsT) ⟨Nat.le_of_ble_eq_true rfl, Nat.le_of_ble_eq_true rfl⟩ hP hD hS hA hK hN hm_h0 hk_h0 (by decide) rfl rfl rfl hl.1 rfl (Nat.le_of_ble_eq_true rfl) ⟨Nat.le_of_ble_eq_true rfl, Nat.le_of_ble_eq_true rfl⟩ dX9_copy_61 (fun r_10 d_11 H locs hr_10 hP hD hS => ?_)
    obtain ⟨hgad_11, hpad_11, hfad_11, hxd_11⟩ := hr_10
    have hfd_11 : yK [1, 38] d d_11 h0 := yK.tr hfd_1 hfad_11 (by decide)
    have hE0d_11 : (d_11.1 h0 0).toInt = (d_1.1 h0 0).toInt := congrArg Int32.toInt (hfad_11 0 (by decide))
    have hE1d_11 : (d_11.1 h0 1).toInt = (d_1.1 h0 1).toInt := congrArg Int32.toInt (hfad_11 1 (by decide))
    have hE2d_11 : (d_11.1 h0 2).toInt = (d_1.1 h0 2).toInt := congrArg Int32.toInt (hfad_11 2 (by decide))
    have hE3d_11 : (d_11.1 h0 3).toInt = (d_1.1 h0 3).toInt := congrArg Int32.toInt (hfad_11 3 (by decide))
    have hE63d_11 : (d_11.1 h0 63).toInt = (d_1.1 h0 63).toInt := congrArg Int32.toInt (hfad_11 63 (by decide))
    have hId_11 : yMI S d_11 h0 := yMI.ag hId_1 hSh hm_h0 hk_h0 hgad_11 hfad_11 (by decide) (by decide)
    have hgd_11 : yAg S [9, 42, 43, 45, 46, 47, 69, 70, 71, 72, 73] d d_11 := yAg.tr hgd_1 hgad_11 (by first | decide | exact fun _ h => h)
    have hPod_11 : yPo S d_11 := hpad_11 hPod_1
    exact W.iret (v := r_10) hx hb hr (fun t ht hW => ⟨⟨r_10, d_11, rfl, ⟨hgd_11, (fun _ => hPod_11), hfd_11, hId_11⟩, by rw [ht]; exact hP, hD⟩, hS.F ht⟩) hS.2.2 dX9_copy_64
  · refine lv_iload hx hb dX9_copy_10 (lv_at hl 5 rfl) ?_
    refine lv_bipush (v := 90) hx hb dX9_copy_12 (by decide) ?_
    refine lv_icmp_le (tgt := 21) hx hb dX9_copy_14 (by decide) (fun c_12 => ?_) (fun c_12 => ?_)
    · refine lv_iconst (v := 0) hx hb dX9_copy_21 (by decide) ?_
      refine lv_istore (lv' := [(6, .int 0), (0, .ref h0), (1, .int p0), (2, .int p1), (3, .int p2), (4, .int p3), (5, .int p4)]) hx hb dX9_copy_22 hl (by decide) rfl (fun ls hl => ?_)
      refine lv_aload_n hx hb dX9_copy_24 rfl (lv_at hl 1 rfl) ?_
      refine lv_iload hx hb dX9_copy_25 (lv_at hl 0 rfl) ?_
      refine lv_aload_n hx hb dX9_copy_27 rfl (lv_at hl 1 rfl) ?_
      refine lv_iload_n hx hb dX9_copy_28 rfl (lv_at hl 2 rfl) ?_
      refine lv_iload_n hx hb dX9_copy_29 rfl (lv_at hl 3 rfl) ?_
      refine yVri (As := [.int p0, .int p1]) (rest := [.int 0, .ref h0]) C0 (g_X9_dayWhy l G S d_1 h0 p0 p1 hSh hm_h0 hk_h0 hId_1) ok_X9_dayWhy (mW450 : Cond.methodLink RX9 206 yX9_dayWhy ∈ wsT) ⟨Nat.le_of_ble_eq_true rfl, Nat.le_of_ble_eq_true rfl⟩ hP hD hK hN hm_h0 hk_h0 (by decide) rfl rfl rfl hl.1 rfl (Nat.le_of_ble_eq_true rfl) ⟨Nat.le_of_ble_eq_true rfl, Nat.le_of_ble_eq_true rfl⟩ dX9_copy_30 (fun r_13 hr_13 => ?_)
      have F_14 := fnlt (rfl : (p4 : Int32).toInt = (p4 : Int32).toInt) (by decide +kernel : (0 : Int32).toInt = 0) c_2
      have F_15 := fle (rfl : (p4 : Int32).toInt = (p4 : Int32).toInt) (by decide +kernel : (90 : Int32).toInt = 90) c_12
      refine yVri (As := [.int 0, .int r_13]) (rest := []) C0 (g_X9_lesser l G S d_1 h0 0 r_13 hSh hm_h0 hk_h0 (by decide +kernel) (by refine ⟨?_, ?_⟩ <;> omega)) ok_X9_lesser (mW489 : Cond.methodLink RX9 209 yX9_lesser ∈ wsT) ⟨Nat.le_of_ble_eq_true rfl, Nat.le_of_ble_eq_true rfl⟩ hP hD hK hN hm_h0 hk_h0 (by decide) rfl rfl rfl hl.1 rfl (Nat.le_of_ble_eq_true rfl) ⟨Nat.le_of_ble_eq_true rfl, Nat.le_of_ble_eq_true rfl⟩ dX9_copy_33 (fun r_16 hr_16 => ?_)
      refine lv_istore (lv' := [(6, .int r_16), (0, .ref h0), (1, .int p0), (2, .int p1), (3, .int p2), (4, .int p3), (5, .int p4)]) hx hb dX9_copy_36 hl (by decide) rfl (fun ls hl => ?_)
      refine lv_aload_n hx hb dX9_copy_38 rfl (lv_at hl 1 rfl) ?_
      refine lv_iload hx hb dX9_copy_39 (lv_at hl 0 rfl) ?_
      refine lv_aload_n hx hb dX9_copy_41 rfl (lv_at hl 1 rfl) ?_
      refine lv_iload_n hx hb dX9_copy_42 rfl (lv_at hl 4 rfl) ?_
      refine lv_iload hx hb dX9_copy_43 (lv_at hl 5 rfl) ?_
      refine yVri (As := [.int p2, .int p3]) (rest := [.int r_16, .ref h0]) C0 (g_X9_dayWhy l G S d_1 h0 p2 p3 hSh hm_h0 hk_h0 hId_1) ok_X9_dayWhy (mW450 : Cond.methodLink RX9 206 yX9_dayWhy ∈ wsT) ⟨Nat.le_of_ble_eq_true rfl, Nat.le_of_ble_eq_true rfl⟩ hP hD hK hN hm_h0 hk_h0 (by decide) rfl rfl rfl hl.1 rfl (Nat.le_of_ble_eq_true rfl) ⟨Nat.le_of_ble_eq_true rfl, Nat.le_of_ble_eq_true rfl⟩ dX9_copy_45 (fun r_17 hr_17 => ?_)
      refine yVri (As := [.int r_16, .int r_17]) (rest := []) C0 (g_X9_lesser l G S d_1 h0 r_16 r_17 hSh hm_h0 hk_h0 (by refine ⟨?_, ?_⟩ <;> omega) (by refine ⟨?_, ?_⟩ <;> omega)) ok_X9_lesser (mW489 : Cond.methodLink RX9 209 yX9_lesser ∈ wsT) ⟨Nat.le_of_ble_eq_true rfl, Nat.le_of_ble_eq_true rfl⟩ hP hD hK hN hm_h0 hk_h0 (by decide) rfl rfl rfl hl.1 rfl (Nat.le_of_ble_eq_true rfl) ⟨Nat.le_of_ble_eq_true rfl, Nat.le_of_ble_eq_true rfl⟩ dX9_copy_48 (fun r_18 hr_18 => ?_)
      refine lv_istore (lv' := [(6, .int r_18), (0, .ref h0), (1, .int p0), (2, .int p1), (3, .int p2), (4, .int p3), (5, .int p4)]) hx hb dX9_copy_51 hl (by decide) rfl (fun ls hl => ?_)
      refine lv_iload hx hb dX9_copy_53 (lv_at hl 0 rfl) ?_
      refine lv_if_eq (tgt := 65) hx hb dX9_copy_55 (by decide) (fun c_19 => ?_) (fun c_19 => ?_)
      · refine lv_iconst (v := 0) hx hb dX9_copy_65 (by decide) ?_
        refine lv_istore (lv' := [(7, .int 0), (6, .int r_18), (0, .ref h0), (1, .int p0), (2, .int p1), (3, .int p2), (4, .int p3), (5, .int p4)]) hx hb dX9_copy_66 hl (by decide) rfl (fun ls hl => ?_)
        refine lv_iconst (v := 0) hx hb dX9_copy_68 (by decide) ?_
        refine lv_istore (lv' := [(8, .int 0), (7, .int 0), (6, .int r_18), (0, .ref h0), (1, .int p0), (2, .int p1), (3, .int p2), (4, .int p3), (5, .int p4)]) hx hb dX9_copy_69 hl (by decide) rfl (fun ls hl => ?_)
        have hCC_20 := yMI.c hId_1
        have F_21 := feq (rfl : (r_18 : Int32).toInt = (r_18 : Int32).toInt) (by decide +kernel : (0 : Int32).toInt = 0) c_19
        have hz0_ : (0 : Int32).toInt.toNat = 0 := by decide +kernel
        refine yloop (σ := Int32 × Int32 × yD) (fun x => (2147483647 - (x.2.1 : Int32).toInt).toNat) 71 (fun x H locs ls => va_P G.1 xcl (yW G S x.2.2) H ∧ va_D A (yW G S x.2.2) ∧ va_S A s.heap H locs ∧ yAg S [9, 42, 43, 45, 46, 47, 69, 70, 71, 72, 73] d x.2.2 ∧ yPo S x.2.2 ∧ yK [1, 38] d x.2.2 h0 ∧ yMI S x.2.2 h0 ∧ yAg S [70, 71] d_1 x.2.2 ∧ yK [] d_1 x.2.2 h0 ∧ (0 ≤ ((x.1) : Int32).toInt ∧ ((x.1) : Int32).toInt ≤ ((x.2.1) : Int32).toInt ∧ ((x.2.1) : Int32).toInt ≤ 5000) ∧ lv_has ls 16 [(8, .int x.2.1), (7, .int x.1), (0, .ref h0), (1, .int p0), (2, .int p1), (3, .int p2), (4, .int p3), (5, .int p4)]) (fun x H locs ls hI hnext_25 => ?_) (0, 0, d_1) ⟨hP, hD, hS, hgd_1, hPod_1, hfd_1, hId_1, yAg.rf, yK.rf, (show (0 ≤ ((0) : Int32).toInt ∧ ((0) : Int32).toInt ≤ ((0) : Int32).toInt ∧ ((0) : Int32).toInt ≤ 5000) from by have hl0_ : (0 : Int32).toInt = 0 := (by decide +kernel); have hl1_ : (0 : Int32).toInt = 0 := (by decide +kernel); have hq0_ : (0 : Int32).toInt = 0 := (by decide +kernel); omega), lv_sub hl [0, 1, 3, 4, 5, 6, 7, 8] rfl⟩
        obtain ⟨v_22, v_23, d_24⟩ := x
        obtain ⟨hP, hD, hS, hgd_24, hPod_24, hfd_24, hId_24, hLJd_24, hKJd_24, hex_26, hl⟩ := hI
        have hId_24 : yMI S d_24 h0 := hId_24
        have hex_26 : (0 ≤ ((v_22) : Int32).toInt ∧ ((v_22) : Int32).toInt ≤ ((v_23) : Int32).toInt ∧ ((v_23) : Int32).toInt ≤ 5000) := hex_26
        have hl : lv_has ls 16 [(8, .int v_23), (7, .int v_22), (0, .ref h0), (1, .int p0), (2, .int p1), (3, .int p2), (4, .int p3), (5, .int p4)] := hl
        have hLJd_24 : yAg S [70, 71] d_1 d_24 := hLJd_24
        have hKJd_24 : yK [] d_1 d_24 h0 := hKJd_24
        have hE0d_24 : (d_24.1 h0 0).toInt = (d_1.1 h0 0).toInt := congrArg Int32.toInt (hKJd_24 0 (by decide))
        have hE1d_24 : (d_24.1 h0 1).toInt = (d_1.1 h0 1).toInt := congrArg Int32.toInt (hKJd_24 1 (by decide))
        have hE2d_24 : (d_24.1 h0 2).toInt = (d_1.1 h0 2).toInt := congrArg Int32.toInt (hKJd_24 2 (by decide))
        have hE3d_24 : (d_24.1 h0 3).toInt = (d_1.1 h0 3).toInt := congrArg Int32.toInt (hKJd_24 3 (by decide))
        have hE63d_24 : (d_24.1 h0 63).toInt = (d_1.1 h0 63).toInt := congrArg Int32.toInt (hKJd_24 63 (by decide))
        refine lv_iload hx hb dX9_copy_71 (lv_at hl 0 rfl) ?_
        refine lv_aload_n hx hb dX9_copy_73 rfl (lv_at hl 2 rfl) ?_
        refine yget (ci := 9) (k := 1) (v := .int (d_24.1 h0 1)) (C := RX9) (T := TX9) (N := 67) C0 hK hP hm_h0 hk_h0 (by decide) rfl inlX9 (by decide) mW364 (fun _ h9 => h9) rfl dX9_copy_74 ?_
        refine lv_topi (fun z_27 ez_27 => ?_)
        refine lv_icmp_ge (tgt := 131) hx hb dX9_copy_77 (by decide) (fun c_28 => ?_) (fun c_28 => ?_)
        · refine lv_iconst (v := 0) hx hb dX9_copy_131 (by decide) ?_
          refine lv_istore (lv' := [(8, .int 0), (7, .int v_22), (0, .ref h0), (1, .int p0), (2, .int p1), (3, .int p2), (4, .int p3), (5, .int p4)]) hx hb dX9_copy_132 hl (by decide) rfl (fun ls hl => ?_)
          have hCC_29 := yMI.c hId_24
          have T_30 : (z_27 : Int32).toInt = (d_24.1 h0 1).toInt := by rw [ez_27]
          have F_31 := fle (rfl : (z_27 : Int32).toInt = (z_27 : Int32).toInt) (rfl : (v_23 : Int32).toInt = (v_23 : Int32).toInt) c_28
          have hz0_ : (0 : Int32).toInt.toNat = 0 := by decide +kernel
          refine yloop (σ := Int32 × yD) (fun x => (2147483647 - (x.1 : Int32).toInt).toNat) 134 (fun x H locs ls => va_P G.1 xcl (yW G S x.2) H ∧ va_D A (yW G S x.2) ∧ va_S A s.heap H locs ∧ yAg S [9, 42, 43, 45, 46, 47, 69, 70, 71, 72, 73] d x.2 ∧ yPo S x.2 ∧ yK [1, 38] d x.2 h0 ∧ yMI S x.2 h0 ∧ yAg S [72, 73] d_24 x.2 ∧ yK [] d_24 x.2 h0 ∧ (0 ≤ ((x.1) : Int32).toInt) ∧ lv_has ls 16 [(8, .int x.1), (7, .int v_22), (0, .ref h0), (1, .int p0), (2, .int p1), (3, .int p2), (4, .int p3), (5, .int p4)]) (fun x H locs ls hI hnext_34 => ?_) (0, d_24) ⟨hP, hD, hS, hgd_24, hPod_24, hfd_24, hId_24, yAg.rf, yK.rf, (show (0 ≤ ((0) : Int32).toInt) from by have hl0_ : (0 : Int32).toInt = 0 := (by decide +kernel); have hq0_ : (0 : Int32).toInt = 0 := (by decide +kernel); omega), lv_sub hl [0, 1, 2, 3, 4, 5, 6, 7] rfl⟩
          obtain ⟨v_32, d_33⟩ := x
          obtain ⟨hP, hD, hS, hgd_33, hPod_33, hfd_33, hId_33, hLJd_33, hKJd_33, hex_35, hl⟩ := hI
          have hId_33 : yMI S d_33 h0 := hId_33
          have hex_35 : (0 ≤ ((v_32) : Int32).toInt) := hex_35
          have hl : lv_has ls 16 [(8, .int v_32), (7, .int v_22), (0, .ref h0), (1, .int p0), (2, .int p1), (3, .int p2), (4, .int p3), (5, .int p4)] := hl
          have hLJd_33 : yAg S [72, 73] d_24 d_33 := hLJd_33
          have hKJd_33 : yK [] d_24 d_33 h0 := hKJd_33
          have hE0d_33 : (d_33.1 h0 0).toInt = (d_24.1 h0 0).toInt := congrArg Int32.toInt (hKJd_33 0 (by decide))
          have hE1d_33 : (d_33.1 h0 1).toInt = (d_24.1 h0 1).toInt := congrArg Int32.toInt (hKJd_33 1 (by decide))
          have hE2d_33 : (d_33.1 h0 2).toInt = (d_24.1 h0 2).toInt := congrArg Int32.toInt (hKJd_33 2 (by decide))
          have hE3d_33 : (d_33.1 h0 3).toInt = (d_24.1 h0 3).toInt := congrArg Int32.toInt (hKJd_33 3 (by decide))
          have hE63d_33 : (d_33.1 h0 63).toInt = (d_24.1 h0 63).toInt := congrArg Int32.toInt (hKJd_33 63 (by decide))
          refine lv_iload hx hb dX9_copy_134 (lv_at hl 0 rfl) ?_
          refine lv_bipush (v := 90) hx hb dX9_copy_136 (by decide) ?_
          refine lv_icmp_ge (tgt := 185) hx hb dX9_copy_138 (by decide) (fun c_36 => ?_) (fun c_36 => ?_)
          · refine lv_iconst (v := 0) hx hb dX9_copy_185 (by decide) ?_
            refine lv_istore (lv' := [(8, .int 0), (7, .int v_22), (0, .ref h0), (1, .int p0), (2, .int p1), (3, .int p2), (4, .int p3), (5, .int p4)]) hx hb dX9_copy_186 hl (by decide) rfl (fun ls hl => ?_)
            refine lv_iconst (v := 0) hx hb dX9_copy_188 (by decide) ?_
            refine lv_istore (lv' := [(9, .int 0), (8, .int 0), (7, .int v_22), (0, .ref h0), (1, .int p0), (2, .int p1), (3, .int p2), (4, .int p3), (5, .int p4)]) hx hb dX9_copy_189 hl (by decide) rfl (fun ls hl => ?_)
            refine lv_aload_n hx hb dX9_copy_191 rfl (lv_at hl 3 rfl) ?_
            refine lv_iload_n hx hb dX9_copy_192 rfl (lv_at hl 6 rfl) ?_
            refine lv_iconst (v := 2) hx hb dX9_copy_193 (by decide) ?_
            have F_37 := fle (by decide +kernel : (90 : Int32).toInt = 90) (rfl : (v_32 : Int32).toInt = (v_32 : Int32).toInt) c_36
            refine yVri (As := [.int p2, .int 2]) (rest := []) C0 (g_X9_of l G S d_33 h0 p2 2 hSh hm_h0 hk_h0 (by refine ⟨?_, ?_⟩ <;> omega) (by decide +kernel)) ok_X9_of (mW425 : Cond.methodLink RX9 161 yX9_of ∈ wsT) ⟨Nat.le_of_ble_eq_true rfl, Nat.le_of_ble_eq_true rfl⟩ hP hD hK hN hm_h0 hk_h0 (by decide) rfl rfl rfl hl.1 rfl (Nat.le_of_ble_eq_true rfl) ⟨Nat.le_of_ble_eq_true rfl, Nat.le_of_ble_eq_true rfl⟩ dX9_copy_194 (fun r_38 hr_38 => ?_)
            have hOr_38 : (r_38 : Int32).toInt = yOf S d_33 h0 (p2 : Int32).toInt.toNat 2 := by rw [hr_38, show (2 : Int32).toInt.toNat = 2 by decide +kernel]; rfl
            have hCC_39 := yMI.c hId_33
            have hbr_38 := xof2 hId_33 (p := p2) (by refine ⟨?_, ?_⟩ <;> omega) hr_38
            refine lv_istore (lv' := [(10, .int r_38), (9, .int 0), (8, .int 0), (7, .int v_22), (0, .ref h0), (1, .int p0), (2, .int p1), (3, .int p2), (4, .int p3), (5, .int p4)]) hx hb dX9_copy_197 hl (by decide) rfl (fun ls hl => ?_)
            have hz0_ : (0 : Int32).toInt.toNat = 0 := by decide +kernel
            refine yloop (σ := Int32 × Int32 × yD) (fun x => (2147483647 - (x.1 : Int32).toInt).toNat + (if x.2.1 = 0 then 1 else 0)) 199 (fun x H locs ls => va_P G.1 xcl (yW G S x.2.2) H ∧ va_D A (yW G S x.2.2) ∧ va_S A s.heap H locs ∧ yAg S [9, 42, 43, 45, 46, 47, 69, 70, 71, 72, 73] d x.2.2 ∧ yPo S x.2.2 ∧ yK [1, 38] d x.2.2 h0 ∧ yMI S x.2.2 h0 ∧ yAg S [9, 42, 43, 45, 46, 47] d_33 x.2.2 ∧ yK [1] d_33 x.2.2 h0 ∧ (0 ≤ ((x.1) : Int32).toInt ∧ 0 ≤ ((x.2.1) : Int32).toInt ∧ ((x.2.1) : Int32).toInt ≤ 5) ∧ lv_has ls 16 [(10, .int r_38), (9, .int x.2.1), (8, .int x.1), (7, .int v_22), (0, .ref h0), (1, .int p0), (2, .int p1), (4, .int p3), (5, .int p4)]) (fun x H locs ls hI hnext_43 => ?_) (0, 0, d_33) ⟨hP, hD, hS, hgd_33, hPod_33, hfd_33, hId_33, yAg.rf, yK.rf, (show (0 ≤ ((0) : Int32).toInt ∧ 0 ≤ ((0) : Int32).toInt ∧ ((0) : Int32).toInt ≤ 5) from by have hl0_ : (0 : Int32).toInt = 0 := (by decide +kernel); have hl1_ : (0 : Int32).toInt = 0 := (by decide +kernel); have hq0_ : (0 : Int32).toInt = 0 := (by decide +kernel); omega), lv_sub hl [0, 1, 2, 3, 4, 5, 6, 8, 9] rfl⟩
            obtain ⟨v_40, v_41, d_42⟩ := x
            obtain ⟨hP, hD, hS, hgd_42, hPod_42, hfd_42, hId_42, hLJd_42, hKJd_42, hex_44, hl⟩ := hI
            have hId_42 : yMI S d_42 h0 := hId_42
            have hex_44 : (0 ≤ ((v_40) : Int32).toInt ∧ 0 ≤ ((v_41) : Int32).toInt ∧ ((v_41) : Int32).toInt ≤ 5) := hex_44
            have hl : lv_has ls 16 [(10, .int r_38), (9, .int v_41), (8, .int v_40), (7, .int v_22), (0, .ref h0), (1, .int p0), (2, .int p1), (4, .int p3), (5, .int p4)] := hl
            have hLJd_42 : yAg S [9, 42, 43, 45, 46, 47] d_33 d_42 := hLJd_42
            have hKJd_42 : yK [1] d_33 d_42 h0 := hKJd_42
            have hE0d_42 : (d_42.1 h0 0).toInt = (d_33.1 h0 0).toInt := congrArg Int32.toInt (hKJd_42 0 (by decide))
            have hE2d_42 : (d_42.1 h0 2).toInt = (d_33.1 h0 2).toInt := congrArg Int32.toInt (hKJd_42 2 (by decide))
            have hE3d_42 : (d_42.1 h0 3).toInt = (d_33.1 h0 3).toInt := congrArg Int32.toInt (hKJd_42 3 (by decide))
            have hE63d_42 : (d_42.1 h0 63).toInt = (d_33.1 h0 63).toInt := congrArg Int32.toInt (hKJd_42 63 (by decide))
            refine lv_iload hx hb dX9_copy_199 (lv_at hl 2 rfl) ?_
            refine lv_iload hx hb dX9_copy_201 (lv_at hl 8 rfl) ?_
            refine lv_icmp_ge (tgt := 487) hx hb dX9_copy_203 (by decide) (fun c_45 => ?_) (fun c_45 => ?_)
            · refine lv_iload hx hb dX9_copy_487 (lv_at hl 1 rfl) ?_
              refine lv_if_eq (tgt := 499) hx hb dX9_copy_489 (by decide) (fun c_46 => ?_) (fun c_46 => ?_)
              · refine lv_iload hx hb dX9_copy_499 (lv_at hl 2 rfl) ?_
                exact W.iret (v := v_40) hx hb hr (fun t ht hW => ⟨⟨v_40, d_42, rfl, ⟨hgd_42, (fun _ => hPod_42), hfd_42, hId_42⟩, by rw [ht]; exact hP, hD⟩, hS.F ht⟩) hS.2.2 dX9_copy_501
              · refine lv_aload_n hx hb dX9_copy_492 rfl (lv_at hl 4 rfl) ?_
                refine lv_iload hx hb dX9_copy_493 (lv_at hl 1 rfl) ?_
                have F_47 := fle (rfl : (p4 : Int32).toInt = (p4 : Int32).toInt) (rfl : (v_40 : Int32).toInt = (v_40 : Int32).toInt) c_45
                have F_48 := fne (rfl : (v_41 : Int32).toInt = (v_41 : Int32).toInt) (by decide +kernel : (0 : Int32).toInt = 0) c_46
                refine yVwi (As := [.int v_41]) (rest := []) C0 (g_X9_no l G S d_42 h0 v_41 hSh hPod_42 hm_h0 hk_h0 (by refine ⟨?_, ?_⟩ <;> omega)) ok_X9_no (mW177 : Cond.methodLink RX9 168 yX9_no ∈ wsT) ⟨Nat.le_of_ble_eq_true rfl, Nat.le_of_ble_eq_true rfl⟩ hP hD hS hA hK hN hm_h0 hk_h0 (by decide) rfl rfl rfl hl.1 rfl (Nat.le_of_ble_eq_true rfl) ⟨Nat.le_of_ble_eq_true rfl, Nat.le_of_ble_eq_true rfl⟩ dX9_copy_495 (fun r_49 d_50 H locs hr_49 hP hD hS => ?_)
                obtain ⟨hgad_50, hpad_50, hfad_50, hxd_50⟩ := hr_49
                have hfd_50 : yK [1, 38] d d_50 h0 := yK.tr hfd_42 hfad_50 (by decide)
                have hE0d_50 : (d_50.1 h0 0).toInt = (d_42.1 h0 0).toInt := congrArg Int32.toInt (hfad_50 0 (by decide))
                have hE1d_50 : (d_50.1 h0 1).toInt = (d_42.1 h0 1).toInt := congrArg Int32.toInt (hfad_50 1 (by decide))
                have hE2d_50 : (d_50.1 h0 2).toInt = (d_42.1 h0 2).toInt := congrArg Int32.toInt (hfad_50 2 (by decide))
                have hE3d_50 : (d_50.1 h0 3).toInt = (d_42.1 h0 3).toInt := congrArg Int32.toInt (hfad_50 3 (by decide))
                have hE63d_50 : (d_50.1 h0 63).toInt = (d_42.1 h0 63).toInt := congrArg Int32.toInt (hfad_50 63 (by decide))
                have hId_50 : yMI S d_50 h0 := yMI.ag hId_42 hSh hm_h0 hk_h0 hgad_50 hfad_50 (by decide) (by decide)
                have hgd_50 : yAg S [9, 42, 43, 45, 46, 47, 69, 70, 71, 72, 73] d d_50 := yAg.tr hgd_42 hgad_50 (by first | decide | exact fun _ h => h)
                have hPod_50 : yPo S d_50 := hpad_50 hPod_42
                refine lv_pop hx hb dX9_copy_498 rfl ?_
                refine lv_iload hx hb dX9_copy_499 (lv_at hl 2 rfl) ?_
                exact W.iret (v := v_40) hx hb hr (fun t ht hW => ⟨⟨v_40, d_50, rfl, ⟨hgd_50, (fun _ => hPod_50), hfd_50, hId_50⟩, by rw [ht]; exact hP, hD⟩, hS.F ht⟩) hS.2.2 dX9_copy_501
            · refine lv_iload hx hb dX9_copy_206 (lv_at hl 1 rfl) ?_
              refine lv_if_ne (tgt := 487) hx hb dX9_copy_208 (by decide) (fun c_51 => ?_) (fun c_51 => ?_)
              · refine lv_iload hx hb dX9_copy_487 (lv_at hl 1 rfl) ?_
                refine lv_if_eq (tgt := 499) hx hb dX9_copy_489 (by decide) (fun c_52 => ?_) (fun c_52 => ?_)
                · refine lv_iload hx hb dX9_copy_499 (lv_at hl 2 rfl) ?_
                  exact W.iret (v := v_40) hx hb hr (fun t ht hW => ⟨⟨v_40, d_42, rfl, ⟨hgd_42, (fun _ => hPod_42), hfd_42, hId_42⟩, by rw [ht]; exact hP, hD⟩, hS.F ht⟩) hS.2.2 dX9_copy_501
                · refine lv_aload_n hx hb dX9_copy_492 rfl (lv_at hl 4 rfl) ?_
                  refine lv_iload hx hb dX9_copy_493 (lv_at hl 1 rfl) ?_
                  have F_53 := fnle (rfl : (p4 : Int32).toInt = (p4 : Int32).toInt) (rfl : (v_40 : Int32).toInt = (v_40 : Int32).toInt) c_45
                  have F_54 := fne (rfl : (v_41 : Int32).toInt = (v_41 : Int32).toInt) (by decide +kernel : (0 : Int32).toInt = 0) c_51
                  have F_55 := fne (rfl : (v_41 : Int32).toInt = (v_41 : Int32).toInt) (by decide +kernel : (0 : Int32).toInt = 0) c_52
                  refine yVwi (As := [.int v_41]) (rest := []) C0 (g_X9_no l G S d_42 h0 v_41 hSh hPod_42 hm_h0 hk_h0 (by refine ⟨?_, ?_⟩ <;> omega)) ok_X9_no (mW177 : Cond.methodLink RX9 168 yX9_no ∈ wsT) ⟨Nat.le_of_ble_eq_true rfl, Nat.le_of_ble_eq_true rfl⟩ hP hD hS hA hK hN hm_h0 hk_h0 (by decide) rfl rfl rfl hl.1 rfl (Nat.le_of_ble_eq_true rfl) ⟨Nat.le_of_ble_eq_true rfl, Nat.le_of_ble_eq_true rfl⟩ dX9_copy_495 (fun r_56 d_57 H locs hr_56 hP hD hS => ?_)
                  obtain ⟨hgad_57, hpad_57, hfad_57, hxd_57⟩ := hr_56
                  have hfd_57 : yK [1, 38] d d_57 h0 := yK.tr hfd_42 hfad_57 (by decide)
                  have hE0d_57 : (d_57.1 h0 0).toInt = (d_42.1 h0 0).toInt := congrArg Int32.toInt (hfad_57 0 (by decide))
                  have hE1d_57 : (d_57.1 h0 1).toInt = (d_42.1 h0 1).toInt := congrArg Int32.toInt (hfad_57 1 (by decide))
                  have hE2d_57 : (d_57.1 h0 2).toInt = (d_42.1 h0 2).toInt := congrArg Int32.toInt (hfad_57 2 (by decide))
                  have hE3d_57 : (d_57.1 h0 3).toInt = (d_42.1 h0 3).toInt := congrArg Int32.toInt (hfad_57 3 (by decide))
                  have hE63d_57 : (d_57.1 h0 63).toInt = (d_42.1 h0 63).toInt := congrArg Int32.toInt (hfad_57 63 (by decide))
                  have hId_57 : yMI S d_57 h0 := yMI.ag hId_42 hSh hm_h0 hk_h0 hgad_57 hfad_57 (by decide) (by decide)
                  have hgd_57 : yAg S [9, 42, 43, 45, 46, 47, 69, 70, 71, 72, 73] d d_57 := yAg.tr hgd_42 hgad_57 (by first | decide | exact fun _ h => h)
                  have hPod_57 : yPo S d_57 := hpad_57 hPod_42
                  refine lv_pop hx hb dX9_copy_498 rfl ?_
                  refine lv_iload hx hb dX9_copy_499 (lv_at hl 2 rfl) ?_
                  exact W.iret (v := v_40) hx hb hr (fun t ht hW => ⟨⟨v_40, d_57, rfl, ⟨hgd_57, (fun _ => hPod_57), hfd_57, hId_57⟩, by rw [ht]; exact hP, hD⟩, hS.F ht⟩) hS.2.2 dX9_copy_501
              · refine lv_iload_n hx hb dX9_copy_211 rfl (lv_at hl 6 rfl) ?_
                refine lv_iload hx hb dX9_copy_212 (lv_at hl 2 rfl) ?_
                refine lv_iadd hx hb dX9_copy_214 ?_
                refine lv_topi (fun z_58 ez_58 => ?_)
                refine lv_istore (lv' := [(11, .int z_58), (10, .int r_38), (9, .int v_41), (8, .int v_40), (7, .int v_22), (0, .ref h0), (1, .int p0), (2, .int p1), (4, .int p3), (5, .int p4)]) hx hb dX9_copy_215 hl (by decide) rfl (fun ls hl => ?_)
                refine lv_iload hx hb dX9_copy_217 (lv_at hl 8 rfl) ?_
                refine lv_iload hx hb dX9_copy_219 (lv_at hl 3 rfl) ?_
                refine lv_iadd hx hb dX9_copy_221 ?_
                refine lv_topi (fun z_59 ez_59 => ?_)
                refine lv_istore (lv' := [(12, .int z_59), (11, .int z_58), (10, .int r_38), (9, .int v_41), (8, .int v_40), (7, .int v_22), (0, .ref h0), (1, .int p0), (2, .int p1), (4, .int p3), (5, .int p4)]) hx hb dX9_copy_222 hl (by decide) rfl (fun ls hl => ?_)
                refine lv_iload hx hb dX9_copy_224 (lv_at hl 1 rfl) ?_
                refine lv_aload_n hx hb dX9_copy_226 rfl (lv_at hl 6 rfl) ?_
                refine lv_iload_n hx hb dX9_copy_227 rfl (lv_at hl 7 rfl) ?_
                refine lv_iconst (v := 2) hx hb dX9_copy_228 (by decide) ?_
                have F_60 := fnle (rfl : (p4 : Int32).toInt = (p4 : Int32).toInt) (rfl : (v_40 : Int32).toInt = (v_40 : Int32).toInt) c_45
                have F_61 := feq (rfl : (v_41 : Int32).toInt = (v_41 : Int32).toInt) (by decide +kernel : (0 : Int32).toInt = 0) c_51
                refine yVri (As := [.int p0, .int 2]) (rest := [.int z_58]) C0 (g_X9_of l G S d_42 h0 p0 2 hSh hm_h0 hk_h0 (by refine ⟨?_, ?_⟩ <;> omega) (by decide +kernel)) ok_X9_of (mW425 : Cond.methodLink RX9 161 yX9_of ∈ wsT) ⟨Nat.le_of_ble_eq_true rfl, Nat.le_of_ble_eq_true rfl⟩ hP hD hK hN hm_h0 hk_h0 (by decide) rfl rfl rfl hl.1 rfl (Nat.le_of_ble_eq_true rfl) ⟨Nat.le_of_ble_eq_true rfl, Nat.le_of_ble_eq_true rfl⟩ dX9_copy_229 (fun r_62 hr_62 => ?_)
                have hOr_62 : (r_62 : Int32).toInt = yOf S d_42 h0 (p0 : Int32).toInt.toNat 2 := by rw [hr_62, show (2 : Int32).toInt.toNat = 2 by decide +kernel]; rfl
                have hCC_63 := yMI.c hId_42
                have hbr_62 := xof2 hId_42 (p := p0) (by refine ⟨?_, ?_⟩ <;> omega) hr_62
                refine lv_icmp_ge (tgt := 242) hx hb dX9_copy_232 (by decide) (fun c_64 => ?_) (fun c_64 => ?_)
                · refine lv_iconst (v := 4) hx hb dX9_copy_242 (by decide) ?_
                  refine lv_istore (lv' := [(9, .int 4), (12, .int z_59), (11, .int z_58), (10, .int r_38), (8, .int v_40), (7, .int v_22), (0, .ref h0), (1, .int p0), (2, .int p1), (4, .int p3), (5, .int p4)]) hx hb dX9_copy_243 hl (by decide) rfl (fun ls hl => ?_)
                  refine lv_goto (tgt := 484) hx hb dX9_copy_245 (by decide) ?_
                  refine lv_goto (tgt := 199) hx hb dX9_copy_484 (by decide) ?_
                  have T_65 : (z_58 : Int32).toInt = (p1 : Int32).toInt + (v_40 : Int32).toInt := tadd ez_58 (rfl : (p1 : Int32).toInt = (p1 : Int32).toInt) (rfl : (v_40 : Int32).toInt = (v_40 : Int32).toInt) (by omega) (by omega)
                  have F_66 := fle (rfl : (r_62 : Int32).toInt = (r_62 : Int32).toInt) (rfl : (z_58 : Int32).toInt = (z_58 : Int32).toInt) c_64
                  exact hnext_43 (v_40, 4, d_42) _ _ ls ((show (2147483647 - (v_40 : Int32).toInt).toNat + (if (4 : Int32) = 0 then 1 else 0) < (2147483647 - (v_40 : Int32).toInt).toNat + (if v_41 = 0 then 1 else 0) from by rw [if_pos c_51, if_neg (by decide +kernel)]; omega)) ⟨hP, hD, hS, hgd_42, hPod_42, hfd_42, hId_42, hLJd_42, hKJd_42, (show (0 ≤ ((v_40) : Int32).toInt ∧ 0 ≤ ((4) : Int32).toInt ∧ ((4) : Int32).toInt ≤ 5) from by have hl1_ : (4 : Int32).toInt = 4 := (by decide +kernel); have hq0_ : (0 : Int32).toInt = 0 := (by decide +kernel); omega), lv_sub hl [3, 0, 4, 5, 6, 7, 8, 9, 10] rfl⟩
                · refine lv_iload hx hb dX9_copy_235 (lv_at hl 0 rfl) ?_
                  refine lv_iload hx hb dX9_copy_237 (lv_at hl 2 rfl) ?_
                  refine lv_icmp_lt (tgt := 248) hx hb dX9_copy_239 (by decide) (fun c_67 => ?_) (fun c_67 => ?_)
                  · refine lv_iconst (v := 0) hx hb dX9_copy_248 (by decide) ?_
                    refine lv_istore (lv' := [(13, .int 0), (12, .int z_59), (11, .int z_58), (10, .int r_38), (9, .int v_41), (8, .int v_40), (7, .int v_22), (0, .ref h0), (1, .int p0), (2, .int p1), (4, .int p3), (5, .int p4)]) hx hb dX9_copy_249 hl (by decide) rfl (fun ls hl => ?_)
                    refine lv_iconst (v := 0) hx hb dX9_copy_251 (by decide) ?_
                    refine lv_istore (lv' := [(14, .int 0), (13, .int 0), (12, .int z_59), (11, .int z_58), (10, .int r_38), (9, .int v_41), (8, .int v_40), (7, .int v_22), (0, .ref h0), (1, .int p0), (2, .int p1), (4, .int p3), (5, .int p4)]) hx hb dX9_copy_252 hl (by decide) rfl (fun ls hl => ?_)
                    have T_68 : (z_58 : Int32).toInt = (p1 : Int32).toInt + (v_40 : Int32).toInt := tadd ez_58 (rfl : (p1 : Int32).toInt = (p1 : Int32).toInt) (rfl : (v_40 : Int32).toInt = (v_40 : Int32).toInt) (by omega) (by omega)
                    have F_69 := fnle (rfl : (r_62 : Int32).toInt = (r_62 : Int32).toInt) (rfl : (z_58 : Int32).toInt = (z_58 : Int32).toInt) c_64
                    have T_70 : (z_59 : Int32).toInt = (p3 : Int32).toInt + (v_40 : Int32).toInt := tadd ez_59 (rfl : (p3 : Int32).toInt = (p3 : Int32).toInt) (rfl : (v_40 : Int32).toInt = (v_40 : Int32).toInt) (by omega) (by omega)
                    have F_71 := flt (rfl : (z_59 : Int32).toInt = (z_59 : Int32).toInt) (rfl : (r_38 : Int32).toInt = (r_38 : Int32).toInt) c_67
                    have hz0_ : (0 : Int32).toInt.toNat = 0 := by decide +kernel
                    have hc0_ : ycn (yPm S d_42 h0 z_59) (0 : Int32).toInt.toNat = 0 := by rw [hz0_]; rfl
                    refine yloopR (σ := Int32 × Int32) (fun x => (2147483647 - (x.2 : Int32).toInt).toNat) 254 (fun x ls => (0 ≤ ((x.2) : Int32).toInt ∧ ((x.2) : Int32).toInt ≤ (v_22 : Int32).toInt ∧ ((x.1) : Int32).toInt ≤ ((x.2) : Int32).toInt ∧ ((x.1) : Int32).toInt = (ycn (yPm S d_42 h0 (z_59)) ((x.2) : Int32).toInt.toNat : Int)) ∧ lv_has ls 16 [(14, .int x.2), (13, .int x.1), (12, .int z_59), (11, .int z_58), (10, .int r_38), (9, .int v_41), (8, .int v_40), (7, .int v_22), (0, .ref h0), (1, .int p0), (2, .int p1), (4, .int p3), (5, .int p4)]) (fun x ls hl hnext_74 => ?_) (0, 0) ⟨(show (0 ≤ ((0) : Int32).toInt ∧ ((0) : Int32).toInt ≤ (v_22 : Int32).toInt ∧ ((0) : Int32).toInt ≤ ((0) : Int32).toInt ∧ ((0) : Int32).toInt = (ycn (yPm S d_42 h0 (z_59)) ((0) : Int32).toInt.toNat : Int)) from by have hl0_ : (0 : Int32).toInt = 0 := (by decide +kernel); have hl1_ : (0 : Int32).toInt = 0 := (by decide +kernel); have hq0_ : (0 : Int32).toInt = 0 := (by decide +kernel); omega), lv_sub hl [0, 1, 2, 3, 4, 5, 6, 7, 8, 9, 10, 11, 12] rfl⟩
                    obtain ⟨v_72, v_73⟩ := x
                    obtain ⟨hex_75, hl⟩ := hl
                    have hex_75 : (0 ≤ ((v_73) : Int32).toInt ∧ ((v_73) : Int32).toInt ≤ (v_22 : Int32).toInt ∧ ((v_72) : Int32).toInt ≤ ((v_73) : Int32).toInt ∧ ((v_72) : Int32).toInt = (ycn (yPm S d_42 h0 (z_59)) ((v_73) : Int32).toInt.toNat : Int)) := hex_75
                    have hl : lv_has ls 16 [(14, .int v_73), (13, .int v_72), (12, .int z_59), (11, .int z_58), (10, .int r_38), (9, .int v_41), (8, .int v_40), (7, .int v_22), (0, .ref h0), (1, .int p0), (2, .int p1), (4, .int p3), (5, .int p4)] := hl
                    refine lv_iload hx hb dX9_copy_254 (lv_at hl 0 rfl) ?_
                    refine lv_iload hx hb dX9_copy_256 (lv_at hl 7 rfl) ?_
                    refine lv_icmp_ge (tgt := 286) hx hb dX9_copy_258 (by decide) (fun c_76 => ?_) (fun c_76 => ?_)
                    · refine lv_iconst (v := 0) hx hb dX9_copy_286 (by decide) ?_
                      refine lv_istore (lv' := [(14, .int 0), (13, .int v_72), (12, .int z_59), (11, .int z_58), (10, .int r_38), (9, .int v_41), (8, .int v_40), (7, .int v_22), (0, .ref h0), (1, .int p0), (2, .int p1), (4, .int p3), (5, .int p4)]) hx hb dX9_copy_287 hl (by decide) rfl (fun ls hl => ?_)
                      refine lv_iconst (v := 0) hx hb dX9_copy_289 (by decide) ?_
                      refine lv_istore (lv' := [(15, .int 0), (14, .int 0), (13, .int v_72), (12, .int z_59), (11, .int z_58), (10, .int r_38), (9, .int v_41), (8, .int v_40), (7, .int v_22), (0, .ref h0), (1, .int p0), (2, .int p1), (4, .int p3), (5, .int p4)]) hx hb dX9_copy_290 hl (by decide) rfl (fun ls hl => ?_)
                      have F_77 := fle (rfl : (v_22 : Int32).toInt = (v_22 : Int32).toInt) (rfl : (v_73 : Int32).toInt = (v_73 : Int32).toInt) c_76
                      have hz0_ : (0 : Int32).toInt.toNat = 0 := by decide +kernel
                      have hc0_ : ycn (yPl S d_42 h0 p0 z_58) (0 : Int32).toInt.toNat = 0 := by rw [hz0_]; rfl
                      refine yloopR (σ := Int32 × Int32) (fun x => (2147483647 - (x.2 : Int32).toInt).toNat) 292 (fun x ls => (0 ≤ ((x.2) : Int32).toInt ∧ ((x.2) : Int32).toInt ≤ (d_42.1 h0 1).toInt ∧ ((x.1) : Int32).toInt ≤ ((x.2) : Int32).toInt ∧ ((x.1) : Int32).toInt = (ycn (yPl S d_42 h0 p0 (z_58)) ((x.2) : Int32).toInt.toNat : Int)) ∧ lv_has ls 16 [(15, .int x.2), (14, .int x.1), (13, .int v_72), (12, .int z_59), (11, .int z_58), (10, .int r_38), (9, .int v_41), (8, .int v_40), (7, .int v_22), (0, .ref h0), (1, .int p0), (2, .int p1), (4, .int p3), (5, .int p4)]) (fun x ls hl hnext_80 => ?_) (0, 0) ⟨(show (0 ≤ ((0) : Int32).toInt ∧ ((0) : Int32).toInt ≤ (d_42.1 h0 1).toInt ∧ ((0) : Int32).toInt ≤ ((0) : Int32).toInt ∧ ((0) : Int32).toInt = (ycn (yPl S d_42 h0 p0 (z_58)) ((0) : Int32).toInt.toNat : Int)) from by have hl0_ : (0 : Int32).toInt = 0 := (by decide +kernel); have hl1_ : (0 : Int32).toInt = 0 := (by decide +kernel); have hq0_ : (0 : Int32).toInt = 0 := (by decide +kernel); omega), lv_sub hl [0, 1, 2, 3, 4, 5, 6, 7, 8, 9, 10, 11, 12, 13] rfl⟩
                      obtain ⟨v_78, v_79⟩ := x
                      obtain ⟨hex_81, hl⟩ := hl
                      have hex_81 : (0 ≤ ((v_79) : Int32).toInt ∧ ((v_79) : Int32).toInt ≤ (d_42.1 h0 1).toInt ∧ ((v_78) : Int32).toInt ≤ ((v_79) : Int32).toInt ∧ ((v_78) : Int32).toInt = (ycn (yPl S d_42 h0 p0 (z_58)) ((v_79) : Int32).toInt.toNat : Int)) := hex_81
                      have hl : lv_has ls 16 [(15, .int v_79), (14, .int v_78), (13, .int v_72), (12, .int z_59), (11, .int z_58), (10, .int r_38), (9, .int v_41), (8, .int v_40), (7, .int v_22), (0, .ref h0), (1, .int p0), (2, .int p1), (4, .int p3), (5, .int p4)] := hl
                      refine lv_iload hx hb dX9_copy_292 (lv_at hl 0 rfl) ?_
                      refine lv_aload_n hx hb dX9_copy_294 rfl (lv_at hl 9 rfl) ?_
                      refine yget (ci := 9) (k := 1) (v := .int (d_42.1 h0 1)) (C := RX9) (T := TX9) (N := 67) C0 hK hP hm_h0 hk_h0 (by decide) rfl inlX9 (by decide) mW364 (fun _ h9 => h9) rfl dX9_copy_295 ?_
                      refine lv_topi (fun z_82 ez_82 => ?_)
                      refine lv_icmp_ge (tgt := 337) hx hb dX9_copy_298 (by decide) (fun c_83 => ?_) (fun c_83 => ?_)
                      · refine lv_aload_n hx hb dX9_copy_337 rfl (lv_at hl 9 rfl) ?_
                        refine yget (ci := 9) (k := 1) (v := .int (d_42.1 h0 1)) (C := RX9) (T := TX9) (N := 67) C0 hK hP hm_h0 hk_h0 (by decide) rfl inlX9 (by decide) mW364 (fun _ h9 => h9) rfl dX9_copy_338 ?_
                        refine lv_topi (fun z_84 ez_84 => ?_)
                        refine lv_iload hx hb dX9_copy_341 (lv_at hl 1 rfl) ?_
                        refine lv_isub hx hb dX9_copy_343 ?_
                        refine lv_topi (fun z_85 ez_85 => ?_)
                        refine lv_iload hx hb dX9_copy_344 (lv_at hl 2 rfl) ?_
                        refine lv_iadd hx hb dX9_copy_346 ?_
                        refine lv_topi (fun z_86 ez_86 => ?_)
                        refine lv_sipush (v := 5000) hx hb dX9_copy_347 (by decide) ?_
                        refine lv_icmp_le (tgt := 359) hx hb dX9_copy_350 (by decide) (fun c_87 => ?_) (fun c_87 => ?_)
                        · have T_88 : (z_82 : Int32).toInt = (d_42.1 h0 1).toInt := by rw [ez_82]
                          have F_89 := fle (rfl : (z_82 : Int32).toInt = (z_82 : Int32).toInt) (rfl : (v_79 : Int32).toInt = (v_79 : Int32).toInt) c_83
                          have T_92 : (z_84 : Int32).toInt = (d_42.1 h0 1).toInt := by rw [ez_84]
                          have T_91 : (z_85 : Int32).toInt = (z_84 : Int32).toInt - (v_78 : Int32).toInt := tsub ez_85 (rfl : (z_84 : Int32).toInt = (z_84 : Int32).toInt) (rfl : (v_78 : Int32).toInt = (v_78 : Int32).toInt) (by omega) (by omega)
                          have T_90 : (z_86 : Int32).toInt = (z_85 : Int32).toInt + (v_72 : Int32).toInt := tadd ez_86 (rfl : (z_85 : Int32).toInt = (z_85 : Int32).toInt) (rfl : (v_72 : Int32).toInt = (v_72 : Int32).toInt) (by omega) (by omega)
                          have F_93 := fle (rfl : (z_86 : Int32).toInt = (z_86 : Int32).toInt) (by decide +kernel : (5000 : Int32).toInt = 5000) c_87
                          have hm1_ : ycn (yPm S d_42 h0 z_59) (v_73 : Int32).toInt.toNat = ycn (yPm S d_42 h0 z_59) (v_22 : Int32).toInt.toNat := by rw [show (v_73 : Int32).toInt.toNat = (v_22 : Int32).toInt.toNat by omega]
                          have hm2_ : ycn (yPl S d_42 h0 p0 z_58) (v_79 : Int32).toInt.toNat = ycn (yPl S d_42 h0 p0 z_58) (d_42.1 h0 1).toInt.toNat := by rw [show (v_79 : Int32).toInt.toNat = (d_42.1 h0 1).toInt.toNat by omega]
                          refine lv_aload_n hx hb dX9_copy_359 rfl (lv_at hl 9 rfl) ?_
                          refine lv_iload_n hx hb dX9_copy_360 rfl (lv_at hl 10 rfl) ?_
                          refine lv_sipush (v := 1440) hx hb dX9_copy_361 (by decide) ?_
                          refine lv_iload hx hb dX9_copy_364 (lv_at hl 4 rfl) ?_
                          refine lv_imul hx hb dX9_copy_366 ?_
                          refine lv_topi (fun z_94 ez_94 => ?_)
                          refine lv_sipush (v := 1440) hx hb dX9_copy_367 (by decide) ?_
                          refine lv_iload hx hb dX9_copy_370 (lv_at hl 4 rfl) ?_
                          refine lv_imul hx hb dX9_copy_372 ?_
                          refine lv_topi (fun z_95 ez_95 => ?_)
                          refine lv_sipush (v := 1440) hx hb dX9_copy_373 (by decide) ?_
                          refine lv_iadd hx hb dX9_copy_376 ?_
                          refine lv_topi (fun z_96 ez_96 => ?_)
                          refine yVwi (As := [.int p0, .int z_94, .int z_96]) (rest := []) C0 (g_X9_clear l G S d_42 h0 p0 z_94 z_96 hSh hPod_42 hm_h0 hk_h0 hId_42) ok_X9_clear (mW360 : Cond.methodLink RX9 183 yX9_clear ∈ wsT) ⟨Nat.le_of_ble_eq_true rfl, Nat.le_of_ble_eq_true rfl⟩ hP hD hS hA hK hN hm_h0 hk_h0 (by decide) rfl rfl rfl hl.1 rfl (Nat.le_of_ble_eq_true rfl) ⟨Nat.le_of_ble_eq_true rfl, Nat.le_of_ble_eq_true rfl⟩ dX9_copy_377 (fun r_97 d_98 H locs hr_97 hP hD hS => ?_)
                          obtain ⟨hgad_98, hpad_98, hfad_98, hxd_98⟩ := hr_97
                          have hfd_98 : yK [1, 38] d d_98 h0 := yK.tr hfd_42 hfad_98 (by decide)
                          have hE0d_98 : (d_98.1 h0 0).toInt = (d_42.1 h0 0).toInt := congrArg Int32.toInt (hfad_98 0 (by decide))
                          have hE2d_98 : (d_98.1 h0 2).toInt = (d_42.1 h0 2).toInt := congrArg Int32.toInt (hfad_98 2 (by decide))
                          have hE3d_98 : (d_98.1 h0 3).toInt = (d_42.1 h0 3).toInt := congrArg Int32.toInt (hfad_98 3 (by decide))
                          have hE63d_98 : (d_98.1 h0 63).toInt = (d_42.1 h0 63).toInt := congrArg Int32.toInt (hfad_98 63 (by decide))
                          have hId_98 : yMI S d_98 h0 := hxd_98.1
                          have hL0d_98 : yAg S [9, 42, 43, 45, 46, 47] d_33 d_98 := yAg.tr hLJd_42 hgad_98 (by first | decide | exact fun _ h => h)
                          have hK0d_98 : yK [1] d_33 d_98 h0 := yK.tr hKJd_42 hfad_98 (by decide)
                          have hgd_98 : yAg S [9, 42, 43, 45, 46, 47, 69, 70, 71, 72, 73] d d_98 := yAg.tr hgd_42 hgad_98 (by first | decide | exact fun _ h => h)
                          have hPod_98 : yPo S d_98 := hpad_98 hPod_42
                          have hcl_ : ycn (yPl S d_42 h0 p0 z_58) (d_42.1 h0 1).toInt.toNat = ycn (yPc S d_42 h0 p0 z_94 z_96) (d_42.1 h0 1).toInt.toNat := ycn_congr (fun k _ => yPlc hId_42 (by refine ⟨?_, ?_⟩ <;> omega) ez_94 (by rw [ez_96, ez_95]))
                          have hcmd_98 : d_98.2.2.2.1 (S.2.2.1 h0 40) = d_42.2.2.2.1 (S.2.2.1 h0 40) := (hgad_98 _ (by rw [(ySh.f9_40 hSh h0 hm_h0 hk_h0).2]; decide)).2.2.2.1
                          have hcq_ := hxd_98.2
                          refine lv_pop hx hb dX9_copy_380 rfl ?_
                          refine lv_iconst (v := 0) hx hb dX9_copy_381 (by decide) ?_
                          refine lv_istore (lv' := [(15, .int 0), (14, .int v_78), (13, .int v_72), (12, .int z_59), (11, .int z_58), (10, .int r_38), (9, .int v_41), (8, .int v_40), (7, .int v_22), (0, .ref h0), (1, .int p0), (2, .int p1), (4, .int p3), (5, .int p4)]) hx hb dX9_copy_382 hl (by decide) rfl (fun ls hl => ?_)
                          have hCC_99 := yMI.c hId_98
                          have hz0_ : (0 : Int32).toInt.toNat = 0 := by decide +kernel
                          have hc0_ : ycn (yPm S d_42 h0 z_59) (0 : Int32).toInt.toNat = 0 := by rw [hz0_]; rfl
                          refine yloop (σ := Int32 × yD) (fun x => (2147483647 - (x.1 : Int32).toInt).toNat) 384 (fun x H locs ls => va_P G.1 xcl (yW G S x.2) H ∧ va_D A (yW G S x.2) ∧ va_S A s.heap H locs ∧ yAg S [9, 42, 43, 45, 46, 47, 69, 70, 71, 72, 73] d x.2 ∧ yPo S x.2 ∧ yK [1, 38] d x.2 h0 ∧ yMI S x.2 h0 ∧ yAg S [9, 45, 46, 47] d_98 x.2 ∧ yK [1] d_98 x.2 h0 ∧ yAg S [9, 42, 43, 45, 46, 47] d_33 x.2 ∧ yK [1] d_33 x.2 h0 ∧ (0 ≤ ((x.1) : Int32).toInt ∧ ((x.1) : Int32).toInt ≤ (v_22 : Int32).toInt ∧ (x.2.1 h0 1).toInt = (d_42.1 h0 1).toInt - (v_78 : Int32).toInt + (ycn (yPm S d_42 h0 (z_59)) ((x.1) : Int32).toInt.toNat : Int)) ∧ lv_has ls 16 [(15, .int x.1), (12, .int z_59), (11, .int z_58), (10, .int r_38), (9, .int v_41), (8, .int v_40), (7, .int v_22), (0, .ref h0), (1, .int p0), (2, .int p1), (4, .int p3), (5, .int p4)]) (fun x H locs ls hI hnext_102 => ?_) (0, d_98) ⟨hP, hD, hS, hgd_98, hPod_98, hfd_98, hId_98, yAg.rf, yK.rf, hL0d_98, hK0d_98, (show (0 ≤ ((0) : Int32).toInt ∧ ((0) : Int32).toInt ≤ (v_22 : Int32).toInt ∧ (d_98.1 h0 1).toInt = (d_42.1 h0 1).toInt - (v_78 : Int32).toInt + (ycn (yPm S d_42 h0 (z_59)) ((0) : Int32).toInt.toNat : Int)) from by have hl0_ : (0 : Int32).toInt = 0 := (by decide +kernel); have hq0_ : (0 : Int32).toInt = 0 := (by decide +kernel); omega), lv_sub hl [0, 3, 4, 5, 6, 7, 8, 9, 10, 11, 12, 13] rfl⟩
                          obtain ⟨v_100, d_101⟩ := x
                          obtain ⟨hP, hD, hS, hgd_101, hPod_101, hfd_101, hId_101, hLJd_101, hKJd_101, hL0d_101, hK0d_101, hex_103, hl⟩ := hI
                          have hId_101 : yMI S d_101 h0 := hId_101
                          have hex_103 : (0 ≤ ((v_100) : Int32).toInt ∧ ((v_100) : Int32).toInt ≤ (v_22 : Int32).toInt ∧ (d_101.1 h0 1).toInt = (d_42.1 h0 1).toInt - (v_78 : Int32).toInt + (ycn (yPm S d_42 h0 (z_59)) ((v_100) : Int32).toInt.toNat : Int)) := hex_103
                          have hl : lv_has ls 16 [(15, .int v_100), (12, .int z_59), (11, .int z_58), (10, .int r_38), (9, .int v_41), (8, .int v_40), (7, .int v_22), (0, .ref h0), (1, .int p0), (2, .int p1), (4, .int p3), (5, .int p4)] := hl
                          have hLJd_101 : yAg S [9, 45, 46, 47] d_98 d_101 := hLJd_101
                          have hKJd_101 : yK [1] d_98 d_101 h0 := hKJd_101
                          have hE0d_101 : (d_101.1 h0 0).toInt = (d_98.1 h0 0).toInt := congrArg Int32.toInt (hKJd_101 0 (by decide))
                          have hE2d_101 : (d_101.1 h0 2).toInt = (d_98.1 h0 2).toInt := congrArg Int32.toInt (hKJd_101 2 (by decide))
                          have hE3d_101 : (d_101.1 h0 3).toInt = (d_98.1 h0 3).toInt := congrArg Int32.toInt (hKJd_101 3 (by decide))
                          have hE63d_101 : (d_101.1 h0 63).toInt = (d_98.1 h0 63).toInt := congrArg Int32.toInt (hKJd_101 63 (by decide))
                          have hcmd_101 : d_101.2.2.2.1 (S.2.2.1 h0 40) = d_42.2.2.2.1 (S.2.2.1 h0 40) := (hLJd_101 _ (by rw [(ySh.f9_40 hSh h0 hm_h0 hk_h0).2]; decide)).2.2.2.1.trans hcmd_98
                          refine lv_iload hx hb dX9_copy_384 (lv_at hl 0 rfl) ?_
                          refine lv_iload hx hb dX9_copy_386 (lv_at hl 6 rfl) ?_
                          refine lv_icmp_ge (tgt := 443) hx hb dX9_copy_388 (by decide) (fun c_104 => ?_) (fun c_104 => ?_)
                          · refine lv_aload_n hx hb dX9_copy_443 rfl (lv_at hl 7 rfl) ?_
                            refine yget (ci := 9) (k := 12) (v := .ref (S.2.2.1 h0 12)) (C := RX9) (T := TX9) (N := 67) C0 hK hP hm_h0 hk_h0 (by decide) rfl inlX9 (by decide) mW118 (fun _ h9 => h9) rfl dX9_copy_444 ?_
                            obtain ⟨hmy_105, hky_105⟩ := ySh.f9_12 hSh _ hm_h0 hk_h0
                            refine lv_bipush (v := 90) hx hb dX9_copy_447 (by decide) ?_
                            refine lv_iload_n hx hb dX9_copy_449 rfl (lv_at hl 8 rfl) ?_
                            refine lv_imul hx hb dX9_copy_450 ?_
                            refine lv_topi (fun z_106 ez_106 => ?_)
                            refine lv_iload hx hb dX9_copy_451 (lv_at hl 2 rfl) ?_
                            refine lv_iadd hx hb dX9_copy_453 ?_
                            refine lv_topi (fun z_107 ez_107 => ?_)
                            refine lv_aload_n hx hb dX9_copy_454 rfl (lv_at hl 7 rfl) ?_
                            refine yget (ci := 9) (k := 42) (v := .ref (S.2.2.1 h0 42)) (C := RX9) (T := TX9) (N := 67) C0 hK hP hm_h0 hk_h0 (by decide) rfl inlX9 (by decide) mW147 (fun _ h9 => h9) rfl dX9_copy_455 ?_
                            obtain ⟨hmy_108, hky_108⟩ := ySh.f9_42 hSh _ hm_h0 hk_h0
                            refine lv_iload hx hb dX9_copy_458 (lv_at hl 1 rfl) ?_
                            have hCC_109 := yMI.c hId_101
                            have F_110 := fle (rfl : (v_22 : Int32).toInt = (v_22 : Int32).toInt) (rfl : (v_100 : Int32).toInt = (v_100 : Int32).toInt) c_104
                            refine yaldS C0 hK hP hmy_108 hky_108 (by decide) rfl 2 rfl (xinT 90 rfl (by omega) (by omega)) dX9_copy_460 ?_
                            refine lv_topi (fun z_111 ez_111 => ?_)
                            have T_113 : (z_106 : Int32).toInt = 90 * (p0 : Int32).toInt := tmul ez_106 (by decide +kernel : (90 : Int32).toInt = 90) (rfl : (p0 : Int32).toInt = (p0 : Int32).toInt) (by omega) (by omega)
                            have T_112 : (z_107 : Int32).toInt = (z_106 : Int32).toInt + (z_58 : Int32).toInt := tadd ez_107 (rfl : (z_106 : Int32).toInt = (z_106 : Int32).toInt) (rfl : (z_58 : Int32).toInt = (z_58 : Int32).toInt) (by omega) (by omega)
                            refine yastS C0 hK hP hD hS hmy_105 hky_105 (by decide) rfl 2 rfl (xinT 720 rfl (by omega) (by omega)) dX9_copy_461 (fun H locs hP hD hS => ?_)
                            obtain ⟨d_114, ed_114⟩ : ∃ z : yD, z = ycs d_101 (S.2.2.1 h0 12) (upd (d_101.2.2.2.1 (S.2.2.1 h0 12)) (z_107 : Int32).toNatClampNeg (vp_nar .short z_111)) := ⟨_, rfl⟩
                            rw [← ed_114] at hP hD
                            have hgd_114 : yAg S [9, 42, 43, 45, 46, 47, 69, 70, 71, 72, 73] d d_114 := by rw [ed_114]; exact yAg.cs hgd_101 (by rw [hky_105]; decide)
                            have hPod_114 : yPo S d_114 := by rw [ed_114]; exact hPod_101
                            have hfd_114 : yK [1, 38] d d_114 h0 := yK.ag hfd_101 (show yAg S [42] d_101 d_114 from by rw [ed_114]; exact yAg.cs yAg.rf (by rw [hky_105]; decide)) (by rw [hk_h0]; decide)
                            have hL0d_114 : yAg S [9, 42, 43, 45, 46, 47] d_33 d_114 := by rw [ed_114]; exact yAg.cs hL0d_101 (by rw [hky_105]; decide)
                            have hK0d_114 : yK [1] d_33 d_114 h0 := yK.ag hK0d_101 (show yAg S [42] d_101 d_114 from by rw [ed_114]; exact yAg.cs yAg.rf (by rw [hky_105]; decide)) (by rw [hk_h0]; decide)
                            have hId_114 : yMI S d_114 h0 := yMI.ag hId_101 hSh hm_h0 hk_h0 (show yAg S [42] d_101 d_114 from by rw [ed_114]; exact yAg.cs yAg.rf (by rw [hky_105]; decide)) (yK.ag (F := []) yK.rf (show yAg S [42] d_101 d_114 from by rw [ed_114]; exact yAg.cs yAg.rf (by rw [hky_105]; decide)) (by rw [hk_h0]; decide)) (by decide) (by decide)
                            have hE0d_114 : (d_114.1 h0 0).toInt = (d_101.1 h0 0).toInt := congrArg Int32.toInt ((yK.ag (F := []) yK.rf (show yAg S [42] d_101 d_114 from by rw [ed_114]; exact yAg.cs yAg.rf (by rw [hky_105]; decide)) (by rw [hk_h0]; decide)) 0 (by decide))
                            have hE1d_114 : (d_114.1 h0 1).toInt = (d_101.1 h0 1).toInt := congrArg Int32.toInt ((yK.ag (F := []) yK.rf (show yAg S [42] d_101 d_114 from by rw [ed_114]; exact yAg.cs yAg.rf (by rw [hky_105]; decide)) (by rw [hk_h0]; decide)) 1 (by decide))
                            have hE2d_114 : (d_114.1 h0 2).toInt = (d_101.1 h0 2).toInt := congrArg Int32.toInt ((yK.ag (F := []) yK.rf (show yAg S [42] d_101 d_114 from by rw [ed_114]; exact yAg.cs yAg.rf (by rw [hky_105]; decide)) (by rw [hk_h0]; decide)) 2 (by decide))
                            have hE3d_114 : (d_114.1 h0 3).toInt = (d_101.1 h0 3).toInt := congrArg Int32.toInt ((yK.ag (F := []) yK.rf (show yAg S [42] d_101 d_114 from by rw [ed_114]; exact yAg.cs yAg.rf (by rw [hky_105]; decide)) (by rw [hk_h0]; decide)) 3 (by decide))
                            have hE63d_114 : (d_114.1 h0 63).toInt = (d_101.1 h0 63).toInt := congrArg Int32.toInt ((yK.ag (F := []) yK.rf (show yAg S [42] d_101 d_114 from by rw [ed_114]; exact yAg.cs yAg.rf (by rw [hky_105]; decide)) (by rw [hk_h0]; decide)) 63 (by decide))
                            refine lv_aload_n hx hb dX9_copy_462 rfl (lv_at hl 7 rfl) ?_
                            refine yget (ci := 9) (k := 13) (v := .ref (S.2.2.1 h0 13)) (C := RX9) (T := TX9) (N := 67) C0 hK hP hm_h0 hk_h0 (by decide) rfl inlX9 (by decide) mW120 (fun _ h9 => h9) rfl dX9_copy_463 ?_
                            obtain ⟨hmy_115, hky_115⟩ := ySh.f9_13 hSh _ hm_h0 hk_h0
                            refine lv_bipush (v := 90) hx hb dX9_copy_466 (by decide) ?_
                            refine lv_iload_n hx hb dX9_copy_468 rfl (lv_at hl 8 rfl) ?_
                            refine lv_imul hx hb dX9_copy_469 ?_
                            refine lv_topi (fun z_116 ez_116 => ?_)
                            refine lv_iload hx hb dX9_copy_470 (lv_at hl 2 rfl) ?_
                            refine lv_iadd hx hb dX9_copy_472 ?_
                            refine lv_topi (fun z_117 ez_117 => ?_)
                            refine lv_aload_n hx hb dX9_copy_473 rfl (lv_at hl 7 rfl) ?_
                            refine yget (ci := 9) (k := 43) (v := .ref (S.2.2.1 h0 43)) (C := RX9) (T := TX9) (N := 67) C0 hK hP hm_h0 hk_h0 (by decide) rfl inlX9 (by decide) mW148 (fun _ h9 => h9) rfl dX9_copy_474 ?_
                            obtain ⟨hmy_118, hky_118⟩ := ySh.f9_43 hSh _ hm_h0 hk_h0
                            refine lv_iload hx hb dX9_copy_477 (lv_at hl 1 rfl) ?_
                            have hCC_119 := yMI.c hId_114
                            refine yaldZ C0 hK hP hmy_118 hky_118 (by decide) rfl 3 rfl (xinT 90 rfl (by omega) (by omega)) dX9_copy_479 ?_
                            refine lv_topi (fun z_120 ez_120 => ?_)
                            have T_122 : (z_116 : Int32).toInt = 90 * (p0 : Int32).toInt := tmul ez_116 (by decide +kernel : (90 : Int32).toInt = 90) (rfl : (p0 : Int32).toInt = (p0 : Int32).toInt) (by omega) (by omega)
                            have T_121 : (z_117 : Int32).toInt = (z_116 : Int32).toInt + (z_58 : Int32).toInt := tadd ez_117 (rfl : (z_116 : Int32).toInt = (z_116 : Int32).toInt) (rfl : (z_58 : Int32).toInt = (z_58 : Int32).toInt) (by omega) (by omega)
                            refine yastZ C0 hK hP hD hS hmy_115 hky_115 (by decide) rfl 3 rfl (xinT 720 rfl (by omega) (by omega)) dX9_copy_480 (fun H locs hP hD hS => ?_)
                            obtain ⟨d_123, ed_123⟩ : ∃ z : yD, z = ycs d_114 (S.2.2.1 h0 13) (upd (d_114.2.2.2.1 (S.2.2.1 h0 13)) (z_117 : Int32).toNatClampNeg (vp_nar .boolean z_120)) := ⟨_, rfl⟩
                            rw [← ed_123] at hP hD
                            have hgd_123 : yAg S [9, 42, 43, 45, 46, 47, 69, 70, 71, 72, 73] d d_123 := by rw [ed_123]; exact yAg.cs hgd_114 (by rw [hky_115]; decide)
                            have hPod_123 : yPo S d_123 := by rw [ed_123]; exact hPod_114
                            have hfd_123 : yK [1, 38] d d_123 h0 := yK.ag hfd_114 (show yAg S [43] d_114 d_123 from by rw [ed_123]; exact yAg.cs yAg.rf (by rw [hky_115]; decide)) (by rw [hk_h0]; decide)
                            have hL0d_123 : yAg S [9, 42, 43, 45, 46, 47] d_33 d_123 := by rw [ed_123]; exact yAg.cs hL0d_114 (by rw [hky_115]; decide)
                            have hK0d_123 : yK [1] d_33 d_123 h0 := yK.ag hK0d_114 (show yAg S [43] d_114 d_123 from by rw [ed_123]; exact yAg.cs yAg.rf (by rw [hky_115]; decide)) (by rw [hk_h0]; decide)
                            have hId_123 : yMI S d_123 h0 := yMI.ag hId_114 hSh hm_h0 hk_h0 (show yAg S [43] d_114 d_123 from by rw [ed_123]; exact yAg.cs yAg.rf (by rw [hky_115]; decide)) (yK.ag (F := []) yK.rf (show yAg S [43] d_114 d_123 from by rw [ed_123]; exact yAg.cs yAg.rf (by rw [hky_115]; decide)) (by rw [hk_h0]; decide)) (by decide) (by decide)
                            have hE0d_123 : (d_123.1 h0 0).toInt = (d_114.1 h0 0).toInt := congrArg Int32.toInt ((yK.ag (F := []) yK.rf (show yAg S [43] d_114 d_123 from by rw [ed_123]; exact yAg.cs yAg.rf (by rw [hky_115]; decide)) (by rw [hk_h0]; decide)) 0 (by decide))
                            have hE1d_123 : (d_123.1 h0 1).toInt = (d_114.1 h0 1).toInt := congrArg Int32.toInt ((yK.ag (F := []) yK.rf (show yAg S [43] d_114 d_123 from by rw [ed_123]; exact yAg.cs yAg.rf (by rw [hky_115]; decide)) (by rw [hk_h0]; decide)) 1 (by decide))
                            have hE2d_123 : (d_123.1 h0 2).toInt = (d_114.1 h0 2).toInt := congrArg Int32.toInt ((yK.ag (F := []) yK.rf (show yAg S [43] d_114 d_123 from by rw [ed_123]; exact yAg.cs yAg.rf (by rw [hky_115]; decide)) (by rw [hk_h0]; decide)) 2 (by decide))
                            have hE3d_123 : (d_123.1 h0 3).toInt = (d_114.1 h0 3).toInt := congrArg Int32.toInt ((yK.ag (F := []) yK.rf (show yAg S [43] d_114 d_123 from by rw [ed_123]; exact yAg.cs yAg.rf (by rw [hky_115]; decide)) (by rw [hk_h0]; decide)) 3 (by decide))
                            have hE63d_123 : (d_123.1 h0 63).toInt = (d_114.1 h0 63).toInt := congrArg Int32.toInt ((yK.ag (F := []) yK.rf (show yAg S [43] d_114 d_123 from by rw [ed_123]; exact yAg.cs yAg.rf (by rw [hky_115]; decide)) (by rw [hk_h0]; decide)) 63 (by decide))
                            refine lv_iinc (v := v_40 + 1) (lv' := [(8, .int (v_40 + 1)), (15, .int v_100), (12, .int z_59), (11, .int z_58), (10, .int r_38), (9, .int v_41), (7, .int v_22), (0, .ref h0), (1, .int p0), (2, .int p1), (4, .int p3), (5, .int p4)]) hx hb dX9_copy_481 hl (k := 5) rfl rfl (by decide) rfl (fun ls hl => ?_)
                            refine lv_goto (tgt := 199) hx hb dX9_copy_484 (by decide) ?_
                            have hCC_125 := yMI.c hId_123
                            have T_126 : ((v_40 + 1) : Int32).toInt = (v_40 : Int32).toInt + 1 := tadd rfl (rfl : (v_40 : Int32).toInt = (v_40 : Int32).toInt) (by decide +kernel : (1 : Int32).toInt = 1) (by omega) (by omega)
                            exact hnext_43 (v_40 + 1, v_41, d_123) _ _ ls ((show (2147483647 - ((v_40 + 1) : Int32).toInt).toNat + (if v_41 = 0 then 1 else 0) < (2147483647 - (v_40 : Int32).toInt).toNat + (if v_41 = 0 then 1 else 0) from by rw [if_pos c_51]; have q := xup c_45; omega)) ⟨hP, hD, hS, hgd_123, hPod_123, hfd_123, hId_123, hL0d_123, hK0d_123, (show (0 ≤ (((v_40 + 1)) : Int32).toInt ∧ 0 ≤ ((v_41) : Int32).toInt ∧ ((v_41) : Int32).toInt ≤ 5) from by have hq0_ : (0 : Int32).toInt = 0 := (by decide +kernel); omega), lv_sub hl [4, 5, 0, 6, 7, 8, 9, 10, 11] rfl⟩
                          · refine lv_aload_n hx hb dX9_copy_391 rfl (lv_at hl 7 rfl) ?_
                            refine yget (ci := 9) (k := 40) (v := .ref (S.2.2.1 h0 40)) (C := RX9) (T := TX9) (N := 67) C0 hK hP hm_h0 hk_h0 (by decide) rfl inlX9 (by decide) mW145 (fun _ h9 => h9) rfl dX9_copy_392 ?_
                            obtain ⟨hmy_127, hky_127⟩ := ySh.f9_40 hSh _ hm_h0 hk_h0
                            refine lv_iload hx hb dX9_copy_395 (lv_at hl 0 rfl) ?_
                            have hCC_128 := yMI.c hId_101
                            have F_129 := fnle (rfl : (v_22 : Int32).toInt = (v_22 : Int32).toInt) (rfl : (v_100 : Int32).toInt = (v_100 : Int32).toInt) c_104
                            refine yald C0 hK hP hmy_127 hky_127 (by decide) rfl 0 rfl (xinT 5000 rfl (by omega) (by omega)) dX9_copy_397 ?_
                            refine lv_topi (fun z_130 ez_130 => ?_)
                            have hvz_130 : 0 ≤ (z_130 : Int32).toInt ∧ (z_130 : Int32).toInt ≤ 129599 := by rw [ez_130]; exact yMI.cm_ hId_101 _
                            refine lv_sipush (v := 1440) hx hb dX9_copy_398 (by decide) ?_
                            refine lv_idiv hx hb dX9_copy_401 (by decide) ?_
                            refine lv_topi (fun z_131 ez_131 => ?_)
                            refine lv_iload hx hb dX9_copy_402 (lv_at hl 1 rfl) ?_
                            refine lv_icmp_ne (tgt := 437) hx hb dX9_copy_404 (by decide) (fun c_132 => ?_) (fun c_132 => ?_)
                            · refine lv_iinc (v := v_100 + 1) (lv' := [(15, .int (v_100 + 1)), (12, .int z_59), (11, .int z_58), (10, .int r_38), (9, .int v_41), (8, .int v_40), (7, .int v_22), (0, .ref h0), (1, .int p0), (2, .int p1), (4, .int p3), (5, .int p4)]) hx hb dX9_copy_437 hl (k := 0) rfl rfl (by decide) rfl (fun ls hl => ?_)
                              refine lv_goto (tgt := 384) hx hb dX9_copy_440 (by decide) ?_
                              have T_134 := tdivc ez_131 (rfl : (z_130 : Int32).toInt = (z_130 : Int32).toInt) (by decide +kernel : (1440 : Int32).toInt = 1440) (by omega) (by omega)
                              have F_136 := fne (rfl : (z_131 : Int32).toInt = (z_131 : Int32).toInt) (rfl : (z_59 : Int32).toInt = (z_59 : Int32).toInt) c_132
                              have T_137 : ((v_100 + 1) : Int32).toInt = (v_100 : Int32).toInt + 1 := tadd rfl (rfl : (v_100 : Int32).toInt = (v_100 : Int32).toInt) (by decide +kernel : (1 : Int32).toInt = 1) (by omega) (by omega)
                              have hcn_ : yPm S d_42 h0 z_59 (v_100 : Int32).toInt.toNat = false := by
                                have q0 : d_42.2.2.2.1 (S.2.2.1 h0 40) (v_100 : Int32).toInt.toNat / 1440 = z_131 := by rw [ez_131, ez_130, show d_101.2.2.2.1 (S.2.2.1 h0 40) = d_42.2.2.2.1 (S.2.2.1 h0 40) from hcmd_101]; rfl
                                exact decide_eq_false (fun q => c_132 (q0.symm.trans q))
                              have hcs_ := ycnF (P := yPm S d_42 h0 z_59) (k := v_100) (z := v_100 + 1) rfl (by omega) (by omega) hcn_
                              exact hnext_102 (v_100 + 1, d_101) _ _ ls (xup c_104) ⟨hP, hD, hS, hgd_101, hPod_101, hfd_101, hId_101, hLJd_101, hKJd_101, hL0d_101, hK0d_101, (show (0 ≤ (((v_100 + 1)) : Int32).toInt ∧ (((v_100 + 1)) : Int32).toInt ≤ (v_22 : Int32).toInt ∧ (d_101.1 h0 1).toInt = (d_42.1 h0 1).toInt - (v_78 : Int32).toInt + (ycn (yPm S d_42 h0 (z_59)) (((v_100 + 1)) : Int32).toInt.toNat : Int)) from by have hq0_ : (0 : Int32).toInt = 0 := (by decide +kernel); omega), lv_sub hl [0, 1, 2, 3, 4, 5, 6, 7, 8, 9, 10, 11] rfl⟩
                            · have T_138 := tdivc ez_131 (rfl : (z_130 : Int32).toInt = (z_130 : Int32).toInt) (by decide +kernel : (1440 : Int32).toInt = 1440) (by omega) (by omega)
                              have F_140 := feq (rfl : (z_131 : Int32).toInt = (z_131 : Int32).toInt) (rfl : (z_59 : Int32).toInt = (z_59 : Int32).toInt) c_132
                              have hcn1_ : yPm S d_42 h0 z_59 (v_100 : Int32).toInt.toNat = true := by
                                have q0 : d_42.2.2.2.1 (S.2.2.1 h0 40) (v_100 : Int32).toInt.toNat / 1440 = z_131 := by rw [ez_131, ez_130, hcmd_101]; rfl
                                exact decide_eq_true (q0.trans c_132)
                              have hcs1_ := ycnT (P := yPm S d_42 h0 z_59) (k := v_100) (z := v_100 + 1) rfl (by omega) (by omega) hcn1_
                              have T_141 : ((v_100 + 1) : Int32).toInt = (v_100 : Int32).toInt + 1 := tadd rfl (rfl : (v_100 : Int32).toInt = (v_100 : Int32).toInt) (by decide +kernel : (1 : Int32).toInt = 1) (by omega) (by omega)
                              have hcx_ := ycn_mono (P := yPm S d_42 h0 z_59) (show (v_100 + 1 : Int32).toInt.toNat ≤ (v_22 : Int32).toInt.toNat by omega)
                              refine lv_aload_n hx hb dX9_copy_407 rfl (lv_at hl 7 rfl) ?_
                              refine lv_iload_n hx hb dX9_copy_408 rfl (lv_at hl 8 rfl) ?_
                              refine lv_sipush (v := 1440) hx hb dX9_copy_409 (by decide) ?_
                              refine lv_iload hx hb dX9_copy_412 (lv_at hl 2 rfl) ?_
                              refine lv_imul hx hb dX9_copy_414 ?_
                              refine lv_topi (fun z_142 ez_142 => ?_)
                              refine lv_aload_n hx hb dX9_copy_415 rfl (lv_at hl 7 rfl) ?_
                              refine yget (ci := 9) (k := 40) (v := .ref (S.2.2.1 h0 40)) (C := RX9) (T := TX9) (N := 67) C0 hK hP hm_h0 hk_h0 (by decide) rfl inlX9 (by decide) mW145 (fun _ h9 => h9) rfl dX9_copy_416 ?_
                              refine lv_iload hx hb dX9_copy_419 (lv_at hl 0 rfl) ?_
                              refine yald C0 hK hP hmy_127 hky_127 (by decide) rfl 0 rfl (xinT 5000 rfl (by omega) (by omega)) dX9_copy_421 ?_
                              refine lv_topi (fun z_143 ez_143 => ?_)
                              have hvz_143 : 0 ≤ (z_143 : Int32).toInt ∧ (z_143 : Int32).toInt ≤ 129599 := by rw [ez_143]; exact yMI.cm_ hId_101 _
                              refine lv_sipush (v := 1440) hx hb dX9_copy_422 (by decide) ?_
                              refine lv_irem hx hb dX9_copy_425 (by decide) ?_
                              refine lv_topi (fun z_144 ez_144 => ?_)
                              refine lv_iadd hx hb dX9_copy_426 ?_
                              refine lv_topi (fun z_145 ez_145 => ?_)
                              refine lv_aload_n hx hb dX9_copy_427 rfl (lv_at hl 7 rfl) ?_
                              refine yget (ci := 9) (k := 41) (v := .ref (S.2.2.1 h0 41)) (C := RX9) (T := TX9) (N := 67) C0 hK hP hm_h0 hk_h0 (by decide) rfl inlX9 (by decide) mW146 (fun _ h9 => h9) rfl dX9_copy_428 ?_
                              obtain ⟨hmy_146, hky_146⟩ := ySh.f9_41 hSh _ hm_h0 hk_h0
                              refine lv_iload hx hb dX9_copy_431 (lv_at hl 0 rfl) ?_
                              refine yaldB C0 hK hP hmy_146 hky_146 (by decide) rfl 1 rfl (xinT 5000 rfl (by omega) (by omega)) dX9_copy_433 ?_
                              refine lv_topi (fun z_147 ez_147 => ?_)
                              have T_149 : (z_142 : Int32).toInt = 1440 * (z_58 : Int32).toInt := tmul ez_142 (by decide +kernel : (1440 : Int32).toInt = 1440) (rfl : (z_58 : Int32).toInt = (z_58 : Int32).toInt) (by omega) (by omega)
                              have T_150 := tremc ez_144 (rfl : (z_143 : Int32).toInt = (z_143 : Int32).toInt) (by decide +kernel : (1440 : Int32).toInt = 1440) (by omega) (by omega)
                              have T_148 : (z_145 : Int32).toInt = (z_142 : Int32).toInt + (z_144 : Int32).toInt := tadd ez_145 (rfl : (z_142 : Int32).toInt = (z_142 : Int32).toInt) (rfl : (z_144 : Int32).toInt = (z_144 : Int32).toInt) (by omega) (by omega)
                              refine yVwv (As := [.int p0, .int z_145, .int z_147]) (rest := []) C0 (g_X9_insert l G S d_101 h0 p0 z_145 z_147 hSh hPod_101 hm_h0 hk_h0 hId_101 (by omega) (by refine ⟨?_, ?_⟩ <;> omega)) ok_X9_insert (mW433 : Cond.methodLink RX9 202 yX9_insert ∈ wsT) ⟨Nat.le_of_ble_eq_true rfl, Nat.le_of_ble_eq_true rfl⟩ hP hD hS hA hK hN hm_h0 hk_h0 (by decide) rfl rfl rfl hl.1 rfl (Nat.le_of_ble_eq_true rfl) ⟨Nat.le_of_ble_eq_true rfl, Nat.le_of_ble_eq_true rfl⟩ dX9_copy_434 (fun d_153 H locs hr_152 hP hD hS => ?_)
                              obtain ⟨hgad_153, hpad_153, hfad_153, hxd_153⟩ := hr_152
                              have hfd_153 : yK [1, 38] d d_153 h0 := yK.tr hfd_101 hfad_153 (by decide)
                              have hE0d_153 : (d_153.1 h0 0).toInt = (d_101.1 h0 0).toInt := congrArg Int32.toInt (hfad_153 0 (by decide))
                              have hE2d_153 : (d_153.1 h0 2).toInt = (d_101.1 h0 2).toInt := congrArg Int32.toInt (hfad_153 2 (by decide))
                              have hE3d_153 : (d_153.1 h0 3).toInt = (d_101.1 h0 3).toInt := congrArg Int32.toInt (hfad_153 3 (by decide))
                              have hE63d_153 : (d_153.1 h0 63).toInt = (d_101.1 h0 63).toInt := congrArg Int32.toInt (hfad_153 63 (by decide))
                              have hId_153 : yMI S d_153 h0 := hxd_153.1
                              have hL0d_153 : yAg S [9, 42, 43, 45, 46, 47] d_33 d_153 := yAg.tr hL0d_101 hgad_153 (by first | decide | exact fun _ h => h)
                              have hK0d_153 : yK [1] d_33 d_153 h0 := yK.tr hK0d_101 hfad_153 (by decide)
                              have hL1d_153 : yAg S [9, 45, 46, 47] d_98 d_153 := yAg.tr hLJd_101 hgad_153 (by first | decide | exact fun _ h => h)
                              have hK1d_153 : yK [1] d_98 d_153 h0 := yK.tr hKJd_101 hfad_153 (by decide)
                              have hgd_153 : yAg S [9, 42, 43, 45, 46, 47, 69, 70, 71, 72, 73] d d_153 := yAg.tr hgd_101 hgad_153 (by first | decide | exact fun _ h => h)
                              have hPod_153 : yPo S d_153 := hpad_153 hPod_101
                              refine lv_iinc (v := v_100 + 1) (lv' := [(15, .int (v_100 + 1)), (12, .int z_59), (11, .int z_58), (10, .int r_38), (9, .int v_41), (8, .int v_40), (7, .int v_22), (0, .ref h0), (1, .int p0), (2, .int p1), (4, .int p3), (5, .int p4)]) hx hb dX9_copy_437 hl (k := 0) rfl rfl (by decide) rfl (fun ls hl => ?_)
                              refine lv_goto (tgt := 384) hx hb dX9_copy_440 (by decide) ?_
                              have hCC_155 := yMI.c hId_153
                              have hcn_ : yPm S d_42 h0 z_59 (v_100 : Int32).toInt.toNat = true := by
                                have q0 : d_42.2.2.2.1 (S.2.2.1 h0 40) (v_100 : Int32).toInt.toNat / 1440 = z_131 := by rw [ez_131, ez_130, show d_101.2.2.2.1 (S.2.2.1 h0 40) = d_42.2.2.2.1 (S.2.2.1 h0 40) from hcmd_101]; rfl
                                exact decide_eq_true (q0.trans c_132)
                              have hcs_ := ycnT (P := yPm S d_42 h0 z_59) (k := v_100) (z := v_100 + 1) rfl (by omega) (by omega) hcn_
                              exact hnext_102 (v_100 + 1, d_153) _ _ ls (xup c_104) ⟨hP, hD, hS, hgd_153, hPod_153, hfd_153, hId_153, hL1d_153, hK1d_153, hL0d_153, hK0d_153, (show (0 ≤ (((v_100 + 1)) : Int32).toInt ∧ (((v_100 + 1)) : Int32).toInt ≤ (v_22 : Int32).toInt ∧ (d_153.1 h0 1).toInt = (d_42.1 h0 1).toInt - (v_78 : Int32).toInt + (ycn (yPm S d_42 h0 (z_59)) (((v_100 + 1)) : Int32).toInt.toNat : Int)) from by have hq0_ : (0 : Int32).toInt = 0 := (by decide +kernel); omega), lv_sub hl [0, 1, 2, 3, 4, 5, 6, 7, 8, 9, 10, 11] rfl⟩
                        · refine lv_iconst (v := 5) hx hb dX9_copy_353 (by decide) ?_
                          refine lv_istore (lv' := [(9, .int 5), (15, .int v_79), (14, .int v_78), (13, .int v_72), (12, .int z_59), (11, .int z_58), (10, .int r_38), (8, .int v_40), (7, .int v_22), (0, .ref h0), (1, .int p0), (2, .int p1), (4, .int p3), (5, .int p4)]) hx hb dX9_copy_354 hl (by decide) rfl (fun ls hl => ?_)
                          refine lv_goto (tgt := 484) hx hb dX9_copy_356 (by decide) ?_
                          refine lv_goto (tgt := 199) hx hb dX9_copy_484 (by decide) ?_
                          have T_156 : (z_82 : Int32).toInt = (d_42.1 h0 1).toInt := by rw [ez_82]
                          have F_157 := fle (rfl : (z_82 : Int32).toInt = (z_82 : Int32).toInt) (rfl : (v_79 : Int32).toInt = (v_79 : Int32).toInt) c_83
                          have T_160 : (z_84 : Int32).toInt = (d_42.1 h0 1).toInt := by rw [ez_84]
                          have T_159 : (z_85 : Int32).toInt = (z_84 : Int32).toInt - (v_78 : Int32).toInt := tsub ez_85 (rfl : (z_84 : Int32).toInt = (z_84 : Int32).toInt) (rfl : (v_78 : Int32).toInt = (v_78 : Int32).toInt) (by omega) (by omega)
                          have T_158 : (z_86 : Int32).toInt = (z_85 : Int32).toInt + (v_72 : Int32).toInt := tadd ez_86 (rfl : (z_85 : Int32).toInt = (z_85 : Int32).toInt) (rfl : (v_72 : Int32).toInt = (v_72 : Int32).toInt) (by omega) (by omega)
                          have F_161 := fnle (rfl : (z_86 : Int32).toInt = (z_86 : Int32).toInt) (by decide +kernel : (5000 : Int32).toInt = 5000) c_87
                          exact hnext_43 (v_40, 5, d_42) _ _ ls ((show (2147483647 - (v_40 : Int32).toInt).toNat + (if (5 : Int32) = 0 then 1 else 0) < (2147483647 - (v_40 : Int32).toInt).toNat + (if v_41 = 0 then 1 else 0) from by rw [if_pos c_51, if_neg (by decide +kernel)]; omega)) ⟨hP, hD, hS, hgd_42, hPod_42, hfd_42, hId_42, hLJd_42, hKJd_42, (show (0 ≤ ((v_40) : Int32).toInt ∧ 0 ≤ ((5) : Int32).toInt ∧ ((5) : Int32).toInt ≤ 5) from by have hl1_ : (5 : Int32).toInt = 5 := (by decide +kernel); have hq0_ : (0 : Int32).toInt = 0 := (by decide +kernel); omega), lv_sub hl [6, 0, 7, 8, 9, 10, 11, 12, 13] rfl⟩
                      · refine lv_aload_n hx hb dX9_copy_301 rfl (lv_at hl 9 rfl) ?_
                        refine yget (ci := 9) (k := 15) (v := .ref (S.2.2.1 h0 15)) (C := RX9) (T := TX9) (N := 67) C0 hK hP hm_h0 hk_h0 (by decide) rfl inlX9 (by decide) mW122 (fun _ h9 => h9) rfl dX9_copy_302 ?_
                        obtain ⟨hmy_162, hky_162⟩ := ySh.f9_15 hSh _ hm_h0 hk_h0
                        refine lv_iload hx hb dX9_copy_305 (lv_at hl 0 rfl) ?_
                        have T_163 : (z_82 : Int32).toInt = (d_42.1 h0 1).toInt := by rw [ez_82]
                        have F_164 := fnle (rfl : (z_82 : Int32).toInt = (z_82 : Int32).toInt) (rfl : (v_79 : Int32).toInt = (v_79 : Int32).toInt) c_83
                        refine yaldB C0 hK hP hmy_162 hky_162 (by decide) rfl 1 rfl (xinT 5000 rfl (by omega) (by omega)) dX9_copy_307 ?_
                        refine lv_topi (fun z_165 ez_165 => ?_)
                        refine lv_iload_n hx hb dX9_copy_308 rfl (lv_at hl 10 rfl) ?_
                        refine lv_icmp_ne (tgt := 331) hx hb dX9_copy_309 (by decide) (fun c_166 => ?_) (fun c_166 => ?_)
                        · refine lv_iinc (v := v_79 + 1) (lv' := [(15, .int (v_79 + 1)), (14, .int v_78), (13, .int v_72), (12, .int z_59), (11, .int z_58), (10, .int r_38), (9, .int v_41), (8, .int v_40), (7, .int v_22), (0, .ref h0), (1, .int p0), (2, .int p1), (4, .int p3), (5, .int p4)]) hx hb dX9_copy_331 hl (k := 0) rfl rfl (by decide) rfl (fun ls hl => ?_)
                          refine lv_goto (tgt := 292) hx hb dX9_copy_334 (by decide) ?_
                          have F_169 := fne (rfl : (z_165 : Int32).toInt = (z_165 : Int32).toInt) (rfl : (p0 : Int32).toInt = (p0 : Int32).toInt) c_166
                          have T_170 : ((v_79 + 1) : Int32).toInt = (v_79 : Int32).toInt + 1 := tadd rfl (rfl : (v_79 : Int32).toInt = (v_79 : Int32).toInt) (by decide +kernel : (1 : Int32).toInt = 1) (by omega) (by omega)
                          have hcn_ : yPl S d_42 h0 p0 z_58 (v_79 : Int32).toInt.toNat = false := by
                            have q1 : d_42.2.2.2.1 (S.2.2.1 h0 15) (v_79 : Int32).toInt.toNat = z_165 := by rw [ez_165]; rfl
                            exact decide_eq_false (fun q => c_166 (q1.symm.trans q.1))
                          have hcs_ := ycnF (P := yPl S d_42 h0 p0 z_58) (k := v_79) (z := v_79 + 1) rfl (by omega) (by omega) hcn_
                          exact hnext_80 (v_78, v_79 + 1) ls (xup c_83) ⟨(show (0 ≤ (((v_79 + 1)) : Int32).toInt ∧ (((v_79 + 1)) : Int32).toInt ≤ (d_42.1 h0 1).toInt ∧ ((v_78) : Int32).toInt ≤ (((v_79 + 1)) : Int32).toInt ∧ ((v_78) : Int32).toInt = (ycn (yPl S d_42 h0 p0 (z_58)) (((v_79 + 1)) : Int32).toInt.toNat : Int)) from by have hq0_ : (0 : Int32).toInt = 0 := (by decide +kernel); omega), (lv_sub hl [0, 1, 2, 3, 4, 5, 6, 7, 8, 9, 10, 11, 12, 13] rfl)⟩
                        · refine lv_aload_n hx hb dX9_copy_312 rfl (lv_at hl 9 rfl) ?_
                          refine yget (ci := 9) (k := 16) (v := .ref (S.2.2.1 h0 16)) (C := RX9) (T := TX9) (N := 67) C0 hK hP hm_h0 hk_h0 (by decide) rfl inlX9 (by decide) mW123 (fun _ h9 => h9) rfl dX9_copy_313 ?_
                          obtain ⟨hmy_171, hky_171⟩ := ySh.f9_16 hSh _ hm_h0 hk_h0
                          refine lv_iload hx hb dX9_copy_316 (lv_at hl 0 rfl) ?_
                          have F_173 := feq (rfl : (z_165 : Int32).toInt = (z_165 : Int32).toInt) (rfl : (p0 : Int32).toInt = (p0 : Int32).toInt) c_166
                          refine yald C0 hK hP hmy_171 hky_171 (by decide) rfl 0 rfl (xinT 5000 rfl (by omega) (by omega)) dX9_copy_318 ?_
                          refine lv_topi (fun z_174 ez_174 => ?_)
                          have hvz_174 : 0 ≤ (z_174 : Int32).toInt ∧ (z_174 : Int32).toInt ≤ 129599 := by rw [ez_174]; exact yMI.em_ hId_42 _
                          refine lv_sipush (v := 1440) hx hb dX9_copy_319 (by decide) ?_
                          refine lv_idiv hx hb dX9_copy_322 (by decide) ?_
                          refine lv_topi (fun z_175 ez_175 => ?_)
                          refine lv_iload hx hb dX9_copy_323 (lv_at hl 4 rfl) ?_
                          refine lv_icmp_ne (tgt := 331) hx hb dX9_copy_325 (by decide) (fun c_176 => ?_) (fun c_176 => ?_)
                          · refine lv_iinc (v := v_79 + 1) (lv' := [(15, .int (v_79 + 1)), (14, .int v_78), (13, .int v_72), (12, .int z_59), (11, .int z_58), (10, .int r_38), (9, .int v_41), (8, .int v_40), (7, .int v_22), (0, .ref h0), (1, .int p0), (2, .int p1), (4, .int p3), (5, .int p4)]) hx hb dX9_copy_331 hl (k := 0) rfl rfl (by decide) rfl (fun ls hl => ?_)
                            refine lv_goto (tgt := 292) hx hb dX9_copy_334 (by decide) ?_
                            have T_178 := tdivc ez_175 (rfl : (z_174 : Int32).toInt = (z_174 : Int32).toInt) (by decide +kernel : (1440 : Int32).toInt = 1440) (by omega) (by omega)
                            have F_180 := fne (rfl : (z_175 : Int32).toInt = (z_175 : Int32).toInt) (rfl : (z_58 : Int32).toInt = (z_58 : Int32).toInt) c_176
                            have T_181 : ((v_79 + 1) : Int32).toInt = (v_79 : Int32).toInt + 1 := tadd rfl (rfl : (v_79 : Int32).toInt = (v_79 : Int32).toInt) (by decide +kernel : (1 : Int32).toInt = 1) (by omega) (by omega)
                            have hcn_ : yPl S d_42 h0 p0 z_58 (v_79 : Int32).toInt.toNat = false := by
                              have q1 : d_42.2.2.2.1 (S.2.2.1 h0 15) (v_79 : Int32).toInt.toNat = z_165 := by rw [ez_165]; rfl
                              have q0 : d_42.2.2.2.1 (S.2.2.1 h0 16) (v_79 : Int32).toInt.toNat / 1440 = z_175 := by rw [ez_175, ez_174]; rfl
                              exact decide_eq_false (fun q => c_176 (q0.symm.trans q.2))
                            have hcs_ := ycnF (P := yPl S d_42 h0 p0 z_58) (k := v_79) (z := v_79 + 1) rfl (by omega) (by omega) hcn_
                            exact hnext_80 (v_78, v_79 + 1) ls (xup c_83) ⟨(show (0 ≤ (((v_79 + 1)) : Int32).toInt ∧ (((v_79 + 1)) : Int32).toInt ≤ (d_42.1 h0 1).toInt ∧ ((v_78) : Int32).toInt ≤ (((v_79 + 1)) : Int32).toInt ∧ ((v_78) : Int32).toInt = (ycn (yPl S d_42 h0 p0 (z_58)) (((v_79 + 1)) : Int32).toInt.toNat : Int)) from by have hq0_ : (0 : Int32).toInt = 0 := (by decide +kernel); omega), (lv_sub hl [0, 1, 2, 3, 4, 5, 6, 7, 8, 9, 10, 11, 12, 13] rfl)⟩
                          · refine lv_iinc (v := v_78 + 1) (lv' := [(14, .int (v_78 + 1)), (15, .int v_79), (13, .int v_72), (12, .int z_59), (11, .int z_58), (10, .int r_38), (9, .int v_41), (8, .int v_40), (7, .int v_22), (0, .ref h0), (1, .int p0), (2, .int p1), (4, .int p3), (5, .int p4)]) hx hb dX9_copy_328 hl (k := 1) rfl rfl (by decide) rfl (fun ls hl => ?_)
                            refine lv_iinc (v := v_79 + 1) (lv' := [(15, .int (v_79 + 1)), (14, .int (v_78 + 1)), (13, .int v_72), (12, .int z_59), (11, .int z_58), (10, .int r_38), (9, .int v_41), (8, .int v_40), (7, .int v_22), (0, .ref h0), (1, .int p0), (2, .int p1), (4, .int p3), (5, .int p4)]) hx hb dX9_copy_331 hl (k := 1) rfl rfl (by decide) rfl (fun ls hl => ?_)
                            refine lv_goto (tgt := 292) hx hb dX9_copy_334 (by decide) ?_
                            have T_184 := tdivc ez_175 (rfl : (z_174 : Int32).toInt = (z_174 : Int32).toInt) (by decide +kernel : (1440 : Int32).toInt = 1440) (by omega) (by omega)
                            have F_186 := feq (rfl : (z_175 : Int32).toInt = (z_175 : Int32).toInt) (rfl : (z_58 : Int32).toInt = (z_58 : Int32).toInt) c_176
                            have T_187 : ((v_78 + 1) : Int32).toInt = (v_78 : Int32).toInt + 1 := tadd rfl (rfl : (v_78 : Int32).toInt = (v_78 : Int32).toInt) (by decide +kernel : (1 : Int32).toInt = 1) (by omega) (by omega)
                            have T_188 : ((v_79 + 1) : Int32).toInt = (v_79 : Int32).toInt + 1 := tadd rfl (rfl : (v_79 : Int32).toInt = (v_79 : Int32).toInt) (by decide +kernel : (1 : Int32).toInt = 1) (by omega) (by omega)
                            have hcn_ : yPl S d_42 h0 p0 z_58 (v_79 : Int32).toInt.toNat = true := by
                              have q1 : d_42.2.2.2.1 (S.2.2.1 h0 15) (v_79 : Int32).toInt.toNat = z_165 := by rw [ez_165]; rfl
                              have q0 : d_42.2.2.2.1 (S.2.2.1 h0 16) (v_79 : Int32).toInt.toNat / 1440 = z_175 := by rw [ez_175, ez_174]; rfl
                              exact decide_eq_true ⟨q1.trans c_166, q0.trans c_176⟩
                            have hcs_ := ycnT (P := yPl S d_42 h0 p0 z_58) (k := v_79) (z := v_79 + 1) rfl (by omega) (by omega) hcn_
                            exact hnext_80 (v_78 + 1, v_79 + 1) ls (xup c_83) ⟨(show (0 ≤ (((v_79 + 1)) : Int32).toInt ∧ (((v_79 + 1)) : Int32).toInt ≤ (d_42.1 h0 1).toInt ∧ (((v_78 + 1)) : Int32).toInt ≤ (((v_79 + 1)) : Int32).toInt ∧ (((v_78 + 1)) : Int32).toInt = (ycn (yPl S d_42 h0 p0 (z_58)) (((v_79 + 1)) : Int32).toInt.toNat : Int)) from by have hq0_ : (0 : Int32).toInt = 0 := (by decide +kernel); omega), (lv_sub hl [0, 1, 2, 3, 4, 5, 6, 7, 8, 9, 10, 11, 12, 13] rfl)⟩
                    · refine lv_aload_n hx hb dX9_copy_261 rfl (lv_at hl 8 rfl) ?_
                      refine yget (ci := 9) (k := 40) (v := .ref (S.2.2.1 h0 40)) (C := RX9) (T := TX9) (N := 67) C0 hK hP hm_h0 hk_h0 (by decide) rfl inlX9 (by decide) mW145 (fun _ h9 => h9) rfl dX9_copy_262 ?_
                      obtain ⟨hmy_189, hky_189⟩ := ySh.f9_40 hSh _ hm_h0 hk_h0
                      refine lv_iload hx hb dX9_copy_265 (lv_at hl 0 rfl) ?_
                      have F_190 := fnle (rfl : (v_22 : Int32).toInt = (v_22 : Int32).toInt) (rfl : (v_73 : Int32).toInt = (v_73 : Int32).toInt) c_76
                      refine yald C0 hK hP hmy_189 hky_189 (by decide) rfl 0 rfl (xinT 5000 rfl (by omega) (by omega)) dX9_copy_267 ?_
                      refine lv_topi (fun z_191 ez_191 => ?_)
                      have hvz_191 : 0 ≤ (z_191 : Int32).toInt ∧ (z_191 : Int32).toInt ≤ 129599 := by rw [ez_191]; exact yMI.cm_ hId_42 _
                      refine lv_sipush (v := 1440) hx hb dX9_copy_268 (by decide) ?_
                      refine lv_idiv hx hb dX9_copy_271 (by decide) ?_
                      refine lv_topi (fun z_192 ez_192 => ?_)
                      refine lv_iload hx hb dX9_copy_272 (lv_at hl 2 rfl) ?_
                      refine lv_icmp_ne (tgt := 280) hx hb dX9_copy_274 (by decide) (fun c_193 => ?_) (fun c_193 => ?_)
                      · refine lv_iinc (v := v_73 + 1) (lv' := [(14, .int (v_73 + 1)), (13, .int v_72), (12, .int z_59), (11, .int z_58), (10, .int r_38), (9, .int v_41), (8, .int v_40), (7, .int v_22), (0, .ref h0), (1, .int p0), (2, .int p1), (4, .int p3), (5, .int p4)]) hx hb dX9_copy_280 hl (k := 0) rfl rfl (by decide) rfl (fun ls hl => ?_)
                        refine lv_goto (tgt := 254) hx hb dX9_copy_283 (by decide) ?_
                        have T_195 := tdivc ez_192 (rfl : (z_191 : Int32).toInt = (z_191 : Int32).toInt) (by decide +kernel : (1440 : Int32).toInt = 1440) (by omega) (by omega)
                        have F_197 := fne (rfl : (z_192 : Int32).toInt = (z_192 : Int32).toInt) (rfl : (z_59 : Int32).toInt = (z_59 : Int32).toInt) c_193
                        have T_198 : ((v_73 + 1) : Int32).toInt = (v_73 : Int32).toInt + 1 := tadd rfl (rfl : (v_73 : Int32).toInt = (v_73 : Int32).toInt) (by decide +kernel : (1 : Int32).toInt = 1) (by omega) (by omega)
                        have hcn_ : yPm S d_42 h0 z_59 (v_73 : Int32).toInt.toNat = false := by
                          have q0 : d_42.2.2.2.1 (S.2.2.1 h0 40) (v_73 : Int32).toInt.toNat / 1440 = z_192 := by rw [ez_192, ez_191]; rfl
                          exact decide_eq_false (fun q => c_193 (q0.symm.trans q))
                        have hcs_ := ycnF (P := yPm S d_42 h0 z_59) (k := v_73) (z := v_73 + 1) rfl (by omega) (by omega) hcn_
                        exact hnext_74 (v_72, v_73 + 1) ls (xup c_76) ⟨(show (0 ≤ (((v_73 + 1)) : Int32).toInt ∧ (((v_73 + 1)) : Int32).toInt ≤ (v_22 : Int32).toInt ∧ ((v_72) : Int32).toInt ≤ (((v_73 + 1)) : Int32).toInt ∧ ((v_72) : Int32).toInt = (ycn (yPm S d_42 h0 (z_59)) (((v_73 + 1)) : Int32).toInt.toNat : Int)) from by have hq0_ : (0 : Int32).toInt = 0 := (by decide +kernel); omega), (lv_sub hl [0, 1, 2, 3, 4, 5, 6, 7, 8, 9, 10, 11, 12] rfl)⟩
                      · refine lv_iinc (v := v_72 + 1) (lv' := [(13, .int (v_72 + 1)), (14, .int v_73), (12, .int z_59), (11, .int z_58), (10, .int r_38), (9, .int v_41), (8, .int v_40), (7, .int v_22), (0, .ref h0), (1, .int p0), (2, .int p1), (4, .int p3), (5, .int p4)]) hx hb dX9_copy_277 hl (k := 1) rfl rfl (by decide) rfl (fun ls hl => ?_)
                        refine lv_iinc (v := v_73 + 1) (lv' := [(14, .int (v_73 + 1)), (13, .int (v_72 + 1)), (12, .int z_59), (11, .int z_58), (10, .int r_38), (9, .int v_41), (8, .int v_40), (7, .int v_22), (0, .ref h0), (1, .int p0), (2, .int p1), (4, .int p3), (5, .int p4)]) hx hb dX9_copy_280 hl (k := 1) rfl rfl (by decide) rfl (fun ls hl => ?_)
                        refine lv_goto (tgt := 254) hx hb dX9_copy_283 (by decide) ?_
                        have T_201 := tdivc ez_192 (rfl : (z_191 : Int32).toInt = (z_191 : Int32).toInt) (by decide +kernel : (1440 : Int32).toInt = 1440) (by omega) (by omega)
                        have F_203 := feq (rfl : (z_192 : Int32).toInt = (z_192 : Int32).toInt) (rfl : (z_59 : Int32).toInt = (z_59 : Int32).toInt) c_193
                        have T_204 : ((v_72 + 1) : Int32).toInt = (v_72 : Int32).toInt + 1 := tadd rfl (rfl : (v_72 : Int32).toInt = (v_72 : Int32).toInt) (by decide +kernel : (1 : Int32).toInt = 1) (by omega) (by omega)
                        have T_205 : ((v_73 + 1) : Int32).toInt = (v_73 : Int32).toInt + 1 := tadd rfl (rfl : (v_73 : Int32).toInt = (v_73 : Int32).toInt) (by decide +kernel : (1 : Int32).toInt = 1) (by omega) (by omega)
                        have hcn_ : yPm S d_42 h0 z_59 (v_73 : Int32).toInt.toNat = true := by
                          have q0 : d_42.2.2.2.1 (S.2.2.1 h0 40) (v_73 : Int32).toInt.toNat / 1440 = z_192 := by rw [ez_192, ez_191]; rfl
                          exact decide_eq_true (q0.trans c_193)
                        have hcs_ := ycnT (P := yPm S d_42 h0 z_59) (k := v_73) (z := v_73 + 1) rfl (by omega) (by omega) hcn_
                        exact hnext_74 (v_72 + 1, v_73 + 1) ls (xup c_76) ⟨(show (0 ≤ (((v_73 + 1)) : Int32).toInt ∧ (((v_73 + 1)) : Int32).toInt ≤ (v_22 : Int32).toInt ∧ (((v_72 + 1)) : Int32).toInt ≤ (((v_73 + 1)) : Int32).toInt ∧ (((v_72 + 1)) : Int32).toInt = (ycn (yPm S d_42 h0 (z_59)) (((v_73 + 1)) : Int32).toInt.toNat : Int)) from by have hq0_ : (0 : Int32).toInt = 0 := (by decide +kernel); omega), (lv_sub hl [0, 1, 2, 3, 4, 5, 6, 7, 8, 9, 10, 11, 12] rfl)⟩
                  · refine lv_iconst (v := 4) hx hb dX9_copy_242 (by decide) ?_
                    refine lv_istore (lv' := [(9, .int 4), (12, .int z_59), (11, .int z_58), (10, .int r_38), (8, .int v_40), (7, .int v_22), (0, .ref h0), (1, .int p0), (2, .int p1), (4, .int p3), (5, .int p4)]) hx hb dX9_copy_243 hl (by decide) rfl (fun ls hl => ?_)
                    refine lv_goto (tgt := 484) hx hb dX9_copy_245 (by decide) ?_
                    refine lv_goto (tgt := 199) hx hb dX9_copy_484 (by decide) ?_
                    have T_206 : (z_58 : Int32).toInt = (p1 : Int32).toInt + (v_40 : Int32).toInt := tadd ez_58 (rfl : (p1 : Int32).toInt = (p1 : Int32).toInt) (rfl : (v_40 : Int32).toInt = (v_40 : Int32).toInt) (by omega) (by omega)
                    have F_207 := fnle (rfl : (r_62 : Int32).toInt = (r_62 : Int32).toInt) (rfl : (z_58 : Int32).toInt = (z_58 : Int32).toInt) c_64
                    have T_208 : (z_59 : Int32).toInt = (p3 : Int32).toInt + (v_40 : Int32).toInt := tadd ez_59 (rfl : (p3 : Int32).toInt = (p3 : Int32).toInt) (rfl : (v_40 : Int32).toInt = (v_40 : Int32).toInt) (by omega) (by omega)
                    have F_209 := fnlt (rfl : (z_59 : Int32).toInt = (z_59 : Int32).toInt) (rfl : (r_38 : Int32).toInt = (r_38 : Int32).toInt) c_67
                    exact hnext_43 (v_40, 4, d_42) _ _ ls ((show (2147483647 - (v_40 : Int32).toInt).toNat + (if (4 : Int32) = 0 then 1 else 0) < (2147483647 - (v_40 : Int32).toInt).toNat + (if v_41 = 0 then 1 else 0) from by rw [if_pos c_51, if_neg (by decide +kernel)]; omega)) ⟨hP, hD, hS, hgd_42, hPod_42, hfd_42, hId_42, hLJd_42, hKJd_42, (show (0 ≤ ((v_40) : Int32).toInt ∧ 0 ≤ ((4) : Int32).toInt ∧ ((4) : Int32).toInt ≤ 5) from by have hl1_ : (4 : Int32).toInt = 4 := (by decide +kernel); have hq0_ : (0 : Int32).toInt = 0 := (by decide +kernel); omega), lv_sub hl [3, 0, 4, 5, 6, 7, 8, 9, 10] rfl⟩
          · refine lv_aload_n hx hb dX9_copy_141 rfl (lv_at hl 2 rfl) ?_
            refine yget (ci := 9) (k := 42) (v := .ref (S.2.2.1 h0 42)) (C := RX9) (T := TX9) (N := 67) C0 hK hP hm_h0 hk_h0 (by decide) rfl inlX9 (by decide) mW147 (fun _ h9 => h9) rfl dX9_copy_142 ?_
            obtain ⟨hmy_210, hky_210⟩ := ySh.f9_42 hSh _ hm_h0 hk_h0
            refine lv_iload hx hb dX9_copy_145 (lv_at hl 0 rfl) ?_
            refine lv_aload_n hx hb dX9_copy_147 rfl (lv_at hl 2 rfl) ?_
            refine yget (ci := 9) (k := 12) (v := .ref (S.2.2.1 h0 12)) (C := RX9) (T := TX9) (N := 67) C0 hK hP hm_h0 hk_h0 (by decide) rfl inlX9 (by decide) mW118 (fun _ h9 => h9) rfl dX9_copy_148 ?_
            obtain ⟨hmy_211, hky_211⟩ := ySh.f9_12 hSh _ hm_h0 hk_h0
            refine lv_bipush (v := 90) hx hb dX9_copy_151 (by decide) ?_
            refine lv_iload_n hx hb dX9_copy_153 rfl (lv_at hl 5 rfl) ?_
            refine lv_imul hx hb dX9_copy_154 ?_
            refine lv_topi (fun z_212 ez_212 => ?_)
            refine lv_iload hx hb dX9_copy_155 (lv_at hl 0 rfl) ?_
            refine lv_iadd hx hb dX9_copy_157 ?_
            refine lv_topi (fun z_213 ez_213 => ?_)
            have hCC_214 := yMI.c hId_33
            have F_215 := fnle (by decide +kernel : (90 : Int32).toInt = 90) (rfl : (v_32 : Int32).toInt = (v_32 : Int32).toInt) c_36
            have T_217 : (z_212 : Int32).toInt = 90 * (p2 : Int32).toInt := tmul ez_212 (by decide +kernel : (90 : Int32).toInt = 90) (rfl : (p2 : Int32).toInt = (p2 : Int32).toInt) (by omega) (by omega)
            have T_216 : (z_213 : Int32).toInt = (z_212 : Int32).toInt + (v_32 : Int32).toInt := tadd ez_213 (rfl : (z_212 : Int32).toInt = (z_212 : Int32).toInt) (rfl : (v_32 : Int32).toInt = (v_32 : Int32).toInt) (by omega) (by omega)
            refine yaldS C0 hK hP hmy_211 hky_211 (by decide) rfl 2 rfl (xinT 720 rfl (by omega) (by omega)) dX9_copy_158 ?_
            refine lv_topi (fun z_218 ez_218 => ?_)
            refine yastS C0 hK hP hD hS hmy_210 hky_210 (by decide) rfl 2 rfl (xinT 90 rfl (by omega) (by omega)) dX9_copy_159 (fun H locs hP hD hS => ?_)
            obtain ⟨d_219, ed_219⟩ : ∃ z : yD, z = ycs d_33 (S.2.2.1 h0 42) (upd (d_33.2.2.2.1 (S.2.2.1 h0 42)) (v_32 : Int32).toNatClampNeg (vp_nar .short z_218)) := ⟨_, rfl⟩
            rw [← ed_219] at hP hD
            have hgd_219 : yAg S [9, 42, 43, 45, 46, 47, 69, 70, 71, 72, 73] d d_219 := by rw [ed_219]; exact yAg.cs hgd_33 (by rw [hky_210]; decide)
            have hPod_219 : yPo S d_219 := by rw [ed_219]; exact hPod_33
            have hfd_219 : yK [1, 38] d d_219 h0 := yK.ag hfd_33 (show yAg S [72] d_33 d_219 from by rw [ed_219]; exact yAg.cs yAg.rf (by rw [hky_210]; decide)) (by rw [hk_h0]; decide)
            have hL0d_219 : yAg S [72, 73] d_24 d_219 := by rw [ed_219]; exact yAg.cs hLJd_33 (by rw [hky_210]; decide)
            have hK0d_219 : yK [] d_24 d_219 h0 := yK.ag hKJd_33 (show yAg S [72] d_33 d_219 from by rw [ed_219]; exact yAg.cs yAg.rf (by rw [hky_210]; decide)) (by rw [hk_h0]; decide)
            have hId_219 : yMI S d_219 h0 := yMI.ag hId_33 hSh hm_h0 hk_h0 (show yAg S [72] d_33 d_219 from by rw [ed_219]; exact yAg.cs yAg.rf (by rw [hky_210]; decide)) (yK.ag (F := []) yK.rf (show yAg S [72] d_33 d_219 from by rw [ed_219]; exact yAg.cs yAg.rf (by rw [hky_210]; decide)) (by rw [hk_h0]; decide)) (by decide) (by decide)
            have hE0d_219 : (d_219.1 h0 0).toInt = (d_33.1 h0 0).toInt := congrArg Int32.toInt ((yK.ag (F := []) yK.rf (show yAg S [72] d_33 d_219 from by rw [ed_219]; exact yAg.cs yAg.rf (by rw [hky_210]; decide)) (by rw [hk_h0]; decide)) 0 (by decide))
            have hE1d_219 : (d_219.1 h0 1).toInt = (d_33.1 h0 1).toInt := congrArg Int32.toInt ((yK.ag (F := []) yK.rf (show yAg S [72] d_33 d_219 from by rw [ed_219]; exact yAg.cs yAg.rf (by rw [hky_210]; decide)) (by rw [hk_h0]; decide)) 1 (by decide))
            have hE2d_219 : (d_219.1 h0 2).toInt = (d_33.1 h0 2).toInt := congrArg Int32.toInt ((yK.ag (F := []) yK.rf (show yAg S [72] d_33 d_219 from by rw [ed_219]; exact yAg.cs yAg.rf (by rw [hky_210]; decide)) (by rw [hk_h0]; decide)) 2 (by decide))
            have hE3d_219 : (d_219.1 h0 3).toInt = (d_33.1 h0 3).toInt := congrArg Int32.toInt ((yK.ag (F := []) yK.rf (show yAg S [72] d_33 d_219 from by rw [ed_219]; exact yAg.cs yAg.rf (by rw [hky_210]; decide)) (by rw [hk_h0]; decide)) 3 (by decide))
            have hE63d_219 : (d_219.1 h0 63).toInt = (d_33.1 h0 63).toInt := congrArg Int32.toInt ((yK.ag (F := []) yK.rf (show yAg S [72] d_33 d_219 from by rw [ed_219]; exact yAg.cs yAg.rf (by rw [hky_210]; decide)) (by rw [hk_h0]; decide)) 63 (by decide))
            refine lv_aload_n hx hb dX9_copy_160 rfl (lv_at hl 2 rfl) ?_
            refine yget (ci := 9) (k := 43) (v := .ref (S.2.2.1 h0 43)) (C := RX9) (T := TX9) (N := 67) C0 hK hP hm_h0 hk_h0 (by decide) rfl inlX9 (by decide) mW148 (fun _ h9 => h9) rfl dX9_copy_161 ?_
            obtain ⟨hmy_220, hky_220⟩ := ySh.f9_43 hSh _ hm_h0 hk_h0
            refine lv_iload hx hb dX9_copy_164 (lv_at hl 0 rfl) ?_
            refine lv_aload_n hx hb dX9_copy_166 rfl (lv_at hl 2 rfl) ?_
            refine yget (ci := 9) (k := 13) (v := .ref (S.2.2.1 h0 13)) (C := RX9) (T := TX9) (N := 67) C0 hK hP hm_h0 hk_h0 (by decide) rfl inlX9 (by decide) mW120 (fun _ h9 => h9) rfl dX9_copy_167 ?_
            obtain ⟨hmy_221, hky_221⟩ := ySh.f9_13 hSh _ hm_h0 hk_h0
            refine lv_bipush (v := 90) hx hb dX9_copy_170 (by decide) ?_
            refine lv_iload_n hx hb dX9_copy_172 rfl (lv_at hl 5 rfl) ?_
            refine lv_imul hx hb dX9_copy_173 ?_
            refine lv_topi (fun z_222 ez_222 => ?_)
            refine lv_iload hx hb dX9_copy_174 (lv_at hl 0 rfl) ?_
            refine lv_iadd hx hb dX9_copy_176 ?_
            refine lv_topi (fun z_223 ez_223 => ?_)
            have hCC_224 := yMI.c hId_219
            have T_226 : (z_222 : Int32).toInt = 90 * (p2 : Int32).toInt := tmul ez_222 (by decide +kernel : (90 : Int32).toInt = 90) (rfl : (p2 : Int32).toInt = (p2 : Int32).toInt) (by omega) (by omega)
            have T_225 : (z_223 : Int32).toInt = (z_222 : Int32).toInt + (v_32 : Int32).toInt := tadd ez_223 (rfl : (z_222 : Int32).toInt = (z_222 : Int32).toInt) (rfl : (v_32 : Int32).toInt = (v_32 : Int32).toInt) (by omega) (by omega)
            refine yaldZ C0 hK hP hmy_221 hky_221 (by decide) rfl 3 rfl (xinT 720 rfl (by omega) (by omega)) dX9_copy_177 ?_
            refine lv_topi (fun z_227 ez_227 => ?_)
            refine yastZ C0 hK hP hD hS hmy_220 hky_220 (by decide) rfl 3 rfl (xinT 90 rfl (by omega) (by omega)) dX9_copy_178 (fun H locs hP hD hS => ?_)
            obtain ⟨d_228, ed_228⟩ : ∃ z : yD, z = ycs d_219 (S.2.2.1 h0 43) (upd (d_219.2.2.2.1 (S.2.2.1 h0 43)) (v_32 : Int32).toNatClampNeg (vp_nar .boolean z_227)) := ⟨_, rfl⟩
            rw [← ed_228] at hP hD
            have hgd_228 : yAg S [9, 42, 43, 45, 46, 47, 69, 70, 71, 72, 73] d d_228 := by rw [ed_228]; exact yAg.cs hgd_219 (by rw [hky_220]; decide)
            have hPod_228 : yPo S d_228 := by rw [ed_228]; exact hPod_219
            have hfd_228 : yK [1, 38] d d_228 h0 := yK.ag hfd_219 (show yAg S [73] d_219 d_228 from by rw [ed_228]; exact yAg.cs yAg.rf (by rw [hky_220]; decide)) (by rw [hk_h0]; decide)
            have hL0d_228 : yAg S [72, 73] d_24 d_228 := by rw [ed_228]; exact yAg.cs hL0d_219 (by rw [hky_220]; decide)
            have hK0d_228 : yK [] d_24 d_228 h0 := yK.ag hK0d_219 (show yAg S [73] d_219 d_228 from by rw [ed_228]; exact yAg.cs yAg.rf (by rw [hky_220]; decide)) (by rw [hk_h0]; decide)
            have hId_228 : yMI S d_228 h0 := yMI.ag hId_219 hSh hm_h0 hk_h0 (show yAg S [73] d_219 d_228 from by rw [ed_228]; exact yAg.cs yAg.rf (by rw [hky_220]; decide)) (yK.ag (F := []) yK.rf (show yAg S [73] d_219 d_228 from by rw [ed_228]; exact yAg.cs yAg.rf (by rw [hky_220]; decide)) (by rw [hk_h0]; decide)) (by decide) (by decide)
            have hE0d_228 : (d_228.1 h0 0).toInt = (d_219.1 h0 0).toInt := congrArg Int32.toInt ((yK.ag (F := []) yK.rf (show yAg S [73] d_219 d_228 from by rw [ed_228]; exact yAg.cs yAg.rf (by rw [hky_220]; decide)) (by rw [hk_h0]; decide)) 0 (by decide))
            have hE1d_228 : (d_228.1 h0 1).toInt = (d_219.1 h0 1).toInt := congrArg Int32.toInt ((yK.ag (F := []) yK.rf (show yAg S [73] d_219 d_228 from by rw [ed_228]; exact yAg.cs yAg.rf (by rw [hky_220]; decide)) (by rw [hk_h0]; decide)) 1 (by decide))
            have hE2d_228 : (d_228.1 h0 2).toInt = (d_219.1 h0 2).toInt := congrArg Int32.toInt ((yK.ag (F := []) yK.rf (show yAg S [73] d_219 d_228 from by rw [ed_228]; exact yAg.cs yAg.rf (by rw [hky_220]; decide)) (by rw [hk_h0]; decide)) 2 (by decide))
            have hE3d_228 : (d_228.1 h0 3).toInt = (d_219.1 h0 3).toInt := congrArg Int32.toInt ((yK.ag (F := []) yK.rf (show yAg S [73] d_219 d_228 from by rw [ed_228]; exact yAg.cs yAg.rf (by rw [hky_220]; decide)) (by rw [hk_h0]; decide)) 3 (by decide))
            have hE63d_228 : (d_228.1 h0 63).toInt = (d_219.1 h0 63).toInt := congrArg Int32.toInt ((yK.ag (F := []) yK.rf (show yAg S [73] d_219 d_228 from by rw [ed_228]; exact yAg.cs yAg.rf (by rw [hky_220]; decide)) (by rw [hk_h0]; decide)) 63 (by decide))
            refine lv_iinc (v := v_32 + 1) (lv' := [(8, .int (v_32 + 1)), (7, .int v_22), (0, .ref h0), (1, .int p0), (2, .int p1), (3, .int p2), (4, .int p3), (5, .int p4)]) hx hb dX9_copy_179 hl (k := 0) rfl rfl (by decide) rfl (fun ls hl => ?_)
            refine lv_goto (tgt := 134) hx hb dX9_copy_182 (by decide) ?_
            have hCC_230 := yMI.c hId_228
            have T_231 : ((v_32 + 1) : Int32).toInt = (v_32 : Int32).toInt + 1 := tadd rfl (rfl : (v_32 : Int32).toInt = (v_32 : Int32).toInt) (by decide +kernel : (1 : Int32).toInt = 1) (by omega) (by omega)
            exact hnext_34 (v_32 + 1, d_228) _ _ ls (xup c_36) ⟨hP, hD, hS, hgd_228, hPod_228, hfd_228, hId_228, hL0d_228, hK0d_228, (show (0 ≤ (((v_32 + 1)) : Int32).toInt) from by have hq0_ : (0 : Int32).toInt = 0 := (by decide +kernel); omega), lv_sub hl [0, 1, 2, 3, 4, 5, 6, 7] rfl⟩
        · refine lv_aload_n hx hb dX9_copy_80 rfl (lv_at hl 2 rfl) ?_
          refine yget (ci := 9) (k := 15) (v := .ref (S.2.2.1 h0 15)) (C := RX9) (T := TX9) (N := 67) C0 hK hP hm_h0 hk_h0 (by decide) rfl inlX9 (by decide) mW122 (fun _ h9 => h9) rfl dX9_copy_81 ?_
          obtain ⟨hmy_232, hky_232⟩ := ySh.f9_15 hSh _ hm_h0 hk_h0
          refine lv_iload hx hb dX9_copy_84 (lv_at hl 0 rfl) ?_
          have hCC_233 := yMI.c hId_24
          have T_234 : (z_27 : Int32).toInt = (d_24.1 h0 1).toInt := by rw [ez_27]
          have F_235 := fnle (rfl : (z_27 : Int32).toInt = (z_27 : Int32).toInt) (rfl : (v_23 : Int32).toInt = (v_23 : Int32).toInt) c_28
          refine yaldB C0 hK hP hmy_232 hky_232 (by decide) rfl 1 rfl (xinT 5000 rfl (by omega) (by omega)) dX9_copy_86 ?_
          refine lv_topi (fun z_236 ez_236 => ?_)
          refine lv_iload_n hx hb dX9_copy_87 rfl (lv_at hl 5 rfl) ?_
          refine lv_icmp_eq (tgt := 94) hx hb dX9_copy_88 (by decide) (fun c_237 => ?_) (fun c_237 => ?_)
          · refine lv_aload_n hx hb dX9_copy_94 rfl (lv_at hl 2 rfl) ?_
            refine yget (ci := 9) (k := 40) (v := .ref (S.2.2.1 h0 40)) (C := RX9) (T := TX9) (N := 67) C0 hK hP hm_h0 hk_h0 (by decide) rfl inlX9 (by decide) mW145 (fun _ h9 => h9) rfl dX9_copy_95 ?_
            obtain ⟨hmy_238, hky_238⟩ := ySh.f9_40 hSh _ hm_h0 hk_h0
            refine lv_iload hx hb dX9_copy_98 (lv_at hl 1 rfl) ?_
            refine lv_aload_n hx hb dX9_copy_100 rfl (lv_at hl 2 rfl) ?_
            refine yget (ci := 9) (k := 16) (v := .ref (S.2.2.1 h0 16)) (C := RX9) (T := TX9) (N := 67) C0 hK hP hm_h0 hk_h0 (by decide) rfl inlX9 (by decide) mW123 (fun _ h9 => h9) rfl dX9_copy_101 ?_
            obtain ⟨hmy_239, hky_239⟩ := ySh.f9_16 hSh _ hm_h0 hk_h0
            refine lv_iload hx hb dX9_copy_104 (lv_at hl 0 rfl) ?_
            have F_241 := feq (rfl : (z_236 : Int32).toInt = (z_236 : Int32).toInt) (rfl : (p2 : Int32).toInt = (p2 : Int32).toInt) c_237
            refine yald C0 hK hP hmy_239 hky_239 (by decide) rfl 0 rfl (xinT 5000 rfl (by omega) (by omega)) dX9_copy_106 ?_
            refine lv_topi (fun z_242 ez_242 => ?_)
            have hvz_242 : 0 ≤ (z_242 : Int32).toInt ∧ (z_242 : Int32).toInt ≤ 129599 := by rw [ez_242]; exact yMI.em_ hId_24 _
            refine yast C0 hK hP hD hS hmy_238 hky_238 (by decide) rfl 0 rfl (xinT 5000 rfl (by omega) (by omega)) dX9_copy_107 (fun H locs hP hD hS => ?_)
            obtain ⟨d_243, ed_243⟩ : ∃ z : yD, z = ycs d_24 (S.2.2.1 h0 40) (upd (d_24.2.2.2.1 (S.2.2.1 h0 40)) (v_22 : Int32).toNatClampNeg z_242) := ⟨_, rfl⟩
            rw [← ed_243] at hP hD
            have hgd_243 : yAg S [9, 42, 43, 45, 46, 47, 69, 70, 71, 72, 73] d d_243 := by rw [ed_243]; exact yAg.cs hgd_24 (by rw [hky_238]; decide)
            have hPod_243 : yPo S d_243 := by rw [ed_243]; exact hPod_24
            have hfd_243 : yK [1, 38] d d_243 h0 := yK.ag hfd_24 (show yAg S [70] d_24 d_243 from by rw [ed_243]; exact yAg.cs yAg.rf (by rw [hky_238]; decide)) (by rw [hk_h0]; decide)
            have hL0d_243 : yAg S [70, 71] d_1 d_243 := by rw [ed_243]; exact yAg.cs hLJd_24 (by rw [hky_238]; decide)
            have hK0d_243 : yK [] d_1 d_243 h0 := yK.ag hKJd_24 (show yAg S [70] d_24 d_243 from by rw [ed_243]; exact yAg.cs yAg.rf (by rw [hky_238]; decide)) (by rw [hk_h0]; decide)
            have hId_243 : yMI S d_243 h0 := by rw [ed_243]; exact yMI.w40 hId_24 hSh hm_h0 hk_h0 (yBr.up (yMI.cm_ hId_24) ⟨by omega, by omega⟩)
            have hE0d_243 : (d_243.1 h0 0).toInt = (d_24.1 h0 0).toInt := congrArg Int32.toInt ((yK.ag (F := []) yK.rf (show yAg S [70] d_24 d_243 from by rw [ed_243]; exact yAg.cs yAg.rf (by rw [hky_238]; decide)) (by rw [hk_h0]; decide)) 0 (by decide))
            have hE1d_243 : (d_243.1 h0 1).toInt = (d_24.1 h0 1).toInt := congrArg Int32.toInt ((yK.ag (F := []) yK.rf (show yAg S [70] d_24 d_243 from by rw [ed_243]; exact yAg.cs yAg.rf (by rw [hky_238]; decide)) (by rw [hk_h0]; decide)) 1 (by decide))
            have hE2d_243 : (d_243.1 h0 2).toInt = (d_24.1 h0 2).toInt := congrArg Int32.toInt ((yK.ag (F := []) yK.rf (show yAg S [70] d_24 d_243 from by rw [ed_243]; exact yAg.cs yAg.rf (by rw [hky_238]; decide)) (by rw [hk_h0]; decide)) 2 (by decide))
            have hE3d_243 : (d_243.1 h0 3).toInt = (d_24.1 h0 3).toInt := congrArg Int32.toInt ((yK.ag (F := []) yK.rf (show yAg S [70] d_24 d_243 from by rw [ed_243]; exact yAg.cs yAg.rf (by rw [hky_238]; decide)) (by rw [hk_h0]; decide)) 3 (by decide))
            have hE63d_243 : (d_243.1 h0 63).toInt = (d_24.1 h0 63).toInt := congrArg Int32.toInt ((yK.ag (F := []) yK.rf (show yAg S [70] d_24 d_243 from by rw [ed_243]; exact yAg.cs yAg.rf (by rw [hky_238]; decide)) (by rw [hk_h0]; decide)) 63 (by decide))
            refine lv_aload_n hx hb dX9_copy_108 rfl (lv_at hl 2 rfl) ?_
            refine yget (ci := 9) (k := 41) (v := .ref (S.2.2.1 h0 41)) (C := RX9) (T := TX9) (N := 67) C0 hK hP hm_h0 hk_h0 (by decide) rfl inlX9 (by decide) mW146 (fun _ h9 => h9) rfl dX9_copy_109 ?_
            obtain ⟨hmy_245, hky_245⟩ := ySh.f9_41 hSh _ hm_h0 hk_h0
            refine lv_iload hx hb dX9_copy_112 (lv_at hl 1 rfl) ?_
            refine lv_aload_n hx hb dX9_copy_114 rfl (lv_at hl 2 rfl) ?_
            refine yget (ci := 9) (k := 17) (v := .ref (S.2.2.1 h0 17)) (C := RX9) (T := TX9) (N := 67) C0 hK hP hm_h0 hk_h0 (by decide) rfl inlX9 (by decide) mW124 (fun _ h9 => h9) rfl dX9_copy_115 ?_
            obtain ⟨hmy_246, hky_246⟩ := ySh.f9_17 hSh _ hm_h0 hk_h0
            refine lv_iload hx hb dX9_copy_118 (lv_at hl 0 rfl) ?_
            have hCC_247 := yMI.c hId_243
            refine yaldB C0 hK hP hmy_246 hky_246 (by decide) rfl 1 rfl (xinT 5000 rfl (by omega) (by omega)) dX9_copy_120 ?_
            refine lv_topi (fun z_248 ez_248 => ?_)
            refine yastB C0 hK hP hD hS hmy_245 hky_245 (by decide) rfl 1 rfl (xinT 5000 rfl (by omega) (by omega)) dX9_copy_121 (fun H locs hP hD hS => ?_)
            obtain ⟨d_249, ed_249⟩ : ∃ z : yD, z = ycs d_243 (S.2.2.1 h0 41) (upd (d_243.2.2.2.1 (S.2.2.1 h0 41)) (v_22 : Int32).toNatClampNeg (vp_nar .byte z_248)) := ⟨_, rfl⟩
            rw [← ed_249] at hP hD
            have hgd_249 : yAg S [9, 42, 43, 45, 46, 47, 69, 70, 71, 72, 73] d d_249 := by rw [ed_249]; exact yAg.cs hgd_243 (by rw [hky_245]; decide)
            have hPod_249 : yPo S d_249 := by rw [ed_249]; exact hPod_243
            have hfd_249 : yK [1, 38] d d_249 h0 := yK.ag hfd_243 (show yAg S [71] d_243 d_249 from by rw [ed_249]; exact yAg.cs yAg.rf (by rw [hky_245]; decide)) (by rw [hk_h0]; decide)
            have hL0d_249 : yAg S [70, 71] d_1 d_249 := by rw [ed_249]; exact yAg.cs hL0d_243 (by rw [hky_245]; decide)
            have hK0d_249 : yK [] d_1 d_249 h0 := yK.ag hK0d_243 (show yAg S [71] d_243 d_249 from by rw [ed_249]; exact yAg.cs yAg.rf (by rw [hky_245]; decide)) (by rw [hk_h0]; decide)
            have hId_249 : yMI S d_249 h0 := yMI.ag hId_243 hSh hm_h0 hk_h0 (show yAg S [71] d_243 d_249 from by rw [ed_249]; exact yAg.cs yAg.rf (by rw [hky_245]; decide)) (yK.ag (F := []) yK.rf (show yAg S [71] d_243 d_249 from by rw [ed_249]; exact yAg.cs yAg.rf (by rw [hky_245]; decide)) (by rw [hk_h0]; decide)) (by decide) (by decide)
            have hE0d_249 : (d_249.1 h0 0).toInt = (d_243.1 h0 0).toInt := congrArg Int32.toInt ((yK.ag (F := []) yK.rf (show yAg S [71] d_243 d_249 from by rw [ed_249]; exact yAg.cs yAg.rf (by rw [hky_245]; decide)) (by rw [hk_h0]; decide)) 0 (by decide))
            have hE1d_249 : (d_249.1 h0 1).toInt = (d_243.1 h0 1).toInt := congrArg Int32.toInt ((yK.ag (F := []) yK.rf (show yAg S [71] d_243 d_249 from by rw [ed_249]; exact yAg.cs yAg.rf (by rw [hky_245]; decide)) (by rw [hk_h0]; decide)) 1 (by decide))
            have hE2d_249 : (d_249.1 h0 2).toInt = (d_243.1 h0 2).toInt := congrArg Int32.toInt ((yK.ag (F := []) yK.rf (show yAg S [71] d_243 d_249 from by rw [ed_249]; exact yAg.cs yAg.rf (by rw [hky_245]; decide)) (by rw [hk_h0]; decide)) 2 (by decide))
            have hE3d_249 : (d_249.1 h0 3).toInt = (d_243.1 h0 3).toInt := congrArg Int32.toInt ((yK.ag (F := []) yK.rf (show yAg S [71] d_243 d_249 from by rw [ed_249]; exact yAg.cs yAg.rf (by rw [hky_245]; decide)) (by rw [hk_h0]; decide)) 3 (by decide))
            have hE63d_249 : (d_249.1 h0 63).toInt = (d_243.1 h0 63).toInt := congrArg Int32.toInt ((yK.ag (F := []) yK.rf (show yAg S [71] d_243 d_249 from by rw [ed_249]; exact yAg.cs yAg.rf (by rw [hky_245]; decide)) (by rw [hk_h0]; decide)) 63 (by decide))
            refine lv_iinc (v := v_22 + 1) (lv' := [(7, .int (v_22 + 1)), (8, .int v_23), (0, .ref h0), (1, .int p0), (2, .int p1), (3, .int p2), (4, .int p3), (5, .int p4)]) hx hb dX9_copy_122 hl (k := 1) rfl rfl (by decide) rfl (fun ls hl => ?_)
            refine lv_iinc (v := v_23 + 1) (lv' := [(8, .int (v_23 + 1)), (7, .int (v_22 + 1)), (0, .ref h0), (1, .int p0), (2, .int p1), (3, .int p2), (4, .int p3), (5, .int p4)]) hx hb dX9_copy_125 hl (k := 1) rfl rfl (by decide) rfl (fun ls hl => ?_)
            refine lv_goto (tgt := 71) hx hb dX9_copy_128 (by decide) ?_
            have hCC_252 := yMI.c hId_249
            have T_253 : ((v_22 + 1) : Int32).toInt = (v_22 : Int32).toInt + 1 := tadd rfl (rfl : (v_22 : Int32).toInt = (v_22 : Int32).toInt) (by decide +kernel : (1 : Int32).toInt = 1) (by omega) (by omega)
            have T_254 : ((v_23 + 1) : Int32).toInt = (v_23 : Int32).toInt + 1 := tadd rfl (rfl : (v_23 : Int32).toInt = (v_23 : Int32).toInt) (by decide +kernel : (1 : Int32).toInt = 1) (by omega) (by omega)
            exact hnext_25 (v_22 + 1, v_23 + 1, d_249) _ _ ls (xup c_28) ⟨hP, hD, hS, hgd_249, hPod_249, hfd_249, hId_249, hL0d_249, hK0d_249, (show (0 ≤ (((v_22 + 1)) : Int32).toInt ∧ (((v_22 + 1)) : Int32).toInt ≤ (((v_23 + 1)) : Int32).toInt ∧ (((v_23 + 1)) : Int32).toInt ≤ 5000) from by have hq0_ : (0 : Int32).toInt = 0 := (by decide +kernel); omega), lv_sub hl [0, 1, 2, 3, 4, 5, 6, 7] rfl⟩
          · refine lv_goto (tgt := 125) hx hb dX9_copy_91 (by decide) ?_
            refine lv_iinc (v := v_23 + 1) (lv' := [(8, .int (v_23 + 1)), (7, .int v_22), (0, .ref h0), (1, .int p0), (2, .int p1), (3, .int p2), (4, .int p3), (5, .int p4)]) hx hb dX9_copy_125 hl (k := 0) rfl rfl (by decide) rfl (fun ls hl => ?_)
            refine lv_goto (tgt := 71) hx hb dX9_copy_128 (by decide) ?_
            have F_257 := fne (rfl : (z_236 : Int32).toInt = (z_236 : Int32).toInt) (rfl : (p2 : Int32).toInt = (p2 : Int32).toInt) c_237
            have T_258 : ((v_23 + 1) : Int32).toInt = (v_23 : Int32).toInt + 1 := tadd rfl (rfl : (v_23 : Int32).toInt = (v_23 : Int32).toInt) (by decide +kernel : (1 : Int32).toInt = 1) (by omega) (by omega)
            exact hnext_25 (v_22, v_23 + 1, d_24) _ _ ls (xup c_28) ⟨hP, hD, hS, hgd_24, hPod_24, hfd_24, hId_24, hLJd_24, hKJd_24, (show (0 ≤ ((v_22) : Int32).toInt ∧ ((v_22) : Int32).toInt ≤ (((v_23 + 1)) : Int32).toInt ∧ (((v_23 + 1)) : Int32).toInt ≤ 5000) from by have hq0_ : (0 : Int32).toInt = 0 := (by decide +kernel); omega), lv_sub hl [0, 1, 2, 3, 4, 5, 6, 7] rfl⟩
      · refine lv_aload_n hx hb dX9_copy_58 rfl (lv_at hl 1 rfl) ?_
        refine lv_iload hx hb dX9_copy_59 (lv_at hl 0 rfl) ?_
        have F_259 := fne (rfl : (r_18 : Int32).toInt = (r_18 : Int32).toInt) (by decide +kernel : (0 : Int32).toInt = 0) c_19
        refine yVwi (As := [.int r_18]) (rest := []) C0 (g_X9_no l G S d_1 h0 r_18 hSh hPod_1 hm_h0 hk_h0 (by refine ⟨?_, ?_⟩ <;> omega)) ok_X9_no (mW177 : Cond.methodLink RX9 168 yX9_no ∈ wsT) ⟨Nat.le_of_ble_eq_true rfl, Nat.le_of_ble_eq_true rfl⟩ hP hD hS hA hK hN hm_h0 hk_h0 (by decide) rfl rfl rfl hl.1 rfl (Nat.le_of_ble_eq_true rfl) ⟨Nat.le_of_ble_eq_true rfl, Nat.le_of_ble_eq_true rfl⟩ dX9_copy_61 (fun r_260 d_261 H locs hr_260 hP hD hS => ?_)
        obtain ⟨hgad_261, hpad_261, hfad_261, hxd_261⟩ := hr_260
        have hfd_261 : yK [1, 38] d d_261 h0 := yK.tr hfd_1 hfad_261 (by decide)
        have hE0d_261 : (d_261.1 h0 0).toInt = (d_1.1 h0 0).toInt := congrArg Int32.toInt (hfad_261 0 (by decide))
        have hE1d_261 : (d_261.1 h0 1).toInt = (d_1.1 h0 1).toInt := congrArg Int32.toInt (hfad_261 1 (by decide))
        have hE2d_261 : (d_261.1 h0 2).toInt = (d_1.1 h0 2).toInt := congrArg Int32.toInt (hfad_261 2 (by decide))
        have hE3d_261 : (d_261.1 h0 3).toInt = (d_1.1 h0 3).toInt := congrArg Int32.toInt (hfad_261 3 (by decide))
        have hE63d_261 : (d_261.1 h0 63).toInt = (d_1.1 h0 63).toInt := congrArg Int32.toInt (hfad_261 63 (by decide))
        have hId_261 : yMI S d_261 h0 := yMI.ag hId_1 hSh hm_h0 hk_h0 hgad_261 hfad_261 (by decide) (by decide)
        have hgd_261 : yAg S [9, 42, 43, 45, 46, 47, 69, 70, 71, 72, 73] d d_261 := yAg.tr hgd_1 hgad_261 (by first | decide | exact fun _ h => h)
        have hPod_261 : yPo S d_261 := hpad_261 hPod_1
        exact W.iret (v := r_260) hx hb hr (fun t ht hW => ⟨⟨r_260, d_261, rfl, ⟨hgd_261, (fun _ => hPod_261), hfd_261, hId_261⟩, by rw [ht]; exact hP, hD⟩, hS.F ht⟩) hS.2.2 dX9_copy_64
    · refine lv_iconst (v := 1) hx hb dX9_copy_17 (by decide) ?_
      refine lv_goto (tgt := 22) hx hb dX9_copy_18 (by decide) ?_
      refine lv_istore (lv' := [(6, .int 1), (0, .ref h0), (1, .int p0), (2, .int p1), (3, .int p2), (4, .int p3), (5, .int p4)]) hx hb dX9_copy_22 hl (by decide) rfl (fun ls hl => ?_)
      refine lv_aload_n hx hb dX9_copy_24 rfl (lv_at hl 1 rfl) ?_
      refine lv_iload hx hb dX9_copy_25 (lv_at hl 0 rfl) ?_
      refine lv_aload_n hx hb dX9_copy_27 rfl (lv_at hl 1 rfl) ?_
      refine lv_iload_n hx hb dX9_copy_28 rfl (lv_at hl 2 rfl) ?_
      refine lv_iload_n hx hb dX9_copy_29 rfl (lv_at hl 3 rfl) ?_
      refine yVri (As := [.int p0, .int p1]) (rest := [.int 1, .ref h0]) C0 (g_X9_dayWhy l G S d_1 h0 p0 p1 hSh hm_h0 hk_h0 hId_1) ok_X9_dayWhy (mW450 : Cond.methodLink RX9 206 yX9_dayWhy ∈ wsT) ⟨Nat.le_of_ble_eq_true rfl, Nat.le_of_ble_eq_true rfl⟩ hP hD hK hN hm_h0 hk_h0 (by decide) rfl rfl rfl hl.1 rfl (Nat.le_of_ble_eq_true rfl) ⟨Nat.le_of_ble_eq_true rfl, Nat.le_of_ble_eq_true rfl⟩ dX9_copy_30 (fun r_262 hr_262 => ?_)
      have F_263 := fnlt (rfl : (p4 : Int32).toInt = (p4 : Int32).toInt) (by decide +kernel : (0 : Int32).toInt = 0) c_2
      have F_264 := fnle (rfl : (p4 : Int32).toInt = (p4 : Int32).toInt) (by decide +kernel : (90 : Int32).toInt = 90) c_12
      refine yVri (As := [.int 1, .int r_262]) (rest := []) C0 (g_X9_lesser l G S d_1 h0 1 r_262 hSh hm_h0 hk_h0 (by decide +kernel) (by refine ⟨?_, ?_⟩ <;> omega)) ok_X9_lesser (mW489 : Cond.methodLink RX9 209 yX9_lesser ∈ wsT) ⟨Nat.le_of_ble_eq_true rfl, Nat.le_of_ble_eq_true rfl⟩ hP hD hK hN hm_h0 hk_h0 (by decide) rfl rfl rfl hl.1 rfl (Nat.le_of_ble_eq_true rfl) ⟨Nat.le_of_ble_eq_true rfl, Nat.le_of_ble_eq_true rfl⟩ dX9_copy_33 (fun r_265 hr_265 => ?_)
      refine lv_istore (lv' := [(6, .int r_265), (0, .ref h0), (1, .int p0), (2, .int p1), (3, .int p2), (4, .int p3), (5, .int p4)]) hx hb dX9_copy_36 hl (by decide) rfl (fun ls hl => ?_)
      refine lv_aload_n hx hb dX9_copy_38 rfl (lv_at hl 1 rfl) ?_
      refine lv_iload hx hb dX9_copy_39 (lv_at hl 0 rfl) ?_
      refine lv_aload_n hx hb dX9_copy_41 rfl (lv_at hl 1 rfl) ?_
      refine lv_iload_n hx hb dX9_copy_42 rfl (lv_at hl 4 rfl) ?_
      refine lv_iload hx hb dX9_copy_43 (lv_at hl 5 rfl) ?_
      refine yVri (As := [.int p2, .int p3]) (rest := [.int r_265, .ref h0]) C0 (g_X9_dayWhy l G S d_1 h0 p2 p3 hSh hm_h0 hk_h0 hId_1) ok_X9_dayWhy (mW450 : Cond.methodLink RX9 206 yX9_dayWhy ∈ wsT) ⟨Nat.le_of_ble_eq_true rfl, Nat.le_of_ble_eq_true rfl⟩ hP hD hK hN hm_h0 hk_h0 (by decide) rfl rfl rfl hl.1 rfl (Nat.le_of_ble_eq_true rfl) ⟨Nat.le_of_ble_eq_true rfl, Nat.le_of_ble_eq_true rfl⟩ dX9_copy_45 (fun r_266 hr_266 => ?_)
      refine yVri (As := [.int r_265, .int r_266]) (rest := []) C0 (g_X9_lesser l G S d_1 h0 r_265 r_266 hSh hm_h0 hk_h0 (by refine ⟨?_, ?_⟩ <;> omega) (by refine ⟨?_, ?_⟩ <;> omega)) ok_X9_lesser (mW489 : Cond.methodLink RX9 209 yX9_lesser ∈ wsT) ⟨Nat.le_of_ble_eq_true rfl, Nat.le_of_ble_eq_true rfl⟩ hP hD hK hN hm_h0 hk_h0 (by decide) rfl rfl rfl hl.1 rfl (Nat.le_of_ble_eq_true rfl) ⟨Nat.le_of_ble_eq_true rfl, Nat.le_of_ble_eq_true rfl⟩ dX9_copy_48 (fun r_267 hr_267 => ?_)
      refine lv_istore (lv' := [(6, .int r_267), (0, .ref h0), (1, .int p0), (2, .int p1), (3, .int p2), (4, .int p3), (5, .int p4)]) hx hb dX9_copy_51 hl (by decide) rfl (fun ls hl => ?_)
      refine lv_iload hx hb dX9_copy_53 (lv_at hl 0 rfl) ?_
      refine lv_if_eq (tgt := 65) hx hb dX9_copy_55 (by decide) (fun c_268 => (by exfalso; have q1 := (hr_267.2.2 (by rw [c_268]; decide +kernel)).1; have q2 := (hr_265.2.2 q1).1; exact absurd q2 (by decide +kernel))) (fun c_268 => ?_)
      refine lv_aload_n hx hb dX9_copy_58 rfl (lv_at hl 1 rfl) ?_
      refine lv_iload hx hb dX9_copy_59 (lv_at hl 0 rfl) ?_
      have F_269 := fne (rfl : (r_267 : Int32).toInt = (r_267 : Int32).toInt) (by decide +kernel : (0 : Int32).toInt = 0) c_268
      refine yVwi (As := [.int r_267]) (rest := []) C0 (g_X9_no l G S d_1 h0 r_267 hSh hPod_1 hm_h0 hk_h0 (by refine ⟨?_, ?_⟩ <;> omega)) ok_X9_no (mW177 : Cond.methodLink RX9 168 yX9_no ∈ wsT) ⟨Nat.le_of_ble_eq_true rfl, Nat.le_of_ble_eq_true rfl⟩ hP hD hS hA hK hN hm_h0 hk_h0 (by decide) rfl rfl rfl hl.1 rfl (Nat.le_of_ble_eq_true rfl) ⟨Nat.le_of_ble_eq_true rfl, Nat.le_of_ble_eq_true rfl⟩ dX9_copy_61 (fun r_270 d_271 H locs hr_270 hP hD hS => ?_)
      obtain ⟨hgad_271, hpad_271, hfad_271, hxd_271⟩ := hr_270
      have hfd_271 : yK [1, 38] d d_271 h0 := yK.tr hfd_1 hfad_271 (by decide)
      have hE0d_271 : (d_271.1 h0 0).toInt = (d_1.1 h0 0).toInt := congrArg Int32.toInt (hfad_271 0 (by decide))
      have hE1d_271 : (d_271.1 h0 1).toInt = (d_1.1 h0 1).toInt := congrArg Int32.toInt (hfad_271 1 (by decide))
      have hE2d_271 : (d_271.1 h0 2).toInt = (d_1.1 h0 2).toInt := congrArg Int32.toInt (hfad_271 2 (by decide))
      have hE3d_271 : (d_271.1 h0 3).toInt = (d_1.1 h0 3).toInt := congrArg Int32.toInt (hfad_271 3 (by decide))
      have hE63d_271 : (d_271.1 h0 63).toInt = (d_1.1 h0 63).toInt := congrArg Int32.toInt (hfad_271 63 (by decide))
      have hId_271 : yMI S d_271 h0 := yMI.ag hId_1 hSh hm_h0 hk_h0 hgad_271 hfad_271 (by decide) (by decide)
      have hgd_271 : yAg S [9, 42, 43, 45, 46, 47, 69, 70, 71, 72, 73] d d_271 := yAg.tr hgd_1 hgad_271 (by first | decide | exact fun _ h => h)
      have hPod_271 : yPo S d_271 := hpad_271 hPod_1
      exact W.iret (v := r_270) hx hb hr (fun t ht hW => ⟨⟨r_270, d_271, rfl, ⟨hgd_271, (fun _ => hPod_271), hfd_271, hId_271⟩, by rw [ht]; exact hP, hD⟩, hS.F ht⟩) hS.2.2 dX9_copy_64
