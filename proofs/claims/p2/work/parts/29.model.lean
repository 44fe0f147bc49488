theorem dX9_step_0 : decode cX9_step 0 = .ok (.aload_n 0, 1) := by decide +kernel
theorem dX9_step_1 : decode cX9_step 1 = .ok (.getfield 144, 3) := by decide +kernel
theorem dX9_step_4 : decode cX9_step 4 = .ok (.iload_n 1, 1) := by decide +kernel
theorem dX9_step_5 : decode cX9_step 5 = .ok (.iaload, 1) := by decide +kernel
theorem dX9_step_6 : decode cX9_step 6 = .ok (.aload_n 0, 1) := by decide +kernel
theorem dX9_step_7 : decode cX9_step 7 = .ok (.getfield 180, 3) := by decide +kernel
theorem dX9_step_10 : decode cX9_step 10 = .ok (.if_icmp .ge 118, 3) := by decide +kernel
theorem dX9_step_13 : decode cX9_step 13 = .ok (.aload_n 0, 1) := by decide +kernel
theorem dX9_step_14 : decode cX9_step 14 = .ok (.getfield 51, 3) := by decide +kernel
theorem dX9_step_17 : decode cX9_step 17 = .ok (.aload_n 0, 1) := by decide +kernel
theorem dX9_step_18 : decode cX9_step 18 = .ok (.getfield 144, 3) := by decide +kernel
theorem dX9_step_21 : decode cX9_step 21 = .ok (.iload_n 1, 1) := by decide +kernel
theorem dX9_step_22 : decode cX9_step 22 = .ok (.iaload, 1) := by decide +kernel
theorem dX9_step_23 : decode cX9_step 23 = .ok (.baload, 1) := by decide +kernel
theorem dX9_step_24 : decode cX9_step 24 = .ok (.iload_n 1, 1) := by decide +kernel
theorem dX9_step_25 : decode cX9_step 25 = .ok (.if_icmp .lt 33, 3) := by decide +kernel
theorem dX9_step_28 : decode cX9_step 28 = .ok (.aload_n 0, 1) := by decide +kernel
theorem dX9_step_29 : decode cX9_step 29 = .ok (.getfield 51, 3) := by decide +kernel
theorem dX9_step_32 : decode cX9_step 32 = .ok (.aload_n 0, 1) := by decide +kernel
theorem dX9_step_33 : decode cX9_step 33 = .ok (.getfield 144, 3) := by decide +kernel
theorem dX9_step_36 : decode cX9_step 36 = .ok (.iload_n 1, 1) := by decide +kernel
theorem dX9_step_37 : decode cX9_step 37 = .ok (.iaload, 1) := by decide +kernel
theorem dX9_step_38 : decode cX9_step 38 = .ok (.baload, 1) := by decide +kernel
theorem dX9_step_39 : decode cX9_step 39 = .ok (.iload_n 1, 1) := by decide +kernel
theorem dX9_step_40 : decode cX9_step 40 = .ok (.if_icmp .ne 88, 3) := by decide +kernel
theorem dX9_step_43 : decode cX9_step 43 = .ok (.aload_n 0, 1) := by decide +kernel
theorem dX9_step_44 : decode cX9_step 44 = .ok (.getfield 54, 3) := by decide +kernel
theorem dX9_step_47 : decode cX9_step 47 = .ok (.aload_n 0, 1) := by decide +kernel
theorem dX9_step_48 : decode cX9_step 48 = .ok (.getfield 144, 3) := by decide +kernel
theorem dX9_step_51 : decode cX9_step 51 = .ok (.iload_n 1, 1) := by decide +kernel
theorem dX9_step_52 : decode cX9_step 52 = .ok (.iaload, 1) := by decide +kernel
theorem dX9_step_53 : decode cX9_step 53 = .ok (.iaload, 1) := by decide +kernel
theorem dX9_step_54 : decode cX9_step 54 = .ok (.iload_n 2, 1) := by decide +kernel
theorem dX9_step_55 : decode cX9_step 55 = .ok (.if_icmp .gt 73, 3) := by decide +kernel
theorem dX9_step_58 : decode cX9_step 58 = .ok (.aload_n 0, 1) := by decide +kernel
theorem dX9_step_59 : decode cX9_step 59 = .ok (.getfield 144, 3) := by decide +kernel
theorem dX9_step_62 : decode cX9_step 62 = .ok (.iload_n 1, 1) := by decide +kernel
theorem dX9_step_63 : decode cX9_step 63 = .ok (.iaload, 1) := by decide +kernel
theorem dX9_step_64 : decode cX9_step 64 = .ok (.istore 9, 2) := by decide +kernel
theorem dX9_step_66 : decode cX9_step 66 = .ok (.aload_n 0, 1) := by decide +kernel
theorem dX9_step_67 : decode cX9_step 67 = .ok (.getfield 51, 3) := by decide +kernel
theorem dX9_step_70 : decode cX9_step 70 = .ok (.iload 9, 2) := by decide +kernel
theorem dX9_step_72 : decode cX9_step 72 = .ok (.baload, 1) := by decide +kernel
theorem dX9_step_73 : decode cX9_step 73 = .ok (.iload_n 1, 1) := by decide +kernel
theorem dX9_step_74 : decode cX9_step 74 = .ok (.if_icmp .ne 41, 3) := by decide +kernel
theorem dX9_step_77 : decode cX9_step 77 = .ok (.aload_n 0, 1) := by decide +kernel
theorem dX9_step_78 : decode cX9_step 78 = .ok (.getfield 57, 3) := by decide +kernel
theorem dX9_step_81 : decode cX9_step 81 = .ok (.iload 9, 2) := by decide +kernel
theorem dX9_step_83 : decode cX9_step 83 = .ok (.baload, 1) := by decide +kernel
theorem dX9_step_84 : decode cX9_step 84 = .ok (.iconst 3, 1) := by decide +kernel
theorem dX9_step_85 : decode cX9_step 85 = .ok (.if_icmp .lt 30, 3) := by decide +kernel
theorem dX9_step_88 : decode cX9_step 88 = .ok (.aload_n 0, 1) := by decide +kernel
theorem dX9_step_89 : decode cX9_step 89 = .ok (.getfield 57, 3) := by decide +kernel
theorem dX9_step_92 : decode cX9_step 92 = .ok (.iload 9, 2) := by decide +kernel
theorem dX9_step_94 : decode cX9_step 94 = .ok (.baload, 1) := by decide +kernel
theorem dX9_step_95 : decode cX9_step 95 = .ok (.bipush 6, 2) := by decide +kernel
theorem dX9_step_97 : decode cX9_step 97 = .ok (.if_icmp .gt 18, 3) := by decide +kernel
theorem dX9_step_100 : decode cX9_step 100 = .ok (.aload_n 0, 1) := by decide +kernel
theorem dX9_step_101 : decode cX9_step 101 = .ok (.getfield 141, 3) := by decide +kernel
theorem dX9_step_104 : decode cX9_step 104 = .ok (.iload_n 1, 1) := by decide +kernel
theorem dX9_step_105 : decode cX9_step 105 = .ok (.aload_n 0, 1) := by decide +kernel
theorem dX9_step_106 : decode cX9_step 106 = .ok (.getfield 57, 3) := by decide +kernel
theorem dX9_step_109 : decode cX9_step 109 = .ok (.iload 9, 2) := by decide +kernel
theorem dX9_step_111 : decode cX9_step 111 = .ok (.baload, 1) := by decide +kernel
theorem dX9_step_112 : decode cX9_step 112 = .ok (.iconst 2, 1) := by decide +kernel
theorem dX9_step_113 : decode cX9_step 113 = .ok (.isub, 1) := by decide +kernel
theorem dX9_step_114 : decode cX9_step 114 = .ok (.iastore, 1) := by decide +kernel
theorem dX9_step_115 : decode cX9_step 115 = .ok (.aload_n 0, 1) := by decide +kernel
theorem dX9_step_116 : decode cX9_step 116 = .ok (.getfield 144, 3) := by decide +kernel
theorem dX9_step_119 : decode cX9_step 119 = .ok (.iload_n 1, 1) := by decide +kernel
theorem dX9_step_120 : decode cX9_step 120 = .ok (.dup2, 1) := by decide +kernel
theorem dX9_step_121 : decode cX9_step 121 = .ok (.iaload, 1) := by decide +kernel
theorem dX9_step_122 : decode cX9_step 122 = .ok (.iconst 1, 1) := by decide +kernel
theorem dX9_step_123 : decode cX9_step 123 = .ok (.iadd, 1) := by decide +kernel
theorem dX9_step_124 : decode cX9_step 124 = .ok (.iastore, 1) := by decide +kernel
theorem dX9_step_125 : decode cX9_step 125 = .ok (.goto (-125), 3) := by decide +kernel
theorem dX9_step_128 : decode cX9_step 128 = .ok (.bipush (-3), 2) := by decide +kernel
theorem dX9_step_130 : decode cX9_step 130 = .ok (.istore 9, 2) := by decide +kernel
theorem dX9_step_132 : decode cX9_step 132 = .ok (.iload 5, 2) := by decide +kernel
theorem dX9_step_134 : decode cX9_step 134 = .ok (.ifCond .eq 7, 3) := by decide +kernel
theorem dX9_step_137 : decode cX9_step 137 = .ok (.iconst 2, 1) := by decide +kernel
theorem dX9_step_138 : decode cX9_step 138 = .ok (.goto 4, 3) := by decide +kernel
theorem dX9_step_141 : decode cX9_step 141 = .ok (.iconst 0, 1) := by decide +kernel
theorem dX9_step_142 : decode cX9_step 142 = .ok (.istore 10, 2) := by decide +kernel
theorem dX9_step_144 : decode cX9_step 144 = .ok (.aload_n 0, 1) := by decide +kernel
theorem dX9_step_145 : decode cX9_step 145 = .ok (.iload_n 1, 1) := by decide +kernel
theorem dX9_step_146 : decode cX9_step 146 = .ok (.iload_n 2, 1) := by decide +kernel
theorem dX9_step_147 : decode cX9_step 147 = .ok (.invokevirtual 198, 3) := by decide +kernel
theorem dX9_step_150 : decode cX9_step 150 = .ok (.ifCond .eq 102, 3) := by decide +kernel
theorem dX9_step_153 : decode cX9_step 153 = .ok (.aload_n 0, 1) := by decide +kernel
theorem dX9_step_154 : decode cX9_step 154 = .ok (.iload_n 1, 1) := by decide +kernel
theorem dX9_step_155 : decode cX9_step 155 = .ok (.iload_n 2, 1) := by decide +kernel
theorem dX9_step_156 : decode cX9_step 156 = .ok (.aload_n 0, 1) := by decide +kernel
theorem dX9_step_157 : decode cX9_step 157 = .ok (.getfield 141, 3) := by decide +kernel
theorem dX9_step_160 : decode cX9_step 160 = .ok (.iload_n 1, 1) := by decide +kernel
theorem dX9_step_161 : decode cX9_step 161 = .ok (.iaload, 1) := by decide +kernel
theorem dX9_step_162 : decode cX9_step 162 = .ok (.aload_n 0, 1) := by decide +kernel
theorem dX9_step_163 : decode cX9_step 163 = .ok (.getfield 247, 3) := by decide +kernel
theorem dX9_step_166 : decode cX9_step 166 = .ok (.aload_n 0, 1) := by decide +kernel
theorem dX9_step_167 : decode cX9_step 167 = .ok (.getfield 251, 3) := by decide +kernel
theorem dX9_step_170 : decode cX9_step 170 = .ok (.lcmp, 1) := by decide +kernel
theorem dX9_step_171 : decode cX9_step 171 = .ok (.ifCond .lt 7, 3) := by decide +kernel
theorem dX9_step_174 : decode cX9_step 174 = .ok (.iconst 1, 1) := by decide +kernel
theorem dX9_step_175 : decode cX9_step 175 = .ok (.goto 4, 3) := by decide +kernel
theorem dX9_step_178 : decode cX9_step 178 = .ok (.iconst 0, 1) := by decide +kernel
theorem dX9_step_179 : decode cX9_step 179 = .ok (.iload 6, 2) := by decide +kernel
theorem dX9_step_181 : decode cX9_step 181 = .ok (.iload 7, 2) := by decide +kernel
theorem dX9_step_183 : decode cX9_step 183 = .ok (.iload 8, 2) := by decide +kernel
theorem dX9_step_185 : decode cX9_step 185 = .ok (.invokevirtual 298, 3) := by decide +kernel
theorem dX9_step_188 : decode cX9_step 188 = .ok (.istore 9, 2) := by decide +kernel
theorem dX9_step_190 : decode cX9_step 190 = .ok (.aload_n 0, 1) := by decide +kernel
theorem dX9_step_191 : decode cX9_step 191 = .ok (.iload_n 1, 1) := by decide +kernel
theorem dX9_step_192 : decode cX9_step 192 = .ok (.iconst 1, 1) := by decide +kernel
theorem dX9_step_193 : decode cX9_step 193 = .ok (.invokevirtual 161, 3) := by decide +kernel
theorem dX9_step_196 : decode cX9_step 196 = .ok (.iload 8, 2) := by decide +kernel
theorem dX9_step_198 : decode cX9_step 198 = .ok (.if_icmp .ne 15, 3) := by decide +kernel
theorem dX9_step_201 : decode cX9_step 201 = .ok (.iload 9, 2) := by decide +kernel
theorem dX9_step_203 : decode cX9_step 203 = .ok (.iload 6, 2) := by decide +kernel
theorem dX9_step_205 : decode cX9_step 205 = .ok (.if_icmp .ne 8, 3) := by decide +kernel
theorem dX9_step_208 : decode cX9_step 208 = .ok (.iload 7, 2) := by decide +kernel
theorem dX9_step_210 : decode cX9_step 210 = .ok (.goto 5, 3) := by decide +kernel
theorem dX9_step_213 : decode cX9_step 213 = .ok (.iload 9, 2) := by decide +kernel
theorem dX9_step_215 : decode cX9_step 215 = .ok (.istore 11, 2) := by decide +kernel
theorem dX9_step_217 : decode cX9_step 217 = .ok (.iload 9, 2) := by decide +kernel
theorem dX9_step_219 : decode cX9_step 219 = .ok (.bipush (-2), 2) := by decide +kernel
theorem dX9_step_221 : decode cX9_step 221 = .ok (.if_icmp .ne 7, 3) := by decide +kernel
theorem dX9_step_224 : decode cX9_step 224 = .ok (.iconst 2, 1) := by decide +kernel
theorem dX9_step_225 : decode cX9_step 225 = .ok (.goto 25, 3) := by decide +kernel
theorem dX9_step_228 : decode cX9_step 228 = .ok (.aload_n 0, 1) := by decide +kernel
theorem dX9_step_229 : decode cX9_step 229 = .ok (.bipush 60, 2) := by decide +kernel
theorem dX9_step_231 : decode cX9_step 231 = .ok (.aload_n 0, 1) := by decide +kernel
theorem dX9_step_232 : decode cX9_step 232 = .ok (.iload_n 1, 1) := by decide +kernel
theorem dX9_step_233 : decode cX9_step 233 = .ok (.iconst 1, 1) := by decide +kernel
theorem dX9_step_234 : decode cX9_step 234 = .ok (.invokevirtual 161, 3) := by decide +kernel
theorem dX9_step_237 : decode cX9_step 237 = .ok (.imul, 1) := by decide +kernel
theorem dX9_step_238 : decode cX9_step 238 = .ok (.iload 11, 2) := by decide +kernel
theorem dX9_step_240 : decode cX9_step 240 = .ok (.iadd, 1) := by decide +kernel
theorem dX9_step_241 : decode cX9_step 241 = .ok (.aload_n 0, 1) := by decide +kernel
theorem dX9_step_242 : decode cX9_step 242 = .ok (.getfield 141, 3) := by decide +kernel
theorem dX9_step_245 : decode cX9_step 245 = .ok (.iload_n 1, 1) := by decide +kernel
theorem dX9_step_246 : decode cX9_step 246 = .ok (.iaload, 1) := by decide +kernel
theorem dX9_step_247 : decode cX9_step 247 = .ok (.invokevirtual 302, 3) := by decide +kernel
theorem dX9_step_250 : decode cX9_step 250 = .ok (.istore 10, 2) := by decide +kernel
theorem dX9_step_252 : decode cX9_step 252 = .ok (.aload_n 0, 1) := by decide +kernel
theorem dX9_step_253 : decode cX9_step 253 = .ok (.getfield 247, 3) := by decide +kernel
theorem dX9_step_256 : decode cX9_step 256 = .ok (.aload_n 0, 1) := by decide +kernel
theorem dX9_step_257 : decode cX9_step 257 = .ok (.getfield 251, 3) := by decide +kernel
theorem dX9_step_260 : decode cX9_step 260 = .ok (.lcmp, 1) := by decide +kernel
theorem dX9_step_261 : decode cX9_step 261 = .ok (.ifCond .ge 7, 3) := by decide +kernel
theorem dX9_step_264 : decode cX9_step 264 = .ok (.iconst 1, 1) := by decide +kernel
theorem dX9_step_265 : decode cX9_step 265 = .ok (.goto 4, 3) := by decide +kernel
theorem dX9_step_268 : decode cX9_step 268 = .ok (.iconst 0, 1) := by decide +kernel
theorem dX9_step_269 : decode cX9_step 269 = .ok (.istore 11, 2) := by decide +kernel
theorem dX9_step_271 : decode cX9_step 271 = .ok (.aload_n 0, 1) := by decide +kernel
theorem dX9_step_272 : decode cX9_step 272 = .ok (.dup, 1) := by decide +kernel
theorem dX9_step_273 : decode cX9_step 273 = .ok (.getfield 247, 3) := by decide +kernel
theorem dX9_step_276 : decode cX9_step 276 = .ok (.iload 10, 2) := by decide +kernel
theorem dX9_step_278 : decode cX9_step 278 = .ok (.i2l, 1) := by decide +kernel
theorem dX9_step_279 : decode cX9_step 279 = .ok (.ladd, 1) := by decide +kernel
theorem dX9_step_280 : decode cX9_step 280 = .ok (.putfield 247, 3) := by decide +kernel
theorem dX9_step_283 : decode cX9_step 283 = .ok (.aload_n 0, 1) := by decide +kernel
theorem dX9_step_284 : decode cX9_step 284 = .ok (.dup, 1) := by decide +kernel
theorem dX9_step_285 : decode cX9_step 285 = .ok (.getfield 254, 3) := by decide +kernel
theorem dX9_step_288 : decode cX9_step 288 = .ok (.lconst 1, 1) := by decide +kernel
theorem dX9_step_289 : decode cX9_step 289 = .ok (.ladd, 1) := by decide +kernel
theorem dX9_step_290 : decode cX9_step 290 = .ok (.putfield 254, 3) := by decide +kernel
theorem dX9_step_293 : decode cX9_step 293 = .ok (.iload 11, 2) := by decide +kernel
theorem dX9_step_295 : decode cX9_step 295 = .ok (.ifCond .eq 20, 3) := by decide +kernel
theorem dX9_step_298 : decode cX9_step 298 = .ok (.aload_n 0, 1) := by decide +kernel
theorem dX9_step_299 : decode cX9_step 299 = .ok (.getfield 247, 3) := by decide +kernel
theorem dX9_step_302 : decode cX9_step 302 = .ok (.aload_n 0, 1) := by decide +kernel
theorem dX9_step_303 : decode cX9_step 303 = .ok (.getfield 251, 3) := by decide +kernel
theorem dX9_step_306 : decode cX9_step 306 = .ok (.lcmp, 1) := by decide +kernel
theorem dX9_step_307 : decode cX9_step 307 = .ok (.ifCond .lt 8, 3) := by decide +kernel
theorem dX9_step_310 : decode cX9_step 310 = .ok (.aload_n 0, 1) := by decide +kernel
theorem dX9_step_311 : decode cX9_step 311 = .ok (.lload_n 3, 1) := by decide +kernel
theorem dX9_step_312 : decode cX9_step 312 = .ok (.putfield 257, 3) := by decide +kernel
theorem dX9_step_315 : decode cX9_step 315 = .ok (.iload_n 1, 1) := by decide +kernel
theorem dX9_step_316 : decode cX9_step 316 = .ok (.aload_n 0, 1) := by decide +kernel
theorem dX9_step_317 : decode cX9_step 317 = .ok (.getfield 305, 3) := by decide +kernel
theorem dX9_step_320 : decode cX9_step 320 = .ok (.if_icmp .eq 4, 3) := by decide +kernel
theorem dX9_step_323 : decode cX9_step 323 = .ok (.return_, 1) := by decide +kernel
theorem dX9_step_324 : decode cX9_step 324 = .ok (.aload_n 0, 1) := by decide +kernel
theorem dX9_step_325 : decode cX9_step 325 = .ok (.dup, 1) := by decide +kernel
theorem dX9_step_326 : decode cX9_step 326 = .ok (.getfield 275, 3) := by decide +kernel
theorem dX9_step_329 : decode cX9_step 329 = .ok (.iload 10, 2) := by decide +kernel
theorem dX9_step_331 : decode cX9_step 331 = .ok (.i2l, 1) := by decide +kernel
theorem dX9_step_332 : decode cX9_step 332 = .ok (.ladd, 1) := by decide +kernel
theorem dX9_step_333 : decode cX9_step 333 = .ok (.putfield 275, 3) := by decide +kernel
theorem dX9_step_336 : decode cX9_step 336 = .ok (.iload_n 2, 1) := by decide +kernel
theorem dX9_step_337 : decode cX9_step 337 = .ok (.aload_n 0, 1) := by decide +kernel
theorem dX9_step_338 : decode cX9_step 338 = .ok (.getfield 308, 3) := by decide +kernel
theorem dX9_step_341 : decode cX9_step 341 = .ok (.if_icmp .ne 26, 3) := by decide +kernel
theorem dX9_step_344 : decode cX9_step 344 = .ok (.aload_n 0, 1) := by decide +kernel
theorem dX9_step_345 : decode cX9_step 345 = .ok (.iload 9, 2) := by decide +kernel
theorem dX9_step_347 : decode cX9_step 347 = .ok (.putfield 263, 3) := by decide +kernel
theorem dX9_step_350 : decode cX9_step 350 = .ok (.aload_n 0, 1) := by decide +kernel
theorem dX9_step_351 : decode cX9_step 351 = .ok (.iload 9, 2) := by decide +kernel
theorem dX9_step_353 : decode cX9_step 353 = .ok (.bipush (-3), 2) := by decide +kernel
theorem dX9_step_355 : decode cX9_step 355 = .ok (.if_icmp .ne 7, 3) := by decide +kernel
theorem dX9_step_358 : decode cX9_step 358 = .ok (.iconst 3, 1) := by decide +kernel
theorem dX9_step_359 : decode cX9_step 359 = .ok (.goto 5, 3) := by decide +kernel
theorem dX9_step_362 : decode cX9_step 362 = .ok (.iload 10, 2) := by decide +kernel
theorem dX9_step_364 : decode cX9_step 364 = .ok (.putfield 266, 3) := by decide +kernel
theorem dX9_step_367 : decode cX9_step 367 = .ok (.iload_n 2, 1) := by decide +kernel
theorem dX9_step_368 : decode cX9_step 368 = .ok (.aload_n 0, 1) := by decide +kernel
theorem dX9_step_369 : decode cX9_step 369 = .ok (.getfield 311, 3) := by decide +kernel
theorem dX9_step_372 : decode cX9_step 372 = .ok (.if_icmp .lt 23, 3) := by decide +kernel
theorem dX9_step_375 : decode cX9_step 375 = .ok (.iload_n 2, 1) := by decide +kernel
theorem dX9_step_376 : decode cX9_step 376 = .ok (.aload_n 0, 1) := by decide +kernel
theorem dX9_step_377 : decode cX9_step 377 = .ok (.getfield 314, 3) := by decide +kernel
theorem dX9_step_380 : decode cX9_step 380 = .ok (.if_icmp .ge 15, 3) := by decide +kernel
theorem dX9_step_383 : decode cX9_step 383 = .ok (.aload_n 0, 1) := by decide +kernel
theorem dX9_step_384 : decode cX9_step 384 = .ok (.dup, 1) := by decide +kernel
theorem dX9_step_385 : decode cX9_step 385 = .ok (.getfield 269, 3) := by decide +kernel
theorem dX9_step_388 : decode cX9_step 388 = .ok (.iload 10, 2) := by decide +kernel
theorem dX9_step_390 : decode cX9_step 390 = .ok (.i2l, 1) := by decide +kernel
theorem dX9_step_391 : decode cX9_step 391 = .ok (.ladd, 1) := by decide +kernel
theorem dX9_step_392 : decode cX9_step 392 = .ok (.putfield 269, 3) := by decide +kernel
theorem dX9_step_395 : decode cX9_step 395 = .ok (.iload 9, 2) := by decide +kernel
theorem dX9_step_397 : decode cX9_step 397 = .ok (.aload_n 0, 1) := by decide +kernel
theorem dX9_step_398 : decode cX9_step 398 = .ok (.getfield 317, 3) := by decide +kernel
theorem dX9_step_401 : decode cX9_step 401 = .ok (.if_icmp .ne 13, 3) := by decide +kernel
theorem dX9_step_404 : decode cX9_step 404 = .ok (.aload_n 0, 1) := by decide +kernel
theorem dX9_step_405 : decode cX9_step 405 = .ok (.dup, 1) := by decide +kernel
theorem dX9_step_406 : decode cX9_step 406 = .ok (.getfield 272, 3) := by decide +kernel
theorem dX9_step_409 : decode cX9_step 409 = .ok (.iconst 1, 1) := by decide +kernel
theorem dX9_step_410 : decode cX9_step 410 = .ok (.iadd, 1) := by decide +kernel
theorem dX9_step_411 : decode cX9_step 411 = .ok (.putfield 272, 3) := by decide +kernel
theorem dX9_step_414 : decode cX9_step 414 = .ok (.aload_n 0, 1) := by decide +kernel
theorem dX9_step_415 : decode cX9_step 415 = .ok (.getfield 320, 3) := by decide +kernel
theorem dX9_step_418 : decode cX9_step 418 = .ok (.ifCond .ge 77, 3) := by decide +kernel
theorem dX9_step_421 : decode cX9_step 421 = .ok (.aload_n 0, 1) := by decide +kernel
theorem dX9_step_422 : decode cX9_step 422 = .ok (.getfield 323, 3) := by decide +kernel
theorem dX9_step_425 : decode cX9_step 425 = .ok (.aload_n 0, 1) := by decide +kernel
theorem dX9_step_426 : decode cX9_step 426 = .ok (.getfield 326, 3) := by decide +kernel
theorem dX9_step_429 : decode cX9_step 429 = .ok (.if_icmp .ge 66, 3) := by decide +kernel
theorem dX9_step_432 : decode cX9_step 432 = .ok (.aload_n 0, 1) := by decide +kernel
theorem dX9_step_433 : decode cX9_step 433 = .ok (.getfield 63, 3) := by decide +kernel
theorem dX9_step_436 : decode cX9_step 436 = .ok (.aload_n 0, 1) := by decide +kernel
theorem dX9_step_437 : decode cX9_step 437 = .ok (.getfield 323, 3) := by decide +kernel
theorem dX9_step_440 : decode cX9_step 440 = .ok (.baload, 1) := by decide +kernel
theorem dX9_step_441 : decode cX9_step 441 = .ok (.iload 9, 2) := by decide +kernel
theorem dX9_step_443 : decode cX9_step 443 = .ok (.if_icmp .eq 8, 3) := by decide +kernel
theorem dX9_step_446 : decode cX9_step 446 = .ok (.aload_n 0, 1) := by decide +kernel
theorem dX9_step_447 : decode cX9_step 447 = .ok (.iload_n 2, 1) := by decide +kernel
theorem dX9_step_448 : decode cX9_step 448 = .ok (.putfield 320, 3) := by decide +kernel
theorem dX9_step_451 : decode cX9_step 451 = .ok (.aload_n 0, 1) := by decide +kernel
theorem dX9_step_452 : decode cX9_step 452 = .ok (.dup, 1) := by decide +kernel
theorem dX9_step_453 : decode cX9_step 453 = .ok (.getfield 329, 3) := by decide +kernel
theorem dX9_step_456 : decode cX9_step 456 = .ok (.iconst 1, 1) := by decide +kernel
theorem dX9_step_457 : decode cX9_step 457 = .ok (.iadd, 1) := by decide +kernel
theorem dX9_step_458 : decode cX9_step 458 = .ok (.putfield 329, 3) := by decide +kernel
theorem dX9_step_461 : decode cX9_step 461 = .ok (.aload_n 0, 1) := by decide +kernel
theorem dX9_step_462 : decode cX9_step 462 = .ok (.getfield 329, 3) := by decide +kernel
theorem dX9_step_465 : decode cX9_step 465 = .ok (.aload_n 0, 1) := by decide +kernel
theorem dX9_step_466 : decode cX9_step 466 = .ok (.getfield 60, 3) := by decide +kernel
theorem dX9_step_469 : decode cX9_step 469 = .ok (.aload_n 0, 1) := by decide +kernel
theorem dX9_step_470 : decode cX9_step 470 = .ok (.getfield 323, 3) := by decide +kernel
theorem dX9_step_473 : decode cX9_step 473 = .ok (.iaload, 1) := by decide +kernel
theorem dX9_step_474 : decode cX9_step 474 = .ok (.if_icmp .ne 33, 3) := by decide +kernel
theorem dX9_step_477 : decode cX9_step 477 = .ok (.aload_n 0, 1) := by decide +kernel
theorem dX9_step_478 : decode cX9_step 478 = .ok (.dup, 1) := by decide +kernel
theorem dX9_step_479 : decode cX9_step 479 = .ok (.getfield 323, 3) := by decide +kernel
theorem dX9_step_482 : decode cX9_step 482 = .ok (.iconst 1, 1) := by decide +kernel
theorem dX9_step_483 : decode cX9_step 483 = .ok (.iadd, 1) := by decide +kernel
theorem dX9_step_484 : decode cX9_step 484 = .ok (.putfield 323, 3) := by decide +kernel
theorem dX9_step_487 : decode cX9_step 487 = .ok (.aload_n 0, 1) := by decide +kernel
theorem dX9_step_488 : decode cX9_step 488 = .ok (.iconst 0, 1) := by decide +kernel
theorem dX9_step_489 : decode cX9_step 489 = .ok (.putfield 329, 3) := by decide +kernel
theorem dX9_step_492 : decode cX9_step 492 = .ok (.goto 15, 3) := by decide +kernel
theorem dX9_step_495 : decode cX9_step 495 = .ok (.aload_n 0, 1) := by decide +kernel
theorem dX9_step_496 : decode cX9_step 496 = .ok (.getfield 320, 3) := by decide +kernel
theorem dX9_step_499 : decode cX9_step 499 = .ok (.ifCond .ge 8, 3) := by decide +kernel
theorem dX9_step_502 : decode cX9_step 502 = .ok (.aload_n 0, 1) := by decide +kernel
theorem dX9_step_503 : decode cX9_step 503 = .ok (.iload_n 2, 1) := by decide +kernel
theorem dX9_step_504 : decode cX9_step 504 = .ok (.putfield 320, 3) := by decide +kernel
theorem dX9_step_507 : decode cX9_step 507 = .ok (.return_, 1) := by decide +kernel
set_option maxHeartbeats 4000000 in
set_option maxRecDepth 100000 in
theorem g_X9_step (l : Launch) (G : xG) (S : yS) (d : yD) (h0 : Nat) (p0 : Int32) (p1 : Int32) (p2 : Int64) (p3 : Int32) (p4 : Int32) (p5 : Int32) (p6 : Int32) (hSh : ySh S) (hPo : yPo S d) (hm_h0 : h0 ∈ S.1) (hk_h0 : S.2.1 h0 = 9) (hI : yMI S d h0) (hr_p0 : 0 ≤ (p0 : Int32).toInt ∧ (p0 : Int32).toInt ≤ 7) (hr_p1 : -1 ≤ (p1 : Int32).toInt ∧ (p1 : Int32).toInt ≤ 129599) (hr_p5 : -1 ≤ (p5 : Int32).toInt ∧ (p5 : Int32).toInt ≤ 59) (hz_p3 : p3 = 0 ∨ p3 = 1) : xWv l G yX9_step cX9_step 12 none 3 88 0 0 [.ref h0, .int p0, .int p1, .long p2, .int p3, .int p4, .int p5, .int p6] (yW G S d) (fun u : yD => yAg S [9, 77, 78] d u ∧ (yPo S d → yPo S u) ∧ yK [54, 55, 57, 63, 64, 65] d u h0 ∧ (yMI S u h0)) (fun u => yW G S u) := by
  intro sz
  refine xstart (by decide) (Nat.le_of_ble_eq_true rfl) (fun p e s m args below meth c ls C0 hr hlocks hin hsz hP hK hD hN hl => ?_)
  obtain ⟨hx, hb, hml, hown, htl⟩ := id C0
  subst hsz
  have hD := hD.self (sz := s.heap.size)
  generalize hAe : va_A (yW G S d) s.heap.size = A at hD ⊢
  have hA : ∀ q : Nat, s.heap.size ≤ q → A q := fun q h => by rw [← hAe]; exact Or.inr h
  have hS : va_S A s.heap s.heap [] := va_S.rf
  have hg0 : yAg S [9, 77, 78] d d := yAg.rf
  have hl : lv_has ls 12 [(0, .ref h0), (1, .int p0), (2, .int p1), (3, .long p2), (5, .int p3), (6, .int p4), (7, .int p5), (8, .int p6)] := hl
  have hCC_1 := yMI.c hI
  refine yloop (σ := yD) (fun x => (5001 - (x.2.2.2.1 (S.2.2.1 h0 48) (p0 : Int32).toNatClampNeg).toInt).toNat) 0 (fun x H locs ls => va_P G.1 xcl (yW G S x) H ∧ va_D A (yW G S x) ∧ va_S A s.heap H locs ∧ yAg S [9, 77, 78] d x ∧ yPo S x ∧ yK [54, 55, 57, 63, 64, 65] d x h0 ∧ yMI S x h0 ∧ yAg S [77, 78] d x ∧ yK [] d x h0 ∧ (True) ∧ lv_has ls 12 [(0, .ref h0), (1, .int p0), (2, .int p1), (3, .long p2), (5, .int p3), (6, .int p4), (7, .int p5), (8, .int p6)]) (fun x H locs ls hI hnext_3 => ?_) d ⟨hP, hD, hS, hg0, hPo, yK.rf, hI, yAg.rf, yK.rf, (show (True) from by have hq0_ : (0 : Int32).toInt = 0 := (by decide +kernel); omega), lv_sub hl [0, 1, 2, 3, 4, 5, 6, 7] rfl⟩
  obtain ⟨d_2, rfl⟩ : ∃ z, z = x := ⟨_, rfl⟩
  obtain ⟨hP, hD, hS, hgd_2, hPod_2, hfd_2, hId_2, hLJd_2, hKJd_2, hex_4, hl⟩ := hI
  have hId_2 : yMI S d_2 h0 := hId_2
  have hex_4 : (True) := hex_4
  have hl : lv_has ls 12 [(0, .ref h0), (1, .int p0), (2, .int p1), (3, .long p2), (5, .int p3), (6, .int p4), (7, .int p5), (8, .int p6)] := hl
  have hLJd_2 : yAg S [77, 78] d d_2 := hLJd_2
  have hKJd_2 : yK [] d d_2 h0 := hKJd_2
  have hE0d_2 : (d_2.1 h0 0).toInt = (d.1 h0 0).toInt := congrArg Int32.toInt (hKJd_2 0 (by decide))
  have hE1d_2 : (d_2.1 h0 1).toInt = (d.1 h0 1).toInt := congrArg Int32.toInt (hKJd_2 1 (by decide))
  have hE2d_2 : (d_2.1 h0 2).toInt = (d.1 h0 2).toInt := congrArg Int32.toInt (hKJd_2 2 (by decide))
  have hE3d_2 : (d_2.1 h0 3).toInt = (d.1 h0 3).toInt := congrArg Int32.toInt (hKJd_2 3 (by decide))
  have hE63d_2 : (d_2.1 h0 63).toInt = (d.1 h0 63).toInt := congrArg Int32.toInt (hKJd_2 63 (by decide))
  refine lv_aload_n hx hb dX9_step_0 rfl (lv_at hl 0 rfl) ?_
  refine yget (ci := 9) (k := 48) (v := .ref (S.2.2.1 h0 48)) (C := RX9) (T := TX9) (N := 67) C0 hK hP hm_h0 hk_h0 (by decide) rfl inlX9 (by decide) mW153 (fun _ h9 => h9) rfl dX9_step_1 ?_
  obtain ⟨hmy_5, hky_5⟩ := ySh.f9_48 hSh _ hm_h0 hk_h0
  refine lv_iload_n hx hb dX9_step_4 rfl (lv_at hl 1 rfl) ?_
  have hCC_6 := yMI.c hId_2
  refine yald C0 hK hP hmy_5 hky_5 (by decide) rfl 0 rfl (xinT 8 rfl (by omega) (by omega)) dX9_step_5 ?_
  refine lv_topi (fun z_7 ez_7 => ?_)
  have hvz_7 : 0 ≤ (z_7 : Int32).toInt ∧ (z_7 : Int32).toInt ≤ 5000 := by rw [ez_7]; exact yMI.ne_ hId_2 _
  refine lv_aload_n hx hb dX9_step_6 rfl (lv_at hl 0 rfl) ?_
  refine yget (ci := 9) (k := 1) (v := .int (d_2.1 h0 1)) (C := RX9) (T := TX9) (N := 67) C0 hK hP hm_h0 hk_h0 (by decide) rfl inlX9 (by decide) mW364 (fun _ h9 => h9) rfl dX9_step_7 ?_
  refine lv_topi (fun z_8 ez_8 => ?_)
  refine lv_icmp_ge (tgt := 128) hx hb dX9_step_10 (by decide) (fun c_9 => ?_) (fun c_9 => ?_)
  · refine lv_bipush (v := (-3)) hx hb dX9_step_128 (by decide) ?_
    refine lv_istore (lv' := [(9, .int (-3)), (0, .ref h0), (1, .int p0), (2, .int p1), (3, .long p2), (5, .int p3), (6, .int p4), (7, .int p5), (8, .int p6)]) hx hb dX9_step_130 hl (by decide) rfl (fun ls hl => ?_)
    refine lv_iload hx hb dX9_step_132 (lv_at hl 5 rfl) ?_
    refine yjoinR (σ := Int32) 142 (fun x ls st => st = [.int x] ∧ lv_has ls 12 [(9, .int (-3)), (0, .ref h0), (1, .int p0), (2, .int p1), (3, .long p2), (6, .int p4), (7, .int p5), (8, .int p6)]) (fun x ls st hI => ?_) (fun J142_10 => ?_)
    · obtain ⟨v_10, rfl⟩ : ∃ z, z = x := ⟨_, rfl⟩
      obtain ⟨rfl, hl⟩ := hI
      have hl : lv_has ls 12 [(9, .int (-3)), (0, .ref h0), (1, .int p0), (2, .int p1), (3, .long p2), (6, .int p4), (7, .int p5), (8, .int p6)] := hl
      refine lv_istore (lv' := [(10, .int v_10), (9, .int (-3)), (0, .ref h0), (1, .int p0), (2, .int p1), (3, .long p2), (6, .int p4), (7, .int p5), (8, .int p6)]) hx hb dX9_step_142 hl (by decide) rfl (fun ls hl => ?_)
      refine lv_aload_n hx hb dX9_step_144 rfl (lv_at hl 2 rfl) ?_
      refine lv_iload_n hx hb dX9_step_145 rfl (lv_at hl 3 rfl) ?_
      refine lv_iload_n hx hb dX9_step_146 rfl (lv_at hl 4 rfl) ?_
      have T_12 : (z_8 : Int32).toInt = (d_2.1 h0 1).toInt := by rw [ez_8]
      have F_13 := fle (rfl : (z_8 : Int32).toInt = (z_8 : Int32).toInt) (rfl : (z_7 : Int32).toInt = (z_7 : Int32).toInt) c_9
      refine yVri (As := [.int p0, .int p1]) (rest := []) C0 (g_X9_isKnown l G S d_2 h0 p0 p1 hSh hm_h0 hk_h0 (by refine ⟨?_, ?_⟩ <;> omega) (by refine ⟨?_, ?_⟩ <;> omega)) ok_X9_isKnown (mW429 : Cond.methodLink RX9 198 yX9_isKnown ∈ wsT) ⟨Nat.le_of_ble_eq_true rfl, Nat.le_of_ble_eq_true rfl⟩ hP hD hK hN hm_h0 hk_h0 (by decide) rfl rfl rfl hl.1 rfl (Nat.le_of_ble_eq_true rfl) ⟨Nat.le_of_ble_eq_true rfl, Nat.le_of_ble_eq_true rfl⟩ dX9_step_147 (fun r_14 hr_14 => ?_)
      refine yjoinR (σ := Int32 × Int32) 252 (fun x ls st => st = [] ∧ lv_has ls 12 [(0, .ref h0), (1, .int p0), (2, .int p1), (3, .long p2), (9, .int x.1), (10, .int x.2)]) (fun x ls st hI => ?_) (fun J252_16 => ?_)
      · obtain ⟨v_15, v_16⟩ := x
        obtain ⟨rfl, hl⟩ := hI
        have hl : lv_has ls 12 [(0, .ref h0), (1, .int p0), (2, .int p1), (3, .long p2), (9, .int v_15), (10, .int v_16)] := hl
        refine lv_aload_n hx hb dX9_step_252 rfl (lv_at hl 0 rfl) ?_
        refine yget (ci := 9) (k := 58) (v := .long (d_2.2.1 h0 58)) (C := RX9) (T := TX9) (N := 67) C0 hK hP hm_h0 hk_h0 (by decide) rfl inlX9 (by decide) mW873 (fun _ h9 => h9) rfl dX9_step_253 ?_
        refine lv_topl (fun z_17 ez_17 => ?_)
        refine lv_aload_n hx hb dX9_step_256 rfl (lv_at hl 0 rfl) ?_
        refine yget (ci := 9) (k := 59) (v := .long (d_2.2.1 h0 59)) (C := RX9) (T := TX9) (N := 67) C0 hK hP hm_h0 hk_h0 (by decide) rfl inlX9 (by decide) mW874 (fun _ h9 => h9) rfl dX9_step_257 ?_
        refine lv_topl (fun z_18 ez_18 => ?_)
        refine W.lcmp hx hb dX9_step_260 ?_
        refine lv_topi (fun z_19 ez_19 => ?_)
        refine yjoinR (σ := Int32) 269 (fun x ls st => st = [.int x] ∧ lv_has ls 12 [(0, .ref h0), (1, .int p0), (2, .int p1), (3, .long p2), (9, .int v_15), (10, .int v_16)] ∧ (x = 0 ∨ x = 1)) (fun x ls st hI => ?_) (fun J269_20 => ?_)
        · obtain ⟨v_20, rfl⟩ : ∃ z, z = x := ⟨_, rfl⟩
          obtain ⟨rfl, hl, hzv_20⟩ := hI
          have hl : lv_has ls 12 [(0, .ref h0), (1, .int p0), (2, .int p1), (3, .long p2), (9, .int v_15), (10, .int v_16)] := hl
          refine lv_istore (lv' := [(11, .int v_20), (0, .ref h0), (1, .int p0), (2, .int p1), (3, .long p2), (9, .int v_15), (10, .int v_16)]) hx hb dX9_step_269 hl (by decide) rfl (fun ls hl => ?_)
          refine lv_aload_n hx hb dX9_step_271 rfl (lv_at hl 1 rfl) ?_
          refine lv_dup hx hb dX9_step_272 rfl ?_
          refine yget (ci := 9) (k := 58) (v := .long (d_2.2.1 h0 58)) (C := RX9) (T := TX9) (N := 67) C0 hK hP hm_h0 hk_h0 (by decide) rfl inlX9 (by decide) mW873 (fun _ h9 => h9) rfl dX9_step_273 ?_
          rw [← ez_17]
          refine lv_iload hx hb dX9_step_276 (lv_at hl 6 rfl) ?_
          refine lv_i2l hx hb dX9_step_278 rfl ?_
          refine lv_topl (fun z_21 ez_21 => ?_)
          refine lv_ladd hx hb dX9_step_279 ?_
          refine lv_topl (fun z_22 ez_22 => ?_)
          refine yputJ (ci := 9) (k := 58) (C := RX9) (T := TX9) (N := 67) C0 hK hP hD hS hm_h0 hk_h0 (by decide) rfl inlX9 tyX9 tyX9_ok nmX9 (by decide) mW873 (fun _ h9 => h9) rfl (by decide +kernel) (Nat.le_of_ble_eq_true rfl) ysj_9_58 dX9_step_280 (fun H locs hP hD hS => ?_)
          obtain ⟨d_23, ed_23⟩ : ∃ z : yD, z = yj d_2 h0 58 z_22 := ⟨_, rfl⟩
          rw [← ed_23] at hP hD
          have hgd_23 : yAg S [9, 77, 78] d d_23 := by rw [ed_23]; exact yAg.j hgd_2 (by rw [hk_h0]; decide)
          have hsd_23 : yAg S [9] d_2 d_23 := by rw [ed_23]; exact yAg.j yAg.rf (by rw [hk_h0]; decide)
          have hPod_23 : yPo S d_23 := by rw [ed_23]; exact hPod_2
          have hfd_23 : yK [54, 55, 57, 63, 64, 65] d d_23 h0 := yK.ag hfd_2 (show yAg S [9] d_2 d_23 from by rw [ed_23]; exact yAg.j yAg.rf (by rw [hk_h0]; decide)) (by rw [hk_h0]; decide)
          have hId_23 : yMI S d_23 h0 := yMI.ag hId_2 hSh hm_h0 hk_h0 (show yAg S [9] d_2 d_23 from by rw [ed_23]; exact yAg.j yAg.rf (by rw [hk_h0]; decide)) (yK.ag (F := []) yK.rf (show yAg S [9] d_2 d_23 from by rw [ed_23]; exact yAg.j yAg.rf (by rw [hk_h0]; decide)) (by rw [hk_h0]; decide)) (by decide) (by decide)
          have hE0d_23 : (d_23.1 h0 0).toInt = (d_2.1 h0 0).toInt := congrArg Int32.toInt ((yK.ag (F := []) yK.rf (show yAg S [9] d_2 d_23 from by rw [ed_23]; exact yAg.j yAg.rf (by rw [hk_h0]; decide)) (by rw [hk_h0]; decide)) 0 (by decide))
          have hE1d_23 : (d_23.1 h0 1).toInt = (d_2.1 h0 1).toInt := congrArg Int32.toInt ((yK.ag (F := []) yK.rf (show yAg S [9] d_2 d_23 from by rw [ed_23]; exact yAg.j yAg.rf (by rw [hk_h0]; decide)) (by rw [hk_h0]; decide)) 1 (by decide))
          have hE2d_23 : (d_23.1 h0 2).toInt = (d_2.1 h0 2).toInt := congrArg Int32.toInt ((yK.ag (F := []) yK.rf (show yAg S [9] d_2 d_23 from by rw [ed_23]; exact yAg.j yAg.rf (by rw [hk_h0]; decide)) (by rw [hk_h0]; decide)) 2 (by decide))
          have hE3d_23 : (d_23.1 h0 3).toInt = (d_2.1 h0 3).toInt := congrArg Int32.toInt ((yK.ag (F := []) yK.rf (show yAg S [9] d_2 d_23 from by rw [ed_23]; exact yAg.j yAg.rf (by rw [hk_h0]; decide)) (by rw [hk_h0]; decide)) 3 (by decide))
          have hE63d_23 : (d_23.1 h0 63).toInt = (d_2.1 h0 63).toInt := congrArg Int32.toInt ((yK.ag (F := []) yK.rf (show yAg S [9] d_2 d_23 from by rw [ed_23]; exact yAg.j yAg.rf (by rw [hk_h0]; decide)) (by rw [hk_h0]; decide)) 63 (by decide))
          refine lv_aload_n hx hb dX9_step_283 rfl (lv_at hl 1 rfl) ?_
          refine lv_dup hx hb dX9_step_284 rfl ?_
          refine yget (ci := 9) (k := 60) (v := .long (d_23.2.1 h0 60)) (C := RX9) (T := TX9) (N := 67) C0 hK hP hm_h0 hk_h0 (by decide) rfl inlX9 (by decide) mW875 (fun _ h9 => h9) rfl dX9_step_285 ?_
          refine lv_topl (fun z_24 ez_24 => ?_)
          refine lv_lconst (v := 1) hx hb dX9_step_288 (by decide) ?_
          refine lv_ladd hx hb dX9_step_289 ?_
          refine lv_topl (fun z_25 ez_25 => ?_)
          refine yputJ (ci := 9) (k := 60) (C := RX9) (T := TX9) (N := 67) C0 hK hP hD hS hm_h0 hk_h0 (by decide) rfl inlX9 tyX9 tyX9_ok nmX9 (by decide) mW875 (fun _ h9 => h9) rfl (by decide +kernel) (Nat.le_of_ble_eq_true rfl) ysj_9_60 dX9_step_290 (fun H locs hP hD hS => ?_)
          obtain ⟨d_26, ed_26⟩ : ∃ z : yD, z = yj d_23 h0 60 z_25 := ⟨_, rfl⟩
          rw [← ed_26] at hP hD
          have hgd_26 : yAg S [9, 77, 78] d d_26 := by rw [ed_26]; exact yAg.j hgd_23 (by rw [hk_h0]; decide)
          have hsd_26 : yAg S [9] d_23 d_26 := by rw [ed_26]; exact yAg.j yAg.rf (by rw [hk_h0]; decide)
          have hPod_26 : yPo S d_26 := by rw [ed_26]; exact hPod_23
          have hfd_26 : yK [54, 55, 57, 63, 64, 65] d d_26 h0 := yK.ag hfd_23 (show yAg S [9] d_23 d_26 from by rw [ed_26]; exact yAg.j yAg.rf (by rw [hk_h0]; decide)) (by rw [hk_h0]; decide)
          have hId_26 : yMI S d_26 h0 := yMI.ag hId_23 hSh hm_h0 hk_h0 (show yAg S [9] d_23 d_26 from by rw [ed_26]; exact yAg.j yAg.rf (by rw [hk_h0]; decide)) (yK.ag (F := []) yK.rf (show yAg S [9] d_23 d_26 from by rw [ed_26]; exact yAg.j yAg.rf (by rw [hk_h0]; decide)) (by rw [hk_h0]; decide)) (by decide) (by decide)
          have hE0d_26 : (d_26.1 h0 0).toInt = (d_23.1 h0 0).toInt := congrArg Int32.toInt ((yK.ag (F := []) yK.rf (show yAg S [9] d_23 d_26 from by rw [ed_26]; exact yAg.j yAg.rf (by rw [hk_h0]; decide)) (by rw [hk_h0]; decide)) 0 (by decide))
          have hE1d_26 : (d_26.1 h0 1).toInt = (d_23.1 h0 1).toInt := congrArg Int32.toInt ((yK.ag (F := []) yK.rf (show yAg S [9] d_23 d_26 from by rw [ed_26]; exact yAg.j yAg.rf (by rw [hk_h0]; decide)) (by rw [hk_h0]; decide)) 1 (by decide))
          have hE2d_26 : (d_26.1 h0 2).toInt = (d_23.1 h0 2).toInt := congrArg Int32.toInt ((yK.ag (F := []) yK.rf (show yAg S [9] d_23 d_26 from by rw [ed_26]; exact yAg.j yAg.rf (by rw [hk_h0]; decide)) (by rw [hk_h0]; decide)) 2 (by decide))
          have hE3d_26 : (d_26.1 h0 3).toInt = (d_23.1 h0 3).toInt := congrArg Int32.toInt ((yK.ag (F := []) yK.rf (show yAg S [9] d_23 d_26 from by rw [ed_26]; exact yAg.j yAg.rf (by rw [hk_h0]; decide)) (by rw [hk_h0]; decide)) 3 (by decide))
          have hE63d_26 : (d_26.1 h0 63).toInt = (d_23.1 h0 63).toInt := congrArg Int32.toInt ((yK.ag (F := []) yK.rf (show yAg S [9] d_23 d_26 from by rw [ed_26]; exact yAg.j yAg.rf (by rw [hk_h0]; decide)) (by rw [hk_h0]; decide)) 63 (by decide))
          refine lv_iload hx hb dX9_step_293 (lv_at hl 0 rfl) ?_
          refine yjoin (σ := yD) 315 (fun x H locs ls st => st = [] ∧ va_P G.1 xcl (yW G S x) H ∧ va_D A (yW G S x) ∧ va_S A s.heap H locs ∧ yAg S [9, 77, 78] d x ∧ yPo S x ∧ yK [54, 55, 57, 63, 64, 65] d x h0 ∧ yMI S x h0 ∧ yAg S [9] d_26 x ∧ yK [] d_26 x h0 ∧ lv_has ls 12 [(0, .ref h0), (1, .int p0), (2, .int p1), (9, .int v_15), (10, .int v_16)]) (fun x H locs ls st hI => ?_) (fun J315_26 => ?_)
          · obtain ⟨d_27, rfl⟩ : ∃ z, z = x := ⟨_, rfl⟩
            obtain ⟨rfl, hP, hD, hS, hgd_27, hPod_27, hfd_27, hId_27, hLJd_27, hKJd_27, hl⟩ := hI
            have hId_27 : yMI S d_27 h0 := hId_27
            have hl : lv_has ls 12 [(0, .ref h0), (1, .int p0), (2, .int p1), (9, .int v_15), (10, .int v_16)] := hl
            have hE0d_27 : (d_27.1 h0 0).toInt = (d_26.1 h0 0).toInt := congrArg Int32.toInt (hKJd_27 0 (by decide))
            have hE1d_27 : (d_27.1 h0 1).toInt = (d_26.1 h0 1).toInt := congrArg Int32.toInt (hKJd_27 1 (by decide))
            have hE2d_27 : (d_27.1 h0 2).toInt = (d_26.1 h0 2).toInt := congrArg Int32.toInt (hKJd_27 2 (by decide))
            have hE3d_27 : (d_27.1 h0 3).toInt = (d_26.1 h0 3).toInt := congrArg Int32.toInt (hKJd_27 3 (by decide))
            have hE63d_27 : (d_27.1 h0 63).toInt = (d_26.1 h0 63).toInt := congrArg Int32.toInt (hKJd_27 63 (by decide))
            refine lv_iload_n hx hb dX9_step_315 rfl (lv_at hl 1 rfl) ?_
            refine lv_aload_n hx hb dX9_step_316 rfl (lv_at hl 0 rfl) ?_
            refine yget (ci := 9) (k := 49) (v := .int (d_27.1 h0 49)) (C := RX9) (T := TX9) (N := 67) C0 hK hP hm_h0 hk_h0 (by decide) rfl inlX9 (by decide) mW861 (fun _ h9 => h9) rfl dX9_step_317 ?_
            refine lv_topi (fun z_28 ez_28 => ?_)
            refine lv_icmp_eq (tgt := 324) hx hb dX9_step_320 (by decide) (fun c_29 => ?_) (fun c_29 => ?_)
            · refine lv_aload_n hx hb dX9_step_324 rfl (lv_at hl 0 rfl) ?_
              refine lv_dup hx hb dX9_step_325 rfl ?_
              refine yget (ci := 9) (k := 66) (v := .long (d_27.2.1 h0 66)) (C := RX9) (T := TX9) (N := 67) C0 hK hP hm_h0 hk_h0 (by decide) rfl inlX9 (by decide) mW881 (fun _ h9 => h9) rfl dX9_step_326 ?_
              refine lv_topl (fun z_30 ez_30 => ?_)
              refine lv_iload hx hb dX9_step_329 (lv_at hl 4 rfl) ?_
              refine lv_i2l hx hb dX9_step_331 rfl ?_
              rw [← ez_21]
              refine lv_ladd hx hb dX9_step_332 ?_
              refine lv_topl (fun z_31 ez_31 => ?_)
              refine yputJ (ci := 9) (k := 66) (C := RX9) (T := TX9) (N := 67) C0 hK hP hD hS hm_h0 hk_h0 (by decide) rfl inlX9 tyX9 tyX9_ok nmX9 (by decide) mW881 (fun _ h9 => h9) rfl (by decide +kernel) (Nat.le_of_ble_eq_true rfl) ysj_9_66 dX9_step_333 (fun H locs hP hD hS => ?_)
              obtain ⟨d_32, ed_32⟩ : ∃ z : yD, z = yj d_27 h0 66 z_31 := ⟨_, rfl⟩
              rw [← ed_32] at hP hD
              have hgd_32 : yAg S [9, 77, 78] d d_32 := by rw [ed_32]; exact yAg.j hgd_27 (by rw [hk_h0]; decide)
              have hsd_32 : yAg S [9] d_27 d_32 := by rw [ed_32]; exact yAg.j yAg.rf (by rw [hk_h0]; decide)
              have hPod_32 : yPo S d_32 := by rw [ed_32]; exact hPod_27
              have hfd_32 : yK [54, 55, 57, 63, 64, 65] d d_32 h0 := yK.ag hfd_27 (show yAg S [9] d_27 d_32 from by rw [ed_32]; exact yAg.j yAg.rf (by rw [hk_h0]; decide)) (by rw [hk_h0]; decide)
              have hId_32 : yMI S d_32 h0 := yMI.ag hId_27 hSh hm_h0 hk_h0 (show yAg S [9] d_27 d_32 from by rw [ed_32]; exact yAg.j yAg.rf (by rw [hk_h0]; decide)) (yK.ag (F := []) yK.rf (show yAg S [9] d_27 d_32 from by rw [ed_32]; exact yAg.j yAg.rf (by rw [hk_h0]; decide)) (by rw [hk_h0]; decide)) (by decide) (by decide)
              have hE0d_32 : (d_32.1 h0 0).toInt = (d_27.1 h0 0).toInt := congrArg Int32.toInt ((yK.ag (F := []) yK.rf (show yAg S [9] d_27 d_32 from by rw [ed_32]; exact yAg.j yAg.rf (by rw [hk_h0]; decide)) (by rw [hk_h0]; decide)) 0 (by decide))
              have hE1d_32 : (d_32.1 h0 1).toInt = (d_27.1 h0 1).toInt := congrArg Int32.toInt ((yK.ag (F := []) yK.rf (show yAg S [9] d_27 d_32 from by rw [ed_32]; exact yAg.j yAg.rf (by rw [hk_h0]; decide)) (by rw [hk_h0]; decide)) 1 (by decide))
              have hE2d_32 : (d_32.1 h0 2).toInt = (d_27.1 h0 2).toInt := congrArg Int32.toInt ((yK.ag (F := []) yK.rf (show yAg S [9] d_27 d_32 from by rw [ed_32]; exact yAg.j yAg.rf (by rw [hk_h0]; decide)) (by rw [hk_h0]; decide)) 2 (by decide))
              have hE3d_32 : (d_32.1 h0 3).toInt = (d_27.1 h0 3).toInt := congrArg Int32.toInt ((yK.ag (F := []) yK.rf (show yAg S [9] d_27 d_32 from by rw [ed_32]; exact yAg.j yAg.rf (by rw [hk_h0]; decide)) (by rw [hk_h0]; decide)) 3 (by decide))
              have hE63d_32 : (d_32.1 h0 63).toInt = (d_27.1 h0 63).toInt := congrArg Int32.toInt ((yK.ag (F := []) yK.rf (show yAg S [9] d_27 d_32 from by rw [ed_32]; exact yAg.j yAg.rf (by rw [hk_h0]; decide)) (by rw [hk_h0]; decide)) 63 (by decide))
              refine lv_iload_n hx hb dX9_step_336 rfl (lv_at hl 2 rfl) ?_
              refine lv_aload_n hx hb dX9_step_337 rfl (lv_at hl 0 rfl) ?_
              refine yget (ci := 9) (k := 50) (v := .int (d_32.1 h0 50)) (C := RX9) (T := TX9) (N := 67) C0 hK hP hm_h0 hk_h0 (by decide) rfl inlX9 (by decide) mW862 (fun _ h9 => h9) rfl dX9_step_338 ?_
              refine lv_topi (fun z_33 ez_33 => ?_)
              refine yjoin (σ := yD) 367 (fun x H locs ls st => st = [] ∧ va_P G.1 xcl (yW G S x) H ∧ va_D A (yW G S x) ∧ va_S A s.heap H locs ∧ yAg S [9, 77, 78] d x ∧ yPo S x ∧ yK [54, 55, 57, 63, 64, 65] d x h0 ∧ yMI S x h0 ∧ yAg S [9] d_32 x ∧ yK [54, 55] d_32 x h0 ∧ lv_has ls 12 [(0, .ref h0), (2, .int p1), (9, .int v_15), (10, .int v_16)]) (fun x H locs ls st hI => ?_) (fun J367_33 => ?_)
              · obtain ⟨d_34, rfl⟩ : ∃ z, z = x := ⟨_, rfl⟩
                obtain ⟨rfl, hP, hD, hS, hgd_34, hPod_34, hfd_34, hId_34, hLJd_34, hKJd_34, hl⟩ := hI
                have hId_34 : yMI S d_34 h0 := hId_34
                have hl : lv_has ls 12 [(0, .ref h0), (2, .int p1), (9, .int v_15), (10, .int v_16)] := hl
                have hE0d_34 : (d_34.1 h0 0).toInt = (d_32.1 h0 0).toInt := congrArg Int32.toInt (hKJd_34 0 (by decide))
                have hE1d_34 : (d_34.1 h0 1).toInt = (d_32.1 h0 1).toInt := congrArg Int32.toInt (hKJd_34 1 (by decide))
                have hE2d_34 : (d_34.1 h0 2).toInt = (d_32.1 h0 2).toInt := congrArg Int32.toInt (hKJd_34 2 (by decide))
                have hE3d_34 : (d_34.1 h0 3).toInt = (d_32.1 h0 3).toInt := congrArg Int32.toInt (hKJd_34 3 (by decide))
                have hE63d_34 : (d_34.1 h0 63).toInt = (d_32.1 h0 63).toInt := congrArg Int32.toInt (hKJd_34 63 (by decide))
                refine lv_iload_n hx hb dX9_step_367 rfl (lv_at hl 1 rfl) ?_
                refine lv_aload_n hx hb dX9_step_368 rfl (lv_at hl 0 rfl) ?_
                refine yget (ci := 9) (k := 51) (v := .int (d_34.1 h0 51)) (C := RX9) (T := TX9) (N := 67) C0 hK hP hm_h0 hk_h0 (by decide) rfl inlX9 (by decide) mW863 (fun _ h9 => h9) rfl dX9_step_369 ?_
                refine lv_topi (fun z_35 ez_35 => ?_)
                refine yjoin (σ := yD) 395 (fun x H locs ls st => st = [] ∧ va_P G.1 xcl (yW G S x) H ∧ va_D A (yW G S x) ∧ va_S A s.heap H locs ∧ yAg S [9, 77, 78] d x ∧ yPo S x ∧ yK [54, 55, 57, 63, 64, 65] d x h0 ∧ yMI S x h0 ∧ yAg S [9] d_34 x ∧ yK [] d_34 x h0 ∧ lv_has ls 12 [(0, .ref h0), (2, .int p1), (9, .int v_15)]) (fun x H locs ls st hI => ?_) (fun J395_35 => ?_)
                · obtain ⟨d_36, rfl⟩ : ∃ z, z = x := ⟨_, rfl⟩
                  obtain ⟨rfl, hP, hD, hS, hgd_36, hPod_36, hfd_36, hId_36, hLJd_36, hKJd_36, hl⟩ := hI
                  have hId_36 : yMI S d_36 h0 := hId_36
                  have hl : lv_has ls 12 [(0, .ref h0), (2, .int p1), (9, .int v_15)] := hl
                  have hE0d_36 : (d_36.1 h0 0).toInt = (d_34.1 h0 0).toInt := congrArg Int32.toInt (hKJd_36 0 (by decide))
                  have hE1d_36 : (d_36.1 h0 1).toInt = (d_34.1 h0 1).toInt := congrArg Int32.toInt (hKJd_36 1 (by decide))
                  have hE2d_36 : (d_36.1 h0 2).toInt = (d_34.1 h0 2).toInt := congrArg Int32.toInt (hKJd_36 2 (by decide))
                  have hE3d_36 : (d_36.1 h0 3).toInt = (d_34.1 h0 3).toInt := congrArg Int32.toInt (hKJd_36 3 (by decide))
                  have hE63d_36 : (d_36.1 h0 63).toInt = (d_34.1 h0 63).toInt := congrArg Int32.toInt (hKJd_36 63 (by decide))
                  refine lv_iload hx hb dX9_step_395 (lv_at hl 2 rfl) ?_
                  refine lv_aload_n hx hb dX9_step_397 rfl (lv_at hl 0 rfl) ?_
                  refine yget (ci := 9) (k := 53) (v := .int (d_36.1 h0 53)) (C := RX9) (T := TX9) (N := 67) C0 hK hP hm_h0 hk_h0 (by decide) rfl inlX9 (by decide) mW865 (fun _ h9 => h9) rfl dX9_step_398 ?_
                  refine lv_topi (fun z_37 ez_37 => ?_)
                  refine yjoin (σ := yD) 414 (fun x H locs ls st => st = [] ∧ va_P G.1 xcl (yW G S x) H ∧ va_D A (yW G S x) ∧ va_S A s.heap H locs ∧ yAg S [9, 77, 78] d x ∧ yPo S x ∧ yK [54, 55, 57, 63, 64, 65] d x h0 ∧ yMI S x h0 ∧ yAg S [9] d_36 x ∧ yK [57] d_36 x h0 ∧ lv_has ls 12 [(0, .ref h0), (2, .int p1), (9, .int v_15)]) (fun x H locs ls st hI => ?_) (fun J414_37 => ?_)
                  · obtain ⟨d_38, rfl⟩ : ∃ z, z = x := ⟨_, rfl⟩
                    obtain ⟨rfl, hP, hD, hS, hgd_38, hPod_38, hfd_38, hId_38, hLJd_38, hKJd_38, hl⟩ := hI
                    have hId_38 : yMI S d_38 h0 := hId_38
                    have hl : lv_has ls 12 [(0, .ref h0), (2, .int p1), (9, .int v_15)] := hl
                    have hE0d_38 : (d_38.1 h0 0).toInt = (d_36.1 h0 0).toInt := congrArg Int32.toInt (hKJd_38 0 (by decide))
                    have hE1d_38 : (d_38.1 h0 1).toInt = (d_36.1 h0 1).toInt := congrArg Int32.toInt (hKJd_38 1 (by decide))
                    have hE2d_38 : (d_38.1 h0 2).toInt = (d_36.1 h0 2).toInt := congrArg Int32.toInt (hKJd_38 2 (by decide))
                    have hE3d_38 : (d_38.1 h0 3).toInt = (d_36.1 h0 3).toInt := congrArg Int32.toInt (hKJd_38 3 (by decide))
                    have hE63d_38 : (d_38.1 h0 63).toInt = (d_36.1 h0 63).toInt := congrArg Int32.toInt (hKJd_38 63 (by decide))
                    refine lv_aload_n hx hb dX9_step_414 rfl (lv_at hl 0 rfl) ?_
                    refine yget (ci := 9) (k := 65) (v := .int (d_38.1 h0 65)) (C := RX9) (T := TX9) (N := 67) C0 hK hP hm_h0 hk_h0 (by decide) rfl inlX9 (by decide) mW868 (fun _ h9 => h9) rfl dX9_step_415 ?_
                    refine lv_topi (fun z_39 ez_39 => ?_)
                    refine lv_if_ge (tgt := 495) hx hb dX9_step_418 (by decide) (fun c_40 => ?_) (fun c_40 => ?_)
                    · refine lv_aload_n hx hb dX9_step_495 rfl (lv_at hl 0 rfl) ?_
                      refine yget (ci := 9) (k := 65) (v := .int (d_38.1 h0 65)) (C := RX9) (T := TX9) (N := 67) C0 hK hP hm_h0 hk_h0 (by decide) rfl inlX9 (by decide) mW868 (fun _ h9 => h9) rfl dX9_step_496 ?_
                      rw [← ez_39]
                      refine lv_if_ge (tgt := 507) hx hb dX9_step_499 (by decide) (fun c_41 => ?_) (fun c_41 => absurd c_40 c_41)
                      exact W.vret hx hb hr (fun t ht hW => ⟨⟨d_38, rfl, ⟨hgd_38, (fun _ => hPod_38), hfd_38, hId_38⟩, by rw [ht]; exact hP, hD⟩, hS.F ht⟩) hS.2.2 dX9_step_507
                    · refine lv_aload_n hx hb dX9_step_421 rfl (lv_at hl 0 rfl) ?_
                      refine yget (ci := 9) (k := 63) (v := .int (d_38.1 h0 63)) (C := RX9) (T := TX9) (N := 67) C0 hK hP hm_h0 hk_h0 (by decide) rfl inlX9 (by decide) mW866 (fun _ h9 => h9) rfl dX9_step_422 ?_
                      refine lv_topi (fun z_42 ez_42 => ?_)
                      refine lv_aload_n hx hb dX9_step_425 rfl (lv_at hl 0 rfl) ?_
                      refine yget (ci := 9) (k := 2) (v := .int (d_38.1 h0 2)) (C := RX9) (T := TX9) (N := 67) C0 hK hP hm_h0 hk_h0 (by decide) rfl inlX9 (by decide) mW888 (fun _ h9 => h9) rfl dX9_step_426 ?_
                      refine lv_topi (fun z_43 ez_43 => ?_)
                      refine lv_icmp_ge (tgt := 495) hx hb dX9_step_429 (by decide) (fun c_44 => ?_) (fun c_44 => ?_)
                      · refine lv_aload_n hx hb dX9_step_495 rfl (lv_at hl 0 rfl) ?_
                        refine yget (ci := 9) (k := 65) (v := .int (d_38.1 h0 65)) (C := RX9) (T := TX9) (N := 67) C0 hK hP hm_h0 hk_h0 (by decide) rfl inlX9 (by decide) mW868 (fun _ h9 => h9) rfl dX9_step_496 ?_
                        rw [← ez_39]
                        refine lv_if_ge (tgt := 507) hx hb dX9_step_499 (by decide) (fun c_45 => absurd c_45 c_40) (fun c_45 => ?_)
                        refine lv_aload_n hx hb dX9_step_502 rfl (lv_at hl 0 rfl) ?_
                        refine lv_iload_n hx hb dX9_step_503 rfl (lv_at hl 1 rfl) ?_
                        refine yputI (ci := 9) (k := 65) (ty := .int) (C := RX9) (T := TX9) (N := 67) C0 hK hP hD hS hm_h0 hk_h0 (by decide) rfl inlX9 tyX9 tyX9_ok nmX9 (by decide) mW868 (fun _ h9 => h9) rfl (by decide +kernel) rfl rfl (Nat.le_of_ble_eq_true rfl) ysi_9_65 dX9_step_504 (fun H locs hP hD hS => ?_)
                        obtain ⟨d_46, ed_46⟩ : ∃ z : yD, z = yi d_38 h0 65 p1 := ⟨_, rfl⟩
                        rw [← ed_46] at hP hD
                        have hgd_46 : yAg S [9, 77, 78] d d_46 := by rw [ed_46]; exact yAg.i hgd_38 (by rw [hk_h0]; decide)
                        have hsd_46 : yAg S [9] d_38 d_46 := by rw [ed_46]; exact yAg.i yAg.rf (by rw [hk_h0]; decide)
                        have hPod_46 : yPo S d_46 := by rw [ed_46]; exact yPo.i hPod_38 hk_h0 (Or.inl rfl)
                        have hfd_46 : yK [54, 55, 57, 63, 64, 65] d d_46 h0 := by rw [ed_46]; exact yK.i hfd_38 (by decide)
                        have hId_46 : yMI S d_46 h0 := yMI.ag hId_38 hSh hm_h0 hk_h0 (show yAg S [9] d_38 d_46 from by rw [ed_46]; exact yAg.i yAg.rf (by rw [hk_h0]; decide)) (show yK [65] d_38 d_46 h0 from by rw [ed_46]; exact yK.i yK.rf (by decide)) (by decide) (by decide)
                        have hE0d_46 : (d_46.1 h0 0).toInt = (d_38.1 h0 0).toInt := congrArg Int32.toInt ((show yK [65] d_38 d_46 h0 from by rw [ed_46]; exact yK.i yK.rf (by decide)) 0 (by decide))
                        have hE1d_46 : (d_46.1 h0 1).toInt = (d_38.1 h0 1).toInt := congrArg Int32.toInt ((show yK [65] d_38 d_46 h0 from by rw [ed_46]; exact yK.i yK.rf (by decide)) 1 (by decide))
                        have hE2d_46 : (d_46.1 h0 2).toInt = (d_38.1 h0 2).toInt := congrArg Int32.toInt ((show yK [65] d_38 d_46 h0 from by rw [ed_46]; exact yK.i yK.rf (by decide)) 2 (by decide))
                        have hE3d_46 : (d_46.1 h0 3).toInt = (d_38.1 h0 3).toInt := congrArg Int32.toInt ((show yK [65] d_38 d_46 h0 from by rw [ed_46]; exact yK.i yK.rf (by decide)) 3 (by decide))
                        have hE63d_46 : (d_46.1 h0 63).toInt = (d_38.1 h0 63).toInt := congrArg Int32.toInt ((show yK [65] d_38 d_46 h0 from by rw [ed_46]; exact yK.i yK.rf (by decide)) 63 (by decide))
                        exact W.vret hx hb hr (fun t ht hW => ⟨⟨d_46, rfl, ⟨hgd_46, (fun _ => hPod_46), hfd_46, hId_46⟩, by rw [ht]; exact hP, hD⟩, hS.F ht⟩) hS.2.2 dX9_step_507
                      · refine lv_aload_n hx hb dX9_step_432 rfl (lv_at hl 0 rfl) ?_
                        refine yget (ci := 9) (k := 19) (v := .ref (S.2.2.1 h0 19)) (C := RX9) (T := TX9) (N := 67) C0 hK hP hm_h0 hk_h0 (by decide) rfl inlX9 (by decide) mW126 (fun _ h9 => h9) rfl dX9_step_433 ?_
                        obtain ⟨hmy_47, hky_47⟩ := ySh.f9_19 hSh _ hm_h0 hk_h0
                        refine lv_aload_n hx hb dX9_step_436 rfl (lv_at hl 0 rfl) ?_
                        refine yget (ci := 9) (k := 63) (v := .int (d_38.1 h0 63)) (C := RX9) (T := TX9) (N := 67) C0 hK hP hm_h0 hk_h0 (by decide) rfl inlX9 (by decide) mW866 (fun _ h9 => h9) rfl dX9_step_437 ?_
                        rw [← ez_42]
                        have hCC_48 := yMI.c hId_38
                        have T_49 : (z_28 : Int32).toInt = (d_27.1 h0 49).toInt := by rw [ez_28]
                        have F_50 := feq (rfl : (p0 : Int32).toInt = (p0 : Int32).toInt) (rfl : (z_28 : Int32).toInt = (z_28 : Int32).toInt) c_29
                        have T_51 : (z_39 : Int32).toInt = (d_38.1 h0 65).toInt := by rw [ez_39]
                        have F_52 := fnle (by decide +kernel : (0 : Int32).toInt = 0) (rfl : (z_39 : Int32).toInt = (z_39 : Int32).toInt) c_40
                        have T_53 : (z_42 : Int32).toInt = (d_38.1 h0 63).toInt := by rw [ez_42]
                        have T_54 : (z_43 : Int32).toInt = (d_38.1 h0 2).toInt := by rw [ez_43]
                        have F_55 := fnle (rfl : (z_43 : Int32).toInt = (z_43 : Int32).toInt) (rfl : (z_42 : Int32).toInt = (z_42 : Int32).toInt) c_44
                        refine yaldB C0 hK hP hmy_47 hky_47 (by decide) rfl 1 rfl (xinT 500 rfl (by omega) (by omega)) dX9_step_440 ?_
                        refine lv_topi (fun z_56 ez_56 => ?_)
                        refine lv_iload hx hb dX9_step_441 (lv_at hl 2 rfl) ?_
                        refine lv_icmp_eq (tgt := 451) hx hb dX9_step_443 (by decide) (fun c_57 => ?_) (fun c_57 => ?_)
                        · refine lv_aload_n hx hb dX9_step_451 rfl (lv_at hl 0 rfl) ?_
                          refine lv_dup hx hb dX9_step_452 rfl ?_
                          refine yget (ci := 9) (k := 64) (v := .int (d_38.1 h0 64)) (C := RX9) (T := TX9) (N := 67) C0 hK hP hm_h0 hk_h0 (by decide) rfl inlX9 (by decide) mW867 (fun _ h9 => h9) rfl dX9_step_453 ?_
                          refine lv_topi (fun z_58 ez_58 => ?_)
                          refine lv_iconst (v := 1) hx hb dX9_step_456 (by decide) ?_
                          refine lv_iadd hx hb dX9_step_457 ?_
                          refine lv_topi (fun z_59 ez_59 => ?_)
                          refine yputI (ci := 9) (k := 64) (ty := .int) (C := RX9) (T := TX9) (N := 67) C0 hK hP hD hS hm_h0 hk_h0 (by decide) rfl inlX9 tyX9 tyX9_ok nmX9 (by decide) mW867 (fun _ h9 => h9) rfl (by decide +kernel) rfl rfl (Nat.le_of_ble_eq_true rfl) ysi_9_64 dX9_step_458 (fun H locs hP hD hS => ?_)
                          obtain ⟨d_60, ed_60⟩ : ∃ z : yD, z = yi d_38 h0 64 z_59 := ⟨_, rfl⟩
                          rw [← ed_60] at hP hD
                          have hgd_60 : yAg S [9, 77, 78] d d_60 := by rw [ed_60]; exact yAg.i hgd_38 (by rw [hk_h0]; decide)
                          have hsd_60 : yAg S [9] d_38 d_60 := by rw [ed_60]; exact yAg.i yAg.rf (by rw [hk_h0]; decide)
                          have hPod_60 : yPo S d_60 := by rw [ed_60]; exact yPo.i hPod_38 hk_h0 (Or.inl rfl)
                          have hfd_60 : yK [54, 55, 57, 63, 64, 65] d d_60 h0 := by rw [ed_60]; exact yK.i hfd_38 (by decide)
                          have hId_60 : yMI S d_60 h0 := yMI.ag hId_38 hSh hm_h0 hk_h0 (show yAg S [9] d_38 d_60 from by rw [ed_60]; exact yAg.i yAg.rf (by rw [hk_h0]; decide)) (show yK [64] d_38 d_60 h0 from by rw [ed_60]; exact yK.i yK.rf (by decide)) (by decide) (by decide)
                          have hE0d_60 : (d_60.1 h0 0).toInt = (d_38.1 h0 0).toInt := congrArg Int32.toInt ((show yK [64] d_38 d_60 h0 from by rw [ed_60]; exact yK.i yK.rf (by decide)) 0 (by decide))
                          have hE1d_60 : (d_60.1 h0 1).toInt = (d_38.1 h0 1).toInt := congrArg Int32.toInt ((show yK [64] d_38 d_60 h0 from by rw [ed_60]; exact yK.i yK.rf (by decide)) 1 (by decide))
                          have hE2d_60 : (d_60.1 h0 2).toInt = (d_38.1 h0 2).toInt := congrArg Int32.toInt ((show yK [64] d_38 d_60 h0 from by rw [ed_60]; exact yK.i yK.rf (by decide)) 2 (by decide))
                          have hE3d_60 : (d_60.1 h0 3).toInt = (d_38.1 h0 3).toInt := congrArg Int32.toInt ((show yK [64] d_38 d_60 h0 from by rw [ed_60]; exact yK.i yK.rf (by decide)) 3 (by decide))
                          have hE63d_60 : (d_60.1 h0 63).toInt = (d_38.1 h0 63).toInt := congrArg Int32.toInt ((show yK [64] d_38 d_60 h0 from by rw [ed_60]; exact yK.i yK.rf (by decide)) 63 (by decide))
                          refine lv_aload_n hx hb dX9_step_461 rfl (lv_at hl 0 rfl) ?_
                          refine yget (ci := 9) (k := 64) (v := .int (d_60.1 h0 64)) (C := RX9) (T := TX9) (N := 67) C0 hK hP hm_h0 hk_h0 (by decide) rfl inlX9 (by decide) mW867 (fun _ h9 => h9) rfl dX9_step_462 ?_
                          refine lv_topi (fun z_61 ez_61 => ?_)
                          refine lv_aload_n hx hb dX9_step_465 rfl (lv_at hl 0 rfl) ?_
                          refine yget (ci := 9) (k := 18) (v := .ref (S.2.2.1 h0 18)) (C := RX9) (T := TX9) (N := 67) C0 hK hP hm_h0 hk_h0 (by decide) rfl inlX9 (by decide) mW125 (fun _ h9 => h9) rfl dX9_step_466 ?_
                          obtain ⟨hmy_62, hky_62⟩ := ySh.f9_18 hSh _ hm_h0 hk_h0
                          refine lv_aload_n hx hb dX9_step_469 rfl (lv_at hl 0 rfl) ?_
                          refine yget (ci := 9) (k := 63) (v := .int (d_60.1 h0 63)) (C := RX9) (T := TX9) (N := 67) C0 hK hP hm_h0 hk_h0 (by decide) rfl inlX9 (by decide) mW866 (fun _ h9 => h9) rfl dX9_step_470 ?_
                          refine lv_topi (fun z_63 ez_63 => ?_)
                          have hCC_64 := yMI.c hId_60
                          have F_66 := feq (rfl : (z_56 : Int32).toInt = (z_56 : Int32).toInt) (rfl : (v_15 : Int32).toInt = (v_15 : Int32).toInt) c_57
                          have T_67 : (z_63 : Int32).toInt = (d_60.1 h0 63).toInt := by rw [ez_63]
                          refine yald C0 hK hP hmy_62 hky_62 (by decide) rfl 0 rfl (xinT 500 rfl (by omega) (by omega)) dX9_step_473 ?_
                          refine lv_topi (fun z_68 ez_68 => ?_)
                          refine lv_icmp_ne (tgt := 507) hx hb dX9_step_474 (by decide) (fun c_69 => ?_) (fun c_69 => ?_)
                          · exact W.vret hx hb hr (fun t ht hW => ⟨⟨d_60, rfl, ⟨hgd_60, (fun _ => hPod_60), hfd_60, hId_60⟩, by rw [ht]; exact hP, hD⟩, hS.F ht⟩) hS.2.2 dX9_step_507
                          · refine lv_aload_n hx hb dX9_step_477 rfl (lv_at hl 0 rfl) ?_
                            refine lv_dup hx hb dX9_step_478 rfl ?_
                            refine yget (ci := 9) (k := 63) (v := .int (d_60.1 h0 63)) (C := RX9) (T := TX9) (N := 67) C0 hK hP hm_h0 hk_h0 (by decide) rfl inlX9 (by decide) mW866 (fun _ h9 => h9) rfl dX9_step_479 ?_
                            rw [← ez_63]
                            refine lv_iconst (v := 1) hx hb dX9_step_482 (by decide) ?_
                            refine lv_iadd hx hb dX9_step_483 ?_
                            refine lv_topi (fun z_70 ez_70 => ?_)
                            refine yputI (ci := 9) (k := 63) (ty := .int) (C := RX9) (T := TX9) (N := 67) C0 hK hP hD hS hm_h0 hk_h0 (by decide) rfl inlX9 tyX9 tyX9_ok nmX9 (by decide) mW866 (fun _ h9 => h9) rfl (by decide +kernel) rfl rfl (Nat.le_of_ble_eq_true rfl) ysi_9_63 dX9_step_484 (fun H locs hP hD hS => ?_)
                            obtain ⟨d_71, ed_71⟩ : ∃ z : yD, z = yi d_60 h0 63 z_70 := ⟨_, rfl⟩
                            rw [← ed_71] at hP hD
                            have hgd_71 : yAg S [9, 77, 78] d d_71 := by rw [ed_71]; exact yAg.i hgd_60 (by rw [hk_h0]; decide)
                            have hsd_71 : yAg S [9] d_60 d_71 := by rw [ed_71]; exact yAg.i yAg.rf (by rw [hk_h0]; decide)
                            have hPod_71 : yPo S d_71 := by rw [ed_71]; exact yPo.i hPod_60 hk_h0 (Or.inl rfl)
                            have hfd_71 : yK [54, 55, 57, 63, 64, 65] d d_71 h0 := by rw [ed_71]; exact yK.i hfd_60 (by decide)
                            have T_72 : (z_61 : Int32).toInt = (d_60.1 h0 64).toInt := by rw [ez_61]
                            have F_74 := feq (rfl : (z_61 : Int32).toInt = (z_61 : Int32).toInt) (rfl : (z_68 : Int32).toInt = (z_68 : Int32).toInt) c_69
                            have T_75 : (z_70 : Int32).toInt = (z_63 : Int32).toInt + 1 := tadd ez_70 (rfl : (z_63 : Int32).toInt = (z_63 : Int32).toInt) (by decide +kernel : (1 : Int32).toInt = 1) (by omega) (by omega)
                            have hId_71 : yMI S d_71 h0 := by rw [ed_71]; exact yMI.i63 hId_60 ⟨by omega, by omega⟩
                            have hE0d_71 : (d_71.1 h0 0).toInt = (d_60.1 h0 0).toInt := congrArg Int32.toInt ((show yK [63] d_60 d_71 h0 from by rw [ed_71]; exact yK.i yK.rf (by decide)) 0 (by decide))
                            have hE1d_71 : (d_71.1 h0 1).toInt = (d_60.1 h0 1).toInt := congrArg Int32.toInt ((show yK [63] d_60 d_71 h0 from by rw [ed_71]; exact yK.i yK.rf (by decide)) 1 (by decide))
                            have hE2d_71 : (d_71.1 h0 2).toInt = (d_60.1 h0 2).toInt := congrArg Int32.toInt ((show yK [63] d_60 d_71 h0 from by rw [ed_71]; exact yK.i yK.rf (by decide)) 2 (by decide))
                            have hE3d_71 : (d_71.1 h0 3).toInt = (d_60.1 h0 3).toInt := congrArg Int32.toInt ((show yK [63] d_60 d_71 h0 from by rw [ed_71]; exact yK.i yK.rf (by decide)) 3 (by decide))
                            have hE63d_71 : (d_71.1 h0 63).toInt = (z_70 : Int32).toInt := by rw [ed_71, yi_self]
                            refine lv_aload_n hx hb dX9_step_487 rfl (lv_at hl 0 rfl) ?_
                            refine lv_iconst (v := 0) hx hb dX9_step_488 (by decide) ?_
                            refine yputI (ci := 9) (k := 64) (ty := .int) (C := RX9) (T := TX9) (N := 67) C0 hK hP hD hS hm_h0 hk_h0 (by decide) rfl inlX9 tyX9 tyX9_ok nmX9 (by decide) mW867 (fun _ h9 => h9) rfl (by decide +kernel) rfl rfl (Nat.le_of_ble_eq_true rfl) ysi_9_64 dX9_step_489 (fun H locs hP hD hS => ?_)
                            obtain ⟨d_76, ed_76⟩ : ∃ z : yD, z = yi d_71 h0 64 0 := ⟨_, rfl⟩
                            rw [← ed_76] at hP hD
                            have hgd_76 : yAg S [9, 77, 78] d d_76 := by rw [ed_76]; exact yAg.i hgd_71 (by rw [hk_h0]; decide)
                            have hsd_76 : yAg S [9] d_71 d_76 := by rw [ed_76]; exact yAg.i yAg.rf (by rw [hk_h0]; decide)
                            have hPod_76 : yPo S d_76 := by rw [ed_76]; exact yPo.i hPod_71 hk_h0 (Or.inl rfl)
                            have hfd_76 : yK [54, 55, 57, 63, 64, 65] d d_76 h0 := by rw [ed_76]; exact yK.i hfd_71 (by decide)
                            have hId_76 : yMI S d_76 h0 := yMI.ag hId_71 hSh hm_h0 hk_h0 (show yAg S [9] d_71 d_76 from by rw [ed_76]; exact yAg.i yAg.rf (by rw [hk_h0]; decide)) (show yK [64] d_71 d_76 h0 from by rw [ed_76]; exact yK.i yK.rf (by decide)) (by decide) (by decide)
                            have hE0d_76 : (d_76.1 h0 0).toInt = (d_71.1 h0 0).toInt := congrArg Int32.toInt ((show yK [64] d_71 d_76 h0 from by rw [ed_76]; exact yK.i yK.rf (by decide)) 0 (by decide))
                            have hE1d_76 : (d_76.1 h0 1).toInt = (d_71.1 h0 1).toInt := congrArg Int32.toInt ((show yK [64] d_71 d_76 h0 from by rw [ed_76]; exact yK.i yK.rf (by decide)) 1 (by decide))
                            have hE2d_76 : (d_76.1 h0 2).toInt = (d_71.1 h0 2).toInt := congrArg Int32.toInt ((show yK [64] d_71 d_76 h0 from by rw [ed_76]; exact yK.i yK.rf (by decide)) 2 (by decide))
                            have hE3d_76 : (d_76.1 h0 3).toInt = (d_71.1 h0 3).toInt := congrArg Int32.toInt ((show yK [64] d_71 d_76 h0 from by rw [ed_76]; exact yK.i yK.rf (by decide)) 3 (by decide))
                            have hE63d_76 : (d_76.1 h0 63).toInt = (d_71.1 h0 63).toInt := congrArg Int32.toInt ((show yK [64] d_71 d_76 h0 from by rw [ed_76]; exact yK.i yK.rf (by decide)) 63 (by decide))
                            refine lv_goto (tgt := 507) hx hb dX9_step_492 (by decide) ?_
                            exact W.vret hx hb hr (fun t ht hW => ⟨⟨d_76, rfl, ⟨hgd_76, (fun _ => hPod_76), hfd_76, hId_76⟩, by rw [ht]; exact hP, hD⟩, hS.F ht⟩) hS.2.2 dX9_step_507
                        · refine lv_aload_n hx hb dX9_step_446 rfl (lv_at hl 0 rfl) ?_
                          refine lv_iload_n hx hb dX9_step_447 rfl (lv_at hl 1 rfl) ?_
                          refine yputI (ci := 9) (k := 65) (ty := .int) (C := RX9) (T := TX9) (N := 67) C0 hK hP hD hS hm_h0 hk_h0 (by decide) rfl inlX9 tyX9 tyX9_ok nmX9 (by decide) mW868 (fun _ h9 => h9) rfl (by decide +kernel) rfl rfl (Nat.le_of_ble_eq_true rfl) ysi_9_65 dX9_step_448 (fun H locs hP hD hS => ?_)
                          obtain ⟨d_77, ed_77⟩ : ∃ z : yD, z = yi d_38 h0 65 p1 := ⟨_, rfl⟩
                          rw [← ed_77] at hP hD
                          have hgd_77 : yAg S [9, 77, 78] d d_77 := by rw [ed_77]; exact yAg.i hgd_38 (by rw [hk_h0]; decide)
                          have hsd_77 : yAg S [9] d_38 d_77 := by rw [ed_77]; exact yAg.i yAg.rf (by rw [hk_h0]; decide)
                          have hPod_77 : yPo S d_77 := by rw [ed_77]; exact yPo.i hPod_38 hk_h0 (Or.inl rfl)
                          have hfd_77 : yK [54, 55, 57, 63, 64, 65] d d_77 h0 := by rw [ed_77]; exact yK.i hfd_38 (by decide)
                          have hId_77 : yMI S d_77 h0 := yMI.ag hId_38 hSh hm_h0 hk_h0 (show yAg S [9] d_38 d_77 from by rw [ed_77]; exact yAg.i yAg.rf (by rw [hk_h0]; decide)) (show yK [65] d_38 d_77 h0 from by rw [ed_77]; exact yK.i yK.rf (by decide)) (by decide) (by decide)
                          have hE0d_77 : (d_77.1 h0 0).toInt = (d_38.1 h0 0).toInt := congrArg Int32.toInt ((show yK [65] d_38 d_77 h0 from by rw [ed_77]; exact yK.i yK.rf (by decide)) 0 (by decide))
                          have hE1d_77 : (d_77.1 h0 1).toInt = (d_38.1 h0 1).toInt := congrArg Int32.toInt ((show yK [65] d_38 d_77 h0 from by rw [ed_77]; exact yK.i yK.rf (by decide)) 1 (by decide))
                          have hE2d_77 : (d_77.1 h0 2).toInt = (d_38.1 h0 2).toInt := congrArg Int32.toInt ((show yK [65] d_38 d_77 h0 from by rw [ed_77]; exact yK.i yK.rf (by decide)) 2 (by decide))
                          have hE3d_77 : (d_77.1 h0 3).toInt = (d_38.1 h0 3).toInt := congrArg Int32.toInt ((show yK [65] d_38 d_77 h0 from by rw [ed_77]; exact yK.i yK.rf (by decide)) 3 (by decide))
                          have hE63d_77 : (d_77.1 h0 63).toInt = (d_38.1 h0 63).toInt := congrArg Int32.toInt ((show yK [65] d_38 d_77 h0 from by rw [ed_77]; exact yK.i yK.rf (by decide)) 63 (by decide))
                          refine lv_aload_n hx hb dX9_step_451 rfl (lv_at hl 0 rfl) ?_
                          refine lv_dup hx hb dX9_step_452 rfl ?_
                          refine yget (ci := 9) (k := 64) (v := .int (d_77.1 h0 64)) (C := RX9) (T := TX9) (N := 67) C0 hK hP hm_h0 hk_h0 (by decide) rfl inlX9 (by decide) mW867 (fun _ h9 => h9) rfl dX9_step_453 ?_
                          refine lv_topi (fun z_78 ez_78 => ?_)
                          refine lv_iconst (v := 1) hx hb dX9_step_456 (by decide) ?_
                          refine lv_iadd hx hb dX9_step_457 ?_
                          refine lv_topi (fun z_79 ez_79 => ?_)
                          refine yputI (ci := 9) (k := 64) (ty := .int) (C := RX9) (T := TX9) (N := 67) C0 hK hP hD hS hm_h0 hk_h0 (by decide) rfl inlX9 tyX9 tyX9_ok nmX9 (by decide) mW867 (fun _ h9 => h9) rfl (by decide +kernel) rfl rfl (Nat.le_of_ble_eq_true rfl) ysi_9_64 dX9_step_458 (fun H locs hP hD hS => ?_)
                          obtain ⟨d_80, ed_80⟩ : ∃ z : yD, z = yi d_77 h0 64 z_79 := ⟨_, rfl⟩
                          rw [← ed_80] at hP hD
                          have hgd_80 : yAg S [9, 77, 78] d d_80 := by rw [ed_80]; exact yAg.i hgd_77 (by rw [hk_h0]; decide)
                          have hsd_80 : yAg S [9] d_77 d_80 := by rw [ed_80]; exact yAg.i yAg.rf (by rw [hk_h0]; decide)
                          have hPod_80 : yPo S d_80 := by rw [ed_80]; exact yPo.i hPod_77 hk_h0 (Or.inl rfl)
                          have hfd_80 : yK [54, 55, 57, 63, 64, 65] d d_80 h0 := by rw [ed_80]; exact yK.i hfd_77 (by decide)
                          have hId_80 : yMI S d_80 h0 := yMI.ag hId_77 hSh hm_h0 hk_h0 (show yAg S [9] d_77 d_80 from by rw [ed_80]; exact yAg.i yAg.rf (by rw [hk_h0]; decide)) (show yK [64] d_77 d_80 h0 from by rw [ed_80]; exact yK.i yK.rf (by decide)) (by decide) (by decide)
                          have hE0d_80 : (d_80.1 h0 0).toInt = (d_77.1 h0 0).toInt := congrArg Int32.toInt ((show yK [64] d_77 d_80 h0 from by rw [ed_80]; exact yK.i yK.rf (by decide)) 0 (by decide))
                          have hE1d_80 : (d_80.1 h0 1).toInt = (d_77.1 h0 1).toInt := congrArg Int32.toInt ((show yK [64] d_77 d_80 h0 from by rw [ed_80]; exact yK.i yK.rf (by decide)) 1 (by decide))
                          have hE2d_80 : (d_80.1 h0 2).toInt = (d_77.1 h0 2).toInt := congrArg Int32.toInt ((show yK [64] d_77 d_80 h0 from by rw [ed_80]; exact yK.i yK.rf (by decide)) 2 (by decide))
                          have hE3d_80 : (d_80.1 h0 3).toInt = (d_77.1 h0 3).toInt := congrArg Int32.toInt ((show yK [64] d_77 d_80 h0 from by rw [ed_80]; exact yK.i yK.rf (by decide)) 3 (by decide))
                          have hE63d_80 : (d_80.1 h0 63).toInt = (d_77.1 h0 63).toInt := congrArg Int32.toInt ((show yK [64] d_77 d_80 h0 from by rw [ed_80]; exact yK.i yK.rf (by decide)) 63 (by decide))
                          refine lv_aload_n hx hb dX9_step_461 rfl (lv_at hl 0 rfl) ?_
                          refine yget (ci := 9) (k := 64) (v := .int (d_80.1 h0 64)) (C := RX9) (T := TX9) (N := 67) C0 hK hP hm_h0 hk_h0 (by decide) rfl inlX9 (by decide) mW867 (fun _ h9 => h9) rfl dX9_step_462 ?_
                          refine lv_topi (fun z_81 ez_81 => ?_)
                          refine lv_aload_n hx hb dX9_step_465 rfl (lv_at hl 0 rfl) ?_
                          refine yget (ci := 9) (k := 18) (v := .ref (S.2.2.1 h0 18)) (C := RX9) (T := TX9) (N := 67) C0 hK hP hm_h0 hk_h0 (by decide) rfl inlX9 (by decide) mW125 (fun _ h9 => h9) rfl dX9_step_466 ?_
                          obtain ⟨hmy_82, hky_82⟩ := ySh.f9_18 hSh _ hm_h0 hk_h0
                          refine lv_aload_n hx hb dX9_step_469 rfl (lv_at hl 0 rfl) ?_
                          refine yget (ci := 9) (k := 63) (v := .int (d_80.1 h0 63)) (C := RX9) (T := TX9) (N := 67) C0 hK hP hm_h0 hk_h0 (by decide) rfl inlX9 (by decide) mW866 (fun _ h9 => h9) rfl dX9_step_470 ?_
                          refine lv_topi (fun z_83 ez_83 => ?_)
                          have hCC_84 := yMI.c hId_80
                          have F_86 := fne (rfl : (z_56 : Int32).toInt = (z_56 : Int32).toInt) (rfl : (v_15 : Int32).toInt = (v_15 : Int32).toInt) c_57
                          have T_87 : (z_83 : Int32).toInt = (d_80.1 h0 63).toInt := by rw [ez_83]
                          refine yald C0 hK hP hmy_82 hky_82 (by decide) rfl 0 rfl (xinT 500 rfl (by omega) (by omega)) dX9_step_473 ?_
                          refine lv_topi (fun z_88 ez_88 => ?_)
                          refine lv_icmp_ne (tgt := 507) hx hb dX9_step_474 (by decide) (fun c_89 => ?_) (fun c_89 => ?_)
                          · exact W.vret hx hb hr (fun t ht hW => ⟨⟨d_80, rfl, ⟨hgd_80, (fun _ => hPod_80), hfd_80, hId_80⟩, by rw [ht]; exact hP, hD⟩, hS.F ht⟩) hS.2.2 dX9_step_507
                          · refine lv_aload_n hx hb dX9_step_477 rfl (lv_at hl 0 rfl) ?_
                            refine lv_dup hx hb dX9_step_478 rfl ?_
                            refine yget (ci := 9) (k := 63) (v := .int (d_80.1 h0 63)) (C := RX9) (T := TX9) (N := 67) C0 hK hP hm_h0 hk_h0 (by decide) rfl inlX9 (by decide) mW866 (fun _ h9 => h9) rfl dX9_step_479 ?_
                            rw [← ez_83]
                            refine lv_iconst (v := 1) hx hb dX9_step_482 (by decide) ?_
                            refine lv_iadd hx hb dX9_step_483 ?_
                            refine lv_topi (fun z_90 ez_90 => ?_)
                            refine yputI (ci := 9) (k := 63) (ty := .int) (C := RX9) (T := TX9) (N := 67) C0 hK hP hD hS hm_h0 hk_h0 (by decide) rfl inlX9 tyX9 tyX9_ok nmX9 (by decide) mW866 (fun _ h9 => h9) rfl (by decide +kernel) rfl rfl (Nat.le_of_ble_eq_true rfl) ysi_9_63 dX9_step_484 (fun H locs hP hD hS => ?_)
                            obtain ⟨d_91, ed_91⟩ : ∃ z : yD, z = yi d_80 h0 63 z_90 := ⟨_, rfl⟩
                            rw [← ed_91] at hP hD
                            have hgd_91 : yAg S [9, 77, 78] d d_91 := by rw [ed_91]; exact yAg.i hgd_80 (by rw [hk_h0]; decide)
                            have hsd_91 : yAg S [9] d_80 d_91 := by rw [ed_91]; exact yAg.i yAg.rf (by rw [hk_h0]; decide)
                            have hPod_91 : yPo S d_91 := by rw [ed_91]; exact yPo.i hPod_80 hk_h0 (Or.inl rfl)
                            have hfd_91 : yK [54, 55, 57, 63, 64, 65] d d_91 h0 := by rw [ed_91]; exact yK.i hfd_80 (by decide)
                            have T_92 : (z_81 : Int32).toInt = (d_80.1 h0 64).toInt := by rw [ez_81]
                            have F_94 := feq (rfl : (z_81 : Int32).toInt = (z_81 : Int32).toInt) (rfl : (z_88 : Int32).toInt = (z_88 : Int32).toInt) c_89
                            have T_95 : (z_90 : Int32).toInt = (z_83 : Int32).toInt + 1 := tadd ez_90 (rfl : (z_83 : Int32).toInt = (z_83 : Int32).toInt) (by decide +kernel : (1 : Int32).toInt = 1) (by omega) (by omega)
                            have hId_91 : yMI S d_91 h0 := by rw [ed_91]; exact yMI.i63 hId_80 ⟨by omega, by omega⟩
                            have hE0d_91 : (d_91.1 h0 0).toInt = (d_80.1 h0 0).toInt := congrArg Int32.toInt ((show yK [63] d_80 d_91 h0 from by rw [ed_91]; exact yK.i yK.rf (by decide)) 0 (by decide))
                            have hE1d_91 : (d_91.1 h0 1).toInt = (d_80.1 h0 1).toInt := congrArg Int32.toInt ((show yK [63] d_80 d_91 h0 from by rw [ed_91]; exact yK.i yK.rf (by decide)) 1 (by decide))
                            have hE2d_91 : (d_91.1 h0 2).toInt = (d_80.1 h0 2).toInt := congrArg Int32.toInt ((show yK [63] d_80 d_91 h0 from by rw [ed_91]; exact yK.i yK.rf (by decide)) 2 (by decide))
                            have hE3d_91 : (d_91.1 h0 3).toInt = (d_80.1 h0 3).toInt := congrArg Int32.toInt ((show yK [63] d_80 d_91 h0 from by rw [ed_91]; exact yK.i yK.rf (by decide)) 3 (by decide))
                            have hE63d_91 : (d_91.1 h0 63).toInt = (z_90 : Int32).toInt := by rw [ed_91, yi_self]
                            refine lv_aload_n hx hb dX9_step_487 rfl (lv_at hl 0 rfl) ?_
                            refine lv_iconst (v := 0) hx hb dX9_step_488 (by decide) ?_
                            refine yputI (ci := 9) (k := 64) (ty := .int) (C := RX9) (T := TX9) (N := 67) C0 hK hP hD hS hm_h0 hk_h0 (by decide) rfl inlX9 tyX9 tyX9_ok nmX9 (by decide) mW867 (fun _ h9 => h9) rfl (by decide +kernel) rfl rfl (Nat.le_of_ble_eq_true rfl) ysi_9_64 dX9_step_489 (fun H locs hP hD hS => ?_)
                            obtain ⟨d_96, ed_96⟩ : ∃ z : yD, z = yi d_91 h0 64 0 := ⟨_, rfl⟩
                            rw [← ed_96] at hP hD
                            have hgd_96 : yAg S [9, 77, 78] d d_96 := by rw [ed_96]; exact yAg.i hgd_91 (by rw [hk_h0]; decide)
                            have hsd_96 : yAg S [9] d_91 d_96 := by rw [ed_96]; exact yAg.i yAg.rf (by rw [hk_h0]; decide)
                            have hPod_96 : yPo S d_96 := by rw [ed_96]; exact yPo.i hPod_91 hk_h0 (Or.inl rfl)
                            have hfd_96 : yK [54, 55, 57, 63, 64, 65] d d_96 h0 := by rw [ed_96]; exact yK.i hfd_91 (by decide)
                            have hId_96 : yMI S d_96 h0 := yMI.ag hId_91 hSh hm_h0 hk_h0 (show yAg S [9] d_91 d_96 from by rw [ed_96]; exact yAg.i yAg.rf (by rw [hk_h0]; decide)) (show yK [64] d_91 d_96 h0 from by rw [ed_96]; exact yK.i yK.rf (by decide)) (by decide) (by decide)
                            have hE0d_96 : (d_96.1 h0 0).toInt = (d_91.1 h0 0).toInt := congrArg Int32.toInt ((show yK [64] d_91 d_96 h0 from by rw [ed_96]; exact yK.i yK.rf (by decide)) 0 (by decide))
                            have hE1d_96 : (d_96.1 h0 1).toInt = (d_91.1 h0 1).toInt := congrArg Int32.toInt ((show yK [64] d_91 d_96 h0 from by rw [ed_96]; exact yK.i yK.rf (by decide)) 1 (by decide))
                            have hE2d_96 : (d_96.1 h0 2).toInt = (d_91.1 h0 2).toInt := congrArg Int32.toInt ((show yK [64] d_91 d_96 h0 from by rw [ed_96]; exact yK.i yK.rf (by decide)) 2 (by decide))
                            have hE3d_96 : (d_96.1 h0 3).toInt = (d_91.1 h0 3).toInt := congrArg Int32.toInt ((show yK [64] d_91 d_96 h0 from by rw [ed_96]; exact yK.i yK.rf (by decide)) 3 (by decide))
                            have hE63d_96 : (d_96.1 h0 63).toInt = (d_91.1 h0 63).toInt := congrArg Int32.toInt ((show yK [64] d_91 d_96 h0 from by rw [ed_96]; exact yK.i yK.rf (by decide)) 63 (by decide))
                            refine lv_goto (tgt := 507) hx hb dX9_step_492 (by decide) ?_
                            exact W.vret hx hb hr (fun t ht hW => ⟨⟨d_96, rfl, ⟨hgd_96, (fun _ => hPod_96), hfd_96, hId_96⟩, by rw [ht]; exact hP, hD⟩, hS.F ht⟩) hS.2.2 dX9_step_507
                  refine lv_icmp_ne (tgt := 414) hx hb dX9_step_401 (by decide) (fun c_97 => ?_) (fun c_97 => ?_)
                  · exact J414_37 d_36 _ _ ls _ ⟨rfl, hP, hD, hS, hgd_36, hPod_36, hfd_36, hId_36, yAg.rf, yK.rf, lv_sub hl [0, 1, 2] rfl⟩
                  · refine lv_aload_n hx hb dX9_step_404 rfl (lv_at hl 0 rfl) ?_
                    refine lv_dup hx hb dX9_step_405 rfl ?_
                    refine yget (ci := 9) (k := 57) (v := .int (d_36.1 h0 57)) (C := RX9) (T := TX9) (N := 67) C0 hK hP hm_h0 hk_h0 (by decide) rfl inlX9 (by decide) mW880 (fun _ h9 => h9) rfl dX9_step_406 ?_
                    refine lv_topi (fun z_98 ez_98 => ?_)
                    refine lv_iconst (v := 1) hx hb dX9_step_409 (by decide) ?_
                    refine lv_iadd hx hb dX9_step_410 ?_
                    refine lv_topi (fun z_99 ez_99 => ?_)
                    refine yputI (ci := 9) (k := 57) (ty := .int) (C := RX9) (T := TX9) (N := 67) C0 hK hP hD hS hm_h0 hk_h0 (by decide) rfl inlX9 tyX9 tyX9_ok nmX9 (by decide) mW880 (fun _ h9 => h9) rfl (by decide +kernel) rfl rfl (Nat.le_of_ble_eq_true rfl) ysi_9_57 dX9_step_411 (fun H locs hP hD hS => ?_)
                    obtain ⟨d_100, ed_100⟩ : ∃ z : yD, z = yi d_36 h0 57 z_99 := ⟨_, rfl⟩
                    rw [← ed_100] at hP hD
                    have hgd_100 : yAg S [9, 77, 78] d d_100 := by rw [ed_100]; exact yAg.i hgd_36 (by rw [hk_h0]; decide)
                    have hsd_100 : yAg S [9] d_36 d_100 := by rw [ed_100]; exact yAg.i yAg.rf (by rw [hk_h0]; decide)
                    have hPod_100 : yPo S d_100 := by rw [ed_100]; exact yPo.i hPod_36 hk_h0 (Or.inl rfl)
                    have hfd_100 : yK [54, 55, 57, 63, 64, 65] d d_100 h0 := by rw [ed_100]; exact yK.i hfd_36 (by decide)
                    have hL0d_100 : yAg S [9] d_36 d_100 := by rw [ed_100]; exact yAg.i yAg.rf (by rw [hk_h0]; decide)
                    have hK0d_100 : yK [57] d_36 d_100 h0 := by rw [ed_100]; exact yK.i yK.rf (by decide)
                    have hId_100 : yMI S d_100 h0 := yMI.ag hId_36 hSh hm_h0 hk_h0 (show yAg S [9] d_36 d_100 from by rw [ed_100]; exact yAg.i yAg.rf (by rw [hk_h0]; decide)) (show yK [57] d_36 d_100 h0 from by rw [ed_100]; exact yK.i yK.rf (by decide)) (by decide) (by decide)
                    have hE0d_100 : (d_100.1 h0 0).toInt = (d_36.1 h0 0).toInt := congrArg Int32.toInt ((show yK [57] d_36 d_100 h0 from by rw [ed_100]; exact yK.i yK.rf (by decide)) 0 (by decide))
                    have hE1d_100 : (d_100.1 h0 1).toInt = (d_36.1 h0 1).toInt := congrArg Int32.toInt ((show yK [57] d_36 d_100 h0 from by rw [ed_100]; exact yK.i yK.rf (by decide)) 1 (by decide))
                    have hE2d_100 : (d_100.1 h0 2).toInt = (d_36.1 h0 2).toInt := congrArg Int32.toInt ((show yK [57] d_36 d_100 h0 from by rw [ed_100]; exact yK.i yK.rf (by decide)) 2 (by decide))
                    have hE3d_100 : (d_100.1 h0 3).toInt = (d_36.1 h0 3).toInt := congrArg Int32.toInt ((show yK [57] d_36 d_100 h0 from by rw [ed_100]; exact yK.i yK.rf (by decide)) 3 (by decide))
                    have hE63d_100 : (d_100.1 h0 63).toInt = (d_36.1 h0 63).toInt := congrArg Int32.toInt ((show yK [57] d_36 d_100 h0 from by rw [ed_100]; exact yK.i yK.rf (by decide)) 63 (by decide))
                    exact J414_37 d_100 _ _ ls _ ⟨rfl, hP, hD, hS, hgd_100, hPod_100, hfd_100, hId_100, hL0d_100, hK0d_100, lv_sub hl [0, 1, 2] rfl⟩
                refine lv_icmp_lt (tgt := 395) hx hb dX9_step_372 (by decide) (fun c_101 => ?_) (fun c_101 => ?_)
                · exact J395_35 d_34 _ _ ls _ ⟨rfl, hP, hD, hS, hgd_34, hPod_34, hfd_34, hId_34, yAg.rf, yK.rf, lv_sub hl [0, 1, 2] rfl⟩
                · refine lv_iload_n hx hb dX9_step_375 rfl (lv_at hl 1 rfl) ?_
                  refine lv_aload_n hx hb dX9_step_376 rfl (lv_at hl 0 rfl) ?_
                  refine yget (ci := 9) (k := 52) (v := .int (d_34.1 h0 52)) (C := RX9) (T := TX9) (N := 67) C0 hK hP hm_h0 hk_h0 (by decide) rfl inlX9 (by decide) mW864 (fun _ h9 => h9) rfl dX9_step_377 ?_
                  refine lv_topi (fun z_102 ez_102 => ?_)
                  refine lv_icmp_ge (tgt := 395) hx hb dX9_step_380 (by decide) (fun c_103 => ?_) (fun c_103 => ?_)
                  · exact J395_35 d_34 _ _ ls _ ⟨rfl, hP, hD, hS, hgd_34, hPod_34, hfd_34, hId_34, yAg.rf, yK.rf, lv_sub hl [0, 1, 2] rfl⟩
                  · refine lv_aload_n hx hb dX9_step_383 rfl (lv_at hl 0 rfl) ?_
                    refine lv_dup hx hb dX9_step_384 rfl ?_
                    refine yget (ci := 9) (k := 56) (v := .long (d_34.2.1 h0 56)) (C := RX9) (T := TX9) (N := 67) C0 hK hP hm_h0 hk_h0 (by decide) rfl inlX9 (by decide) mW879 (fun _ h9 => h9) rfl dX9_step_385 ?_
                    refine lv_topl (fun z_104 ez_104 => ?_)
                    refine lv_iload hx hb dX9_step_388 (lv_at hl 3 rfl) ?_
                    refine lv_i2l hx hb dX9_step_390 rfl ?_
                    rw [← ez_21]
                    refine lv_ladd hx hb dX9_step_391 ?_
                    refine lv_topl (fun z_105 ez_105 => ?_)
                    refine yputJ (ci := 9) (k := 56) (C := RX9) (T := TX9) (N := 67) C0 hK hP hD hS hm_h0 hk_h0 (by decide) rfl inlX9 tyX9 tyX9_ok nmX9 (by decide) mW879 (fun _ h9 => h9) rfl (by decide +kernel) (Nat.le_of_ble_eq_true rfl) ysj_9_56 dX9_step_392 (fun H locs hP hD hS => ?_)
                    obtain ⟨d_106, ed_106⟩ : ∃ z : yD, z = yj d_34 h0 56 z_105 := ⟨_, rfl⟩
                    rw [← ed_106] at hP hD
                    have hgd_106 : yAg S [9, 77, 78] d d_106 := by rw [ed_106]; exact yAg.j hgd_34 (by rw [hk_h0]; decide)
                    have hsd_106 : yAg S [9] d_34 d_106 := by rw [ed_106]; exact yAg.j yAg.rf (by rw [hk_h0]; decide)
                    have hPod_106 : yPo S d_106 := by rw [ed_106]; exact hPod_34
                    have hfd_106 : yK [54, 55, 57, 63, 64, 65] d d_106 h0 := yK.ag hfd_34 (show yAg S [9] d_34 d_106 from by rw [ed_106]; exact yAg.j yAg.rf (by rw [hk_h0]; decide)) (by rw [hk_h0]; decide)
                    have hL0d_106 : yAg S [9] d_34 d_106 := by rw [ed_106]; exact yAg.j yAg.rf (by rw [hk_h0]; decide)
                    have hK0d_106 : yK [] d_34 d_106 h0 := yK.ag yK.rf (show yAg S [9] d_34 d_106 from by rw [ed_106]; exact yAg.j yAg.rf (by rw [hk_h0]; decide)) (by rw [hk_h0]; decide)
                    have hId_106 : yMI S d_106 h0 := yMI.ag hId_34 hSh hm_h0 hk_h0 (show yAg S [9] d_34 d_106 from by rw [ed_106]; exact yAg.j yAg.rf (by rw [hk_h0]; decide)) (yK.ag (F := []) yK.rf (show yAg S [9] d_34 d_106 from by rw [ed_106]; exact yAg.j yAg.rf (by rw [hk_h0]; decide)) (by rw [hk_h0]; decide)) (by decide) (by decide)
                    have hE0d_106 : (d_106.1 h0 0).toInt = (d_34.1 h0 0).toInt := congrArg Int32.toInt ((yK.ag (F := []) yK.rf (show yAg S [9] d_34 d_106 from by rw [ed_106]; exact yAg.j yAg.rf (by rw [hk_h0]; decide)) (by rw [hk_h0]; decide)) 0 (by decide))
                    have hE1d_106 : (d_106.1 h0 1).toInt = (d_34.1 h0 1).toInt := congrArg Int32.toInt ((yK.ag (F := []) yK.rf (show yAg S [9] d_34 d_106 from by rw [ed_106]; exact yAg.j yAg.rf (by rw [hk_h0]; decide)) (by rw [hk_h0]; decide)) 1 (by decide))
                    have hE2d_106 : (d_106.1 h0 2).toInt = (d_34.1 h0 2).toInt := congrArg Int32.toInt ((yK.ag (F := []) yK.rf (show yAg S [9] d_34 d_106 from by rw [ed_106]; exact yAg.j yAg.rf (by rw [hk_h0]; decide)) (by rw [hk_h0]; decide)) 2 (by decide))
                    have hE3d_106 : (d_106.1 h0 3).toInt = (d_34.1 h0 3).toInt := congrArg Int32.toInt ((yK.ag (F := []) yK.rf (show yAg S [9] d_34 d_106 from by rw [ed_106]; exact yAg.j yAg.rf (by rw [hk_h0]; decide)) (by rw [hk_h0]; decide)) 3 (by decide))
                    have hE63d_106 : (d_106.1 h0 63).toInt = (d_34.1 h0 63).toInt := congrArg Int32.toInt ((yK.ag (F := []) yK.rf (show yAg S [9] d_34 d_106 from by rw [ed_106]; exact yAg.j yAg.rf (by rw [hk_h0]; decide)) (by rw [hk_h0]; decide)) 63 (by decide))
                    exact J395_35 d_106 _ _ ls _ ⟨rfl, hP, hD, hS, hgd_106, hPod_106, hfd_106, hId_106, hL0d_106, hK0d_106, lv_sub hl [0, 1, 2] rfl⟩
              refine lv_icmp_ne (tgt := 367) hx hb dX9_step_341 (by decide) (fun c_107 => ?_) (fun c_107 => ?_)
              · exact J367_33 d_32 _ _ ls _ ⟨rfl, hP, hD, hS, hgd_32, hPod_32, hfd_32, hId_32, yAg.rf, yK.rf, lv_sub hl [0, 2, 3, 4] rfl⟩
              · refine lv_aload_n hx hb dX9_step_344 rfl (lv_at hl 0 rfl) ?_
                refine lv_iload hx hb dX9_step_345 (lv_at hl 3 rfl) ?_
                refine yputI (ci := 9) (k := 54) (ty := .int) (C := RX9) (T := TX9) (N := 67) C0 hK hP hD hS hm_h0 hk_h0 (by decide) rfl inlX9 tyX9 tyX9_ok nmX9 (by decide) mW878 (fun _ h9 => h9) rfl (by decide +kernel) rfl rfl (Nat.le_of_ble_eq_true rfl) ysi_9_54 dX9_step_347 (fun H locs hP hD hS => ?_)
                obtain ⟨d_108, ed_108⟩ : ∃ z : yD, z = yi d_32 h0 54 v_15 := ⟨_, rfl⟩
                rw [← ed_108] at hP hD
                have hgd_108 : yAg S [9, 77, 78] d d_108 := by rw [ed_108]; exact yAg.i hgd_32 (by rw [hk_h0]; decide)
                have hsd_108 : yAg S [9] d_32 d_108 := by rw [ed_108]; exact yAg.i yAg.rf (by rw [hk_h0]; decide)
                have hPod_108 : yPo S d_108 := by rw [ed_108]; exact yPo.i hPod_32 hk_h0 (Or.inl rfl)
                have hfd_108 : yK [54, 55, 57, 63, 64, 65] d d_108 h0 := by rw [ed_108]; exact yK.i hfd_32 (by decide)
                have hL0d_108 : yAg S [9] d_32 d_108 := by rw [ed_108]; exact yAg.i yAg.rf (by rw [hk_h0]; decide)
                have hK0d_108 : yK [54, 55] d_32 d_108 h0 := by rw [ed_108]; exact yK.i yK.rf (by decide)
                have hId_108 : yMI S d_108 h0 := yMI.ag hId_32 hSh hm_h0 hk_h0 (show yAg S [9] d_32 d_108 from by rw [ed_108]; exact yAg.i yAg.rf (by rw [hk_h0]; decide)) (show yK [54] d_32 d_108 h0 from by rw [ed_108]; exact yK.i yK.rf (by decide)) (by decide) (by decide)
                have hE0d_108 : (d_108.1 h0 0).toInt = (d_32.1 h0 0).toInt := congrArg Int32.toInt ((show yK [54] d_32 d_108 h0 from by rw [ed_108]; exact yK.i yK.rf (by decide)) 0 (by decide))
                have hE1d_108 : (d_108.1 h0 1).toInt = (d_32.1 h0 1).toInt := congrArg Int32.toInt ((show yK [54] d_32 d_108 h0 from by rw [ed_108]; exact yK.i yK.rf (by decide)) 1 (by decide))
                have hE2d_108 : (d_108.1 h0 2).toInt = (d_32.1 h0 2).toInt := congrArg Int32.toInt ((show yK [54] d_32 d_108 h0 from by rw [ed_108]; exact yK.i yK.rf (by decide)) 2 (by decide))
                have hE3d_108 : (d_108.1 h0 3).toInt = (d_32.1 h0 3).toInt := congrArg Int32.toInt ((show yK [54] d_32 d_108 h0 from by rw [ed_108]; exact yK.i yK.rf (by decide)) 3 (by decide))
                have hE63d_108 : (d_108.1 h0 63).toInt = (d_32.1 h0 63).toInt := congrArg Int32.toInt ((show yK [54] d_32 d_108 h0 from by rw [ed_108]; exact yK.i yK.rf (by decide)) 63 (by decide))
                refine lv_aload_n hx hb dX9_step_350 rfl (lv_at hl 0 rfl) ?_
                refine lv_iload hx hb dX9_step_351 (lv_at hl 3 rfl) ?_
                refine lv_bipush (v := (-3)) hx hb dX9_step_353 (by decide) ?_
                refine lv_icmp_ne (tgt := 362) hx hb dX9_step_355 (by decide) (fun c_109 => ?_) (fun c_109 => ?_)
                · refine lv_iload hx hb dX9_step_362 (lv_at hl 4 rfl) ?_
                  refine yputI (ci := 9) (k := 55) (ty := .int) (C := RX9) (T := TX9) (N := 67) C0 hK hP hD hS hm_h0 hk_h0 (by decide) rfl inlX9 tyX9 tyX9_ok nmX9 (by decide) mW856 (fun _ h9 => h9) rfl (by decide +kernel) rfl rfl (Nat.le_of_ble_eq_true rfl) ysi_9_55 dX9_step_364 (fun H locs hP hD hS => ?_)
                  obtain ⟨d_110, ed_110⟩ : ∃ z : yD, z = yi d_108 h0 55 v_16 := ⟨_, rfl⟩
                  rw [← ed_110] at hP hD
                  have hgd_110 : yAg S [9, 77, 78] d d_110 := by rw [ed_110]; exact yAg.i hgd_108 (by rw [hk_h0]; decide)
                  have hsd_110 : yAg S [9] d_108 d_110 := by rw [ed_110]; exact yAg.i yAg.rf (by rw [hk_h0]; decide)
                  have hPod_110 : yPo S d_110 := by rw [ed_110]; exact yPo.i hPod_108 hk_h0 (Or.inl rfl)
                  have hfd_110 : yK [54, 55, 57, 63, 64, 65] d d_110 h0 := by rw [ed_110]; exact yK.i hfd_108 (by decide)
                  have hL0d_110 : yAg S [9] d_32 d_110 := by rw [ed_110]; exact yAg.i hL0d_108 (by rw [hk_h0]; decide)
                  have hK0d_110 : yK [54, 55] d_32 d_110 h0 := by rw [ed_110]; exact yK.i hK0d_108 (by decide)
                  have hId_110 : yMI S d_110 h0 := yMI.ag hId_108 hSh hm_h0 hk_h0 (show yAg S [9] d_108 d_110 from by rw [ed_110]; exact yAg.i yAg.rf (by rw [hk_h0]; decide)) (show yK [55] d_108 d_110 h0 from by rw [ed_110]; exact yK.i yK.rf (by decide)) (by decide) (by decide)
                  have hE0d_110 : (d_110.1 h0 0).toInt = (d_108.1 h0 0).toInt := congrArg Int32.toInt ((show yK [55] d_108 d_110 h0 from by rw [ed_110]; exact yK.i yK.rf (by decide)) 0 (by decide))
                  have hE1d_110 : (d_110.1 h0 1).toInt = (d_108.1 h0 1).toInt := congrArg Int32.toInt ((show yK [55] d_108 d_110 h0 from by rw [ed_110]; exact yK.i yK.rf (by decide)) 1 (by decide))
                  have hE2d_110 : (d_110.1 h0 2).toInt = (d_108.1 h0 2).toInt := congrArg Int32.toInt ((show yK [55] d_108 d_110 h0 from by rw [ed_110]; exact yK.i yK.rf (by decide)) 2 (by decide))
                  have hE3d_110 : (d_110.1 h0 3).toInt = (d_108.1 h0 3).toInt := congrArg Int32.toInt ((show yK [55] d_108 d_110 h0 from by rw [ed_110]; exact yK.i yK.rf (by decide)) 3 (by decide))
                  have hE63d_110 : (d_110.1 h0 63).toInt = (d_108.1 h0 63).toInt := congrArg Int32.toInt ((show yK [55] d_108 d_110 h0 from by rw [ed_110]; exact yK.i yK.rf (by decide)) 63 (by decide))
                  exact J367_33 d_110 _ _ ls _ ⟨rfl, hP, hD, hS, hgd_110, hPod_110, hfd_110, hId_110, hL0d_110, hK0d_110, lv_sub hl [0, 2, 3, 4] rfl⟩
                · refine lv_iconst (v := 3) hx hb dX9_step_358 (by decide) ?_
                  refine lv_goto (tgt := 364) hx hb dX9_step_359 (by decide) ?_
                  refine yputI (ci := 9) (k := 55) (ty := .int) (C := RX9) (T := TX9) (N := 67) C0 hK hP hD hS hm_h0 hk_h0 (by decide) rfl inlX9 tyX9 tyX9_ok nmX9 (by decide) mW856 (fun _ h9 => h9) rfl (by decide +kernel) rfl rfl (Nat.le_of_ble_eq_true rfl) ysi_9_55 dX9_step_364 (fun H locs hP hD hS => ?_)
                  obtain ⟨d_111, ed_111⟩ : ∃ z : yD, z = yi d_108 h0 55 3 := ⟨_, rfl⟩
                  rw [← ed_111] at hP hD
                  have hgd_111 : yAg S [9, 77, 78] d d_111 := by rw [ed_111]; exact yAg.i hgd_108 (by rw [hk_h0]; decide)
                  have hsd_111 : yAg S [9] d_108 d_111 := by rw [ed_111]; exact yAg.i yAg.rf (by rw [hk_h0]; decide)
                  have hPod_111 : yPo S d_111 := by rw [ed_111]; exact yPo.i hPod_108 hk_h0 (Or.inl rfl)
                  have hfd_111 : yK [54, 55, 57, 63, 64, 65] d d_111 h0 := by rw [ed_111]; exact yK.i hfd_108 (by decide)
                  have hL0d_111 : yAg S [9] d_32 d_111 := by rw [ed_111]; exact yAg.i hL0d_108 (by rw [hk_h0]; decide)
                  have hK0d_111 : yK [54, 55] d_32 d_111 h0 := by rw [ed_111]; exact yK.i hK0d_108 (by decide)
                  have hId_111 : yMI S d_111 h0 := yMI.ag hId_108 hSh hm_h0 hk_h0 (show yAg S [9] d_108 d_111 from by rw [ed_111]; exact yAg.i yAg.rf (by rw [hk_h0]; decide)) (show yK [55] d_108 d_111 h0 from by rw [ed_111]; exact yK.i yK.rf (by decide)) (by decide) (by decide)
                  have hE0d_111 : (d_111.1 h0 0).toInt = (d_108.1 h0 0).toInt := congrArg Int32.toInt ((show yK [55] d_108 d_111 h0 from by rw [ed_111]; exact yK.i yK.rf (by decide)) 0 (by decide))
                  have hE1d_111 : (d_111.1 h0 1).toInt = (d_108.1 h0 1).toInt := congrArg Int32.toInt ((show yK [55] d_108 d_111 h0 from by rw [ed_111]; exact yK.i yK.rf (by decide)) 1 (by decide))
                  have hE2d_111 : (d_111.1 h0 2).toInt = (d_108.1 h0 2).toInt := congrArg Int32.toInt ((show yK [55] d_108 d_111 h0 from by rw [ed_111]; exact yK.i yK.rf (by decide)) 2 (by decide))
                  have hE3d_111 : (d_111.1 h0 3).toInt = (d_108.1 h0 3).toInt := congrArg Int32.toInt ((show yK [55] d_108 d_111 h0 from by rw [ed_111]; exact yK.i yK.rf (by decide)) 3 (by decide))
                  have hE63d_111 : (d_111.1 h0 63).toInt = (d_108.1 h0 63).toInt := congrArg Int32.toInt ((show yK [55] d_108 d_111 h0 from by rw [ed_111]; exact yK.i yK.rf (by decide)) 63 (by decide))
                  exact J367_33 d_111 _ _ ls _ ⟨rfl, hP, hD, hS, hgd_111, hPod_111, hfd_111, hId_111, hL0d_111, hK0d_111, lv_sub hl [0, 2, 3, 4] rfl⟩
            · exact W.vret hx hb hr (fun t ht hW => ⟨⟨d_27, rfl, ⟨hgd_27, (fun _ => hPod_27), hfd_27, hId_27⟩, by rw [ht]; exact hP, hD⟩, hS.F ht⟩) hS.2.2 dX9_step_323
          refine lv_if_eq (tgt := 315) hx hb dX9_step_295 (by decide) (fun c_112 => ?_) (fun c_112 => ?_)
          · exact J315_26 d_26 _ _ ls _ ⟨rfl, hP, hD, hS, hgd_26, hPod_26, hfd_26, hId_26, yAg.rf, yK.rf, lv_sub hl [1, 2, 3, 5, 6] rfl⟩
          · refine lv_aload_n hx hb dX9_step_298 rfl (lv_at hl 1 rfl) ?_
            refine yget (ci := 9) (k := 58) (v := .long (d_26.2.1 h0 58)) (C := RX9) (T := TX9) (N := 67) C0 hK hP hm_h0 hk_h0 (by decide) rfl inlX9 (by decide) mW873 (fun _ h9 => h9) rfl dX9_step_299 ?_
            refine lv_topl (fun z_113 ez_113 => ?_)
            refine lv_aload_n hx hb dX9_step_302 rfl (lv_at hl 1 rfl) ?_
            refine yget (ci := 9) (k := 59) (v := .long (d_26.2.1 h0 59)) (C := RX9) (T := TX9) (N := 67) C0 hK hP hm_h0 hk_h0 (by decide) rfl inlX9 (by decide) mW874 (fun _ h9 => h9) rfl dX9_step_303 ?_
            refine lv_topl (fun z_114 ez_114 => ?_)
            refine W.lcmp hx hb dX9_step_306 ?_
            refine lv_topi (fun z_115 ez_115 => ?_)
            refine lv_if_lt (tgt := 315) hx hb dX9_step_307 (by decide) (fun c_116 => ?_) (fun c_116 => ?_)
            · exact J315_26 d_26 _ _ ls _ ⟨rfl, hP, hD, hS, hgd_26, hPod_26, hfd_26, hId_26, yAg.rf, yK.rf, lv_sub hl [1, 2, 3, 5, 6] rfl⟩
            · refine lv_aload_n hx hb dX9_step_310 rfl (lv_at hl 1 rfl) ?_
              refine lv_lload_n hx hb dX9_step_311 rfl (lv_at hl 4 rfl) ?_
              refine yputJ (ci := 9) (k := 61) (C := RX9) (T := TX9) (N := 67) C0 hK hP hD hS hm_h0 hk_h0 (by decide) rfl inlX9 tyX9 tyX9_ok nmX9 (by decide) mW876 (fun _ h9 => h9) rfl (by decide +kernel) (Nat.le_of_ble_eq_true rfl) ysj_9_61 dX9_step_312 (fun H locs hP hD hS => ?_)
              obtain ⟨d_117, ed_117⟩ : ∃ z : yD, z = yj d_26 h0 61 p2 := ⟨_, rfl⟩
              rw [← ed_117] at hP hD
              have hgd_117 : yAg S [9, 77, 78] d d_117 := by rw [ed_117]; exact yAg.j hgd_26 (by rw [hk_h0]; decide)
              have hsd_117 : yAg S [9] d_26 d_117 := by rw [ed_117]; exact yAg.j yAg.rf (by rw [hk_h0]; decide)
              have hPod_117 : yPo S d_117 := by rw [ed_117]; exact hPod_26
              have hfd_117 : yK [54, 55, 57, 63, 64, 65] d d_117 h0 := yK.ag hfd_26 (show yAg S [9] d_26 d_117 from by rw [ed_117]; exact yAg.j yAg.rf (by rw [hk_h0]; decide)) (by rw [hk_h0]; decide)
              have hL1d_117 : yAg S [9] d_26 d_117 := by rw [ed_117]; exact yAg.j yAg.rf (by rw [hk_h0]; decide)
              have hK1d_117 : yK [] d_26 d_117 h0 := yK.ag yK.rf (show yAg S [9] d_26 d_117 from by rw [ed_117]; exact yAg.j yAg.rf (by rw [hk_h0]; decide)) (by rw [hk_h0]; decide)
              have hId_117 : yMI S d_117 h0 := yMI.ag hId_26 hSh hm_h0 hk_h0 (show yAg S [9] d_26 d_117 from by rw [ed_117]; exact yAg.j yAg.rf (by rw [hk_h0]; decide)) (yK.ag (F := []) yK.rf (show yAg S [9] d_26 d_117 from by rw [ed_117]; exact yAg.j yAg.rf (by rw [hk_h0]; decide)) (by rw [hk_h0]; decide)) (by decide) (by decide)
              have hE0d_117 : (d_117.1 h0 0).toInt = (d_26.1 h0 0).toInt := congrArg Int32.toInt ((yK.ag (F := []) yK.rf (show yAg S [9] d_26 d_117 from by rw [ed_117]; exact yAg.j yAg.rf (by rw [hk_h0]; decide)) (by rw [hk_h0]; decide)) 0 (by decide))
              have hE1d_117 : (d_117.1 h0 1).toInt = (d_26.1 h0 1).toInt := congrArg Int32.toInt ((yK.ag (F := []) yK.rf (show yAg S [9] d_26 d_117 from by rw [ed_117]; exact yAg.j yAg.rf (by rw [hk_h0]; decide)) (by rw [hk_h0]; decide)) 1 (by decide))
              have hE2d_117 : (d_117.1 h0 2).toInt = (d_26.1 h0 2).toInt := congrArg Int32.toInt ((yK.ag (F := []) yK.rf (show yAg S [9] d_26 d_117 from by rw [ed_117]; exact yAg.j yAg.rf (by rw [hk_h0]; decide)) (by rw [hk_h0]; decide)) 2 (by decide))
              have hE3d_117 : (d_117.1 h0 3).toInt = (d_26.1 h0 3).toInt := congrArg Int32.toInt ((yK.ag (F := []) yK.rf (show yAg S [9] d_26 d_117 from by rw [ed_117]; exact yAg.j yAg.rf (by rw [hk_h0]; decide)) (by rw [hk_h0]; decide)) 3 (by decide))
              have hE63d_117 : (d_117.1 h0 63).toInt = (d_26.1 h0 63).toInt := congrArg Int32.toInt ((yK.ag (F := []) yK.rf (show yAg S [9] d_26 d_117 from by rw [ed_117]; exact yAg.j yAg.rf (by rw [hk_h0]; decide)) (by rw [hk_h0]; decide)) 63 (by decide))
              exact J315_26 d_117 _ _ ls _ ⟨rfl, hP, hD, hS, hgd_117, hPod_117, hfd_117, hId_117, hL1d_117, hK1d_117, lv_sub hl [1, 2, 3, 5, 6] rfl⟩
        refine lv_if_ge (tgt := 268) hx hb dX9_step_261 (by decide) (fun c_118 => ?_) (fun c_118 => ?_)
        · refine lv_iconst (v := 0) hx hb dX9_step_268 (by decide) ?_
          exact J269_20 0 ls _ ⟨rfl, lv_sub hl [0, 1, 2, 3, 4, 5] rfl, Or.inl rfl⟩
        · refine lv_iconst (v := 1) hx hb dX9_step_264 (by decide) ?_
          refine lv_goto (tgt := 269) hx hb dX9_step_265 (by decide) ?_
          exact J269_20 1 ls _ ⟨rfl, lv_sub hl [0, 1, 2, 3, 4, 5] rfl, Or.inr rfl⟩
      refine lv_if_eq (tgt := 252) hx hb dX9_step_150 (by decide) (fun c_119 => ?_) (fun c_119 => ?_)
      · exact J252_16 ((-3), v_10) ls _ ⟨rfl, lv_sub hl [2, 3, 4, 5, 1, 0] rfl⟩
      · refine lv_aload_n hx hb dX9_step_153 rfl (lv_at hl 2 rfl) ?_
        refine lv_iload_n hx hb dX9_step_154 rfl (lv_at hl 3 rfl) ?_
        refine lv_iload_n hx hb dX9_step_155 rfl (lv_at hl 4 rfl) ?_
        refine lv_aload_n hx hb dX9_step_156 rfl (lv_at hl 2 rfl) ?_
        refine yget (ci := 9) (k := 47) (v := .ref (S.2.2.1 h0 47)) (C := RX9) (T := TX9) (N := 67) C0 hK hP hm_h0 hk_h0 (by decide) rfl inlX9 (by decide) mW152 (fun _ h9 => h9) rfl dX9_step_157 ?_
        obtain ⟨hmy_120, hky_120⟩ := ySh.f9_47 hSh _ hm_h0 hk_h0
        refine lv_iload_n hx hb dX9_step_160 rfl (lv_at hl 3 rfl) ?_
        have F_121 := fne (rfl : (r_14 : Int32).toInt = (r_14 : Int32).toInt) (by decide +kernel : (0 : Int32).toInt = 0) c_119
        refine yald C0 hK hP hmy_120 hky_120 (by decide) rfl 0 rfl (xinT 8 rfl (by omega) (by omega)) dX9_step_161 ?_
        refine lv_topi (fun z_122 ez_122 => ?_)
        refine lv_aload_n hx hb dX9_step_162 rfl (lv_at hl 2 rfl) ?_
        refine yget (ci := 9) (k := 58) (v := .long (d_2.2.1 h0 58)) (C := RX9) (T := TX9) (N := 67) C0 hK hP hm_h0 hk_h0 (by decide) rfl inlX9 (by decide) mW873 (fun _ h9 => h9) rfl dX9_step_163 ?_
        refine lv_topl (fun z_123 ez_123 => ?_)
        refine lv_aload_n hx hb dX9_step_166 rfl (lv_at hl 2 rfl) ?_
        refine yget (ci := 9) (k := 59) (v := .long (d_2.2.1 h0 59)) (C := RX9) (T := TX9) (N := 67) C0 hK hP hm_h0 hk_h0 (by decide) rfl inlX9 (by decide) mW874 (fun _ h9 => h9) rfl dX9_step_167 ?_
        refine lv_topl (fun z_124 ez_124 => ?_)
        refine W.lcmp hx hb dX9_step_170 ?_
        refine lv_topi (fun z_125 ez_125 => ?_)
        refine yjoinR (σ := Int32) 179 (fun x ls st => st = [.int x, .int z_122, .int p1, .int p0, .ref h0] ∧ lv_has ls 12 [(0, .ref h0), (1, .int p0), (2, .int p1), (3, .long p2), (6, .int p4), (7, .int p5), (8, .int p6)] ∧ (x = 0 ∨ x = 1)) (fun x ls st hI => ?_) (fun J179_126 => ?_)
        · obtain ⟨v_126, rfl⟩ : ∃ z, z = x := ⟨_, rfl⟩
          obtain ⟨rfl, hl, hzv_126⟩ := hI
          have hl : lv_has ls 12 [(0, .ref h0), (1, .int p0), (2, .int p1), (3, .long p2), (6, .int p4), (7, .int p5), (8, .int p6)] := hl
          refine lv_iload hx hb dX9_step_179 (lv_at hl 4 rfl) ?_
          refine lv_iload hx hb dX9_step_181 (lv_at hl 5 rfl) ?_
          refine lv_iload hx hb dX9_step_183 (lv_at hl 6 rfl) ?_
          refine yVri (As := [.int p0, .int p1, .int z_122, .int v_126, .int p4, .int p5, .int p6]) (rest := []) C0 (g_X9_teller l G S d_2 h0 p0 p1 z_122 v_126 p4 p5 p6 hSh hm_h0 hk_h0 hId_2 (by refine ⟨?_, ?_⟩ <;> omega) (by refine ⟨?_, ?_⟩ <;> omega) (by refine ⟨?_, ?_⟩ <;> omega)) ok_X9_teller (mW889 : Cond.methodLink RX9 298 yX9_teller ∈ wsT) ⟨Nat.le_of_ble_eq_true rfl, Nat.le_of_ble_eq_true rfl⟩ hP hD hK hN hm_h0 hk_h0 (by decide) rfl rfl rfl hl.1 rfl (Nat.le_of_ble_eq_true rfl) ⟨Nat.le_of_ble_eq_true rfl, Nat.le_of_ble_eq_true rfl⟩ dX9_step_185 (fun r_127 hr_127 => ?_)
          refine lv_istore (lv' := [(9, .int r_127), (0, .ref h0), (1, .int p0), (2, .int p1), (3, .long p2), (6, .int p4), (7, .int p5), (8, .int p6)]) hx hb dX9_step_188 hl (by decide) rfl (fun ls hl => ?_)
          refine lv_aload_n hx hb dX9_step_190 rfl (lv_at hl 1 rfl) ?_
          refine lv_iload_n hx hb dX9_step_191 rfl (lv_at hl 2 rfl) ?_
          refine lv_iconst (v := 1) hx hb dX9_step_192 (by decide) ?_
          refine yVri (As := [.int p0, .int 1]) (rest := []) C0 (g_X9_of l G S d_2 h0 p0 1 hSh hm_h0 hk_h0 (by refine ⟨?_, ?_⟩ <;> omega) (by decide +kernel)) ok_X9_of (mW425 : Cond.methodLink RX9 161 yX9_of ∈ wsT) ⟨Nat.le_of_ble_eq_true rfl, Nat.le_of_ble_eq_true rfl⟩ hP hD hK hN hm_h0 hk_h0 (by decide) rfl rfl rfl hl.1 rfl (Nat.le_of_ble_eq_true rfl) ⟨Nat.le_of_ble_eq_true rfl, Nat.le_of_ble_eq_true rfl⟩ dX9_step_193 (fun r_128 hr_128 => ?_)
          have hOr_128 : (r_128 : Int32).toInt = yOf S d_2 h0 (p0 : Int32).toInt.toNat 1 := by rw [hr_128, show (1 : Int32).toInt.toNat = 1 by decide +kernel]; rfl
          have hbr_128 := xof1 hId_2 (p := p0) (by refine ⟨?_, ?_⟩ <;> omega) hr_128
          refine lv_iload hx hb dX9_step_196 (lv_at hl 7 rfl) ?_
          refine lv_icmp_ne (tgt := 213) hx hb dX9_step_198 (by decide) (fun c_129 => ?_) (fun c_129 => ?_)
          · refine lv_iload hx hb dX9_step_213 (lv_at hl 0 rfl) ?_
            refine lv_istore (lv' := [(11, .int r_127), (9, .int r_127), (0, .ref h0), (1, .int p0), (2, .int p1), (3, .long p2), (6, .int p4), (7, .int p5), (8, .int p6)]) hx hb dX9_step_215 hl (by decide) rfl (fun ls hl => ?_)
            refine lv_iload hx hb dX9_step_217 (lv_at hl 1 rfl) ?_
            refine lv_bipush (v := (-2)) hx hb dX9_step_219 (by decide) ?_
            refine lv_icmp_ne (tgt := 228) hx hb dX9_step_221 (by decide) (fun c_130 => ?_) (fun c_130 => ?_)
            · refine lv_aload_n hx hb dX9_step_228 rfl (lv_at hl 2 rfl) ?_
              refine lv_bipush (v := 60) hx hb dX9_step_229 (by decide) ?_
              refine lv_aload_n hx hb dX9_step_231 rfl (lv_at hl 2 rfl) ?_
              refine lv_iload_n hx hb dX9_step_232 rfl (lv_at hl 3 rfl) ?_
              refine lv_iconst (v := 1) hx hb dX9_step_233 (by decide) ?_
              have F_131 := fne (rfl : (r_128 : Int32).toInt = (r_128 : Int32).toInt) (rfl : (p6 : Int32).toInt = (p6 : Int32).toInt) c_129
              have F_132 := fne (rfl : (r_127 : Int32).toInt = (r_127 : Int32).toInt) (by decide +kernel : ((-2) : Int32).toInt = (-2)) c_130
              refine yVri (As := [.int p0, .int 1]) (rest := [.int 60, .ref h0]) C0 (g_X9_of l G S d_2 h0 p0 1 hSh hm_h0 hk_h0 (by refine ⟨?_, ?_⟩ <;> omega) (by decide +kernel)) ok_X9_of (mW425 : Cond.methodLink RX9 161 yX9_of ∈ wsT) ⟨Nat.le_of_ble_eq_true rfl, Nat.le_of_ble_eq_true rfl⟩ hP hD hK hN hm_h0 hk_h0 (by decide) rfl rfl rfl hl.1 rfl (Nat.le_of_ble_eq_true rfl) ⟨Nat.le_of_ble_eq_true rfl, Nat.le_of_ble_eq_true rfl⟩ dX9_step_234 (fun r_133 hr_133 => ?_)
              have hOr_133 : (r_133 : Int32).toInt = yOf S d_2 h0 (p0 : Int32).toInt.toNat 1 := by rw [hr_133, show (1 : Int32).toInt.toNat = 1 by decide +kernel]; rfl
              have hbr_133 := xof1 hId_2 (p := p0) (by refine ⟨?_, ?_⟩ <;> omega) hr_133
              refine lv_imul hx hb dX9_step_237 ?_
              refine lv_topi (fun z_134 ez_134 => ?_)
              refine lv_iload hx hb dX9_step_238 (lv_at hl 0 rfl) ?_
              refine lv_iadd hx hb dX9_step_240 ?_
              refine lv_topi (fun z_135 ez_135 => ?_)
              refine lv_aload_n hx hb dX9_step_241 rfl (lv_at hl 2 rfl) ?_
              refine yget (ci := 9) (k := 47) (v := .ref (S.2.2.1 h0 47)) (C := RX9) (T := TX9) (N := 67) C0 hK hP hm_h0 hk_h0 (by decide) rfl inlX9 (by decide) mW152 (fun _ h9 => h9) rfl dX9_step_242 ?_
              refine lv_iload_n hx hb dX9_step_245 rfl (lv_at hl 3 rfl) ?_
              refine yald C0 hK hP hmy_120 hky_120 (by decide) rfl 0 rfl (xinT 8 rfl (by omega) (by omega)) dX9_step_246 ?_
              rw [← ez_122]
              have T_137 : (z_134 : Int32).toInt = 60 * (r_133 : Int32).toInt := tmul ez_134 (by decide +kernel : (60 : Int32).toInt = 60) (rfl : (r_133 : Int32).toInt = (r_133 : Int32).toInt) (by omega) (by omega)
              have T_136 : (z_135 : Int32).toInt = (z_134 : Int32).toInt + (r_127 : Int32).toInt := tadd ez_135 (rfl : (z_134 : Int32).toInt = (z_134 : Int32).toInt) (rfl : (r_127 : Int32).toInt = (r_127 : Int32).toInt) (by omega) (by omega)
              refine yVri (As := [.int z_135, .int z_122]) (rest := []) C0 (g_X9_adds l G S d_2 h0 z_135 z_122 hSh hm_h0 hk_h0 (by refine ⟨?_, ?_⟩ <;> omega)) ok_X9_adds (mW901 : Cond.methodLink RX9 302 yX9_adds ∈ wsT) ⟨Nat.le_of_ble_eq_true rfl, Nat.le_of_ble_eq_true rfl⟩ hP hD hK hN hm_h0 hk_h0 (by decide) rfl rfl rfl hl.1 rfl (Nat.le_of_ble_eq_true rfl) ⟨Nat.le_of_ble_eq_true rfl, Nat.le_of_ble_eq_true rfl⟩ dX9_step_247 (fun r_138 hr_138 => ?_)
              refine lv_istore (lv' := [(10, .int r_138), (11, .int r_127), (9, .int r_127), (0, .ref h0), (1, .int p0), (2, .int p1), (3, .long p2), (6, .int p4), (7, .int p5), (8, .int p6)]) hx hb dX9_step_250 hl (by decide) rfl (fun ls hl => ?_)
              exact J252_16 (r_127, r_138) ls _ ⟨rfl, lv_sub hl [3, 4, 5, 6, 2, 0] rfl⟩
            · refine lv_iconst (v := 2) hx hb dX9_step_224 (by decide) ?_
              refine lv_goto (tgt := 250) hx hb dX9_step_225 (by decide) ?_
              refine lv_istore (lv' := [(10, .int 2), (11, .int r_127), (9, .int r_127), (0, .ref h0), (1, .int p0), (2, .int p1), (3, .long p2), (6, .int p4), (7, .int p5), (8, .int p6)]) hx hb dX9_step_250 hl (by decide) rfl (fun ls hl => ?_)
              exact J252_16 (r_127, 2) ls _ ⟨rfl, lv_sub hl [3, 4, 5, 6, 2, 0] rfl⟩
          · refine lv_iload hx hb dX9_step_201 (lv_at hl 0 rfl) ?_
            refine lv_iload hx hb dX9_step_203 (lv_at hl 5 rfl) ?_
            refine lv_icmp_ne (tgt := 213) hx hb dX9_step_205 (by decide) (fun c_139 => ?_) (fun c_139 => ?_)
            · refine lv_iload hx hb dX9_step_213 (lv_at hl 0 rfl) ?_
              refine lv_istore (lv' := [(11, .int r_127), (9, .int r_127), (0, .ref h0), (1, .int p0), (2, .int p1), (3, .long p2), (6, .int p4), (7, .int p5), (8, .int p6)]) hx hb dX9_step_215 hl (by decide) rfl (fun ls hl => ?_)
              refine lv_iload hx hb dX9_step_217 (lv_at hl 1 rfl) ?_
              refine lv_bipush (v := (-2)) hx hb dX9_step_219 (by decide) ?_
              refine lv_icmp_ne (tgt := 228) hx hb dX9_step_221 (by decide) (fun c_140 => ?_) (fun c_140 => ?_)
              · refine lv_aload_n hx hb dX9_step_228 rfl (lv_at hl 2 rfl) ?_
                refine lv_bipush (v := 60) hx hb dX9_step_229 (by decide) ?_
                refine lv_aload_n hx hb dX9_step_231 rfl (lv_at hl 2 rfl) ?_
                refine lv_iload_n hx hb dX9_step_232 rfl (lv_at hl 3 rfl) ?_
                refine lv_iconst (v := 1) hx hb dX9_step_233 (by decide) ?_
                have F_141 := feq (rfl : (r_128 : Int32).toInt = (r_128 : Int32).toInt) (rfl : (p6 : Int32).toInt = (p6 : Int32).toInt) c_129
                have F_142 := fne (rfl : (r_127 : Int32).toInt = (r_127 : Int32).toInt) (rfl : (p4 : Int32).toInt = (p4 : Int32).toInt) c_139
                have F_143 := fne (rfl : (r_127 : Int32).toInt = (r_127 : Int32).toInt) (by decide +kernel : ((-2) : Int32).toInt = (-2)) c_140
                refine yVri (As := [.int p0, .int 1]) (rest := [.int 60, .ref h0]) C0 (g_X9_of l G S d_2 h0 p0 1 hSh hm_h0 hk_h0 (by refine ⟨?_, ?_⟩ <;> omega) (by decide +kernel)) ok_X9_of (mW425 : Cond.methodLink RX9 161 yX9_of ∈ wsT) ⟨Nat.le_of_ble_eq_true rfl, Nat.le_of_ble_eq_true rfl⟩ hP hD hK hN hm_h0 hk_h0 (by decide) rfl rfl rfl hl.1 rfl (Nat.le_of_ble_eq_true rfl) ⟨Nat.le_of_ble_eq_true rfl, Nat.le_of_ble_eq_true rfl⟩ dX9_step_234 (fun r_144 hr_144 => ?_)
                have hOr_144 : (r_144 : Int32).toInt = yOf S d_2 h0 (p0 : Int32).toInt.toNat 1 := by rw [hr_144, show (1 : Int32).toInt.toNat = 1 by decide +kernel]; rfl
                have hbr_144 := xof1 hId_2 (p := p0) (by refine ⟨?_, ?_⟩ <;> omega) hr_144
                refine lv_imul hx hb dX9_step_237 ?_
                refine lv_topi (fun z_145 ez_145 => ?_)
                refine lv_iload hx hb dX9_step_238 (lv_at hl 0 rfl) ?_
                refine lv_iadd hx hb dX9_step_240 ?_
                refine lv_topi (fun z_146 ez_146 => ?_)
                refine lv_aload_n hx hb dX9_step_241 rfl (lv_at hl 2 rfl) ?_
                refine yget (ci := 9) (k := 47) (v := .ref (S.2.2.1 h0 47)) (C := RX9) (T := TX9) (N := 67) C0 hK hP hm_h0 hk_h0 (by decide) rfl inlX9 (by decide) mW152 (fun _ h9 => h9) rfl dX9_step_242 ?_
                refine lv_iload_n hx hb dX9_step_245 rfl (lv_at hl 3 rfl) ?_
                refine yald C0 hK hP hmy_120 hky_120 (by decide) rfl 0 rfl (xinT 8 rfl (by omega) (by omega)) dX9_step_246 ?_
                rw [← ez_122]
                have T_148 : (z_145 : Int32).toInt = 60 * (r_144 : Int32).toInt := tmul ez_145 (by decide +kernel : (60 : Int32).toInt = 60) (rfl : (r_144 : Int32).toInt = (r_144 : Int32).toInt) (by omega) (by omega)
                have T_147 : (z_146 : Int32).toInt = (z_145 : Int32).toInt + (r_127 : Int32).toInt := tadd ez_146 (rfl : (z_145 : Int32).toInt = (z_145 : Int32).toInt) (rfl : (r_127 : Int32).toInt = (r_127 : Int32).toInt) (by omega) (by omega)
                refine yVri (As := [.int z_146, .int z_122]) (rest := []) C0 (g_X9_adds l G S d_2 h0 z_146 z_122 hSh hm_h0 hk_h0 (by refine ⟨?_, ?_⟩ <;> omega)) ok_X9_adds (mW901 : Cond.methodLink RX9 302 yX9_adds ∈ wsT) ⟨Nat.le_of_ble_eq_true rfl, Nat.le_of_ble_eq_true rfl⟩ hP hD hK hN hm_h0 hk_h0 (by decide) rfl rfl rfl hl.1 rfl (Nat.le_of_ble_eq_true rfl) ⟨Nat.le_of_ble_eq_true rfl, Nat.le_of_ble_eq_true rfl⟩ dX9_step_247 (fun r_149 hr_149 => ?_)
                refine lv_istore (lv' := [(10, .int r_149), (11, .int r_127), (9, .int r_127), (0, .ref h0), (1, .int p0), (2, .int p1), (3, .long p2), (6, .int p4), (7, .int p5), (8, .int p6)]) hx hb dX9_step_250 hl (by decide) rfl (fun ls hl => ?_)
                exact J252_16 (r_127, r_149) ls _ ⟨rfl, lv_sub hl [3, 4, 5, 6, 2, 0] rfl⟩
              · refine lv_iconst (v := 2) hx hb dX9_step_224 (by decide) ?_
                refine lv_goto (tgt := 250) hx hb dX9_step_225 (by decide) ?_
                refine lv_istore (lv' := [(10, .int 2), (11, .int r_127), (9, .int r_127), (0, .ref h0), (1, .int p0), (2, .int p1), (3, .long p2), (6, .int p4), (7, .int p5), (8, .int p6)]) hx hb dX9_step_250 hl (by decide) rfl (fun ls hl => ?_)
                exact J252_16 (r_127, 2) ls _ ⟨rfl, lv_sub hl [3, 4, 5, 6, 2, 0] rfl⟩
            · refine lv_iload hx hb dX9_step_208 (lv_at hl 6 rfl) ?_
              refine lv_goto (tgt := 215) hx hb dX9_step_210 (by decide) ?_
              refine lv_istore (lv' := [(11, .int p5), (9, .int r_127), (0, .ref h0), (1, .int p0), (2, .int p1), (3, .long p2), (6, .int p4), (7, .int p5), (8, .int p6)]) hx hb dX9_step_215 hl (by decide) rfl (fun ls hl => ?_)
              refine lv_iload hx hb dX9_step_217 (lv_at hl 1 rfl) ?_
              refine lv_bipush (v := (-2)) hx hb dX9_step_219 (by decide) ?_
              refine lv_icmp_ne (tgt := 228) hx hb dX9_step_221 (by decide) (fun c_150 => ?_) (fun c_150 => ?_)
              · refine lv_aload_n hx hb dX9_step_228 rfl (lv_at hl 2 rfl) ?_
                refine lv_bipush (v := 60) hx hb dX9_step_229 (by decide) ?_
                refine lv_aload_n hx hb dX9_step_231 rfl (lv_at hl 2 rfl) ?_
                refine lv_iload_n hx hb dX9_step_232 rfl (lv_at hl 3 rfl) ?_
                refine lv_iconst (v := 1) hx hb dX9_step_233 (by decide) ?_
                have F_151 := feq (rfl : (r_128 : Int32).toInt = (r_128 : Int32).toInt) (rfl : (p6 : Int32).toInt = (p6 : Int32).toInt) c_129
                have F_152 := feq (rfl : (r_127 : Int32).toInt = (r_127 : Int32).toInt) (rfl : (p4 : Int32).toInt = (p4 : Int32).toInt) c_139
                have F_153 := fne (rfl : (r_127 : Int32).toInt = (r_127 : Int32).toInt) (by decide +kernel : ((-2) : Int32).toInt = (-2)) c_150
                refine yVri (As := [.int p0, .int 1]) (rest := [.int 60, .ref h0]) C0 (g_X9_of l G S d_2 h0 p0 1 hSh hm_h0 hk_h0 (by refine ⟨?_, ?_⟩ <;> omega) (by decide +kernel)) ok_X9_of (mW425 : Cond.methodLink RX9 161 yX9_of ∈ wsT) ⟨Nat.le_of_ble_eq_true rfl, Nat.le_of_ble_eq_true rfl⟩ hP hD hK hN hm_h0 hk_h0 (by decide) rfl rfl rfl hl.1 rfl (Nat.le_of_ble_eq_true rfl) ⟨Nat.le_of_ble_eq_true rfl, Nat.le_of_ble_eq_true rfl⟩ dX9_step_234 (fun r_154 hr_154 => ?_)
                have hOr_154 : (r_154 : Int32).toInt = yOf S d_2 h0 (p0 : Int32).toInt.toNat 1 := by rw [hr_154, show (1 : Int32).toInt.toNat = 1 by decide +kernel]; rfl
                have hbr_154 := xof1 hId_2 (p := p0) (by refine ⟨?_, ?_⟩ <;> omega) hr_154
                refine lv_imul hx hb dX9_step_237 ?_
                refine lv_topi (fun z_155 ez_155 => ?_)
                refine lv_iload hx hb dX9_step_238 (lv_at hl 0 rfl) ?_
                refine lv_iadd hx hb dX9_step_240 ?_
                refine lv_topi (fun z_156 ez_156 => ?_)
                refine lv_aload_n hx hb dX9_step_241 rfl (lv_at hl 2 rfl) ?_
                refine yget (ci := 9) (k := 47) (v := .ref (S.2.2.1 h0 47)) (C := RX9) (T := TX9) (N := 67) C0 hK hP hm_h0 hk_h0 (by decide) rfl inlX9 (by decide) mW152 (fun _ h9 => h9) rfl dX9_step_242 ?_
                refine lv_iload_n hx hb dX9_step_245 rfl (lv_at hl 3 rfl) ?_
                refine yald C0 hK hP hmy_120 hky_120 (by decide) rfl 0 rfl (xinT 8 rfl (by omega) (by omega)) dX9_step_246 ?_
                rw [← ez_122]
                have T_158 : (z_155 : Int32).toInt = 60 * (r_154 : Int32).toInt := tmul ez_155 (by decide +kernel : (60 : Int32).toInt = 60) (rfl : (r_154 : Int32).toInt = (r_154 : Int32).toInt) (by omega) (by omega)
                have T_157 : (z_156 : Int32).toInt = (z_155 : Int32).toInt + (p5 : Int32).toInt := tadd ez_156 (rfl : (z_155 : Int32).toInt = (z_155 : Int32).toInt) (rfl : (p5 : Int32).toInt = (p5 : Int32).toInt) (by omega) (by omega)
                refine yVri (As := [.int z_156, .int z_122]) (rest := []) C0 (g_X9_adds l G S d_2 h0 z_156 z_122 hSh hm_h0 hk_h0 (by refine ⟨?_, ?_⟩ <;> omega)) ok_X9_adds (mW901 : Cond.methodLink RX9 302 yX9_adds ∈ wsT) ⟨Nat.le_of_ble_eq_true rfl, Nat.le_of_ble_eq_true rfl⟩ hP hD hK hN hm_h0 hk_h0 (by decide) rfl rfl rfl hl.1 rfl (Nat.le_of_ble_eq_true rfl) ⟨Nat.le_of_ble_eq_true rfl, Nat.le_of_ble_eq_true rfl⟩ dX9_step_247 (fun r_159 hr_159 => ?_)
                refine lv_istore (lv' := [(10, .int r_159), (11, .int p5), (9, .int r_127), (0, .ref h0), (1, .int p0), (2, .int p1), (3, .long p2), (6, .int p4), (7, .int p5), (8, .int p6)]) hx hb dX9_step_250 hl (by decide) rfl (fun ls hl => ?_)
                exact J252_16 (r_127, r_159) ls _ ⟨rfl, lv_sub hl [3, 4, 5, 6, 2, 0] rfl⟩
              · refine lv_iconst (v := 2) hx hb dX9_step_224 (by decide) ?_
                refine lv_goto (tgt := 250) hx hb dX9_step_225 (by decide) ?_
                refine lv_istore (lv' := [(10, .int 2), (11, .int p5), (9, .int r_127), (0, .ref h0), (1, .int p0), (2, .int p1), (3, .long p2), (6, .int p4), (7, .int p5), (8, .int p6)]) hx hb dX9_step_250 hl (by decide) rfl (fun ls hl => ?_)
                exact J252_16 (r_127, 2) ls _ ⟨rfl, lv_sub hl [3, 4, 5, 6, 2, 0] rfl⟩
        refine lv_if_lt (tgt := 178) hx hb dX9_step_171 (by decide) (fun c_160 => ?_) (fun c_160 => ?_)
        · refine lv_iconst (v := 0) hx hb dX9_step_178 (by decide) ?_
          exact J179_126 0 ls _ ⟨rfl, lv_sub hl [2, 3, 4, 5, 6, 7, 8] rfl, Or.inl rfl⟩
        · refine lv_iconst (v := 1) hx hb dX9_step_174 (by decide) ?_
          refine lv_goto (tgt := 179) hx hb dX9_step_175 (by decide) ?_
          exact J179_126 1 ls _ ⟨rfl, lv_sub hl [2, 3, 4, 5, 6, 7, 8] rfl, Or.inr rfl⟩
    refine lv_if_eq (tgt := 141) hx hb dX9_step_134 (by decide) (fun c_161 => ?_) (fun c_161 => ?_)
    · refine lv_iconst (v := 0) hx hb dX9_step_141 (by decide) ?_
      exact J142_10 0 ls _ ⟨rfl, lv_sub hl [0, 1, 2, 3, 4, 6, 7, 8] rfl⟩
    · refine lv_iconst (v := 2) hx hb dX9_step_137 (by decide) ?_
      refine lv_goto (tgt := 142) hx hb dX9_step_138 (by decide) ?_
      exact J142_10 2 ls _ ⟨rfl, lv_sub hl [0, 1, 2, 3, 4, 6, 7, 8] rfl⟩
  · refine lv_aload_n hx hb dX9_step_13 rfl (lv_at hl 0 rfl) ?_
    refine yget (ci := 9) (k := 15) (v := .ref (S.2.2.1 h0 15)) (C := RX9) (T := TX9) (N := 67) C0 hK hP hm_h0 hk_h0 (by decide) rfl inlX9 (by decide) mW122 (fun _ h9 => h9) rfl dX9_step_14 ?_
    obtain ⟨hmy_162, hky_162⟩ := ySh.f9_15 hSh _ hm_h0 hk_h0
    refine lv_aload_n hx hb dX9_step_17 rfl (lv_at hl 0 rfl) ?_
    refine yget (ci := 9) (k := 48) (v := .ref (S.2.2.1 h0 48)) (C := RX9) (T := TX9) (N := 67) C0 hK hP hm_h0 hk_h0 (by decide) rfl inlX9 (by decide) mW153 (fun _ h9 => h9) rfl dX9_step_18 ?_
    refine lv_iload_n hx hb dX9_step_21 rfl (lv_at hl 1 rfl) ?_
    have T_164 : (z_8 : Int32).toInt = (d_2.1 h0 1).toInt := by rw [ez_8]
    have F_165 := fnle (rfl : (z_8 : Int32).toInt = (z_8 : Int32).toInt) (rfl : (z_7 : Int32).toInt = (z_7 : Int32).toInt) c_9
    refine yald C0 hK hP hmy_5 hky_5 (by decide) rfl 0 rfl (xinT 8 rfl (by omega) (by omega)) dX9_step_22 ?_
    rw [← ez_7]
    have hvz_7 : 0 ≤ (z_7 : Int32).toInt ∧ (z_7 : Int32).toInt ≤ 5000 := by rw [ez_7]; exact yMI.ne_ hId_2 _
    refine yaldB C0 hK hP hmy_162 hky_162 (by decide) rfl 1 rfl (xinT 5000 rfl (by omega) (by omega)) dX9_step_23 ?_
    refine lv_topi (fun z_166 ez_166 => ?_)
    refine lv_iload_n hx hb dX9_step_24 rfl (lv_at hl 1 rfl) ?_
    refine lv_icmp_lt (tgt := 58) hx hb dX9_step_25 (by decide) (fun c_167 => ?_) (fun c_167 => ?_)
    · refine lv_aload_n hx hb dX9_step_58 rfl (lv_at hl 0 rfl) ?_
      refine yget (ci := 9) (k := 48) (v := .ref (S.2.2.1 h0 48)) (C := RX9) (T := TX9) (N := 67) C0 hK hP hm_h0 hk_h0 (by decide) rfl inlX9 (by decide) mW153 (fun _ h9 => h9) rfl dX9_step_59 ?_
      refine lv_iload_n hx hb dX9_step_62 rfl (lv_at hl 1 rfl) ?_
      have F_169 := flt (rfl : (z_166 : Int32).toInt = (z_166 : Int32).toInt) (rfl : (p0 : Int32).toInt = (p0 : Int32).toInt) c_167
      refine yald C0 hK hP hmy_5 hky_5 (by decide) rfl 0 rfl (xinT 8 rfl (by omega) (by omega)) dX9_step_63 ?_
      rw [← ez_7]
      have hvz_7 : 0 ≤ (z_7 : Int32).toInt ∧ (z_7 : Int32).toInt ≤ 5000 := by rw [ez_7]; exact yMI.ne_ hId_2 _
      refine lv_istore (lv' := [(9, .int z_7), (0, .ref h0), (1, .int p0), (2, .int p1), (3, .long p2), (5, .int p3), (6, .int p4), (7, .int p5), (8, .int p6)]) hx hb dX9_step_64 hl (by decide) rfl (fun ls hl => ?_)
      refine lv_aload_n hx hb dX9_step_66 rfl (lv_at hl 1 rfl) ?_
      refine yget (ci := 9) (k := 15) (v := .ref (S.2.2.1 h0 15)) (C := RX9) (T := TX9) (N := 67) C0 hK hP hm_h0 hk_h0 (by decide) rfl inlX9 (by decide) mW122 (fun _ h9 => h9) rfl dX9_step_67 ?_
      refine lv_iload hx hb dX9_step_70 (lv_at hl 0 rfl) ?_
      refine yaldB C0 hK hP hmy_162 hky_162 (by decide) rfl 1 rfl (xinT 5000 rfl (by omega) (by omega)) dX9_step_72 ?_
      rw [← ez_166]
      refine lv_iload_n hx hb dX9_step_73 rfl (lv_at hl 2 rfl) ?_
      refine yjoin (σ := yD) 115 (fun x H locs ls st => st = [] ∧ va_P G.1 xcl (yW G S x) H ∧ va_D A (yW G S x) ∧ va_S A s.heap H locs ∧ yAg S [9, 77, 78] d x ∧ yPo S x ∧ yK [54, 55, 57, 63, 64, 65] d x h0 ∧ yMI S x h0 ∧ yAg S [77] d_2 x ∧ yK [] d_2 x h0 ∧ yAg S [77, 78] d x ∧ yK [] d x h0 ∧ lv_has ls 12 [(0, .ref h0), (1, .int p0), (2, .int p1), (3, .long p2), (5, .int p3), (6, .int p4), (7, .int p5), (8, .int p6)]) (fun x H locs ls st hI => ?_) (fun J115_169 => ?_)
      · obtain ⟨d_170, rfl⟩ : ∃ z, z = x := ⟨_, rfl⟩
        obtain ⟨rfl, hP, hD, hS, hgd_170, hPod_170, hfd_170, hId_170, hLJd_170, hKJd_170, hL0d_170, hK0d_170, hl⟩ := hI
        have hId_170 : yMI S d_170 h0 := hId_170
        have hl : lv_has ls 12 [(0, .ref h0), (1, .int p0), (2, .int p1), (3, .long p2), (5, .int p3), (6, .int p4), (7, .int p5), (8, .int p6)] := hl
        have hE0d_170 : (d_170.1 h0 0).toInt = (d_2.1 h0 0).toInt := congrArg Int32.toInt (hKJd_170 0 (by decide))
        have hE1d_170 : (d_170.1 h0 1).toInt = (d_2.1 h0 1).toInt := congrArg Int32.toInt (hKJd_170 1 (by decide))
        have hE2d_170 : (d_170.1 h0 2).toInt = (d_2.1 h0 2).toInt := congrArg Int32.toInt (hKJd_170 2 (by decide))
        have hE3d_170 : (d_170.1 h0 3).toInt = (d_2.1 h0 3).toInt := congrArg Int32.toInt (hKJd_170 3 (by decide))
        have hE63d_170 : (d_170.1 h0 63).toInt = (d_2.1 h0 63).toInt := congrArg Int32.toInt (hKJd_170 63 (by decide))
        refine lv_aload_n hx hb dX9_step_115 rfl (lv_at hl 0 rfl) ?_
        refine yget (ci := 9) (k := 48) (v := .ref (S.2.2.1 h0 48)) (C := RX9) (T := TX9) (N := 67) C0 hK hP hm_h0 hk_h0 (by decide) rfl inlX9 (by decide) mW153 (fun _ h9 => h9) rfl dX9_step_116 ?_
        refine lv_iload_n hx hb dX9_step_119 rfl (lv_at hl 1 rfl) ?_
        refine lv_dup2_11 hx hb dX9_step_120 rfl rfl ?_
        have hCC_171 := yMI.c hId_170
        refine yald C0 hK hP hmy_5 hky_5 (by decide) rfl 0 rfl (xinT 8 rfl (by omega) (by omega)) dX9_step_121 ?_
        refine lv_topi (fun z_172 ez_172 => ?_)
        have hvz_172 : 0 ≤ (z_172 : Int32).toInt ∧ (z_172 : Int32).toInt ≤ 5000 := by rw [ez_172]; exact yMI.ne_ hId_170 _
        refine lv_iconst (v := 1) hx hb dX9_step_122 (by decide) ?_
        refine lv_iadd hx hb dX9_step_123 ?_
        refine lv_topi (fun z_173 ez_173 => ?_)
        refine yast C0 hK hP hD hS hmy_5 hky_5 (by decide) rfl 0 rfl (xinT 8 rfl (by omega) (by omega)) dX9_step_124 (fun H locs hP hD hS => ?_)
        obtain ⟨d_174, ed_174⟩ : ∃ z : yD, z = ycs d_170 (S.2.2.1 h0 48) (upd (d_170.2.2.2.1 (S.2.2.1 h0 48)) (p0 : Int32).toNatClampNeg z_173) := ⟨_, rfl⟩
        rw [← ed_174] at hP hD
        have hgd_174 : yAg S [9, 77, 78] d d_174 := by rw [ed_174]; exact yAg.cs hgd_170 (by rw [hky_5]; decide)
        have hsd_174 : yAg S [78] d_170 d_174 := by rw [ed_174]; exact yAg.cs yAg.rf (by rw [hky_5]; decide)
        have hPod_174 : yPo S d_174 := by rw [ed_174]; exact hPod_170
        have hfd_174 : yK [54, 55, 57, 63, 64, 65] d d_174 h0 := yK.ag hfd_170 (show yAg S [78] d_170 d_174 from by rw [ed_174]; exact yAg.cs yAg.rf (by rw [hky_5]; decide)) (by rw [hk_h0]; decide)
        have hL0d_174 : yAg S [77, 78] d d_174 := by rw [ed_174]; exact yAg.cs hL0d_170 (by rw [hky_5]; decide)
        have hK0d_174 : yK [] d d_174 h0 := yK.ag hK0d_170 (show yAg S [78] d_170 d_174 from by rw [ed_174]; exact yAg.cs yAg.rf (by rw [hky_5]; decide)) (by rw [hk_h0]; decide)
        have T_175 : (z_173 : Int32).toInt = (z_172 : Int32).toInt + 1 := tadd ez_173 (rfl : (z_172 : Int32).toInt = (z_172 : Int32).toInt) (by decide +kernel : (1 : Int32).toInt = 1) (by omega) (by omega)
        have hId_174 : yMI S d_174 h0 := by rw [ed_174]; exact yMI.w48 hId_170 hSh hm_h0 hk_h0 (yBr.up (yMI.ne_ hId_170) ⟨by omega, by omega⟩)
        have hE0d_174 : (d_174.1 h0 0).toInt = (d_170.1 h0 0).toInt := congrArg Int32.toInt ((yK.ag (F := []) yK.rf (show yAg S [78] d_170 d_174 from by rw [ed_174]; exact yAg.cs yAg.rf (by rw [hky_5]; decide)) (by rw [hk_h0]; decide)) 0 (by decide))
        have hE1d_174 : (d_174.1 h0 1).toInt = (d_170.1 h0 1).toInt := congrArg Int32.toInt ((yK.ag (F := []) yK.rf (show yAg S [78] d_170 d_174 from by rw [ed_174]; exact yAg.cs yAg.rf (by rw [hky_5]; decide)) (by rw [hk_h0]; decide)) 1 (by decide))
        have hE2d_174 : (d_174.1 h0 2).toInt = (d_170.1 h0 2).toInt := congrArg Int32.toInt ((yK.ag (F := []) yK.rf (show yAg S [78] d_170 d_174 from by rw [ed_174]; exact yAg.cs yAg.rf (by rw [hky_5]; decide)) (by rw [hk_h0]; decide)) 2 (by decide))
        have hE3d_174 : (d_174.1 h0 3).toInt = (d_170.1 h0 3).toInt := congrArg Int32.toInt ((yK.ag (F := []) yK.rf (show yAg S [78] d_170 d_174 from by rw [ed_174]; exact yAg.cs yAg.rf (by rw [hky_5]; decide)) (by rw [hk_h0]; decide)) 3 (by decide))
        have hE63d_174 : (d_174.1 h0 63).toInt = (d_170.1 h0 63).toInt := congrArg Int32.toInt ((yK.ag (F := []) yK.rf (show yAg S [78] d_170 d_174 from by rw [ed_174]; exact yAg.cs yAg.rf (by rw [hky_5]; decide)) (by rw [hk_h0]; decide)) 63 (by decide))
        refine lv_goto (tgt := 0) hx hb dX9_step_125 (by decide) ?_
        have hCC_177 := yMI.c hId_174
        exact hnext_3 d_174 _ _ ls ((xnext ed_174 ez_173 ez_172 ((hsd_170 _ (by rw [(ySh.f9_48 hSh h0 hm_h0 hk_h0).2]; decide)).2.2.2.1) ez_7 hvz_7)) ⟨hP, hD, hS, hgd_174, hPod_174, hfd_174, hId_174, hL0d_174, hK0d_174, (show (True) from by have hq0_ : (0 : Int32).toInt = 0 := (by decide +kernel); omega), lv_sub hl [0, 1, 2, 3, 4, 5, 6, 7] rfl⟩
      refine lv_icmp_ne (tgt := 115) hx hb dX9_step_74 (by decide) (fun c_178 => ?_) (fun c_178 => ?_)
      · exact J115_169 d_2 _ _ ls _ ⟨rfl, hP, hD, hS, hgd_2, hPod_2, hfd_2, hId_2, yAg.rf, yK.rf, hLJd_2, hKJd_2, lv_sub hl [1, 2, 3, 4, 5, 6, 7, 8] rfl⟩
      · refine lv_aload_n hx hb dX9_step_77 rfl (lv_at hl 1 rfl) ?_
        refine yget (ci := 9) (k := 17) (v := .ref (S.2.2.1 h0 17)) (C := RX9) (T := TX9) (N := 67) C0 hK hP hm_h0 hk_h0 (by decide) rfl inlX9 (by decide) mW124 (fun _ h9 => h9) rfl dX9_step_78 ?_
        obtain ⟨hmy_179, hky_179⟩ := ySh.f9_17 hSh _ hm_h0 hk_h0
        refine lv_iload hx hb dX9_step_81 (lv_at hl 0 rfl) ?_
        have F_180 := feq (rfl : (z_166 : Int32).toInt = (z_166 : Int32).toInt) (rfl : (p0 : Int32).toInt = (p0 : Int32).toInt) c_178
        refine yaldB C0 hK hP hmy_179 hky_179 (by decide) rfl 1 rfl (xinT 5000 rfl (by omega) (by omega)) dX9_step_83 ?_
        refine lv_topi (fun z_181 ez_181 => ?_)
        refine lv_iconst (v := 3) hx hb dX9_step_84 (by decide) ?_
        refine lv_icmp_lt (tgt := 115) hx hb dX9_step_85 (by decide) (fun c_182 => ?_) (fun c_182 => ?_)
        · exact J115_169 d_2 _ _ ls _ ⟨rfl, hP, hD, hS, hgd_2, hPod_2, hfd_2, hId_2, yAg.rf, yK.rf, hLJd_2, hKJd_2, lv_sub hl [1, 2, 3, 4, 5, 6, 7, 8] rfl⟩
        · refine lv_aload_n hx hb dX9_step_88 rfl (lv_at hl 1 rfl) ?_
          refine yget (ci := 9) (k := 17) (v := .ref (S.2.2.1 h0 17)) (C := RX9) (T := TX9) (N := 67) C0 hK hP hm_h0 hk_h0 (by decide) rfl inlX9 (by decide) mW124 (fun _ h9 => h9) rfl dX9_step_89 ?_
          refine lv_iload hx hb dX9_step_92 (lv_at hl 0 rfl) ?_
          have F_184 := fnlt (rfl : (z_181 : Int32).toInt = (z_181 : Int32).toInt) (by decide +kernel : (3 : Int32).toInt = 3) c_182
          refine yaldB C0 hK hP hmy_179 hky_179 (by decide) rfl 1 rfl (xinT 5000 rfl (by omega) (by omega)) dX9_step_94 ?_
          rw [← ez_181]
          refine lv_bipush (v := 6) hx hb dX9_step_95 (by decide) ?_
          refine lv_icmp_gt (tgt := 115) hx hb dX9_step_97 (by decide) (fun c_185 => ?_) (fun c_185 => ?_)
          · exact J115_169 d_2 _ _ ls _ ⟨rfl, hP, hD, hS, hgd_2, hPod_2, hfd_2, hId_2, yAg.rf, yK.rf, hLJd_2, hKJd_2, lv_sub hl [1, 2, 3, 4, 5, 6, 7, 8] rfl⟩
          · refine lv_aload_n hx hb dX9_step_100 rfl (lv_at hl 1 rfl) ?_
            refine yget (ci := 9) (k := 47) (v := .ref (S.2.2.1 h0 47)) (C := RX9) (T := TX9) (N := 67) C0 hK hP hm_h0 hk_h0 (by decide) rfl inlX9 (by decide) mW152 (fun _ h9 => h9) rfl dX9_step_101 ?_
            obtain ⟨hmy_186, hky_186⟩ := ySh.f9_47 hSh _ hm_h0 hk_h0
            refine lv_iload_n hx hb dX9_step_104 rfl (lv_at hl 2 rfl) ?_
            refine lv_aload_n hx hb dX9_step_105 rfl (lv_at hl 1 rfl) ?_
            refine yget (ci := 9) (k := 17) (v := .ref (S.2.2.1 h0 17)) (C := RX9) (T := TX9) (N := 67) C0 hK hP hm_h0 hk_h0 (by decide) rfl inlX9 (by decide) mW124 (fun _ h9 => h9) rfl dX9_step_106 ?_
            refine lv_iload hx hb dX9_step_109 (lv_at hl 0 rfl) ?_
            have F_187 := fnlt (by decide +kernel : (6 : Int32).toInt = 6) (rfl : (z_181 : Int32).toInt = (z_181 : Int32).toInt) c_185
            refine yaldB C0 hK hP hmy_179 hky_179 (by decide) rfl 1 rfl (xinT 5000 rfl (by omega) (by omega)) dX9_step_111 ?_
            rw [← ez_181]
            refine lv_iconst (v := 2) hx hb dX9_step_112 (by decide) ?_
            refine lv_isub hx hb dX9_step_113 ?_
            refine lv_topi (fun z_188 ez_188 => ?_)
            refine yast C0 hK hP hD hS hmy_186 hky_186 (by decide) rfl 0 rfl (xinT 8 rfl (by omega) (by omega)) dX9_step_114 (fun H locs hP hD hS => ?_)
            obtain ⟨d_189, ed_189⟩ : ∃ z : yD, z = ycs d_2 (S.2.2.1 h0 47) (upd (d_2.2.2.2.1 (S.2.2.1 h0 47)) (p0 : Int32).toNatClampNeg z_188) := ⟨_, rfl⟩
            rw [← ed_189] at hP hD
            have hgd_189 : yAg S [9, 77, 78] d d_189 := by rw [ed_189]; exact yAg.cs hgd_2 (by rw [hky_186]; decide)
            have hsd_189 : yAg S [77] d_2 d_189 := by rw [ed_189]; exact yAg.cs yAg.rf (by rw [hky_186]; decide)
            have hPod_189 : yPo S d_189 := by rw [ed_189]; exact hPod_2
            have hfd_189 : yK [54, 55, 57, 63, 64, 65] d d_189 h0 := yK.ag hfd_2 (show yAg S [77] d_2 d_189 from by rw [ed_189]; exact yAg.cs yAg.rf (by rw [hky_186]; decide)) (by rw [hk_h0]; decide)
            have hL0d_189 : yAg S [77, 78] d d_189 := by rw [ed_189]; exact yAg.cs hLJd_2 (by rw [hky_186]; decide)
            have hK0d_189 : yK [] d d_189 h0 := yK.ag hKJd_2 (show yAg S [77] d_2 d_189 from by rw [ed_189]; exact yAg.cs yAg.rf (by rw [hky_186]; decide)) (by rw [hk_h0]; decide)
            have hL1d_189 : yAg S [77] d_2 d_189 := by rw [ed_189]; exact yAg.cs yAg.rf (by rw [hky_186]; decide)
            have hK1d_189 : yK [] d_2 d_189 h0 := yK.ag yK.rf (show yAg S [77] d_2 d_189 from by rw [ed_189]; exact yAg.cs yAg.rf (by rw [hky_186]; decide)) (by rw [hk_h0]; decide)
            have hId_189 : yMI S d_189 h0 := yMI.ag hId_2 hSh hm_h0 hk_h0 (show yAg S [77] d_2 d_189 from by rw [ed_189]; exact yAg.cs yAg.rf (by rw [hky_186]; decide)) (yK.ag (F := []) yK.rf (show yAg S [77] d_2 d_189 from by rw [ed_189]; exact yAg.cs yAg.rf (by rw [hky_186]; decide)) (by rw [hk_h0]; decide)) (by decide) (by decide)
            have hE0d_189 : (d_189.1 h0 0).toInt = (d_2.1 h0 0).toInt := congrArg Int32.toInt ((yK.ag (F := []) yK.rf (show yAg S [77] d_2 d_189 from by rw [ed_189]; exact yAg.cs yAg.rf (by rw [hky_186]; decide)) (by rw [hk_h0]; decide)) 0 (by decide))
            have hE1d_189 : (d_189.1 h0 1).toInt = (d_2.1 h0 1).toInt := congrArg Int32.toInt ((yK.ag (F := []) yK.rf (show yAg S [77] d_2 d_189 from by rw [ed_189]; exact yAg.cs yAg.rf (by rw [hky_186]; decide)) (by rw [hk_h0]; decide)) 1 (by decide))
            have hE2d_189 : (d_189.1 h0 2).toInt = (d_2.1 h0 2).toInt := congrArg Int32.toInt ((yK.ag (F := []) yK.rf (show yAg S [77] d_2 d_189 from by rw [ed_189]; exact yAg.cs yAg.rf (by rw [hky_186]; decide)) (by rw [hk_h0]; decide)) 2 (by decide))
            have hE3d_189 : (d_189.1 h0 3).toInt = (d_2.1 h0 3).toInt := congrArg Int32.toInt ((yK.ag (F := []) yK.rf (show yAg S [77] d_2 d_189 from by rw [ed_189]; exact yAg.cs yAg.rf (by rw [hky_186]; decide)) (by rw [hk_h0]; decide)) 3 (by decide))
            have hE63d_189 : (d_189.1 h0 63).toInt = (d_2.1 h0 63).toInt := congrArg Int32.toInt ((yK.ag (F := []) yK.rf (show yAg S [77] d_2 d_189 from by rw [ed_189]; exact yAg.cs yAg.rf (by rw [hky_186]; decide)) (by rw [hk_h0]; decide)) 63 (by decide))
            exact J115_169 d_189 _ _ ls _ ⟨rfl, hP, hD, hS, hgd_189, hPod_189, hfd_189, hId_189, hL1d_189, hK1d_189, hL0d_189, hK0d_189, lv_sub hl [1, 2, 3, 4, 5, 6, 7, 8] rfl⟩
    · refine lv_aload_n hx hb dX9_step_28 rfl (lv_at hl 0 rfl) ?_
      refine yget (ci := 9) (k := 15) (v := .ref (S.2.2.1 h0 15)) (C := RX9) (T := TX9) (N := 67) C0 hK hP hm_h0 hk_h0 (by decide) rfl inlX9 (by decide) mW122 (fun _ h9 => h9) rfl dX9_step_29 ?_
      refine lv_aload_n hx hb dX9_step_32 rfl (lv_at hl 0 rfl) ?_
      refine yget (ci := 9) (k := 48) (v := .ref (S.2.2.1 h0 48)) (C := RX9) (T := TX9) (N := 67) C0 hK hP hm_h0 hk_h0 (by decide) rfl inlX9 (by decide) mW153 (fun _ h9 => h9) rfl dX9_step_33 ?_
      refine lv_iload_n hx hb dX9_step_36 rfl (lv_at hl 1 rfl) ?_
      have F_191 := fnlt (rfl : (z_166 : Int32).toInt = (z_166 : Int32).toInt) (rfl : (p0 : Int32).toInt = (p0 : Int32).toInt) c_167
      refine yald C0 hK hP hmy_5 hky_5 (by decide) rfl 0 rfl (xinT 8 rfl (by omega) (by omega)) dX9_step_37 ?_
      rw [← ez_7]
      have hvz_7 : 0 ≤ (z_7 : Int32).toInt ∧ (z_7 : Int32).toInt ≤ 5000 := by rw [ez_7]; exact yMI.ne_ hId_2 _
      refine yaldB C0 hK hP hmy_162 hky_162 (by decide) rfl 1 rfl (xinT 5000 rfl (by omega) (by omega)) dX9_step_38 ?_
      rw [← ez_166]
      refine lv_iload_n hx hb dX9_step_39 rfl (lv_at hl 1 rfl) ?_
      refine lv_icmp_ne (tgt := 128) hx hb dX9_step_40 (by decide) (fun c_192 => ?_) (fun c_192 => ?_)
      · refine lv_bipush (v := (-3)) hx hb dX9_step_128 (by decide) ?_
        refine lv_istore (lv' := [(9, .int (-3)), (0, .ref h0), (1, .int p0), (2, .int p1), (3, .long p2), (5, .int p3), (6, .int p4), (7, .int p5), (8, .int p6)]) hx hb dX9_step_130 hl (by decide) rfl (fun ls hl => ?_)
        refine lv_iload hx hb dX9_step_132 (lv_at hl 5 rfl) ?_
        refine yjoinR (σ := Int32) 142 (fun x ls st => st = [.int x] ∧ lv_has ls 12 [(9, .int (-3)), (0, .ref h0), (1, .int p0), (2, .int p1), (3, .long p2), (6, .int p4), (7, .int p5), (8, .int p6)]) (fun x ls st hI => ?_) (fun J142_193 => ?_)
        · obtain ⟨v_193, rfl⟩ : ∃ z, z = x := ⟨_, rfl⟩
          obtain ⟨rfl, hl⟩ := hI
          have hl : lv_has ls 12 [(9, .int (-3)), (0, .ref h0), (1, .int p0), (2, .int p1), (3, .long p2), (6, .int p4), (7, .int p5), (8, .int p6)] := hl
          refine lv_istore (lv' := [(10, .int v_193), (9, .int (-3)), (0, .ref h0), (1, .int p0), (2, .int p1), (3, .long p2), (6, .int p4), (7, .int p5), (8, .int p6)]) hx hb dX9_step_142 hl (by decide) rfl (fun ls hl => ?_)
          refine lv_aload_n hx hb dX9_step_144 rfl (lv_at hl 2 rfl) ?_
          refine lv_iload_n hx hb dX9_step_145 rfl (lv_at hl 3 rfl) ?_
          refine lv_iload_n hx hb dX9_step_146 rfl (lv_at hl 4 rfl) ?_
          have F_194 := fne (rfl : (z_166 : Int32).toInt = (z_166 : Int32).toInt) (rfl : (p0 : Int32).toInt = (p0 : Int32).toInt) c_192
          refine yVri (As := [.int p0, .int p1]) (rest := []) C0 (g_X9_isKnown l G S d_2 h0 p0 p1 hSh hm_h0 hk_h0 (by refine ⟨?_, ?_⟩ <;> omega) (by refine ⟨?_, ?_⟩ <;> omega)) ok_X9_isKnown (mW429 : Cond.methodLink RX9 198 yX9_isKnown ∈ wsT) ⟨Nat.le_of_ble_eq_true rfl, Nat.le_of_ble_eq_true rfl⟩ hP hD hK hN hm_h0 hk_h0 (by decide) rfl rfl rfl hl.1 rfl (Nat.le_of_ble_eq_true rfl) ⟨Nat.le_of_ble_eq_true rfl, Nat.le_of_ble_eq_true rfl⟩ dX9_step_147 (fun r_195 hr_195 => ?_)
          refine yjoinR (σ := Int32 × Int32) 252 (fun x ls st => st = [] ∧ lv_has ls 12 [(0, .ref h0), (1, .int p0), (2, .int p1), (3, .long p2), (9, .int x.1), (10, .int x.2)]) (fun x ls st hI => ?_) (fun J252_197 => ?_)
          · obtain ⟨v_196, v_197⟩ := x
            obtain ⟨rfl, hl⟩ := hI
            have hl : lv_has ls 12 [(0, .ref h0), (1, .int p0), (2, .int p1), (3, .long p2), (9, .int v_196), (10, .int v_197)] := hl
            refine lv_aload_n hx hb dX9_step_252 rfl (lv_at hl 0 rfl) ?_
            refine yget (ci := 9) (k := 58) (v := .long (d_2.2.1 h0 58)) (C := RX9) (T := TX9) (N := 67) C0 hK hP hm_h0 hk_h0 (by decide) rfl inlX9 (by decide) mW873 (fun _ h9 => h9) rfl dX9_step_253 ?_
            refine lv_topl (fun z_198 ez_198 => ?_)
            refine lv_aload_n hx hb dX9_step_256 rfl (lv_at hl 0 rfl) ?_
            refine yget (ci := 9) (k := 59) (v := .long (d_2.2.1 h0 59)) (C := RX9) (T := TX9) (N := 67) C0 hK hP hm_h0 hk_h0 (by decide) rfl inlX9 (by decide) mW874 (fun _ h9 => h9) rfl dX9_step_257 ?_
            refine lv_topl (fun z_199 ez_199 => ?_)
            refine W.lcmp hx hb dX9_step_260 ?_
            refine lv_topi (fun z_200 ez_200 => ?_)
            refine yjoinR (σ := Int32) 269 (fun x ls st => st = [.int x] ∧ lv_has ls 12 [(0, .ref h0), (1, .int p0), (2, .int p1), (3, .long p2), (9, .int v_196), (10, .int v_197)] ∧ (x = 0 ∨ x = 1)) (fun x ls st hI => ?_) (fun J269_201 => ?_)
            · obtain ⟨v_201, rfl⟩ : ∃ z, z = x := ⟨_, rfl⟩
              obtain ⟨rfl, hl, hzv_201⟩ := hI
              have hl : lv_has ls 12 [(0, .ref h0), (1, .int p0), (2, .int p1), (3, .long p2), (9, .int v_196), (10, .int v_197)] := hl
              refine lv_istore (lv' := [(11, .int v_201), (0, .ref h0), (1, .int p0), (2, .int p1), (3, .long p2), (9, .int v_196), (10, .int v_197)]) hx hb dX9_step_269 hl (by decide) rfl (fun ls hl => ?_)
              refine lv_aload_n hx hb dX9_step_271 rfl (lv_at hl 1 rfl) ?_
              refine lv_dup hx hb dX9_step_272 rfl ?_
              refine yget (ci := 9) (k := 58) (v := .long (d_2.2.1 h0 58)) (C := RX9) (T := TX9) (N := 67) C0 hK hP hm_h0 hk_h0 (by decide) rfl inlX9 (by decide) mW873 (fun _ h9 => h9) rfl dX9_step_273 ?_
              rw [← ez_198]
              refine lv_iload hx hb dX9_step_276 (lv_at hl 6 rfl) ?_
              refine lv_i2l hx hb dX9_step_278 rfl ?_
              refine lv_topl (fun z_202 ez_202 => ?_)
              refine lv_ladd hx hb dX9_step_279 ?_
              refine lv_topl (fun z_203 ez_203 => ?_)
              refine yputJ (ci := 9) (k := 58) (C := RX9) (T := TX9) (N := 67) C0 hK hP hD hS hm_h0 hk_h0 (by decide) rfl inlX9 tyX9 tyX9_ok nmX9 (by decide) mW873 (fun _ h9 => h9) rfl (by decide +kernel) (Nat.le_of_ble_eq_true rfl) ysj_9_58 dX9_step_280 (fun H locs hP hD hS => ?_)
              obtain ⟨d_204, ed_204⟩ : ∃ z : yD, z = yj d_2 h0 58 z_203 := ⟨_, rfl⟩
              rw [← ed_204] at hP hD
              have hgd_204 : yAg S [9, 77, 78] d d_204 := by rw [ed_204]; exact yAg.j hgd_2 (by rw [hk_h0]; decide)
              have hsd_204 : yAg S [9] d_2 d_204 := by rw [ed_204]; exact yAg.j yAg.rf (by rw [hk_h0]; decide)
              have hPod_204 : yPo S d_204 := by rw [ed_204]; exact hPod_2
              have hfd_204 : yK [54, 55, 57, 63, 64, 65] d d_204 h0 := yK.ag hfd_2 (show yAg S [9] d_2 d_204 from by rw [ed_204]; exact yAg.j yAg.rf (by rw [hk_h0]; decide)) (by rw [hk_h0]; decide)
              have hId_204 : yMI S d_204 h0 := yMI.ag hId_2 hSh hm_h0 hk_h0 (show yAg S [9] d_2 d_204 from by rw [ed_204]; exact yAg.j yAg.rf (by rw [hk_h0]; decide)) (yK.ag (F := []) yK.rf (show yAg S [9] d_2 d_204 from by rw [ed_204]; exact yAg.j yAg.rf (by rw [hk_h0]; decide)) (by rw [hk_h0]; decide)) (by decide) (by decide)
              have hE0d_204 : (d_204.1 h0 0).toInt = (d_2.1 h0 0).toInt := congrArg Int32.toInt ((yK.ag (F := []) yK.rf (show yAg S [9] d_2 d_204 from by rw [ed_204]; exact yAg.j yAg.rf (by rw [hk_h0]; decide)) (by rw [hk_h0]; decide)) 0 (by decide))
              have hE1d_204 : (d_204.1 h0 1).toInt = (d_2.1 h0 1).toInt := congrArg Int32.toInt ((yK.ag (F := []) yK.rf (show yAg S [9] d_2 d_204 from by rw [ed_204]; exact yAg.j yAg.rf (by rw [hk_h0]; decide)) (by rw [hk_h0]; decide)) 1 (by decide))
              have hE2d_204 : (d_204.1 h0 2).toInt = (d_2.1 h0 2).toInt := congrArg Int32.toInt ((yK.ag (F := []) yK.rf (show yAg S [9] d_2 d_204 from by rw [ed_204]; exact yAg.j yAg.rf (by rw [hk_h0]; decide)) (by rw [hk_h0]; decide)) 2 (by decide))
              have hE3d_204 : (d_204.1 h0 3).toInt = (d_2.1 h0 3).toInt := congrArg Int32.toInt ((yK.ag (F := []) yK.rf (show yAg S [9] d_2 d_204 from by rw [ed_204]; exact yAg.j yAg.rf (by rw [hk_h0]; decide)) (by rw [hk_h0]; decide)) 3 (by decide))
              have hE63d_204 : (d_204.1 h0 63).toInt = (d_2.1 h0 63).toInt := congrArg Int32.toInt ((yK.ag (F := []) yK.rf (show yAg S [9] d_2 d_204 from by rw [ed_204]; exact yAg.j yAg.rf (by rw [hk_h0]; decide)) (by rw [hk_h0]; decide)) 63 (by decide))
              refine lv_aload_n hx hb dX9_step_283 rfl (lv_at hl 1 rfl) ?_
              refine lv_dup hx hb dX9_step_284 rfl ?_
              refine yget (ci := 9) (k := 60) (v := .long (d_204.2.1 h0 60)) (C := RX9) (T := TX9) (N := 67) C0 hK hP hm_h0 hk_h0 (by decide) rfl inlX9 (by decide) mW875 (fun _ h9 => h9) rfl dX9_step_285 ?_
              refine lv_topl (fun z_205 ez_205 => ?_)
              refine lv_lconst (v := 1) hx hb dX9_step_288 (by decide) ?_
              refine lv_ladd hx hb dX9_step_289 ?_
              refine lv_topl (fun z_206 ez_206 => ?_)
              refine yputJ (ci := 9) (k := 60) (C := RX9) (T := TX9) (N := 67) C0 hK hP hD hS hm_h0 hk_h0 (by decide) rfl inlX9 tyX9 tyX9_ok nmX9 (by decide) mW875 (fun _ h9 => h9) rfl (by decide +kernel) (Nat.le_of_ble_eq_true rfl) ysj_9_60 dX9_step_290 (fun H locs hP hD hS => ?_)
              obtain ⟨d_207, ed_207⟩ : ∃ z : yD, z = yj d_204 h0 60 z_206 := ⟨_, rfl⟩
              rw [← ed_207] at hP hD
              have hgd_207 : yAg S [9, 77, 78] d d_207 := by rw [ed_207]; exact yAg.j hgd_204 (by rw [hk_h0]; decide)
              have hsd_207 : yAg S [9] d_204 d_207 := by rw [ed_207]; exact yAg.j yAg.rf (by rw [hk_h0]; decide)
              have hPod_207 : yPo S d_207 := by rw [ed_207]; exact hPod_204
              have hfd_207 : yK [54, 55, 57, 63, 64, 65] d d_207 h0 := yK.ag hfd_204 (show yAg S [9] d_204 d_207 from by rw [ed_207]; exact yAg.j yAg.rf (by rw [hk_h0]; decide)) (by rw [hk_h0]; decide)
              have hId_207 : yMI S d_207 h0 := yMI.ag hId_204 hSh hm_h0 hk_h0 (show yAg S [9] d_204 d_207 from by rw [ed_207]; exact yAg.j yAg.rf (by rw [hk_h0]; decide)) (yK.ag (F := []) yK.rf (show yAg S [9] d_204 d_207 from by rw [ed_207]; exact yAg.j yAg.rf (by rw [hk_h0]; decide)) (by rw [hk_h0]; decide)) (by decide) (by decide)
              have hE0d_207 : (d_207.1 h0 0).toInt = (d_204.1 h0 0).toInt := congrArg Int32.toInt ((yK.ag (F := []) yK.rf (show yAg S [9] d_204 d_207 from by rw [ed_207]; exact yAg.j yAg.rf (by rw [hk_h0]; decide)) (by rw [hk_h0]; decide)) 0 (by decide))
              have hE1d_207 : (d_207.1 h0 1).toInt = (d_204.1 h0 1).toInt := congrArg Int32.toInt ((yK.ag (F := []) yK.rf (show yAg S [9] d_204 d_207 from by rw [ed_207]; exact yAg.j yAg.rf (by rw [hk_h0]; decide)) (by rw [hk_h0]; decide)) 1 (by decide))
              have hE2d_207 : (d_207.1 h0 2).toInt = (d_204.1 h0 2).toInt := congrArg Int32.toInt ((yK.ag (F := []) yK.rf (show yAg S [9] d_204 d_207 from by rw [ed_207]; exact yAg.j yAg.rf (by rw [hk_h0]; decide)) (by rw [hk_h0]; decide)) 2 (by decide))
              have hE3d_207 : (d_207.1 h0 3).toInt = (d_204.1 h0 3).toInt := congrArg Int32.toInt ((yK.ag (F := []) yK.rf (show yAg S [9] d_204 d_207 from by rw [ed_207]; exact yAg.j yAg.rf (by rw [hk_h0]; decide)) (by rw [hk_h0]; decide)) 3 (by decide))
              have hE63d_207 : (d_207.1 h0 63).toInt = (d_204.1 h0 63).toInt := congrArg Int32.toInt ((yK.ag (F := []) yK.rf (show yAg S [9] d_204 d_207 from by rw [ed_207]; exact yAg.j yAg.rf (by rw [hk_h0]; decide)) (by rw [hk_h0]; decide)) 63 (by decide))
              refine lv_iload hx hb dX9_step_293 (lv_at hl 0 rfl) ?_
              refine yjoin (σ := yD) 315 (fun x H locs ls st => st = [] ∧ va_P G.1 xcl (yW G S x) H ∧ va_D A (yW G S x) ∧ va_S A s.heap H locs ∧ yAg S [9, 77, 78] d x ∧ yPo S x ∧ yK [54, 55, 57, 63, 64, 65] d x h0 ∧ yMI S x h0 ∧ yAg S [9] d_207 x ∧ yK [] d_207 x h0 ∧ lv_has ls 12 [(0, .ref h0), (1, .int p0), (2, .int p1), (9, .int v_196), (10, .int v_197)]) (fun x H locs ls st hI => ?_) (fun J315_207 => ?_)
              · obtain ⟨d_208, rfl⟩ : ∃ z, z = x := ⟨_, rfl⟩
                obtain ⟨rfl, hP, hD, hS, hgd_208, hPod_208, hfd_208, hId_208, hLJd_208, hKJd_208, hl⟩ := hI
                have hId_208 : yMI S d_208 h0 := hId_208
                have hl : lv_has ls 12 [(0, .ref h0), (1, .int p0), (2, .int p1), (9, .int v_196), (10, .int v_197)] := hl
                have hE0d_208 : (d_208.1 h0 0).toInt = (d_207.1 h0 0).toInt := congrArg Int32.toInt (hKJd_208 0 (by decide))
                have hE1d_208 : (d_208.1 h0 1).toInt = (d_207.1 h0 1).toInt := congrArg Int32.toInt (hKJd_208 1 (by decide))
                have hE2d_208 : (d_208.1 h0 2).toInt = (d_207.1 h0 2).toInt := congrArg Int32.toInt (hKJd_208 2 (by decide))
                have hE3d_208 : (d_208.1 h0 3).toInt = (d_207.1 h0 3).toInt := congrArg Int32.toInt (hKJd_208 3 (by decide))
                have hE63d_208 : (d_208.1 h0 63).toInt = (d_207.1 h0 63).toInt := congrArg Int32.toInt (hKJd_208 63 (by decide))
                refine lv_iload_n hx hb dX9_step_315 rfl (lv_at hl 1 rfl) ?_
                refine lv_aload_n hx hb dX9_step_316 rfl (lv_at hl 0 rfl) ?_
                refine yget (ci := 9) (k := 49) (v := .int (d_208.1 h0 49)) (C := RX9) (T := TX9) (N := 67) C0 hK hP hm_h0 hk_h0 (by decide) rfl inlX9 (by decide) mW861 (fun _ h9 => h9) rfl dX9_step_317 ?_
                refine lv_topi (fun z_209 ez_209 => ?_)
                refine lv_icmp_eq (tgt := 324) hx hb dX9_step_320 (by decide) (fun c_210 => ?_) (fun c_210 => ?_)
                · refine lv_aload_n hx hb dX9_step_324 rfl (lv_at hl 0 rfl) ?_
                  refine lv_dup hx hb dX9_step_325 rfl ?_
                  refine yget (ci := 9) (k := 66) (v := .long (d_208.2.1 h0 66)) (C := RX9) (T := TX9) (N := 67) C0 hK hP hm_h0 hk_h0 (by decide) rfl inlX9 (by decide) mW881 (fun _ h9 => h9) rfl dX9_step_326 ?_
                  refine lv_topl (fun z_211 ez_211 => ?_)
                  refine lv_iload hx hb dX9_step_329 (lv_at hl 4 rfl) ?_
                  refine lv_i2l hx hb dX9_step_331 rfl ?_
                  rw [← ez_202]
                  refine lv_ladd hx hb dX9_step_332 ?_
                  refine lv_topl (fun z_212 ez_212 => ?_)
                  refine yputJ (ci := 9) (k := 66) (C := RX9) (T := TX9) (N := 67) C0 hK hP hD hS hm_h0 hk_h0 (by decide) rfl inlX9 tyX9 tyX9_ok nmX9 (by decide) mW881 (fun _ h9 => h9) rfl (by decide +kernel) (Nat.le_of_ble_eq_true rfl) ysj_9_66 dX9_step_333 (fun H locs hP hD hS => ?_)
                  obtain ⟨d_213, ed_213⟩ : ∃ z : yD, z = yj d_208 h0 66 z_212 := ⟨_, rfl⟩
                  rw [← ed_213] at hP hD
                  have hgd_213 : yAg S [9, 77, 78] d d_213 := by rw [ed_213]; exact yAg.j hgd_208 (by rw [hk_h0]; decide)
                  have hsd_213 : yAg S [9] d_208 d_213 := by rw [ed_213]; exact yAg.j yAg.rf (by rw [hk_h0]; decide)
                  have hPod_213 : yPo S d_213 := by rw [ed_213]; exact hPod_208
                  have hfd_213 : yK [54, 55, 57, 63, 64, 65] d d_213 h0 := yK.ag hfd_208 (show yAg S [9] d_208 d_213 from by rw [ed_213]; exact yAg.j yAg.rf (by rw [hk_h0]; decide)) (by rw [hk_h0]; decide)
                  have hId_213 : yMI S d_213 h0 := yMI.ag hId_208 hSh hm_h0 hk_h0 (show yAg S [9] d_208 d_213 from by rw [ed_213]; exact yAg.j yAg.rf (by rw [hk_h0]; decide)) (yK.ag (F := []) yK.rf (show yAg S [9] d_208 d_213 from by rw [ed_213]; exact yAg.j yAg.rf (by rw [hk_h0]; decide)) (by rw [hk_h0]; decide)) (by decide) (by decide)
                  have hE0d_213 : (d_213.1 h0 0).toInt = (d_208.1 h0 0).toInt := congrArg Int32.toInt ((yK.ag (F := []) yK.rf (show yAg S [9] d_208 d_213 from by rw [ed_213]; exact yAg.j yAg.rf (by rw [hk_h0]; decide)) (by rw [hk_h0]; decide)) 0 (by decide))
                  have hE1d_213 : (d_213.1 h0 1).toInt = (d_208.1 h0 1).toInt := congrArg Int32.toInt ((yK.ag (F := []) yK.rf (show yAg S [9] d_208 d_213 from by rw [ed_213]; exact yAg.j yAg.rf (by rw [hk_h0]; decide)) (by rw [hk_h0]; decide)) 1 (by decide))
                  have hE2d_213 : (d_213.1 h0 2).toInt = (d_208.1 h0 2).toInt := congrArg Int32.toInt ((yK.ag (F := []) yK.rf (show yAg S [9] d_208 d_213 from by rw [ed_213]; exact yAg.j yAg.rf (by rw [hk_h0]; decide)) (by rw [hk_h0]; decide)) 2 (by decide))
                  have hE3d_213 : (d_213.1 h0 3).toInt = (d_208.1 h0 3).toInt := congrArg Int32.toInt ((yK.ag (F := []) yK.rf (show yAg S [9] d_208 d_213 from by rw [ed_213]; exact yAg.j yAg.rf (by rw [hk_h0]; decide)) (by rw [hk_h0]; decide)) 3 (by decide))
                  have hE63d_213 : (d_213.1 h0 63).toInt = (d_208.1 h0 63).toInt := congrArg Int32.toInt ((yK.ag (F := []) yK.rf (show yAg S [9] d_208 d_213 from by rw [ed_213]; exact yAg.j yAg.rf (by rw [hk_h0]; decide)) (by rw [hk_h0]; decide)) 63 (by decide))
                  refine lv_iload_n hx hb dX9_step_336 rfl (lv_at hl 2 rfl) ?_
                  refine lv_aload_n hx hb dX9_step_337 rfl (lv_at hl 0 rfl) ?_
                  refine yget (ci := 9) (k := 50) (v := .int (d_213.1 h0 50)) (C := RX9) (T := TX9) (N := 67) C0 hK hP hm_h0 hk_h0 (by decide) rfl inlX9 (by decide) mW862 (fun _ h9 => h9) rfl dX9_step_338 ?_
                  refine lv_topi (fun z_214 ez_214 => ?_)
                  refine yjoin (σ := yD) 367 (fun x H locs ls st => st = [] ∧ va_P G.1 xcl (yW G S x) H ∧ va_D A (yW G S x) ∧ va_S A s.heap H locs ∧ yAg S [9, 77, 78] d x ∧ yPo S x ∧ yK [54, 55, 57, 63, 64, 65] d x h0 ∧ yMI S x h0 ∧ yAg S [9] d_213 x ∧ yK [54, 55] d_213 x h0 ∧ lv_has ls 12 [(0, .ref h0), (2, .int p1), (9, .int v_196), (10, .int v_197)]) (fun x H locs ls st hI => ?_) (fun J367_214 => ?_)
                  · obtain ⟨d_215, rfl⟩ : ∃ z, z = x := ⟨_, rfl⟩
                    obtain ⟨rfl, hP, hD, hS, hgd_215, hPod_215, hfd_215, hId_215, hLJd_215, hKJd_215, hl⟩ := hI
                    have hId_215 : yMI S d_215 h0 := hId_215
                    have hl : lv_has ls 12 [(0, .ref h0), (2, .int p1), (9, .int v_196), (10, .int v_197)] := hl
                    have hE0d_215 : (d_215.1 h0 0).toInt = (d_213.1 h0 0).toInt := congrArg Int32.toInt (hKJd_215 0 (by decide))
                    have hE1d_215 : (d_215.1 h0 1).toInt = (d_213.1 h0 1).toInt := congrArg Int32.toInt (hKJd_215 1 (by decide))
                    have hE2d_215 : (d_215.1 h0 2).toInt = (d_213.1 h0 2).toInt := congrArg Int32.toInt (hKJd_215 2 (by decide))
                    have hE3d_215 : (d_215.1 h0 3).toInt = (d_213.1 h0 3).toInt := congrArg Int32.toInt (hKJd_215 3 (by decide))
                    have hE63d_215 : (d_215.1 h0 63).toInt = (d_213.1 h0 63).toInt := congrArg Int32.toInt (hKJd_215 63 (by decide))
                    refine lv_iload_n hx hb dX9_step_367 rfl (lv_at hl 1 rfl) ?_
                    refine lv_aload_n hx hb dX9_step_368 rfl (lv_at hl 0 rfl) ?_
                    refine yget (ci := 9) (k := 51) (v := .int (d_215.1 h0 51)) (C := RX9) (T := TX9) (N := 67) C0 hK hP hm_h0 hk_h0 (by decide) rfl inlX9 (by decide) mW863 (fun _ h9 => h9) rfl dX9_step_369 ?_
                    refine lv_topi (fun z_216 ez_216 => ?_)
                    refine yjoin (σ := yD) 395 (fun x H locs ls st => st = [] ∧ va_P G.1 xcl (yW G S x) H ∧ va_D A (yW G S x) ∧ va_S A s.heap H locs ∧ yAg S [9, 77, 78] d x ∧ yPo S x ∧ yK [54, 55, 57, 63, 64, 65] d x h0 ∧ yMI S x h0 ∧ yAg S [9] d_215 x ∧ yK [] d_215 x h0 ∧ lv_has ls 12 [(0, .ref h0), (2, .int p1), (9, .int v_196)]) (fun x H locs ls st hI => ?_) (fun J395_216 => ?_)
                    · obtain ⟨d_217, rfl⟩ : ∃ z, z = x := ⟨_, rfl⟩
                      obtain ⟨rfl, hP, hD, hS, hgd_217, hPod_217, hfd_217, hId_217, hLJd_217, hKJd_217, hl⟩ := hI
                      have hId_217 : yMI S d_217 h0 := hId_217
                      have hl : lv_has ls 12 [(0, .ref h0), (2, .int p1), (9, .int v_196)] := hl
                      have hE0d_217 : (d_217.1 h0 0).toInt = (d_215.1 h0 0).toInt := congrArg Int32.toInt (hKJd_217 0 (by decide))
                      have hE1d_217 : (d_217.1 h0 1).toInt = (d_215.1 h0 1).toInt := congrArg Int32.toInt (hKJd_217 1 (by decide))
                      have hE2d_217 : (d_217.1 h0 2).toInt = (d_215.1 h0 2).toInt := congrArg Int32.toInt (hKJd_217 2 (by decide))
                      have hE3d_217 : (d_217.1 h0 3).toInt = (d_215.1 h0 3).toInt := congrArg Int32.toInt (hKJd_217 3 (by decide))
                      have hE63d_217 : (d_217.1 h0 63).toInt = (d_215.1 h0 63).toInt := congrArg Int32.toInt (hKJd_217 63 (by decide))
                      refine lv_iload hx hb dX9_step_395 (lv_at hl 2 rfl) ?_
                      refine lv_aload_n hx hb dX9_step_397 rfl (lv_at hl 0 rfl) ?_
                      refine yget (ci := 9) (k := 53) (v := .int (d_217.1 h0 53)) (C := RX9) (T := TX9) (N := 67) C0 hK hP hm_h0 hk_h0 (by decide) rfl inlX9 (by decide) mW865 (fun _ h9 => h9) rfl dX9_step_398 ?_
                      refine lv_topi (fun z_218 ez_218 => ?_)
                      refine yjoin (σ := yD) 414 (fun x H locs ls st => st = [] ∧ va_P G.1 xcl (yW G S x) H ∧ va_D A (yW G S x) ∧ va_S A s.heap H locs ∧ yAg S [9, 77, 78] d x ∧ yPo S x ∧ yK [54, 55, 57, 63, 64, 65] d x h0 ∧ yMI S x h0 ∧ yAg S [9] d_217 x ∧ yK [57] d_217 x h0 ∧ lv_has ls 12 [(0, .ref h0), (2, .int p1), (9, .int v_196)]) (fun x H locs ls st hI => ?_) (fun J414_218 => ?_)
                      · obtain ⟨d_219, rfl⟩ : ∃ z, z = x := ⟨_, rfl⟩
                        obtain ⟨rfl, hP, hD, hS, hgd_219, hPod_219, hfd_219, hId_219, hLJd_219, hKJd_219, hl⟩ := hI
                        have hId_219 : yMI S d_219 h0 := hId_219
                        have hl : lv_has ls 12 [(0, .ref h0), (2, .int p1), (9, .int v_196)] := hl
                        have hE0d_219 : (d_219.1 h0 0).toInt = (d_217.1 h0 0).toInt := congrArg Int32.toInt (hKJd_219 0 (by decide))
                        have hE1d_219 : (d_219.1 h0 1).toInt = (d_217.1 h0 1).toInt := congrArg Int32.toInt (hKJd_219 1 (by decide))
                        have hE2d_219 : (d_219.1 h0 2).toInt = (d_217.1 h0 2).toInt := congrArg Int32.toInt (hKJd_219 2 (by decide))
                        have hE3d_219 : (d_219.1 h0 3).toInt = (d_217.1 h0 3).toInt := congrArg Int32.toInt (hKJd_219 3 (by decide))
                        have hE63d_219 : (d_219.1 h0 63).toInt = (d_217.1 h0 63).toInt := congrArg Int32.toInt (hKJd_219 63 (by decide))
                        refine lv_aload_n hx hb dX9_step_414 rfl (lv_at hl 0 rfl) ?_
                        refine yget (ci := 9) (k := 65) (v := .int (d_219.1 h0 65)) (C := RX9) (T := TX9) (N := 67) C0 hK hP hm_h0 hk_h0 (by decide) rfl inlX9 (by decide) mW868 (fun _ h9 => h9) rfl dX9_step_415 ?_
                        refine lv_topi (fun z_220 ez_220 => ?_)
                        refine lv_if_ge (tgt := 495) hx hb dX9_step_418 (by decide) (fun c_221 => ?_) (fun c_221 => ?_)
                        · refine lv_aload_n hx hb dX9_step_495 rfl (lv_at hl 0 rfl) ?_
                          refine yget (ci := 9) (k := 65) (v := .int (d_219.1 h0 65)) (C := RX9) (T := TX9) (N := 67) C0 hK hP hm_h0 hk_h0 (by decide) rfl inlX9 (by decide) mW868 (fun _ h9 => h9) rfl dX9_step_496 ?_
                          rw [← ez_220]
                          refine lv_if_ge (tgt := 507) hx hb dX9_step_499 (by decide) (fun c_222 => ?_) (fun c_222 => absurd c_221 c_222)
                          exact W.vret hx hb hr (fun t ht hW => ⟨⟨d_219, rfl, ⟨hgd_219, (fun _ => hPod_219), hfd_219, hId_219⟩, by rw [ht]; exact hP, hD⟩, hS.F ht⟩) hS.2.2 dX9_step_507
                        · refine lv_aload_n hx hb dX9_step_421 rfl (lv_at hl 0 rfl) ?_
                          refine yget (ci := 9) (k := 63) (v := .int (d_219.1 h0 63)) (C := RX9) (T := TX9) (N := 67) C0 hK hP hm_h0 hk_h0 (by decide) rfl inlX9 (by decide) mW866 (fun _ h9 => h9) rfl dX9_step_422 ?_
                          refine lv_topi (fun z_223 ez_223 => ?_)
                          refine lv_aload_n hx hb dX9_step_425 rfl (lv_at hl 0 rfl) ?_
                          refine yget (ci := 9) (k := 2) (v := .int (d_219.1 h0 2)) (C := RX9) (T := TX9) (N := 67) C0 hK hP hm_h0 hk_h0 (by decide) rfl inlX9 (by decide) mW888 (fun _ h9 => h9) rfl dX9_step_426 ?_
                          refine lv_topi (fun z_224 ez_224 => ?_)
                          refine lv_icmp_ge (tgt := 495) hx hb dX9_step_429 (by decide) (fun c_225 => ?_) (fun c_225 => ?_)
                          · refine lv_aload_n hx hb dX9_step_495 rfl (lv_at hl 0 rfl) ?_
                            refine yget (ci := 9) (k := 65) (v := .int (d_219.1 h0 65)) (C := RX9) (T := TX9) (N := 67) C0 hK hP hm_h0 hk_h0 (by decide) rfl inlX9 (by decide) mW868 (fun _ h9 => h9) rfl dX9_step_496 ?_
                            rw [← ez_220]
                            refine lv_if_ge (tgt := 507) hx hb dX9_step_499 (by decide) (fun c_226 => absurd c_226 c_221) (fun c_226 => ?_)
                            refine lv_aload_n hx hb dX9_step_502 rfl (lv_at hl 0 rfl) ?_
                            refine lv_iload_n hx hb dX9_step_503 rfl (lv_at hl 1 rfl) ?_
                            refine yputI (ci := 9) (k := 65) (ty := .int) (C := RX9) (T := TX9) (N := 67) C0 hK hP hD hS hm_h0 hk_h0 (by decide) rfl inlX9 tyX9 tyX9_ok nmX9 (by decide) mW868 (fun _ h9 => h9) rfl (by decide +kernel) rfl rfl (Nat.le_of_ble_eq_true rfl) ysi_9_65 dX9_step_504 (fun H locs hP hD hS => ?_)
                            obtain ⟨d_227, ed_227⟩ : ∃ z : yD, z = yi d_219 h0 65 p1 := ⟨_, rfl⟩
                            rw [← ed_227] at hP hD
                            have hgd_227 : yAg S [9, 77, 78] d d_227 := by rw [ed_227]; exact yAg.i hgd_219 (by rw [hk_h0]; decide)
                            have hsd_227 : yAg S [9] d_219 d_227 := by rw [ed_227]; exact yAg.i yAg.rf (by rw [hk_h0]; decide)
                            have hPod_227 : yPo S d_227 := by rw [ed_227]; exact yPo.i hPod_219 hk_h0 (Or.inl rfl)
                            have hfd_227 : yK [54, 55, 57, 63, 64, 65] d d_227 h0 := by rw [ed_227]; exact yK.i hfd_219 (by decide)
                            have hId_227 : yMI S d_227 h0 := yMI.ag hId_219 hSh hm_h0 hk_h0 (show yAg S [9] d_219 d_227 from by rw [ed_227]; exact yAg.i yAg.rf (by rw [hk_h0]; decide)) (show yK [65] d_219 d_227 h0 from by rw [ed_227]; exact yK.i yK.rf (by decide)) (by decide) (by decide)
                            have hE0d_227 : (d_227.1 h0 0).toInt = (d_219.1 h0 0).toInt := congrArg Int32.toInt ((show yK [65] d_219 d_227 h0 from by rw [ed_227]; exact yK.i yK.rf (by decide)) 0 (by decide))
                            have hE1d_227 : (d_227.1 h0 1).toInt = (d_219.1 h0 1).toInt := congrArg Int32.toInt ((show yK [65] d_219 d_227 h0 from by rw [ed_227]; exact yK.i yK.rf (by decide)) 1 (by decide))
                            have hE2d_227 : (d_227.1 h0 2).toInt = (d_219.1 h0 2).toInt := congrArg Int32.toInt ((show yK [65] d_219 d_227 h0 from by rw [ed_227]; exact yK.i yK.rf (by decide)) 2 (by decide))
                            have hE3d_227 : (d_227.1 h0 3).toInt = (d_219.1 h0 3).toInt := congrArg Int32.toInt ((show yK [65] d_219 d_227 h0 from by rw [ed_227]; exact yK.i yK.rf (by decide)) 3 (by decide))
                            have hE63d_227 : (d_227.1 h0 63).toInt = (d_219.1 h0 63).toInt := congrArg Int32.toInt ((show yK [65] d_219 d_227 h0 from by rw [ed_227]; exact yK.i yK.rf (by decide)) 63 (by decide))
                            exact W.vret hx hb hr (fun t ht hW => ⟨⟨d_227, rfl, ⟨hgd_227, (fun _ => hPod_227), hfd_227, hId_227⟩, by rw [ht]; exact hP, hD⟩, hS.F ht⟩) hS.2.2 dX9_step_507
                          · refine lv_aload_n hx hb dX9_step_432 rfl (lv_at hl 0 rfl) ?_
                            refine yget (ci := 9) (k := 19) (v := .ref (S.2.2.1 h0 19)) (C := RX9) (T := TX9) (N := 67) C0 hK hP hm_h0 hk_h0 (by decide) rfl inlX9 (by decide) mW126 (fun _ h9 => h9) rfl dX9_step_433 ?_
                            obtain ⟨hmy_228, hky_228⟩ := ySh.f9_19 hSh _ hm_h0 hk_h0
                            refine lv_aload_n hx hb dX9_step_436 rfl (lv_at hl 0 rfl) ?_
                            refine yget (ci := 9) (k := 63) (v := .int (d_219.1 h0 63)) (C := RX9) (T := TX9) (N := 67) C0 hK hP hm_h0 hk_h0 (by decide) rfl inlX9 (by decide) mW866 (fun _ h9 => h9) rfl dX9_step_437 ?_
                            rw [← ez_223]
                            have hCC_229 := yMI.c hId_219
                            have T_230 : (z_209 : Int32).toInt = (d_208.1 h0 49).toInt := by rw [ez_209]
                            have F_231 := feq (rfl : (p0 : Int32).toInt = (p0 : Int32).toInt) (rfl : (z_209 : Int32).toInt = (z_209 : Int32).toInt) c_210
                            have T_232 : (z_220 : Int32).toInt = (d_219.1 h0 65).toInt := by rw [ez_220]
                            have F_233 := fnle (by decide +kernel : (0 : Int32).toInt = 0) (rfl : (z_220 : Int32).toInt = (z_220 : Int32).toInt) c_221
                            have T_234 : (z_223 : Int32).toInt = (d_219.1 h0 63).toInt := by rw [ez_223]
                            have T_235 : (z_224 : Int32).toInt = (d_219.1 h0 2).toInt := by rw [ez_224]
                            have F_236 := fnle (rfl : (z_224 : Int32).toInt = (z_224 : Int32).toInt) (rfl : (z_223 : Int32).toInt = (z_223 : Int32).toInt) c_225
                            refine yaldB C0 hK hP hmy_228 hky_228 (by decide) rfl 1 rfl (xinT 500 rfl (by omega) (by omega)) dX9_step_440 ?_
                            refine lv_topi (fun z_237 ez_237 => ?_)
                            refine lv_iload hx hb dX9_step_441 (lv_at hl 2 rfl) ?_
                            refine lv_icmp_eq (tgt := 451) hx hb dX9_step_443 (by decide) (fun c_238 => ?_) (fun c_238 => ?_)
                            · refine lv_aload_n hx hb dX9_step_451 rfl (lv_at hl 0 rfl) ?_
                              refine lv_dup hx hb dX9_step_452 rfl ?_
                              refine yget (ci := 9) (k := 64) (v := .int (d_219.1 h0 64)) (C := RX9) (T := TX9) (N := 67) C0 hK hP hm_h0 hk_h0 (by decide) rfl inlX9 (by decide) mW867 (fun _ h9 => h9) rfl dX9_step_453 ?_
                              refine lv_topi (fun z_239 ez_239 => ?_)
                              refine lv_iconst (v := 1) hx hb dX9_step_456 (by decide) ?_
                              refine lv_iadd hx hb dX9_step_457 ?_
                              refine lv_topi (fun z_240 ez_240 => ?_)
                              refine yputI (ci := 9) (k := 64) (ty := .int) (C := RX9) (T := TX9) (N := 67) C0 hK hP hD hS hm_h0 hk_h0 (by decide) rfl inlX9 tyX9 tyX9_ok nmX9 (by decide) mW867 (fun _ h9 => h9) rfl (by decide +kernel) rfl rfl (Nat.le_of_ble_eq_true rfl) ysi_9_64 dX9_step_458 (fun H locs hP hD hS => ?_)
                              obtain ⟨d_241, ed_241⟩ : ∃ z : yD, z = yi d_219 h0 64 z_240 := ⟨_, rfl⟩
                              rw [← ed_241] at hP hD
                              have hgd_241 : yAg S [9, 77, 78] d d_241 := by rw [ed_241]; exact yAg.i hgd_219 (by rw [hk_h0]; decide)
                              have hsd_241 : yAg S [9] d_219 d_241 := by rw [ed_241]; exact yAg.i yAg.rf (by rw [hk_h0]; decide)
                              have hPod_241 : yPo S d_241 := by rw [ed_241]; exact yPo.i hPod_219 hk_h0 (Or.inl rfl)
                              have hfd_241 : yK [54, 55, 57, 63, 64, 65] d d_241 h0 := by rw [ed_241]; exact yK.i hfd_219 (by decide)
                              have hId_241 : yMI S d_241 h0 := yMI.ag hId_219 hSh hm_h0 hk_h0 (show yAg S [9] d_219 d_241 from by rw [ed_241]; exact yAg.i yAg.rf (by rw [hk_h0]; decide)) (show yK [64] d_219 d_241 h0 from by rw [ed_241]; exact yK.i yK.rf (by decide)) (by decide) (by decide)
                              have hE0d_241 : (d_241.1 h0 0).toInt = (d_219.1 h0 0).toInt := congrArg Int32.toInt ((show yK [64] d_219 d_241 h0 from by rw [ed_241]; exact yK.i yK.rf (by decide)) 0 (by decide))
                              have hE1d_241 : (d_241.1 h0 1).toInt = (d_219.1 h0 1).toInt := congrArg Int32.toInt ((show yK [64] d_219 d_241 h0 from by rw [ed_241]; exact yK.i yK.rf (by decide)) 1 (by decide))
                              have hE2d_241 : (d_241.1 h0 2).toInt = (d_219.1 h0 2).toInt := congrArg Int32.toInt ((show yK [64] d_219 d_241 h0 from by rw [ed_241]; exact yK.i yK.rf (by decide)) 2 (by decide))
                              have hE3d_241 : (d_241.1 h0 3).toInt = (d_219.1 h0 3).toInt := congrArg Int32.toInt ((show yK [64] d_219 d_241 h0 from by rw [ed_241]; exact yK.i yK.rf (by decide)) 3 (by decide))
                              have hE63d_241 : (d_241.1 h0 63).toInt = (d_219.1 h0 63).toInt := congrArg Int32.toInt ((show yK [64] d_219 d_241 h0 from by rw [ed_241]; exact yK.i yK.rf (by decide)) 63 (by decide))
                              refine lv_aload_n hx hb dX9_step_461 rfl (lv_at hl 0 rfl) ?_
                              refine yget (ci := 9) (k := 64) (v := .int (d_241.1 h0 64)) (C := RX9) (T := TX9) (N := 67) C0 hK hP hm_h0 hk_h0 (by decide) rfl inlX9 (by decide) mW867 (fun _ h9 => h9) rfl dX9_step_462 ?_
                              refine lv_topi (fun z_242 ez_242 => ?_)
                              refine lv_aload_n hx hb dX9_step_465 rfl (lv_at hl 0 rfl) ?_
                              refine yget (ci := 9) (k := 18) (v := .ref (S.2.2.1 h0 18)) (C := RX9) (T := TX9) (N := 67) C0 hK hP hm_h0 hk_h0 (by decide) rfl inlX9 (by decide) mW125 (fun _ h9 => h9) rfl dX9_step_466 ?_
                              obtain ⟨hmy_243, hky_243⟩ := ySh.f9_18 hSh _ hm_h0 hk_h0
                              refine lv_aload_n hx hb dX9_step_469 rfl (lv_at hl 0 rfl) ?_
                              refine yget (ci := 9) (k := 63) (v := .int (d_241.1 h0 63)) (C := RX9) (T := TX9) (N := 67) C0 hK hP hm_h0 hk_h0 (by decide) rfl inlX9 (by decide) mW866 (fun _ h9 => h9) rfl dX9_step_470 ?_
                              refine lv_topi (fun z_244 ez_244 => ?_)
                              have hCC_245 := yMI.c hId_241
                              have F_247 := feq (rfl : (z_237 : Int32).toInt = (z_237 : Int32).toInt) (rfl : (v_196 : Int32).toInt = (v_196 : Int32).toInt) c_238
                              have T_248 : (z_244 : Int32).toInt = (d_241.1 h0 63).toInt := by rw [ez_244]
                              refine yald C0 hK hP hmy_243 hky_243 (by decide) rfl 0 rfl (xinT 500 rfl (by omega) (by omega)) dX9_step_473 ?_
                              refine lv_topi (fun z_249 ez_249 => ?_)
                              refine lv_icmp_ne (tgt := 507) hx hb dX9_step_474 (by decide) (fun c_250 => ?_) (fun c_250 => ?_)
                              · exact W.vret hx hb hr (fun t ht hW => ⟨⟨d_241, rfl, ⟨hgd_241, (fun _ => hPod_241), hfd_241, hId_241⟩, by rw [ht]; exact hP, hD⟩, hS.F ht⟩) hS.2.2 dX9_step_507
                              · refine lv_aload_n hx hb dX9_step_477 rfl (lv_at hl 0 rfl) ?_
                                refine lv_dup hx hb dX9_step_478 rfl ?_
                                refine yget (ci := 9) (k := 63) (v := .int (d_241.1 h0 63)) (C := RX9) (T := TX9) (N := 67) C0 hK hP hm_h0 hk_h0 (by decide) rfl inlX9 (by decide) mW866 (fun _ h9 => h9) rfl dX9_step_479 ?_
                                rw [← ez_244]
                                refine lv_iconst (v := 1) hx hb dX9_step_482 (by decide) ?_
                                refine lv_iadd hx hb dX9_step_483 ?_
                                refine lv_topi (fun z_251 ez_251 => ?_)
                                refine yputI (ci := 9) (k := 63) (ty := .int) (C := RX9) (T := TX9) (N := 67) C0 hK hP hD hS hm_h0 hk_h0 (by decide) rfl inlX9 tyX9 tyX9_ok nmX9 (by decide) mW866 (fun _ h9 => h9) rfl (by decide +kernel) rfl rfl (Nat.le_of_ble_eq_true rfl) ysi_9_63 dX9_step_484 (fun H locs hP hD hS => ?_)
                                obtain ⟨d_252, ed_252⟩ : ∃ z : yD, z = yi d_241 h0 63 z_251 := ⟨_, rfl⟩
                                rw [← ed_252] at hP hD
                                have hgd_252 : yAg S [9, 77, 78] d d_252 := by rw [ed_252]; exact yAg.i hgd_241 (by rw [hk_h0]; decide)
                                have hsd_252 : yAg S [9] d_241 d_252 := by rw [ed_252]; exact yAg.i yAg.rf (by rw [hk_h0]; decide)
                                have hPod_252 : yPo S d_252 := by rw [ed_252]; exact yPo.i hPod_241 hk_h0 (Or.inl rfl)
                                have hfd_252 : yK [54, 55, 57, 63, 64, 65] d d_252 h0 := by rw [ed_252]; exact yK.i hfd_241 (by decide)
                                have T_253 : (z_242 : Int32).toInt = (d_241.1 h0 64).toInt := by rw [ez_242]
                                have F_255 := feq (rfl : (z_242 : Int32).toInt = (z_242 : Int32).toInt) (rfl : (z_249 : Int32).toInt = (z_249 : Int32).toInt) c_250
                                have T_256 : (z_251 : Int32).toInt = (z_244 : Int32).toInt + 1 := tadd ez_251 (rfl : (z_244 : Int32).toInt = (z_244 : Int32).toInt) (by decide +kernel : (1 : Int32).toInt = 1) (by omega) (by omega)
                                have hId_252 : yMI S d_252 h0 := by rw [ed_252]; exact yMI.i63 hId_241 ⟨by omega, by omega⟩
                                have hE0d_252 : (d_252.1 h0 0).toInt = (d_241.1 h0 0).toInt := congrArg Int32.toInt ((show yK [63] d_241 d_252 h0 from by rw [ed_252]; exact yK.i yK.rf (by decide)) 0 (by decide))
                                have hE1d_252 : (d_252.1 h0 1).toInt = (d_241.1 h0 1).toInt := congrArg Int32.toInt ((show yK [63] d_241 d_252 h0 from by rw [ed_252]; exact yK.i yK.rf (by decide)) 1 (by decide))
                                have hE2d_252 : (d_252.1 h0 2).toInt = (d_241.1 h0 2).toInt := congrArg Int32.toInt ((show yK [63] d_241 d_252 h0 from by rw [ed_252]; exact yK.i yK.rf (by decide)) 2 (by decide))
                                have hE3d_252 : (d_252.1 h0 3).toInt = (d_241.1 h0 3).toInt := congrArg Int32.toInt ((show yK [63] d_241 d_252 h0 from by rw [ed_252]; exact yK.i yK.rf (by decide)) 3 (by decide))
                                have hE63d_252 : (d_252.1 h0 63).toInt = (z_251 : Int32).toInt := by rw [ed_252, yi_self]
                                refine lv_aload_n hx hb dX9_step_487 rfl (lv_at hl 0 rfl) ?_
                                refine lv_iconst (v := 0) hx hb dX9_step_488 (by decide) ?_
                                refine yputI (ci := 9) (k := 64) (ty := .int) (C := RX9) (T := TX9) (N := 67) C0 hK hP hD hS hm_h0 hk_h0 (by decide) rfl inlX9 tyX9 tyX9_ok nmX9 (by decide) mW867 (fun _ h9 => h9) rfl (by decide +kernel) rfl rfl (Nat.le_of_ble_eq_true rfl) ysi_9_64 dX9_step_489 (fun H locs hP hD hS => ?_)
                                obtain ⟨d_257, ed_257⟩ : ∃ z : yD, z = yi d_252 h0 64 0 := ⟨_, rfl⟩
                                rw [← ed_257] at hP hD
                                have hgd_257 : yAg S [9, 77, 78] d d_257 := by rw [ed_257]; exact yAg.i hgd_252 (by rw [hk_h0]; decide)
                                have hsd_257 : yAg S [9] d_252 d_257 := by rw [ed_257]; exact yAg.i yAg.rf (by rw [hk_h0]; decide)
                                have hPod_257 : yPo S d_257 := by rw [ed_257]; exact yPo.i hPod_252 hk_h0 (Or.inl rfl)
                                have hfd_257 : yK [54, 55, 57, 63, 64, 65] d d_257 h0 := by rw [ed_257]; exact yK.i hfd_252 (by decide)
                                have hId_257 : yMI S d_257 h0 := yMI.ag hId_252 hSh hm_h0 hk_h0 (show yAg S [9] d_252 d_257 from by rw [ed_257]; exact yAg.i yAg.rf (by rw [hk_h0]; decide)) (show yK [64] d_252 d_257 h0 from by rw [ed_257]; exact yK.i yK.rf (by decide)) (by decide) (by decide)
                                have hE0d_257 : (d_257.1 h0 0).toInt = (d_252.1 h0 0).toInt := congrArg Int32.toInt ((show yK [64] d_252 d_257 h0 from by rw [ed_257]; exact yK.i yK.rf (by decide)) 0 (by decide))
                                have hE1d_257 : (d_257.1 h0 1).toInt = (d_252.1 h0 1).toInt := congrArg Int32.toInt ((show yK [64] d_252 d_257 h0 from by rw [ed_257]; exact yK.i yK.rf (by decide)) 1 (by decide))
                                have hE2d_257 : (d_257.1 h0 2).toInt = (d_252.1 h0 2).toInt := congrArg Int32.toInt ((show yK [64] d_252 d_257 h0 from by rw [ed_257]; exact yK.i yK.rf (by decide)) 2 (by decide))
                                have hE3d_257 : (d_257.1 h0 3).toInt = (d_252.1 h0 3).toInt := congrArg Int32.toInt ((show yK [64] d_252 d_257 h0 from by rw [ed_257]; exact yK.i yK.rf (by decide)) 3 (by decide))
                                have hE63d_257 : (d_257.1 h0 63).toInt = (d_252.1 h0 63).toInt := congrArg Int32.toInt ((show yK [64] d_252 d_257 h0 from by rw [ed_257]; exact yK.i yK.rf (by decide)) 63 (by decide))
                                refine lv_goto (tgt := 507) hx hb dX9_step_492 (by decide) ?_
                                exact W.vret hx hb hr (fun t ht hW => ⟨⟨d_257, rfl, ⟨hgd_257, (fun _ => hPod_257), hfd_257, hId_257⟩, by rw [ht]; exact hP, hD⟩, hS.F ht⟩) hS.2.2 dX9_step_507
                            · refine lv_aload_n hx hb dX9_step_446 rfl (lv_at hl 0 rfl) ?_
                              refine lv_iload_n hx hb dX9_step_447 rfl (lv_at hl 1 rfl) ?_
                              refine yputI (ci := 9) (k := 65) (ty := .int) (C := RX9) (T := TX9) (N := 67) C0 hK hP hD hS hm_h0 hk_h0 (by decide) rfl inlX9 tyX9 tyX9_ok nmX9 (by decide) mW868 (fun _ h9 => h9) rfl (by decide +kernel) rfl rfl (Nat.le_of_ble_eq_true rfl) ysi_9_65 dX9_step_448 (fun H locs hP hD hS => ?_)
                              obtain ⟨d_258, ed_258⟩ : ∃ z : yD, z = yi d_219 h0 65 p1 := ⟨_, rfl⟩
                              rw [← ed_258] at hP hD
                              have hgd_258 : yAg S [9, 77, 78] d d_258 := by rw [ed_258]; exact yAg.i hgd_219 (by rw [hk_h0]; decide)
                              have hsd_258 : yAg S [9] d_219 d_258 := by rw [ed_258]; exact yAg.i yAg.rf (by rw [hk_h0]; decide)
                              have hPod_258 : yPo S d_258 := by rw [ed_258]; exact yPo.i hPod_219 hk_h0 (Or.inl rfl)
                              have hfd_258 : yK [54, 55, 57, 63, 64, 65] d d_258 h0 := by rw [ed_258]; exact yK.i hfd_219 (by decide)
                              have hId_258 : yMI S d_258 h0 := yMI.ag hId_219 hSh hm_h0 hk_h0 (show yAg S [9] d_219 d_258 from by rw [ed_258]; exact yAg.i yAg.rf (by rw [hk_h0]; decide)) (show yK [65] d_219 d_258 h0 from by rw [ed_258]; exact yK.i yK.rf (by decide)) (by decide) (by decide)
                              have hE0d_258 : (d_258.1 h0 0).toInt = (d_219.1 h0 0).toInt := congrArg Int32.toInt ((show yK [65] d_219 d_258 h0 from by rw [ed_258]; exact yK.i yK.rf (by decide)) 0 (by decide))
                              have hE1d_258 : (d_258.1 h0 1).toInt = (d_219.1 h0 1).toInt := congrArg Int32.toInt ((show yK [65] d_219 d_258 h0 from by rw [ed_258]; exact yK.i yK.rf (by decide)) 1 (by decide))
                              have hE2d_258 : (d_258.1 h0 2).toInt = (d_219.1 h0 2).toInt := congrArg Int32.toInt ((show yK [65] d_219 d_258 h0 from by rw [ed_258]; exact yK.i yK.rf (by decide)) 2 (by decide))
                              have hE3d_258 : (d_258.1 h0 3).toInt = (d_219.1 h0 3).toInt := congrArg Int32.toInt ((show yK [65] d_219 d_258 h0 from by rw [ed_258]; exact yK.i yK.rf (by decide)) 3 (by decide))
                              have hE63d_258 : (d_258.1 h0 63).toInt = (d_219.1 h0 63).toInt := congrArg Int32.toInt ((show yK [65] d_219 d_258 h0 from by rw [ed_258]; exact yK.i yK.rf (by decide)) 63 (by decide))
                              refine lv_aload_n hx hb dX9_step_451 rfl (lv_at hl 0 rfl) ?_
                              refine lv_dup hx hb dX9_step_452 rfl ?_
                              refine yget (ci := 9) (k := 64) (v := .int (d_258.1 h0 64)) (C := RX9) (T := TX9) (N := 67) C0 hK hP hm_h0 hk_h0 (by decide) rfl inlX9 (by decide) mW867 (fun _ h9 => h9) rfl dX9_step_453 ?_
                              refine lv_topi (fun z_259 ez_259 => ?_)
                              refine lv_iconst (v := 1) hx hb dX9_step_456 (by decide) ?_
                              refine lv_iadd hx hb dX9_step_457 ?_
                              refine lv_topi (fun z_260 ez_260 => ?_)
                              refine yputI (ci := 9) (k := 64) (ty := .int) (C := RX9) (T := TX9) (N := 67) C0 hK hP hD hS hm_h0 hk_h0 (by decide) rfl inlX9 tyX9 tyX9_ok nmX9 (by decide) mW867 (fun _ h9 => h9) rfl (by decide +kernel) rfl rfl (Nat.le_of_ble_eq_true rfl) ysi_9_64 dX9_step_458 (fun H locs hP hD hS => ?_)
                              obtain ⟨d_261, ed_261⟩ : ∃ z : yD, z = yi d_258 h0 64 z_260 := ⟨_, rfl⟩
                              rw [← ed_261] at hP hD
                              have hgd_261 : yAg S [9, 77, 78] d d_261 := by rw [ed_261]; exact yAg.i hgd_258 (by rw [hk_h0]; decide)
                              have hsd_261 : yAg S [9] d_258 d_261 := by rw [ed_261]; exact yAg.i yAg.rf (by rw [hk_h0]; decide)
                              have hPod_261 : yPo S d_261 := by rw [ed_261]; exact yPo.i hPod_258 hk_h0 (Or.inl rfl)
                              have hfd_261 : yK [54, 55, 57, 63, 64, 65] d d_261 h0 := by rw [ed_261]; exact yK.i hfd_258 (by decide)
                              have hId_261 : yMI S d_261 h0 := yMI.ag hId_258 hSh hm_h0 hk_h0 (show yAg S [9] d_258 d_261 from by rw [ed_261]; exact yAg.i yAg.rf (by rw [hk_h0]; decide)) (show yK [64] d_258 d_261 h0 from by rw [ed_261]; exact yK.i yK.rf (by decide)) (by decide) (by decide)
                              have hE0d_261 : (d_261.1 h0 0).toInt = (d_258.1 h0 0).toInt := congrArg Int32.toInt ((show yK [64] d_258 d_261 h0 from by rw [ed_261]; exact yK.i yK.rf (by decide)) 0 (by decide))
                              have hE1d_261 : (d_261.1 h0 1).toInt = (d_258.1 h0 1).toInt := congrArg Int32.toInt ((show yK [64] d_258 d_261 h0 from by rw [ed_261]; exact yK.i yK.rf (by decide)) 1 (by decide))
                              have hE2d_261 : (d_261.1 h0 2).toInt = (d_258.1 h0 2).toInt := congrArg Int32.toInt ((show yK [64] d_258 d_261 h0 from by rw [ed_261]; exact yK.i yK.rf (by decide)) 2 (by decide))
                              have hE3d_261 : (d_261.1 h0 3).toInt = (d_258.1 h0 3).toInt := congrArg Int32.toInt ((show yK [64] d_258 d_261 h0 from by rw [ed_261]; exact yK.i yK.rf (by decide)) 3 (by decide))
                              have hE63d_261 : (d_261.1 h0 63).toInt = (d_258.1 h0 63).toInt := congrArg Int32.toInt ((show yK [64] d_258 d_261 h0 from by rw [ed_261]; exact yK.i yK.rf (by decide)) 63 (by decide))
                              refine lv_aload_n hx hb dX9_step_461 rfl (lv_at hl 0 rfl) ?_
                              refine yget (ci := 9) (k := 64) (v := .int (d_261.1 h0 64)) (C := RX9) (T := TX9) (N := 67) C0 hK hP hm_h0 hk_h0 (by decide) rfl inlX9 (by decide) mW867 (fun _ h9 => h9) rfl dX9_step_462 ?_
                              refine lv_topi (fun z_262 ez_262 => ?_)
                              refine lv_aload_n hx hb dX9_step_465 rfl (lv_at hl 0 rfl) ?_
                              refine yget (ci := 9) (k := 18) (v := .ref (S.2.2.1 h0 18)) (C := RX9) (T := TX9) (N := 67) C0 hK hP hm_h0 hk_h0 (by decide) rfl inlX9 (by decide) mW125 (fun _ h9 => h9) rfl dX9_step_466 ?_
                              obtain ⟨hmy_263, hky_263⟩ := ySh.f9_18 hSh _ hm_h0 hk_h0
                              refine lv_aload_n hx hb dX9_step_469 rfl (lv_at hl 0 rfl) ?_
                              refine yget (ci := 9) (k := 63) (v := .int (d_261.1 h0 63)) (C := RX9) (T := TX9) (N := 67) C0 hK hP hm_h0 hk_h0 (by decide) rfl inlX9 (by decide) mW866 (fun _ h9 => h9) rfl dX9_step_470 ?_
                              refine lv_topi (fun z_264 ez_264 => ?_)
                              have hCC_265 := yMI.c hId_261
                              have F_267 := fne (rfl : (z_237 : Int32).toInt = (z_237 : Int32).toInt) (rfl : (v_196 : Int32).toInt = (v_196 : Int32).toInt) c_238
                              have T_268 : (z_264 : Int32).toInt = (d_261.1 h0 63).toInt := by rw [ez_264]
                              refine yald C0 hK hP hmy_263 hky_263 (by decide) rfl 0 rfl (xinT 500 rfl (by omega) (by omega)) dX9_step_473 ?_
                              refine lv_topi (fun z_269 ez_269 => ?_)
                              refine lv_icmp_ne (tgt := 507) hx hb dX9_step_474 (by decide) (fun c_270 => ?_) (fun c_270 => ?_)
                              · exact W.vret hx hb hr (fun t ht hW => ⟨⟨d_261, rfl, ⟨hgd_261, (fun _ => hPod_261), hfd_261, hId_261⟩, by rw [ht]; exact hP, hD⟩, hS.F ht⟩) hS.2.2 dX9_step_507
                              · refine lv_aload_n hx hb dX9_step_477 rfl (lv_at hl 0 rfl) ?_
                                refine lv_dup hx hb dX9_step_478 rfl ?_
                                refine yget (ci := 9) (k := 63) (v := .int (d_261.1 h0 63)) (C := RX9) (T := TX9) (N := 67) C0 hK hP hm_h0 hk_h0 (by decide) rfl inlX9 (by decide) mW866 (fun _ h9 => h9) rfl dX9_step_479 ?_
                                rw [← ez_264]
                                refine lv_iconst (v := 1) hx hb dX9_step_482 (by decide) ?_
                                refine lv_iadd hx hb dX9_step_483 ?_
                                refine lv_topi (fun z_271 ez_271 => ?_)
                                refine yputI (ci := 9) (k := 63) (ty := .int) (C := RX9) (T := TX9) (N := 67) C0 hK hP hD hS hm_h0 hk_h0 (by decide) rfl inlX9 tyX9 tyX9_ok nmX9 (by decide) mW866 (fun _ h9 => h9) rfl (by decide +kernel) rfl rfl (Nat.le_of_ble_eq_true rfl) ysi_9_63 dX9_step_484 (fun H locs hP hD hS => ?_)
                                obtain ⟨d_272, ed_272⟩ : ∃ z : yD, z = yi d_261 h0 63 z_271 := ⟨_, rfl⟩
                                rw [← ed_272] at hP hD
                                have hgd_272 : yAg S [9, 77, 78] d d_272 := by rw [ed_272]; exact yAg.i hgd_261 (by rw [hk_h0]; decide)
                                have hsd_272 : yAg S [9] d_261 d_272 := by rw [ed_272]; exact yAg.i yAg.rf (by rw [hk_h0]; decide)
                                have hPod_272 : yPo S d_272 := by rw [ed_272]; exact yPo.i hPod_261 hk_h0 (Or.inl rfl)
                                have hfd_272 : yK [54, 55, 57, 63, 64, 65] d d_272 h0 := by rw [ed_272]; exact yK.i hfd_261 (by decide)
                                have T_273 : (z_262 : Int32).toInt = (d_261.1 h0 64).toInt := by rw [ez_262]
                                have F_275 := feq (rfl : (z_262 : Int32).toInt = (z_262 : Int32).toInt) (rfl : (z_269 : Int32).toInt = (z_269 : Int32).toInt) c_270
                                have T_276 : (z_271 : Int32).toInt = (z_264 : Int32).toInt + 1 := tadd ez_271 (rfl : (z_264 : Int32).toInt = (z_264 : Int32).toInt) (by decide +kernel : (1 : Int32).toInt = 1) (by omega) (by omega)
                                have hId_272 : yMI S d_272 h0 := by rw [ed_272]; exact yMI.i63 hId_261 ⟨by omega, by omega⟩
                                have hE0d_272 : (d_272.1 h0 0).toInt = (d_261.1 h0 0).toInt := congrArg Int32.toInt ((show yK [63] d_261 d_272 h0 from by rw [ed_272]; exact yK.i yK.rf (by decide)) 0 (by decide))
                                have hE1d_272 : (d_272.1 h0 1).toInt = (d_261.1 h0 1).toInt := congrArg Int32.toInt ((show yK [63] d_261 d_272 h0 from by rw [ed_272]; exact yK.i yK.rf (by decide)) 1 (by decide))
                                have hE2d_272 : (d_272.1 h0 2).toInt = (d_261.1 h0 2).toInt := congrArg Int32.toInt ((show yK [63] d_261 d_272 h0 from by rw [ed_272]; exact yK.i yK.rf (by decide)) 2 (by decide))
                                have hE3d_272 : (d_272.1 h0 3).toInt = (d_261.1 h0 3).toInt := congrArg Int32.toInt ((show yK [63] d_261 d_272 h0 from by rw [ed_272]; exact yK.i yK.rf (by decide)) 3 (by decide))
                                have hE63d_272 : (d_272.1 h0 63).toInt = (z_271 : Int32).toInt := by rw [ed_272, yi_self]
                                refine lv_aload_n hx hb dX9_step_487 rfl (lv_at hl 0 rfl) ?_
                                refine lv_iconst (v := 0) hx hb dX9_step_488 (by decide) ?_
                                refine yputI (ci := 9) (k := 64) (ty := .int) (C := RX9) (T := TX9) (N := 67) C0 hK hP hD hS hm_h0 hk_h0 (by decide) rfl inlX9 tyX9 tyX9_ok nmX9 (by decide) mW867 (fun _ h9 => h9) rfl (by decide +kernel) rfl rfl (Nat.le_of_ble_eq_true rfl) ysi_9_64 dX9_step_489 (fun H locs hP hD hS => ?_)
                                obtain ⟨d_277, ed_277⟩ : ∃ z : yD, z = yi d_272 h0 64 0 := ⟨_, rfl⟩
                                rw [← ed_277] at hP hD
                                have hgd_277 : yAg S [9, 77, 78] d d_277 := by rw [ed_277]; exact yAg.i hgd_272 (by rw [hk_h0]; decide)
                                have hsd_277 : yAg S [9] d_272 d_277 := by rw [ed_277]; exact yAg.i yAg.rf (by rw [hk_h0]; decide)
                                have hPod_277 : yPo S d_277 := by rw [ed_277]; exact yPo.i hPod_272 hk_h0 (Or.inl rfl)
                                have hfd_277 : yK [54, 55, 57, 63, 64, 65] d d_277 h0 := by rw [ed_277]; exact yK.i hfd_272 (by decide)
                                have hId_277 : yMI S d_277 h0 := yMI.ag hId_272 hSh hm_h0 hk_h0 (show yAg S [9] d_272 d_277 from by rw [ed_277]; exact yAg.i yAg.rf (by rw [hk_h0]; decide)) (show yK [64] d_272 d_277 h0 from by rw [ed_277]; exact yK.i yK.rf (by decide)) (by decide) (by decide)
                                have hE0d_277 : (d_277.1 h0 0).toInt = (d_272.1 h0 0).toInt := congrArg Int32.toInt ((show yK [64] d_272 d_277 h0 from by rw [ed_277]; exact yK.i yK.rf (by decide)) 0 (by decide))
                                have hE1d_277 : (d_277.1 h0 1).toInt = (d_272.1 h0 1).toInt := congrArg Int32.toInt ((show yK [64] d_272 d_277 h0 from by rw [ed_277]; exact yK.i yK.rf (by decide)) 1 (by decide))
                                have hE2d_277 : (d_277.1 h0 2).toInt = (d_272.1 h0 2).toInt := congrArg Int32.toInt ((show yK [64] d_272 d_277 h0 from by rw [ed_277]; exact yK.i yK.rf (by decide)) 2 (by decide))
                                have hE3d_277 : (d_277.1 h0 3).toInt = (d_272.1 h0 3).toInt := congrArg Int32.toInt ((show yK [64] d_272 d_277 h0 from by rw [ed_277]; exact yK.i yK.rf (by decide)) 3 (by decide))
                                have hE63d_277 : (d_277.1 h0 63).toInt = (d_272.1 h0 63).toInt := congrArg Int32.toInt ((show yK [64] d_272 d_277 h0 from by rw [ed_277]; exact yK.i yK.rf (by decide)) 63 (by decide))
                                refine lv_goto (tgt := 507) hx hb dX9_step_492 (by decide) ?_
                                exact W.vret hx hb hr (fun t ht hW => ⟨⟨d_277, rfl, ⟨hgd_277, (fun _ => hPod_277), hfd_277, hId_277⟩, by rw [ht]; exact hP, hD⟩, hS.F ht⟩) hS.2.2 dX9_step_507
                      refine lv_icmp_ne (tgt := 414) hx hb dX9_step_401 (by decide) (fun c_278 => ?_) (fun c_278 => ?_)
                      · exact J414_218 d_217 _ _ ls _ ⟨rfl, hP, hD, hS, hgd_217, hPod_217, hfd_217, hId_217, yAg.rf, yK.rf, lv_sub hl [0, 1, 2] rfl⟩
                      · refine lv_aload_n hx hb dX9_step_404 rfl (lv_at hl 0 rfl) ?_
                        refine lv_dup hx hb dX9_step_405 rfl ?_
                        refine yget (ci := 9) (k := 57) (v := .int (d_217.1 h0 57)) (C := RX9) (T := TX9) (N := 67) C0 hK hP hm_h0 hk_h0 (by decide) rfl inlX9 (by decide) mW880 (fun _ h9 => h9) rfl dX9_step_406 ?_
                        refine lv_topi (fun z_279 ez_279 => ?_)
                        refine lv_iconst (v := 1) hx hb dX9_step_409 (by decide) ?_
                        refine lv_iadd hx hb dX9_step_410 ?_
                        refine lv_topi (fun z_280 ez_280 => ?_)
                        refine yputI (ci := 9) (k := 57) (ty := .int) (C := RX9) (T := TX9) (N := 67) C0 hK hP hD hS hm_h0 hk_h0 (by decide) rfl inlX9 tyX9 tyX9_ok nmX9 (by decide) mW880 (fun _ h9 => h9) rfl (by decide +kernel) rfl rfl (Nat.le_of_ble_eq_true rfl) ysi_9_57 dX9_step_411 (fun H locs hP hD hS => ?_)
                        obtain ⟨d_281, ed_281⟩ : ∃ z : yD, z = yi d_217 h0 57 z_280 := ⟨_, rfl⟩
                        rw [← ed_281] at hP hD
                        have hgd_281 : yAg S [9, 77, 78] d d_281 := by rw [ed_281]; exact yAg.i hgd_217 (by rw [hk_h0]; decide)
                        have hsd_281 : yAg S [9] d_217 d_281 := by rw [ed_281]; exact yAg.i yAg.rf (by rw [hk_h0]; decide)
                        have hPod_281 : yPo S d_281 := by rw [ed_281]; exact yPo.i hPod_217 hk_h0 (Or.inl rfl)
                        have hfd_281 : yK [54, 55, 57, 63, 64, 65] d d_281 h0 := by rw [ed_281]; exact yK.i hfd_217 (by decide)
                        have hL0d_281 : yAg S [9] d_217 d_281 := by rw [ed_281]; exact yAg.i yAg.rf (by rw [hk_h0]; decide)
                        have hK0d_281 : yK [57] d_217 d_281 h0 := by rw [ed_281]; exact yK.i yK.rf (by decide)
                        have hId_281 : yMI S d_281 h0 := yMI.ag hId_217 hSh hm_h0 hk_h0 (show yAg S [9] d_217 d_281 from by rw [ed_281]; exact yAg.i yAg.rf (by rw [hk_h0]; decide)) (show yK [57] d_217 d_281 h0 from by rw [ed_281]; exact yK.i yK.rf (by decide)) (by decide) (by decide)
                        have hE0d_281 : (d_281.1 h0 0).toInt = (d_217.1 h0 0).toInt := congrArg Int32.toInt ((show yK [57] d_217 d_281 h0 from by rw [ed_281]; exact yK.i yK.rf (by decide)) 0 (by decide))
                        have hE1d_281 : (d_281.1 h0 1).toInt = (d_217.1 h0 1).toInt := congrArg Int32.toInt ((show yK [57] d_217 d_281 h0 from by rw [ed_281]; exact yK.i yK.rf (by decide)) 1 (by decide))
                        have hE2d_281 : (d_281.1 h0 2).toInt = (d_217.1 h0 2).toInt := congrArg Int32.toInt ((show yK [57] d_217 d_281 h0 from by rw [ed_281]; exact yK.i yK.rf (by decide)) 2 (by decide))
                        have hE3d_281 : (d_281.1 h0 3).toInt = (d_217.1 h0 3).toInt := congrArg Int32.toInt ((show yK [57] d_217 d_281 h0 from by rw [ed_281]; exact yK.i yK.rf (by decide)) 3 (by decide))
                        have hE63d_281 : (d_281.1 h0 63).toInt = (d_217.1 h0 63).toInt := congrArg Int32.toInt ((show yK [57] d_217 d_281 h0 from by rw [ed_281]; exact yK.i yK.rf (by decide)) 63 (by decide))
                        exact J414_218 d_281 _ _ ls _ ⟨rfl, hP, hD, hS, hgd_281, hPod_281, hfd_281, hId_281, hL0d_281, hK0d_281, lv_sub hl [0, 1, 2] rfl⟩
                    refine lv_icmp_lt (tgt := 395) hx hb dX9_step_372 (by decide) (fun c_282 => ?_) (fun c_282 => ?_)
                    · exact J395_216 d_215 _ _ ls _ ⟨rfl, hP, hD, hS, hgd_215, hPod_215, hfd_215, hId_215, yAg.rf, yK.rf, lv_sub hl [0, 1, 2] rfl⟩
                    · refine lv_iload_n hx hb dX9_step_375 rfl (lv_at hl 1 rfl) ?_
                      refine lv_aload_n hx hb dX9_step_376 rfl (lv_at hl 0 rfl) ?_
                      refine yget (ci := 9) (k := 52) (v := .int (d_215.1 h0 52)) (C := RX9) (T := TX9) (N := 67) C0 hK hP hm_h0 hk_h0 (by decide) rfl inlX9 (by decide) mW864 (fun _ h9 => h9) rfl dX9_step_377 ?_
                      refine lv_topi (fun z_283 ez_283 => ?_)
                      refine lv_icmp_ge (tgt := 395) hx hb dX9_step_380 (by decide) (fun c_284 => ?_) (fun c_284 => ?_)
                      · exact J395_216 d_215 _ _ ls _ ⟨rfl, hP, hD, hS, hgd_215, hPod_215, hfd_215, hId_215, yAg.rf, yK.rf, lv_sub hl [0, 1, 2] rfl⟩
                      · refine lv_aload_n hx hb dX9_step_383 rfl (lv_at hl 0 rfl) ?_
                        refine lv_dup hx hb dX9_step_384 rfl ?_
                        refine yget (ci := 9) (k := 56) (v := .long (d_215.2.1 h0 56)) (C := RX9) (T := TX9) (N := 67) C0 hK hP hm_h0 hk_h0 (by decide) rfl inlX9 (by decide) mW879 (fun _ h9 => h9) rfl dX9_step_385 ?_
                        refine lv_topl (fun z_285 ez_285 => ?_)
                        refine lv_iload hx hb dX9_step_388 (lv_at hl 3 rfl) ?_
                        refine lv_i2l hx hb dX9_step_390 rfl ?_
                        rw [← ez_202]
                        refine lv_ladd hx hb dX9_step_391 ?_
                        refine lv_topl (fun z_286 ez_286 => ?_)
                        refine yputJ (ci := 9) (k := 56) (C := RX9) (T := TX9) (N := 67) C0 hK hP hD hS hm_h0 hk_h0 (by decide) rfl inlX9 tyX9 tyX9_ok nmX9 (by decide) mW879 (fun _ h9 => h9) rfl (by decide +kernel) (Nat.le_of_ble_eq_true rfl) ysj_9_56 dX9_step_392 (fun H locs hP hD hS => ?_)
                        obtain ⟨d_287, ed_287⟩ : ∃ z : yD, z = yj d_215 h0 56 z_286 := ⟨_, rfl⟩
                        rw [← ed_287] at hP hD
                        have hgd_287 : yAg S [9, 77, 78] d d_287 := by rw [ed_287]; exact yAg.j hgd_215 (by rw [hk_h0]; decide)
                        have hsd_287 : yAg S [9] d_215 d_287 := by rw [ed_287]; exact yAg.j yAg.rf (by rw [hk_h0]; decide)
                        have hPod_287 : yPo S d_287 := by rw [ed_287]; exact hPod_215
                        have hfd_287 : yK [54, 55, 57, 63, 64, 65] d d_287 h0 := yK.ag hfd_215 (show yAg S [9] d_215 d_287 from by rw [ed_287]; exact yAg.j yAg.rf (by rw [hk_h0]; decide)) (by rw [hk_h0]; decide)
                        have hL0d_287 : yAg S [9] d_215 d_287 := by rw [ed_287]; exact yAg.j yAg.rf (by rw [hk_h0]; decide)
                        have hK0d_287 : yK [] d_215 d_287 h0 := yK.ag yK.rf (show yAg S [9] d_215 d_287 from by rw [ed_287]; exact yAg.j yAg.rf (by rw [hk_h0]; decide)) (by rw [hk_h0]; decide)
                        have hId_287 : yMI S d_287 h0 := yMI.ag hId_215 hSh hm_h0 hk_h0 (show yAg S [9] d_215 d_287 from by rw [ed_287]; exact yAg.j yAg.rf (by rw [hk_h0]; decide)) (yK.ag (F := []) yK.rf (show yAg S [9] d_215 d_287 from by rw [ed_287]; exact yAg.j yAg.rf (by rw [hk_h0]; decide)) (by rw [hk_h0]; decide)) (by decide) (by decide)
                        have hE0d_287 : (d_287.1 h0 0).toInt = (d_215.1 h0 0).toInt := congrArg Int32.toInt ((yK.ag (F := []) yK.rf (show yAg S [9] d_215 d_287 from by rw [ed_287]; exact yAg.j yAg.rf (by rw [hk_h0]; decide)) (by rw [hk_h0]; decide)) 0 (by decide))
                        have hE1d_287 : (d_287.1 h0 1).toInt = (d_215.1 h0 1).toInt := congrArg Int32.toInt ((yK.ag (F := []) yK.rf (show yAg S [9] d_215 d_287 from by rw [ed_287]; exact yAg.j yAg.rf (by rw [hk_h0]; decide)) (by rw [hk_h0]; decide)) 1 (by decide))
                        have hE2d_287 : (d_287.1 h0 2).toInt = (d_215.1 h0 2).toInt := congrArg Int32.toInt ((yK.ag (F := []) yK.rf (show yAg S [9] d_215 d_287 from by rw [ed_287]; exact yAg.j yAg.rf (by rw [hk_h0]; decide)) (by rw [hk_h0]; decide)) 2 (by decide))
                        have hE3d_287 : (d_287.1 h0 3).toInt = (d_215.1 h0 3).toInt := congrArg Int32.toInt ((yK.ag (F := []) yK.rf (show yAg S [9] d_215 d_287 from by rw [ed_287]; exact yAg.j yAg.rf (by rw [hk_h0]; decide)) (by rw [hk_h0]; decide)) 3 (by decide))
                        have hE63d_287 : (d_287.1 h0 63).toInt = (d_215.1 h0 63).toInt := congrArg Int32.toInt ((yK.ag (F := []) yK.rf (show yAg S [9] d_215 d_287 from by rw [ed_287]; exact yAg.j yAg.rf (by rw [hk_h0]; decide)) (by rw [hk_h0]; decide)) 63 (by decide))
                        exact J395_216 d_287 _ _ ls _ ⟨rfl, hP, hD, hS, hgd_287, hPod_287, hfd_287, hId_287, hL0d_287, hK0d_287, lv_sub hl [0, 1, 2] rfl⟩
                  refine lv_icmp_ne (tgt := 367) hx hb dX9_step_341 (by decide) (fun c_288 => ?_) (fun c_288 => ?_)
                  · exact J367_214 d_213 _ _ ls _ ⟨rfl, hP, hD, hS, hgd_213, hPod_213, hfd_213, hId_213, yAg.rf, yK.rf, lv_sub hl [0, 2, 3, 4] rfl⟩
                  · refine lv_aload_n hx hb dX9_step_344 rfl (lv_at hl 0 rfl) ?_
                    refine lv_iload hx hb dX9_step_345 (lv_at hl 3 rfl) ?_
                    refine yputI (ci := 9) (k := 54) (ty := .int) (C := RX9) (T := TX9) (N := 67) C0 hK hP hD hS hm_h0 hk_h0 (by decide) rfl inlX9 tyX9 tyX9_ok nmX9 (by decide) mW878 (fun _ h9 => h9) rfl (by decide +kernel) rfl rfl (Nat.le_of_ble_eq_true rfl) ysi_9_54 dX9_step_347 (fun H locs hP hD hS => ?_)
                    obtain ⟨d_289, ed_289⟩ : ∃ z : yD, z = yi d_213 h0 54 v_196 := ⟨_, rfl⟩
                    rw [← ed_289] at hP hD
                    have hgd_289 : yAg S [9, 77, 78] d d_289 := by rw [ed_289]; exact yAg.i hgd_213 (by rw [hk_h0]; decide)
                    have hsd_289 : yAg S [9] d_213 d_289 := by rw [ed_289]; exact yAg.i yAg.rf (by rw [hk_h0]; decide)
                    have hPod_289 : yPo S d_289 := by rw [ed_289]; exact yPo.i hPod_213 hk_h0 (Or.inl rfl)
                    have hfd_289 : yK [54, 55, 57, 63, 64, 65] d d_289 h0 := by rw [ed_289]; exact yK.i hfd_213 (by decide)
                    have hL0d_289 : yAg S [9] d_213 d_289 := by rw [ed_289]; exact yAg.i yAg.rf (by rw [hk_h0]; decide)
                    have hK0d_289 : yK [54, 55] d_213 d_289 h0 := by rw [ed_289]; exact yK.i yK.rf (by decide)
                    have hId_289 : yMI S d_289 h0 := yMI.ag hId_213 hSh hm_h0 hk_h0 (show yAg S [9] d_213 d_289 from by rw [ed_289]; exact yAg.i yAg.rf (by rw [hk_h0]; decide)) (show yK [54] d_213 d_289 h0 from by rw [ed_289]; exact yK.i yK.rf (by decide)) (by decide) (by decide)
                    have hE0d_289 : (d_289.1 h0 0).toInt = (d_213.1 h0 0).toInt := congrArg Int32.toInt ((show yK [54] d_213 d_289 h0 from by rw [ed_289]; exact yK.i yK.rf (by decide)) 0 (by decide))
                    have hE1d_289 : (d_289.1 h0 1).toInt = (d_213.1 h0 1).toInt := congrArg Int32.toInt ((show yK [54] d_213 d_289 h0 from by rw [ed_289]; exact yK.i yK.rf (by decide)) 1 (by decide))
                    have hE2d_289 : (d_289.1 h0 2).toInt = (d_213.1 h0 2).toInt := congrArg Int32.toInt ((show yK [54] d_213 d_289 h0 from by rw [ed_289]; exact yK.i yK.rf (by decide)) 2 (by decide))
                    have hE3d_289 : (d_289.1 h0 3).toInt = (d_213.1 h0 3).toInt := congrArg Int32.toInt ((show yK [54] d_213 d_289 h0 from by rw [ed_289]; exact yK.i yK.rf (by decide)) 3 (by decide))
                    have hE63d_289 : (d_289.1 h0 63).toInt = (d_213.1 h0 63).toInt := congrArg Int32.toInt ((show yK [54] d_213 d_289 h0 from by rw [ed_289]; exact yK.i yK.rf (by decide)) 63 (by decide))
                    refine lv_aload_n hx hb dX9_step_350 rfl (lv_at hl 0 rfl) ?_
                    refine lv_iload hx hb dX9_step_351 (lv_at hl 3 rfl) ?_
                    refine lv_bipush (v := (-3)) hx hb dX9_step_353 (by decide) ?_
                    refine lv_icmp_ne (tgt := 362) hx hb dX9_step_355 (by decide) (fun c_290 => ?_) (fun c_290 => ?_)
                    · refine lv_iload hx hb dX9_step_362 (lv_at hl 4 rfl) ?_
                      refine yputI (ci := 9) (k := 55) (ty := .int) (C := RX9) (T := TX9) (N := 67) C0 hK hP hD hS hm_h0 hk_h0 (by decide) rfl inlX9 tyX9 tyX9_ok nmX9 (by decide) mW856 (fun _ h9 => h9) rfl (by decide +kernel) rfl rfl (Nat.le_of_ble_eq_true rfl) ysi_9_55 dX9_step_364 (fun H locs hP hD hS => ?_)
                      obtain ⟨d_291, ed_291⟩ : ∃ z : yD, z = yi d_289 h0 55 v_197 := ⟨_, rfl⟩
                      rw [← ed_291] at hP hD
                      have hgd_291 : yAg S [9, 77, 78] d d_291 := by rw [ed_291]; exact yAg.i hgd_289 (by rw [hk_h0]; decide)
                      have hsd_291 : yAg S [9] d_289 d_291 := by rw [ed_291]; exact yAg.i yAg.rf (by rw [hk_h0]; decide)
                      have hPod_291 : yPo S d_291 := by rw [ed_291]; exact yPo.i hPod_289 hk_h0 (Or.inl rfl)
                      have hfd_291 : yK [54, 55, 57, 63, 64, 65] d d_291 h0 := by rw [ed_291]; exact yK.i hfd_289 (by decide)
                      have hL0d_291 : yAg S [9] d_213 d_291 := by rw [ed_291]; exact yAg.i hL0d_289 (by rw [hk_h0]; decide)
                      have hK0d_291 : yK [54, 55] d_213 d_291 h0 := by rw [ed_291]; exact yK.i hK0d_289 (by decide)
                      have hId_291 : yMI S d_291 h0 := yMI.ag hId_289 hSh hm_h0 hk_h0 (show yAg S [9] d_289 d_291 from by rw [ed_291]; exact yAg.i yAg.rf (by rw [hk_h0]; decide)) (show yK [55] d_289 d_291 h0 from by rw [ed_291]; exact yK.i yK.rf (by decide)) (by decide) (by decide)
                      have hE0d_291 : (d_291.1 h0 0).toInt = (d_289.1 h0 0).toInt := congrArg Int32.toInt ((show yK [55] d_289 d_291 h0 from by rw [ed_291]; exact yK.i yK.rf (by decide)) 0 (by decide))
                      have hE1d_291 : (d_291.1 h0 1).toInt = (d_289.1 h0 1).toInt := congrArg Int32.toInt ((show yK [55] d_289 d_291 h0 from by rw [ed_291]; exact yK.i yK.rf (by decide)) 1 (by decide))
                      have hE2d_291 : (d_291.1 h0 2).toInt = (d_289.1 h0 2).toInt := congrArg Int32.toInt ((show yK [55] d_289 d_291 h0 from by rw [ed_291]; exact yK.i yK.rf (by decide)) 2 (by decide))
                      have hE3d_291 : (d_291.1 h0 3).toInt = (d_289.1 h0 3).toInt := congrArg Int32.toInt ((show yK [55] d_289 d_291 h0 from by rw [ed_291]; exact yK.i yK.rf (by decide)) 3 (by decide))
                      have hE63d_291 : (d_291.1 h0 63).toInt = (d_289.1 h0 63).toInt := congrArg Int32.toInt ((show yK [55] d_289 d_291 h0 from by rw [ed_291]; exact yK.i yK.rf (by decide)) 63 (by decide))
                      exact J367_214 d_291 _ _ ls _ ⟨rfl, hP, hD, hS, hgd_291, hPod_291, hfd_291, hId_291, hL0d_291, hK0d_291, lv_sub hl [0, 2, 3, 4] rfl⟩
                    · refine lv_iconst (v := 3) hx hb dX9_step_358 (by decide) ?_
                      refine lv_goto (tgt := 364) hx hb dX9_step_359 (by decide) ?_
                      refine yputI (ci := 9) (k := 55) (ty := .int) (C := RX9) (T := TX9) (N := 67) C0 hK hP hD hS hm_h0 hk_h0 (by decide) rfl inlX9 tyX9 tyX9_ok nmX9 (by decide) mW856 (fun _ h9 => h9) rfl (by decide +kernel) rfl rfl (Nat.le_of_ble_eq_true rfl) ysi_9_55 dX9_step_364 (fun H locs hP hD hS => ?_)
                      obtain ⟨d_292, ed_292⟩ : ∃ z : yD, z = yi d_289 h0 55 3 := ⟨_, rfl⟩
                      rw [← ed_292] at hP hD
                      have hgd_292 : yAg S [9, 77, 78] d d_292 := by rw [ed_292]; exact yAg.i hgd_289 (by rw [hk_h0]; decide)
                      have hsd_292 : yAg S [9] d_289 d_292 := by rw [ed_292]; exact yAg.i yAg.rf (by rw [hk_h0]; decide)
                      have hPod_292 : yPo S d_292 := by rw [ed_292]; exact yPo.i hPod_289 hk_h0 (Or.inl rfl)
                      have hfd_292 : yK [54, 55, 57, 63, 64, 65] d d_292 h0 := by rw [ed_292]; exact yK.i hfd_289 (by decide)
                      have hL0d_292 : yAg S [9] d_213 d_292 := by rw [ed_292]; exact yAg.i hL0d_289 (by rw [hk_h0]; decide)
                      have hK0d_292 : yK [54, 55] d_213 d_292 h0 := by rw [ed_292]; exact yK.i hK0d_289 (by decide)
                      have hId_292 : yMI S d_292 h0 := yMI.ag hId_289 hSh hm_h0 hk_h0 (show yAg S [9] d_289 d_292 from by rw [ed_292]; exact yAg.i yAg.rf (by rw [hk_h0]; decide)) (show yK [55] d_289 d_292 h0 from by rw [ed_292]; exact yK.i yK.rf (by decide)) (by decide) (by decide)
                      have hE0d_292 : (d_292.1 h0 0).toInt = (d_289.1 h0 0).toInt := congrArg Int32.toInt ((show yK [55] d_289 d_292 h0 from by rw [ed_292]; exact yK.i yK.rf (by decide)) 0 (by decide))
                      have hE1d_292 : (d_292.1 h0 1).toInt = (d_289.1 h0 1).toInt := congrArg Int32.toInt ((show yK [55] d_289 d_292 h0 from by rw [ed_292]; exact yK.i yK.rf (by decide)) 1 (by decide))
                      have hE2d_292 : (d_292.1 h0 2).toInt = (d_289.1 h0 2).toInt := congrArg Int32.toInt ((show yK [55] d_289 d_292 h0 from by rw [ed_292]; exact yK.i yK.rf (by decide)) 2 (by decide))
                      have hE3d_292 : (d_292.1 h0 3).toInt = (d_289.1 h0 3).toInt := congrArg Int32.toInt ((show yK [55] d_289 d_292 h0 from by rw [ed_292]; exact yK.i yK.rf (by decide)) 3 (by decide))
                      have hE63d_292 : (d_292.1 h0 63).toInt = (d_289.1 h0 63).toInt := congrArg Int32.toInt ((show yK [55] d_289 d_292 h0 from by rw [ed_292]; exact yK.i yK.rf (by decide)) 63 (by decide))
                      exact J367_214 d_292 _ _ ls _ ⟨rfl, hP, hD, hS, hgd_292, hPod_292, hfd_292, hId_292, hL0d_292, hK0d_292, lv_sub hl [0, 2, 3, 4] rfl⟩
                · exact W.vret hx hb hr (fun t ht hW => ⟨⟨d_208, rfl, ⟨hgd_208, (fun _ => hPod_208), hfd_208, hId_208⟩, by rw [ht]; exact hP, hD⟩, hS.F ht⟩) hS.2.2 dX9_step_323
              refine lv_if_eq (tgt := 315) hx hb dX9_step_295 (by decide) (fun c_293 => ?_) (fun c_293 => ?_)
              · exact J315_207 d_207 _ _ ls _ ⟨rfl, hP, hD, hS, hgd_207, hPod_207, hfd_207, hId_207, yAg.rf, yK.rf, lv_sub hl [1, 2, 3, 5, 6] rfl⟩
              · refine lv_aload_n hx hb dX9_step_298 rfl (lv_at hl 1 rfl) ?_
                refine yget (ci := 9) (k := 58) (v := .long (d_207.2.1 h0 58)) (C := RX9) (T := TX9) (N := 67) C0 hK hP hm_h0 hk_h0 (by decide) rfl inlX9 (by decide) mW873 (fun _ h9 => h9) rfl dX9_step_299 ?_
                refine lv_topl (fun z_294 ez_294 => ?_)
                refine lv_aload_n hx hb dX9_step_302 rfl (lv_at hl 1 rfl) ?_
                refine yget (ci := 9) (k := 59) (v := .long (d_207.2.1 h0 59)) (C := RX9) (T := TX9) (N := 67) C0 hK hP hm_h0 hk_h0 (by decide) rfl inlX9 (by decide) mW874 (fun _ h9 => h9) rfl dX9_step_303 ?_
                refine lv_topl (fun z_295 ez_295 => ?_)
                refine W.lcmp hx hb dX9_step_306 ?_
                refine lv_topi (fun z_296 ez_296 => ?_)
                refine lv_if_lt (tgt := 315) hx hb dX9_step_307 (by decide) (fun c_297 => ?_) (fun c_297 => ?_)
                · exact J315_207 d_207 _ _ ls _ ⟨rfl, hP, hD, hS, hgd_207, hPod_207, hfd_207, hId_207, yAg.rf, yK.rf, lv_sub hl [1, 2, 3, 5, 6] rfl⟩
                · refine lv_aload_n hx hb dX9_step_310 rfl (lv_at hl 1 rfl) ?_
                  refine lv_lload_n hx hb dX9_step_311 rfl (lv_at hl 4 rfl) ?_
                  refine yputJ (ci := 9) (k := 61) (C := RX9) (T := TX9) (N := 67) C0 hK hP hD hS hm_h0 hk_h0 (by decide) rfl inlX9 tyX9 tyX9_ok nmX9 (by decide) mW876 (fun _ h9 => h9) rfl (by decide +kernel) (Nat.le_of_ble_eq_true rfl) ysj_9_61 dX9_step_312 (fun H locs hP hD hS => ?_)
                  obtain ⟨d_298, ed_298⟩ : ∃ z : yD, z = yj d_207 h0 61 p2 := ⟨_, rfl⟩
                  rw [← ed_298] at hP hD
                  have hgd_298 : yAg S [9, 77, 78] d d_298 := by rw [ed_298]; exact yAg.j hgd_207 (by rw [hk_h0]; decide)
                  have hsd_298 : yAg S [9] d_207 d_298 := by rw [ed_298]; exact yAg.j yAg.rf (by rw [hk_h0]; decide)
                  have hPod_298 : yPo S d_298 := by rw [ed_298]; exact hPod_207
                  have hfd_298 : yK [54, 55, 57, 63, 64, 65] d d_298 h0 := yK.ag hfd_207 (show yAg S [9] d_207 d_298 from by rw [ed_298]; exact yAg.j yAg.rf (by rw [hk_h0]; decide)) (by rw [hk_h0]; decide)
                  have hL1d_298 : yAg S [9] d_207 d_298 := by rw [ed_298]; exact yAg.j yAg.rf (by rw [hk_h0]; decide)
                  have hK1d_298 : yK [] d_207 d_298 h0 := yK.ag yK.rf (show yAg S [9] d_207 d_298 from by rw [ed_298]; exact yAg.j yAg.rf (by rw [hk_h0]; decide)) (by rw [hk_h0]; decide)
                  have hId_298 : yMI S d_298 h0 := yMI.ag hId_207 hSh hm_h0 hk_h0 (show yAg S [9] d_207 d_298 from by rw [ed_298]; exact yAg.j yAg.rf (by rw [hk_h0]; decide)) (yK.ag (F := []) yK.rf (show yAg S [9] d_207 d_298 from by rw [ed_298]; exact yAg.j yAg.rf (by rw [hk_h0]; decide)) (by rw [hk_h0]; decide)) (by decide) (by decide)
                  have hE0d_298 : (d_298.1 h0 0).toInt = (d_207.1 h0 0).toInt := congrArg Int32.toInt ((yK.ag (F := []) yK.rf (show yAg S [9] d_207 d_298 from by rw [ed_298]; exact yAg.j yAg.rf (by rw [hk_h0]; decide)) (by rw [hk_h0]; decide)) 0 (by decide))
                  have hE1d_298 : (d_298.1 h0 1).toInt = (d_207.1 h0 1).toInt := congrArg Int32.toInt ((yK.ag (F := []) yK.rf (show yAg S [9] d_207 d_298 from by rw [ed_298]; exact yAg.j yAg.rf (by rw [hk_h0]; decide)) (by rw [hk_h0]; decide)) 1 (by decide))
                  have hE2d_298 : (d_298.1 h0 2).toInt = (d_207.1 h0 2).toInt := congrArg Int32.toInt ((yK.ag (F := []) yK.rf (show yAg S [9] d_207 d_298 from by rw [ed_298]; exact yAg.j yAg.rf (by rw [hk_h0]; decide)) (by rw [hk_h0]; decide)) 2 (by decide))
                  have hE3d_298 : (d_298.1 h0 3).toInt = (d_207.1 h0 3).toInt := congrArg Int32.toInt ((yK.ag (F := []) yK.rf (show yAg S [9] d_207 d_298 from by rw [ed_298]; exact yAg.j yAg.rf (by rw [hk_h0]; decide)) (by rw [hk_h0]; decide)) 3 (by decide))
                  have hE63d_298 : (d_298.1 h0 63).toInt = (d_207.1 h0 63).toInt := congrArg Int32.toInt ((yK.ag (F := []) yK.rf (show yAg S [9] d_207 d_298 from by rw [ed_298]; exact yAg.j yAg.rf (by rw [hk_h0]; decide)) (by rw [hk_h0]; decide)) 63 (by decide))
                  exact J315_207 d_298 _ _ ls _ ⟨rfl, hP, hD, hS, hgd_298, hPod_298, hfd_298, hId_298, hL1d_298, hK1d_298, lv_sub hl [1, 2, 3, 5, 6] rfl⟩
            refine lv_if_ge (tgt := 268) hx hb dX9_step_261 (by decide) (fun c_299 => ?_) (fun c_299 => ?_)
            · refine lv_iconst (v := 0) hx hb dX9_step_268 (by decide) ?_
              exact J269_201 0 ls _ ⟨rfl, lv_sub hl [0, 1, 2, 3, 4, 5] rfl, Or.inl rfl⟩
            · refine lv_iconst (v := 1) hx hb dX9_step_264 (by decide) ?_
              refine lv_goto (tgt := 269) hx hb dX9_step_265 (by decide) ?_
              exact J269_201 1 ls _ ⟨rfl, lv_sub hl [0, 1, 2, 3, 4, 5] rfl, Or.inr rfl⟩
          refine lv_if_eq (tgt := 252) hx hb dX9_step_150 (by decide) (fun c_300 => ?_) (fun c_300 => ?_)
          · exact J252_197 ((-3), v_193) ls _ ⟨rfl, lv_sub hl [2, 3, 4, 5, 1, 0] rfl⟩
          · refine lv_aload_n hx hb dX9_step_153 rfl (lv_at hl 2 rfl) ?_
            refine lv_iload_n hx hb dX9_step_154 rfl (lv_at hl 3 rfl) ?_
            refine lv_iload_n hx hb dX9_step_155 rfl (lv_at hl 4 rfl) ?_
            refine lv_aload_n hx hb dX9_step_156 rfl (lv_at hl 2 rfl) ?_
            refine yget (ci := 9) (k := 47) (v := .ref (S.2.2.1 h0 47)) (C := RX9) (T := TX9) (N := 67) C0 hK hP hm_h0 hk_h0 (by decide) rfl inlX9 (by decide) mW152 (fun _ h9 => h9) rfl dX9_step_157 ?_
            obtain ⟨hmy_301, hky_301⟩ := ySh.f9_47 hSh _ hm_h0 hk_h0
            refine lv_iload_n hx hb dX9_step_160 rfl (lv_at hl 3 rfl) ?_
            have F_302 := fne (rfl : (r_195 : Int32).toInt = (r_195 : Int32).toInt) (by decide +kernel : (0 : Int32).toInt = 0) c_300
            refine yald C0 hK hP hmy_301 hky_301 (by decide) rfl 0 rfl (xinT 8 rfl (by omega) (by omega)) dX9_step_161 ?_
            refine lv_topi (fun z_303 ez_303 => ?_)
            refine lv_aload_n hx hb dX9_step_162 rfl (lv_at hl 2 rfl) ?_
            refine yget (ci := 9) (k := 58) (v := .long (d_2.2.1 h0 58)) (C := RX9) (T := TX9) (N := 67) C0 hK hP hm_h0 hk_h0 (by decide) rfl inlX9 (by decide) mW873 (fun _ h9 => h9) rfl dX9_step_163 ?_
            refine lv_topl (fun z_304 ez_304 => ?_)
            refine lv_aload_n hx hb dX9_step_166 rfl (lv_at hl 2 rfl) ?_
            refine yget (ci := 9) (k := 59) (v := .long (d_2.2.1 h0 59)) (C := RX9) (T := TX9) (N := 67) C0 hK hP hm_h0 hk_h0 (by decide) rfl inlX9 (by decide) mW874 (fun _ h9 => h9) rfl dX9_step_167 ?_
            refine lv_topl (fun z_305 ez_305 => ?_)
            refine W.lcmp hx hb dX9_step_170 ?_
            refine lv_topi (fun z_306 ez_306 => ?_)
            refine yjoinR (σ := Int32) 179 (fun x ls st => st = [.int x, .int z_303, .int p1, .int p0, .ref h0] ∧ lv_has ls 12 [(0, .ref h0), (1, .int p0), (2, .int p1), (3, .long p2), (6, .int p4), (7, .int p5), (8, .int p6)] ∧ (x = 0 ∨ x = 1)) (fun x ls st hI => ?_) (fun J179_307 => ?_)
            · obtain ⟨v_307, rfl⟩ : ∃ z, z = x := ⟨_, rfl⟩
              obtain ⟨rfl, hl, hzv_307⟩ := hI
              have hl : lv_has ls 12 [(0, .ref h0), (1, .int p0), (2, .int p1), (3, .long p2), (6, .int p4), (7, .int p5), (8, .int p6)] := hl
              refine lv_iload hx hb dX9_step_179 (lv_at hl 4 rfl) ?_
              refine lv_iload hx hb dX9_step_181 (lv_at hl 5 rfl) ?_
              refine lv_iload hx hb dX9_step_183 (lv_at hl 6 rfl) ?_
              refine yVri (As := [.int p0, .int p1, .int z_303, .int v_307, .int p4, .int p5, .int p6]) (rest := []) C0 (g_X9_teller l G S d_2 h0 p0 p1 z_303 v_307 p4 p5 p6 hSh hm_h0 hk_h0 hId_2 (by refine ⟨?_, ?_⟩ <;> omega) (by refine ⟨?_, ?_⟩ <;> omega) (by refine ⟨?_, ?_⟩ <;> omega)) ok_X9_teller (mW889 : Cond.methodLink RX9 298 yX9_teller ∈ wsT) ⟨Nat.le_of_ble_eq_true rfl, Nat.le_of_ble_eq_true rfl⟩ hP hD hK hN hm_h0 hk_h0 (by decide) rfl rfl rfl hl.1 rfl (Nat.le_of_ble_eq_true rfl) ⟨Nat.le_of_ble_eq_true rfl, Nat.le_of_ble_eq_true rfl⟩ dX9_step_185 (fun r_308 hr_308 => ?_)
              refine lv_istore (lv' := [(9, .int r_308), (0, .ref h0), (1, .int p0), (2, .int p1), (3, .long p2), (6, .int p4), (7, .int p5), (8, .int p6)]) hx hb dX9_step_188 hl (by decide) rfl (fun ls hl => ?_)
              refine lv_aload_n hx hb dX9_step_190 rfl (lv_at hl 1 rfl) ?_
              refine lv_iload_n hx hb dX9_step_191 rfl (lv_at hl 2 rfl) ?_
              refine lv_iconst (v := 1) hx hb dX9_step_192 (by decide) ?_
              refine yVri (As := [.int p0, .int 1]) (rest := []) C0 (g_X9_of l G S d_2 h0 p0 1 hSh hm_h0 hk_h0 (by refine ⟨?_, ?_⟩ <;> omega) (by decide +kernel)) ok_X9_of (mW425 : Cond.methodLink RX9 161 yX9_of ∈ wsT) ⟨Nat.le_of_ble_eq_true rfl, Nat.le_of_ble_eq_true rfl⟩ hP hD hK hN hm_h0 hk_h0 (by decide) rfl rfl rfl hl.1 rfl (Nat.le_of_ble_eq_true rfl) ⟨Nat.le_of_ble_eq_true rfl, Nat.le_of_ble_eq_true rfl⟩ dX9_step_193 (fun r_309 hr_309 => ?_)
              have hOr_309 : (r_309 : Int32).toInt = yOf S d_2 h0 (p0 : Int32).toInt.toNat 1 := by rw [hr_309, show (1 : Int32).toInt.toNat = 1 by decide +kernel]; rfl
              have hbr_309 := xof1 hId_2 (p := p0) (by refine ⟨?_, ?_⟩ <;> omega) hr_309
              refine lv_iload hx hb dX9_step_196 (lv_at hl 7 rfl) ?_
              refine lv_icmp_ne (tgt := 213) hx hb dX9_step_198 (by decide) (fun c_310 => ?_) (fun c_310 => ?_)
              · refine lv_iload hx hb dX9_step_213 (lv_at hl 0 rfl) ?_
                refine lv_istore (lv' := [(11, .int r_308), (9, .int r_308), (0, .ref h0), (1, .int p0), (2, .int p1), (3, .long p2), (6, .int p4), (7, .int p5), (8, .int p6)]) hx hb dX9_step_215 hl (by decide) rfl (fun ls hl => ?_)
                refine lv_iload hx hb dX9_step_217 (lv_at hl 1 rfl) ?_
                refine lv_bipush (v := (-2)) hx hb dX9_step_219 (by decide) ?_
                refine lv_icmp_ne (tgt := 228) hx hb dX9_step_221 (by decide) (fun c_311 => ?_) (fun c_311 => ?_)
                · refine lv_aload_n hx hb dX9_step_228 rfl (lv_at hl 2 rfl) ?_
                  refine lv_bipush (v := 60) hx hb dX9_step_229 (by decide) ?_
                  refine lv_aload_n hx hb dX9_step_231 rfl (lv_at hl 2 rfl) ?_
                  refine lv_iload_n hx hb dX9_step_232 rfl (lv_at hl 3 rfl) ?_
                  refine lv_iconst (v := 1) hx hb dX9_step_233 (by decide) ?_
                  have F_312 := fne (rfl : (r_309 : Int32).toInt = (r_309 : Int32).toInt) (rfl : (p6 : Int32).toInt = (p6 : Int32).toInt) c_310
                  have F_313 := fne (rfl : (r_308 : Int32).toInt = (r_308 : Int32).toInt) (by decide +kernel : ((-2) : Int32).toInt = (-2)) c_311
                  refine yVri (As := [.int p0, .int 1]) (rest := [.int 60, .ref h0]) C0 (g_X9_of l G S d_2 h0 p0 1 hSh hm_h0 hk_h0 (by refine ⟨?_, ?_⟩ <;> omega) (by decide +kernel)) ok_X9_of (mW425 : Cond.methodLink RX9 161 yX9_of ∈ wsT) ⟨Nat.le_of_ble_eq_true rfl, Nat.le_of_ble_eq_true rfl⟩ hP hD hK hN hm_h0 hk_h0 (by decide) rfl rfl rfl hl.1 rfl (Nat.le_of_ble_eq_true rfl) ⟨Nat.le_of_ble_eq_true rfl, Nat.le_of_ble_eq_true rfl⟩ dX9_step_234 (fun r_314 hr_314 => ?_)
                  have hOr_314 : (r_314 : Int32).toInt = yOf S d_2 h0 (p0 : Int32).toInt.toNat 1 := by rw [hr_314, show (1 : Int32).toInt.toNat = 1 by decide +kernel]; rfl
                  have hbr_314 := xof1 hId_2 (p := p0) (by refine ⟨?_, ?_⟩ <;> omega) hr_314
                  refine lv_imul hx hb dX9_step_237 ?_
                  refine lv_topi (fun z_315 ez_315 => ?_)
                  refine lv_iload hx hb dX9_step_238 (lv_at hl 0 rfl) ?_
                  refine lv_iadd hx hb dX9_step_240 ?_
                  refine lv_topi (fun z_316 ez_316 => ?_)
                  refine lv_aload_n hx hb dX9_step_241 rfl (lv_at hl 2 rfl) ?_
                  refine yget (ci := 9) (k := 47) (v := .ref (S.2.2.1 h0 47)) (C := RX9) (T := TX9) (N := 67) C0 hK hP hm_h0 hk_h0 (by decide) rfl inlX9 (by decide) mW152 (fun _ h9 => h9) rfl dX9_step_242 ?_
                  refine lv_iload_n hx hb dX9_step_245 rfl (lv_at hl 3 rfl) ?_
                  refine yald C0 hK hP hmy_301 hky_301 (by decide) rfl 0 rfl (xinT 8 rfl (by omega) (by omega)) dX9_step_246 ?_
                  rw [← ez_303]
                  have T_318 : (z_315 : Int32).toInt = 60 * (r_314 : Int32).toInt := tmul ez_315 (by decide +kernel : (60 : Int32).toInt = 60) (rfl : (r_314 : Int32).toInt = (r_314 : Int32).toInt) (by omega) (by omega)
                  have T_317 : (z_316 : Int32).toInt = (z_315 : Int32).toInt + (r_308 : Int32).toInt := tadd ez_316 (rfl : (z_315 : Int32).toInt = (z_315 : Int32).toInt) (rfl : (r_308 : Int32).toInt = (r_308 : Int32).toInt) (by omega) (by omega)
                  refine yVri (As := [.int z_316, .int z_303]) (rest := []) C0 (g_X9_adds l G S d_2 h0 z_316 z_303 hSh hm_h0 hk_h0 (by refine ⟨?_, ?_⟩ <;> omega)) ok_X9_adds (mW901 : Cond.methodLink RX9 302 yX9_adds ∈ wsT) ⟨Nat.le_of_ble_eq_true rfl, Nat.le_of_ble_eq_true rfl⟩ hP hD hK hN hm_h0 hk_h0 (by decide) rfl rfl rfl hl.1 rfl (Nat.le_of_ble_eq_true rfl) ⟨Nat.le_of_ble_eq_true rfl, Nat.le_of_ble_eq_true rfl⟩ dX9_step_247 (fun r_319 hr_319 => ?_)
                  refine lv_istore (lv' := [(10, .int r_319), (11, .int r_308), (9, .int r_308), (0, .ref h0), (1, .int p0), (2, .int p1), (3, .long p2), (6, .int p4), (7, .int p5), (8, .int p6)]) hx hb dX9_step_250 hl (by decide) rfl (fun ls hl => ?_)
                  exact J252_197 (r_308, r_319) ls _ ⟨rfl, lv_sub hl [3, 4, 5, 6, 2, 0] rfl⟩
                · refine lv_iconst (v := 2) hx hb dX9_step_224 (by decide) ?_
                  refine lv_goto (tgt := 250) hx hb dX9_step_225 (by decide) ?_
                  refine lv_istore (lv' := [(10, .int 2), (11, .int r_308), (9, .int r_308), (0, .ref h0), (1, .int p0), (2, .int p1), (3, .long p2), (6, .int p4), (7, .int p5), (8, .int p6)]) hx hb dX9_step_250 hl (by decide) rfl (fun ls hl => ?_)
                  exact J252_197 (r_308, 2) ls _ ⟨rfl, lv_sub hl [3, 4, 5, 6, 2, 0] rfl⟩
              · refine lv_iload hx hb dX9_step_201 (lv_at hl 0 rfl) ?_
                refine lv_iload hx hb dX9_step_203 (lv_at hl 5 rfl) ?_
                refine lv_icmp_ne (tgt := 213) hx hb dX9_step_205 (by decide) (fun c_320 => ?_) (fun c_320 => ?_)
                · refine lv_iload hx hb dX9_step_213 (lv_at hl 0 rfl) ?_
                  refine lv_istore (lv' := [(11, .int r_308), (9, .int r_308), (0, .ref h0), (1, .int p0), (2, .int p1), (3, .long p2), (6, .int p4), (7, .int p5), (8, .int p6)]) hx hb dX9_step_215 hl (by decide) rfl (fun ls hl => ?_)
                  refine lv_iload hx hb dX9_step_217 (lv_at hl 1 rfl) ?_
                  refine lv_bipush (v := (-2)) hx hb dX9_step_219 (by decide) ?_
                  refine lv_icmp_ne (tgt := 228) hx hb dX9_step_221 (by decide) (fun c_321 => ?_) (fun c_321 => ?_)
                  · refine lv_aload_n hx hb dX9_step_228 rfl (lv_at hl 2 rfl) ?_
                    refine lv_bipush (v := 60) hx hb dX9_step_229 (by decide) ?_
                    refine lv_aload_n hx hb dX9_step_231 rfl (lv_at hl 2 rfl) ?_
                    refine lv_iload_n hx hb dX9_step_232 rfl (lv_at hl 3 rfl) ?_
                    refine lv_iconst (v := 1) hx hb dX9_step_233 (by decide) ?_
                    have F_322 := feq (rfl : (r_309 : Int32).toInt = (r_309 : Int32).toInt) (rfl : (p6 : Int32).toInt = (p6 : Int32).toInt) c_310
                    have F_323 := fne (rfl : (r_308 : Int32).toInt = (r_308 : Int32).toInt) (rfl : (p4 : Int32).toInt = (p4 : Int32).toInt) c_320
                    have F_324 := fne (rfl : (r_308 : Int32).toInt = (r_308 : Int32).toInt) (by decide +kernel : ((-2) : Int32).toInt = (-2)) c_321
                    refine yVri (As := [.int p0, .int 1]) (rest := [.int 60, .ref h0]) C0 (g_X9_of l G S d_2 h0 p0 1 hSh hm_h0 hk_h0 (by refine ⟨?_, ?_⟩ <;> omega) (by decide +kernel)) ok_X9_of (mW425 : Cond.methodLink RX9 161 yX9_of ∈ wsT) ⟨Nat.le_of_ble_eq_true rfl, Nat.le_of_ble_eq_true rfl⟩ hP hD hK hN hm_h0 hk_h0 (by decide) rfl rfl rfl hl.1 rfl (Nat.le_of_ble_eq_true rfl) ⟨Nat.le_of_ble_eq_true rfl, Nat.le_of_ble_eq_true rfl⟩ dX9_step_234 (fun r_325 hr_325 => ?_)
                    have hOr_325 : (r_325 : Int32).toInt = yOf S d_2 h0 (p0 : Int32).toInt.toNat 1 := by rw [hr_325, show (1 : Int32).toInt.toNat = 1 by decide +kernel]; rfl
                    have hbr_325 := xof1 hId_2 (p := p0) (by refine ⟨?_, ?_⟩ <;> omega) hr_325
                    refine lv_imul hx hb dX9_step_237 ?_
                    refine lv_topi (fun z_326 ez_326 => ?_)
                    refine lv_iload hx hb dX9_step_238 (lv_at hl 0 rfl) ?_
                    refine lv_iadd hx hb dX9_step_240 ?_
                    refine lv_topi (fun z_327 ez_327 => ?_)
                    refine lv_aload_n hx hb dX9_step_241 rfl (lv_at hl 2 rfl) ?_
                    refine yget (ci := 9) (k := 47) (v := .ref (S.2.2.1 h0 47)) (C := RX9) (T := TX9) (N := 67) C0 hK hP hm_h0 hk_h0 (by decide) rfl inlX9 (by decide) mW152 (fun _ h9 => h9) rfl dX9_step_242 ?_
                    refine lv_iload_n hx hb dX9_step_245 rfl (lv_at hl 3 rfl) ?_
                    refine yald C0 hK hP hmy_301 hky_301 (by decide) rfl 0 rfl (xinT 8 rfl (by omega) (by omega)) dX9_step_246 ?_
                    rw [← ez_303]
                    have T_329 : (z_326 : Int32).toInt = 60 * (r_325 : Int32).toInt := tmul ez_326 (by decide +kernel : (60 : Int32).toInt = 60) (rfl : (r_325 : Int32).toInt = (r_325 : Int32).toInt) (by omega) (by omega)
                    have T_328 : (z_327 : Int32).toInt = (z_326 : Int32).toInt + (r_308 : Int32).toInt := tadd ez_327 (rfl : (z_326 : Int32).toInt = (z_326 : Int32).toInt) (rfl : (r_308 : Int32).toInt = (r_308 : Int32).toInt) (by omega) (by omega)
                    refine yVri (As := [.int z_327, .int z_303]) (rest := []) C0 (g_X9_adds l G S d_2 h0 z_327 z_303 hSh hm_h0 hk_h0 (by refine ⟨?_, ?_⟩ <;> omega)) ok_X9_adds (mW901 : Cond.methodLink RX9 302 yX9_adds ∈ wsT) ⟨Nat.le_of_ble_eq_true rfl, Nat.le_of_ble_eq_true rfl⟩ hP hD hK hN hm_h0 hk_h0 (by decide) rfl rfl rfl hl.1 rfl (Nat.le_of_ble_eq_true rfl) ⟨Nat.le_of_ble_eq_true rfl, Nat.le_of_ble_eq_true rfl⟩ dX9_step_247 (fun r_330 hr_330 => ?_)
                    refine lv_istore (lv' := [(10, .int r_330), (11, .int r_308), (9, .int r_308), (0, .ref h0), (1, .int p0), (2, .int p1), (3, .long p2), (6, .int p4), (7, .int p5), (8, .int p6)]) hx hb dX9_step_250 hl (by decide) rfl (fun ls hl => ?_)
                    exact J252_197 (r_308, r_330) ls _ ⟨rfl, lv_sub hl [3, 4, 5, 6, 2, 0] rfl⟩
                  · refine lv_iconst (v := 2) hx hb dX9_step_224 (by decide) ?_
                    refine lv_goto (tgt := 250) hx hb dX9_step_225 (by decide) ?_
                    refine lv_istore (lv' := [(10, .int 2), (11, .int r_308), (9, .int r_308), (0, .ref h0), (1, .int p0), (2, .int p1), (3, .long p2), (6, .int p4), (7, .int p5), (8, .int p6)]) hx hb dX9_step_250 hl (by decide) rfl (fun ls hl => ?_)
                    exact J252_197 (r_308, 2) ls _ ⟨rfl, lv_sub hl [3, 4, 5, 6, 2, 0] rfl⟩
                · refine lv_iload hx hb dX9_step_208 (lv_at hl 6 rfl) ?_
                  refine lv_goto (tgt := 215) hx hb dX9_step_210 (by decide) ?_
                  refine lv_istore (lv' := [(11, .int p5), (9, .int r_308), (0, .ref h0), (1, .int p0), (2, .int p1), (3, .long p2), (6, .int p4), (7, .int p5), (8, .int p6)]) hx hb dX9_step_215 hl (by decide) rfl (fun ls hl => ?_)
                  refine lv_iload hx hb dX9_step_217 (lv_at hl 1 rfl) ?_
                  refine lv_bipush (v := (-2)) hx hb dX9_step_219 (by decide) ?_
                  refine lv_icmp_ne (tgt := 228) hx hb dX9_step_221 (by decide) (fun c_331 => ?_) (fun c_331 => ?_)
                  · refine lv_aload_n hx hb dX9_step_228 rfl (lv_at hl 2 rfl) ?_
                    refine lv_bipush (v := 60) hx hb dX9_step_229 (by decide) ?_
                    refine lv_aload_n hx hb dX9_step_231 rfl (lv_at hl 2 rfl) ?_
                    refine lv_iload_n hx hb dX9_step_232 rfl (lv_at hl 3 rfl) ?_
                    refine lv_iconst (v := 1) hx hb dX9_step_233 (by decide) ?_
                    have F_332 := feq (rfl : (r_309 : Int32).toInt = (r_309 : Int32).toInt) (rfl : (p6 : Int32).toInt = (p6 : Int32).toInt) c_310
                    have F_333 := feq (rfl : (r_308 : Int32).toInt = (r_308 : Int32).toInt) (rfl : (p4 : Int32).toInt = (p4 : Int32).toInt) c_320
                    have F_334 := fne (rfl : (r_308 : Int32).toInt = (r_308 : Int32).toInt) (by decide +kernel : ((-2) : Int32).toInt = (-2)) c_331
                    refine yVri (As := [.int p0, .int 1]) (rest := [.int 60, .ref h0]) C0 (g_X9_of l G S d_2 h0 p0 1 hSh hm_h0 hk_h0 (by refine ⟨?_, ?_⟩ <;> omega) (by decide +kernel)) ok_X9_of (mW425 : Cond.methodLink RX9 161 yX9_of ∈ wsT) ⟨Nat.le_of_ble_eq_true rfl, Nat.le_of_ble_eq_true rfl⟩ hP hD hK hN hm_h0 hk_h0 (by decide) rfl rfl rfl hl.1 rfl (Nat.le_of_ble_eq_true rfl) ⟨Nat.le_of_ble_eq_true rfl, Nat.le_of_ble_eq_true rfl⟩ dX9_step_234 (fun r_335 hr_335 => ?_)
                    have hOr_335 : (r_335 : Int32).toInt = yOf S d_2 h0 (p0 : Int32).toInt.toNat 1 := by rw [hr_335, show (1 : Int32).toInt.toNat = 1 by decide +kernel]; rfl
                    have hbr_335 := xof1 hId_2 (p := p0) (by refine ⟨?_, ?_⟩ <;> omega) hr_335
                    refine lv_imul hx hb dX9_step_237 ?_
                    refine lv_topi (fun z_336 ez_336 => ?_)
                    refine lv_iload hx hb dX9_step_238 (lv_at hl 0 rfl) ?_
                    refine lv_iadd hx hb dX9_step_240 ?_
                    refine lv_topi (fun z_337 ez_337 => ?_)
                    refine lv_aload_n hx hb dX9_step_241 rfl (lv_at hl 2 rfl) ?_
                    refine yget (ci := 9) (k := 47) (v := .ref (S.2.2.1 h0 47)) (C := RX9) (T := TX9) (N := 67) C0 hK hP hm_h0 hk_h0 (by decide) rfl inlX9 (by decide) mW152 (fun _ h9 => h9) rfl dX9_step_242 ?_
                    refine lv_iload_n hx hb dX9_step_245 rfl (lv_at hl 3 rfl) ?_
                    refine yald C0 hK hP hmy_301 hky_301 (by decide) rfl 0 rfl (xinT 8 rfl (by omega) (by omega)) dX9_step_246 ?_
                    rw [← ez_303]
                    have T_339 : (z_336 : Int32).toInt = 60 * (r_335 : Int32).toInt := tmul ez_336 (by decide +kernel : (60 : Int32).toInt = 60) (rfl : (r_335 : Int32).toInt = (r_335 : Int32).toInt) (by omega) (by omega)
                    have T_338 : (z_337 : Int32).toInt = (z_336 : Int32).toInt + (p5 : Int32).toInt := tadd ez_337 (rfl : (z_336 : Int32).toInt = (z_336 : Int32).toInt) (rfl : (p5 : Int32).toInt = (p5 : Int32).toInt) (by omega) (by omega)
                    refine yVri (As := [.int z_337, .int z_303]) (rest := []) C0 (g_X9_adds l G S d_2 h0 z_337 z_303 hSh hm_h0 hk_h0 (by refine ⟨?_, ?_⟩ <;> omega)) ok_X9_adds (mW901 : Cond.methodLink RX9 302 yX9_adds ∈ wsT) ⟨Nat.le_of_ble_eq_true rfl, Nat.le_of_ble_eq_true rfl⟩ hP hD hK hN hm_h0 hk_h0 (by decide) rfl rfl rfl hl.1 rfl (Nat.le_of_ble_eq_true rfl) ⟨Nat.le_of_ble_eq_true rfl, Nat.le_of_ble_eq_true rfl⟩ dX9_step_247 (fun r_340 hr_340 => ?_)
                    refine lv_istore (lv' := [(10, .int r_340), (11, .int p5), (9, .int r_308), (0, .ref h0), (1, .int p0), (2, .int p1), (3, .long p2), (6, .int p4), (7, .int p5), (8, .int p6)]) hx hb dX9_step_250 hl (by decide) rfl (fun ls hl => ?_)
                    exact J252_197 (r_308, r_340) ls _ ⟨rfl, lv_sub hl [3, 4, 5, 6, 2, 0] rfl⟩
                  · refine lv_iconst (v := 2) hx hb dX9_step_224 (by decide) ?_
                    refine lv_goto (tgt := 250) hx hb dX9_step_225 (by decide) ?_
                    refine lv_istore (lv' := [(10, .int 2), (11, .int p5), (9, .int r_308), (0, .ref h0), (1, .int p0), (2, .int p1), (3, .long p2), (6, .int p4), (7, .int p5), (8, .int p6)]) hx hb dX9_step_250 hl (by decide) rfl (fun ls hl => ?_)
                    exact J252_197 (r_308, 2) ls _ ⟨rfl, lv_sub hl [3, 4, 5, 6, 2, 0] rfl⟩
            refine lv_if_lt (tgt := 178) hx hb dX9_step_171 (by decide) (fun c_341 => ?_) (fun c_341 => ?_)
            · refine lv_iconst (v := 0) hx hb dX9_step_178 (by decide) ?_
              exact J179_307 0 ls _ ⟨rfl, lv_sub hl [2, 3, 4, 5, 6, 7, 8] rfl, Or.inl rfl⟩
            · refine lv_iconst (v := 1) hx hb dX9_step_174 (by decide) ?_
              refine lv_goto (tgt := 179) hx hb dX9_step_175 (by decide) ?_
              exact J179_307 1 ls _ ⟨rfl, lv_sub hl [2, 3, 4, 5, 6, 7, 8] rfl, Or.inr rfl⟩
        refine lv_if_eq (tgt := 141) hx hb dX9_step_134 (by decide) (fun c_342 => ?_) (fun c_342 => ?_)
        · refine lv_iconst (v := 0) hx hb dX9_step_141 (by decide) ?_
          exact J142_193 0 ls _ ⟨rfl, lv_sub hl [0, 1, 2, 3, 4, 6, 7, 8] rfl⟩
        · refine lv_iconst (v := 2) hx hb dX9_step_137 (by decide) ?_
          refine lv_goto (tgt := 142) hx hb dX9_step_138 (by decide) ?_
          exact J142_193 2 ls _ ⟨rfl, lv_sub hl [0, 1, 2, 3, 4, 6, 7, 8] rfl⟩
      · refine lv_aload_n hx hb dX9_step_43 rfl (lv_at hl 0 rfl) ?_
        refine yget (ci := 9) (k := 16) (v := .ref (S.2.2.1 h0 16)) (C := RX9) (T := TX9) (N := 67) C0 hK hP hm_h0 hk_h0 (by decide) rfl inlX9 (by decide) mW123 (fun _ h9 => h9) rfl dX9_step_44 ?_
        obtain ⟨hmy_343, hky_343⟩ := ySh.f9_16 hSh _ hm_h0 hk_h0
        refine lv_aload_n hx hb dX9_step_47 rfl (lv_at hl 0 rfl) ?_
        refine yget (ci := 9) (k := 48) (v := .ref (S.2.2.1 h0 48)) (C := RX9) (T := TX9) (N := 67) C0 hK hP hm_h0 hk_h0 (by decide) rfl inlX9 (by decide) mW153 (fun _ h9 => h9) rfl dX9_step_48 ?_
        refine lv_iload_n hx hb dX9_step_51 rfl (lv_at hl 1 rfl) ?_
        have F_344 := feq (rfl : (z_166 : Int32).toInt = (z_166 : Int32).toInt) (rfl : (p0 : Int32).toInt = (p0 : Int32).toInt) c_192
        refine yald C0 hK hP hmy_5 hky_5 (by decide) rfl 0 rfl (xinT 8 rfl (by omega) (by omega)) dX9_step_52 ?_
        rw [← ez_7]
        have hvz_7 : 0 ≤ (z_7 : Int32).toInt ∧ (z_7 : Int32).toInt ≤ 5000 := by rw [ez_7]; exact yMI.ne_ hId_2 _
        refine yald C0 hK hP hmy_343 hky_343 (by decide) rfl 0 rfl (xinT 5000 rfl (by omega) (by omega)) dX9_step_53 ?_
        refine lv_topi (fun z_345 ez_345 => ?_)
        have hvz_345 : 0 ≤ (z_345 : Int32).toInt ∧ (z_345 : Int32).toInt ≤ 129599 := by rw [ez_345]; exact yMI.em_ hId_2 _
        refine lv_iload_n hx hb dX9_step_54 rfl (lv_at hl 2 rfl) ?_
        refine lv_icmp_gt (tgt := 128) hx hb dX9_step_55 (by decide) (fun c_346 => ?_) (fun c_346 => ?_)
        · refine lv_bipush (v := (-3)) hx hb dX9_step_128 (by decide) ?_
          refine lv_istore (lv' := [(9, .int (-3)), (0, .ref h0), (1, .int p0), (2, .int p1), (3, .long p2), (5, .int p3), (6, .int p4), (7, .int p5), (8, .int p6)]) hx hb dX9_step_130 hl (by decide) rfl (fun ls hl => ?_)
          refine lv_iload hx hb dX9_step_132 (lv_at hl 5 rfl) ?_
          refine yjoinR (σ := Int32) 142 (fun x ls st => st = [.int x] ∧ lv_has ls 12 [(9, .int (-3)), (0, .ref h0), (1, .int p0), (2, .int p1), (3, .long p2), (6, .int p4), (7, .int p5), (8, .int p6)]) (fun x ls st hI => ?_) (fun J142_347 => ?_)
          · obtain ⟨v_347, rfl⟩ : ∃ z, z = x := ⟨_, rfl⟩
            obtain ⟨rfl, hl⟩ := hI
            have hl : lv_has ls 12 [(9, .int (-3)), (0, .ref h0), (1, .int p0), (2, .int p1), (3, .long p2), (6, .int p4), (7, .int p5), (8, .int p6)] := hl
            refine lv_istore (lv' := [(10, .int v_347), (9, .int (-3)), (0, .ref h0), (1, .int p0), (2, .int p1), (3, .long p2), (6, .int p4), (7, .int p5), (8, .int p6)]) hx hb dX9_step_142 hl (by decide) rfl (fun ls hl => ?_)
            refine lv_aload_n hx hb dX9_step_144 rfl (lv_at hl 2 rfl) ?_
            refine lv_iload_n hx hb dX9_step_145 rfl (lv_at hl 3 rfl) ?_
            refine lv_iload_n hx hb dX9_step_146 rfl (lv_at hl 4 rfl) ?_
            have F_349 := flt (rfl : (p1 : Int32).toInt = (p1 : Int32).toInt) (rfl : (z_345 : Int32).toInt = (z_345 : Int32).toInt) c_346
            refine yVri (As := [.int p0, .int p1]) (rest := []) C0 (g_X9_isKnown l G S d_2 h0 p0 p1 hSh hm_h0 hk_h0 (by refine ⟨?_, ?_⟩ <;> omega) (by refine ⟨?_, ?_⟩ <;> omega)) ok_X9_isKnown (mW429 : Cond.methodLink RX9 198 yX9_isKnown ∈ wsT) ⟨Nat.le_of_ble_eq_true rfl, Nat.le_of_ble_eq_true rfl⟩ hP hD hK hN hm_h0 hk_h0 (by decide) rfl rfl rfl hl.1 rfl (Nat.le_of_ble_eq_true rfl) ⟨Nat.le_of_ble_eq_true rfl, Nat.le_of_ble_eq_true rfl⟩ dX9_step_147 (fun r_350 hr_350 => ?_)
            refine yjoinR (σ := Int32 × Int32) 252 (fun x ls st => st = [] ∧ lv_has ls 12 [(0, .ref h0), (1, .int p0), (2, .int p1), (3, .long p2), (9, .int x.1), (10, .int x.2)]) (fun x ls st hI => ?_) (fun J252_352 => ?_)
            · obtain ⟨v_351, v_352⟩ := x
              obtain ⟨rfl, hl⟩ := hI
              have hl : lv_has ls 12 [(0, .ref h0), (1, .int p0), (2, .int p1), (3, .long p2), (9, .int v_351), (10, .int v_352)] := hl
              refine lv_aload_n hx hb dX9_step_252 rfl (lv_at hl 0 rfl) ?_
              refine yget (ci := 9) (k := 58) (v := .long (d_2.2.1 h0 58)) (C := RX9) (T := TX9) (N := 67) C0 hK hP hm_h0 hk_h0 (by decide) rfl inlX9 (by decide) mW873 (fun _ h9 => h9) rfl dX9_step_253 ?_
              refine lv_topl (fun z_353 ez_353 => ?_)
              refine lv_aload_n hx hb dX9_step_256 rfl (lv_at hl 0 rfl) ?_
              refine yget (ci := 9) (k := 59) (v := .long (d_2.2.1 h0 59)) (C := RX9) (T := TX9) (N := 67) C0 hK hP hm_h0 hk_h0 (by decide) rfl inlX9 (by decide) mW874 (fun _ h9 => h9) rfl dX9_step_257 ?_
              refine lv_topl (fun z_354 ez_354 => ?_)
              refine W.lcmp hx hb dX9_step_260 ?_
              refine lv_topi (fun z_355 ez_355 => ?_)
              refine yjoinR (σ := Int32) 269 (fun x ls st => st = [.int x] ∧ lv_has ls 12 [(0, .ref h0), (1, .int p0), (2, .int p1), (3, .long p2), (9, .int v_351), (10, .int v_352)] ∧ (x = 0 ∨ x = 1)) (fun x ls st hI => ?_) (fun J269_356 => ?_)
              · obtain ⟨v_356, rfl⟩ : ∃ z, z = x := ⟨_, rfl⟩
                obtain ⟨rfl, hl, hzv_356⟩ := hI
                have hl : lv_has ls 12 [(0, .ref h0), (1, .int p0), (2, .int p1), (3, .long p2), (9, .int v_351), (10, .int v_352)] := hl
                refine lv_istore (lv' := [(11, .int v_356), (0, .ref h0), (1, .int p0), (2, .int p1), (3, .long p2), (9, .int v_351), (10, .int v_352)]) hx hb dX9_step_269 hl (by decide) rfl (fun ls hl => ?_)
                refine lv_aload_n hx hb dX9_step_271 rfl (lv_at hl 1 rfl) ?_
                refine lv_dup hx hb dX9_step_272 rfl ?_
                refine yget (ci := 9) (k := 58) (v := .long (d_2.2.1 h0 58)) (C := RX9) (T := TX9) (N := 67) C0 hK hP hm_h0 hk_h0 (by decide) rfl inlX9 (by decide) mW873 (fun _ h9 => h9) rfl dX9_step_273 ?_
                rw [← ez_353]
                refine lv_iload hx hb dX9_step_276 (lv_at hl 6 rfl) ?_
                refine lv_i2l hx hb dX9_step_278 rfl ?_
                refine lv_topl (fun z_357 ez_357 => ?_)
                refine lv_ladd hx hb dX9_step_279 ?_
                refine lv_topl (fun z_358 ez_358 => ?_)
                refine yputJ (ci := 9) (k := 58) (C := RX9) (T := TX9) (N := 67) C0 hK hP hD hS hm_h0 hk_h0 (by decide) rfl inlX9 tyX9 tyX9_ok nmX9 (by decide) mW873 (fun _ h9 => h9) rfl (by decide +kernel) (Nat.le_of_ble_eq_true rfl) ysj_9_58 dX9_step_280 (fun H locs hP hD hS => ?_)
                obtain ⟨d_359, ed_359⟩ : ∃ z : yD, z = yj d_2 h0 58 z_358 := ⟨_, rfl⟩
                rw [← ed_359] at hP hD
                have hgd_359 : yAg S [9, 77, 78] d d_359 := by rw [ed_359]; exact yAg.j hgd_2 (by rw [hk_h0]; decide)
                have hsd_359 : yAg S [9] d_2 d_359 := by rw [ed_359]; exact yAg.j yAg.rf (by rw [hk_h0]; decide)
                have hPod_359 : yPo S d_359 := by rw [ed_359]; exact hPod_2
                have hfd_359 : yK [54, 55, 57, 63, 64, 65] d d_359 h0 := yK.ag hfd_2 (show yAg S [9] d_2 d_359 from by rw [ed_359]; exact yAg.j yAg.rf (by rw [hk_h0]; decide)) (by rw [hk_h0]; decide)
                have hId_359 : yMI S d_359 h0 := yMI.ag hId_2 hSh hm_h0 hk_h0 (show yAg S [9] d_2 d_359 from by rw [ed_359]; exact yAg.j yAg.rf (by rw [hk_h0]; decide)) (yK.ag (F := []) yK.rf (show yAg S [9] d_2 d_359 from by rw [ed_359]; exact yAg.j yAg.rf (by rw [hk_h0]; decide)) (by rw [hk_h0]; decide)) (by decide) (by decide)
                have hE0d_359 : (d_359.1 h0 0).toInt = (d_2.1 h0 0).toInt := congrArg Int32.toInt ((yK.ag (F := []) yK.rf (show yAg S [9] d_2 d_359 from by rw [ed_359]; exact yAg.j yAg.rf (by rw [hk_h0]; decide)) (by rw [hk_h0]; decide)) 0 (by decide))
                have hE1d_359 : (d_359.1 h0 1).toInt = (d_2.1 h0 1).toInt := congrArg Int32.toInt ((yK.ag (F := []) yK.rf (show yAg S [9] d_2 d_359 from by rw [ed_359]; exact yAg.j yAg.rf (by rw [hk_h0]; decide)) (by rw [hk_h0]; decide)) 1 (by decide))
                have hE2d_359 : (d_359.1 h0 2).toInt = (d_2.1 h0 2).toInt := congrArg Int32.toInt ((yK.ag (F := []) yK.rf (show yAg S [9] d_2 d_359 from by rw [ed_359]; exact yAg.j yAg.rf (by rw [hk_h0]; decide)) (by rw [hk_h0]; decide)) 2 (by decide))
                have hE3d_359 : (d_359.1 h0 3).toInt = (d_2.1 h0 3).toInt := congrArg Int32.toInt ((yK.ag (F := []) yK.rf (show yAg S [9] d_2 d_359 from by rw [ed_359]; exact yAg.j yAg.rf (by rw [hk_h0]; decide)) (by rw [hk_h0]; decide)) 3 (by decide))
                have hE63d_359 : (d_359.1 h0 63).toInt = (d_2.1 h0 63).toInt := congrArg Int32.toInt ((yK.ag (F := []) yK.rf (show yAg S [9] d_2 d_359 from by rw [ed_359]; exact yAg.j yAg.rf (by rw [hk_h0]; decide)) (by rw [hk_h0]; decide)) 63 (by decide))
                refine lv_aload_n hx hb dX9_step_283 rfl (lv_at hl 1 rfl) ?_
                refine lv_dup hx hb dX9_step_284 rfl ?_
                refine yget (ci := 9) (k := 60) (v := .long (d_359.2.1 h0 60)) (C := RX9) (T := TX9) (N := 67) C0 hK hP hm_h0 hk_h0 (by decide) rfl inlX9 (by decide) mW875 (fun _ h9 => h9) rfl dX9_step_285 ?_
                refine lv_topl (fun z_360 ez_360 => ?_)
                refine lv_lconst (v := 1) hx hb dX9_step_288 (by decide) ?_
                refine lv_ladd hx hb dX9_step_289 ?_
                refine lv_topl (fun z_361 ez_361 => ?_)
                refine yputJ (ci := 9) (k := 60) (C := RX9) (T := TX9) (N := 67) C0 hK hP hD hS hm_h0 hk_h0 (by decide) rfl inlX9 tyX9 tyX9_ok nmX9 (by decide) mW875 (fun _ h9 => h9) rfl (by decide +kernel) (Nat.le_of_ble_eq_true rfl) ysj_9_60 dX9_step_290 (fun H locs hP hD hS => ?_)
                obtain ⟨d_362, ed_362⟩ : ∃ z : yD, z = yj d_359 h0 60 z_361 := ⟨_, rfl⟩
                rw [← ed_362] at hP hD
                have hgd_362 : yAg S [9, 77, 78] d d_362 := by rw [ed_362]; exact yAg.j hgd_359 (by rw [hk_h0]; decide)
                have hsd_362 : yAg S [9] d_359 d_362 := by rw [ed_362]; exact yAg.j yAg.rf (by rw [hk_h0]; decide)
                have hPod_362 : yPo S d_362 := by rw [ed_362]; exact hPod_359
                have hfd_362 : yK [54, 55, 57, 63, 64, 65] d d_362 h0 := yK.ag hfd_359 (show yAg S [9] d_359 d_362 from by rw [ed_362]; exact yAg.j yAg.rf (by rw [hk_h0]; decide)) (by rw [hk_h0]; decide)
                have hId_362 : yMI S d_362 h0 := yMI.ag hId_359 hSh hm_h0 hk_h0 (show yAg S [9] d_359 d_362 from by rw [ed_362]; exact yAg.j yAg.rf (by rw [hk_h0]; decide)) (yK.ag (F := []) yK.rf (show yAg S [9] d_359 d_362 from by rw [ed_362]; exact yAg.j yAg.rf (by rw [hk_h0]; decide)) (by rw [hk_h0]; decide)) (by decide) (by decide)
                have hE0d_362 : (d_362.1 h0 0).toInt = (d_359.1 h0 0).toInt := congrArg Int32.toInt ((yK.ag (F := []) yK.rf (show yAg S [9] d_359 d_362 from by rw [ed_362]; exact yAg.j yAg.rf (by rw [hk_h0]; decide)) (by rw [hk_h0]; decide)) 0 (by decide))
                have hE1d_362 : (d_362.1 h0 1).toInt = (d_359.1 h0 1).toInt := congrArg Int32.toInt ((yK.ag (F := []) yK.rf (show yAg S [9] d_359 d_362 from by rw [ed_362]; exact yAg.j yAg.rf (by rw [hk_h0]; decide)) (by rw [hk_h0]; decide)) 1 (by decide))
                have hE2d_362 : (d_362.1 h0 2).toInt = (d_359.1 h0 2).toInt := congrArg Int32.toInt ((yK.ag (F := []) yK.rf (show yAg S [9] d_359 d_362 from by rw [ed_362]; exact yAg.j yAg.rf (by rw [hk_h0]; decide)) (by rw [hk_h0]; decide)) 2 (by decide))
                have hE3d_362 : (d_362.1 h0 3).toInt = (d_359.1 h0 3).toInt := congrArg Int32.toInt ((yK.ag (F := []) yK.rf (show yAg S [9] d_359 d_362 from by rw [ed_362]; exact yAg.j yAg.rf (by rw [hk_h0]; decide)) (by rw [hk_h0]; decide)) 3 (by decide))
                have hE63d_362 : (d_362.1 h0 63).toInt = (d_359.1 h0 63).toInt := congrArg Int32.toInt ((yK.ag (F := []) yK.rf (show yAg S [9] d_359 d_362 from by rw [ed_362]; exact yAg.j yAg.rf (by rw [hk_h0]; decide)) (by rw [hk_h0]; decide)) 63 (by decide))
                refine lv_iload hx hb dX9_step_293 (lv_at hl 0 rfl) ?_
                refine yjoin (σ := yD) 315 (fun x H locs ls st => st = [] ∧ va_P G.1 xcl (yW G S x) H ∧ va_D A (yW G S x) ∧ va_S A s.heap H locs ∧ yAg S [9, 77, 78] d x ∧ yPo S x ∧ yK [54, 55, 57, 63, 64, 65] d x h0 ∧ yMI S x h0 ∧ yAg S [9] d_362 x ∧ yK [] d_362 x h0 ∧ lv_has ls 12 [(0, .ref h0), (1, .int p0), (2, .int p1), (9, .int v_351), (10, .int v_352)]) (fun x H locs ls st hI => ?_) (fun J315_362 => ?_)
                · obtain ⟨d_363, rfl⟩ : ∃ z, z = x := ⟨_, rfl⟩
                  obtain ⟨rfl, hP, hD, hS, hgd_363, hPod_363, hfd_363, hId_363, hLJd_363, hKJd_363, hl⟩ := hI
                  have hId_363 : yMI S d_363 h0 := hId_363
                  have hl : lv_has ls 12 [(0, .ref h0), (1, .int p0), (2, .int p1), (9, .int v_351), (10, .int v_352)] := hl
                  have hE0d_363 : (d_363.1 h0 0).toInt = (d_362.1 h0 0).toInt := congrArg Int32.toInt (hKJd_363 0 (by decide))
                  have hE1d_363 : (d_363.1 h0 1).toInt = (d_362.1 h0 1).toInt := congrArg Int32.toInt (hKJd_363 1 (by decide))
                  have hE2d_363 : (d_363.1 h0 2).toInt = (d_362.1 h0 2).toInt := congrArg Int32.toInt (hKJd_363 2 (by decide))
                  have hE3d_363 : (d_363.1 h0 3).toInt = (d_362.1 h0 3).toInt := congrArg Int32.toInt (hKJd_363 3 (by decide))
                  have hE63d_363 : (d_363.1 h0 63).toInt = (d_362.1 h0 63).toInt := congrArg Int32.toInt (hKJd_363 63 (by decide))
                  refine lv_iload_n hx hb dX9_step_315 rfl (lv_at hl 1 rfl) ?_
                  refine lv_aload_n hx hb dX9_step_316 rfl (lv_at hl 0 rfl) ?_
                  refine yget (ci := 9) (k := 49) (v := .int (d_363.1 h0 49)) (C := RX9) (T := TX9) (N := 67) C0 hK hP hm_h0 hk_h0 (by decide) rfl inlX9 (by decide) mW861 (fun _ h9 => h9) rfl dX9_step_317 ?_
                  refine lv_topi (fun z_364 ez_364 => ?_)
                  refine lv_icmp_eq (tgt := 324) hx hb dX9_step_320 (by decide) (fun c_365 => ?_) (fun c_365 => ?_)
                  · refine lv_aload_n hx hb dX9_step_324 rfl (lv_at hl 0 rfl) ?_
                    refine lv_dup hx hb dX9_step_325 rfl ?_
                    refine yget (ci := 9) (k := 66) (v := .long (d_363.2.1 h0 66)) (C := RX9) (T := TX9) (N := 67) C0 hK hP hm_h0 hk_h0 (by decide) rfl inlX9 (by decide) mW881 (fun _ h9 => h9) rfl dX9_step_326 ?_
                    refine lv_topl (fun z_366 ez_366 => ?_)
                    refine lv_iload hx hb dX9_step_329 (lv_at hl 4 rfl) ?_
                    refine lv_i2l hx hb dX9_step_331 rfl ?_
                    rw [← ez_357]
                    refine lv_ladd hx hb dX9_step_332 ?_
                    refine lv_topl (fun z_367 ez_367 => ?_)
                    refine yputJ (ci := 9) (k := 66) (C := RX9) (T := TX9) (N := 67) C0 hK hP hD hS hm_h0 hk_h0 (by decide) rfl inlX9 tyX9 tyX9_ok nmX9 (by decide) mW881 (fun _ h9 => h9) rfl (by decide +kernel) (Nat.le_of_ble_eq_true rfl) ysj_9_66 dX9_step_333 (fun H locs hP hD hS => ?_)
                    obtain ⟨d_368, ed_368⟩ : ∃ z : yD, z = yj d_363 h0 66 z_367 := ⟨_, rfl⟩
                    rw [← ed_368] at hP hD
                    have hgd_368 : yAg S [9, 77, 78] d d_368 := by rw [ed_368]; exact yAg.j hgd_363 (by rw [hk_h0]; decide)
                    have hsd_368 : yAg S [9] d_363 d_368 := by rw [ed_368]; exact yAg.j yAg.rf (by rw [hk_h0]; decide)
                    have hPod_368 : yPo S d_368 := by rw [ed_368]; exact hPod_363
                    have hfd_368 : yK [54, 55, 57, 63, 64, 65] d d_368 h0 := yK.ag hfd_363 (show yAg S [9] d_363 d_368 from by rw [ed_368]; exact yAg.j yAg.rf (by rw [hk_h0]; decide)) (by rw [hk_h0]; decide)
                    have hId_368 : yMI S d_368 h0 := yMI.ag hId_363 hSh hm_h0 hk_h0 (show yAg S [9] d_363 d_368 from by rw [ed_368]; exact yAg.j yAg.rf (by rw [hk_h0]; decide)) (yK.ag (F := []) yK.rf (show yAg S [9] d_363 d_368 from by rw [ed_368]; exact yAg.j yAg.rf (by rw [hk_h0]; decide)) (by rw [hk_h0]; decide)) (by decide) (by decide)
                    have hE0d_368 : (d_368.1 h0 0).toInt = (d_363.1 h0 0).toInt := congrArg Int32.toInt ((yK.ag (F := []) yK.rf (show yAg S [9] d_363 d_368 from by rw [ed_368]; exact yAg.j yAg.rf (by rw [hk_h0]; decide)) (by rw [hk_h0]; decide)) 0 (by decide))
                    have hE1d_368 : (d_368.1 h0 1).toInt = (d_363.1 h0 1).toInt := congrArg Int32.toInt ((yK.ag (F := []) yK.rf (show yAg S [9] d_363 d_368 from by rw [ed_368]; exact yAg.j yAg.rf (by rw [hk_h0]; decide)) (by rw [hk_h0]; decide)) 1 (by decide))
                    have hE2d_368 : (d_368.1 h0 2).toInt = (d_363.1 h0 2).toInt := congrArg Int32.toInt ((yK.ag (F := []) yK.rf (show yAg S [9] d_363 d_368 from by rw [ed_368]; exact yAg.j yAg.rf (by rw [hk_h0]; decide)) (by rw [hk_h0]; decide)) 2 (by decide))
                    have hE3d_368 : (d_368.1 h0 3).toInt = (d_363.1 h0 3).toInt := congrArg Int32.toInt ((yK.ag (F := []) yK.rf (show yAg S [9] d_363 d_368 from by rw [ed_368]; exact yAg.j yAg.rf (by rw [hk_h0]; decide)) (by rw [hk_h0]; decide)) 3 (by decide))
                    have hE63d_368 : (d_368.1 h0 63).toInt = (d_363.1 h0 63).toInt := congrArg Int32.toInt ((yK.ag (F := []) yK.rf (show yAg S [9] d_363 d_368 from by rw [ed_368]; exact yAg.j yAg.rf (by rw [hk_h0]; decide)) (by rw [hk_h0]; decide)) 63 (by decide))
                    refine lv_iload_n hx hb dX9_step_336 rfl (lv_at hl 2 rfl) ?_
                    refine lv_aload_n hx hb dX9_step_337 rfl (lv_at hl 0 rfl) ?_
                    refine yget (ci := 9) (k := 50) (v := .int (d_368.1 h0 50)) (C := RX9) (T := TX9) (N := 67) C0 hK hP hm_h0 hk_h0 (by decide) rfl inlX9 (by decide) mW862 (fun _ h9 => h9) rfl dX9_step_338 ?_
                    refine lv_topi (fun z_369 ez_369 => ?_)
                    refine yjoin (σ := yD) 367 (fun x H locs ls st => st = [] ∧ va_P G.1 xcl (yW G S x) H ∧ va_D A (yW G S x) ∧ va_S A s.heap H locs ∧ yAg S [9, 77, 78] d x ∧ yPo S x ∧ yK [54, 55, 57, 63, 64, 65] d x h0 ∧ yMI S x h0 ∧ yAg S [9] d_368 x ∧ yK [54, 55] d_368 x h0 ∧ lv_has ls 12 [(0, .ref h0), (2, .int p1), (9, .int v_351), (10, .int v_352)]) (fun x H locs ls st hI => ?_) (fun J367_369 => ?_)
                    · obtain ⟨d_370, rfl⟩ : ∃ z, z = x := ⟨_, rfl⟩
                      obtain ⟨rfl, hP, hD, hS, hgd_370, hPod_370, hfd_370, hId_370, hLJd_370, hKJd_370, hl⟩ := hI
                      have hId_370 : yMI S d_370 h0 := hId_370
                      have hl : lv_has ls 12 [(0, .ref h0), (2, .int p1), (9, .int v_351), (10, .int v_352)] := hl
                      have hE0d_370 : (d_370.1 h0 0).toInt = (d_368.1 h0 0).toInt := congrArg Int32.toInt (hKJd_370 0 (by decide))
                      have hE1d_370 : (d_370.1 h0 1).toInt = (d_368.1 h0 1).toInt := congrArg Int32.toInt (hKJd_370 1 (by decide))
                      have hE2d_370 : (d_370.1 h0 2).toInt = (d_368.1 h0 2).toInt := congrArg Int32.toInt (hKJd_370 2 (by decide))
                      have hE3d_370 : (d_370.1 h0 3).toInt = (d_368.1 h0 3).toInt := congrArg Int32.toInt (hKJd_370 3 (by decide))
                      have hE63d_370 : (d_370.1 h0 63).toInt = (d_368.1 h0 63).toInt := congrArg Int32.toInt (hKJd_370 63 (by decide))
                      refine lv_iload_n hx hb dX9_step_367 rfl (lv_at hl 1 rfl) ?_
                      refine lv_aload_n hx hb dX9_step_368 rfl (lv_at hl 0 rfl) ?_
                      refine yget (ci := 9) (k := 51) (v := .int (d_370.1 h0 51)) (C := RX9) (T := TX9) (N := 67) C0 hK hP hm_h0 hk_h0 (by decide) rfl inlX9 (by decide) mW863 (fun _ h9 => h9) rfl dX9_step_369 ?_
                      refine lv_topi (fun z_371 ez_371 => ?_)
                      refine yjoin (σ := yD) 395 (fun x H locs ls st => st = [] ∧ va_P G.1 xcl (yW G S x) H ∧ va_D A (yW G S x) ∧ va_S A s.heap H locs ∧ yAg S [9, 77, 78] d x ∧ yPo S x ∧ yK [54, 55, 57, 63, 64, 65] d x h0 ∧ yMI S x h0 ∧ yAg S [9] d_370 x ∧ yK [] d_370 x h0 ∧ lv_has ls 12 [(0, .ref h0), (2, .int p1), (9, .int v_351)]) (fun x H locs ls st hI => ?_) (fun J395_371 => ?_)
                      · obtain ⟨d_372, rfl⟩ : ∃ z, z = x := ⟨_, rfl⟩
                        obtain ⟨rfl, hP, hD, hS, hgd_372, hPod_372, hfd_372, hId_372, hLJd_372, hKJd_372, hl⟩ := hI
                        have hId_372 : yMI S d_372 h0 := hId_372
                        have hl : lv_has ls 12 [(0, .ref h0), (2, .int p1), (9, .int v_351)] := hl
                        have hE0d_372 : (d_372.1 h0 0).toInt = (d_370.1 h0 0).toInt := congrArg Int32.toInt (hKJd_372 0 (by decide))
                        have hE1d_372 : (d_372.1 h0 1).toInt = (d_370.1 h0 1).toInt := congrArg Int32.toInt (hKJd_372 1 (by decide))
                        have hE2d_372 : (d_372.1 h0 2).toInt = (d_370.1 h0 2).toInt := congrArg Int32.toInt (hKJd_372 2 (by decide))
                        have hE3d_372 : (d_372.1 h0 3).toInt = (d_370.1 h0 3).toInt := congrArg Int32.toInt (hKJd_372 3 (by decide))
                        have hE63d_372 : (d_372.1 h0 63).toInt = (d_370.1 h0 63).toInt := congrArg Int32.toInt (hKJd_372 63 (by decide))
                        refine lv_iload hx hb dX9_step_395 (lv_at hl 2 rfl) ?_
                        refine lv_aload_n hx hb dX9_step_397 rfl (lv_at hl 0 rfl) ?_
                        refine yget (ci := 9) (k := 53) (v := .int (d_372.1 h0 53)) (C := RX9) (T := TX9) (N := 67) C0 hK hP hm_h0 hk_h0 (by decide) rfl inlX9 (by decide) mW865 (fun _ h9 => h9) rfl dX9_step_398 ?_
                        refine lv_topi (fun z_373 ez_373 => ?_)
                        refine yjoin (σ := yD) 414 (fun x H locs ls st => st = [] ∧ va_P G.1 xcl (yW G S x) H ∧ va_D A (yW G S x) ∧ va_S A s.heap H locs ∧ yAg S [9, 77, 78] d x ∧ yPo S x ∧ yK [54, 55, 57, 63, 64, 65] d x h0 ∧ yMI S x h0 ∧ yAg S [9] d_372 x ∧ yK [57] d_372 x h0 ∧ lv_has ls 12 [(0, .ref h0), (2, .int p1), (9, .int v_351)]) (fun x H locs ls st hI => ?_) (fun J414_373 => ?_)
                        · obtain ⟨d_374, rfl⟩ : ∃ z, z = x := ⟨_, rfl⟩
                          obtain ⟨rfl, hP, hD, hS, hgd_374, hPod_374, hfd_374, hId_374, hLJd_374, hKJd_374, hl⟩ := hI
                          have hId_374 : yMI S d_374 h0 := hId_374
                          have hl : lv_has ls 12 [(0, .ref h0), (2, .int p1), (9, .int v_351)] := hl
                          have hE0d_374 : (d_374.1 h0 0).toInt = (d_372.1 h0 0).toInt := congrArg Int32.toInt (hKJd_374 0 (by decide))
                          have hE1d_374 : (d_374.1 h0 1).toInt = (d_372.1 h0 1).toInt := congrArg Int32.toInt (hKJd_374 1 (by decide))
                          have hE2d_374 : (d_374.1 h0 2).toInt = (d_372.1 h0 2).toInt := congrArg Int32.toInt (hKJd_374 2 (by decide))
                          have hE3d_374 : (d_374.1 h0 3).toInt = (d_372.1 h0 3).toInt := congrArg Int32.toInt (hKJd_374 3 (by decide))
                          have hE63d_374 : (d_374.1 h0 63).toInt = (d_372.1 h0 63).toInt := congrArg Int32.toInt (hKJd_374 63 (by decide))
                          refine lv_aload_n hx hb dX9_step_414 rfl (lv_at hl 0 rfl) ?_
                          refine yget (ci := 9) (k := 65) (v := .int (d_374.1 h0 65)) (C := RX9) (T := TX9) (N := 67) C0 hK hP hm_h0 hk_h0 (by decide) rfl inlX9 (by decide) mW868 (fun _ h9 => h9) rfl dX9_step_415 ?_
                          refine lv_topi (fun z_375 ez_375 => ?_)
                          refine lv_if_ge (tgt := 495) hx hb dX9_step_418 (by decide) (fun c_376 => ?_) (fun c_376 => ?_)
                          · refine lv_aload_n hx hb dX9_step_495 rfl (lv_at hl 0 rfl) ?_
                            refine yget (ci := 9) (k := 65) (v := .int (d_374.1 h0 65)) (C := RX9) (T := TX9) (N := 67) C0 hK hP hm_h0 hk_h0 (by decide) rfl inlX9 (by decide) mW868 (fun _ h9 => h9) rfl dX9_step_496 ?_
                            rw [← ez_375]
                            refine lv_if_ge (tgt := 507) hx hb dX9_step_499 (by decide) (fun c_377 => ?_) (fun c_377 => absurd c_376 c_377)
                            exact W.vret hx hb hr (fun t ht hW => ⟨⟨d_374, rfl, ⟨hgd_374, (fun _ => hPod_374), hfd_374, hId_374⟩, by rw [ht]; exact hP, hD⟩, hS.F ht⟩) hS.2.2 dX9_step_507
                          · refine lv_aload_n hx hb dX9_step_421 rfl (lv_at hl 0 rfl) ?_
                            refine yget (ci := 9) (k := 63) (v := .int (d_374.1 h0 63)) (C := RX9) (T := TX9) (N := 67) C0 hK hP hm_h0 hk_h0 (by decide) rfl inlX9 (by decide) mW866 (fun _ h9 => h9) rfl dX9_step_422 ?_
                            refine lv_topi (fun z_378 ez_378 => ?_)
                            refine lv_aload_n hx hb dX9_step_425 rfl (lv_at hl 0 rfl) ?_
                            refine yget (ci := 9) (k := 2) (v := .int (d_374.1 h0 2)) (C := RX9) (T := TX9) (N := 67) C0 hK hP hm_h0 hk_h0 (by decide) rfl inlX9 (by decide) mW888 (fun _ h9 => h9) rfl dX9_step_426 ?_
                            refine lv_topi (fun z_379 ez_379 => ?_)
                            refine lv_icmp_ge (tgt := 495) hx hb dX9_step_429 (by decide) (fun c_380 => ?_) (fun c_380 => ?_)
                            · refine lv_aload_n hx hb dX9_step_495 rfl (lv_at hl 0 rfl) ?_
                              refine yget (ci := 9) (k := 65) (v := .int (d_374.1 h0 65)) (C := RX9) (T := TX9) (N := 67) C0 hK hP hm_h0 hk_h0 (by decide) rfl inlX9 (by decide) mW868 (fun _ h9 => h9) rfl dX9_step_496 ?_
                              rw [← ez_375]
                              refine lv_if_ge (tgt := 507) hx hb dX9_step_499 (by decide) (fun c_381 => absurd c_381 c_376) (fun c_381 => ?_)
                              refine lv_aload_n hx hb dX9_step_502 rfl (lv_at hl 0 rfl) ?_
                              refine lv_iload_n hx hb dX9_step_503 rfl (lv_at hl 1 rfl) ?_
                              refine yputI (ci := 9) (k := 65) (ty := .int) (C := RX9) (T := TX9) (N := 67) C0 hK hP hD hS hm_h0 hk_h0 (by decide) rfl inlX9 tyX9 tyX9_ok nmX9 (by decide) mW868 (fun _ h9 => h9) rfl (by decide +kernel) rfl rfl (Nat.le_of_ble_eq_true rfl) ysi_9_65 dX9_step_504 (fun H locs hP hD hS => ?_)
                              obtain ⟨d_382, ed_382⟩ : ∃ z : yD, z = yi d_374 h0 65 p1 := ⟨_, rfl⟩
                              rw [← ed_382] at hP hD
                              have hgd_382 : yAg S [9, 77, 78] d d_382 := by rw [ed_382]; exact yAg.i hgd_374 (by rw [hk_h0]; decide)
                              have hsd_382 : yAg S [9] d_374 d_382 := by rw [ed_382]; exact yAg.i yAg.rf (by rw [hk_h0]; decide)
                              have hPod_382 : yPo S d_382 := by rw [ed_382]; exact yPo.i hPod_374 hk_h0 (Or.inl rfl)
                              have hfd_382 : yK [54, 55, 57, 63, 64, 65] d d_382 h0 := by rw [ed_382]; exact yK.i hfd_374 (by decide)
                              have hId_382 : yMI S d_382 h0 := yMI.ag hId_374 hSh hm_h0 hk_h0 (show yAg S [9] d_374 d_382 from by rw [ed_382]; exact yAg.i yAg.rf (by rw [hk_h0]; decide)) (show yK [65] d_374 d_382 h0 from by rw [ed_382]; exact yK.i yK.rf (by decide)) (by decide) (by decide)
                              have hE0d_382 : (d_382.1 h0 0).toInt = (d_374.1 h0 0).toInt := congrArg Int32.toInt ((show yK [65] d_374 d_382 h0 from by rw [ed_382]; exact yK.i yK.rf (by decide)) 0 (by decide))
                              have hE1d_382 : (d_382.1 h0 1).toInt = (d_374.1 h0 1).toInt := congrArg Int32.toInt ((show yK [65] d_374 d_382 h0 from by rw [ed_382]; exact yK.i yK.rf (by decide)) 1 (by decide))
                              have hE2d_382 : (d_382.1 h0 2).toInt = (d_374.1 h0 2).toInt := congrArg Int32.toInt ((show yK [65] d_374 d_382 h0 from by rw [ed_382]; exact yK.i yK.rf (by decide)) 2 (by decide))
                              have hE3d_382 : (d_382.1 h0 3).toInt = (d_374.1 h0 3).toInt := congrArg Int32.toInt ((show yK [65] d_374 d_382 h0 from by rw [ed_382]; exact yK.i yK.rf (by decide)) 3 (by decide))
                              have hE63d_382 : (d_382.1 h0 63).toInt = (d_374.1 h0 63).toInt := congrArg Int32.toInt ((show yK [65] d_374 d_382 h0 from by rw [ed_382]; exact yK.i yK.rf (by decide)) 63 (by decide))
                              exact W.vret hx hb hr (fun t ht hW => ⟨⟨d_382, rfl, ⟨hgd_382, (fun _ => hPod_382), hfd_382, hId_382⟩, by rw [ht]; exact hP, hD⟩, hS.F ht⟩) hS.2.2 dX9_step_507
                            · refine lv_aload_n hx hb dX9_step_432 rfl (lv_at hl 0 rfl) ?_
                              refine yget (ci := 9) (k := 19) (v := .ref (S.2.2.1 h0 19)) (C := RX9) (T := TX9) (N := 67) C0 hK hP hm_h0 hk_h0 (by decide) rfl inlX9 (by decide) mW126 (fun _ h9 => h9) rfl dX9_step_433 ?_
                              obtain ⟨hmy_383, hky_383⟩ := ySh.f9_19 hSh _ hm_h0 hk_h0
                              refine lv_aload_n hx hb dX9_step_436 rfl (lv_at hl 0 rfl) ?_
                              refine yget (ci := 9) (k := 63) (v := .int (d_374.1 h0 63)) (C := RX9) (T := TX9) (N := 67) C0 hK hP hm_h0 hk_h0 (by decide) rfl inlX9 (by decide) mW866 (fun _ h9 => h9) rfl dX9_step_437 ?_
                              rw [← ez_378]
                              have hCC_384 := yMI.c hId_374
                              have T_385 : (z_364 : Int32).toInt = (d_363.1 h0 49).toInt := by rw [ez_364]
                              have F_386 := feq (rfl : (p0 : Int32).toInt = (p0 : Int32).toInt) (rfl : (z_364 : Int32).toInt = (z_364 : Int32).toInt) c_365
                              have T_387 : (z_375 : Int32).toInt = (d_374.1 h0 65).toInt := by rw [ez_375]
                              have F_388 := fnle (by decide +kernel : (0 : Int32).toInt = 0) (rfl : (z_375 : Int32).toInt = (z_375 : Int32).toInt) c_376
                              have T_389 : (z_378 : Int32).toInt = (d_374.1 h0 63).toInt := by rw [ez_378]
                              have T_390 : (z_379 : Int32).toInt = (d_374.1 h0 2).toInt := by rw [ez_379]
                              have F_391 := fnle (rfl : (z_379 : Int32).toInt = (z_379 : Int32).toInt) (rfl : (z_378 : Int32).toInt = (z_378 : Int32).toInt) c_380
                              refine yaldB C0 hK hP hmy_383 hky_383 (by decide) rfl 1 rfl (xinT 500 rfl (by omega) (by omega)) dX9_step_440 ?_
                              refine lv_topi (fun z_392 ez_392 => ?_)
                              refine lv_iload hx hb dX9_step_441 (lv_at hl 2 rfl) ?_
                              refine lv_icmp_eq (tgt := 451) hx hb dX9_step_443 (by decide) (fun c_393 => ?_) (fun c_393 => ?_)
                              · refine lv_aload_n hx hb dX9_step_451 rfl (lv_at hl 0 rfl) ?_
                                refine lv_dup hx hb dX9_step_452 rfl ?_
                                refine yget (ci := 9) (k := 64) (v := .int (d_374.1 h0 64)) (C := RX9) (T := TX9) (N := 67) C0 hK hP hm_h0 hk_h0 (by decide) rfl inlX9 (by decide) mW867 (fun _ h9 => h9) rfl dX9_step_453 ?_
                                refine lv_topi (fun z_394 ez_394 => ?_)
                                refine lv_iconst (v := 1) hx hb dX9_step_456 (by decide) ?_
                                refine lv_iadd hx hb dX9_step_457 ?_
                                refine lv_topi (fun z_395 ez_395 => ?_)
                                refine yputI (ci := 9) (k := 64) (ty := .int) (C := RX9) (T := TX9) (N := 67) C0 hK hP hD hS hm_h0 hk_h0 (by decide) rfl inlX9 tyX9 tyX9_ok nmX9 (by decide) mW867 (fun _ h9 => h9) rfl (by decide +kernel) rfl rfl (Nat.le_of_ble_eq_true rfl) ysi_9_64 dX9_step_458 (fun H locs hP hD hS => ?_)
                                obtain ⟨d_396, ed_396⟩ : ∃ z : yD, z = yi d_374 h0 64 z_395 := ⟨_, rfl⟩
                                rw [← ed_396] at hP hD
                                have hgd_396 : yAg S [9, 77, 78] d d_396 := by rw [ed_396]; exact yAg.i hgd_374 (by rw [hk_h0]; decide)
                                have hsd_396 : yAg S [9] d_374 d_396 := by rw [ed_396]; exact yAg.i yAg.rf (by rw [hk_h0]; decide)
                                have hPod_396 : yPo S d_396 := by rw [ed_396]; exact yPo.i hPod_374 hk_h0 (Or.inl rfl)
                                have hfd_396 : yK [54, 55, 57, 63, 64, 65] d d_396 h0 := by rw [ed_396]; exact yK.i hfd_374 (by decide)
                                have hId_396 : yMI S d_396 h0 := yMI.ag hId_374 hSh hm_h0 hk_h0 (show yAg S [9] d_374 d_396 from by rw [ed_396]; exact yAg.i yAg.rf (by rw [hk_h0]; decide)) (show yK [64] d_374 d_396 h0 from by rw [ed_396]; exact yK.i yK.rf (by decide)) (by decide) (by decide)
                                have hE0d_396 : (d_396.1 h0 0).toInt = (d_374.1 h0 0).toInt := congrArg Int32.toInt ((show yK [64] d_374 d_396 h0 from by rw [ed_396]; exact yK.i yK.rf (by decide)) 0 (by decide))
                                have hE1d_396 : (d_396.1 h0 1).toInt = (d_374.1 h0 1).toInt := congrArg Int32.toInt ((show yK [64] d_374 d_396 h0 from by rw [ed_396]; exact yK.i yK.rf (by decide)) 1 (by decide))
                                have hE2d_396 : (d_396.1 h0 2).toInt = (d_374.1 h0 2).toInt := congrArg Int32.toInt ((show yK [64] d_374 d_396 h0 from by rw [ed_396]; exact yK.i yK.rf (by decide)) 2 (by decide))
                                have hE3d_396 : (d_396.1 h0 3).toInt = (d_374.1 h0 3).toInt := congrArg Int32.toInt ((show yK [64] d_374 d_396 h0 from by rw [ed_396]; exact yK.i yK.rf (by decide)) 3 (by decide))
                                have hE63d_396 : (d_396.1 h0 63).toInt = (d_374.1 h0 63).toInt := congrArg Int32.toInt ((show yK [64] d_374 d_396 h0 from by rw [ed_396]; exact yK.i yK.rf (by decide)) 63 (by decide))
                                refine lv_aload_n hx hb dX9_step_461 rfl (lv_at hl 0 rfl) ?_
                                refine yget (ci := 9) (k := 64) (v := .int (d_396.1 h0 64)) (C := RX9) (T := TX9) (N := 67) C0 hK hP hm_h0 hk_h0 (by decide) rfl inlX9 (by decide) mW867 (fun _ h9 => h9) rfl dX9_step_462 ?_
                                refine lv_topi (fun z_397 ez_397 => ?_)
                                refine lv_aload_n hx hb dX9_step_465 rfl (lv_at hl 0 rfl) ?_
                                refine yget (ci := 9) (k := 18) (v := .ref (S.2.2.1 h0 18)) (C := RX9) (T := TX9) (N := 67) C0 hK hP hm_h0 hk_h0 (by decide) rfl inlX9 (by decide) mW125 (fun _ h9 => h9) rfl dX9_step_466 ?_
                                obtain ⟨hmy_398, hky_398⟩ := ySh.f9_18 hSh _ hm_h0 hk_h0
                                refine lv_aload_n hx hb dX9_step_469 rfl (lv_at hl 0 rfl) ?_
                                refine yget (ci := 9) (k := 63) (v := .int (d_396.1 h0 63)) (C := RX9) (T := TX9) (N := 67) C0 hK hP hm_h0 hk_h0 (by decide) rfl inlX9 (by decide) mW866 (fun _ h9 => h9) rfl dX9_step_470 ?_
                                refine lv_topi (fun z_399 ez_399 => ?_)
                                have hCC_400 := yMI.c hId_396
                                have F_402 := feq (rfl : (z_392 : Int32).toInt = (z_392 : Int32).toInt) (rfl : (v_351 : Int32).toInt = (v_351 : Int32).toInt) c_393
                                have T_403 : (z_399 : Int32).toInt = (d_396.1 h0 63).toInt := by rw [ez_399]
                                refine yald C0 hK hP hmy_398 hky_398 (by decide) rfl 0 rfl (xinT 500 rfl (by omega) (by omega)) dX9_step_473 ?_
                                refine lv_topi (fun z_404 ez_404 => ?_)
                                refine lv_icmp_ne (tgt := 507) hx hb dX9_step_474 (by decide) (fun c_405 => ?_) (fun c_405 => ?_)
                                · exact W.vret hx hb hr (fun t ht hW => ⟨⟨d_396, rfl, ⟨hgd_396, (fun _ => hPod_396), hfd_396, hId_396⟩, by rw [ht]; exact hP, hD⟩, hS.F ht⟩) hS.2.2 dX9_step_507
                                · refine lv_aload_n hx hb dX9_step_477 rfl (lv_at hl 0 rfl) ?_
                                  refine lv_dup hx hb dX9_step_478 rfl ?_
                                  refine yget (ci := 9) (k := 63) (v := .int (d_396.1 h0 63)) (C := RX9) (T := TX9) (N := 67) C0 hK hP hm_h0 hk_h0 (by decide) rfl inlX9 (by decide) mW866 (fun _ h9 => h9) rfl dX9_step_479 ?_
                                  rw [← ez_399]
                                  refine lv_iconst (v := 1) hx hb dX9_step_482 (by decide) ?_
                                  refine lv_iadd hx hb dX9_step_483 ?_
                                  refine lv_topi (fun z_406 ez_406 => ?_)
                                  refine yputI (ci := 9) (k := 63) (ty := .int) (C := RX9) (T := TX9) (N := 67) C0 hK hP hD hS hm_h0 hk_h0 (by decide) rfl inlX9 tyX9 tyX9_ok nmX9 (by decide) mW866 (fun _ h9 => h9) rfl (by decide +kernel) rfl rfl (Nat.le_of_ble_eq_true rfl) ysi_9_63 dX9_step_484 (fun H locs hP hD hS => ?_)
                                  obtain ⟨d_407, ed_407⟩ : ∃ z : yD, z = yi d_396 h0 63 z_406 := ⟨_, rfl⟩
                                  rw [← ed_407] at hP hD
                                  have hgd_407 : yAg S [9, 77, 78] d d_407 := by rw [ed_407]; exact yAg.i hgd_396 (by rw [hk_h0]; decide)
                                  have hsd_407 : yAg S [9] d_396 d_407 := by rw [ed_407]; exact yAg.i yAg.rf (by rw [hk_h0]; decide)
                                  have hPod_407 : yPo S d_407 := by rw [ed_407]; exact yPo.i hPod_396 hk_h0 (Or.inl rfl)
                                  have hfd_407 : yK [54, 55, 57, 63, 64, 65] d d_407 h0 := by rw [ed_407]; exact yK.i hfd_396 (by decide)
                                  have T_408 : (z_397 : Int32).toInt = (d_396.1 h0 64).toInt := by rw [ez_397]
                                  have F_410 := feq (rfl : (z_397 : Int32).toInt = (z_397 : Int32).toInt) (rfl : (z_404 : Int32).toInt = (z_404 : Int32).toInt) c_405
                                  have T_411 : (z_406 : Int32).toInt = (z_399 : Int32).toInt + 1 := tadd ez_406 (rfl : (z_399 : Int32).toInt = (z_399 : Int32).toInt) (by decide +kernel : (1 : Int32).toInt = 1) (by omega) (by omega)
                                  have hId_407 : yMI S d_407 h0 := by rw [ed_407]; exact yMI.i63 hId_396 ⟨by omega, by omega⟩
                                  have hE0d_407 : (d_407.1 h0 0).toInt = (d_396.1 h0 0).toInt := congrArg Int32.toInt ((show yK [63] d_396 d_407 h0 from by rw [ed_407]; exact yK.i yK.rf (by decide)) 0 (by decide))
                                  have hE1d_407 : (d_407.1 h0 1).toInt = (d_396.1 h0 1).toInt := congrArg Int32.toInt ((show yK [63] d_396 d_407 h0 from by rw [ed_407]; exact yK.i yK.rf (by decide)) 1 (by decide))
                                  have hE2d_407 : (d_407.1 h0 2).toInt = (d_396.1 h0 2).toInt := congrArg Int32.toInt ((show yK [63] d_396 d_407 h0 from by rw [ed_407]; exact yK.i yK.rf (by decide)) 2 (by decide))
                                  have hE3d_407 : (d_407.1 h0 3).toInt = (d_396.1 h0 3).toInt := congrArg Int32.toInt ((show yK [63] d_396 d_407 h0 from by rw [ed_407]; exact yK.i yK.rf (by decide)) 3 (by decide))
                                  have hE63d_407 : (d_407.1 h0 63).toInt = (z_406 : Int32).toInt := by rw [ed_407, yi_self]
                                  refine lv_aload_n hx hb dX9_step_487 rfl (lv_at hl 0 rfl) ?_
                                  refine lv_iconst (v := 0) hx hb dX9_step_488 (by decide) ?_
                                  refine yputI (ci := 9) (k := 64) (ty := .int) (C := RX9) (T := TX9) (N := 67) C0 hK hP hD hS hm_h0 hk_h0 (by decide) rfl inlX9 tyX9 tyX9_ok nmX9 (by decide) mW867 (fun _ h9 => h9) rfl (by decide +kernel) rfl rfl (Nat.le_of_ble_eq_true rfl) ysi_9_64 dX9_step_489 (fun H locs hP hD hS => ?_)
                                  obtain ⟨d_412, ed_412⟩ : ∃ z : yD, z = yi d_407 h0 64 0 := ⟨_, rfl⟩
                                  rw [← ed_412] at hP hD
                                  have hgd_412 : yAg S [9, 77, 78] d d_412 := by rw [ed_412]; exact yAg.i hgd_407 (by rw [hk_h0]; decide)
                                  have hsd_412 : yAg S [9] d_407 d_412 := by rw [ed_412]; exact yAg.i yAg.rf (by rw [hk_h0]; decide)
                                  have hPod_412 : yPo S d_412 := by rw [ed_412]; exact yPo.i hPod_407 hk_h0 (Or.inl rfl)
                                  have hfd_412 : yK [54, 55, 57, 63, 64, 65] d d_412 h0 := by rw [ed_412]; exact yK.i hfd_407 (by decide)
                                  have hId_412 : yMI S d_412 h0 := yMI.ag hId_407 hSh hm_h0 hk_h0 (show yAg S [9] d_407 d_412 from by rw [ed_412]; exact yAg.i yAg.rf (by rw [hk_h0]; decide)) (show yK [64] d_407 d_412 h0 from by rw [ed_412]; exact yK.i yK.rf (by decide)) (by decide) (by decide)
                                  have hE0d_412 : (d_412.1 h0 0).toInt = (d_407.1 h0 0).toInt := congrArg Int32.toInt ((show yK [64] d_407 d_412 h0 from by rw [ed_412]; exact yK.i yK.rf (by decide)) 0 (by decide))
                                  have hE1d_412 : (d_412.1 h0 1).toInt = (d_407.1 h0 1).toInt := congrArg Int32.toInt ((show yK [64] d_407 d_412 h0 from by rw [ed_412]; exact yK.i yK.rf (by decide)) 1 (by decide))
                                  have hE2d_412 : (d_412.1 h0 2).toInt = (d_407.1 h0 2).toInt := congrArg Int32.toInt ((show yK [64] d_407 d_412 h0 from by rw [ed_412]; exact yK.i yK.rf (by decide)) 2 (by decide))
                                  have hE3d_412 : (d_412.1 h0 3).toInt = (d_407.1 h0 3).toInt := congrArg Int32.toInt ((show yK [64] d_407 d_412 h0 from by rw [ed_412]; exact yK.i yK.rf (by decide)) 3 (by decide))
                                  have hE63d_412 : (d_412.1 h0 63).toInt = (d_407.1 h0 63).toInt := congrArg Int32.toInt ((show yK [64] d_407 d_412 h0 from by rw [ed_412]; exact yK.i yK.rf (by decide)) 63 (by decide))
                                  refine lv_goto (tgt := 507) hx hb dX9_step_492 (by decide) ?_
                                  exact W.vret hx hb hr (fun t ht hW => ⟨⟨d_412, rfl, ⟨hgd_412, (fun _ => hPod_412), hfd_412, hId_412⟩, by rw [ht]; exact hP, hD⟩, hS.F ht⟩) hS.2.2 dX9_step_507
                              · refine lv_aload_n hx hb dX9_step_446 rfl (lv_at hl 0 rfl) ?_
                                refine lv_iload_n hx hb dX9_step_447 rfl (lv_at hl 1 rfl) ?_
                                refine yputI (ci := 9) (k := 65) (ty := .int) (C := RX9) (T := TX9) (N := 67) C0 hK hP hD hS hm_h0 hk_h0 (by decide) rfl inlX9 tyX9 tyX9_ok nmX9 (by decide) mW868 (fun _ h9 => h9) rfl (by decide +kernel) rfl rfl (Nat.le_of_ble_eq_true rfl) ysi_9_65 dX9_step_448 (fun H locs hP hD hS => ?_)
                                obtain ⟨d_413, ed_413⟩ : ∃ z : yD, z = yi d_374 h0 65 p1 := ⟨_, rfl⟩
                                rw [← ed_413] at hP hD
                                have hgd_413 : yAg S [9, 77, 78] d d_413 := by rw [ed_413]; exact yAg.i hgd_374 (by rw [hk_h0]; decide)
                                have hsd_413 : yAg S [9] d_374 d_413 := by rw [ed_413]; exact yAg.i yAg.rf (by rw [hk_h0]; decide)
                                have hPod_413 : yPo S d_413 := by rw [ed_413]; exact yPo.i hPod_374 hk_h0 (Or.inl rfl)
                                have hfd_413 : yK [54, 55, 57, 63, 64, 65] d d_413 h0 := by rw [ed_413]; exact yK.i hfd_374 (by decide)
                                have hId_413 : yMI S d_413 h0 := yMI.ag hId_374 hSh hm_h0 hk_h0 (show yAg S [9] d_374 d_413 from by rw [ed_413]; exact yAg.i yAg.rf (by rw [hk_h0]; decide)) (show yK [65] d_374 d_413 h0 from by rw [ed_413]; exact yK.i yK.rf (by decide)) (by decide) (by decide)
                                have hE0d_413 : (d_413.1 h0 0).toInt = (d_374.1 h0 0).toInt := congrArg Int32.toInt ((show yK [65] d_374 d_413 h0 from by rw [ed_413]; exact yK.i yK.rf (by decide)) 0 (by decide))
                                have hE1d_413 : (d_413.1 h0 1).toInt = (d_374.1 h0 1).toInt := congrArg Int32.toInt ((show yK [65] d_374 d_413 h0 from by rw [ed_413]; exact yK.i yK.rf (by decide)) 1 (by decide))
                                have hE2d_413 : (d_413.1 h0 2).toInt = (d_374.1 h0 2).toInt := congrArg Int32.toInt ((show yK [65] d_374 d_413 h0 from by rw [ed_413]; exact yK.i yK.rf (by decide)) 2 (by decide))
                                have hE3d_413 : (d_413.1 h0 3).toInt = (d_374.1 h0 3).toInt := congrArg Int32.toInt ((show yK [65] d_374 d_413 h0 from by rw [ed_413]; exact yK.i yK.rf (by decide)) 3 (by decide))
                                have hE63d_413 : (d_413.1 h0 63).toInt = (d_374.1 h0 63).toInt := congrArg Int32.toInt ((show yK [65] d_374 d_413 h0 from by rw [ed_413]; exact yK.i yK.rf (by decide)) 63 (by decide))
                                refine lv_aload_n hx hb dX9_step_451 rfl (lv_at hl 0 rfl) ?_
                                refine lv_dup hx hb dX9_step_452 rfl ?_
                                refine yget (ci := 9) (k := 64) (v := .int (d_413.1 h0 64)) (C := RX9) (T := TX9) (N := 67) C0 hK hP hm_h0 hk_h0 (by decide) rfl inlX9 (by decide) mW867 (fun _ h9 => h9) rfl dX9_step_453 ?_
                                refine lv_topi (fun z_414 ez_414 => ?_)
                                refine lv_iconst (v := 1) hx hb dX9_step_456 (by decide) ?_
                                refine lv_iadd hx hb dX9_step_457 ?_
                                refine lv_topi (fun z_415 ez_415 => ?_)
                                refine yputI (ci := 9) (k := 64) (ty := .int) (C := RX9) (T := TX9) (N := 67) C0 hK hP hD hS hm_h0 hk_h0 (by decide) rfl inlX9 tyX9 tyX9_ok nmX9 (by decide) mW867 (fun _ h9 => h9) rfl (by decide +kernel) rfl rfl (Nat.le_of_ble_eq_true rfl) ysi_9_64 dX9_step_458 (fun H locs hP hD hS => ?_)
                                obtain ⟨d_416, ed_416⟩ : ∃ z : yD, z = yi d_413 h0 64 z_415 := ⟨_, rfl⟩
                                rw [← ed_416] at hP hD
                                have hgd_416 : yAg S [9, 77, 78] d d_416 := by rw [ed_416]; exact yAg.i hgd_413 (by rw [hk_h0]; decide)
                                have hsd_416 : yAg S [9] d_413 d_416 := by rw [ed_416]; exact yAg.i yAg.rf (by rw [hk_h0]; decide)
                                have hPod_416 : yPo S d_416 := by rw [ed_416]; exact yPo.i hPod_413 hk_h0 (Or.inl rfl)
                                have hfd_416 : yK [54, 55, 57, 63, 64, 65] d d_416 h0 := by rw [ed_416]; exact yK.i hfd_413 (by decide)
                                have hId_416 : yMI S d_416 h0 := yMI.ag hId_413 hSh hm_h0 hk_h0 (show yAg S [9] d_413 d_416 from by rw [ed_416]; exact yAg.i yAg.rf (by rw [hk_h0]; decide)) (show yK [64] d_413 d_416 h0 from by rw [ed_416]; exact yK.i yK.rf (by decide)) (by decide) (by decide)
                                have hE0d_416 : (d_416.1 h0 0).toInt = (d_413.1 h0 0).toInt := congrArg Int32.toInt ((show yK [64] d_413 d_416 h0 from by rw [ed_416]; exact yK.i yK.rf (by decide)) 0 (by decide))
                                have hE1d_416 : (d_416.1 h0 1).toInt = (d_413.1 h0 1).toInt := congrArg Int32.toInt ((show yK [64] d_413 d_416 h0 from by rw [ed_416]; exact yK.i yK.rf (by decide)) 1 (by decide))
                                have hE2d_416 : (d_416.1 h0 2).toInt = (d_413.1 h0 2).toInt := congrArg Int32.toInt ((show yK [64] d_413 d_416 h0 from by rw [ed_416]; exact yK.i yK.rf (by decide)) 2 (by decide))
                                have hE3d_416 : (d_416.1 h0 3).toInt = (d_413.1 h0 3).toInt := congrArg Int32.toInt ((show yK [64] d_413 d_416 h0 from by rw [ed_416]; exact yK.i yK.rf (by decide)) 3 (by decide))
                                have hE63d_416 : (d_416.1 h0 63).toInt = (d_413.1 h0 63).toInt := congrArg Int32.toInt ((show yK [64] d_413 d_416 h0 from by rw [ed_416]; exact yK.i yK.rf (by decide)) 63 (by decide))
                                refine lv_aload_n hx hb dX9_step_461 rfl (lv_at hl 0 rfl) ?_
                                refine yget (ci := 9) (k := 64) (v := .int (d_416.1 h0 64)) (C := RX9) (T := TX9) (N := 67) C0 hK hP hm_h0 hk_h0 (by decide) rfl inlX9 (by decide) mW867 (fun _ h9 => h9) rfl dX9_step_462 ?_
                                refine lv_topi (fun z_417 ez_417 => ?_)
                                refine lv_aload_n hx hb dX9_step_465 rfl (lv_at hl 0 rfl) ?_
                                refine yget (ci := 9) (k := 18) (v := .ref (S.2.2.1 h0 18)) (C := RX9) (T := TX9) (N := 67) C0 hK hP hm_h0 hk_h0 (by decide) rfl inlX9 (by decide) mW125 (fun _ h9 => h9) rfl dX9_step_466 ?_
                                obtain ⟨hmy_418, hky_418⟩ := ySh.f9_18 hSh _ hm_h0 hk_h0
                                refine lv_aload_n hx hb dX9_step_469 rfl (lv_at hl 0 rfl) ?_
                                refine yget (ci := 9) (k := 63) (v := .int (d_416.1 h0 63)) (C := RX9) (T := TX9) (N := 67) C0 hK hP hm_h0 hk_h0 (by decide) rfl inlX9 (by decide) mW866 (fun _ h9 => h9) rfl dX9_step_470 ?_
                                refine lv_topi (fun z_419 ez_419 => ?_)
                                have hCC_420 := yMI.c hId_416
                                have F_422 := fne (rfl : (z_392 : Int32).toInt = (z_392 : Int32).toInt) (rfl : (v_351 : Int32).toInt = (v_351 : Int32).toInt) c_393
                                have T_423 : (z_419 : Int32).toInt = (d_416.1 h0 63).toInt := by rw [ez_419]
                                refine yald C0 hK hP hmy_418 hky_418 (by decide) rfl 0 rfl (xinT 500 rfl (by omega) (by omega)) dX9_step_473 ?_
                                refine lv_topi (fun z_424 ez_424 => ?_)
                                refine lv_icmp_ne (tgt := 507) hx hb dX9_step_474 (by decide) (fun c_425 => ?_) (fun c_425 => ?_)
                                · exact W.vret hx hb hr (fun t ht hW => ⟨⟨d_416, rfl, ⟨hgd_416, (fun _ => hPod_416), hfd_416, hId_416⟩, by rw [ht]; exact hP, hD⟩, hS.F ht⟩) hS.2.2 dX9_step_507
                                · refine lv_aload_n hx hb dX9_step_477 rfl (lv_at hl 0 rfl) ?_
                                  refine lv_dup hx hb dX9_step_478 rfl ?_
                                  refine yget (ci := 9) (k := 63) (v := .int (d_416.1 h0 63)) (C := RX9) (T := TX9) (N := 67) C0 hK hP hm_h0 hk_h0 (by decide) rfl inlX9 (by decide) mW866 (fun _ h9 => h9) rfl dX9_step_479 ?_
                                  rw [← ez_419]
                                  refine lv_iconst (v := 1) hx hb dX9_step_482 (by decide) ?_
                                  refine lv_iadd hx hb dX9_step_483 ?_
                                  refine lv_topi (fun z_426 ez_426 => ?_)
                                  refine yputI (ci := 9) (k := 63) (ty := .int) (C := RX9) (T := TX9) (N := 67) C0 hK hP hD hS hm_h0 hk_h0 (by decide) rfl inlX9 tyX9 tyX9_ok nmX9 (by decide) mW866 (fun _ h9 => h9) rfl (by decide +kernel) rfl rfl (Nat.le_of_ble_eq_true rfl) ysi_9_63 dX9_step_484 (fun H locs hP hD hS => ?_)
                                  obtain ⟨d_427, ed_427⟩ : ∃ z : yD, z = yi d_416 h0 63 z_426 := ⟨_, rfl⟩
                                  rw [← ed_427] at hP hD
                                  have hgd_427 : yAg S [9, 77, 78] d d_427 := by rw [ed_427]; exact yAg.i hgd_416 (by rw [hk_h0]; decide)
                                  have hsd_427 : yAg S [9] d_416 d_427 := by rw [ed_427]; exact yAg.i yAg.rf (by rw [hk_h0]; decide)
                                  have hPod_427 : yPo S d_427 := by rw [ed_427]; exact yPo.i hPod_416 hk_h0 (Or.inl rfl)
                                  have hfd_427 : yK [54, 55, 57, 63, 64, 65] d d_427 h0 := by rw [ed_427]; exact yK.i hfd_416 (by decide)
                                  have T_428 : (z_417 : Int32).toInt = (d_416.1 h0 64).toInt := by rw [ez_417]
                                  have F_430 := feq (rfl : (z_417 : Int32).toInt = (z_417 : Int32).toInt) (rfl : (z_424 : Int32).toInt = (z_424 : Int32).toInt) c_425
                                  have T_431 : (z_426 : Int32).toInt = (z_419 : Int32).toInt + 1 := tadd ez_426 (rfl : (z_419 : Int32).toInt = (z_419 : Int32).toInt) (by decide +kernel : (1 : Int32).toInt = 1) (by omega) (by omega)
                                  have hId_427 : yMI S d_427 h0 := by rw [ed_427]; exact yMI.i63 hId_416 ⟨by omega, by omega⟩
                                  have hE0d_427 : (d_427.1 h0 0).toInt = (d_416.1 h0 0).toInt := congrArg Int32.toInt ((show yK [63] d_416 d_427 h0 from by rw [ed_427]; exact yK.i yK.rf (by decide)) 0 (by decide))
                                  have hE1d_427 : (d_427.1 h0 1).toInt = (d_416.1 h0 1).toInt := congrArg Int32.toInt ((show yK [63] d_416 d_427 h0 from by rw [ed_427]; exact yK.i yK.rf (by decide)) 1 (by decide))
                                  have hE2d_427 : (d_427.1 h0 2).toInt = (d_416.1 h0 2).toInt := congrArg Int32.toInt ((show yK [63] d_416 d_427 h0 from by rw [ed_427]; exact yK.i yK.rf (by decide)) 2 (by decide))
                                  have hE3d_427 : (d_427.1 h0 3).toInt = (d_416.1 h0 3).toInt := congrArg Int32.toInt ((show yK [63] d_416 d_427 h0 from by rw [ed_427]; exact yK.i yK.rf (by decide)) 3 (by decide))
                                  have hE63d_427 : (d_427.1 h0 63).toInt = (z_426 : Int32).toInt := by rw [ed_427, yi_self]
                                  refine lv_aload_n hx hb dX9_step_487 rfl (lv_at hl 0 rfl) ?_
                                  refine lv_iconst (v := 0) hx hb dX9_step_488 (by decide) ?_
                                  refine yputI (ci := 9) (k := 64) (ty := .int) (C := RX9) (T := TX9) (N := 67) C0 hK hP hD hS hm_h0 hk_h0 (by decide) rfl inlX9 tyX9 tyX9_ok nmX9 (by decide) mW867 (fun _ h9 => h9) rfl (by decide +kernel) rfl rfl (Nat.le_of_ble_eq_true rfl) ysi_9_64 dX9_step_489 (fun H locs hP hD hS => ?_)
                                  obtain ⟨d_432, ed_432⟩ : ∃ z : yD, z = yi d_427 h0 64 0 := ⟨_, rfl⟩
                                  rw [← ed_432] at hP hD
                                  have hgd_432 : yAg S [9, 77, 78] d d_432 := by rw [ed_432]; exact yAg.i hgd_427 (by rw [hk_h0]; decide)
                                  have hsd_432 : yAg S [9] d_427 d_432 := by rw [ed_432]; exact yAg.i yAg.rf (by rw [hk_h0]; decide)
                                  have hPod_432 : yPo S d_432 := by rw [ed_432]; exact yPo.i hPod_427 hk_h0 (Or.inl rfl)
                                  have hfd_432 : yK [54, 55, 57, 63, 64, 65] d d_432 h0 := by rw [ed_432]; exact yK.i hfd_427 (by decide)
                                  have hId_432 : yMI S d_432 h0 := yMI.ag hId_427 hSh hm_h0 hk_h0 (show yAg S [9] d_427 d_432 from by rw [ed_432]; exact yAg.i yAg.rf (by rw [hk_h0]; decide)) (show yK [64] d_427 d_432 h0 from by rw [ed_432]; exact yK.i yK.rf (by decide)) (by decide) (by decide)
                                  have hE0d_432 : (d_432.1 h0 0).toInt = (d_427.1 h0 0).toInt := congrArg Int32.toInt ((show yK [64] d_427 d_432 h0 from by rw [ed_432]; exact yK.i yK.rf (by decide)) 0 (by decide))
                                  have hE1d_432 : (d_432.1 h0 1).toInt = (d_427.1 h0 1).toInt := congrArg Int32.toInt ((show yK [64] d_427 d_432 h0 from by rw [ed_432]; exact yK.i yK.rf (by decide)) 1 (by decide))
                                  have hE2d_432 : (d_432.1 h0 2).toInt = (d_427.1 h0 2).toInt := congrArg Int32.toInt ((show yK [64] d_427 d_432 h0 from by rw [ed_432]; exact yK.i yK.rf (by decide)) 2 (by decide))
                                  have hE3d_432 : (d_432.1 h0 3).toInt = (d_427.1 h0 3).toInt := congrArg Int32.toInt ((show yK [64] d_427 d_432 h0 from by rw [ed_432]; exact yK.i yK.rf (by decide)) 3 (by decide))
                                  have hE63d_432 : (d_432.1 h0 63).toInt = (d_427.1 h0 63).toInt := congrArg Int32.toInt ((show yK [64] d_427 d_432 h0 from by rw [ed_432]; exact yK.i yK.rf (by decide)) 63 (by decide))
                                  refine lv_goto (tgt := 507) hx hb dX9_step_492 (by decide) ?_
                                  exact W.vret hx hb hr (fun t ht hW => ⟨⟨d_432, rfl, ⟨hgd_432, (fun _ => hPod_432), hfd_432, hId_432⟩, by rw [ht]; exact hP, hD⟩, hS.F ht⟩) hS.2.2 dX9_step_507
                        refine lv_icmp_ne (tgt := 414) hx hb dX9_step_401 (by decide) (fun c_433 => ?_) (fun c_433 => ?_)
                        · exact J414_373 d_372 _ _ ls _ ⟨rfl, hP, hD, hS, hgd_372, hPod_372, hfd_372, hId_372, yAg.rf, yK.rf, lv_sub hl [0, 1, 2] rfl⟩
                        · refine lv_aload_n hx hb dX9_step_404 rfl (lv_at hl 0 rfl) ?_
                          refine lv_dup hx hb dX9_step_405 rfl ?_
                          refine yget (ci := 9) (k := 57) (v := .int (d_372.1 h0 57)) (C := RX9) (T := TX9) (N := 67) C0 hK hP hm_h0 hk_h0 (by decide) rfl inlX9 (by decide) mW880 (fun _ h9 => h9) rfl dX9_step_406 ?_
                          refine lv_topi (fun z_434 ez_434 => ?_)
                          refine lv_iconst (v := 1) hx hb dX9_step_409 (by decide) ?_
                          refine lv_iadd hx hb dX9_step_410 ?_
                          refine lv_topi (fun z_435 ez_435 => ?_)
                          refine yputI (ci := 9) (k := 57) (ty := .int) (C := RX9) (T := TX9) (N := 67) C0 hK hP hD hS hm_h0 hk_h0 (by decide) rfl inlX9 tyX9 tyX9_ok nmX9 (by decide) mW880 (fun _ h9 => h9) rfl (by decide +kernel) rfl rfl (Nat.le_of_ble_eq_true rfl) ysi_9_57 dX9_step_411 (fun H locs hP hD hS => ?_)
                          obtain ⟨d_436, ed_436⟩ : ∃ z : yD, z = yi d_372 h0 57 z_435 := ⟨_, rfl⟩
                          rw [← ed_436] at hP hD
                          have hgd_436 : yAg S [9, 77, 78] d d_436 := by rw [ed_436]; exact yAg.i hgd_372 (by rw [hk_h0]; decide)
                          have hsd_436 : yAg S [9] d_372 d_436 := by rw [ed_436]; exact yAg.i yAg.rf (by rw [hk_h0]; decide)
                          have hPod_436 : yPo S d_436 := by rw [ed_436]; exact yPo.i hPod_372 hk_h0 (Or.inl rfl)
                          have hfd_436 : yK [54, 55, 57, 63, 64, 65] d d_436 h0 := by rw [ed_436]; exact yK.i hfd_372 (by decide)
                          have hL0d_436 : yAg S [9] d_372 d_436 := by rw [ed_436]; exact yAg.i yAg.rf (by rw [hk_h0]; decide)
                          have hK0d_436 : yK [57] d_372 d_436 h0 := by rw [ed_436]; exact yK.i yK.rf (by decide)
                          have hId_436 : yMI S d_436 h0 := yMI.ag hId_372 hSh hm_h0 hk_h0 (show yAg S [9] d_372 d_436 from by rw [ed_436]; exact yAg.i yAg.rf (by rw [hk_h0]; decide)) (show yK [57] d_372 d_436 h0 from by rw [ed_436]; exact yK.i yK.rf (by decide)) (by decide) (by decide)
                          have hE0d_436 : (d_436.1 h0 0).toInt = (d_372.1 h0 0).toInt := congrArg Int32.toInt ((show yK [57] d_372 d_436 h0 from by rw [ed_436]; exact yK.i yK.rf (by decide)) 0 (by decide))
                          have hE1d_436 : (d_436.1 h0 1).toInt = (d_372.1 h0 1).toInt := congrArg Int32.toInt ((show yK [57] d_372 d_436 h0 from by rw [ed_436]; exact yK.i yK.rf (by decide)) 1 (by decide))
                          have hE2d_436 : (d_436.1 h0 2).toInt = (d_372.1 h0 2).toInt := congrArg Int32.toInt ((show yK [57] d_372 d_436 h0 from by rw [ed_436]; exact yK.i yK.rf (by decide)) 2 (by decide))
                          have hE3d_436 : (d_436.1 h0 3).toInt = (d_372.1 h0 3).toInt := congrArg Int32.toInt ((show yK [57] d_372 d_436 h0 from by rw [ed_436]; exact yK.i yK.rf (by decide)) 3 (by decide))
                          have hE63d_436 : (d_436.1 h0 63).toInt = (d_372.1 h0 63).toInt := congrArg Int32.toInt ((show yK [57] d_372 d_436 h0 from by rw [ed_436]; exact yK.i yK.rf (by decide)) 63 (by decide))
                          exact J414_373 d_436 _ _ ls _ ⟨rfl, hP, hD, hS, hgd_436, hPod_436, hfd_436, hId_436, hL0d_436, hK0d_436, lv_sub hl [0, 1, 2] rfl⟩
                      refine lv_icmp_lt (tgt := 395) hx hb dX9_step_372 (by decide) (fun c_437 => ?_) (fun c_437 => ?_)
                      · exact J395_371 d_370 _ _ ls _ ⟨rfl, hP, hD, hS, hgd_370, hPod_370, hfd_370, hId_370, yAg.rf, yK.rf, lv_sub hl [0, 1, 2] rfl⟩
                      · refine lv_iload_n hx hb dX9_step_375 rfl (lv_at hl 1 rfl) ?_
                        refine lv_aload_n hx hb dX9_step_376 rfl (lv_at hl 0 rfl) ?_
                        refine yget (ci := 9) (k := 52) (v := .int (d_370.1 h0 52)) (C := RX9) (T := TX9) (N := 67) C0 hK hP hm_h0 hk_h0 (by decide) rfl inlX9 (by decide) mW864 (fun _ h9 => h9) rfl dX9_step_377 ?_
                        refine lv_topi (fun z_438 ez_438 => ?_)
                        refine lv_icmp_ge (tgt := 395) hx hb dX9_step_380 (by decide) (fun c_439 => ?_) (fun c_439 => ?_)
                        · exact J395_371 d_370 _ _ ls _ ⟨rfl, hP, hD, hS, hgd_370, hPod_370, hfd_370, hId_370, yAg.rf, yK.rf, lv_sub hl [0, 1, 2] rfl⟩
                        · refine lv_aload_n hx hb dX9_step_383 rfl (lv_at hl 0 rfl) ?_
                          refine lv_dup hx hb dX9_step_384 rfl ?_
                          refine yget (ci := 9) (k := 56) (v := .long (d_370.2.1 h0 56)) (C := RX9) (T := TX9) (N := 67) C0 hK hP hm_h0 hk_h0 (by decide) rfl inlX9 (by decide) mW879 (fun _ h9 => h9) rfl dX9_step_385 ?_
                          refine lv_topl (fun z_440 ez_440 => ?_)
                          refine lv_iload hx hb dX9_step_388 (lv_at hl 3 rfl) ?_
                          refine lv_i2l hx hb dX9_step_390 rfl ?_
                          rw [← ez_357]
                          refine lv_ladd hx hb dX9_step_391 ?_
                          refine lv_topl (fun z_441 ez_441 => ?_)
                          refine yputJ (ci := 9) (k := 56) (C := RX9) (T := TX9) (N := 67) C0 hK hP hD hS hm_h0 hk_h0 (by decide) rfl inlX9 tyX9 tyX9_ok nmX9 (by decide) mW879 (fun _ h9 => h9) rfl (by decide +kernel) (Nat.le_of_ble_eq_true rfl) ysj_9_56 dX9_step_392 (fun H locs hP hD hS => ?_)
                          obtain ⟨d_442, ed_442⟩ : ∃ z : yD, z = yj d_370 h0 56 z_441 := ⟨_, rfl⟩
                          rw [← ed_442] at hP hD
                          have hgd_442 : yAg S [9, 77, 78] d d_442 := by rw [ed_442]; exact yAg.j hgd_370 (by rw [hk_h0]; decide)
                          have hsd_442 : yAg S [9] d_370 d_442 := by rw [ed_442]; exact yAg.j yAg.rf (by rw [hk_h0]; decide)
                          have hPod_442 : yPo S d_442 := by rw [ed_442]; exact hPod_370
                          have hfd_442 : yK [54, 55, 57, 63, 64, 65] d d_442 h0 := yK.ag hfd_370 (show yAg S [9] d_370 d_442 from by rw [ed_442]; exact yAg.j yAg.rf (by rw [hk_h0]; decide)) (by rw [hk_h0]; decide)
                          have hL0d_442 : yAg S [9] d_370 d_442 := by rw [ed_442]; exact yAg.j yAg.rf (by rw [hk_h0]; decide)
                          have hK0d_442 : yK [] d_370 d_442 h0 := yK.ag yK.rf (show yAg S [9] d_370 d_442 from by rw [ed_442]; exact yAg.j yAg.rf (by rw [hk_h0]; decide)) (by rw [hk_h0]; decide)
                          have hId_442 : yMI S d_442 h0 := yMI.ag hId_370 hSh hm_h0 hk_h0 (show yAg S [9] d_370 d_442 from by rw [ed_442]; exact yAg.j yAg.rf (by rw [hk_h0]; decide)) (yK.ag (F := []) yK.rf (show yAg S [9] d_370 d_442 from by rw [ed_442]; exact yAg.j yAg.rf (by rw [hk_h0]; decide)) (by rw [hk_h0]; decide)) (by decide) (by decide)
                          have hE0d_442 : (d_442.1 h0 0).toInt = (d_370.1 h0 0).toInt := congrArg Int32.toInt ((yK.ag (F := []) yK.rf (show yAg S [9] d_370 d_442 from by rw [ed_442]; exact yAg.j yAg.rf (by rw [hk_h0]; decide)) (by rw [hk_h0]; decide)) 0 (by decide))
                          have hE1d_442 : (d_442.1 h0 1).toInt = (d_370.1 h0 1).toInt := congrArg Int32.toInt ((yK.ag (F := []) yK.rf (show yAg S [9] d_370 d_442 from by rw [ed_442]; exact yAg.j yAg.rf (by rw [hk_h0]; decide)) (by rw [hk_h0]; decide)) 1 (by decide))
                          have hE2d_442 : (d_442.1 h0 2).toInt = (d_370.1 h0 2).toInt := congrArg Int32.toInt ((yK.ag (F := []) yK.rf (show yAg S [9] d_370 d_442 from by rw [ed_442]; exact yAg.j yAg.rf (by rw [hk_h0]; decide)) (by rw [hk_h0]; decide)) 2 (by decide))
                          have hE3d_442 : (d_442.1 h0 3).toInt = (d_370.1 h0 3).toInt := congrArg Int32.toInt ((yK.ag (F := []) yK.rf (show yAg S [9] d_370 d_442 from by rw [ed_442]; exact yAg.j yAg.rf (by rw [hk_h0]; decide)) (by rw [hk_h0]; decide)) 3 (by decide))
                          have hE63d_442 : (d_442.1 h0 63).toInt = (d_370.1 h0 63).toInt := congrArg Int32.toInt ((yK.ag (F := []) yK.rf (show yAg S [9] d_370 d_442 from by rw [ed_442]; exact yAg.j yAg.rf (by rw [hk_h0]; decide)) (by rw [hk_h0]; decide)) 63 (by decide))
                          exact J395_371 d_442 _ _ ls _ ⟨rfl, hP, hD, hS, hgd_442, hPod_442, hfd_442, hId_442, hL0d_442, hK0d_442, lv_sub hl [0, 1, 2] rfl⟩
                    refine lv_icmp_ne (tgt := 367) hx hb dX9_step_341 (by decide) (fun c_443 => ?_) (fun c_443 => ?_)
                    · exact J367_369 d_368 _ _ ls _ ⟨rfl, hP, hD, hS, hgd_368, hPod_368, hfd_368, hId_368, yAg.rf, yK.rf, lv_sub hl [0, 2, 3, 4] rfl⟩
                    · refine lv_aload_n hx hb dX9_step_344 rfl (lv_at hl 0 rfl) ?_
                      refine lv_iload hx hb dX9_step_345 (lv_at hl 3 rfl) ?_
                      refine yputI (ci := 9) (k := 54) (ty := .int) (C := RX9) (T := TX9) (N := 67) C0 hK hP hD hS hm_h0 hk_h0 (by decide) rfl inlX9 tyX9 tyX9_ok nmX9 (by decide) mW878 (fun _ h9 => h9) rfl (by decide +kernel) rfl rfl (Nat.le_of_ble_eq_true rfl) ysi_9_54 dX9_step_347 (fun H locs hP hD hS => ?_)
                      obtain ⟨d_444, ed_444⟩ : ∃ z : yD, z = yi d_368 h0 54 v_351 := ⟨_, rfl⟩
                      rw [← ed_444] at hP hD
                      have hgd_444 : yAg S [9, 77, 78] d d_444 := by rw [ed_444]; exact yAg.i hgd_368 (by rw [hk_h0]; decide)
                      have hsd_444 : yAg S [9] d_368 d_444 := by rw [ed_444]; exact yAg.i yAg.rf (by rw [hk_h0]; decide)
                      have hPod_444 : yPo S d_444 := by rw [ed_444]; exact yPo.i hPod_368 hk_h0 (Or.inl rfl)
                      have hfd_444 : yK [54, 55, 57, 63, 64, 65] d d_444 h0 := by rw [ed_444]; exact yK.i hfd_368 (by decide)
                      have hL0d_444 : yAg S [9] d_368 d_444 := by rw [ed_444]; exact yAg.i yAg.rf (by rw [hk_h0]; decide)
                      have hK0d_444 : yK [54, 55] d_368 d_444 h0 := by rw [ed_444]; exact yK.i yK.rf (by decide)
                      have hId_444 : yMI S d_444 h0 := yMI.ag hId_368 hSh hm_h0 hk_h0 (show yAg S [9] d_368 d_444 from by rw [ed_444]; exact yAg.i yAg.rf (by rw [hk_h0]; decide)) (show yK [54] d_368 d_444 h0 from by rw [ed_444]; exact yK.i yK.rf (by decide)) (by decide) (by decide)
                      have hE0d_444 : (d_444.1 h0 0).toInt = (d_368.1 h0 0).toInt := congrArg Int32.toInt ((show yK [54] d_368 d_444 h0 from by rw [ed_444]; exact yK.i yK.rf (by decide)) 0 (by decide))
                      have hE1d_444 : (d_444.1 h0 1).toInt = (d_368.1 h0 1).toInt := congrArg Int32.toInt ((show yK [54] d_368 d_444 h0 from by rw [ed_444]; exact yK.i yK.rf (by decide)) 1 (by decide))
                      have hE2d_444 : (d_444.1 h0 2).toInt = (d_368.1 h0 2).toInt := congrArg Int32.toInt ((show yK [54] d_368 d_444 h0 from by rw [ed_444]; exact yK.i yK.rf (by decide)) 2 (by decide))
                      have hE3d_444 : (d_444.1 h0 3).toInt = (d_368.1 h0 3).toInt := congrArg Int32.toInt ((show yK [54] d_368 d_444 h0 from by rw [ed_444]; exact yK.i yK.rf (by decide)) 3 (by decide))
                      have hE63d_444 : (d_444.1 h0 63).toInt = (d_368.1 h0 63).toInt := congrArg Int32.toInt ((show yK [54] d_368 d_444 h0 from by rw [ed_444]; exact yK.i yK.rf (by decide)) 63 (by decide))
                      refine lv_aload_n hx hb dX9_step_350 rfl (lv_at hl 0 rfl) ?_
                      refine lv_iload hx hb dX9_step_351 (lv_at hl 3 rfl) ?_
                      refine lv_bipush (v := (-3)) hx hb dX9_step_353 (by decide) ?_
                      refine lv_icmp_ne (tgt := 362) hx hb dX9_step_355 (by decide) (fun c_445 => ?_) (fun c_445 => ?_)
                      · refine lv_iload hx hb dX9_step_362 (lv_at hl 4 rfl) ?_
                        refine yputI (ci := 9) (k := 55) (ty := .int) (C := RX9) (T := TX9) (N := 67) C0 hK hP hD hS hm_h0 hk_h0 (by decide) rfl inlX9 tyX9 tyX9_ok nmX9 (by decide) mW856 (fun _ h9 => h9) rfl (by decide +kernel) rfl rfl (Nat.le_of_ble_eq_true rfl) ysi_9_55 dX9_step_364 (fun H locs hP hD hS => ?_)
                        obtain ⟨d_446, ed_446⟩ : ∃ z : yD, z = yi d_444 h0 55 v_352 := ⟨_, rfl⟩
                        rw [← ed_446] at hP hD
                        have hgd_446 : yAg S [9, 77, 78] d d_446 := by rw [ed_446]; exact yAg.i hgd_444 (by rw [hk_h0]; decide)
                        have hsd_446 : yAg S [9] d_444 d_446 := by rw [ed_446]; exact yAg.i yAg.rf (by rw [hk_h0]; decide)
                        have hPod_446 : yPo S d_446 := by rw [ed_446]; exact yPo.i hPod_444 hk_h0 (Or.inl rfl)
                        have hfd_446 : yK [54, 55, 57, 63, 64, 65] d d_446 h0 := by rw [ed_446]; exact yK.i hfd_444 (by decide)
                        have hL0d_446 : yAg S [9] d_368 d_446 := by rw [ed_446]; exact yAg.i hL0d_444 (by rw [hk_h0]; decide)
                        have hK0d_446 : yK [54, 55] d_368 d_446 h0 := by rw [ed_446]; exact yK.i hK0d_444 (by decide)
                        have hId_446 : yMI S d_446 h0 := yMI.ag hId_444 hSh hm_h0 hk_h0 (show yAg S [9] d_444 d_446 from by rw [ed_446]; exact yAg.i yAg.rf (by rw [hk_h0]; decide)) (show yK [55] d_444 d_446 h0 from by rw [ed_446]; exact yK.i yK.rf (by decide)) (by decide) (by decide)
                        have hE0d_446 : (d_446.1 h0 0).toInt = (d_444.1 h0 0).toInt := congrArg Int32.toInt ((show yK [55] d_444 d_446 h0 from by rw [ed_446]; exact yK.i yK.rf (by decide)) 0 (by decide))
                        have hE1d_446 : (d_446.1 h0 1).toInt = (d_444.1 h0 1).toInt := congrArg Int32.toInt ((show yK [55] d_444 d_446 h0 from by rw [ed_446]; exact yK.i yK.rf (by decide)) 1 (by decide))
                        have hE2d_446 : (d_446.1 h0 2).toInt = (d_444.1 h0 2).toInt := congrArg Int32.toInt ((show yK [55] d_444 d_446 h0 from by rw [ed_446]; exact yK.i yK.rf (by decide)) 2 (by decide))
                        have hE3d_446 : (d_446.1 h0 3).toInt = (d_444.1 h0 3).toInt := congrArg Int32.toInt ((show yK [55] d_444 d_446 h0 from by rw [ed_446]; exact yK.i yK.rf (by decide)) 3 (by decide))
                        have hE63d_446 : (d_446.1 h0 63).toInt = (d_444.1 h0 63).toInt := congrArg Int32.toInt ((show yK [55] d_444 d_446 h0 from by rw [ed_446]; exact yK.i yK.rf (by decide)) 63 (by decide))
                        exact J367_369 d_446 _ _ ls _ ⟨rfl, hP, hD, hS, hgd_446, hPod_446, hfd_446, hId_446, hL0d_446, hK0d_446, lv_sub hl [0, 2, 3, 4] rfl⟩
                      · refine lv_iconst (v := 3) hx hb dX9_step_358 (by decide) ?_
                        refine lv_goto (tgt := 364) hx hb dX9_step_359 (by decide) ?_
                        refine yputI (ci := 9) (k := 55) (ty := .int) (C := RX9) (T := TX9) (N := 67) C0 hK hP hD hS hm_h0 hk_h0 (by decide) rfl inlX9 tyX9 tyX9_ok nmX9 (by decide) mW856 (fun _ h9 => h9) rfl (by decide +kernel) rfl rfl (Nat.le_of_ble_eq_true rfl) ysi_9_55 dX9_step_364 (fun H locs hP hD hS => ?_)
                        obtain ⟨d_447, ed_447⟩ : ∃ z : yD, z = yi d_444 h0 55 3 := ⟨_, rfl⟩
                        rw [← ed_447] at hP hD
                        have hgd_447 : yAg S [9, 77, 78] d d_447 := by rw [ed_447]; exact yAg.i hgd_444 (by rw [hk_h0]; decide)
                        have hsd_447 : yAg S [9] d_444 d_447 := by rw [ed_447]; exact yAg.i yAg.rf (by rw [hk_h0]; decide)
                        have hPod_447 : yPo S d_447 := by rw [ed_447]; exact yPo.i hPod_444 hk_h0 (Or.inl rfl)
                        have hfd_447 : yK [54, 55, 57, 63, 64, 65] d d_447 h0 := by rw [ed_447]; exact yK.i hfd_444 (by decide)
                        have hL0d_447 : yAg S [9] d_368 d_447 := by rw [ed_447]; exact yAg.i hL0d_444 (by rw [hk_h0]; decide)
                        have hK0d_447 : yK [54, 55] d_368 d_447 h0 := by rw [ed_447]; exact yK.i hK0d_444 (by decide)
                        have hId_447 : yMI S d_447 h0 := yMI.ag hId_444 hSh hm_h0 hk_h0 (show yAg S [9] d_444 d_447 from by rw [ed_447]; exact yAg.i yAg.rf (by rw [hk_h0]; decide)) (show yK [55] d_444 d_447 h0 from by rw [ed_447]; exact yK.i yK.rf (by decide)) (by decide) (by decide)
                        have hE0d_447 : (d_447.1 h0 0).toInt = (d_444.1 h0 0).toInt := congrArg Int32.toInt ((show yK [55] d_444 d_447 h0 from by rw [ed_447]; exact yK.i yK.rf (by decide)) 0 (by decide))
                        have hE1d_447 : (d_447.1 h0 1).toInt = (d_444.1 h0 1).toInt := congrArg Int32.toInt ((show yK [55] d_444 d_447 h0 from by rw [ed_447]; exact yK.i yK.rf (by decide)) 1 (by decide))
                        have hE2d_447 : (d_447.1 h0 2).toInt = (d_444.1 h0 2).toInt := congrArg Int32.toInt ((show yK [55] d_444 d_447 h0 from by rw [ed_447]; exact yK.i yK.rf (by decide)) 2 (by decide))
                        have hE3d_447 : (d_447.1 h0 3).toInt = (d_444.1 h0 3).toInt := congrArg Int32.toInt ((show yK [55] d_444 d_447 h0 from by rw [ed_447]; exact yK.i yK.rf (by decide)) 3 (by decide))
                        have hE63d_447 : (d_447.1 h0 63).toInt = (d_444.1 h0 63).toInt := congrArg Int32.toInt ((show yK [55] d_444 d_447 h0 from by rw [ed_447]; exact yK.i yK.rf (by decide)) 63 (by decide))
                        exact J367_369 d_447 _ _ ls _ ⟨rfl, hP, hD, hS, hgd_447, hPod_447, hfd_447, hId_447, hL0d_447, hK0d_447, lv_sub hl [0, 2, 3, 4] rfl⟩
                  · exact W.vret hx hb hr (fun t ht hW => ⟨⟨d_363, rfl, ⟨hgd_363, (fun _ => hPod_363), hfd_363, hId_363⟩, by rw [ht]; exact hP, hD⟩, hS.F ht⟩) hS.2.2 dX9_step_323
                refine lv_if_eq (tgt := 315) hx hb dX9_step_295 (by decide) (fun c_448 => ?_) (fun c_448 => ?_)
                · exact J315_362 d_362 _ _ ls _ ⟨rfl, hP, hD, hS, hgd_362, hPod_362, hfd_362, hId_362, yAg.rf, yK.rf, lv_sub hl [1, 2, 3, 5, 6] rfl⟩
                · refine lv_aload_n hx hb dX9_step_298 rfl (lv_at hl 1 rfl) ?_
                  refine yget (ci := 9) (k := 58) (v := .long (d_362.2.1 h0 58)) (C := RX9) (T := TX9) (N := 67) C0 hK hP hm_h0 hk_h0 (by decide) rfl inlX9 (by decide) mW873 (fun _ h9 => h9) rfl dX9_step_299 ?_
                  refine lv_topl (fun z_449 ez_449 => ?_)
                  refine lv_aload_n hx hb dX9_step_302 rfl (lv_at hl 1 rfl) ?_
                  refine yget (ci := 9) (k := 59) (v := .long (d_362.2.1 h0 59)) (C := RX9) (T := TX9) (N := 67) C0 hK hP hm_h0 hk_h0 (by decide) rfl inlX9 (by decide) mW874 (fun _ h9 => h9) rfl dX9_step_303 ?_
                  refine lv_topl (fun z_450 ez_450 => ?_)
                  refine W.lcmp hx hb dX9_step_306 ?_
                  refine lv_topi (fun z_451 ez_451 => ?_)
                  refine lv_if_lt (tgt := 315) hx hb dX9_step_307 (by decide) (fun c_452 => ?_) (fun c_452 => ?_)
                  · exact J315_362 d_362 _ _ ls _ ⟨rfl, hP, hD, hS, hgd_362, hPod_362, hfd_362, hId_362, yAg.rf, yK.rf, lv_sub hl [1, 2, 3, 5, 6] rfl⟩
                  · refine lv_aload_n hx hb dX9_step_310 rfl (lv_at hl 1 rfl) ?_
                    refine lv_lload_n hx hb dX9_step_311 rfl (lv_at hl 4 rfl) ?_
                    refine yputJ (ci := 9) (k := 61) (C := RX9) (T := TX9) (N := 67) C0 hK hP hD hS hm_h0 hk_h0 (by decide) rfl inlX9 tyX9 tyX9_ok nmX9 (by decide) mW876 (fun _ h9 => h9) rfl (by decide +kernel) (Nat.le_of_ble_eq_true rfl) ysj_9_61 dX9_step_312 (fun H locs hP hD hS => ?_)
                    obtain ⟨d_453, ed_453⟩ : ∃ z : yD, z = yj d_362 h0 61 p2 := ⟨_, rfl⟩
                    rw [← ed_453] at hP hD
                    have hgd_453 : yAg S [9, 77, 78] d d_453 := by rw [ed_453]; exact yAg.j hgd_362 (by rw [hk_h0]; decide)
                    have hsd_453 : yAg S [9] d_362 d_453 := by rw [ed_453]; exact yAg.j yAg.rf (by rw [hk_h0]; decide)
                    have hPod_453 : yPo S d_453 := by rw [ed_453]; exact hPod_362
                    have hfd_453 : yK [54, 55, 57, 63, 64, 65] d d_453 h0 := yK.ag hfd_362 (show yAg S [9] d_362 d_453 from by rw [ed_453]; exact yAg.j yAg.rf (by rw [hk_h0]; decide)) (by rw [hk_h0]; decide)
                    have hL1d_453 : yAg S [9] d_362 d_453 := by rw [ed_453]; exact yAg.j yAg.rf (by rw [hk_h0]; decide)
                    have hK1d_453 : yK [] d_362 d_453 h0 := yK.ag yK.rf (show yAg S [9] d_362 d_453 from by rw [ed_453]; exact yAg.j yAg.rf (by rw [hk_h0]; decide)) (by rw [hk_h0]; decide)
                    have hId_453 : yMI S d_453 h0 := yMI.ag hId_362 hSh hm_h0 hk_h0 (show yAg S [9] d_362 d_453 from by rw [ed_453]; exact yAg.j yAg.rf (by rw [hk_h0]; decide)) (yK.ag (F := []) yK.rf (show yAg S [9] d_362 d_453 from by rw [ed_453]; exact yAg.j yAg.rf (by rw [hk_h0]; decide)) (by rw [hk_h0]; decide)) (by decide) (by decide)
                    have hE0d_453 : (d_453.1 h0 0).toInt = (d_362.1 h0 0).toInt := congrArg Int32.toInt ((yK.ag (F := []) yK.rf (show yAg S [9] d_362 d_453 from by rw [ed_453]; exact yAg.j yAg.rf (by rw [hk_h0]; decide)) (by rw [hk_h0]; decide)) 0 (by decide))
                    have hE1d_453 : (d_453.1 h0 1).toInt = (d_362.1 h0 1).toInt := congrArg Int32.toInt ((yK.ag (F := []) yK.rf (show yAg S [9] d_362 d_453 from by rw [ed_453]; exact yAg.j yAg.rf (by rw [hk_h0]; decide)) (by rw [hk_h0]; decide)) 1 (by decide))
                    have hE2d_453 : (d_453.1 h0 2).toInt = (d_362.1 h0 2).toInt := congrArg Int32.toInt ((yK.ag (F := []) yK.rf (show yAg S [9] d_362 d_453 from by rw [ed_453]; exact yAg.j yAg.rf (by rw [hk_h0]; decide)) (by rw [hk_h0]; decide)) 2 (by decide))
                    have hE3d_453 : (d_453.1 h0 3).toInt = (d_362.1 h0 3).toInt := congrArg Int32.toInt ((yK.ag (F := []) yK.rf (show yAg S [9] d_362 d_453 from by rw [ed_453]; exact yAg.j yAg.rf (by rw [hk_h0]; decide)) (by rw [hk_h0]; decide)) 3 (by decide))
                    have hE63d_453 : (d_453.1 h0 63).toInt = (d_362.1 h0 63).toInt := congrArg Int32.toInt ((yK.ag (F := []) yK.rf (show yAg S [9] d_362 d_453 from by rw [ed_453]; exact yAg.j yAg.rf (by rw [hk_h0]; decide)) (by rw [hk_h0]; decide)) 63 (by decide))
                    exact J315_362 d_453 _ _ ls _ ⟨rfl, hP, hD, hS, hgd_453, hPod_453, hfd_453, hId_453, hL1d_453, hK1d_453, lv_sub hl [1, 2, 3, 5, 6] rfl⟩
              refine lv_if_ge (tgt := 268) hx hb dX9_step_261 (by decide) (fun c_454 => ?_) (fun c_454 => ?_)
              · refine lv_iconst (v := 0) hx hb dX9_step_268 (by decide) ?_
                exact J269_356 0 ls _ ⟨rfl, lv_sub hl [0, 1, 2, 3, 4, 5] rfl, Or.inl rfl⟩
              · refine lv_iconst (v := 1) hx hb dX9_step_264 (by decide) ?_
                refine lv_goto (tgt := 269) hx hb dX9_step_265 (by decide) ?_
                exact J269_356 1 ls _ ⟨rfl, lv_sub hl [0, 1, 2, 3, 4, 5] rfl, Or.inr rfl⟩
            refine lv_if_eq (tgt := 252) hx hb dX9_step_150 (by decide) (fun c_455 => ?_) (fun c_455 => ?_)
            · exact J252_352 ((-3), v_347) ls _ ⟨rfl, lv_sub hl [2, 3, 4, 5, 1, 0] rfl⟩
            · refine lv_aload_n hx hb dX9_step_153 rfl (lv_at hl 2 rfl) ?_
              refine lv_iload_n hx hb dX9_step_154 rfl (lv_at hl 3 rfl) ?_
              refine lv_iload_n hx hb dX9_step_155 rfl (lv_at hl 4 rfl) ?_
              refine lv_aload_n hx hb dX9_step_156 rfl (lv_at hl 2 rfl) ?_
              refine yget (ci := 9) (k := 47) (v := .ref (S.2.2.1 h0 47)) (C := RX9) (T := TX9) (N := 67) C0 hK hP hm_h0 hk_h0 (by decide) rfl inlX9 (by decide) mW152 (fun _ h9 => h9) rfl dX9_step_157 ?_
              obtain ⟨hmy_456, hky_456⟩ := ySh.f9_47 hSh _ hm_h0 hk_h0
              refine lv_iload_n hx hb dX9_step_160 rfl (lv_at hl 3 rfl) ?_
              have F_457 := fne (rfl : (r_350 : Int32).toInt = (r_350 : Int32).toInt) (by decide +kernel : (0 : Int32).toInt = 0) c_455
              refine yald C0 hK hP hmy_456 hky_456 (by decide) rfl 0 rfl (xinT 8 rfl (by omega) (by omega)) dX9_step_161 ?_
              refine lv_topi (fun z_458 ez_458 => ?_)
              refine lv_aload_n hx hb dX9_step_162 rfl (lv_at hl 2 rfl) ?_
              refine yget (ci := 9) (k := 58) (v := .long (d_2.2.1 h0 58)) (C := RX9) (T := TX9) (N := 67) C0 hK hP hm_h0 hk_h0 (by decide) rfl inlX9 (by decide) mW873 (fun _ h9 => h9) rfl dX9_step_163 ?_
              refine lv_topl (fun z_459 ez_459 => ?_)
              refine lv_aload_n hx hb dX9_step_166 rfl (lv_at hl 2 rfl) ?_
              refine yget (ci := 9) (k := 59) (v := .long (d_2.2.1 h0 59)) (C := RX9) (T := TX9) (N := 67) C0 hK hP hm_h0 hk_h0 (by decide) rfl inlX9 (by decide) mW874 (fun _ h9 => h9) rfl dX9_step_167 ?_
              refine lv_topl (fun z_460 ez_460 => ?_)
              refine W.lcmp hx hb dX9_step_170 ?_
              refine lv_topi (fun z_461 ez_461 => ?_)
              refine yjoinR (σ := Int32) 179 (fun x ls st => st = [.int x, .int z_458, .int p1, .int p0, .ref h0] ∧ lv_has ls 12 [(0, .ref h0), (1, .int p0), (2, .int p1), (3, .long p2), (6, .int p4), (7, .int p5), (8, .int p6)] ∧ (x = 0 ∨ x = 1)) (fun x ls st hI => ?_) (fun J179_462 => ?_)
              · obtain ⟨v_462, rfl⟩ : ∃ z, z = x := ⟨_, rfl⟩
                obtain ⟨rfl, hl, hzv_462⟩ := hI
                have hl : lv_has ls 12 [(0, .ref h0), (1, .int p0), (2, .int p1), (3, .long p2), (6, .int p4), (7, .int p5), (8, .int p6)] := hl
                refine lv_iload hx hb dX9_step_179 (lv_at hl 4 rfl) ?_
                refine lv_iload hx hb dX9_step_181 (lv_at hl 5 rfl) ?_
                refine lv_iload hx hb dX9_step_183 (lv_at hl 6 rfl) ?_
                refine yVri (As := [.int p0, .int p1, .int z_458, .int v_462, .int p4, .int p5, .int p6]) (rest := []) C0 (g_X9_teller l G S d_2 h0 p0 p1 z_458 v_462 p4 p5 p6 hSh hm_h0 hk_h0 hId_2 (by refine ⟨?_, ?_⟩ <;> omega) (by refine ⟨?_, ?_⟩ <;> omega) (by refine ⟨?_, ?_⟩ <;> omega)) ok_X9_teller (mW889 : Cond.methodLink RX9 298 yX9_teller ∈ wsT) ⟨Nat.le_of_ble_eq_true rfl, Nat.le_of_ble_eq_true rfl⟩ hP hD hK hN hm_h0 hk_h0 (by decide) rfl rfl rfl hl.1 rfl (Nat.le_of_ble_eq_true rfl) ⟨Nat.le_of_ble_eq_true rfl, Nat.le_of_ble_eq_true rfl⟩ dX9_step_185 (fun r_463 hr_463 => ?_)
                refine lv_istore (lv' := [(9, .int r_463), (0, .ref h0), (1, .int p0), (2, .int p1), (3, .long p2), (6, .int p4), (7, .int p5), (8, .int p6)]) hx hb dX9_step_188 hl (by decide) rfl (fun ls hl => ?_)
                refine lv_aload_n hx hb dX9_step_190 rfl (lv_at hl 1 rfl) ?_
                refine lv_iload_n hx hb dX9_step_191 rfl (lv_at hl 2 rfl) ?_
                refine lv_iconst (v := 1) hx hb dX9_step_192 (by decide) ?_
                refine yVri (As := [.int p0, .int 1]) (rest := []) C0 (g_X9_of l G S d_2 h0 p0 1 hSh hm_h0 hk_h0 (by refine ⟨?_, ?_⟩ <;> omega) (by decide +kernel)) ok_X9_of (mW425 : Cond.methodLink RX9 161 yX9_of ∈ wsT) ⟨Nat.le_of_ble_eq_true rfl, Nat.le_of_ble_eq_true rfl⟩ hP hD hK hN hm_h0 hk_h0 (by decide) rfl rfl rfl hl.1 rfl (Nat.le_of_ble_eq_true rfl) ⟨Nat.le_of_ble_eq_true rfl, Nat.le_of_ble_eq_true rfl⟩ dX9_step_193 (fun r_464 hr_464 => ?_)
                have hOr_464 : (r_464 : Int32).toInt = yOf S d_2 h0 (p0 : Int32).toInt.toNat 1 := by rw [hr_464, show (1 : Int32).toInt.toNat = 1 by decide +kernel]; rfl
                have hbr_464 := xof1 hId_2 (p := p0) (by refine ⟨?_, ?_⟩ <;> omega) hr_464
                refine lv_iload hx hb dX9_step_196 (lv_at hl 7 rfl) ?_
                refine lv_icmp_ne (tgt := 213) hx hb dX9_step_198 (by decide) (fun c_465 => ?_) (fun c_465 => ?_)
                · refine lv_iload hx hb dX9_step_213 (lv_at hl 0 rfl) ?_
                  refine lv_istore (lv' := [(11, .int r_463), (9, .int r_463), (0, .ref h0), (1, .int p0), (2, .int p1), (3, .long p2), (6, .int p4), (7, .int p5), (8, .int p6)]) hx hb dX9_step_215 hl (by decide) rfl (fun ls hl => ?_)
                  refine lv_iload hx hb dX9_step_217 (lv_at hl 1 rfl) ?_
                  refine lv_bipush (v := (-2)) hx hb dX9_step_219 (by decide) ?_
                  refine lv_icmp_ne (tgt := 228) hx hb dX9_step_221 (by decide) (fun c_466 => ?_) (fun c_466 => ?_)
                  · refine lv_aload_n hx hb dX9_step_228 rfl (lv_at hl 2 rfl) ?_
                    refine lv_bipush (v := 60) hx hb dX9_step_229 (by decide) ?_
                    refine lv_aload_n hx hb dX9_step_231 rfl (lv_at hl 2 rfl) ?_
                    refine lv_iload_n hx hb dX9_step_232 rfl (lv_at hl 3 rfl) ?_
                    refine lv_iconst (v := 1) hx hb dX9_step_233 (by decide) ?_
                    have F_467 := fne (rfl : (r_464 : Int32).toInt = (r_464 : Int32).toInt) (rfl : (p6 : Int32).toInt = (p6 : Int32).toInt) c_465
                    have F_468 := fne (rfl : (r_463 : Int32).toInt = (r_463 : Int32).toInt) (by decide +kernel : ((-2) : Int32).toInt = (-2)) c_466
                    refine yVri (As := [.int p0, .int 1]) (rest := [.int 60, .ref h0]) C0 (g_X9_of l G S d_2 h0 p0 1 hSh hm_h0 hk_h0 (by refine ⟨?_, ?_⟩ <;> omega) (by decide +kernel)) ok_X9_of (mW425 : Cond.methodLink RX9 161 yX9_of ∈ wsT) ⟨Nat.le_of_ble_eq_true rfl, Nat.le_of_ble_eq_true rfl⟩ hP hD hK hN hm_h0 hk_h0 (by decide) rfl rfl rfl hl.1 rfl (Nat.le_of_ble_eq_true rfl) ⟨Nat.le_of_ble_eq_true rfl, Nat.le_of_ble_eq_true rfl⟩ dX9_step_234 (fun r_469 hr_469 => ?_)
                    have hOr_469 : (r_469 : Int32).toInt = yOf S d_2 h0 (p0 : Int32).toInt.toNat 1 := by rw [hr_469, show (1 : Int32).toInt.toNat = 1 by decide +kernel]; rfl
                    have hbr_469 := xof1 hId_2 (p := p0) (by refine ⟨?_, ?_⟩ <;> omega) hr_469
                    refine lv_imul hx hb dX9_step_237 ?_
                    refine lv_topi (fun z_470 ez_470 => ?_)
                    refine lv_iload hx hb dX9_step_238 (lv_at hl 0 rfl) ?_
                    refine lv_iadd hx hb dX9_step_240 ?_
                    refine lv_topi (fun z_471 ez_471 => ?_)
                    refine lv_aload_n hx hb dX9_step_241 rfl (lv_at hl 2 rfl) ?_
                    refine yget (ci := 9) (k := 47) (v := .ref (S.2.2.1 h0 47)) (C := RX9) (T := TX9) (N := 67) C0 hK hP hm_h0 hk_h0 (by decide) rfl inlX9 (by decide) mW152 (fun _ h9 => h9) rfl dX9_step_242 ?_
                    refine lv_iload_n hx hb dX9_step_245 rfl (lv_at hl 3 rfl) ?_
                    refine yald C0 hK hP hmy_456 hky_456 (by decide) rfl 0 rfl (xinT 8 rfl (by omega) (by omega)) dX9_step_246 ?_
                    rw [← ez_458]
                    have T_473 : (z_470 : Int32).toInt = 60 * (r_469 : Int32).toInt := tmul ez_470 (by decide +kernel : (60 : Int32).toInt = 60) (rfl : (r_469 : Int32).toInt = (r_469 : Int32).toInt) (by omega) (by omega)
                    have T_472 : (z_471 : Int32).toInt = (z_470 : Int32).toInt + (r_463 : Int32).toInt := tadd ez_471 (rfl : (z_470 : Int32).toInt = (z_470 : Int32).toInt) (rfl : (r_463 : Int32).toInt = (r_463 : Int32).toInt) (by omega) (by omega)
                    refine yVri (As := [.int z_471, .int z_458]) (rest := []) C0 (g_X9_adds l G S d_2 h0 z_471 z_458 hSh hm_h0 hk_h0 (by refine ⟨?_, ?_⟩ <;> omega)) ok_X9_adds (mW901 : Cond.methodLink RX9 302 yX9_adds ∈ wsT) ⟨Nat.le_of_ble_eq_true rfl, Nat.le_of_ble_eq_true rfl⟩ hP hD hK hN hm_h0 hk_h0 (by decide) rfl rfl rfl hl.1 rfl (Nat.le_of_ble_eq_true rfl) ⟨Nat.le_of_ble_eq_true rfl, Nat.le_of_ble_eq_true rfl⟩ dX9_step_247 (fun r_474 hr_474 => ?_)
                    refine lv_istore (lv' := [(10, .int r_474), (11, .int r_463), (9, .int r_463), (0, .ref h0), (1, .int p0), (2, .int p1), (3, .long p2), (6, .int p4), (7, .int p5), (8, .int p6)]) hx hb dX9_step_250 hl (by decide) rfl (fun ls hl => ?_)
                    exact J252_352 (r_463, r_474) ls _ ⟨rfl, lv_sub hl [3, 4, 5, 6, 2, 0] rfl⟩
                  · refine lv_iconst (v := 2) hx hb dX9_step_224 (by decide) ?_
                    refine lv_goto (tgt := 250) hx hb dX9_step_225 (by decide) ?_
                    refine lv_istore (lv' := [(10, .int 2), (11, .int r_463), (9, .int r_463), (0, .ref h0), (1, .int p0), (2, .int p1), (3, .long p2), (6, .int p4), (7, .int p5), (8, .int p6)]) hx hb dX9_step_250 hl (by decide) rfl (fun ls hl => ?_)
                    exact J252_352 (r_463, 2) ls _ ⟨rfl, lv_sub hl [3, 4, 5, 6, 2, 0] rfl⟩
                · refine lv_iload hx hb dX9_step_201 (lv_at hl 0 rfl) ?_
                  refine lv_iload hx hb dX9_step_203 (lv_at hl 5 rfl) ?_
                  refine lv_icmp_ne (tgt := 213) hx hb dX9_step_205 (by decide) (fun c_475 => ?_) (fun c_475 => ?_)
                  · refine lv_iload hx hb dX9_step_213 (lv_at hl 0 rfl) ?_
                    refine lv_istore (lv' := [(11, .int r_463), (9, .int r_463), (0, .ref h0), (1, .int p0), (2, .int p1), (3, .long p2), (6, .int p4), (7, .int p5), (8, .int p6)]) hx hb dX9_step_215 hl (by decide) rfl (fun ls hl => ?_)
                    refine lv_iload hx hb dX9_step_217 (lv_at hl 1 rfl) ?_
                    refine lv_bipush (v := (-2)) hx hb dX9_step_219 (by decide) ?_
                    refine lv_icmp_ne (tgt := 228) hx hb dX9_step_221 (by decide) (fun c_476 => ?_) (fun c_476 => ?_)
                    · refine lv_aload_n hx hb dX9_step_228 rfl (lv_at hl 2 rfl) ?_
                      refine lv_bipush (v := 60) hx hb dX9_step_229 (by decide) ?_
                      refine lv_aload_n hx hb dX9_step_231 rfl (lv_at hl 2 rfl) ?_
                      refine lv_iload_n hx hb dX9_step_232 rfl (lv_at hl 3 rfl) ?_
                      refine lv_iconst (v := 1) hx hb dX9_step_233 (by decide) ?_
                      have F_477 := feq (rfl : (r_464 : Int32).toInt = (r_464 : Int32).toInt) (rfl : (p6 : Int32).toInt = (p6 : Int32).toInt) c_465
                      have F_478 := fne (rfl : (r_463 : Int32).toInt = (r_463 : Int32).toInt) (rfl : (p4 : Int32).toInt = (p4 : Int32).toInt) c_475
                      have F_479 := fne (rfl : (r_463 : Int32).toInt = (r_463 : Int32).toInt) (by decide +kernel : ((-2) : Int32).toInt = (-2)) c_476
                      refine yVri (As := [.int p0, .int 1]) (rest := [.int 60, .ref h0]) C0 (g_X9_of l G S d_2 h0 p0 1 hSh hm_h0 hk_h0 (by refine ⟨?_, ?_⟩ <;> omega) (by decide +kernel)) ok_X9_of (mW425 : Cond.methodLink RX9 161 yX9_of ∈ wsT) ⟨Nat.le_of_ble_eq_true rfl, Nat.le_of_ble_eq_true rfl⟩ hP hD hK hN hm_h0 hk_h0 (by decide) rfl rfl rfl hl.1 rfl (Nat.le_of_ble_eq_true rfl) ⟨Nat.le_of_ble_eq_true rfl, Nat.le_of_ble_eq_true rfl⟩ dX9_step_234 (fun r_480 hr_480 => ?_)
                      have hOr_480 : (r_480 : Int32).toInt = yOf S d_2 h0 (p0 : Int32).toInt.toNat 1 := by rw [hr_480, show (1 : Int32).toInt.toNat = 1 by decide +kernel]; rfl
                      have hbr_480 := xof1 hId_2 (p := p0) (by refine ⟨?_, ?_⟩ <;> omega) hr_480
                      refine lv_imul hx hb dX9_step_237 ?_
                      refine lv_topi (fun z_481 ez_481 => ?_)
                      refine lv_iload hx hb dX9_step_238 (lv_at hl 0 rfl) ?_
                      refine lv_iadd hx hb dX9_step_240 ?_
                      refine lv_topi (fun z_482 ez_482 => ?_)
                      refine lv_aload_n hx hb dX9_step_241 rfl (lv_at hl 2 rfl) ?_
                      refine yget (ci := 9) (k := 47) (v := .ref (S.2.2.1 h0 47)) (C := RX9) (T := TX9) (N := 67) C0 hK hP hm_h0 hk_h0 (by decide) rfl inlX9 (by decide) mW152 (fun _ h9 => h9) rfl dX9_step_242 ?_
                      refine lv_iload_n hx hb dX9_step_245 rfl (lv_at hl 3 rfl) ?_
                      refine yald C0 hK hP hmy_456 hky_456 (by decide) rfl 0 rfl (xinT 8 rfl (by omega) (by omega)) dX9_step_246 ?_
                      rw [← ez_458]
                      have T_484 : (z_481 : Int32).toInt = 60 * (r_480 : Int32).toInt := tmul ez_481 (by decide +kernel : (60 : Int32).toInt = 60) (rfl : (r_480 : Int32).toInt = (r_480 : Int32).toInt) (by omega) (by omega)
                      have T_483 : (z_482 : Int32).toInt = (z_481 : Int32).toInt + (r_463 : Int32).toInt := tadd ez_482 (rfl : (z_481 : Int32).toInt = (z_481 : Int32).toInt) (rfl : (r_463 : Int32).toInt = (r_463 : Int32).toInt) (by omega) (by omega)
                      refine yVri (As := [.int z_482, .int z_458]) (rest := []) C0 (g_X9_adds l G S d_2 h0 z_482 z_458 hSh hm_h0 hk_h0 (by refine ⟨?_, ?_⟩ <;> omega)) ok_X9_adds (mW901 : Cond.methodLink RX9 302 yX9_adds ∈ wsT) ⟨Nat.le_of_ble_eq_true rfl, Nat.le_of_ble_eq_true rfl⟩ hP hD hK hN hm_h0 hk_h0 (by decide) rfl rfl rfl hl.1 rfl (Nat.le_of_ble_eq_true rfl) ⟨Nat.le_of_ble_eq_true rfl, Nat.le_of_ble_eq_true rfl⟩ dX9_step_247 (fun r_485 hr_485 => ?_)
                      refine lv_istore (lv' := [(10, .int r_485), (11, .int r_463), (9, .int r_463), (0, .ref h0), (1, .int p0), (2, .int p1), (3, .long p2), (6, .int p4), (7, .int p5), (8, .int p6)]) hx hb dX9_step_250 hl (by decide) rfl (fun ls hl => ?_)
                      exact J252_352 (r_463, r_485) ls _ ⟨rfl, lv_sub hl [3, 4, 5, 6, 2, 0] rfl⟩
                    · refine lv_iconst (v := 2) hx hb dX9_step_224 (by decide) ?_
                      refine lv_goto (tgt := 250) hx hb dX9_step_225 (by decide) ?_
                      refine lv_istore (lv' := [(10, .int 2), (11, .int r_463), (9, .int r_463), (0, .ref h0), (1, .int p0), (2, .int p1), (3, .long p2), (6, .int p4), (7, .int p5), (8, .int p6)]) hx hb dX9_step_250 hl (by decide) rfl (fun ls hl => ?_)
                      exact J252_352 (r_463, 2) ls _ ⟨rfl, lv_sub hl [3, 4, 5, 6, 2, 0] rfl⟩
                  · refine lv_iload hx hb dX9_step_208 (lv_at hl 6 rfl) ?_
                    refine lv_goto (tgt := 215) hx hb dX9_step_210 (by decide) ?_
                    refine lv_istore (lv' := [(11, .int p5), (9, .int r_463), (0, .ref h0), (1, .int p0), (2, .int p1), (3, .long p2), (6, .int p4), (7, .int p5), (8, .int p6)]) hx hb dX9_step_215 hl (by decide) rfl (fun ls hl => ?_)
                    refine lv_iload hx hb dX9_step_217 (lv_at hl 1 rfl) ?_
                    refine lv_bipush (v := (-2)) hx hb dX9_step_219 (by decide) ?_
                    refine lv_icmp_ne (tgt := 228) hx hb dX9_step_221 (by decide) (fun c_486 => ?_) (fun c_486 => ?_)
                    · refine lv_aload_n hx hb dX9_step_228 rfl (lv_at hl 2 rfl) ?_
                      refine lv_bipush (v := 60) hx hb dX9_step_229 (by decide) ?_
                      refine lv_aload_n hx hb dX9_step_231 rfl (lv_at hl 2 rfl) ?_
                      refine lv_iload_n hx hb dX9_step_232 rfl (lv_at hl 3 rfl) ?_
                      refine lv_iconst (v := 1) hx hb dX9_step_233 (by decide) ?_
                      have F_487 := feq (rfl : (r_464 : Int32).toInt = (r_464 : Int32).toInt) (rfl : (p6 : Int32).toInt = (p6 : Int32).toInt) c_465
                      have F_488 := feq (rfl : (r_463 : Int32).toInt = (r_463 : Int32).toInt) (rfl : (p4 : Int32).toInt = (p4 : Int32).toInt) c_475
                      have F_489 := fne (rfl : (r_463 : Int32).toInt = (r_463 : Int32).toInt) (by decide +kernel : ((-2) : Int32).toInt = (-2)) c_486
                      refine yVri (As := [.int p0, .int 1]) (rest := [.int 60, .ref h0]) C0 (g_X9_of l G S d_2 h0 p0 1 hSh hm_h0 hk_h0 (by refine ⟨?_, ?_⟩ <;> omega) (by decide +kernel)) ok_X9_of (mW425 : Cond.methodLink RX9 161 yX9_of ∈ wsT) ⟨Nat.le_of_ble_eq_true rfl, Nat.le_of_ble_eq_true rfl⟩ hP hD hK hN hm_h0 hk_h0 (by decide) rfl rfl rfl hl.1 rfl (Nat.le_of_ble_eq_true rfl) ⟨Nat.le_of_ble_eq_true rfl, Nat.le_of_ble_eq_true rfl⟩ dX9_step_234 (fun r_490 hr_490 => ?_)
                      have hOr_490 : (r_490 : Int32).toInt = yOf S d_2 h0 (p0 : Int32).toInt.toNat 1 := by rw [hr_490, show (1 : Int32).toInt.toNat = 1 by decide +kernel]; rfl
                      have hbr_490 := xof1 hId_2 (p := p0) (by refine ⟨?_, ?_⟩ <;> omega) hr_490
                      refine lv_imul hx hb dX9_step_237 ?_
                      refine lv_topi (fun z_491 ez_491 => ?_)
                      refine lv_iload hx hb dX9_step_238 (lv_at hl 0 rfl) ?_
                      refine lv_iadd hx hb dX9_step_240 ?_
                      refine lv_topi (fun z_492 ez_492 => ?_)
                      refine lv_aload_n hx hb dX9_step_241 rfl (lv_at hl 2 rfl) ?_
                      refine yget (ci := 9) (k := 47) (v := .ref (S.2.2.1 h0 47)) (C := RX9) (T := TX9) (N := 67) C0 hK hP hm_h0 hk_h0 (by decide) rfl inlX9 (by decide) mW152 (fun _ h9 => h9) rfl dX9_step_242 ?_
                      refine lv_iload_n hx hb dX9_step_245 rfl (lv_at hl 3 rfl) ?_
                      refine yald C0 hK hP hmy_456 hky_456 (by decide) rfl 0 rfl (xinT 8 rfl (by omega) (by omega)) dX9_step_246 ?_
                      rw [← ez_458]
                      have T_494 : (z_491 : Int32).toInt = 60 * (r_490 : Int32).toInt := tmul ez_491 (by decide +kernel : (60 : Int32).toInt = 60) (rfl : (r_490 : Int32).toInt = (r_490 : Int32).toInt) (by omega) (by omega)
                      have T_493 : (z_492 : Int32).toInt = (z_491 : Int32).toInt + (p5 : Int32).toInt := tadd ez_492 (rfl : (z_491 : Int32).toInt = (z_491 : Int32).toInt) (rfl : (p5 : Int32).toInt = (p5 : Int32).toInt) (by omega) (by omega)
                      refine yVri (As := [.int z_492, .int z_458]) (rest := []) C0 (g_X9_adds l G S d_2 h0 z_492 z_458 hSh hm_h0 hk_h0 (by refine ⟨?_, ?_⟩ <;> omega)) ok_X9_adds (mW901 : Cond.methodLink RX9 302 yX9_adds ∈ wsT) ⟨Nat.le_of_ble_eq_true rfl, Nat.le_of_ble_eq_true rfl⟩ hP hD hK hN hm_h0 hk_h0 (by decide) rfl rfl rfl hl.1 rfl (Nat.le_of_ble_eq_true rfl) ⟨Nat.le_of_ble_eq_true rfl, Nat.le_of_ble_eq_true rfl⟩ dX9_step_247 (fun r_495 hr_495 => ?_)
                      refine lv_istore (lv' := [(10, .int r_495), (11, .int p5), (9, .int r_463), (0, .ref h0), (1, .int p0), (2, .int p1), (3, .long p2), (6, .int p4), (7, .int p5), (8, .int p6)]) hx hb dX9_step_250 hl (by decide) rfl (fun ls hl => ?_)
                      exact J252_352 (r_463, r_495) ls _ ⟨rfl, lv_sub hl [3, 4, 5, 6, 2, 0] rfl⟩
                    · refine lv_iconst (v := 2) hx hb dX9_step_224 (by decide) ?_
                      refine lv_goto (tgt := 250) hx hb dX9_step_225 (by decide) ?_
                      refine lv_istore (lv' := [(10, .int 2), (11, .int p5), (9, .int r_463), (0, .ref h0), (1, .int p0), (2, .int p1), (3, .long p2), (6, .int p4), (7, .int p5), (8, .int p6)]) hx hb dX9_step_250 hl (by decide) rfl (fun ls hl => ?_)
                      exact J252_352 (r_463, 2) ls _ ⟨rfl, lv_sub hl [3, 4, 5, 6, 2, 0] rfl⟩
              refine lv_if_lt (tgt := 178) hx hb dX9_step_171 (by decide) (fun c_496 => ?_) (fun c_496 => ?_)
              · refine lv_iconst (v := 0) hx hb dX9_step_178 (by decide) ?_
                exact J179_462 0 ls _ ⟨rfl, lv_sub hl [2, 3, 4, 5, 6, 7, 8] rfl, Or.inl rfl⟩
              · refine lv_iconst (v := 1) hx hb dX9_step_174 (by decide) ?_
                refine lv_goto (tgt := 179) hx hb dX9_step_175 (by decide) ?_
                exact J179_462 1 ls _ ⟨rfl, lv_sub hl [2, 3, 4, 5, 6, 7, 8] rfl, Or.inr rfl⟩
          refine lv_if_eq (tgt := 141) hx hb dX9_step_134 (by decide) (fun c_497 => ?_) (fun c_497 => ?_)
          · refine lv_iconst (v := 0) hx hb dX9_step_141 (by decide) ?_
            exact J142_347 0 ls _ ⟨rfl, lv_sub hl [0, 1, 2, 3, 4, 6, 7, 8] rfl⟩
          · refine lv_iconst (v := 2) hx hb dX9_step_137 (by decide) ?_
            refine lv_goto (tgt := 142) hx hb dX9_step_138 (by decide) ?_
            exact J142_347 2 ls _ ⟨rfl, lv_sub hl [0, 1, 2, 3, 4, 6, 7, 8] rfl⟩
        · refine lv_aload_n hx hb dX9_step_58 rfl (lv_at hl 0 rfl) ?_
          refine yget (ci := 9) (k := 48) (v := .ref (S.2.2.1 h0 48)) (C := RX9) (T := TX9) (N := 67) C0 hK hP hm_h0 hk_h0 (by decide) rfl inlX9 (by decide) mW153 (fun _ h9 => h9) rfl dX9_step_59 ?_
          refine lv_iload_n hx hb dX9_step_62 rfl (lv_at hl 1 rfl) ?_
          have F_499 := fnlt (rfl : (p1 : Int32).toInt = (p1 : Int32).toInt) (rfl : (z_345 : Int32).toInt = (z_345 : Int32).toInt) c_346
          refine yald C0 hK hP hmy_5 hky_5 (by decide) rfl 0 rfl (xinT 8 rfl (by omega) (by omega)) dX9_step_63 ?_
          rw [← ez_7]
          have hvz_7 : 0 ≤ (z_7 : Int32).toInt ∧ (z_7 : Int32).toInt ≤ 5000 := by rw [ez_7]; exact yMI.ne_ hId_2 _
          refine lv_istore (lv' := [(9, .int z_7), (0, .ref h0), (1, .int p0), (2, .int p1), (3, .long p2), (5, .int p3), (6, .int p4), (7, .int p5), (8, .int p6)]) hx hb dX9_step_64 hl (by decide) rfl (fun ls hl => ?_)
          refine lv_aload_n hx hb dX9_step_66 rfl (lv_at hl 1 rfl) ?_
          refine yget (ci := 9) (k := 15) (v := .ref (S.2.2.1 h0 15)) (C := RX9) (T := TX9) (N := 67) C0 hK hP hm_h0 hk_h0 (by decide) rfl inlX9 (by decide) mW122 (fun _ h9 => h9) rfl dX9_step_67 ?_
          refine lv_iload hx hb dX9_step_70 (lv_at hl 0 rfl) ?_
          refine yaldB C0 hK hP hmy_162 hky_162 (by decide) rfl 1 rfl (xinT 5000 rfl (by omega) (by omega)) dX9_step_72 ?_
          rw [← ez_166]
          refine lv_iload_n hx hb dX9_step_73 rfl (lv_at hl 2 rfl) ?_
          refine lv_icmp_ne (tgt := 115) hx hb dX9_step_74 (by decide) (fun c_500 => absurd c_192 c_500) (fun c_500 => ?_)
          refine lv_aload_n hx hb dX9_step_77 rfl (lv_at hl 1 rfl) ?_
          refine yget (ci := 9) (k := 17) (v := .ref (S.2.2.1 h0 17)) (C := RX9) (T := TX9) (N := 67) C0 hK hP hm_h0 hk_h0 (by decide) rfl inlX9 (by decide) mW124 (fun _ h9 => h9) rfl dX9_step_78 ?_
          obtain ⟨hmy_501, hky_501⟩ := ySh.f9_17 hSh _ hm_h0 hk_h0
          refine lv_iload hx hb dX9_step_81 (lv_at hl 0 rfl) ?_
          have F_502 := feq (rfl : (z_166 : Int32).toInt = (z_166 : Int32).toInt) (rfl : (p0 : Int32).toInt = (p0 : Int32).toInt) c_500
          refine yaldB C0 hK hP hmy_501 hky_501 (by decide) rfl 1 rfl (xinT 5000 rfl (by omega) (by omega)) dX9_step_83 ?_
          refine lv_topi (fun z_503 ez_503 => ?_)
          refine lv_iconst (v := 3) hx hb dX9_step_84 (by decide) ?_
          refine yjoin (σ := yD) 115 (fun x H locs ls st => st = [] ∧ va_P G.1 xcl (yW G S x) H ∧ va_D A (yW G S x) ∧ va_S A s.heap H locs ∧ yAg S [9, 77, 78] d x ∧ yPo S x ∧ yK [54, 55, 57, 63, 64, 65] d x h0 ∧ yMI S x h0 ∧ yAg S [77] d_2 x ∧ yK [] d_2 x h0 ∧ yAg S [77, 78] d x ∧ yK [] d x h0 ∧ lv_has ls 12 [(0, .ref h0), (1, .int p0), (2, .int p1), (3, .long p2), (5, .int p3), (6, .int p4), (7, .int p5), (8, .int p6)]) (fun x H locs ls st hI => ?_) (fun J115_503 => ?_)
          · obtain ⟨d_504, rfl⟩ : ∃ z, z = x := ⟨_, rfl⟩
            obtain ⟨rfl, hP, hD, hS, hgd_504, hPod_504, hfd_504, hId_504, hLJd_504, hKJd_504, hL0d_504, hK0d_504, hl⟩ := hI
            have hId_504 : yMI S d_504 h0 := hId_504
            have hl : lv_has ls 12 [(0, .ref h0), (1, .int p0), (2, .int p1), (3, .long p2), (5, .int p3), (6, .int p4), (7, .int p5), (8, .int p6)] := hl
            have hE0d_504 : (d_504.1 h0 0).toInt = (d_2.1 h0 0).toInt := congrArg Int32.toInt (hKJd_504 0 (by decide))
            have hE1d_504 : (d_504.1 h0 1).toInt = (d_2.1 h0 1).toInt := congrArg Int32.toInt (hKJd_504 1 (by decide))
            have hE2d_504 : (d_504.1 h0 2).toInt = (d_2.1 h0 2).toInt := congrArg Int32.toInt (hKJd_504 2 (by decide))
            have hE3d_504 : (d_504.1 h0 3).toInt = (d_2.1 h0 3).toInt := congrArg Int32.toInt (hKJd_504 3 (by decide))
            have hE63d_504 : (d_504.1 h0 63).toInt = (d_2.1 h0 63).toInt := congrArg Int32.toInt (hKJd_504 63 (by decide))
            refine lv_aload_n hx hb dX9_step_115 rfl (lv_at hl 0 rfl) ?_
            refine yget (ci := 9) (k := 48) (v := .ref (S.2.2.1 h0 48)) (C := RX9) (T := TX9) (N := 67) C0 hK hP hm_h0 hk_h0 (by decide) rfl inlX9 (by decide) mW153 (fun _ h9 => h9) rfl dX9_step_116 ?_
            refine lv_iload_n hx hb dX9_step_119 rfl (lv_at hl 1 rfl) ?_
            refine lv_dup2_11 hx hb dX9_step_120 rfl rfl ?_
            have hCC_505 := yMI.c hId_504
            refine yald C0 hK hP hmy_5 hky_5 (by decide) rfl 0 rfl (xinT 8 rfl (by omega) (by omega)) dX9_step_121 ?_
            refine lv_topi (fun z_506 ez_506 => ?_)
            have hvz_506 : 0 ≤ (z_506 : Int32).toInt ∧ (z_506 : Int32).toInt ≤ 5000 := by rw [ez_506]; exact yMI.ne_ hId_504 _
            refine lv_iconst (v := 1) hx hb dX9_step_122 (by decide) ?_
            refine lv_iadd hx hb dX9_step_123 ?_
            refine lv_topi (fun z_507 ez_507 => ?_)
            refine yast C0 hK hP hD hS hmy_5 hky_5 (by decide) rfl 0 rfl (xinT 8 rfl (by omega) (by omega)) dX9_step_124 (fun H locs hP hD hS => ?_)
            obtain ⟨d_508, ed_508⟩ : ∃ z : yD, z = ycs d_504 (S.2.2.1 h0 48) (upd (d_504.2.2.2.1 (S.2.2.1 h0 48)) (p0 : Int32).toNatClampNeg z_507) := ⟨_, rfl⟩
            rw [← ed_508] at hP hD
            have hgd_508 : yAg S [9, 77, 78] d d_508 := by rw [ed_508]; exact yAg.cs hgd_504 (by rw [hky_5]; decide)
            have hsd_508 : yAg S [78] d_504 d_508 := by rw [ed_508]; exact yAg.cs yAg.rf (by rw [hky_5]; decide)
            have hPod_508 : yPo S d_508 := by rw [ed_508]; exact hPod_504
            have hfd_508 : yK [54, 55, 57, 63, 64, 65] d d_508 h0 := yK.ag hfd_504 (show yAg S [78] d_504 d_508 from by rw [ed_508]; exact yAg.cs yAg.rf (by rw [hky_5]; decide)) (by rw [hk_h0]; decide)
            have hL0d_508 : yAg S [77, 78] d d_508 := by rw [ed_508]; exact yAg.cs hL0d_504 (by rw [hky_5]; decide)
            have hK0d_508 : yK [] d d_508 h0 := yK.ag hK0d_504 (show yAg S [78] d_504 d_508 from by rw [ed_508]; exact yAg.cs yAg.rf (by rw [hky_5]; decide)) (by rw [hk_h0]; decide)
            have T_509 : (z_507 : Int32).toInt = (z_506 : Int32).toInt + 1 := tadd ez_507 (rfl : (z_506 : Int32).toInt = (z_506 : Int32).toInt) (by decide +kernel : (1 : Int32).toInt = 1) (by omega) (by omega)
            have hId_508 : yMI S d_508 h0 := by rw [ed_508]; exact yMI.w48 hId_504 hSh hm_h0 hk_h0 (yBr.up (yMI.ne_ hId_504) ⟨by omega, by omega⟩)
            have hE0d_508 : (d_508.1 h0 0).toInt = (d_504.1 h0 0).toInt := congrArg Int32.toInt ((yK.ag (F := []) yK.rf (show yAg S [78] d_504 d_508 from by rw [ed_508]; exact yAg.cs yAg.rf (by rw [hky_5]; decide)) (by rw [hk_h0]; decide)) 0 (by decide))
            have hE1d_508 : (d_508.1 h0 1).toInt = (d_504.1 h0 1).toInt := congrArg Int32.toInt ((yK.ag (F := []) yK.rf (show yAg S [78] d_504 d_508 from by rw [ed_508]; exact yAg.cs yAg.rf (by rw [hky_5]; decide)) (by rw [hk_h0]; decide)) 1 (by decide))
            have hE2d_508 : (d_508.1 h0 2).toInt = (d_504.1 h0 2).toInt := congrArg Int32.toInt ((yK.ag (F := []) yK.rf (show yAg S [78] d_504 d_508 from by rw [ed_508]; exact yAg.cs yAg.rf (by rw [hky_5]; decide)) (by rw [hk_h0]; decide)) 2 (by decide))
            have hE3d_508 : (d_508.1 h0 3).toInt = (d_504.1 h0 3).toInt := congrArg Int32.toInt ((yK.ag (F := []) yK.rf (show yAg S [78] d_504 d_508 from by rw [ed_508]; exact yAg.cs yAg.rf (by rw [hky_5]; decide)) (by rw [hk_h0]; decide)) 3 (by decide))
            have hE63d_508 : (d_508.1 h0 63).toInt = (d_504.1 h0 63).toInt := congrArg Int32.toInt ((yK.ag (F := []) yK.rf (show yAg S [78] d_504 d_508 from by rw [ed_508]; exact yAg.cs yAg.rf (by rw [hky_5]; decide)) (by rw [hk_h0]; decide)) 63 (by decide))
            refine lv_goto (tgt := 0) hx hb dX9_step_125 (by decide) ?_
            have hCC_511 := yMI.c hId_508
            exact hnext_3 d_508 _ _ ls ((xnext ed_508 ez_507 ez_506 ((hsd_504 _ (by rw [(ySh.f9_48 hSh h0 hm_h0 hk_h0).2]; decide)).2.2.2.1) ez_7 hvz_7)) ⟨hP, hD, hS, hgd_508, hPod_508, hfd_508, hId_508, hL0d_508, hK0d_508, (show (True) from by have hq0_ : (0 : Int32).toInt = 0 := (by decide +kernel); omega), lv_sub hl [0, 1, 2, 3, 4, 5, 6, 7] rfl⟩
          refine lv_icmp_lt (tgt := 115) hx hb dX9_step_85 (by decide) (fun c_512 => ?_) (fun c_512 => ?_)
          · exact J115_503 d_2 _ _ ls _ ⟨rfl, hP, hD, hS, hgd_2, hPod_2, hfd_2, hId_2, yAg.rf, yK.rf, hLJd_2, hKJd_2, lv_sub hl [1, 2, 3, 4, 5, 6, 7, 8] rfl⟩
          · refine lv_aload_n hx hb dX9_step_88 rfl (lv_at hl 1 rfl) ?_
            refine yget (ci := 9) (k := 17) (v := .ref (S.2.2.1 h0 17)) (C := RX9) (T := TX9) (N := 67) C0 hK hP hm_h0 hk_h0 (by decide) rfl inlX9 (by decide) mW124 (fun _ h9 => h9) rfl dX9_step_89 ?_
            refine lv_iload hx hb dX9_step_92 (lv_at hl 0 rfl) ?_
            have F_514 := fnlt (rfl : (z_503 : Int32).toInt = (z_503 : Int32).toInt) (by decide +kernel : (3 : Int32).toInt = 3) c_512
            refine yaldB C0 hK hP hmy_501 hky_501 (by decide) rfl 1 rfl (xinT 5000 rfl (by omega) (by omega)) dX9_step_94 ?_
            rw [← ez_503]
            refine lv_bipush (v := 6) hx hb dX9_step_95 (by decide) ?_
            refine lv_icmp_gt (tgt := 115) hx hb dX9_step_97 (by decide) (fun c_515 => ?_) (fun c_515 => ?_)
            · exact J115_503 d_2 _ _ ls _ ⟨rfl, hP, hD, hS, hgd_2, hPod_2, hfd_2, hId_2, yAg.rf, yK.rf, hLJd_2, hKJd_2, lv_sub hl [1, 2, 3, 4, 5, 6, 7, 8] rfl⟩
            · refine lv_aload_n hx hb dX9_step_100 rfl (lv_at hl 1 rfl) ?_
              refine yget (ci := 9) (k := 47) (v := .ref (S.2.2.1 h0 47)) (C := RX9) (T := TX9) (N := 67) C0 hK hP hm_h0 hk_h0 (by decide) rfl inlX9 (by decide) mW152 (fun _ h9 => h9) rfl dX9_step_101 ?_
              obtain ⟨hmy_516, hky_516⟩ := ySh.f9_47 hSh _ hm_h0 hk_h0
              refine lv_iload_n hx hb dX9_step_104 rfl (lv_at hl 2 rfl) ?_
              refine lv_aload_n hx hb dX9_step_105 rfl (lv_at hl 1 rfl) ?_
              refine yget (ci := 9) (k := 17) (v := .ref (S.2.2.1 h0 17)) (C := RX9) (T := TX9) (N := 67) C0 hK hP hm_h0 hk_h0 (by decide) rfl inlX9 (by decide) mW124 (fun _ h9 => h9) rfl dX9_step_106 ?_
              refine lv_iload hx hb dX9_step_109 (lv_at hl 0 rfl) ?_
              have F_517 := fnlt (by decide +kernel : (6 : Int32).toInt = 6) (rfl : (z_503 : Int32).toInt = (z_503 : Int32).toInt) c_515
              refine yaldB C0 hK hP hmy_501 hky_501 (by decide) rfl 1 rfl (xinT 5000 rfl (by omega) (by omega)) dX9_step_111 ?_
              rw [← ez_503]
              refine lv_iconst (v := 2) hx hb dX9_step_112 (by decide) ?_
              refine lv_isub hx hb dX9_step_113 ?_
              refine lv_topi (fun z_518 ez_518 => ?_)
              refine yast C0 hK hP hD hS hmy_516 hky_516 (by decide) rfl 0 rfl (xinT 8 rfl (by omega) (by omega)) dX9_step_114 (fun H locs hP hD hS => ?_)
              obtain ⟨d_519, ed_519⟩ : ∃ z : yD, z = ycs d_2 (S.2.2.1 h0 47) (upd (d_2.2.2.2.1 (S.2.2.1 h0 47)) (p0 : Int32).toNatClampNeg z_518) := ⟨_, rfl⟩
              rw [← ed_519] at hP hD
              have hgd_519 : yAg S [9, 77, 78] d d_519 := by rw [ed_519]; exact yAg.cs hgd_2 (by rw [hky_516]; decide)
              have hsd_519 : yAg S [77] d_2 d_519 := by rw [ed_519]; exact yAg.cs yAg.rf (by rw [hky_516]; decide)
              have hPod_519 : yPo S d_519 := by rw [ed_519]; exact hPod_2
              have hfd_519 : yK [54, 55, 57, 63, 64, 65] d d_519 h0 := yK.ag hfd_2 (show yAg S [77] d_2 d_519 from by rw [ed_519]; exact yAg.cs yAg.rf (by rw [hky_516]; decide)) (by rw [hk_h0]; decide)
              have hL0d_519 : yAg S [77, 78] d d_519 := by rw [ed_519]; exact yAg.cs hLJd_2 (by rw [hky_516]; decide)
              have hK0d_519 : yK [] d d_519 h0 := yK.ag hKJd_2 (show yAg S [77] d_2 d_519 from by rw [ed_519]; exact yAg.cs yAg.rf (by rw [hky_516]; decide)) (by rw [hk_h0]; decide)
              have hL1d_519 : yAg S [77] d_2 d_519 := by rw [ed_519]; exact yAg.cs yAg.rf (by rw [hky_516]; decide)
              have hK1d_519 : yK [] d_2 d_519 h0 := yK.ag yK.rf (show yAg S [77] d_2 d_519 from by rw [ed_519]; exact yAg.cs yAg.rf (by rw [hky_516]; decide)) (by rw [hk_h0]; decide)
              have hId_519 : yMI S d_519 h0 := yMI.ag hId_2 hSh hm_h0 hk_h0 (show yAg S [77] d_2 d_519 from by rw [ed_519]; exact yAg.cs yAg.rf (by rw [hky_516]; decide)) (yK.ag (F := []) yK.rf (show yAg S [77] d_2 d_519 from by rw [ed_519]; exact yAg.cs yAg.rf (by rw [hky_516]; decide)) (by rw [hk_h0]; decide)) (by decide) (by decide)
              have hE0d_519 : (d_519.1 h0 0).toInt = (d_2.1 h0 0).toInt := congrArg Int32.toInt ((yK.ag (F := []) yK.rf (show yAg S [77] d_2 d_519 from by rw [ed_519]; exact yAg.cs yAg.rf (by rw [hky_516]; decide)) (by rw [hk_h0]; decide)) 0 (by decide))
              have hE1d_519 : (d_519.1 h0 1).toInt = (d_2.1 h0 1).toInt := congrArg Int32.toInt ((yK.ag (F := []) yK.rf (show yAg S [77] d_2 d_519 from by rw [ed_519]; exact yAg.cs yAg.rf (by rw [hky_516]; decide)) (by rw [hk_h0]; decide)) 1 (by decide))
              have hE2d_519 : (d_519.1 h0 2).toInt = (d_2.1 h0 2).toInt := congrArg Int32.toInt ((yK.ag (F := []) yK.rf (show yAg S [77] d_2 d_519 from by rw [ed_519]; exact yAg.cs yAg.rf (by rw [hky_516]; decide)) (by rw [hk_h0]; decide)) 2 (by decide))
              have hE3d_519 : (d_519.1 h0 3).toInt = (d_2.1 h0 3).toInt := congrArg Int32.toInt ((yK.ag (F := []) yK.rf (show yAg S [77] d_2 d_519 from by rw [ed_519]; exact yAg.cs yAg.rf (by rw [hky_516]; decide)) (by rw [hk_h0]; decide)) 3 (by decide))
              have hE63d_519 : (d_519.1 h0 63).toInt = (d_2.1 h0 63).toInt := congrArg Int32.toInt ((yK.ag (F := []) yK.rf (show yAg S [77] d_2 d_519 from by rw [ed_519]; exact yAg.cs yAg.rf (by rw [hky_516]; decide)) (by rw [hk_h0]; decide)) 63 (by decide))
              exact J115_503 d_519 _ _ ls _ ⟨rfl, hP, hD, hS, hgd_519, hPod_519, hfd_519, hId_519, hL1d_519, hK1d_519, hL0d_519, hK0d_519, lv_sub hl [1, 2, 3, 4, 5, 6, 7, 8] rfl⟩
theorem dX9_walk_0 : decode cX9_walk 0 = .ok (.aload_n 0, 1) := by decide +kernel
theorem dX9_walk_1 : decode cX9_walk 1 = .ok (.getfield 36, 3) := by decide +kernel
theorem dX9_walk_4 : decode cX9_walk 4 = .ok (.bipush 12, 2) := by decide +kernel
theorem dX9_walk_6 : decode cX9_walk 6 = .ok (.iload_n 1, 1) := by decide +kernel
theorem dX9_walk_7 : decode cX9_walk 7 = .ok (.imul, 1) := by decide +kernel
theorem dX9_walk_8 : decode cX9_walk 8 = .ok (.bipush 10, 2) := by decide +kernel
theorem dX9_walk_10 : decode cX9_walk 10 = .ok (.iadd, 1) := by decide +kernel
theorem dX9_walk_11 : decode cX9_walk 11 = .ok (.laload, 1) := by decide +kernel
theorem dX9_walk_12 : decode cX9_walk 12 = .ok (.lstore 6, 2) := by decide +kernel
theorem dX9_walk_14 : decode cX9_walk 14 = .ok (.aload_n 0, 1) := by decide +kernel
theorem dX9_walk_15 : decode cX9_walk 15 = .ok (.lconst 0, 1) := by decide +kernel
theorem dX9_walk_16 : decode cX9_walk 16 = .ok (.putfield 247, 3) := by decide +kernel
theorem dX9_walk_19 : decode cX9_walk 19 = .ok (.aload_n 0, 1) := by decide +kernel
theorem dX9_walk_20 : decode cX9_walk 20 = .ok (.lconst 0, 1) := by decide +kernel
theorem dX9_walk_21 : decode cX9_walk 21 = .ok (.putfield 251, 3) := by decide +kernel
theorem dX9_walk_24 : decode cX9_walk 24 = .ok (.aload_n 0, 1) := by decide +kernel
theorem dX9_walk_25 : decode cX9_walk 25 = .ok (.lconst 0, 1) := by decide +kernel
theorem dX9_walk_26 : decode cX9_walk 26 = .ok (.putfield 254, 3) := by decide +kernel
theorem dX9_walk_29 : decode cX9_walk 29 = .ok (.aload_n 0, 1) := by decide +kernel
theorem dX9_walk_30 : decode cX9_walk 30 = .ok (.ldc2_w 193, 3) := by decide +kernel
theorem dX9_walk_33 : decode cX9_walk 33 = .ok (.putfield 257, 3) := by decide +kernel
theorem dX9_walk_36 : decode cX9_walk 36 = .ok (.aload_n 0, 1) := by decide +kernel
theorem dX9_walk_37 : decode cX9_walk 37 = .ok (.iconst 0, 1) := by decide +kernel
theorem dX9_walk_38 : decode cX9_walk 38 = .ok (.putfield 260, 3) := by decide +kernel
theorem dX9_walk_41 : decode cX9_walk 41 = .ok (.aload_n 0, 1) := by decide +kernel
theorem dX9_walk_42 : decode cX9_walk 42 = .ok (.bipush (-4), 2) := by decide +kernel
theorem dX9_walk_44 : decode cX9_walk 44 = .ok (.putfield 263, 3) := by decide +kernel
theorem dX9_walk_47 : decode cX9_walk 47 = .ok (.aload_n 0, 1) := by decide +kernel
theorem dX9_walk_48 : decode cX9_walk 48 = .ok (.iconst (-1), 1) := by decide +kernel
theorem dX9_walk_49 : decode cX9_walk 49 = .ok (.putfield 266, 3) := by decide +kernel
theorem dX9_walk_52 : decode cX9_walk 52 = .ok (.aload_n 0, 1) := by decide +kernel
theorem dX9_walk_53 : decode cX9_walk 53 = .ok (.lconst 0, 1) := by decide +kernel
theorem dX9_walk_54 : decode cX9_walk 54 = .ok (.putfield 269, 3) := by decide +kernel
theorem dX9_walk_57 : decode cX9_walk 57 = .ok (.aload_n 0, 1) := by decide +kernel
theorem dX9_walk_58 : decode cX9_walk 58 = .ok (.iconst 0, 1) := by decide +kernel
theorem dX9_walk_59 : decode cX9_walk 59 = .ok (.putfield 272, 3) := by decide +kernel
theorem dX9_walk_62 : decode cX9_walk 62 = .ok (.aload_n 0, 1) := by decide +kernel
theorem dX9_walk_63 : decode cX9_walk 63 = .ok (.lconst 0, 1) := by decide +kernel
theorem dX9_walk_64 : decode cX9_walk 64 = .ok (.putfield 275, 3) := by decide +kernel
theorem dX9_walk_67 : decode cX9_walk 67 = .ok (.ldc2_w 280, 3) := by decide +kernel
theorem dX9_walk_70 : decode cX9_walk 70 = .ok (.lstore 8, 2) := by decide +kernel
theorem dX9_walk_72 : decode cX9_walk 72 = .ok (.ldc2_w 193, 3) := by decide +kernel
theorem dX9_walk_75 : decode cX9_walk 75 = .ok (.lstore 10, 2) := by decide +kernel
theorem dX9_walk_77 : decode cX9_walk 77 = .ok (.iconst 0, 1) := by decide +kernel
theorem dX9_walk_78 : decode cX9_walk 78 = .ok (.istore 12, 2) := by decide +kernel
theorem dX9_walk_80 : decode cX9_walk 80 = .ok (.iload 12, 2) := by decide +kernel
theorem dX9_walk_82 : decode cX9_walk 82 = .ok (.bipush 8, 2) := by decide +kernel
theorem dX9_walk_84 : decode cX9_walk 84 = .ok (.if_icmp .ge 225, 3) := by decide +kernel
theorem dX9_walk_87 : decode cX9_walk 87 = .ok (.aload_n 0, 1) := by decide +kernel
theorem dX9_walk_88 : decode cX9_walk 88 = .ok (.getfield 132, 3) := by decide +kernel
theorem dX9_walk_91 : decode cX9_walk 91 = .ok (.iload 12, 2) := by decide +kernel
theorem dX9_walk_93 : decode cX9_walk 93 = .ok (.iconst 0, 1) := by decide +kernel
theorem dX9_walk_94 : decode cX9_walk 94 = .ok (.iastore, 1) := by decide +kernel
theorem dX9_walk_95 : decode cX9_walk 95 = .ok (.aload_n 0, 1) := by decide +kernel
theorem dX9_walk_96 : decode cX9_walk 96 = .ok (.getfield 135, 3) := by decide +kernel
theorem dX9_walk_99 : decode cX9_walk 99 = .ok (.iload 12, 2) := by decide +kernel
theorem dX9_walk_101 : decode cX9_walk 101 = .ok (.iconst 0, 1) := by decide +kernel
theorem dX9_walk_102 : decode cX9_walk 102 = .ok (.iastore, 1) := by decide +kernel
theorem dX9_walk_103 : decode cX9_walk 103 = .ok (.lload 6, 2) := by decide +kernel
theorem dX9_walk_105 : decode cX9_walk 105 = .ok (.iload 12, 2) := by decide +kernel
theorem dX9_walk_107 : decode cX9_walk 107 = .ok (.lshr, 1) := by decide +kernel
theorem dX9_walk_108 : decode cX9_walk 108 = .ok (.lconst 1, 1) := by decide +kernel
theorem dX9_walk_109 : decode cX9_walk 109 = .ok (.land, 1) := by decide +kernel
theorem dX9_walk_110 : decode cX9_walk 110 = .ok (.lconst 0, 1) := by decide +kernel
theorem dX9_walk_111 : decode cX9_walk 111 = .ok (.lcmp, 1) := by decide +kernel
theorem dX9_walk_112 : decode cX9_walk 112 = .ok (.ifCond .eq 191, 3) := by decide +kernel
theorem dX9_walk_115 : decode cX9_walk 115 = .ok (.aload_n 0, 1) := by decide +kernel
theorem dX9_walk_116 : decode cX9_walk 116 = .ok (.iload 12, 2) := by decide +kernel
theorem dX9_walk_118 : decode cX9_walk 118 = .ok (.invokevirtual 157, 3) := by decide +kernel
theorem dX9_walk_121 : decode cX9_walk 121 = .ok (.ifCond .eq 182, 3) := by decide +kernel
theorem dX9_walk_124 : decode cX9_walk 124 = .ok (.aload_n 0, 1) := by decide +kernel
theorem dX9_walk_125 : decode cX9_walk 125 = .ok (.iload 12, 2) := by decide +kernel
theorem dX9_walk_127 : decode cX9_walk 127 = .ok (.invokevirtual 282, 3) := by decide +kernel
theorem dX9_walk_130 : decode cX9_walk 130 = .ok (.ifCond .ne 6, 3) := by decide +kernel
theorem dX9_walk_133 : decode cX9_walk 133 = .ok (.goto 170, 3) := by decide +kernel
theorem dX9_walk_136 : decode cX9_walk 136 = .ok (.aload_n 0, 1) := by decide +kernel
theorem dX9_walk_137 : decode cX9_walk 137 = .ok (.dup, 1) := by decide +kernel
theorem dX9_walk_138 : decode cX9_walk 138 = .ok (.getfield 260, 3) := by decide +kernel
theorem dX9_walk_141 : decode cX9_walk 141 = .ok (.iconst 1, 1) := by decide +kernel
theorem dX9_walk_142 : decode cX9_walk 142 = .ok (.iadd, 1) := by decide +kernel
theorem dX9_walk_143 : decode cX9_walk 143 = .ok (.putfield 260, 3) := by decide +kernel
theorem dX9_walk_146 : decode cX9_walk 146 = .ok (.aload_n 0, 1) := by decide +kernel
theorem dX9_walk_147 : decode cX9_walk 147 = .ok (.dup, 1) := by decide +kernel
theorem dX9_walk_148 : decode cX9_walk 148 = .ok (.getfield 251, 3) := by decide +kernel
theorem dX9_walk_151 : decode cX9_walk 151 = .ok (.ldc2_w 285, 3) := by decide +kernel
theorem dX9_walk_154 : decode cX9_walk 154 = .ok (.aload_n 0, 1) := by decide +kernel
theorem dX9_walk_155 : decode cX9_walk 155 = .ok (.iload 12, 2) := by decide +kernel
theorem dX9_walk_157 : decode cX9_walk 157 = .ok (.iload_n 3, 1) := by decide +kernel
theorem dX9_walk_158 : decode cX9_walk 158 = .ok (.iload 4, 2) := by decide +kernel
theorem dX9_walk_160 : decode cX9_walk 160 = .ok (.iload 5, 2) := by decide +kernel
theorem dX9_walk_162 : decode cX9_walk 162 = .ok (.invokevirtual 287, 3) := by decide +kernel
theorem dX9_walk_165 : decode cX9_walk 165 = .ok (.lmul, 1) := by decide +kernel
theorem dX9_walk_166 : decode cX9_walk 166 = .ok (.ladd, 1) := by decide +kernel
theorem dX9_walk_167 : decode cX9_walk 167 = .ok (.putfield 251, 3) := by decide +kernel
theorem dX9_walk_170 : decode cX9_walk 170 = .ok (.aload_n 0, 1) := by decide +kernel
theorem dX9_walk_171 : decode cX9_walk 171 = .ok (.getfield 132, 3) := by decide +kernel
theorem dX9_walk_174 : decode cX9_walk 174 = .ok (.iload 12, 2) := by decide +kernel
theorem dX9_walk_176 : decode cX9_walk 176 = .ok (.aload_n 0, 1) := by decide +kernel
theorem dX9_walk_177 : decode cX9_walk 177 = .ok (.iload 12, 2) := by decide +kernel
theorem dX9_walk_179 : decode cX9_walk 179 = .ok (.invokevirtual 232, 3) := by decide +kernel
theorem dX9_walk_182 : decode cX9_walk 182 = .ok (.iastore, 1) := by decide +kernel
theorem dX9_walk_183 : decode cX9_walk 183 = .ok (.aload_n 0, 1) := by decide +kernel
theorem dX9_walk_184 : decode cX9_walk 184 = .ok (.getfield 135, 3) := by decide +kernel
theorem dX9_walk_187 : decode cX9_walk 187 = .ok (.iload 12, 2) := by decide +kernel
theorem dX9_walk_189 : decode cX9_walk 189 = .ok (.aload_n 0, 1) := by decide +kernel
theorem dX9_walk_190 : decode cX9_walk 190 = .ok (.iload 12, 2) := by decide +kernel
theorem dX9_walk_192 : decode cX9_walk 192 = .ok (.invokevirtual 291, 3) := by decide +kernel
theorem dX9_walk_195 : decode cX9_walk 195 = .ok (.iastore, 1) := by decide +kernel
theorem dX9_walk_196 : decode cX9_walk 196 = .ok (.aload_n 0, 1) := by decide +kernel
theorem dX9_walk_197 : decode cX9_walk 197 = .ok (.getfield 141, 3) := by decide +kernel
theorem dX9_walk_200 : decode cX9_walk 200 = .ok (.iload 12, 2) := by decide +kernel
theorem dX9_walk_202 : decode cX9_walk 202 = .ok (.iconst 0, 1) := by decide +kernel
theorem dX9_walk_203 : decode cX9_walk 203 = .ok (.iastore, 1) := by decide +kernel
theorem dX9_walk_204 : decode cX9_walk 204 = .ok (.aload_n 0, 1) := by decide +kernel
theorem dX9_walk_205 : decode cX9_walk 205 = .ok (.getfield 144, 3) := by decide +kernel
theorem dX9_walk_208 : decode cX9_walk 208 = .ok (.iload 12, 2) := by decide +kernel
theorem dX9_walk_210 : decode cX9_walk 210 = .ok (.iconst 0, 1) := by decide +kernel
theorem dX9_walk_211 : decode cX9_walk 211 = .ok (.iastore, 1) := by decide +kernel
theorem dX9_walk_212 : decode cX9_walk 212 = .ok (.aload_n 0, 1) := by decide +kernel
theorem dX9_walk_213 : decode cX9_walk 213 = .ok (.getfield 132, 3) := by decide +kernel
theorem dX9_walk_216 : decode cX9_walk 216 = .ok (.iload 12, 2) := by decide +kernel
theorem dX9_walk_218 : decode cX9_walk 218 = .ok (.iaload, 1) := by decide +kernel
theorem dX9_walk_219 : decode cX9_walk 219 = .ok (.aload_n 0, 1) := by decide +kernel
theorem dX9_walk_220 : decode cX9_walk 220 = .ok (.getfield 135, 3) := by decide +kernel
theorem dX9_walk_223 : decode cX9_walk 223 = .ok (.iload 12, 2) := by decide +kernel
theorem dX9_walk_225 : decode cX9_walk 225 = .ok (.iaload, 1) := by decide +kernel
theorem dX9_walk_226 : decode cX9_walk 226 = .ok (.if_icmp .ge 77, 3) := by decide +kernel
theorem dX9_walk_229 : decode cX9_walk 229 = .ok (.aload_n 0, 1) := by decide +kernel
theorem dX9_walk_230 : decode cX9_walk 230 = .ok (.getfield 132, 3) := by decide +kernel
theorem dX9_walk_233 : decode cX9_walk 233 = .ok (.iload 12, 2) := by decide +kernel
theorem dX9_walk_235 : decode cX9_walk 235 = .ok (.iaload, 1) := by decide +kernel
theorem dX9_walk_236 : decode cX9_walk 236 = .ok (.i2l, 1) := by decide +kernel
theorem dX9_walk_237 : decode cX9_walk 237 = .ok (.aload_n 0, 1) := by decide +kernel
theorem dX9_walk_238 : decode cX9_walk 238 = .ok (.iload 12, 2) := by decide +kernel
theorem dX9_walk_240 : decode cX9_walk 240 = .ok (.bipush 7, 2) := by decide +kernel
theorem dX9_walk_242 : decode cX9_walk 242 = .ok (.invokevirtual 161, 3) := by decide +kernel
theorem dX9_walk_245 : decode cX9_walk 245 = .ok (.i2l, 1) := by decide +kernel
theorem dX9_walk_246 : decode cX9_walk 246 = .ok (.ladd, 1) := by decide +kernel
theorem dX9_walk_247 : decode cX9_walk 247 = .ok (.lstore 13, 2) := by decide +kernel
theorem dX9_walk_249 : decode cX9_walk 249 = .ok (.aload_n 0, 1) := by decide +kernel
theorem dX9_walk_250 : decode cX9_walk 250 = .ok (.getfield 135, 3) := by decide +kernel
theorem dX9_walk_253 : decode cX9_walk 253 = .ok (.iload 12, 2) := by decide +kernel
theorem dX9_walk_255 : decode cX9_walk 255 = .ok (.iaload, 1) := by decide +kernel
theorem dX9_walk_256 : decode cX9_walk 256 = .ok (.i2l, 1) := by decide +kernel
theorem dX9_walk_257 : decode cX9_walk 257 = .ok (.aload_n 0, 1) := by decide +kernel
theorem dX9_walk_258 : decode cX9_walk 258 = .ok (.iload 12, 2) := by decide +kernel
theorem dX9_walk_260 : decode cX9_walk 260 = .ok (.bipush 7, 2) := by decide +kernel
theorem dX9_walk_262 : decode cX9_walk 262 = .ok (.invokevirtual 161, 3) := by decide +kernel
theorem dX9_walk_265 : decode cX9_walk 265 = .ok (.i2l, 1) := by decide +kernel
theorem dX9_walk_266 : decode cX9_walk 266 = .ok (.ladd, 1) := by decide +kernel
theorem dX9_walk_267 : decode cX9_walk 267 = .ok (.lstore 15, 2) := by decide +kernel
theorem dX9_walk_269 : decode cX9_walk 269 = .ok (.lload 13, 2) := by decide +kernel
theorem dX9_walk_271 : decode cX9_walk 271 = .ok (.lload 8, 2) := by decide +kernel
theorem dX9_walk_273 : decode cX9_walk 273 = .ok (.lcmp, 1) := by decide +kernel
theorem dX9_walk_274 : decode cX9_walk 274 = .ok (.ifCond .ge 8, 3) := by decide +kernel
theorem dX9_walk_277 : decode cX9_walk 277 = .ok (.lload 13, 2) := by decide +kernel
theorem dX9_walk_279 : decode cX9_walk 279 = .ok (.goto 5, 3) := by decide +kernel
theorem dX9_walk_282 : decode cX9_walk 282 = .ok (.lload 8, 2) := by decide +kernel
theorem dX9_walk_284 : decode cX9_walk 284 = .ok (.lstore 8, 2) := by decide +kernel
theorem dX9_walk_286 : decode cX9_walk 286 = .ok (.lload 15, 2) := by decide +kernel
theorem dX9_walk_288 : decode cX9_walk 288 = .ok (.lload 10, 2) := by decide +kernel
theorem dX9_walk_290 : decode cX9_walk 290 = .ok (.lcmp, 1) := by decide +kernel
theorem dX9_walk_291 : decode cX9_walk 291 = .ok (.ifCond .le 8, 3) := by decide +kernel
theorem dX9_walk_294 : decode cX9_walk 294 = .ok (.lload 15, 2) := by decide +kernel
theorem dX9_walk_296 : decode cX9_walk 296 = .ok (.goto 5, 3) := by decide +kernel
theorem dX9_walk_299 : decode cX9_walk 299 = .ok (.lload 10, 2) := by decide +kernel
theorem dX9_walk_301 : decode cX9_walk 301 = .ok (.lstore 10, 2) := by decide +kernel
theorem dX9_walk_303 : decode cX9_walk 303 = .ok (.iinc 12 1, 3) := by decide +kernel
theorem dX9_walk_306 : decode cX9_walk 306 = .ok (.goto (-226), 3) := by decide +kernel
theorem dX9_walk_309 : decode cX9_walk 309 = .ok (.lload 10, 2) := by decide +kernel
theorem dX9_walk_311 : decode cX9_walk 311 = .ok (.lconst 0, 1) := by decide +kernel
theorem dX9_walk_312 : decode cX9_walk 312 = .ok (.lcmp, 1) := by decide +kernel
theorem dX9_walk_313 : decode cX9_walk 313 = .ok (.ifCond .ge 4, 3) := by decide +kernel
theorem dX9_walk_316 : decode cX9_walk 316 = .ok (.return_, 1) := by decide +kernel
theorem dX9_walk_317 : decode cX9_walk 317 = .ok (.aload_n 0, 1) := by decide +kernel
theorem dX9_walk_318 : decode cX9_walk 318 = .ok (.getfield 251, 3) := by decide +kernel
theorem dX9_walk_321 : decode cX9_walk 321 = .ok (.lconst 0, 1) := by decide +kernel
theorem dX9_walk_322 : decode cX9_walk 322 = .ok (.lcmp, 1) := by decide +kernel
theorem dX9_walk_323 : decode cX9_walk 323 = .ok (.ifCond .ne 11, 3) := by decide +kernel
theorem dX9_walk_326 : decode cX9_walk 326 = .ok (.aload_n 0, 1) := by decide +kernel
theorem dX9_walk_327 : decode cX9_walk 327 = .ok (.lload 8, 2) := by decide +kernel
theorem dX9_walk_329 : decode cX9_walk 329 = .ok (.lconst 1, 1) := by decide +kernel
theorem dX9_walk_330 : decode cX9_walk 330 = .ok (.lsub, 1) := by decide +kernel
theorem dX9_walk_331 : decode cX9_walk 331 = .ok (.putfield 257, 3) := by decide +kernel
theorem dX9_walk_334 : decode cX9_walk 334 = .ok (.lload 8, 2) := by decide +kernel
theorem dX9_walk_336 : decode cX9_walk 336 = .ok (.lstore 12, 2) := by decide +kernel
theorem dX9_walk_338 : decode cX9_walk 338 = .ok (.lload 12, 2) := by decide +kernel
theorem dX9_walk_340 : decode cX9_walk 340 = .ok (.lload 10, 2) := by decide +kernel
theorem dX9_walk_342 : decode cX9_walk 342 = .ok (.lcmp, 1) := by decide +kernel
theorem dX9_walk_343 : decode cX9_walk 343 = .ok (.ifCond .ge 87, 3) := by decide +kernel
theorem dX9_walk_346 : decode cX9_walk 346 = .ok (.iconst 0, 1) := by decide +kernel
theorem dX9_walk_347 : decode cX9_walk 347 = .ok (.istore 14, 2) := by decide +kernel
theorem dX9_walk_349 : decode cX9_walk 349 = .ok (.iload 14, 2) := by decide +kernel
theorem dX9_walk_351 : decode cX9_walk 351 = .ok (.bipush 8, 2) := by decide +kernel
theorem dX9_walk_353 : decode cX9_walk 353 = .ok (.if_icmp .ge 68, 3) := by decide +kernel
theorem dX9_walk_356 : decode cX9_walk 356 = .ok (.lload 12, 2) := by decide +kernel
theorem dX9_walk_358 : decode cX9_walk 358 = .ok (.aload_n 0, 1) := by decide +kernel
theorem dX9_walk_359 : decode cX9_walk 359 = .ok (.iload 14, 2) := by decide +kernel
theorem dX9_walk_361 : decode cX9_walk 361 = .ok (.bipush 7, 2) := by decide +kernel
theorem dX9_walk_363 : decode cX9_walk 363 = .ok (.invokevirtual 161, 3) := by decide +kernel
theorem dX9_walk_366 : decode cX9_walk 366 = .ok (.i2l, 1) := by decide +kernel
theorem dX9_walk_367 : decode cX9_walk 367 = .ok (.lsub, 1) := by decide +kernel
theorem dX9_walk_368 : decode cX9_walk 368 = .ok (.lstore 15, 2) := by decide +kernel
theorem dX9_walk_370 : decode cX9_walk 370 = .ok (.lload 15, 2) := by decide +kernel
theorem dX9_walk_372 : decode cX9_walk 372 = .ok (.aload_n 0, 1) := by decide +kernel
theorem dX9_walk_373 : decode cX9_walk 373 = .ok (.getfield 132, 3) := by decide +kernel
theorem dX9_walk_376 : decode cX9_walk 376 = .ok (.iload 14, 2) := by decide +kernel
theorem dX9_walk_378 : decode cX9_walk 378 = .ok (.iaload, 1) := by decide +kernel
theorem dX9_walk_379 : decode cX9_walk 379 = .ok (.i2l, 1) := by decide +kernel
theorem dX9_walk_380 : decode cX9_walk 380 = .ok (.lcmp, 1) := by decide +kernel
theorem dX9_walk_381 : decode cX9_walk 381 = .ok (.ifCond .lt 34, 3) := by decide +kernel
theorem dX9_walk_384 : decode cX9_walk 384 = .ok (.lload 15, 2) := by decide +kernel
theorem dX9_walk_386 : decode cX9_walk 386 = .ok (.aload_n 0, 1) := by decide +kernel
theorem dX9_walk_387 : decode cX9_walk 387 = .ok (.getfield 135, 3) := by decide +kernel
theorem dX9_walk_390 : decode cX9_walk 390 = .ok (.iload 14, 2) := by decide +kernel
theorem dX9_walk_392 : decode cX9_walk 392 = .ok (.iaload, 1) := by decide +kernel
theorem dX9_walk_393 : decode cX9_walk 393 = .ok (.i2l, 1) := by decide +kernel
theorem dX9_walk_394 : decode cX9_walk 394 = .ok (.lcmp, 1) := by decide +kernel
theorem dX9_walk_395 : decode cX9_walk 395 = .ok (.ifCond .ge 20, 3) := by decide +kernel
theorem dX9_walk_398 : decode cX9_walk 398 = .ok (.aload_n 0, 1) := by decide +kernel
theorem dX9_walk_399 : decode cX9_walk 399 = .ok (.iload 14, 2) := by decide +kernel
theorem dX9_walk_401 : decode cX9_walk 401 = .ok (.lload 15, 2) := by decide +kernel
theorem dX9_walk_403 : decode cX9_walk 403 = .ok (.l2i, 1) := by decide +kernel
theorem dX9_walk_404 : decode cX9_walk 404 = .ok (.lload 12, 2) := by decide +kernel
theorem dX9_walk_406 : decode cX9_walk 406 = .ok (.iload_n 2, 1) := by decide +kernel
theorem dX9_walk_407 : decode cX9_walk 407 = .ok (.iload_n 3, 1) := by decide +kernel
theorem dX9_walk_408 : decode cX9_walk 408 = .ok (.iload 4, 2) := by decide +kernel
theorem dX9_walk_410 : decode cX9_walk 410 = .ok (.iload 5, 2) := by decide +kernel
theorem dX9_walk_412 : decode cX9_walk 412 = .ok (.invokevirtual 294, 3) := by decide +kernel
theorem dX9_walk_415 : decode cX9_walk 415 = .ok (.iinc 14 1, 3) := by decide +kernel
theorem dX9_walk_418 : decode cX9_walk 418 = .ok (.goto (-69), 3) := by decide +kernel
theorem dX9_walk_421 : decode cX9_walk 421 = .ok (.lload 12, 2) := by decide +kernel
theorem dX9_walk_423 : decode cX9_walk 423 = .ok (.lconst 1, 1) := by decide +kernel
theorem dX9_walk_424 : decode cX9_walk 424 = .ok (.ladd, 1) := by decide +kernel
theorem dX9_walk_425 : decode cX9_walk 425 = .ok (.lstore 12, 2) := by decide +kernel
theorem dX9_walk_427 : decode cX9_walk 427 = .ok (.goto (-89), 3) := by decide +kernel
theorem dX9_walk_430 : decode cX9_walk 430 = .ok (.return_, 1) := by decide +kernel
set_option maxHeartbeats 4000000 in
set_option maxRecDepth 100000 in
theorem g_X9_walk (l : Launch) (G : xG) (S : yS) (d : yD) (h0 : Nat) (p0 : Int32) (p1 : Int32) (p2 : Int32) (p3 : Int32) (p4 : Int32) (hSh : ySh S) (hPo : yPo S d) (hm_h0 : h0 ∈ S.1) (hk_h0 : S.2.1 h0 = 9) (hI : yMI S d h0) (hr_p0 : 0 ≤ (p0 : Int32).toInt ∧ (p0 : Int32).toInt ≤ 7) (hr_p3 : -1 ≤ (p3 : Int32).toInt ∧ (p3 : Int32).toInt ≤ 59) (hz_p1 : p1 = 0 ∨ p1 = 1) : xWv l G yX9_walk cX9_walk 17 none 5 119 0 0 [.ref h0, .int p0, .int p1, .int p2, .int p3, .int p4] (yW G S d) (fun u : yD => yAg S [9, 74, 75, 77, 78] d u ∧ (yPo S d → yPo S u) ∧ yK [54, 55, 57, 62, 63, 64, 65] d u h0 ∧ (yMI S u h0)) (fun u => yW G S u) := by
  intro sz
  refine xstart (by decide) (Nat.le_of_ble_eq_true rfl) (fun p e s m args below meth c ls C0 hr hlocks hin hsz hP hK hD hN hl => ?_)
  obtain ⟨hx, hb, hml, hown, htl⟩ := id C0
  subst hsz
  have hD := hD.self (sz := s.heap.size)
  generalize hAe : va_A (yW G S d) s.heap.size = A at hD ⊢
  have hA : ∀ q : Nat, s.heap.size ≤ q → A q := fun q h => by rw [← hAe]; exact Or.inr h
  have hS : va_S A s.heap s.heap [] := va_S.rf
  have hg0 : yAg S [9, 74, 75, 77, 78] d d := yAg.rf
  have hl : lv_has ls 17 [(0, .ref h0), (1, .int p0), (2, .int p1), (3, .int p2), (4, .int p3), (5, .int p4)] := hl
  refine lv_aload_n hx hb dX9_walk_0 rfl (lv_at hl 0 rfl) ?_
  refine yget (ci := 9) (k := 11) (v := .ref (S.2.2.1 h0 11)) (C := RX9) (T := TX9) (N := 67) C0 hK hP hm_h0 hk_h0 (by decide) rfl inlX9 (by decide) mW116 (fun _ h9 => h9) rfl dX9_walk_1 ?_
  obtain ⟨hmy_1, hky_1⟩ := ySh.f9_11 hSh _ hm_h0 hk_h0
  refine lv_bipush (v := 12) hx hb dX9_walk_4 (by decide) ?_
  refine lv_iload_n hx hb dX9_walk_6 rfl (lv_at hl 1 rfl) ?_
  refine lv_imul hx hb dX9_walk_7 ?_
  refine lv_topi (fun z_2 ez_2 => ?_)
  refine lv_bipush (v := 10) hx hb dX9_walk_8 (by decide) ?_
  refine lv_iadd hx hb dX9_walk_10 ?_
  refine lv_topi (fun z_3 ez_3 => ?_)
  have hCC_4 := yMI.c hI
  have T_6 : (z_2 : Int32).toInt = 12 * (p0 : Int32).toInt := tmul ez_2 (by decide +kernel : (12 : Int32).toInt = 12) (rfl : (p0 : Int32).toInt = (p0 : Int32).toInt) (by omega) (by omega)
  have T_5 : (z_3 : Int32).toInt = (z_2 : Int32).toInt + 10 := tadd ez_3 (rfl : (z_2 : Int32).toInt = (z_2 : Int32).toInt) (by decide +kernel : (10 : Int32).toInt = 10) (by omega) (by omega)
  refine yaldJ C0 hK hP hmy_1 hky_1 (by decide) rfl 4 rfl (xinT 96 rfl (by omega) (by omega)) dX9_walk_11 ?_
  refine lv_topl (fun z_7 ez_7 => ?_)
  refine lv_lstore (lv' := [(6, .long z_7), (0, .ref h0), (1, .int p0), (2, .int p1), (3, .int p2), (4, .int p3), (5, .int p4)]) hx hb dX9_walk_12 hl (by decide) rfl (fun ls hl => ?_)
  refine lv_aload_n hx hb dX9_walk_14 rfl (lv_at hl 1 rfl) ?_
  refine lv_lconst (v := 0) hx hb dX9_walk_15 (by decide) ?_
  refine yputJ (ci := 9) (k := 58) (C := RX9) (T := TX9) (N := 67) C0 hK hP hD hS hm_h0 hk_h0 (by decide) rfl inlX9 tyX9 tyX9_ok nmX9 (by decide) mW873 (fun _ h9 => h9) rfl (by decide +kernel) (Nat.le_of_ble_eq_true rfl) ysj_9_58 dX9_walk_16 (fun H locs hP hD hS => ?_)
  obtain ⟨d_8, ed_8⟩ : ∃ z : yD, z = yj d h0 58 0 := ⟨_, rfl⟩
  rw [← ed_8] at hP hD
  have hgd_8 : yAg S [9, 74, 75, 77, 78] d d_8 := by rw [ed_8]; exact yAg.j hg0 (by rw [hk_h0]; decide)
  have hPod_8 : yPo S d_8 := by rw [ed_8]; exact hPo
  have hfd_8 : yK [54, 55, 57, 62, 63, 64, 65] d d_8 h0 := yK.ag yK.rf (show yAg S [9] d d_8 from by rw [ed_8]; exact yAg.j yAg.rf (by rw [hk_h0]; decide)) (by rw [hk_h0]; decide)
  have hId_8 : yMI S d_8 h0 := yMI.ag hI hSh hm_h0 hk_h0 (show yAg S [9] d d_8 from by rw [ed_8]; exact yAg.j yAg.rf (by rw [hk_h0]; decide)) (yK.ag (F := []) yK.rf (show yAg S [9] d d_8 from by rw [ed_8]; exact yAg.j yAg.rf (by rw [hk_h0]; decide)) (by rw [hk_h0]; decide)) (by decide) (by decide)
  have hE0d_8 : (d_8.1 h0 0).toInt = (d.1 h0 0).toInt := congrArg Int32.toInt ((yK.ag (F := []) yK.rf (show yAg S [9] d d_8 from by rw [ed_8]; exact yAg.j yAg.rf (by rw [hk_h0]; decide)) (by rw [hk_h0]; decide)) 0 (by decide))
  have hE1d_8 : (d_8.1 h0 1).toInt = (d.1 h0 1).toInt := congrArg Int32.toInt ((yK.ag (F := []) yK.rf (show yAg S [9] d d_8 from by rw [ed_8]; exact yAg.j yAg.rf (by rw [hk_h0]; decide)) (by rw [hk_h0]; decide)) 1 (by decide))
  have hE2d_8 : (d_8.1 h0 2).toInt = (d.1 h0 2).toInt := congrArg Int32.toInt ((yK.ag (F := []) yK.rf (show yAg S [9] d d_8 from by rw [ed_8]; exact yAg.j yAg.rf (by rw [hk_h0]; decide)) (by rw [hk_h0]; decide)) 2 (by decide))
  have hE3d_8 : (d_8.1 h0 3).toInt = (d.1 h0 3).toInt := congrArg Int32.toInt ((yK.ag (F := []) yK.rf (show yAg S [9] d d_8 from by rw [ed_8]; exact yAg.j yAg.rf (by rw [hk_h0]; decide)) (by rw [hk_h0]; decide)) 3 (by decide))
  have hE63d_8 : (d_8.1 h0 63).toInt = (d.1 h0 63).toInt := congrArg Int32.toInt ((yK.ag (F := []) yK.rf (show yAg S [9] d d_8 from by rw [ed_8]; exact yAg.j yAg.rf (by rw [hk_h0]; decide)) (by rw [hk_h0]; decide)) 63 (by decide))
  refine lv_aload_n hx hb dX9_walk_19 rfl (lv_at hl 1 rfl) ?_
  refine lv_lconst (v := 0) hx hb dX9_walk_20 (by decide) ?_
  refine yputJ (ci := 9) (k := 59) (C := RX9) (T := TX9) (N := 67) C0 hK hP hD hS hm_h0 hk_h0 (by decide) rfl inlX9 tyX9 tyX9_ok nmX9 (by decide) mW874 (fun _ h9 => h9) rfl (by decide +kernel) (Nat.le_of_ble_eq_true rfl) ysj_9_59 dX9_walk_21 (fun H locs hP hD hS => ?_)
  obtain ⟨d_9, ed_9⟩ : ∃ z : yD, z = yj d_8 h0 59 0 := ⟨_, rfl⟩
  rw [← ed_9] at hP hD
  have hgd_9 : yAg S [9, 74, 75, 77, 78] d d_9 := by rw [ed_9]; exact yAg.j hgd_8 (by rw [hk_h0]; decide)
  have hPod_9 : yPo S d_9 := by rw [ed_9]; exact hPod_8
  have hfd_9 : yK [54, 55, 57, 62, 63, 64, 65] d d_9 h0 := yK.ag hfd_8 (show yAg S [9] d_8 d_9 from by rw [ed_9]; exact yAg.j yAg.rf (by rw [hk_h0]; decide)) (by rw [hk_h0]; decide)
  have hId_9 : yMI S d_9 h0 := yMI.ag hId_8 hSh hm_h0 hk_h0 (show yAg S [9] d_8 d_9 from by rw [ed_9]; exact yAg.j yAg.rf (by rw [hk_h0]; decide)) (yK.ag (F := []) yK.rf (show yAg S [9] d_8 d_9 from by rw [ed_9]; exact yAg.j yAg.rf (by rw [hk_h0]; decide)) (by rw [hk_h0]; decide)) (by decide) (by decide)
  have hE0d_9 : (d_9.1 h0 0).toInt = (d_8.1 h0 0).toInt := congrArg Int32.toInt ((yK.ag (F := []) yK.rf (show yAg S [9] d_8 d_9 from by rw [ed_9]; exact yAg.j yAg.rf (by rw [hk_h0]; decide)) (by rw [hk_h0]; decide)) 0 (by decide))
  have hE1d_9 : (d_9.1 h0 1).toInt = (d_8.1 h0 1).toInt := congrArg Int32.toInt ((yK.ag (F := []) yK.rf (show yAg S [9] d_8 d_9 from by rw [ed_9]; exact yAg.j yAg.rf (by rw [hk_h0]; decide)) (by rw [hk_h0]; decide)) 1 (by decide))
  have hE2d_9 : (d_9.1 h0 2).toInt = (d_8.1 h0 2).toInt := congrArg Int32.toInt ((yK.ag (F := []) yK.rf (show yAg S [9] d_8 d_9 from by rw [ed_9]; exact yAg.j yAg.rf (by rw [hk_h0]; decide)) (by rw [hk_h0]; decide)) 2 (by decide))
  have hE3d_9 : (d_9.1 h0 3).toInt = (d_8.1 h0 3).toInt := congrArg Int32.toInt ((yK.ag (F := []) yK.rf (show yAg S [9] d_8 d_9 from by rw [ed_9]; exact yAg.j yAg.rf (by rw [hk_h0]; decide)) (by rw [hk_h0]; decide)) 3 (by decide))
  have hE63d_9 : (d_9.1 h0 63).toInt = (d_8.1 h0 63).toInt := congrArg Int32.toInt ((yK.ag (F := []) yK.rf (show yAg S [9] d_8 d_9 from by rw [ed_9]; exact yAg.j yAg.rf (by rw [hk_h0]; decide)) (by rw [hk_h0]; decide)) 63 (by decide))
  refine lv_aload_n hx hb dX9_walk_24 rfl (lv_at hl 1 rfl) ?_
  refine lv_lconst (v := 0) hx hb dX9_walk_25 (by decide) ?_
  refine yputJ (ci := 9) (k := 60) (C := RX9) (T := TX9) (N := 67) C0 hK hP hD hS hm_h0 hk_h0 (by decide) rfl inlX9 tyX9 tyX9_ok nmX9 (by decide) mW875 (fun _ h9 => h9) rfl (by decide +kernel) (Nat.le_of_ble_eq_true rfl) ysj_9_60 dX9_walk_26 (fun H locs hP hD hS => ?_)
  obtain ⟨d_10, ed_10⟩ : ∃ z : yD, z = yj d_9 h0 60 0 := ⟨_, rfl⟩
  rw [← ed_10] at hP hD
  have hgd_10 : yAg S [9, 74, 75, 77, 78] d d_10 := by rw [ed_10]; exact yAg.j hgd_9 (by rw [hk_h0]; decide)
  have hPod_10 : yPo S d_10 := by rw [ed_10]; exact hPod_9
  have hfd_10 : yK [54, 55, 57, 62, 63, 64, 65] d d_10 h0 := yK.ag hfd_9 (show yAg S [9] d_9 d_10 from by rw [ed_10]; exact yAg.j yAg.rf (by rw [hk_h0]; decide)) (by rw [hk_h0]; decide)
  have hId_10 : yMI S d_10 h0 := yMI.ag hId_9 hSh hm_h0 hk_h0 (show yAg S [9] d_9 d_10 from by rw [ed_10]; exact yAg.j yAg.rf (by rw [hk_h0]; decide)) (yK.ag (F := []) yK.rf (show yAg S [9] d_9 d_10 from by rw [ed_10]; exact yAg.j yAg.rf (by rw [hk_h0]; decide)) (by rw [hk_h0]; decide)) (by decide) (by decide)
  have hE0d_10 : (d_10.1 h0 0).toInt = (d_9.1 h0 0).toInt := congrArg Int32.toInt ((yK.ag (F := []) yK.rf (show yAg S [9] d_9 d_10 from by rw [ed_10]; exact yAg.j yAg.rf (by rw [hk_h0]; decide)) (by rw [hk_h0]; decide)) 0 (by decide))
  have hE1d_10 : (d_10.1 h0 1).toInt = (d_9.1 h0 1).toInt := congrArg Int32.toInt ((yK.ag (F := []) yK.rf (show yAg S [9] d_9 d_10 from by rw [ed_10]; exact yAg.j yAg.rf (by rw [hk_h0]; decide)) (by rw [hk_h0]; decide)) 1 (by decide))
  have hE2d_10 : (d_10.1 h0 2).toInt = (d_9.1 h0 2).toInt := congrArg Int32.toInt ((yK.ag (F := []) yK.rf (show yAg S [9] d_9 d_10 from by rw [ed_10]; exact yAg.j yAg.rf (by rw [hk_h0]; decide)) (by rw [hk_h0]; decide)) 2 (by decide))
  have hE3d_10 : (d_10.1 h0 3).toInt = (d_9.1 h0 3).toInt := congrArg Int32.toInt ((yK.ag (F := []) yK.rf (show yAg S [9] d_9 d_10 from by rw [ed_10]; exact yAg.j yAg.rf (by rw [hk_h0]; decide)) (by rw [hk_h0]; decide)) 3 (by decide))
  have hE63d_10 : (d_10.1 h0 63).toInt = (d_9.1 h0 63).toInt := congrArg Int32.toInt ((yK.ag (F := []) yK.rf (show yAg S [9] d_9 d_10 from by rw [ed_10]; exact yAg.j yAg.rf (by rw [hk_h0]; decide)) (by rw [hk_h0]; decide)) 63 (by decide))
  refine lv_aload_n hx hb dX9_walk_29 rfl (lv_at hl 1 rfl) ?_
  refine lv_ldc2 (v := (-1)) hx hb hown (htl (.constantLong RX9 193 (-1)) mW369) dX9_walk_30 ?_
  refine yputJ (ci := 9) (k := 61) (C := RX9) (T := TX9) (N := 67) C0 hK hP hD hS hm_h0 hk_h0 (by decide) rfl inlX9 tyX9 tyX9_ok nmX9 (by decide) mW876 (fun _ h9 => h9) rfl (by decide +kernel) (Nat.le_of_ble_eq_true rfl) ysj_9_61 dX9_walk_33 (fun H locs hP hD hS => ?_)
  obtain ⟨d_11, ed_11⟩ : ∃ z : yD, z = yj d_10 h0 61 (-1) := ⟨_, rfl⟩
  rw [← ed_11] at hP hD
  have hgd_11 : yAg S [9, 74, 75, 77, 78] d d_11 := by rw [ed_11]; exact yAg.j hgd_10 (by rw [hk_h0]; decide)
  have hPod_11 : yPo S d_11 := by rw [ed_11]; exact hPod_10
  have hfd_11 : yK [54, 55, 57, 62, 63, 64, 65] d d_11 h0 := yK.ag hfd_10 (show yAg S [9] d_10 d_11 from by rw [ed_11]; exact yAg.j yAg.rf (by rw [hk_h0]; decide)) (by rw [hk_h0]; decide)
  have hId_11 : yMI S d_11 h0 := yMI.ag hId_10 hSh hm_h0 hk_h0 (show yAg S [9] d_10 d_11 from by rw [ed_11]; exact yAg.j yAg.rf (by rw [hk_h0]; decide)) (yK.ag (F := []) yK.rf (show yAg S [9] d_10 d_11 from by rw [ed_11]; exact yAg.j yAg.rf (by rw [hk_h0]; decide)) (by rw [hk_h0]; decide)) (by decide) (by decide)
  have hE0d_11 : (d_11.1 h0 0).toInt = (d_10.1 h0 0).toInt := congrArg Int32.toInt ((yK.ag (F := []) yK.rf (show yAg S [9] d_10 d_11 from by rw [ed_11]; exact yAg.j yAg.rf (by rw [hk_h0]; decide)) (by rw [hk_h0]; decide)) 0 (by decide))
  have hE1d_11 : (d_11.1 h0 1).toInt = (d_10.1 h0 1).toInt := congrArg Int32.toInt ((yK.ag (F := []) yK.rf (show yAg S [9] d_10 d_11 from by rw [ed_11]; exact yAg.j yAg.rf (by rw [hk_h0]; decide)) (by rw [hk_h0]; decide)) 1 (by decide))
  have hE2d_11 : (d_11.1 h0 2).toInt = (d_10.1 h0 2).toInt := congrArg Int32.toInt ((yK.ag (F := []) yK.rf (show yAg S [9] d_10 d_11 from by rw [ed_11]; exact yAg.j yAg.rf (by rw [hk_h0]; decide)) (by rw [hk_h0]; decide)) 2 (by decide))
  have hE3d_11 : (d_11.1 h0 3).toInt = (d_10.1 h0 3).toInt := congrArg Int32.toInt ((yK.ag (F := []) yK.rf (show yAg S [9] d_10 d_11 from by rw [ed_11]; exact yAg.j yAg.rf (by rw [hk_h0]; decide)) (by rw [hk_h0]; decide)) 3 (by decide))
  have hE63d_11 : (d_11.1 h0 63).toInt = (d_10.1 h0 63).toInt := congrArg Int32.toInt ((yK.ag (F := []) yK.rf (show yAg S [9] d_10 d_11 from by rw [ed_11]; exact yAg.j yAg.rf (by rw [hk_h0]; decide)) (by rw [hk_h0]; decide)) 63 (by decide))
  refine lv_aload_n hx hb dX9_walk_36 rfl (lv_at hl 1 rfl) ?_
  refine lv_iconst (v := 0) hx hb dX9_walk_37 (by decide) ?_
  refine yputI (ci := 9) (k := 62) (ty := .int) (C := RX9) (T := TX9) (N := 67) C0 hK hP hD hS hm_h0 hk_h0 (by decide) rfl inlX9 tyX9 tyX9_ok nmX9 (by decide) mW877 (fun _ h9 => h9) rfl (by decide +kernel) rfl rfl (Nat.le_of_ble_eq_true rfl) ysi_9_62 dX9_walk_38 (fun H locs hP hD hS => ?_)
  obtain ⟨d_12, ed_12⟩ : ∃ z : yD, z = yi d_11 h0 62 0 := ⟨_, rfl⟩
  rw [← ed_12] at hP hD
  have hgd_12 : yAg S [9, 74, 75, 77, 78] d d_12 := by rw [ed_12]; exact yAg.i hgd_11 (by rw [hk_h0]; decide)
  have hPod_12 : yPo S d_12 := by rw [ed_12]; exact yPo.i hPod_11 hk_h0 (Or.inl rfl)
  have hfd_12 : yK [54, 55, 57, 62, 63, 64, 65] d d_12 h0 := by rw [ed_12]; exact yK.i hfd_11 (by decide)
  have hId_12 : yMI S d_12 h0 := yMI.ag hId_11 hSh hm_h0 hk_h0 (show yAg S [9] d_11 d_12 from by rw [ed_12]; exact yAg.i yAg.rf (by rw [hk_h0]; decide)) (show yK [62] d_11 d_12 h0 from by rw [ed_12]; exact yK.i yK.rf (by decide)) (by decide) (by decide)
  have hE0d_12 : (d_12.1 h0 0).toInt = (d_11.1 h0 0).toInt := congrArg Int32.toInt ((show yK [62] d_11 d_12 h0 from by rw [ed_12]; exact yK.i yK.rf (by decide)) 0 (by decide))
  have hE1d_12 : (d_12.1 h0 1).toInt = (d_11.1 h0 1).toInt := congrArg Int32.toInt ((show yK [62] d_11 d_12 h0 from by rw [ed_12]; exact yK.i yK.rf (by decide)) 1 (by decide))
  have hE2d_12 : (d_12.1 h0 2).toInt = (d_11.1 h0 2).toInt := congrArg Int32.toInt ((show yK [62] d_11 d_12 h0 from by rw [ed_12]; exact yK.i yK.rf (by decide)) 2 (by decide))
  have hE3d_12 : (d_12.1 h0 3).toInt = (d_11.1 h0 3).toInt := congrArg Int32.toInt ((show yK [62] d_11 d_12 h0 from by rw [ed_12]; exact yK.i yK.rf (by decide)) 3 (by decide))
  have hE63d_12 : (d_12.1 h0 63).toInt = (d_11.1 h0 63).toInt := congrArg Int32.toInt ((show yK [62] d_11 d_12 h0 from by rw [ed_12]; exact yK.i yK.rf (by decide)) 63 (by decide))
  refine lv_aload_n hx hb dX9_walk_41 rfl (lv_at hl 1 rfl) ?_
  refine lv_bipush (v := (-4)) hx hb dX9_walk_42 (by decide) ?_
  refine yputI (ci := 9) (k := 54) (ty := .int) (C := RX9) (T := TX9) (N := 67) C0 hK hP hD hS hm_h0 hk_h0 (by decide) rfl inlX9 tyX9 tyX9_ok nmX9 (by decide) mW878 (fun _ h9 => h9) rfl (by decide +kernel) rfl rfl (Nat.le_of_ble_eq_true rfl) ysi_9_54 dX9_walk_44 (fun H locs hP hD hS => ?_)
  obtain ⟨d_13, ed_13⟩ : ∃ z : yD, z = yi d_12 h0 54 (-4) := ⟨_, rfl⟩
  rw [← ed_13] at hP hD
  have hgd_13 : yAg S [9, 74, 75, 77, 78] d d_13 := by rw [ed_13]; exact yAg.i hgd_12 (by rw [hk_h0]; decide)
  have hPod_13 : yPo S d_13 := by rw [ed_13]; exact yPo.i hPod_12 hk_h0 (Or.inl rfl)
  have hfd_13 : yK [54, 55, 57, 62, 63, 64, 65] d d_13 h0 := by rw [ed_13]; exact yK.i hfd_12 (by decide)
  have hId_13 : yMI S d_13 h0 := yMI.ag hId_12 hSh hm_h0 hk_h0 (show yAg S [9] d_12 d_13 from by rw [ed_13]; exact yAg.i yAg.rf (by rw [hk_h0]; decide)) (show yK [54] d_12 d_13 h0 from by rw [ed_13]; exact yK.i yK.rf (by decide)) (by decide) (by decide)
  have hE0d_13 : (d_13.1 h0 0).toInt = (d_12.1 h0 0).toInt := congrArg Int32.toInt ((show yK [54] d_12 d_13 h0 from by rw [ed_13]; exact yK.i yK.rf (by decide)) 0 (by decide))
  have hE1d_13 : (d_13.1 h0 1).toInt = (d_12.1 h0 1).toInt := congrArg Int32.toInt ((show yK [54] d_12 d_13 h0 from by rw [ed_13]; exact yK.i yK.rf (by decide)) 1 (by decide))
  have hE2d_13 : (d_13.1 h0 2).toInt = (d_12.1 h0 2).toInt := congrArg Int32.toInt ((show yK [54] d_12 d_13 h0 from by rw [ed_13]; exact yK.i yK.rf (by decide)) 2 (by decide))
  have hE3d_13 : (d_13.1 h0 3).toInt = (d_12.1 h0 3).toInt := congrArg Int32.toInt ((show yK [54] d_12 d_13 h0 from by rw [ed_13]; exact yK.i yK.rf (by decide)) 3 (by decide))
  have hE63d_13 : (d_13.1 h0 63).toInt = (d_12.1 h0 63).toInt := congrArg Int32.toInt ((show yK [54] d_12 d_13 h0 from by rw [ed_13]; exact yK.i yK.rf (by decide)) 63 (by decide))
  refine lv_aload_n hx hb dX9_walk_47 rfl (lv_at hl 1 rfl) ?_
  refine lv_iconst (v := (-1)) hx hb dX9_walk_48 (by decide) ?_
  refine yputI (ci := 9) (k := 55) (ty := .int) (C := RX9) (T := TX9) (N := 67) C0 hK hP hD hS hm_h0 hk_h0 (by decide) rfl inlX9 tyX9 tyX9_ok nmX9 (by decide) mW856 (fun _ h9 => h9) rfl (by decide +kernel) rfl rfl (Nat.le_of_ble_eq_true rfl) ysi_9_55 dX9_walk_49 (fun H locs hP hD hS => ?_)
  obtain ⟨d_14, ed_14⟩ : ∃ z : yD, z = yi d_13 h0 55 (-1) := ⟨_, rfl⟩
  rw [← ed_14] at hP hD
  have hgd_14 : yAg S [9, 74, 75, 77, 78] d d_14 := by rw [ed_14]; exact yAg.i hgd_13 (by rw [hk_h0]; decide)
  have hPod_14 : yPo S d_14 := by rw [ed_14]; exact yPo.i hPod_13 hk_h0 (Or.inl rfl)
  have hfd_14 : yK [54, 55, 57, 62, 63, 64, 65] d d_14 h0 := by rw [ed_14]; exact yK.i hfd_13 (by decide)
  have hId_14 : yMI S d_14 h0 := yMI.ag hId_13 hSh hm_h0 hk_h0 (show yAg S [9] d_13 d_14 from by rw [ed_14]; exact yAg.i yAg.rf (by rw [hk_h0]; decide)) (show yK [55] d_13 d_14 h0 from by rw [ed_14]; exact yK.i yK.rf (by decide)) (by decide) (by decide)
  have hE0d_14 : (d_14.1 h0 0).toInt = (d_13.1 h0 0).toInt := congrArg Int32.toInt ((show yK [55] d_13 d_14 h0 from by rw [ed_14]; exact yK.i yK.rf (by decide)) 0 (by decide))
  have hE1d_14 : (d_14.1 h0 1).toInt = (d_13.1 h0 1).toInt := congrArg Int32.toInt ((show yK [55] d_13 d_14 h0 from by rw [ed_14]; exact yK.i yK.rf (by decide)) 1 (by decide))
  have hE2d_14 : (d_14.1 h0 2).toInt = (d_13.1 h0 2).toInt := congrArg Int32.toInt ((show yK [55] d_13 d_14 h0 from by rw [ed_14]; exact yK.i yK.rf (by decide)) 2 (by decide))
  have hE3d_14 : (d_14.1 h0 3).toInt = (d_13.1 h0 3).toInt := congrArg Int32.toInt ((show yK [55] d_13 d_14 h0 from by rw [ed_14]; exact yK.i yK.rf (by decide)) 3 (by decide))
  have hE63d_14 : (d_14.1 h0 63).toInt = (d_13.1 h0 63).toInt := congrArg Int32.toInt ((show yK [55] d_13 d_14 h0 from by rw [ed_14]; exact yK.i yK.rf (by decide)) 63 (by decide))
  refine lv_aload_n hx hb dX9_walk_52 rfl (lv_at hl 1 rfl) ?_
  refine lv_lconst (v := 0) hx hb dX9_walk_53 (by decide) ?_
  refine yputJ (ci := 9) (k := 56) (C := RX9) (T := TX9) (N := 67) C0 hK hP hD hS hm_h0 hk_h0 (by decide) rfl inlX9 tyX9 tyX9_ok nmX9 (by decide) mW879 (fun _ h9 => h9) rfl (by decide +kernel) (Nat.le_of_ble_eq_true rfl) ysj_9_56 dX9_walk_54 (fun H locs hP hD hS => ?_)
  obtain ⟨d_15, ed_15⟩ : ∃ z : yD, z = yj d_14 h0 56 0 := ⟨_, rfl⟩
  rw [← ed_15] at hP hD
  have hgd_15 : yAg S [9, 74, 75, 77, 78] d d_15 := by rw [ed_15]; exact yAg.j hgd_14 (by rw [hk_h0]; decide)
  have hPod_15 : yPo S d_15 := by rw [ed_15]; exact hPod_14
  have hfd_15 : yK [54, 55, 57, 62, 63, 64, 65] d d_15 h0 := yK.ag hfd_14 (show yAg S [9] d_14 d_15 from by rw [ed_15]; exact yAg.j yAg.rf (by rw [hk_h0]; decide)) (by rw [hk_h0]; decide)
  have hId_15 : yMI S d_15 h0 := yMI.ag hId_14 hSh hm_h0 hk_h0 (show yAg S [9] d_14 d_15 from by rw [ed_15]; exact yAg.j yAg.rf (by rw [hk_h0]; decide)) (yK.ag (F := []) yK.rf (show yAg S [9] d_14 d_15 from by rw [ed_15]; exact yAg.j yAg.rf (by rw [hk_h0]; decide)) (by rw [hk_h0]; decide)) (by decide) (by decide)
  have hE0d_15 : (d_15.1 h0 0).toInt = (d_14.1 h0 0).toInt := congrArg Int32.toInt ((yK.ag (F := []) yK.rf (show yAg S [9] d_14 d_15 from by rw [ed_15]; exact yAg.j yAg.rf (by rw [hk_h0]; decide)) (by rw [hk_h0]; decide)) 0 (by decide))
  have hE1d_15 : (d_15.1 h0 1).toInt = (d_14.1 h0 1).toInt := congrArg Int32.toInt ((yK.ag (F := []) yK.rf (show yAg S [9] d_14 d_15 from by rw [ed_15]; exact yAg.j yAg.rf (by rw [hk_h0]; decide)) (by rw [hk_h0]; decide)) 1 (by decide))
  have hE2d_15 : (d_15.1 h0 2).toInt = (d_14.1 h0 2).toInt := congrArg Int32.toInt ((yK.ag (F := []) yK.rf (show yAg S [9] d_14 d_15 from by rw [ed_15]; exact yAg.j yAg.rf (by rw [hk_h0]; decide)) (by rw [hk_h0]; decide)) 2 (by decide))
  have hE3d_15 : (d_15.1 h0 3).toInt = (d_14.1 h0 3).toInt := congrArg Int32.toInt ((yK.ag (F := []) yK.rf (show yAg S [9] d_14 d_15 from by rw [ed_15]; exact yAg.j yAg.rf (by rw [hk_h0]; decide)) (by rw [hk_h0]; decide)) 3 (by decide))
  have hE63d_15 : (d_15.1 h0 63).toInt = (d_14.1 h0 63).toInt := congrArg Int32.toInt ((yK.ag (F := []) yK.rf (show yAg S [9] d_14 d_15 from by rw [ed_15]; exact yAg.j yAg.rf (by rw [hk_h0]; decide)) (by rw [hk_h0]; decide)) 63 (by decide))
  refine lv_aload_n hx hb dX9_walk_57 rfl (lv_at hl 1 rfl) ?_
  refine lv_iconst (v := 0) hx hb dX9_walk_58 (by decide) ?_
  refine yputI (ci := 9) (k := 57) (ty := .int) (C := RX9) (T := TX9) (N := 67) C0 hK hP hD hS hm_h0 hk_h0 (by decide) rfl inlX9 tyX9 tyX9_ok nmX9 (by decide) mW880 (fun _ h9 => h9) rfl (by decide +kernel) rfl rfl (Nat.le_of_ble_eq_true rfl) ysi_9_57 dX9_walk_59 (fun H locs hP hD hS => ?_)
  obtain ⟨d_16, ed_16⟩ : ∃ z : yD, z = yi d_15 h0 57 0 := ⟨_, rfl⟩
  rw [← ed_16] at hP hD
  have hgd_16 : yAg S [9, 74, 75, 77, 78] d d_16 := by rw [ed_16]; exact yAg.i hgd_15 (by rw [hk_h0]; decide)
  have hPod_16 : yPo S d_16 := by rw [ed_16]; exact yPo.i hPod_15 hk_h0 (Or.inl rfl)
  have hfd_16 : yK [54, 55, 57, 62, 63, 64, 65] d d_16 h0 := by rw [ed_16]; exact yK.i hfd_15 (by decide)
  have hId_16 : yMI S d_16 h0 := yMI.ag hId_15 hSh hm_h0 hk_h0 (show yAg S [9] d_15 d_16 from by rw [ed_16]; exact yAg.i yAg.rf (by rw [hk_h0]; decide)) (show yK [57] d_15 d_16 h0 from by rw [ed_16]; exact yK.i yK.rf (by decide)) (by decide) (by decide)
  have hE0d_16 : (d_16.1 h0 0).toInt = (d_15.1 h0 0).toInt := congrArg Int32.toInt ((show yK [57] d_15 d_16 h0 from by rw [ed_16]; exact yK.i yK.rf (by decide)) 0 (by decide))
  have hE1d_16 : (d_16.1 h0 1).toInt = (d_15.1 h0 1).toInt := congrArg Int32.toInt ((show yK [57] d_15 d_16 h0 from by rw [ed_16]; exact yK.i yK.rf (by decide)) 1 (by decide))
  have hE2d_16 : (d_16.1 h0 2).toInt = (d_15.1 h0 2).toInt := congrArg Int32.toInt ((show yK [57] d_15 d_16 h0 from by rw [ed_16]; exact yK.i yK.rf (by decide)) 2 (by decide))
  have hE3d_16 : (d_16.1 h0 3).toInt = (d_15.1 h0 3).toInt := congrArg Int32.toInt ((show yK [57] d_15 d_16 h0 from by rw [ed_16]; exact yK.i yK.rf (by decide)) 3 (by decide))
  have hE63d_16 : (d_16.1 h0 63).toInt = (d_15.1 h0 63).toInt := congrArg Int32.toInt ((show yK [57] d_15 d_16 h0 from by rw [ed_16]; exact yK.i yK.rf (by decide)) 63 (by decide))
  refine lv_aload_n hx hb dX9_walk_62 rfl (lv_at hl 1 rfl) ?_
  refine lv_lconst (v := 0) hx hb dX9_walk_63 (by decide) ?_
  refine yputJ (ci := 9) (k := 66) (C := RX9) (T := TX9) (N := 67) C0 hK hP hD hS hm_h0 hk_h0 (by decide) rfl inlX9 tyX9 tyX9_ok nmX9 (by decide) mW881 (fun _ h9 => h9) rfl (by decide +kernel) (Nat.le_of_ble_eq_true rfl) ysj_9_66 dX9_walk_64 (fun H locs hP hD hS => ?_)
  obtain ⟨d_17, ed_17⟩ : ∃ z : yD, z = yj d_16 h0 66 0 := ⟨_, rfl⟩
  rw [← ed_17] at hP hD
  have hgd_17 : yAg S [9, 74, 75, 77, 78] d d_17 := by rw [ed_17]; exact yAg.j hgd_16 (by rw [hk_h0]; decide)
  have hPod_17 : yPo S d_17 := by rw [ed_17]; exact hPod_16
  have hfd_17 : yK [54, 55, 57, 62, 63, 64, 65] d d_17 h0 := yK.ag hfd_16 (show yAg S [9] d_16 d_17 from by rw [ed_17]; exact yAg.j yAg.rf (by rw [hk_h0]; decide)) (by rw [hk_h0]; decide)
  have hId_17 : yMI S d_17 h0 := yMI.ag hId_16 hSh hm_h0 hk_h0 (show yAg S [9] d_16 d_17 from by rw [ed_17]; exact yAg.j yAg.rf (by rw [hk_h0]; decide)) (yK.ag (F := []) yK.rf (show yAg S [9] d_16 d_17 from by rw [ed_17]; exact yAg.j yAg.rf (by rw [hk_h0]; decide)) (by rw [hk_h0]; decide)) (by decide) (by decide)
  have hE0d_17 : (d_17.1 h0 0).toInt = (d_16.1 h0 0).toInt := congrArg Int32.toInt ((yK.ag (F := []) yK.rf (show yAg S [9] d_16 d_17 from by rw [ed_17]; exact yAg.j yAg.rf (by rw [hk_h0]; decide)) (by rw [hk_h0]; decide)) 0 (by decide))
  have hE1d_17 : (d_17.1 h0 1).toInt = (d_16.1 h0 1).toInt := congrArg Int32.toInt ((yK.ag (F := []) yK.rf (show yAg S [9] d_16 d_17 from by rw [ed_17]; exact yAg.j yAg.rf (by rw [hk_h0]; decide)) (by rw [hk_h0]; decide)) 1 (by decide))
  have hE2d_17 : (d_17.1 h0 2).toInt = (d_16.1 h0 2).toInt := congrArg Int32.toInt ((yK.ag (F := []) yK.rf (show yAg S [9] d_16 d_17 from by rw [ed_17]; exact yAg.j yAg.rf (by rw [hk_h0]; decide)) (by rw [hk_h0]; decide)) 2 (by decide))
  have hE3d_17 : (d_17.1 h0 3).toInt = (d_16.1 h0 3).toInt := congrArg Int32.toInt ((yK.ag (F := []) yK.rf (show yAg S [9] d_16 d_17 from by rw [ed_17]; exact yAg.j yAg.rf (by rw [hk_h0]; decide)) (by rw [hk_h0]; decide)) 3 (by decide))
  have hE63d_17 : (d_17.1 h0 63).toInt = (d_16.1 h0 63).toInt := congrArg Int32.toInt ((yK.ag (F := []) yK.rf (show yAg S [9] d_16 d_17 from by rw [ed_17]; exact yAg.j yAg.rf (by rw [hk_h0]; decide)) (by rw [hk_h0]; decide)) 63 (by decide))
  refine lv_ldc2 (v := 9223372036854775807) hx hb hown (htl (.constantLong RX9 280 (9223372036854775807)) mW882) dX9_walk_67 ?_
  refine lv_lstore (lv' := [(8, .long 9223372036854775807), (6, .long z_7), (0, .ref h0), (1, .int p0), (2, .int p1), (3, .int p2), (4, .int p3), (5, .int p4)]) hx hb dX9_walk_70 hl (by decide) rfl (fun ls hl => ?_)
  refine lv_ldc2 (v := (-1)) hx hb hown (htl (.constantLong RX9 193 (-1)) mW369) dX9_walk_72 ?_
  refine lv_lstore (lv' := [(10, .long (-1)), (8, .long 9223372036854775807), (6, .long z_7), (0, .ref h0), (1, .int p0), (2, .int p1), (3, .int p2), (4, .int p3), (5, .int p4)]) hx hb dX9_walk_75 hl (by decide) rfl (fun ls hl => ?_)
  refine lv_iconst (v := 0) hx hb dX9_walk_77 (by decide) ?_
  refine lv_istore (lv' := [(12, .int 0), (10, .long (-1)), (8, .long 9223372036854775807), (6, .long z_7), (0, .ref h0), (1, .int p0), (2, .int p1), (3, .int p2), (4, .int p3), (5, .int p4)]) hx hb dX9_walk_78 hl (by decide) rfl (fun ls hl => ?_)
  have hCC_18 := yMI.c hId_17
  refine yloop (σ := Int64 × Int64 × Int32 × yD) (fun x => (2147483647 - (x.2.2.1 : Int32).toInt).toNat) 80 (fun x H locs ls => va_P G.1 xcl (yW G S x.2.2.2) H ∧ va_D A (yW G S x.2.2.2) ∧ va_S A s.heap H locs ∧ yAg S [9, 74, 75, 77, 78] d x.2.2.2 ∧ yPo S x.2.2.2 ∧ yK [54, 55, 57, 62, 63, 64, 65] d x.2.2.2 h0 ∧ yMI S x.2.2.2 h0 ∧ yAg S [9, 74, 75, 77, 78] d_17 x.2.2.2 ∧ yK [62] d_17 x.2.2.2 h0 ∧ (0 ≤ ((x.2.2.1) : Int32).toInt) ∧ lv_has ls 17 [(12, .int x.2.2.1), (10, .long x.2.1), (8, .long x.1), (6, .long z_7), (0, .ref h0), (2, .int p1), (3, .int p2), (4, .int p3), (5, .int p4)]) (fun x H locs ls hI hnext_23 => ?_) (9223372036854775807, (-1), 0, d_17) ⟨hP, hD, hS, hgd_17, hPod_17, hfd_17, hId_17, yAg.rf, yK.rf, (show (0 ≤ ((0) : Int32).toInt) from by have hl0_ : (9223372036854775807 : Int32).toInt = 9223372036854775807 := (by decide +kernel); have hl1_ : ((-1) : Int32).toInt = (-1) := (by decide +kernel); have hl2_ : (0 : Int32).toInt = 0 := (by decide +kernel); have hq0_ : (0 : Int32).toInt = 0 := (by decide +kernel); omega), lv_sub hl [0, 1, 2, 3, 4, 6, 7, 8, 9] rfl⟩
  obtain ⟨v_19, v_20, v_21, d_22⟩ := x
  obtain ⟨hP, hD, hS, hgd_22, hPod_22, hfd_22, hId_22, hLJd_22, hKJd_22, hex_24, hl⟩ := hI
  have hId_22 : yMI S d_22 h0 := hId_22
  have hex_24 : (0 ≤ ((v_21) : Int32).toInt) := hex_24
  have hl : lv_has ls 17 [(12, .int v_21), (10, .long v_20), (8, .long v_19), (6, .long z_7), (0, .ref h0), (2, .int p1), (3, .int p2), (4, .int p3), (5, .int p4)] := hl
  have hLJd_22 : yAg S [9, 74, 75, 77, 78] d_17 d_22 := hLJd_22
  have hKJd_22 : yK [62] d_17 d_22 h0 := hKJd_22
  have hE0d_22 : (d_22.1 h0 0).toInt = (d_17.1 h0 0).toInt := congrArg Int32.toInt (hKJd_22 0 (by decide))
  have hE1d_22 : (d_22.1 h0 1).toInt = (d_17.1 h0 1).toInt := congrArg Int32.toInt (hKJd_22 1 (by decide))
  have hE2d_22 : (d_22.1 h0 2).toInt = (d_17.1 h0 2).toInt := congrArg Int32.toInt (hKJd_22 2 (by decide))
  have hE3d_22 : (d_22.1 h0 3).toInt = (d_17.1 h0 3).toInt := congrArg Int32.toInt (hKJd_22 3 (by decide))
  have hE63d_22 : (d_22.1 h0 63).toInt = (d_17.1 h0 63).toInt := congrArg Int32.toInt (hKJd_22 63 (by decide))
  refine lv_iload hx hb dX9_walk_80 (lv_at hl 0 rfl) ?_
  refine lv_bipush (v := 8) hx hb dX9_walk_82 (by decide) ?_
  refine lv_icmp_ge (tgt := 309) hx hb dX9_walk_84 (by decide) (fun c_25 => ?_) (fun c_25 => ?_)
  · refine lv_lload hx hb dX9_walk_309 (lv_at hl 1 rfl) ?_
    refine lv_lconst (v := 0) hx hb dX9_walk_311 (by decide) ?_
    refine W.lcmp hx hb dX9_walk_312 ?_
    refine lv_topi (fun z_26 ez_26 => ?_)
    refine lv_if_ge (tgt := 317) hx hb dX9_walk_313 (by decide) (fun c_27 => ?_) (fun c_27 => ?_)
    · refine lv_aload_n hx hb dX9_walk_317 rfl (lv_at hl 4 rfl) ?_
      refine yget (ci := 9) (k := 59) (v := .long (d_22.2.1 h0 59)) (C := RX9) (T := TX9) (N := 67) C0 hK hP hm_h0 hk_h0 (by decide) rfl inlX9 (by decide) mW874 (fun _ h9 => h9) rfl dX9_walk_318 ?_
      refine lv_topl (fun z_28 ez_28 => ?_)
      refine lv_lconst (v := 0) hx hb dX9_walk_321 (by decide) ?_
      refine W.lcmp hx hb dX9_walk_322 ?_
      refine lv_topi (fun z_29 ez_29 => ?_)
      refine lv_if_ne (tgt := 334) hx hb dX9_walk_323 (by decide) (fun c_30 => ?_) (fun c_30 => ?_)
      · refine lv_lload hx hb dX9_walk_334 (lv_at hl 2 rfl) ?_
        refine lv_lstore (lv' := [(12, .long v_19), (10, .long v_20), (8, .long v_19), (6, .long z_7), (0, .ref h0), (2, .int p1), (3, .int p2), (4, .int p3), (5, .int p4)]) hx hb dX9_walk_336 hl (by decide) rfl (fun ls hl => ?_)
        have hCC_31 := yMI.c hId_22
        have F_32 := fle (by decide +kernel : (8 : Int32).toInt = 8) (rfl : (v_21 : Int32).toInt = (v_21 : Int32).toInt) c_25
        refine yloop (σ := Int64 × yD) (fun x => ((v_20 : Int64).toInt - (x.1 : Int64).toInt).toNat) 338 (fun x H locs ls => va_P G.1 xcl (yW G S x.2) H ∧ va_D A (yW G S x.2) ∧ va_S A s.heap H locs ∧ yAg S [9, 74, 75, 77, 78] d x.2 ∧ yPo S x.2 ∧ yK [54, 55, 57, 62, 63, 64, 65] d x.2 h0 ∧ yMI S x.2 h0 ∧ yAg S [9, 77, 78] d_22 x.2 ∧ yK [54, 55, 57, 63, 64, 65] d_22 x.2 h0 ∧ (True) ∧ lv_has ls 17 [(12, .long x.1), (10, .long v_20), (0, .ref h0), (2, .int p1), (3, .int p2), (4, .int p3), (5, .int p4)]) (fun x H locs ls hI hnext_35 => ?_) (v_19, d_22) ⟨hP, hD, hS, hgd_22, hPod_22, hfd_22, hId_22, yAg.rf, yK.rf, (show (True) from by have hq0_ : (0 : Int32).toInt = 0 := (by decide +kernel); omega), lv_sub hl [0, 1, 4, 5, 6, 7, 8] rfl⟩
        obtain ⟨v_33, d_34⟩ := x
        obtain ⟨hP, hD, hS, hgd_34, hPod_34, hfd_34, hId_34, hLJd_34, hKJd_34, hex_36, hl⟩ := hI
        have hId_34 : yMI S d_34 h0 := hId_34
        have hex_36 : (True) := hex_36
        have hl : lv_has ls 17 [(12, .long v_33), (10, .long v_20), (0, .ref h0), (2, .int p1), (3, .int p2), (4, .int p3), (5, .int p4)] := hl
        have hLJd_34 : yAg S [9, 77, 78] d_22 d_34 := hLJd_34
        have hKJd_34 : yK [54, 55, 57, 63, 64, 65] d_22 d_34 h0 := hKJd_34
        have hE0d_34 : (d_34.1 h0 0).toInt = (d_22.1 h0 0).toInt := congrArg Int32.toInt (hKJd_34 0 (by decide))
        have hE1d_34 : (d_34.1 h0 1).toInt = (d_22.1 h0 1).toInt := congrArg Int32.toInt (hKJd_34 1 (by decide))
        have hE2d_34 : (d_34.1 h0 2).toInt = (d_22.1 h0 2).toInt := congrArg Int32.toInt (hKJd_34 2 (by decide))
        have hE3d_34 : (d_34.1 h0 3).toInt = (d_22.1 h0 3).toInt := congrArg Int32.toInt (hKJd_34 3 (by decide))
        refine lv_lload hx hb dX9_walk_338 (lv_at hl 0 rfl) ?_
        refine lv_lload hx hb dX9_walk_340 (lv_at hl 1 rfl) ?_
        refine W.lcmp hx hb dX9_walk_342 ?_
        refine lv_topi (fun z_37 ez_37 => ?_)
        refine lv_if_ge (tgt := 430) hx hb dX9_walk_343 (by decide) (fun c_38 => ?_) (fun c_38 => ?_)
        · exact W.vret hx hb hr (fun t ht hW => ⟨⟨d_34, rfl, ⟨hgd_34, (fun _ => hPod_34), hfd_34, hId_34⟩, by rw [ht]; exact hP, hD⟩, hS.F ht⟩) hS.2.2 dX9_walk_430
        · refine lv_iconst (v := 0) hx hb dX9_walk_346 (by decide) ?_
          refine lv_istore (lv' := [(14, .int 0), (12, .long v_33), (10, .long v_20), (0, .ref h0), (2, .int p1), (3, .int p2), (4, .int p3), (5, .int p4)]) hx hb dX9_walk_347 hl (by decide) rfl (fun ls hl => ?_)
          have hCC_39 := yMI.c hId_34
          refine yloop (σ := Int32 × yD) (fun x => (2147483647 - (x.1 : Int32).toInt).toNat) 349 (fun x H locs ls => va_P G.1 xcl (yW G S x.2) H ∧ va_D A (yW G S x.2) ∧ va_S A s.heap H locs ∧ yAg S [9, 74, 75, 77, 78] d x.2 ∧ yPo S x.2 ∧ yK [54, 55, 57, 62, 63, 64, 65] d x.2 h0 ∧ yMI S x.2 h0 ∧ yAg S [9, 77, 78] d_34 x.2 ∧ yK [54, 55, 57, 63, 64, 65] d_34 x.2 h0 ∧ yAg S [9, 77, 78] d_22 x.2 ∧ yK [54, 55, 57, 63, 64, 65] d_22 x.2 h0 ∧ (0 ≤ ((x.1) : Int32).toInt) ∧ lv_has ls 17 [(14, .int x.1), (12, .long v_33), (10, .long v_20), (0, .ref h0), (2, .int p1), (3, .int p2), (4, .int p3), (5, .int p4)]) (fun x H locs ls hI hnext_42 => ?_) (0, d_34) ⟨hP, hD, hS, hgd_34, hPod_34, hfd_34, hId_34, yAg.rf, yK.rf, hLJd_34, hKJd_34, (show (0 ≤ ((0) : Int32).toInt) from by have hl0_ : (0 : Int32).toInt = 0 := (by decide +kernel); have hq0_ : (0 : Int32).toInt = 0 := (by decide +kernel); omega), lv_sub hl [0, 1, 2, 3, 4, 5, 6, 7] rfl⟩
          obtain ⟨v_40, d_41⟩ := x
          obtain ⟨hP, hD, hS, hgd_41, hPod_41, hfd_41, hId_41, hLJd_41, hKJd_41, hL0d_41, hK0d_41, hex_43, hl⟩ := hI
          have hId_41 : yMI S d_41 h0 := hId_41
          have hex_43 : (0 ≤ ((v_40) : Int32).toInt) := hex_43
          have hl : lv_has ls 17 [(14, .int v_40), (12, .long v_33), (10, .long v_20), (0, .ref h0), (2, .int p1), (3, .int p2), (4, .int p3), (5, .int p4)] := hl
          have hLJd_41 : yAg S [9, 77, 78] d_34 d_41 := hLJd_41
          have hKJd_41 : yK [54, 55, 57, 63, 64, 65] d_34 d_41 h0 := hKJd_41
          have hE0d_41 : (d_41.1 h0 0).toInt = (d_34.1 h0 0).toInt := congrArg Int32.toInt (hKJd_41 0 (by decide))
          have hE1d_41 : (d_41.1 h0 1).toInt = (d_34.1 h0 1).toInt := congrArg Int32.toInt (hKJd_41 1 (by decide))
          have hE2d_41 : (d_41.1 h0 2).toInt = (d_34.1 h0 2).toInt := congrArg Int32.toInt (hKJd_41 2 (by decide))
          have hE3d_41 : (d_41.1 h0 3).toInt = (d_34.1 h0 3).toInt := congrArg Int32.toInt (hKJd_41 3 (by decide))
          refine lv_iload hx hb dX9_walk_349 (lv_at hl 0 rfl) ?_
          refine lv_bipush (v := 8) hx hb dX9_walk_351 (by decide) ?_
          refine lv_icmp_ge (tgt := 421) hx hb dX9_walk_353 (by decide) (fun c_44 => ?_) (fun c_44 => ?_)
          · refine lv_lload hx hb dX9_walk_421 (lv_at hl 1 rfl) ?_
            refine lv_lconst (v := 1) hx hb dX9_walk_423 (by decide) ?_
            refine lv_ladd hx hb dX9_walk_424 ?_
            refine lv_topl (fun z_45 ez_45 => ?_)
            refine lv_lstore (lv' := [(12, .long z_45), (14, .int v_40), (10, .long v_20), (0, .ref h0), (2, .int p1), (3, .int p2), (4, .int p3), (5, .int p4)]) hx hb dX9_walk_425 hl (by decide) rfl (fun ls hl => ?_)
            refine lv_goto (tgt := 338) hx hb dX9_walk_427 (by decide) ?_
            have hCC_46 := yMI.c hId_41
            have F_47 := fle (by decide +kernel : (8 : Int32).toInt = 8) (rfl : (v_40 : Int32).toInt = (v_40 : Int32).toInt) c_44
            exact hnext_35 (z_45, d_41) _ _ ls ((xupj ez_45 (jnge ez_37 c_38))) ⟨hP, hD, hS, hgd_41, hPod_41, hfd_41, hId_41, hL0d_41, hK0d_41, (show (True) from by have hq0_ : (0 : Int32).toInt = 0 := (by decide +kernel); omega), lv_sub hl [0, 2, 3, 4, 5, 6, 7] rfl⟩
          · refine lv_lload hx hb dX9_walk_356 (lv_at hl 1 rfl) ?_
            refine lv_aload_n hx hb dX9_walk_358 rfl (lv_at hl 3 rfl) ?_
            refine lv_iload hx hb dX9_walk_359 (lv_at hl 0 rfl) ?_
            refine lv_bipush (v := 7) hx hb dX9_walk_361 (by decide) ?_
            have F_48 := fnle (by decide +kernel : (8 : Int32).toInt = 8) (rfl : (v_40 : Int32).toInt = (v_40 : Int32).toInt) c_44
            refine yVri (As := [.int v_40, .int 7]) (rest := [.long v_33]) C0 (g_X9_of l G S d_41 h0 v_40 7 hSh hm_h0 hk_h0 (by refine ⟨?_, ?_⟩ <;> omega) (by decide +kernel)) ok_X9_of (mW425 : Cond.methodLink RX9 161 yX9_of ∈ wsT) ⟨Nat.le_of_ble_eq_true rfl, Nat.le_of_ble_eq_true rfl⟩ hP hD hK hN hm_h0 hk_h0 (by decide) rfl rfl rfl hl.1 rfl (Nat.le_of_ble_eq_true rfl) ⟨Nat.le_of_ble_eq_true rfl, Nat.le_of_ble_eq_true rfl⟩ dX9_walk_363 (fun r_49 hr_49 => ?_)
            have hOr_49 : (r_49 : Int32).toInt = yOf S d_41 h0 (v_40 : Int32).toInt.toNat 7 := by rw [hr_49, show (7 : Int32).toInt.toNat = 7 by decide +kernel]; rfl
            refine lv_i2l hx hb dX9_walk_366 rfl ?_
            refine lv_topl (fun z_50 ez_50 => ?_)
            refine lv_lsub hx hb dX9_walk_367 ?_
            refine lv_topl (fun z_51 ez_51 => ?_)
            refine lv_lstore (lv' := [(15, .long z_51), (14, .int v_40), (12, .long v_33), (10, .long v_20), (0, .ref h0), (2, .int p1), (3, .int p2), (4, .int p3), (5, .int p4)]) hx hb dX9_walk_368 hl (by decide) rfl (fun ls hl => ?_)
            refine lv_lload hx hb dX9_walk_370 (lv_at hl 0 rfl) ?_
            refine lv_aload_n hx hb dX9_walk_372 rfl (lv_at hl 4 rfl) ?_
            refine yget (ci := 9) (k := 44) (v := .ref (S.2.2.1 h0 44)) (C := RX9) (T := TX9) (N := 67) C0 hK hP hm_h0 hk_h0 (by decide) rfl inlX9 (by decide) mW149 (fun _ h9 => h9) rfl dX9_walk_373 ?_
            obtain ⟨hmy_52, hky_52⟩ := ySh.f9_44 hSh _ hm_h0 hk_h0
            refine lv_iload hx hb dX9_walk_376 (lv_at hl 1 rfl) ?_
            have hCC_53 := yMI.c hId_41
            refine yald C0 hK hP hmy_52 hky_52 (by decide) rfl 0 rfl (xinT 8 rfl (by omega) (by omega)) dX9_walk_378 ?_
            refine lv_topi (fun z_54 ez_54 => ?_)
            have hvz_54 : (-1) ≤ (z_54 : Int32).toInt ∧ (z_54 : Int32).toInt ≤ 229599 := by rw [ez_54]; exact yMI.fr_ hId_41 _
            refine lv_i2l hx hb dX9_walk_379 rfl ?_
            refine lv_topl (fun z_55 ez_55 => ?_)
            refine W.lcmp hx hb dX9_walk_380 ?_
            refine lv_topi (fun z_56 ez_56 => ?_)
            refine lv_if_lt (tgt := 415) hx hb dX9_walk_381 (by decide) (fun c_57 => ?_) (fun c_57 => ?_)
            · refine lv_iinc (v := v_40 + 1) (lv' := [(14, .int (v_40 + 1)), (15, .long z_51), (12, .long v_33), (10, .long v_20), (0, .ref h0), (2, .int p1), (3, .int p2), (4, .int p3), (5, .int p4)]) hx hb dX9_walk_415 hl (k := 1) rfl rfl (by decide) rfl (fun ls hl => ?_)
              refine lv_goto (tgt := 349) hx hb dX9_walk_418 (by decide) ?_
              have T_59 : ((v_40 + 1) : Int32).toInt = (v_40 : Int32).toInt + 1 := tadd rfl (rfl : (v_40 : Int32).toInt = (v_40 : Int32).toInt) (by decide +kernel : (1 : Int32).toInt = 1) (by omega) (by omega)
              exact hnext_42 (v_40 + 1, d_41) _ _ ls (xup c_44) ⟨hP, hD, hS, hgd_41, hPod_41, hfd_41, hId_41, hLJd_41, hKJd_41, hL0d_41, hK0d_41, (show (0 ≤ (((v_40 + 1)) : Int32).toInt) from by have hq0_ : (0 : Int32).toInt = 0 := (by decide +kernel); omega), lv_sub hl [0, 2, 3, 4, 5, 6, 7, 8] rfl⟩
            · refine lv_lload hx hb dX9_walk_384 (lv_at hl 0 rfl) ?_
              refine lv_aload_n hx hb dX9_walk_386 rfl (lv_at hl 4 rfl) ?_
              refine yget (ci := 9) (k := 45) (v := .ref (S.2.2.1 h0 45)) (C := RX9) (T := TX9) (N := 67) C0 hK hP hm_h0 hk_h0 (by decide) rfl inlX9 (by decide) mW150 (fun _ h9 => h9) rfl dX9_walk_387 ?_
              obtain ⟨hmy_60, hky_60⟩ := ySh.f9_45 hSh _ hm_h0 hk_h0
              refine lv_iload hx hb dX9_walk_390 (lv_at hl 1 rfl) ?_
              refine yald C0 hK hP hmy_60 hky_60 (by decide) rfl 0 rfl (xinT 8 rfl (by omega) (by omega)) dX9_walk_392 ?_
              refine lv_topi (fun z_61 ez_61 => ?_)
              have hvz_61 : 0 ≤ (z_61 : Int32).toInt ∧ (z_61 : Int32).toInt ≤ 129600 := by rw [ez_61]; exact yMI.to_ hId_41 _
              refine lv_i2l hx hb dX9_walk_393 rfl ?_
              refine lv_topl (fun z_62 ez_62 => ?_)
              refine W.lcmp hx hb dX9_walk_394 ?_
              refine lv_topi (fun z_63 ez_63 => ?_)
              refine lv_if_ge (tgt := 415) hx hb dX9_walk_395 (by decide) (fun c_64 => ?_) (fun c_64 => ?_)
              · refine lv_iinc (v := v_40 + 1) (lv' := [(14, .int (v_40 + 1)), (15, .long z_51), (12, .long v_33), (10, .long v_20), (0, .ref h0), (2, .int p1), (3, .int p2), (4, .int p3), (5, .int p4)]) hx hb dX9_walk_415 hl (k := 1) rfl rfl (by decide) rfl (fun ls hl => ?_)
                refine lv_goto (tgt := 349) hx hb dX9_walk_418 (by decide) ?_
                have T_66 : ((v_40 + 1) : Int32).toInt = (v_40 : Int32).toInt + 1 := tadd rfl (rfl : (v_40 : Int32).toInt = (v_40 : Int32).toInt) (by decide +kernel : (1 : Int32).toInt = 1) (by omega) (by omega)
                exact hnext_42 (v_40 + 1, d_41) _ _ ls (xup c_44) ⟨hP, hD, hS, hgd_41, hPod_41, hfd_41, hId_41, hLJd_41, hKJd_41, hL0d_41, hK0d_41, (show (0 ≤ (((v_40 + 1)) : Int32).toInt) from by have hq0_ : (0 : Int32).toInt = 0 := (by decide +kernel); omega), lv_sub hl [0, 2, 3, 4, 5, 6, 7, 8] rfl⟩
              · refine lv_aload_n hx hb dX9_walk_398 rfl (lv_at hl 4 rfl) ?_
                refine lv_iload hx hb dX9_walk_399 (lv_at hl 1 rfl) ?_
                refine lv_lload hx hb dX9_walk_401 (lv_at hl 0 rfl) ?_
                refine lv_l2i hx hb dX9_walk_403 rfl ?_
                refine lv_topi (fun z_67 ez_67 => ?_)
                refine lv_lload hx hb dX9_walk_404 (lv_at hl 2 rfl) ?_
                refine lv_iload_n hx hb dX9_walk_406 rfl (lv_at hl 5 rfl) ?_
                refine lv_iload_n hx hb dX9_walk_407 rfl (lv_at hl 6 rfl) ?_
                refine lv_iload hx hb dX9_walk_408 (lv_at hl 7 rfl) ?_
                refine lv_iload hx hb dX9_walk_410 (lv_at hl 8 rfl) ?_
                have T_69 : (0 : Int64).toInt = 0 := by decide +kernel
                have F_70 := jge ez_26 c_27
                have F_72 := jne ez_29 c_30
                have F_73 := jnge ez_37 c_38
                have T_75 : (z_55 : Int64).toInt = (z_54 : Int32).toInt := by rw [ez_55, Int32.toInt_toInt64]
                have F_76 := jnlt ez_56 c_57
                have T_78 : (z_62 : Int64).toInt = (z_61 : Int32).toInt := by rw [ez_62, Int32.toInt_toInt64]
                have F_79 := jnge ez_63 c_64
                have T_68 : (z_67 : Int32).toInt = (z_51 : Int64).toInt := by rw [ez_67]; exact xtrunc (by omega) (by omega)
                refine yVwv (As := [.int v_40, .int z_67, .long v_33, .int p1, .int p2, .int p3, .int p4]) (rest := []) C0 (g_X9_step l G S d_41 h0 v_40 z_67 v_33 p1 p2 p3 p4 hSh hPod_41 hm_h0 hk_h0 hId_41 (by refine ⟨?_, ?_⟩ <;> omega) (by refine ⟨?_, ?_⟩ <;> omega) (by refine ⟨?_, ?_⟩ <;> omega) hz_p1) ok_X9_step (mW884 : Cond.methodLink RX9 294 yX9_step ∈ wsT) ⟨Nat.le_of_ble_eq_true rfl, Nat.le_of_ble_eq_true rfl⟩ hP hD hS hA hK hN hm_h0 hk_h0 (by decide) rfl rfl rfl hl.1 rfl (Nat.le_of_ble_eq_true rfl) ⟨Nat.le_of_ble_eq_true rfl, Nat.le_of_ble_eq_true rfl⟩ dX9_walk_412 (fun d_81 H locs hr_80 hP hD hS => ?_)
                obtain ⟨hgad_81, hpad_81, hfad_81, hxd_81⟩ := hr_80
                have hfd_81 : yK [54, 55, 57, 62, 63, 64, 65] d d_81 h0 := yK.tr hfd_41 hfad_81 (by decide)
                have hE0d_81 : (d_81.1 h0 0).toInt = (d_41.1 h0 0).toInt := congrArg Int32.toInt (hfad_81 0 (by decide))
                have hE1d_81 : (d_81.1 h0 1).toInt = (d_41.1 h0 1).toInt := congrArg Int32.toInt (hfad_81 1 (by decide))
                have hE2d_81 : (d_81.1 h0 2).toInt = (d_41.1 h0 2).toInt := congrArg Int32.toInt (hfad_81 2 (by decide))
                have hE3d_81 : (d_81.1 h0 3).toInt = (d_41.1 h0 3).toInt := congrArg Int32.toInt (hfad_81 3 (by decide))
                have hId_81 : yMI S d_81 h0 := hxd_81
                have hL0d_81 : yAg S [9, 77, 78] d_22 d_81 := yAg.tr hL0d_41 hgad_81 (by first | decide | exact fun _ h => h)
                have hK0d_81 : yK [54, 55, 57, 63, 64, 65] d_22 d_81 h0 := yK.tr hK0d_41 hfad_81 (by decide)
                have hL1d_81 : yAg S [9, 77, 78] d_34 d_81 := yAg.tr hLJd_41 hgad_81 (by first | decide | exact fun _ h => h)
                have hK1d_81 : yK [54, 55, 57, 63, 64, 65] d_34 d_81 h0 := yK.tr hKJd_41 hfad_81 (by decide)
                have hgd_81 : yAg S [9, 74, 75, 77, 78] d d_81 := yAg.tr hgd_41 hgad_81 (by first | decide | exact fun _ h => h)
                have hPod_81 : yPo S d_81 := hpad_81 hPod_41
                refine lv_iinc (v := v_40 + 1) (lv' := [(14, .int (v_40 + 1)), (15, .long z_51), (12, .long v_33), (10, .long v_20), (0, .ref h0), (2, .int p1), (3, .int p2), (4, .int p3), (5, .int p4)]) hx hb dX9_walk_415 hl (k := 1) rfl rfl (by decide) rfl (fun ls hl => ?_)
                refine lv_goto (tgt := 349) hx hb dX9_walk_418 (by decide) ?_
                have hCC_83 := yMI.c hId_81
                have T_84 : ((v_40 + 1) : Int32).toInt = (v_40 : Int32).toInt + 1 := tadd rfl (rfl : (v_40 : Int32).toInt = (v_40 : Int32).toInt) (by decide +kernel : (1 : Int32).toInt = 1) (by omega) (by omega)
                exact hnext_42 (v_40 + 1, d_81) _ _ ls (xup c_44) ⟨hP, hD, hS, hgd_81, hPod_81, hfd_81, hId_81, hL1d_81, hK1d_81, hL0d_81, hK0d_81, (show (0 ≤ (((v_40 + 1)) : Int32).toInt) from by have hq0_ : (0 : Int32).toInt = 0 := (by decide +kernel); omega), lv_sub hl [0, 2, 3, 4, 5, 6, 7, 8] rfl⟩
      · refine lv_aload_n hx hb dX9_walk_326 rfl (lv_at hl 4 rfl) ?_
        refine lv_lload hx hb dX9_walk_327 (lv_at hl 2 rfl) ?_
        refine lv_lconst (v := 1) hx hb dX9_walk_329 (by decide) ?_
        refine lv_lsub hx hb dX9_walk_330 ?_
        refine lv_topl (fun z_85 ez_85 => ?_)
        refine yputJ (ci := 9) (k := 61) (C := RX9) (T := TX9) (N := 67) C0 hK hP hD hS hm_h0 hk_h0 (by decide) rfl inlX9 tyX9 tyX9_ok nmX9 (by decide) mW876 (fun _ h9 => h9) rfl (by decide +kernel) (Nat.le_of_ble_eq_true rfl) ysj_9_61 dX9_walk_331 (fun H locs hP hD hS => ?_)
        obtain ⟨d_86, ed_86⟩ : ∃ z : yD, z = yj d_22 h0 61 z_85 := ⟨_, rfl⟩
        rw [← ed_86] at hP hD
        have hgd_86 : yAg S [9, 74, 75, 77, 78] d d_86 := by rw [ed_86]; exact yAg.j hgd_22 (by rw [hk_h0]; decide)
        have hPod_86 : yPo S d_86 := by rw [ed_86]; exact hPod_22
        have hfd_86 : yK [54, 55, 57, 62, 63, 64, 65] d d_86 h0 := yK.ag hfd_22 (show yAg S [9] d_22 d_86 from by rw [ed_86]; exact yAg.j yAg.rf (by rw [hk_h0]; decide)) (by rw [hk_h0]; decide)
        have hId_86 : yMI S d_86 h0 := yMI.ag hId_22 hSh hm_h0 hk_h0 (show yAg S [9] d_22 d_86 from by rw [ed_86]; exact yAg.j yAg.rf (by rw [hk_h0]; decide)) (yK.ag (F := []) yK.rf (show yAg S [9] d_22 d_86 from by rw [ed_86]; exact yAg.j yAg.rf (by rw [hk_h0]; decide)) (by rw [hk_h0]; decide)) (by decide) (by decide)
        have hE0d_86 : (d_86.1 h0 0).toInt = (d_22.1 h0 0).toInt := congrArg Int32.toInt ((yK.ag (F := []) yK.rf (show yAg S [9] d_22 d_86 from by rw [ed_86]; exact yAg.j yAg.rf (by rw [hk_h0]; decide)) (by rw [hk_h0]; decide)) 0 (by decide))
        have hE1d_86 : (d_86.1 h0 1).toInt = (d_22.1 h0 1).toInt := congrArg Int32.toInt ((yK.ag (F := []) yK.rf (show yAg S [9] d_22 d_86 from by rw [ed_86]; exact yAg.j yAg.rf (by rw [hk_h0]; decide)) (by rw [hk_h0]; decide)) 1 (by decide))
        have hE2d_86 : (d_86.1 h0 2).toInt = (d_22.1 h0 2).toInt := congrArg Int32.toInt ((yK.ag (F := []) yK.rf (show yAg S [9] d_22 d_86 from by rw [ed_86]; exact yAg.j yAg.rf (by rw [hk_h0]; decide)) (by rw [hk_h0]; decide)) 2 (by decide))
        have hE3d_86 : (d_86.1 h0 3).toInt = (d_22.1 h0 3).toInt := congrArg Int32.toInt ((yK.ag (F := []) yK.rf (show yAg S [9] d_22 d_86 from by rw [ed_86]; exact yAg.j yAg.rf (by rw [hk_h0]; decide)) (by rw [hk_h0]; decide)) 3 (by decide))
        have hE63d_86 : (d_86.1 h0 63).toInt = (d_22.1 h0 63).toInt := congrArg Int32.toInt ((yK.ag (F := []) yK.rf (show yAg S [9] d_22 d_86 from by rw [ed_86]; exact yAg.j yAg.rf (by rw [hk_h0]; decide)) (by rw [hk_h0]; decide)) 63 (by decide))
        refine lv_lload hx hb dX9_walk_334 (lv_at hl 2 rfl) ?_
        refine lv_lstore (lv' := [(12, .long v_19), (10, .long v_20), (8, .long v_19), (6, .long z_7), (0, .ref h0), (2, .int p1), (3, .int p2), (4, .int p3), (5, .int p4)]) hx hb dX9_walk_336 hl (by decide) rfl (fun ls hl => ?_)
        have hCC_87 := yMI.c hId_86
        have F_88 := fle (by decide +kernel : (8 : Int32).toInt = 8) (rfl : (v_21 : Int32).toInt = (v_21 : Int32).toInt) c_25
        refine yloop (σ := Int64 × yD) (fun x => ((v_20 : Int64).toInt - (x.1 : Int64).toInt).toNat) 338 (fun x H locs ls => va_P G.1 xcl (yW G S x.2) H ∧ va_D A (yW G S x.2) ∧ va_S A s.heap H locs ∧ yAg S [9, 74, 75, 77, 78] d x.2 ∧ yPo S x.2 ∧ yK [54, 55, 57, 62, 63, 64, 65] d x.2 h0 ∧ yMI S x.2 h0 ∧ yAg S [9, 77, 78] d_86 x.2 ∧ yK [54, 55, 57, 63, 64, 65] d_86 x.2 h0 ∧ (True) ∧ lv_has ls 17 [(12, .long x.1), (10, .long v_20), (0, .ref h0), (2, .int p1), (3, .int p2), (4, .int p3), (5, .int p4)]) (fun x H locs ls hI hnext_91 => ?_) (v_19, d_86) ⟨hP, hD, hS, hgd_86, hPod_86, hfd_86, hId_86, yAg.rf, yK.rf, (show (True) from by have hq0_ : (0 : Int32).toInt = 0 := (by decide +kernel); omega), lv_sub hl [0, 1, 4, 5, 6, 7, 8] rfl⟩
        obtain ⟨v_89, d_90⟩ := x
        obtain ⟨hP, hD, hS, hgd_90, hPod_90, hfd_90, hId_90, hLJd_90, hKJd_90, hex_92, hl⟩ := hI
        have hId_90 : yMI S d_90 h0 := hId_90
        have hex_92 : (True) := hex_92
        have hl : lv_has ls 17 [(12, .long v_89), (10, .long v_20), (0, .ref h0), (2, .int p1), (3, .int p2), (4, .int p3), (5, .int p4)] := hl
        have hLJd_90 : yAg S [9, 77, 78] d_86 d_90 := hLJd_90
        have hKJd_90 : yK [54, 55, 57, 63, 64, 65] d_86 d_90 h0 := hKJd_90
        have hE0d_90 : (d_90.1 h0 0).toInt = (d_86.1 h0 0).toInt := congrArg Int32.toInt (hKJd_90 0 (by decide))
        have hE1d_90 : (d_90.1 h0 1).toInt = (d_86.1 h0 1).toInt := congrArg Int32.toInt (hKJd_90 1 (by decide))
        have hE2d_90 : (d_90.1 h0 2).toInt = (d_86.1 h0 2).toInt := congrArg Int32.toInt (hKJd_90 2 (by decide))
        have hE3d_90 : (d_90.1 h0 3).toInt = (d_86.1 h0 3).toInt := congrArg Int32.toInt (hKJd_90 3 (by decide))
        refine lv_lload hx hb dX9_walk_338 (lv_at hl 0 rfl) ?_
        refine lv_lload hx hb dX9_walk_340 (lv_at hl 1 rfl) ?_
        refine W.lcmp hx hb dX9_walk_342 ?_
        refine lv_topi (fun z_93 ez_93 => ?_)
        refine lv_if_ge (tgt := 430) hx hb dX9_walk_343 (by decide) (fun c_94 => ?_) (fun c_94 => ?_)
        · exact W.vret hx hb hr (fun t ht hW => ⟨⟨d_90, rfl, ⟨hgd_90, (fun _ => hPod_90), hfd_90, hId_90⟩, by rw [ht]; exact hP, hD⟩, hS.F ht⟩) hS.2.2 dX9_walk_430
        · refine lv_iconst (v := 0) hx hb dX9_walk_346 (by decide) ?_
          refine lv_istore (lv' := [(14, .int 0), (12, .long v_89), (10, .long v_20), (0, .ref h0), (2, .int p1), (3, .int p2), (4, .int p3), (5, .int p4)]) hx hb dX9_walk_347 hl (by decide) rfl (fun ls hl => ?_)
          have hCC_95 := yMI.c hId_90
          refine yloop (σ := Int32 × yD) (fun x => (2147483647 - (x.1 : Int32).toInt).toNat) 349 (fun x H locs ls => va_P G.1 xcl (yW G S x.2) H ∧ va_D A (yW G S x.2) ∧ va_S A s.heap H locs ∧ yAg S [9, 74, 75, 77, 78] d x.2 ∧ yPo S x.2 ∧ yK [54, 55, 57, 62, 63, 64, 65] d x.2 h0 ∧ yMI S x.2 h0 ∧ yAg S [9, 77, 78] d_90 x.2 ∧ yK [54, 55, 57, 63, 64, 65] d_90 x.2 h0 ∧ yAg S [9, 77, 78] d_86 x.2 ∧ yK [54, 55, 57, 63, 64, 65] d_86 x.2 h0 ∧ (0 ≤ ((x.1) : Int32).toInt) ∧ lv_has ls 17 [(14, .int x.1), (12, .long v_89), (10, .long v_20), (0, .ref h0), (2, .int p1), (3, .int p2), (4, .int p3), (5, .int p4)]) (fun x H locs ls hI hnext_98 => ?_) (0, d_90) ⟨hP, hD, hS, hgd_90, hPod_90, hfd_90, hId_90, yAg.rf, yK.rf, hLJd_90, hKJd_90, (show (0 ≤ ((0) : Int32).toInt) from by have hl0_ : (0 : Int32).toInt = 0 := (by decide +kernel); have hq0_ : (0 : Int32).toInt = 0 := (by decide +kernel); omega), lv_sub hl [0, 1, 2, 3, 4, 5, 6, 7] rfl⟩
          obtain ⟨v_96, d_97⟩ := x
          obtain ⟨hP, hD, hS, hgd_97, hPod_97, hfd_97, hId_97, hLJd_97, hKJd_97, hL0d_97, hK0d_97, hex_99, hl⟩ := hI
          have hId_97 : yMI S d_97 h0 := hId_97
          have hex_99 : (0 ≤ ((v_96) : Int32).toInt) := hex_99
          have hl : lv_has ls 17 [(14, .int v_96), (12, .long v_89), (10, .long v_20), (0, .ref h0), (2, .int p1), (3, .int p2), (4, .int p3), (5, .int p4)] := hl
          have hLJd_97 : yAg S [9, 77, 78] d_90 d_97 := hLJd_97
          have hKJd_97 : yK [54, 55, 57, 63, 64, 65] d_90 d_97 h0 := hKJd_97
          have hE0d_97 : (d_97.1 h0 0).toInt = (d_90.1 h0 0).toInt := congrArg Int32.toInt (hKJd_97 0 (by decide))
          have hE1d_97 : (d_97.1 h0 1).toInt = (d_90.1 h0 1).toInt := congrArg Int32.toInt (hKJd_97 1 (by decide))
          have hE2d_97 : (d_97.1 h0 2).toInt = (d_90.1 h0 2).toInt := congrArg Int32.toInt (hKJd_97 2 (by decide))
          have hE3d_97 : (d_97.1 h0 3).toInt = (d_90.1 h0 3).toInt := congrArg Int32.toInt (hKJd_97 3 (by decide))
          refine lv_iload hx hb dX9_walk_349 (lv_at hl 0 rfl) ?_
          refine lv_bipush (v := 8) hx hb dX9_walk_351 (by decide) ?_
          refine lv_icmp_ge (tgt := 421) hx hb dX9_walk_353 (by decide) (fun c_100 => ?_) (fun c_100 => ?_)
          · refine lv_lload hx hb dX9_walk_421 (lv_at hl 1 rfl) ?_
            refine lv_lconst (v := 1) hx hb dX9_walk_423 (by decide) ?_
            refine lv_ladd hx hb dX9_walk_424 ?_
            refine lv_topl (fun z_101 ez_101 => ?_)
            refine lv_lstore (lv' := [(12, .long z_101), (14, .int v_96), (10, .long v_20), (0, .ref h0), (2, .int p1), (3, .int p2), (4, .int p3), (5, .int p4)]) hx hb dX9_walk_425 hl (by decide) rfl (fun ls hl => ?_)
            refine lv_goto (tgt := 338) hx hb dX9_walk_427 (by decide) ?_
            have hCC_102 := yMI.c hId_97
            have F_103 := fle (by decide +kernel : (8 : Int32).toInt = 8) (rfl : (v_96 : Int32).toInt = (v_96 : Int32).toInt) c_100
            exact hnext_91 (z_101, d_97) _ _ ls ((xupj ez_101 (jnge ez_93 c_94))) ⟨hP, hD, hS, hgd_97, hPod_97, hfd_97, hId_97, hL0d_97, hK0d_97, (show (True) from by have hq0_ : (0 : Int32).toInt = 0 := (by decide +kernel); omega), lv_sub hl [0, 2, 3, 4, 5, 6, 7] rfl⟩
          · refine lv_lload hx hb dX9_walk_356 (lv_at hl 1 rfl) ?_
            refine lv_aload_n hx hb dX9_walk_358 rfl (lv_at hl 3 rfl) ?_
            refine lv_iload hx hb dX9_walk_359 (lv_at hl 0 rfl) ?_
            refine lv_bipush (v := 7) hx hb dX9_walk_361 (by decide) ?_
            have F_104 := fnle (by decide +kernel : (8 : Int32).toInt = 8) (rfl : (v_96 : Int32).toInt = (v_96 : Int32).toInt) c_100
            refine yVri (As := [.int v_96, .int 7]) (rest := [.long v_89]) C0 (g_X9_of l G S d_97 h0 v_96 7 hSh hm_h0 hk_h0 (by refine ⟨?_, ?_⟩ <;> omega) (by decide +kernel)) ok_X9_of (mW425 : Cond.methodLink RX9 161 yX9_of ∈ wsT) ⟨Nat.le_of_ble_eq_true rfl, Nat.le_of_ble_eq_true rfl⟩ hP hD hK hN hm_h0 hk_h0 (by decide) rfl rfl rfl hl.1 rfl (Nat.le_of_ble_eq_true rfl) ⟨Nat.le_of_ble_eq_true rfl, Nat.le_of_ble_eq_true rfl⟩ dX9_walk_363 (fun r_105 hr_105 => ?_)
            have hOr_105 : (r_105 : Int32).toInt = yOf S d_97 h0 (v_96 : Int32).toInt.toNat 7 := by rw [hr_105, show (7 : Int32).toInt.toNat = 7 by decide +kernel]; rfl
            refine lv_i2l hx hb dX9_walk_366 rfl ?_
            refine lv_topl (fun z_106 ez_106 => ?_)
            refine lv_lsub hx hb dX9_walk_367 ?_
            refine lv_topl (fun z_107 ez_107 => ?_)
            refine lv_lstore (lv' := [(15, .long z_107), (14, .int v_96), (12, .long v_89), (10, .long v_20), (0, .ref h0), (2, .int p1), (3, .int p2), (4, .int p3), (5, .int p4)]) hx hb dX9_walk_368 hl (by decide) rfl (fun ls hl => ?_)
            refine lv_lload hx hb dX9_walk_370 (lv_at hl 0 rfl) ?_
            refine lv_aload_n hx hb dX9_walk_372 rfl (lv_at hl 4 rfl) ?_
            refine yget (ci := 9) (k := 44) (v := .ref (S.2.2.1 h0 44)) (C := RX9) (T := TX9) (N := 67) C0 hK hP hm_h0 hk_h0 (by decide) rfl inlX9 (by decide) mW149 (fun _ h9 => h9) rfl dX9_walk_373 ?_
            obtain ⟨hmy_108, hky_108⟩ := ySh.f9_44 hSh _ hm_h0 hk_h0
            refine lv_iload hx hb dX9_walk_376 (lv_at hl 1 rfl) ?_
            have hCC_109 := yMI.c hId_97
            refine yald C0 hK hP hmy_108 hky_108 (by decide) rfl 0 rfl (xinT 8 rfl (by omega) (by omega)) dX9_walk_378 ?_
            refine lv_topi (fun z_110 ez_110 => ?_)
            have hvz_110 : (-1) ≤ (z_110 : Int32).toInt ∧ (z_110 : Int32).toInt ≤ 229599 := by rw [ez_110]; exact yMI.fr_ hId_97 _
            refine lv_i2l hx hb dX9_walk_379 rfl ?_
            refine lv_topl (fun z_111 ez_111 => ?_)
            refine W.lcmp hx hb dX9_walk_380 ?_
            refine lv_topi (fun z_112 ez_112 => ?_)
            refine lv_if_lt (tgt := 415) hx hb dX9_walk_381 (by decide) (fun c_113 => ?_) (fun c_113 => ?_)
            · refine lv_iinc (v := v_96 + 1) (lv' := [(14, .int (v_96 + 1)), (15, .long z_107), (12, .long v_89), (10, .long v_20), (0, .ref h0), (2, .int p1), (3, .int p2), (4, .int p3), (5, .int p4)]) hx hb dX9_walk_415 hl (k := 1) rfl rfl (by decide) rfl (fun ls hl => ?_)
              refine lv_goto (tgt := 349) hx hb dX9_walk_418 (by decide) ?_
              have T_115 : ((v_96 + 1) : Int32).toInt = (v_96 : Int32).toInt + 1 := tadd rfl (rfl : (v_96 : Int32).toInt = (v_96 : Int32).toInt) (by decide +kernel : (1 : Int32).toInt = 1) (by omega) (by omega)
              exact hnext_98 (v_96 + 1, d_97) _ _ ls (xup c_100) ⟨hP, hD, hS, hgd_97, hPod_97, hfd_97, hId_97, hLJd_97, hKJd_97, hL0d_97, hK0d_97, (show (0 ≤ (((v_96 + 1)) : Int32).toInt) from by have hq0_ : (0 : Int32).toInt = 0 := (by decide +kernel); omega), lv_sub hl [0, 2, 3, 4, 5, 6, 7, 8] rfl⟩
            · refine lv_lload hx hb dX9_walk_384 (lv_at hl 0 rfl) ?_
              refine lv_aload_n hx hb dX9_walk_386 rfl (lv_at hl 4 rfl) ?_
              refine yget (ci := 9) (k := 45) (v := .ref (S.2.2.1 h0 45)) (C := RX9) (T := TX9) (N := 67) C0 hK hP hm_h0 hk_h0 (by decide) rfl inlX9 (by decide) mW150 (fun _ h9 => h9) rfl dX9_walk_387 ?_
              obtain ⟨hmy_116, hky_116⟩ := ySh.f9_45 hSh _ hm_h0 hk_h0
              refine lv_iload hx hb dX9_walk_390 (lv_at hl 1 rfl) ?_
              refine yald C0 hK hP hmy_116 hky_116 (by decide) rfl 0 rfl (xinT 8 rfl (by omega) (by omega)) dX9_walk_392 ?_
              refine lv_topi (fun z_117 ez_117 => ?_)
              have hvz_117 : 0 ≤ (z_117 : Int32).toInt ∧ (z_117 : Int32).toInt ≤ 129600 := by rw [ez_117]; exact yMI.to_ hId_97 _
              refine lv_i2l hx hb dX9_walk_393 rfl ?_
              refine lv_topl (fun z_118 ez_118 => ?_)
              refine W.lcmp hx hb dX9_walk_394 ?_
              refine lv_topi (fun z_119 ez_119 => ?_)
              refine lv_if_ge (tgt := 415) hx hb dX9_walk_395 (by decide) (fun c_120 => ?_) (fun c_120 => ?_)
              · refine lv_iinc (v := v_96 + 1) (lv' := [(14, .int (v_96 + 1)), (15, .long z_107), (12, .long v_89), (10, .long v_20), (0, .ref h0), (2, .int p1), (3, .int p2), (4, .int p3), (5, .int p4)]) hx hb dX9_walk_415 hl (k := 1) rfl rfl (by decide) rfl (fun ls hl => ?_)
                refine lv_goto (tgt := 349) hx hb dX9_walk_418 (by decide) ?_
                have T_122 : ((v_96 + 1) : Int32).toInt = (v_96 : Int32).toInt + 1 := tadd rfl (rfl : (v_96 : Int32).toInt = (v_96 : Int32).toInt) (by decide +kernel : (1 : Int32).toInt = 1) (by omega) (by omega)
                exact hnext_98 (v_96 + 1, d_97) _ _ ls (xup c_100) ⟨hP, hD, hS, hgd_97, hPod_97, hfd_97, hId_97, hLJd_97, hKJd_97, hL0d_97, hK0d_97, (show (0 ≤ (((v_96 + 1)) : Int32).toInt) from by have hq0_ : (0 : Int32).toInt = 0 := (by decide +kernel); omega), lv_sub hl [0, 2, 3, 4, 5, 6, 7, 8] rfl⟩
              · refine lv_aload_n hx hb dX9_walk_398 rfl (lv_at hl 4 rfl) ?_
                refine lv_iload hx hb dX9_walk_399 (lv_at hl 1 rfl) ?_
                refine lv_lload hx hb dX9_walk_401 (lv_at hl 0 rfl) ?_
                refine lv_l2i hx hb dX9_walk_403 rfl ?_
                refine lv_topi (fun z_123 ez_123 => ?_)
                refine lv_lload hx hb dX9_walk_404 (lv_at hl 2 rfl) ?_
                refine lv_iload_n hx hb dX9_walk_406 rfl (lv_at hl 5 rfl) ?_
                refine lv_iload_n hx hb dX9_walk_407 rfl (lv_at hl 6 rfl) ?_
                refine lv_iload hx hb dX9_walk_408 (lv_at hl 7 rfl) ?_
                refine lv_iload hx hb dX9_walk_410 (lv_at hl 8 rfl) ?_
                have T_125 : (0 : Int64).toInt = 0 := by decide +kernel
                have F_126 := jge ez_26 c_27
                have F_128 := jnne ez_29 c_30
                have F_129 := jnge ez_93 c_94
                have T_131 : (z_111 : Int64).toInt = (z_110 : Int32).toInt := by rw [ez_111, Int32.toInt_toInt64]
                have F_132 := jnlt ez_112 c_113
                have T_134 : (z_118 : Int64).toInt = (z_117 : Int32).toInt := by rw [ez_118, Int32.toInt_toInt64]
                have F_135 := jnge ez_119 c_120
                have T_124 : (z_123 : Int32).toInt = (z_107 : Int64).toInt := by rw [ez_123]; exact xtrunc (by omega) (by omega)
                refine yVwv (As := [.int v_96, .int z_123, .long v_89, .int p1, .int p2, .int p3, .int p4]) (rest := []) C0 (g_X9_step l G S d_97 h0 v_96 z_123 v_89 p1 p2 p3 p4 hSh hPod_97 hm_h0 hk_h0 hId_97 (by refine ⟨?_, ?_⟩ <;> omega) (by refine ⟨?_, ?_⟩ <;> omega) (by refine ⟨?_, ?_⟩ <;> omega) hz_p1) ok_X9_step (mW884 : Cond.methodLink RX9 294 yX9_step ∈ wsT) ⟨Nat.le_of_ble_eq_true rfl, Nat.le_of_ble_eq_true rfl⟩ hP hD hS hA hK hN hm_h0 hk_h0 (by decide) rfl rfl rfl hl.1 rfl (Nat.le_of_ble_eq_true rfl) ⟨Nat.le_of_ble_eq_true rfl, Nat.le_of_ble_eq_true rfl⟩ dX9_walk_412 (fun d_137 H locs hr_136 hP hD hS => ?_)
                obtain ⟨hgad_137, hpad_137, hfad_137, hxd_137⟩ := hr_136
                have hfd_137 : yK [54, 55, 57, 62, 63, 64, 65] d d_137 h0 := yK.tr hfd_97 hfad_137 (by decide)
                have hE0d_137 : (d_137.1 h0 0).toInt = (d_97.1 h0 0).toInt := congrArg Int32.toInt (hfad_137 0 (by decide))
                have hE1d_137 : (d_137.1 h0 1).toInt = (d_97.1 h0 1).toInt := congrArg Int32.toInt (hfad_137 1 (by decide))
                have hE2d_137 : (d_137.1 h0 2).toInt = (d_97.1 h0 2).toInt := congrArg Int32.toInt (hfad_137 2 (by decide))
                have hE3d_137 : (d_137.1 h0 3).toInt = (d_97.1 h0 3).toInt := congrArg Int32.toInt (hfad_137 3 (by decide))
                have hId_137 : yMI S d_137 h0 := hxd_137
                have hL0d_137 : yAg S [9, 77, 78] d_86 d_137 := yAg.tr hL0d_97 hgad_137 (by first | decide | exact fun _ h => h)
                have hK0d_137 : yK [54, 55, 57, 63, 64, 65] d_86 d_137 h0 := yK.tr hK0d_97 hfad_137 (by decide)
                have hL1d_137 : yAg S [9, 77, 78] d_90 d_137 := yAg.tr hLJd_97 hgad_137 (by first | decide | exact fun _ h => h)
                have hK1d_137 : yK [54, 55, 57, 63, 64, 65] d_90 d_137 h0 := yK.tr hKJd_97 hfad_137 (by decide)
                have hgd_137 : yAg S [9, 74, 75, 77, 78] d d_137 := yAg.tr hgd_97 hgad_137 (by first | decide | exact fun _ h => h)
                have hPod_137 : yPo S d_137 := hpad_137 hPod_97
                refine lv_iinc (v := v_96 + 1) (lv' := [(14, .int (v_96 + 1)), (15, .long z_107), (12, .long v_89), (10, .long v_20), (0, .ref h0), (2, .int p1), (3, .int p2), (4, .int p3), (5, .int p4)]) hx hb dX9_walk_415 hl (k := 1) rfl rfl (by decide) rfl (fun ls hl => ?_)
                refine lv_goto (tgt := 349) hx hb dX9_walk_418 (by decide) ?_
                have hCC_139 := yMI.c hId_137
                have T_140 : ((v_96 + 1) : Int32).toInt = (v_96 : Int32).toInt + 1 := tadd rfl (rfl : (v_96 : Int32).toInt = (v_96 : Int32).toInt) (by decide +kernel : (1 : Int32).toInt = 1) (by omega) (by omega)
                exact hnext_98 (v_96 + 1, d_137) _ _ ls (xup c_100) ⟨hP, hD, hS, hgd_137, hPod_137, hfd_137, hId_137, hL1d_137, hK1d_137, hL0d_137, hK0d_137, (show (0 ≤ (((v_96 + 1)) : Int32).toInt) from by have hq0_ : (0 : Int32).toInt = 0 := (by decide +kernel); omega), lv_sub hl [0, 2, 3, 4, 5, 6, 7, 8] rfl⟩
    · exact W.vret hx hb hr (fun t ht hW => ⟨⟨d_22, rfl, ⟨hgd_22, (fun _ => hPod_22), hfd_22, hId_22⟩, by rw [ht]; exact hP, hD⟩, hS.F ht⟩) hS.2.2 dX9_walk_316
  · refine lv_aload_n hx hb dX9_walk_87 rfl (lv_at hl 4 rfl) ?_
    refine yget (ci := 9) (k := 44) (v := .ref (S.2.2.1 h0 44)) (C := RX9) (T := TX9) (N := 67) C0 hK hP hm_h0 hk_h0 (by decide) rfl inlX9 (by decide) mW149 (fun _ h9 => h9) rfl dX9_walk_88 ?_
    obtain ⟨hmy_141, hky_141⟩ := ySh.f9_44 hSh _ hm_h0 hk_h0
    refine lv_iload hx hb dX9_walk_91 (lv_at hl 0 rfl) ?_
    refine lv_iconst (v := 0) hx hb dX9_walk_93 (by decide) ?_
    have hCC_142 := yMI.c hId_22
    have F_143 := fnle (by decide +kernel : (8 : Int32).toInt = 8) (rfl : (v_21 : Int32).toInt = (v_21 : Int32).toInt) c_25
    refine yast C0 hK hP hD hS hmy_141 hky_141 (by decide) rfl 0 rfl (xinT 8 rfl (by omega) (by omega)) dX9_walk_94 (fun H locs hP hD hS => ?_)
    obtain ⟨d_144, ed_144⟩ : ∃ z : yD, z = ycs d_22 (S.2.2.1 h0 44) (upd (d_22.2.2.2.1 (S.2.2.1 h0 44)) (v_21 : Int32).toNatClampNeg 0) := ⟨_, rfl⟩
    rw [← ed_144] at hP hD
    have hgd_144 : yAg S [9, 74, 75, 77, 78] d d_144 := by rw [ed_144]; exact yAg.cs hgd_22 (by rw [hky_141]; decide)
    have hPod_144 : yPo S d_144 := by rw [ed_144]; exact hPod_22
    have hfd_144 : yK [54, 55, 57, 62, 63, 64, 65] d d_144 h0 := yK.ag hfd_22 (show yAg S [74] d_22 d_144 from by rw [ed_144]; exact yAg.cs yAg.rf (by rw [hky_141]; decide)) (by rw [hk_h0]; decide)
    have hL0d_144 : yAg S [9, 74, 75, 77, 78] d_17 d_144 := by rw [ed_144]; exact yAg.cs hLJd_22 (by rw [hky_141]; decide)
    have hK0d_144 : yK [62] d_17 d_144 h0 := yK.ag hKJd_22 (show yAg S [74] d_22 d_144 from by rw [ed_144]; exact yAg.cs yAg.rf (by rw [hky_141]; decide)) (by rw [hk_h0]; decide)
    have hId_144 : yMI S d_144 h0 := by rw [ed_144]; exact yMI.w44 hId_22 hSh hm_h0 hk_h0 (yBr.up (yMI.fr_ hId_22) (by decide +kernel))
    have hE0d_144 : (d_144.1 h0 0).toInt = (d_22.1 h0 0).toInt := congrArg Int32.toInt ((yK.ag (F := []) yK.rf (show yAg S [74] d_22 d_144 from by rw [ed_144]; exact yAg.cs yAg.rf (by rw [hky_141]; decide)) (by rw [hk_h0]; decide)) 0 (by decide))
    have hE1d_144 : (d_144.1 h0 1).toInt = (d_22.1 h0 1).toInt := congrArg Int32.toInt ((yK.ag (F := []) yK.rf (show yAg S [74] d_22 d_144 from by rw [ed_144]; exact yAg.cs yAg.rf (by rw [hky_141]; decide)) (by rw [hk_h0]; decide)) 1 (by decide))
    have hE2d_144 : (d_144.1 h0 2).toInt = (d_22.1 h0 2).toInt := congrArg Int32.toInt ((yK.ag (F := []) yK.rf (show yAg S [74] d_22 d_144 from by rw [ed_144]; exact yAg.cs yAg.rf (by rw [hky_141]; decide)) (by rw [hk_h0]; decide)) 2 (by decide))
    have hE3d_144 : (d_144.1 h0 3).toInt = (d_22.1 h0 3).toInt := congrArg Int32.toInt ((yK.ag (F := []) yK.rf (show yAg S [74] d_22 d_144 from by rw [ed_144]; exact yAg.cs yAg.rf (by rw [hky_141]; decide)) (by rw [hk_h0]; decide)) 3 (by decide))
    have hE63d_144 : (d_144.1 h0 63).toInt = (d_22.1 h0 63).toInt := congrArg Int32.toInt ((yK.ag (F := []) yK.rf (show yAg S [74] d_22 d_144 from by rw [ed_144]; exact yAg.cs yAg.rf (by rw [hky_141]; decide)) (by rw [hk_h0]; decide)) 63 (by decide))
    refine lv_aload_n hx hb dX9_walk_95 rfl (lv_at hl 4 rfl) ?_
    refine yget (ci := 9) (k := 45) (v := .ref (S.2.2.1 h0 45)) (C := RX9) (T := TX9) (N := 67) C0 hK hP hm_h0 hk_h0 (by decide) rfl inlX9 (by decide) mW150 (fun _ h9 => h9) rfl dX9_walk_96 ?_
    obtain ⟨hmy_145, hky_145⟩ := ySh.f9_45 hSh _ hm_h0 hk_h0
    refine lv_iload hx hb dX9_walk_99 (lv_at hl 0 rfl) ?_
    refine lv_iconst (v := 0) hx hb dX9_walk_101 (by decide) ?_
    have hCC_146 := yMI.c hId_144
    refine yast C0 hK hP hD hS hmy_145 hky_145 (by decide) rfl 0 rfl (xinT 8 rfl (by omega) (by omega)) dX9_walk_102 (fun H locs hP hD hS => ?_)
    obtain ⟨d_147, ed_147⟩ : ∃ z : yD, z = ycs d_144 (S.2.2.1 h0 45) (upd (d_144.2.2.2.1 (S.2.2.1 h0 45)) (v_21 : Int32).toNatClampNeg 0) := ⟨_, rfl⟩
    rw [← ed_147] at hP hD
    have hgd_147 : yAg S [9, 74, 75, 77, 78] d d_147 := by rw [ed_147]; exact yAg.cs hgd_144 (by rw [hky_145]; decide)
    have hPod_147 : yPo S d_147 := by rw [ed_147]; exact hPod_144
    have hfd_147 : yK [54, 55, 57, 62, 63, 64, 65] d d_147 h0 := yK.ag hfd_144 (show yAg S [75] d_144 d_147 from by rw [ed_147]; exact yAg.cs yAg.rf (by rw [hky_145]; decide)) (by rw [hk_h0]; decide)
    have hL0d_147 : yAg S [9, 74, 75, 77, 78] d_17 d_147 := by rw [ed_147]; exact yAg.cs hL0d_144 (by rw [hky_145]; decide)
    have hK0d_147 : yK [62] d_17 d_147 h0 := yK.ag hK0d_144 (show yAg S [75] d_144 d_147 from by rw [ed_147]; exact yAg.cs yAg.rf (by rw [hky_145]; decide)) (by rw [hk_h0]; decide)
    have hId_147 : yMI S d_147 h0 := by rw [ed_147]; exact yMI.w45 hId_144 hSh hm_h0 hk_h0 (yBr.up (yMI.to_ hId_144) (by decide +kernel))
    have hE0d_147 : (d_147.1 h0 0).toInt = (d_144.1 h0 0).toInt := congrArg Int32.toInt ((yK.ag (F := []) yK.rf (show yAg S [75] d_144 d_147 from by rw [ed_147]; exact yAg.cs yAg.rf (by rw [hky_145]; decide)) (by rw [hk_h0]; decide)) 0 (by decide))
    have hE1d_147 : (d_147.1 h0 1).toInt = (d_144.1 h0 1).toInt := congrArg Int32.toInt ((yK.ag (F := []) yK.rf (show yAg S [75] d_144 d_147 from by rw [ed_147]; exact yAg.cs yAg.rf (by rw [hky_145]; decide)) (by rw [hk_h0]; decide)) 1 (by decide))
    have hE2d_147 : (d_147.1 h0 2).toInt = (d_144.1 h0 2).toInt := congrArg Int32.toInt ((yK.ag (F := []) yK.rf (show yAg S [75] d_144 d_147 from by rw [ed_147]; exact yAg.cs yAg.rf (by rw [hky_145]; decide)) (by rw [hk_h0]; decide)) 2 (by decide))
    have hE3d_147 : (d_147.1 h0 3).toInt = (d_144.1 h0 3).toInt := congrArg Int32.toInt ((yK.ag (F := []) yK.rf (show yAg S [75] d_144 d_147 from by rw [ed_147]; exact yAg.cs yAg.rf (by rw [hky_145]; decide)) (by rw [hk_h0]; decide)) 3 (by decide))
    have hE63d_147 : (d_147.1 h0 63).toInt = (d_144.1 h0 63).toInt := congrArg Int32.toInt ((yK.ag (F := []) yK.rf (show yAg S [75] d_144 d_147 from by rw [ed_147]; exact yAg.cs yAg.rf (by rw [hky_145]; decide)) (by rw [hk_h0]; decide)) 63 (by decide))
    refine lv_lload hx hb dX9_walk_103 (lv_at hl 3 rfl) ?_
    refine lv_iload hx hb dX9_walk_105 (lv_at hl 0 rfl) ?_
    refine lv_lshr hx hb dX9_walk_107 rfl ?_
    refine lv_topl (fun z_148 ez_148 => ?_)
    refine lv_lconst (v := 1) hx hb dX9_walk_108 (by decide) ?_
    refine lv_land hx hb dX9_walk_109 ?_
    refine lv_topl (fun z_149 ez_149 => ?_)
    refine lv_lconst (v := 0) hx hb dX9_walk_110 (by decide) ?_
    refine W.lcmp hx hb dX9_walk_111 ?_
    refine lv_topi (fun z_150 ez_150 => ?_)
    refine lv_if_eq (tgt := 303) hx hb dX9_walk_112 (by decide) (fun c_151 => ?_) (fun c_151 => ?_)
    · refine lv_iinc (v := v_21 + 1) (lv' := [(12, .int (v_21 + 1)), (10, .long v_20), (8, .long v_19), (6, .long z_7), (0, .ref h0), (2, .int p1), (3, .int p2), (4, .int p3), (5, .int p4)]) hx hb dX9_walk_303 hl (k := 0) rfl rfl (by decide) rfl (fun ls hl => ?_)
      refine lv_goto (tgt := 80) hx hb dX9_walk_306 (by decide) ?_
      have hCC_153 := yMI.c hId_147
      have T_154 : ((v_21 + 1) : Int32).toInt = (v_21 : Int32).toInt + 1 := tadd rfl (rfl : (v_21 : Int32).toInt = (v_21 : Int32).toInt) (by decide +kernel : (1 : Int32).toInt = 1) (by omega) (by omega)
      exact hnext_23 (v_19, v_20, v_21 + 1, d_147) _ _ ls (xup c_25) ⟨hP, hD, hS, hgd_147, hPod_147, hfd_147, hId_147, hL0d_147, hK0d_147, (show (0 ≤ (((v_21 + 1)) : Int32).toInt) from by have hq0_ : (0 : Int32).toInt = 0 := (by decide +kernel); omega), lv_sub hl [0, 1, 2, 3, 4, 5, 6, 7, 8] rfl⟩
    · refine lv_aload_n hx hb dX9_walk_115 rfl (lv_at hl 4 rfl) ?_
      refine lv_iload hx hb dX9_walk_116 (lv_at hl 0 rfl) ?_
      refine yVri (As := [.int v_21]) (rest := []) C0 (g_X9_isOpen l G S d_147 h0 v_21 hSh hm_h0 hk_h0) ok_X9_isOpen (mW391 : Cond.methodLink RX9 157 yX9_isOpen ∈ wsT) ⟨Nat.le_of_ble_eq_true rfl, Nat.le_of_ble_eq_true rfl⟩ hP hD hK hN hm_h0 hk_h0 (by decide) rfl rfl rfl hl.1 rfl (Nat.le_of_ble_eq_true rfl) ⟨Nat.le_of_ble_eq_true rfl, Nat.le_of_ble_eq_true rfl⟩ dX9_walk_118 (fun r_155 hr_155 => ?_)
      refine lv_if_eq (tgt := 303) hx hb dX9_walk_121 (by decide) (fun c_156 => ?_) (fun c_156 => ?_)
      · refine lv_iinc (v := v_21 + 1) (lv' := [(12, .int (v_21 + 1)), (10, .long v_20), (8, .long v_19), (6, .long z_7), (0, .ref h0), (2, .int p1), (3, .int p2), (4, .int p3), (5, .int p4)]) hx hb dX9_walk_303 hl (k := 0) rfl rfl (by decide) rfl (fun ls hl => ?_)
        refine lv_goto (tgt := 80) hx hb dX9_walk_306 (by decide) ?_
        have hCC_158 := yMI.c hId_147
        have F_159 := feq (rfl : (r_155 : Int32).toInt = (r_155 : Int32).toInt) (by decide +kernel : (0 : Int32).toInt = 0) c_156
        have T_160 : ((v_21 + 1) : Int32).toInt = (v_21 : Int32).toInt + 1 := tadd rfl (rfl : (v_21 : Int32).toInt = (v_21 : Int32).toInt) (by decide +kernel : (1 : Int32).toInt = 1) (by omega) (by omega)
        exact hnext_23 (v_19, v_20, v_21 + 1, d_147) _ _ ls (xup c_25) ⟨hP, hD, hS, hgd_147, hPod_147, hfd_147, hId_147, hL0d_147, hK0d_147, (show (0 ≤ (((v_21 + 1)) : Int32).toInt) from by have hq0_ : (0 : Int32).toInt = 0 := (by decide +kernel); omega), lv_sub hl [0, 1, 2, 3, 4, 5, 6, 7, 8] rfl⟩
      · refine lv_aload_n hx hb dX9_walk_124 rfl (lv_at hl 4 rfl) ?_
        refine lv_iload hx hb dX9_walk_125 (lv_at hl 0 rfl) ?_
        have F_161 := fne (rfl : (r_155 : Int32).toInt = (r_155 : Int32).toInt) (by decide +kernel : (0 : Int32).toInt = 0) c_156
        refine yVri (As := [.int v_21]) (rest := []) C0 (g_X9_doesCount l G S d_147 h0 v_21 hSh hm_h0 hk_h0 hId_147 (by refine ⟨?_, ?_⟩ <;> omega)) ok_X9_doesCount (mW643 : Cond.methodLink RX9 282 yX9_doesCount ∈ wsT) ⟨Nat.le_of_ble_eq_true rfl, Nat.le_of_ble_eq_true rfl⟩ hP hD hK hN hm_h0 hk_h0 (by decide) rfl rfl rfl hl.1 rfl (Nat.le_of_ble_eq_true rfl) ⟨Nat.le_of_ble_eq_true rfl, Nat.le_of_ble_eq_true rfl⟩ dX9_walk_127 (fun r_162 hr_162 => ?_)
        refine lv_if_ne (tgt := 136) hx hb dX9_walk_130 (by decide) (fun c_163 => ?_) (fun c_163 => ?_)
        · refine lv_aload_n hx hb dX9_walk_136 rfl (lv_at hl 4 rfl) ?_
          refine lv_dup hx hb dX9_walk_137 rfl ?_
          refine yget (ci := 9) (k := 62) (v := .int (d_147.1 h0 62)) (C := RX9) (T := TX9) (N := 67) C0 hK hP hm_h0 hk_h0 (by decide) rfl inlX9 (by decide) mW877 (fun _ h9 => h9) rfl dX9_walk_138 ?_
          refine lv_topi (fun z_164 ez_164 => ?_)
          refine lv_iconst (v := 1) hx hb dX9_walk_141 (by decide) ?_
          refine lv_iadd hx hb dX9_walk_142 ?_
          refine lv_topi (fun z_165 ez_165 => ?_)
          refine yputI (ci := 9) (k := 62) (ty := .int) (C := RX9) (T := TX9) (N := 67) C0 hK hP hD hS hm_h0 hk_h0 (by decide) rfl inlX9 tyX9 tyX9_ok nmX9 (by decide) mW877 (fun _ h9 => h9) rfl (by decide +kernel) rfl rfl (Nat.le_of_ble_eq_true rfl) ysi_9_62 dX9_walk_143 (fun H locs hP hD hS => ?_)
          obtain ⟨d_166, ed_166⟩ : ∃ z : yD, z = yi d_147 h0 62 z_165 := ⟨_, rfl⟩
          rw [← ed_166] at hP hD
          have hgd_166 : yAg S [9, 74, 75, 77, 78] d d_166 := by rw [ed_166]; exact yAg.i hgd_147 (by rw [hk_h0]; decide)
          have hPod_166 : yPo S d_166 := by rw [ed_166]; exact yPo.i hPod_147 hk_h0 (Or.inl rfl)
          have hfd_166 : yK [54, 55, 57, 62, 63, 64, 65] d d_166 h0 := by rw [ed_166]; exact yK.i hfd_147 (by decide)
          have hL0d_166 : yAg S [9, 74, 75, 77, 78] d_17 d_166 := by rw [ed_166]; exact yAg.i hL0d_147 (by rw [hk_h0]; decide)
          have hK0d_166 : yK [62] d_17 d_166 h0 := by rw [ed_166]; exact yK.i hK0d_147 (by decide)
          have hId_166 : yMI S d_166 h0 := yMI.ag hId_147 hSh hm_h0 hk_h0 (show yAg S [9] d_147 d_166 from by rw [ed_166]; exact yAg.i yAg.rf (by rw [hk_h0]; decide)) (show yK [62] d_147 d_166 h0 from by rw [ed_166]; exact yK.i yK.rf (by decide)) (by decide) (by decide)
          have hE0d_166 : (d_166.1 h0 0).toInt = (d_147.1 h0 0).toInt := congrArg Int32.toInt ((show yK [62] d_147 d_166 h0 from by rw [ed_166]; exact yK.i yK.rf (by decide)) 0 (by decide))
          have hE1d_166 : (d_166.1 h0 1).toInt = (d_147.1 h0 1).toInt := congrArg Int32.toInt ((show yK [62] d_147 d_166 h0 from by rw [ed_166]; exact yK.i yK.rf (by decide)) 1 (by decide))
          have hE2d_166 : (d_166.1 h0 2).toInt = (d_147.1 h0 2).toInt := congrArg Int32.toInt ((show yK [62] d_147 d_166 h0 from by rw [ed_166]; exact yK.i yK.rf (by decide)) 2 (by decide))
          have hE3d_166 : (d_166.1 h0 3).toInt = (d_147.1 h0 3).toInt := congrArg Int32.toInt ((show yK [62] d_147 d_166 h0 from by rw [ed_166]; exact yK.i yK.rf (by decide)) 3 (by decide))
          have hE63d_166 : (d_166.1 h0 63).toInt = (d_147.1 h0 63).toInt := congrArg Int32.toInt ((show yK [62] d_147 d_166 h0 from by rw [ed_166]; exact yK.i yK.rf (by decide)) 63 (by decide))
          refine lv_aload_n hx hb dX9_walk_146 rfl (lv_at hl 4 rfl) ?_
          refine lv_dup hx hb dX9_walk_147 rfl ?_
          refine yget (ci := 9) (k := 59) (v := .long (d_166.2.1 h0 59)) (C := RX9) (T := TX9) (N := 67) C0 hK hP hm_h0 hk_h0 (by decide) rfl inlX9 (by decide) mW874 (fun _ h9 => h9) rfl dX9_walk_148 ?_
          refine lv_topl (fun z_167 ez_167 => ?_)
          refine lv_ldc2 (v := 2) hx hb hown (htl (.constantLong RX9 285 (2)) mW883) dX9_walk_151 ?_
          refine lv_aload_n hx hb dX9_walk_154 rfl (lv_at hl 4 rfl) ?_
          refine lv_iload hx hb dX9_walk_155 (lv_at hl 0 rfl) ?_
          refine lv_iload_n hx hb dX9_walk_157 rfl (lv_at hl 6 rfl) ?_
          refine lv_iload hx hb dX9_walk_158 (lv_at hl 7 rfl) ?_
          refine lv_iload hx hb dX9_walk_160 (lv_at hl 8 rfl) ?_
          have F_168 := fne (rfl : (r_162 : Int32).toInt = (r_162 : Int32).toInt) (by decide +kernel : (0 : Int32).toInt = 0) c_163
          refine yVrl (As := [.int v_21, .int p2, .int p3, .int p4]) (rest := [.long 2, .long z_167, .ref h0]) C0 (g_X9_allowed l G S d_166 h0 v_21 p2 p3 p4 hSh hm_h0 hk_h0 hId_166 (by refine ⟨?_, ?_⟩ <;> omega) (by refine ⟨?_, ?_⟩ <;> omega)) ok_X9_allowed (mW651 : Cond.methodLink RX9 287 yX9_allowed ∈ wsT) ⟨Nat.le_of_ble_eq_true rfl, Nat.le_of_ble_eq_true rfl⟩ hP hD hK hN hm_h0 hk_h0 (by decide) rfl rfl rfl hl.1 rfl (Nat.le_of_ble_eq_true rfl) ⟨Nat.le_of_ble_eq_true rfl, Nat.le_of_ble_eq_true rfl⟩ dX9_walk_162 (fun r_169 hr_169 => ?_)
          refine lv_lmul hx hb dX9_walk_165 ?_
          refine lv_topl (fun z_170 ez_170 => ?_)
          refine lv_ladd hx hb dX9_walk_166 ?_
          refine lv_topl (fun z_171 ez_171 => ?_)
          refine yputJ (ci := 9) (k := 59) (C := RX9) (T := TX9) (N := 67) C0 hK hP hD hS hm_h0 hk_h0 (by decide) rfl inlX9 tyX9 tyX9_ok nmX9 (by decide) mW874 (fun _ h9 => h9) rfl (by decide +kernel) (Nat.le_of_ble_eq_true rfl) ysj_9_59 dX9_walk_167 (fun H locs hP hD hS => ?_)
          obtain ⟨d_172, ed_172⟩ : ∃ z : yD, z = yj d_166 h0 59 z_171 := ⟨_, rfl⟩
          rw [← ed_172] at hP hD
          have hgd_172 : yAg S [9, 74, 75, 77, 78] d d_172 := by rw [ed_172]; exact yAg.j hgd_166 (by rw [hk_h0]; decide)
          have hPod_172 : yPo S d_172 := by rw [ed_172]; exact hPod_166
          have hfd_172 : yK [54, 55, 57, 62, 63, 64, 65] d d_172 h0 := yK.ag hfd_166 (show yAg S [9] d_166 d_172 from by rw [ed_172]; exact yAg.j yAg.rf (by rw [hk_h0]; decide)) (by rw [hk_h0]; decide)
          have hL0d_172 : yAg S [9, 74, 75, 77, 78] d_17 d_172 := by rw [ed_172]; exact yAg.j hL0d_166 (by rw [hk_h0]; decide)
          have hK0d_172 : yK [62] d_17 d_172 h0 := yK.ag hK0d_166 (show yAg S [9] d_166 d_172 from by rw [ed_172]; exact yAg.j yAg.rf (by rw [hk_h0]; decide)) (by rw [hk_h0]; decide)
          have hId_172 : yMI S d_172 h0 := yMI.ag hId_166 hSh hm_h0 hk_h0 (show yAg S [9] d_166 d_172 from by rw [ed_172]; exact yAg.j yAg.rf (by rw [hk_h0]; decide)) (yK.ag (F := []) yK.rf (show yAg S [9] d_166 d_172 from by rw [ed_172]; exact yAg.j yAg.rf (by rw [hk_h0]; decide)) (by rw [hk_h0]; decide)) (by decide) (by decide)
          have hE0d_172 : (d_172.1 h0 0).toInt = (d_166.1 h0 0).toInt := congrArg Int32.toInt ((yK.ag (F := []) yK.rf (show yAg S [9] d_166 d_172 from by rw [ed_172]; exact yAg.j yAg.rf (by rw [hk_h0]; decide)) (by rw [hk_h0]; decide)) 0 (by decide))
          have hE1d_172 : (d_172.1 h0 1).toInt = (d_166.1 h0 1).toInt := congrArg Int32.toInt ((yK.ag (F := []) yK.rf (show yAg S [9] d_166 d_172 from by rw [ed_172]; exact yAg.j yAg.rf (by rw [hk_h0]; decide)) (by rw [hk_h0]; decide)) 1 (by decide))
          have hE2d_172 : (d_172.1 h0 2).toInt = (d_166.1 h0 2).toInt := congrArg Int32.toInt ((yK.ag (F := []) yK.rf (show yAg S [9] d_166 d_172 from by rw [ed_172]; exact yAg.j yAg.rf (by rw [hk_h0]; decide)) (by rw [hk_h0]; decide)) 2 (by decide))
          have hE3d_172 : (d_172.1 h0 3).toInt = (d_166.1 h0 3).toInt := congrArg Int32.toInt ((yK.ag (F := []) yK.rf (show yAg S [9] d_166 d_172 from by rw [ed_172]; exact yAg.j yAg.rf (by rw [hk_h0]; decide)) (by rw [hk_h0]; decide)) 3 (by decide))
          have hE63d_172 : (d_172.1 h0 63).toInt = (d_166.1 h0 63).toInt := congrArg Int32.toInt ((yK.ag (F := []) yK.rf (show yAg S [9] d_166 d_172 from by rw [ed_172]; exact yAg.j yAg.rf (by rw [hk_h0]; decide)) (by rw [hk_h0]; decide)) 63 (by decide))
          refine lv_aload_n hx hb dX9_walk_170 rfl (lv_at hl 4 rfl) ?_
          refine yget (ci := 9) (k := 44) (v := .ref (S.2.2.1 h0 44)) (C := RX9) (T := TX9) (N := 67) C0 hK hP hm_h0 hk_h0 (by decide) rfl inlX9 (by decide) mW149 (fun _ h9 => h9) rfl dX9_walk_171 ?_
          refine lv_iload hx hb dX9_walk_174 (lv_at hl 0 rfl) ?_
          refine lv_aload_n hx hb dX9_walk_176 rfl (lv_at hl 4 rfl) ?_
          refine lv_iload hx hb dX9_walk_177 (lv_at hl 0 rfl) ?_
          refine yVri (As := [.int v_21]) (rest := [.int v_21, .ref (S.2.2.1 h0 44)]) C0 (g_X9_begin l G S d_172 h0 v_21 hSh hm_h0 hk_h0 hId_172 (by refine ⟨?_, ?_⟩ <;> omega)) ok_X9_begin (mW639 : Cond.methodLink RX9 232 yX9_begin ∈ wsT) ⟨Nat.le_of_ble_eq_true rfl, Nat.le_of_ble_eq_true rfl⟩ hP hD hK hN hm_h0 hk_h0 (by decide) rfl rfl rfl hl.1 rfl (Nat.le_of_ble_eq_true rfl) ⟨Nat.le_of_ble_eq_true rfl, Nat.le_of_ble_eq_true rfl⟩ dX9_walk_179 (fun r_173 hr_173 => ?_)
          have hCC_174 := yMI.c hId_172
          refine yast C0 hK hP hD hS hmy_141 hky_141 (by decide) rfl 0 rfl (xinT 8 rfl (by omega) (by omega)) dX9_walk_182 (fun H locs hP hD hS => ?_)
          obtain ⟨d_175, ed_175⟩ : ∃ z : yD, z = ycs d_172 (S.2.2.1 h0 44) (upd (d_172.2.2.2.1 (S.2.2.1 h0 44)) (v_21 : Int32).toNatClampNeg r_173) := ⟨_, rfl⟩
          rw [← ed_175] at hP hD
          have hgd_175 : yAg S [9, 74, 75, 77, 78] d d_175 := by rw [ed_175]; exact yAg.cs hgd_172 (by rw [hky_141]; decide)
          have hPod_175 : yPo S d_175 := by rw [ed_175]; exact hPod_172
          have hfd_175 : yK [54, 55, 57, 62, 63, 64, 65] d d_175 h0 := yK.ag hfd_172 (show yAg S [74] d_172 d_175 from by rw [ed_175]; exact yAg.cs yAg.rf (by rw [hky_141]; decide)) (by rw [hk_h0]; decide)
          have hL0d_175 : yAg S [9, 74, 75, 77, 78] d_17 d_175 := by rw [ed_175]; exact yAg.cs hL0d_172 (by rw [hky_141]; decide)
          have hK0d_175 : yK [62] d_17 d_175 h0 := yK.ag hK0d_172 (show yAg S [74] d_172 d_175 from by rw [ed_175]; exact yAg.cs yAg.rf (by rw [hky_141]; decide)) (by rw [hk_h0]; decide)
          have hId_175 : yMI S d_175 h0 := by rw [ed_175]; exact yMI.w44 hId_172 hSh hm_h0 hk_h0 (yBr.up (yMI.fr_ hId_172) ⟨by omega, by omega⟩)
          have hE0d_175 : (d_175.1 h0 0).toInt = (d_172.1 h0 0).toInt := congrArg Int32.toInt ((yK.ag (F := []) yK.rf (show yAg S [74] d_172 d_175 from by rw [ed_175]; exact yAg.cs yAg.rf (by rw [hky_141]; decide)) (by rw [hk_h0]; decide)) 0 (by decide))
          have hE1d_175 : (d_175.1 h0 1).toInt = (d_172.1 h0 1).toInt := congrArg Int32.toInt ((yK.ag (F := []) yK.rf (show yAg S [74] d_172 d_175 from by rw [ed_175]; exact yAg.cs yAg.rf (by rw [hky_141]; decide)) (by rw [hk_h0]; decide)) 1 (by decide))
          have hE2d_175 : (d_175.1 h0 2).toInt = (d_172.1 h0 2).toInt := congrArg Int32.toInt ((yK.ag (F := []) yK.rf (show yAg S [74] d_172 d_175 from by rw [ed_175]; exact yAg.cs yAg.rf (by rw [hky_141]; decide)) (by rw [hk_h0]; decide)) 2 (by decide))
          have hE3d_175 : (d_175.1 h0 3).toInt = (d_172.1 h0 3).toInt := congrArg Int32.toInt ((yK.ag (F := []) yK.rf (show yAg S [74] d_172 d_175 from by rw [ed_175]; exact yAg.cs yAg.rf (by rw [hky_141]; decide)) (by rw [hk_h0]; decide)) 3 (by decide))
          have hE63d_175 : (d_175.1 h0 63).toInt = (d_172.1 h0 63).toInt := congrArg Int32.toInt ((yK.ag (F := []) yK.rf (show yAg S [74] d_172 d_175 from by rw [ed_175]; exact yAg.cs yAg.rf (by rw [hky_141]; decide)) (by rw [hk_h0]; decide)) 63 (by decide))
          refine lv_aload_n hx hb dX9_walk_183 rfl (lv_at hl 4 rfl) ?_
          refine yget (ci := 9) (k := 45) (v := .ref (S.2.2.1 h0 45)) (C := RX9) (T := TX9) (N := 67) C0 hK hP hm_h0 hk_h0 (by decide) rfl inlX9 (by decide) mW150 (fun _ h9 => h9) rfl dX9_walk_184 ?_
          refine lv_iload hx hb dX9_walk_187 (lv_at hl 0 rfl) ?_
          refine lv_aload_n hx hb dX9_walk_189 rfl (lv_at hl 4 rfl) ?_
          refine lv_iload hx hb dX9_walk_190 (lv_at hl 0 rfl) ?_
          refine yVri (As := [.int v_21]) (rest := [.int v_21, .ref (S.2.2.1 h0 45)]) C0 (g_X9_end l G S d_175 h0 v_21 hSh hm_h0 hk_h0 hId_175 (by refine ⟨?_, ?_⟩ <;> omega)) ok_X9_end (mW647 : Cond.methodLink RX9 291 yX9_end ∈ wsT) ⟨Nat.le_of_ble_eq_true rfl, Nat.le_of_ble_eq_true rfl⟩ hP hD hK hN hm_h0 hk_h0 (by decide) rfl rfl rfl hl.1 rfl (Nat.le_of_ble_eq_true rfl) ⟨Nat.le_of_ble_eq_true rfl, Nat.le_of_ble_eq_true rfl⟩ dX9_walk_192 (fun r_176 hr_176 => ?_)
          have hCC_177 := yMI.c hId_175
          refine yast C0 hK hP hD hS hmy_145 hky_145 (by decide) rfl 0 rfl (xinT 8 rfl (by omega) (by omega)) dX9_walk_195 (fun H locs hP hD hS => ?_)
          obtain ⟨d_178, ed_178⟩ : ∃ z : yD, z = ycs d_175 (S.2.2.1 h0 45) (upd (d_175.2.2.2.1 (S.2.2.1 h0 45)) (v_21 : Int32).toNatClampNeg r_176) := ⟨_, rfl⟩
          rw [← ed_178] at hP hD
          have hgd_178 : yAg S [9, 74, 75, 77, 78] d d_178 := by rw [ed_178]; exact yAg.cs hgd_175 (by rw [hky_145]; decide)
          have hPod_178 : yPo S d_178 := by rw [ed_178]; exact hPod_175
          have hfd_178 : yK [54, 55, 57, 62, 63, 64, 65] d d_178 h0 := yK.ag hfd_175 (show yAg S [75] d_175 d_178 from by rw [ed_178]; exact yAg.cs yAg.rf (by rw [hky_145]; decide)) (by rw [hk_h0]; decide)
          have hL0d_178 : yAg S [9, 74, 75, 77, 78] d_17 d_178 := by rw [ed_178]; exact yAg.cs hL0d_175 (by rw [hky_145]; decide)
          have hK0d_178 : yK [62] d_17 d_178 h0 := yK.ag hK0d_175 (show yAg S [75] d_175 d_178 from by rw [ed_178]; exact yAg.cs yAg.rf (by rw [hky_145]; decide)) (by rw [hk_h0]; decide)
          have hId_178 : yMI S d_178 h0 := by rw [ed_178]; exact yMI.w45 hId_175 hSh hm_h0 hk_h0 (yBr.up (yMI.to_ hId_175) ⟨by omega, by omega⟩)
          have hE0d_178 : (d_178.1 h0 0).toInt = (d_175.1 h0 0).toInt := congrArg Int32.toInt ((yK.ag (F := []) yK.rf (show yAg S [75] d_175 d_178 from by rw [ed_178]; exact yAg.cs yAg.rf (by rw [hky_145]; decide)) (by rw [hk_h0]; decide)) 0 (by decide))
          have hE1d_178 : (d_178.1 h0 1).toInt = (d_175.1 h0 1).toInt := congrArg Int32.toInt ((yK.ag (F := []) yK.rf (show yAg S [75] d_175 d_178 from by rw [ed_178]; exact yAg.cs yAg.rf (by rw [hky_145]; decide)) (by rw [hk_h0]; decide)) 1 (by decide))
          have hE2d_178 : (d_178.1 h0 2).toInt = (d_175.1 h0 2).toInt := congrArg Int32.toInt ((yK.ag (F := []) yK.rf (show yAg S [75] d_175 d_178 from by rw [ed_178]; exact yAg.cs yAg.rf (by rw [hky_145]; decide)) (by rw [hk_h0]; decide)) 2 (by decide))
          have hE3d_178 : (d_178.1 h0 3).toInt = (d_175.1 h0 3).toInt := congrArg Int32.toInt ((yK.ag (F := []) yK.rf (show yAg S [75] d_175 d_178 from by rw [ed_178]; exact yAg.cs yAg.rf (by rw [hky_145]; decide)) (by rw [hk_h0]; decide)) 3 (by decide))
          have hE63d_178 : (d_178.1 h0 63).toInt = (d_175.1 h0 63).toInt := congrArg Int32.toInt ((yK.ag (F := []) yK.rf (show yAg S [75] d_175 d_178 from by rw [ed_178]; exact yAg.cs yAg.rf (by rw [hky_145]; decide)) (by rw [hk_h0]; decide)) 63 (by decide))
          refine lv_aload_n hx hb dX9_walk_196 rfl (lv_at hl 4 rfl) ?_
          refine yget (ci := 9) (k := 47) (v := .ref (S.2.2.1 h0 47)) (C := RX9) (T := TX9) (N := 67) C0 hK hP hm_h0 hk_h0 (by decide) rfl inlX9 (by decide) mW152 (fun _ h9 => h9) rfl dX9_walk_197 ?_
          obtain ⟨hmy_179, hky_179⟩ := ySh.f9_47 hSh _ hm_h0 hk_h0
          refine lv_iload hx hb dX9_walk_200 (lv_at hl 0 rfl) ?_
          refine lv_iconst (v := 0) hx hb dX9_walk_202 (by decide) ?_
          have hCC_180 := yMI.c hId_178
          refine yast C0 hK hP hD hS hmy_179 hky_179 (by decide) rfl 0 rfl (xinT 8 rfl (by omega) (by omega)) dX9_walk_203 (fun H locs hP hD hS => ?_)
          obtain ⟨d_181, ed_181⟩ : ∃ z : yD, z = ycs d_178 (S.2.2.1 h0 47) (upd (d_178.2.2.2.1 (S.2.2.1 h0 47)) (v_21 : Int32).toNatClampNeg 0) := ⟨_, rfl⟩
          rw [← ed_181] at hP hD
          have hgd_181 : yAg S [9, 74, 75, 77, 78] d d_181 := by rw [ed_181]; exact yAg.cs hgd_178 (by rw [hky_179]; decide)
          have hPod_181 : yPo S d_181 := by rw [ed_181]; exact hPod_178
          have hfd_181 : yK [54, 55, 57, 62, 63, 64, 65] d d_181 h0 := yK.ag hfd_178 (show yAg S [77] d_178 d_181 from by rw [ed_181]; exact yAg.cs yAg.rf (by rw [hky_179]; decide)) (by rw [hk_h0]; decide)
          have hL0d_181 : yAg S [9, 74, 75, 77, 78] d_17 d_181 := by rw [ed_181]; exact yAg.cs hL0d_178 (by rw [hky_179]; decide)
          have hK0d_181 : yK [62] d_17 d_181 h0 := yK.ag hK0d_178 (show yAg S [77] d_178 d_181 from by rw [ed_181]; exact yAg.cs yAg.rf (by rw [hky_179]; decide)) (by rw [hk_h0]; decide)
          have hId_181 : yMI S d_181 h0 := yMI.ag hId_178 hSh hm_h0 hk_h0 (show yAg S [77] d_178 d_181 from by rw [ed_181]; exact yAg.cs yAg.rf (by rw [hky_179]; decide)) (yK.ag (F := []) yK.rf (show yAg S [77] d_178 d_181 from by rw [ed_181]; exact yAg.cs yAg.rf (by rw [hky_179]; decide)) (by rw [hk_h0]; decide)) (by decide) (by decide)
          have hE0d_181 : (d_181.1 h0 0).toInt = (d_178.1 h0 0).toInt := congrArg Int32.toInt ((yK.ag (F := []) yK.rf (show yAg S [77] d_178 d_181 from by rw [ed_181]; exact yAg.cs yAg.rf (by rw [hky_179]; decide)) (by rw [hk_h0]; decide)) 0 (by decide))
          have hE1d_181 : (d_181.1 h0 1).toInt = (d_178.1 h0 1).toInt := congrArg Int32.toInt ((yK.ag (F := []) yK.rf (show yAg S [77] d_178 d_181 from by rw [ed_181]; exact yAg.cs yAg.rf (by rw [hky_179]; decide)) (by rw [hk_h0]; decide)) 1 (by decide))
          have hE2d_181 : (d_181.1 h0 2).toInt = (d_178.1 h0 2).toInt := congrArg Int32.toInt ((yK.ag (F := []) yK.rf (show yAg S [77] d_178 d_181 from by rw [ed_181]; exact yAg.cs yAg.rf (by rw [hky_179]; decide)) (by rw [hk_h0]; decide)) 2 (by decide))
          have hE3d_181 : (d_181.1 h0 3).toInt = (d_178.1 h0 3).toInt := congrArg Int32.toInt ((yK.ag (F := []) yK.rf (show yAg S [77] d_178 d_181 from by rw [ed_181]; exact yAg.cs yAg.rf (by rw [hky_179]; decide)) (by rw [hk_h0]; decide)) 3 (by decide))
          have hE63d_181 : (d_181.1 h0 63).toInt = (d_178.1 h0 63).toInt := congrArg Int32.toInt ((yK.ag (F := []) yK.rf (show yAg S [77] d_178 d_181 from by rw [ed_181]; exact yAg.cs yAg.rf (by rw [hky_179]; decide)) (by rw [hk_h0]; decide)) 63 (by decide))
          refine lv_aload_n hx hb dX9_walk_204 rfl (lv_at hl 4 rfl) ?_
          refine yget (ci := 9) (k := 48) (v := .ref (S.2.2.1 h0 48)) (C := RX9) (T := TX9) (N := 67) C0 hK hP hm_h0 hk_h0 (by decide) rfl inlX9 (by decide) mW153 (fun _ h9 => h9) rfl dX9_walk_205 ?_
          obtain ⟨hmy_182, hky_182⟩ := ySh.f9_48 hSh _ hm_h0 hk_h0
          refine lv_iload hx hb dX9_walk_208 (lv_at hl 0 rfl) ?_
          refine lv_iconst (v := 0) hx hb dX9_walk_210 (by decide) ?_
          have hCC_183 := yMI.c hId_181
          refine yast C0 hK hP hD hS hmy_182 hky_182 (by decide) rfl 0 rfl (xinT 8 rfl (by omega) (by omega)) dX9_walk_211 (fun H locs hP hD hS => ?_)
          obtain ⟨d_184, ed_184⟩ : ∃ z : yD, z = ycs d_181 (S.2.2.1 h0 48) (upd (d_181.2.2.2.1 (S.2.2.1 h0 48)) (v_21 : Int32).toNatClampNeg 0) := ⟨_, rfl⟩
          rw [← ed_184] at hP hD
          have hgd_184 : yAg S [9, 74, 75, 77, 78] d d_184 := by rw [ed_184]; exact yAg.cs hgd_181 (by rw [hky_182]; decide)
          have hPod_184 : yPo S d_184 := by rw [ed_184]; exact hPod_181
          have hfd_184 : yK [54, 55, 57, 62, 63, 64, 65] d d_184 h0 := yK.ag hfd_181 (show yAg S [78] d_181 d_184 from by rw [ed_184]; exact yAg.cs yAg.rf (by rw [hky_182]; decide)) (by rw [hk_h0]; decide)
          have hL0d_184 : yAg S [9, 74, 75, 77, 78] d_17 d_184 := by rw [ed_184]; exact yAg.cs hL0d_181 (by rw [hky_182]; decide)
          have hK0d_184 : yK [62] d_17 d_184 h0 := yK.ag hK0d_181 (show yAg S [78] d_181 d_184 from by rw [ed_184]; exact yAg.cs yAg.rf (by rw [hky_182]; decide)) (by rw [hk_h0]; decide)
          have hId_184 : yMI S d_184 h0 := by rw [ed_184]; exact yMI.w48 hId_181 hSh hm_h0 hk_h0 (yBr.up (yMI.ne_ hId_181) (by decide +kernel))
          have hE0d_184 : (d_184.1 h0 0).toInt = (d_181.1 h0 0).toInt := congrArg Int32.toInt ((yK.ag (F := []) yK.rf (show yAg S [78] d_181 d_184 from by rw [ed_184]; exact yAg.cs yAg.rf (by rw [hky_182]; decide)) (by rw [hk_h0]; decide)) 0 (by decide))
          have hE1d_184 : (d_184.1 h0 1).toInt = (d_181.1 h0 1).toInt := congrArg Int32.toInt ((yK.ag (F := []) yK.rf (show yAg S [78] d_181 d_184 from by rw [ed_184]; exact yAg.cs yAg.rf (by rw [hky_182]; decide)) (by rw [hk_h0]; decide)) 1 (by decide))
          have hE2d_184 : (d_184.1 h0 2).toInt = (d_181.1 h0 2).toInt := congrArg Int32.toInt ((yK.ag (F := []) yK.rf (show yAg S [78] d_181 d_184 from by rw [ed_184]; exact yAg.cs yAg.rf (by rw [hky_182]; decide)) (by rw [hk_h0]; decide)) 2 (by decide))
          have hE3d_184 : (d_184.1 h0 3).toInt = (d_181.1 h0 3).toInt := congrArg Int32.toInt ((yK.ag (F := []) yK.rf (show yAg S [78] d_181 d_184 from by rw [ed_184]; exact yAg.cs yAg.rf (by rw [hky_182]; decide)) (by rw [hk_h0]; decide)) 3 (by decide))
          have hE63d_184 : (d_184.1 h0 63).toInt = (d_181.1 h0 63).toInt := congrArg Int32.toInt ((yK.ag (F := []) yK.rf (show yAg S [78] d_181 d_184 from by rw [ed_184]; exact yAg.cs yAg.rf (by rw [hky_182]; decide)) (by rw [hk_h0]; decide)) 63 (by decide))
          refine lv_aload_n hx hb dX9_walk_212 rfl (lv_at hl 4 rfl) ?_
          refine yget (ci := 9) (k := 44) (v := .ref (S.2.2.1 h0 44)) (C := RX9) (T := TX9) (N := 67) C0 hK hP hm_h0 hk_h0 (by decide) rfl inlX9 (by decide) mW149 (fun _ h9 => h9) rfl dX9_walk_213 ?_
          refine lv_iload hx hb dX9_walk_216 (lv_at hl 0 rfl) ?_
          have hCC_185 := yMI.c hId_184
          refine yald C0 hK hP hmy_141 hky_141 (by decide) rfl 0 rfl (xinT 8 rfl (by omega) (by omega)) dX9_walk_218 ?_
          refine lv_topi (fun z_186 ez_186 => ?_)
          have hvz_186 : (-1) ≤ (z_186 : Int32).toInt ∧ (z_186 : Int32).toInt ≤ 229599 := by rw [ez_186]; exact yMI.fr_ hId_184 _
          refine lv_aload_n hx hb dX9_walk_219 rfl (lv_at hl 4 rfl) ?_
          refine yget (ci := 9) (k := 45) (v := .ref (S.2.2.1 h0 45)) (C := RX9) (T := TX9) (N := 67) C0 hK hP hm_h0 hk_h0 (by decide) rfl inlX9 (by decide) mW150 (fun _ h9 => h9) rfl dX9_walk_220 ?_
          refine lv_iload hx hb dX9_walk_223 (lv_at hl 0 rfl) ?_
          refine yald C0 hK hP hmy_145 hky_145 (by decide) rfl 0 rfl (xinT 8 rfl (by omega) (by omega)) dX9_walk_225 ?_
          refine lv_topi (fun z_187 ez_187 => ?_)
          have hvz_187 : 0 ≤ (z_187 : Int32).toInt ∧ (z_187 : Int32).toInt ≤ 129600 := by rw [ez_187]; exact yMI.to_ hId_184 _
          refine lv_icmp_ge (tgt := 303) hx hb dX9_walk_226 (by decide) (fun c_188 => ?_) (fun c_188 => ?_)
          · refine lv_iinc (v := v_21 + 1) (lv' := [(12, .int (v_21 + 1)), (10, .long v_20), (8, .long v_19), (6, .long z_7), (0, .ref h0), (2, .int p1), (3, .int p2), (4, .int p3), (5, .int p4)]) hx hb dX9_walk_303 hl (k := 0) rfl rfl (by decide) rfl (fun ls hl => ?_)
            refine lv_goto (tgt := 80) hx hb dX9_walk_306 (by decide) ?_
            have F_192 := fle (rfl : (z_187 : Int32).toInt = (z_187 : Int32).toInt) (rfl : (z_186 : Int32).toInt = (z_186 : Int32).toInt) c_188
            have T_193 : ((v_21 + 1) : Int32).toInt = (v_21 : Int32).toInt + 1 := tadd rfl (rfl : (v_21 : Int32).toInt = (v_21 : Int32).toInt) (by decide +kernel : (1 : Int32).toInt = 1) (by omega) (by omega)
            exact hnext_23 (v_19, v_20, v_21 + 1, d_184) _ _ ls (xup c_25) ⟨hP, hD, hS, hgd_184, hPod_184, hfd_184, hId_184, hL0d_184, hK0d_184, (show (0 ≤ (((v_21 + 1)) : Int32).toInt) from by have hq0_ : (0 : Int32).toInt = 0 := (by decide +kernel); omega), lv_sub hl [0, 1, 2, 3, 4, 5, 6, 7, 8] rfl⟩
          · refine lv_aload_n hx hb dX9_walk_229 rfl (lv_at hl 4 rfl) ?_
            refine yget (ci := 9) (k := 44) (v := .ref (S.2.2.1 h0 44)) (C := RX9) (T := TX9) (N := 67) C0 hK hP hm_h0 hk_h0 (by decide) rfl inlX9 (by decide) mW149 (fun _ h9 => h9) rfl dX9_walk_230 ?_
            refine lv_iload hx hb dX9_walk_233 (lv_at hl 0 rfl) ?_
            have F_196 := fnle (rfl : (z_187 : Int32).toInt = (z_187 : Int32).toInt) (rfl : (z_186 : Int32).toInt = (z_186 : Int32).toInt) c_188
            refine yald C0 hK hP hmy_141 hky_141 (by decide) rfl 0 rfl (xinT 8 rfl (by omega) (by omega)) dX9_walk_235 ?_
            refine lv_topi (fun z_197 ez_197 => ?_)
            have hvz_197 : (-1) ≤ (z_197 : Int32).toInt ∧ (z_197 : Int32).toInt ≤ 229599 := by rw [ez_197]; exact yMI.fr_ hId_184 _
            refine lv_i2l hx hb dX9_walk_236 rfl ?_
            refine lv_topl (fun z_198 ez_198 => ?_)
            refine lv_aload_n hx hb dX9_walk_237 rfl (lv_at hl 4 rfl) ?_
            refine lv_iload hx hb dX9_walk_238 (lv_at hl 0 rfl) ?_
            refine lv_bipush (v := 7) hx hb dX9_walk_240 (by decide) ?_
            refine yVri (As := [.int v_21, .int 7]) (rest := [.long z_198]) C0 (g_X9_of l G S d_184 h0 v_21 7 hSh hm_h0 hk_h0 (by refine ⟨?_, ?_⟩ <;> omega) (by decide +kernel)) ok_X9_of (mW425 : Cond.methodLink RX9 161 yX9_of ∈ wsT) ⟨Nat.le_of_ble_eq_true rfl, Nat.le_of_ble_eq_true rfl⟩ hP hD hK hN hm_h0 hk_h0 (by decide) rfl rfl rfl hl.1 rfl (Nat.le_of_ble_eq_true rfl) ⟨Nat.le_of_ble_eq_true rfl, Nat.le_of_ble_eq_true rfl⟩ dX9_walk_242 (fun r_199 hr_199 => ?_)
            have hOr_199 : (r_199 : Int32).toInt = yOf S d_184 h0 (v_21 : Int32).toInt.toNat 7 := by rw [hr_199, show (7 : Int32).toInt.toNat = 7 by decide +kernel]; rfl
            refine lv_i2l hx hb dX9_walk_245 rfl ?_
            refine lv_topl (fun z_200 ez_200 => ?_)
            refine lv_ladd hx hb dX9_walk_246 ?_
            refine lv_topl (fun z_201 ez_201 => ?_)
            refine lv_lstore (lv' := [(13, .long z_201), (12, .int v_21), (10, .long v_20), (8, .long v_19), (6, .long z_7), (0, .ref h0), (2, .int p1), (3, .int p2), (4, .int p3), (5, .int p4)]) hx hb dX9_walk_247 hl (by decide) rfl (fun ls hl => ?_)
            refine lv_aload_n hx hb dX9_walk_249 rfl (lv_at hl 5 rfl) ?_
            refine yget (ci := 9) (k := 45) (v := .ref (S.2.2.1 h0 45)) (C := RX9) (T := TX9) (N := 67) C0 hK hP hm_h0 hk_h0 (by decide) rfl inlX9 (by decide) mW150 (fun _ h9 => h9) rfl dX9_walk_250 ?_
            refine lv_iload hx hb dX9_walk_253 (lv_at hl 1 rfl) ?_
            refine yald C0 hK hP hmy_145 hky_145 (by decide) rfl 0 rfl (xinT 8 rfl (by omega) (by omega)) dX9_walk_255 ?_
            refine lv_topi (fun z_202 ez_202 => ?_)
            have hvz_202 : 0 ≤ (z_202 : Int32).toInt ∧ (z_202 : Int32).toInt ≤ 129600 := by rw [ez_202]; exact yMI.to_ hId_184 _
            refine lv_i2l hx hb dX9_walk_256 rfl ?_
            refine lv_topl (fun z_203 ez_203 => ?_)
            refine lv_aload_n hx hb dX9_walk_257 rfl (lv_at hl 5 rfl) ?_
            refine lv_iload hx hb dX9_walk_258 (lv_at hl 1 rfl) ?_
            refine lv_bipush (v := 7) hx hb dX9_walk_260 (by decide) ?_
            refine yVri (As := [.int v_21, .int 7]) (rest := [.long z_203]) C0 (g_X9_of l G S d_184 h0 v_21 7 hSh hm_h0 hk_h0 (by refine ⟨?_, ?_⟩ <;> omega) (by decide +kernel)) ok_X9_of (mW425 : Cond.methodLink RX9 161 yX9_of ∈ wsT) ⟨Nat.le_of_ble_eq_true rfl, Nat.le_of_ble_eq_true rfl⟩ hP hD hK hN hm_h0 hk_h0 (by decide) rfl rfl rfl hl.1 rfl (Nat.le_of_ble_eq_true rfl) ⟨Nat.le_of_ble_eq_true rfl, Nat.le_of_ble_eq_true rfl⟩ dX9_walk_262 (fun r_204 hr_204 => ?_)
            have hOr_204 : (r_204 : Int32).toInt = yOf S d_184 h0 (v_21 : Int32).toInt.toNat 7 := by rw [hr_204, show (7 : Int32).toInt.toNat = 7 by decide +kernel]; rfl
            refine lv_i2l hx hb dX9_walk_265 rfl ?_
            refine lv_topl (fun z_205 ez_205 => ?_)
            refine lv_ladd hx hb dX9_walk_266 ?_
            refine lv_topl (fun z_206 ez_206 => ?_)
            refine lv_lstore (lv' := [(15, .long z_206), (13, .long z_201), (12, .int v_21), (10, .long v_20), (8, .long v_19), (6, .long z_7), (0, .ref h0), (2, .int p1), (3, .int p2), (4, .int p3), (5, .int p4)]) hx hb dX9_walk_267 hl (by decide) rfl (fun ls hl => ?_)
            refine lv_lload hx hb dX9_walk_269 (lv_at hl 1 rfl) ?_
            refine lv_lload hx hb dX9_walk_271 (lv_at hl 4 rfl) ?_
            refine W.lcmp hx hb dX9_walk_273 ?_
            refine lv_topi (fun z_207 ez_207 => ?_)
            refine yjoinR (σ := Int64) 284 (fun x ls st => st = [.long x] ∧ lv_has ls 17 [(15, .long z_206), (12, .int v_21), (10, .long v_20), (6, .long z_7), (0, .ref h0), (2, .int p1), (3, .int p2), (4, .int p3), (5, .int p4)]) (fun x ls st hI => ?_) (fun J284_208 => ?_)
            · obtain ⟨v_208, rfl⟩ : ∃ z, z = x := ⟨_, rfl⟩
              obtain ⟨rfl, hl⟩ := hI
              have hl : lv_has ls 17 [(15, .long z_206), (12, .int v_21), (10, .long v_20), (6, .long z_7), (0, .ref h0), (2, .int p1), (3, .int p2), (4, .int p3), (5, .int p4)] := hl
              refine lv_lstore (lv' := [(8, .long v_208), (15, .long z_206), (12, .int v_21), (10, .long v_20), (6, .long z_7), (0, .ref h0), (2, .int p1), (3, .int p2), (4, .int p3), (5, .int p4)]) hx hb dX9_walk_284 hl (by decide) rfl (fun ls hl => ?_)
              refine lv_lload hx hb dX9_walk_286 (lv_at hl 1 rfl) ?_
              refine lv_lload hx hb dX9_walk_288 (lv_at hl 3 rfl) ?_
              refine W.lcmp hx hb dX9_walk_290 ?_
              refine lv_topi (fun z_209 ez_209 => ?_)
              refine lv_if_le (tgt := 299) hx hb dX9_walk_291 (by decide) (fun c_210 => ?_) (fun c_210 => ?_)
              · refine lv_lload hx hb dX9_walk_299 (lv_at hl 3 rfl) ?_
                refine lv_lstore (lv' := [(10, .long v_20), (8, .long v_208), (15, .long z_206), (12, .int v_21), (6, .long z_7), (0, .ref h0), (2, .int p1), (3, .int p2), (4, .int p3), (5, .int p4)]) hx hb dX9_walk_301 hl (by decide) rfl (fun ls hl => ?_)
                refine lv_iinc (v := v_21 + 1) (lv' := [(12, .int (v_21 + 1)), (10, .long v_20), (8, .long v_208), (15, .long z_206), (6, .long z_7), (0, .ref h0), (2, .int p1), (3, .int p2), (4, .int p3), (5, .int p4)]) hx hb dX9_walk_303 hl (k := 3) rfl rfl (by decide) rfl (fun ls hl => ?_)
                refine lv_goto (tgt := 80) hx hb dX9_walk_306 (by decide) ?_
                have T_212 : ((v_21 + 1) : Int32).toInt = (v_21 : Int32).toInt + 1 := tadd rfl (rfl : (v_21 : Int32).toInt = (v_21 : Int32).toInt) (by decide +kernel : (1 : Int32).toInt = 1) (by omega) (by omega)
                exact hnext_23 (v_208, v_20, v_21 + 1, d_184) _ _ ls (xup c_25) ⟨hP, hD, hS, hgd_184, hPod_184, hfd_184, hId_184, hL0d_184, hK0d_184, (show (0 ≤ (((v_21 + 1)) : Int32).toInt) from by have hq0_ : (0 : Int32).toInt = 0 := (by decide +kernel); omega), lv_sub hl [0, 1, 2, 4, 5, 6, 7, 8, 9] rfl⟩
              · refine lv_lload hx hb dX9_walk_294 (lv_at hl 1 rfl) ?_
                refine lv_goto (tgt := 301) hx hb dX9_walk_296 (by decide) ?_
                refine lv_lstore (lv' := [(10, .long z_206), (8, .long v_208), (15, .long z_206), (12, .int v_21), (6, .long z_7), (0, .ref h0), (2, .int p1), (3, .int p2), (4, .int p3), (5, .int p4)]) hx hb dX9_walk_301 hl (by decide) rfl (fun ls hl => ?_)
                refine lv_iinc (v := v_21 + 1) (lv' := [(12, .int (v_21 + 1)), (10, .long z_206), (8, .long v_208), (15, .long z_206), (6, .long z_7), (0, .ref h0), (2, .int p1), (3, .int p2), (4, .int p3), (5, .int p4)]) hx hb dX9_walk_303 hl (k := 3) rfl rfl (by decide) rfl (fun ls hl => ?_)
                refine lv_goto (tgt := 80) hx hb dX9_walk_306 (by decide) ?_
                have T_214 : ((v_21 + 1) : Int32).toInt = (v_21 : Int32).toInt + 1 := tadd rfl (rfl : (v_21 : Int32).toInt = (v_21 : Int32).toInt) (by decide +kernel : (1 : Int32).toInt = 1) (by omega) (by omega)
                exact hnext_23 (v_208, z_206, v_21 + 1, d_184) _ _ ls (xup c_25) ⟨hP, hD, hS, hgd_184, hPod_184, hfd_184, hId_184, hL0d_184, hK0d_184, (show (0 ≤ (((v_21 + 1)) : Int32).toInt) from by have hq0_ : (0 : Int32).toInt = 0 := (by decide +kernel); omega), lv_sub hl [0, 1, 2, 4, 5, 6, 7, 8, 9] rfl⟩
            refine lv_if_ge (tgt := 282) hx hb dX9_walk_274 (by decide) (fun c_215 => ?_) (fun c_215 => ?_)
            · refine lv_lload hx hb dX9_walk_282 (lv_at hl 4 rfl) ?_
              exact J284_208 v_19 ls _ ⟨rfl, lv_sub hl [0, 2, 3, 5, 6, 7, 8, 9, 10] rfl⟩
            · refine lv_lload hx hb dX9_walk_277 (lv_at hl 1 rfl) ?_
              refine lv_goto (tgt := 284) hx hb dX9_walk_279 (by decide) ?_
              exact J284_208 z_201 ls _ ⟨rfl, lv_sub hl [0, 2, 3, 5, 6, 7, 8, 9, 10] rfl⟩
        · refine lv_goto (tgt := 303) hx hb dX9_walk_133 (by decide) ?_
          refine lv_iinc (v := v_21 + 1) (lv' := [(12, .int (v_21 + 1)), (10, .long v_20), (8, .long v_19), (6, .long z_7), (0, .ref h0), (2, .int p1), (3, .int p2), (4, .int p3), (5, .int p4)]) hx hb dX9_walk_303 hl (k := 0) rfl rfl (by decide) rfl (fun ls hl => ?_)
          refine lv_goto (tgt := 80) hx hb dX9_walk_306 (by decide) ?_
          have hCC_217 := yMI.c hId_147
          have F_218 := feq (rfl : (r_162 : Int32).toInt = (r_162 : Int32).toInt) (by decide +kernel : (0 : Int32).toInt = 0) c_163
          have T_219 : ((v_21 + 1) : Int32).toInt = (v_21 : Int32).toInt + 1 := tadd rfl (rfl : (v_21 : Int32).toInt = (v_21 : Int32).toInt) (by decide +kernel : (1 : Int32).toInt = 1) (by omega) (by omega)
          exact hnext_23 (v_19, v_20, v_21 + 1, d_147) _ _ ls (xup c_25) ⟨hP, hD, hS, hgd_147, hPod_147, hfd_147, hId_147, hL0d_147, hK0d_147, (show (0 ≤ (((v_21 + 1)) : Int32).toInt) from by have hq0_ : (0 : Int32).toInt = 0 := (by decide +kernel); omega), lv_sub hl [0, 1, 2, 3, 4, 5, 6, 7, 8] rfl⟩
