theorem dX9_step_0 : decode cX9_step 0 = .ok (.aload_n 0, 1) := by decide +kernel
theorem dX9_step_1 : decode cX9_step 1 = .ok (.getfield 144, 3) := by decide +kernel
theorem dX9_step_4 : decode cX9_step 4 = .ok (.iload_n 1, 1) := by decide +kernel
theorem dX9_step_5 : decode cX9_step 5 = .ok (.iaload, 1) := by decide +kernel
theorem dX9_step_6 : decode cX9_step 6 = .ok (.aload_n 0, 1) := by decide +kernel
theorem dX9_step_7 : decode cX9_step 7 = .ok (.getfield 180, 3) := by decide +kernel
theorem dX9_step_10 : decode cX9_step 10 = .ok (.if_icmp .ge 118, 3) := by decide +kernel
theorem dX9_step_13 : decode cX9_step 13 = .ok (.aload_n 0, 1) := by decide +kernel
theorem dX9_step_14 : decode cX9_step 14 = .ok (.getfield 51, 3) := by decide +kernel
theorem dX9_step_17 : decode cX9_step 17 = .ok (.aload_n 0, 1) := by decide +kernel
theorem dX9_step_18 : decode cX9_step 18 = .ok (.getfield 144, 3) := by decide +kernel
theorem dX9_step_21 : decode cX9_step 21 = .ok (.iload_n 1, 1) := by decide +kernel
theorem dX9_step_22 : decode cX9_step 22 = .ok (.iaload, 1) := by decide +kernel
theorem dX9_step_23 : decode cX9_step 23 = .ok (.baload, 1) := by decide +kernel
theorem dX9_step_24 : decode cX9_step 24 = .ok (.iload_n 1, 1) := by decide +kernel
theorem dX9_step_25 : decode cX9_step 25 = .ok (.if_icmp .lt 33, 3) := by decide +kernel
theorem dX9_step_28 : decode cX9_step 28 = .ok (.aload_n 0, 1) := by decide +kernel
theorem dX9_step_29 : decode cX9_step 29 = .ok (.getfield 51, 3) := by decide +kernel
theorem dX9_step_32 : decode cX9_step 32 = .ok (.aload_n 0, 1) := by decide +kernel
theorem dX9_step_33 : decode cX9_step 33 = .ok (.getfield 144, 3) := by decide +kernel
theorem dX9_step_36 : decode cX9_step 36 = .ok (.iload_n 1, 1) := by decide +kernel
theorem dX9_step_37 : decode cX9_step 37 = .ok (.iaload, 1) := by decide +kernel
theorem dX9_step_38 : decode cX9_step 38 = .ok (.baload, 1) := by decide +kernel
theorem dX9_step_39 : decode cX9_step 39 = .ok (.iload_n 1, 1) := by decide +kernel
theorem dX9_step_40 : decode cX9_step 40 = .ok (.if_icmp .ne 88, 3) := by decide +kernel
theorem dX9_step_43 : decode cX9_step 43 = .ok (.aload_n 0, 1) := by decide +kernel
theorem dX9_step_44 : decode cX9_step 44 = .ok (.getfield 54, 3) := by decide +kernel
theorem dX9_step_47 : decode cX9_step 47 = .ok (.aload_n 0, 1) := by decide +kernel
theorem dX9_step_48 : decode cX9_step 48 = .ok (.getfield 144, 3) := by decide +kernel
theorem dX9_step_51 : decode cX9_step 51 = .ok (.iload_n 1, 1) := by decide +kernel
theorem dX9_step_52 : decode cX9_step 52 = .ok (.iaload, 1) := by decide +kernel
theorem dX9_step_53 : decode cX9_step 53 = .ok (.iaload, 1) := by decide +kernel
theorem dX9_step_54 : decode cX9_step 54 = .ok (.iload_n 2, 1) := by decide +kernel
theorem dX9_step_55 : decode cX9_step 55 = .ok (.if_icmp .gt 73, 3) := by decide +kernel
theorem dX9_step_58 : decode cX9_step 58 = .ok (.aload_n 0, 1) := by decide +kernel
theorem dX9_step_59 : decode cX9_step 59 = .ok (.getfield 144, 3) := by decide +kernel
theorem dX9_step_62 : decode cX9_step 62 = .ok (.iload_n 1, 1) := by decide +kernel
theorem dX9_step_63 : decode cX9_step 63 = .ok (.iaload, 1) := by decide +kernel
theorem dX9_step_64 : decode cX9_step 64 = .ok (.istore 9, 2) := by decide +kernel
theorem dX9_step_66 : decode cX9_step 66 = .ok (.aload_n 0, 1) := by decide +kernel
theorem dX9_step_67 : decode cX9_step 67 = .ok (.getfield 51, 3) := by decide +kernel
theorem dX9_step_70 : decode cX9_step 70 = .ok (.iload 9, 2) := by decide +kernel
theorem dX9_step_72 : decode cX9_step 72 = .ok (.baload, 1) := by decide +kernel
theorem dX9_step_73 : decode cX9_step 73 = .ok (.iload_n 1, 1) := by decide +kernel
theorem dX9_step_74 : decode cX9_step 74 = .ok (.if_icmp .ne 41, 3) := by decide +kernel
theorem dX9_step_77 : decode cX9_step 77 = .ok (.aload_n 0, 1) := by decide +kernel
theorem dX9_step_78 : decode cX9_step 78 = .ok (.getfield 57, 3) := by decide +kernel
theorem dX9_step_81 : decode cX9_step 81 = .ok (.iload 9, 2) := by decide +kernel
theorem dX9_step_83 : decode cX9_step 83 = .ok (.baload, 1) := by decide +kernel
theorem dX9_step_84 : decode cX9_step 84 = .ok (.iconst 3, 1) := by decide +kernel
theorem dX9_step_85 : decode cX9_step 85 = .ok (.if_icmp .lt 30, 3) := by decide +kernel
theorem dX9_step_88 : decode cX9_step 88 = .ok (.aload_n 0, 1) := by decide +kernel
theorem dX9_step_89 : decode cX9_step 89 = .ok (.getfield 57, 3) := by decide +kernel
theorem dX9_step_92 : decode cX9_step 92 = .ok (.iload 9, 2) := by decide +kernel
theorem dX9_step_94 : decode cX9_step 94 = .ok (.baload, 1) := by decide +kernel
theorem dX9_step_95 : decode cX9_step 95 = .ok (.bipush 6, 2) := by decide +kernel
theorem dX9_step_97 : decode cX9_step 97 = .ok (.if_icmp .gt 18, 3) := by decide +kernel
theorem dX9_step_100 : decode cX9_step 100 = .ok (.aload_n 0, 1) := by decide +kernel
theorem dX9_step_101 : decode cX9_step 101 = .ok (.getfield 141, 3) := by decide +kernel
theorem dX9_step_104 : decode cX9_step 104 = .ok (.iload_n 1, 1) := by decide +kernel
theorem dX9_step_105 : decode cX9_step 105 = .ok (.aload_n 0, 1) := by decide +kernel
theorem dX9_step_106 : decode cX9_step 106 = .ok (.getfield 57, 3) := by decide +kernel
theorem dX9_step_109 : decode cX9_step 109 = .ok (.iload 9, 2) := by decide +kernel
theorem dX9_step_111 : decode cX9_step 111 = .ok (.baload, 1) := by decide +kernel
theorem dX9_step_112 : decode cX9_step 112 = .ok (.iconst 2, 1) := by decide +kernel
theorem dX9_step_113 : decode cX9_step 113 = .ok (.isub, 1) := by decide +kernel
theorem dX9_step_114 : decode cX9_step 114 = .ok (.iastore, 1) := by decide +kernel
theorem dX9_step_115 : decode cX9_step 115 = .ok (.aload_n 0, 1) := by decide +kernel
theorem dX9_step_116 : decode cX9_step 116 = .ok (.getfield 144, 3) := by decide +kernel
theorem dX9_step_119 : decode cX9_step 119 = .ok (.iload_n 1, 1) := by decide +kernel
theorem dX9_step_120 : decode cX9_step 120 = .ok (.dup2, 1) := by decide +kernel
theorem dX9_step_121 : decode cX9_step 121 = .ok (.iaload, 1) := by decide +kernel
theorem dX9_step_122 : decode cX9_step 122 = .ok (.iconst 1, 1) := by decide +kernel
theorem dX9_step_123 : decode cX9_step 123 = .ok (.iadd, 1) := by decide +kernel
theorem dX9_step_124 : decode cX9_step 124 = .ok (.iastore, 1) := by decide +kernel
theorem dX9_step_125 : decode cX9_step 125 = .ok (.goto (-125), 3) := by decide +kernel
theorem dX9_step_128 : decode cX9_step 128 = .ok (.bipush (-3), 2) := by decide +kernel
theorem dX9_step_130 : decode cX9_step 130 = .ok (.istore 9, 2) := by decide +kernel
theorem dX9_step_132 : decode cX9_step 132 = .ok (.iload 5, 2) := by decide +kernel
theorem dX9_step_134 : decode cX9_step 134 = .ok (.ifCond .eq 7, 3) := by decide +kernel
theorem dX9_step_137 : decode cX9_step 137 = .ok (.iconst 2, 1) := by decide +kernel
theorem dX9_step_138 : decode cX9_step 138 = .ok (.goto 4, 3) := by decide +kernel
theorem dX9_step_141 : decode cX9_step 141 = .ok (.iconst 0, 1) := by decide +kernel
theorem dX9_step_142 : decode cX9_step 142 = .ok (.istore 10, 2) := by decide +kernel
theorem dX9_step_144 : decode cX9_step 144 = .ok (.aload_n 0, 1) := by decide +kernel
theorem dX9_step_145 : decode cX9_step 145 = .ok (.iload_n 1, 1) := by decide +kernel
theorem dX9_step_146 : decode cX9_step 146 = .ok (.iload_n 2, 1) := by decide +kernel
theorem dX9_step_147 : decode cX9_step 147 = .ok (.invokevirtual 198, 3) := by decide +kernel
theorem dX9_step_150 : decode cX9_step 150 = .ok (.ifCond .eq 102, 3) := by decide +kernel
theorem dX9_step_153 : decode cX9_step 153 = .ok (.aload_n 0, 1) := by decide +kernel
theorem dX9_step_154 : decode cX9_step 154 = .ok (.iload_n 1, 1) := by decide +kernel
theorem dX9_step_155 : decode cX9_step 155 = .ok (.iload_n 2, 1) := by decide +kernel
theorem dX9_step_156 : decode cX9_step 156 = .ok (.aload_n 0, 1) := by decide +kernel
theorem dX9_step_157 : decode cX9_step 157 = .ok (.getfield 141, 3) := by decide +kernel
theorem dX9_step_160 : decode cX9_step 160 = .ok (.iload_n 1, 1) := by decide +kernel
theorem dX9_step_161 : decode cX9_step 161 = .ok (.iaload, 1) := by decide +kernel
theorem dX9_step_162 : decode cX9_step 162 = .ok (.aload_n 0, 1) := by decide +kernel
theorem dX9_step_163 : decode cX9_step 163 = .ok (.getfield 247, 3) := by decide +kernel
theorem dX9_step_166 : decode cX9_step 166 = .ok (.aload_n 0, 1) := by decide +kernel
theorem dX9_step_167 : decode cX9_step 167 = .ok (.getfield 251, 3) := by decide +kernel
theorem dX9_step_170 : decode cX9_step 170 = .ok (.lcmp, 1) := by decide +kernel
theorem dX9_step_171 : decode cX9_step 171 = .ok (.ifCond .lt 7, 3) := by decide +kernel
theorem dX9_step_174 : decode cX9_step 174 = .ok (.iconst 1, 1) := by decide +kernel
theorem dX9_step_175 : decode cX9_step 175 = .ok (.goto 4, 3) := by decide +kernel
theorem dX9_step_178 : decode cX9_step 178 = .ok (.iconst 0, 1) := by decide +kernel
theorem dX9_step_179 : decode cX9_step 179 = .ok (.iload 6, 2) := by decide +kernel
theorem dX9_step_181 : decode cX9_step 181 = .ok (.iload 7, 2) := by decide +kernel
theorem dX9_step_183 : decode cX9_step 183 = .ok (.iload 8, 2) := by decide +kernel
theorem dX9_step_185 : decode cX9_step 185 = .ok (.invokevirtual 298, 3) := by decide +kernel
theorem dX9_step_188 : decode cX9_step 188 = .ok (.istore 9, 2) := by decide +kernel
theorem dX9_step_190 : decode cX9_step 190 = .ok (.aload_n 0, 1) := by decide +kernel
theorem dX9_step_191 : decode cX9_step 191 = .ok (.iload_n 1, 1) := by decide +kernel
theorem dX9_step_192 : decode cX9_step 192 = .ok (.iconst 1, 1) := by decide +kernel
theorem dX9_step_193 : decode cX9_step 193 = .ok (.invokevirtual 161, 3) := by decide +kernel
theorem dX9_step_196 : decode cX9_step 196 = .ok (.iload 8, 2) := by decide +kernel
theorem dX9_step_198 : decode cX9_step 198 = .ok (.if_icmp .ne 15, 3) := by decide +kernel
theorem dX9_step_201 : decode cX9_step 201 = .ok (.iload 9, 2) := by decide +kernel
theorem dX9_step_203 : decode cX9_step 203 = .ok (.iload 6, 2) := by decide +kernel
theorem dX9_step_205 : decode cX9_step 205 = .ok (.if_icmp .ne 8, 3) := by decide +kernel
theorem dX9_step_208 : decode cX9_step 208 = .ok (.iload 7, 2) := by decide +kernel
theorem dX9_step_210 : decode cX9_step 210 = .ok (.goto 5, 3) := by decide +kernel
theorem dX9_step_213 : decode cX9_step 213 = .ok (.iload 9, 2) := by decide +kernel
theorem dX9_step_215 : decode cX9_step 215 = .ok (.istore 11, 2) := by decide +kernel
theorem dX9_step_217 : decode cX9_step 217 = .ok (.iload 9, 2) := by decide +kernel
theorem dX9_step_219 : decode cX9_step 219 = .ok (.bipush (-2), 2) := by decide +kernel
theorem dX9_step_221 : decode cX9_step 221 = .ok (.if_icmp .ne 7, 3) := by decide +kernel
theorem dX9_step_224 : decode cX9_step 224 = .ok (.iconst 2, 1) := by decide +kernel
theorem dX9_step_225 : decode cX9_step 225 = .ok (.goto 25, 3) := by decide +kernel
theorem dX9_step_228 : decode cX9_step 228 = .ok (.aload_n 0, 1) := by decide +kernel
theorem dX9_step_229 : decode cX9_step 229 = .ok (.bipush 60, 2) := by decide +kernel
theorem dX9_step_231 : decode cX9_step 231 = .ok (.aload_n 0, 1) := by decide +kernel
theorem dX9_step_232 : decode cX9_step 232 = .ok (.iload_n 1, 1) := by decide +kernel
theorem dX9_step_233 : decode cX9_step 233 = .ok (.iconst 1, 1) := by decide +kernel
theorem dX9_step_234 : decode cX9_step 234 = .ok (.invokevirtual 161, 3) := by decide +kernel
theorem dX9_step_237 : decode cX9_step 237 = .ok (.imul, 1) := by decide +kernel
theorem dX9_step_238 : decode cX9_step 238 = .ok (.iload 11, 2) := by decide +kernel
theorem dX9_step_240 : decode cX9_step 240 = .ok (.iadd, 1) := by decide +kernel
theorem dX9_step_241 : decode cX9_step 241 = .ok (.aload_n 0, 1) := by decide +kernel
theorem dX9_step_242 : decode cX9_step 242 = .ok (.getfield 141, 3) := by decide +kernel
theorem dX9_step_245 : decode cX9_step 245 = .ok (.iload_n 1, 1) := by decide +kernel
theorem dX9_step_246 : decode cX9_step 246 = .ok (.iaload, 1) := by decide +kernel
theorem dX9_step_247 : decode cX9_step 247 = .ok (.invokevirtual 302, 3) := by decide +kernel
theorem dX9_step_250 : decode cX9_step 250 = .ok (.istore 10, 2) := by decide +kernel
theorem dX9_step_252 : decode cX9_step 252 = .ok (.aload_n 0, 1) := by decide +kernel
theorem dX9_step_253 : decode cX9_step 253 = .ok (.getfield 247, 3) := by decide +kernel
theorem dX9_step_256 : decode cX9_step 256 = .ok (.aload_n 0, 1) := by decide +kernel
theorem dX9_step_257 : decode cX9_step 257 = .ok (.getfield 251, 3) := by decide +kernel
theorem dX9_step_260 : decode cX9_step 260 = .ok (.lcmp, 1) := by decide +kernel
theorem dX9_step_261 : decode cX9_step 261 = .ok (.ifCond .ge 7, 3) := by decide +kernel
theorem dX9_step_264 : decode cX9_step 264 = .ok (.iconst 1, 1) := by decide +kernel
theorem dX9_step_265 : decode cX9_step 265 = .ok (.goto 4, 3) := by decide +kernel
theorem dX9_step_268 : decode cX9_step 268 = .ok (.iconst 0, 1) := by decide +kernel
theorem dX9_step_269 : decode cX9_step 269 = .ok (.istore 11, 2) := by decide +kernel
theorem dX9_step_271 : decode cX9_step 271 = .ok (.aload_n 0, 1) := by decide +kernel
theorem dX9_step_272 : decode cX9_step 272 = .ok (.dup, 1) := by decide +kernel
theorem dX9_step_273 : decode cX9_step 273 = .ok (.getfield 247, 3) := by decide +kernel
theorem dX9_step_276 : decode cX9_step 276 = .ok (.iload 10, 2) := by decide +kernel
theorem dX9_step_278 : decode cX9_step 278 = .ok (.i2l, 1) := by decide +kernel
theorem dX9_step_279 : decode cX9_step 279 = .ok (.ladd, 1) := by decide +kernel
theorem dX9_step_280 : decode cX9_step 280 = .ok (.putfield 247, 3) := by decide +kernel
theorem dX9_step_283 : decode cX9_step 283 = .ok (.aload_n 0, 1) := by decide +kernel
theorem dX9_step_284 : decode cX9_step 284 = .ok (.dup, 1) := by decide +kernel
theorem dX9_step_285 : decode cX9_step 285 = .ok (.getfield 254, 3) := by decide +kernel
theorem dX9_step_288 : decode cX9_step 288 = .ok (.lconst 1, 1) := by decide +kernel
theorem dX9_step_289 : decode cX9_step 289 = .ok (.ladd, 1) := by decide +kernel
theorem dX9_step_290 : decode cX9_step 290 = .ok (.putfield 254, 3) := by decide +kernel
theorem dX9_step_293 : decode cX9_step 293 = .ok (.iload 11, 2) := by decide +kernel
theorem dX9_step_295 : decode cX9_step 295 = .ok (.ifCond .eq 20, 3) := by decide +kernel
theorem dX9_step_298 : decode cX9_step 298 = .ok (.aload_n 0, 1) := by decide +kernel
theorem dX9_step_299 : decode cX9_step 299 = .ok (.getfield 247, 3) := by decide +kernel
theorem dX9_step_302 : decode cX9_step 302 = .ok (.aload_n 0, 1) := by decide +kernel
theorem dX9_step_303 : decode cX9_step 303 = .ok (.getfield 251, 3) := by decide +kernel
theorem dX9_step_306 : decode cX9_step 306 = .ok (.lcmp, 1) := by decide +kernel
theorem dX9_step_307 : decode cX9_step 307 = .ok (.ifCond .lt 8, 3) := by decide +kernel
theorem dX9_step_310 : decode cX9_step 310 = .ok (.aload_n 0, 1) := by decide +kernel
theorem dX9_step_311 : decode cX9_step 311 = .ok (.lload_n 3, 1) := by decide +kernel
theorem dX9_step_312 : decode cX9_step 312 = .ok (.putfield 257, 3) := by decide +kernel
theorem dX9_step_315 : decode cX9_step 315 = .ok (.iload_n 1, 1) := by decide +kernel
theorem dX9_step_316 : decode cX9_step 316 = .ok (.aload_n 0, 1) := by decide +kernel
theorem dX9_step_317 : decode cX9_step 317 = .ok (.getfield 305, 3) := by decide +kernel
theorem dX9_step_320 : decode cX9_step 320 = .ok (.if_icmp .eq 4, 3) := by decide +kernel
theorem dX9_step_323 : decode cX9_step 323 = .ok (.return_, 1) := by decide +kernel
theorem dX9_step_324 : decode cX9_step 324 = .ok (.aload_n 0, 1) := by decide +kernel
theorem dX9_step_325 : decode cX9_step 325 = .ok (.dup, 1) := by decide +kernel
theorem dX9_step_326 : decode cX9_step 326 = .ok (.getfield 275, 3) := by decide +kernel
theorem dX9_step_329 : decode cX9_step 329 = .ok (.iload 10, 2) := by decide +kernel
theorem dX9_step_331 : decode cX9_step 331 = .ok (.i2l, 1) := by decide +kernel
theorem dX9_step_332 : decode cX9_step 332 = .ok (.ladd, 1) := by decide +kernel
theorem dX9_step_333 : decode cX9_step 333 = .ok (.putfield 275, 3) := by decide +kernel
theorem dX9_step_336 : decode cX9_step 336 = .ok (.iload_n 2, 1) := by decide +kernel
theorem dX9_step_337 : decode cX9_step 337 = .ok (.aload_n 0, 1) := by decide +kernel
theorem dX9_step_338 : decode cX9_step 338 = .ok (.getfield 308, 3) := by decide +kernel
theorem dX9_step_341 : decode cX9_step 341 = .ok (.if_icmp .ne 26, 3) := by decide +kernel
theorem dX9_step_344 : decode cX9_step 344 = .ok (.aload_n 0, 1) := by decide +kernel
theorem dX9_step_345 : decode cX9_step 345 = .ok (.iload 9, 2) := by decide +kernel
theorem dX9_step_347 : decode cX9_step 347 = .ok (.putfield 263, 3) := by decide +kernel
theorem dX9_step_350 : decode cX9_step 350 = .ok (.aload_n 0, 1) := by decide +kernel
theorem dX9_step_351 : decode cX9_step 351 = .ok (.iload 9, 2) := by decide +kernel
theorem dX9_step_353 : decode cX9_step 353 = .ok (.bipush (-3), 2) := by decide +kernel
theorem dX9_step_355 : decode cX9_step 355 = .ok (.if_icmp .ne 7, 3) := by decide +kernel
theorem dX9_step_358 : decode cX9_step 358 = .ok (.iconst 3, 1) := by decide +kernel
theorem dX9_step_359 : decode cX9_step 359 = .ok (.goto 5, 3) := by decide +kernel
theorem dX9_step_362 : decode cX9_step 362 = .ok (.iload 10, 2) := by decide +kernel
theorem dX9_step_364 : decode cX9_step 364 = .ok (.putfield 266, 3) := by decide +kernel
theorem dX9_step_367 : decode cX9_step 367 = .ok (.iload_n 2, 1) := by decide +kernel
theorem dX9_step_368 : decode cX9_step 368 = .ok (.aload_n 0, 1) := by decide +kernel
theorem dX9_step_369 : decode cX9_step 369 = .ok (.getfield 311, 3) := by decide +kernel
theorem dX9_step_372 : decode cX9_step 372 = .ok (.if_icmp .lt 23, 3) := by decide +kernel
theorem dX9_step_375 : decode cX9_step 375 = .ok (.iload_n 2, 1) := by decide +kernel
theorem dX9_step_376 : decode cX9_step 376 = .ok (.aload_n 0, 1) := by decide +kernel
theorem dX9_step_377 : decode cX9_step 377 = .ok (.getfield 314, 3) := by decide +kernel
theorem dX9_step_380 : decode cX9_step 380 = .ok (.if_icmp .ge 15, 3) := by decide +kernel
theorem dX9_step_383 : decode cX9_step 383 = .ok (.aload_n 0, 1) := by decide +kernel
theorem dX9_step_384 : decode cX9_step 384 = .ok (.dup, 1) := by decide +kernel
theorem dX9_step_385 : decode cX9_step 385 = .ok (.getfield 269, 3) := by decide +kernel
theorem dX9_step_388 : decode cX9_step 388 = .ok (.iload 10, 2) := by decide +kernel
theorem dX9_step_390 : decode cX9_step 390 = .ok (.i2l, 1) := by decide +kernel
theorem dX9_step_391 : decode cX9_step 391 = .ok (.ladd, 1) := by decide +kernel
theorem dX9_step_392 : decode cX9_step 392 = .ok (.putfield 269, 3) := by decide +kernel
theorem dX9_step_395 : decode cX9_step 395 = .ok (.iload 9, 2) := by decide +kernel
theorem dX9_step_397 : decode cX9_step 397 = .ok (.aload_n 0, 1) := by decide +kernel
theorem dX9_step_398 : decode cX9_step 398 = .ok (.getfield 317, 3) := by decide +kernel
theorem dX9_step_401 : decode cX9_step 401 = .ok (.if_icmp .ne 13, 3) := by decide +kernel
theorem dX9_step_404 : decode cX9_step 404 = .ok (.aload_n 0, 1) := by decide +kernel
theorem dX9_step_405 : decode cX9_step 405 = .ok (.dup, 1) := by decide +kernel
theorem dX9_step_406 : decode cX9_step 406 = .ok (.getfield 272, 3) := by decide +kernel
theorem dX9_step_409 : decode cX9_step 409 = .ok (.iconst 1, 1) := by decide +kernel
theorem dX9_step_410 : decode cX9_step 410 = .ok (.iadd, 1) := by decide +kernel
theorem dX9_step_411 : decode cX9_step 411 = .ok (.putfield 272, 3) := by decide +kernel
theorem dX9_step_414 : decode cX9_step 414 = .ok (.aload_n 0, 1) := by decide +kernel
theorem dX9_step_415 : decode cX9_step 415 = .ok (.getfield 320, 3) := by decide +kernel
theorem dX9_step_418 : decode cX9_step 418 = .ok (.ifCond .ge 77, 3) := by decide +kernel
theorem dX9_step_421 : decode cX9_step 421 = .ok (.aload_n 0, 1) := by decide +kernel
theorem dX9_step_422 : decode cX9_step 422 = .ok (.getfield 323, 3) := by decide +kernel
theorem dX9_step_425 : decode cX9_step 425 = .ok (.aload_n 0, 1) := by decide +kernel
theorem dX9_step_426 : decode cX9_step 426 = .ok (.getfield 326, 3) := by decide +kernel
theorem dX9_step_429 : decode cX9_step 429 = .ok (.if_icmp .ge 66, 3) := by decide +kernel
theorem dX9_step_432 : decode cX9_step 432 = .ok (.aload_n 0, 1) := by decide +kernel
theorem dX9_step_433 : decode cX9_step 433 = .ok (.getfield 63, 3) := by decide +kernel
theorem dX9_step_436 : decode cX9_step 436 = .ok (.aload_n 0, 1) := by decide +kernel
theorem dX9_step_437 : decode cX9_step 437 = .ok (.getfield 323, 3) := by decide +kernel
theorem dX9_step_440 : decode cX9_step 440 = .ok (.baload, 1) := by decide +kernel
theorem dX9_step_441 : decode cX9_step 441 = .ok (.iload 9, 2) := by decide +kernel
theorem dX9_step_443 : decode cX9_step 443 = .ok (.if_icmp .eq 8, 3) := by decide +kernel
theorem dX9_step_446 : decode cX9_step 446 = .ok (.aload_n 0, 1) := by decide +kernel
theorem dX9_step_447 : decode cX9_step 447 = .ok (.iload_n 2, 1) := by decide +kernel
theorem dX9_step_448 : decode cX9_step 448 = .ok (.putfield 320, 3) := by decide +kernel
theorem dX9_step_451 : decode cX9_step 451 = .ok (.aload_n 0, 1) := by decide +kernel
theorem dX9_step_452 : decode cX9_step 452 = .ok (.dup, 1) := by decide +kernel
theorem dX9_step_453 : decode cX9_step 453 = .ok (.getfield 329, 3) := by decide +kernel
theorem dX9_step_456 : decode cX9_step 456 = .ok (.iconst 1, 1) := by decide +kernel
theorem dX9_step_457 : decode cX9_step 457 = .ok (.iadd, 1) := by decide +kernel
theorem dX9_step_458 : decode cX9_step 458 = .ok (.putfield 329, 3) := by decide +kernel
theorem dX9_step_461 : decode cX9_step 461 = .ok (.aload_n 0, 1) := by decide +kernel
theorem dX9_step_462 : decode cX9_step 462 = .ok (.getfield 329, 3) := by decide +kernel
theorem dX9_step_465 : decode cX9_step 465 = .ok (.aload_n 0, 1) := by decide +kernel
theorem dX9_step_466 : decode cX9_step 466 = .ok (.getfield 60, 3) := by decide +kernel
theorem dX9_step_469 : decode cX9_step 469 = .ok (.aload_n 0, 1) := by decide +kernel
theorem dX9_step_470 : decode cX9_step 470 = .ok (.getfield 323, 3) := by decide +kernel
theorem dX9_step_473 : decode cX9_step 473 = .ok (.iaload, 1) := by decide +kernel
theorem dX9_step_474 : decode cX9_step 474 = .ok (.if_icmp .ne 33, 3) := by decide +kernel
theorem dX9_step_477 : decode cX9_step 477 = .ok (.aload_n 0, 1) := by decide +kernel
theorem dX9_step_478 : decode cX9_step 478 = .ok (.dup, 1) := by decide +kernel
theorem dX9_step_479 : decode cX9_step 479 = .ok (.getfield 323, 3) := by decide +kernel
theorem dX9_step_482 : decode cX9_step 482 = .ok (.iconst 1, 1) := by decide +kernel
theorem dX9_step_483 : decode cX9_step 483 = .ok (.iadd, 1) := by decide +kernel
theorem dX9_step_484 : decode cX9_step 484 = .ok (.putfield 323, 3) := by decide +kernel
theorem dX9_step_487 : decode cX9_step 487 = .ok (.aload_n 0, 1) := by decide +kernel
theorem dX9_step_488 : decode cX9_step 488 = .ok (.iconst 0, 1) := by decide +kernel
theorem dX9_step_489 : decode cX9_step 489 = .ok (.putfield 329, 3) := by decide +kernel
theorem dX9_step_492 : decode cX9_step 492 = .ok (.goto 15, 3) := by decide +kernel
theorem dX9_step_495 : decode cX9_step 495 = .ok (.aload_n 0, 1) := by decide +kernel
theorem dX9_step_496 : decode cX9_step 496 = .ok (.getfield 320, 3) := by decide +kernel
theorem dX9_step_499 : decode cX9_step 499 = .ok (.ifCond .ge 8, 3) := by decide +kernel
theorem dX9_step_502 : decode cX9_step 502 = .ok (.aload_n 0, 1) := by decide +kernel
theorem dX9_step_503 : decode cX9_step 503 = .ok (.iload_n 2, 1) := by decide +kernel
theorem dX9_step_504 : decode cX9_step 504 = .ok (.putfield 320, 3) := by decide +kernel
theorem dX9_step_507 : decode cX9_step 507 = .ok (.return_, 1) := by decide +kernel
set_option maxHeartbeats 4000000 in
set_option maxRecDepth 100000 in
theorem g_X9_step (l : Launch) (G : xG) (S : yS) (d : yD) (h0 : Nat) (p0 : Int32) (p1 : Int32) (p2 : Int64) (p3 : Int32) (p4 : Int32) (p5 : Int32) (p6 : Int32) (hSh : ySh S) (hPo : yPo S d) (hm_h0 : h0 ∈ S.1) (hk_h0 : S.2.1 h0 = 9) (hI : yMI S d h0) (hr_p0 : 0 ≤ (p0 : Int32).toInt ∧ (p0 : Int32).toInt ≤ 7) (hr_p1 : -1 ≤ (p1 : Int32).toInt ∧ (p1 : Int32).toInt ≤ 129599) (hr_p5 : -1 ≤ (p5 : Int32).toInt ∧ (p5 : Int32).toInt ≤ 59) (hz_p3 : p3 = 0 ∨ p3 = 1) : xWv l G yX9_step cX9_step 12 none 3 88 0 0 [.ref h0, .int p0, .int p1, .long p2, .int p3, .int p4, .int p5, .int p6] (yW G S d) (fun u : yD => yAg S [9, 77, 78] d u ∧ (yPo S d → yPo S u) ∧ yK [54, 55, 57, 63, 64, 65] d u h0 ∧ (yMI S u h0)) (fun u => yW G S u) := by
  intro sz
  refine xstart (by decide) (Nat.le_of_ble_eq_true rfl) (fun p e s m args below meth c ls C0 hr hlocks hin hsz hP hK hD hN hl => ?_)
  obtain ⟨hx, hb, hml, hown, htl⟩ := id C0
  subst hsz
  have hD := hD.self (sz := s.heap.size)
  generalize hAe : va_A (yW G S d) s.heap.size = A at hD ⊢
  have hA : ∀ q : Nat, s.heap.size ≤ q → A q := fun q h => by rw [← hAe]; exact Or.inr h
  have hS : va_S A s.heap s.heap [] := va_S.rf
  have hg0 : yAg S [9, 77, 78] d d := yAg.rf
  have hl : lv_has ls 12 [(0, .ref h0), (1, .int p0), (2, .int p1), (3, .long p2), (5, .int p3), (6, .int p4), (7, .int p5), (8, .int p6)] := hl
  have hCC_1 := yMI.c hI
  refine yloop (σ := yD) (fun x => (5001 - (x.2.2.2.1 (S.2.2.1 h0 48) (p0 : Int32).toNatClampNeg).toInt).toNat) 0 (fun x H locs ls => va_P G.1 xcl (yW G S x) H ∧ va_D A (yW G S x) ∧ va_S A s.heap H locs ∧ yAg S [9, 77, 78] d x ∧ yPo S x ∧ yK [54, 55, 57, 63, 64, 65] d x h0 ∧ yMI S x h0 ∧ yAg S [77, 78] d x ∧ yK [] d x h0 ∧ (True) ∧ lv_has ls 12 [(0, .ref h0), (1, .int p0), (2, .int p1), (3, .long p2), (5, .int p3), (6, .int p4), (7, .int p5), (8, .int p6)]) (fun x H locs ls hI hnext_3 => ?_) d ⟨hP, hD, hS, hg0, hPo, yK.rf, hI, yAg.rf, yK.rf, trivial, lv_sub hl [0, 1, 2, 3, 4, 5, 6, 7] rfl⟩
  obtain ⟨d_2, rfl⟩ : ∃ z, z = x := ⟨_, rfl⟩
  obtain ⟨hP, hD, hS, hgd_2, hPod_2, hfd_2, hId_2, hLJd_2, hKJd_2, hex_4, hl⟩ := hI
  have hId_2 : yMI S d_2 h0 := hId_2
  have hex_4 : (True) := hex_4
  have hl : lv_has ls 12 [(0, .ref h0), (1, .int p0), (2, .int p1), (3, .long p2), (5, .int p3), (6, .int p4), (7, .int p5), (8, .int p6)] := hl
  have hLJd_2 : yAg S [77, 78] d d_2 := hLJd_2
  have hKJd_2 : yK [] d d_2 h0 := hKJd_2
  have hE0d_2 : (d_2.1 h0 0).toInt = (d.1 h0 0).toInt := congrArg Int32.toInt (hKJd_2 0 (by decide))
  have hE1d_2 : (d_2.1 h0 1).toInt = (d.1 h0 1).toInt := congrArg Int32.toInt (hKJd_2 1 (by decide))
  have hE2d_2 : (d_2.1 h0 2).toInt = (d.1 h0 2).toInt := congrArg Int32.toInt (hKJd_2 2 (by decide))
  have hE3d_2 : (d_2.1 h0 3).toInt = (d.1 h0 3).toInt := congrArg Int32.toInt (hKJd_2 3 (by decide))
  have hE63d_2 : (d_2.1 h0 63).toInt = (d.1 h0 63).toInt := congrArg Int32.toInt (hKJd_2 63 (by decide))
  refine lv_aload_n hx hb dX9_step_0 rfl (lv_at hl 0 rfl) ?_
  refine yget (ci := 9) (k := 48) (v := .ref (S.2.2.1 h0 48)) (C := RX9) (T := TX9) (N := 67) C0 hK hP hm_h0 hk_h0 (by decide) rfl inlX9 (by decide) mW153 (fun _ h9 => h9) rfl dX9_step_1 ?_
  obtain ⟨hmy_5, hky_5⟩ := ySh.f9_48 hSh _ hm_h0 hk_h0
  refine lv_iload_n hx hb dX9_step_4 rfl (lv_at hl 1 rfl) ?_
  have hCC_6 := yMI.c hId_2
  refine yald C0 hK hP hmy_5 hky_5 (by decide) rfl 0 rfl (xinT 8 rfl (by omega) (by omega)) dX9_step_5 ?_
  refine lv_topi (fun z_7 ez_7 => ?_)
  have hvz_7 : 0 ≤ (z_7 : Int32).toInt ∧ (z_7 : Int32).toInt ≤ 5000 := by rw [ez_7]; exact yMI.ne_ hId_2 _
  refine lv_aload_n hx hb dX9_step_6 rfl (lv_at hl 0 rfl) ?_
  refine yget (ci := 9) (k := 1) (v := .int (d_2.1 h0 1)) (C := RX9) (T := TX9) (N := 67) C0 hK hP hm_h0 hk_h0 (by decide) rfl inlX9 (by decide) mW364 (fun _ h9 => h9) rfl dX9_step_7 ?_
  refine lv_topi (fun z_8 ez_8 => ?_)
  refine lv_icmp_ge (tgt := 128) hx hb dX9_step_10 (by decide) (fun c_9 => ?_) (fun c_9 => ?_)
  · refine lv_bipush (v := (-3)) hx hb dX9_step_128 (by decide) ?_
    refine lv_istore (lv' := [(9, .int (-3)), (0, .ref h0), (1, .int p0), (2, .int p1), (3, .long p2), (5, .int p3), (6, .int p4), (7, .int p5), (8, .int p6)]) hx hb dX9_step_130 hl (by decide) rfl (fun ls hl => ?_)
    refine lv_iload hx hb dX9_step_132 (lv_at hl 5 rfl) ?_
    refine yjoinR (σ := Int32) 142 (fun x ls st => st = [.int x] ∧ lv_has ls 12 [(9, .int (-3)), (0, .ref h0), (1, .int p0), (2, .int p1), (3, .long p2), (6, .int p4), (7, .int p5), (8, .int p6)]) (fun x ls st hI => ?_) (fun J142_10 => ?_)
    · obtain ⟨v_10, rfl⟩ : ∃ z, z = x := ⟨_, rfl⟩
      obtain ⟨rfl, hl⟩ := hI
      have hl : lv_has ls 12 [(9, .int (-3)), (0, .ref h0), (1, .int p0), (2, .int p1), (3, .long p2), (6, .int p4), (7, .int p5), (8, .int p6)] := hl
      refine lv_istore (lv' := [(10, .int v_10), (9, .int (-3)), (0, .ref h0), (1, .int p0), (2, .int p1), (3, .long p2), (6, .int p4), (7, .int p5), (8, .int p6)]) hx hb dX9_step_142 hl (by decide) rfl (fun ls hl => ?_)
      refine lv_aload_n hx hb dX9_step_144 rfl (lv_at hl 2 rfl) ?_
      refine lv_iload_n hx hb dX9_step_145 rfl (lv_at hl 3 rfl) ?_
      refine lv_iload_n hx hb dX9_step_146 rfl (lv_at hl 4 rfl) ?_
      have T_12 : (z_8 : Int32).toInt = (d_2.1 h0 1).toInt := by rw [ez_8]
      have F_13 := fle (rfl : (z_8 : Int32).toInt = (z_8 : Int32).toInt) (rfl : (z_7 : Int32).toInt = (z_7 : Int32).toInt) c_9
      refine yVri (As := [.int p0, .int p1]) (rest := []) C0 (g_X9_isKnown l G S d_2 h0 p0 p1 hSh hm_h0 hk_h0 (by refine ⟨?_, ?_⟩ <;> omega) (by refine ⟨?_, ?_⟩ <;> omega)) ok_X9_isKnown (mW429 : Cond.methodLink RX9 198 yX9_isKnown ∈ wsT) ⟨Nat.le_of_ble_eq_true rfl, Nat.le_of_ble_eq_true rfl⟩ hP hD hK hN hm_h0 hk_h0 (by decide) rfl rfl rfl hl.1 rfl (Nat.le_of_ble_eq_true rfl) ⟨Nat.le_of_ble_eq_true rfl, Nat.le_of_ble_eq_true rfl⟩ dX9_step_147 (fun r_14 hr_14 => ?_)
      refine yjoinR (σ := Int32 × Int32) 252 (fun x ls st => st = [] ∧ lv_has ls 12 [(0, .ref h0), (1, .int p0), (2, .int p1), (3, .long p2), (9, .int x.1), (10, .int x.2)]) (fun x ls st hI => ?_) (fun J252_16 => ?_)
      · obtain ⟨v_15, v_16⟩ := x
        obtain ⟨rfl, hl⟩ := hI
        have hl : lv_has ls 12 [(0, .ref h0), (1, .int p0), (2, .int p1), (3, .long p2), (9, .int v_15), (10, .int v_16)] := hl
        refine lv_aload_n hx hb dX9_step_252 rfl (lv_at hl 0 rfl) ?_
        refine yget (ci := 9) (k := 58) (v := .long (d_2.2.1 h0 58)) (C := RX9) (T := TX9) (N := 67) C0 hK hP hm_h0 hk_h0 (by decide) rfl inlX9 (by decide) mW873 (fun _ h9 => h9) rfl dX9_step_253 ?_
        refine lv_topl (fun z_17 ez_17 => ?_)
        refine lv_aload_n hx hb dX9_step_256 rfl (lv_at hl 0 rfl) ?_
        refine yget (ci := 9) (k := 59) (v := .long (d_2.2.1 h0 59)) (C := RX9) (T := TX9) (N := 67) C0 hK hP hm_h0 hk_h0 (by decide) rfl inlX9 (by decide) mW874 (fun _ h9 => h9) rfl dX9_step_257 ?_
        refine lv_topl (fun z_18 ez_18 => ?_)
        refine W.lcmp hx hb dX9_step_260 ?_
        refine lv_topi (fun z_19 ez_19 => ?_)
        refine yjoinR (σ := Int32) 269 (fun x ls st => st = [.int x] ∧ lv_has ls 12 [(0, .ref h0), (1, .int p0), (2, .int p1), (3, .long p2), (9, .int v_15), (10, .int v_16)] ∧ (x = 0 ∨ x = 1)) (fun x ls st hI => ?_) (fun J269_20 => ?_)
        · obtain ⟨v_20, rfl⟩ : ∃ z, z = x := ⟨_, rfl⟩
          obtain ⟨rfl, hl, hzv_20⟩ := hI
          have hl : lv_has ls 12 [(0, .ref h0), (1, .int p0), (2, .int p1), (3, .long p2), (9, .int v_15), (10, .int v_16)] := hl
          refine lv_istore (lv' := [(11, .int v_20), (0, .ref h0), (1, .int p0), (2, .int p1), (3, .long p2), (9, .int v_15), (10, .int v_16)]) hx hb dX9_step_269 hl (by decide) rfl (fun ls hl => ?_)
          refine lv_aload_n hx hb dX9_step_271 rfl (lv_at hl 1 rfl) ?_
          refine lv_dup hx hb dX9_step_272 rfl ?_
          refine yget (ci := 9) (k := 58) (v := .long (d_2.2.1 h0 58)) (C := RX9) (T := TX9) (N := 67) C0 hK hP hm_h0 hk_h0 (by decide) rfl inlX9 (by decide) mW873 (fun _ h9 => h9) rfl dX9_step_273 ?_
          rw [← ez_17]
          refine lv_iload hx hb dX9_step_276 (lv_at hl 6 rfl) ?_
          refine lv_i2l hx hb dX9_step_278 rfl ?_
          refine lv_topl (fun z_21 ez_21 => ?_)
          refine lv_ladd hx hb dX9_step_279 ?_
          refine lv_topl (fun z_22 ez_22 => ?_)
          refine yputJ (ci := 9) (k := 58) (C := RX9) (T := TX9) (N := 67) C0 hK hP hD hS hm_h0 hk_h0 (by decide) rfl inlX9 tyX9 tyX9_ok nmX9 (by decide) mW873 (fun _ h9 => h9) rfl (by decide +kernel) (Nat.le_of_ble_eq_true rfl) ysj_9_58 dX9_step_280 (fun H locs hP hD hS => ?_)
          obtain ⟨d_23, ed_23⟩ : ∃ z : yD, z = yj d_2 h0 58 z_22 := ⟨_, rfl⟩
          rw [← ed_23] at hP hD
          have hgd_23 : yAg S [9, 77, 78] d d_23 := by rw [ed_23]; exact yAg.j hgd_2 (by rw [hk_h0]; decide)
          have hsd_23 : yAg S [9] d_2 d_23 := by rw [ed_23]; exact yAg.j yAg.rf (by rw [hk_h0]; decide)
          have hPod_23 : yPo S d_23 := by rw [ed_23]; exact hPod_2
          have hfd_23 : yK [54, 55, 57, 63, 64, 65] d d_23 h0 := by rw [ed_23]; exact yK.j hfd_2
          have hId_23 : yMI S d_23 h0 := by rw [ed_23]; exact yMI.j hId_2
          have hE0d_23 : (d_23.1 h0 0).toInt = (d_2.1 h0 0).toInt := congrArg Int32.toInt ((show yK [] d_2 d_23 h0 from by rw [ed_23]; exact yK.j yK.rf) 0 (by decide))
          have hE1d_23 : (d_23.1 h0 1).toInt = (d_2.1 h0 1).toInt := congrArg Int32.toInt ((show yK [] d_2 d_23 h0 from by rw [ed_23]; exact yK.j yK.rf) 1 (by decide))
          have hE2d_23 : (d_23.1 h0 2).toInt = (d_2.1 h0 2).toInt := congrArg Int32.toInt ((show yK [] d_2 d_23 h0 from by rw [ed_23]; exact yK.j yK.rf) 2 (by decide))
          have hE3d_23 : (d_23.1 h0 3).toInt = (d_2.1 h0 3).toInt := congrArg Int32.toInt ((show yK [] d_2 d_23 h0 from by rw [ed_23]; exact yK.j yK.rf) 3 (by decide))
          have hE63d_23 : (d_23.1 h0 63).toInt = (d_2.1 h0 63).toInt := congrArg Int32.toInt ((show yK [] d_2 d_23 h0 from by rw [ed_23]; exact yK.j yK.rf) 63 (by decide))
          refine lv_aload_n hx hb dX9_step_283 rfl (lv_at hl 1 rfl) ?_
          refine lv_dup hx hb dX9_step_284 rfl ?_
          refine yget (ci := 9) (k := 60) (v := .long (d_23.2.1 h0 60)) (C := RX9) (T := TX9) (N := 67) C0 hK hP hm_h0 hk_h0 (by decide) rfl inlX9 (by decide) mW875 (fun _ h9 => h9) rfl dX9_step_285 ?_
          refine lv_topl (fun z_24 ez_24 => ?_)
          refine lv_lconst (v := 1) hx hb dX9_step_288 (by decide) ?_
          refine lv_ladd hx hb dX9_step_289 ?_
          refine lv_topl (fun z_25 ez_25 => ?_)
          refine yputJ (ci := 9) (k := 60) (C := RX9) (T := TX9) (N := 67) C0 hK hP hD hS hm_h0 hk_h0 (by decide) rfl inlX9 tyX9 tyX9_ok nmX9 (by decide) mW875 (fun _ h9 => h9) rfl (by decide +kernel) (Nat.le_of_ble_eq_true rfl) ysj_9_60 dX9_step_290 (fun H locs hP hD hS => ?_)
          obtain ⟨d_26, ed_26⟩ : ∃ z : yD, z = yj d_23 h0 60 z_25 := ⟨_, rfl⟩
          rw [← ed_26] at hP hD
          have hgd_26 : yAg S [9, 77, 78] d d_26 := by rw [ed_26]; exact yAg.j hgd_23 (by rw [hk_h0]; decide)
          have hsd_26 : yAg S [9] d_23 d_26 := by rw [ed_26]; exact yAg.j yAg.rf (by rw [hk_h0]; decide)
          have hPod_26 : yPo S d_26 := by rw [ed_26]; exact hPod_23
          have hfd_26 : yK [54, 55, 57, 63, 64, 65] d d_26 h0 := by rw [ed_26]; exact yK.j hfd_23
          have hId_26 : yMI S d_26 h0 := by rw [ed_26]; exact yMI.j hId_23
          have hE0d_26 : (d_26.1 h0 0).toInt = (d_23.1 h0 0).toInt := congrArg Int32.toInt ((show yK [] d_23 d_26 h0 from by rw [ed_26]; exact yK.j yK.rf) 0 (by decide))
          have hE1d_26 : (d_26.1 h0 1).toInt = (d_23.1 h0 1).toInt := congrArg Int32.toInt ((show yK [] d_23 d_26 h0 from by rw [ed_26]; exact yK.j yK.rf) 1 (by decide))
          have hE2d_26 : (d_26.1 h0 2).toInt = (d_23.1 h0 2).toInt := congrArg Int32.toInt ((show yK [] d_23 d_26 h0 from by rw [ed_26]; exact yK.j yK.rf) 2 (by decide))
          have hE3d_26 : (d_26.1 h0 3).toInt = (d_23.1 h0 3).toInt := congrArg Int32.toInt ((show yK [] d_23 d_26 h0 from by rw [ed_26]; exact yK.j yK.rf) 3 (by decide))
          have hE63d_26 : (d_26.1 h0 63).toInt = (d_23.1 h0 63).toInt := congrArg Int32.toInt ((show yK [] d_23 d_26 h0 from by rw [ed_26]; exact yK.j yK.rf) 63 (by decide))
          refine lv_iload hx hb dX9_step_293 (lv_at hl 0 rfl) ?_
          refine yjoin (σ := yD) 315 (fun x H locs ls st => st = [] ∧ va_P G.1 xcl (yW G S x) H ∧ va_D A (yW G S x) ∧ va_S A s.heap H locs ∧ yAg S [9, 77, 78] d x ∧ yPo S x ∧ yK [54, 55, 57, 63, 64, 65] d x h0 ∧ yMI S x h0 ∧ yAg S [9] d_26 x ∧ yK [] d_26 x h0 ∧ lv_has ls 12 [(0, .ref h0), (1, .int p0), (2, .int p1), (9, .int v_15), (10, .int v_16)]) (fun x H locs ls st hI => ?_) (fun J315_26 => ?_)
          · obtain ⟨d_27, rfl⟩ : ∃ z, z = x := ⟨_, rfl⟩
            obtain ⟨rfl, hP, hD, hS, hgd_27, hPod_27, hfd_27, hId_27, hLJd_27, hKJd_27, hl⟩ := hI
            have hId_27 : yMI S d_27 h0 := hId_27
            have hl : lv_has ls 12 [(0, .ref h0), (1, .int p0), (2, .int p1), (9, .int v_15), (10, .int v_16)] := hl
            have hE0d_27 : (d_27.1 h0 0).toInt = (d_26.1 h0 0).toInt := congrArg Int32.toInt (hKJd_27 0 (by decide))
            have hE1d_27 : (d_27.1 h0 1).toInt = (d_26.1 h0 1).toInt := congrArg Int32.toInt (hKJd_27 1 (by decide))
            have hE2d_27 : (d_27.1 h0 2).toInt = (d_26.1 h0 2).toInt := congrArg Int32.toInt (hKJd_27 2 (by decide))
            have hE3d_27 : (d_27.1 h0 3).toInt = (d_26.1 h0 3).toInt := congrArg Int32.toInt (hKJd_27 3 (by decide))
            have hE63d_27 : (d_27.1 h0 63).toInt = (d_26.1 h0 63).toInt := congrArg Int32.toInt (hKJd_27 63 (by decide))
            refine lv_iload_n hx hb dX9_step_315 rfl (lv_at hl 1 rfl) ?_
            refine lv_aload_n hx hb dX9_step_316 rfl (lv_at hl 0 rfl) ?_
            refine yget (ci := 9) (k := 49) (v := .int (d_27.1 h0 49)) (C := RX9) (T := TX9) (N := 67) C0 hK hP hm_h0 hk_h0 (by decide) rfl inlX9 (by decide) mW861 (fun _ h9 => h9) rfl dX9_step_317 ?_
            refine lv_topi (fun z_28 ez_28 => ?_)
            refine lv_icmp_eq (tgt := 324) hx hb dX9_step_320 (by decide) (fun c_29 => ?_) (fun c_29 => ?_)
            · refine lv_aload_n hx hb dX9_step_324 rfl (lv_at hl 0 rfl) ?_
              refine lv_dup hx hb dX9_step_325 rfl ?_
              refine yget (ci := 9) (k := 66) (v := .long (d_27.2.1 h0 66)) (C := RX9) (T := TX9) (N := 67) C0 hK hP hm_h0 hk_h0 (by decide) rfl inlX9 (by decide) mW881 (fun _ h9 => h9) rfl dX9_step_326 ?_
              refine lv_topl (fun z_30 ez_30 => ?_)
              refine lv_iload hx hb dX9_step_329 (lv_at hl 4 rfl) ?_
              refine lv_i2l hx hb dX9_step_331 rfl ?_
              rw [← ez_21]
              refine lv_ladd hx hb dX9_step_332 ?_
              refine lv_topl (fun z_31 ez_31 => ?_)
              refine yputJ (ci := 9) (k := 66) (C := RX9) (T := TX9) (N := 67) C0 hK hP hD hS hm_h0 hk_h0 (by decide) rfl inlX9 tyX9 tyX9_ok nmX9 (by decide) mW881 (fun _ h9 => h9) rfl (by decide +kernel) (Nat.le_of_ble_eq_true rfl) ysj_9_66 dX9_step_333 (fun H locs hP hD hS => ?_)
              obtain ⟨d_32, ed_32⟩ : ∃ z : yD, z = yj d_27 h0 66 z_31 := ⟨_, rfl⟩
              rw [← ed_32] at hP hD
              have hgd_32 : yAg S [9, 77, 78] d d_32 := by rw [ed_32]; exact yAg.j hgd_27 (by rw [hk_h0]; decide)
              have hsd_32 : yAg S [9] d_27 d_32 := by rw [ed_32]; exact yAg.j yAg.rf (by rw [hk_h0]; decide)
              have hPod_32 : yPo S d_32 := by rw [ed_32]; exact hPod_27
              have hfd_32 : yK [54, 55, 57, 63, 64, 65] d d_32 h0 := by rw [ed_32]; exact yK.j hfd_27
              have hId_32 : yMI S d_32 h0 := by rw [ed_32]; exact yMI.j hId_27
              have hE0d_32 : (d_32.1 h0 0).toInt = (d_27.1 h0 0).toInt := congrArg Int32.toInt ((show yK [] d_27 d_32 h0 from by rw [ed_32]; exact yK.j yK.rf) 0 (by decide))
              have hE1d_32 : (d_32.1 h0 1).toInt = (d_27.1 h0 1).toInt := congrArg Int32.toInt ((show yK [] d_27 d_32 h0 from by rw [ed_32]; exact yK.j yK.rf) 1 (by decide))
              have hE2d_32 : (d_32.1 h0 2).toInt = (d_27.1 h0 2).toInt := congrArg Int32.toInt ((show yK [] d_27 d_32 h0 from by rw [ed_32]; exact yK.j yK.rf) 2 (by decide))
              have hE3d_32 : (d_32.1 h0 3).toInt = (d_27.1 h0 3).toInt := congrArg Int32.toInt ((show yK [] d_27 d_32 h0 from by rw [ed_32]; exact yK.j yK.rf) 3 (by decide))
              have hE63d_32 : (d_32.1 h0 63).toInt = (d_27.1 h0 63).toInt := congrArg Int32.toInt ((show yK [] d_27 d_32 h0 from by rw [ed_32]; exact yK.j yK.rf) 63 (by decide))
              refine lv_iload_n hx hb dX9_step_336 rfl (lv_at hl 2 rfl) ?_
              refine lv_aload_n hx hb dX9_step_337 rfl (lv_at hl 0 rfl) ?_
              refine yget (ci := 9) (k := 50) (v := .int (d_32.1 h0 50)) (C := RX9) (T := TX9) (N := 67) C0 hK hP hm_h0 hk_h0 (by decide) rfl inlX9 (by decide) mW862 (fun _ h9 => h9) rfl dX9_step_338 ?_
              refine lv_topi (fun z_33 ez_33 => ?_)
              refine yjoin (σ := yD) 367 (fun x H locs ls st => st = [] ∧ va_P G.1 xcl (yW G S x) H ∧ va_D A (yW G S x) ∧ va_S A s.heap H locs ∧ yAg S [9, 77, 78] d x ∧ yPo S x ∧ yK [54, 55, 57, 63, 64, 65] d x h0 ∧ yMI S x h0 ∧ yAg S [9] d_32 x ∧ yK [54, 55] d_32 x h0 ∧ lv_has ls 12 [(0, .ref h0), (2, .int p1), (9, .int v_15), (10, .int v_16)]) (fun x H locs ls st hI => ?_) (fun J367_33 => ?_)
              · obtain ⟨d_34, rfl⟩ : ∃ z, z = x := ⟨_, rfl⟩
                obtain ⟨rfl, hP, hD, hS, hgd_34, hPod_34, hfd_34, hId_34, hLJd_34, hKJd_34, hl⟩ := hI
                have hId_34 : yMI S d_34 h0 := hId_34
                have hl : lv_has ls 12 [(0, .ref h0), (2, .int p1), (9, .int v_15), (10, .int v_16)] := hl
                have hE0d_34 : (d_34.1 h0 0).toInt = (d_32.1 h0 0).toInt := congrArg Int32.toInt (hKJd_34 0 (by decide))
                have hE1d_34 : (d_34.1 h0 1).toInt = (d_32.1 h0 1).toInt := congrArg Int32.toInt (hKJd_34 1 (by decide))
                have hE2d_34 : (d_34.1 h0 2).toInt = (d_32.1 h0 2).toInt := congrArg Int32.toInt (hKJd_34 2 (by decide))
                have hE3d_34 : (d_34.1 h0 3).toInt = (d_32.1 h0 3).toInt := congrArg Int32.toInt (hKJd_34 3 (by decide))
                have hE63d_34 : (d_34.1 h0 63).toInt = (d_32.1 h0 63).toInt := congrArg Int32.toInt (hKJd_34 63 (by decide))
                refine lv_iload_n hx hb dX9_step_367 rfl (lv_at hl 1 rfl) ?_
                refine lv_aload_n hx hb dX9_step_368 rfl (lv_at hl 0 rfl) ?_
                refine yget (ci := 9) (k := 51) (v := .int (d_34.1 h0 51)) (C := RX9) (T := TX9) (N := 67) C0 hK hP hm_h0 hk_h0 (by decide) rfl inlX9 (by decide) mW863 (fun _ h9 => h9) rfl dX9_step_369 ?_
                refine lv_topi (fun z_35 ez_35 => ?_)
                refine yjoin (σ := yD) 395 (fun x H locs ls st => st = [] ∧ va_P G.1 xcl (yW G S x) H ∧ va_D A (yW G S x) ∧ va_S A s.heap H locs ∧ yAg S [9, 77, 78] d x ∧ yPo S x ∧ yK [54, 55, 57, 63, 64, 65] d x h0 ∧ yMI S x h0 ∧ yAg S [9] d_34 x ∧ yK [] d_34 x h0 ∧ lv_has ls 12 [(0, .ref h0), (2, .int p1), (9, .int v_15)]) (fun x H locs ls st hI => ?_) (fun J395_35 => ?_)
                · obtain ⟨d_36, rfl⟩ : ∃ z, z = x := ⟨_, rfl⟩
                  obtain ⟨rfl, hP, hD, hS, hgd_36, hPod_36, hfd_36, hId_36, hLJd_36, hKJd_36, hl⟩ := hI
                  have hId_36 : yMI S d_36 h0 := hId_36
                  have hl : lv_has ls 12 [(0, .ref h0), (2, .int p1), (9, .int v_15)] := hl
                  have hE0d_36 : (d_36.1 h0 0).toInt = (d_34.1 h0 0).toInt := congrArg Int32.toInt (hKJd_36 0 (by decide))
                  have hE1d_36 : (d_36.1 h0 1).toInt = (d_34.1 h0 1).toInt := congrArg Int32.toInt (hKJd_36 1 (by decide))
                  have hE2d_36 : (d_36.1 h0 2).toInt = (d_34.1 h0 2).toInt := congrArg Int32.toInt (hKJd_36 2 (by decide))
                  have hE3d_36 : (d_36.1 h0 3).toInt = (d_34.1 h0 3).toInt := congrArg Int32.toInt (hKJd_36 3 (by decide))
                  have hE63d_36 : (d_36.1 h0 63).toInt = (d_34.1 h0 63).toInt := congrArg Int32.toInt (hKJd_36 63 (by decide))
                  refine lv_iload hx hb dX9_step_395 (lv_at hl 2 rfl) ?_
                  refine lv_aload_n hx hb dX9_step_397 rfl (lv_at hl 0 rfl) ?_
                  refine yget (ci := 9) (k := 53) (v := .int (d_36.1 h0 53)) (C := RX9) (T := TX9) (N := 67) C0 hK hP hm_h0 hk_h0 (by decide) rfl inlX9 (by decide) mW865 (fun _ h9 => h9) rfl dX9_step_398 ?_
                  refine lv_topi (fun z_37 ez_37 => ?_)
                  refine yjoin (σ := yD) 414 (fun x H locs ls st => st = [] ∧ va_P G.1 xcl (yW G S x) H ∧ va_D A (yW G S x) ∧ va_S A s.heap H locs ∧ yAg S [9, 77, 78] d x ∧ yPo S x ∧ yK [54, 55, 57, 63, 64, 65] d x h0 ∧ yMI S x h0 ∧ yAg S [9] d_36 x ∧ yK [57] d_36 x h0 ∧ lv_has ls 12 [(0, .ref h0), (2, .int p1), (9, .int v_15)]) (fun x H locs ls st hI => ?_) (fun J414_37 => ?_)
                  · obtain ⟨d_38, rfl⟩ : ∃ z, z = x := ⟨_, rfl⟩
                    obtain ⟨rfl, hP, hD, hS, hgd_38, hPod_38, hfd_38, hId_38, hLJd_38, hKJd_38, hl⟩ := hI
                    have hId_38 : yMI S d_38 h0 := hId_38
                    have hl : lv_has ls 12 [(0, .ref h0), (2, .int p1), (9, .int v_15)] := hl
                    have hE0d_38 : (d_38.1 h0 0).toInt = (d_36.1 h0 0).toInt := congrArg Int32.toInt (hKJd_38 0 (by decide))
                    have hE1d_38 : (d_38.1 h0 1).toInt = (d_36.1 h0 1).toInt := congrArg Int32.toInt (hKJd_38 1 (by decide))
                    have hE2d_38 : (d_38.1 h0 2).toInt = (d_36.1 h0 2).toInt := congrArg Int32.toInt (hKJd_38 2 (by decide))
                    have hE3d_38 : (d_38.1 h0 3).toInt = (d_36.1 h0 3).toInt := congrArg Int32.toInt (hKJd_38 3 (by decide))
                    have hE63d_38 : (d_38.1 h0 63).toInt = (d_36.1 h0 63).toInt := congrArg Int32.toInt (hKJd_38 63 (by decide))
                    refine lv_aload_n hx hb dX9_step_414 rfl (lv_at hl 0 rfl) ?_
                    refine yget (ci := 9) (k := 65) (v := .int (d_38.1 h0 65)) (C := RX9) (T := TX9) (N := 67) C0 hK hP hm_h0 hk_h0 (by decide) rfl inlX9 (by decide) mW868 (fun _ h9 => h9) rfl dX9_step_415 ?_
                    refine lv_topi (fun z_39 ez_39 => ?_)
                    refine lv_if_ge (tgt := 495) hx hb dX9_step_418 (by decide) (fun c_40 => ?_) (fun c_40 => ?_)
                    · refine lv_aload_n hx hb dX9_step_495 rfl (lv_at hl 0 rfl) ?_
                      refine yget (ci := 9) (k := 65) (v := .int (d_38.1 h0 65)) (C := RX9) (T := TX9) (N := 67) C0 hK hP hm_h0 hk_h0 (by decide) rfl inlX9 (by decide) mW868 (fun _ h9 => h9) rfl dX9_step_496 ?_
                      rw [← ez_39]
                      refine lv_if_ge (tgt := 507) hx hb dX9_step_499 (by decide) (fun c_41 => ?_) (fun c_41 => absurd c_40 c_41)
                      exact W.vret hx hb hr (fun t ht hW => ⟨⟨d_38, rfl, ⟨hgd_38, (fun _ => hPod_38), hfd_38, hId_38⟩, by rw [ht]; exact hP, hD⟩, hS.F ht⟩) hS.2.2 dX9_step_507
                    · refine lv_aload_n hx hb dX9_step_421 rfl (lv_at hl 0 rfl) ?_
                      refine yget (ci := 9) (k := 63) (v := .int (d_38.1 h0 63)) (C := RX9) (T := TX9) (N := 67) C0 hK hP hm_h0 hk_h0 (by decide) rfl inlX9 (by decide) mW866 (fun _ h9 => h9) rfl dX9_step_422 ?_
                      refine lv_topi (fun z_42 ez_42 => ?_)
                      refine lv_aload_n hx hb dX9_step_425 rfl (lv_at hl 0 rfl) ?_
                      refine yget (ci := 9) (k := 2) (v := .int (d_38.1 h0 2)) (C := RX9) (T := TX9) (N := 67) C0 hK hP hm_h0 hk_h0 (by decide) rfl inlX9 (by decide) mW888 (fun _ h9 => h9) rfl dX9_step_426 ?_
                      refine lv_topi (fun z_43 ez_43 => ?_)
                      refine lv_icmp_ge (tgt := 495) hx hb dX9_step_429 (by decide) (fun c_44 => ?_) (fun c_44 => ?_)
                      · refine lv_aload_n hx hb dX9_step_495 rfl (lv_at hl 0 rfl) ?_
                        refine yget (ci := 9) (k := 65) (v := .int (d_38.1 h0 65)) (C := RX9) (T := TX9) (N := 67) C0 hK hP hm_h0 hk_h0 (by decide) rfl inlX9 (by decide) mW868 (fun _ h9 => h9) rfl dX9_step_496 ?_
                        rw [← ez_39]
                        refine lv_if_ge (tgt := 507) hx hb dX9_step_499 (by decide) (fun c_45 => absurd c_45 c_40) (fun c_45 => ?_)
                        refine lv_aload_n hx hb dX9_step_502 rfl (lv_at hl 0 rfl) ?_
                        refine lv_iload_n hx hb dX9_step_503 rfl (lv_at hl 1 rfl) ?_
                        refine yputI (ci := 9) (k := 65) (ty := .int) (C := RX9) (T := TX9) (N := 67) C0 hK hP hD hS hm_h0 hk_h0 (by decide) rfl inlX9 tyX9 tyX9_ok nmX9 (by decide) mW868 (fun _ h9 => h9) rfl (by decide +kernel) rfl rfl (Nat.le_of_ble_eq_true rfl) ysi_9_65 dX9_step_504 (fun H locs hP hD hS => ?_)
                        obtain ⟨d_46, ed_46⟩ : ∃ z : yD, z = yi d_38 h0 65 p1 := ⟨_, rfl⟩
                        rw [← ed_46] at hP hD
                        have hgd_46 : yAg S [9, 77, 78] d d_46 := by rw [ed_46]; exact yAg.i hgd_38 (by rw [hk_h0]; decide)
                        have hsd_46 : yAg S [9] d_38 d_46 := by rw [ed_46]; exact yAg.i yAg.rf (by rw [hk_h0]; decide)
                        have hPod_46 : yPo S d_46 := by rw [ed_46]; exact yPo.i hPod_38 hk_h0 (Or.inl rfl)
                        have hfd_46 : yK [54, 55, 57, 63, 64, 65] d d_46 h0 := by rw [ed_46]; exact yK.i hfd_38 (by decide)
                        have hId_46 : yMI S d_46 h0 := yMI.ag hId_38 hSh hm_h0 hk_h0 (show yAg S [9] d_38 d_46 from by rw [ed_46]; exact yAg.i yAg.rf (by rw [hk_h0]; decide)) (show yK [65] d_38 d_46 h0 from by rw [ed_46]; exact yK.i yK.rf (by decide)) (by decide) (by decide)
                        have hE0d_46 : (d_46.1 h0 0).toInt = (d_38.1 h0 0).toInt := congrArg Int32.toInt ((show yK [65] d_38 d_46 h0 from by rw [ed_46]; exact yK.i yK.rf (by decide)) 0 (by decide))
                        have hE1d_46 : (d_46.1 h0 1).toInt = (d_38.1 h0 1).toInt := congrArg Int32.toInt ((show yK [65] d_38 d_46 h0 from by rw [ed_46]; exact yK.i yK.rf (by decide)) 1 (by decide))
                        have hE2d_46 : (d_46.1 h0 2).toInt = (d_38.1 h0 2).toInt := congrArg Int32.toInt ((show yK [65] d_38 d_46 h0 from by rw [ed_46]; exact yK.i yK.rf (by decide)) 2 (by decide))
                        have hE3d_46 : (d_46.1 h0 3).toInt = (d_38.1 h0 3).toInt := congrArg Int32.toInt ((show yK [65] d_38 d_46 h0 from by rw [ed_46]; exact yK.i yK.rf (by decide)) 3 (by decide))
                        have hE63d_46 : (d_46.1 h0 63).toInt = (d_38.1 h0 63).toInt := congrArg Int32.toInt ((show yK [65] d_38 d_46 h0 from by rw [ed_46]; exact yK.i yK.rf (by decide)) 63 (by decide))
                        exact W.vret hx hb hr (fun t ht hW => ⟨⟨d_46, rfl, ⟨hgd_46, (fun _ => hPod_46), hfd_46, hId_46⟩, by rw [ht]; exact hP, hD⟩, hS.F ht⟩) hS.2.2 dX9_step_507
                      · refine lv_aload_n hx hb dX9_step_432 rfl (lv_at hl 0 rfl) ?_
                        refine yget (ci := 9) (k := 19) (v := .ref (S.2.2.1 h0 19)) (C := RX9) (T := TX9) (N := 67) C0 hK hP hm_h0 hk_h0 (by decide) rfl inlX9 (by decide) mW126 (fun _ h9 => h9) rfl dX9_step_433 ?_
                        obtain ⟨hmy_47, hky_47⟩ := ySh.f9_19 hSh _ hm_h0 hk_h0
                        refine lv_aload_n hx hb dX9_step_436 rfl (lv_at hl 0 rfl) ?_
                        refine yget (ci := 9) (k := 63) (v := .int (d_38.1 h0 63)) (C := RX9) (T := TX9) (N := 67) C0 hK hP hm_h0 hk_h0 (by decide) rfl inlX9 (by decide) mW866 (fun _ h9 => h9) rfl dX9_step_437 ?_
                        rw [← ez_42]
                        have hCC_48 := yMI.c hId_38
                        have T_49 : (z_28 : Int32).toInt = (d_27.1 h0 49).toInt := by rw [ez_28]
                        have F_50 := feq (rfl : (p0 : Int32).toInt = (p0 : Int32).toInt) (rfl : (z_28 : Int32).toInt = (z_28 : Int32).toInt) c_29
                        have T_51 : (z_39 : Int32).toInt = (d_38.1 h0 65).toInt := by rw [ez_39]
                        have F_52 := fnle (by decide +kernel : (0 : Int32).toInt = 0) (rfl : (z_39 : Int32).toInt = (z_39 : Int32).toInt) c_40
                        have T_53 : (z_42 : Int32).toInt = (d_38.1 h0 63).toInt := by rw [ez_42]
                        have T_54 : (z_43 : Int32).toInt = (d_38.1 h0 2).toInt := by rw [ez_43]
                        have F_55 := fnle (rfl : (z_43 : Int32).toInt = (z_43 : Int32).toInt) (rfl : (z_42 : Int32).toInt = (z_42 : Int32).toInt) c_44
                        refine yaldB C0 hK hP hmy_47 hky_47 (by decide) rfl 1 rfl (xinT 500 rfl (by omega) (by omega)) dX9_step_440 ?_
                        refine lv_topi (fun z_56 ez_56 => ?_)
                        refine lv_iload hx hb dX9_step_441 (lv_at hl 2 rfl) ?_
                        refine lv_icmp_eq (tgt := 451) hx hb dX9_step_443 (by decide) (fun c_57 => ?_) (fun c_57 => ?_)
                        · refine lv_aload_n hx hb dX9_step_451 rfl (lv_at hl 0 rfl) ?_
                          refine lv_dup hx hb dX9_step_452 rfl ?_
                          refine yget (ci := 9) (k := 64) (v := .int (d_38.1 h0 64)) (C := RX9) (T := TX9) (N := 67) C0 hK hP hm_h0 hk_h0 (by decide) rfl inlX9 (by decide) mW867 (fun _ h9 => h9) rfl dX9_step_453 ?_
                          refine lv_topi (fun z_58 ez_58 => ?_)
                          refine lv_iconst (v := 1) hx hb dX9_step_456 (by decide) ?_
                          refine lv_iadd hx hb dX9_step_457 ?_
                          refine lv_topi (fun z_59 ez_59 => ?_)
                          refine yputI (ci := 9) (k := 64) (ty := .int) (C := RX9) (T := TX9) (N := 67) C0 hK hP hD hS hm_h0 hk_h0 (by decide) rfl inlX9 tyX9 tyX9_ok nmX9 (by decide) mW867 (fun _ h9 => h9) rfl (by decide +kernel) rfl rfl (Nat.le_of_ble_eq_true rfl) ysi_9_64 dX9_step_458 (fun H locs hP hD hS => ?_)
                          obtain ⟨d_60, ed_60⟩ : ∃ z : yD, z = yi d_38 h0 64 z_59 := ⟨_, rfl⟩
                          rw [← ed_60] at hP hD
                          have hgd_60 : yAg S [9, 77, 78] d d_60 := by rw [ed_60]; exact yAg.i hgd_38 (by rw [hk_h0]; decide)
                          have hsd_60 : yAg S [9] d_38 d_60 := by rw [ed_60]; exact yAg.i yAg.rf (by rw [hk_h0]; decide)
                          have hPod_60 : yPo S d_60 := by rw [ed_60]; exact yPo.i hPod_38 hk_h0 (Or.inl rfl)
                          have hfd_60 : yK [54, 55, 57, 63, 64, 65] d d_60 h0 := by rw [ed_60]; exact yK.i hfd_38 (by decide)
                          have hId_60 : yMI S d_60 h0 := yMI.ag hId_38 hSh hm_h0 hk_h0 (show yAg S [9] d_38 d_60 from by rw [ed_60]; exact yAg.i yAg.rf (by rw [hk_h0]; decide)) (show yK [64] d_38 d_60 h0 from by rw [ed_60]; exact yK.i yK.rf (by decide)) (by decide) (by decide)
                          have hE0d_60 : (d_60.1 h0 0).toInt = (d_38.1 h0 0).toInt := congrArg Int32.toInt ((show yK [64] d_38 d_60 h0 from by rw [ed_60]; exact yK.i yK.rf (by decide)) 0 (by decide))
                          have hE1d_60 : (d_60.1 h0 1).toInt = (d_38.1 h0 1).toInt := congrArg Int32.toInt ((show yK [64] d_38 d_60 h0 from by rw [ed_60]; exact yK.i yK.rf (by decide)) 1 (by decide))
                          have hE2d_60 : (d_60.1 h0 2).toInt = (d_38.1 h0 2).toInt := congrArg Int32.toInt ((show yK [64] d_38 d_60 h0 from by rw [ed_60]; exact yK.i yK.rf (by decide)) 2 (by decide))
                          have hE3d_60 : (d_60.1 h0 3).toInt = (d_38.1 h0 3).toInt := congrArg Int32.toInt ((show yK [64] d_38 d_60 h0 from by rw [ed_60]; exact yK.i yK.rf (by decide)) 3 (by decide))
                          have hE63d_60 : (d_60.1 h0 63).toInt = (d_38.1 h0 63).toInt := congrArg Int32.toInt ((show yK [64] d_38 d_60 h0 from by rw [ed_60]; exact yK.i yK.rf (by decide)) 63 (by decide))
                          refine lv_aload_n hx hb dX9_step_461 rfl (lv_at hl 0 rfl) ?_
                          refine yget (ci := 9) (k := 64) (v := .int (d_60.1 h0 64)) (C := RX9) (T := TX9) (N := 67) C0 hK hP hm_h0 hk_h0 (by decide) rfl inlX9 (by decide) mW867 (fun _ h9 => h9) rfl dX9_step_462 ?_
                          refine lv_topi (fun z_61 ez_61 => ?_)
                          refine lv_aload_n hx hb dX9_step_465 rfl (lv_at hl 0 rfl) ?_
                          refine yget (ci := 9) (k := 18) (v := .ref (S.2.2.1 h0 18)) (C := RX9) (T := TX9) (N := 67) C0 hK hP hm_h0 hk_h0 (by decide) rfl inlX9 (by decide) mW125 (fun _ h9 => h9) rfl dX9_step_466 ?_
                          obtain ⟨hmy_62, hky_62⟩ := ySh.f9_18 hSh _ hm_h0 hk_h0
                          refine lv_aload_n hx hb dX9_step_469 rfl (lv_at hl 0 rfl) ?_
                          refine yget (ci := 9) (k := 63) (v := .int (d_60.1 h0 63)) (C := RX9) (T := TX9) (N := 67) C0 hK hP hm_h0 hk_h0 (by decide) rfl inlX9 (by decide) mW866 (fun _ h9 => h9) rfl dX9_step_470 ?_
                          refine lv_topi (fun z_63 ez_63 => ?_)
                          have hCC_64 := yMI.c hId_60
                          have F_66 := feq (rfl : (z_56 : Int32).toInt = (z_56 : Int32).toInt) (rfl : (v_15 : Int32).toInt = (v_15 : Int32).toInt) c_57
                          have T_67 : (z_63 : Int32).toInt = (d_60.1 h0 63).toInt := by rw [ez_63]
                          refine yald C0 hK hP hmy_62 hky_62 (by decide) rfl 0 rfl (xinT 500 rfl (by omega) (by omega)) dX9_step_473 ?_
                          refine lv_topi (fun z_68 ez_68 => ?_)
                          refine lv_icmp_ne (tgt := 507) hx hb dX9_step_474 (by decide) (fun c_69 => ?_) (fun c_69 => ?_)
                          · exact W.vret hx hb hr (fun t ht hW => ⟨⟨d_60, rfl, ⟨hgd_60, (fun _ => hPod_60), hfd_60, hId_60⟩, by rw [ht]; exact hP, hD⟩, hS.F ht⟩) hS.2.2 dX9_step_507
                          · refine lv_aload_n hx hb dX9_step_477 rfl (lv_at hl 0 rfl) ?_
                            refine lv_dup hx hb dX9_step_478 rfl ?_
                            refine yget (ci := 9) (k := 63) (v := .int (d_60.1 h0 63)) (C := RX9) (T := TX9) (N := 67) C0 hK hP hm_h0 hk_h0 (by decide) rfl inlX9 (by decide) mW866 (fun _ h9 => h9) rfl dX9_step_479 ?_
                            rw [← ez_63]
                            refine lv_iconst (v := 1) hx hb dX9_step_482 (by decide) ?_
                            refine lv_iadd hx hb dX9_step_483 ?_
                            refine lv_topi (fun z_70 ez_70 => ?_)
                            refine yputI (ci := 9) (k := 63) (ty := .int) (C := RX9) (T := TX9) (N := 67) C0 hK hP hD hS hm_h0 hk_h0 (by decide) rfl inlX9 tyX9 tyX9_ok nmX9 (by decide) mW866 (fun _ h9 => h9) rfl (by decide +kernel) rfl rfl (Nat.le_of_ble_eq_true rfl) ysi_9_63 dX9_step_484 (fun H locs hP hD hS => ?_)
                            obtain ⟨d_71, ed_71⟩ : ∃ z : yD, z = yi d_60 h0 63 z_70 := ⟨_, rfl⟩
                            rw [← ed_71] at hP hD
                            have hgd_71 : yAg S [9, 77, 78] d d_71 := by rw [ed_71]; exact yAg.i hgd_60 (by rw [hk_h0]; decide)
                            have hsd_71 : yAg S [9] d_60 d_71 := by rw [ed_71]; exact yAg.i yAg.rf (by rw [hk_h0]; decide)
                            have hPod_71 : yPo S d_71 := by rw [ed_71]; exact yPo.i hPod_60 hk_h0 (Or.inl rfl)
                            have hfd_71 : yK [54, 55, 57, 63, 64, 65] d d_71 h0 := by rw [ed_71]; exact yK.i hfd_60 (by decide)
                            have T_72 : (z_61 : Int32).toInt = (d_60.1 h0 64).toInt := by rw [ez_61]
                            have F_74 := feq (rfl : (z_61 : Int32).toInt = (z_61 : Int32).toInt) (rfl : (z_68 : Int32).toInt = (z_68 : Int32).toInt) c_69
                            have T_75 : (z_70 : Int32).toInt = (z_63 : Int32).toInt + 1 := tadd ez_70 (rfl : (z_63 : Int32).toInt = (z_63 : Int32).toInt) (by decide +kernel : (1 : Int32).toInt = 1) (by omega) (by omega)
                            have hId_71 : yMI S d_71 h0 := by rw [ed_71]; exact yMI.i63 hId_60 ⟨by omega, by omega⟩
                            have hE0d_71 : (d_71.1 h0 0).toInt = (d_60.1 h0 0).toInt := congrArg Int32.toInt ((show yK [63] d_60 d_71 h0 from by rw [ed_71]; exact yK.i yK.rf (by decide)) 0 (by decide))
                            have hE1d_71 : (d_71.1 h0 1).toInt = (d_60.1 h0 1).toInt := congrArg Int32.toInt ((show yK [63] d_60 d_71 h0 from by rw [ed_71]; exact yK.i yK.rf (by decide)) 1 (by decide))
                            have hE2d_71 : (d_71.1 h0 2).toInt = (d_60.1 h0 2).toInt := congrArg Int32.toInt ((show yK [63] d_60 d_71 h0 from by rw [ed_71]; exact yK.i yK.rf (by decide)) 2 (by decide))
                            have hE3d_71 : (d_71.1 h0 3).toInt = (d_60.1 h0 3).toInt := congrArg Int32.toInt ((show yK [63] d_60 d_71 h0 from by rw [ed_71]; exact yK.i yK.rf (by decide)) 3 (by decide))
                            have hE63d_71 : (d_71.1 h0 63).toInt = (z_70 : Int32).toInt := by rw [ed_71, yi_self]
                            refine lv_aload_n hx hb dX9_step_487 rfl (lv_at hl 0 rfl) ?_
                            refine lv_iconst (v := 0) hx hb dX9_step_488 (by decide) ?_
                            refine yputI (ci := 9) (k := 64) (ty := .int) (C := RX9) (T := TX9) (N := 67) C0 hK hP hD hS hm_h0 hk_h0 (by decide) rfl inlX9 tyX9 tyX9_ok nmX9 (by decide) mW867 (fun _ h9 => h9) rfl (by decide +kernel) rfl rfl (Nat.le_of_ble_eq_true rfl) ysi_9_64 dX9_step_489 (fun H locs hP hD hS => ?_)
                            obtain ⟨d_76, ed_76⟩ : ∃ z : yD, z = yi d_71 h0 64 0 := ⟨_, rfl⟩
                            rw [← ed_76] at hP hD
                            have hgd_76 : yAg S [9, 77, 78] d d_76 := by rw [ed_76]; exact yAg.i hgd_71 (by rw [hk_h0]; decide)
                            have hsd_76 : yAg S [9] d_71 d_76 := by rw [ed_76]; exact yAg.i yAg.rf (by rw [hk_h0]; decide)
                            have hPod_76 : yPo S d_76 := by rw [ed_76]; exact yPo.i hPod_71 hk_h0 (Or.inl rfl)
                            have hfd_76 : yK [54, 55, 57, 63, 64, 65] d d_76 h0 := by rw [ed_76]; exact yK.i hfd_71 (by decide)
                            have hId_76 : yMI S d_76 h0 := yMI.ag hId_71 hSh hm_h0 hk_h0 (show yAg S [9] d_71 d_76 from by rw [ed_76]; exact yAg.i yAg.rf (by rw [hk_h0]; decide)) (show yK [64] d_71 d_76 h0 from by rw [ed_76]; exact yK.i yK.rf (by decide)) (by decide) (by decide)
                            have hE0d_76 : (d_76.1 h0 0).toInt = (d_71.1 h0 0).toInt := congrArg Int32.toInt ((show yK [64] d_71 d_76 h0 from by rw [ed_76]; exact yK.i yK.rf (by decide)) 0 (by decide))
                            have hE1d_76 : (d_76.1 h0 1).toInt = (d_71.1 h0 1).toInt := congrArg Int32.toInt ((show yK [64] d_71 d_76 h0 from by rw [ed_76]; exact yK.i yK.rf (by decide)) 1 (by decide))
                            have hE2d_76 : (d_76.1 h0 2).toInt = (d_71.1 h0 2).toInt := congrArg Int32.toInt ((show yK [64] d_71 d_76 h0 from by rw [ed_76]; exact yK.i yK.rf (by decide)) 2 (by decide))
                            have hE3d_76 : (d_76.1 h0 3).toInt = (d_71.1 h0 3).toInt := congrArg Int32.toInt ((show yK [64] d_71 d_76 h0 from by rw [ed_76]; exact yK.i yK.rf (by decide)) 3 (by decide))
                            have hE63d_76 : (d_76.1 h0 63).toInt = (d_71.1 h0 63).toInt := congrArg Int32.toInt ((show yK [64] d_71 d_76 h0 from by rw [ed_76]; exact yK.i yK.rf (by decide)) 63 (by decide))
                            refine lv_goto (tgt := 507) hx hb dX9_step_492 (by decide) ?_
                            exact W.vret hx hb hr (fun t ht hW => ⟨⟨d_76, rfl, ⟨hgd_76, (fun _ => hPod_76), hfd_76, hId_76⟩, by rw [ht]; exact hP, hD⟩, hS.F ht⟩) hS.2.2 dX9_step_507
                        · refine lv_aload_n hx hb dX9_step_446 rfl (lv_at hl 0 rfl) ?_
                          refine lv_iload_n hx hb dX9_step_447 rfl (lv_at hl 1 rfl) ?_
                          refine yputI (ci := 9) (k := 65) (ty := .int) (C := RX9) (T := TX9) (N := 67) C0 hK hP hD hS hm_h0 hk_h0 (by decide) rfl inlX9 tyX9 tyX9_ok nmX9 (by decide) mW868 (fun _ h9 => h9) rfl (by decide +kernel) rfl rfl (Nat.le_of_ble_eq_true rfl) ysi_9_65 dX9_step_448 (fun H locs hP hD hS => ?_)
                          obtain ⟨d_77, ed_77⟩ : ∃ z : yD, z = yi d_38 h0 65 p1 := ⟨_, rfl⟩
                          rw [← ed_77] at hP hD
                          have hgd_77 : yAg S [9, 77, 78] d d_77 := by rw [ed_77]; exact yAg.i hgd_38 (by rw [hk_h0]; decide)
                          have hsd_77 : yAg S [9] d_38 d_77 := by rw [ed_77]; exact yAg.i yAg.rf (by rw [hk_h0]; decide)
                          have hPod_77 : yPo S d_77 := by rw [ed_77]; exact yPo.i hPod_38 hk_h0 (Or.inl rfl)
                          have hfd_77 : yK [54, 55, 57, 63, 64, 65] d d_77 h0 := by rw [ed_77]; exact yK.i hfd_38 (by decide)
                          have hId_77 : yMI S d_77 h0 := yMI.ag hId_38 hSh hm_h0 hk_h0 (show yAg S [9] d_38 d_77 from by rw [ed_77]; exact yAg.i yAg.rf (by rw [hk_h0]; decide)) (show yK [65] d_38 d_77 h0 from by rw [ed_77]; exact yK.i yK.rf (by decide)) (by decide) (by decide)
                          have hE0d_77 : (d_77.1 h0 0).toInt = (d_38.1 h0 0).toInt := congrArg Int32.toInt ((show yK [65] d_38 d_77 h0 from by rw [ed_77]; exact yK.i yK.rf (by decide)) 0 (by decide))
                          have hE1d_77 : (d_77.1 h0 1).toInt = (d_38.1 h0 1).toInt := congrArg Int32.toInt ((show yK [65] d_38 d_77 h0 from by rw [ed_77]; exact yK.i yK.rf (by decide)) 1 (by decide))
                          have hE2d_77 : (d_77.1 h0 2).toInt = (d_38.1 h0 2).toInt := congrArg Int32.toInt ((show yK [65] d_38 d_77 h0 from by rw [ed_77]; exact yK.i yK.rf (by decide)) 2 (by decide))
                          have hE3d_77 : (d_77.1 h0 3).toInt = (d_38.1 h0 3).toInt := congrArg Int32.toInt ((show yK [65] d_38 d_77 h0 from by rw [ed_77]; exact yK.i yK.rf (by decide)) 3 (by decide))
                          have hE63d_77 : (d_77.1 h0 63).toInt = (d_38.1 h0 63).toInt := congrArg Int32.toInt ((show yK [65] d_38 d_77 h0 from by rw [ed_77]; exact yK.i yK.rf (by decide)) 63 (by decide))
                          refine lv_aload_n hx hb dX9_step_451 rfl (lv_at hl 0 rfl) ?_
                          refine lv_dup hx hb dX9_step_452 rfl ?_
                          refine yget (ci := 9) (k := 64) (v := .int (d_77.1 h0 64)) (C := RX9) (T := TX9) (N := 67) C0 hK hP hm_h0 hk_h0 (by decide) rfl inlX9 (by decide) mW867 (fun _ h9 => h9) rfl dX9_step_453 ?_
                          refine lv_topi (fun z_78 ez_78 => ?_)
                          refine lv_iconst (v := 1) hx hb dX9_step_456 (by decide) ?_
                          refine lv_iadd hx hb dX9_step_457 ?_
                          refine lv_topi (fun z_79 ez_79 => ?_)
                          refine yputI (ci := 9) (k := 64) (ty := .int) (C := RX9) (T := TX9) (N := 67) C0 hK hP hD hS hm_h0 hk_h0 (by decide) rfl inlX9 tyX9 tyX9_ok nmX9 (by decide) mW867 (fun _ h9 => h9) rfl (by decide +kernel) rfl rfl (Nat.le_of_ble_eq_true rfl) ysi_9_64 dX9_step_458 (fun H locs hP hD hS => ?_)
                          obtain ⟨d_80, ed_80⟩ : ∃ z : yD, z = yi d_77 h0 64 z_79 := ⟨_, rfl⟩
                          rw [← ed_80] at hP hD
                          have hgd_80 : yAg S [9, 77, 78] d d_80 := by rw [ed_80]; exact yAg.i hgd_77 (by rw [hk_h0]; decide)
                          have hsd_80 : yAg S [9] d_77 d_80 := by rw [ed_80]; exact yAg.i yAg.rf (by rw [hk_h0]; decide)
                          have hPod_80 : yPo S d_80 := by rw [ed_80]; exact yPo.i hPod_77 hk_h0 (Or.inl rfl)
                          have hfd_80 : yK [54, 55, 57, 63, 64, 65] d d_80 h0 := by rw [ed_80]; exact yK.i hfd_77 (by decide)
                          have hId_80 : yMI S d_80 h0 := yMI.ag hId_77 hSh hm_h0 hk_h0 (show yAg S [9] d_77 d_80 from by rw [ed_80]; exact yAg.i yAg.rf (by rw [hk_h0]; decide)) (show yK [64] d_77 d_80 h0 from by rw [ed_80]; exact yK.i yK.rf (by decide)) (by decide) (by decide)
                          have hE0d_80 : (d_80.1 h0 0).toInt = (d_77.1 h0 0).toInt := congrArg Int32.toInt ((show yK [64] d_77 d_80 h0 from by rw [ed_80]; exact yK.i yK.rf (by decide)) 0 (by decide))
                          have hE1d_80 : (d_80.1 h0 1).toInt = (d_77.1 h0 1).toInt := congrArg Int32.toInt ((show yK [64] d_77 d_80 h0 from by rw [ed_80]; exact yK.i yK.rf (by decide)) 1 (by decide))
                          have hE2d_80 : (d_80.1 h0 2).toInt = (d_77.1 h0 2).toInt := congrArg Int32.toInt ((show yK [64] d_77 d_80 h0 from by rw [ed_80]; exact yK.i yK.rf (by decide)) 2 (by decide))
                          have hE3d_80 : (d_80.1 h0 3).toInt = (d_77.1 h0 3).toInt := congrArg Int32.toInt ((show yK [64] d_77 d_80 h0 from by rw [ed_80]; exact yK.i yK.rf (by decide)) 3 (by decide))
                          have hE63d_80 : (d_80.1 h0 63).toInt = (d_77.1 h0 63).toInt := congrArg Int32.toInt ((show yK [64] d_77 d_80 h0 from by rw [ed_80]; exact yK.i yK.rf (by decide)) 63 (by decide))
                          refine lv_aload_n hx hb dX9_step_461 rfl (lv_at hl 0 rfl) ?_
                          refine yget (ci := 9) (k := 64) (v := .int (d_80.1 h0 64)) (C := RX9) (T := TX9) (N := 67) C0 hK hP hm_h0 hk_h0 (by decide) rfl inlX9 (by decide) mW867 (fun _ h9 => h9) rfl dX9_step_462 ?_
                          refine lv_topi (fun z_81 ez_81 => ?_)
                          refine lv_aload_n hx hb dX9_step_465 rfl (lv_at hl 0 rfl) ?_
                          refine yget (ci := 9) (k := 18) (v := .ref (S.2.2.1 h0 18)) (C := RX9) (T := TX9) (N := 67) C0 hK hP hm_h0 hk_h0 (by decide) rfl inlX9 (by decide) mW125 (fun _ h9 => h9) rfl dX9_step_466 ?_
                          obtain ⟨hmy_82, hky_82⟩ := ySh.f9_18 hSh _ hm_h0 hk_h0
                          refine lv_aload_n hx hb dX9_step_469 rfl (lv_at hl 0 rfl) ?_
                          refine yget (ci := 9) (k := 63) (v := .int (d_80.1 h0 63)) (C := RX9) (T := TX9) (N := 67) C0 hK hP hm_h0 hk_h0 (by decide) rfl inlX9 (by decide) mW866 (fun _ h9 => h9) rfl dX9_step_470 ?_
                          refine lv_topi (fun z_83 ez_83 => ?_)
                          have hCC_84 := yMI.c hId_80
                          have F_86 := fne (rfl : (z_56 : Int32).toInt = (z_56 : Int32).toInt) (rfl : (v_15 : Int32).toInt = (v_15 : Int32).toInt) c_57
                          have T_87 : (z_83 : Int32).toInt = (d_80.1 h0 63).toInt := by rw [ez_83]
                          refine yald C0 hK hP hmy_82 hky_82 (by decide) rfl 0 rfl (xinT 500 rfl (by omega) (by omega)) dX9_step_473 ?_
                          refine lv_topi (fun z_88 ez_88 => ?_)
                          refine lv_icmp_ne (tgt := 507) hx hb dX9_step_474 (by decide) (fun c_89 => ?_) (fun c_89 => ?_)
                          · exact W.vret hx hb hr (fun t ht hW => ⟨⟨d_80, rfl, ⟨hgd_80, (fun _ => hPod_80), hfd_80, hId_80⟩, by rw [ht]; exact hP, hD⟩, hS.F ht⟩) hS.2.2 dX9_step_507
                          · refine lv_aload_n hx hb dX9_step_477 rfl (lv_at hl 0 rfl) ?_
                            refine lv_dup hx hb dX9_step_478 rfl ?_
                            refine yget (ci := 9) (k := 63) (v := .int (d_80.1 h0 63)) (C := RX9) (T := TX9) (N := 67) C0 hK hP hm_h0 hk_h0 (by decide) rfl inlX9 (by decide) mW866 (fun _ h9 => h9) rfl dX9_step_479 ?_
                            rw [← ez_83]
                            refine lv_iconst (v := 1) hx hb dX9_step_482 (by decide) ?_
                            refine lv_iadd hx hb dX9_step_483 ?_
                            refine lv_topi (fun z_90 ez_90 => ?_)
                            refine yputI (ci := 9) (k := 63) (ty := .int) (C := RX9) (T := TX9) (N := 67) C0 hK hP hD hS hm_h0 hk_h0 (by decide) rfl inlX9 tyX9 tyX9_ok nmX9 (by decide) mW866 (fun _ h9 => h9) rfl (by decide +kernel) rfl rfl (Nat.le_of_ble_eq_true rfl) ysi_9_63 dX9_step_484 (fun H locs hP hD hS => ?_)
                            obtain ⟨d_91, ed_91⟩ : ∃ z : yD, z = yi d_80 h0 63 z_90 := ⟨_, rfl⟩
                            rw [← ed_91] at hP hD
                            have hgd_91 : yAg S [9, 77, 78] d d_91 := by rw [ed_91]; exact yAg.i hgd_80 (by rw [hk_h0]; decide)
                            have hsd_91 : yAg S [9] d_80 d_91 := by rw [ed_91]; exact yAg.i yAg.rf (by rw [hk_h0]; decide)
                            have hPod_91 : yPo S d_91 := by rw [ed_91]; exact yPo.i hPod_80 hk_h0 (Or.inl rfl)
                            have hfd_91 : yK [54, 55, 57, 63, 64, 65] d d_91 h0 := by rw [ed_91]; exact yK.i hfd_80 (by decide)
                            have T_92 : (z_81 : Int32).toInt = (d_80.1 h0 64).toInt := by rw [ez_81]
                            have F_94 := feq (rfl : (z_81 : Int32).toInt = (z_81 : Int32).toInt) (rfl : (z_88 : Int32).toInt = (z_88 : Int32).toInt) c_89
                            have T_95 : (z_90 : Int32).toInt = (z_83 : Int32).toInt + 1 := tadd ez_90 (rfl : (z_83 : Int32).toInt = (z_83 : Int32).toInt) (by decide +kernel : (1 : Int32).toInt = 1) (by omega) (by omega)
                            have hId_91 : yMI S d_91 h0 := by rw [ed_91]; exact yMI.i63 hId_80 ⟨by omega, by omega⟩
                            have hE0d_91 : (d_91.1 h0 0).toInt = (d_80.1 h0 0).toInt := congrArg Int32.toInt ((show yK [63] d_80 d_91 h0 from by rw [ed_91]; exact yK.i yK.rf (by decide)) 0 (by decide))
                            have hE1d_91 : (d_91.1 h0 1).toInt = (d_80.1 h0 1).toInt := congrArg Int32.toInt ((show yK [63] d_80 d_91 h0 from by rw [ed_91]; exact yK.i yK.rf (by decide)) 1 (by decide))
                            have hE2d_91 : (d_91.1 h0 2).toInt = (d_80.1 h0 2).toInt := congrArg Int32.toInt ((show yK [63] d_80 d_91 h0 from by rw [ed_91]; exact yK.i yK.rf (by decide)) 2 (by decide))
                            have hE3d_91 : (d_91.1 h0 3).toInt = (d_80.1 h0 3).toInt := congrArg Int32.toInt ((show yK [63] d_80 d_91 h0 from by rw [ed_91]; exact yK.i yK.rf (by decide)) 3 (by decide))
                            have hE63d_91 : (d_91.1 h0 63).toInt = (z_90 : Int32).toInt := by rw [ed_91, yi_self]
                            refine lv_aload_n hx hb dX9_step_487 rfl (lv_at hl 0 rfl) ?_
                            refine lv_iconst (v := 0) hx hb dX9_step_488 (by decide) ?_
                            refine yputI (ci := 9) (k := 64) (ty := .int) (C := RX9) (T := TX9) (N := 67) C0 hK hP hD hS hm_h0 hk_h0 (by decide) rfl inlX9 tyX9 tyX9_ok nmX9 (by decide) mW867 (fun _ h9 => h9) rfl (by decide +kernel) rfl rfl (Nat.le_of_ble_eq_true rfl) ysi_9_64 dX9_step_489 (fun H locs hP hD hS => ?_)
                            obtain ⟨d_96, ed_96⟩ : ∃ z : yD, z = yi d_91 h0 64 0 := ⟨_, rfl⟩
                            rw [← ed_96] at hP hD
                            have hgd_96 : yAg S [9, 77, 78] d d_96 := by rw [ed_96]; exact yAg.i hgd_91 (by rw [hk_h0]; decide)
                            have hsd_96 : yAg S [9] d_91 d_96 := by rw [ed_96]; exact yAg.i yAg.rf (by rw [hk_h0]; decide)
                            have hPod_96 : yPo S d_96 := by rw [ed_96]; exact yPo.i hPod_91 hk_h0 (Or.inl rfl)
                            have hfd_96 : yK [54, 55, 57, 63, 64, 65] d d_96 h0 := by rw [ed_96]; exact yK.i hfd_91 (by decide)
                            have hId_96 : yMI S d_96 h0 := yMI.ag hId_91 hSh hm_h0 hk_h0 (show yAg S [9] d_91 d_96 from by rw [ed_96]; exact yAg.i yAg.rf (by rw [hk_h0]; decide)) (show yK [64] d_91 d_96 h0 from by rw [ed_96]; exact yK.i yK.rf (by decide)) (by decide) (by decide)
                            have hE0d_96 : (d_96.1 h0 0).toInt = (d_91.1 h0 0).toInt := congrArg Int32.toInt ((show yK [64] d_91 d_96 h0 from by rw [ed_96]; exact yK.i yK.rf (by decide)) 0 (by decide))
                            have hE1d_96 : (d_96.1 h0 1).toInt = (d_91.1 h0 1).toInt := congrArg Int32.toInt ((show yK [64] d_91 d_96 h0 from by rw [ed_96]; exact yK.i yK.rf (by decide)) 1 (by decide))
                            have hE2d_96 : (d_96.1 h0 2).toInt = (d_91.1 h0 2).toInt := congrArg Int32.toInt ((show yK [64] d_91 d_96 h0 from by rw [ed_96]; exact yK.i yK.rf (by decide)) 2 (by decide))
                            have hE3d_96 : (d_96.1 h0 3).toInt = (d_91.1 h0 3).toInt := congrArg Int32.toInt ((show yK [64] d_91 d_96 h0 from by rw [ed_96]; exact yK.i yK.rf (by decide)) 3 (by decide))
                            have hE63d_96 : (d_96.1 h0 63).toInt = (d_91.1 h0 63).toInt := congrArg Int32.toInt ((show yK [64] d_91 d_96 h0 from by rw [ed_96]; exact yK.i yK.rf (by decide)) 63 (by decide))
                            refine lv_goto (tgt := 507) hx hb dX9_step_492 (by decide) ?_
                            exact W.vret hx hb hr (fun t ht hW => ⟨⟨d_96, rfl, ⟨hgd_96, (fun _ => hPod_96), hfd_96, hId_96⟩, by rw [ht]; exact hP, hD⟩, hS.F ht⟩) hS.2.2 dX9_step_507
                  refine lv_icmp_ne (tgt := 414) hx hb dX9_step_401 (by decide) (fun c_97 => ?_) (fun c_97 => ?_)
                  · exact J414_37 d_36 _ _ ls _ ⟨rfl, hP, hD, hS, hgd_36, hPod_36, hfd_36, hId_36, yAg.rf, yK.rf, lv_sub hl [0, 1, 2] rfl⟩
                  · refine lv_aload_n hx hb dX9_step_404 rfl (lv_at hl 0 rfl) ?_
                    refine lv_dup hx hb dX9_step_405 rfl ?_
                    refine yget (ci := 9) (k := 57) (v := .int (d_36.1 h0 57)) (C := RX9) (T := TX9) (N := 67) C0 hK hP hm_h0 hk_h0 (by decide) rfl inlX9 (by decide) mW880 (fun _ h9 => h9) rfl dX9_step_406 ?_
                    refine lv_topi (fun z_98 ez_98 => ?_)
                    refine lv_iconst (v := 1) hx hb dX9_step_409 (by decide) ?_
                    refine lv_iadd hx hb dX9_step_410 ?_
                    refine lv_topi (fun z_99 ez_99 => ?_)
                    refine yputI (ci := 9) (k := 57) (ty := .int) (C := RX9) (T := TX9) (N := 67) C0 hK hP hD hS hm_h0 hk_h0 (by decide) rfl inlX9 tyX9 tyX9_ok nmX9 (by decide) mW880 (fun _ h9 => h9) rfl (by decide +kernel) rfl rfl (Nat.le_of_ble_eq_true rfl) ysi_9_57 dX9_step_411 (fun H locs hP hD hS => ?_)
                    obtain ⟨d_100, ed_100⟩ : ∃ z : yD, z = yi d_36 h0 57 z_99 := ⟨_, rfl⟩
                    rw [← ed_100] at hP hD
                    have hgd_100 : yAg S [9, 77, 78] d d_100 := by rw [ed_100]; exact yAg.i hgd_36 (by rw [hk_h0]; decide)
                    have hsd_100 : yAg S [9] d_36 d_100 := by rw [ed_100]; exact yAg.i yAg.rf (by rw [hk_h0]; decide)
                    have hPod_100 : yPo S d_100 := by rw [ed_100]; exact yPo.i hPod_36 hk_h0 (Or.inl rfl)
                    have hfd_100 : yK [54, 55, 57, 63, 64, 65] d d_100 h0 := by rw [ed_100]; exact yK.i hfd_36 (by decide)
                    have hL0d_100 : yAg S [9] d_36 d_100 := by rw [ed_100]; exact yAg.i yAg.rf (by rw [hk_h0]; decide)
                    have hK0d_100 : yK [57] d_36 d_100 h0 := by rw [ed_100]; exact yK.i yK.rf (by decide)
                    have hId_100 : yMI S d_100 h0 := yMI.ag hId_36 hSh hm_h0 hk_h0 (show yAg S [9] d_36 d_100 from by rw [ed_100]; exact yAg.i yAg.rf (by rw [hk_h0]; decide)) (show yK [57] d_36 d_100 h0 from by rw [ed_100]; exact yK.i yK.rf (by decide)) (by decide) (by decide)
                    have hE0d_100 : (d_100.1 h0 0).toInt = (d_36.1 h0 0).toInt := congrArg Int32.toInt ((show yK [57] d_36 d_100 h0 from by rw [ed_100]; exact yK.i yK.rf (by decide)) 0 (by decide))
                    have hE1d_100 : (d_100.1 h0 1).toInt = (d_36.1 h0 1).toInt := congrArg Int32.toInt ((show yK [57] d_36 d_100 h0 from by rw [ed_100]; exact yK.i yK.rf (by decide)) 1 (by decide))
                    have hE2d_100 : (d_100.1 h0 2).toInt = (d_36.1 h0 2).toInt := congrArg Int32.toInt ((show yK [57] d_36 d_100 h0 from by rw [ed_100]; exact yK.i yK.rf (by decide)) 2 (by decide))
                    have hE3d_100 : (d_100.1 h0 3).toInt = (d_36.1 h0 3).toInt := congrArg Int32.toInt ((show yK [57] d_36 d_100 h0 from by rw [ed_100]; exact yK.i yK.rf (by decide)) 3 (by decide))
                    have hE63d_100 : (d_100.1 h0 63).toInt = (d_36.1 h0 63).toInt := congrArg Int32.toInt ((show yK [57] d_36 d_100 h0 from by rw [ed_100]; exact yK.i yK.rf (by decide)) 63 (by decide))
                    exact J414_37 d_100 _ _ ls _ ⟨rfl, hP, hD, hS, hgd_100, hPod_100, hfd_100, hId_100, hL0d_100, hK0d_100, lv_sub hl [0, 1, 2] rfl⟩
                refine lv_icmp_lt (tgt := 395) hx hb dX9_step_372 (by decide) (fun c_101 => ?_) (fun c_101 => ?_)
                · exact J395_35 d_34 _ _ ls _ ⟨rfl, hP, hD, hS, hgd_34, hPod_34, hfd_34, hId_34, yAg.rf, yK.rf, lv_sub hl [0, 1, 2] rfl⟩
                · refine lv_iload_n hx hb dX9_step_375 rfl (lv_at hl 1 rfl) ?_
                  refine lv_aload_n hx hb dX9_step_376 rfl (lv_at hl 0 rfl) ?_
                  refine yget (ci := 9) (k := 52) (v := .int (d_34.1 h0 52)) (C := RX9) (T := TX9) (N := 67) C0 hK hP hm_h0 hk_h0 (by decide) rfl inlX9 (by decide) mW864 (fun _ h9 => h9) rfl dX9_step_377 ?_
                  refine lv_topi (fun z_102 ez_102 => ?_)
                  refine lv_icmp_ge (tgt := 395) hx hb dX9_step_380 (by decide) (fun c_103 => ?_) (fun c_103 => ?_)
                  · exact J395_35 d_34 _ _ ls _ ⟨rfl, hP, hD, hS, hgd_34, hPod_34, hfd_34, hId_34, yAg.rf, yK.rf, lv_sub hl [0, 1, 2] rfl⟩
                  · refine lv_aload_n hx hb dX9_step_383 rfl (lv_at hl 0 rfl) ?_
                    refine lv_dup hx hb dX9_step_384 rfl ?_
                    refine yget (ci := 9) (k := 56) (v := .long (d_34.2.1 h0 56)) (C := RX9) (T := TX9) (N := 67) C0 hK hP hm_h0 hk_h0 (by decide) rfl inlX9 (by decide) mW879 (fun _ h9 => h9) rfl dX9_step_385 ?_
                    refine lv_topl (fun z_104 ez_104 => ?_)
                    refine lv_iload hx hb dX9_step_388 (lv_at hl 3 rfl) ?_
                    refine lv_i2l hx hb dX9_step_390 rfl ?_
                    rw [← ez_21]
                    refine lv_ladd hx hb dX9_step_391 ?_
                    refine lv_topl (fun z_105 ez_105 => ?_)
                    refine yputJ (ci := 9) (k := 56) (C := RX9) (T := TX9) (N := 67) C0 hK hP hD hS hm_h0 hk_h0 (by decide) rfl inlX9 tyX9 tyX9_ok nmX9 (by decide) mW879 (fun _ h9 => h9) rfl (by decide +kernel) (Nat.le_of_ble_eq_true rfl) ysj_9_56 dX9_step_392 (fun H locs hP hD hS => ?_)
                    obtain ⟨d_106, ed_106⟩ : ∃ z : yD, z = yj d_34 h0 56 z_105 := ⟨_, rfl⟩
                    rw [← ed_106] at hP hD
                    have hgd_106 : yAg S [9, 77, 78] d d_106 := by rw [ed_106]; exact yAg.j hgd_34 (by rw [hk_h0]; decide)
                    have hsd_106 : yAg S [9] d_34 d_106 := by rw [ed_106]; exact yAg.j yAg.rf (by rw [hk_h0]; decide)
                    have hPod_106 : yPo S d_106 := by rw [ed_106]; exact hPod_34
                    have hfd_106 : yK [54, 55, 57, 63, 64, 65] d d_106 h0 := by rw [ed_106]; exact yK.j hfd_34
                    have hL0d_106 : yAg S [9] d_34 d_106 := by rw [ed_106]; exact yAg.j yAg.rf (by rw [hk_h0]; decide)
                    have hK0d_106 : yK [] d_34 d_106 h0 := by rw [ed_106]; exact yK.j yK.rf
                    have hId_106 : yMI S d_106 h0 := by rw [ed_106]; exact yMI.j hId_34
                    have hE0d_106 : (d_106.1 h0 0).toInt = (d_34.1 h0 0).toInt := congrArg Int32.toInt ((show yK [] d_34 d_106 h0 from by rw [ed_106]; exact yK.j yK.rf) 0 (by decide))
                    have hE1d_106 : (d_106.1 h0 1).toInt = (d_34.1 h0 1).toInt := congrArg Int32.toInt ((show yK [] d_34 d_106 h0 from by rw [ed_106]; exact yK.j yK.rf) 1 (by decide))
                    have hE2d_106 : (d_106.1 h0 2).toInt = (d_34.1 h0 2).toInt := congrArg Int32.toInt ((show yK [] d_34 d_106 h0 from by rw [ed_106]; exact yK.j yK.rf) 2 (by decide))
                    have hE3d_106 : (d_106.1 h0 3).toInt = (d_34.1 h0 3).toInt := congrArg Int32.toInt ((show yK [] d_34 d_106 h0 from by rw [ed_106]; exact yK.j yK.rf) 3 (by decide))
                    have hE63d_106 : (d_106.1 h0 63).toInt = (d_34.1 h0 63).toInt := congrArg Int32.toInt ((show yK [] d_34 d_106 h0 from by rw [ed_106]; exact yK.j yK.rf) 63 (by decide))
                    exact J395_35 d_106 _ _ ls _ ⟨rfl, hP, hD, hS, hgd_106, hPod_106, hfd_106, hId_106, hL0d_106, hK0d_106, lv_sub hl [0, 1, 2] rfl⟩
              refine lv_icmp_ne (tgt := 367) hx hb dX9_step_341 (by decide) (fun c_107 => ?_) (fun c_107 => ?_)
              · exact J367_33 d_32 _ _ ls _ ⟨rfl, hP, hD, hS, hgd_32, hPod_32, hfd_32, hId_32, yAg.rf, yK.rf, lv_sub hl [0, 2, 3, 4] rfl⟩
              · refine lv_aload_n hx hb dX9_step_344 rfl (lv_at hl 0 rfl) ?_
                refine lv_iload hx hb dX9_step_345 (lv_at hl 3 rfl) ?_
                refine yputI (ci := 9) (k := 54) (ty := .int) (C := RX9) (T := TX9) (N := 67) C0 hK hP hD hS hm_h0 hk_h0 (by decide) rfl inlX9 tyX9 tyX9_ok nmX9 (by decide) mW878 (fun _ h9 => h9) rfl (by decide +kernel) rfl rfl (Nat.le_of_ble_eq_true rfl) ysi_9_54 dX9_step_347 (fun H locs hP hD hS => ?_)
                obtain ⟨d_108, ed_108⟩ : ∃ z : yD, z = yi d_32 h0 54 v_15 := ⟨_, rfl⟩
                rw [← ed_108] at hP hD
                have hgd_108 : yAg S [9, 77, 78] d d_108 := by rw [ed_108]; exact yAg.i hgd_32 (by rw [hk_h0]; decide)
                have hsd_108 : yAg S [9] d_32 d_108 := by rw [ed_108]; exact yAg.i yAg.rf (by rw [hk_h0]; decide)
                have hPod_108 : yPo S d_108 := by rw [ed_108]; exact yPo.i hPod_32 hk_h0 (Or.inl rfl)
                have hfd_108 : yK [54, 55, 57, 63, 64, 65] d d_108 h0 := by rw [ed_108]; exact yK.i hfd_32 (by decide)
                have hL0d_108 : yAg S [9] d_32 d_108 := by rw [ed_108]; exact yAg.i yAg.rf (by rw [hk_h0]; decide)
                have hK0d_108 : yK [54, 55] d_32 d_108 h0 := by rw [ed_108]; exact yK.i yK.rf (by decide)
                have hId_108 : yMI S d_108 h0 := yMI.ag hId_32 hSh hm_h0 hk_h0 (show yAg S [9] d_32 d_108 from by rw [ed_108]; exact yAg.i yAg.rf (by rw [hk_h0]; decide)) (show yK [54] d_32 d_108 h0 from by rw [ed_108]; exact yK.i yK.rf (by decide)) (by decide) (by decide)
                have hE0d_108 : (d_108.1 h0 0).toInt = (d_32.1 h0 0).toInt := congrArg Int32.toInt ((show yK [54] d_32 d_108 h0 from by rw [ed_108]; exact yK.i yK.rf (by decide)) 0 (by decide))
                have hE1d_108 : (d_108.1 h0 1).toInt = (d_32.1 h0 1).toInt := congrArg Int32.toInt ((show yK [54] d_32 d_108 h0 from by rw [ed_108]; exact yK.i yK.rf (by decide)) 1 (by decide))
                have hE2d_108 : (d_108.1 h0 2).toInt = (d_32.1 h0 2).toInt := congrArg Int32.toInt ((show yK [54] d_32 d_108 h0 from by rw [ed_108]; exact yK.i yK.rf (by decide)) 2 (by decide))
                have hE3d_108 : (d_108.1 h0 3).toInt = (d_32.1 h0 3).toInt := congrArg Int32.toInt ((show yK [54] d_32 d_108 h0 from by rw [ed_108]; exact yK.i yK.rf (by decide)) 3 (by decide))
                have hE63d_108 : (d_108.1 h0 63).toInt = (d_32.1 h0 63).toInt := congrArg Int32.toInt ((show yK [54] d_32 d_108 h0 from by rw [ed_108]; exact yK.i yK.rf (by decide)) 63 (by decide))
                refine lv_aload_n hx hb dX9_step_350 rfl (lv_at hl 0 rfl) ?_
                refine lv_iload hx hb dX9_step_351 (lv_at hl 3 rfl) ?_
                refine lv_bipush (v := (-3)) hx hb dX9_step_353 (by decide) ?_
                refine lv_icmp_ne (tgt := 362) hx hb dX9_step_355 (by decide) (fun c_109 => ?_) (fun c_109 => ?_)
                · refine lv_iload hx hb dX9_step_362 (lv_at hl 4 rfl) ?_
                  refine yputI (ci := 9) (k := 55) (ty := .int) (C := RX9) (T := TX9) (N := 67) C0 hK hP hD hS hm_h0 hk_h0 (by decide) rfl inlX9 tyX9 tyX9_ok nmX9 (by decide) mW856 (fun _ h9 => h9) rfl (by decide +kernel) rfl rfl (Nat.le_of_ble_eq_true rfl) ysi_9_55 dX9_step_364 (fun H locs hP hD hS => ?_)
                  obtain ⟨d_110, ed_110⟩ : ∃ z : yD, z = yi d_108 h0 55 v_16 := ⟨_, rfl⟩
                  rw [← ed_110] at hP hD
                  have hgd_110 : yAg S [9, 77, 78] d d_110 := by rw [ed_110]; exact yAg.i hgd_108 (by rw [hk_h0]; decide)
                  have hsd_110 : yAg S [9] d_108 d_110 := by rw [ed_110]; exact yAg.i yAg.rf (by rw [hk_h0]; decide)
                  have hPod_110 : yPo S d_110 := by rw [ed_110]; exact yPo.i hPod_108 hk_h0 (Or.inl rfl)
                  have hfd_110 : yK [54, 55, 57, 63, 64, 65] d d_110 h0 := by rw [ed_110]; exact yK.i hfd_108 (by decide)
                  have hL0d_110 : yAg S [9] d_32 d_110 := by rw [ed_110]; exact yAg.i hL0d_108 (by rw [hk_h0]; decide)
                  have hK0d_110 : yK [54, 55] d_32 d_110 h0 := by rw [ed_110]; exact yK.i hK0d_108 (by decide)
                  have hId_110 : yMI S d_110 h0 := yMI.ag hId_108 hSh hm_h0 hk_h0 (show yAg S [9] d_108 d_110 from by rw [ed_110]; exact yAg.i yAg.rf (by rw [hk_h0]; decide)) (show yK [55] d_108 d_110 h0 from by rw [ed_110]; exact yK.i yK.rf (by decide)) (by decide) (by decide)
                  have hE0d_110 : (d_110.1 h0 0).toInt = (d_108.1 h0 0).toInt := congrArg Int32.toInt ((show yK [55] d_108 d_110 h0 from by rw [ed_110]; exact yK.i yK.rf (by decide)) 0 (by decide))
                  have hE1d_110 : (d_110.1 h0 1).toInt = (d_108.1 h0 1).toInt := congrArg Int32.toInt ((show yK [55] d_108 d_110 h0 from by rw [ed_110]; exact yK.i yK.rf (by decide)) 1 (by decide))
                  have hE2d_110 : (d_110.1 h0 2).toInt = (d_108.1 h0 2).toInt := congrArg Int32.toInt ((show yK [55] d_108 d_110 h0 from by rw [ed_110]; exact yK.i yK.rf (by decide)) 2 (by decide))
                  have hE3d_110 : (d_110.1 h0 3).toInt = (d_108.1 h0 3).toInt := congrArg Int32.toInt ((show yK [55] d_108 d_110 h0 from by rw [ed_110]; exact yK.i yK.rf (by decide)) 3 (by decide))
                  have hE63d_110 : (d_110.1 h0 63).toInt = (d_108.1 h0 63).toInt := congrArg Int32.toInt ((show yK [55] d_108 d_110 h0 from by rw [ed_110]; exact yK.i yK.rf (by decide)) 63 (by decide))
                  exact J367_33 d_110 _ _ ls _ ⟨rfl, hP, hD, hS, hgd_110, hPod_110, hfd_110, hId_110, hL0d_110, hK0d_110, lv_sub hl [0, 2, 3, 4] rfl⟩
                · refine lv_iconst (v := 3) hx hb dX9_step_358 (by decide) ?_
                  refine lv_goto (tgt := 364) hx hb dX9_step_359 (by decide) ?_
                  refine yputI (ci := 9) (k := 55) (ty := .int) (C := RX9) (T := TX9) (N := 67) C0 hK hP hD hS hm_h0 hk_h0 (by decide) rfl inlX9 tyX9 tyX9_ok nmX9 (by decide) mW856 (fun _ h9 => h9) rfl (by decide +kernel) rfl rfl (Nat.le_of_ble_eq_true rfl) ysi_9_55 dX9_step_364 (fun H locs hP hD hS => ?_)
                  obtain ⟨d_111, ed_111⟩ : ∃ z : yD, z = yi d_108 h0 55 3 := ⟨_, rfl⟩
                  rw [← ed_111] at hP hD
                  have hgd_111 : yAg S [9, 77, 78] d d_111 := by rw [ed_111]; exact yAg.i hgd_108 (by rw [hk_h0]; decide)
                  have hsd_111 : yAg S [9] d_108 d_111 := by rw [ed_111]; exact yAg.i yAg.rf (by rw [hk_h0]; decide)
                  have hPod_111 : yPo S d_111 := by rw [ed_111]; exact yPo.i hPod_108 hk_h0 (Or.inl rfl)
                  have hfd_111 : yK [54, 55, 57, 63, 64, 65] d d_111 h0 := by rw [ed_111]; exact yK.i hfd_108 (by decide)
                  have hL0d_111 : yAg S [9] d_32 d_111 := by rw [ed_111]; exact yAg.i hL0d_108 (by rw [hk_h0]; decide)
                  have hK0d_111 : yK [54, 55] d_32 d_111 h0 := by rw [ed_111]; exact yK.i hK0d_108 (by decide)
                  have hId_111 : yMI S d_111 h0 := yMI.ag hId_108 hSh hm_h0 hk_h0 (show yAg S [9] d_108 d_111 from by rw [ed_111]; exact yAg.i yAg.rf (by rw [hk_h0]; decide)) (show yK [55] d_108 d_111 h0 from by rw [ed_111]; exact yK.i yK.rf (by decide)) (by decide) (by decide)
                  have hE0d_111 : (d_111.1 h0 0).toInt = (d_108.1 h0 0).toInt := congrArg Int32.toInt ((show yK [55] d_108 d_111 h0 from by rw [ed_111]; exact yK.i yK.rf (by decide)) 0 (by decide))
                  have hE1d_111 : (d_111.1 h0 1).toInt = (d_108.1 h0 1).toInt := congrArg Int32.toInt ((show yK [55] d_108 d_111 h0 from by rw [ed_111]; exact yK.i yK.rf (by decide)) 1 (by decide))
                  have hE2d_111 : (d_111.1 h0 2).toInt = (d_108.1 h0 2).toInt := congrArg Int32.toInt ((show yK [55] d_108 d_111 h0 from by rw [ed_111]; exact yK.i yK.rf (by decide)) 2 (by decide))
                  have hE3d_111 : (d_111.1 h0 3).toInt = (d_108.1 h0 3).toInt := congrArg Int32.toInt ((show yK [55] d_108 d_111 h0 from by rw [ed_111]; exact yK.i yK.rf (by decide)) 3 (by decide))
                  have hE63d_111 : (d_111.1 h0 63).toInt = (d_108.1 h0 63).toInt := congrArg Int32.toInt ((show yK [55] d_108 d_111 h0 from by rw [ed_111]; exact yK.i yK.rf (by decide)) 63 (by decide))
                  exact J367_33 d_111 _ _ ls _ ⟨rfl, hP, hD, hS, hgd_111, hPod_111, hfd_111, hId_111, hL0d_111, hK0d_111, lv_sub hl [0, 2, 3, 4] rfl⟩
            · exact W.vret hx hb hr (fun t ht hW => ⟨⟨d_27, rfl, ⟨hgd_27, (fun _ => hPod_27), hfd_27, hId_27⟩, by rw [ht]; exact hP, hD⟩, hS.F ht⟩) hS.2.2 dX9_step_323
          refine lv_if_eq (tgt := 315) hx hb dX9_step_295 (by decide) (fun c_112 => ?_) (fun c_112 => ?_)
          · exact J315_26 d_26 _ _ ls _ ⟨rfl, hP, hD, hS, hgd_26, hPod_26, hfd_26, hId_26, yAg.rf, yK.rf, lv_sub hl [1, 2, 3, 5, 6] rfl⟩
          · refine lv_aload_n hx hb dX9_step_298 rfl (lv_at hl 1 rfl) ?_
            refine yget (ci := 9) (k := 58) (v := .long (d_26.2.1 h0 58)) (C := RX9) (T := TX9) (N := 67) C0 hK hP hm_h0 hk_h0 (by decide) rfl inlX9 (by decide) mW873 (fun _ h9 => h9) rfl dX9_step_299 ?_
            refine lv_topl (fun z_113 ez_113 => ?_)
            refine lv_aload_n hx hb dX9_step_302 rfl (lv_at hl 1 rfl) ?_
            refine yget (ci := 9) (k := 59) (v := .long (d_26.2.1 h0 59)) (C := RX9) (T := TX9) (N := 67) C0 hK hP hm_h0 hk_h0 (by decide) rfl inlX9 (by decide) mW874 (fun _ h9 => h9) rfl dX9_step_303 ?_
            refine lv_topl (fun z_114 ez_114 => ?_)
            refine W.lcmp hx hb dX9_step_306 ?_
            refine lv_topi (fun z_115 ez_115 => ?_)
            refine lv_if_lt (tgt := 315) hx hb dX9_step_307 (by decide) (fun c_116 => ?_) (fun c_116 => ?_)
            · exact J315_26 d_26 _ _ ls _ ⟨rfl, hP, hD, hS, hgd_26, hPod_26, hfd_26, hId_26, yAg.rf, yK.rf, lv_sub hl [1, 2, 3, 5, 6] rfl⟩
            · refine lv_aload_n hx hb dX9_step_310 rfl (lv_at hl 1 rfl) ?_
              refine lv_lload_n hx hb dX9_step_311 rfl (lv_at hl 4 rfl) ?_
              refine yputJ (ci := 9) (k := 61) (C := RX9) (T := TX9) (N := 67) C0 hK hP hD hS hm_h0 hk_h0 (by decide) rfl inlX9 tyX9 tyX9_ok nmX9 (by decide) mW876 (fun _ h9 => h9) rfl (by decide +kernel) (Nat.le_of_ble_eq_true rfl) ysj_9_61 dX9_step_312 (fun H locs hP hD hS => ?_)
              obtain ⟨d_117, ed_117⟩ : ∃ z : yD, z = yj d_26 h0 61 p2 := ⟨_, rfl⟩
              rw [← ed_117] at hP hD
              have hgd_117 : yAg S [9, 77, 78] d d_117 := by rw [ed_117]; exact yAg.j hgd_26 (by rw [hk_h0]; decide)
              have hsd_117 : yAg S [9] d_26 d_117 := by rw [ed_117]; exact yAg.j yAg.rf (by rw [hk_h0]; decide)
              have hPod_117 : yPo S d_117 := by rw [ed_117]; exact hPod_26
              have hfd_117 : yK [54, 55, 57, 63, 64, 65] d d_117 h0 := by rw [ed_117]; exact yK.j hfd_26
              have hL1d_117 : yAg S [9] d_26 d_117 := by rw [ed_117]; exact yAg.j yAg.rf (by rw [hk_h0]; decide)
              have hK1d_117 : yK [] d_26 d_117 h0 := by rw [ed_117]; exact yK.j yK.rf
              have hId_117 : yMI S d_117 h0 := by rw [ed_117]; exact yMI.j hId_26
              have hE0d_117 : (d_117.1 h0 0).toInt = (d_26.1 h0 0).toInt := congrArg Int32.toInt ((show yK [] d_26 d_117 h0 from by rw [ed_117]; exact yK.j yK.rf) 0 (by decide))
              have hE1d_117 : (d_117.1 h0 1).toInt = (d_26.1 h0 1).toInt := congrArg Int32.toInt ((show yK [] d_26 d_117 h0 from by rw [ed_117]; exact yK.j yK.rf) 1 (by decide))
              have hE2d_117 : (d_117.1 h0 2).toInt = (d_26.1 h0 2).toInt := congrArg Int32.toInt ((show yK [] d_26 d_117 h0 from by rw [ed_117]; exact yK.j yK.rf) 2 (by decide))
              have hE3d_117 : (d_117.1 h0 3).toInt = (d_26.1 h0 3).toInt := congrArg Int32.toInt ((show yK [] d_26 d_117 h0 from by rw [ed_117]; exact yK.j yK.rf) 3 (by decide))
              have hE63d_117 : (d_117.1 h0 63).toInt = (d_26.1 h0 63).toInt := congrArg Int32.toInt ((show yK [] d_26 d_117 h0 from by rw [ed_117]; exact yK.j yK.rf) 63 (by decide))
              exact J315_26 d_117 _ _ ls _ ⟨rfl, hP, hD, hS, hgd_117, hPod_117, hfd_117, hId_117, hL1d_117, hK1d_117, lv_sub hl [1, 2, 3, 5, 6] rfl⟩
        refine lv_if_ge (tgt := 268) hx hb dX9_step_261 (by decide) (fun c_118 => ?_) (fun c_118 => ?_)
        · refine lv_iconst (v := 0) hx hb dX9_step_268 (by decide) ?_
          exact J269_20 0 ls _ ⟨rfl, lv_sub hl [0, 1, 2, 3, 4, 5] rfl, Or.inl rfl⟩
        · refine lv_iconst (v := 1) hx hb dX9_step_264 (by decide) ?_
          refine lv_goto (tgt := 269) hx hb dX9_step_265 (by decide) ?_
          exact J269_20 1 ls _ ⟨rfl, lv_sub hl [0, 1, 2, 3, 4, 5] rfl, Or.inr rfl⟩
      refine lv_if_eq (tgt := 252) hx hb dX9_step_150 (by decide) (fun c_119 => ?_) (fun c_119 => ?_)
      · exact J252_16 ((-3), v_10) ls _ ⟨rfl, lv_sub hl [2, 3, 4, 5, 1, 0] rfl⟩
      · refine lv_aload_n hx hb dX9_step_153 rfl (lv_at hl 2 rfl) ?_
        refine lv_iload_n hx hb dX9_step_154 rfl (lv_at hl 3 rfl) ?_
        refine lv_iload_n hx hb dX9_step_155 rfl (lv_at hl 4 rfl) ?_
        refine lv_aload_n hx hb dX9_step_156 rfl (lv_at hl 2 rfl) ?_
        refine yget (ci := 9) (k := 47) (v := .ref (S.2.2.1 h0 47)) (C := RX9) (T := TX9) (N := 67) C0 hK hP hm_h0 hk_h0 (by decide) rfl inlX9 (by decide) mW152 (fun _ h9 => h9) rfl dX9_step_157 ?_
        obtain ⟨hmy_120, hky_120⟩ := ySh.f9_47 hSh _ hm_h0 hk_h0
        refine lv_iload_n hx hb dX9_step_160 rfl (lv_at hl 3 rfl) ?_
        have F_121 := fne (rfl : (r_14 : Int32).toInt = (r_14 : Int32).toInt) (by decide +kernel : (0 : Int32).toInt = 0) c_119
        refine yald C0 hK hP hmy_120 hky_120 (by decide) rfl 0 rfl (xinT 8 rfl (by omega) (by omega)) dX9_step_161 ?_
        refine lv_topi (fun z_122 ez_122 => ?_)
        refine lv_aload_n hx hb dX9_step_162 rfl (lv_at hl 2 rfl) ?_
        refine yget (ci := 9) (k := 58) (v := .long (d_2.2.1 h0 58)) (C := RX9) (T := TX9) (N := 67) C0 hK hP hm_h0 hk_h0 (by decide) rfl inlX9 (by decide) mW873 (fun _ h9 => h9) rfl dX9_step_163 ?_
        refine lv_topl (fun z_123 ez_123 => ?_)
        refine lv_aload_n hx hb dX9_step_166 rfl (lv_at hl 2 rfl) ?_
        refine yget (ci := 9) (k := 59) (v := .long (d_2.2.1 h0 59)) (C := RX9) (T := TX9) (N := 67) C0 hK hP hm_h0 hk_h0 (by decide) rfl inlX9 (by decide) mW874 (fun _ h9 => h9) rfl dX9_step_167 ?_
        refine lv_topl (fun z_124 ez_124 => ?_)
        refine W.lcmp hx hb dX9_step_170 ?_
        refine lv_topi (fun z_125 ez_125 => ?_)
        refine yjoinR (σ := Int32) 179 (fun x ls st => st = [.int x, .int z_122, .int p1, .int p0, .ref h0] ∧ lv_has ls 12 [(0, .ref h0), (1, .int p0), (2, .int p1), (3, .long p2), (6, .int p4), (7, .int p5), (8, .int p6)] ∧ (x = 0 ∨ x = 1)) (fun x ls st hI => ?_) (fun J179_126 => ?_)
        · obtain ⟨v_126, rfl⟩ : ∃ z, z = x := ⟨_, rfl⟩
          obtain ⟨rfl, hl, hzv_126⟩ := hI
          have hl : lv_has ls 12 [(0, .ref h0), (1, .int p0), (2, .int p1), (3, .long p2), (6, .int p4), (7, .int p5), (8, .int p6)] := hl
          refine lv_iload hx hb dX9_step_179 (lv_at hl 4 rfl) ?_
          refine lv_iload hx hb dX9_step_181 (lv_at hl 5 rfl) ?_
          refine lv_iload hx hb dX9_step_183 (lv_at hl 6 rfl) ?_
          refine yVri (As := [.int p0, .int p1, .int z_122, .int v_126, .int p4, .int p5, .int p6]) (rest := []) C0 (g_X9_teller l G S d_2 h0 p0 p1 z_122 v_126 p4 p5 p6 hSh hm_h0 hk_h0 hId_2 (by refine ⟨?_, ?_⟩ <;> omega) (by refine ⟨?_, ?_⟩ <;> omega) (by refine ⟨?_, ?_⟩ <;> omega)) ok_X9_teller (mW889 : Cond.methodLink RX9 298 yX9_teller ∈ wsT) ⟨Nat.le_of_ble_eq_true rfl, Nat.le_of_ble_eq_true rfl⟩ hP hD hK hN hm_h0 hk_h0 (by decide) rfl rfl rfl hl.1 rfl (Nat.le_of_ble_eq_true rfl) ⟨Nat.le_of_ble_eq_true rfl, Nat.le_of_ble_eq_true rfl⟩ dX9_step_185 (fun r_127 hr_127 => ?_)
          refine lv_istore (lv' := [(9, .int r_127), (0, .ref h0), (1, .int p0), (2, .int p1), (3, .long p2), (6, .int p4), (7, .int p5), (8, .int p6)]) hx hb dX9_step_188 hl (by decide) rfl (fun ls hl => ?_)
          refine lv_aload_n hx hb dX9_step_190 rfl (lv_at hl 1 rfl) ?_
          refine lv_iload_n hx hb dX9_step_191 rfl (lv_at hl 2 rfl) ?_
          refine lv_iconst (v := 1) hx hb dX9_step_192 (by decide) ?_
          refine yVri (As := [.int p0, .int 1]) (rest := []) C0 (g_X9_of l G S d_2 h0 p0 1 hSh hm_h0 hk_h0 (by refine ⟨?_, ?_⟩ <;> omega) (by decide +kernel)) ok_X9_of (mW425 : Cond.methodLink RX9 161 yX9_of ∈ wsT) ⟨Nat.le_of_ble_eq_true rfl, Nat.le_of_ble_eq_true rfl⟩ hP hD hK hN hm_h0 hk_h0 (by decide) rfl rfl rfl hl.1 rfl (Nat.le_of_ble_eq_true rfl) ⟨Nat.le_of_ble_eq_true rfl, Nat.le_of_ble_eq_true rfl⟩ dX9_step_193 (fun r_128 hr_128 => ?_)
          have hOr_128 : (r_128 : Int32).toInt = yOf S d_2 h0 (p0 : Int32).toInt.toNat 1 := by rw [hr_128, show (1 : Int32).toInt.toNat = 1 by decide +kernel]; rfl
          have hbr_128 := xof1 hId_2 (p := p0) (by refine ⟨?_, ?_⟩ <;> omega) hr_128
          refine lv_iload hx hb dX9_step_196 (lv_at hl 7 rfl) ?_
          refine lv_icmp_ne (tgt := 213) hx hb dX9_step_198 (by decide) (fun c_129 => ?_) (fun c_129 => ?_)
          · refine lv_iload hx hb dX9_step_213 (lv_at hl 0 rfl) ?_
            refine lv_istore (lv' := [(11, .int r_127), (9, .int r_127), (0, .ref h0), (1, .int p0), (2, .int p1), (3, .long p2), (6, .int p4), (7, .int p5), (8, .int p6)]) hx hb dX9_step_215 hl (by decide) rfl (fun ls hl => ?_)
            refine lv_iload hx hb dX9_step_217 (lv_at hl 1 rfl) ?_
            refine lv_bipush (v := (-2)) hx hb dX9_step_219 (by decide) ?_
            refine lv_icmp_ne (tgt := 228) hx hb dX9_step_221 (by decide) (fun c_130 => ?_) (fun c_130 => ?_)
            · refine lv_aload_n hx hb dX9_step_228 rfl (lv_at hl 2 rfl) ?_
              refine lv_bipush (v := 60) hx hb dX9_step_229 (by decide) ?_
              refine lv_aload_n hx hb dX9_step_231 rfl (lv_at hl 2 rfl) ?_
              refine lv_iload_n hx hb dX9_step_232 rfl (lv_at hl 3 rfl) ?_
              refine lv_iconst (v := 1) hx hb dX9_step_233 (by decide) ?_
              have F_131 := fne (rfl : (r_128 : Int32).toInt = (r_128 : Int32).toInt) (rfl : (p6 : Int32).toInt = (p6 : Int32).toInt) c_129
              have F_132 := fne (rfl : (r_127 : Int32).toInt = (r_127 : Int32).toInt) (by decide +kernel : ((-2) : Int32).toInt = (-2)) c_130
              refine yVri (As := [.int p0, .int 1]) (rest := [.int 60, .ref h0]) C0 (g_X9_of l G S d_2 h0 p0 1 hSh hm_h0 hk_h0 (by refine ⟨?_, ?_⟩ <;> omega) (by decide +kernel)) ok_X9_of (mW425 : Cond.methodLink RX9 161 yX9_of ∈ wsT) ⟨Nat.le_of_ble_eq_true rfl, Nat.le_of_ble_eq_true rfl⟩ hP hD hK hN hm_h0 hk_h0 (by decide) rfl rfl rfl hl.1 rfl (Nat.le_of_ble_eq_true rfl) ⟨Nat.le_of_ble_eq_true rfl, Nat.le_of_ble_eq_true rfl⟩ dX9_step_234 (fun r_133 hr_133 => ?_)
              have hOr_133 : (r_133 : Int32).toInt = yOf S d_2 h0 (p0 : Int32).toInt.toNat 1 := by rw [hr_133, show (1 : Int32).toInt.toNat = 1 by decide +kernel]; rfl
              have hbr_133 := xof1 hId_2 (p := p0) (by refine ⟨?_, ?_⟩ <;> omega) hr_133
              refine lv_imul hx hb dX9_step_237 ?_
              refine lv_topi (fun z_134 ez_134 => ?_)
              refine lv_iload hx hb dX9_step_238 (lv_at hl 0 rfl) ?_
              refine lv_iadd hx hb dX9_step_240 ?_
              refine lv_topi (fun z_135 ez_135 => ?_)
              refine lv_aload_n hx hb dX9_step_241 rfl (lv_at hl 2 rfl) ?_
              refine yget (ci := 9) (k := 47) (v := .ref (S.2.2.1 h0 47)) (C := RX9) (T := TX9) (N := 67) C0 hK hP hm_h0 hk_h0 (by decide) rfl inlX9 (by decide) mW152 (fun _ h9 => h9) rfl dX9_step_242 ?_
              refine lv_iload_n hx hb dX9_step_245 rfl (lv_at hl 3 rfl) ?_
              refine yald C0 hK hP hmy_120 hky_120 (by decide) rfl 0 rfl (xinT 8 rfl (by omega) (by omega)) dX9_step_246 ?_
              rw [← ez_122]
              have T_137 : (z_134 : Int32).toInt = 60 * (r_133 : Int32).toInt := tmul ez_134 (by decide +kernel : (60 : Int32).toInt = 60) (rfl : (r_133 : Int32).toInt = (r_133 : Int32).toInt) (by omega) (by omega)
              have T_136 : (z_135 : Int32).toInt = (z_134 : Int32).toInt + (r_127 : Int32).toInt := tadd ez_135 (rfl : (z_134 : Int32).toInt = (z_134 : Int32).toInt) (rfl : (r_127 : Int32).toInt = (r_127 : Int32).toInt) (by omega) (by omega)
              refine yVri (As := [.int z_135, .int z_122]) (rest := []) C0 (g_X9_adds l G S d_2 h0 z_135 z_122 hSh hm_h0 hk_h0 (by refine ⟨?_, ?_⟩ <;> omega)) ok_X9_adds (mW901 : Cond.methodLink RX9 302 yX9_adds ∈ wsT) ⟨Nat.le_of_ble_eq_true rfl, Nat.le_of_ble_eq_true rfl⟩ hP hD hK hN hm_h0 hk_h0 (by decide) rfl rfl rfl hl.1 rfl (Nat.le_of_ble_eq_true rfl) ⟨Nat.le_of_ble_eq_true rfl, Nat.le_of_ble_eq_true rfl⟩ dX9_step_247 (fun r_138 hr_138 => ?_)
              refine lv_istore (lv' := [(10, .int r_138), (11, .int r_127), (9, .int r_127), (0, .ref h0), (1, .int p0), (2, .int p1), (3, .long p2), (6, .int p4), (7, .int p5), (8, .int p6)]) hx hb dX9_step_250 hl (by decide) rfl (fun ls hl => ?_)
              exact J252_16 (r_127, r_138) ls _ ⟨rfl, lv_sub hl [3, 4, 5, 6, 2, 0] rfl⟩
            · refine lv_iconst (v := 2) hx hb dX9_step_224 (by decide) ?_
              refine lv_goto (tgt := 250) hx hb dX9_step_225 (by decide) ?_
              refine lv_istore (lv' := [(10, .int 2), (11, .int r_127), (9, .int r_127), (0, .ref h0), (1, .int p0), (2, .int p1), (3, .long p2), (6, .int p4), (7, .int p5), (8, .int p6)]) hx hb dX9_step_250 hl (by decide) rfl (fun ls hl => ?_)
              exact J252_16 (r_127, 2) ls _ ⟨rfl, lv_sub hl [3, 4, 5, 6, 2, 0] rfl⟩
          · refine lv_iload hx hb dX9_step_201 (lv_at hl 0 rfl) ?_
            refine lv_iload hx hb dX9_step_203 (lv_at hl 5 rfl) ?_
            refine lv_icmp_ne (tgt := 213) hx hb dX9_step_205 (by decide) (fun c_139 => ?_) (fun c_139 => ?_)
            · refine lv_iload hx hb dX9_step_213 (lv_at hl 0 rfl) ?_
              refine lv_istore (lv' := [(11, .int r_127), (9, .int r_127), (0, .ref h0), (1, .int p0), (2, .int p1), (3, .long p2), (6, .int p4), (7, .int p5), (8, .int p6)]) hx hb dX9_step_215 hl (by decide) rfl (fun ls hl => ?_)
              refine lv_iload hx hb dX9_step_217 (lv_at hl 1 rfl) ?_
              refine lv_bipush (v := (-2)) hx hb dX9_step_219 (by decide) ?_
              refine lv_icmp_ne (tgt := 228) hx hb dX9_step_221 (by decide) (fun c_140 => ?_) (fun c_140 => ?_)
              · refine lv_aload_n hx hb dX9_step_228 rfl (lv_at hl 2 rfl) ?_
                refine lv_bipush (v := 60) hx hb dX9_step_229 (by decide) ?_
                refine lv_aload_n hx hb dX9_step_231 rfl (lv_at hl 2 rfl) ?_
                refine lv_iload_n hx hb dX9_step_232 rfl (lv_at hl 3 rfl) ?_
                refine lv_iconst (v := 1) hx hb dX9_step_233 (by decide) ?_
                have F_141 := feq (rfl : (r_128 : Int32).toInt = (r_128 : Int32).toInt) (rfl : (p6 : Int32).toInt = (p6 : Int32).toInt) c_129
                have F_142 := fne (rfl : (r_127 : Int32).toInt = (r_127 : Int32).toInt) (rfl : (p4 : Int32).toInt = (p4 : Int32).toInt) c_139
                have F_143 := fne (rfl : (r_127 : Int32).toInt = (r_127 : Int32).toInt) (by decide +kernel : ((-2) : Int32).toInt = (-2)) c_140
                refine yVri (As := [.int p0, .int 1]) (rest := [.int 60, .ref h0]) C0 (g_X9_of l G S d_2 h0 p0 1 hSh hm_h0 hk_h0 (by refine ⟨?_, ?_⟩ <;> omega) (by decide +kernel)) ok_X9_of (mW425 : Cond.methodLink RX9 161 yX9_of ∈ wsT) ⟨Nat.le_of_ble_eq_true rfl, Nat.le_of_ble_eq_true rfl⟩ hP hD hK hN hm_h0 hk_h0 (by decide) rfl rfl rfl hl.1 rfl (Nat.le_of_ble_eq_true rfl) ⟨Nat.le_of_ble_eq_true rfl, Nat.le_of_ble_eq_true rfl⟩ dX9_step_234 (fun r_144 hr_144 => ?_)
                have hOr_144 : (r_144 : Int32).toInt = yOf S d_2 h0 (p0 : Int32).toInt.toNat 1 := by rw [hr_144, show (1 : Int32).toInt.toNat = 1 by decide +kernel]; rfl
                have hbr_144 := xof1 hId_2 (p := p0) (by refine ⟨?_, ?_⟩ <;> omega) hr_144
                refine lv_imul hx hb dX9_step_237 ?_
                refine lv_topi (fun z_145 ez_145 => ?_)
                refine lv_iload hx hb dX9_step_238 (lv_at hl 0 rfl) ?_
                refine lv_iadd hx hb dX9_step_240 ?_
                refine lv_topi (fun z_146 ez_146 => ?_)
                refine lv_aload_n hx hb dX9_step_241 rfl (lv_at hl 2 rfl) ?_
                refine yget (ci := 9) (k := 47) (v := .ref (S.2.2.1 h0 47)) (C := RX9) (T := TX9) (N := 67) C0 hK hP hm_h0 hk_h0 (by decide) rfl inlX9 (by decide) mW152 (fun _ h9 => h9) rfl dX9_step_242 ?_
                refine lv_iload_n hx hb dX9_step_245 rfl (lv_at hl 3 rfl) ?_
                refine yald C0 hK hP hmy_120 hky_120 (by decide) rfl 0 rfl (xinT 8 rfl (by omega) (by omega)) dX9_step_246 ?_
                rw [← ez_122]
                have T_148 : (z_145 : Int32).toInt = 60 * (r_144 : Int32).toInt := tmul ez_145 (by decide +kernel : (60 : Int32).toInt = 60) (rfl : (r_144 : Int32).toInt = (r_144 : Int32).toInt) (by omega) (by omega)
                have T_147 : (z_146 : Int32).toInt = (z_145 : Int32).toInt + (r_127 : Int32).toInt := tadd ez_146 (rfl : (z_145 : Int32).toInt = (z_145 : Int32).toInt) (rfl : (r_127 : Int32).toInt = (r_127 : Int32).toInt) (by omega) (by omega)
                refine yVri (As := [.int z_146, .int z_122]) (rest := []) C0 (g_X9_adds l G S d_2 h0 z_146 z_122 hSh hm_h0 hk_h0 (by refine ⟨?_, ?_⟩ <;> omega)) ok_X9_adds (mW901 : Cond.methodLink RX9 302 yX9_adds ∈ wsT) ⟨Nat.le_of_ble_eq_true rfl, Nat.le_of_ble_eq_true rfl⟩ hP hD hK hN hm_h0 hk_h0 (by decide) rfl rfl rfl hl.1 rfl (Nat.le_of_ble_eq_true rfl) ⟨Nat.le_of_ble_eq_true rfl, Nat.le_of_ble_eq_true rfl⟩ dX9_step_247 (fun r_149 hr_149 => ?_)
                refine lv_istore (lv' := [(10, .int r_149), (11, .int r_127), (9, .int r_127), (0, .ref h0), (1, .int p0), (2, .int p1), (3, .long p2), (6, .int p4), (7, .int p5), (8, .int p6)]) hx hb dX9_step_250 hl (by decide) rfl (fun ls hl => ?_)
                exact J252_16 (r_127, r_149) ls _ ⟨rfl, lv_sub hl [3, 4, 5, 6, 2, 0] rfl⟩
              · refine lv_iconst (v := 2) hx hb dX9_step_224 (by decide) ?_
                refine lv_goto (tgt := 250) hx hb dX9_step_225 (by decide) ?_
                refine lv_istore (lv' := [(10, .int 2), (11, .int r_127), (9, .int r_127), (0, .ref h0), (1, .int p0), (2, .int p1), (3, .long p2), (6, .int p4), (7, .int p5), (8, .int p6)]) hx hb dX9_step_250 hl (by decide) rfl (fun ls hl => ?_)
                exact J252_16 (r_127, 2) ls _ ⟨rfl, lv_sub hl [3, 4, 5, 6, 2, 0] rfl⟩
            · refine lv_iload hx hb dX9_step_208 (lv_at hl 6 rfl) ?_
              refine lv_goto (tgt := 215) hx hb dX9_step_210 (by decide) ?_
              refine lv_istore (lv' := [(11, .int p5), (9, .int r_127), (0, .ref h0), (1, .int p0), (2, .int p1), (3, .long p2), (6, .int p4), (7, .int p5), (8, .int p6)]) hx hb dX9_step_215 hl (by decide) rfl (fun ls hl => ?_)
              refine lv_iload hx hb dX9_step_217 (lv_at hl 1 rfl) ?_
              refine lv_bipush (v := (-2)) hx hb dX9_step_219 (by decide) ?_
              refine lv_icmp_ne (tgt := 228) hx hb dX9_step_221 (by decide) (fun c_150 => ?_) (fun c_150 => ?_)
              · refine lv_aload_n hx hb dX9_step_228 rfl (lv_at hl 2 rfl) ?_
                refine lv_bipush (v := 60) hx hb dX9_step_229 (by decide) ?_
                refine lv_aload_n hx hb dX9_step_231 rfl (lv_at hl 2 rfl) ?_
                refine lv_iload_n hx hb dX9_step_232 rfl (lv_at hl 3 rfl) ?_
                refine lv_iconst (v := 1) hx hb dX9_step_233 (by decide) ?_
                have F_151 := feq (rfl : (r_128 : Int32).toInt = (r_128 : Int32).toInt) (rfl : (p6 : Int32).toInt = (p6 : Int32).toInt) c_129
                have F_152 := feq (rfl : (r_127 : Int32).toInt = (r_127 : Int32).toInt) (rfl : (p4 : Int32).toInt = (p4 : Int32).toInt) c_139
                have F_153 := fne (rfl : (r_127 : Int32).toInt = (r_127 : Int32).toInt) (by decide +kernel : ((-2) : Int32).toInt = (-2)) c_150
                refine yVri (As := [.int p0, .int 1]) (rest := [.int 60, .ref h0]) C0 (g_X9_of l G S d_2 h0 p0 1 hSh hm_h0 hk_h0 (by refine ⟨?_, ?_⟩ <;> omega) (by decide +kernel)) ok_X9_of (mW425 : Cond.methodLink RX9 161 yX9_of ∈ wsT) ⟨Nat.le_of_ble_eq_true rfl, Nat.le_of_ble_eq_true rfl⟩ hP hD hK hN hm_h0 hk_h0 (by decide) rfl rfl rfl hl.1 rfl (Nat.le_of_ble_eq_true rfl) ⟨Nat.le_of_ble_eq_true rfl, Nat.le_of_ble_eq_true rfl⟩ dX9_step_234 (fun r_154 hr_154 => ?_)
                have hOr_154 : (r_154 : Int32).toInt = yOf S d_2 h0 (p0 : Int32).toInt.toNat 1 := by rw [hr_154, show (1 : Int32).toInt.toNat = 1 by decide +kernel]; rfl
                have hbr_154 := xof1 hId_2 (p := p0) (by refine ⟨?_, ?_⟩ <;> omega) hr_154
                refine lv_imul hx hb dX9_step_237 ?_
                refine lv_topi (fun z_155 ez_155 => ?_)
                refine lv_iload hx hb dX9_step_238 (lv_at hl 0 rfl) ?_
                refine lv_iadd hx hb dX9_step_240 ?_
                refine lv_topi (fun z_156 ez_156 => ?_)
                refine lv_aload_n hx hb dX9_step_241 rfl (lv_at hl 2 rfl) ?_
                refine yget (ci := 9) (k := 47) (v := .ref (S.2.2.1 h0 47)) (C := RX9) (T := TX9) (N := 67) C0 hK hP hm_h0 hk_h0 (by decide) rfl inlX9 (by decide) mW152 (fun _ h9 => h9) rfl dX9_step_242 ?_
                refine lv_iload_n hx hb dX9_step_245 rfl (lv_at hl 3 rfl) ?_
                refine yald C0 hK hP hmy_120 hky_120 (by decide) rfl 0 rfl (xinT 8 rfl (by omega) (by omega)) dX9_step_246 ?_
                rw [← ez_122]
                have T_158 : (z_155 : Int32).toInt = 60 * (r_154 : Int32).toInt := tmul ez_155 (by decide +kernel : (60 : Int32).toInt = 60) (rfl : (r_154 : Int32).toInt = (r_154 : Int32).toInt) (by omega) (by omega)
                have T_157 : (z_156 : Int32).toInt = (z_155 : Int32).toInt + (p5 : Int32).toInt := tadd ez_156 (rfl : (z_155 : Int32).toInt = (z_155 : Int32).toInt) (rfl : (p5 : Int32).toInt = (p5 : Int32).toInt) (by omega) (by omega)
                refine yVri (As := [.int z_156, .int z_122]) (rest := []) C0 (g_X9_adds l G S d_2 h0 z_156 z_122 hSh hm_h0 hk_h0 (by refine ⟨?_, ?_⟩ <;> omega)) ok_X9_adds (mW901 : Cond.methodLink RX9 302 yX9_adds ∈ wsT) ⟨Nat.le_of_ble_eq_true rfl, Nat.le_of_ble_eq_true rfl⟩ hP hD hK hN hm_h0 hk_h0 (by decide) rfl rfl rfl hl.1 rfl (Nat.le_of_ble_eq_true rfl) ⟨Nat.le_of_ble_eq_true rfl, Nat.le_of_ble_eq_true rfl⟩ dX9_step_247 (fun r_159 hr_159 => ?_)
                refine lv_istore (lv' := [(10, .int r_159), (11, .int p5), (9, .int r_127), (0, .ref h0), (1, .int p0), (2, .int p1), (3, .long p2), (6, .int p4), (7, .int p5), (8, .int p6)]) hx hb dX9_step_250 hl (by decide) rfl (fun ls hl => ?_)
                exact J252_16 (r_127, r_159) ls _ ⟨rfl, lv_sub hl [3, 4, 5, 6, 2, 0] rfl⟩
              · refine lv_iconst (v := 2) hx hb dX9_step_224 (by decide) ?_
                refine lv_goto (tgt := 250) hx hb dX9_step_225 (by decide) ?_
                refine lv_istore (lv' := [(10, .int 2), (11, .int p5), (9, .int r_127), (0, .ref h0), (1, .int p0), (2, .int p1), (3, .long p2), (6, .int p4), (7, .int p5), (8, .int p6)]) hx hb dX9_step_250 hl (by decide) rfl (fun ls hl => ?_)
                exact J252_16 (r_127, 2) ls _ ⟨rfl, lv_sub hl [3, 4, 5, 6, 2, 0] rfl⟩
        refine lv_if_lt (tgt := 178) hx hb dX9_step_171 (by decide) (fun c_160 => ?_) (fun c_160 => ?_)
        · refine lv_iconst (v := 0) hx hb dX9_step_178 (by decide) ?_
          exact J179_126 0 ls _ ⟨rfl, lv_sub hl [2, 3, 4, 5, 6, 7, 8] rfl, Or.inl rfl⟩
        · refine lv_iconst (v := 1) hx hb dX9_step_174 (by decide) ?_
          refine lv_goto (tgt := 179) hx hb dX9_step_175 (by decide) ?_
          exact J179_126 1 ls _ ⟨rfl, lv_sub hl [2, 3, 4, 5, 6, 7, 8] rfl, Or.inr rfl⟩
    refine lv_if_eq (tgt := 141) hx hb dX9_step_134 (by decide) (fun c_161 => ?_) (fun c_161 => ?_)
    · refine lv_iconst (v := 0) hx hb dX9_step_141 (by decide) ?_
      exact J142_10 0 ls _ ⟨rfl, lv_sub hl [0, 1, 2, 3, 4, 6, 7, 8] rfl⟩
    · refine lv_iconst (v := 2) hx hb dX9_step_137 (by decide) ?_
      refine lv_goto (tgt := 142) hx hb dX9_step_138 (by decide) ?_
      exact J142_10 2 ls _ ⟨rfl, lv_sub hl [0, 1, 2, 3, 4, 6, 7, 8] rfl⟩
  · refine lv_aload_n hx hb dX9_step_13 rfl (lv_at hl 0 rfl) ?_
    refine yget (ci := 9) (k := 15) (v := .ref (S.2.2.1 h0 15)) (C := RX9) (T := TX9) (N := 67) C0 hK hP hm_h0 hk_h0 (by decide) rfl inlX9 (by decide) mW122 (fun _ h9 => h9) rfl dX9_step_14 ?_
    obtain ⟨hmy_162, hky_162⟩ := ySh.f9_15 hSh _ hm_h0 hk_h0
    refine lv_aload_n hx hb dX9_step_17 rfl (lv_at hl 0 rfl) ?_
    refine yget (ci := 9) (k := 48) (v := .ref (S.2.2.1 h0 48)) (C := RX9) (T := TX9) (N := 67) C0 hK hP hm_h0 hk_h0 (by decide) rfl inlX9 (by decide) mW153 (fun _ h9 => h9) rfl dX9_step_18 ?_
    refine lv_iload_n hx hb dX9_step_21 rfl (lv_at hl 1 rfl) ?_
    have T_164 : (z_8 : Int32).toInt = (d_2.1 h0 1).toInt := by rw [ez_8]
    have F_165 := fnle (rfl : (z_8 : Int32).toInt = (z_8 : Int32).toInt) (rfl : (z_7 : Int32).toInt = (z_7 : Int32).toInt) c_9
    refine yald C0 hK hP hmy_5 hky_5 (by decide) rfl 0 rfl (xinT 8 rfl (by omega) (by omega)) dX9_step_22 ?_
    rw [← ez_7]
    have hvz_7 : 0 ≤ (z_7 : Int32).toInt ∧ (z_7 : Int32).toInt ≤ 5000 := by rw [ez_7]; exact yMI.ne_ hId_2 _
    refine yaldB C0 hK hP hmy_162 hky_162 (by decide) rfl 1 rfl (xinT 5000 rfl (by omega) (by omega)) dX9_step_23 ?_
    refine lv_topi (fun z_166 ez_166 => ?_)
    refine lv_iload_n hx hb dX9_step_24 rfl (lv_at hl 1 rfl) ?_
    refine lv_icmp_lt (tgt := 58) hx hb dX9_step_25 (by decide) (fun c_167 => ?_) (fun c_167 => ?_)
    · refine lv_aload_n hx hb dX9_step_58 rfl (lv_at hl 0 rfl) ?_
      refine yget (ci := 9) (k := 48) (v := .ref (S.2.2.1 h0 48)) (C := RX9) (T := TX9) (N := 67) C0 hK hP hm_h0 hk_h0 (by decide) rfl inlX9 (by decide) mW153 (fun _ h9 => h9) rfl dX9_step_59 ?_
      refine lv_iload_n hx hb dX9_step_62 rfl (lv_at hl 1 rfl) ?_
      have F_169 := flt (rfl : (z_166 : Int32).toInt = (z_166 : Int32).toInt) (rfl : (p0 : Int32).toInt = (p0 : Int32).toInt) c_167
      refine yald C0 hK hP hmy_5 hky_5 (by decide) rfl 0 rfl (xinT 8 rfl (by omega) (by omega)) dX9_step_63 ?_
      rw [← ez_7]
      have hvz_7 : 0 ≤ (z_7 : Int32).toInt ∧ (z_7 : Int32).toInt ≤ 5000 := by rw [ez_7]; exact yMI.ne_ hId_2 _
      refine lv_istore (lv' := [(9, .int z_7), (0, .ref h0), (1, .int p0), (2, .int p1), (3, .long p2), (5, .int p3), (6, .int p4), (7, .int p5), (8, .int p6)]) hx hb dX9_step_64 hl (by decide) rfl (fun ls hl => ?_)
      refine lv_aload_n hx hb dX9_step_66 rfl (lv_at hl 1 rfl) ?_
      refine yget (ci := 9) (k := 15) (v := .ref (S.2.2.1 h0 15)) (C := RX9) (T := TX9) (N := 67) C0 hK hP hm_h0 hk_h0 (by decide) rfl inlX9 (by decide) mW122 (fun _ h9 => h9) rfl dX9_step_67 ?_
      refine lv_iload hx hb dX9_step_70 (lv_at hl 0 rfl) ?_
      refine yaldB C0 hK hP hmy_162 hky_162 (by decide) rfl 1 rfl (xinT 5000 rfl (by omega) (by omega)) dX9_step_72 ?_
      rw [← ez_166]
      refine lv_iload_n hx hb dX9_step_73 rfl (lv_at hl 2 rfl) ?_
      refine lv_icmp_ne (tgt := 115) hx hb dX9_step_74 (by decide) (fun c_170 => ?_) (fun c_170 => ?_)
      · refine lv_aload_n hx hb dX9_step_115 rfl (lv_at hl 1 rfl) ?_
        refine yget (ci := 9) (k := 48) (v := .ref (S.2.2.1 h0 48)) (C := RX9) (T := TX9) (N := 67) C0 hK hP hm_h0 hk_h0 (by decide) rfl inlX9 (by decide) mW153 (fun _ h9 => h9) rfl dX9_step_116 ?_
        refine lv_iload_n hx hb dX9_step_119 rfl (lv_at hl 2 rfl) ?_
        refine lv_dup2_11 hx hb dX9_step_120 rfl rfl ?_
        have F_171 := fne (rfl : (z_166 : Int32).toInt = (z_166 : Int32).toInt) (rfl : (p0 : Int32).toInt = (p0 : Int32).toInt) c_170
        refine yald C0 hK hP hmy_5 hky_5 (by decide) rfl 0 rfl (xinT 8 rfl (by omega) (by omega)) dX9_step_121 ?_
        rw [← ez_7]
        have hvz_7 : 0 ≤ (z_7 : Int32).toInt ∧ (z_7 : Int32).toInt ≤ 5000 := by rw [ez_7]; exact yMI.ne_ hId_2 _
        refine lv_iconst (v := 1) hx hb dX9_step_122 (by decide) ?_
        refine lv_iadd hx hb dX9_step_123 ?_
        refine lv_topi (fun z_172 ez_172 => ?_)
        refine yast C0 hK hP hD hS hmy_5 hky_5 (by decide) rfl 0 rfl (xinT 8 rfl (by omega) (by omega)) dX9_step_124 (fun H locs hP hD hS => ?_)
        obtain ⟨d_173, ed_173⟩ : ∃ z : yD, z = ycs d_2 (S.2.2.1 h0 48) (upd (d_2.2.2.2.1 (S.2.2.1 h0 48)) (p0 : Int32).toNatClampNeg z_172) := ⟨_, rfl⟩
        rw [← ed_173] at hP hD
        have hgd_173 : yAg S [9, 77, 78] d d_173 := by rw [ed_173]; exact yAg.cs hgd_2 (by rw [hky_5]; decide)
        have hsd_173 : yAg S [78] d_2 d_173 := by rw [ed_173]; exact yAg.cs yAg.rf (by rw [hky_5]; decide)
        have hPod_173 : yPo S d_173 := by rw [ed_173]; exact hPod_2
        have hfd_173 : yK [54, 55, 57, 63, 64, 65] d d_173 h0 := yK.ag hfd_2 (show yAg S [78] d_2 d_173 from by rw [ed_173]; exact yAg.cs yAg.rf (by rw [hky_5]; decide)) (by rw [hk_h0]; decide)
        have hL0d_173 : yAg S [77, 78] d d_173 := by rw [ed_173]; exact yAg.cs hLJd_2 (by rw [hky_5]; decide)
        have hK0d_173 : yK [] d d_173 h0 := yK.ag hKJd_2 (show yAg S [78] d_2 d_173 from by rw [ed_173]; exact yAg.cs yAg.rf (by rw [hky_5]; decide)) (by rw [hk_h0]; decide)
        have T_174 : (z_172 : Int32).toInt = (z_7 : Int32).toInt + 1 := tadd ez_172 (rfl : (z_7 : Int32).toInt = (z_7 : Int32).toInt) (by decide +kernel : (1 : Int32).toInt = 1) (by omega) (by omega)
        have hId_173 : yMI S d_173 h0 := by rw [ed_173]; exact yMI.w48 hId_2 hSh hm_h0 hk_h0 (yBr.up (yMI.ne_ hId_2) ⟨by omega, by omega⟩)
        have hE0d_173 : (d_173.1 h0 0).toInt = (d_2.1 h0 0).toInt := congrArg Int32.toInt ((yK.ag (F := []) yK.rf (show yAg S [78] d_2 d_173 from by rw [ed_173]; exact yAg.cs yAg.rf (by rw [hky_5]; decide)) (by rw [hk_h0]; decide)) 0 (by decide))
        have hE1d_173 : (d_173.1 h0 1).toInt = (d_2.1 h0 1).toInt := congrArg Int32.toInt ((yK.ag (F := []) yK.rf (show yAg S [78] d_2 d_173 from by rw [ed_173]; exact yAg.cs yAg.rf (by rw [hky_5]; decide)) (by rw [hk_h0]; decide)) 1 (by decide))
        have hE2d_173 : (d_173.1 h0 2).toInt = (d_2.1 h0 2).toInt := congrArg Int32.toInt ((yK.ag (F := []) yK.rf (show yAg S [78] d_2 d_173 from by rw [ed_173]; exact yAg.cs yAg.rf (by rw [hky_5]; decide)) (by rw [hk_h0]; decide)) 2 (by decide))
        have hE3d_173 : (d_173.1 h0 3).toInt = (d_2.1 h0 3).toInt := congrArg Int32.toInt ((yK.ag (F := []) yK.rf (show yAg S [78] d_2 d_173 from by rw [ed_173]; exact yAg.cs yAg.rf (by rw [hky_5]; decide)) (by rw [hk_h0]; decide)) 3 (by decide))
        have hE63d_173 : (d_173.1 h0 63).toInt = (d_2.1 h0 63).toInt := congrArg Int32.toInt ((yK.ag (F := []) yK.rf (show yAg S [78] d_2 d_173 from by rw [ed_173]; exact yAg.cs yAg.rf (by rw [hky_5]; decide)) (by rw [hk_h0]; decide)) 63 (by decide))
        refine lv_goto (tgt := 0) hx hb dX9_step_125 (by decide) ?_
        have hCC_175 := yMI.c hId_173
        exact hnext_3 d_173 _ _ ls ((xnext ed_173 ez_172 ez_7 (rfl) ez_7 hvz_7)) ⟨hP, hD, hS, hgd_173, hPod_173, hfd_173, hId_173, hL0d_173, hK0d_173, trivial, lv_sub hl [1, 2, 3, 4, 5, 6, 7, 8] rfl⟩
      · refine lv_aload_n hx hb dX9_step_77 rfl (lv_at hl 1 rfl) ?_
        refine yget (ci := 9) (k := 17) (v := .ref (S.2.2.1 h0 17)) (C := RX9) (T := TX9) (N := 67) C0 hK hP hm_h0 hk_h0 (by decide) rfl inlX9 (by decide) mW124 (fun _ h9 => h9) rfl dX9_step_78 ?_
        obtain ⟨hmy_176, hky_176⟩ := ySh.f9_17 hSh _ hm_h0 hk_h0
        refine lv_iload hx hb dX9_step_81 (lv_at hl 0 rfl) ?_
        have F_177 := feq (rfl : (z_166 : Int32).toInt = (z_166 : Int32).toInt) (rfl : (p0 : Int32).toInt = (p0 : Int32).toInt) c_170
        refine yaldB C0 hK hP hmy_176 hky_176 (by decide) rfl 1 rfl (xinT 5000 rfl (by omega) (by omega)) dX9_step_83 ?_
        refine lv_topi (fun z_178 ez_178 => ?_)
        refine lv_iconst (v := 3) hx hb dX9_step_84 (by decide) ?_
        refine lv_icmp_lt (tgt := 115) hx hb dX9_step_85 (by decide) (fun c_179 => ?_) (fun c_179 => ?_)
        · refine lv_aload_n hx hb dX9_step_115 rfl (lv_at hl 1 rfl) ?_
          refine yget (ci := 9) (k := 48) (v := .ref (S.2.2.1 h0 48)) (C := RX9) (T := TX9) (N := 67) C0 hK hP hm_h0 hk_h0 (by decide) rfl inlX9 (by decide) mW153 (fun _ h9 => h9) rfl dX9_step_116 ?_
          refine lv_iload_n hx hb dX9_step_119 rfl (lv_at hl 2 rfl) ?_
          refine lv_dup2_11 hx hb dX9_step_120 rfl rfl ?_
          have F_181 := flt (rfl : (z_178 : Int32).toInt = (z_178 : Int32).toInt) (by decide +kernel : (3 : Int32).toInt = 3) c_179
          refine yald C0 hK hP hmy_5 hky_5 (by decide) rfl 0 rfl (xinT 8 rfl (by omega) (by omega)) dX9_step_121 ?_
          rw [← ez_7]
          have hvz_7 : 0 ≤ (z_7 : Int32).toInt ∧ (z_7 : Int32).toInt ≤ 5000 := by rw [ez_7]; exact yMI.ne_ hId_2 _
          refine lv_iconst (v := 1) hx hb dX9_step_122 (by decide) ?_
          refine lv_iadd hx hb dX9_step_123 ?_
          refine lv_topi (fun z_182 ez_182 => ?_)
          refine yast C0 hK hP hD hS hmy_5 hky_5 (by decide) rfl 0 rfl (xinT 8 rfl (by omega) (by omega)) dX9_step_124 (fun H locs hP hD hS => ?_)
          obtain ⟨d_183, ed_183⟩ : ∃ z : yD, z = ycs d_2 (S.2.2.1 h0 48) (upd (d_2.2.2.2.1 (S.2.2.1 h0 48)) (p0 : Int32).toNatClampNeg z_182) := ⟨_, rfl⟩
          rw [← ed_183] at hP hD
          have hgd_183 : yAg S [9, 77, 78] d d_183 := by rw [ed_183]; exact yAg.cs hgd_2 (by rw [hky_5]; decide)
          have hsd_183 : yAg S [78] d_2 d_183 := by rw [ed_183]; exact yAg.cs yAg.rf (by rw [hky_5]; decide)
          have hPod_183 : yPo S d_183 := by rw [ed_183]; exact hPod_2
          have hfd_183 : yK [54, 55, 57, 63, 64, 65] d d_183 h0 := yK.ag hfd_2 (show yAg S [78] d_2 d_183 from by rw [ed_183]; exact yAg.cs yAg.rf (by rw [hky_5]; decide)) (by rw [hk_h0]; decide)
          have hL0d_183 : yAg S [77, 78] d d_183 := by rw [ed_183]; exact yAg.cs hLJd_2 (by rw [hky_5]; decide)
          have hK0d_183 : yK [] d d_183 h0 := yK.ag hKJd_2 (show yAg S [78] d_2 d_183 from by rw [ed_183]; exact yAg.cs yAg.rf (by rw [hky_5]; decide)) (by rw [hk_h0]; decide)
          have T_184 : (z_182 : Int32).toInt = (z_7 : Int32).toInt + 1 := tadd ez_182 (rfl : (z_7 : Int32).toInt = (z_7 : Int32).toInt) (by decide +kernel : (1 : Int32).toInt = 1) (by omega) (by omega)
          have hId_183 : yMI S d_183 h0 := by rw [ed_183]; exact yMI.w48 hId_2 hSh hm_h0 hk_h0 (yBr.up (yMI.ne_ hId_2) ⟨by omega, by omega⟩)
          have hE0d_183 : (d_183.1 h0 0).toInt = (d_2.1 h0 0).toInt := congrArg Int32.toInt ((yK.ag (F := []) yK.rf (show yAg S [78] d_2 d_183 from by rw [ed_183]; exact yAg.cs yAg.rf (by rw [hky_5]; decide)) (by rw [hk_h0]; decide)) 0 (by decide))
          have hE1d_183 : (d_183.1 h0 1).toInt = (d_2.1 h0 1).toInt := congrArg Int32.toInt ((yK.ag (F := []) yK.rf (show yAg S [78] d_2 d_183 from by rw [ed_183]; exact yAg.cs yAg.rf (by rw [hky_5]; decide)) (by rw [hk_h0]; decide)) 1 (by decide))
          have hE2d_183 : (d_183.1 h0 2).toInt = (d_2.1 h0 2).toInt := congrArg Int32.toInt ((yK.ag (F := []) yK.rf (show yAg S [78] d_2 d_183 from by rw [ed_183]; exact yAg.cs yAg.rf (by rw [hky_5]; decide)) (by rw [hk_h0]; decide)) 2 (by decide))
          have hE3d_183 : (d_183.1 h0 3).toInt = (d_2.1 h0 3).toInt := congrArg Int32.toInt ((yK.ag (F := []) yK.rf (show yAg S [78] d_2 d_183 from by rw [ed_183]; exact yAg.cs yAg.rf (by rw [hky_5]; decide)) (by rw [hk_h0]; decide)) 3 (by decide))
          have hE63d_183 : (d_183.1 h0 63).toInt = (d_2.1 h0 63).toInt := congrArg Int32.toInt ((yK.ag (F := []) yK.rf (show yAg S [78] d_2 d_183 from by rw [ed_183]; exact yAg.cs yAg.rf (by rw [hky_5]; decide)) (by rw [hk_h0]; decide)) 63 (by decide))
          refine lv_goto (tgt := 0) hx hb dX9_step_125 (by decide) ?_
          have hCC_185 := yMI.c hId_183
          exact hnext_3 d_183 _ _ ls ((xnext ed_183 ez_182 ez_7 (rfl) ez_7 hvz_7)) ⟨hP, hD, hS, hgd_183, hPod_183, hfd_183, hId_183, hL0d_183, hK0d_183, trivial, lv_sub hl [1, 2, 3, 4, 5, 6, 7, 8] rfl⟩
        · refine lv_aload_n hx hb dX9_step_88 rfl (lv_at hl 1 rfl) ?_
          refine yget (ci := 9) (k := 17) (v := .ref (S.2.2.1 h0 17)) (C := RX9) (T := TX9) (N := 67) C0 hK hP hm_h0 hk_h0 (by decide) rfl inlX9 (by decide) mW124 (fun _ h9 => h9) rfl dX9_step_89 ?_
          refine lv_iload hx hb dX9_step_92 (lv_at hl 0 rfl) ?_
          have F_187 := fnlt (rfl : (z_178 : Int32).toInt = (z_178 : Int32).toInt) (by decide +kernel : (3 : Int32).toInt = 3) c_179
          refine yaldB C0 hK hP hmy_176 hky_176 (by decide) rfl 1 rfl (xinT 5000 rfl (by omega) (by omega)) dX9_step_94 ?_
          rw [← ez_178]
          refine lv_bipush (v := 6) hx hb dX9_step_95 (by decide) ?_
          refine lv_icmp_gt (tgt := 115) hx hb dX9_step_97 (by decide) (fun c_188 => ?_) (fun c_188 => ?_)
          · refine lv_aload_n hx hb dX9_step_115 rfl (lv_at hl 1 rfl) ?_
            refine yget (ci := 9) (k := 48) (v := .ref (S.2.2.1 h0 48)) (C := RX9) (T := TX9) (N := 67) C0 hK hP hm_h0 hk_h0 (by decide) rfl inlX9 (by decide) mW153 (fun _ h9 => h9) rfl dX9_step_116 ?_
            refine lv_iload_n hx hb dX9_step_119 rfl (lv_at hl 2 rfl) ?_
            refine lv_dup2_11 hx hb dX9_step_120 rfl rfl ?_
            have F_189 := flt (by decide +kernel : (6 : Int32).toInt = 6) (rfl : (z_178 : Int32).toInt = (z_178 : Int32).toInt) c_188
            refine yald C0 hK hP hmy_5 hky_5 (by decide) rfl 0 rfl (xinT 8 rfl (by omega) (by omega)) dX9_step_121 ?_
            rw [← ez_7]
            have hvz_7 : 0 ≤ (z_7 : Int32).toInt ∧ (z_7 : Int32).toInt ≤ 5000 := by rw [ez_7]; exact yMI.ne_ hId_2 _
            refine lv_iconst (v := 1) hx hb dX9_step_122 (by decide) ?_
            refine lv_iadd hx hb dX9_step_123 ?_
            refine lv_topi (fun z_190 ez_190 => ?_)
            refine yast C0 hK hP hD hS hmy_5 hky_5 (by decide) rfl 0 rfl (xinT 8 rfl (by omega) (by omega)) dX9_step_124 (fun H locs hP hD hS => ?_)
            obtain ⟨d_191, ed_191⟩ : ∃ z : yD, z = ycs d_2 (S.2.2.1 h0 48) (upd (d_2.2.2.2.1 (S.2.2.1 h0 48)) (p0 : Int32).toNatClampNeg z_190) := ⟨_, rfl⟩
            rw [← ed_191] at hP hD
            have hgd_191 : yAg S [9, 77, 78] d d_191 := by rw [ed_191]; exact yAg.cs hgd_2 (by rw [hky_5]; decide)
            have hsd_191 : yAg S [78] d_2 d_191 := by rw [ed_191]; exact yAg.cs yAg.rf (by rw [hky_5]; decide)
            have hPod_191 : yPo S d_191 := by rw [ed_191]; exact hPod_2
            have hfd_191 : yK [54, 55, 57, 63, 64, 65] d d_191 h0 := yK.ag hfd_2 (show yAg S [78] d_2 d_191 from by rw [ed_191]; exact yAg.cs yAg.rf (by rw [hky_5]; decide)) (by rw [hk_h0]; decide)
            have hL0d_191 : yAg S [77, 78] d d_191 := by rw [ed_191]; exact yAg.cs hLJd_2 (by rw [hky_5]; decide)
            have hK0d_191 : yK [] d d_191 h0 := yK.ag hKJd_2 (show yAg S [78] d_2 d_191 from by rw [ed_191]; exact yAg.cs yAg.rf (by rw [hky_5]; decide)) (by rw [hk_h0]; decide)
            have T_192 : (z_190 : Int32).toInt = (z_7 : Int32).toInt + 1 := tadd ez_190 (rfl : (z_7 : Int32).toInt = (z_7 : Int32).toInt) (by decide +kernel : (1 : Int32).toInt = 1) (by omega) (by omega)
            have hId_191 : yMI S d_191 h0 := by rw [ed_191]; exact yMI.w48 hId_2 hSh hm_h0 hk_h0 (yBr.up (yMI.ne_ hId_2) ⟨by omega, by omega⟩)
            have hE0d_191 : (d_191.1 h0 0).toInt = (d_2.1 h0 0).toInt := congrArg Int32.toInt ((yK.ag (F := []) yK.rf (show yAg S [78] d_2 d_191 from by rw [ed_191]; exact yAg.cs yAg.rf (by rw [hky_5]; decide)) (by rw [hk_h0]; decide)) 0 (by decide))
            have hE1d_191 : (d_191.1 h0 1).toInt = (d_2.1 h0 1).toInt := congrArg Int32.toInt ((yK.ag (F := []) yK.rf (show yAg S [78] d_2 d_191 from by rw [ed_191]; exact yAg.cs yAg.rf (by rw [hky_5]; decide)) (by rw [hk_h0]; decide)) 1 (by decide))
            have hE2d_191 : (d_191.1 h0 2).toInt = (d_2.1 h0 2).toInt := congrArg Int32.toInt ((yK.ag (F := []) yK.rf (show yAg S [78] d_2 d_191 from by rw [ed_191]; exact yAg.cs yAg.rf (by rw [hky_5]; decide)) (by rw [hk_h0]; decide)) 2 (by decide))
            have hE3d_191 : (d_191.1 h0 3).toInt = (d_2.1 h0 3).toInt := congrArg Int32.toInt ((yK.ag (F := []) yK.rf (show yAg S [78] d_2 d_191 from by rw [ed_191]; exact yAg.cs yAg.rf (by rw [hky_5]; decide)) (by rw [hk_h0]; decide)) 3 (by decide))
            have hE63d_191 : (d_191.1 h0 63).toInt = (d_2.1 h0 63).toInt := congrArg Int32.toInt ((yK.ag (F := []) yK.rf (show yAg S [78] d_2 d_191 from by rw [ed_191]; exact yAg.cs yAg.rf (by rw [hky_5]; decide)) (by rw [hk_h0]; decide)) 63 (by decide))
            refine lv_goto (tgt := 0) hx hb dX9_step_125 (by decide) ?_
            have hCC_193 := yMI.c hId_191
            exact hnext_3 d_191 _ _ ls ((xnext ed_191 ez_190 ez_7 (rfl) ez_7 hvz_7)) ⟨hP, hD, hS, hgd_191, hPod_191, hfd_191, hId_191, hL0d_191, hK0d_191, trivial, lv_sub hl [1, 2, 3, 4, 5, 6, 7, 8] rfl⟩
          · refine lv_aload_n hx hb dX9_step_100 rfl (lv_at hl 1 rfl) ?_
            refine yget (ci := 9) (k := 47) (v := .ref (S.2.2.1 h0 47)) (C := RX9) (T := TX9) (N := 67) C0 hK hP hm_h0 hk_h0 (by decide) rfl inlX9 (by decide) mW152 (fun _ h9 => h9) rfl dX9_step_101 ?_
            obtain ⟨hmy_194, hky_194⟩ := ySh.f9_47 hSh _ hm_h0 hk_h0
            refine lv_iload_n hx hb dX9_step_104 rfl (lv_at hl 2 rfl) ?_
            refine lv_aload_n hx hb dX9_step_105 rfl (lv_at hl 1 rfl) ?_
            refine yget (ci := 9) (k := 17) (v := .ref (S.2.2.1 h0 17)) (C := RX9) (T := TX9) (N := 67) C0 hK hP hm_h0 hk_h0 (by decide) rfl inlX9 (by decide) mW124 (fun _ h9 => h9) rfl dX9_step_106 ?_
            refine lv_iload hx hb dX9_step_109 (lv_at hl 0 rfl) ?_
            have F_195 := fnlt (by decide +kernel : (6 : Int32).toInt = 6) (rfl : (z_178 : Int32).toInt = (z_178 : Int32).toInt) c_188
            refine yaldB C0 hK hP hmy_176 hky_176 (by decide) rfl 1 rfl (xinT 5000 rfl (by omega) (by omega)) dX9_step_111 ?_
            rw [← ez_178]
            refine lv_iconst (v := 2) hx hb dX9_step_112 (by decide) ?_
            refine lv_isub hx hb dX9_step_113 ?_
            refine lv_topi (fun z_196 ez_196 => ?_)
            refine yast C0 hK hP hD hS hmy_194 hky_194 (by decide) rfl 0 rfl (xinT 8 rfl (by omega) (by omega)) dX9_step_114 (fun H locs hP hD hS => ?_)
            obtain ⟨d_197, ed_197⟩ : ∃ z : yD, z = ycs d_2 (S.2.2.1 h0 47) (upd (d_2.2.2.2.1 (S.2.2.1 h0 47)) (p0 : Int32).toNatClampNeg z_196) := ⟨_, rfl⟩
            rw [← ed_197] at hP hD
            have hgd_197 : yAg S [9, 77, 78] d d_197 := by rw [ed_197]; exact yAg.cs hgd_2 (by rw [hky_194]; decide)
            have hsd_197 : yAg S [77] d_2 d_197 := by rw [ed_197]; exact yAg.cs yAg.rf (by rw [hky_194]; decide)
            have hPod_197 : yPo S d_197 := by rw [ed_197]; exact hPod_2
            have hfd_197 : yK [54, 55, 57, 63, 64, 65] d d_197 h0 := yK.ag hfd_2 (show yAg S [77] d_2 d_197 from by rw [ed_197]; exact yAg.cs yAg.rf (by rw [hky_194]; decide)) (by rw [hk_h0]; decide)
            have hL0d_197 : yAg S [77, 78] d d_197 := by rw [ed_197]; exact yAg.cs hLJd_2 (by rw [hky_194]; decide)
            have hK0d_197 : yK [] d d_197 h0 := yK.ag hKJd_2 (show yAg S [77] d_2 d_197 from by rw [ed_197]; exact yAg.cs yAg.rf (by rw [hky_194]; decide)) (by rw [hk_h0]; decide)
            have hId_197 : yMI S d_197 h0 := yMI.ag hId_2 hSh hm_h0 hk_h0 (show yAg S [77] d_2 d_197 from by rw [ed_197]; exact yAg.cs yAg.rf (by rw [hky_194]; decide)) (yK.ag (F := []) yK.rf (show yAg S [77] d_2 d_197 from by rw [ed_197]; exact yAg.cs yAg.rf (by rw [hky_194]; decide)) (by rw [hk_h0]; decide)) (by decide) (by decide)
            have hE0d_197 : (d_197.1 h0 0).toInt = (d_2.1 h0 0).toInt := congrArg Int32.toInt ((yK.ag (F := []) yK.rf (show yAg S [77] d_2 d_197 from by rw [ed_197]; exact yAg.cs yAg.rf (by rw [hky_194]; decide)) (by rw [hk_h0]; decide)) 0 (by decide))
            have hE1d_197 : (d_197.1 h0 1).toInt = (d_2.1 h0 1).toInt := congrArg Int32.toInt ((yK.ag (F := []) yK.rf (show yAg S [77] d_2 d_197 from by rw [ed_197]; exact yAg.cs yAg.rf (by rw [hky_194]; decide)) (by rw [hk_h0]; decide)) 1 (by decide))
            have hE2d_197 : (d_197.1 h0 2).toInt = (d_2.1 h0 2).toInt := congrArg Int32.toInt ((yK.ag (F := []) yK.rf (show yAg S [77] d_2 d_197 from by rw [ed_197]; exact yAg.cs yAg.rf (by rw [hky_194]; decide)) (by rw [hk_h0]; decide)) 2 (by decide))
            have hE3d_197 : (d_197.1 h0 3).toInt = (d_2.1 h0 3).toInt := congrArg Int32.toInt ((yK.ag (F := []) yK.rf (show yAg S [77] d_2 d_197 from by rw [ed_197]; exact yAg.cs yAg.rf (by rw [hky_194]; decide)) (by rw [hk_h0]; decide)) 3 (by decide))
            have hE63d_197 : (d_197.1 h0 63).toInt = (d_2.1 h0 63).toInt := congrArg Int32.toInt ((yK.ag (F := []) yK.rf (show yAg S [77] d_2 d_197 from by rw [ed_197]; exact yAg.cs yAg.rf (by rw [hky_194]; decide)) (by rw [hk_h0]; decide)) 63 (by decide))
            refine lv_aload_n hx hb dX9_step_115 rfl (lv_at hl 1 rfl) ?_
            refine yget (ci := 9) (k := 48) (v := .ref (S.2.2.1 h0 48)) (C := RX9) (T := TX9) (N := 67) C0 hK hP hm_h0 hk_h0 (by decide) rfl inlX9 (by decide) mW153 (fun _ h9 => h9) rfl dX9_step_116 ?_
            refine lv_iload_n hx hb dX9_step_119 rfl (lv_at hl 2 rfl) ?_
            refine lv_dup2_11 hx hb dX9_step_120 rfl rfl ?_
            have hCC_198 := yMI.c hId_197
            refine yald C0 hK hP hmy_5 hky_5 (by decide) rfl 0 rfl (xinT 8 rfl (by omega) (by omega)) dX9_step_121 ?_
            refine lv_topi (fun z_199 ez_199 => ?_)
            have hqz_199 : (z_199 : Int32).toInt = (z_7 : Int32).toInt := by rw [ez_199, ez_7, show d_197.2.2.2.1 (S.2.2.1 h0 48) = d_2.2.2.2.1 (S.2.2.1 h0 48) from (hsd_197 _ (by rw [(ySh.f9_48 hSh h0 hm_h0 hk_h0).2]; decide)).2.2.2.1]
            have hvz_199 : 0 ≤ (z_199 : Int32).toInt ∧ (z_199 : Int32).toInt ≤ 5000 := by rw [ez_199]; exact yMI.ne_ hId_197 _
            refine lv_iconst (v := 1) hx hb dX9_step_122 (by decide) ?_
            refine lv_iadd hx hb dX9_step_123 ?_
            refine lv_topi (fun z_200 ez_200 => ?_)
            refine yast C0 hK hP hD hS hmy_5 hky_5 (by decide) rfl 0 rfl (xinT 8 rfl (by omega) (by omega)) dX9_step_124 (fun H locs hP hD hS => ?_)
            obtain ⟨d_201, ed_201⟩ : ∃ z : yD, z = ycs d_197 (S.2.2.1 h0 48) (upd (d_197.2.2.2.1 (S.2.2.1 h0 48)) (p0 : Int32).toNatClampNeg z_200) := ⟨_, rfl⟩
            rw [← ed_201] at hP hD
            have hgd_201 : yAg S [9, 77, 78] d d_201 := by rw [ed_201]; exact yAg.cs hgd_197 (by rw [hky_5]; decide)
            have hsd_201 : yAg S [78] d_197 d_201 := by rw [ed_201]; exact yAg.cs yAg.rf (by rw [hky_5]; decide)
            have hPod_201 : yPo S d_201 := by rw [ed_201]; exact hPod_197
            have hfd_201 : yK [54, 55, 57, 63, 64, 65] d d_201 h0 := yK.ag hfd_197 (show yAg S [78] d_197 d_201 from by rw [ed_201]; exact yAg.cs yAg.rf (by rw [hky_5]; decide)) (by rw [hk_h0]; decide)
            have hL0d_201 : yAg S [77, 78] d d_201 := by rw [ed_201]; exact yAg.cs hL0d_197 (by rw [hky_5]; decide)
            have hK0d_201 : yK [] d d_201 h0 := yK.ag hK0d_197 (show yAg S [78] d_197 d_201 from by rw [ed_201]; exact yAg.cs yAg.rf (by rw [hky_5]; decide)) (by rw [hk_h0]; decide)
            have T_202 : (z_200 : Int32).toInt = (z_199 : Int32).toInt + 1 := tadd ez_200 (rfl : (z_199 : Int32).toInt = (z_199 : Int32).toInt) (by decide +kernel : (1 : Int32).toInt = 1) (by omega) (by omega)
            have hId_201 : yMI S d_201 h0 := by rw [ed_201]; exact yMI.w48 hId_197 hSh hm_h0 hk_h0 (yBr.up (yMI.ne_ hId_197) ⟨by omega, by omega⟩)
            have hE0d_201 : (d_201.1 h0 0).toInt = (d_197.1 h0 0).toInt := congrArg Int32.toInt ((yK.ag (F := []) yK.rf (show yAg S [78] d_197 d_201 from by rw [ed_201]; exact yAg.cs yAg.rf (by rw [hky_5]; decide)) (by rw [hk_h0]; decide)) 0 (by decide))
            have hE1d_201 : (d_201.1 h0 1).toInt = (d_197.1 h0 1).toInt := congrArg Int32.toInt ((yK.ag (F := []) yK.rf (show yAg S [78] d_197 d_201 from by rw [ed_201]; exact yAg.cs yAg.rf (by rw [hky_5]; decide)) (by rw [hk_h0]; decide)) 1 (by decide))
            have hE2d_201 : (d_201.1 h0 2).toInt = (d_197.1 h0 2).toInt := congrArg Int32.toInt ((yK.ag (F := []) yK.rf (show yAg S [78] d_197 d_201 from by rw [ed_201]; exact yAg.cs yAg.rf (by rw [hky_5]; decide)) (by rw [hk_h0]; decide)) 2 (by decide))
            have hE3d_201 : (d_201.1 h0 3).toInt = (d_197.1 h0 3).toInt := congrArg Int32.toInt ((yK.ag (F := []) yK.rf (show yAg S [78] d_197 d_201 from by rw [ed_201]; exact yAg.cs yAg.rf (by rw [hky_5]; decide)) (by rw [hk_h0]; decide)) 3 (by decide))
            have hE63d_201 : (d_201.1 h0 63).toInt = (d_197.1 h0 63).toInt := congrArg Int32.toInt ((yK.ag (F := []) yK.rf (show yAg S [78] d_197 d_201 from by rw [ed_201]; exact yAg.cs yAg.rf (by rw [hky_5]; decide)) (by rw [hk_h0]; decide)) 63 (by decide))
            refine lv_goto (tgt := 0) hx hb dX9_step_125 (by decide) ?_
            have hCC_204 := yMI.c hId_201
            exact hnext_3 d_201 _ _ ls ((xnext ed_201 ez_200 ez_199 ((hsd_197 _ (by rw [(ySh.f9_48 hSh h0 hm_h0 hk_h0).2]; decide)).2.2.2.1) ez_7 hvz_7)) ⟨hP, hD, hS, hgd_201, hPod_201, hfd_201, hId_201, hL0d_201, hK0d_201, trivial, lv_sub hl [1, 2, 3, 4, 5, 6, 7, 8] rfl⟩
    · refine lv_aload_n hx hb dX9_step_28 rfl (lv_at hl 0 rfl) ?_
      refine yget (ci := 9) (k := 15) (v := .ref (S.2.2.1 h0 15)) (C := RX9) (T := TX9) (N := 67) C0 hK hP hm_h0 hk_h0 (by decide) rfl inlX9 (by decide) mW122 (fun _ h9 => h9) rfl dX9_step_29 ?_
      refine lv_aload_n hx hb dX9_step_32 rfl (lv_at hl 0 rfl) ?_
      refine yget (ci := 9) (k := 48) (v := .ref (S.2.2.1 h0 48)) (C := RX9) (T := TX9) (N := 67) C0 hK hP hm_h0 hk_h0 (by decide) rfl inlX9 (by decide) mW153 (fun _ h9 => h9) rfl dX9_step_33 ?_
      refine lv_iload_n hx hb dX9_step_36 rfl (lv_at hl 1 rfl) ?_
      have F_206 := fnlt (rfl : (z_166 : Int32).toInt = (z_166 : Int32).toInt) (rfl : (p0 : Int32).toInt = (p0 : Int32).toInt) c_167
      refine yald C0 hK hP hmy_5 hky_5 (by decide) rfl 0 rfl (xinT 8 rfl (by omega) (by omega)) dX9_step_37 ?_
      rw [← ez_7]
      have hvz_7 : 0 ≤ (z_7 : Int32).toInt ∧ (z_7 : Int32).toInt ≤ 5000 := by rw [ez_7]; exact yMI.ne_ hId_2 _
      refine yaldB C0 hK hP hmy_162 hky_162 (by decide) rfl 1 rfl (xinT 5000 rfl (by omega) (by omega)) dX9_step_38 ?_
      rw [← ez_166]
      refine lv_iload_n hx hb dX9_step_39 rfl (lv_at hl 1 rfl) ?_
      refine lv_icmp_ne (tgt := 128) hx hb dX9_step_40 (by decide) (fun c_207 => ?_) (fun c_207 => ?_)
      · refine lv_bipush (v := (-3)) hx hb dX9_step_128 (by decide) ?_
        refine lv_istore (lv' := [(9, .int (-3)), (0, .ref h0), (1, .int p0), (2, .int p1), (3, .long p2), (5, .int p3), (6, .int p4), (7, .int p5), (8, .int p6)]) hx hb dX9_step_130 hl (by decide) rfl (fun ls hl => ?_)
        refine lv_iload hx hb dX9_step_132 (lv_at hl 5 rfl) ?_
        refine yjoinR (σ := Int32) 142 (fun x ls st => st = [.int x] ∧ lv_has ls 12 [(9, .int (-3)), (0, .ref h0), (1, .int p0), (2, .int p1), (3, .long p2), (6, .int p4), (7, .int p5), (8, .int p6)]) (fun x ls st hI => ?_) (fun J142_208 => ?_)
        · obtain ⟨v_208, rfl⟩ : ∃ z, z = x := ⟨_, rfl⟩
          obtain ⟨rfl, hl⟩ := hI
          have hl : lv_has ls 12 [(9, .int (-3)), (0, .ref h0), (1, .int p0), (2, .int p1), (3, .long p2), (6, .int p4), (7, .int p5), (8, .int p6)] := hl
          refine lv_istore (lv' := [(10, .int v_208), (9, .int (-3)), (0, .ref h0), (1, .int p0), (2, .int p1), (3, .long p2), (6, .int p4), (7, .int p5), (8, .int p6)]) hx hb dX9_step_142 hl (by decide) rfl (fun ls hl => ?_)
          refine lv_aload_n hx hb dX9_step_144 rfl (lv_at hl 2 rfl) ?_
          refine lv_iload_n hx hb dX9_step_145 rfl (lv_at hl 3 rfl) ?_
          refine lv_iload_n hx hb dX9_step_146 rfl (lv_at hl 4 rfl) ?_
          have F_209 := fne (rfl : (z_166 : Int32).toInt = (z_166 : Int32).toInt) (rfl : (p0 : Int32).toInt = (p0 : Int32).toInt) c_207
          refine yVri (As := [.int p0, .int p1]) (rest := []) C0 (g_X9_isKnown l G S d_2 h0 p0 p1 hSh hm_h0 hk_h0 (by refine ⟨?_, ?_⟩ <;> omega) (by refine ⟨?_, ?_⟩ <;> omega)) ok_X9_isKnown (mW429 : Cond.methodLink RX9 198 yX9_isKnown ∈ wsT) ⟨Nat.le_of_ble_eq_true rfl, Nat.le_of_ble_eq_true rfl⟩ hP hD hK hN hm_h0 hk_h0 (by decide) rfl rfl rfl hl.1 rfl (Nat.le_of_ble_eq_true rfl) ⟨Nat.le_of_ble_eq_true rfl, Nat.le_of_ble_eq_true rfl⟩ dX9_step_147 (fun r_210 hr_210 => ?_)
          refine yjoinR (σ := Int32 × Int32) 252 (fun x ls st => st = [] ∧ lv_has ls 12 [(0, .ref h0), (1, .int p0), (2, .int p1), (3, .long p2), (9, .int x.1), (10, .int x.2)]) (fun x ls st hI => ?_) (fun J252_212 => ?_)
          · obtain ⟨v_211, v_212⟩ := x
            obtain ⟨rfl, hl⟩ := hI
            have hl : lv_has ls 12 [(0, .ref h0), (1, .int p0), (2, .int p1), (3, .long p2), (9, .int v_211), (10, .int v_212)] := hl
            refine lv_aload_n hx hb dX9_step_252 rfl (lv_at hl 0 rfl) ?_
            refine yget (ci := 9) (k := 58) (v := .long (d_2.2.1 h0 58)) (C := RX9) (T := TX9) (N := 67) C0 hK hP hm_h0 hk_h0 (by decide) rfl inlX9 (by decide) mW873 (fun _ h9 => h9) rfl dX9_step_253 ?_
            refine lv_topl (fun z_213 ez_213 => ?_)
            refine lv_aload_n hx hb dX9_step_256 rfl (lv_at hl 0 rfl) ?_
            refine yget (ci := 9) (k := 59) (v := .long (d_2.2.1 h0 59)) (C := RX9) (T := TX9) (N := 67) C0 hK hP hm_h0 hk_h0 (by decide) rfl inlX9 (by decide) mW874 (fun _ h9 => h9) rfl dX9_step_257 ?_
            refine lv_topl (fun z_214 ez_214 => ?_)
            refine W.lcmp hx hb dX9_step_260 ?_
            refine lv_topi (fun z_215 ez_215 => ?_)
            refine yjoinR (σ := Int32) 269 (fun x ls st => st = [.int x] ∧ lv_has ls 12 [(0, .ref h0), (1, .int p0), (2, .int p1), (3, .long p2), (9, .int v_211), (10, .int v_212)] ∧ (x = 0 ∨ x = 1)) (fun x ls st hI => ?_) (fun J269_216 => ?_)
            · obtain ⟨v_216, rfl⟩ : ∃ z, z = x := ⟨_, rfl⟩
              obtain ⟨rfl, hl, hzv_216⟩ := hI
              have hl : lv_has ls 12 [(0, .ref h0), (1, .int p0), (2, .int p1), (3, .long p2), (9, .int v_211), (10, .int v_212)] := hl
              refine lv_istore (lv' := [(11, .int v_216), (0, .ref h0), (1, .int p0), (2, .int p1), (3, .long p2), (9, .int v_211), (10, .int v_212)]) hx hb dX9_step_269 hl (by decide) rfl (fun ls hl => ?_)
              refine lv_aload_n hx hb dX9_step_271 rfl (lv_at hl 1 rfl) ?_
              refine lv_dup hx hb dX9_step_272 rfl ?_
              refine yget (ci := 9) (k := 58) (v := .long (d_2.2.1 h0 58)) (C := RX9) (T := TX9) (N := 67) C0 hK hP hm_h0 hk_h0 (by decide) rfl inlX9 (by decide) mW873 (fun _ h9 => h9) rfl dX9_step_273 ?_
              rw [← ez_213]
              refine lv_iload hx hb dX9_step_276 (lv_at hl 6 rfl) ?_
              refine lv_i2l hx hb dX9_step_278 rfl ?_
              refine lv_topl (fun z_217 ez_217 => ?_)
              refine lv_ladd hx hb dX9_step_279 ?_
              refine lv_topl (fun z_218 ez_218 => ?_)
              refine yputJ (ci := 9) (k := 58) (C := RX9) (T := TX9) (N := 67) C0 hK hP hD hS hm_h0 hk_h0 (by decide) rfl inlX9 tyX9 tyX9_ok nmX9 (by decide) mW873 (fun _ h9 => h9) rfl (by decide +kernel) (Nat.le_of_ble_eq_true rfl) ysj_9_58 dX9_step_280 (fun H locs hP hD hS => ?_)
              obtain ⟨d_219, ed_219⟩ : ∃ z : yD, z = yj d_2 h0 58 z_218 := ⟨_, rfl⟩
              rw [← ed_219] at hP hD
              have hgd_219 : yAg S [9, 77, 78] d d_219 := by rw [ed_219]; exact yAg.j hgd_2 (by rw [hk_h0]; decide)
              have hsd_219 : yAg S [9] d_2 d_219 := by rw [ed_219]; exact yAg.j yAg.rf (by rw [hk_h0]; decide)
              have hPod_219 : yPo S d_219 := by rw [ed_219]; exact hPod_2
              have hfd_219 : yK [54, 55, 57, 63, 64, 65] d d_219 h0 := by rw [ed_219]; exact yK.j hfd_2
              have hId_219 : yMI S d_219 h0 := by rw [ed_219]; exact yMI.j hId_2
              have hE0d_219 : (d_219.1 h0 0).toInt = (d_2.1 h0 0).toInt := congrArg Int32.toInt ((show yK [] d_2 d_219 h0 from by rw [ed_219]; exact yK.j yK.rf) 0 (by decide))
              have hE1d_219 : (d_219.1 h0 1).toInt = (d_2.1 h0 1).toInt := congrArg Int32.toInt ((show yK [] d_2 d_219 h0 from by rw [ed_219]; exact yK.j yK.rf) 1 (by decide))
              have hE2d_219 : (d_219.1 h0 2).toInt = (d_2.1 h0 2).toInt := congrArg Int32.toInt ((show yK [] d_2 d_219 h0 from by rw [ed_219]; exact yK.j yK.rf) 2 (by decide))
              have hE3d_219 : (d_219.1 h0 3).toInt = (d_2.1 h0 3).toInt := congrArg Int32.toInt ((show yK [] d_2 d_219 h0 from by rw [ed_219]; exact yK.j yK.rf) 3 (by decide))
              have hE63d_219 : (d_219.1 h0 63).toInt = (d_2.1 h0 63).toInt := congrArg Int32.toInt ((show yK [] d_2 d_219 h0 from by rw [ed_219]; exact yK.j yK.rf) 63 (by decide))
              refine lv_aload_n hx hb dX9_step_283 rfl (lv_at hl 1 rfl) ?_
              refine lv_dup hx hb dX9_step_284 rfl ?_
              refine yget (ci := 9) (k := 60) (v := .long (d_219.2.1 h0 60)) (C := RX9) (T := TX9) (N := 67) C0 hK hP hm_h0 hk_h0 (by decide) rfl inlX9 (by decide) mW875 (fun _ h9 => h9) rfl dX9_step_285 ?_
              refine lv_topl (fun z_220 ez_220 => ?_)
              refine lv_lconst (v := 1) hx hb dX9_step_288 (by decide) ?_
              refine lv_ladd hx hb dX9_step_289 ?_
              refine lv_topl (fun z_221 ez_221 => ?_)
              refine yputJ (ci := 9) (k := 60) (C := RX9) (T := TX9) (N := 67) C0 hK hP hD hS hm_h0 hk_h0 (by decide) rfl inlX9 tyX9 tyX9_ok nmX9 (by decide) mW875 (fun _ h9 => h9) rfl (by decide +kernel) (Nat.le_of_ble_eq_true rfl) ysj_9_60 dX9_step_290 (fun H locs hP hD hS => ?_)
              obtain ⟨d_222, ed_222⟩ : ∃ z : yD, z = yj d_219 h0 60 z_221 := ⟨_, rfl⟩
              rw [← ed_222] at hP hD
              have hgd_222 : yAg S [9, 77, 78] d d_222 := by rw [ed_222]; exact yAg.j hgd_219 (by rw [hk_h0]; decide)
              have hsd_222 : yAg S [9] d_219 d_222 := by rw [ed_222]; exact yAg.j yAg.rf (by rw [hk_h0]; decide)
              have hPod_222 : yPo S d_222 := by rw [ed_222]; exact hPod_219
              have hfd_222 : yK [54, 55, 57, 63, 64, 65] d d_222 h0 := by rw [ed_222]; exact yK.j hfd_219
              have hId_222 : yMI S d_222 h0 := by rw [ed_222]; exact yMI.j hId_219
              have hE0d_222 : (d_222.1 h0 0).toInt = (d_219.1 h0 0).toInt := congrArg Int32.toInt ((show yK [] d_219 d_222 h0 from by rw [ed_222]; exact yK.j yK.rf) 0 (by decide))
              have hE1d_222 : (d_222.1 h0 1).toInt = (d_219.1 h0 1).toInt := congrArg Int32.toInt ((show yK [] d_219 d_222 h0 from by rw [ed_222]; exact yK.j yK.rf) 1 (by decide))
              have hE2d_222 : (d_222.1 h0 2).toInt = (d_219.1 h0 2).toInt := congrArg Int32.toInt ((show yK [] d_219 d_222 h0 from by rw [ed_222]; exact yK.j yK.rf) 2 (by decide))
              have hE3d_222 : (d_222.1 h0 3).toInt = (d_219.1 h0 3).toInt := congrArg Int32.toInt ((show yK [] d_219 d_222 h0 from by rw [ed_222]; exact yK.j yK.rf) 3 (by decide))
              have hE63d_222 : (d_222.1 h0 63).toInt = (d_219.1 h0 63).toInt := congrArg Int32.toInt ((show yK [] d_219 d_222 h0 from by rw [ed_222]; exact yK.j yK.rf) 63 (by decide))
              refine lv_iload hx hb dX9_step_293 (lv_at hl 0 rfl) ?_
              refine yjoin (σ := yD) 315 (fun x H locs ls st => st = [] ∧ va_P G.1 xcl (yW G S x) H ∧ va_D A (yW G S x) ∧ va_S A s.heap H locs ∧ yAg S [9, 77, 78] d x ∧ yPo S x ∧ yK [54, 55, 57, 63, 64, 65] d x h0 ∧ yMI S x h0 ∧ yAg S [9] d_222 x ∧ yK [] d_222 x h0 ∧ lv_has ls 12 [(0, .ref h0), (1, .int p0), (2, .int p1), (9, .int v_211), (10, .int v_212)]) (fun x H locs ls st hI => ?_) (fun J315_222 => ?_)
              · obtain ⟨d_223, rfl⟩ : ∃ z, z = x := ⟨_, rfl⟩
                obtain ⟨rfl, hP, hD, hS, hgd_223, hPod_223, hfd_223, hId_223, hLJd_223, hKJd_223, hl⟩ := hI
                have hId_223 : yMI S d_223 h0 := hId_223
                have hl : lv_has ls 12 [(0, .ref h0), (1, .int p0), (2, .int p1), (9, .int v_211), (10, .int v_212)] := hl
                have hE0d_223 : (d_223.1 h0 0).toInt = (d_222.1 h0 0).toInt := congrArg Int32.toInt (hKJd_223 0 (by decide))
                have hE1d_223 : (d_223.1 h0 1).toInt = (d_222.1 h0 1).toInt := congrArg Int32.toInt (hKJd_223 1 (by decide))
                have hE2d_223 : (d_223.1 h0 2).toInt = (d_222.1 h0 2).toInt := congrArg Int32.toInt (hKJd_223 2 (by decide))
                have hE3d_223 : (d_223.1 h0 3).toInt = (d_222.1 h0 3).toInt := congrArg Int32.toInt (hKJd_223 3 (by decide))
                have hE63d_223 : (d_223.1 h0 63).toInt = (d_222.1 h0 63).toInt := congrArg Int32.toInt (hKJd_223 63 (by decide))
                refine lv_iload_n hx hb dX9_step_315 rfl (lv_at hl 1 rfl) ?_
                refine lv_aload_n hx hb dX9_step_316 rfl (lv_at hl 0 rfl) ?_
                refine yget (ci := 9) (k := 49) (v := .int (d_223.1 h0 49)) (C := RX9) (T := TX9) (N := 67) C0 hK hP hm_h0 hk_h0 (by decide) rfl inlX9 (by decide) mW861 (fun _ h9 => h9) rfl dX9_step_317 ?_
                refine lv_topi (fun z_224 ez_224 => ?_)
                refine lv_icmp_eq (tgt := 324) hx hb dX9_step_320 (by decide) (fun c_225 => ?_) (fun c_225 => ?_)
                · refine lv_aload_n hx hb dX9_step_324 rfl (lv_at hl 0 rfl) ?_
                  refine lv_dup hx hb dX9_step_325 rfl ?_
                  refine yget (ci := 9) (k := 66) (v := .long (d_223.2.1 h0 66)) (C := RX9) (T := TX9) (N := 67) C0 hK hP hm_h0 hk_h0 (by decide) rfl inlX9 (by decide) mW881 (fun _ h9 => h9) rfl dX9_step_326 ?_
                  refine lv_topl (fun z_226 ez_226 => ?_)
                  refine lv_iload hx hb dX9_step_329 (lv_at hl 4 rfl) ?_
                  refine lv_i2l hx hb dX9_step_331 rfl ?_
                  rw [← ez_217]
                  refine lv_ladd hx hb dX9_step_332 ?_
                  refine lv_topl (fun z_227 ez_227 => ?_)
                  refine yputJ (ci := 9) (k := 66) (C := RX9) (T := TX9) (N := 67) C0 hK hP hD hS hm_h0 hk_h0 (by decide) rfl inlX9 tyX9 tyX9_ok nmX9 (by decide) mW881 (fun _ h9 => h9) rfl (by decide +kernel) (Nat.le_of_ble_eq_true rfl) ysj_9_66 dX9_step_333 (fun H locs hP hD hS => ?_)
                  obtain ⟨d_228, ed_228⟩ : ∃ z : yD, z = yj d_223 h0 66 z_227 := ⟨_, rfl⟩
                  rw [← ed_228] at hP hD
                  have hgd_228 : yAg S [9, 77, 78] d d_228 := by rw [ed_228]; exact yAg.j hgd_223 (by rw [hk_h0]; decide)
                  have hsd_228 : yAg S [9] d_223 d_228 := by rw [ed_228]; exact yAg.j yAg.rf (by rw [hk_h0]; decide)
                  have hPod_228 : yPo S d_228 := by rw [ed_228]; exact hPod_223
                  have hfd_228 : yK [54, 55, 57, 63, 64, 65] d d_228 h0 := by rw [ed_228]; exact yK.j hfd_223
                  have hId_228 : yMI S d_228 h0 := by rw [ed_228]; exact yMI.j hId_223
                  have hE0d_228 : (d_228.1 h0 0).toInt = (d_223.1 h0 0).toInt := congrArg Int32.toInt ((show yK [] d_223 d_228 h0 from by rw [ed_228]; exact yK.j yK.rf) 0 (by decide))
                  have hE1d_228 : (d_228.1 h0 1).toInt = (d_223.1 h0 1).toInt := congrArg Int32.toInt ((show yK [] d_223 d_228 h0 from by rw [ed_228]; exact yK.j yK.rf) 1 (by decide))
                  have hE2d_228 : (d_228.1 h0 2).toInt = (d_223.1 h0 2).toInt := congrArg Int32.toInt ((show yK [] d_223 d_228 h0 from by rw [ed_228]; exact yK.j yK.rf) 2 (by decide))
                  have hE3d_228 : (d_228.1 h0 3).toInt = (d_223.1 h0 3).toInt := congrArg Int32.toInt ((show yK [] d_223 d_228 h0 from by rw [ed_228]; exact yK.j yK.rf) 3 (by decide))
                  have hE63d_228 : (d_228.1 h0 63).toInt = (d_223.1 h0 63).toInt := congrArg Int32.toInt ((show yK [] d_223 d_228 h0 from by rw [ed_228]; exact yK.j yK.rf) 63 (by decide))
                  refine lv_iload_n hx hb dX9_step_336 rfl (lv_at hl 2 rfl) ?_
                  refine lv_aload_n hx hb dX9_step_337 rfl (lv_at hl 0 rfl) ?_
                  refine yget (ci := 9) (k := 50) (v := .int (d_228.1 h0 50)) (C := RX9) (T := TX9) (N := 67) C0 hK hP hm_h0 hk_h0 (by decide) rfl inlX9 (by decide) mW862 (fun _ h9 => h9) rfl dX9_step_338 ?_
                  refine lv_topi (fun z_229 ez_229 => ?_)
                  refine yjoin (σ := yD) 367 (fun x H locs ls st => st = [] ∧ va_P G.1 xcl (yW G S x) H ∧ va_D A (yW G S x) ∧ va_S A s.heap H locs ∧ yAg S [9, 77, 78] d x ∧ yPo S x ∧ yK [54, 55, 57, 63, 64, 65] d x h0 ∧ yMI S x h0 ∧ yAg S [9] d_228 x ∧ yK [54, 55] d_228 x h0 ∧ lv_has ls 12 [(0, .ref h0), (2, .int p1), (9, .int v_211), (10, .int v_212)]) (fun x H locs ls st hI => ?_) (fun J367_229 => ?_)
                  · obtain ⟨d_230, rfl⟩ : ∃ z, z = x := ⟨_, rfl⟩
                    obtain ⟨rfl, hP, hD, hS, hgd_230, hPod_230, hfd_230, hId_230, hLJd_230, hKJd_230, hl⟩ := hI
                    have hId_230 : yMI S d_230 h0 := hId_230
                    have hl : lv_has ls 12 [(0, .ref h0), (2, .int p1), (9, .int v_211), (10, .int v_212)] := hl
                    have hE0d_230 : (d_230.1 h0 0).toInt = (d_228.1 h0 0).toInt := congrArg Int32.toInt (hKJd_230 0 (by decide))
                    have hE1d_230 : (d_230.1 h0 1).toInt = (d_228.1 h0 1).toInt := congrArg Int32.toInt (hKJd_230 1 (by decide))
                    have hE2d_230 : (d_230.1 h0 2).toInt = (d_228.1 h0 2).toInt := congrArg Int32.toInt (hKJd_230 2 (by decide))
                    have hE3d_230 : (d_230.1 h0 3).toInt = (d_228.1 h0 3).toInt := congrArg Int32.toInt (hKJd_230 3 (by decide))
                    have hE63d_230 : (d_230.1 h0 63).toInt = (d_228.1 h0 63).toInt := congrArg Int32.toInt (hKJd_230 63 (by decide))
                    refine lv_iload_n hx hb dX9_step_367 rfl (lv_at hl 1 rfl) ?_
                    refine lv_aload_n hx hb dX9_step_368 rfl (lv_at hl 0 rfl) ?_
                    refine yget (ci := 9) (k := 51) (v := .int (d_230.1 h0 51)) (C := RX9) (T := TX9) (N := 67) C0 hK hP hm_h0 hk_h0 (by decide) rfl inlX9 (by decide) mW863 (fun _ h9 => h9) rfl dX9_step_369 ?_
                    refine lv_topi (fun z_231 ez_231 => ?_)
                    refine yjoin (σ := yD) 395 (fun x H locs ls st => st = [] ∧ va_P G.1 xcl (yW G S x) H ∧ va_D A (yW G S x) ∧ va_S A s.heap H locs ∧ yAg S [9, 77, 78] d x ∧ yPo S x ∧ yK [54, 55, 57, 63, 64, 65] d x h0 ∧ yMI S x h0 ∧ yAg S [9] d_230 x ∧ yK [] d_230 x h0 ∧ lv_has ls 12 [(0, .ref h0), (2, .int p1), (9, .int v_211)]) (fun x H locs ls st hI => ?_) (fun J395_231 => ?_)
                    · obtain ⟨d_232, rfl⟩ : ∃ z, z = x := ⟨_, rfl⟩
                      obtain ⟨rfl, hP, hD, hS, hgd_232, hPod_232, hfd_232, hId_232, hLJd_232, hKJd_232, hl⟩ := hI
                      have hId_232 : yMI S d_232 h0 := hId_232
                      have hl : lv_has ls 12 [(0, .ref h0), (2, .int p1), (9, .int v_211)] := hl
                      have hE0d_232 : (d_232.1 h0 0).toInt = (d_230.1 h0 0).toInt := congrArg Int32.toInt (hKJd_232 0 (by decide))
                      have hE1d_232 : (d_232.1 h0 1).toInt = (d_230.1 h0 1).toInt := congrArg Int32.toInt (hKJd_232 1 (by decide))
                      have hE2d_232 : (d_232.1 h0 2).toInt = (d_230.1 h0 2).toInt := congrArg Int32.toInt (hKJd_232 2 (by decide))
                      have hE3d_232 : (d_232.1 h0 3).toInt = (d_230.1 h0 3).toInt := congrArg Int32.toInt (hKJd_232 3 (by decide))
                      have hE63d_232 : (d_232.1 h0 63).toInt = (d_230.1 h0 63).toInt := congrArg Int32.toInt (hKJd_232 63 (by decide))
                      refine lv_iload hx hb dX9_step_395 (lv_at hl 2 rfl) ?_
                      refine lv_aload_n hx hb dX9_step_397 rfl (lv_at hl 0 rfl) ?_
                      refine yget (ci := 9) (k := 53) (v := .int (d_232.1 h0 53)) (C := RX9) (T := TX9) (N := 67) C0 hK hP hm_h0 hk_h0 (by decide) rfl inlX9 (by decide) mW865 (fun _ h9 => h9) rfl dX9_step_398 ?_
                      refine lv_topi (fun z_233 ez_233 => ?_)
                      refine yjoin (σ := yD) 414 (fun x H locs ls st => st = [] ∧ va_P G.1 xcl (yW G S x) H ∧ va_D A (yW G S x) ∧ va_S A s.heap H locs ∧ yAg S [9, 77, 78] d x ∧ yPo S x ∧ yK [54, 55, 57, 63, 64, 65] d x h0 ∧ yMI S x h0 ∧ yAg S [9] d_232 x ∧ yK [57] d_232 x h0 ∧ lv_has ls 12 [(0, .ref h0), (2, .int p1), (9, .int v_211)]) (fun x H locs ls st hI => ?_) (fun J414_233 => ?_)
                      · obtain ⟨d_234, rfl⟩ : ∃ z, z = x := ⟨_, rfl⟩
                        obtain ⟨rfl, hP, hD, hS, hgd_234, hPod_234, hfd_234, hId_234, hLJd_234, hKJd_234, hl⟩ := hI
                        have hId_234 : yMI S d_234 h0 := hId_234
                        have hl : lv_has ls 12 [(0, .ref h0), (2, .int p1), (9, .int v_211)] := hl
                        have hE0d_234 : (d_234.1 h0 0).toInt = (d_232.1 h0 0).toInt := congrArg Int32.toInt (hKJd_234 0 (by decide))
                        have hE1d_234 : (d_234.1 h0 1).toInt = (d_232.1 h0 1).toInt := congrArg Int32.toInt (hKJd_234 1 (by decide))
                        have hE2d_234 : (d_234.1 h0 2).toInt = (d_232.1 h0 2).toInt := congrArg Int32.toInt (hKJd_234 2 (by decide))
                        have hE3d_234 : (d_234.1 h0 3).toInt = (d_232.1 h0 3).toInt := congrArg Int32.toInt (hKJd_234 3 (by decide))
                        have hE63d_234 : (d_234.1 h0 63).toInt = (d_232.1 h0 63).toInt := congrArg Int32.toInt (hKJd_234 63 (by decide))
                        refine lv_aload_n hx hb dX9_step_414 rfl (lv_at hl 0 rfl) ?_
                        refine yget (ci := 9) (k := 65) (v := .int (d_234.1 h0 65)) (C := RX9) (T := TX9) (N := 67) C0 hK hP hm_h0 hk_h0 (by decide) rfl inlX9 (by decide) mW868 (fun _ h9 => h9) rfl dX9_step_415 ?_
                        refine lv_topi (fun z_235 ez_235 => ?_)
                        refine lv_if_ge (tgt := 495) hx hb dX9_step_418 (by decide) (fun c_236 => ?_) (fun c_236 => ?_)
                        · refine lv_aload_n hx hb dX9_step_495 rfl (lv_at hl 0 rfl) ?_
                          refine yget (ci := 9) (k := 65) (v := .int (d_234.1 h0 65)) (C := RX9) (T := TX9) (N := 67) C0 hK hP hm_h0 hk_h0 (by decide) rfl inlX9 (by decide) mW868 (fun _ h9 => h9) rfl dX9_step_496 ?_
                          rw [← ez_235]
                          refine lv_if_ge (tgt := 507) hx hb dX9_step_499 (by decide) (fun c_237 => ?_) (fun c_237 => absurd c_236 c_237)
                          exact W.vret hx hb hr (fun t ht hW => ⟨⟨d_234, rfl, ⟨hgd_234, (fun _ => hPod_234), hfd_234, hId_234⟩, by rw [ht]; exact hP, hD⟩, hS.F ht⟩) hS.2.2 dX9_step_507
                        · refine lv_aload_n hx hb dX9_step_421 rfl (lv_at hl 0 rfl) ?_
                          refine yget (ci := 9) (k := 63) (v := .int (d_234.1 h0 63)) (C := RX9) (T := TX9) (N := 67) C0 hK hP hm_h0 hk_h0 (by decide) rfl inlX9 (by decide) mW866 (fun _ h9 => h9) rfl dX9_step_422 ?_
                          refine lv_topi (fun z_238 ez_238 => ?_)
                          refine lv_aload_n hx hb dX9_step_425 rfl (lv_at hl 0 rfl) ?_
                          refine yget (ci := 9) (k := 2) (v := .int (d_234.1 h0 2)) (C := RX9) (T := TX9) (N := 67) C0 hK hP hm_h0 hk_h0 (by decide) rfl inlX9 (by decide) mW888 (fun _ h9 => h9) rfl dX9_step_426 ?_
                          refine lv_topi (fun z_239 ez_239 => ?_)
                          refine lv_icmp_ge (tgt := 495) hx hb dX9_step_429 (by decide) (fun c_240 => ?_) (fun c_240 => ?_)
                          · refine lv_aload_n hx hb dX9_step_495 rfl (lv_at hl 0 rfl) ?_
                            refine yget (ci := 9) (k := 65) (v := .int (d_234.1 h0 65)) (C := RX9) (T := TX9) (N := 67) C0 hK hP hm_h0 hk_h0 (by decide) rfl inlX9 (by decide) mW868 (fun _ h9 => h9) rfl dX9_step_496 ?_
                            rw [← ez_235]
                            refine lv_if_ge (tgt := 507) hx hb dX9_step_499 (by decide) (fun c_241 => absurd c_241 c_236) (fun c_241 => ?_)
                            refine lv_aload_n hx hb dX9_step_502 rfl (lv_at hl 0 rfl) ?_
                            refine lv_iload_n hx hb dX9_step_503 rfl (lv_at hl 1 rfl) ?_
                            refine yputI (ci := 9) (k := 65) (ty := .int) (C := RX9) (T := TX9) (N := 67) C0 hK hP hD hS hm_h0 hk_h0 (by decide) rfl inlX9 tyX9 tyX9_ok nmX9 (by decide) mW868 (fun _ h9 => h9) rfl (by decide +kernel) rfl rfl (Nat.le_of_ble_eq_true rfl) ysi_9_65 dX9_step_504 (fun H locs hP hD hS => ?_)
                            obtain ⟨d_242, ed_242⟩ : ∃ z : yD, z = yi d_234 h0 65 p1 := ⟨_, rfl⟩
                            rw [← ed_242] at hP hD
                            have hgd_242 : yAg S [9, 77, 78] d d_242 := by rw [ed_242]; exact yAg.i hgd_234 (by rw [hk_h0]; decide)
                            have hsd_242 : yAg S [9] d_234 d_242 := by rw [ed_242]; exact yAg.i yAg.rf (by rw [hk_h0]; decide)
                            have hPod_242 : yPo S d_242 := by rw [ed_242]; exact yPo.i hPod_234 hk_h0 (Or.inl rfl)
                            have hfd_242 : yK [54, 55, 57, 63, 64, 65] d d_242 h0 := by rw [ed_242]; exact yK.i hfd_234 (by decide)
                            have hId_242 : yMI S d_242 h0 := yMI.ag hId_234 hSh hm_h0 hk_h0 (show yAg S [9] d_234 d_242 from by rw [ed_242]; exact yAg.i yAg.rf (by rw [hk_h0]; decide)) (show yK [65] d_234 d_242 h0 from by rw [ed_242]; exact yK.i yK.rf (by decide)) (by decide) (by decide)
                            have hE0d_242 : (d_242.1 h0 0).toInt = (d_234.1 h0 0).toInt := congrArg Int32.toInt ((show yK [65] d_234 d_242 h0 from by rw [ed_242]; exact yK.i yK.rf (by decide)) 0 (by decide))
                            have hE1d_242 : (d_242.1 h0 1).toInt = (d_234.1 h0 1).toInt := congrArg Int32.toInt ((show yK [65] d_234 d_242 h0 from by rw [ed_242]; exact yK.i yK.rf (by decide)) 1 (by decide))
                            have hE2d_242 : (d_242.1 h0 2).toInt = (d_234.1 h0 2).toInt := congrArg Int32.toInt ((show yK [65] d_234 d_242 h0 from by rw [ed_242]; exact yK.i yK.rf (by decide)) 2 (by decide))
                            have hE3d_242 : (d_242.1 h0 3).toInt = (d_234.1 h0 3).toInt := congrArg Int32.toInt ((show yK [65] d_234 d_242 h0 from by rw [ed_242]; exact yK.i yK.rf (by decide)) 3 (by decide))
                            have hE63d_242 : (d_242.1 h0 63).toInt = (d_234.1 h0 63).toInt := congrArg Int32.toInt ((show yK [65] d_234 d_242 h0 from by rw [ed_242]; exact yK.i yK.rf (by decide)) 63 (by decide))
                            exact W.vret hx hb hr (fun t ht hW => ⟨⟨d_242, rfl, ⟨hgd_242, (fun _ => hPod_242), hfd_242, hId_242⟩, by rw [ht]; exact hP, hD⟩, hS.F ht⟩) hS.2.2 dX9_step_507
                          · refine lv_aload_n hx hb dX9_step_432 rfl (lv_at hl 0 rfl) ?_
                            refine yget (ci := 9) (k := 19) (v := .ref (S.2.2.1 h0 19)) (C := RX9) (T := TX9) (N := 67) C0 hK hP hm_h0 hk_h0 (by decide) rfl inlX9 (by decide) mW126 (fun _ h9 => h9) rfl dX9_step_433 ?_
                            obtain ⟨hmy_243, hky_243⟩ := ySh.f9_19 hSh _ hm_h0 hk_h0
                            refine lv_aload_n hx hb dX9_step_436 rfl (lv_at hl 0 rfl) ?_
                            refine yget (ci := 9) (k := 63) (v := .int (d_234.1 h0 63)) (C := RX9) (T := TX9) (N := 67) C0 hK hP hm_h0 hk_h0 (by decide) rfl inlX9 (by decide) mW866 (fun _ h9 => h9) rfl dX9_step_437 ?_
                            rw [← ez_238]
                            have hCC_244 := yMI.c hId_234
                            have T_245 : (z_224 : Int32).toInt = (d_223.1 h0 49).toInt := by rw [ez_224]
                            have F_246 := feq (rfl : (p0 : Int32).toInt = (p0 : Int32).toInt) (rfl : (z_224 : Int32).toInt = (z_224 : Int32).toInt) c_225
                            have T_247 : (z_235 : Int32).toInt = (d_234.1 h0 65).toInt := by rw [ez_235]
                            have F_248 := fnle (by decide +kernel : (0 : Int32).toInt = 0) (rfl : (z_235 : Int32).toInt = (z_235 : Int32).toInt) c_236
                            have T_249 : (z_238 : Int32).toInt = (d_234.1 h0 63).toInt := by rw [ez_238]
                            have T_250 : (z_239 : Int32).toInt = (d_234.1 h0 2).toInt := by rw [ez_239]
                            have F_251 := fnle (rfl : (z_239 : Int32).toInt = (z_239 : Int32).toInt) (rfl : (z_238 : Int32).toInt = (z_238 : Int32).toInt) c_240
                            refine yaldB C0 hK hP hmy_243 hky_243 (by decide) rfl 1 rfl (xinT 500 rfl (by omega) (by omega)) dX9_step_440 ?_
                            refine lv_topi (fun z_252 ez_252 => ?_)
                            refine lv_iload hx hb dX9_step_441 (lv_at hl 2 rfl) ?_
                            refine lv_icmp_eq (tgt := 451) hx hb dX9_step_443 (by decide) (fun c_253 => ?_) (fun c_253 => ?_)
                            · refine lv_aload_n hx hb dX9_step_451 rfl (lv_at hl 0 rfl) ?_
                              refine lv_dup hx hb dX9_step_452 rfl ?_
                              refine yget (ci := 9) (k := 64) (v := .int (d_234.1 h0 64)) (C := RX9) (T := TX9) (N := 67) C0 hK hP hm_h0 hk_h0 (by decide) rfl inlX9 (by decide) mW867 (fun _ h9 => h9) rfl dX9_step_453 ?_
                              refine lv_topi (fun z_254 ez_254 => ?_)
                              refine lv_iconst (v := 1) hx hb dX9_step_456 (by decide) ?_
                              refine lv_iadd hx hb dX9_step_457 ?_
                              refine lv_topi (fun z_255 ez_255 => ?_)
                              refine yputI (ci := 9) (k := 64) (ty := .int) (C := RX9) (T := TX9) (N := 67) C0 hK hP hD hS hm_h0 hk_h0 (by decide) rfl inlX9 tyX9 tyX9_ok nmX9 (by decide) mW867 (fun _ h9 => h9) rfl (by decide +kernel) rfl rfl (Nat.le_of_ble_eq_true rfl) ysi_9_64 dX9_step_458 (fun H locs hP hD hS => ?_)
                              obtain ⟨d_256, ed_256⟩ : ∃ z : yD, z = yi d_234 h0 64 z_255 := ⟨_, rfl⟩
                              rw [← ed_256] at hP hD
                              have hgd_256 : yAg S [9, 77, 78] d d_256 := by rw [ed_256]; exact yAg.i hgd_234 (by rw [hk_h0]; decide)
                              have hsd_256 : yAg S [9] d_234 d_256 := by rw [ed_256]; exact yAg.i yAg.rf (by rw [hk_h0]; decide)
                              have hPod_256 : yPo S d_256 := by rw [ed_256]; exact yPo.i hPod_234 hk_h0 (Or.inl rfl)
                              have hfd_256 : yK [54, 55, 57, 63, 64, 65] d d_256 h0 := by rw [ed_256]; exact yK.i hfd_234 (by decide)
                              have hId_256 : yMI S d_256 h0 := yMI.ag hId_234 hSh hm_h0 hk_h0 (show yAg S [9] d_234 d_256 from by rw [ed_256]; exact yAg.i yAg.rf (by rw [hk_h0]; decide)) (show yK [64] d_234 d_256 h0 from by rw [ed_256]; exact yK.i yK.rf (by decide)) (by decide) (by decide)
                              have hE0d_256 : (d_256.1 h0 0).toInt = (d_234.1 h0 0).toInt := congrArg Int32.toInt ((show yK [64] d_234 d_256 h0 from by rw [ed_256]; exact yK.i yK.rf (by decide)) 0 (by decide))
                              have hE1d_256 : (d_256.1 h0 1).toInt = (d_234.1 h0 1).toInt := congrArg Int32.toInt ((show yK [64] d_234 d_256 h0 from by rw [ed_256]; exact yK.i yK.rf (by decide)) 1 (by decide))
                              have hE2d_256 : (d_256.1 h0 2).toInt = (d_234.1 h0 2).toInt := congrArg Int32.toInt ((show yK [64] d_234 d_256 h0 from by rw [ed_256]; exact yK.i yK.rf (by decide)) 2 (by decide))
                              have hE3d_256 : (d_256.1 h0 3).toInt = (d_234.1 h0 3).toInt := congrArg Int32.toInt ((show yK [64] d_234 d_256 h0 from by rw [ed_256]; exact yK.i yK.rf (by decide)) 3 (by decide))
                              have hE63d_256 : (d_256.1 h0 63).toInt = (d_234.1 h0 63).toInt := congrArg Int32.toInt ((show yK [64] d_234 d_256 h0 from by rw [ed_256]; exact yK.i yK.rf (by decide)) 63 (by decide))
                              refine lv_aload_n hx hb dX9_step_461 rfl (lv_at hl 0 rfl) ?_
                              refine yget (ci := 9) (k := 64) (v := .int (d_256.1 h0 64)) (C := RX9) (T := TX9) (N := 67) C0 hK hP hm_h0 hk_h0 (by decide) rfl inlX9 (by decide) mW867 (fun _ h9 => h9) rfl dX9_step_462 ?_
                              refine lv_topi (fun z_257 ez_257 => ?_)
                              refine lv_aload_n hx hb dX9_step_465 rfl (lv_at hl 0 rfl) ?_
                              refine yget (ci := 9) (k := 18) (v := .ref (S.2.2.1 h0 18)) (C := RX9) (T := TX9) (N := 67) C0 hK hP hm_h0 hk_h0 (by decide) rfl inlX9 (by decide) mW125 (fun _ h9 => h9) rfl dX9_step_466 ?_
                              obtain ⟨hmy_258, hky_258⟩ := ySh.f9_18 hSh _ hm_h0 hk_h0
                              refine lv_aload_n hx hb dX9_step_469 rfl (lv_at hl 0 rfl) ?_
                              refine yget (ci := 9) (k := 63) (v := .int (d_256.1 h0 63)) (C := RX9) (T := TX9) (N := 67) C0 hK hP hm_h0 hk_h0 (by decide) rfl inlX9 (by decide) mW866 (fun _ h9 => h9) rfl dX9_step_470 ?_
                              refine lv_topi (fun z_259 ez_259 => ?_)
                              have hCC_260 := yMI.c hId_256
                              have F_262 := feq (rfl : (z_252 : Int32).toInt = (z_252 : Int32).toInt) (rfl : (v_211 : Int32).toInt = (v_211 : Int32).toInt) c_253
                              have T_263 : (z_259 : Int32).toInt = (d_256.1 h0 63).toInt := by rw [ez_259]
                              refine yald C0 hK hP hmy_258 hky_258 (by decide) rfl 0 rfl (xinT 500 rfl (by omega) (by omega)) dX9_step_473 ?_
                              refine lv_topi (fun z_264 ez_264 => ?_)
                              refine lv_icmp_ne (tgt := 507) hx hb dX9_step_474 (by decide) (fun c_265 => ?_) (fun c_265 => ?_)
                              · exact W.vret hx hb hr (fun t ht hW => ⟨⟨d_256, rfl, ⟨hgd_256, (fun _ => hPod_256), hfd_256, hId_256⟩, by rw [ht]; exact hP, hD⟩, hS.F ht⟩) hS.2.2 dX9_step_507
                              · refine lv_aload_n hx hb dX9_step_477 rfl (lv_at hl 0 rfl) ?_
                                refine lv_dup hx hb dX9_step_478 rfl ?_
                                refine yget (ci := 9) (k := 63) (v := .int (d_256.1 h0 63)) (C := RX9) (T := TX9) (N := 67) C0 hK hP hm_h0 hk_h0 (by decide) rfl inlX9 (by decide) mW866 (fun _ h9 => h9) rfl dX9_step_479 ?_
                                rw [← ez_259]
                                refine lv_iconst (v := 1) hx hb dX9_step_482 (by decide) ?_
                                refine lv_iadd hx hb dX9_step_483 ?_
                                refine lv_topi (fun z_266 ez_266 => ?_)
                                refine yputI (ci := 9) (k := 63) (ty := .int) (C := RX9) (T := TX9) (N := 67) C0 hK hP hD hS hm_h0 hk_h0 (by decide) rfl inlX9 tyX9 tyX9_ok nmX9 (by decide) mW866 (fun _ h9 => h9) rfl (by decide +kernel) rfl rfl (Nat.le_of_ble_eq_true rfl) ysi_9_63 dX9_step_484 (fun H locs hP hD hS => ?_)
                                obtain ⟨d_267, ed_267⟩ : ∃ z : yD, z = yi d_256 h0 63 z_266 := ⟨_, rfl⟩
                                rw [← ed_267] at hP hD
                                have hgd_267 : yAg S [9, 77, 78] d d_267 := by rw [ed_267]; exact yAg.i hgd_256 (by rw [hk_h0]; decide)
                                have hsd_267 : yAg S [9] d_256 d_267 := by rw [ed_267]; exact yAg.i yAg.rf (by rw [hk_h0]; decide)
                                have hPod_267 : yPo S d_267 := by rw [ed_267]; exact yPo.i hPod_256 hk_h0 (Or.inl rfl)
                                have hfd_267 : yK [54, 55, 57, 63, 64, 65] d d_267 h0 := by rw [ed_267]; exact yK.i hfd_256 (by decide)
                                have T_268 : (z_257 : Int32).toInt = (d_256.1 h0 64).toInt := by rw [ez_257]
                                have F_270 := feq (rfl : (z_257 : Int32).toInt = (z_257 : Int32).toInt) (rfl : (z_264 : Int32).toInt = (z_264 : Int32).toInt) c_265
                                have T_271 : (z_266 : Int32).toInt = (z_259 : Int32).toInt + 1 := tadd ez_266 (rfl : (z_259 : Int32).toInt = (z_259 : Int32).toInt) (by decide +kernel : (1 : Int32).toInt = 1) (by omega) (by omega)
                                have hId_267 : yMI S d_267 h0 := by rw [ed_267]; exact yMI.i63 hId_256 ⟨by omega, by omega⟩
                                have hE0d_267 : (d_267.1 h0 0).toInt = (d_256.1 h0 0).toInt := congrArg Int32.toInt ((show yK [63] d_256 d_267 h0 from by rw [ed_267]; exact yK.i yK.rf (by decide)) 0 (by decide))
                                have hE1d_267 : (d_267.1 h0 1).toInt = (d_256.1 h0 1).toInt := congrArg Int32.toInt ((show yK [63] d_256 d_267 h0 from by rw [ed_267]; exact yK.i yK.rf (by decide)) 1 (by decide))
                                have hE2d_267 : (d_267.1 h0 2).toInt = (d_256.1 h0 2).toInt := congrArg Int32.toInt ((show yK [63] d_256 d_267 h0 from by rw [ed_267]; exact yK.i yK.rf (by decide)) 2 (by decide))
                                have hE3d_267 : (d_267.1 h0 3).toInt = (d_256.1 h0 3).toInt := congrArg Int32.toInt ((show yK [63] d_256 d_267 h0 from by rw [ed_267]; exact yK.i yK.rf (by decide)) 3 (by decide))
                                have hE63d_267 : (d_267.1 h0 63).toInt = (z_266 : Int32).toInt := by rw [ed_267, yi_self]
                                refine lv_aload_n hx hb dX9_step_487 rfl (lv_at hl 0 rfl) ?_
                                refine lv_iconst (v := 0) hx hb dX9_step_488 (by decide) ?_
                                refine yputI (ci := 9) (k := 64) (ty := .int) (C := RX9) (T := TX9) (N := 67) C0 hK hP hD hS hm_h0 hk_h0 (by decide) rfl inlX9 tyX9 tyX9_ok nmX9 (by decide) mW867 (fun _ h9 => h9) rfl (by decide +kernel) rfl rfl (Nat.le_of_ble_eq_true rfl) ysi_9_64 dX9_step_489 (fun H locs hP hD hS => ?_)
                                obtain ⟨d_272, ed_272⟩ : ∃ z : yD, z = yi d_267 h0 64 0 := ⟨_, rfl⟩
                                rw [← ed_272] at hP hD
                                have hgd_272 : yAg S [9, 77, 78] d d_272 := by rw [ed_272]; exact yAg.i hgd_267 (by rw [hk_h0]; decide)
                                have hsd_272 : yAg S [9] d_267 d_272 := by rw [ed_272]; exact yAg.i yAg.rf (by rw [hk_h0]; decide)
                                have hPod_272 : yPo S d_272 := by rw [ed_272]; exact yPo.i hPod_267 hk_h0 (Or.inl rfl)
                                have hfd_272 : yK [54, 55, 57, 63, 64, 65] d d_272 h0 := by rw [ed_272]; exact yK.i hfd_267 (by decide)
                                have hId_272 : yMI S d_272 h0 := yMI.ag hId_267 hSh hm_h0 hk_h0 (show yAg S [9] d_267 d_272 from by rw [ed_272]; exact yAg.i yAg.rf (by rw [hk_h0]; decide)) (show yK [64] d_267 d_272 h0 from by rw [ed_272]; exact yK.i yK.rf (by decide)) (by decide) (by decide)
                                have hE0d_272 : (d_272.1 h0 0).toInt = (d_267.1 h0 0).toInt := congrArg Int32.toInt ((show yK [64] d_267 d_272 h0 from by rw [ed_272]; exact yK.i yK.rf (by decide)) 0 (by decide))
                                have hE1d_272 : (d_272.1 h0 1).toInt = (d_267.1 h0 1).toInt := congrArg Int32.toInt ((show yK [64] d_267 d_272 h0 from by rw [ed_272]; exact yK.i yK.rf (by decide)) 1 (by decide))
                                have hE2d_272 : (d_272.1 h0 2).toInt = (d_267.1 h0 2).toInt := congrArg Int32.toInt ((show yK [64] d_267 d_272 h0 from by rw [ed_272]; exact yK.i yK.rf (by decide)) 2 (by decide))
                                have hE3d_272 : (d_272.1 h0 3).toInt = (d_267.1 h0 3).toInt := congrArg Int32.toInt ((show yK [64] d_267 d_272 h0 from by rw [ed_272]; exact yK.i yK.rf (by decide)) 3 (by decide))
                                have hE63d_272 : (d_272.1 h0 63).toInt = (d_267.1 h0 63).toInt := congrArg Int32.toInt ((show yK [64] d_267 d_272 h0 from by rw [ed_272]; exact yK.i yK.rf (by decide)) 63 (by decide))
                                refine lv_goto (tgt := 507) hx hb dX9_step_492 (by decide) ?_
                                exact W.vret hx hb hr (fun t ht hW => ⟨⟨d_272, rfl, ⟨hgd_272, (fun _ => hPod_272), hfd_272, hId_272⟩, by rw [ht]; exact hP, hD⟩, hS.F ht⟩) hS.2.2 dX9_step_507
                            · refine lv_aload_n hx hb dX9_step_446 rfl (lv_at hl 0 rfl) ?_
                              refine lv_iload_n hx hb dX9_step_447 rfl (lv_at hl 1 rfl) ?_
                              refine yputI (ci := 9) (k := 65) (ty := .int) (C := RX9) (T := TX9) (N := 67) C0 hK hP hD hS hm_h0 hk_h0 (by decide) rfl inlX9 tyX9 tyX9_ok nmX9 (by decide) mW868 (fun _ h9 => h9) rfl (by decide +kernel) rfl rfl (Nat.le_of_ble_eq_true rfl) ysi_9_65 dX9_step_448 (fun H locs hP hD hS => ?_)
                              obtain ⟨d_273, ed_273⟩ : ∃ z : yD, z = yi d_234 h0 65 p1 := ⟨_, rfl⟩
                              rw [← ed_273] at hP hD
                              have hgd_273 : yAg S [9, 77, 78] d d_273 := by rw [ed_273]; exact yAg.i hgd_234 (by rw [hk_h0]; decide)
                              have hsd_273 : yAg S [9] d_234 d_273 := by rw [ed_273]; exact yAg.i yAg.rf (by rw [hk_h0]; decide)
                              have hPod_273 : yPo S d_273 := by rw [ed_273]; exact yPo.i hPod_234 hk_h0 (Or.inl rfl)
                              have hfd_273 : yK [54, 55, 57, 63, 64, 65] d d_273 h0 := by rw [ed_273]; exact yK.i hfd_234 (by decide)
                              have hId_273 : yMI S d_273 h0 := yMI.ag hId_234 hSh hm_h0 hk_h0 (show yAg S [9] d_234 d_273 from by rw [ed_273]; exact yAg.i yAg.rf (by rw [hk_h0]; decide)) (show yK [65] d_234 d_273 h0 from by rw [ed_273]; exact yK.i yK.rf (by decide)) (by decide) (by decide)
                              have hE0d_273 : (d_273.1 h0 0).toInt = (d_234.1 h0 0).toInt := congrArg Int32.toInt ((show yK [65] d_234 d_273 h0 from by rw [ed_273]; exact yK.i yK.rf (by decide)) 0 (by decide))
                              have hE1d_273 : (d_273.1 h0 1).toInt = (d_234.1 h0 1).toInt := congrArg Int32.toInt ((show yK [65] d_234 d_273 h0 from by rw [ed_273]; exact yK.i yK.rf (by decide)) 1 (by decide))
                              have hE2d_273 : (d_273.1 h0 2).toInt = (d_234.1 h0 2).toInt := congrArg Int32.toInt ((show yK [65] d_234 d_273 h0 from by rw [ed_273]; exact yK.i yK.rf (by decide)) 2 (by decide))
                              have hE3d_273 : (d_273.1 h0 3).toInt = (d_234.1 h0 3).toInt := congrArg Int32.toInt ((show yK [65] d_234 d_273 h0 from by rw [ed_273]; exact yK.i yK.rf (by decide)) 3 (by decide))
                              have hE63d_273 : (d_273.1 h0 63).toInt = (d_234.1 h0 63).toInt := congrArg Int32.toInt ((show yK [65] d_234 d_273 h0 from by rw [ed_273]; exact yK.i yK.rf (by decide)) 63 (by decide))
                              refine lv_aload_n hx hb dX9_step_451 rfl (lv_at hl 0 rfl) ?_
                              refine lv_dup hx hb dX9_step_452 rfl ?_
                              refine yget (ci := 9) (k := 64) (v := .int (d_273.1 h0 64)) (C := RX9) (T := TX9) (N := 67) C0 hK hP hm_h0 hk_h0 (by decide) rfl inlX9 (by decide) mW867 (fun _ h9 => h9) rfl dX9_step_453 ?_
                              refine lv_topi (fun z_274 ez_274 => ?_)
                              refine lv_iconst (v := 1) hx hb dX9_step_456 (by decide) ?_
                              refine lv_iadd hx hb dX9_step_457 ?_
                              refine lv_topi (fun z_275 ez_275 => ?_)
                              refine yputI (ci := 9) (k := 64) (ty := .int) (C := RX9) (T := TX9) (N := 67) C0 hK hP hD hS hm_h0 hk_h0 (by decide) rfl inlX9 tyX9 tyX9_ok nmX9 (by decide) mW867 (fun _ h9 => h9) rfl (by decide +kernel) rfl rfl (Nat.le_of_ble_eq_true rfl) ysi_9_64 dX9_step_458 (fun H locs hP hD hS => ?_)
                              obtain ⟨d_276, ed_276⟩ : ∃ z : yD, z = yi d_273 h0 64 z_275 := ⟨_, rfl⟩
                              rw [← ed_276] at hP hD
                              have hgd_276 : yAg S [9, 77, 78] d d_276 := by rw [ed_276]; exact yAg.i hgd_273 (by rw [hk_h0]; decide)
                              have hsd_276 : yAg S [9] d_273 d_276 := by rw [ed_276]; exact yAg.i yAg.rf (by rw [hk_h0]; decide)
                              have hPod_276 : yPo S d_276 := by rw [ed_276]; exact yPo.i hPod_273 hk_h0 (Or.inl rfl)
                              have hfd_276 : yK [54, 55, 57, 63, 64, 65] d d_276 h0 := by rw [ed_276]; exact yK.i hfd_273 (by decide)
                              have hId_276 : yMI S d_276 h0 := yMI.ag hId_273 hSh hm_h0 hk_h0 (show yAg S [9] d_273 d_276 from by rw [ed_276]; exact yAg.i yAg.rf (by rw [hk_h0]; decide)) (show yK [64] d_273 d_276 h0 from by rw [ed_276]; exact yK.i yK.rf (by decide)) (by decide) (by decide)
                              have hE0d_276 : (d_276.1 h0 0).toInt = (d_273.1 h0 0).toInt := congrArg Int32.toInt ((show yK [64] d_273 d_276 h0 from by rw [ed_276]; exact yK.i yK.rf (by decide)) 0 (by decide))
                              have hE1d_276 : (d_276.1 h0 1).toInt = (d_273.1 h0 1).toInt := congrArg Int32.toInt ((show yK [64] d_273 d_276 h0 from by rw [ed_276]; exact yK.i yK.rf (by decide)) 1 (by decide))
                              have hE2d_276 : (d_276.1 h0 2).toInt = (d_273.1 h0 2).toInt := congrArg Int32.toInt ((show yK [64] d_273 d_276 h0 from by rw [ed_276]; exact yK.i yK.rf (by decide)) 2 (by decide))
                              have hE3d_276 : (d_276.1 h0 3).toInt = (d_273.1 h0 3).toInt := congrArg Int32.toInt ((show yK [64] d_273 d_276 h0 from by rw [ed_276]; exact yK.i yK.rf (by decide)) 3 (by decide))
                              have hE63d_276 : (d_276.1 h0 63).toInt = (d_273.1 h0 63).toInt := congrArg Int32.toInt ((show yK [64] d_273 d_276 h0 from by rw [ed_276]; exact yK.i yK.rf (by decide)) 63 (by decide))
                              refine lv_aload_n hx hb dX9_step_461 rfl (lv_at hl 0 rfl) ?_
                              refine yget (ci := 9) (k := 64) (v := .int (d_276.1 h0 64)) (C := RX9) (T := TX9) (N := 67) C0 hK hP hm_h0 hk_h0 (by decide) rfl inlX9 (by decide) mW867 (fun _ h9 => h9) rfl dX9_step_462 ?_
                              refine lv_topi (fun z_277 ez_277 => ?_)
                              refine lv_aload_n hx hb dX9_step_465 rfl (lv_at hl 0 rfl) ?_
                              refine yget (ci := 9) (k := 18) (v := .ref (S.2.2.1 h0 18)) (C := RX9) (T := TX9) (N := 67) C0 hK hP hm_h0 hk_h0 (by decide) rfl inlX9 (by decide) mW125 (fun _ h9 => h9) rfl dX9_step_466 ?_
                              obtain ⟨hmy_278, hky_278⟩ := ySh.f9_18 hSh _ hm_h0 hk_h0
                              refine lv_aload_n hx hb dX9_step_469 rfl (lv_at hl 0 rfl) ?_
                              refine yget (ci := 9) (k := 63) (v := .int (d_276.1 h0 63)) (C := RX9) (T := TX9) (N := 67) C0 hK hP hm_h0 hk_h0 (by decide) rfl inlX9 (by decide) mW866 (fun _ h9 => h9) rfl dX9_step_470 ?_
                              refine lv_topi (fun z_279 ez_279 => ?_)
                              have hCC_280 := yMI.c hId_276
                              have F_282 := fne (rfl : (z_252 : Int32).toInt = (z_252 : Int32).toInt) (rfl : (v_211 : Int32).toInt = (v_211 : Int32).toInt) c_253
                              have T_283 : (z_279 : Int32).toInt = (d_276.1 h0 63).toInt := by rw [ez_279]
                              refine yald C0 hK hP hmy_278 hky_278 (by decide) rfl 0 rfl (xinT 500 rfl (by omega) (by omega)) dX9_step_473 ?_
                              refine lv_topi (fun z_284 ez_284 => ?_)
                              refine lv_icmp_ne (tgt := 507) hx hb dX9_step_474 (by decide) (fun c_285 => ?_) (fun c_285 => ?_)
                              · exact W.vret hx hb hr (fun t ht hW => ⟨⟨d_276, rfl, ⟨hgd_276, (fun _ => hPod_276), hfd_276, hId_276⟩, by rw [ht]; exact hP, hD⟩, hS.F ht⟩) hS.2.2 dX9_step_507
                              · refine lv_aload_n hx hb dX9_step_477 rfl (lv_at hl 0 rfl) ?_
                                refine lv_dup hx hb dX9_step_478 rfl ?_
                                refine yget (ci := 9) (k := 63) (v := .int (d_276.1 h0 63)) (C := RX9) (T := TX9) (N := 67) C0 hK hP hm_h0 hk_h0 (by decide) rfl inlX9 (by decide) mW866 (fun _ h9 => h9) rfl dX9_step_479 ?_
                                rw [← ez_279]
                                refine lv_iconst (v := 1) hx hb dX9_step_482 (by decide) ?_
                                refine lv_iadd hx hb dX9_step_483 ?_
                                refine lv_topi (fun z_286 ez_286 => ?_)
                                refine yputI (ci := 9) (k := 63) (ty := .int) (C := RX9) (T := TX9) (N := 67) C0 hK hP hD hS hm_h0 hk_h0 (by decide) rfl inlX9 tyX9 tyX9_ok nmX9 (by decide) mW866 (fun _ h9 => h9) rfl (by decide +kernel) rfl rfl (Nat.le_of_ble_eq_true rfl) ysi_9_63 dX9_step_484 (fun H locs hP hD hS => ?_)
                                obtain ⟨d_287, ed_287⟩ : ∃ z : yD, z = yi d_276 h0 63 z_286 := ⟨_, rfl⟩
                                rw [← ed_287] at hP hD
                                have hgd_287 : yAg S [9, 77, 78] d d_287 := by rw [ed_287]; exact yAg.i hgd_276 (by rw [hk_h0]; decide)
                                have hsd_287 : yAg S [9] d_276 d_287 := by rw [ed_287]; exact yAg.i yAg.rf (by rw [hk_h0]; decide)
                                have hPod_287 : yPo S d_287 := by rw [ed_287]; exact yPo.i hPod_276 hk_h0 (Or.inl rfl)
                                have hfd_287 : yK [54, 55, 57, 63, 64, 65] d d_287 h0 := by rw [ed_287]; exact yK.i hfd_276 (by decide)
                                have T_288 : (z_277 : Int32).toInt = (d_276.1 h0 64).toInt := by rw [ez_277]
                                have F_290 := feq (rfl : (z_277 : Int32).toInt = (z_277 : Int32).toInt) (rfl : (z_284 : Int32).toInt = (z_284 : Int32).toInt) c_285
                                have T_291 : (z_286 : Int32).toInt = (z_279 : Int32).toInt + 1 := tadd ez_286 (rfl : (z_279 : Int32).toInt = (z_279 : Int32).toInt) (by decide +kernel : (1 : Int32).toInt = 1) (by omega) (by omega)
                                have hId_287 : yMI S d_287 h0 := by rw [ed_287]; exact yMI.i63 hId_276 ⟨by omega, by omega⟩
                                have hE0d_287 : (d_287.1 h0 0).toInt = (d_276.1 h0 0).toInt := congrArg Int32.toInt ((show yK [63] d_276 d_287 h0 from by rw [ed_287]; exact yK.i yK.rf (by decide)) 0 (by decide))
                                have hE1d_287 : (d_287.1 h0 1).toInt = (d_276.1 h0 1).toInt := congrArg Int32.toInt ((show yK [63] d_276 d_287 h0 from by rw [ed_287]; exact yK.i yK.rf (by decide)) 1 (by decide))
                                have hE2d_287 : (d_287.1 h0 2).toInt = (d_276.1 h0 2).toInt := congrArg Int32.toInt ((show yK [63] d_276 d_287 h0 from by rw [ed_287]; exact yK.i yK.rf (by decide)) 2 (by decide))
                                have hE3d_287 : (d_287.1 h0 3).toInt = (d_276.1 h0 3).toInt := congrArg Int32.toInt ((show yK [63] d_276 d_287 h0 from by rw [ed_287]; exact yK.i yK.rf (by decide)) 3 (by decide))
                                have hE63d_287 : (d_287.1 h0 63).toInt = (z_286 : Int32).toInt := by rw [ed_287, yi_self]
                                refine lv_aload_n hx hb dX9_step_487 rfl (lv_at hl 0 rfl) ?_
                                refine lv_iconst (v := 0) hx hb dX9_step_488 (by decide) ?_
                                refine yputI (ci := 9) (k := 64) (ty := .int) (C := RX9) (T := TX9) (N := 67) C0 hK hP hD hS hm_h0 hk_h0 (by decide) rfl inlX9 tyX9 tyX9_ok nmX9 (by decide) mW867 (fun _ h9 => h9) rfl (by decide +kernel) rfl rfl (Nat.le_of_ble_eq_true rfl) ysi_9_64 dX9_step_489 (fun H locs hP hD hS => ?_)
                                obtain ⟨d_292, ed_292⟩ : ∃ z : yD, z = yi d_287 h0 64 0 := ⟨_, rfl⟩
                                rw [← ed_292] at hP hD
                                have hgd_292 : yAg S [9, 77, 78] d d_292 := by rw [ed_292]; exact yAg.i hgd_287 (by rw [hk_h0]; decide)
                                have hsd_292 : yAg S [9] d_287 d_292 := by rw [ed_292]; exact yAg.i yAg.rf (by rw [hk_h0]; decide)
                                have hPod_292 : yPo S d_292 := by rw [ed_292]; exact yPo.i hPod_287 hk_h0 (Or.inl rfl)
                                have hfd_292 : yK [54, 55, 57, 63, 64, 65] d d_292 h0 := by rw [ed_292]; exact yK.i hfd_287 (by decide)
                                have hId_292 : yMI S d_292 h0 := yMI.ag hId_287 hSh hm_h0 hk_h0 (show yAg S [9] d_287 d_292 from by rw [ed_292]; exact yAg.i yAg.rf (by rw [hk_h0]; decide)) (show yK [64] d_287 d_292 h0 from by rw [ed_292]; exact yK.i yK.rf (by decide)) (by decide) (by decide)
                                have hE0d_292 : (d_292.1 h0 0).toInt = (d_287.1 h0 0).toInt := congrArg Int32.toInt ((show yK [64] d_287 d_292 h0 from by rw [ed_292]; exact yK.i yK.rf (by decide)) 0 (by decide))
                                have hE1d_292 : (d_292.1 h0 1).toInt = (d_287.1 h0 1).toInt := congrArg Int32.toInt ((show yK [64] d_287 d_292 h0 from by rw [ed_292]; exact yK.i yK.rf (by decide)) 1 (by decide))
                                have hE2d_292 : (d_292.1 h0 2).toInt = (d_287.1 h0 2).toInt := congrArg Int32.toInt ((show yK [64] d_287 d_292 h0 from by rw [ed_292]; exact yK.i yK.rf (by decide)) 2 (by decide))
                                have hE3d_292 : (d_292.1 h0 3).toInt = (d_287.1 h0 3).toInt := congrArg Int32.toInt ((show yK [64] d_287 d_292 h0 from by rw [ed_292]; exact yK.i yK.rf (by decide)) 3 (by decide))
                                have hE63d_292 : (d_292.1 h0 63).toInt = (d_287.1 h0 63).toInt := congrArg Int32.toInt ((show yK [64] d_287 d_292 h0 from by rw [ed_292]; exact yK.i yK.rf (by decide)) 63 (by decide))
                                refine lv_goto (tgt := 507) hx hb dX9_step_492 (by decide) ?_
                                exact W.vret hx hb hr (fun t ht hW => ⟨⟨d_292, rfl, ⟨hgd_292, (fun _ => hPod_292), hfd_292, hId_292⟩, by rw [ht]; exact hP, hD⟩, hS.F ht⟩) hS.2.2 dX9_step_507
                      refine lv_icmp_ne (tgt := 414) hx hb dX9_step_401 (by decide) (fun c_293 => ?_) (fun c_293 => ?_)
                      · exact J414_233 d_232 _ _ ls _ ⟨rfl, hP, hD, hS, hgd_232, hPod_232, hfd_232, hId_232, yAg.rf, yK.rf, lv_sub hl [0, 1, 2] rfl⟩
                      · refine lv_aload_n hx hb dX9_step_404 rfl (lv_at hl 0 rfl) ?_
                        refine lv_dup hx hb dX9_step_405 rfl ?_
                        refine yget (ci := 9) (k := 57) (v := .int (d_232.1 h0 57)) (C := RX9) (T := TX9) (N := 67) C0 hK hP hm_h0 hk_h0 (by decide) rfl inlX9 (by decide) mW880 (fun _ h9 => h9) rfl dX9_step_406 ?_
                        refine lv_topi (fun z_294 ez_294 => ?_)
                        refine lv_iconst (v := 1) hx hb dX9_step_409 (by decide) ?_
                        refine lv_iadd hx hb dX9_step_410 ?_
                        refine lv_topi (fun z_295 ez_295 => ?_)
                        refine yputI (ci := 9) (k := 57) (ty := .int) (C := RX9) (T := TX9) (N := 67) C0 hK hP hD hS hm_h0 hk_h0 (by decide) rfl inlX9 tyX9 tyX9_ok nmX9 (by decide) mW880 (fun _ h9 => h9) rfl (by decide +kernel) rfl rfl (Nat.le_of_ble_eq_true rfl) ysi_9_57 dX9_step_411 (fun H locs hP hD hS => ?_)
                        obtain ⟨d_296, ed_296⟩ : ∃ z : yD, z = yi d_232 h0 57 z_295 := ⟨_, rfl⟩
                        rw [← ed_296] at hP hD
                        have hgd_296 : yAg S [9, 77, 78] d d_296 := by rw [ed_296]; exact yAg.i hgd_232 (by rw [hk_h0]; decide)
                        have hsd_296 : yAg S [9] d_232 d_296 := by rw [ed_296]; exact yAg.i yAg.rf (by rw [hk_h0]; decide)
                        have hPod_296 : yPo S d_296 := by rw [ed_296]; exact yPo.i hPod_232 hk_h0 (Or.inl rfl)
                        have hfd_296 : yK [54, 55, 57, 63, 64, 65] d d_296 h0 := by rw [ed_296]; exact yK.i hfd_232 (by decide)
                        have hL0d_296 : yAg S [9] d_232 d_296 := by rw [ed_296]; exact yAg.i yAg.rf (by rw [hk_h0]; decide)
                        have hK0d_296 : yK [57] d_232 d_296 h0 := by rw [ed_296]; exact yK.i yK.rf (by decide)
                        have hId_296 : yMI S d_296 h0 := yMI.ag hId_232 hSh hm_h0 hk_h0 (show yAg S [9] d_232 d_296 from by rw [ed_296]; exact yAg.i yAg.rf (by rw [hk_h0]; decide)) (show yK [57] d_232 d_296 h0 from by rw [ed_296]; exact yK.i yK.rf (by decide)) (by decide) (by decide)
                        have hE0d_296 : (d_296.1 h0 0).toInt = (d_232.1 h0 0).toInt := congrArg Int32.toInt ((show yK [57] d_232 d_296 h0 from by rw [ed_296]; exact yK.i yK.rf (by decide)) 0 (by decide))
                        have hE1d_296 : (d_296.1 h0 1).toInt = (d_232.1 h0 1).toInt := congrArg Int32.toInt ((show yK [57] d_232 d_296 h0 from by rw [ed_296]; exact yK.i yK.rf (by decide)) 1 (by decide))
                        have hE2d_296 : (d_296.1 h0 2).toInt = (d_232.1 h0 2).toInt := congrArg Int32.toInt ((show yK [57] d_232 d_296 h0 from by rw [ed_296]; exact yK.i yK.rf (by decide)) 2 (by decide))
                        have hE3d_296 : (d_296.1 h0 3).toInt = (d_232.1 h0 3).toInt := congrArg Int32.toInt ((show yK [57] d_232 d_296 h0 from by rw [ed_296]; exact yK.i yK.rf (by decide)) 3 (by decide))
                        have hE63d_296 : (d_296.1 h0 63).toInt = (d_232.1 h0 63).toInt := congrArg Int32.toInt ((show yK [57] d_232 d_296 h0 from by rw [ed_296]; exact yK.i yK.rf (by decide)) 63 (by decide))
                        exact J414_233 d_296 _ _ ls _ ⟨rfl, hP, hD, hS, hgd_296, hPod_296, hfd_296, hId_296, hL0d_296, hK0d_296, lv_sub hl [0, 1, 2] rfl⟩
                    refine lv_icmp_lt (tgt := 395) hx hb dX9_step_372 (by decide) (fun c_297 => ?_) (fun c_297 => ?_)
                    · exact J395_231 d_230 _ _ ls _ ⟨rfl, hP, hD, hS, hgd_230, hPod_230, hfd_230, hId_230, yAg.rf, yK.rf, lv_sub hl [0, 1, 2] rfl⟩
                    · refine lv_iload_n hx hb dX9_step_375 rfl (lv_at hl 1 rfl) ?_
                      refine lv_aload_n hx hb dX9_step_376 rfl (lv_at hl 0 rfl) ?_
                      refine yget (ci := 9) (k := 52) (v := .int (d_230.1 h0 52)) (C := RX9) (T := TX9) (N := 67) C0 hK hP hm_h0 hk_h0 (by decide) rfl inlX9 (by decide) mW864 (fun _ h9 => h9) rfl dX9_step_377 ?_
                      refine lv_topi (fun z_298 ez_298 => ?_)
                      refine lv_icmp_ge (tgt := 395) hx hb dX9_step_380 (by decide) (fun c_299 => ?_) (fun c_299 => ?_)
                      · exact J395_231 d_230 _ _ ls _ ⟨rfl, hP, hD, hS, hgd_230, hPod_230, hfd_230, hId_230, yAg.rf, yK.rf, lv_sub hl [0, 1, 2] rfl⟩
                      · refine lv_aload_n hx hb dX9_step_383 rfl (lv_at hl 0 rfl) ?_
                        refine lv_dup hx hb dX9_step_384 rfl ?_
                        refine yget (ci := 9) (k := 56) (v := .long (d_230.2.1 h0 56)) (C := RX9) (T := TX9) (N := 67) C0 hK hP hm_h0 hk_h0 (by decide) rfl inlX9 (by decide) mW879 (fun _ h9 => h9) rfl dX9_step_385 ?_
                        refine lv_topl (fun z_300 ez_300 => ?_)
                        refine lv_iload hx hb dX9_step_388 (lv_at hl 3 rfl) ?_
                        refine lv_i2l hx hb dX9_step_390 rfl ?_
                        rw [← ez_217]
                        refine lv_ladd hx hb dX9_step_391 ?_
                        refine lv_topl (fun z_301 ez_301 => ?_)
                        refine yputJ (ci := 9) (k := 56) (C := RX9) (T := TX9) (N := 67) C0 hK hP hD hS hm_h0 hk_h0 (by decide) rfl inlX9 tyX9 tyX9_ok nmX9 (by decide) mW879 (fun _ h9 => h9) rfl (by decide +kernel) (Nat.le_of_ble_eq_true rfl) ysj_9_56 dX9_step_392 (fun H locs hP hD hS => ?_)
                        obtain ⟨d_302, ed_302⟩ : ∃ z : yD, z = yj d_230 h0 56 z_301 := ⟨_, rfl⟩
                        rw [← ed_302] at hP hD
                        have hgd_302 : yAg S [9, 77, 78] d d_302 := by rw [ed_302]; exact yAg.j hgd_230 (by rw [hk_h0]; decide)
                        have hsd_302 : yAg S [9] d_230 d_302 := by rw [ed_302]; exact yAg.j yAg.rf (by rw [hk_h0]; decide)
                        have hPod_302 : yPo S d_302 := by rw [ed_302]; exact hPod_230
                        have hfd_302 : yK [54, 55, 57, 63, 64, 65] d d_302 h0 := by rw [ed_302]; exact yK.j hfd_230
                        have hL0d_302 : yAg S [9] d_230 d_302 := by rw [ed_302]; exact yAg.j yAg.rf (by rw [hk_h0]; decide)
                        have hK0d_302 : yK [] d_230 d_302 h0 := by rw [ed_302]; exact yK.j yK.rf
                        have hId_302 : yMI S d_302 h0 := by rw [ed_302]; exact yMI.j hId_230
                        have hE0d_302 : (d_302.1 h0 0).toInt = (d_230.1 h0 0).toInt := congrArg Int32.toInt ((show yK [] d_230 d_302 h0 from by rw [ed_302]; exact yK.j yK.rf) 0 (by decide))
                        have hE1d_302 : (d_302.1 h0 1).toInt = (d_230.1 h0 1).toInt := congrArg Int32.toInt ((show yK [] d_230 d_302 h0 from by rw [ed_302]; exact yK.j yK.rf) 1 (by decide))
                        have hE2d_302 : (d_302.1 h0 2).toInt = (d_230.1 h0 2).toInt := congrArg Int32.toInt ((show yK [] d_230 d_302 h0 from by rw [ed_302]; exact yK.j yK.rf) 2 (by decide))
                        have hE3d_302 : (d_302.1 h0 3).toInt = (d_230.1 h0 3).toInt := congrArg Int32.toInt ((show yK [] d_230 d_302 h0 from by rw [ed_302]; exact yK.j yK.rf) 3 (by decide))
                        have hE63d_302 : (d_302.1 h0 63).toInt = (d_230.1 h0 63).toInt := congrArg Int32.toInt ((show yK [] d_230 d_302 h0 from by rw [ed_302]; exact yK.j yK.rf) 63 (by decide))
                        exact J395_231 d_302 _ _ ls _ ⟨rfl, hP, hD, hS, hgd_302, hPod_302, hfd_302, hId_302, hL0d_302, hK0d_302, lv_sub hl [0, 1, 2] rfl⟩
                  refine lv_icmp_ne (tgt := 367) hx hb dX9_step_341 (by decide) (fun c_303 => ?_) (fun c_303 => ?_)
                  · exact J367_229 d_228 _ _ ls _ ⟨rfl, hP, hD, hS, hgd_228, hPod_228, hfd_228, hId_228, yAg.rf, yK.rf, lv_sub hl [0, 2, 3, 4] rfl⟩
                  · refine lv_aload_n hx hb dX9_step_344 rfl (lv_at hl 0 rfl) ?_
                    refine lv_iload hx hb dX9_step_345 (lv_at hl 3 rfl) ?_
                    refine yputI (ci := 9) (k := 54) (ty := .int) (C := RX9) (T := TX9) (N := 67) C0 hK hP hD hS hm_h0 hk_h0 (by decide) rfl inlX9 tyX9 tyX9_ok nmX9 (by decide) mW878 (fun _ h9 => h9) rfl (by decide +kernel) rfl rfl (Nat.le_of_ble_eq_true rfl) ysi_9_54 dX9_step_347 (fun H locs hP hD hS => ?_)
                    obtain ⟨d_304, ed_304⟩ : ∃ z : yD, z = yi d_228 h0 54 v_211 := ⟨_, rfl⟩
                    rw [← ed_304] at hP hD
                    have hgd_304 : yAg S [9, 77, 78] d d_304 := by rw [ed_304]; exact yAg.i hgd_228 (by rw [hk_h0]; decide)
                    have hsd_304 : yAg S [9] d_228 d_304 := by rw [ed_304]; exact yAg.i yAg.rf (by rw [hk_h0]; decide)
                    have hPod_304 : yPo S d_304 := by rw [ed_304]; exact yPo.i hPod_228 hk_h0 (Or.inl rfl)
                    have hfd_304 : yK [54, 55, 57, 63, 64, 65] d d_304 h0 := by rw [ed_304]; exact yK.i hfd_228 (by decide)
                    have hL0d_304 : yAg S [9] d_228 d_304 := by rw [ed_304]; exact yAg.i yAg.rf (by rw [hk_h0]; decide)
                    have hK0d_304 : yK [54, 55] d_228 d_304 h0 := by rw [ed_304]; exact yK.i yK.rf (by decide)
                    have hId_304 : yMI S d_304 h0 := yMI.ag hId_228 hSh hm_h0 hk_h0 (show yAg S [9] d_228 d_304 from by rw [ed_304]; exact yAg.i yAg.rf (by rw [hk_h0]; decide)) (show yK [54] d_228 d_304 h0 from by rw [ed_304]; exact yK.i yK.rf (by decide)) (by decide) (by decide)
                    have hE0d_304 : (d_304.1 h0 0).toInt = (d_228.1 h0 0).toInt := congrArg Int32.toInt ((show yK [54] d_228 d_304 h0 from by rw [ed_304]; exact yK.i yK.rf (by decide)) 0 (by decide))
                    have hE1d_304 : (d_304.1 h0 1).toInt = (d_228.1 h0 1).toInt := congrArg Int32.toInt ((show yK [54] d_228 d_304 h0 from by rw [ed_304]; exact yK.i yK.rf (by decide)) 1 (by decide))
                    have hE2d_304 : (d_304.1 h0 2).toInt = (d_228.1 h0 2).toInt := congrArg Int32.toInt ((show yK [54] d_228 d_304 h0 from by rw [ed_304]; exact yK.i yK.rf (by decide)) 2 (by decide))
                    have hE3d_304 : (d_304.1 h0 3).toInt = (d_228.1 h0 3).toInt := congrArg Int32.toInt ((show yK [54] d_228 d_304 h0 from by rw [ed_304]; exact yK.i yK.rf (by decide)) 3 (by decide))
                    have hE63d_304 : (d_304.1 h0 63).toInt = (d_228.1 h0 63).toInt := congrArg Int32.toInt ((show yK [54] d_228 d_304 h0 from by rw [ed_304]; exact yK.i yK.rf (by decide)) 63 (by decide))
                    refine lv_aload_n hx hb dX9_step_350 rfl (lv_at hl 0 rfl) ?_
                    refine lv_iload hx hb dX9_step_351 (lv_at hl 3 rfl) ?_
                    refine lv_bipush (v := (-3)) hx hb dX9_step_353 (by decide) ?_
                    refine lv_icmp_ne (tgt := 362) hx hb dX9_step_355 (by decide) (fun c_305 => ?_) (fun c_305 => ?_)
                    · refine lv_iload hx hb dX9_step_362 (lv_at hl 4 rfl) ?_
                      refine yputI (ci := 9) (k := 55) (ty := .int) (C := RX9) (T := TX9) (N := 67) C0 hK hP hD hS hm_h0 hk_h0 (by decide) rfl inlX9 tyX9 tyX9_ok nmX9 (by decide) mW856 (fun _ h9 => h9) rfl (by decide +kernel) rfl rfl (Nat.le_of_ble_eq_true rfl) ysi_9_55 dX9_step_364 (fun H locs hP hD hS => ?_)
                      obtain ⟨d_306, ed_306⟩ : ∃ z : yD, z = yi d_304 h0 55 v_212 := ⟨_, rfl⟩
                      rw [← ed_306] at hP hD
                      have hgd_306 : yAg S [9, 77, 78] d d_306 := by rw [ed_306]; exact yAg.i hgd_304 (by rw [hk_h0]; decide)
                      have hsd_306 : yAg S [9] d_304 d_306 := by rw [ed_306]; exact yAg.i yAg.rf (by rw [hk_h0]; decide)
                      have hPod_306 : yPo S d_306 := by rw [ed_306]; exact yPo.i hPod_304 hk_h0 (Or.inl rfl)
                      have hfd_306 : yK [54, 55, 57, 63, 64, 65] d d_306 h0 := by rw [ed_306]; exact yK.i hfd_304 (by decide)
                      have hL0d_306 : yAg S [9] d_228 d_306 := by rw [ed_306]; exact yAg.i hL0d_304 (by rw [hk_h0]; decide)
                      have hK0d_306 : yK [54, 55] d_228 d_306 h0 := by rw [ed_306]; exact yK.i hK0d_304 (by decide)
                      have hId_306 : yMI S d_306 h0 := yMI.ag hId_304 hSh hm_h0 hk_h0 (show yAg S [9] d_304 d_306 from by rw [ed_306]; exact yAg.i yAg.rf (by rw [hk_h0]; decide)) (show yK [55] d_304 d_306 h0 from by rw [ed_306]; exact yK.i yK.rf (by decide)) (by decide) (by decide)
                      have hE0d_306 : (d_306.1 h0 0).toInt = (d_304.1 h0 0).toInt := congrArg Int32.toInt ((show yK [55] d_304 d_306 h0 from by rw [ed_306]; exact yK.i yK.rf (by decide)) 0 (by decide))
                      have hE1d_306 : (d_306.1 h0 1).toInt = (d_304.1 h0 1).toInt := congrArg Int32.toInt ((show yK [55] d_304 d_306 h0 from by rw [ed_306]; exact yK.i yK.rf (by decide)) 1 (by decide))
                      have hE2d_306 : (d_306.1 h0 2).toInt = (d_304.1 h0 2).toInt := congrArg Int32.toInt ((show yK [55] d_304 d_306 h0 from by rw [ed_306]; exact yK.i yK.rf (by decide)) 2 (by decide))
                      have hE3d_306 : (d_306.1 h0 3).toInt = (d_304.1 h0 3).toInt := congrArg Int32.toInt ((show yK [55] d_304 d_306 h0 from by rw [ed_306]; exact yK.i yK.rf (by decide)) 3 (by decide))
                      have hE63d_306 : (d_306.1 h0 63).toInt = (d_304.1 h0 63).toInt := congrArg Int32.toInt ((show yK [55] d_304 d_306 h0 from by rw [ed_306]; exact yK.i yK.rf (by decide)) 63 (by decide))
                      exact J367_229 d_306 _ _ ls _ ⟨rfl, hP, hD, hS, hgd_306, hPod_306, hfd_306, hId_306, hL0d_306, hK0d_306, lv_sub hl [0, 2, 3, 4] rfl⟩
                    · refine lv_iconst (v := 3) hx hb dX9_step_358 (by decide) ?_
                      refine lv_goto (tgt := 364) hx hb dX9_step_359 (by decide) ?_
                      refine yputI (ci := 9) (k := 55) (ty := .int) (C := RX9) (T := TX9) (N := 67) C0 hK hP hD hS hm_h0 hk_h0 (by decide) rfl inlX9 tyX9 tyX9_ok nmX9 (by decide) mW856 (fun _ h9 => h9) rfl (by decide +kernel) rfl rfl (Nat.le_of_ble_eq_true rfl) ysi_9_55 dX9_step_364 (fun H locs hP hD hS => ?_)
                      obtain ⟨d_307, ed_307⟩ : ∃ z : yD, z = yi d_304 h0 55 3 := ⟨_, rfl⟩
                      rw [← ed_307] at hP hD
                      have hgd_307 : yAg S [9, 77, 78] d d_307 := by rw [ed_307]; exact yAg.i hgd_304 (by rw [hk_h0]; decide)
                      have hsd_307 : yAg S [9] d_304 d_307 := by rw [ed_307]; exact yAg.i yAg.rf (by rw [hk_h0]; decide)
                      have hPod_307 : yPo S d_307 := by rw [ed_307]; exact yPo.i hPod_304 hk_h0 (Or.inl rfl)
                      have hfd_307 : yK [54, 55, 57, 63, 64, 65] d d_307 h0 := by rw [ed_307]; exact yK.i hfd_304 (by decide)
                      have hL0d_307 : yAg S [9] d_228 d_307 := by rw [ed_307]; exact yAg.i hL0d_304 (by rw [hk_h0]; decide)
                      have hK0d_307 : yK [54, 55] d_228 d_307 h0 := by rw [ed_307]; exact yK.i hK0d_304 (by decide)
                      have hId_307 : yMI S d_307 h0 := yMI.ag hId_304 hSh hm_h0 hk_h0 (show yAg S [9] d_304 d_307 from by rw [ed_307]; exact yAg.i yAg.rf (by rw [hk_h0]; decide)) (show yK [55] d_304 d_307 h0 from by rw [ed_307]; exact yK.i yK.rf (by decide)) (by decide) (by decide)
                      have hE0d_307 : (d_307.1 h0 0).toInt = (d_304.1 h0 0).toInt := congrArg Int32.toInt ((show yK [55] d_304 d_307 h0 from by rw [ed_307]; exact yK.i yK.rf (by decide)) 0 (by decide))
                      have hE1d_307 : (d_307.1 h0 1).toInt = (d_304.1 h0 1).toInt := congrArg Int32.toInt ((show yK [55] d_304 d_307 h0 from by rw [ed_307]; exact yK.i yK.rf (by decide)) 1 (by decide))
                      have hE2d_307 : (d_307.1 h0 2).toInt = (d_304.1 h0 2).toInt := congrArg Int32.toInt ((show yK [55] d_304 d_307 h0 from by rw [ed_307]; exact yK.i yK.rf (by decide)) 2 (by decide))
                      have hE3d_307 : (d_307.1 h0 3).toInt = (d_304.1 h0 3).toInt := congrArg Int32.toInt ((show yK [55] d_304 d_307 h0 from by rw [ed_307]; exact yK.i yK.rf (by decide)) 3 (by decide))
                      have hE63d_307 : (d_307.1 h0 63).toInt = (d_304.1 h0 63).toInt := congrArg Int32.toInt ((show yK [55] d_304 d_307 h0 from by rw [ed_307]; exact yK.i yK.rf (by decide)) 63 (by decide))
                      exact J367_229 d_307 _ _ ls _ ⟨rfl, hP, hD, hS, hgd_307, hPod_307, hfd_307, hId_307, hL0d_307, hK0d_307, lv_sub hl [0, 2, 3, 4] rfl⟩
                · exact W.vret hx hb hr (fun t ht hW => ⟨⟨d_223, rfl, ⟨hgd_223, (fun _ => hPod_223), hfd_223, hId_223⟩, by rw [ht]; exact hP, hD⟩, hS.F ht⟩) hS.2.2 dX9_step_323
              refine lv_if_eq (tgt := 315) hx hb dX9_step_295 (by decide) (fun c_308 => ?_) (fun c_308 => ?_)
              · exact J315_222 d_222 _ _ ls _ ⟨rfl, hP, hD, hS, hgd_222, hPod_222, hfd_222, hId_222, yAg.rf, yK.rf, lv_sub hl [1, 2, 3, 5, 6] rfl⟩
              · refine lv_aload_n hx hb dX9_step_298 rfl (lv_at hl 1 rfl) ?_
                refine yget (ci := 9) (k := 58) (v := .long (d_222.2.1 h0 58)) (C := RX9) (T := TX9) (N := 67) C0 hK hP hm_h0 hk_h0 (by decide) rfl inlX9 (by decide) mW873 (fun _ h9 => h9) rfl dX9_step_299 ?_
                refine lv_topl (fun z_309 ez_309 => ?_)
                refine lv_aload_n hx hb dX9_step_302 rfl (lv_at hl 1 rfl) ?_
                refine yget (ci := 9) (k := 59) (v := .long (d_222.2.1 h0 59)) (C := RX9) (T := TX9) (N := 67) C0 hK hP hm_h0 hk_h0 (by decide) rfl inlX9 (by decide) mW874 (fun _ h9 => h9) rfl dX9_step_303 ?_
                refine lv_topl (fun z_310 ez_310 => ?_)
                refine W.lcmp hx hb dX9_step_306 ?_
                refine lv_topi (fun z_311 ez_311 => ?_)
                refine lv_if_lt (tgt := 315) hx hb dX9_step_307 (by decide) (fun c_312 => ?_) (fun c_312 => ?_)
                · exact J315_222 d_222 _ _ ls _ ⟨rfl, hP, hD, hS, hgd_222, hPod_222, hfd_222, hId_222, yAg.rf, yK.rf, lv_sub hl [1, 2, 3, 5, 6] rfl⟩
                · refine lv_aload_n hx hb dX9_step_310 rfl (lv_at hl 1 rfl) ?_
                  refine lv_lload_n hx hb dX9_step_311 rfl (lv_at hl 4 rfl) ?_
                  refine yputJ (ci := 9) (k := 61) (C := RX9) (T := TX9) (N := 67) C0 hK hP hD hS hm_h0 hk_h0 (by decide) rfl inlX9 tyX9 tyX9_ok nmX9 (by decide) mW876 (fun _ h9 => h9) rfl (by decide +kernel) (Nat.le_of_ble_eq_true rfl) ysj_9_61 dX9_step_312 (fun H locs hP hD hS => ?_)
                  obtain ⟨d_313, ed_313⟩ : ∃ z : yD, z = yj d_222 h0 61 p2 := ⟨_, rfl⟩
                  rw [← ed_313] at hP hD
                  have hgd_313 : yAg S [9, 77, 78] d d_313 := by rw [ed_313]; exact yAg.j hgd_222 (by rw [hk_h0]; decide)
                  have hsd_313 : yAg S [9] d_222 d_313 := by rw [ed_313]; exact yAg.j yAg.rf (by rw [hk_h0]; decide)
                  have hPod_313 : yPo S d_313 := by rw [ed_313]; exact hPod_222
                  have hfd_313 : yK [54, 55, 57, 63, 64, 65] d d_313 h0 := by rw [ed_313]; exact yK.j hfd_222
                  have hL1d_313 : yAg S [9] d_222 d_313 := by rw [ed_313]; exact yAg.j yAg.rf (by rw [hk_h0]; decide)
                  have hK1d_313 : yK [] d_222 d_313 h0 := by rw [ed_313]; exact yK.j yK.rf
                  have hId_313 : yMI S d_313 h0 := by rw [ed_313]; exact yMI.j hId_222
                  have hE0d_313 : (d_313.1 h0 0).toInt = (d_222.1 h0 0).toInt := congrArg Int32.toInt ((show yK [] d_222 d_313 h0 from by rw [ed_313]; exact yK.j yK.rf) 0 (by decide))
                  have hE1d_313 : (d_313.1 h0 1).toInt = (d_222.1 h0 1).toInt := congrArg Int32.toInt ((show yK [] d_222 d_313 h0 from by rw [ed_313]; exact yK.j yK.rf) 1 (by decide))
                  have hE2d_313 : (d_313.1 h0 2).toInt = (d_222.1 h0 2).toInt := congrArg Int32.toInt ((show yK [] d_222 d_313 h0 from by rw [ed_313]; exact yK.j yK.rf) 2 (by decide))
                  have hE3d_313 : (d_313.1 h0 3).toInt = (d_222.1 h0 3).toInt := congrArg Int32.toInt ((show yK [] d_222 d_313 h0 from by rw [ed_313]; exact yK.j yK.rf) 3 (by decide))
                  have hE63d_313 : (d_313.1 h0 63).toInt = (d_222.1 h0 63).toInt := congrArg Int32.toInt ((show yK [] d_222 d_313 h0 from by rw [ed_313]; exact yK.j yK.rf) 63 (by decide))
                  exact J315_222 d_313 _ _ ls _ ⟨rfl, hP, hD, hS, hgd_313, hPod_313, hfd_313, hId_313, hL1d_313, hK1d_313, lv_sub hl [1, 2, 3, 5, 6] rfl⟩
            refine lv_if_ge (tgt := 268) hx hb dX9_step_261 (by decide) (fun c_314 => ?_) (fun c_314 => ?_)
            · refine lv_iconst (v := 0) hx hb dX9_step_268 (by decide) ?_
              exact J269_216 0 ls _ ⟨rfl, lv_sub hl [0, 1, 2, 3, 4, 5] rfl, Or.inl rfl⟩
            · refine lv_iconst (v := 1) hx hb dX9_step_264 (by decide) ?_
              refine lv_goto (tgt := 269) hx hb dX9_step_265 (by decide) ?_
              exact J269_216 1 ls _ ⟨rfl, lv_sub hl [0, 1, 2, 3, 4, 5] rfl, Or.inr rfl⟩
          refine lv_if_eq (tgt := 252) hx hb dX9_step_150 (by decide) (fun c_315 => ?_) (fun c_315 => ?_)
          · exact J252_212 ((-3), v_208) ls _ ⟨rfl, lv_sub hl [2, 3, 4, 5, 1, 0] rfl⟩
          · refine lv_aload_n hx hb dX9_step_153 rfl (lv_at hl 2 rfl) ?_
            refine lv_iload_n hx hb dX9_step_154 rfl (lv_at hl 3 rfl) ?_
            refine lv_iload_n hx hb dX9_step_155 rfl (lv_at hl 4 rfl) ?_
            refine lv_aload_n hx hb dX9_step_156 rfl (lv_at hl 2 rfl) ?_
            refine yget (ci := 9) (k := 47) (v := .ref (S.2.2.1 h0 47)) (C := RX9) (T := TX9) (N := 67) C0 hK hP hm_h0 hk_h0 (by decide) rfl inlX9 (by decide) mW152 (fun _ h9 => h9) rfl dX9_step_157 ?_
            obtain ⟨hmy_316, hky_316⟩ := ySh.f9_47 hSh _ hm_h0 hk_h0
            refine lv_iload_n hx hb dX9_step_160 rfl (lv_at hl 3 rfl) ?_
            have F_317 := fne (rfl : (r_210 : Int32).toInt = (r_210 : Int32).toInt) (by decide +kernel : (0 : Int32).toInt = 0) c_315
            refine yald C0 hK hP hmy_316 hky_316 (by decide) rfl 0 rfl (xinT 8 rfl (by omega) (by omega)) dX9_step_161 ?_
            refine lv_topi (fun z_318 ez_318 => ?_)
            refine lv_aload_n hx hb dX9_step_162 rfl (lv_at hl 2 rfl) ?_
            refine yget (ci := 9) (k := 58) (v := .long (d_2.2.1 h0 58)) (C := RX9) (T := TX9) (N := 67) C0 hK hP hm_h0 hk_h0 (by decide) rfl inlX9 (by decide) mW873 (fun _ h9 => h9) rfl dX9_step_163 ?_
            refine lv_topl (fun z_319 ez_319 => ?_)
            refine lv_aload_n hx hb dX9_step_166 rfl (lv_at hl 2 rfl) ?_
            refine yget (ci := 9) (k := 59) (v := .long (d_2.2.1 h0 59)) (C := RX9) (T := TX9) (N := 67) C0 hK hP hm_h0 hk_h0 (by decide) rfl inlX9 (by decide) mW874 (fun _ h9 => h9) rfl dX9_step_167 ?_
            refine lv_topl (fun z_320 ez_320 => ?_)
            refine W.lcmp hx hb dX9_step_170 ?_
            refine lv_topi (fun z_321 ez_321 => ?_)
            refine yjoinR (σ := Int32) 179 (fun x ls st => st = [.int x, .int z_318, .int p1, .int p0, .ref h0] ∧ lv_has ls 12 [(0, .ref h0), (1, .int p0), (2, .int p1), (3, .long p2), (6, .int p4), (7, .int p5), (8, .int p6)] ∧ (x = 0 ∨ x = 1)) (fun x ls st hI => ?_) (fun J179_322 => ?_)
            · obtain ⟨v_322, rfl⟩ : ∃ z, z = x := ⟨_, rfl⟩
              obtain ⟨rfl, hl, hzv_322⟩ := hI
              have hl : lv_has ls 12 [(0, .ref h0), (1, .int p0), (2, .int p1), (3, .long p2), (6, .int p4), (7, .int p5), (8, .int p6)] := hl
              refine lv_iload hx hb dX9_step_179 (lv_at hl 4 rfl) ?_
              refine lv_iload hx hb dX9_step_181 (lv_at hl 5 rfl) ?_
              refine lv_iload hx hb dX9_step_183 (lv_at hl 6 rfl) ?_
              refine yVri (As := [.int p0, .int p1, .int z_318, .int v_322, .int p4, .int p5, .int p6]) (rest := []) C0 (g_X9_teller l G S d_2 h0 p0 p1 z_318 v_322 p4 p5 p6 hSh hm_h0 hk_h0 hId_2 (by refine ⟨?_, ?_⟩ <;> omega) (by refine ⟨?_, ?_⟩ <;> omega) (by refine ⟨?_, ?_⟩ <;> omega)) ok_X9_teller (mW889 : Cond.methodLink RX9 298 yX9_teller ∈ wsT) ⟨Nat.le_of_ble_eq_true rfl, Nat.le_of_ble_eq_true rfl⟩ hP hD hK hN hm_h0 hk_h0 (by decide) rfl rfl rfl hl.1 rfl (Nat.le_of_ble_eq_true rfl) ⟨Nat.le_of_ble_eq_true rfl, Nat.le_of_ble_eq_true rfl⟩ dX9_step_185 (fun r_323 hr_323 => ?_)
              refine lv_istore (lv' := [(9, .int r_323), (0, .ref h0), (1, .int p0), (2, .int p1), (3, .long p2), (6, .int p4), (7, .int p5), (8, .int p6)]) hx hb dX9_step_188 hl (by decide) rfl (fun ls hl => ?_)
              refine lv_aload_n hx hb dX9_step_190 rfl (lv_at hl 1 rfl) ?_
              refine lv_iload_n hx hb dX9_step_191 rfl (lv_at hl 2 rfl) ?_
              refine lv_iconst (v := 1) hx hb dX9_step_192 (by decide) ?_
              refine yVri (As := [.int p0, .int 1]) (rest := []) C0 (g_X9_of l G S d_2 h0 p0 1 hSh hm_h0 hk_h0 (by refine ⟨?_, ?_⟩ <;> omega) (by decide +kernel)) ok_X9_of (mW425 : Cond.methodLink RX9 161 yX9_of ∈ wsT) ⟨Nat.le_of_ble_eq_true rfl, Nat.le_of_ble_eq_true rfl⟩ hP hD hK hN hm_h0 hk_h0 (by decide) rfl rfl rfl hl.1 rfl (Nat.le_of_ble_eq_true rfl) ⟨Nat.le_of_ble_eq_true rfl, Nat.le_of_ble_eq_true rfl⟩ dX9_step_193 (fun r_324 hr_324 => ?_)
              have hOr_324 : (r_324 : Int32).toInt = yOf S d_2 h0 (p0 : Int32).toInt.toNat 1 := by rw [hr_324, show (1 : Int32).toInt.toNat = 1 by decide +kernel]; rfl
              have hbr_324 := xof1 hId_2 (p := p0) (by refine ⟨?_, ?_⟩ <;> omega) hr_324
              refine lv_iload hx hb dX9_step_196 (lv_at hl 7 rfl) ?_
              refine lv_icmp_ne (tgt := 213) hx hb dX9_step_198 (by decide) (fun c_325 => ?_) (fun c_325 => ?_)
              · refine lv_iload hx hb dX9_step_213 (lv_at hl 0 rfl) ?_
                refine lv_istore (lv' := [(11, .int r_323), (9, .int r_323), (0, .ref h0), (1, .int p0), (2, .int p1), (3, .long p2), (6, .int p4), (7, .int p5), (8, .int p6)]) hx hb dX9_step_215 hl (by decide) rfl (fun ls hl => ?_)
                refine lv_iload hx hb dX9_step_217 (lv_at hl 1 rfl) ?_
                refine lv_bipush (v := (-2)) hx hb dX9_step_219 (by decide) ?_
                refine lv_icmp_ne (tgt := 228) hx hb dX9_step_221 (by decide) (fun c_326 => ?_) (fun c_326 => ?_)
                · refine lv_aload_n hx hb dX9_step_228 rfl (lv_at hl 2 rfl) ?_
                  refine lv_bipush (v := 60) hx hb dX9_step_229 (by decide) ?_
                  refine lv_aload_n hx hb dX9_step_231 rfl (lv_at hl 2 rfl) ?_
                  refine lv_iload_n hx hb dX9_step_232 rfl (lv_at hl 3 rfl) ?_
                  refine lv_iconst (v := 1) hx hb dX9_step_233 (by decide) ?_
                  have F_327 := fne (rfl : (r_324 : Int32).toInt = (r_324 : Int32).toInt) (rfl : (p6 : Int32).toInt = (p6 : Int32).toInt) c_325
                  have F_328 := fne (rfl : (r_323 : Int32).toInt = (r_323 : Int32).toInt) (by decide +kernel : ((-2) : Int32).toInt = (-2)) c_326
                  refine yVri (As := [.int p0, .int 1]) (rest := [.int 60, .ref h0]) C0 (g_X9_of l G S d_2 h0 p0 1 hSh hm_h0 hk_h0 (by refine ⟨?_, ?_⟩ <;> omega) (by decide +kernel)) ok_X9_of (mW425 : Cond.methodLink RX9 161 yX9_of ∈ wsT) ⟨Nat.le_of_ble_eq_true rfl, Nat.le_of_ble_eq_true rfl⟩ hP hD hK hN hm_h0 hk_h0 (by decide) rfl rfl rfl hl.1 rfl (Nat.le_of_ble_eq_true rfl) ⟨Nat.le_of_ble_eq_true rfl, Nat.le_of_ble_eq_true rfl⟩ dX9_step_234 (fun r_329 hr_329 => ?_)
                  have hOr_329 : (r_329 : Int32).toInt = yOf S d_2 h0 (p0 : Int32).toInt.toNat 1 := by rw [hr_329, show (1 : Int32).toInt.toNat = 1 by decide +kernel]; rfl
                  have hbr_329 := xof1 hId_2 (p := p0) (by refine ⟨?_, ?_⟩ <;> omega) hr_329
                  refine lv_imul hx hb dX9_step_237 ?_
                  refine lv_topi (fun z_330 ez_330 => ?_)
                  refine lv_iload hx hb dX9_step_238 (lv_at hl 0 rfl) ?_
                  refine lv_iadd hx hb dX9_step_240 ?_
                  refine lv_topi (fun z_331 ez_331 => ?_)
                  refine lv_aload_n hx hb dX9_step_241 rfl (lv_at hl 2 rfl) ?_
                  refine yget (ci := 9) (k := 47) (v := .ref (S.2.2.1 h0 47)) (C := RX9) (T := TX9) (N := 67) C0 hK hP hm_h0 hk_h0 (by decide) rfl inlX9 (by decide) mW152 (fun _ h9 => h9) rfl dX9_step_242 ?_
                  refine lv_iload_n hx hb dX9_step_245 rfl (lv_at hl 3 rfl) ?_
                  refine yald C0 hK hP hmy_316 hky_316 (by decide) rfl 0 rfl (xinT 8 rfl (by omega) (by omega)) dX9_step_246 ?_
                  rw [← ez_318]
                  have T_333 : (z_330 : Int32).toInt = 60 * (r_329 : Int32).toInt := tmul ez_330 (by decide +kernel : (60 : Int32).toInt = 60) (rfl : (r_329 : Int32).toInt = (r_329 : Int32).toInt) (by omega) (by omega)
                  have T_332 : (z_331 : Int32).toInt = (z_330 : Int32).toInt + (r_323 : Int32).toInt := tadd ez_331 (rfl : (z_330 : Int32).toInt = (z_330 : Int32).toInt) (rfl : (r_323 : Int32).toInt = (r_323 : Int32).toInt) (by omega) (by omega)
                  refine yVri (As := [.int z_331, .int z_318]) (rest := []) C0 (g_X9_adds l G S d_2 h0 z_331 z_318 hSh hm_h0 hk_h0 (by refine ⟨?_, ?_⟩ <;> omega)) ok_X9_adds (mW901 : Cond.methodLink RX9 302 yX9_adds ∈ wsT) ⟨Nat.le_of_ble_eq_true rfl, Nat.le_of_ble_eq_true rfl⟩ hP hD hK hN hm_h0 hk_h0 (by decide) rfl rfl rfl hl.1 rfl (Nat.le_of_ble_eq_true rfl) ⟨Nat.le_of_ble_eq_true rfl, Nat.le_of_ble_eq_true rfl⟩ dX9_step_247 (fun r_334 hr_334 => ?_)
                  refine lv_istore (lv' := [(10, .int r_334), (11, .int r_323), (9, .int r_323), (0, .ref h0), (1, .int p0), (2, .int p1), (3, .long p2), (6, .int p4), (7, .int p5), (8, .int p6)]) hx hb dX9_step_250 hl (by decide) rfl (fun ls hl => ?_)
                  exact J252_212 (r_323, r_334) ls _ ⟨rfl, lv_sub hl [3, 4, 5, 6, 2, 0] rfl⟩
                · refine lv_iconst (v := 2) hx hb dX9_step_224 (by decide) ?_
                  refine lv_goto (tgt := 250) hx hb dX9_step_225 (by decide) ?_
                  refine lv_istore (lv' := [(10, .int 2), (11, .int r_323), (9, .int r_323), (0, .ref h0), (1, .int p0), (2, .int p1), (3, .long p2), (6, .int p4), (7, .int p5), (8, .int p6)]) hx hb dX9_step_250 hl (by decide) rfl (fun ls hl => ?_)
                  exact J252_212 (r_323, 2) ls _ ⟨rfl, lv_sub hl [3, 4, 5, 6, 2, 0] rfl⟩
              · refine lv_iload hx hb dX9_step_201 (lv_at hl 0 rfl) ?_
                refine lv_iload hx hb dX9_step_203 (lv_at hl 5 rfl) ?_
                refine lv_icmp_ne (tgt := 213) hx hb dX9_step_205 (by decide) (fun c_335 => ?_) (fun c_335 => ?_)
                · refine lv_iload hx hb dX9_step_213 (lv_at hl 0 rfl) ?_
                  refine lv_istore (lv' := [(11, .int r_323), (9, .int r_323), (0, .ref h0), (1, .int p0), (2, .int p1), (3, .long p2), (6, .int p4), (7, .int p5), (8, .int p6)]) hx hb dX9_step_215 hl (by decide) rfl (fun ls hl => ?_)
                  refine lv_iload hx hb dX9_step_217 (lv_at hl 1 rfl) ?_
                  refine lv_bipush (v := (-2)) hx hb dX9_step_219 (by decide) ?_
                  refine lv_icmp_ne (tgt := 228) hx hb dX9_step_221 (by decide) (fun c_336 => ?_) (fun c_336 => ?_)
                  · refine lv_aload_n hx hb dX9_step_228 rfl (lv_at hl 2 rfl) ?_
                    refine lv_bipush (v := 60) hx hb dX9_step_229 (by decide) ?_
                    refine lv_aload_n hx hb dX9_step_231 rfl (lv_at hl 2 rfl) ?_
                    refine lv_iload_n hx hb dX9_step_232 rfl (lv_at hl 3 rfl) ?_
                    refine lv_iconst (v := 1) hx hb dX9_step_233 (by decide) ?_
                    have F_337 := feq (rfl : (r_324 : Int32).toInt = (r_324 : Int32).toInt) (rfl : (p6 : Int32).toInt = (p6 : Int32).toInt) c_325
                    have F_338 := fne (rfl : (r_323 : Int32).toInt = (r_323 : Int32).toInt) (rfl : (p4 : Int32).toInt = (p4 : Int32).toInt) c_335
                    have F_339 := fne (rfl : (r_323 : Int32).toInt = (r_323 : Int32).toInt) (by decide +kernel : ((-2) : Int32).toInt = (-2)) c_336
                    refine yVri (As := [.int p0, .int 1]) (rest := [.int 60, .ref h0]) C0 (g_X9_of l G S d_2 h0 p0 1 hSh hm_h0 hk_h0 (by refine ⟨?_, ?_⟩ <;> omega) (by decide +kernel)) ok_X9_of (mW425 : Cond.methodLink RX9 161 yX9_of ∈ wsT) ⟨Nat.le_of_ble_eq_true rfl, Nat.le_of_ble_eq_true rfl⟩ hP hD hK hN hm_h0 hk_h0 (by decide) rfl rfl rfl hl.1 rfl (Nat.le_of_ble_eq_true rfl) ⟨Nat.le_of_ble_eq_true rfl, Nat.le_of_ble_eq_true rfl⟩ dX9_step_234 (fun r_340 hr_340 => ?_)
                    have hOr_340 : (r_340 : Int32).toInt = yOf S d_2 h0 (p0 : Int32).toInt.toNat 1 := by rw [hr_340, show (1 : Int32).toInt.toNat = 1 by decide +kernel]; rfl
                    have hbr_340 := xof1 hId_2 (p := p0) (by refine ⟨?_, ?_⟩ <;> omega) hr_340
                    refine lv_imul hx hb dX9_step_237 ?_
                    refine lv_topi (fun z_341 ez_341 => ?_)
                    refine lv_iload hx hb dX9_step_238 (lv_at hl 0 rfl) ?_
                    refine lv_iadd hx hb dX9_step_240 ?_
                    refine lv_topi (fun z_342 ez_342 => ?_)
                    refine lv_aload_n hx hb dX9_step_241 rfl (lv_at hl 2 rfl) ?_
                    refine yget (ci := 9) (k := 47) (v := .ref (S.2.2.1 h0 47)) (C := RX9) (T := TX9) (N := 67) C0 hK hP hm_h0 hk_h0 (by decide) rfl inlX9 (by decide) mW152 (fun _ h9 => h9) rfl dX9_step_242 ?_
                    refine lv_iload_n hx hb dX9_step_245 rfl (lv_at hl 3 rfl) ?_
                    refine yald C0 hK hP hmy_316 hky_316 (by decide) rfl 0 rfl (xinT 8 rfl (by omega) (by omega)) dX9_step_246 ?_
                    rw [← ez_318]
                    have T_344 : (z_341 : Int32).toInt = 60 * (r_340 : Int32).toInt := tmul ez_341 (by decide +kernel : (60 : Int32).toInt = 60) (rfl : (r_340 : Int32).toInt = (r_340 : Int32).toInt) (by omega) (by omega)
                    have T_343 : (z_342 : Int32).toInt = (z_341 : Int32).toInt + (r_323 : Int32).toInt := tadd ez_342 (rfl : (z_341 : Int32).toInt = (z_341 : Int32).toInt) (rfl : (r_323 : Int32).toInt = (r_323 : Int32).toInt) (by omega) (by omega)
                    refine yVri (As := [.int z_342, .int z_318]) (rest := []) C0 (g_X9_adds l G S d_2 h0 z_342 z_318 hSh hm_h0 hk_h0 (by refine ⟨?_, ?_⟩ <;> omega)) ok_X9_adds (mW901 : Cond.methodLink RX9 302 yX9_adds ∈ wsT) ⟨Nat.le_of_ble_eq_true rfl, Nat.le_of_ble_eq_true rfl⟩ hP hD hK hN hm_h0 hk_h0 (by decide) rfl rfl rfl hl.1 rfl (Nat.le_of_ble_eq_true rfl) ⟨Nat.le_of_ble_eq_true rfl, Nat.le_of_ble_eq_true rfl⟩ dX9_step_247 (fun r_345 hr_345 => ?_)
                    refine lv_istore (lv' := [(10, .int r_345), (11, .int r_323), (9, .int r_323), (0, .ref h0), (1, .int p0), (2, .int p1), (3, .long p2), (6, .int p4), (7, .int p5), (8, .int p6)]) hx hb dX9_step_250 hl (by decide) rfl (fun ls hl => ?_)
                    exact J252_212 (r_323, r_345) ls _ ⟨rfl, lv_sub hl [3, 4, 5, 6, 2, 0] rfl⟩
                  · refine lv_iconst (v := 2) hx hb dX9_step_224 (by decide) ?_
                    refine lv_goto (tgt := 250) hx hb dX9_step_225 (by decide) ?_
                    refine lv_istore (lv' := [(10, .int 2), (11, .int r_323), (9, .int r_323), (0, .ref h0), (1, .int p0), (2, .int p1), (3, .long p2), (6, .int p4), (7, .int p5), (8, .int p6)]) hx hb dX9_step_250 hl (by decide) rfl (fun ls hl => ?_)
                    exact J252_212 (r_323, 2) ls _ ⟨rfl, lv_sub hl [3, 4, 5, 6, 2, 0] rfl⟩
                · refine lv_iload hx hb dX9_step_208 (lv_at hl 6 rfl) ?_
                  refine lv_goto (tgt := 215) hx hb dX9_step_210 (by decide) ?_
                  refine lv_istore (lv' := [(11, .int p5), (9, .int r_323), (0, .ref h0), (1, .int p0), (2, .int p1), (3, .long p2), (6, .int p4), (7, .int p5), (8, .int p6)]) hx hb dX9_step_215 hl (by decide) rfl (fun ls hl => ?_)
                  refine lv_iload hx hb dX9_step_217 (lv_at hl 1 rfl) ?_
                  refine lv_bipush (v := (-2)) hx hb dX9_step_219 (by decide) ?_
                  refine lv_icmp_ne (tgt := 228) hx hb dX9_step_221 (by decide) (fun c_346 => ?_) (fun c_346 => ?_)
                  · refine lv_aload_n hx hb dX9_step_228 rfl (lv_at hl 2 rfl) ?_
                    refine lv_bipush (v := 60) hx hb dX9_step_229 (by decide) ?_
                    refine lv_aload_n hx hb dX9_step_231 rfl (lv_at hl 2 rfl) ?_
                    refine lv_iload_n hx hb dX9_step_232 rfl (lv_at hl 3 rfl) ?_
                    refine lv_iconst (v := 1) hx hb dX9_step_233 (by decide) ?_
                    have F_347 := feq (rfl : (r_324 : Int32).toInt = (r_324 : Int32).toInt) (rfl : (p6 : Int32).toInt = (p6 : Int32).toInt) c_325
                    have F_348 := feq (rfl : (r_323 : Int32).toInt = (r_323 : Int32).toInt) (rfl : (p4 : Int32).toInt = (p4 : Int32).toInt) c_335
                    have F_349 := fne (rfl : (r_323 : Int32).toInt = (r_323 : Int32).toInt) (by decide +kernel : ((-2) : Int32).toInt = (-2)) c_346
                    refine yVri (As := [.int p0, .int 1]) (rest := [.int 60, .ref h0]) C0 (g_X9_of l G S d_2 h0 p0 1 hSh hm_h0 hk_h0 (by refine ⟨?_, ?_⟩ <;> omega) (by decide +kernel)) ok_X9_of (mW425 : Cond.methodLink RX9 161 yX9_of ∈ wsT) ⟨Nat.le_of_ble_eq_true rfl, Nat.le_of_ble_eq_true rfl⟩ hP hD hK hN hm_h0 hk_h0 (by decide) rfl rfl rfl hl.1 rfl (Nat.le_of_ble_eq_true rfl) ⟨Nat.le_of_ble_eq_true rfl, Nat.le_of_ble_eq_true rfl⟩ dX9_step_234 (fun r_350 hr_350 => ?_)
                    have hOr_350 : (r_350 : Int32).toInt = yOf S d_2 h0 (p0 : Int32).toInt.toNat 1 := by rw [hr_350, show (1 : Int32).toInt.toNat = 1 by decide +kernel]; rfl
                    have hbr_350 := xof1 hId_2 (p := p0) (by refine ⟨?_, ?_⟩ <;> omega) hr_350
                    refine lv_imul hx hb dX9_step_237 ?_
                    refine lv_topi (fun z_351 ez_351 => ?_)
                    refine lv_iload hx hb dX9_step_238 (lv_at hl 0 rfl) ?_
                    refine lv_iadd hx hb dX9_step_240 ?_
                    refine lv_topi (fun z_352 ez_352 => ?_)
                    refine lv_aload_n hx hb dX9_step_241 rfl (lv_at hl 2 rfl) ?_
                    refine yget (ci := 9) (k := 47) (v := .ref (S.2.2.1 h0 47)) (C := RX9) (T := TX9) (N := 67) C0 hK hP hm_h0 hk_h0 (by decide) rfl inlX9 (by decide) mW152 (fun _ h9 => h9) rfl dX9_step_242 ?_
                    refine lv_iload_n hx hb dX9_step_245 rfl (lv_at hl 3 rfl) ?_
                    refine yald C0 hK hP hmy_316 hky_316 (by decide) rfl 0 rfl (xinT 8 rfl (by omega) (by omega)) dX9_step_246 ?_
                    rw [← ez_318]
                    have T_354 : (z_351 : Int32).toInt = 60 * (r_350 : Int32).toInt := tmul ez_351 (by decide +kernel : (60 : Int32).toInt = 60) (rfl : (r_350 : Int32).toInt = (r_350 : Int32).toInt) (by omega) (by omega)
                    have T_353 : (z_352 : Int32).toInt = (z_351 : Int32).toInt + (p5 : Int32).toInt := tadd ez_352 (rfl : (z_351 : Int32).toInt = (z_351 : Int32).toInt) (rfl : (p5 : Int32).toInt = (p5 : Int32).toInt) (by omega) (by omega)
                    refine yVri (As := [.int z_352, .int z_318]) (rest := []) C0 (g_X9_adds l G S d_2 h0 z_352 z_318 hSh hm_h0 hk_h0 (by refine ⟨?_, ?_⟩ <;> omega)) ok_X9_adds (mW901 : Cond.methodLink RX9 302 yX9_adds ∈ wsT) ⟨Nat.le_of_ble_eq_true rfl, Nat.le_of_ble_eq_true rfl⟩ hP hD hK hN hm_h0 hk_h0 (by decide) rfl rfl rfl hl.1 rfl (Nat.le_of_ble_eq_true rfl) ⟨Nat.le_of_ble_eq_true rfl, Nat.le_of_ble_eq_true rfl⟩ dX9_step_247 (fun r_355 hr_355 => ?_)
                    refine lv_istore (lv' := [(10, .int r_355), (11, .int p5), (9, .int r_323), (0, .ref h0), (1, .int p0), (2, .int p1), (3, .long p2), (6, .int p4), (7, .int p5), (8, .int p6)]) hx hb dX9_step_250 hl (by decide) rfl (fun ls hl => ?_)
                    exact J252_212 (r_323, r_355) ls _ ⟨rfl, lv_sub hl [3, 4, 5, 6, 2, 0] rfl⟩
                  · refine lv_iconst (v := 2) hx hb dX9_step_224 (by decide) ?_
                    refine lv_goto (tgt := 250) hx hb dX9_step_225 (by decide) ?_
                    refine lv_istore (lv' := [(10, .int 2), (11, .int p5), (9, .int r_323), (0, .ref h0), (1, .int p0), (2, .int p1), (3, .long p2), (6, .int p4), (7, .int p5), (8, .int p6)]) hx hb dX9_step_250 hl (by decide) rfl (fun ls hl => ?_)
                    exact J252_212 (r_323, 2) ls _ ⟨rfl, lv_sub hl [3, 4, 5, 6, 2, 0] rfl⟩
            refine lv_if_lt (tgt := 178) hx hb dX9_step_171 (by decide) (fun c_356 => ?_) (fun c_356 => ?_)
            · refine lv_iconst (v := 0) hx hb dX9_step_178 (by decide) ?_
              exact J179_322 0 ls _ ⟨rfl, lv_sub hl [2, 3, 4, 5, 6, 7, 8] rfl, Or.inl rfl⟩
            · refine lv_iconst (v := 1) hx hb dX9_step_174 (by decide) ?_
              refine lv_goto (tgt := 179) hx hb dX9_step_175 (by decide) ?_
              exact J179_322 1 ls _ ⟨rfl, lv_sub hl [2, 3, 4, 5, 6, 7, 8] rfl, Or.inr rfl⟩
        refine lv_if_eq (tgt := 141) hx hb dX9_step_134 (by decide) (fun c_357 => ?_) (fun c_357 => ?_)
        · refine lv_iconst (v := 0) hx hb dX9_step_141 (by decide) ?_
          exact J142_208 0 ls _ ⟨rfl, lv_sub hl [0, 1, 2, 3, 4, 6, 7, 8] rfl⟩
        · refine lv_iconst (v := 2) hx hb dX9_step_137 (by decide) ?_
          refine lv_goto (tgt := 142) hx hb dX9_step_138 (by decide) ?_
          exact J142_208 2 ls _ ⟨rfl, lv_sub hl [0, 1, 2, 3, 4, 6, 7, 8] rfl⟩
      · refine lv_aload_n hx hb dX9_step_43 rfl (lv_at hl 0 rfl) ?_
        refine yget (ci := 9) (k := 16) (v := .ref (S.2.2.1 h0 16)) (C := RX9) (T := TX9) (N := 67) C0 hK hP hm_h0 hk_h0 (by decide) rfl inlX9 (by decide) mW123 (fun _ h9 => h9) rfl dX9_step_44 ?_
        obtain ⟨hmy_358, hky_358⟩ := ySh.f9_16 hSh _ hm_h0 hk_h0
        refine lv_aload_n hx hb dX9_step_47 rfl (lv_at hl 0 rfl) ?_
        refine yget (ci := 9) (k := 48) (v := .ref (S.2.2.1 h0 48)) (C := RX9) (T := TX9) (N := 67) C0 hK hP hm_h0 hk_h0 (by decide) rfl inlX9 (by decide) mW153 (fun _ h9 => h9) rfl dX9_step_48 ?_
        refine lv_iload_n hx hb dX9_step_51 rfl (lv_at hl 1 rfl) ?_
        have F_359 := feq (rfl : (z_166 : Int32).toInt = (z_166 : Int32).toInt) (rfl : (p0 : Int32).toInt = (p0 : Int32).toInt) c_207
        refine yald C0 hK hP hmy_5 hky_5 (by decide) rfl 0 rfl (xinT 8 rfl (by omega) (by omega)) dX9_step_52 ?_
        rw [← ez_7]
        have hvz_7 : 0 ≤ (z_7 : Int32).toInt ∧ (z_7 : Int32).toInt ≤ 5000 := by rw [ez_7]; exact yMI.ne_ hId_2 _
        refine yald C0 hK hP hmy_358 hky_358 (by decide) rfl 0 rfl (xinT 5000 rfl (by omega) (by omega)) dX9_step_53 ?_
        refine lv_topi (fun z_360 ez_360 => ?_)
        have hvz_360 : 0 ≤ (z_360 : Int32).toInt ∧ (z_360 : Int32).toInt ≤ 129599 := by rw [ez_360]; exact yMI.em_ hId_2 _
        refine lv_iload_n hx hb dX9_step_54 rfl (lv_at hl 2 rfl) ?_
        refine lv_icmp_gt (tgt := 128) hx hb dX9_step_55 (by decide) (fun c_361 => ?_) (fun c_361 => ?_)
        · refine lv_bipush (v := (-3)) hx hb dX9_step_128 (by decide) ?_
          refine lv_istore (lv' := [(9, .int (-3)), (0, .ref h0), (1, .int p0), (2, .int p1), (3, .long p2), (5, .int p3), (6, .int p4), (7, .int p5), (8, .int p6)]) hx hb dX9_step_130 hl (by decide) rfl (fun ls hl => ?_)
          refine lv_iload hx hb dX9_step_132 (lv_at hl 5 rfl) ?_
          refine yjoinR (σ := Int32) 142 (fun x ls st => st = [.int x] ∧ lv_has ls 12 [(9, .int (-3)), (0, .ref h0), (1, .int p0), (2, .int p1), (3, .long p2), (6, .int p4), (7, .int p5), (8, .int p6)]) (fun x ls st hI => ?_) (fun J142_362 => ?_)
          · obtain ⟨v_362, rfl⟩ : ∃ z, z = x := ⟨_, rfl⟩
            obtain ⟨rfl, hl⟩ := hI
            have hl : lv_has ls 12 [(9, .int (-3)), (0, .ref h0), (1, .int p0), (2, .int p1), (3, .long p2), (6, .int p4), (7, .int p5), (8, .int p6)] := hl
            refine lv_istore (lv' := [(10, .int v_362), (9, .int (-3)), (0, .ref h0), (1, .int p0), (2, .int p1), (3, .long p2), (6, .int p4), (7, .int p5), (8, .int p6)]) hx hb dX9_step_142 hl (by decide) rfl (fun ls hl => ?_)
            refine lv_aload_n hx hb dX9_step_144 rfl (lv_at hl 2 rfl) ?_
            refine lv_iload_n hx hb dX9_step_145 rfl (lv_at hl 3 rfl) ?_
            refine lv_iload_n hx hb dX9_step_146 rfl (lv_at hl 4 rfl) ?_
            have F_364 := flt (rfl : (p1 : Int32).toInt = (p1 : Int32).toInt) (rfl : (z_360 : Int32).toInt = (z_360 : Int32).toInt) c_361
            refine yVri (As := [.int p0, .int p1]) (rest := []) C0 (g_X9_isKnown l G S d_2 h0 p0 p1 hSh hm_h0 hk_h0 (by refine ⟨?_, ?_⟩ <;> omega) (by refine ⟨?_, ?_⟩ <;> omega)) ok_X9_isKnown (mW429 : Cond.methodLink RX9 198 yX9_isKnown ∈ wsT) ⟨Nat.le_of_ble_eq_true rfl, Nat.le_of_ble_eq_true rfl⟩ hP hD hK hN hm_h0 hk_h0 (by decide) rfl rfl rfl hl.1 rfl (Nat.le_of_ble_eq_true rfl) ⟨Nat.le_of_ble_eq_true rfl, Nat.le_of_ble_eq_true rfl⟩ dX9_step_147 (fun r_365 hr_365 => ?_)
            refine yjoinR (σ := Int32 × Int32) 252 (fun x ls st => st = [] ∧ lv_has ls 12 [(0, .ref h0), (1, .int p0), (2, .int p1), (3, .long p2), (9, .int x.1), (10, .int x.2)]) (fun x ls st hI => ?_) (fun J252_367 => ?_)
            · obtain ⟨v_366, v_367⟩ := x
              obtain ⟨rfl, hl⟩ := hI
              have hl : lv_has ls 12 [(0, .ref h0), (1, .int p0), (2, .int p1), (3, .long p2), (9, .int v_366), (10, .int v_367)] := hl
              refine lv_aload_n hx hb dX9_step_252 rfl (lv_at hl 0 rfl) ?_
              refine yget (ci := 9) (k := 58) (v := .long (d_2.2.1 h0 58)) (C := RX9) (T := TX9) (N := 67) C0 hK hP hm_h0 hk_h0 (by decide) rfl inlX9 (by decide) mW873 (fun _ h9 => h9) rfl dX9_step_253 ?_
              refine lv_topl (fun z_368 ez_368 => ?_)
              refine lv_aload_n hx hb dX9_step_256 rfl (lv_at hl 0 rfl) ?_
              refine yget (ci := 9) (k := 59) (v := .long (d_2.2.1 h0 59)) (C := RX9) (T := TX9) (N := 67) C0 hK hP hm_h0 hk_h0 (by decide) rfl inlX9 (by decide) mW874 (fun _ h9 => h9) rfl dX9_step_257 ?_
              refine lv_topl (fun z_369 ez_369 => ?_)
              refine W.lcmp hx hb dX9_step_260 ?_
              refine lv_topi (fun z_370 ez_370 => ?_)
              refine yjoinR (σ := Int32) 269 (fun x ls st => st = [.int x] ∧ lv_has ls 12 [(0, .ref h0), (1, .int p0), (2, .int p1), (3, .long p2), (9, .int v_366), (10, .int v_367)] ∧ (x = 0 ∨ x = 1)) (fun x ls st hI => ?_) (fun J269_371 => ?_)
              · obtain ⟨v_371, rfl⟩ : ∃ z, z = x := ⟨_, rfl⟩
                obtain ⟨rfl, hl, hzv_371⟩ := hI
                have hl : lv_has ls 12 [(0, .ref h0), (1, .int p0), (2, .int p1), (3, .long p2), (9, .int v_366), (10, .int v_367)] := hl
                refine lv_istore (lv' := [(11, .int v_371), (0, .ref h0), (1, .int p0), (2, .int p1), (3, .long p2), (9, .int v_366), (10, .int v_367)]) hx hb dX9_step_269 hl (by decide) rfl (fun ls hl => ?_)
                refine lv_aload_n hx hb dX9_step_271 rfl (lv_at hl 1 rfl) ?_
                refine lv_dup hx hb dX9_step_272 rfl ?_
                refine yget (ci := 9) (k := 58) (v := .long (d_2.2.1 h0 58)) (C := RX9) (T := TX9) (N := 67) C0 hK hP hm_h0 hk_h0 (by decide) rfl inlX9 (by decide) mW873 (fun _ h9 => h9) rfl dX9_step_273 ?_
                rw [← ez_368]
                refine lv_iload hx hb dX9_step_276 (lv_at hl 6 rfl) ?_
                refine lv_i2l hx hb dX9_step_278 rfl ?_
                refine lv_topl (fun z_372 ez_372 => ?_)
                refine lv_ladd hx hb dX9_step_279 ?_
                refine lv_topl (fun z_373 ez_373 => ?_)
                refine yputJ (ci := 9) (k := 58) (C := RX9) (T := TX9) (N := 67) C0 hK hP hD hS hm_h0 hk_h0 (by decide) rfl inlX9 tyX9 tyX9_ok nmX9 (by decide) mW873 (fun _ h9 => h9) rfl (by decide +kernel) (Nat.le_of_ble_eq_true rfl) ysj_9_58 dX9_step_280 (fun H locs hP hD hS => ?_)
                obtain ⟨d_374, ed_374⟩ : ∃ z : yD, z = yj d_2 h0 58 z_373 := ⟨_, rfl⟩
                rw [← ed_374] at hP hD
                have hgd_374 : yAg S [9, 77, 78] d d_374 := by rw [ed_374]; exact yAg.j hgd_2 (by rw [hk_h0]; decide)
                have hsd_374 : yAg S [9] d_2 d_374 := by rw [ed_374]; exact yAg.j yAg.rf (by rw [hk_h0]; decide)
                have hPod_374 : yPo S d_374 := by rw [ed_374]; exact hPod_2
                have hfd_374 : yK [54, 55, 57, 63, 64, 65] d d_374 h0 := by rw [ed_374]; exact yK.j hfd_2
                have hId_374 : yMI S d_374 h0 := by rw [ed_374]; exact yMI.j hId_2
                have hE0d_374 : (d_374.1 h0 0).toInt = (d_2.1 h0 0).toInt := congrArg Int32.toInt ((show yK [] d_2 d_374 h0 from by rw [ed_374]; exact yK.j yK.rf) 0 (by decide))
                have hE1d_374 : (d_374.1 h0 1).toInt = (d_2.1 h0 1).toInt := congrArg Int32.toInt ((show yK [] d_2 d_374 h0 from by rw [ed_374]; exact yK.j yK.rf) 1 (by decide))
                have hE2d_374 : (d_374.1 h0 2).toInt = (d_2.1 h0 2).toInt := congrArg Int32.toInt ((show yK [] d_2 d_374 h0 from by rw [ed_374]; exact yK.j yK.rf) 2 (by decide))
                have hE3d_374 : (d_374.1 h0 3).toInt = (d_2.1 h0 3).toInt := congrArg Int32.toInt ((show yK [] d_2 d_374 h0 from by rw [ed_374]; exact yK.j yK.rf) 3 (by decide))
                have hE63d_374 : (d_374.1 h0 63).toInt = (d_2.1 h0 63).toInt := congrArg Int32.toInt ((show yK [] d_2 d_374 h0 from by rw [ed_374]; exact yK.j yK.rf) 63 (by decide))
                refine lv_aload_n hx hb dX9_step_283 rfl (lv_at hl 1 rfl) ?_
                refine lv_dup hx hb dX9_step_284 rfl ?_
                refine yget (ci := 9) (k := 60) (v := .long (d_374.2.1 h0 60)) (C := RX9) (T := TX9) (N := 67) C0 hK hP hm_h0 hk_h0 (by decide) rfl inlX9 (by decide) mW875 (fun _ h9 => h9) rfl dX9_step_285 ?_
                refine lv_topl (fun z_375 ez_375 => ?_)
                refine lv_lconst (v := 1) hx hb dX9_step_288 (by decide) ?_
                refine lv_ladd hx hb dX9_step_289 ?_
                refine lv_topl (fun z_376 ez_376 => ?_)
                refine yputJ (ci := 9) (k := 60) (C := RX9) (T := TX9) (N := 67) C0 hK hP hD hS hm_h0 hk_h0 (by decide) rfl inlX9 tyX9 tyX9_ok nmX9 (by decide) mW875 (fun _ h9 => h9) rfl (by decide +kernel) (Nat.le_of_ble_eq_true rfl) ysj_9_60 dX9_step_290 (fun H locs hP hD hS => ?_)
                obtain ⟨d_377, ed_377⟩ : ∃ z : yD, z = yj d_374 h0 60 z_376 := ⟨_, rfl⟩
                rw [← ed_377] at hP hD
                have hgd_377 : yAg S [9, 77, 78] d d_377 := by rw [ed_377]; exact yAg.j hgd_374 (by rw [hk_h0]; decide)
                have hsd_377 : yAg S [9] d_374 d_377 := by rw [ed_377]; exact yAg.j yAg.rf (by rw [hk_h0]; decide)
                have hPod_377 : yPo S d_377 := by rw [ed_377]; exact hPod_374
                have hfd_377 : yK [54, 55, 57, 63, 64, 65] d d_377 h0 := by rw [ed_377]; exact yK.j hfd_374
                have hId_377 : yMI S d_377 h0 := by rw [ed_377]; exact yMI.j hId_374
                have hE0d_377 : (d_377.1 h0 0).toInt = (d_374.1 h0 0).toInt := congrArg Int32.toInt ((show yK [] d_374 d_377 h0 from by rw [ed_377]; exact yK.j yK.rf) 0 (by decide))
                have hE1d_377 : (d_377.1 h0 1).toInt = (d_374.1 h0 1).toInt := congrArg Int32.toInt ((show yK [] d_374 d_377 h0 from by rw [ed_377]; exact yK.j yK.rf) 1 (by decide))
                have hE2d_377 : (d_377.1 h0 2).toInt = (d_374.1 h0 2).toInt := congrArg Int32.toInt ((show yK [] d_374 d_377 h0 from by rw [ed_377]; exact yK.j yK.rf) 2 (by decide))
                have hE3d_377 : (d_377.1 h0 3).toInt = (d_374.1 h0 3).toInt := congrArg Int32.toInt ((show yK [] d_374 d_377 h0 from by rw [ed_377]; exact yK.j yK.rf) 3 (by decide))
                have hE63d_377 : (d_377.1 h0 63).toInt = (d_374.1 h0 63).toInt := congrArg Int32.toInt ((show yK [] d_374 d_377 h0 from by rw [ed_377]; exact yK.j yK.rf) 63 (by decide))
                refine lv_iload hx hb dX9_step_293 (lv_at hl 0 rfl) ?_
                refine yjoin (σ := yD) 315 (fun x H locs ls st => st = [] ∧ va_P G.1 xcl (yW G S x) H ∧ va_D A (yW G S x) ∧ va_S A s.heap H locs ∧ yAg S [9, 77, 78] d x ∧ yPo S x ∧ yK [54, 55, 57, 63, 64, 65] d x h0 ∧ yMI S x h0 ∧ yAg S [9] d_377 x ∧ yK [] d_377 x h0 ∧ lv_has ls 12 [(0, .ref h0), (1, .int p0), (2, .int p1), (9, .int v_366), (10, .int v_367)]) (fun x H locs ls st hI => ?_) (fun J315_377 => ?_)
                · obtain ⟨d_378, rfl⟩ : ∃ z, z = x := ⟨_, rfl⟩
                  obtain ⟨rfl, hP, hD, hS, hgd_378, hPod_378, hfd_378, hId_378, hLJd_378, hKJd_378, hl⟩ := hI
                  have hId_378 : yMI S d_378 h0 := hId_378
                  have hl : lv_has ls 12 [(0, .ref h0), (1, .int p0), (2, .int p1), (9, .int v_366), (10, .int v_367)] := hl
                  have hE0d_378 : (d_378.1 h0 0).toInt = (d_377.1 h0 0).toInt := congrArg Int32.toInt (hKJd_378 0 (by decide))
                  have hE1d_378 : (d_378.1 h0 1).toInt = (d_377.1 h0 1).toInt := congrArg Int32.toInt (hKJd_378 1 (by decide))
                  have hE2d_378 : (d_378.1 h0 2).toInt = (d_377.1 h0 2).toInt := congrArg Int32.toInt (hKJd_378 2 (by decide))
                  have hE3d_378 : (d_378.1 h0 3).toInt = (d_377.1 h0 3).toInt := congrArg Int32.toInt (hKJd_378 3 (by decide))
                  have hE63d_378 : (d_378.1 h0 63).toInt = (d_377.1 h0 63).toInt := congrArg Int32.toInt (hKJd_378 63 (by decide))
                  refine lv_iload_n hx hb dX9_step_315 rfl (lv_at hl 1 rfl) ?_
                  refine lv_aload_n hx hb dX9_step_316 rfl (lv_at hl 0 rfl) ?_
                  refine yget (ci := 9) (k := 49) (v := .int (d_378.1 h0 49)) (C := RX9) (T := TX9) (N := 67) C0 hK hP hm_h0 hk_h0 (by decide) rfl inlX9 (by decide) mW861 (fun _ h9 => h9) rfl dX9_step_317 ?_
                  refine lv_topi (fun z_379 ez_379 => ?_)
                  refine lv_icmp_eq (tgt := 324) hx hb dX9_step_320 (by decide) (fun c_380 => ?_) (fun c_380 => ?_)
                  · refine lv_aload_n hx hb dX9_step_324 rfl (lv_at hl 0 rfl) ?_
                    refine lv_dup hx hb dX9_step_325 rfl ?_
                    refine yget (ci := 9) (k := 66) (v := .long (d_378.2.1 h0 66)) (C := RX9) (T := TX9) (N := 67) C0 hK hP hm_h0 hk_h0 (by decide) rfl inlX9 (by decide) mW881 (fun _ h9 => h9) rfl dX9_step_326 ?_
                    refine lv_topl (fun z_381 ez_381 => ?_)
                    refine lv_iload hx hb dX9_step_329 (lv_at hl 4 rfl) ?_
                    refine lv_i2l hx hb dX9_step_331 rfl ?_
                    rw [← ez_372]
                    refine lv_ladd hx hb dX9_step_332 ?_
                    refine lv_topl (fun z_382 ez_382 => ?_)
                    refine yputJ (ci := 9) (k := 66) (C := RX9) (T := TX9) (N := 67) C0 hK hP hD hS hm_h0 hk_h0 (by decide) rfl inlX9 tyX9 tyX9_ok nmX9 (by decide) mW881 (fun _ h9 => h9) rfl (by decide +kernel) (Nat.le_of_ble_eq_true rfl) ysj_9_66 dX9_step_333 (fun H locs hP hD hS => ?_)
                    obtain ⟨d_383, ed_383⟩ : ∃ z : yD, z = yj d_378 h0 66 z_382 := ⟨_, rfl⟩
                    rw [← ed_383] at hP hD
                    have hgd_383 : yAg S [9, 77, 78] d d_383 := by rw [ed_383]; exact yAg.j hgd_378 (by rw [hk_h0]; decide)
                    have hsd_383 : yAg S [9] d_378 d_383 := by rw [ed_383]; exact yAg.j yAg.rf (by rw [hk_h0]; decide)
                    have hPod_383 : yPo S d_383 := by rw [ed_383]; exact hPod_378
                    have hfd_383 : yK [54, 55, 57, 63, 64, 65] d d_383 h0 := by rw [ed_383]; exact yK.j hfd_378
                    have hId_383 : yMI S d_383 h0 := by rw [ed_383]; exact yMI.j hId_378
                    have hE0d_383 : (d_383.1 h0 0).toInt = (d_378.1 h0 0).toInt := congrArg Int32.toInt ((show yK [] d_378 d_383 h0 from by rw [ed_383]; exact yK.j yK.rf) 0 (by decide))
                    have hE1d_383 : (d_383.1 h0 1).toInt = (d_378.1 h0 1).toInt := congrArg Int32.toInt ((show yK [] d_378 d_383 h0 from by rw [ed_383]; exact yK.j yK.rf) 1 (by decide))
                    have hE2d_383 : (d_383.1 h0 2).toInt = (d_378.1 h0 2).toInt := congrArg Int32.toInt ((show yK [] d_378 d_383 h0 from by rw [ed_383]; exact yK.j yK.rf) 2 (by decide))
                    have hE3d_383 : (d_383.1 h0 3).toInt = (d_378.1 h0 3).toInt := congrArg Int32.toInt ((show yK [] d_378 d_383 h0 from by rw [ed_383]; exact yK.j yK.rf) 3 (by decide))
                    have hE63d_383 : (d_383.1 h0 63).toInt = (d_378.1 h0 63).toInt := congrArg Int32.toInt ((show yK [] d_378 d_383 h0 from by rw [ed_383]; exact yK.j yK.rf) 63 (by decide))
                    refine lv_iload_n hx hb dX9_step_336 rfl (lv_at hl 2 rfl) ?_
                    refine lv_aload_n hx hb dX9_step_337 rfl (lv_at hl 0 rfl) ?_
                    refine yget (ci := 9) (k := 50) (v := .int (d_383.1 h0 50)) (C := RX9) (T := TX9) (N := 67) C0 hK hP hm_h0 hk_h0 (by decide) rfl inlX9 (by decide) mW862 (fun _ h9 => h9) rfl dX9_step_338 ?_
                    refine lv_topi (fun z_384 ez_384 => ?_)
                    refine yjoin (σ := yD) 367 (fun x H locs ls st => st = [] ∧ va_P G.1 xcl (yW G S x) H ∧ va_D A (yW G S x) ∧ va_S A s.heap H locs ∧ yAg S [9, 77, 78] d x ∧ yPo S x ∧ yK [54, 55, 57, 63, 64, 65] d x h0 ∧ yMI S x h0 ∧ yAg S [9] d_383 x ∧ yK [54, 55] d_383 x h0 ∧ lv_has ls 12 [(0, .ref h0), (2, .int p1), (9, .int v_366), (10, .int v_367)]) (fun x H locs ls st hI => ?_) (fun J367_384 => ?_)
                    · obtain ⟨d_385, rfl⟩ : ∃ z, z = x := ⟨_, rfl⟩
                      obtain ⟨rfl, hP, hD, hS, hgd_385, hPod_385, hfd_385, hId_385, hLJd_385, hKJd_385, hl⟩ := hI
                      have hId_385 : yMI S d_385 h0 := hId_385
                      have hl : lv_has ls 12 [(0, .ref h0), (2, .int p1), (9, .int v_366), (10, .int v_367)] := hl
                      have hE0d_385 : (d_385.1 h0 0).toInt = (d_383.1 h0 0).toInt := congrArg Int32.toInt (hKJd_385 0 (by decide))
                      have hE1d_385 : (d_385.1 h0 1).toInt = (d_383.1 h0 1).toInt := congrArg Int32.toInt (hKJd_385 1 (by decide))
                      have hE2d_385 : (d_385.1 h0 2).toInt = (d_383.1 h0 2).toInt := congrArg Int32.toInt (hKJd_385 2 (by decide))
                      have hE3d_385 : (d_385.1 h0 3).toInt = (d_383.1 h0 3).toInt := congrArg Int32.toInt (hKJd_385 3 (by decide))
                      have hE63d_385 : (d_385.1 h0 63).toInt = (d_383.1 h0 63).toInt := congrArg Int32.toInt (hKJd_385 63 (by decide))
                      refine lv_iload_n hx hb dX9_step_367 rfl (lv_at hl 1 rfl) ?_
                      refine lv_aload_n hx hb dX9_step_368 rfl (lv_at hl 0 rfl) ?_
                      refine yget (ci := 9) (k := 51) (v := .int (d_385.1 h0 51)) (C := RX9) (T := TX9) (N := 67) C0 hK hP hm_h0 hk_h0 (by decide) rfl inlX9 (by decide) mW863 (fun _ h9 => h9) rfl dX9_step_369 ?_
                      refine lv_topi (fun z_386 ez_386 => ?_)
                      refine yjoin (σ := yD) 395 (fun x H locs ls st => st = [] ∧ va_P G.1 xcl (yW G S x) H ∧ va_D A (yW G S x) ∧ va_S A s.heap H locs ∧ yAg S [9, 77, 78] d x ∧ yPo S x ∧ yK [54, 55, 57, 63, 64, 65] d x h0 ∧ yMI S x h0 ∧ yAg S [9] d_385 x ∧ yK [] d_385 x h0 ∧ lv_has ls 12 [(0, .ref h0), (2, .int p1), (9, .int v_366)]) (fun x H locs ls st hI => ?_) (fun J395_386 => ?_)
                      · obtain ⟨d_387, rfl⟩ : ∃ z, z = x := ⟨_, rfl⟩
                        obtain ⟨rfl, hP, hD, hS, hgd_387, hPod_387, hfd_387, hId_387, hLJd_387, hKJd_387, hl⟩ := hI
                        have hId_387 : yMI S d_387 h0 := hId_387
                        have hl : lv_has ls 12 [(0, .ref h0), (2, .int p1), (9, .int v_366)] := hl
                        have hE0d_387 : (d_387.1 h0 0).toInt = (d_385.1 h0 0).toInt := congrArg Int32.toInt (hKJd_387 0 (by decide))
                        have hE1d_387 : (d_387.1 h0 1).toInt = (d_385.1 h0 1).toInt := congrArg Int32.toInt (hKJd_387 1 (by decide))
                        have hE2d_387 : (d_387.1 h0 2).toInt = (d_385.1 h0 2).toInt := congrArg Int32.toInt (hKJd_387 2 (by decide))
                        have hE3d_387 : (d_387.1 h0 3).toInt = (d_385.1 h0 3).toInt := congrArg Int32.toInt (hKJd_387 3 (by decide))
                        have hE63d_387 : (d_387.1 h0 63).toInt = (d_385.1 h0 63).toInt := congrArg Int32.toInt (hKJd_387 63 (by decide))
                        refine lv_iload hx hb dX9_step_395 (lv_at hl 2 rfl) ?_
                        refine lv_aload_n hx hb dX9_step_397 rfl (lv_at hl 0 rfl) ?_
                        refine yget (ci := 9) (k := 53) (v := .int (d_387.1 h0 53)) (C := RX9) (T := TX9) (N := 67) C0 hK hP hm_h0 hk_h0 (by decide) rfl inlX9 (by decide) mW865 (fun _ h9 => h9) rfl dX9_step_398 ?_
                        refine lv_topi (fun z_388 ez_388 => ?_)
                        refine yjoin (σ := yD) 414 (fun x H locs ls st => st = [] ∧ va_P G.1 xcl (yW G S x) H ∧ va_D A (yW G S x) ∧ va_S A s.heap H locs ∧ yAg S [9, 77, 78] d x ∧ yPo S x ∧ yK [54, 55, 57, 63, 64, 65] d x h0 ∧ yMI S x h0 ∧ yAg S [9] d_387 x ∧ yK [57] d_387 x h0 ∧ lv_has ls 12 [(0, .ref h0), (2, .int p1), (9, .int v_366)]) (fun x H locs ls st hI => ?_) (fun J414_388 => ?_)
                        · obtain ⟨d_389, rfl⟩ : ∃ z, z = x := ⟨_, rfl⟩
                          obtain ⟨rfl, hP, hD, hS, hgd_389, hPod_389, hfd_389, hId_389, hLJd_389, hKJd_389, hl⟩ := hI
                          have hId_389 : yMI S d_389 h0 := hId_389
                          have hl : lv_has ls 12 [(0, .ref h0), (2, .int p1), (9, .int v_366)] := hl
                          have hE0d_389 : (d_389.1 h0 0).toInt = (d_387.1 h0 0).toInt := congrArg Int32.toInt (hKJd_389 0 (by decide))
                          have hE1d_389 : (d_389.1 h0 1).toInt = (d_387.1 h0 1).toInt := congrArg Int32.toInt (hKJd_389 1 (by decide))
                          have hE2d_389 : (d_389.1 h0 2).toInt = (d_387.1 h0 2).toInt := congrArg Int32.toInt (hKJd_389 2 (by decide))
                          have hE3d_389 : (d_389.1 h0 3).toInt = (d_387.1 h0 3).toInt := congrArg Int32.toInt (hKJd_389 3 (by decide))
                          have hE63d_389 : (d_389.1 h0 63).toInt = (d_387.1 h0 63).toInt := congrArg Int32.toInt (hKJd_389 63 (by decide))
                          refine lv_aload_n hx hb dX9_step_414 rfl (lv_at hl 0 rfl) ?_
                          refine yget (ci := 9) (k := 65) (v := .int (d_389.1 h0 65)) (C := RX9) (T := TX9) (N := 67) C0 hK hP hm_h0 hk_h0 (by decide) rfl inlX9 (by decide) mW868 (fun _ h9 => h9) rfl dX9_step_415 ?_
                          refine lv_topi (fun z_390 ez_390 => ?_)
                          refine lv_if_ge (tgt := 495) hx hb dX9_step_418 (by decide) (fun c_391 => ?_) (fun c_391 => ?_)
                          · refine lv_aload_n hx hb dX9_step_495 rfl (lv_at hl 0 rfl) ?_
                            refine yget (ci := 9) (k := 65) (v := .int (d_389.1 h0 65)) (C := RX9) (T := TX9) (N := 67) C0 hK hP hm_h0 hk_h0 (by decide) rfl inlX9 (by decide) mW868 (fun _ h9 => h9) rfl dX9_step_496 ?_
                            rw [← ez_390]
                            refine lv_if_ge (tgt := 507) hx hb dX9_step_499 (by decide) (fun c_392 => ?_) (fun c_392 => absurd c_391 c_392)
                            exact W.vret hx hb hr (fun t ht hW => ⟨⟨d_389, rfl, ⟨hgd_389, (fun _ => hPod_389), hfd_389, hId_389⟩, by rw [ht]; exact hP, hD⟩, hS.F ht⟩) hS.2.2 dX9_step_507
                          · refine lv_aload_n hx hb dX9_step_421 rfl (lv_at hl 0 rfl) ?_
                            refine yget (ci := 9) (k := 63) (v := .int (d_389.1 h0 63)) (C := RX9) (T := TX9) (N := 67) C0 hK hP hm_h0 hk_h0 (by decide) rfl inlX9 (by decide) mW866 (fun _ h9 => h9) rfl dX9_step_422 ?_
                            refine lv_topi (fun z_393 ez_393 => ?_)
                            refine lv_aload_n hx hb dX9_step_425 rfl (lv_at hl 0 rfl) ?_
                            refine yget (ci := 9) (k := 2) (v := .int (d_389.1 h0 2)) (C := RX9) (T := TX9) (N := 67) C0 hK hP hm_h0 hk_h0 (by decide) rfl inlX9 (by decide) mW888 (fun _ h9 => h9) rfl dX9_step_426 ?_
                            refine lv_topi (fun z_394 ez_394 => ?_)
                            refine lv_icmp_ge (tgt := 495) hx hb dX9_step_429 (by decide) (fun c_395 => ?_) (fun c_395 => ?_)
                            · refine lv_aload_n hx hb dX9_step_495 rfl (lv_at hl 0 rfl) ?_
                              refine yget (ci := 9) (k := 65) (v := .int (d_389.1 h0 65)) (C := RX9) (T := TX9) (N := 67) C0 hK hP hm_h0 hk_h0 (by decide) rfl inlX9 (by decide) mW868 (fun _ h9 => h9) rfl dX9_step_496 ?_
                              rw [← ez_390]
                              refine lv_if_ge (tgt := 507) hx hb dX9_step_499 (by decide) (fun c_396 => absurd c_396 c_391) (fun c_396 => ?_)
                              refine lv_aload_n hx hb dX9_step_502 rfl (lv_at hl 0 rfl) ?_
                              refine lv_iload_n hx hb dX9_step_503 rfl (lv_at hl 1 rfl) ?_
                              refine yputI (ci := 9) (k := 65) (ty := .int) (C := RX9) (T := TX9) (N := 67) C0 hK hP hD hS hm_h0 hk_h0 (by decide) rfl inlX9 tyX9 tyX9_ok nmX9 (by decide) mW868 (fun _ h9 => h9) rfl (by decide +kernel) rfl rfl (Nat.le_of_ble_eq_true rfl) ysi_9_65 dX9_step_504 (fun H locs hP hD hS => ?_)
                              obtain ⟨d_397, ed_397⟩ : ∃ z : yD, z = yi d_389 h0 65 p1 := ⟨_, rfl⟩
                              rw [← ed_397] at hP hD
                              have hgd_397 : yAg S [9, 77, 78] d d_397 := by rw [ed_397]; exact yAg.i hgd_389 (by rw [hk_h0]; decide)
                              have hsd_397 : yAg S [9] d_389 d_397 := by rw [ed_397]; exact yAg.i yAg.rf (by rw [hk_h0]; decide)
                              have hPod_397 : yPo S d_397 := by rw [ed_397]; exact yPo.i hPod_389 hk_h0 (Or.inl rfl)
                              have hfd_397 : yK [54, 55, 57, 63, 64, 65] d d_397 h0 := by rw [ed_397]; exact yK.i hfd_389 (by decide)
                              have hId_397 : yMI S d_397 h0 := yMI.ag hId_389 hSh hm_h0 hk_h0 (show yAg S [9] d_389 d_397 from by rw [ed_397]; exact yAg.i yAg.rf (by rw [hk_h0]; decide)) (show yK [65] d_389 d_397 h0 from by rw [ed_397]; exact yK.i yK.rf (by decide)) (by decide) (by decide)
                              have hE0d_397 : (d_397.1 h0 0).toInt = (d_389.1 h0 0).toInt := congrArg Int32.toInt ((show yK [65] d_389 d_397 h0 from by rw [ed_397]; exact yK.i yK.rf (by decide)) 0 (by decide))
                              have hE1d_397 : (d_397.1 h0 1).toInt = (d_389.1 h0 1).toInt := congrArg Int32.toInt ((show yK [65] d_389 d_397 h0 from by rw [ed_397]; exact yK.i yK.rf (by decide)) 1 (by decide))
                              have hE2d_397 : (d_397.1 h0 2).toInt = (d_389.1 h0 2).toInt := congrArg Int32.toInt ((show yK [65] d_389 d_397 h0 from by rw [ed_397]; exact yK.i yK.rf (by decide)) 2 (by decide))
                              have hE3d_397 : (d_397.1 h0 3).toInt = (d_389.1 h0 3).toInt := congrArg Int32.toInt ((show yK [65] d_389 d_397 h0 from by rw [ed_397]; exact yK.i yK.rf (by decide)) 3 (by decide))
                              have hE63d_397 : (d_397.1 h0 63).toInt = (d_389.1 h0 63).toInt := congrArg Int32.toInt ((show yK [65] d_389 d_397 h0 from by rw [ed_397]; exact yK.i yK.rf (by decide)) 63 (by decide))
                              exact W.vret hx hb hr (fun t ht hW => ⟨⟨d_397, rfl, ⟨hgd_397, (fun _ => hPod_397), hfd_397, hId_397⟩, by rw [ht]; exact hP, hD⟩, hS.F ht⟩) hS.2.2 dX9_step_507
                            · refine lv_aload_n hx hb dX9_step_432 rfl (lv_at hl 0 rfl) ?_
                              refine yget (ci := 9) (k := 19) (v := .ref (S.2.2.1 h0 19)) (C := RX9) (T := TX9) (N := 67) C0 hK hP hm_h0 hk_h0 (by decide) rfl inlX9 (by decide) mW126 (fun _ h9 => h9) rfl dX9_step_433 ?_
                              obtain ⟨hmy_398, hky_398⟩ := ySh.f9_19 hSh _ hm_h0 hk_h0
                              refine lv_aload_n hx hb dX9_step_436 rfl (lv_at hl 0 rfl) ?_
                              refine yget (ci := 9) (k := 63) (v := .int (d_389.1 h0 63)) (C := RX9) (T := TX9) (N := 67) C0 hK hP hm_h0 hk_h0 (by decide) rfl inlX9 (by decide) mW866 (fun _ h9 => h9) rfl dX9_step_437 ?_
                              rw [← ez_393]
                              have hCC_399 := yMI.c hId_389
                              have T_400 : (z_379 : Int32).toInt = (d_378.1 h0 49).toInt := by rw [ez_379]
                              have F_401 := feq (rfl : (p0 : Int32).toInt = (p0 : Int32).toInt) (rfl : (z_379 : Int32).toInt = (z_379 : Int32).toInt) c_380
                              have T_402 : (z_390 : Int32).toInt = (d_389.1 h0 65).toInt := by rw [ez_390]
                              have F_403 := fnle (by decide +kernel : (0 : Int32).toInt = 0) (rfl : (z_390 : Int32).toInt = (z_390 : Int32).toInt) c_391
                              have T_404 : (z_393 : Int32).toInt = (d_389.1 h0 63).toInt := by rw [ez_393]
                              have T_405 : (z_394 : Int32).toInt = (d_389.1 h0 2).toInt := by rw [ez_394]
                              have F_406 := fnle (rfl : (z_394 : Int32).toInt = (z_394 : Int32).toInt) (rfl : (z_393 : Int32).toInt = (z_393 : Int32).toInt) c_395
                              refine yaldB C0 hK hP hmy_398 hky_398 (by decide) rfl 1 rfl (xinT 500 rfl (by omega) (by omega)) dX9_step_440 ?_
                              refine lv_topi (fun z_407 ez_407 => ?_)
                              refine lv_iload hx hb dX9_step_441 (lv_at hl 2 rfl) ?_
                              refine lv_icmp_eq (tgt := 451) hx hb dX9_step_443 (by decide) (fun c_408 => ?_) (fun c_408 => ?_)
                              · refine lv_aload_n hx hb dX9_step_451 rfl (lv_at hl 0 rfl) ?_
                                refine lv_dup hx hb dX9_step_452 rfl ?_
                                refine yget (ci := 9) (k := 64) (v := .int (d_389.1 h0 64)) (C := RX9) (T := TX9) (N := 67) C0 hK hP hm_h0 hk_h0 (by decide) rfl inlX9 (by decide) mW867 (fun _ h9 => h9) rfl dX9_step_453 ?_
                                refine lv_topi (fun z_409 ez_409 => ?_)
                                refine lv_iconst (v := 1) hx hb dX9_step_456 (by decide) ?_
                                refine lv_iadd hx hb dX9_step_457 ?_
                                refine lv_topi (fun z_410 ez_410 => ?_)
                                refine yputI (ci := 9) (k := 64) (ty := .int) (C := RX9) (T := TX9) (N := 67) C0 hK hP hD hS hm_h0 hk_h0 (by decide) rfl inlX9 tyX9 tyX9_ok nmX9 (by decide) mW867 (fun _ h9 => h9) rfl (by decide +kernel) rfl rfl (Nat.le_of_ble_eq_true rfl) ysi_9_64 dX9_step_458 (fun H locs hP hD hS => ?_)
                                obtain ⟨d_411, ed_411⟩ : ∃ z : yD, z = yi d_389 h0 64 z_410 := ⟨_, rfl⟩
                                rw [← ed_411] at hP hD
                                have hgd_411 : yAg S [9, 77, 78] d d_411 := by rw [ed_411]; exact yAg.i hgd_389 (by rw [hk_h0]; decide)
                                have hsd_411 : yAg S [9] d_389 d_411 := by rw [ed_411]; exact yAg.i yAg.rf (by rw [hk_h0]; decide)
                                have hPod_411 : yPo S d_411 := by rw [ed_411]; exact yPo.i hPod_389 hk_h0 (Or.inl rfl)
                                have hfd_411 : yK [54, 55, 57, 63, 64, 65] d d_411 h0 := by rw [ed_411]; exact yK.i hfd_389 (by decide)
                                have hId_411 : yMI S d_411 h0 := yMI.ag hId_389 hSh hm_h0 hk_h0 (show yAg S [9] d_389 d_411 from by rw [ed_411]; exact yAg.i yAg.rf (by rw [hk_h0]; decide)) (show yK [64] d_389 d_411 h0 from by rw [ed_411]; exact yK.i yK.rf (by decide)) (by decide) (by decide)
                                have hE0d_411 : (d_411.1 h0 0).toInt = (d_389.1 h0 0).toInt := congrArg Int32.toInt ((show yK [64] d_389 d_411 h0 from by rw [ed_411]; exact yK.i yK.rf (by decide)) 0 (by decide))
                                have hE1d_411 : (d_411.1 h0 1).toInt = (d_389.1 h0 1).toInt := congrArg Int32.toInt ((show yK [64] d_389 d_411 h0 from by rw [ed_411]; exact yK.i yK.rf (by decide)) 1 (by decide))
                                have hE2d_411 : (d_411.1 h0 2).toInt = (d_389.1 h0 2).toInt := congrArg Int32.toInt ((show yK [64] d_389 d_411 h0 from by rw [ed_411]; exact yK.i yK.rf (by decide)) 2 (by decide))
                                have hE3d_411 : (d_411.1 h0 3).toInt = (d_389.1 h0 3).toInt := congrArg Int32.toInt ((show yK [64] d_389 d_411 h0 from by rw [ed_411]; exact yK.i yK.rf (by decide)) 3 (by decide))
                                have hE63d_411 : (d_411.1 h0 63).toInt = (d_389.1 h0 63).toInt := congrArg Int32.toInt ((show yK [64] d_389 d_411 h0 from by rw [ed_411]; exact yK.i yK.rf (by decide)) 63 (by decide))
                                refine lv_aload_n hx hb dX9_step_461 rfl (lv_at hl 0 rfl) ?_
                                refine yget (ci := 9) (k := 64) (v := .int (d_411.1 h0 64)) (C := RX9) (T := TX9) (N := 67) C0 hK hP hm_h0 hk_h0 (by decide) rfl inlX9 (by decide) mW867 (fun _ h9 => h9) rfl dX9_step_462 ?_
                                refine lv_topi (fun z_412 ez_412 => ?_)
                                refine lv_aload_n hx hb dX9_step_465 rfl (lv_at hl 0 rfl) ?_
                                refine yget (ci := 9) (k := 18) (v := .ref (S.2.2.1 h0 18)) (C := RX9) (T := TX9) (N := 67) C0 hK hP hm_h0 hk_h0 (by decide) rfl inlX9 (by decide) mW125 (fun _ h9 => h9) rfl dX9_step_466 ?_
                                obtain ⟨hmy_413, hky_413⟩ := ySh.f9_18 hSh _ hm_h0 hk_h0
                                refine lv_aload_n hx hb dX9_step_469 rfl (lv_at hl 0 rfl) ?_
                                refine yget (ci := 9) (k := 63) (v := .int (d_411.1 h0 63)) (C := RX9) (T := TX9) (N := 67) C0 hK hP hm_h0 hk_h0 (by decide) rfl inlX9 (by decide) mW866 (fun _ h9 => h9) rfl dX9_step_470 ?_
                                refine lv_topi (fun z_414 ez_414 => ?_)
                                have hCC_415 := yMI.c hId_411
                                have F_417 := feq (rfl : (z_407 : Int32).toInt = (z_407 : Int32).toInt) (rfl : (v_366 : Int32).toInt = (v_366 : Int32).toInt) c_408
                                have T_418 : (z_414 : Int32).toInt = (d_411.1 h0 63).toInt := by rw [ez_414]
                                refine yald C0 hK hP hmy_413 hky_413 (by decide) rfl 0 rfl (xinT 500 rfl (by omega) (by omega)) dX9_step_473 ?_
                                refine lv_topi (fun z_419 ez_419 => ?_)
                                refine lv_icmp_ne (tgt := 507) hx hb dX9_step_474 (by decide) (fun c_420 => ?_) (fun c_420 => ?_)
                                · exact W.vret hx hb hr (fun t ht hW => ⟨⟨d_411, rfl, ⟨hgd_411, (fun _ => hPod_411), hfd_411, hId_411⟩, by rw [ht]; exact hP, hD⟩, hS.F ht⟩) hS.2.2 dX9_step_507
                                · refine lv_aload_n hx hb dX9_step_477 rfl (lv_at hl 0 rfl) ?_
                                  refine lv_dup hx hb dX9_step_478 rfl ?_
                                  refine yget (ci := 9) (k := 63) (v := .int (d_411.1 h0 63)) (C := RX9) (T := TX9) (N := 67) C0 hK hP hm_h0 hk_h0 (by decide) rfl inlX9 (by decide) mW866 (fun _ h9 => h9) rfl dX9_step_479 ?_
                                  rw [← ez_414]
                                  refine lv_iconst (v := 1) hx hb dX9_step_482 (by decide) ?_
                                  refine lv_iadd hx hb dX9_step_483 ?_
                                  refine lv_topi (fun z_421 ez_421 => ?_)
                                  refine yputI (ci := 9) (k := 63) (ty := .int) (C := RX9) (T := TX9) (N := 67) C0 hK hP hD hS hm_h0 hk_h0 (by decide) rfl inlX9 tyX9 tyX9_ok nmX9 (by decide) mW866 (fun _ h9 => h9) rfl (by decide +kernel) rfl rfl (Nat.le_of_ble_eq_true rfl) ysi_9_63 dX9_step_484 (fun H locs hP hD hS => ?_)
                                  obtain ⟨d_422, ed_422⟩ : ∃ z : yD, z = yi d_411 h0 63 z_421 := ⟨_, rfl⟩
                                  rw [← ed_422] at hP hD
                                  have hgd_422 : yAg S [9, 77, 78] d d_422 := by rw [ed_422]; exact yAg.i hgd_411 (by rw [hk_h0]; decide)
                                  have hsd_422 : yAg S [9] d_411 d_422 := by rw [ed_422]; exact yAg.i yAg.rf (by rw [hk_h0]; decide)
                                  have hPod_422 : yPo S d_422 := by rw [ed_422]; exact yPo.i hPod_411 hk_h0 (Or.inl rfl)
                                  have hfd_422 : yK [54, 55, 57, 63, 64, 65] d d_422 h0 := by rw [ed_422]; exact yK.i hfd_411 (by decide)
                                  have T_423 : (z_412 : Int32).toInt = (d_411.1 h0 64).toInt := by rw [ez_412]
                                  have F_425 := feq (rfl : (z_412 : Int32).toInt = (z_412 : Int32).toInt) (rfl : (z_419 : Int32).toInt = (z_419 : Int32).toInt) c_420
                                  have T_426 : (z_421 : Int32).toInt = (z_414 : Int32).toInt + 1 := tadd ez_421 (rfl : (z_414 : Int32).toInt = (z_414 : Int32).toInt) (by decide +kernel : (1 : Int32).toInt = 1) (by omega) (by omega)
                                  have hId_422 : yMI S d_422 h0 := by rw [ed_422]; exact yMI.i63 hId_411 ⟨by omega, by omega⟩
                                  have hE0d_422 : (d_422.1 h0 0).toInt = (d_411.1 h0 0).toInt := congrArg Int32.toInt ((show yK [63] d_411 d_422 h0 from by rw [ed_422]; exact yK.i yK.rf (by decide)) 0 (by decide))
                                  have hE1d_422 : (d_422.1 h0 1).toInt = (d_411.1 h0 1).toInt := congrArg Int32.toInt ((show yK [63] d_411 d_422 h0 from by rw [ed_422]; exact yK.i yK.rf (by decide)) 1 (by decide))
                                  have hE2d_422 : (d_422.1 h0 2).toInt = (d_411.1 h0 2).toInt := congrArg Int32.toInt ((show yK [63] d_411 d_422 h0 from by rw [ed_422]; exact yK.i yK.rf (by decide)) 2 (by decide))
                                  have hE3d_422 : (d_422.1 h0 3).toInt = (d_411.1 h0 3).toInt := congrArg Int32.toInt ((show yK [63] d_411 d_422 h0 from by rw [ed_422]; exact yK.i yK.rf (by decide)) 3 (by decide))
                                  have hE63d_422 : (d_422.1 h0 63).toInt = (z_421 : Int32).toInt := by rw [ed_422, yi_self]
                                  refine lv_aload_n hx hb dX9_step_487 rfl (lv_at hl 0 rfl) ?_
                                  refine lv_iconst (v := 0) hx hb dX9_step_488 (by decide) ?_
                                  refine yputI (ci := 9) (k := 64) (ty := .int) (C := RX9) (T := TX9) (N := 67) C0 hK hP hD hS hm_h0 hk_h0 (by decide) rfl inlX9 tyX9 tyX9_ok nmX9 (by decide) mW867 (fun _ h9 => h9) rfl (by decide +kernel) rfl rfl (Nat.le_of_ble_eq_true rfl) ysi_9_64 dX9_step_489 (fun H locs hP hD hS => ?_)
                                  obtain ⟨d_427, ed_427⟩ : ∃ z : yD, z = yi d_422 h0 64 0 := ⟨_, rfl⟩
                                  rw [← ed_427] at hP hD
                                  have hgd_427 : yAg S [9, 77, 78] d d_427 := by rw [ed_427]; exact yAg.i hgd_422 (by rw [hk_h0]; decide)
                                  have hsd_427 : yAg S [9] d_422 d_427 := by rw [ed_427]; exact yAg.i yAg.rf (by rw [hk_h0]; decide)
                                  have hPod_427 : yPo S d_427 := by rw [ed_427]; exact yPo.i hPod_422 hk_h0 (Or.inl rfl)
                                  have hfd_427 : yK [54, 55, 57, 63, 64, 65] d d_427 h0 := by rw [ed_427]; exact yK.i hfd_422 (by decide)
                                  have hId_427 : yMI S d_427 h0 := yMI.ag hId_422 hSh hm_h0 hk_h0 (show yAg S [9] d_422 d_427 from by rw [ed_427]; exact yAg.i yAg.rf (by rw [hk_h0]; decide)) (show yK [64] d_422 d_427 h0 from by rw [ed_427]; exact yK.i yK.rf (by decide)) (by decide) (by decide)
                                  have hE0d_427 : (d_427.1 h0 0).toInt = (d_422.1 h0 0).toInt := congrArg Int32.toInt ((show yK [64] d_422 d_427 h0 from by rw [ed_427]; exact yK.i yK.rf (by decide)) 0 (by decide))
                                  have hE1d_427 : (d_427.1 h0 1).toInt = (d_422.1 h0 1).toInt := congrArg Int32.toInt ((show yK [64] d_422 d_427 h0 from by rw [ed_427]; exact yK.i yK.rf (by decide)) 1 (by decide))
                                  have hE2d_427 : (d_427.1 h0 2).toInt = (d_422.1 h0 2).toInt := congrArg Int32.toInt ((show yK [64] d_422 d_427 h0 from by rw [ed_427]; exact yK.i yK.rf (by decide)) 2 (by decide))
                                  have hE3d_427 : (d_427.1 h0 3).toInt = (d_422.1 h0 3).toInt := congrArg Int32.toInt ((show yK [64] d_422 d_427 h0 from by rw [ed_427]; exact yK.i yK.rf (by decide)) 3 (by decide))
                                  have hE63d_427 : (d_427.1 h0 63).toInt = (d_422.1 h0 63).toInt := congrArg Int32.toInt ((show yK [64] d_422 d_427 h0 from by rw [ed_427]; exact yK.i yK.rf (by decide)) 63 (by decide))
                                  refine lv_goto (tgt := 507) hx hb dX9_step_492 (by decide) ?_
                                  exact W.vret hx hb hr (fun t ht hW => ⟨⟨d_427, rfl, ⟨hgd_427, (fun _ => hPod_427), hfd_427, hId_427⟩, by rw [ht]; exact hP, hD⟩, hS.F ht⟩) hS.2.2 dX9_step_507
                              · refine lv_aload_n hx hb dX9_step_446 rfl (lv_at hl 0 rfl) ?_
                                refine lv_iload_n hx hb dX9_step_447 rfl (lv_at hl 1 rfl) ?_
                                refine yputI (ci := 9) (k := 65) (ty := .int) (C := RX9) (T := TX9) (N := 67) C0 hK hP hD hS hm_h0 hk_h0 (by decide) rfl inlX9 tyX9 tyX9_ok nmX9 (by decide) mW868 (fun _ h9 => h9) rfl (by decide +kernel) rfl rfl (Nat.le_of_ble_eq_true rfl) ysi_9_65 dX9_step_448 (fun H locs hP hD hS => ?_)
                                obtain ⟨d_428, ed_428⟩ : ∃ z : yD, z = yi d_389 h0 65 p1 := ⟨_, rfl⟩
                                rw [← ed_428] at hP hD
                                have hgd_428 : yAg S [9, 77, 78] d d_428 := by rw [ed_428]; exact yAg.i hgd_389 (by rw [hk_h0]; decide)
                                have hsd_428 : yAg S [9] d_389 d_428 := by rw [ed_428]; exact yAg.i yAg.rf (by rw [hk_h0]; decide)
                                have hPod_428 : yPo S d_428 := by rw [ed_428]; exact yPo.i hPod_389 hk_h0 (Or.inl rfl)
                                have hfd_428 : yK [54, 55, 57, 63, 64, 65] d d_428 h0 := by rw [ed_428]; exact yK.i hfd_389 (by decide)
                                have hId_428 : yMI S d_428 h0 := yMI.ag hId_389 hSh hm_h0 hk_h0 (show yAg S [9] d_389 d_428 from by rw [ed_428]; exact yAg.i yAg.rf (by rw [hk_h0]; decide)) (show yK [65] d_389 d_428 h0 from by rw [ed_428]; exact yK.i yK.rf (by decide)) (by decide) (by decide)
                                have hE0d_428 : (d_428.1 h0 0).toInt = (d_389.1 h0 0).toInt := congrArg Int32.toInt ((show yK [65] d_389 d_428 h0 from by rw [ed_428]; exact yK.i yK.rf (by decide)) 0 (by decide))
                                have hE1d_428 : (d_428.1 h0 1).toInt = (d_389.1 h0 1).toInt := congrArg Int32.toInt ((show yK [65] d_389 d_428 h0 from by rw [ed_428]; exact yK.i yK.rf (by decide)) 1 (by decide))
                                have hE2d_428 : (d_428.1 h0 2).toInt = (d_389.1 h0 2).toInt := congrArg Int32.toInt ((show yK [65] d_389 d_428 h0 from by rw [ed_428]; exact yK.i yK.rf (by decide)) 2 (by decide))
                                have hE3d_428 : (d_428.1 h0 3).toInt = (d_389.1 h0 3).toInt := congrArg Int32.toInt ((show yK [65] d_389 d_428 h0 from by rw [ed_428]; exact yK.i yK.rf (by decide)) 3 (by decide))
                                have hE63d_428 : (d_428.1 h0 63).toInt = (d_389.1 h0 63).toInt := congrArg Int32.toInt ((show yK [65] d_389 d_428 h0 from by rw [ed_428]; exact yK.i yK.rf (by decide)) 63 (by decide))
                                refine lv_aload_n hx hb dX9_step_451 rfl (lv_at hl 0 rfl) ?_
                                refine lv_dup hx hb dX9_step_452 rfl ?_
                                refine yget (ci := 9) (k := 64) (v := .int (d_428.1 h0 64)) (C := RX9) (T := TX9) (N := 67) C0 hK hP hm_h0 hk_h0 (by decide) rfl inlX9 (by decide) mW867 (fun _ h9 => h9) rfl dX9_step_453 ?_
                                refine lv_topi (fun z_429 ez_429 => ?_)
                                refine lv_iconst (v := 1) hx hb dX9_step_456 (by decide) ?_
                                refine lv_iadd hx hb dX9_step_457 ?_
                                refine lv_topi (fun z_430 ez_430 => ?_)
                                refine yputI (ci := 9) (k := 64) (ty := .int) (C := RX9) (T := TX9) (N := 67) C0 hK hP hD hS hm_h0 hk_h0 (by decide) rfl inlX9 tyX9 tyX9_ok nmX9 (by decide) mW867 (fun _ h9 => h9) rfl (by decide +kernel) rfl rfl (Nat.le_of_ble_eq_true rfl) ysi_9_64 dX9_step_458 (fun H locs hP hD hS => ?_)
                                obtain ⟨d_431, ed_431⟩ : ∃ z : yD, z = yi d_428 h0 64 z_430 := ⟨_, rfl⟩
                                rw [← ed_431] at hP hD
                                have hgd_431 : yAg S [9, 77, 78] d d_431 := by rw [ed_431]; exact yAg.i hgd_428 (by rw [hk_h0]; decide)
                                have hsd_431 : yAg S [9] d_428 d_431 := by rw [ed_431]; exact yAg.i yAg.rf (by rw [hk_h0]; decide)
                                have hPod_431 : yPo S d_431 := by rw [ed_431]; exact yPo.i hPod_428 hk_h0 (Or.inl rfl)
                                have hfd_431 : yK [54, 55, 57, 63, 64, 65] d d_431 h0 := by rw [ed_431]; exact yK.i hfd_428 (by decide)
                                have hId_431 : yMI S d_431 h0 := yMI.ag hId_428 hSh hm_h0 hk_h0 (show yAg S [9] d_428 d_431 from by rw [ed_431]; exact yAg.i yAg.rf (by rw [hk_h0]; decide)) (show yK [64] d_428 d_431 h0 from by rw [ed_431]; exact yK.i yK.rf (by decide)) (by decide) (by decide)
                                have hE0d_431 : (d_431.1 h0 0).toInt = (d_428.1 h0 0).toInt := congrArg Int32.toInt ((show yK [64] d_428 d_431 h0 from by rw [ed_431]; exact yK.i yK.rf (by decide)) 0 (by decide))
                                have hE1d_431 : (d_431.1 h0 1).toInt = (d_428.1 h0 1).toInt := congrArg Int32.toInt ((show yK [64] d_428 d_431 h0 from by rw [ed_431]; exact yK.i yK.rf (by decide)) 1 (by decide))
                                have hE2d_431 : (d_431.1 h0 2).toInt = (d_428.1 h0 2).toInt := congrArg Int32.toInt ((show yK [64] d_428 d_431 h0 from by rw [ed_431]; exact yK.i yK.rf (by decide)) 2 (by decide))
                                have hE3d_431 : (d_431.1 h0 3).toInt = (d_428.1 h0 3).toInt := congrArg Int32.toInt ((show yK [64] d_428 d_431 h0 from by rw [ed_431]; exact yK.i yK.rf (by decide)) 3 (by decide))
                                have hE63d_431 : (d_431.1 h0 63).toInt = (d_428.1 h0 63).toInt := congrArg Int32.toInt ((show yK [64] d_428 d_431 h0 from by rw [ed_431]; exact yK.i yK.rf (by decide)) 63 (by decide))
                                refine lv_aload_n hx hb dX9_step_461 rfl (lv_at hl 0 rfl) ?_
                                refine yget (ci := 9) (k := 64) (v := .int (d_431.1 h0 64)) (C := RX9) (T := TX9) (N := 67) C0 hK hP hm_h0 hk_h0 (by decide) rfl inlX9 (by decide) mW867 (fun _ h9 => h9) rfl dX9_step_462 ?_
                                refine lv_topi (fun z_432 ez_432 => ?_)
                                refine lv_aload_n hx hb dX9_step_465 rfl (lv_at hl 0 rfl) ?_
                                refine yget (ci := 9) (k := 18) (v := .ref (S.2.2.1 h0 18)) (C := RX9) (T := TX9) (N := 67) C0 hK hP hm_h0 hk_h0 (by decide) rfl inlX9 (by decide) mW125 (fun _ h9 => h9) rfl dX9_step_466 ?_
                                obtain ⟨hmy_433, hky_433⟩ := ySh.f9_18 hSh _ hm_h0 hk_h0
                                refine lv_aload_n hx hb dX9_step_469 rfl (lv_at hl 0 rfl) ?_
                                refine yget (ci := 9) (k := 63) (v := .int (d_431.1 h0 63)) (C := RX9) (T := TX9) (N := 67) C0 hK hP hm_h0 hk_h0 (by decide) rfl inlX9 (by decide) mW866 (fun _ h9 => h9) rfl dX9_step_470 ?_
                                refine lv_topi (fun z_434 ez_434 => ?_)
                                have hCC_435 := yMI.c hId_431
                                have F_437 := fne (rfl : (z_407 : Int32).toInt = (z_407 : Int32).toInt) (rfl : (v_366 : Int32).toInt = (v_366 : Int32).toInt) c_408
                                have T_438 : (z_434 : Int32).toInt = (d_431.1 h0 63).toInt := by rw [ez_434]
                                refine yald C0 hK hP hmy_433 hky_433 (by decide) rfl 0 rfl (xinT 500 rfl (by omega) (by omega)) dX9_step_473 ?_
                                refine lv_topi (fun z_439 ez_439 => ?_)
                                refine lv_icmp_ne (tgt := 507) hx hb dX9_step_474 (by decide) (fun c_440 => ?_) (fun c_440 => ?_)
                                · exact W.vret hx hb hr (fun t ht hW => ⟨⟨d_431, rfl, ⟨hgd_431, (fun _ => hPod_431), hfd_431, hId_431⟩, by rw [ht]; exact hP, hD⟩, hS.F ht⟩) hS.2.2 dX9_step_507
                                · refine lv_aload_n hx hb dX9_step_477 rfl (lv_at hl 0 rfl) ?_
                                  refine lv_dup hx hb dX9_step_478 rfl ?_
                                  refine yget (ci := 9) (k := 63) (v := .int (d_431.1 h0 63)) (C := RX9) (T := TX9) (N := 67) C0 hK hP hm_h0 hk_h0 (by decide) rfl inlX9 (by decide) mW866 (fun _ h9 => h9) rfl dX9_step_479 ?_
                                  rw [← ez_434]
                                  refine lv_iconst (v := 1) hx hb dX9_step_482 (by decide) ?_
                                  refine lv_iadd hx hb dX9_step_483 ?_
                                  refine lv_topi (fun z_441 ez_441 => ?_)
                                  refine yputI (ci := 9) (k := 63) (ty := .int) (C := RX9) (T := TX9) (N := 67) C0 hK hP hD hS hm_h0 hk_h0 (by decide) rfl inlX9 tyX9 tyX9_ok nmX9 (by decide) mW866 (fun _ h9 => h9) rfl (by decide +kernel) rfl rfl (Nat.le_of_ble_eq_true rfl) ysi_9_63 dX9_step_484 (fun H locs hP hD hS => ?_)
                                  obtain ⟨d_442, ed_442⟩ : ∃ z : yD, z = yi d_431 h0 63 z_441 := ⟨_, rfl⟩
                                  rw [← ed_442] at hP hD
                                  have hgd_442 : yAg S [9, 77, 78] d d_442 := by rw [ed_442]; exact yAg.i hgd_431 (by rw [hk_h0]; decide)
                                  have hsd_442 : yAg S [9] d_431 d_442 := by rw [ed_442]; exact yAg.i yAg.rf (by rw [hk_h0]; decide)
                                  have hPod_442 : yPo S d_442 := by rw [ed_442]; exact yPo.i hPod_431 hk_h0 (Or.inl rfl)
                                  have hfd_442 : yK [54, 55, 57, 63, 64, 65] d d_442 h0 := by rw [ed_442]; exact yK.i hfd_431 (by decide)
                                  have T_443 : (z_432 : Int32).toInt = (d_431.1 h0 64).toInt := by rw [ez_432]
                                  have F_445 := feq (rfl : (z_432 : Int32).toInt = (z_432 : Int32).toInt) (rfl : (z_439 : Int32).toInt = (z_439 : Int32).toInt) c_440
                                  have T_446 : (z_441 : Int32).toInt = (z_434 : Int32).toInt + 1 := tadd ez_441 (rfl : (z_434 : Int32).toInt = (z_434 : Int32).toInt) (by decide +kernel : (1 : Int32).toInt = 1) (by omega) (by omega)
                                  have hId_442 : yMI S d_442 h0 := by rw [ed_442]; exact yMI.i63 hId_431 ⟨by omega, by omega⟩
                                  have hE0d_442 : (d_442.1 h0 0).toInt = (d_431.1 h0 0).toInt := congrArg Int32.toInt ((show yK [63] d_431 d_442 h0 from by rw [ed_442]; exact yK.i yK.rf (by decide)) 0 (by decide))
                                  have hE1d_442 : (d_442.1 h0 1).toInt = (d_431.1 h0 1).toInt := congrArg Int32.toInt ((show yK [63] d_431 d_442 h0 from by rw [ed_442]; exact yK.i yK.rf (by decide)) 1 (by decide))
                                  have hE2d_442 : (d_442.1 h0 2).toInt = (d_431.1 h0 2).toInt := congrArg Int32.toInt ((show yK [63] d_431 d_442 h0 from by rw [ed_442]; exact yK.i yK.rf (by decide)) 2 (by decide))
                                  have hE3d_442 : (d_442.1 h0 3).toInt = (d_431.1 h0 3).toInt := congrArg Int32.toInt ((show yK [63] d_431 d_442 h0 from by rw [ed_442]; exact yK.i yK.rf (by decide)) 3 (by decide))
                                  have hE63d_442 : (d_442.1 h0 63).toInt = (z_441 : Int32).toInt := by rw [ed_442, yi_self]
                                  refine lv_aload_n hx hb dX9_step_487 rfl (lv_at hl 0 rfl) ?_
                                  refine lv_iconst (v := 0) hx hb dX9_step_488 (by decide) ?_
                                  refine yputI (ci := 9) (k := 64) (ty := .int) (C := RX9) (T := TX9) (N := 67) C0 hK hP hD hS hm_h0 hk_h0 (by decide) rfl inlX9 tyX9 tyX9_ok nmX9 (by decide) mW867 (fun _ h9 => h9) rfl (by decide +kernel) rfl rfl (Nat.le_of_ble_eq_true rfl) ysi_9_64 dX9_step_489 (fun H locs hP hD hS => ?_)
                                  obtain ⟨d_447, ed_447⟩ : ∃ z : yD, z = yi d_442 h0 64 0 := ⟨_, rfl⟩
                                  rw [← ed_447] at hP hD
                                  have hgd_447 : yAg S [9, 77, 78] d d_447 := by rw [ed_447]; exact yAg.i hgd_442 (by rw [hk_h0]; decide)
                                  have hsd_447 : yAg S [9] d_442 d_447 := by rw [ed_447]; exact yAg.i yAg.rf (by rw [hk_h0]; decide)
                                  have hPod_447 : yPo S d_447 := by rw [ed_447]; exact yPo.i hPod_442 hk_h0 (Or.inl rfl)
                                  have hfd_447 : yK [54, 55, 57, 63, 64, 65] d d_447 h0 := by rw [ed_447]; exact yK.i hfd_442 (by decide)
                                  have hId_447 : yMI S d_447 h0 := yMI.ag hId_442 hSh hm_h0 hk_h0 (show yAg S [9] d_442 d_447 from by rw [ed_447]; exact yAg.i yAg.rf (by rw [hk_h0]; decide)) (show yK [64] d_442 d_447 h0 from by rw [ed_447]; exact yK.i yK.rf (by decide)) (by decide) (by decide)
                                  have hE0d_447 : (d_447.1 h0 0).toInt = (d_442.1 h0 0).toInt := congrArg Int32.toInt ((show yK [64] d_442 d_447 h0 from by rw [ed_447]; exact yK.i yK.rf (by decide)) 0 (by decide))
                                  have hE1d_447 : (d_447.1 h0 1).toInt = (d_442.1 h0 1).toInt := congrArg Int32.toInt ((show yK [64] d_442 d_447 h0 from by rw [ed_447]; exact yK.i yK.rf (by decide)) 1 (by decide))
                                  have hE2d_447 : (d_447.1 h0 2).toInt = (d_442.1 h0 2).toInt := congrArg Int32.toInt ((show yK [64] d_442 d_447 h0 from by rw [ed_447]; exact yK.i yK.rf (by decide)) 2 (by decide))
                                  have hE3d_447 : (d_447.1 h0 3).toInt = (d_442.1 h0 3).toInt := congrArg Int32.toInt ((show yK [64] d_442 d_447 h0 from by rw [ed_447]; exact yK.i yK.rf (by decide)) 3 (by decide))
                                  have hE63d_447 : (d_447.1 h0 63).toInt = (d_442.1 h0 63).toInt := congrArg Int32.toInt ((show yK [64] d_442 d_447 h0 from by rw [ed_447]; exact yK.i yK.rf (by decide)) 63 (by decide))
                                  refine lv_goto (tgt := 507) hx hb dX9_step_492 (by decide) ?_
                                  exact W.vret hx hb hr (fun t ht hW => ⟨⟨d_447, rfl, ⟨hgd_447, (fun _ => hPod_447), hfd_447, hId_447⟩, by rw [ht]; exact hP, hD⟩, hS.F ht⟩) hS.2.2 dX9_step_507
                        refine lv_icmp_ne (tgt := 414) hx hb dX9_step_401 (by decide) (fun c_448 => ?_) (fun c_448 => ?_)
                        · exact J414_388 d_387 _ _ ls _ ⟨rfl, hP, hD, hS, hgd_387, hPod_387, hfd_387, hId_387, yAg.rf, yK.rf, lv_sub hl [0, 1, 2] rfl⟩
                        · refine lv_aload_n hx hb dX9_step_404 rfl (lv_at hl 0 rfl) ?_
                          refine lv_dup hx hb dX9_step_405 rfl ?_
                          refine yget (ci := 9) (k := 57) (v := .int (d_387.1 h0 57)) (C := RX9) (T := TX9) (N := 67) C0 hK hP hm_h0 hk_h0 (by decide) rfl inlX9 (by decide) mW880 (fun _ h9 => h9) rfl dX9_step_406 ?_
                          refine lv_topi (fun z_449 ez_449 => ?_)
                          refine lv_iconst (v := 1) hx hb dX9_step_409 (by decide) ?_
                          refine lv_iadd hx hb dX9_step_410 ?_
                          refine lv_topi (fun z_450 ez_450 => ?_)
                          refine yputI (ci := 9) (k := 57) (ty := .int) (C := RX9) (T := TX9) (N := 67) C0 hK hP hD hS hm_h0 hk_h0 (by decide) rfl inlX9 tyX9 tyX9_ok nmX9 (by decide) mW880 (fun _ h9 => h9) rfl (by decide +kernel) rfl rfl (Nat.le_of_ble_eq_true rfl) ysi_9_57 dX9_step_411 (fun H locs hP hD hS => ?_)
                          obtain ⟨d_451, ed_451⟩ : ∃ z : yD, z = yi d_387 h0 57 z_450 := ⟨_, rfl⟩
                          rw [← ed_451] at hP hD
                          have hgd_451 : yAg S [9, 77, 78] d d_451 := by rw [ed_451]; exact yAg.i hgd_387 (by rw [hk_h0]; decide)
                          have hsd_451 : yAg S [9] d_387 d_451 := by rw [ed_451]; exact yAg.i yAg.rf (by rw [hk_h0]; decide)
                          have hPod_451 : yPo S d_451 := by rw [ed_451]; exact yPo.i hPod_387 hk_h0 (Or.inl rfl)
                          have hfd_451 : yK [54, 55, 57, 63, 64, 65] d d_451 h0 := by rw [ed_451]; exact yK.i hfd_387 (by decide)
                          have hL0d_451 : yAg S [9] d_387 d_451 := by rw [ed_451]; exact yAg.i yAg.rf (by rw [hk_h0]; decide)
                          have hK0d_451 : yK [57] d_387 d_451 h0 := by rw [ed_451]; exact yK.i yK.rf (by decide)
                          have hId_451 : yMI S d_451 h0 := yMI.ag hId_387 hSh hm_h0 hk_h0 (show yAg S [9] d_387 d_451 from by rw [ed_451]; exact yAg.i yAg.rf (by rw [hk_h0]; decide)) (show yK [57] d_387 d_451 h0 from by rw [ed_451]; exact yK.i yK.rf (by decide)) (by decide) (by decide)
                          have hE0d_451 : (d_451.1 h0 0).toInt = (d_387.1 h0 0).toInt := congrArg Int32.toInt ((show yK [57] d_387 d_451 h0 from by rw [ed_451]; exact yK.i yK.rf (by decide)) 0 (by decide))
                          have hE1d_451 : (d_451.1 h0 1).toInt = (d_387.1 h0 1).toInt := congrArg Int32.toInt ((show yK [57] d_387 d_451 h0 from by rw [ed_451]; exact yK.i yK.rf (by decide)) 1 (by decide))
                          have hE2d_451 : (d_451.1 h0 2).toInt = (d_387.1 h0 2).toInt := congrArg Int32.toInt ((show yK [57] d_387 d_451 h0 from by rw [ed_451]; exact yK.i yK.rf (by decide)) 2 (by decide))
                          have hE3d_451 : (d_451.1 h0 3).toInt = (d_387.1 h0 3).toInt := congrArg Int32.toInt ((show yK [57] d_387 d_451 h0 from by rw [ed_451]; exact yK.i yK.rf (by decide)) 3 (by decide))
                          have hE63d_451 : (d_451.1 h0 63).toInt = (d_387.1 h0 63).toInt := congrArg Int32.toInt ((show yK [57] d_387 d_451 h0 from by rw [ed_451]; exact yK.i yK.rf (by decide)) 63 (by decide))
                          exact J414_388 d_451 _ _ ls _ ⟨rfl, hP, hD, hS, hgd_451, hPod_451, hfd_451, hId_451, hL0d_451, hK0d_451, lv_sub hl [0, 1, 2] rfl⟩
                      refine lv_icmp_lt (tgt := 395) hx hb dX9_step_372 (by decide) (fun c_452 => ?_) (fun c_452 => ?_)
                      · exact J395_386 d_385 _ _ ls _ ⟨rfl, hP, hD, hS, hgd_385, hPod_385, hfd_385, hId_385, yAg.rf, yK.rf, lv_sub hl [0, 1, 2] rfl⟩
                      · refine lv_iload_n hx hb dX9_step_375 rfl (lv_at hl 1 rfl) ?_
                        refine lv_aload_n hx hb dX9_step_376 rfl (lv_at hl 0 rfl) ?_
                        refine yget (ci := 9) (k := 52) (v := .int (d_385.1 h0 52)) (C := RX9) (T := TX9) (N := 67) C0 hK hP hm_h0 hk_h0 (by decide) rfl inlX9 (by decide) mW864 (fun _ h9 => h9) rfl dX9_step_377 ?_
                        refine lv_topi (fun z_453 ez_453 => ?_)
                        refine lv_icmp_ge (tgt := 395) hx hb dX9_step_380 (by decide) (fun c_454 => ?_) (fun c_454 => ?_)
                        · exact J395_386 d_385 _ _ ls _ ⟨rfl, hP, hD, hS, hgd_385, hPod_385, hfd_385, hId_385, yAg.rf, yK.rf, lv_sub hl [0, 1, 2] rfl⟩
                        · refine lv_aload_n hx hb dX9_step_383 rfl (lv_at hl 0 rfl) ?_
                          refine lv_dup hx hb dX9_step_384 rfl ?_
                          refine yget (ci := 9) (k := 56) (v := .long (d_385.2.1 h0 56)) (C := RX9) (T := TX9) (N := 67) C0 hK hP hm_h0 hk_h0 (by decide) rfl inlX9 (by decide) mW879 (fun _ h9 => h9) rfl dX9_step_385 ?_
                          refine lv_topl (fun z_455 ez_455 => ?_)
                          refine lv_iload hx hb dX9_step_388 (lv_at hl 3 rfl) ?_
                          refine lv_i2l hx hb dX9_step_390 rfl ?_
                          rw [← ez_372]
                          refine lv_ladd hx hb dX9_step_391 ?_
                          refine lv_topl (fun z_456 ez_456 => ?_)
                          refine yputJ (ci := 9) (k := 56) (C := RX9) (T := TX9) (N := 67) C0 hK hP hD hS hm_h0 hk_h0 (by decide) rfl inlX9 tyX9 tyX9_ok nmX9 (by decide) mW879 (fun _ h9 => h9) rfl (by decide +kernel) (Nat.le_of_ble_eq_true rfl) ysj_9_56 dX9_step_392 (fun H locs hP hD hS => ?_)
                          obtain ⟨d_457, ed_457⟩ : ∃ z : yD, z = yj d_385 h0 56 z_456 := ⟨_, rfl⟩
                          rw [← ed_457] at hP hD
                          have hgd_457 : yAg S [9, 77, 78] d d_457 := by rw [ed_457]; exact yAg.j hgd_385 (by rw [hk_h0]; decide)
                          have hsd_457 : yAg S [9] d_385 d_457 := by rw [ed_457]; exact yAg.j yAg.rf (by rw [hk_h0]; decide)
                          have hPod_457 : yPo S d_457 := by rw [ed_457]; exact hPod_385
                          have hfd_457 : yK [54, 55, 57, 63, 64, 65] d d_457 h0 := by rw [ed_457]; exact yK.j hfd_385
                          have hL0d_457 : yAg S [9] d_385 d_457 := by rw [ed_457]; exact yAg.j yAg.rf (by rw [hk_h0]; decide)
                          have hK0d_457 : yK [] d_385 d_457 h0 := by rw [ed_457]; exact yK.j yK.rf
                          have hId_457 : yMI S d_457 h0 := by rw [ed_457]; exact yMI.j hId_385
                          have hE0d_457 : (d_457.1 h0 0).toInt = (d_385.1 h0 0).toInt := congrArg Int32.toInt ((show yK [] d_385 d_457 h0 from by rw [ed_457]; exact yK.j yK.rf) 0 (by decide))
                          have hE1d_457 : (d_457.1 h0 1).toInt = (d_385.1 h0 1).toInt := congrArg Int32.toInt ((show yK [] d_385 d_457 h0 from by rw [ed_457]; exact yK.j yK.rf) 1 (by decide))
                          have hE2d_457 : (d_457.1 h0 2).toInt = (d_385.1 h0 2).toInt := congrArg Int32.toInt ((show yK [] d_385 d_457 h0 from by rw [ed_457]; exact yK.j yK.rf) 2 (by decide))
                          have hE3d_457 : (d_457.1 h0 3).toInt = (d_385.1 h0 3).toInt := congrArg Int32.toInt ((show yK [] d_385 d_457 h0 from by rw [ed_457]; exact yK.j yK.rf) 3 (by decide))
                          have hE63d_457 : (d_457.1 h0 63).toInt = (d_385.1 h0 63).toInt := congrArg Int32.toInt ((show yK [] d_385 d_457 h0 from by rw [ed_457]; exact yK.j yK.rf) 63 (by decide))
                          exact J395_386 d_457 _ _ ls _ ⟨rfl, hP, hD, hS, hgd_457, hPod_457, hfd_457, hId_457, hL0d_457, hK0d_457, lv_sub hl [0, 1, 2] rfl⟩
                    refine lv_icmp_ne (tgt := 367) hx hb dX9_step_341 (by decide) (fun c_458 => ?_) (fun c_458 => ?_)
                    · exact J367_384 d_383 _ _ ls _ ⟨rfl, hP, hD, hS, hgd_383, hPod_383, hfd_383, hId_383, yAg.rf, yK.rf, lv_sub hl [0, 2, 3, 4] rfl⟩
                    · refine lv_aload_n hx hb dX9_step_344 rfl (lv_at hl 0 rfl) ?_
                      refine lv_iload hx hb dX9_step_345 (lv_at hl 3 rfl) ?_
                      refine yputI (ci := 9) (k := 54) (ty := .int) (C := RX9) (T := TX9) (N := 67) C0 hK hP hD hS hm_h0 hk_h0 (by decide) rfl inlX9 tyX9 tyX9_ok nmX9 (by decide) mW878 (fun _ h9 => h9) rfl (by decide +kernel) rfl rfl (Nat.le_of_ble_eq_true rfl) ysi_9_54 dX9_step_347 (fun H locs hP hD hS => ?_)
                      obtain ⟨d_459, ed_459⟩ : ∃ z : yD, z = yi d_383 h0 54 v_366 := ⟨_, rfl⟩
                      rw [← ed_459] at hP hD
                      have hgd_459 : yAg S [9, 77, 78] d d_459 := by rw [ed_459]; exact yAg.i hgd_383 (by rw [hk_h0]; decide)
                      have hsd_459 : yAg S [9] d_383 d_459 := by rw [ed_459]; exact yAg.i yAg.rf (by rw [hk_h0]; decide)
                      have hPod_459 : yPo S d_459 := by rw [ed_459]; exact yPo.i hPod_383 hk_h0 (Or.inl rfl)
                      have hfd_459 : yK [54, 55, 57, 63, 64, 65] d d_459 h0 := by rw [ed_459]; exact yK.i hfd_383 (by decide)
                      have hL0d_459 : yAg S [9] d_383 d_459 := by rw [ed_459]; exact yAg.i yAg.rf (by rw [hk_h0]; decide)
                      have hK0d_459 : yK [54, 55] d_383 d_459 h0 := by rw [ed_459]; exact yK.i yK.rf (by decide)
                      have hId_459 : yMI S d_459 h0 := yMI.ag hId_383 hSh hm_h0 hk_h0 (show yAg S [9] d_383 d_459 from by rw [ed_459]; exact yAg.i yAg.rf (by rw [hk_h0]; decide)) (show yK [54] d_383 d_459 h0 from by rw [ed_459]; exact yK.i yK.rf (by decide)) (by decide) (by decide)
                      have hE0d_459 : (d_459.1 h0 0).toInt = (d_383.1 h0 0).toInt := congrArg Int32.toInt ((show yK [54] d_383 d_459 h0 from by rw [ed_459]; exact yK.i yK.rf (by decide)) 0 (by decide))
                      have hE1d_459 : (d_459.1 h0 1).toInt = (d_383.1 h0 1).toInt := congrArg Int32.toInt ((show yK [54] d_383 d_459 h0 from by rw [ed_459]; exact yK.i yK.rf (by decide)) 1 (by decide))
                      have hE2d_459 : (d_459.1 h0 2).toInt = (d_383.1 h0 2).toInt := congrArg Int32.toInt ((show yK [54] d_383 d_459 h0 from by rw [ed_459]; exact yK.i yK.rf (by decide)) 2 (by decide))
                      have hE3d_459 : (d_459.1 h0 3).toInt = (d_383.1 h0 3).toInt := congrArg Int32.toInt ((show yK [54] d_383 d_459 h0 from by rw [ed_459]; exact yK.i yK.rf (by decide)) 3 (by decide))
                      have hE63d_459 : (d_459.1 h0 63).toInt = (d_383.1 h0 63).toInt := congrArg Int32.toInt ((show yK [54] d_383 d_459 h0 from by rw [ed_459]; exact yK.i yK.rf (by decide)) 63 (by decide))
                      refine lv_aload_n hx hb dX9_step_350 rfl (lv_at hl 0 rfl) ?_
                      refine lv_iload hx hb dX9_step_351 (lv_at hl 3 rfl) ?_
                      refine lv_bipush (v := (-3)) hx hb dX9_step_353 (by decide) ?_
                      refine lv_icmp_ne (tgt := 362) hx hb dX9_step_355 (by decide) (fun c_460 => ?_) (fun c_460 => ?_)
                      · refine lv_iload hx hb dX9_step_362 (lv_at hl 4 rfl) ?_
                        refine yputI (ci := 9) (k := 55) (ty := .int) (C := RX9) (T := TX9) (N := 67) C0 hK hP hD hS hm_h0 hk_h0 (by decide) rfl inlX9 tyX9 tyX9_ok nmX9 (by decide) mW856 (fun _ h9 => h9) rfl (by decide +kernel) rfl rfl (Nat.le_of_ble_eq_true rfl) ysi_9_55 dX9_step_364 (fun H locs hP hD hS => ?_)
                        obtain ⟨d_461, ed_461⟩ : ∃ z : yD, z = yi d_459 h0 55 v_367 := ⟨_, rfl⟩
                        rw [← ed_461] at hP hD
                        have hgd_461 : yAg S [9, 77, 78] d d_461 := by rw [ed_461]; exact yAg.i hgd_459 (by rw [hk_h0]; decide)
                        have hsd_461 : yAg S [9] d_459 d_461 := by rw [ed_461]; exact yAg.i yAg.rf (by rw [hk_h0]; decide)
                        have hPod_461 : yPo S d_461 := by rw [ed_461]; exact yPo.i hPod_459 hk_h0 (Or.inl rfl)
                        have hfd_461 : yK [54, 55, 57, 63, 64, 65] d d_461 h0 := by rw [ed_461]; exact yK.i hfd_459 (by decide)
                        have hL0d_461 : yAg S [9] d_383 d_461 := by rw [ed_461]; exact yAg.i hL0d_459 (by rw [hk_h0]; decide)
                        have hK0d_461 : yK [54, 55] d_383 d_461 h0 := by rw [ed_461]; exact yK.i hK0d_459 (by decide)
                        have hId_461 : yMI S d_461 h0 := yMI.ag hId_459 hSh hm_h0 hk_h0 (show yAg S [9] d_459 d_461 from by rw [ed_461]; exact yAg.i yAg.rf (by rw [hk_h0]; decide)) (show yK [55] d_459 d_461 h0 from by rw [ed_461]; exact yK.i yK.rf (by decide)) (by decide) (by decide)
                        have hE0d_461 : (d_461.1 h0 0).toInt = (d_459.1 h0 0).toInt := congrArg Int32.toInt ((show yK [55] d_459 d_461 h0 from by rw [ed_461]; exact yK.i yK.rf (by decide)) 0 (by decide))
                        have hE1d_461 : (d_461.1 h0 1).toInt = (d_459.1 h0 1).toInt := congrArg Int32.toInt ((show yK [55] d_459 d_461 h0 from by rw [ed_461]; exact yK.i yK.rf (by decide)) 1 (by decide))
                        have hE2d_461 : (d_461.1 h0 2).toInt = (d_459.1 h0 2).toInt := congrArg Int32.toInt ((show yK [55] d_459 d_461 h0 from by rw [ed_461]; exact yK.i yK.rf (by decide)) 2 (by decide))
                        have hE3d_461 : (d_461.1 h0 3).toInt = (d_459.1 h0 3).toInt := congrArg Int32.toInt ((show yK [55] d_459 d_461 h0 from by rw [ed_461]; exact yK.i yK.rf (by decide)) 3 (by decide))
                        have hE63d_461 : (d_461.1 h0 63).toInt = (d_459.1 h0 63).toInt := congrArg Int32.toInt ((show yK [55] d_459 d_461 h0 from by rw [ed_461]; exact yK.i yK.rf (by decide)) 63 (by decide))
                        exact J367_384 d_461 _ _ ls _ ⟨rfl, hP, hD, hS, hgd_461, hPod_461, hfd_461, hId_461, hL0d_461, hK0d_461, lv_sub hl [0, 2, 3, 4] rfl⟩
                      · refine lv_iconst (v := 3) hx hb dX9_step_358 (by decide) ?_
                        refine lv_goto (tgt := 364) hx hb dX9_step_359 (by decide) ?_
                        refine yputI (ci := 9) (k := 55) (ty := .int) (C := RX9) (T := TX9) (N := 67) C0 hK hP hD hS hm_h0 hk_h0 (by decide) rfl inlX9 tyX9 tyX9_ok nmX9 (by decide) mW856 (fun _ h9 => h9) rfl (by decide +kernel) rfl rfl (Nat.le_of_ble_eq_true rfl) ysi_9_55 dX9_step_364 (fun H locs hP hD hS => ?_)
                        obtain ⟨d_462, ed_462⟩ : ∃ z : yD, z = yi d_459 h0 55 3 := ⟨_, rfl⟩
                        rw [← ed_462] at hP hD
                        have hgd_462 : yAg S [9, 77, 78] d d_462 := by rw [ed_462]; exact yAg.i hgd_459 (by rw [hk_h0]; decide)
                        have hsd_462 : yAg S [9] d_459 d_462 := by rw [ed_462]; exact yAg.i yAg.rf (by rw [hk_h0]; decide)
                        have hPod_462 : yPo S d_462 := by rw [ed_462]; exact yPo.i hPod_459 hk_h0 (Or.inl rfl)
                        have hfd_462 : yK [54, 55, 57, 63, 64, 65] d d_462 h0 := by rw [ed_462]; exact yK.i hfd_459 (by decide)
                        have hL0d_462 : yAg S [9] d_383 d_462 := by rw [ed_462]; exact yAg.i hL0d_459 (by rw [hk_h0]; decide)
                        have hK0d_462 : yK [54, 55] d_383 d_462 h0 := by rw [ed_462]; exact yK.i hK0d_459 (by decide)
                        have hId_462 : yMI S d_462 h0 := yMI.ag hId_459 hSh hm_h0 hk_h0 (show yAg S [9] d_459 d_462 from by rw [ed_462]; exact yAg.i yAg.rf (by rw [hk_h0]; decide)) (show yK [55] d_459 d_462 h0 from by rw [ed_462]; exact yK.i yK.rf (by decide)) (by decide) (by decide)
                        have hE0d_462 : (d_462.1 h0 0).toInt = (d_459.1 h0 0).toInt := congrArg Int32.toInt ((show yK [55] d_459 d_462 h0 from by rw [ed_462]; exact yK.i yK.rf (by decide)) 0 (by decide))
                        have hE1d_462 : (d_462.1 h0 1).toInt = (d_459.1 h0 1).toInt := congrArg Int32.toInt ((show yK [55] d_459 d_462 h0 from by rw [ed_462]; exact yK.i yK.rf (by decide)) 1 (by decide))
                        have hE2d_462 : (d_462.1 h0 2).toInt = (d_459.1 h0 2).toInt := congrArg Int32.toInt ((show yK [55] d_459 d_462 h0 from by rw [ed_462]; exact yK.i yK.rf (by decide)) 2 (by decide))
                        have hE3d_462 : (d_462.1 h0 3).toInt = (d_459.1 h0 3).toInt := congrArg Int32.toInt ((show yK [55] d_459 d_462 h0 from by rw [ed_462]; exact yK.i yK.rf (by decide)) 3 (by decide))
                        have hE63d_462 : (d_462.1 h0 63).toInt = (d_459.1 h0 63).toInt := congrArg Int32.toInt ((show yK [55] d_459 d_462 h0 from by rw [ed_462]; exact yK.i yK.rf (by decide)) 63 (by decide))
                        exact J367_384 d_462 _ _ ls _ ⟨rfl, hP, hD, hS, hgd_462, hPod_462, hfd_462, hId_462, hL0d_462, hK0d_462, lv_sub hl [0, 2, 3, 4] rfl⟩
                  · exact W.vret hx hb hr (fun t ht hW => ⟨⟨d_378, rfl, ⟨hgd_378, (fun _ => hPod_378), hfd_378, hId_378⟩, by rw [ht]; exact hP, hD⟩, hS.F ht⟩) hS.2.2 dX9_step_323
                refine lv_if_eq (tgt := 315) hx hb dX9_step_295 (by decide) (fun c_463 => ?_) (fun c_463 => ?_)
                · exact J315_377 d_377 _ _ ls _ ⟨rfl, hP, hD, hS, hgd_377, hPod_377, hfd_377, hId_377, yAg.rf, yK.rf, lv_sub hl [1, 2, 3, 5, 6] rfl⟩
                · refine lv_aload_n hx hb dX9_step_298 rfl (lv_at hl 1 rfl) ?_
                  refine yget (ci := 9) (k := 58) (v := .long (d_377.2.1 h0 58)) (C := RX9) (T := TX9) (N := 67) C0 hK hP hm_h0 hk_h0 (by decide) rfl inlX9 (by decide) mW873 (fun _ h9 => h9) rfl dX9_step_299 ?_
                  refine lv_topl (fun z_464 ez_464 => ?_)
                  refine lv_aload_n hx hb dX9_step_302 rfl (lv_at hl 1 rfl) ?_
                  refine yget (ci := 9) (k := 59) (v := .long (d_377.2.1 h0 59)) (C := RX9) (T := TX9) (N := 67) C0 hK hP hm_h0 hk_h0 (by decide) rfl inlX9 (by decide) mW874 (fun _ h9 => h9) rfl dX9_step_303 ?_
                  refine lv_topl (fun z_465 ez_465 => ?_)
                  refine W.lcmp hx hb dX9_step_306 ?_
                  refine lv_topi (fun z_466 ez_466 => ?_)
                  refine lv_if_lt (tgt := 315) hx hb dX9_step_307 (by decide) (fun c_467 => ?_) (fun c_467 => ?_)
                  · exact J315_377 d_377 _ _ ls _ ⟨rfl, hP, hD, hS, hgd_377, hPod_377, hfd_377, hId_377, yAg.rf, yK.rf, lv_sub hl [1, 2, 3, 5, 6] rfl⟩
                  · refine lv_aload_n hx hb dX9_step_310 rfl (lv_at hl 1 rfl) ?_
                    refine lv_lload_n hx hb dX9_step_311 rfl (lv_at hl 4 rfl) ?_
                    refine yputJ (ci := 9) (k := 61) (C := RX9) (T := TX9) (N := 67) C0 hK hP hD hS hm_h0 hk_h0 (by decide) rfl inlX9 tyX9 tyX9_ok nmX9 (by decide) mW876 (fun _ h9 => h9) rfl (by decide +kernel) (Nat.le_of_ble_eq_true rfl) ysj_9_61 dX9_step_312 (fun H locs hP hD hS => ?_)
                    obtain ⟨d_468, ed_468⟩ : ∃ z : yD, z = yj d_377 h0 61 p2 := ⟨_, rfl⟩
                    rw [← ed_468] at hP hD
                    have hgd_468 : yAg S [9, 77, 78] d d_468 := by rw [ed_468]; exact yAg.j hgd_377 (by rw [hk_h0]; decide)
                    have hsd_468 : yAg S [9] d_377 d_468 := by rw [ed_468]; exact yAg.j yAg.rf (by rw [hk_h0]; decide)
                    have hPod_468 : yPo S d_468 := by rw [ed_468]; exact hPod_377
                    have hfd_468 : yK [54, 55, 57, 63, 64, 65] d d_468 h0 := by rw [ed_468]; exact yK.j hfd_377
                    have hL1d_468 : yAg S [9] d_377 d_468 := by rw [ed_468]; exact yAg.j yAg.rf (by rw [hk_h0]; decide)
                    have hK1d_468 : yK [] d_377 d_468 h0 := by rw [ed_468]; exact yK.j yK.rf
                    have hId_468 : yMI S d_468 h0 := by rw [ed_468]; exact yMI.j hId_377
                    have hE0d_468 : (d_468.1 h0 0).toInt = (d_377.1 h0 0).toInt := congrArg Int32.toInt ((show yK [] d_377 d_468 h0 from by rw [ed_468]; exact yK.j yK.rf) 0 (by decide))
                    have hE1d_468 : (d_468.1 h0 1).toInt = (d_377.1 h0 1).toInt := congrArg Int32.toInt ((show yK [] d_377 d_468 h0 from by rw [ed_468]; exact yK.j yK.rf) 1 (by decide))
                    have hE2d_468 : (d_468.1 h0 2).toInt = (d_377.1 h0 2).toInt := congrArg Int32.toInt ((show yK [] d_377 d_468 h0 from by rw [ed_468]; exact yK.j yK.rf) 2 (by decide))
                    have hE3d_468 : (d_468.1 h0 3).toInt = (d_377.1 h0 3).toInt := congrArg Int32.toInt ((show yK [] d_377 d_468 h0 from by rw [ed_468]; exact yK.j yK.rf) 3 (by decide))
                    have hE63d_468 : (d_468.1 h0 63).toInt = (d_377.1 h0 63).toInt := congrArg Int32.toInt ((show yK [] d_377 d_468 h0 from by rw [ed_468]; exact yK.j yK.rf) 63 (by decide))
                    exact J315_377 d_468 _ _ ls _ ⟨rfl, hP, hD, hS, hgd_468, hPod_468, hfd_468, hId_468, hL1d_468, hK1d_468, lv_sub hl [1, 2, 3, 5, 6] rfl⟩
              refine lv_if_ge (tgt := 268) hx hb dX9_step_261 (by decide) (fun c_469 => ?_) (fun c_469 => ?_)
              · refine lv_iconst (v := 0) hx hb dX9_step_268 (by decide) ?_
                exact J269_371 0 ls _ ⟨rfl, lv_sub hl [0, 1, 2, 3, 4, 5] rfl, Or.inl rfl⟩
              · refine lv_iconst (v := 1) hx hb dX9_step_264 (by decide) ?_
                refine lv_goto (tgt := 269) hx hb dX9_step_265 (by decide) ?_
                exact J269_371 1 ls _ ⟨rfl, lv_sub hl [0, 1, 2, 3, 4, 5] rfl, Or.inr rfl⟩
            refine lv_if_eq (tgt := 252) hx hb dX9_step_150 (by decide) (fun c_470 => ?_) (fun c_470 => ?_)
            · exact J252_367 ((-3), v_362) ls _ ⟨rfl, lv_sub hl [2, 3, 4, 5, 1, 0] rfl⟩
            · refine lv_aload_n hx hb dX9_step_153 rfl (lv_at hl 2 rfl) ?_
              refine lv_iload_n hx hb dX9_step_154 rfl (lv_at hl 3 rfl) ?_
              refine lv_iload_n hx hb dX9_step_155 rfl (lv_at hl 4 rfl) ?_
              refine lv_aload_n hx hb dX9_step_156 rfl (lv_at hl 2 rfl) ?_
              refine yget (ci := 9) (k := 47) (v := .ref (S.2.2.1 h0 47)) (C := RX9) (T := TX9) (N := 67) C0 hK hP hm_h0 hk_h0 (by decide) rfl inlX9 (by decide) mW152 (fun _ h9 => h9) rfl dX9_step_157 ?_
              obtain ⟨hmy_471, hky_471⟩ := ySh.f9_47 hSh _ hm_h0 hk_h0
              refine lv_iload_n hx hb dX9_step_160 rfl (lv_at hl 3 rfl) ?_
              have F_472 := fne (rfl : (r_365 : Int32).toInt = (r_365 : Int32).toInt) (by decide +kernel : (0 : Int32).toInt = 0) c_470
              refine yald C0 hK hP hmy_471 hky_471 (by decide) rfl 0 rfl (xinT 8 rfl (by omega) (by omega)) dX9_step_161 ?_
              refine lv_topi (fun z_473 ez_473 => ?_)
              refine lv_aload_n hx hb dX9_step_162 rfl (lv_at hl 2 rfl) ?_
              refine yget (ci := 9) (k := 58) (v := .long (d_2.2.1 h0 58)) (C := RX9) (T := TX9) (N := 67) C0 hK hP hm_h0 hk_h0 (by decide) rfl inlX9 (by decide) mW873 (fun _ h9 => h9) rfl dX9_step_163 ?_
              refine lv_topl (fun z_474 ez_474 => ?_)
              refine lv_aload_n hx hb dX9_step_166 rfl (lv_at hl 2 rfl) ?_
              refine yget (ci := 9) (k := 59) (v := .long (d_2.2.1 h0 59)) (C := RX9) (T := TX9) (N := 67) C0 hK hP hm_h0 hk_h0 (by decide) rfl inlX9 (by decide) mW874 (fun _ h9 => h9) rfl dX9_step_167 ?_
              refine lv_topl (fun z_475 ez_475 => ?_)
              refine W.lcmp hx hb dX9_step_170 ?_
              refine lv_topi (fun z_476 ez_476 => ?_)
              refine yjoinR (σ := Int32) 179 (fun x ls st => st = [.int x, .int z_473, .int p1, .int p0, .ref h0] ∧ lv_has ls 12 [(0, .ref h0), (1, .int p0), (2, .int p1), (3, .long p2), (6, .int p4), (7, .int p5), (8, .int p6)] ∧ (x = 0 ∨ x = 1)) (fun x ls st hI => ?_) (fun J179_477 => ?_)
              · obtain ⟨v_477, rfl⟩ : ∃ z, z = x := ⟨_, rfl⟩
                obtain ⟨rfl, hl, hzv_477⟩ := hI
                have hl : lv_has ls 12 [(0, .ref h0), (1, .int p0), (2, .int p1), (3, .long p2), (6, .int p4), (7, .int p5), (8, .int p6)] := hl
                refine lv_iload hx hb dX9_step_179 (lv_at hl 4 rfl) ?_
                refine lv_iload hx hb dX9_step_181 (lv_at hl 5 rfl) ?_
                refine lv_iload hx hb dX9_step_183 (lv_at hl 6 rfl) ?_
                refine yVri (As := [.int p0, .int p1, .int z_473, .int v_477, .int p4, .int p5, .int p6]) (rest := []) C0 (g_X9_teller l G S d_2 h0 p0 p1 z_473 v_477 p4 p5 p6 hSh hm_h0 hk_h0 hId_2 (by refine ⟨?_, ?_⟩ <;> omega) (by refine ⟨?_, ?_⟩ <;> omega) (by refine ⟨?_, ?_⟩ <;> omega)) ok_X9_teller (mW889 : Cond.methodLink RX9 298 yX9_teller ∈ wsT) ⟨Nat.le_of_ble_eq_true rfl, Nat.le_of_ble_eq_true rfl⟩ hP hD hK hN hm_h0 hk_h0 (by decide) rfl rfl rfl hl.1 rfl (Nat.le_of_ble_eq_true rfl) ⟨Nat.le_of_ble_eq_true rfl, Nat.le_of_ble_eq_true rfl⟩ dX9_step_185 (fun r_478 hr_478 => ?_)
                refine lv_istore (lv' := [(9, .int r_478), (0, .ref h0), (1, .int p0), (2, .int p1), (3, .long p2), (6, .int p4), (7, .int p5), (8, .int p6)]) hx hb dX9_step_188 hl (by decide) rfl (fun ls hl => ?_)
                refine lv_aload_n hx hb dX9_step_190 rfl (lv_at hl 1 rfl) ?_
                refine lv_iload_n hx hb dX9_step_191 rfl (lv_at hl 2 rfl) ?_
                refine lv_iconst (v := 1) hx hb dX9_step_192 (by decide) ?_
                refine yVri (As := [.int p0, .int 1]) (rest := []) C0 (g_X9_of l G S d_2 h0 p0 1 hSh hm_h0 hk_h0 (by refine ⟨?_, ?_⟩ <;> omega) (by decide +kernel)) ok_X9_of (mW425 : Cond.methodLink RX9 161 yX9_of ∈ wsT) ⟨Nat.le_of_ble_eq_true rfl, Nat.le_of_ble_eq_true rfl⟩ hP hD hK hN hm_h0 hk_h0 (by decide) rfl rfl rfl hl.1 rfl (Nat.le_of_ble_eq_true rfl) ⟨Nat.le_of_ble_eq_true rfl, Nat.le_of_ble_eq_true rfl⟩ dX9_step_193 (fun r_479 hr_479 => ?_)
                have hOr_479 : (r_479 : Int32).toInt = yOf S d_2 h0 (p0 : Int32).toInt.toNat 1 := by rw [hr_479, show (1 : Int32).toInt.toNat = 1 by decide +kernel]; rfl
                have hbr_479 := xof1 hId_2 (p := p0) (by refine ⟨?_, ?_⟩ <;> omega) hr_479
                refine lv_iload hx hb dX9_step_196 (lv_at hl 7 rfl) ?_
                refine lv_icmp_ne (tgt := 213) hx hb dX9_step_198 (by decide) (fun c_480 => ?_) (fun c_480 => ?_)
                · refine lv_iload hx hb dX9_step_213 (lv_at hl 0 rfl) ?_
                  refine lv_istore (lv' := [(11, .int r_478), (9, .int r_478), (0, .ref h0), (1, .int p0), (2, .int p1), (3, .long p2), (6, .int p4), (7, .int p5), (8, .int p6)]) hx hb dX9_step_215 hl (by decide) rfl (fun ls hl => ?_)
                  refine lv_iload hx hb dX9_step_217 (lv_at hl 1 rfl) ?_
                  refine lv_bipush (v := (-2)) hx hb dX9_step_219 (by decide) ?_
                  refine lv_icmp_ne (tgt := 228) hx hb dX9_step_221 (by decide) (fun c_481 => ?_) (fun c_481 => ?_)
                  · refine lv_aload_n hx hb dX9_step_228 rfl (lv_at hl 2 rfl) ?_
                    refine lv_bipush (v := 60) hx hb dX9_step_229 (by decide) ?_
                    refine lv_aload_n hx hb dX9_step_231 rfl (lv_at hl 2 rfl) ?_
                    refine lv_iload_n hx hb dX9_step_232 rfl (lv_at hl 3 rfl) ?_
                    refine lv_iconst (v := 1) hx hb dX9_step_233 (by decide) ?_
                    have F_482 := fne (rfl : (r_479 : Int32).toInt = (r_479 : Int32).toInt) (rfl : (p6 : Int32).toInt = (p6 : Int32).toInt) c_480
                    have F_483 := fne (rfl : (r_478 : Int32).toInt = (r_478 : Int32).toInt) (by decide +kernel : ((-2) : Int32).toInt = (-2)) c_481
                    refine yVri (As := [.int p0, .int 1]) (rest := [.int 60, .ref h0]) C0 (g_X9_of l G S d_2 h0 p0 1 hSh hm_h0 hk_h0 (by refine ⟨?_, ?_⟩ <;> omega) (by decide +kernel)) ok_X9_of (mW425 : Cond.methodLink RX9 161 yX9_of ∈ wsT) ⟨Nat.le_of_ble_eq_true rfl, Nat.le_of_ble_eq_true rfl⟩ hP hD hK hN hm_h0 hk_h0 (by decide) rfl rfl rfl hl.1 rfl (Nat.le_of_ble_eq_true rfl) ⟨Nat.le_of_ble_eq_true rfl, Nat.le_of_ble_eq_true rfl⟩ dX9_step_234 (fun r_484 hr_484 => ?_)
                    have hOr_484 : (r_484 : Int32).toInt = yOf S d_2 h0 (p0 : Int32).toInt.toNat 1 := by rw [hr_484, show (1 : Int32).toInt.toNat = 1 by decide +kernel]; rfl
                    have hbr_484 := xof1 hId_2 (p := p0) (by refine ⟨?_, ?_⟩ <;> omega) hr_484
                    refine lv_imul hx hb dX9_step_237 ?_
                    refine lv_topi (fun z_485 ez_485 => ?_)
                    refine lv_iload hx hb dX9_step_238 (lv_at hl 0 rfl) ?_
                    refine lv_iadd hx hb dX9_step_240 ?_
                    refine lv_topi (fun z_486 ez_486 => ?_)
                    refine lv_aload_n hx hb dX9_step_241 rfl (lv_at hl 2 rfl) ?_
                    refine yget (ci := 9) (k := 47) (v := .ref (S.2.2.1 h0 47)) (C := RX9) (T := TX9) (N := 67) C0 hK hP hm_h0 hk_h0 (by decide) rfl inlX9 (by decide) mW152 (fun _ h9 => h9) rfl dX9_step_242 ?_
                    refine lv_iload_n hx hb dX9_step_245 rfl (lv_at hl 3 rfl) ?_
                    refine yald C0 hK hP hmy_471 hky_471 (by decide) rfl 0 rfl (xinT 8 rfl (by omega) (by omega)) dX9_step_246 ?_
                    rw [← ez_473]
                    have T_488 : (z_485 : Int32).toInt = 60 * (r_484 : Int32).toInt := tmul ez_485 (by decide +kernel : (60 : Int32).toInt = 60) (rfl : (r_484 : Int32).toInt = (r_484 : Int32).toInt) (by omega) (by omega)
                    have T_487 : (z_486 : Int32).toInt = (z_485 : Int32).toInt + (r_478 : Int32).toInt := tadd ez_486 (rfl : (z_485 : Int32).toInt = (z_485 : Int32).toInt) (rfl : (r_478 : Int32).toInt = (r_478 : Int32).toInt) (by omega) (by omega)
                    refine yVri (As := [.int z_486, .int z_473]) (rest := []) C0 (g_X9_adds l G S d_2 h0 z_486 z_473 hSh hm_h0 hk_h0 (by refine ⟨?_, ?_⟩ <;> omega)) ok_X9_adds (mW901 : Cond.methodLink RX9 302 yX9_adds ∈ wsT) ⟨Nat.le_of_ble_eq_true rfl, Nat.le_of_ble_eq_true rfl⟩ hP hD hK hN hm_h0 hk_h0 (by decide) rfl rfl rfl hl.1 rfl (Nat.le_of_ble_eq_true rfl) ⟨Nat.le_of_ble_eq_true rfl, Nat.le_of_ble_eq_true rfl⟩ dX9_step_247 (fun r_489 hr_489 => ?_)
                    refine lv_istore (lv' := [(10, .int r_489), (11, .int r_478), (9, .int r_478), (0, .ref h0), (1, .int p0), (2, .int p1), (3, .long p2), (6, .int p4), (7, .int p5), (8, .int p6)]) hx hb dX9_step_250 hl (by decide) rfl (fun ls hl => ?_)
                    exact J252_367 (r_478, r_489) ls _ ⟨rfl, lv_sub hl [3, 4, 5, 6, 2, 0] rfl⟩
                  · refine lv_iconst (v := 2) hx hb dX9_step_224 (by decide) ?_
                    refine lv_goto (tgt := 250) hx hb dX9_step_225 (by decide) ?_
                    refine lv_istore (lv' := [(10, .int 2), (11, .int r_478), (9, .int r_478), (0, .ref h0), (1, .int p0), (2, .int p1), (3, .long p2), (6, .int p4), (7, .int p5), (8, .int p6)]) hx hb dX9_step_250 hl (by decide) rfl (fun ls hl => ?_)
                    exact J252_367 (r_478, 2) ls _ ⟨rfl, lv_sub hl [3, 4, 5, 6, 2, 0] rfl⟩
                · refine lv_iload hx hb dX9_step_201 (lv_at hl 0 rfl) ?_
                  refine lv_iload hx hb dX9_step_203 (lv_at hl 5 rfl) ?_
                  refine lv_icmp_ne (tgt := 213) hx hb dX9_step_205 (by decide) (fun c_490 => ?_) (fun c_490 => ?_)
                  · refine lv_iload hx hb dX9_step_213 (lv_at hl 0 rfl) ?_
                    refine lv_istore (lv' := [(11, .int r_478), (9, .int r_478), (0, .ref h0), (1, .int p0), (2, .int p1), (3, .long p2), (6, .int p4), (7, .int p5), (8, .int p6)]) hx hb dX9_step_215 hl (by decide) rfl (fun ls hl => ?_)
                    refine lv_iload hx hb dX9_step_217 (lv_at hl 1 rfl) ?_
                    refine lv_bipush (v := (-2)) hx hb dX9_step_219 (by decide) ?_
                    refine lv_icmp_ne (tgt := 228) hx hb dX9_step_221 (by decide) (fun c_491 => ?_) (fun c_491 => ?_)
                    · refine lv_aload_n hx hb dX9_step_228 rfl (lv_at hl 2 rfl) ?_
                      refine lv_bipush (v := 60) hx hb dX9_step_229 (by decide) ?_
                      refine lv_aload_n hx hb dX9_step_231 rfl (lv_at hl 2 rfl) ?_
                      refine lv_iload_n hx hb dX9_step_232 rfl (lv_at hl 3 rfl) ?_
                      refine lv_iconst (v := 1) hx hb dX9_step_233 (by decide) ?_
                      have F_492 := feq (rfl : (r_479 : Int32).toInt = (r_479 : Int32).toInt) (rfl : (p6 : Int32).toInt = (p6 : Int32).toInt) c_480
                      have F_493 := fne (rfl : (r_478 : Int32).toInt = (r_478 : Int32).toInt) (rfl : (p4 : Int32).toInt = (p4 : Int32).toInt) c_490
                      have F_494 := fne (rfl : (r_478 : Int32).toInt = (r_478 : Int32).toInt) (by decide +kernel : ((-2) : Int32).toInt = (-2)) c_491
                      refine yVri (As := [.int p0, .int 1]) (rest := [.int 60, .ref h0]) C0 (g_X9_of l G S d_2 h0 p0 1 hSh hm_h0 hk_h0 (by refine ⟨?_, ?_⟩ <;> omega) (by decide +kernel)) ok_X9_of (mW425 : Cond.methodLink RX9 161 yX9_of ∈ wsT) ⟨Nat.le_of_ble_eq_true rfl, Nat.le_of_ble_eq_true rfl⟩ hP hD hK hN hm_h0 hk_h0 (by decide) rfl rfl rfl hl.1 rfl (Nat.le_of_ble_eq_true rfl) ⟨Nat.le_of_ble_eq_true rfl, Nat.le_of_ble_eq_true rfl⟩ dX9_step_234 (fun r_495 hr_495 => ?_)
                      have hOr_495 : (r_495 : Int32).toInt = yOf S d_2 h0 (p0 : Int32).toInt.toNat 1 := by rw [hr_495, show (1 : Int32).toInt.toNat = 1 by decide +kernel]; rfl
                      have hbr_495 := xof1 hId_2 (p := p0) (by refine ⟨?_, ?_⟩ <;> omega) hr_495
                      refine lv_imul hx hb dX9_step_237 ?_
                      refine lv_topi (fun z_496 ez_496 => ?_)
                      refine lv_iload hx hb dX9_step_238 (lv_at hl 0 rfl) ?_
                      refine lv_iadd hx hb dX9_step_240 ?_
                      refine lv_topi (fun z_497 ez_497 => ?_)
                      refine lv_aload_n hx hb dX9_step_241 rfl (lv_at hl 2 rfl) ?_
                      refine yget (ci := 9) (k := 47) (v := .ref (S.2.2.1 h0 47)) (C := RX9) (T := TX9) (N := 67) C0 hK hP hm_h0 hk_h0 (by decide) rfl inlX9 (by decide) mW152 (fun _ h9 => h9) rfl dX9_step_242 ?_
                      refine lv_iload_n hx hb dX9_step_245 rfl (lv_at hl 3 rfl) ?_
                      refine yald C0 hK hP hmy_471 hky_471 (by decide) rfl 0 rfl (xinT 8 rfl (by omega) (by omega)) dX9_step_246 ?_
                      rw [← ez_473]
                      have T_499 : (z_496 : Int32).toInt = 60 * (r_495 : Int32).toInt := tmul ez_496 (by decide +kernel : (60 : Int32).toInt = 60) (rfl : (r_495 : Int32).toInt = (r_495 : Int32).toInt) (by omega) (by omega)
                      have T_498 : (z_497 : Int32).toInt = (z_496 : Int32).toInt + (r_478 : Int32).toInt := tadd ez_497 (rfl : (z_496 : Int32).toInt = (z_496 : Int32).toInt) (rfl : (r_478 : Int32).toInt = (r_478 : Int32).toInt) (by omega) (by omega)
                      refine yVri (As := [.int z_497, .int z_473]) (rest := []) C0 (g_X9_adds l G S d_2 h0 z_497 z_473 hSh hm_h0 hk_h0 (by refine ⟨?_, ?_⟩ <;> omega)) ok_X9_adds (mW901 : Cond.methodLink RX9 302 yX9_adds ∈ wsT) ⟨Nat.le_of_ble_eq_true rfl, Nat.le_of_ble_eq_true rfl⟩ hP hD hK hN hm_h0 hk_h0 (by decide) rfl rfl rfl hl.1 rfl (Nat.le_of_ble_eq_true rfl) ⟨Nat.le_of_ble_eq_true rfl, Nat.le_of_ble_eq_true rfl⟩ dX9_step_247 (fun r_500 hr_500 => ?_)
                      refine lv_istore (lv' := [(10, .int r_500), (11, .int r_478), (9, .int r_478), (0, .ref h0), (1, .int p0), (2, .int p1), (3, .long p2), (6, .int p4), (7, .int p5), (8, .int p6)]) hx hb dX9_step_250 hl (by decide) rfl (fun ls hl => ?_)
                      exact J252_367 (r_478, r_500) ls _ ⟨rfl, lv_sub hl [3, 4, 5, 6, 2, 0] rfl⟩
                    · refine lv_iconst (v := 2) hx hb dX9_step_224 (by decide) ?_
                      refine lv_goto (tgt := 250) hx hb dX9_step_225 (by decide) ?_
                      refine lv_istore (lv' := [(10, .int 2), (11, .int r_478), (9, .int r_478), (0, .ref h0), (1, .int p0), (2, .int p1), (3, .long p2), (6, .int p4), (7, .int p5), (8, .int p6)]) hx hb dX9_step_250 hl (by decide) rfl (fun ls hl => ?_)
                      exact J252_367 (r_478, 2) ls _ ⟨rfl, lv_sub hl [3, 4, 5, 6, 2, 0] rfl⟩
                  · refine lv_iload hx hb dX9_step_208 (lv_at hl 6 rfl) ?_
                    refine lv_goto (tgt := 215) hx hb dX9_step_210 (by decide) ?_
                    refine lv_istore (lv' := [(11, .int p5), (9, .int r_478), (0, .ref h0), (1, .int p0), (2, .int p1), (3, .long p2), (6, .int p4), (7, .int p5), (8, .int p6)]) hx hb dX9_step_215 hl (by decide) rfl (fun ls hl => ?_)
                    refine lv_iload hx hb dX9_step_217 (lv_at hl 1 rfl) ?_
                    refine lv_bipush (v := (-2)) hx hb dX9_step_219 (by decide) ?_
                    refine lv_icmp_ne (tgt := 228) hx hb dX9_step_221 (by decide) (fun c_501 => ?_) (fun c_501 => ?_)
                    · refine lv_aload_n hx hb dX9_step_228 rfl (lv_at hl 2 rfl) ?_
                      refine lv_bipush (v := 60) hx hb dX9_step_229 (by decide) ?_
                      refine lv_aload_n hx hb dX9_step_231 rfl (lv_at hl 2 rfl) ?_
                      refine lv_iload_n hx hb dX9_step_232 rfl (lv_at hl 3 rfl) ?_
                      refine lv_iconst (v := 1) hx hb dX9_step_233 (by decide) ?_
                      have F_502 := feq (rfl : (r_479 : Int32).toInt = (r_479 : Int32).toInt) (rfl : (p6 : Int32).toInt = (p6 : Int32).toInt) c_480
                      have F_503 := feq (rfl : (r_478 : Int32).toInt = (r_478 : Int32).toInt) (rfl : (p4 : Int32).toInt = (p4 : Int32).toInt) c_490
                      have F_504 := fne (rfl : (r_478 : Int32).toInt = (r_478 : Int32).toInt) (by decide +kernel : ((-2) : Int32).toInt = (-2)) c_501
                      refine yVri (As := [.int p0, .int 1]) (rest := [.int 60, .ref h0]) C0 (g_X9_of l G S d_2 h0 p0 1 hSh hm_h0 hk_h0 (by refine ⟨?_, ?_⟩ <;> omega) (by decide +kernel)) ok_X9_of (mW425 : Cond.methodLink RX9 161 yX9_of ∈ wsT) ⟨Nat.le_of_ble_eq_true rfl, Nat.le_of_ble_eq_true rfl⟩ hP hD hK hN hm_h0 hk_h0 (by decide) rfl rfl rfl hl.1 rfl (Nat.le_of_ble_eq_true rfl) ⟨Nat.le_of_ble_eq_true rfl, Nat.le_of_ble_eq_true rfl⟩ dX9_step_234 (fun r_505 hr_505 => ?_)
                      have hOr_505 : (r_505 : Int32).toInt = yOf S d_2 h0 (p0 : Int32).toInt.toNat 1 := by rw [hr_505, show (1 : Int32).toInt.toNat = 1 by decide +kernel]; rfl
                      have hbr_505 := xof1 hId_2 (p := p0) (by refine ⟨?_, ?_⟩ <;> omega) hr_505
                      refine lv_imul hx hb dX9_step_237 ?_
                      refine lv_topi (fun z_506 ez_506 => ?_)
                      refine lv_iload hx hb dX9_step_238 (lv_at hl 0 rfl) ?_
                      refine lv_iadd hx hb dX9_step_240 ?_
                      refine lv_topi (fun z_507 ez_507 => ?_)
                      refine lv_aload_n hx hb dX9_step_241 rfl (lv_at hl 2 rfl) ?_
                      refine yget (ci := 9) (k := 47) (v := .ref (S.2.2.1 h0 47)) (C := RX9) (T := TX9) (N := 67) C0 hK hP hm_h0 hk_h0 (by decide) rfl inlX9 (by decide) mW152 (fun _ h9 => h9) rfl dX9_step_242 ?_
                      refine lv_iload_n hx hb dX9_step_245 rfl (lv_at hl 3 rfl) ?_
                      refine yald C0 hK hP hmy_471 hky_471 (by decide) rfl 0 rfl (xinT 8 rfl (by omega) (by omega)) dX9_step_246 ?_
                      rw [← ez_473]
                      have T_509 : (z_506 : Int32).toInt = 60 * (r_505 : Int32).toInt := tmul ez_506 (by decide +kernel : (60 : Int32).toInt = 60) (rfl : (r_505 : Int32).toInt = (r_505 : Int32).toInt) (by omega) (by omega)
                      have T_508 : (z_507 : Int32).toInt = (z_506 : Int32).toInt + (p5 : Int32).toInt := tadd ez_507 (rfl : (z_506 : Int32).toInt = (z_506 : Int32).toInt) (rfl : (p5 : Int32).toInt = (p5 : Int32).toInt) (by omega) (by omega)
                      refine yVri (As := [.int z_507, .int z_473]) (rest := []) C0 (g_X9_adds l G S d_2 h0 z_507 z_473 hSh hm_h0 hk_h0 (by refine ⟨?_, ?_⟩ <;> omega)) ok_X9_adds (mW901 : Cond.methodLink RX9 302 yX9_adds ∈ wsT) ⟨Nat.le_of_ble_eq_true rfl, Nat.le_of_ble_eq_true rfl⟩ hP hD hK hN hm_h0 hk_h0 (by decide) rfl rfl rfl hl.1 rfl (Nat.le_of_ble_eq_true rfl) ⟨Nat.le_of_ble_eq_true rfl, Nat.le_of_ble_eq_true rfl⟩ dX9_step_247 (fun r_510 hr_510 => ?_)
                      refine lv_istore (lv' := [(10, .int r_510), (11, .int p5), (9, .int r_478), (0, .ref h0), (1, .int p0), (2, .int p1), (3, .long p2), (6, .int p4), (7, .int p5), (8, .int p6)]) hx hb dX9_step_250 hl (by decide) rfl (fun ls hl => ?_)
                      exact J252_367 (r_478, r_510) ls _ ⟨rfl, lv_sub hl [3, 4, 5, 6, 2, 0] rfl⟩
                    · refine lv_iconst (v := 2) hx hb dX9_step_224 (by decide) ?_
                      refine lv_goto (tgt := 250) hx hb dX9_step_225 (by decide) ?_
                      refine lv_istore (lv' := [(10, .int 2), (11, .int p5), (9, .int r_478), (0, .ref h0), (1, .int p0), (2, .int p1), (3, .long p2), (6, .int p4), (7, .int p5), (8, .int p6)]) hx hb dX9_step_250 hl (by decide) rfl (fun ls hl => ?_)
                      exact J252_367 (r_478, 2) ls _ ⟨rfl, lv_sub hl [3, 4, 5, 6, 2, 0] rfl⟩
              refine lv_if_lt (tgt := 178) hx hb dX9_step_171 (by decide) (fun c_511 => ?_) (fun c_511 => ?_)
              · refine lv_iconst (v := 0) hx hb dX9_step_178 (by decide) ?_
                exact J179_477 0 ls _ ⟨rfl, lv_sub hl [2, 3, 4, 5, 6, 7, 8] rfl, Or.inl rfl⟩
              · refine lv_iconst (v := 1) hx hb dX9_step_174 (by decide) ?_
                refine lv_goto (tgt := 179) hx hb dX9_step_175 (by decide) ?_
                exact J179_477 1 ls _ ⟨rfl, lv_sub hl [2, 3, 4, 5, 6, 7, 8] rfl, Or.inr rfl⟩
          refine lv_if_eq (tgt := 141) hx hb dX9_step_134 (by decide) (fun c_512 => ?_) (fun c_512 => ?_)
          · refine lv_iconst (v := 0) hx hb dX9_step_141 (by decide) ?_
            exact J142_362 0 ls _ ⟨rfl, lv_sub hl [0, 1, 2, 3, 4, 6, 7, 8] rfl⟩
          · refine lv_iconst (v := 2) hx hb dX9_step_137 (by decide) ?_
            refine lv_goto (tgt := 142) hx hb dX9_step_138 (by decide) ?_
            exact J142_362 2 ls _ ⟨rfl, lv_sub hl [0, 1, 2, 3, 4, 6, 7, 8] rfl⟩
        · refine lv_aload_n hx hb dX9_step_58 rfl (lv_at hl 0 rfl) ?_
          refine yget (ci := 9) (k := 48) (v := .ref (S.2.2.1 h0 48)) (C := RX9) (T := TX9) (N := 67) C0 hK hP hm_h0 hk_h0 (by decide) rfl inlX9 (by decide) mW153 (fun _ h9 => h9) rfl dX9_step_59 ?_
          refine lv_iload_n hx hb dX9_step_62 rfl (lv_at hl 1 rfl) ?_
          have F_514 := fnlt (rfl : (p1 : Int32).toInt = (p1 : Int32).toInt) (rfl : (z_360 : Int32).toInt = (z_360 : Int32).toInt) c_361
          refine yald C0 hK hP hmy_5 hky_5 (by decide) rfl 0 rfl (xinT 8 rfl (by omega) (by omega)) dX9_step_63 ?_
          rw [← ez_7]
          have hvz_7 : 0 ≤ (z_7 : Int32).toInt ∧ (z_7 : Int32).toInt ≤ 5000 := by rw [ez_7]; exact yMI.ne_ hId_2 _
          refine lv_istore (lv' := [(9, .int z_7), (0, .ref h0), (1, .int p0), (2, .int p1), (3, .long p2), (5, .int p3), (6, .int p4), (7, .int p5), (8, .int p6)]) hx hb dX9_step_64 hl (by decide) rfl (fun ls hl => ?_)
          refine lv_aload_n hx hb dX9_step_66 rfl (lv_at hl 1 rfl) ?_
          refine yget (ci := 9) (k := 15) (v := .ref (S.2.2.1 h0 15)) (C := RX9) (T := TX9) (N := 67) C0 hK hP hm_h0 hk_h0 (by decide) rfl inlX9 (by decide) mW122 (fun _ h9 => h9) rfl dX9_step_67 ?_
          refine lv_iload hx hb dX9_step_70 (lv_at hl 0 rfl) ?_
          refine yaldB C0 hK hP hmy_162 hky_162 (by decide) rfl 1 rfl (xinT 5000 rfl (by omega) (by omega)) dX9_step_72 ?_
          rw [← ez_166]
          refine lv_iload_n hx hb dX9_step_73 rfl (lv_at hl 2 rfl) ?_
          refine lv_icmp_ne (tgt := 115) hx hb dX9_step_74 (by decide) (fun c_515 => absurd c_207 c_515) (fun c_515 => ?_)
          refine lv_aload_n hx hb dX9_step_77 rfl (lv_at hl 1 rfl) ?_
          refine yget (ci := 9) (k := 17) (v := .ref (S.2.2.1 h0 17)) (C := RX9) (T := TX9) (N := 67) C0 hK hP hm_h0 hk_h0 (by decide) rfl inlX9 (by decide) mW124 (fun _ h9 => h9) rfl dX9_step_78 ?_
          obtain ⟨hmy_516, hky_516⟩ := ySh.f9_17 hSh _ hm_h0 hk_h0
          refine lv_iload hx hb dX9_step_81 (lv_at hl 0 rfl) ?_
          have F_517 := feq (rfl : (z_166 : Int32).toInt = (z_166 : Int32).toInt) (rfl : (p0 : Int32).toInt = (p0 : Int32).toInt) c_515
          refine yaldB C0 hK hP hmy_516 hky_516 (by decide) rfl 1 rfl (xinT 5000 rfl (by omega) (by omega)) dX9_step_83 ?_
          refine lv_topi (fun z_518 ez_518 => ?_)
          refine lv_iconst (v := 3) hx hb dX9_step_84 (by decide) ?_
          refine lv_icmp_lt (tgt := 115) hx hb dX9_step_85 (by decide) (fun c_519 => ?_) (fun c_519 => ?_)
          · refine lv_aload_n hx hb dX9_step_115 rfl (lv_at hl 1 rfl) ?_
            refine yget (ci := 9) (k := 48) (v := .ref (S.2.2.1 h0 48)) (C := RX9) (T := TX9) (N := 67) C0 hK hP hm_h0 hk_h0 (by decide) rfl inlX9 (by decide) mW153 (fun _ h9 => h9) rfl dX9_step_116 ?_
            refine lv_iload_n hx hb dX9_step_119 rfl (lv_at hl 2 rfl) ?_
            refine lv_dup2_11 hx hb dX9_step_120 rfl rfl ?_
            have F_521 := flt (rfl : (z_518 : Int32).toInt = (z_518 : Int32).toInt) (by decide +kernel : (3 : Int32).toInt = 3) c_519
            refine yald C0 hK hP hmy_5 hky_5 (by decide) rfl 0 rfl (xinT 8 rfl (by omega) (by omega)) dX9_step_121 ?_
            rw [← ez_7]
            have hvz_7 : 0 ≤ (z_7 : Int32).toInt ∧ (z_7 : Int32).toInt ≤ 5000 := by rw [ez_7]; exact yMI.ne_ hId_2 _
            refine lv_iconst (v := 1) hx hb dX9_step_122 (by decide) ?_
            refine lv_iadd hx hb dX9_step_123 ?_
            refine lv_topi (fun z_522 ez_522 => ?_)
            refine yast C0 hK hP hD hS hmy_5 hky_5 (by decide) rfl 0 rfl (xinT 8 rfl (by omega) (by omega)) dX9_step_124 (fun H locs hP hD hS => ?_)
            obtain ⟨d_523, ed_523⟩ : ∃ z : yD, z = ycs d_2 (S.2.2.1 h0 48) (upd (d_2.2.2.2.1 (S.2.2.1 h0 48)) (p0 : Int32).toNatClampNeg z_522) := ⟨_, rfl⟩
            rw [← ed_523] at hP hD
            have hgd_523 : yAg S [9, 77, 78] d d_523 := by rw [ed_523]; exact yAg.cs hgd_2 (by rw [hky_5]; decide)
            have hsd_523 : yAg S [78] d_2 d_523 := by rw [ed_523]; exact yAg.cs yAg.rf (by rw [hky_5]; decide)
            have hPod_523 : yPo S d_523 := by rw [ed_523]; exact hPod_2
            have hfd_523 : yK [54, 55, 57, 63, 64, 65] d d_523 h0 := yK.ag hfd_2 (show yAg S [78] d_2 d_523 from by rw [ed_523]; exact yAg.cs yAg.rf (by rw [hky_5]; decide)) (by rw [hk_h0]; decide)
            have hL0d_523 : yAg S [77, 78] d d_523 := by rw [ed_523]; exact yAg.cs hLJd_2 (by rw [hky_5]; decide)
            have hK0d_523 : yK [] d d_523 h0 := yK.ag hKJd_2 (show yAg S [78] d_2 d_523 from by rw [ed_523]; exact yAg.cs yAg.rf (by rw [hky_5]; decide)) (by rw [hk_h0]; decide)
            have T_524 : (z_522 : Int32).toInt = (z_7 : Int32).toInt + 1 := tadd ez_522 (rfl : (z_7 : Int32).toInt = (z_7 : Int32).toInt) (by decide +kernel : (1 : Int32).toInt = 1) (by omega) (by omega)
            have hId_523 : yMI S d_523 h0 := by rw [ed_523]; exact yMI.w48 hId_2 hSh hm_h0 hk_h0 (yBr.up (yMI.ne_ hId_2) ⟨by omega, by omega⟩)
            have hE0d_523 : (d_523.1 h0 0).toInt = (d_2.1 h0 0).toInt := congrArg Int32.toInt ((yK.ag (F := []) yK.rf (show yAg S [78] d_2 d_523 from by rw [ed_523]; exact yAg.cs yAg.rf (by rw [hky_5]; decide)) (by rw [hk_h0]; decide)) 0 (by decide))
            have hE1d_523 : (d_523.1 h0 1).toInt = (d_2.1 h0 1).toInt := congrArg Int32.toInt ((yK.ag (F := []) yK.rf (show yAg S [78] d_2 d_523 from by rw [ed_523]; exact yAg.cs yAg.rf (by rw [hky_5]; decide)) (by rw [hk_h0]; decide)) 1 (by decide))
            have hE2d_523 : (d_523.1 h0 2).toInt = (d_2.1 h0 2).toInt := congrArg Int32.toInt ((yK.ag (F := []) yK.rf (show yAg S [78] d_2 d_523 from by rw [ed_523]; exact yAg.cs yAg.rf (by rw [hky_5]; decide)) (by rw [hk_h0]; decide)) 2 (by decide))
            have hE3d_523 : (d_523.1 h0 3).toInt = (d_2.1 h0 3).toInt := congrArg Int32.toInt ((yK.ag (F := []) yK.rf (show yAg S [78] d_2 d_523 from by rw [ed_523]; exact yAg.cs yAg.rf (by rw [hky_5]; decide)) (by rw [hk_h0]; decide)) 3 (by decide))
            have hE63d_523 : (d_523.1 h0 63).toInt = (d_2.1 h0 63).toInt := congrArg Int32.toInt ((yK.ag (F := []) yK.rf (show yAg S [78] d_2 d_523 from by rw [ed_523]; exact yAg.cs yAg.rf (by rw [hky_5]; decide)) (by rw [hk_h0]; decide)) 63 (by decide))
            refine lv_goto (tgt := 0) hx hb dX9_step_125 (by decide) ?_
            have hCC_525 := yMI.c hId_523
            exact hnext_3 d_523 _ _ ls ((xnext ed_523 ez_522 ez_7 (rfl) ez_7 hvz_7)) ⟨hP, hD, hS, hgd_523, hPod_523, hfd_523, hId_523, hL0d_523, hK0d_523, trivial, lv_sub hl [1, 2, 3, 4, 5, 6, 7, 8] rfl⟩
          · refine lv_aload_n hx hb dX9_step_88 rfl (lv_at hl 1 rfl) ?_
            refine yget (ci := 9) (k := 17) (v := .ref (S.2.2.1 h0 17)) (C := RX9) (T := TX9) (N := 67) C0 hK hP hm_h0 hk_h0 (by decide) rfl inlX9 (by decide) mW124 (fun _ h9 => h9) rfl dX9_step_89 ?_
            refine lv_iload hx hb dX9_step_92 (lv_at hl 0 rfl) ?_
            have F_527 := fnlt (rfl : (z_518 : Int32).toInt = (z_518 : Int32).toInt) (by decide +kernel : (3 : Int32).toInt = 3) c_519
            refine yaldB C0 hK hP hmy_516 hky_516 (by decide) rfl 1 rfl (xinT 5000 rfl (by omega) (by omega)) dX9_step_94 ?_
            rw [← ez_518]
            refine lv_bipush (v := 6) hx hb dX9_step_95 (by decide) ?_
            refine lv_icmp_gt (tgt := 115) hx hb dX9_step_97 (by decide) (fun c_528 => ?_) (fun c_528 => ?_)
            · refine lv_aload_n hx hb dX9_step_115 rfl (lv_at hl 1 rfl) ?_
              refine yget (ci := 9) (k := 48) (v := .ref (S.2.2.1 h0 48)) (C := RX9) (T := TX9) (N := 67) C0 hK hP hm_h0 hk_h0 (by decide) rfl inlX9 (by decide) mW153 (fun _ h9 => h9) rfl dX9_step_116 ?_
              refine lv_iload_n hx hb dX9_step_119 rfl (lv_at hl 2 rfl) ?_
              refine lv_dup2_11 hx hb dX9_step_120 rfl rfl ?_
              have F_529 := flt (by decide +kernel : (6 : Int32).toInt = 6) (rfl : (z_518 : Int32).toInt = (z_518 : Int32).toInt) c_528
              refine yald C0 hK hP hmy_5 hky_5 (by decide) rfl 0 rfl (xinT 8 rfl (by omega) (by omega)) dX9_step_121 ?_
              rw [← ez_7]
              have hvz_7 : 0 ≤ (z_7 : Int32).toInt ∧ (z_7 : Int32).toInt ≤ 5000 := by rw [ez_7]; exact yMI.ne_ hId_2 _
              refine lv_iconst (v := 1) hx hb dX9_step_122 (by decide) ?_
              refine lv_iadd hx hb dX9_step_123 ?_
              refine lv_topi (fun z_530 ez_530 => ?_)
              refine yast C0 hK hP hD hS hmy_5 hky_5 (by decide) rfl 0 rfl (xinT 8 rfl (by omega) (by omega)) dX9_step_124 (fun H locs hP hD hS => ?_)
              obtain ⟨d_531, ed_531⟩ : ∃ z : yD, z = ycs d_2 (S.2.2.1 h0 48) (upd (d_2.2.2.2.1 (S.2.2.1 h0 48)) (p0 : Int32).toNatClampNeg z_530) := ⟨_, rfl⟩
              rw [← ed_531] at hP hD
              have hgd_531 : yAg S [9, 77, 78] d d_531 := by rw [ed_531]; exact yAg.cs hgd_2 (by rw [hky_5]; decide)
              have hsd_531 : yAg S [78] d_2 d_531 := by rw [ed_531]; exact yAg.cs yAg.rf (by rw [hky_5]; decide)
              have hPod_531 : yPo S d_531 := by rw [ed_531]; exact hPod_2
              have hfd_531 : yK [54, 55, 57, 63, 64, 65] d d_531 h0 := yK.ag hfd_2 (show yAg S [78] d_2 d_531 from by rw [ed_531]; exact yAg.cs yAg.rf (by rw [hky_5]; decide)) (by rw [hk_h0]; decide)
              have hL0d_531 : yAg S [77, 78] d d_531 := by rw [ed_531]; exact yAg.cs hLJd_2 (by rw [hky_5]; decide)
              have hK0d_531 : yK [] d d_531 h0 := yK.ag hKJd_2 (show yAg S [78] d_2 d_531 from by rw [ed_531]; exact yAg.cs yAg.rf (by rw [hky_5]; decide)) (by rw [hk_h0]; decide)
              have T_532 : (z_530 : Int32).toInt = (z_7 : Int32).toInt + 1 := tadd ez_530 (rfl : (z_7 : Int32).toInt = (z_7 : Int32).toInt) (by decide +kernel : (1 : Int32).toInt = 1) (by omega) (by omega)
              have hId_531 : yMI S d_531 h0 := by rw [ed_531]; exact yMI.w48 hId_2 hSh hm_h0 hk_h0 (yBr.up (yMI.ne_ hId_2) ⟨by omega, by omega⟩)
              have hE0d_531 : (d_531.1 h0 0).toInt = (d_2.1 h0 0).toInt := congrArg Int32.toInt ((yK.ag (F := []) yK.rf (show yAg S [78] d_2 d_531 from by rw [ed_531]; exact yAg.cs yAg.rf (by rw [hky_5]; decide)) (by rw [hk_h0]; decide)) 0 (by decide))
              have hE1d_531 : (d_531.1 h0 1).toInt = (d_2.1 h0 1).toInt := congrArg Int32.toInt ((yK.ag (F := []) yK.rf (show yAg S [78] d_2 d_531 from by rw [ed_531]; exact yAg.cs yAg.rf (by rw [hky_5]; decide)) (by rw [hk_h0]; decide)) 1 (by decide))
              have hE2d_531 : (d_531.1 h0 2).toInt = (d_2.1 h0 2).toInt := congrArg Int32.toInt ((yK.ag (F := []) yK.rf (show yAg S [78] d_2 d_531 from by rw [ed_531]; exact yAg.cs yAg.rf (by rw [hky_5]; decide)) (by rw [hk_h0]; decide)) 2 (by decide))
              have hE3d_531 : (d_531.1 h0 3).toInt = (d_2.1 h0 3).toInt := congrArg Int32.toInt ((yK.ag (F := []) yK.rf (show yAg S [78] d_2 d_531 from by rw [ed_531]; exact yAg.cs yAg.rf (by rw [hky_5]; decide)) (by rw [hk_h0]; decide)) 3 (by decide))
              have hE63d_531 : (d_531.1 h0 63).toInt = (d_2.1 h0 63).toInt := congrArg Int32.toInt ((yK.ag (F := []) yK.rf (show yAg S [78] d_2 d_531 from by rw [ed_531]; exact yAg.cs yAg.rf (by rw [hky_5]; decide)) (by rw [hk_h0]; decide)) 63 (by decide))
              refine lv_goto (tgt := 0) hx hb dX9_step_125 (by decide) ?_
              have hCC_533 := yMI.c hId_531
              exact hnext_3 d_531 _ _ ls ((xnext ed_531 ez_530 ez_7 (rfl) ez_7 hvz_7)) ⟨hP, hD, hS, hgd_531, hPod_531, hfd_531, hId_531, hL0d_531, hK0d_531, trivial, lv_sub hl [1, 2, 3, 4, 5, 6, 7, 8] rfl⟩
            · refine lv_aload_n hx hb dX9_step_100 rfl (lv_at hl 1 rfl) ?_
              refine yget (ci := 9) (k := 47) (v := .ref (S.2.2.1 h0 47)) (C := RX9) (T := TX9) (N := 67) C0 hK hP hm_h0 hk_h0 (by decide) rfl inlX9 (by decide) mW152 (fun _ h9 => h9) rfl dX9_step_101 ?_
              obtain ⟨hmy_534, hky_534⟩ := ySh.f9_47 hSh _ hm_h0 hk_h0
              refine lv_iload_n hx hb dX9_step_104 rfl (lv_at hl 2 rfl) ?_
              refine lv_aload_n hx hb dX9_step_105 rfl (lv_at hl 1 rfl) ?_
              refine yget (ci := 9) (k := 17) (v := .ref (S.2.2.1 h0 17)) (C := RX9) (T := TX9) (N := 67) C0 hK hP hm_h0 hk_h0 (by decide) rfl inlX9 (by decide) mW124 (fun _ h9 => h9) rfl dX9_step_106 ?_
              refine lv_iload hx hb dX9_step_109 (lv_at hl 0 rfl) ?_
              have F_535 := fnlt (by decide +kernel : (6 : Int32).toInt = 6) (rfl : (z_518 : Int32).toInt = (z_518 : Int32).toInt) c_528
              refine yaldB C0 hK hP hmy_516 hky_516 (by decide) rfl 1 rfl (xinT 5000 rfl (by omega) (by omega)) dX9_step_111 ?_
              rw [← ez_518]
              refine lv_iconst (v := 2) hx hb dX9_step_112 (by decide) ?_
              refine lv_isub hx hb dX9_step_113 ?_
              refine lv_topi (fun z_536 ez_536 => ?_)
              refine yast C0 hK hP hD hS hmy_534 hky_534 (by decide) rfl 0 rfl (xinT 8 rfl (by omega) (by omega)) dX9_step_114 (fun H locs hP hD hS => ?_)
              obtain ⟨d_537, ed_537⟩ : ∃ z : yD, z = ycs d_2 (S.2.2.1 h0 47) (upd (d_2.2.2.2.1 (S.2.2.1 h0 47)) (p0 : Int32).toNatClampNeg z_536) := ⟨_, rfl⟩
              rw [← ed_537] at hP hD
              have hgd_537 : yAg S [9, 77, 78] d d_537 := by rw [ed_537]; exact yAg.cs hgd_2 (by rw [hky_534]; decide)
              have hsd_537 : yAg S [77] d_2 d_537 := by rw [ed_537]; exact yAg.cs yAg.rf (by rw [hky_534]; decide)
              have hPod_537 : yPo S d_537 := by rw [ed_537]; exact hPod_2
              have hfd_537 : yK [54, 55, 57, 63, 64, 65] d d_537 h0 := yK.ag hfd_2 (show yAg S [77] d_2 d_537 from by rw [ed_537]; exact yAg.cs yAg.rf (by rw [hky_534]; decide)) (by rw [hk_h0]; decide)
              have hL0d_537 : yAg S [77, 78] d d_537 := by rw [ed_537]; exact yAg.cs hLJd_2 (by rw [hky_534]; decide)
              have hK0d_537 : yK [] d d_537 h0 := yK.ag hKJd_2 (show yAg S [77] d_2 d_537 from by rw [ed_537]; exact yAg.cs yAg.rf (by rw [hky_534]; decide)) (by rw [hk_h0]; decide)
              have hId_537 : yMI S d_537 h0 := yMI.ag hId_2 hSh hm_h0 hk_h0 (show yAg S [77] d_2 d_537 from by rw [ed_537]; exact yAg.cs yAg.rf (by rw [hky_534]; decide)) (yK.ag (F := []) yK.rf (show yAg S [77] d_2 d_537 from by rw [ed_537]; exact yAg.cs yAg.rf (by rw [hky_534]; decide)) (by rw [hk_h0]; decide)) (by decide) (by decide)
              have hE0d_537 : (d_537.1 h0 0).toInt = (d_2.1 h0 0).toInt := congrArg Int32.toInt ((yK.ag (F := []) yK.rf (show yAg S [77] d_2 d_537 from by rw [ed_537]; exact yAg.cs yAg.rf (by rw [hky_534]; decide)) (by rw [hk_h0]; decide)) 0 (by decide))
              have hE1d_537 : (d_537.1 h0 1).toInt = (d_2.1 h0 1).toInt := congrArg Int32.toInt ((yK.ag (F := []) yK.rf (show yAg S [77] d_2 d_537 from by rw [ed_537]; exact yAg.cs yAg.rf (by rw [hky_534]; decide)) (by rw [hk_h0]; decide)) 1 (by decide))
              have hE2d_537 : (d_537.1 h0 2).toInt = (d_2.1 h0 2).toInt := congrArg Int32.toInt ((yK.ag (F := []) yK.rf (show yAg S [77] d_2 d_537 from by rw [ed_537]; exact yAg.cs yAg.rf (by rw [hky_534]; decide)) (by rw [hk_h0]; decide)) 2 (by decide))
              have hE3d_537 : (d_537.1 h0 3).toInt = (d_2.1 h0 3).toInt := congrArg Int32.toInt ((yK.ag (F := []) yK.rf (show yAg S [77] d_2 d_537 from by rw [ed_537]; exact yAg.cs yAg.rf (by rw [hky_534]; decide)) (by rw [hk_h0]; decide)) 3 (by decide))
              have hE63d_537 : (d_537.1 h0 63).toInt = (d_2.1 h0 63).toInt := congrArg Int32.toInt ((yK.ag (F := []) yK.rf (show yAg S [77] d_2 d_537 from by rw [ed_537]; exact yAg.cs yAg.rf (by rw [hky_534]; decide)) (by rw [hk_h0]; decide)) 63 (by decide))
              refine lv_aload_n hx hb dX9_step_115 rfl (lv_at hl 1 rfl) ?_
              refine yget (ci := 9) (k := 48) (v := .ref (S.2.2.1 h0 48)) (C := RX9) (T := TX9) (N := 67) C0 hK hP hm_h0 hk_h0 (by decide) rfl inlX9 (by decide) mW153 (fun _ h9 => h9) rfl dX9_step_116 ?_
              refine lv_iload_n hx hb dX9_step_119 rfl (lv_at hl 2 rfl) ?_
              refine lv_dup2_11 hx hb dX9_step_120 rfl rfl ?_
              have hCC_538 := yMI.c hId_537
              refine yald C0 hK hP hmy_5 hky_5 (by decide) rfl 0 rfl (xinT 8 rfl (by omega) (by omega)) dX9_step_121 ?_
              refine lv_topi (fun z_539 ez_539 => ?_)
              have hqz_539 : (z_539 : Int32).toInt = (z_7 : Int32).toInt := by rw [ez_539, ez_7, show d_537.2.2.2.1 (S.2.2.1 h0 48) = d_2.2.2.2.1 (S.2.2.1 h0 48) from (hsd_537 _ (by rw [(ySh.f9_48 hSh h0 hm_h0 hk_h0).2]; decide)).2.2.2.1]
              have hvz_539 : 0 ≤ (z_539 : Int32).toInt ∧ (z_539 : Int32).toInt ≤ 5000 := by rw [ez_539]; exact yMI.ne_ hId_537 _
              refine lv_iconst (v := 1) hx hb dX9_step_122 (by decide) ?_
              refine lv_iadd hx hb dX9_step_123 ?_
              refine lv_topi (fun z_540 ez_540 => ?_)
              refine yast C0 hK hP hD hS hmy_5 hky_5 (by decide) rfl 0 rfl (xinT 8 rfl (by omega) (by omega)) dX9_step_124 (fun H locs hP hD hS => ?_)
              obtain ⟨d_541, ed_541⟩ : ∃ z : yD, z = ycs d_537 (S.2.2.1 h0 48) (upd (d_537.2.2.2.1 (S.2.2.1 h0 48)) (p0 : Int32).toNatClampNeg z_540) := ⟨_, rfl⟩
              rw [← ed_541] at hP hD
              have hgd_541 : yAg S [9, 77, 78] d d_541 := by rw [ed_541]; exact yAg.cs hgd_537 (by rw [hky_5]; decide)
              have hsd_541 : yAg S [78] d_537 d_541 := by rw [ed_541]; exact yAg.cs yAg.rf (by rw [hky_5]; decide)
              have hPod_541 : yPo S d_541 := by rw [ed_541]; exact hPod_537
              have hfd_541 : yK [54, 55, 57, 63, 64, 65] d d_541 h0 := yK.ag hfd_537 (show yAg S [78] d_537 d_541 from by rw [ed_541]; exact yAg.cs yAg.rf (by rw [hky_5]; decide)) (by rw [hk_h0]; decide)
              have hL0d_541 : yAg S [77, 78] d d_541 := by rw [ed_541]; exact yAg.cs hL0d_537 (by rw [hky_5]; decide)
              have hK0d_541 : yK [] d d_541 h0 := yK.ag hK0d_537 (show yAg S [78] d_537 d_541 from by rw [ed_541]; exact yAg.cs yAg.rf (by rw [hky_5]; decide)) (by rw [hk_h0]; decide)
              have T_542 : (z_540 : Int32).toInt = (z_539 : Int32).toInt + 1 := tadd ez_540 (rfl : (z_539 : Int32).toInt = (z_539 : Int32).toInt) (by decide +kernel : (1 : Int32).toInt = 1) (by omega) (by omega)
              have hId_541 : yMI S d_541 h0 := by rw [ed_541]; exact yMI.w48 hId_537 hSh hm_h0 hk_h0 (yBr.up (yMI.ne_ hId_537) ⟨by omega, by omega⟩)
              have hE0d_541 : (d_541.1 h0 0).toInt = (d_537.1 h0 0).toInt := congrArg Int32.toInt ((yK.ag (F := []) yK.rf (show yAg S [78] d_537 d_541 from by rw [ed_541]; exact yAg.cs yAg.rf (by rw [hky_5]; decide)) (by rw [hk_h0]; decide)) 0 (by decide))
              have hE1d_541 : (d_541.1 h0 1).toInt = (d_537.1 h0 1).toInt := congrArg Int32.toInt ((yK.ag (F := []) yK.rf (show yAg S [78] d_537 d_541 from by rw [ed_541]; exact yAg.cs yAg.rf (by rw [hky_5]; decide)) (by rw [hk_h0]; decide)) 1 (by decide))
              have hE2d_541 : (d_541.1 h0 2).toInt = (d_537.1 h0 2).toInt := congrArg Int32.toInt ((yK.ag (F := []) yK.rf (show yAg S [78] d_537 d_541 from by rw [ed_541]; exact yAg.cs yAg.rf (by rw [hky_5]; decide)) (by rw [hk_h0]; decide)) 2 (by decide))
              have hE3d_541 : (d_541.1 h0 3).toInt = (d_537.1 h0 3).toInt := congrArg Int32.toInt ((yK.ag (F := []) yK.rf (show yAg S [78] d_537 d_541 from by rw [ed_541]; exact yAg.cs yAg.rf (by rw [hky_5]; decide)) (by rw [hk_h0]; decide)) 3 (by decide))
              have hE63d_541 : (d_541.1 h0 63).toInt = (d_537.1 h0 63).toInt := congrArg Int32.toInt ((yK.ag (F := []) yK.rf (show yAg S [78] d_537 d_541 from by rw [ed_541]; exact yAg.cs yAg.rf (by rw [hky_5]; decide)) (by rw [hk_h0]; decide)) 63 (by decide))
              refine lv_goto (tgt := 0) hx hb dX9_step_125 (by decide) ?_
              have hCC_544 := yMI.c hId_541
              exact hnext_3 d_541 _ _ ls ((xnext ed_541 ez_540 ez_539 ((hsd_537 _ (by rw [(ySh.f9_48 hSh h0 hm_h0 hk_h0).2]; decide)).2.2.2.1) ez_7 hvz_7)) ⟨hP, hD, hS, hgd_541, hPod_541, hfd_541, hId_541, hL0d_541, hK0d_541, trivial, lv_sub hl [1, 2, 3, 4, 5, 6, 7, 8] rfl⟩
theorem dX9_walk_0 : decode cX9_walk 0 = .ok (.aload_n 0, 1) := by decide +kernel
theorem dX9_walk_1 : decode cX9_walk 1 = .ok (.getfield 36, 3) := by decide +kernel
theorem dX9_walk_4 : decode cX9_walk 4 = .ok (.bipush 12, 2) := by decide +kernel
theorem dX9_walk_6 : decode cX9_walk 6 = .ok (.iload_n 1, 1) := by decide +kernel
theorem dX9_walk_7 : decode cX9_walk 7 = .ok (.imul, 1) := by decide +kernel
theorem dX9_walk_8 : decode cX9_walk 8 = .ok (.bipush 10, 2) := by decide +kernel
theorem dX9_walk_10 : decode cX9_walk 10 = .ok (.iadd, 1) := by decide +kernel
theorem dX9_walk_11 : decode cX9_walk 11 = .ok (.laload, 1) := by decide +kernel
theorem dX9_walk_12 : decode cX9_walk 12 = .ok (.lstore 6, 2) := by decide +kernel
theorem dX9_walk_14 : decode cX9_walk 14 = .ok (.aload_n 0, 1) := by decide +kernel
theorem dX9_walk_15 : decode cX9_walk 15 = .ok (.lconst 0, 1) := by decide +kernel
theorem dX9_walk_16 : decode cX9_walk 16 = .ok (.putfield 247, 3) := by decide +kernel
theorem dX9_walk_19 : decode cX9_walk 19 = .ok (.aload_n 0, 1) := by decide +kernel
theorem dX9_walk_20 : decode cX9_walk 20 = .ok (.lconst 0, 1) := by decide +kernel
theorem dX9_walk_21 : decode cX9_walk 21 = .ok (.putfield 251, 3) := by decide +kernel
theorem dX9_walk_24 : decode cX9_walk 24 = .ok (.aload_n 0, 1) := by decide +kernel
theorem dX9_walk_25 : decode cX9_walk 25 = .ok (.lconst 0, 1) := by decide +kernel
theorem dX9_walk_26 : decode cX9_walk 26 = .ok (.putfield 254, 3) := by decide +kernel
theorem dX9_walk_29 : decode cX9_walk 29 = .ok (.aload_n 0, 1) := by decide +kernel
theorem dX9_walk_30 : decode cX9_walk 30 = .ok (.ldc2_w 193, 3) := by decide +kernel
theorem dX9_walk_33 : decode cX9_walk 33 = .ok (.putfield 257, 3) := by decide +kernel
theorem dX9_walk_36 : decode cX9_walk 36 = .ok (.aload_n 0, 1) := by decide +kernel
theorem dX9_walk_37 : decode cX9_walk 37 = .ok (.iconst 0, 1) := by decide +kernel
theorem dX9_walk_38 : decode cX9_walk 38 = .ok (.putfield 260, 3) := by decide +kernel
theorem dX9_walk_41 : decode cX9_walk 41 = .ok (.aload_n 0, 1) := by decide +kernel
theorem dX9_walk_42 : decode cX9_walk 42 = .ok (.bipush (-4), 2) := by decide +kernel
theorem dX9_walk_44 : decode cX9_walk 44 = .ok (.putfield 263, 3) := by decide +kernel
theorem dX9_walk_47 : decode cX9_walk 47 = .ok (.aload_n 0, 1) := by decide +kernel
theorem dX9_walk_48 : decode cX9_walk 48 = .ok (.iconst (-1), 1) := by decide +kernel
theorem dX9_walk_49 : decode cX9_walk 49 = .ok (.putfield 266, 3) := by decide +kernel
theorem dX9_walk_52 : decode cX9_walk 52 = .ok (.aload_n 0, 1) := by decide +kernel
theorem dX9_walk_53 : decode cX9_walk 53 = .ok (.lconst 0, 1) := by decide +kernel
theorem dX9_walk_54 : decode cX9_walk 54 = .ok (.putfield 269, 3) := by decide +kernel
theorem dX9_walk_57 : decode cX9_walk 57 = .ok (.aload_n 0, 1) := by decide +kernel
theorem dX9_walk_58 : decode cX9_walk 58 = .ok (.iconst 0, 1) := by decide +kernel
theorem dX9_walk_59 : decode cX9_walk 59 = .ok (.putfield 272, 3) := by decide +kernel
theorem dX9_walk_62 : decode cX9_walk 62 = .ok (.aload_n 0, 1) := by decide +kernel
theorem dX9_walk_63 : decode cX9_walk 63 = .ok (.lconst 0, 1) := by decide +kernel
theorem dX9_walk_64 : decode cX9_walk 64 = .ok (.putfield 275, 3) := by decide +kernel
theorem dX9_walk_67 : decode cX9_walk 67 = .ok (.ldc2_w 280, 3) := by decide +kernel
theorem dX9_walk_70 : decode cX9_walk 70 = .ok (.lstore 8, 2) := by decide +kernel
theorem dX9_walk_72 : decode cX9_walk 72 = .ok (.ldc2_w 193, 3) := by decide +kernel
theorem dX9_walk_75 : decode cX9_walk 75 = .ok (.lstore 10, 2) := by decide +kernel
theorem dX9_walk_77 : decode cX9_walk 77 = .ok (.iconst 0, 1) := by decide +kernel
theorem dX9_walk_78 : decode cX9_walk 78 = .ok (.istore 12, 2) := by decide +kernel
theorem dX9_walk_80 : decode cX9_walk 80 = .ok (.iload 12, 2) := by decide +kernel
theorem dX9_walk_82 : decode cX9_walk 82 = .ok (.bipush 8, 2) := by decide +kernel
theorem dX9_walk_84 : decode cX9_walk 84 = .ok (.if_icmp .ge 225, 3) := by decide +kernel
theorem dX9_walk_87 : decode cX9_walk 87 = .ok (.aload_n 0, 1) := by decide +kernel
theorem dX9_walk_88 : decode cX9_walk 88 = .ok (.getfield 132, 3) := by decide +kernel
theorem dX9_walk_91 : decode cX9_walk 91 = .ok (.iload 12, 2) := by decide +kernel
theorem dX9_walk_93 : decode cX9_walk 93 = .ok (.iconst 0, 1) := by decide +kernel
theorem dX9_walk_94 : decode cX9_walk 94 = .ok (.iastore, 1) := by decide +kernel
theorem dX9_walk_95 : decode cX9_walk 95 = .ok (.aload_n 0, 1) := by decide +kernel
theorem dX9_walk_96 : decode cX9_walk 96 = .ok (.getfield 135, 3) := by decide +kernel
theorem dX9_walk_99 : decode cX9_walk 99 = .ok (.iload 12, 2) := by decide +kernel
theorem dX9_walk_101 : decode cX9_walk 101 = .ok (.iconst 0, 1) := by decide +kernel
theorem dX9_walk_102 : decode cX9_walk 102 = .ok (.iastore, 1) := by decide +kernel
theorem dX9_walk_103 : decode cX9_walk 103 = .ok (.lload 6, 2) := by decide +kernel
theorem dX9_walk_105 : decode cX9_walk 105 = .ok (.iload 12, 2) := by decide +kernel
theorem dX9_walk_107 : decode cX9_walk 107 = .ok (.lshr, 1) := by decide +kernel
theorem dX9_walk_108 : decode cX9_walk 108 = .ok (.lconst 1, 1) := by decide +kernel
theorem dX9_walk_109 : decode cX9_walk 109 = .ok (.land, 1) := by decide +kernel
theorem dX9_walk_110 : decode cX9_walk 110 = .ok (.lconst 0, 1) := by decide +kernel
theorem dX9_walk_111 : decode cX9_walk 111 = .ok (.lcmp, 1) := by decide +kernel
theorem dX9_walk_112 : decode cX9_walk 112 = .ok (.ifCond .eq 191, 3) := by decide +kernel
theorem dX9_walk_115 : decode cX9_walk 115 = .ok (.aload_n 0, 1) := by decide +kernel
theorem dX9_walk_116 : decode cX9_walk 116 = .ok (.iload 12, 2) := by decide +kernel
theorem dX9_walk_118 : decode cX9_walk 118 = .ok (.invokevirtual 157, 3) := by decide +kernel
theorem dX9_walk_121 : decode cX9_walk 121 = .ok (.ifCond .eq 182, 3) := by decide +kernel
theorem dX9_walk_124 : decode cX9_walk 124 = .ok (.aload_n 0, 1) := by decide +kernel
theorem dX9_walk_125 : decode cX9_walk 125 = .ok (.iload 12, 2) := by decide +kernel
theorem dX9_walk_127 : decode cX9_walk 127 = .ok (.invokevirtual 282, 3) := by decide +kernel
theorem dX9_walk_130 : decode cX9_walk 130 = .ok (.ifCond .ne 6, 3) := by decide +kernel
theorem dX9_walk_133 : decode cX9_walk 133 = .ok (.goto 170, 3) := by decide +kernel
theorem dX9_walk_136 : decode cX9_walk 136 = .ok (.aload_n 0, 1) := by decide +kernel
theorem dX9_walk_137 : decode cX9_walk 137 = .ok (.dup, 1) := by decide +kernel
theorem dX9_walk_138 : decode cX9_walk 138 = .ok (.getfield 260, 3) := by decide +kernel
theorem dX9_walk_141 : decode cX9_walk 141 = .ok (.iconst 1, 1) := by decide +kernel
theorem dX9_walk_142 : decode cX9_walk 142 = .ok (.iadd, 1) := by decide +kernel
theorem dX9_walk_143 : decode cX9_walk 143 = .ok (.putfield 260, 3) := by decide +kernel
theorem dX9_walk_146 : decode cX9_walk 146 = .ok (.aload_n 0, 1) := by decide +kernel
theorem dX9_walk_147 : decode cX9_walk 147 = .ok (.dup, 1) := by decide +kernel
theorem dX9_walk_148 : decode cX9_walk 148 = .ok (.getfield 251, 3) := by decide +kernel
theorem dX9_walk_151 : decode cX9_walk 151 = .ok (.ldc2_w 285, 3) := by decide +kernel
theorem dX9_walk_154 : decode cX9_walk 154 = .ok (.aload_n 0, 1) := by decide +kernel
theorem dX9_walk_155 : decode cX9_walk 155 = .ok (.iload 12, 2) := by decide +kernel
theorem dX9_walk_157 : decode cX9_walk 157 = .ok (.iload_n 3, 1) := by decide +kernel
theorem dX9_walk_158 : decode cX9_walk 158 = .ok (.iload 4, 2) := by decide +kernel
theorem dX9_walk_160 : decode cX9_walk 160 = .ok (.iload 5, 2) := by decide +kernel
theorem dX9_walk_162 : decode cX9_walk 162 = .ok (.invokevirtual 287, 3) := by decide +kernel
theorem dX9_walk_165 : decode cX9_walk 165 = .ok (.lmul, 1) := by decide +kernel
theorem dX9_walk_166 : decode cX9_walk 166 = .ok (.ladd, 1) := by decide +kernel
theorem dX9_walk_167 : decode cX9_walk 167 = .ok (.putfield 251, 3) := by decide +kernel
theorem dX9_walk_170 : decode cX9_walk 170 = .ok (.aload_n 0, 1) := by decide +kernel
theorem dX9_walk_171 : decode cX9_walk 171 = .ok (.getfield 132, 3) := by decide +kernel
theorem dX9_walk_174 : decode cX9_walk 174 = .ok (.iload 12, 2) := by decide +kernel
theorem dX9_walk_176 : decode cX9_walk 176 = .ok (.aload_n 0, 1) := by decide +kernel
theorem dX9_walk_177 : decode cX9_walk 177 = .ok (.iload 12, 2) := by decide +kernel
theorem dX9_walk_179 : decode cX9_walk 179 = .ok (.invokevirtual 232, 3) := by decide +kernel
theorem dX9_walk_182 : decode cX9_walk 182 = .ok (.iastore, 1) := by decide +kernel
theorem dX9_walk_183 : decode cX9_walk 183 = .ok (.aload_n 0, 1) := by decide +kernel
theorem dX9_walk_184 : decode cX9_walk 184 = .ok (.getfield 135, 3) := by decide +kernel
theorem dX9_walk_187 : decode cX9_walk 187 = .ok (.iload 12, 2) := by decide +kernel
theorem dX9_walk_189 : decode cX9_walk 189 = .ok (.aload_n 0, 1) := by decide +kernel
theorem dX9_walk_190 : decode cX9_walk 190 = .ok (.iload 12, 2) := by decide +kernel
theorem dX9_walk_192 : decode cX9_walk 192 = .ok (.invokevirtual 291, 3) := by decide +kernel
theorem dX9_walk_195 : decode cX9_walk 195 = .ok (.iastore, 1) := by decide +kernel
theorem dX9_walk_196 : decode cX9_walk 196 = .ok (.aload_n 0, 1) := by decide +kernel
theorem dX9_walk_197 : decode cX9_walk 197 = .ok (.getfield 141, 3) := by decide +kernel
theorem dX9_walk_200 : decode cX9_walk 200 = .ok (.iload 12, 2) := by decide +kernel
theorem dX9_walk_202 : decode cX9_walk 202 = .ok (.iconst 0, 1) := by decide +kernel
theorem dX9_walk_203 : decode cX9_walk 203 = .ok (.iastore, 1) := by decide +kernel
theorem dX9_walk_204 : decode cX9_walk 204 = .ok (.aload_n 0, 1) := by decide +kernel
theorem dX9_walk_205 : decode cX9_walk 205 = .ok (.getfield 144, 3) := by decide +kernel
theorem dX9_walk_208 : decode cX9_walk 208 = .ok (.iload 12, 2) := by decide +kernel
theorem dX9_walk_210 : decode cX9_walk 210 = .ok (.iconst 0, 1) := by decide +kernel
theorem dX9_walk_211 : decode cX9_walk 211 = .ok (.iastore, 1) := by decide +kernel
theorem dX9_walk_212 : decode cX9_walk 212 = .ok (.aload_n 0, 1) := by decide +kernel
theorem dX9_walk_213 : decode cX9_walk 213 = .ok (.getfield 132, 3) := by decide +kernel
theorem dX9_walk_216 : decode cX9_walk 216 = .ok (.iload 12, 2) := by decide +kernel
theorem dX9_walk_218 : decode cX9_walk 218 = .ok (.iaload, 1) := by decide +kernel
theorem dX9_walk_219 : decode cX9_walk 219 = .ok (.aload_n 0, 1) := by decide +kernel
theorem dX9_walk_220 : decode cX9_walk 220 = .ok (.getfield 135, 3) := by decide +kernel
theorem dX9_walk_223 : decode cX9_walk 223 = .ok (.iload 12, 2) := by decide +kernel
theorem dX9_walk_225 : decode cX9_walk 225 = .ok (.iaload, 1) := by decide +kernel
theorem dX9_walk_226 : decode cX9_walk 226 = .ok (.if_icmp .ge 77, 3) := by decide +kernel
theorem dX9_walk_229 : decode cX9_walk 229 = .ok (.aload_n 0, 1) := by decide +kernel
theorem dX9_walk_230 : decode cX9_walk 230 = .ok (.getfield 132, 3) := by decide +kernel
theorem dX9_walk_233 : decode cX9_walk 233 = .ok (.iload 12, 2) := by decide +kernel
theorem dX9_walk_235 : decode cX9_walk 235 = .ok (.iaload, 1) := by decide +kernel
theorem dX9_walk_236 : decode cX9_walk 236 = .ok (.i2l, 1) := by decide +kernel
theorem dX9_walk_237 : decode cX9_walk 237 = .ok (.aload_n 0, 1) := by decide +kernel
theorem dX9_walk_238 : decode cX9_walk 238 = .ok (.iload 12, 2) := by decide +kernel
theorem dX9_walk_240 : decode cX9_walk 240 = .ok (.bipush 7, 2) := by decide +kernel
theorem dX9_walk_242 : decode cX9_walk 242 = .ok (.invokevirtual 161, 3) := by decide +kernel
theorem dX9_walk_245 : decode cX9_walk 245 = .ok (.i2l, 1) := by decide +kernel
theorem dX9_walk_246 : decode cX9_walk 246 = .ok (.ladd, 1) := by decide +kernel
theorem dX9_walk_247 : decode cX9_walk 247 = .ok (.lstore 13, 2) := by decide +kernel
theorem dX9_walk_249 : decode cX9_walk 249 = .ok (.aload_n 0, 1) := by decide +kernel
theorem dX9_walk_250 : decode cX9_walk 250 = .ok (.getfield 135, 3) := by decide +kernel
theorem dX9_walk_253 : decode cX9_walk 253 = .ok (.iload 12, 2) := by decide +kernel
theorem dX9_walk_255 : decode cX9_walk 255 = .ok (.iaload, 1) := by decide +kernel
theorem dX9_walk_256 : decode cX9_walk 256 = .ok (.i2l, 1) := by decide +kernel
theorem dX9_walk_257 : decode cX9_walk 257 = .ok (.aload_n 0, 1) := by decide +kernel
theorem dX9_walk_258 : decode cX9_walk 258 = .ok (.iload 12, 2) := by decide +kernel
theorem dX9_walk_260 : decode cX9_walk 260 = .ok (.bipush 7, 2) := by decide +kernel
theorem dX9_walk_262 : decode cX9_walk 262 = .ok (.invokevirtual 161, 3) := by decide +kernel
theorem dX9_walk_265 : decode cX9_walk 265 = .ok (.i2l, 1) := by decide +kernel
theorem dX9_walk_266 : decode cX9_walk 266 = .ok (.ladd, 1) := by decide +kernel
theorem dX9_walk_267 : decode cX9_walk 267 = .ok (.lstore 15, 2) := by decide +kernel
theorem dX9_walk_269 : decode cX9_walk 269 = .ok (.lload 13, 2) := by decide +kernel
theorem dX9_walk_271 : decode cX9_walk 271 = .ok (.lload 8, 2) := by decide +kernel
theorem dX9_walk_273 : decode cX9_walk 273 = .ok (.lcmp, 1) := by decide +kernel
theorem dX9_walk_274 : decode cX9_walk 274 = .ok (.ifCond .ge 8, 3) := by decide +kernel
theorem dX9_walk_277 : decode cX9_walk 277 = .ok (.lload 13, 2) := by decide +kernel
theorem dX9_walk_279 : decode cX9_walk 279 = .ok (.goto 5, 3) := by decide +kernel
theorem dX9_walk_282 : decode cX9_walk 282 = .ok (.lload 8, 2) := by decide +kernel
theorem dX9_walk_284 : decode cX9_walk 284 = .ok (.lstore 8, 2) := by decide +kernel
theorem dX9_walk_286 : decode cX9_walk 286 = .ok (.lload 15, 2) := by decide +kernel
theorem dX9_walk_288 : decode cX9_walk 288 = .ok (.lload 10, 2) := by decide +kernel
theorem dX9_walk_290 : decode cX9_walk 290 = .ok (.lcmp, 1) := by decide +kernel
theorem dX9_walk_291 : decode cX9_walk 291 = .ok (.ifCond .le 8, 3) := by decide +kernel
theorem dX9_walk_294 : decode cX9_walk 294 = .ok (.lload 15, 2) := by decide +kernel
theorem dX9_walk_296 : decode cX9_walk 296 = .ok (.goto 5, 3) := by decide +kernel
theorem dX9_walk_299 : decode cX9_walk 299 = .ok (.lload 10, 2) := by decide +kernel
theorem dX9_walk_301 : decode cX9_walk 301 = .ok (.lstore 10, 2) := by decide +kernel
theorem dX9_walk_303 : decode cX9_walk 303 = .ok (.iinc 12 1, 3) := by decide +kernel
theorem dX9_walk_306 : decode cX9_walk 306 = .ok (.goto (-226), 3) := by decide +kernel
theorem dX9_walk_309 : decode cX9_walk 309 = .ok (.lload 10, 2) := by decide +kernel
theorem dX9_walk_311 : decode cX9_walk 311 = .ok (.lconst 0, 1) := by decide +kernel
theorem dX9_walk_312 : decode cX9_walk 312 = .ok (.lcmp, 1) := by decide +kernel
theorem dX9_walk_313 : decode cX9_walk 313 = .ok (.ifCond .ge 4, 3) := by decide +kernel
theorem dX9_walk_316 : decode cX9_walk 316 = .ok (.return_, 1) := by decide +kernel
theorem dX9_walk_317 : decode cX9_walk 317 = .ok (.aload_n 0, 1) := by decide +kernel
theorem dX9_walk_318 : decode cX9_walk 318 = .ok (.getfield 251, 3) := by decide +kernel
theorem dX9_walk_321 : decode cX9_walk 321 = .ok (.lconst 0, 1) := by decide +kernel
theorem dX9_walk_322 : decode cX9_walk 322 = .ok (.lcmp, 1) := by decide +kernel
theorem dX9_walk_323 : decode cX9_walk 323 = .ok (.ifCond .ne 11, 3) := by decide +kernel
theorem dX9_walk_326 : decode cX9_walk 326 = .ok (.aload_n 0, 1) := by decide +kernel
theorem dX9_walk_327 : decode cX9_walk 327 = .ok (.lload 8, 2) := by decide +kernel
theorem dX9_walk_329 : decode cX9_walk 329 = .ok (.lconst 1, 1) := by decide +kernel
theorem dX9_walk_330 : decode cX9_walk 330 = .ok (.lsub, 1) := by decide +kernel
theorem dX9_walk_331 : decode cX9_walk 331 = .ok (.putfield 257, 3) := by decide +kernel
theorem dX9_walk_334 : decode cX9_walk 334 = .ok (.lload 8, 2) := by decide +kernel
theorem dX9_walk_336 : decode cX9_walk 336 = .ok (.lstore 12, 2) := by decide +kernel
theorem dX9_walk_338 : decode cX9_walk 338 = .ok (.lload 12, 2) := by decide +kernel
theorem dX9_walk_340 : decode cX9_walk 340 = .ok (.lload 10, 2) := by decide +kernel
theorem dX9_walk_342 : decode cX9_walk 342 = .ok (.lcmp, 1) := by decide +kernel
theorem dX9_walk_343 : decode cX9_walk 343 = .ok (.ifCond .ge 87, 3) := by decide +kernel
theorem dX9_walk_346 : decode cX9_walk 346 = .ok (.iconst 0, 1) := by decide +kernel
theorem dX9_walk_347 : decode cX9_walk 347 = .ok (.istore 14, 2) := by decide +kernel
theorem dX9_walk_349 : decode cX9_walk 349 = .ok (.iload 14, 2) := by decide +kernel
theorem dX9_walk_351 : decode cX9_walk 351 = .ok (.bipush 8, 2) := by decide +kernel
theorem dX9_walk_353 : decode cX9_walk 353 = .ok (.if_icmp .ge 68, 3) := by decide +kernel
theorem dX9_walk_356 : decode cX9_walk 356 = .ok (.lload 12, 2) := by decide +kernel
theorem dX9_walk_358 : decode cX9_walk 358 = .ok (.aload_n 0, 1) := by decide +kernel
theorem dX9_walk_359 : decode cX9_walk 359 = .ok (.iload 14, 2) := by decide +kernel
theorem dX9_walk_361 : decode cX9_walk 361 = .ok (.bipush 7, 2) := by decide +kernel
theorem dX9_walk_363 : decode cX9_walk 363 = .ok (.invokevirtual 161, 3) := by decide +kernel
theorem dX9_walk_366 : decode cX9_walk 366 = .ok (.i2l, 1) := by decide +kernel
theorem dX9_walk_367 : decode cX9_walk 367 = .ok (.lsub, 1) := by decide +kernel
theorem dX9_walk_368 : decode cX9_walk 368 = .ok (.lstore 15, 2) := by decide +kernel
theorem dX9_walk_370 : decode cX9_walk 370 = .ok (.lload 15, 2) := by decide +kernel
theorem dX9_walk_372 : decode cX9_walk 372 = .ok (.aload_n 0, 1) := by decide +kernel
theorem dX9_walk_373 : decode cX9_walk 373 = .ok (.getfield 132, 3) := by decide +kernel
theorem dX9_walk_376 : decode cX9_walk 376 = .ok (.iload 14, 2) := by decide +kernel
theorem dX9_walk_378 : decode cX9_walk 378 = .ok (.iaload, 1) := by decide +kernel
theorem dX9_walk_379 : decode cX9_walk 379 = .ok (.i2l, 1) := by decide +kernel
theorem dX9_walk_380 : decode cX9_walk 380 = .ok (.lcmp, 1) := by decide +kernel
theorem dX9_walk_381 : decode cX9_walk 381 = .ok (.ifCond .lt 34, 3) := by decide +kernel
theorem dX9_walk_384 : decode cX9_walk 384 = .ok (.lload 15, 2) := by decide +kernel
theorem dX9_walk_386 : decode cX9_walk 386 = .ok (.aload_n 0, 1) := by decide +kernel
theorem dX9_walk_387 : decode cX9_walk 387 = .ok (.getfield 135, 3) := by decide +kernel
theorem dX9_walk_390 : decode cX9_walk 390 = .ok (.iload 14, 2) := by decide +kernel
theorem dX9_walk_392 : decode cX9_walk 392 = .ok (.iaload, 1) := by decide +kernel
theorem dX9_walk_393 : decode cX9_walk 393 = .ok (.i2l, 1) := by decide +kernel
theorem dX9_walk_394 : decode cX9_walk 394 = .ok (.lcmp, 1) := by decide +kernel
theorem dX9_walk_395 : decode cX9_walk 395 = .ok (.ifCond .ge 20, 3) := by decide +kernel
theorem dX9_walk_398 : decode cX9_walk 398 = .ok (.aload_n 0, 1) := by decide +kernel
theorem dX9_walk_399 : decode cX9_walk 399 = .ok (.iload 14, 2) := by decide +kernel
theorem dX9_walk_401 : decode cX9_walk 401 = .ok (.lload 15, 2) := by decide +kernel
theorem dX9_walk_403 : decode cX9_walk 403 = .ok (.l2i, 1) := by decide +kernel
theorem dX9_walk_404 : decode cX9_walk 404 = .ok (.lload 12, 2) := by decide +kernel
theorem dX9_walk_406 : decode cX9_walk 406 = .ok (.iload_n 2, 1) := by decide +kernel
theorem dX9_walk_407 : decode cX9_walk 407 = .ok (.iload_n 3, 1) := by decide +kernel
theorem dX9_walk_408 : decode cX9_walk 408 = .ok (.iload 4, 2) := by decide +kernel
theorem dX9_walk_410 : decode cX9_walk 410 = .ok (.iload 5, 2) := by decide +kernel
theorem dX9_walk_412 : decode cX9_walk 412 = .ok (.invokevirtual 294, 3) := by decide +kernel
theorem dX9_walk_415 : decode cX9_walk 415 = .ok (.iinc 14 1, 3) := by decide +kernel
theorem dX9_walk_418 : decode cX9_walk 418 = .ok (.goto (-69), 3) := by decide +kernel
theorem dX9_walk_421 : decode cX9_walk 421 = .ok (.lload 12, 2) := by decide +kernel
theorem dX9_walk_423 : decode cX9_walk 423 = .ok (.lconst 1, 1) := by decide +kernel
theorem dX9_walk_424 : decode cX9_walk 424 = .ok (.ladd, 1) := by decide +kernel
theorem dX9_walk_425 : decode cX9_walk 425 = .ok (.lstore 12, 2) := by decide +kernel
theorem dX9_walk_427 : decode cX9_walk 427 = .ok (.goto (-89), 3) := by decide +kernel
theorem dX9_walk_430 : decode cX9_walk 430 = .ok (.return_, 1) := by decide +kernel
set_option maxHeartbeats 4000000 in
set_option maxRecDepth 100000 in
theorem g_X9_walk (l : Launch) (G : xG) (S : yS) (d : yD) (h0 : Nat) (p0 : Int32) (p1 : Int32) (p2 : Int32) (p3 : Int32) (p4 : Int32) (hSh : ySh S) (hPo : yPo S d) (hm_h0 : h0 ∈ S.1) (hk_h0 : S.2.1 h0 = 9) (hI : yMI S d h0) (hr_p0 : 0 ≤ (p0 : Int32).toInt ∧ (p0 : Int32).toInt ≤ 7) (hr_p3 : -1 ≤ (p3 : Int32).toInt ∧ (p3 : Int32).toInt ≤ 59) (hz_p1 : p1 = 0 ∨ p1 = 1) : xWv l G yX9_walk cX9_walk 17 none 5 119 0 0 [.ref h0, .int p0, .int p1, .int p2, .int p3, .int p4] (yW G S d) (fun u : yD => yAg S [9, 74, 75, 77, 78] d u ∧ (yPo S d → yPo S u) ∧ yK [54, 55, 57, 62, 63, 64, 65] d u h0 ∧ (yMI S u h0)) (fun u => yW G S u) := by
  intro sz
  refine xstart (by decide) (Nat.le_of_ble_eq_true rfl) (fun p e s m args below meth c ls C0 hr hlocks hin hsz hP hK hD hN hl => ?_)
  obtain ⟨hx, hb, hml, hown, htl⟩ := id C0
  subst hsz
  have hD := hD.self (sz := s.heap.size)
  generalize hAe : va_A (yW G S d) s.heap.size = A at hD ⊢
  have hA : ∀ q : Nat, s.heap.size ≤ q → A q := fun q h => by rw [← hAe]; exact Or.inr h
  have hS : va_S A s.heap s.heap [] := va_S.rf
  have hg0 : yAg S [9, 74, 75, 77, 78] d d := yAg.rf
  have hl : lv_has ls 17 [(0, .ref h0), (1, .int p0), (2, .int p1), (3, .int p2), (4, .int p3), (5, .int p4)] := hl
  refine lv_aload_n hx hb dX9_walk_0 rfl (lv_at hl 0 rfl) ?_
  refine yget (ci := 9) (k := 11) (v := .ref (S.2.2.1 h0 11)) (C := RX9) (T := TX9) (N := 67) C0 hK hP hm_h0 hk_h0 (by decide) rfl inlX9 (by decide) mW116 (fun _ h9 => h9) rfl dX9_walk_1 ?_
  obtain ⟨hmy_1, hky_1⟩ := ySh.f9_11 hSh _ hm_h0 hk_h0
  refine lv_bipush (v := 12) hx hb dX9_walk_4 (by decide) ?_
  refine lv_iload_n hx hb dX9_walk_6 rfl (lv_at hl 1 rfl) ?_
  refine lv_imul hx hb dX9_walk_7 ?_
  refine lv_topi (fun z_2 ez_2 => ?_)
  refine lv_bipush (v := 10) hx hb dX9_walk_8 (by decide) ?_
  refine lv_iadd hx hb dX9_walk_10 ?_
  refine lv_topi (fun z_3 ez_3 => ?_)
  have hCC_4 := yMI.c hI
  have T_6 : (z_2 : Int32).toInt = 12 * (p0 : Int32).toInt := tmul ez_2 (by decide +kernel : (12 : Int32).toInt = 12) (rfl : (p0 : Int32).toInt = (p0 : Int32).toInt) (by omega) (by omega)
  have T_5 : (z_3 : Int32).toInt = (z_2 : Int32).toInt + 10 := tadd ez_3 (rfl : (z_2 : Int32).toInt = (z_2 : Int32).toInt) (by decide +kernel : (10 : Int32).toInt = 10) (by omega) (by omega)
  refine yaldJ C0 hK hP hmy_1 hky_1 (by decide) rfl 4 rfl (xinT 96 rfl (by omega) (by omega)) dX9_walk_11 ?_
  refine lv_topl (fun z_7 ez_7 => ?_)
  refine lv_lstore (lv' := [(6, .long z_7), (0, .ref h0), (1, .int p0), (2, .int p1), (3, .int p2), (4, .int p3), (5, .int p4)]) hx hb dX9_walk_12 hl (by decide) rfl (fun ls hl => ?_)
  refine lv_aload_n hx hb dX9_walk_14 rfl (lv_at hl 1 rfl) ?_
  refine lv_lconst (v := 0) hx hb dX9_walk_15 (by decide) ?_
  refine yputJ (ci := 9) (k := 58) (C := RX9) (T := TX9) (N := 67) C0 hK hP hD hS hm_h0 hk_h0 (by decide) rfl inlX9 tyX9 tyX9_ok nmX9 (by decide) mW873 (fun _ h9 => h9) rfl (by decide +kernel) (Nat.le_of_ble_eq_true rfl) ysj_9_58 dX9_walk_16 (fun H locs hP hD hS => ?_)
  obtain ⟨d_8, ed_8⟩ : ∃ z : yD, z = yj d h0 58 0 := ⟨_, rfl⟩
  rw [← ed_8] at hP hD
  have hgd_8 : yAg S [9, 74, 75, 77, 78] d d_8 := by rw [ed_8]; exact yAg.j hg0 (by rw [hk_h0]; decide)
  have hPod_8 : yPo S d_8 := by rw [ed_8]; exact hPo
  have hfd_8 : yK [54, 55, 57, 62, 63, 64, 65] d d_8 h0 := by rw [ed_8]; exact yK.j yK.rf
  have hId_8 : yMI S d_8 h0 := by rw [ed_8]; exact yMI.j hI
  have hE0d_8 : (d_8.1 h0 0).toInt = (d.1 h0 0).toInt := congrArg Int32.toInt ((show yK [] d d_8 h0 from by rw [ed_8]; exact yK.j yK.rf) 0 (by decide))
  have hE1d_8 : (d_8.1 h0 1).toInt = (d.1 h0 1).toInt := congrArg Int32.toInt ((show yK [] d d_8 h0 from by rw [ed_8]; exact yK.j yK.rf) 1 (by decide))
  have hE2d_8 : (d_8.1 h0 2).toInt = (d.1 h0 2).toInt := congrArg Int32.toInt ((show yK [] d d_8 h0 from by rw [ed_8]; exact yK.j yK.rf) 2 (by decide))
  have hE3d_8 : (d_8.1 h0 3).toInt = (d.1 h0 3).toInt := congrArg Int32.toInt ((show yK [] d d_8 h0 from by rw [ed_8]; exact yK.j yK.rf) 3 (by decide))
  have hE63d_8 : (d_8.1 h0 63).toInt = (d.1 h0 63).toInt := congrArg Int32.toInt ((show yK [] d d_8 h0 from by rw [ed_8]; exact yK.j yK.rf) 63 (by decide))
  refine lv_aload_n hx hb dX9_walk_19 rfl (lv_at hl 1 rfl) ?_
  refine lv_lconst (v := 0) hx hb dX9_walk_20 (by decide) ?_
  refine yputJ (ci := 9) (k := 59) (C := RX9) (T := TX9) (N := 67) C0 hK hP hD hS hm_h0 hk_h0 (by decide) rfl inlX9 tyX9 tyX9_ok nmX9 (by decide) mW874 (fun _ h9 => h9) rfl (by decide +kernel) (Nat.le_of_ble_eq_true rfl) ysj_9_59 dX9_walk_21 (fun H locs hP hD hS => ?_)
  obtain ⟨d_9, ed_9⟩ : ∃ z : yD, z = yj d_8 h0 59 0 := ⟨_, rfl⟩
  rw [← ed_9] at hP hD
  have hgd_9 : yAg S [9, 74, 75, 77, 78] d d_9 := by rw [ed_9]; exact yAg.j hgd_8 (by rw [hk_h0]; decide)
  have hPod_9 : yPo S d_9 := by rw [ed_9]; exact hPod_8
  have hfd_9 : yK [54, 55, 57, 62, 63, 64, 65] d d_9 h0 := by rw [ed_9]; exact yK.j hfd_8
  have hId_9 : yMI S d_9 h0 := by rw [ed_9]; exact yMI.j hId_8
  have hE0d_9 : (d_9.1 h0 0).toInt = (d_8.1 h0 0).toInt := congrArg Int32.toInt ((show yK [] d_8 d_9 h0 from by rw [ed_9]; exact yK.j yK.rf) 0 (by decide))
  have hE1d_9 : (d_9.1 h0 1).toInt = (d_8.1 h0 1).toInt := congrArg Int32.toInt ((show yK [] d_8 d_9 h0 from by rw [ed_9]; exact yK.j yK.rf) 1 (by decide))
  have hE2d_9 : (d_9.1 h0 2).toInt = (d_8.1 h0 2).toInt := congrArg Int32.toInt ((show yK [] d_8 d_9 h0 from by rw [ed_9]; exact yK.j yK.rf) 2 (by decide))
  have hE3d_9 : (d_9.1 h0 3).toInt = (d_8.1 h0 3).toInt := congrArg Int32.toInt ((show yK [] d_8 d_9 h0 from by rw [ed_9]; exact yK.j yK.rf) 3 (by decide))
  have hE63d_9 : (d_9.1 h0 63).toInt = (d_8.1 h0 63).toInt := congrArg Int32.toInt ((show yK [] d_8 d_9 h0 from by rw [ed_9]; exact yK.j yK.rf) 63 (by decide))
  refine lv_aload_n hx hb dX9_walk_24 rfl (lv_at hl 1 rfl) ?_
  refine lv_lconst (v := 0) hx hb dX9_walk_25 (by decide) ?_
  refine yputJ (ci := 9) (k := 60) (C := RX9) (T := TX9) (N := 67) C0 hK hP hD hS hm_h0 hk_h0 (by decide) rfl inlX9 tyX9 tyX9_ok nmX9 (by decide) mW875 (fun _ h9 => h9) rfl (by decide +kernel) (Nat.le_of_ble_eq_true rfl) ysj_9_60 dX9_walk_26 (fun H locs hP hD hS => ?_)
  obtain ⟨d_10, ed_10⟩ : ∃ z : yD, z = yj d_9 h0 60 0 := ⟨_, rfl⟩
  rw [← ed_10] at hP hD
  have hgd_10 : yAg S [9, 74, 75, 77, 78] d d_10 := by rw [ed_10]; exact yAg.j hgd_9 (by rw [hk_h0]; decide)
  have hPod_10 : yPo S d_10 := by rw [ed_10]; exact hPod_9
  have hfd_10 : yK [54, 55, 57, 62, 63, 64, 65] d d_10 h0 := by rw [ed_10]; exact yK.j hfd_9
  have hId_10 : yMI S d_10 h0 := by rw [ed_10]; exact yMI.j hId_9
  have hE0d_10 : (d_10.1 h0 0).toInt = (d_9.1 h0 0).toInt := congrArg Int32.toInt ((show yK [] d_9 d_10 h0 from by rw [ed_10]; exact yK.j yK.rf) 0 (by decide))
  have hE1d_10 : (d_10.1 h0 1).toInt = (d_9.1 h0 1).toInt := congrArg Int32.toInt ((show yK [] d_9 d_10 h0 from by rw [ed_10]; exact yK.j yK.rf) 1 (by decide))
  have hE2d_10 : (d_10.1 h0 2).toInt = (d_9.1 h0 2).toInt := congrArg Int32.toInt ((show yK [] d_9 d_10 h0 from by rw [ed_10]; exact yK.j yK.rf) 2 (by decide))
  have hE3d_10 : (d_10.1 h0 3).toInt = (d_9.1 h0 3).toInt := congrArg Int32.toInt ((show yK [] d_9 d_10 h0 from by rw [ed_10]; exact yK.j yK.rf) 3 (by decide))
  have hE63d_10 : (d_10.1 h0 63).toInt = (d_9.1 h0 63).toInt := congrArg Int32.toInt ((show yK [] d_9 d_10 h0 from by rw [ed_10]; exact yK.j yK.rf) 63 (by decide))
  refine lv_aload_n hx hb dX9_walk_29 rfl (lv_at hl 1 rfl) ?_
  refine lv_ldc2 (v := (-1)) hx hb hown (htl (.constantLong RX9 193 (-1)) mW369) dX9_walk_30 ?_
  refine yputJ (ci := 9) (k := 61) (C := RX9) (T := TX9) (N := 67) C0 hK hP hD hS hm_h0 hk_h0 (by decide) rfl inlX9 tyX9 tyX9_ok nmX9 (by decide) mW876 (fun _ h9 => h9) rfl (by decide +kernel) (Nat.le_of_ble_eq_true rfl) ysj_9_61 dX9_walk_33 (fun H locs hP hD hS => ?_)
  obtain ⟨d_11, ed_11⟩ : ∃ z : yD, z = yj d_10 h0 61 (-1) := ⟨_, rfl⟩
  rw [← ed_11] at hP hD
  have hgd_11 : yAg S [9, 74, 75, 77, 78] d d_11 := by rw [ed_11]; exact yAg.j hgd_10 (by rw [hk_h0]; decide)
  have hPod_11 : yPo S d_11 := by rw [ed_11]; exact hPod_10
  have hfd_11 : yK [54, 55, 57, 62, 63, 64, 65] d d_11 h0 := by rw [ed_11]; exact yK.j hfd_10
  have hId_11 : yMI S d_11 h0 := by rw [ed_11]; exact yMI.j hId_10
  have hE0d_11 : (d_11.1 h0 0).toInt = (d_10.1 h0 0).toInt := congrArg Int32.toInt ((show yK [] d_10 d_11 h0 from by rw [ed_11]; exact yK.j yK.rf) 0 (by decide))
  have hE1d_11 : (d_11.1 h0 1).toInt = (d_10.1 h0 1).toInt := congrArg Int32.toInt ((show yK [] d_10 d_11 h0 from by rw [ed_11]; exact yK.j yK.rf) 1 (by decide))
  have hE2d_11 : (d_11.1 h0 2).toInt = (d_10.1 h0 2).toInt := congrArg Int32.toInt ((show yK [] d_10 d_11 h0 from by rw [ed_11]; exact yK.j yK.rf) 2 (by decide))
  have hE3d_11 : (d_11.1 h0 3).toInt = (d_10.1 h0 3).toInt := congrArg Int32.toInt ((show yK [] d_10 d_11 h0 from by rw [ed_11]; exact yK.j yK.rf) 3 (by decide))
  have hE63d_11 : (d_11.1 h0 63).toInt = (d_10.1 h0 63).toInt := congrArg Int32.toInt ((show yK [] d_10 d_11 h0 from by rw [ed_11]; exact yK.j yK.rf) 63 (by decide))
  refine lv_aload_n hx hb dX9_walk_36 rfl (lv_at hl 1 rfl) ?_
  refine lv_iconst (v := 0) hx hb dX9_walk_37 (by decide) ?_
  refine yputI (ci := 9) (k := 62) (ty := .int) (C := RX9) (T := TX9) (N := 67) C0 hK hP hD hS hm_h0 hk_h0 (by decide) rfl inlX9 tyX9 tyX9_ok nmX9 (by decide) mW877 (fun _ h9 => h9) rfl (by decide +kernel) rfl rfl (Nat.le_of_ble_eq_true rfl) ysi_9_62 dX9_walk_38 (fun H locs hP hD hS => ?_)
  obtain ⟨d_12, ed_12⟩ : ∃ z : yD, z = yi d_11 h0 62 0 := ⟨_, rfl⟩
  rw [← ed_12] at hP hD
  have hgd_12 : yAg S [9, 74, 75, 77, 78] d d_12 := by rw [ed_12]; exact yAg.i hgd_11 (by rw [hk_h0]; decide)
  have hPod_12 : yPo S d_12 := by rw [ed_12]; exact yPo.i hPod_11 hk_h0 (Or.inl rfl)
  have hfd_12 : yK [54, 55, 57, 62, 63, 64, 65] d d_12 h0 := by rw [ed_12]; exact yK.i hfd_11 (by decide)
  have hId_12 : yMI S d_12 h0 := yMI.ag hId_11 hSh hm_h0 hk_h0 (show yAg S [9] d_11 d_12 from by rw [ed_12]; exact yAg.i yAg.rf (by rw [hk_h0]; decide)) (show yK [62] d_11 d_12 h0 from by rw [ed_12]; exact yK.i yK.rf (by decide)) (by decide) (by decide)
  have hE0d_12 : (d_12.1 h0 0).toInt = (d_11.1 h0 0).toInt := congrArg Int32.toInt ((show yK [62] d_11 d_12 h0 from by rw [ed_12]; exact yK.i yK.rf (by decide)) 0 (by decide))
  have hE1d_12 : (d_12.1 h0 1).toInt = (d_11.1 h0 1).toInt := congrArg Int32.toInt ((show yK [62] d_11 d_12 h0 from by rw [ed_12]; exact yK.i yK.rf (by decide)) 1 (by decide))
  have hE2d_12 : (d_12.1 h0 2).toInt = (d_11.1 h0 2).toInt := congrArg Int32.toInt ((show yK [62] d_11 d_12 h0 from by rw [ed_12]; exact yK.i yK.rf (by decide)) 2 (by decide))
  have hE3d_12 : (d_12.1 h0 3).toInt = (d_11.1 h0 3).toInt := congrArg Int32.toInt ((show yK [62] d_11 d_12 h0 from by rw [ed_12]; exact yK.i yK.rf (by decide)) 3 (by decide))
  have hE63d_12 : (d_12.1 h0 63).toInt = (d_11.1 h0 63).toInt := congrArg Int32.toInt ((show yK [62] d_11 d_12 h0 from by rw [ed_12]; exact yK.i yK.rf (by decide)) 63 (by decide))
  refine lv_aload_n hx hb dX9_walk_41 rfl (lv_at hl 1 rfl) ?_
  refine lv_bipush (v := (-4)) hx hb dX9_walk_42 (by decide) ?_
  refine yputI (ci := 9) (k := 54) (ty := .int) (C := RX9) (T := TX9) (N := 67) C0 hK hP hD hS hm_h0 hk_h0 (by decide) rfl inlX9 tyX9 tyX9_ok nmX9 (by decide) mW878 (fun _ h9 => h9) rfl (by decide +kernel) rfl rfl (Nat.le_of_ble_eq_true rfl) ysi_9_54 dX9_walk_44 (fun H locs hP hD hS => ?_)
  obtain ⟨d_13, ed_13⟩ : ∃ z : yD, z = yi d_12 h0 54 (-4) := ⟨_, rfl⟩
  rw [← ed_13] at hP hD
  have hgd_13 : yAg S [9, 74, 75, 77, 78] d d_13 := by rw [ed_13]; exact yAg.i hgd_12 (by rw [hk_h0]; decide)
  have hPod_13 : yPo S d_13 := by rw [ed_13]; exact yPo.i hPod_12 hk_h0 (Or.inl rfl)
  have hfd_13 : yK [54, 55, 57, 62, 63, 64, 65] d d_13 h0 := by rw [ed_13]; exact yK.i hfd_12 (by decide)
  have hId_13 : yMI S d_13 h0 := yMI.ag hId_12 hSh hm_h0 hk_h0 (show yAg S [9] d_12 d_13 from by rw [ed_13]; exact yAg.i yAg.rf (by rw [hk_h0]; decide)) (show yK [54] d_12 d_13 h0 from by rw [ed_13]; exact yK.i yK.rf (by decide)) (by decide) (by decide)
  have hE0d_13 : (d_13.1 h0 0).toInt = (d_12.1 h0 0).toInt := congrArg Int32.toInt ((show yK [54] d_12 d_13 h0 from by rw [ed_13]; exact yK.i yK.rf (by decide)) 0 (by decide))
  have hE1d_13 : (d_13.1 h0 1).toInt = (d_12.1 h0 1).toInt := congrArg Int32.toInt ((show yK [54] d_12 d_13 h0 from by rw [ed_13]; exact yK.i yK.rf (by decide)) 1 (by decide))
  have hE2d_13 : (d_13.1 h0 2).toInt = (d_12.1 h0 2).toInt := congrArg Int32.toInt ((show yK [54] d_12 d_13 h0 from by rw [ed_13]; exact yK.i yK.rf (by decide)) 2 (by decide))
  have hE3d_13 : (d_13.1 h0 3).toInt = (d_12.1 h0 3).toInt := congrArg Int32.toInt ((show yK [54] d_12 d_13 h0 from by rw [ed_13]; exact yK.i yK.rf (by decide)) 3 (by decide))
  have hE63d_13 : (d_13.1 h0 63).toInt = (d_12.1 h0 63).toInt := congrArg Int32.toInt ((show yK [54] d_12 d_13 h0 from by rw [ed_13]; exact yK.i yK.rf (by decide)) 63 (by decide))
  refine lv_aload_n hx hb dX9_walk_47 rfl (lv_at hl 1 rfl) ?_
  refine lv_iconst (v := (-1)) hx hb dX9_walk_48 (by decide) ?_
  refine yputI (ci := 9) (k := 55) (ty := .int) (C := RX9) (T := TX9) (N := 67) C0 hK hP hD hS hm_h0 hk_h0 (by decide) rfl inlX9 tyX9 tyX9_ok nmX9 (by decide) mW856 (fun _ h9 => h9) rfl (by decide +kernel) rfl rfl (Nat.le_of_ble_eq_true rfl) ysi_9_55 dX9_walk_49 (fun H locs hP hD hS => ?_)
  obtain ⟨d_14, ed_14⟩ : ∃ z : yD, z = yi d_13 h0 55 (-1) := ⟨_, rfl⟩
  rw [← ed_14] at hP hD
  have hgd_14 : yAg S [9, 74, 75, 77, 78] d d_14 := by rw [ed_14]; exact yAg.i hgd_13 (by rw [hk_h0]; decide)
  have hPod_14 : yPo S d_14 := by rw [ed_14]; exact yPo.i hPod_13 hk_h0 (Or.inl rfl)
  have hfd_14 : yK [54, 55, 57, 62, 63, 64, 65] d d_14 h0 := by rw [ed_14]; exact yK.i hfd_13 (by decide)
  have hId_14 : yMI S d_14 h0 := yMI.ag hId_13 hSh hm_h0 hk_h0 (show yAg S [9] d_13 d_14 from by rw [ed_14]; exact yAg.i yAg.rf (by rw [hk_h0]; decide)) (show yK [55] d_13 d_14 h0 from by rw [ed_14]; exact yK.i yK.rf (by decide)) (by decide) (by decide)
  have hE0d_14 : (d_14.1 h0 0).toInt = (d_13.1 h0 0).toInt := congrArg Int32.toInt ((show yK [55] d_13 d_14 h0 from by rw [ed_14]; exact yK.i yK.rf (by decide)) 0 (by decide))
  have hE1d_14 : (d_14.1 h0 1).toInt = (d_13.1 h0 1).toInt := congrArg Int32.toInt ((show yK [55] d_13 d_14 h0 from by rw [ed_14]; exact yK.i yK.rf (by decide)) 1 (by decide))
  have hE2d_14 : (d_14.1 h0 2).toInt = (d_13.1 h0 2).toInt := congrArg Int32.toInt ((show yK [55] d_13 d_14 h0 from by rw [ed_14]; exact yK.i yK.rf (by decide)) 2 (by decide))
  have hE3d_14 : (d_14.1 h0 3).toInt = (d_13.1 h0 3).toInt := congrArg Int32.toInt ((show yK [55] d_13 d_14 h0 from by rw [ed_14]; exact yK.i yK.rf (by decide)) 3 (by decide))
  have hE63d_14 : (d_14.1 h0 63).toInt = (d_13.1 h0 63).toInt := congrArg Int32.toInt ((show yK [55] d_13 d_14 h0 from by rw [ed_14]; exact yK.i yK.rf (by decide)) 63 (by decide))
  refine lv_aload_n hx hb dX9_walk_52 rfl (lv_at hl 1 rfl) ?_
  refine lv_lconst (v := 0) hx hb dX9_walk_53 (by decide) ?_
  refine yputJ (ci := 9) (k := 56) (C := RX9) (T := TX9) (N := 67) C0 hK hP hD hS hm_h0 hk_h0 (by decide) rfl inlX9 tyX9 tyX9_ok nmX9 (by decide) mW879 (fun _ h9 => h9) rfl (by decide +kernel) (Nat.le_of_ble_eq_true rfl) ysj_9_56 dX9_walk_54 (fun H locs hP hD hS => ?_)
  obtain ⟨d_15, ed_15⟩ : ∃ z : yD, z = yj d_14 h0 56 0 := ⟨_, rfl⟩
  rw [← ed_15] at hP hD
  have hgd_15 : yAg S [9, 74, 75, 77, 78] d d_15 := by rw [ed_15]; exact yAg.j hgd_14 (by rw [hk_h0]; decide)
  have hPod_15 : yPo S d_15 := by rw [ed_15]; exact hPod_14
  have hfd_15 : yK [54, 55, 57, 62, 63, 64, 65] d d_15 h0 := by rw [ed_15]; exact yK.j hfd_14
  have hId_15 : yMI S d_15 h0 := by rw [ed_15]; exact yMI.j hId_14
  have hE0d_15 : (d_15.1 h0 0).toInt = (d_14.1 h0 0).toInt := congrArg Int32.toInt ((show yK [] d_14 d_15 h0 from by rw [ed_15]; exact yK.j yK.rf) 0 (by decide))
  have hE1d_15 : (d_15.1 h0 1).toInt = (d_14.1 h0 1).toInt := congrArg Int32.toInt ((show yK [] d_14 d_15 h0 from by rw [ed_15]; exact yK.j yK.rf) 1 (by decide))
  have hE2d_15 : (d_15.1 h0 2).toInt = (d_14.1 h0 2).toInt := congrArg Int32.toInt ((show yK [] d_14 d_15 h0 from by rw [ed_15]; exact yK.j yK.rf) 2 (by decide))
  have hE3d_15 : (d_15.1 h0 3).toInt = (d_14.1 h0 3).toInt := congrArg Int32.toInt ((show yK [] d_14 d_15 h0 from by rw [ed_15]; exact yK.j yK.rf) 3 (by decide))
  have hE63d_15 : (d_15.1 h0 63).toInt = (d_14.1 h0 63).toInt := congrArg Int32.toInt ((show yK [] d_14 d_15 h0 from by rw [ed_15]; exact yK.j yK.rf) 63 (by decide))
  refine lv_aload_n hx hb dX9_walk_57 rfl (lv_at hl 1 rfl) ?_
  refine lv_iconst (v := 0) hx hb dX9_walk_58 (by decide) ?_
  refine yputI (ci := 9) (k := 57) (ty := .int) (C := RX9) (T := TX9) (N := 67) C0 hK hP hD hS hm_h0 hk_h0 (by decide) rfl inlX9 tyX9 tyX9_ok nmX9 (by decide) mW880 (fun _ h9 => h9) rfl (by decide +kernel) rfl rfl (Nat.le_of_ble_eq_true rfl) ysi_9_57 dX9_walk_59 (fun H locs hP hD hS => ?_)
  obtain ⟨d_16, ed_16⟩ : ∃ z : yD, z = yi d_15 h0 57 0 := ⟨_, rfl⟩
  rw [← ed_16] at hP hD
  have hgd_16 : yAg S [9, 74, 75, 77, 78] d d_16 := by rw [ed_16]; exact yAg.i hgd_15 (by rw [hk_h0]; decide)
  have hPod_16 : yPo S d_16 := by rw [ed_16]; exact yPo.i hPod_15 hk_h0 (Or.inl rfl)
  have hfd_16 : yK [54, 55, 57, 62, 63, 64, 65] d d_16 h0 := by rw [ed_16]; exact yK.i hfd_15 (by decide)
  have hId_16 : yMI S d_16 h0 := yMI.ag hId_15 hSh hm_h0 hk_h0 (show yAg S [9] d_15 d_16 from by rw [ed_16]; exact yAg.i yAg.rf (by rw [hk_h0]; decide)) (show yK [57] d_15 d_16 h0 from by rw [ed_16]; exact yK.i yK.rf (by decide)) (by decide) (by decide)
  have hE0d_16 : (d_16.1 h0 0).toInt = (d_15.1 h0 0).toInt := congrArg Int32.toInt ((show yK [57] d_15 d_16 h0 from by rw [ed_16]; exact yK.i yK.rf (by decide)) 0 (by decide))
  have hE1d_16 : (d_16.1 h0 1).toInt = (d_15.1 h0 1).toInt := congrArg Int32.toInt ((show yK [57] d_15 d_16 h0 from by rw [ed_16]; exact yK.i yK.rf (by decide)) 1 (by decide))
  have hE2d_16 : (d_16.1 h0 2).toInt = (d_15.1 h0 2).toInt := congrArg Int32.toInt ((show yK [57] d_15 d_16 h0 from by rw [ed_16]; exact yK.i yK.rf (by decide)) 2 (by decide))
  have hE3d_16 : (d_16.1 h0 3).toInt = (d_15.1 h0 3).toInt := congrArg Int32.toInt ((show yK [57] d_15 d_16 h0 from by rw [ed_16]; exact yK.i yK.rf (by decide)) 3 (by decide))
  have hE63d_16 : (d_16.1 h0 63).toInt = (d_15.1 h0 63).toInt := congrArg Int32.toInt ((show yK [57] d_15 d_16 h0 from by rw [ed_16]; exact yK.i yK.rf (by decide)) 63 (by decide))
  refine lv_aload_n hx hb dX9_walk_62 rfl (lv_at hl 1 rfl) ?_
  refine lv_lconst (v := 0) hx hb dX9_walk_63 (by decide) ?_
  refine yputJ (ci := 9) (k := 66) (C := RX9) (T := TX9) (N := 67) C0 hK hP hD hS hm_h0 hk_h0 (by decide) rfl inlX9 tyX9 tyX9_ok nmX9 (by decide) mW881 (fun _ h9 => h9) rfl (by decide +kernel) (Nat.le_of_ble_eq_true rfl) ysj_9_66 dX9_walk_64 (fun H locs hP hD hS => ?_)
  obtain ⟨d_17, ed_17⟩ : ∃ z : yD, z = yj d_16 h0 66 0 := ⟨_, rfl⟩
  rw [← ed_17] at hP hD
  have hgd_17 : yAg S [9, 74, 75, 77, 78] d d_17 := by rw [ed_17]; exact yAg.j hgd_16 (by rw [hk_h0]; decide)
  have hPod_17 : yPo S d_17 := by rw [ed_17]; exact hPod_16
  have hfd_17 : yK [54, 55, 57, 62, 63, 64, 65] d d_17 h0 := by rw [ed_17]; exact yK.j hfd_16
  have hId_17 : yMI S d_17 h0 := by rw [ed_17]; exact yMI.j hId_16
  have hE0d_17 : (d_17.1 h0 0).toInt = (d_16.1 h0 0).toInt := congrArg Int32.toInt ((show yK [] d_16 d_17 h0 from by rw [ed_17]; exact yK.j yK.rf) 0 (by decide))
  have hE1d_17 : (d_17.1 h0 1).toInt = (d_16.1 h0 1).toInt := congrArg Int32.toInt ((show yK [] d_16 d_17 h0 from by rw [ed_17]; exact yK.j yK.rf) 1 (by decide))
  have hE2d_17 : (d_17.1 h0 2).toInt = (d_16.1 h0 2).toInt := congrArg Int32.toInt ((show yK [] d_16 d_17 h0 from by rw [ed_17]; exact yK.j yK.rf) 2 (by decide))
  have hE3d_17 : (d_17.1 h0 3).toInt = (d_16.1 h0 3).toInt := congrArg Int32.toInt ((show yK [] d_16 d_17 h0 from by rw [ed_17]; exact yK.j yK.rf) 3 (by decide))
  have hE63d_17 : (d_17.1 h0 63).toInt = (d_16.1 h0 63).toInt := congrArg Int32.toInt ((show yK [] d_16 d_17 h0 from by rw [ed_17]; exact yK.j yK.rf) 63 (by decide))
  refine lv_ldc2 (v := 9223372036854775807) hx hb hown (htl (.constantLong RX9 280 (9223372036854775807)) mW882) dX9_walk_67 ?_
  refine lv_lstore (lv' := [(8, .long 9223372036854775807), (6, .long z_7), (0, .ref h0), (1, .int p0), (2, .int p1), (3, .int p2), (4, .int p3), (5, .int p4)]) hx hb dX9_walk_70 hl (by decide) rfl (fun ls hl => ?_)
  refine lv_ldc2 (v := (-1)) hx hb hown (htl (.constantLong RX9 193 (-1)) mW369) dX9_walk_72 ?_
  refine lv_lstore (lv' := [(10, .long (-1)), (8, .long 9223372036854775807), (6, .long z_7), (0, .ref h0), (1, .int p0), (2, .int p1), (3, .int p2), (4, .int p3), (5, .int p4)]) hx hb dX9_walk_75 hl (by decide) rfl (fun ls hl => ?_)
  refine lv_iconst (v := 0) hx hb dX9_walk_77 (by decide) ?_
  refine lv_istore (lv' := [(12, .int 0), (10, .long (-1)), (8, .long 9223372036854775807), (6, .long z_7), (0, .ref h0), (1, .int p0), (2, .int p1), (3, .int p2), (4, .int p3), (5, .int p4)]) hx hb dX9_walk_78 hl (by decide) rfl (fun ls hl => ?_)
  have hCC_18 := yMI.c hId_17
  refine yloop (σ := Int64 × Int64 × Int32 × yD) (fun x => (2147483647 - (x.2.2.1 : Int32).toInt).toNat) 80 (fun x H locs ls => va_P G.1 xcl (yW G S x.2.2.2) H ∧ va_D A (yW G S x.2.2.2) ∧ va_S A s.heap H locs ∧ yAg S [9, 74, 75, 77, 78] d x.2.2.2 ∧ yPo S x.2.2.2 ∧ yK [54, 55, 57, 62, 63, 64, 65] d x.2.2.2 h0 ∧ yMI S x.2.2.2 h0 ∧ yAg S [9, 74, 75, 77, 78] d_17 x.2.2.2 ∧ yK [62] d_17 x.2.2.2 h0 ∧ (0 ≤ ((x.2.2.1) : Int32).toInt) ∧ lv_has ls 17 [(12, .int x.2.2.1), (10, .long x.2.1), (8, .long x.1), (6, .long z_7), (0, .ref h0), (2, .int p1), (3, .int p2), (4, .int p3), (5, .int p4)]) (fun x H locs ls hI hnext_23 => ?_) (9223372036854775807, (-1), 0, d_17) ⟨hP, hD, hS, hgd_17, hPod_17, hfd_17, hId_17, yAg.rf, yK.rf, (show (0 ≤ ((0) : Int32).toInt) from by have hl1_ : ((-1) : Int32).toInt = (-1) := (by decide +kernel); have hl2_ : (0 : Int32).toInt = 0 := (by decide +kernel); have hq0_ : (0 : Int32).toInt = 0 := (by decide +kernel); omega), lv_sub hl [0, 1, 2, 3, 4, 6, 7, 8, 9] rfl⟩
  obtain ⟨v_19, v_20, v_21, d_22⟩ := x
  obtain ⟨hP, hD, hS, hgd_22, hPod_22, hfd_22, hId_22, hLJd_22, hKJd_22, hex_24, hl⟩ := hI
  have hId_22 : yMI S d_22 h0 := hId_22
  have hex_24 : (0 ≤ ((v_21) : Int32).toInt) := hex_24
  have hl : lv_has ls 17 [(12, .int v_21), (10, .long v_20), (8, .long v_19), (6, .long z_7), (0, .ref h0), (2, .int p1), (3, .int p2), (4, .int p3), (5, .int p4)] := hl
  have hLJd_22 : yAg S [9, 74, 75, 77, 78] d_17 d_22 := hLJd_22
  have hKJd_22 : yK [62] d_17 d_22 h0 := hKJd_22
  have hE0d_22 : (d_22.1 h0 0).toInt = (d_17.1 h0 0).toInt := congrArg Int32.toInt (hKJd_22 0 (by decide))
  have hE1d_22 : (d_22.1 h0 1).toInt = (d_17.1 h0 1).toInt := congrArg Int32.toInt (hKJd_22 1 (by decide))
  have hE2d_22 : (d_22.1 h0 2).toInt = (d_17.1 h0 2).toInt := congrArg Int32.toInt (hKJd_22 2 (by decide))
  have hE3d_22 : (d_22.1 h0 3).toInt = (d_17.1 h0 3).toInt := congrArg Int32.toInt (hKJd_22 3 (by decide))
  have hE63d_22 : (d_22.1 h0 63).toInt = (d_17.1 h0 63).toInt := congrArg Int32.toInt (hKJd_22 63 (by decide))
  refine lv_iload hx hb dX9_walk_80 (lv_at hl 0 rfl) ?_
  refine lv_bipush (v := 8) hx hb dX9_walk_82 (by decide) ?_
  refine lv_icmp_ge (tgt := 309) hx hb dX9_walk_84 (by decide) (fun c_25 => ?_) (fun c_25 => ?_)
  · refine lv_lload hx hb dX9_walk_309 (lv_at hl 1 rfl) ?_
    refine lv_lconst (v := 0) hx hb dX9_walk_311 (by decide) ?_
    refine W.lcmp hx hb dX9_walk_312 ?_
    refine lv_topi (fun z_26 ez_26 => ?_)
    refine lv_if_ge (tgt := 317) hx hb dX9_walk_313 (by decide) (fun c_27 => ?_) (fun c_27 => ?_)
    · refine lv_aload_n hx hb dX9_walk_317 rfl (lv_at hl 4 rfl) ?_
      refine yget (ci := 9) (k := 59) (v := .long (d_22.2.1 h0 59)) (C := RX9) (T := TX9) (N := 67) C0 hK hP hm_h0 hk_h0 (by decide) rfl inlX9 (by decide) mW874 (fun _ h9 => h9) rfl dX9_walk_318 ?_
      refine lv_topl (fun z_28 ez_28 => ?_)
      refine lv_lconst (v := 0) hx hb dX9_walk_321 (by decide) ?_
      refine W.lcmp hx hb dX9_walk_322 ?_
      refine lv_topi (fun z_29 ez_29 => ?_)
      refine lv_if_ne (tgt := 334) hx hb dX9_walk_323 (by decide) (fun c_30 => ?_) (fun c_30 => ?_)
      · refine lv_lload hx hb dX9_walk_334 (lv_at hl 2 rfl) ?_
        refine lv_lstore (lv' := [(12, .long v_19), (10, .long v_20), (8, .long v_19), (6, .long z_7), (0, .ref h0), (2, .int p1), (3, .int p2), (4, .int p3), (5, .int p4)]) hx hb dX9_walk_336 hl (by decide) rfl (fun ls hl => ?_)
        have hCC_31 := yMI.c hId_22
        have F_32 := fle (by decide +kernel : (8 : Int32).toInt = 8) (rfl : (v_21 : Int32).toInt = (v_21 : Int32).toInt) c_25
        refine yloop (σ := Int64 × yD) (fun x => ((v_20 : Int64).toInt - (x.1 : Int64).toInt).toNat) 338 (fun x H locs ls => va_P G.1 xcl (yW G S x.2) H ∧ va_D A (yW G S x.2) ∧ va_S A s.heap H locs ∧ yAg S [9, 74, 75, 77, 78] d x.2 ∧ yPo S x.2 ∧ yK [54, 55, 57, 62, 63, 64, 65] d x.2 h0 ∧ yMI S x.2 h0 ∧ yAg S [9, 77, 78] d_22 x.2 ∧ yK [54, 55, 57, 63, 64, 65] d_22 x.2 h0 ∧ (True) ∧ lv_has ls 17 [(12, .long x.1), (10, .long v_20), (0, .ref h0), (2, .int p1), (3, .int p2), (4, .int p3), (5, .int p4)]) (fun x H locs ls hI hnext_35 => ?_) (v_19, d_22) ⟨hP, hD, hS, hgd_22, hPod_22, hfd_22, hId_22, yAg.rf, yK.rf, trivial, lv_sub hl [0, 1, 4, 5, 6, 7, 8] rfl⟩
        obtain ⟨v_33, d_34⟩ := x
        obtain ⟨hP, hD, hS, hgd_34, hPod_34, hfd_34, hId_34, hLJd_34, hKJd_34, hex_36, hl⟩ := hI
        have hId_34 : yMI S d_34 h0 := hId_34
        have hex_36 : (True) := hex_36
        have hl : lv_has ls 17 [(12, .long v_33), (10, .long v_20), (0, .ref h0), (2, .int p1), (3, .int p2), (4, .int p3), (5, .int p4)] := hl
        have hLJd_34 : yAg S [9, 77, 78] d_22 d_34 := hLJd_34
        have hKJd_34 : yK [54, 55, 57, 63, 64, 65] d_22 d_34 h0 := hKJd_34
        have hE0d_34 : (d_34.1 h0 0).toInt = (d_22.1 h0 0).toInt := congrArg Int32.toInt (hKJd_34 0 (by decide))
        have hE1d_34 : (d_34.1 h0 1).toInt = (d_22.1 h0 1).toInt := congrArg Int32.toInt (hKJd_34 1 (by decide))
        have hE2d_34 : (d_34.1 h0 2).toInt = (d_22.1 h0 2).toInt := congrArg Int32.toInt (hKJd_34 2 (by decide))
        have hE3d_34 : (d_34.1 h0 3).toInt = (d_22.1 h0 3).toInt := congrArg Int32.toInt (hKJd_34 3 (by decide))
        refine lv_lload hx hb dX9_walk_338 (lv_at hl 0 rfl) ?_
        refine lv_lload hx hb dX9_walk_340 (lv_at hl 1 rfl) ?_
        refine W.lcmp hx hb dX9_walk_342 ?_
        refine lv_topi (fun z_37 ez_37 => ?_)
        refine lv_if_ge (tgt := 430) hx hb dX9_walk_343 (by decide) (fun c_38 => ?_) (fun c_38 => ?_)
        · exact W.vret hx hb hr (fun t ht hW => ⟨⟨d_34, rfl, ⟨hgd_34, (fun _ => hPod_34), hfd_34, hId_34⟩, by rw [ht]; exact hP, hD⟩, hS.F ht⟩) hS.2.2 dX9_walk_430
        · refine lv_iconst (v := 0) hx hb dX9_walk_346 (by decide) ?_
          refine lv_istore (lv' := [(14, .int 0), (12, .long v_33), (10, .long v_20), (0, .ref h0), (2, .int p1), (3, .int p2), (4, .int p3), (5, .int p4)]) hx hb dX9_walk_347 hl (by decide) rfl (fun ls hl => ?_)
          have hCC_39 := yMI.c hId_34
          refine yloop (σ := Int32 × yD) (fun x => (2147483647 - (x.1 : Int32).toInt).toNat) 349 (fun x H locs ls => va_P G.1 xcl (yW G S x.2) H ∧ va_D A (yW G S x.2) ∧ va_S A s.heap H locs ∧ yAg S [9, 74, 75, 77, 78] d x.2 ∧ yPo S x.2 ∧ yK [54, 55, 57, 62, 63, 64, 65] d x.2 h0 ∧ yMI S x.2 h0 ∧ yAg S [9, 77, 78] d_34 x.2 ∧ yK [54, 55, 57, 63, 64, 65] d_34 x.2 h0 ∧ yAg S [9, 77, 78] d_22 x.2 ∧ yK [54, 55, 57, 63, 64, 65] d_22 x.2 h0 ∧ (0 ≤ ((x.1) : Int32).toInt) ∧ lv_has ls 17 [(14, .int x.1), (12, .long v_33), (10, .long v_20), (0, .ref h0), (2, .int p1), (3, .int p2), (4, .int p3), (5, .int p4)]) (fun x H locs ls hI hnext_42 => ?_) (0, d_34) ⟨hP, hD, hS, hgd_34, hPod_34, hfd_34, hId_34, yAg.rf, yK.rf, hLJd_34, hKJd_34, (show (0 ≤ ((0) : Int32).toInt) from by have hl0_ : (0 : Int32).toInt = 0 := (by decide +kernel); have hq0_ : (0 : Int32).toInt = 0 := (by decide +kernel); omega), lv_sub hl [0, 1, 2, 3, 4, 5, 6, 7] rfl⟩
          obtain ⟨v_40, d_41⟩ := x
          obtain ⟨hP, hD, hS, hgd_41, hPod_41, hfd_41, hId_41, hLJd_41, hKJd_41, hL0d_41, hK0d_41, hex_43, hl⟩ := hI
          have hId_41 : yMI S d_41 h0 := hId_41
          have hex_43 : (0 ≤ ((v_40) : Int32).toInt) := hex_43
          have hl : lv_has ls 17 [(14, .int v_40), (12, .long v_33), (10, .long v_20), (0, .ref h0), (2, .int p1), (3, .int p2), (4, .int p3), (5, .int p4)] := hl
          have hLJd_41 : yAg S [9, 77, 78] d_34 d_41 := hLJd_41
          have hKJd_41 : yK [54, 55, 57, 63, 64, 65] d_34 d_41 h0 := hKJd_41
          have hE0d_41 : (d_41.1 h0 0).toInt = (d_34.1 h0 0).toInt := congrArg Int32.toInt (hKJd_41 0 (by decide))
          have hE1d_41 : (d_41.1 h0 1).toInt = (d_34.1 h0 1).toInt := congrArg Int32.toInt (hKJd_41 1 (by decide))
          have hE2d_41 : (d_41.1 h0 2).toInt = (d_34.1 h0 2).toInt := congrArg Int32.toInt (hKJd_41 2 (by decide))
          have hE3d_41 : (d_41.1 h0 3).toInt = (d_34.1 h0 3).toInt := congrArg Int32.toInt (hKJd_41 3 (by decide))
          refine lv_iload hx hb dX9_walk_349 (lv_at hl 0 rfl) ?_
          refine lv_bipush (v := 8) hx hb dX9_walk_351 (by decide) ?_
          refine lv_icmp_ge (tgt := 421) hx hb dX9_walk_353 (by decide) (fun c_44 => ?_) (fun c_44 => ?_)
          · refine lv_lload hx hb dX9_walk_421 (lv_at hl 1 rfl) ?_
            refine lv_lconst (v := 1) hx hb dX9_walk_423 (by decide) ?_
            refine lv_ladd hx hb dX9_walk_424 ?_
            refine lv_topl (fun z_45 ez_45 => ?_)
            refine lv_lstore (lv' := [(12, .long z_45), (14, .int v_40), (10, .long v_20), (0, .ref h0), (2, .int p1), (3, .int p2), (4, .int p3), (5, .int p4)]) hx hb dX9_walk_425 hl (by decide) rfl (fun ls hl => ?_)
            refine lv_goto (tgt := 338) hx hb dX9_walk_427 (by decide) ?_
            have hCC_46 := yMI.c hId_41
            have F_47 := fle (by decide +kernel : (8 : Int32).toInt = 8) (rfl : (v_40 : Int32).toInt = (v_40 : Int32).toInt) c_44
            exact hnext_35 (z_45, d_41) _ _ ls ((xupj ez_45 (jnge ez_37 c_38))) ⟨hP, hD, hS, hgd_41, hPod_41, hfd_41, hId_41, hL0d_41, hK0d_41, trivial, lv_sub hl [0, 2, 3, 4, 5, 6, 7] rfl⟩
          · refine lv_lload hx hb dX9_walk_356 (lv_at hl 1 rfl) ?_
            refine lv_aload_n hx hb dX9_walk_358 rfl (lv_at hl 3 rfl) ?_
            refine lv_iload hx hb dX9_walk_359 (lv_at hl 0 rfl) ?_
            refine lv_bipush (v := 7) hx hb dX9_walk_361 (by decide) ?_
            have F_48 := fnle (by decide +kernel : (8 : Int32).toInt = 8) (rfl : (v_40 : Int32).toInt = (v_40 : Int32).toInt) c_44
            refine yVri (As := [.int v_40, .int 7]) (rest := [.long v_33]) C0 (g_X9_of l G S d_41 h0 v_40 7 hSh hm_h0 hk_h0 (by refine ⟨?_, ?_⟩ <;> omega) (by decide +kernel)) ok_X9_of (mW425 : Cond.methodLink RX9 161 yX9_of ∈ wsT) ⟨Nat.le_of_ble_eq_true rfl, Nat.le_of_ble_eq_true rfl⟩ hP hD hK hN hm_h0 hk_h0 (by decide) rfl rfl rfl hl.1 rfl (Nat.le_of_ble_eq_true rfl) ⟨Nat.le_of_ble_eq_true rfl, Nat.le_of_ble_eq_true rfl⟩ dX9_walk_363 (fun r_49 hr_49 => ?_)
            have hOr_49 : (r_49 : Int32).toInt = yOf S d_41 h0 (v_40 : Int32).toInt.toNat 7 := by rw [hr_49, show (7 : Int32).toInt.toNat = 7 by decide +kernel]; rfl
            refine lv_i2l hx hb dX9_walk_366 rfl ?_
            refine lv_topl (fun z_50 ez_50 => ?_)
            refine lv_lsub hx hb dX9_walk_367 ?_
            refine lv_topl (fun z_51 ez_51 => ?_)
            refine lv_lstore (lv' := [(15, .long z_51), (14, .int v_40), (12, .long v_33), (10, .long v_20), (0, .ref h0), (2, .int p1), (3, .int p2), (4, .int p3), (5, .int p4)]) hx hb dX9_walk_368 hl (by decide) rfl (fun ls hl => ?_)
            refine lv_lload hx hb dX9_walk_370 (lv_at hl 0 rfl) ?_
            refine lv_aload_n hx hb dX9_walk_372 rfl (lv_at hl 4 rfl) ?_
            refine yget (ci := 9) (k := 44) (v := .ref (S.2.2.1 h0 44)) (C := RX9) (T := TX9) (N := 67) C0 hK hP hm_h0 hk_h0 (by decide) rfl inlX9 (by decide) mW149 (fun _ h9 => h9) rfl dX9_walk_373 ?_
            obtain ⟨hmy_52, hky_52⟩ := ySh.f9_44 hSh _ hm_h0 hk_h0
            refine lv_iload hx hb dX9_walk_376 (lv_at hl 1 rfl) ?_
            have hCC_53 := yMI.c hId_41
            refine yald C0 hK hP hmy_52 hky_52 (by decide) rfl 0 rfl (xinT 8 rfl (by omega) (by omega)) dX9_walk_378 ?_
            refine lv_topi (fun z_54 ez_54 => ?_)
            have hvz_54 : (-1) ≤ (z_54 : Int32).toInt ∧ (z_54 : Int32).toInt ≤ 229599 := by rw [ez_54]; exact yMI.fr_ hId_41 _
            refine lv_i2l hx hb dX9_walk_379 rfl ?_
            refine lv_topl (fun z_55 ez_55 => ?_)
            refine W.lcmp hx hb dX9_walk_380 ?_
            refine lv_topi (fun z_56 ez_56 => ?_)
            refine lv_if_lt (tgt := 415) hx hb dX9_walk_381 (by decide) (fun c_57 => ?_) (fun c_57 => ?_)
            · refine lv_iinc (v := v_40 + 1) (lv' := [(14, .int (v_40 + 1)), (15, .long z_51), (12, .long v_33), (10, .long v_20), (0, .ref h0), (2, .int p1), (3, .int p2), (4, .int p3), (5, .int p4)]) hx hb dX9_walk_415 hl (k := 1) rfl rfl (by decide) rfl (fun ls hl => ?_)
              refine lv_goto (tgt := 349) hx hb dX9_walk_418 (by decide) ?_
              have T_59 : ((v_40 + 1) : Int32).toInt = (v_40 : Int32).toInt + 1 := tadd rfl (rfl : (v_40 : Int32).toInt = (v_40 : Int32).toInt) (by decide +kernel : (1 : Int32).toInt = 1) (by omega) (by omega)
              exact hnext_42 (v_40 + 1, d_41) _ _ ls (xup c_44) ⟨hP, hD, hS, hgd_41, hPod_41, hfd_41, hId_41, hLJd_41, hKJd_41, hL0d_41, hK0d_41, (show (0 ≤ (((v_40 + 1)) : Int32).toInt) from by have hq0_ : (0 : Int32).toInt = 0 := (by decide +kernel); omega), lv_sub hl [0, 2, 3, 4, 5, 6, 7, 8] rfl⟩
            · refine lv_lload hx hb dX9_walk_384 (lv_at hl 0 rfl) ?_
              refine lv_aload_n hx hb dX9_walk_386 rfl (lv_at hl 4 rfl) ?_
              refine yget (ci := 9) (k := 45) (v := .ref (S.2.2.1 h0 45)) (C := RX9) (T := TX9) (N := 67) C0 hK hP hm_h0 hk_h0 (by decide) rfl inlX9 (by decide) mW150 (fun _ h9 => h9) rfl dX9_walk_387 ?_
              obtain ⟨hmy_60, hky_60⟩ := ySh.f9_45 hSh _ hm_h0 hk_h0
              refine lv_iload hx hb dX9_walk_390 (lv_at hl 1 rfl) ?_
              refine yald C0 hK hP hmy_60 hky_60 (by decide) rfl 0 rfl (xinT 8 rfl (by omega) (by omega)) dX9_walk_392 ?_
              refine lv_topi (fun z_61 ez_61 => ?_)
              have hvz_61 : 0 ≤ (z_61 : Int32).toInt ∧ (z_61 : Int32).toInt ≤ 129600 := by rw [ez_61]; exact yMI.to_ hId_41 _
              refine lv_i2l hx hb dX9_walk_393 rfl ?_
              refine lv_topl (fun z_62 ez_62 => ?_)
              refine W.lcmp hx hb dX9_walk_394 ?_
              refine lv_topi (fun z_63 ez_63 => ?_)
              refine lv_if_ge (tgt := 415) hx hb dX9_walk_395 (by decide) (fun c_64 => ?_) (fun c_64 => ?_)
              · refine lv_iinc (v := v_40 + 1) (lv' := [(14, .int (v_40 + 1)), (15, .long z_51), (12, .long v_33), (10, .long v_20), (0, .ref h0), (2, .int p1), (3, .int p2), (4, .int p3), (5, .int p4)]) hx hb dX9_walk_415 hl (k := 1) rfl rfl (by decide) rfl (fun ls hl => ?_)
                refine lv_goto (tgt := 349) hx hb dX9_walk_418 (by decide) ?_
                have T_66 : ((v_40 + 1) : Int32).toInt = (v_40 : Int32).toInt + 1 := tadd rfl (rfl : (v_40 : Int32).toInt = (v_40 : Int32).toInt) (by decide +kernel : (1 : Int32).toInt = 1) (by omega) (by omega)
                exact hnext_42 (v_40 + 1, d_41) _ _ ls (xup c_44) ⟨hP, hD, hS, hgd_41, hPod_41, hfd_41, hId_41, hLJd_41, hKJd_41, hL0d_41, hK0d_41, (show (0 ≤ (((v_40 + 1)) : Int32).toInt) from by have hq0_ : (0 : Int32).toInt = 0 := (by decide +kernel); omega), lv_sub hl [0, 2, 3, 4, 5, 6, 7, 8] rfl⟩
              · refine lv_aload_n hx hb dX9_walk_398 rfl (lv_at hl 4 rfl) ?_
                refine lv_iload hx hb dX9_walk_399 (lv_at hl 1 rfl) ?_
                refine lv_lload hx hb dX9_walk_401 (lv_at hl 0 rfl) ?_
                refine lv_l2i hx hb dX9_walk_403 rfl ?_
                refine lv_topi (fun z_67 ez_67 => ?_)
                refine lv_lload hx hb dX9_walk_404 (lv_at hl 2 rfl) ?_
                refine lv_iload_n hx hb dX9_walk_406 rfl (lv_at hl 5 rfl) ?_
                refine lv_iload_n hx hb dX9_walk_407 rfl (lv_at hl 6 rfl) ?_
                refine lv_iload hx hb dX9_walk_408 (lv_at hl 7 rfl) ?_
                refine lv_iload hx hb dX9_walk_410 (lv_at hl 8 rfl) ?_
                have T_69 : (0 : Int64).toInt = 0 := by decide +kernel
                have F_70 := jge ez_26 c_27
                have F_72 := jne ez_29 c_30
                have F_73 := jnge ez_37 c_38
                have T_75 : (z_55 : Int64).toInt = (z_54 : Int32).toInt := by rw [ez_55, Int32.toInt_toInt64]
                have F_76 := jnlt ez_56 c_57
                have T_78 : (z_62 : Int64).toInt = (z_61 : Int32).toInt := by rw [ez_62, Int32.toInt_toInt64]
                have F_79 := jnge ez_63 c_64
                have T_68 : (z_67 : Int32).toInt = (z_51 : Int64).toInt := by rw [ez_67]; exact xtrunc (by omega) (by omega)
                refine yVwv (As := [.int v_40, .int z_67, .long v_33, .int p1, .int p2, .int p3, .int p4]) (rest := []) C0 (g_X9_step l G S d_41 h0 v_40 z_67 v_33 p1 p2 p3 p4 hSh hPod_41 hm_h0 hk_h0 hId_41 (by refine ⟨?_, ?_⟩ <;> omega) (by refine ⟨?_, ?_⟩ <;> omega) (by refine ⟨?_, ?_⟩ <;> omega) hz_p1) ok_X9_step (mW884 : Cond.methodLink RX9 294 yX9_step ∈ wsT) ⟨Nat.le_of_ble_eq_true rfl, Nat.le_of_ble_eq_true rfl⟩ hP hD hS hA hK hN hm_h0 hk_h0 (by decide) rfl rfl rfl hl.1 rfl (Nat.le_of_ble_eq_true rfl) ⟨Nat.le_of_ble_eq_true rfl, Nat.le_of_ble_eq_true rfl⟩ dX9_walk_412 (fun d_81 H locs hr_80 hP hD hS => ?_)
                obtain ⟨hgad_81, hpad_81, hfad_81, hxd_81⟩ := hr_80
                have hfd_81 : yK [54, 55, 57, 62, 63, 64, 65] d d_81 h0 := yK.tr hfd_41 hfad_81 (by decide)
                have hE0d_81 : (d_81.1 h0 0).toInt = (d_41.1 h0 0).toInt := congrArg Int32.toInt (hfad_81 0 (by decide))
                have hE1d_81 : (d_81.1 h0 1).toInt = (d_41.1 h0 1).toInt := congrArg Int32.toInt (hfad_81 1 (by decide))
                have hE2d_81 : (d_81.1 h0 2).toInt = (d_41.1 h0 2).toInt := congrArg Int32.toInt (hfad_81 2 (by decide))
                have hE3d_81 : (d_81.1 h0 3).toInt = (d_41.1 h0 3).toInt := congrArg Int32.toInt (hfad_81 3 (by decide))
                have hId_81 : yMI S d_81 h0 := hxd_81
                have hL0d_81 : yAg S [9, 77, 78] d_22 d_81 := yAg.tr hL0d_41 hgad_81 (by first | decide | exact fun _ h => h)
                have hK0d_81 : yK [54, 55, 57, 63, 64, 65] d_22 d_81 h0 := yK.tr hK0d_41 hfad_81 (by decide)
                have hL1d_81 : yAg S [9, 77, 78] d_34 d_81 := yAg.tr hLJd_41 hgad_81 (by first | decide | exact fun _ h => h)
                have hK1d_81 : yK [54, 55, 57, 63, 64, 65] d_34 d_81 h0 := yK.tr hKJd_41 hfad_81 (by decide)
                have hgd_81 : yAg S [9, 74, 75, 77, 78] d d_81 := yAg.tr hgd_41 hgad_81 (by first | decide | exact fun _ h => h)
                have hPod_81 : yPo S d_81 := hpad_81 hPod_41
                refine lv_iinc (v := v_40 + 1) (lv' := [(14, .int (v_40 + 1)), (15, .long z_51), (12, .long v_33), (10, .long v_20), (0, .ref h0), (2, .int p1), (3, .int p2), (4, .int p3), (5, .int p4)]) hx hb dX9_walk_415 hl (k := 1) rfl rfl (by decide) rfl (fun ls hl => ?_)
                refine lv_goto (tgt := 349) hx hb dX9_walk_418 (by decide) ?_
                have hCC_83 := yMI.c hId_81
                have T_84 : ((v_40 + 1) : Int32).toInt = (v_40 : Int32).toInt + 1 := tadd rfl (rfl : (v_40 : Int32).toInt = (v_40 : Int32).toInt) (by decide +kernel : (1 : Int32).toInt = 1) (by omega) (by omega)
                exact hnext_42 (v_40 + 1, d_81) _ _ ls (xup c_44) ⟨hP, hD, hS, hgd_81, hPod_81, hfd_81, hId_81, hL1d_81, hK1d_81, hL0d_81, hK0d_81, (show (0 ≤ (((v_40 + 1)) : Int32).toInt) from by have hq0_ : (0 : Int32).toInt = 0 := (by decide +kernel); omega), lv_sub hl [0, 2, 3, 4, 5, 6, 7, 8] rfl⟩
      · refine lv_aload_n hx hb dX9_walk_326 rfl (lv_at hl 4 rfl) ?_
        refine lv_lload hx hb dX9_walk_327 (lv_at hl 2 rfl) ?_
        refine lv_lconst (v := 1) hx hb dX9_walk_329 (by decide) ?_
        refine lv_lsub hx hb dX9_walk_330 ?_
        refine lv_topl (fun z_85 ez_85 => ?_)
        refine yputJ (ci := 9) (k := 61) (C := RX9) (T := TX9) (N := 67) C0 hK hP hD hS hm_h0 hk_h0 (by decide) rfl inlX9 tyX9 tyX9_ok nmX9 (by decide) mW876 (fun _ h9 => h9) rfl (by decide +kernel) (Nat.le_of_ble_eq_true rfl) ysj_9_61 dX9_walk_331 (fun H locs hP hD hS => ?_)
        obtain ⟨d_86, ed_86⟩ : ∃ z : yD, z = yj d_22 h0 61 z_85 := ⟨_, rfl⟩
        rw [← ed_86] at hP hD
        have hgd_86 : yAg S [9, 74, 75, 77, 78] d d_86 := by rw [ed_86]; exact yAg.j hgd_22 (by rw [hk_h0]; decide)
        have hPod_86 : yPo S d_86 := by rw [ed_86]; exact hPod_22
        have hfd_86 : yK [54, 55, 57, 62, 63, 64, 65] d d_86 h0 := by rw [ed_86]; exact yK.j hfd_22
        have hId_86 : yMI S d_86 h0 := by rw [ed_86]; exact yMI.j hId_22
        have hE0d_86 : (d_86.1 h0 0).toInt = (d_22.1 h0 0).toInt := congrArg Int32.toInt ((show yK [] d_22 d_86 h0 from by rw [ed_86]; exact yK.j yK.rf) 0 (by decide))
        have hE1d_86 : (d_86.1 h0 1).toInt = (d_22.1 h0 1).toInt := congrArg Int32.toInt ((show yK [] d_22 d_86 h0 from by rw [ed_86]; exact yK.j yK.rf) 1 (by decide))
        have hE2d_86 : (d_86.1 h0 2).toInt = (d_22.1 h0 2).toInt := congrArg Int32.toInt ((show yK [] d_22 d_86 h0 from by rw [ed_86]; exact yK.j yK.rf) 2 (by decide))
        have hE3d_86 : (d_86.1 h0 3).toInt = (d_22.1 h0 3).toInt := congrArg Int32.toInt ((show yK [] d_22 d_86 h0 from by rw [ed_86]; exact yK.j yK.rf) 3 (by decide))
        have hE63d_86 : (d_86.1 h0 63).toInt = (d_22.1 h0 63).toInt := congrArg Int32.toInt ((show yK [] d_22 d_86 h0 from by rw [ed_86]; exact yK.j yK.rf) 63 (by decide))
        refine lv_lload hx hb dX9_walk_334 (lv_at hl 2 rfl) ?_
        refine lv_lstore (lv' := [(12, .long v_19), (10, .long v_20), (8, .long v_19), (6, .long z_7), (0, .ref h0), (2, .int p1), (3, .int p2), (4, .int p3), (5, .int p4)]) hx hb dX9_walk_336 hl (by decide) rfl (fun ls hl => ?_)
        have hCC_87 := yMI.c hId_86
        have F_88 := fle (by decide +kernel : (8 : Int32).toInt = 8) (rfl : (v_21 : Int32).toInt = (v_21 : Int32).toInt) c_25
        refine yloop (σ := Int64 × yD) (fun x => ((v_20 : Int64).toInt - (x.1 : Int64).toInt).toNat) 338 (fun x H locs ls => va_P G.1 xcl (yW G S x.2) H ∧ va_D A (yW G S x.2) ∧ va_S A s.heap H locs ∧ yAg S [9, 74, 75, 77, 78] d x.2 ∧ yPo S x.2 ∧ yK [54, 55, 57, 62, 63, 64, 65] d x.2 h0 ∧ yMI S x.2 h0 ∧ yAg S [9, 77, 78] d_86 x.2 ∧ yK [54, 55, 57, 63, 64, 65] d_86 x.2 h0 ∧ (True) ∧ lv_has ls 17 [(12, .long x.1), (10, .long v_20), (0, .ref h0), (2, .int p1), (3, .int p2), (4, .int p3), (5, .int p4)]) (fun x H locs ls hI hnext_91 => ?_) (v_19, d_86) ⟨hP, hD, hS, hgd_86, hPod_86, hfd_86, hId_86, yAg.rf, yK.rf, trivial, lv_sub hl [0, 1, 4, 5, 6, 7, 8] rfl⟩
        obtain ⟨v_89, d_90⟩ := x
        obtain ⟨hP, hD, hS, hgd_90, hPod_90, hfd_90, hId_90, hLJd_90, hKJd_90, hex_92, hl⟩ := hI
        have hId_90 : yMI S d_90 h0 := hId_90
        have hex_92 : (True) := hex_92
        have hl : lv_has ls 17 [(12, .long v_89), (10, .long v_20), (0, .ref h0), (2, .int p1), (3, .int p2), (4, .int p3), (5, .int p4)] := hl
        have hLJd_90 : yAg S [9, 77, 78] d_86 d_90 := hLJd_90
        have hKJd_90 : yK [54, 55, 57, 63, 64, 65] d_86 d_90 h0 := hKJd_90
        have hE0d_90 : (d_90.1 h0 0).toInt = (d_86.1 h0 0).toInt := congrArg Int32.toInt (hKJd_90 0 (by decide))
        have hE1d_90 : (d_90.1 h0 1).toInt = (d_86.1 h0 1).toInt := congrArg Int32.toInt (hKJd_90 1 (by decide))
        have hE2d_90 : (d_90.1 h0 2).toInt = (d_86.1 h0 2).toInt := congrArg Int32.toInt (hKJd_90 2 (by decide))
        have hE3d_90 : (d_90.1 h0 3).toInt = (d_86.1 h0 3).toInt := congrArg Int32.toInt (hKJd_90 3 (by decide))
        refine lv_lload hx hb dX9_walk_338 (lv_at hl 0 rfl) ?_
        refine lv_lload hx hb dX9_walk_340 (lv_at hl 1 rfl) ?_
        refine W.lcmp hx hb dX9_walk_342 ?_
        refine lv_topi (fun z_93 ez_93 => ?_)
        refine lv_if_ge (tgt := 430) hx hb dX9_walk_343 (by decide) (fun c_94 => ?_) (fun c_94 => ?_)
        · exact W.vret hx hb hr (fun t ht hW => ⟨⟨d_90, rfl, ⟨hgd_90, (fun _ => hPod_90), hfd_90, hId_90⟩, by rw [ht]; exact hP, hD⟩, hS.F ht⟩) hS.2.2 dX9_walk_430
        · refine lv_iconst (v := 0) hx hb dX9_walk_346 (by decide) ?_
          refine lv_istore (lv' := [(14, .int 0), (12, .long v_89), (10, .long v_20), (0, .ref h0), (2, .int p1), (3, .int p2), (4, .int p3), (5, .int p4)]) hx hb dX9_walk_347 hl (by decide) rfl (fun ls hl => ?_)
          have hCC_95 := yMI.c hId_90
          refine yloop (σ := Int32 × yD) (fun x => (2147483647 - (x.1 : Int32).toInt).toNat) 349 (fun x H locs ls => va_P G.1 xcl (yW G S x.2) H ∧ va_D A (yW G S x.2) ∧ va_S A s.heap H locs ∧ yAg S [9, 74, 75, 77, 78] d x.2 ∧ yPo S x.2 ∧ yK [54, 55, 57, 62, 63, 64, 65] d x.2 h0 ∧ yMI S x.2 h0 ∧ yAg S [9, 77, 78] d_90 x.2 ∧ yK [54, 55, 57, 63, 64, 65] d_90 x.2 h0 ∧ yAg S [9, 77, 78] d_86 x.2 ∧ yK [54, 55, 57, 63, 64, 65] d_86 x.2 h0 ∧ (0 ≤ ((x.1) : Int32).toInt) ∧ lv_has ls 17 [(14, .int x.1), (12, .long v_89), (10, .long v_20), (0, .ref h0), (2, .int p1), (3, .int p2), (4, .int p3), (5, .int p4)]) (fun x H locs ls hI hnext_98 => ?_) (0, d_90) ⟨hP, hD, hS, hgd_90, hPod_90, hfd_90, hId_90, yAg.rf, yK.rf, hLJd_90, hKJd_90, (show (0 ≤ ((0) : Int32).toInt) from by have hl0_ : (0 : Int32).toInt = 0 := (by decide +kernel); have hq0_ : (0 : Int32).toInt = 0 := (by decide +kernel); omega), lv_sub hl [0, 1, 2, 3, 4, 5, 6, 7] rfl⟩
          obtain ⟨v_96, d_97⟩ := x
          obtain ⟨hP, hD, hS, hgd_97, hPod_97, hfd_97, hId_97, hLJd_97, hKJd_97, hL0d_97, hK0d_97, hex_99, hl⟩ := hI
          have hId_97 : yMI S d_97 h0 := hId_97
          have hex_99 : (0 ≤ ((v_96) : Int32).toInt) := hex_99
          have hl : lv_has ls 17 [(14, .int v_96), (12, .long v_89), (10, .long v_20), (0, .ref h0), (2, .int p1), (3, .int p2), (4, .int p3), (5, .int p4)] := hl
          have hLJd_97 : yAg S [9, 77, 78] d_90 d_97 := hLJd_97
          have hKJd_97 : yK [54, 55, 57, 63, 64, 65] d_90 d_97 h0 := hKJd_97
          have hE0d_97 : (d_97.1 h0 0).toInt = (d_90.1 h0 0).toInt := congrArg Int32.toInt (hKJd_97 0 (by decide))
          have hE1d_97 : (d_97.1 h0 1).toInt = (d_90.1 h0 1).toInt := congrArg Int32.toInt (hKJd_97 1 (by decide))
          have hE2d_97 : (d_97.1 h0 2).toInt = (d_90.1 h0 2).toInt := congrArg Int32.toInt (hKJd_97 2 (by decide))
          have hE3d_97 : (d_97.1 h0 3).toInt = (d_90.1 h0 3).toInt := congrArg Int32.toInt (hKJd_97 3 (by decide))
          refine lv_iload hx hb dX9_walk_349 (lv_at hl 0 rfl) ?_
          refine lv_bipush (v := 8) hx hb dX9_walk_351 (by decide) ?_
          refine lv_icmp_ge (tgt := 421) hx hb dX9_walk_353 (by decide) (fun c_100 => ?_) (fun c_100 => ?_)
          · refine lv_lload hx hb dX9_walk_421 (lv_at hl 1 rfl) ?_
            refine lv_lconst (v := 1) hx hb dX9_walk_423 (by decide) ?_
            refine lv_ladd hx hb dX9_walk_424 ?_
            refine lv_topl (fun z_101 ez_101 => ?_)
            refine lv_lstore (lv' := [(12, .long z_101), (14, .int v_96), (10, .long v_20), (0, .ref h0), (2, .int p1), (3, .int p2), (4, .int p3), (5, .int p4)]) hx hb dX9_walk_425 hl (by decide) rfl (fun ls hl => ?_)
            refine lv_goto (tgt := 338) hx hb dX9_walk_427 (by decide) ?_
            have hCC_102 := yMI.c hId_97
            have F_103 := fle (by decide +kernel : (8 : Int32).toInt = 8) (rfl : (v_96 : Int32).toInt = (v_96 : Int32).toInt) c_100
            exact hnext_91 (z_101, d_97) _ _ ls ((xupj ez_101 (jnge ez_93 c_94))) ⟨hP, hD, hS, hgd_97, hPod_97, hfd_97, hId_97, hL0d_97, hK0d_97, trivial, lv_sub hl [0, 2, 3, 4, 5, 6, 7] rfl⟩
          · refine lv_lload hx hb dX9_walk_356 (lv_at hl 1 rfl) ?_
            refine lv_aload_n hx hb dX9_walk_358 rfl (lv_at hl 3 rfl) ?_
            refine lv_iload hx hb dX9_walk_359 (lv_at hl 0 rfl) ?_
            refine lv_bipush (v := 7) hx hb dX9_walk_361 (by decide) ?_
            have F_104 := fnle (by decide +kernel : (8 : Int32).toInt = 8) (rfl : (v_96 : Int32).toInt = (v_96 : Int32).toInt) c_100
            refine yVri (As := [.int v_96, .int 7]) (rest := [.long v_89]) C0 (g_X9_of l G S d_97 h0 v_96 7 hSh hm_h0 hk_h0 (by refine ⟨?_, ?_⟩ <;> omega) (by decide +kernel)) ok_X9_of (mW425 : Cond.methodLink RX9 161 yX9_of ∈ wsT) ⟨Nat.le_of_ble_eq_true rfl, Nat.le_of_ble_eq_true rfl⟩ hP hD hK hN hm_h0 hk_h0 (by decide) rfl rfl rfl hl.1 rfl (Nat.le_of_ble_eq_true rfl) ⟨Nat.le_of_ble_eq_true rfl, Nat.le_of_ble_eq_true rfl⟩ dX9_walk_363 (fun r_105 hr_105 => ?_)
            have hOr_105 : (r_105 : Int32).toInt = yOf S d_97 h0 (v_96 : Int32).toInt.toNat 7 := by rw [hr_105, show (7 : Int32).toInt.toNat = 7 by decide +kernel]; rfl
            refine lv_i2l hx hb dX9_walk_366 rfl ?_
            refine lv_topl (fun z_106 ez_106 => ?_)
            refine lv_lsub hx hb dX9_walk_367 ?_
            refine lv_topl (fun z_107 ez_107 => ?_)
            refine lv_lstore (lv' := [(15, .long z_107), (14, .int v_96), (12, .long v_89), (10, .long v_20), (0, .ref h0), (2, .int p1), (3, .int p2), (4, .int p3), (5, .int p4)]) hx hb dX9_walk_368 hl (by decide) rfl (fun ls hl => ?_)
            refine lv_lload hx hb dX9_walk_370 (lv_at hl 0 rfl) ?_
            refine lv_aload_n hx hb dX9_walk_372 rfl (lv_at hl 4 rfl) ?_
            refine yget (ci := 9) (k := 44) (v := .ref (S.2.2.1 h0 44)) (C := RX9) (T := TX9) (N := 67) C0 hK hP hm_h0 hk_h0 (by decide) rfl inlX9 (by decide) mW149 (fun _ h9 => h9) rfl dX9_walk_373 ?_
            obtain ⟨hmy_108, hky_108⟩ := ySh.f9_44 hSh _ hm_h0 hk_h0
            refine lv_iload hx hb dX9_walk_376 (lv_at hl 1 rfl) ?_
            have hCC_109 := yMI.c hId_97
            refine yald C0 hK hP hmy_108 hky_108 (by decide) rfl 0 rfl (xinT 8 rfl (by omega) (by omega)) dX9_walk_378 ?_
            refine lv_topi (fun z_110 ez_110 => ?_)
            have hvz_110 : (-1) ≤ (z_110 : Int32).toInt ∧ (z_110 : Int32).toInt ≤ 229599 := by rw [ez_110]; exact yMI.fr_ hId_97 _
            refine lv_i2l hx hb dX9_walk_379 rfl ?_
            refine lv_topl (fun z_111 ez_111 => ?_)
            refine W.lcmp hx hb dX9_walk_380 ?_
            refine lv_topi (fun z_112 ez_112 => ?_)
            refine lv_if_lt (tgt := 415) hx hb dX9_walk_381 (by decide) (fun c_113 => ?_) (fun c_113 => ?_)
            · refine lv_iinc (v := v_96 + 1) (lv' := [(14, .int (v_96 + 1)), (15, .long z_107), (12, .long v_89), (10, .long v_20), (0, .ref h0), (2, .int p1), (3, .int p2), (4, .int p3), (5, .int p4)]) hx hb dX9_walk_415 hl (k := 1) rfl rfl (by decide) rfl (fun ls hl => ?_)
              refine lv_goto (tgt := 349) hx hb dX9_walk_418 (by decide) ?_
              have T_115 : ((v_96 + 1) : Int32).toInt = (v_96 : Int32).toInt + 1 := tadd rfl (rfl : (v_96 : Int32).toInt = (v_96 : Int32).toInt) (by decide +kernel : (1 : Int32).toInt = 1) (by omega) (by omega)
              exact hnext_98 (v_96 + 1, d_97) _ _ ls (xup c_100) ⟨hP, hD, hS, hgd_97, hPod_97, hfd_97, hId_97, hLJd_97, hKJd_97, hL0d_97, hK0d_97, (show (0 ≤ (((v_96 + 1)) : Int32).toInt) from by have hq0_ : (0 : Int32).toInt = 0 := (by decide +kernel); omega), lv_sub hl [0, 2, 3, 4, 5, 6, 7, 8] rfl⟩
            · refine lv_lload hx hb dX9_walk_384 (lv_at hl 0 rfl) ?_
              refine lv_aload_n hx hb dX9_walk_386 rfl (lv_at hl 4 rfl) ?_
              refine yget (ci := 9) (k := 45) (v := .ref (S.2.2.1 h0 45)) (C := RX9) (T := TX9) (N := 67) C0 hK hP hm_h0 hk_h0 (by decide) rfl inlX9 (by decide) mW150 (fun _ h9 => h9) rfl dX9_walk_387 ?_
              obtain ⟨hmy_116, hky_116⟩ := ySh.f9_45 hSh _ hm_h0 hk_h0
              refine lv_iload hx hb dX9_walk_390 (lv_at hl 1 rfl) ?_
              refine yald C0 hK hP hmy_116 hky_116 (by decide) rfl 0 rfl (xinT 8 rfl (by omega) (by omega)) dX9_walk_392 ?_
              refine lv_topi (fun z_117 ez_117 => ?_)
              have hvz_117 : 0 ≤ (z_117 : Int32).toInt ∧ (z_117 : Int32).toInt ≤ 129600 := by rw [ez_117]; exact yMI.to_ hId_97 _
              refine lv_i2l hx hb dX9_walk_393 rfl ?_
              refine lv_topl (fun z_118 ez_118 => ?_)
              refine W.lcmp hx hb dX9_walk_394 ?_
              refine lv_topi (fun z_119 ez_119 => ?_)
              refine lv_if_ge (tgt := 415) hx hb dX9_walk_395 (by decide) (fun c_120 => ?_) (fun c_120 => ?_)
              · refine lv_iinc (v := v_96 + 1) (lv' := [(14, .int (v_96 + 1)), (15, .long z_107), (12, .long v_89), (10, .long v_20), (0, .ref h0), (2, .int p1), (3, .int p2), (4, .int p3), (5, .int p4)]) hx hb dX9_walk_415 hl (k := 1) rfl rfl (by decide) rfl (fun ls hl => ?_)
                refine lv_goto (tgt := 349) hx hb dX9_walk_418 (by decide) ?_
                have T_122 : ((v_96 + 1) : Int32).toInt = (v_96 : Int32).toInt + 1 := tadd rfl (rfl : (v_96 : Int32).toInt = (v_96 : Int32).toInt) (by decide +kernel : (1 : Int32).toInt = 1) (by omega) (by omega)
                exact hnext_98 (v_96 + 1, d_97) _ _ ls (xup c_100) ⟨hP, hD, hS, hgd_97, hPod_97, hfd_97, hId_97, hLJd_97, hKJd_97, hL0d_97, hK0d_97, (show (0 ≤ (((v_96 + 1)) : Int32).toInt) from by have hq0_ : (0 : Int32).toInt = 0 := (by decide +kernel); omega), lv_sub hl [0, 2, 3, 4, 5, 6, 7, 8] rfl⟩
              · refine lv_aload_n hx hb dX9_walk_398 rfl (lv_at hl 4 rfl) ?_
                refine lv_iload hx hb dX9_walk_399 (lv_at hl 1 rfl) ?_
                refine lv_lload hx hb dX9_walk_401 (lv_at hl 0 rfl) ?_
                refine lv_l2i hx hb dX9_walk_403 rfl ?_
                refine lv_topi (fun z_123 ez_123 => ?_)
                refine lv_lload hx hb dX9_walk_404 (lv_at hl 2 rfl) ?_
                refine lv_iload_n hx hb dX9_walk_406 rfl (lv_at hl 5 rfl) ?_
                refine lv_iload_n hx hb dX9_walk_407 rfl (lv_at hl 6 rfl) ?_
                refine lv_iload hx hb dX9_walk_408 (lv_at hl 7 rfl) ?_
                refine lv_iload hx hb dX9_walk_410 (lv_at hl 8 rfl) ?_
                have T_125 : (0 : Int64).toInt = 0 := by decide +kernel
                have F_126 := jge ez_26 c_27
                have F_128 := jeq ez_29 c_30
                have F_129 := jnge ez_93 c_94
                have T_131 : (z_111 : Int64).toInt = (z_110 : Int32).toInt := by rw [ez_111, Int32.toInt_toInt64]
                have F_132 := jnlt ez_112 c_113
                have T_134 : (z_118 : Int64).toInt = (z_117 : Int32).toInt := by rw [ez_118, Int32.toInt_toInt64]
                have F_135 := jnge ez_119 c_120
                have T_124 : (z_123 : Int32).toInt = (z_107 : Int64).toInt := by rw [ez_123]; exact xtrunc (by omega) (by omega)
                refine yVwv (As := [.int v_96, .int z_123, .long v_89, .int p1, .int p2, .int p3, .int p4]) (rest := []) C0 (g_X9_step l G S d_97 h0 v_96 z_123 v_89 p1 p2 p3 p4 hSh hPod_97 hm_h0 hk_h0 hId_97 (by refine ⟨?_, ?_⟩ <;> omega) (by refine ⟨?_, ?_⟩ <;> omega) (by refine ⟨?_, ?_⟩ <;> omega) hz_p1) ok_X9_step (mW884 : Cond.methodLink RX9 294 yX9_step ∈ wsT) ⟨Nat.le_of_ble_eq_true rfl, Nat.le_of_ble_eq_true rfl⟩ hP hD hS hA hK hN hm_h0 hk_h0 (by decide) rfl rfl rfl hl.1 rfl (Nat.le_of_ble_eq_true rfl) ⟨Nat.le_of_ble_eq_true rfl, Nat.le_of_ble_eq_true rfl⟩ dX9_walk_412 (fun d_137 H locs hr_136 hP hD hS => ?_)
                obtain ⟨hgad_137, hpad_137, hfad_137, hxd_137⟩ := hr_136
                have hfd_137 : yK [54, 55, 57, 62, 63, 64, 65] d d_137 h0 := yK.tr hfd_97 hfad_137 (by decide)
                have hE0d_137 : (d_137.1 h0 0).toInt = (d_97.1 h0 0).toInt := congrArg Int32.toInt (hfad_137 0 (by decide))
                have hE1d_137 : (d_137.1 h0 1).toInt = (d_97.1 h0 1).toInt := congrArg Int32.toInt (hfad_137 1 (by decide))
                have hE2d_137 : (d_137.1 h0 2).toInt = (d_97.1 h0 2).toInt := congrArg Int32.toInt (hfad_137 2 (by decide))
                have hE3d_137 : (d_137.1 h0 3).toInt = (d_97.1 h0 3).toInt := congrArg Int32.toInt (hfad_137 3 (by decide))
                have hId_137 : yMI S d_137 h0 := hxd_137
                have hL0d_137 : yAg S [9, 77, 78] d_86 d_137 := yAg.tr hL0d_97 hgad_137 (by first | decide | exact fun _ h => h)
                have hK0d_137 : yK [54, 55, 57, 63, 64, 65] d_86 d_137 h0 := yK.tr hK0d_97 hfad_137 (by decide)
                have hL1d_137 : yAg S [9, 77, 78] d_90 d_137 := yAg.tr hLJd_97 hgad_137 (by first | decide | exact fun _ h => h)
                have hK1d_137 : yK [54, 55, 57, 63, 64, 65] d_90 d_137 h0 := yK.tr hKJd_97 hfad_137 (by decide)
                have hgd_137 : yAg S [9, 74, 75, 77, 78] d d_137 := yAg.tr hgd_97 hgad_137 (by first | decide | exact fun _ h => h)
                have hPod_137 : yPo S d_137 := hpad_137 hPod_97
                refine lv_iinc (v := v_96 + 1) (lv' := [(14, .int (v_96 + 1)), (15, .long z_107), (12, .long v_89), (10, .long v_20), (0, .ref h0), (2, .int p1), (3, .int p2), (4, .int p3), (5, .int p4)]) hx hb dX9_walk_415 hl (k := 1) rfl rfl (by decide) rfl (fun ls hl => ?_)
                refine lv_goto (tgt := 349) hx hb dX9_walk_418 (by decide) ?_
                have hCC_139 := yMI.c hId_137
                have T_140 : ((v_96 + 1) : Int32).toInt = (v_96 : Int32).toInt + 1 := tadd rfl (rfl : (v_96 : Int32).toInt = (v_96 : Int32).toInt) (by decide +kernel : (1 : Int32).toInt = 1) (by omega) (by omega)
                exact hnext_98 (v_96 + 1, d_137) _ _ ls (xup c_100) ⟨hP, hD, hS, hgd_137, hPod_137, hfd_137, hId_137, hL1d_137, hK1d_137, hL0d_137, hK0d_137, (show (0 ≤ (((v_96 + 1)) : Int32).toInt) from by have hq0_ : (0 : Int32).toInt = 0 := (by decide +kernel); omega), lv_sub hl [0, 2, 3, 4, 5, 6, 7, 8] rfl⟩
    · exact W.vret hx hb hr (fun t ht hW => ⟨⟨d_22, rfl, ⟨hgd_22, (fun _ => hPod_22), hfd_22, hId_22⟩, by rw [ht]; exact hP, hD⟩, hS.F ht⟩) hS.2.2 dX9_walk_316
  · refine lv_aload_n hx hb dX9_walk_87 rfl (lv_at hl 4 rfl) ?_
    refine yget (ci := 9) (k := 44) (v := .ref (S.2.2.1 h0 44)) (C := RX9) (T := TX9) (N := 67) C0 hK hP hm_h0 hk_h0 (by decide) rfl inlX9 (by decide) mW149 (fun _ h9 => h9) rfl dX9_walk_88 ?_
    obtain ⟨hmy_141, hky_141⟩ := ySh.f9_44 hSh _ hm_h0 hk_h0
    refine lv_iload hx hb dX9_walk_91 (lv_at hl 0 rfl) ?_
    refine lv_iconst (v := 0) hx hb dX9_walk_93 (by decide) ?_
    have hCC_142 := yMI.c hId_22
    have F_143 := fnle (by decide +kernel : (8 : Int32).toInt = 8) (rfl : (v_21 : Int32).toInt = (v_21 : Int32).toInt) c_25
    refine yast C0 hK hP hD hS hmy_141 hky_141 (by decide) rfl 0 rfl (xinT 8 rfl (by omega) (by omega)) dX9_walk_94 (fun H locs hP hD hS => ?_)
    obtain ⟨d_144, ed_144⟩ : ∃ z : yD, z = ycs d_22 (S.2.2.1 h0 44) (upd (d_22.2.2.2.1 (S.2.2.1 h0 44)) (v_21 : Int32).toNatClampNeg 0) := ⟨_, rfl⟩
    rw [← ed_144] at hP hD
    have hgd_144 : yAg S [9, 74, 75, 77, 78] d d_144 := by rw [ed_144]; exact yAg.cs hgd_22 (by rw [hky_141]; decide)
    have hPod_144 : yPo S d_144 := by rw [ed_144]; exact hPod_22
    have hfd_144 : yK [54, 55, 57, 62, 63, 64, 65] d d_144 h0 := yK.ag hfd_22 (show yAg S [74] d_22 d_144 from by rw [ed_144]; exact yAg.cs yAg.rf (by rw [hky_141]; decide)) (by rw [hk_h0]; decide)
    have hL0d_144 : yAg S [9, 74, 75, 77, 78] d_17 d_144 := by rw [ed_144]; exact yAg.cs hLJd_22 (by rw [hky_141]; decide)
    have hK0d_144 : yK [62] d_17 d_144 h0 := yK.ag hKJd_22 (show yAg S [74] d_22 d_144 from by rw [ed_144]; exact yAg.cs yAg.rf (by rw [hky_141]; decide)) (by rw [hk_h0]; decide)
    have hId_144 : yMI S d_144 h0 := by rw [ed_144]; exact yMI.w44 hId_22 hSh hm_h0 hk_h0 (yBr.up (yMI.fr_ hId_22) (by decide +kernel))
    have hE0d_144 : (d_144.1 h0 0).toInt = (d_22.1 h0 0).toInt := congrArg Int32.toInt ((yK.ag (F := []) yK.rf (show yAg S [74] d_22 d_144 from by rw [ed_144]; exact yAg.cs yAg.rf (by rw [hky_141]; decide)) (by rw [hk_h0]; decide)) 0 (by decide))
    have hE1d_144 : (d_144.1 h0 1).toInt = (d_22.1 h0 1).toInt := congrArg Int32.toInt ((yK.ag (F := []) yK.rf (show yAg S [74] d_22 d_144 from by rw [ed_144]; exact yAg.cs yAg.rf (by rw [hky_141]; decide)) (by rw [hk_h0]; decide)) 1 (by decide))
    have hE2d_144 : (d_144.1 h0 2).toInt = (d_22.1 h0 2).toInt := congrArg Int32.toInt ((yK.ag (F := []) yK.rf (show yAg S [74] d_22 d_144 from by rw [ed_144]; exact yAg.cs yAg.rf (by rw [hky_141]; decide)) (by rw [hk_h0]; decide)) 2 (by decide))
    have hE3d_144 : (d_144.1 h0 3).toInt = (d_22.1 h0 3).toInt := congrArg Int32.toInt ((yK.ag (F := []) yK.rf (show yAg S [74] d_22 d_144 from by rw [ed_144]; exact yAg.cs yAg.rf (by rw [hky_141]; decide)) (by rw [hk_h0]; decide)) 3 (by decide))
    have hE63d_144 : (d_144.1 h0 63).toInt = (d_22.1 h0 63).toInt := congrArg Int32.toInt ((yK.ag (F := []) yK.rf (show yAg S [74] d_22 d_144 from by rw [ed_144]; exact yAg.cs yAg.rf (by rw [hky_141]; decide)) (by rw [hk_h0]; decide)) 63 (by decide))
    refine lv_aload_n hx hb dX9_walk_95 rfl (lv_at hl 4 rfl) ?_
    refine yget (ci := 9) (k := 45) (v := .ref (S.2.2.1 h0 45)) (C := RX9) (T := TX9) (N := 67) C0 hK hP hm_h0 hk_h0 (by decide) rfl inlX9 (by decide) mW150 (fun _ h9 => h9) rfl dX9_walk_96 ?_
    obtain ⟨hmy_145, hky_145⟩ := ySh.f9_45 hSh _ hm_h0 hk_h0
    refine lv_iload hx hb dX9_walk_99 (lv_at hl 0 rfl) ?_
    refine lv_iconst (v := 0) hx hb dX9_walk_101 (by decide) ?_
    have hCC_146 := yMI.c hId_144
    refine yast C0 hK hP hD hS hmy_145 hky_145 (by decide) rfl 0 rfl (xinT 8 rfl (by omega) (by omega)) dX9_walk_102 (fun H locs hP hD hS => ?_)
    obtain ⟨d_147, ed_147⟩ : ∃ z : yD, z = ycs d_144 (S.2.2.1 h0 45) (upd (d_144.2.2.2.1 (S.2.2.1 h0 45)) (v_21 : Int32).toNatClampNeg 0) := ⟨_, rfl⟩
    rw [← ed_147] at hP hD
    have hgd_147 : yAg S [9, 74, 75, 77, 78] d d_147 := by rw [ed_147]; exact yAg.cs hgd_144 (by rw [hky_145]; decide)
    have hPod_147 : yPo S d_147 := by rw [ed_147]; exact hPod_144
    have hfd_147 : yK [54, 55, 57, 62, 63, 64, 65] d d_147 h0 := yK.ag hfd_144 (show yAg S [75] d_144 d_147 from by rw [ed_147]; exact yAg.cs yAg.rf (by rw [hky_145]; decide)) (by rw [hk_h0]; decide)
    have hL0d_147 : yAg S [9, 74, 75, 77, 78] d_17 d_147 := by rw [ed_147]; exact yAg.cs hL0d_144 (by rw [hky_145]; decide)
    have hK0d_147 : yK [62] d_17 d_147 h0 := yK.ag hK0d_144 (show yAg S [75] d_144 d_147 from by rw [ed_147]; exact yAg.cs yAg.rf (by rw [hky_145]; decide)) (by rw [hk_h0]; decide)
    have hId_147 : yMI S d_147 h0 := by rw [ed_147]; exact yMI.w45 hId_144 hSh hm_h0 hk_h0 (yBr.up (yMI.to_ hId_144) (by decide +kernel))
    have hE0d_147 : (d_147.1 h0 0).toInt = (d_144.1 h0 0).toInt := congrArg Int32.toInt ((yK.ag (F := []) yK.rf (show yAg S [75] d_144 d_147 from by rw [ed_147]; exact yAg.cs yAg.rf (by rw [hky_145]; decide)) (by rw [hk_h0]; decide)) 0 (by decide))
    have hE1d_147 : (d_147.1 h0 1).toInt = (d_144.1 h0 1).toInt := congrArg Int32.toInt ((yK.ag (F := []) yK.rf (show yAg S [75] d_144 d_147 from by rw [ed_147]; exact yAg.cs yAg.rf (by rw [hky_145]; decide)) (by rw [hk_h0]; decide)) 1 (by decide))
    have hE2d_147 : (d_147.1 h0 2).toInt = (d_144.1 h0 2).toInt := congrArg Int32.toInt ((yK.ag (F := []) yK.rf (show yAg S [75] d_144 d_147 from by rw [ed_147]; exact yAg.cs yAg.rf (by rw [hky_145]; decide)) (by rw [hk_h0]; decide)) 2 (by decide))
    have hE3d_147 : (d_147.1 h0 3).toInt = (d_144.1 h0 3).toInt := congrArg Int32.toInt ((yK.ag (F := []) yK.rf (show yAg S [75] d_144 d_147 from by rw [ed_147]; exact yAg.cs yAg.rf (by rw [hky_145]; decide)) (by rw [hk_h0]; decide)) 3 (by decide))
    have hE63d_147 : (d_147.1 h0 63).toInt = (d_144.1 h0 63).toInt := congrArg Int32.toInt ((yK.ag (F := []) yK.rf (show yAg S [75] d_144 d_147 from by rw [ed_147]; exact yAg.cs yAg.rf (by rw [hky_145]; decide)) (by rw [hk_h0]; decide)) 63 (by decide))
    refine lv_lload hx hb dX9_walk_103 (lv_at hl 3 rfl) ?_
    refine lv_iload hx hb dX9_walk_105 (lv_at hl 0 rfl) ?_
    refine lv_lshr hx hb dX9_walk_107 rfl ?_
    refine lv_topl (fun z_148 ez_148 => ?_)
    refine lv_lconst (v := 1) hx hb dX9_walk_108 (by decide) ?_
    refine lv_land hx hb dX9_walk_109 ?_
    refine lv_topl (fun z_149 ez_149 => ?_)
    refine lv_lconst (v := 0) hx hb dX9_walk_110 (by decide) ?_
    refine W.lcmp hx hb dX9_walk_111 ?_
    refine lv_topi (fun z_150 ez_150 => ?_)
    refine lv_if_eq (tgt := 303) hx hb dX9_walk_112 (by decide) (fun c_151 => ?_) (fun c_151 => ?_)
    · refine lv_iinc (v := v_21 + 1) (lv' := [(12, .int (v_21 + 1)), (10, .long v_20), (8, .long v_19), (6, .long z_7), (0, .ref h0), (2, .int p1), (3, .int p2), (4, .int p3), (5, .int p4)]) hx hb dX9_walk_303 hl (k := 0) rfl rfl (by decide) rfl (fun ls hl => ?_)
      refine lv_goto (tgt := 80) hx hb dX9_walk_306 (by decide) ?_
      have hCC_153 := yMI.c hId_147
      have T_154 : ((v_21 + 1) : Int32).toInt = (v_21 : Int32).toInt + 1 := tadd rfl (rfl : (v_21 : Int32).toInt = (v_21 : Int32).toInt) (by decide +kernel : (1 : Int32).toInt = 1) (by omega) (by omega)
      exact hnext_23 (v_19, v_20, v_21 + 1, d_147) _ _ ls (xup c_25) ⟨hP, hD, hS, hgd_147, hPod_147, hfd_147, hId_147, hL0d_147, hK0d_147, (show (0 ≤ (((v_21 + 1)) : Int32).toInt) from by have hq0_ : (0 : Int32).toInt = 0 := (by decide +kernel); omega), lv_sub hl [0, 1, 2, 3, 4, 5, 6, 7, 8] rfl⟩
    · refine lv_aload_n hx hb dX9_walk_115 rfl (lv_at hl 4 rfl) ?_
      refine lv_iload hx hb dX9_walk_116 (lv_at hl 0 rfl) ?_
      refine yVri (As := [.int v_21]) (rest := []) C0 (g_X9_isOpen l G S d_147 h0 v_21 hSh hm_h0 hk_h0) ok_X9_isOpen (mW391 : Cond.methodLink RX9 157 yX9_isOpen ∈ wsT) ⟨Nat.le_of_ble_eq_true rfl, Nat.le_of_ble_eq_true rfl⟩ hP hD hK hN hm_h0 hk_h0 (by decide) rfl rfl rfl hl.1 rfl (Nat.le_of_ble_eq_true rfl) ⟨Nat.le_of_ble_eq_true rfl, Nat.le_of_ble_eq_true rfl⟩ dX9_walk_118 (fun r_155 hr_155 => ?_)
      refine lv_if_eq (tgt := 303) hx hb dX9_walk_121 (by decide) (fun c_156 => ?_) (fun c_156 => ?_)
      · refine lv_iinc (v := v_21 + 1) (lv' := [(12, .int (v_21 + 1)), (10, .long v_20), (8, .long v_19), (6, .long z_7), (0, .ref h0), (2, .int p1), (3, .int p2), (4, .int p3), (5, .int p4)]) hx hb dX9_walk_303 hl (k := 0) rfl rfl (by decide) rfl (fun ls hl => ?_)
        refine lv_goto (tgt := 80) hx hb dX9_walk_306 (by decide) ?_
        have hCC_158 := yMI.c hId_147
        have F_159 := feq (rfl : (r_155 : Int32).toInt = (r_155 : Int32).toInt) (by decide +kernel : (0 : Int32).toInt = 0) c_156
        have T_160 : ((v_21 + 1) : Int32).toInt = (v_21 : Int32).toInt + 1 := tadd rfl (rfl : (v_21 : Int32).toInt = (v_21 : Int32).toInt) (by decide +kernel : (1 : Int32).toInt = 1) (by omega) (by omega)
        exact hnext_23 (v_19, v_20, v_21 + 1, d_147) _ _ ls (xup c_25) ⟨hP, hD, hS, hgd_147, hPod_147, hfd_147, hId_147, hL0d_147, hK0d_147, (show (0 ≤ (((v_21 + 1)) : Int32).toInt) from by have hq0_ : (0 : Int32).toInt = 0 := (by decide +kernel); omega), lv_sub hl [0, 1, 2, 3, 4, 5, 6, 7, 8] rfl⟩
      · refine lv_aload_n hx hb dX9_walk_124 rfl (lv_at hl 4 rfl) ?_
        refine lv_iload hx hb dX9_walk_125 (lv_at hl 0 rfl) ?_
        have F_161 := fne (rfl : (r_155 : Int32).toInt = (r_155 : Int32).toInt) (by decide +kernel : (0 : Int32).toInt = 0) c_156
        refine yVri (As := [.int v_21]) (rest := []) C0 (g_X9_doesCount l G S d_147 h0 v_21 hSh hm_h0 hk_h0 hId_147 (by refine ⟨?_, ?_⟩ <;> omega)) ok_X9_doesCount (mW643 : Cond.methodLink RX9 282 yX9_doesCount ∈ wsT) ⟨Nat.le_of_ble_eq_true rfl, Nat.le_of_ble_eq_true rfl⟩ hP hD hK hN hm_h0 hk_h0 (by decide) rfl rfl rfl hl.1 rfl (Nat.le_of_ble_eq_true rfl) ⟨Nat.le_of_ble_eq_true rfl, Nat.le_of_ble_eq_true rfl⟩ dX9_walk_127 (fun r_162 hr_162 => ?_)
        refine lv_if_ne (tgt := 136) hx hb dX9_walk_130 (by decide) (fun c_163 => ?_) (fun c_163 => ?_)
        · refine lv_aload_n hx hb dX9_walk_136 rfl (lv_at hl 4 rfl) ?_
          refine lv_dup hx hb dX9_walk_137 rfl ?_
          refine yget (ci := 9) (k := 62) (v := .int (d_147.1 h0 62)) (C := RX9) (T := TX9) (N := 67) C0 hK hP hm_h0 hk_h0 (by decide) rfl inlX9 (by decide) mW877 (fun _ h9 => h9) rfl dX9_walk_138 ?_
          refine lv_topi (fun z_164 ez_164 => ?_)
          refine lv_iconst (v := 1) hx hb dX9_walk_141 (by decide) ?_
          refine lv_iadd hx hb dX9_walk_142 ?_
          refine lv_topi (fun z_165 ez_165 => ?_)
          refine yputI (ci := 9) (k := 62) (ty := .int) (C := RX9) (T := TX9) (N := 67) C0 hK hP hD hS hm_h0 hk_h0 (by decide) rfl inlX9 tyX9 tyX9_ok nmX9 (by decide) mW877 (fun _ h9 => h9) rfl (by decide +kernel) rfl rfl (Nat.le_of_ble_eq_true rfl) ysi_9_62 dX9_walk_143 (fun H locs hP hD hS => ?_)
          obtain ⟨d_166, ed_166⟩ : ∃ z : yD, z = yi d_147 h0 62 z_165 := ⟨_, rfl⟩
          rw [← ed_166] at hP hD
          have hgd_166 : yAg S [9, 74, 75, 77, 78] d d_166 := by rw [ed_166]; exact yAg.i hgd_147 (by rw [hk_h0]; decide)
          have hPod_166 : yPo S d_166 := by rw [ed_166]; exact yPo.i hPod_147 hk_h0 (Or.inl rfl)
          have hfd_166 : yK [54, 55, 57, 62, 63, 64, 65] d d_166 h0 := by rw [ed_166]; exact yK.i hfd_147 (by decide)
          have hL0d_166 : yAg S [9, 74, 75, 77, 78] d_17 d_166 := by rw [ed_166]; exact yAg.i hL0d_147 (by rw [hk_h0]; decide)
          have hK0d_166 : yK [62] d_17 d_166 h0 := by rw [ed_166]; exact yK.i hK0d_147 (by decide)
          have hId_166 : yMI S d_166 h0 := yMI.ag hId_147 hSh hm_h0 hk_h0 (show yAg S [9] d_147 d_166 from by rw [ed_166]; exact yAg.i yAg.rf (by rw [hk_h0]; decide)) (show yK [62] d_147 d_166 h0 from by rw [ed_166]; exact yK.i yK.rf (by decide)) (by decide) (by decide)
          have hE0d_166 : (d_166.1 h0 0).toInt = (d_147.1 h0 0).toInt := congrArg Int32.toInt ((show yK [62] d_147 d_166 h0 from by rw [ed_166]; exact yK.i yK.rf (by decide)) 0 (by decide))
          have hE1d_166 : (d_166.1 h0 1).toInt = (d_147.1 h0 1).toInt := congrArg Int32.toInt ((show yK [62] d_147 d_166 h0 from by rw [ed_166]; exact yK.i yK.rf (by decide)) 1 (by decide))
          have hE2d_166 : (d_166.1 h0 2).toInt = (d_147.1 h0 2).toInt := congrArg Int32.toInt ((show yK [62] d_147 d_166 h0 from by rw [ed_166]; exact yK.i yK.rf (by decide)) 2 (by decide))
          have hE3d_166 : (d_166.1 h0 3).toInt = (d_147.1 h0 3).toInt := congrArg Int32.toInt ((show yK [62] d_147 d_166 h0 from by rw [ed_166]; exact yK.i yK.rf (by decide)) 3 (by decide))
          have hE63d_166 : (d_166.1 h0 63).toInt = (d_147.1 h0 63).toInt := congrArg Int32.toInt ((show yK [62] d_147 d_166 h0 from by rw [ed_166]; exact yK.i yK.rf (by decide)) 63 (by decide))
          refine lv_aload_n hx hb dX9_walk_146 rfl (lv_at hl 4 rfl) ?_
          refine lv_dup hx hb dX9_walk_147 rfl ?_
          refine yget (ci := 9) (k := 59) (v := .long (d_166.2.1 h0 59)) (C := RX9) (T := TX9) (N := 67) C0 hK hP hm_h0 hk_h0 (by decide) rfl inlX9 (by decide) mW874 (fun _ h9 => h9) rfl dX9_walk_148 ?_
          refine lv_topl (fun z_167 ez_167 => ?_)
          refine lv_ldc2 (v := 2) hx hb hown (htl (.constantLong RX9 285 (2)) mW883) dX9_walk_151 ?_
          refine lv_aload_n hx hb dX9_walk_154 rfl (lv_at hl 4 rfl) ?_
          refine lv_iload hx hb dX9_walk_155 (lv_at hl 0 rfl) ?_
          refine lv_iload_n hx hb dX9_walk_157 rfl (lv_at hl 6 rfl) ?_
          refine lv_iload hx hb dX9_walk_158 (lv_at hl 7 rfl) ?_
          refine lv_iload hx hb dX9_walk_160 (lv_at hl 8 rfl) ?_
          have F_168 := fne (rfl : (r_162 : Int32).toInt = (r_162 : Int32).toInt) (by decide +kernel : (0 : Int32).toInt = 0) c_163
          refine yVrl (As := [.int v_21, .int p2, .int p3, .int p4]) (rest := [.long 2, .long z_167, .ref h0]) C0 (g_X9_allowed l G S d_166 h0 v_21 p2 p3 p4 hSh hm_h0 hk_h0 hId_166 (by refine ⟨?_, ?_⟩ <;> omega) (by refine ⟨?_, ?_⟩ <;> omega)) ok_X9_allowed (mW651 : Cond.methodLink RX9 287 yX9_allowed ∈ wsT) ⟨Nat.le_of_ble_eq_true rfl, Nat.le_of_ble_eq_true rfl⟩ hP hD hK hN hm_h0 hk_h0 (by decide) rfl rfl rfl hl.1 rfl (Nat.le_of_ble_eq_true rfl) ⟨Nat.le_of_ble_eq_true rfl, Nat.le_of_ble_eq_true rfl⟩ dX9_walk_162 (fun r_169 hr_169 => ?_)
          refine lv_lmul hx hb dX9_walk_165 ?_
          refine lv_topl (fun z_170 ez_170 => ?_)
          refine lv_ladd hx hb dX9_walk_166 ?_
          refine lv_topl (fun z_171 ez_171 => ?_)
          refine yputJ (ci := 9) (k := 59) (C := RX9) (T := TX9) (N := 67) C0 hK hP hD hS hm_h0 hk_h0 (by decide) rfl inlX9 tyX9 tyX9_ok nmX9 (by decide) mW874 (fun _ h9 => h9) rfl (by decide +kernel) (Nat.le_of_ble_eq_true rfl) ysj_9_59 dX9_walk_167 (fun H locs hP hD hS => ?_)
          obtain ⟨d_172, ed_172⟩ : ∃ z : yD, z = yj d_166 h0 59 z_171 := ⟨_, rfl⟩
          rw [← ed_172] at hP hD
          have hgd_172 : yAg S [9, 74, 75, 77, 78] d d_172 := by rw [ed_172]; exact yAg.j hgd_166 (by rw [hk_h0]; decide)
          have hPod_172 : yPo S d_172 := by rw [ed_172]; exact hPod_166
          have hfd_172 : yK [54, 55, 57, 62, 63, 64, 65] d d_172 h0 := by rw [ed_172]; exact yK.j hfd_166
          have hL0d_172 : yAg S [9, 74, 75, 77, 78] d_17 d_172 := by rw [ed_172]; exact yAg.j hL0d_166 (by rw [hk_h0]; decide)
          have hK0d_172 : yK [62] d_17 d_172 h0 := by rw [ed_172]; exact yK.j hK0d_166
          have hId_172 : yMI S d_172 h0 := by rw [ed_172]; exact yMI.j hId_166
          have hE0d_172 : (d_172.1 h0 0).toInt = (d_166.1 h0 0).toInt := congrArg Int32.toInt ((show yK [] d_166 d_172 h0 from by rw [ed_172]; exact yK.j yK.rf) 0 (by decide))
          have hE1d_172 : (d_172.1 h0 1).toInt = (d_166.1 h0 1).toInt := congrArg Int32.toInt ((show yK [] d_166 d_172 h0 from by rw [ed_172]; exact yK.j yK.rf) 1 (by decide))
          have hE2d_172 : (d_172.1 h0 2).toInt = (d_166.1 h0 2).toInt := congrArg Int32.toInt ((show yK [] d_166 d_172 h0 from by rw [ed_172]; exact yK.j yK.rf) 2 (by decide))
          have hE3d_172 : (d_172.1 h0 3).toInt = (d_166.1 h0 3).toInt := congrArg Int32.toInt ((show yK [] d_166 d_172 h0 from by rw [ed_172]; exact yK.j yK.rf) 3 (by decide))
          have hE63d_172 : (d_172.1 h0 63).toInt = (d_166.1 h0 63).toInt := congrArg Int32.toInt ((show yK [] d_166 d_172 h0 from by rw [ed_172]; exact yK.j yK.rf) 63 (by decide))
          refine lv_aload_n hx hb dX9_walk_170 rfl (lv_at hl 4 rfl) ?_
          refine yget (ci := 9) (k := 44) (v := .ref (S.2.2.1 h0 44)) (C := RX9) (T := TX9) (N := 67) C0 hK hP hm_h0 hk_h0 (by decide) rfl inlX9 (by decide) mW149 (fun _ h9 => h9) rfl dX9_walk_171 ?_
          refine lv_iload hx hb dX9_walk_174 (lv_at hl 0 rfl) ?_
          refine lv_aload_n hx hb dX9_walk_176 rfl (lv_at hl 4 rfl) ?_
          refine lv_iload hx hb dX9_walk_177 (lv_at hl 0 rfl) ?_
          refine yVri (As := [.int v_21]) (rest := [.int v_21, .ref (S.2.2.1 h0 44)]) C0 (g_X9_begin l G S d_172 h0 v_21 hSh hm_h0 hk_h0 hId_172 (by refine ⟨?_, ?_⟩ <;> omega)) ok_X9_begin (mW639 : Cond.methodLink RX9 232 yX9_begin ∈ wsT) ⟨Nat.le_of_ble_eq_true rfl, Nat.le_of_ble_eq_true rfl⟩ hP hD hK hN hm_h0 hk_h0 (by decide) rfl rfl rfl hl.1 rfl (Nat.le_of_ble_eq_true rfl) ⟨Nat.le_of_ble_eq_true rfl, Nat.le_of_ble_eq_true rfl⟩ dX9_walk_179 (fun r_173 hr_173 => ?_)
          have hCC_174 := yMI.c hId_172
          refine yast C0 hK hP hD hS hmy_141 hky_141 (by decide) rfl 0 rfl (xinT 8 rfl (by omega) (by omega)) dX9_walk_182 (fun H locs hP hD hS => ?_)
          obtain ⟨d_175, ed_175⟩ : ∃ z : yD, z = ycs d_172 (S.2.2.1 h0 44) (upd (d_172.2.2.2.1 (S.2.2.1 h0 44)) (v_21 : Int32).toNatClampNeg r_173) := ⟨_, rfl⟩
          rw [← ed_175] at hP hD
          have hgd_175 : yAg S [9, 74, 75, 77, 78] d d_175 := by rw [ed_175]; exact yAg.cs hgd_172 (by rw [hky_141]; decide)
          have hPod_175 : yPo S d_175 := by rw [ed_175]; exact hPod_172
          have hfd_175 : yK [54, 55, 57, 62, 63, 64, 65] d d_175 h0 := yK.ag hfd_172 (show yAg S [74] d_172 d_175 from by rw [ed_175]; exact yAg.cs yAg.rf (by rw [hky_141]; decide)) (by rw [hk_h0]; decide)
          have hL0d_175 : yAg S [9, 74, 75, 77, 78] d_17 d_175 := by rw [ed_175]; exact yAg.cs hL0d_172 (by rw [hky_141]; decide)
          have hK0d_175 : yK [62] d_17 d_175 h0 := yK.ag hK0d_172 (show yAg S [74] d_172 d_175 from by rw [ed_175]; exact yAg.cs yAg.rf (by rw [hky_141]; decide)) (by rw [hk_h0]; decide)
          have hId_175 : yMI S d_175 h0 := by rw [ed_175]; exact yMI.w44 hId_172 hSh hm_h0 hk_h0 (yBr.up (yMI.fr_ hId_172) ⟨by omega, by omega⟩)
          have hE0d_175 : (d_175.1 h0 0).toInt = (d_172.1 h0 0).toInt := congrArg Int32.toInt ((yK.ag (F := []) yK.rf (show yAg S [74] d_172 d_175 from by rw [ed_175]; exact yAg.cs yAg.rf (by rw [hky_141]; decide)) (by rw [hk_h0]; decide)) 0 (by decide))
          have hE1d_175 : (d_175.1 h0 1).toInt = (d_172.1 h0 1).toInt := congrArg Int32.toInt ((yK.ag (F := []) yK.rf (show yAg S [74] d_172 d_175 from by rw [ed_175]; exact yAg.cs yAg.rf (by rw [hky_141]; decide)) (by rw [hk_h0]; decide)) 1 (by decide))
          have hE2d_175 : (d_175.1 h0 2).toInt = (d_172.1 h0 2).toInt := congrArg Int32.toInt ((yK.ag (F := []) yK.rf (show yAg S [74] d_172 d_175 from by rw [ed_175]; exact yAg.cs yAg.rf (by rw [hky_141]; decide)) (by rw [hk_h0]; decide)) 2 (by decide))
          have hE3d_175 : (d_175.1 h0 3).toInt = (d_172.1 h0 3).toInt := congrArg Int32.toInt ((yK.ag (F := []) yK.rf (show yAg S [74] d_172 d_175 from by rw [ed_175]; exact yAg.cs yAg.rf (by rw [hky_141]; decide)) (by rw [hk_h0]; decide)) 3 (by decide))
          have hE63d_175 : (d_175.1 h0 63).toInt = (d_172.1 h0 63).toInt := congrArg Int32.toInt ((yK.ag (F := []) yK.rf (show yAg S [74] d_172 d_175 from by rw [ed_175]; exact yAg.cs yAg.rf (by rw [hky_141]; decide)) (by rw [hk_h0]; decide)) 63 (by decide))
          refine lv_aload_n hx hb dX9_walk_183 rfl (lv_at hl 4 rfl) ?_
          refine yget (ci := 9) (k := 45) (v := .ref (S.2.2.1 h0 45)) (C := RX9) (T := TX9) (N := 67) C0 hK hP hm_h0 hk_h0 (by decide) rfl inlX9 (by decide) mW150 (fun _ h9 => h9) rfl dX9_walk_184 ?_
          refine lv_iload hx hb dX9_walk_187 (lv_at hl 0 rfl) ?_
          refine lv_aload_n hx hb dX9_walk_189 rfl (lv_at hl 4 rfl) ?_
          refine lv_iload hx hb dX9_walk_190 (lv_at hl 0 rfl) ?_
          refine yVri (As := [.int v_21]) (rest := [.int v_21, .ref (S.2.2.1 h0 45)]) C0 (g_X9_end l G S d_175 h0 v_21 hSh hm_h0 hk_h0 hId_175 (by refine ⟨?_, ?_⟩ <;> omega)) ok_X9_end (mW647 : Cond.methodLink RX9 291 yX9_end ∈ wsT) ⟨Nat.le_of_ble_eq_true rfl, Nat.le_of_ble_eq_true rfl⟩ hP hD hK hN hm_h0 hk_h0 (by decide) rfl rfl rfl hl.1 rfl (Nat.le_of_ble_eq_true rfl) ⟨Nat.le_of_ble_eq_true rfl, Nat.le_of_ble_eq_true rfl⟩ dX9_walk_192 (fun r_176 hr_176 => ?_)
          have hCC_177 := yMI.c hId_175
          refine yast C0 hK hP hD hS hmy_145 hky_145 (by decide) rfl 0 rfl (xinT 8 rfl (by omega) (by omega)) dX9_walk_195 (fun H locs hP hD hS => ?_)
          obtain ⟨d_178, ed_178⟩ : ∃ z : yD, z = ycs d_175 (S.2.2.1 h0 45) (upd (d_175.2.2.2.1 (S.2.2.1 h0 45)) (v_21 : Int32).toNatClampNeg r_176) := ⟨_, rfl⟩
          rw [← ed_178] at hP hD
          have hgd_178 : yAg S [9, 74, 75, 77, 78] d d_178 := by rw [ed_178]; exact yAg.cs hgd_175 (by rw [hky_145]; decide)
          have hPod_178 : yPo S d_178 := by rw [ed_178]; exact hPod_175
          have hfd_178 : yK [54, 55, 57, 62, 63, 64, 65] d d_178 h0 := yK.ag hfd_175 (show yAg S [75] d_175 d_178 from by rw [ed_178]; exact yAg.cs yAg.rf (by rw [hky_145]; decide)) (by rw [hk_h0]; decide)
          have hL0d_178 : yAg S [9, 74, 75, 77, 78] d_17 d_178 := by rw [ed_178]; exact yAg.cs hL0d_175 (by rw [hky_145]; decide)
          have hK0d_178 : yK [62] d_17 d_178 h0 := yK.ag hK0d_175 (show yAg S [75] d_175 d_178 from by rw [ed_178]; exact yAg.cs yAg.rf (by rw [hky_145]; decide)) (by rw [hk_h0]; decide)
          have hId_178 : yMI S d_178 h0 := by rw [ed_178]; exact yMI.w45 hId_175 hSh hm_h0 hk_h0 (yBr.up (yMI.to_ hId_175) ⟨by omega, by omega⟩)
          have hE0d_178 : (d_178.1 h0 0).toInt = (d_175.1 h0 0).toInt := congrArg Int32.toInt ((yK.ag (F := []) yK.rf (show yAg S [75] d_175 d_178 from by rw [ed_178]; exact yAg.cs yAg.rf (by rw [hky_145]; decide)) (by rw [hk_h0]; decide)) 0 (by decide))
          have hE1d_178 : (d_178.1 h0 1).toInt = (d_175.1 h0 1).toInt := congrArg Int32.toInt ((yK.ag (F := []) yK.rf (show yAg S [75] d_175 d_178 from by rw [ed_178]; exact yAg.cs yAg.rf (by rw [hky_145]; decide)) (by rw [hk_h0]; decide)) 1 (by decide))
          have hE2d_178 : (d_178.1 h0 2).toInt = (d_175.1 h0 2).toInt := congrArg Int32.toInt ((yK.ag (F := []) yK.rf (show yAg S [75] d_175 d_178 from by rw [ed_178]; exact yAg.cs yAg.rf (by rw [hky_145]; decide)) (by rw [hk_h0]; decide)) 2 (by decide))
          have hE3d_178 : (d_178.1 h0 3).toInt = (d_175.1 h0 3).toInt := congrArg Int32.toInt ((yK.ag (F := []) yK.rf (show yAg S [75] d_175 d_178 from by rw [ed_178]; exact yAg.cs yAg.rf (by rw [hky_145]; decide)) (by rw [hk_h0]; decide)) 3 (by decide))
          have hE63d_178 : (d_178.1 h0 63).toInt = (d_175.1 h0 63).toInt := congrArg Int32.toInt ((yK.ag (F := []) yK.rf (show yAg S [75] d_175 d_178 from by rw [ed_178]; exact yAg.cs yAg.rf (by rw [hky_145]; decide)) (by rw [hk_h0]; decide)) 63 (by decide))
          refine lv_aload_n hx hb dX9_walk_196 rfl (lv_at hl 4 rfl) ?_
          refine yget (ci := 9) (k := 47) (v := .ref (S.2.2.1 h0 47)) (C := RX9) (T := TX9) (N := 67) C0 hK hP hm_h0 hk_h0 (by decide) rfl inlX9 (by decide) mW152 (fun _ h9 => h9) rfl dX9_walk_197 ?_
          obtain ⟨hmy_179, hky_179⟩ := ySh.f9_47 hSh _ hm_h0 hk_h0
          refine lv_iload hx hb dX9_walk_200 (lv_at hl 0 rfl) ?_
          refine lv_iconst (v := 0) hx hb dX9_walk_202 (by decide) ?_
          have hCC_180 := yMI.c hId_178
          refine yast C0 hK hP hD hS hmy_179 hky_179 (by decide) rfl 0 rfl (xinT 8 rfl (by omega) (by omega)) dX9_walk_203 (fun H locs hP hD hS => ?_)
          obtain ⟨d_181, ed_181⟩ : ∃ z : yD, z = ycs d_178 (S.2.2.1 h0 47) (upd (d_178.2.2.2.1 (S.2.2.1 h0 47)) (v_21 : Int32).toNatClampNeg 0) := ⟨_, rfl⟩
          rw [← ed_181] at hP hD
          have hgd_181 : yAg S [9, 74, 75, 77, 78] d d_181 := by rw [ed_181]; exact yAg.cs hgd_178 (by rw [hky_179]; decide)
          have hPod_181 : yPo S d_181 := by rw [ed_181]; exact hPod_178
          have hfd_181 : yK [54, 55, 57, 62, 63, 64, 65] d d_181 h0 := yK.ag hfd_178 (show yAg S [77] d_178 d_181 from by rw [ed_181]; exact yAg.cs yAg.rf (by rw [hky_179]; decide)) (by rw [hk_h0]; decide)
          have hL0d_181 : yAg S [9, 74, 75, 77, 78] d_17 d_181 := by rw [ed_181]; exact yAg.cs hL0d_178 (by rw [hky_179]; decide)
          have hK0d_181 : yK [62] d_17 d_181 h0 := yK.ag hK0d_178 (show yAg S [77] d_178 d_181 from by rw [ed_181]; exact yAg.cs yAg.rf (by rw [hky_179]; decide)) (by rw [hk_h0]; decide)
          have hId_181 : yMI S d_181 h0 := yMI.ag hId_178 hSh hm_h0 hk_h0 (show yAg S [77] d_178 d_181 from by rw [ed_181]; exact yAg.cs yAg.rf (by rw [hky_179]; decide)) (yK.ag (F := []) yK.rf (show yAg S [77] d_178 d_181 from by rw [ed_181]; exact yAg.cs yAg.rf (by rw [hky_179]; decide)) (by rw [hk_h0]; decide)) (by decide) (by decide)
          have hE0d_181 : (d_181.1 h0 0).toInt = (d_178.1 h0 0).toInt := congrArg Int32.toInt ((yK.ag (F := []) yK.rf (show yAg S [77] d_178 d_181 from by rw [ed_181]; exact yAg.cs yAg.rf (by rw [hky_179]; decide)) (by rw [hk_h0]; decide)) 0 (by decide))
          have hE1d_181 : (d_181.1 h0 1).toInt = (d_178.1 h0 1).toInt := congrArg Int32.toInt ((yK.ag (F := []) yK.rf (show yAg S [77] d_178 d_181 from by rw [ed_181]; exact yAg.cs yAg.rf (by rw [hky_179]; decide)) (by rw [hk_h0]; decide)) 1 (by decide))
          have hE2d_181 : (d_181.1 h0 2).toInt = (d_178.1 h0 2).toInt := congrArg Int32.toInt ((yK.ag (F := []) yK.rf (show yAg S [77] d_178 d_181 from by rw [ed_181]; exact yAg.cs yAg.rf (by rw [hky_179]; decide)) (by rw [hk_h0]; decide)) 2 (by decide))
          have hE3d_181 : (d_181.1 h0 3).toInt = (d_178.1 h0 3).toInt := congrArg Int32.toInt ((yK.ag (F := []) yK.rf (show yAg S [77] d_178 d_181 from by rw [ed_181]; exact yAg.cs yAg.rf (by rw [hky_179]; decide)) (by rw [hk_h0]; decide)) 3 (by decide))
          have hE63d_181 : (d_181.1 h0 63).toInt = (d_178.1 h0 63).toInt := congrArg Int32.toInt ((yK.ag (F := []) yK.rf (show yAg S [77] d_178 d_181 from by rw [ed_181]; exact yAg.cs yAg.rf (by rw [hky_179]; decide)) (by rw [hk_h0]; decide)) 63 (by decide))
          refine lv_aload_n hx hb dX9_walk_204 rfl (lv_at hl 4 rfl) ?_
          refine yget (ci := 9) (k := 48) (v := .ref (S.2.2.1 h0 48)) (C := RX9) (T := TX9) (N := 67) C0 hK hP hm_h0 hk_h0 (by decide) rfl inlX9 (by decide) mW153 (fun _ h9 => h9) rfl dX9_walk_205 ?_
          obtain ⟨hmy_182, hky_182⟩ := ySh.f9_48 hSh _ hm_h0 hk_h0
          refine lv_iload hx hb dX9_walk_208 (lv_at hl 0 rfl) ?_
          refine lv_iconst (v := 0) hx hb dX9_walk_210 (by decide) ?_
          have hCC_183 := yMI.c hId_181
          refine yast C0 hK hP hD hS hmy_182 hky_182 (by decide) rfl 0 rfl (xinT 8 rfl (by omega) (by omega)) dX9_walk_211 (fun H locs hP hD hS => ?_)
          obtain ⟨d_184, ed_184⟩ : ∃ z : yD, z = ycs d_181 (S.2.2.1 h0 48) (upd (d_181.2.2.2.1 (S.2.2.1 h0 48)) (v_21 : Int32).toNatClampNeg 0) := ⟨_, rfl⟩
          rw [← ed_184] at hP hD
          have hgd_184 : yAg S [9, 74, 75, 77, 78] d d_184 := by rw [ed_184]; exact yAg.cs hgd_181 (by rw [hky_182]; decide)
          have hPod_184 : yPo S d_184 := by rw [ed_184]; exact hPod_181
          have hfd_184 : yK [54, 55, 57, 62, 63, 64, 65] d d_184 h0 := yK.ag hfd_181 (show yAg S [78] d_181 d_184 from by rw [ed_184]; exact yAg.cs yAg.rf (by rw [hky_182]; decide)) (by rw [hk_h0]; decide)
          have hL0d_184 : yAg S [9, 74, 75, 77, 78] d_17 d_184 := by rw [ed_184]; exact yAg.cs hL0d_181 (by rw [hky_182]; decide)
          have hK0d_184 : yK [62] d_17 d_184 h0 := yK.ag hK0d_181 (show yAg S [78] d_181 d_184 from by rw [ed_184]; exact yAg.cs yAg.rf (by rw [hky_182]; decide)) (by rw [hk_h0]; decide)
          have hId_184 : yMI S d_184 h0 := by rw [ed_184]; exact yMI.w48 hId_181 hSh hm_h0 hk_h0 (yBr.up (yMI.ne_ hId_181) (by decide +kernel))
          have hE0d_184 : (d_184.1 h0 0).toInt = (d_181.1 h0 0).toInt := congrArg Int32.toInt ((yK.ag (F := []) yK.rf (show yAg S [78] d_181 d_184 from by rw [ed_184]; exact yAg.cs yAg.rf (by rw [hky_182]; decide)) (by rw [hk_h0]; decide)) 0 (by decide))
          have hE1d_184 : (d_184.1 h0 1).toInt = (d_181.1 h0 1).toInt := congrArg Int32.toInt ((yK.ag (F := []) yK.rf (show yAg S [78] d_181 d_184 from by rw [ed_184]; exact yAg.cs yAg.rf (by rw [hky_182]; decide)) (by rw [hk_h0]; decide)) 1 (by decide))
          have hE2d_184 : (d_184.1 h0 2).toInt = (d_181.1 h0 2).toInt := congrArg Int32.toInt ((yK.ag (F := []) yK.rf (show yAg S [78] d_181 d_184 from by rw [ed_184]; exact yAg.cs yAg.rf (by rw [hky_182]; decide)) (by rw [hk_h0]; decide)) 2 (by decide))
          have hE3d_184 : (d_184.1 h0 3).toInt = (d_181.1 h0 3).toInt := congrArg Int32.toInt ((yK.ag (F := []) yK.rf (show yAg S [78] d_181 d_184 from by rw [ed_184]; exact yAg.cs yAg.rf (by rw [hky_182]; decide)) (by rw [hk_h0]; decide)) 3 (by decide))
          have hE63d_184 : (d_184.1 h0 63).toInt = (d_181.1 h0 63).toInt := congrArg Int32.toInt ((yK.ag (F := []) yK.rf (show yAg S [78] d_181 d_184 from by rw [ed_184]; exact yAg.cs yAg.rf (by rw [hky_182]; decide)) (by rw [hk_h0]; decide)) 63 (by decide))
          refine lv_aload_n hx hb dX9_walk_212 rfl (lv_at hl 4 rfl) ?_
          refine yget (ci := 9) (k := 44) (v := .ref (S.2.2.1 h0 44)) (C := RX9) (T := TX9) (N := 67) C0 hK hP hm_h0 hk_h0 (by decide) rfl inlX9 (by decide) mW149 (fun _ h9 => h9) rfl dX9_walk_213 ?_
          refine lv_iload hx hb dX9_walk_216 (lv_at hl 0 rfl) ?_
          have hCC_185 := yMI.c hId_184
          refine yald C0 hK hP hmy_141 hky_141 (by decide) rfl 0 rfl (xinT 8 rfl (by omega) (by omega)) dX9_walk_218 ?_
          refine lv_topi (fun z_186 ez_186 => ?_)
          have hvz_186 : (-1) ≤ (z_186 : Int32).toInt ∧ (z_186 : Int32).toInt ≤ 229599 := by rw [ez_186]; exact yMI.fr_ hId_184 _
          refine lv_aload_n hx hb dX9_walk_219 rfl (lv_at hl 4 rfl) ?_
          refine yget (ci := 9) (k := 45) (v := .ref (S.2.2.1 h0 45)) (C := RX9) (T := TX9) (N := 67) C0 hK hP hm_h0 hk_h0 (by decide) rfl inlX9 (by decide) mW150 (fun _ h9 => h9) rfl dX9_walk_220 ?_
          refine lv_iload hx hb dX9_walk_223 (lv_at hl 0 rfl) ?_
          refine yald C0 hK hP hmy_145 hky_145 (by decide) rfl 0 rfl (xinT 8 rfl (by omega) (by omega)) dX9_walk_225 ?_
          refine lv_topi (fun z_187 ez_187 => ?_)
          have hvz_187 : 0 ≤ (z_187 : Int32).toInt ∧ (z_187 : Int32).toInt ≤ 129600 := by rw [ez_187]; exact yMI.to_ hId_184 _
          refine lv_icmp_ge (tgt := 303) hx hb dX9_walk_226 (by decide) (fun c_188 => ?_) (fun c_188 => ?_)
          · refine lv_iinc (v := v_21 + 1) (lv' := [(12, .int (v_21 + 1)), (10, .long v_20), (8, .long v_19), (6, .long z_7), (0, .ref h0), (2, .int p1), (3, .int p2), (4, .int p3), (5, .int p4)]) hx hb dX9_walk_303 hl (k := 0) rfl rfl (by decide) rfl (fun ls hl => ?_)
            refine lv_goto (tgt := 80) hx hb dX9_walk_306 (by decide) ?_
            have F_192 := fle (rfl : (z_187 : Int32).toInt = (z_187 : Int32).toInt) (rfl : (z_186 : Int32).toInt = (z_186 : Int32).toInt) c_188
            have T_193 : ((v_21 + 1) : Int32).toInt = (v_21 : Int32).toInt + 1 := tadd rfl (rfl : (v_21 : Int32).toInt = (v_21 : Int32).toInt) (by decide +kernel : (1 : Int32).toInt = 1) (by omega) (by omega)
            exact hnext_23 (v_19, v_20, v_21 + 1, d_184) _ _ ls (xup c_25) ⟨hP, hD, hS, hgd_184, hPod_184, hfd_184, hId_184, hL0d_184, hK0d_184, (show (0 ≤ (((v_21 + 1)) : Int32).toInt) from by have hq0_ : (0 : Int32).toInt = 0 := (by decide +kernel); omega), lv_sub hl [0, 1, 2, 3, 4, 5, 6, 7, 8] rfl⟩
          · refine lv_aload_n hx hb dX9_walk_229 rfl (lv_at hl 4 rfl) ?_
            refine yget (ci := 9) (k := 44) (v := .ref (S.2.2.1 h0 44)) (C := RX9) (T := TX9) (N := 67) C0 hK hP hm_h0 hk_h0 (by decide) rfl inlX9 (by decide) mW149 (fun _ h9 => h9) rfl dX9_walk_230 ?_
            refine lv_iload hx hb dX9_walk_233 (lv_at hl 0 rfl) ?_
            have F_196 := fnle (rfl : (z_187 : Int32).toInt = (z_187 : Int32).toInt) (rfl : (z_186 : Int32).toInt = (z_186 : Int32).toInt) c_188
            refine yald C0 hK hP hmy_141 hky_141 (by decide) rfl 0 rfl (xinT 8 rfl (by omega) (by omega)) dX9_walk_235 ?_
            refine lv_topi (fun z_197 ez_197 => ?_)
            have hvz_197 : (-1) ≤ (z_197 : Int32).toInt ∧ (z_197 : Int32).toInt ≤ 229599 := by rw [ez_197]; exact yMI.fr_ hId_184 _
            refine lv_i2l hx hb dX9_walk_236 rfl ?_
            refine lv_topl (fun z_198 ez_198 => ?_)
            refine lv_aload_n hx hb dX9_walk_237 rfl (lv_at hl 4 rfl) ?_
            refine lv_iload hx hb dX9_walk_238 (lv_at hl 0 rfl) ?_
            refine lv_bipush (v := 7) hx hb dX9_walk_240 (by decide) ?_
            refine yVri (As := [.int v_21, .int 7]) (rest := [.long z_198]) C0 (g_X9_of l G S d_184 h0 v_21 7 hSh hm_h0 hk_h0 (by refine ⟨?_, ?_⟩ <;> omega) (by decide +kernel)) ok_X9_of (mW425 : Cond.methodLink RX9 161 yX9_of ∈ wsT) ⟨Nat.le_of_ble_eq_true rfl, Nat.le_of_ble_eq_true rfl⟩ hP hD hK hN hm_h0 hk_h0 (by decide) rfl rfl rfl hl.1 rfl (Nat.le_of_ble_eq_true rfl) ⟨Nat.le_of_ble_eq_true rfl, Nat.le_of_ble_eq_true rfl⟩ dX9_walk_242 (fun r_199 hr_199 => ?_)
            have hOr_199 : (r_199 : Int32).toInt = yOf S d_184 h0 (v_21 : Int32).toInt.toNat 7 := by rw [hr_199, show (7 : Int32).toInt.toNat = 7 by decide +kernel]; rfl
            refine lv_i2l hx hb dX9_walk_245 rfl ?_
            refine lv_topl (fun z_200 ez_200 => ?_)
            refine lv_ladd hx hb dX9_walk_246 ?_
            refine lv_topl (fun z_201 ez_201 => ?_)
            refine lv_lstore (lv' := [(13, .long z_201), (12, .int v_21), (10, .long v_20), (8, .long v_19), (6, .long z_7), (0, .ref h0), (2, .int p1), (3, .int p2), (4, .int p3), (5, .int p4)]) hx hb dX9_walk_247 hl (by decide) rfl (fun ls hl => ?_)
            refine lv_aload_n hx hb dX9_walk_249 rfl (lv_at hl 5 rfl) ?_
            refine yget (ci := 9) (k := 45) (v := .ref (S.2.2.1 h0 45)) (C := RX9) (T := TX9) (N := 67) C0 hK hP hm_h0 hk_h0 (by decide) rfl inlX9 (by decide) mW150 (fun _ h9 => h9) rfl dX9_walk_250 ?_
            refine lv_iload hx hb dX9_walk_253 (lv_at hl 1 rfl) ?_
            refine yald C0 hK hP hmy_145 hky_145 (by decide) rfl 0 rfl (xinT 8 rfl (by omega) (by omega)) dX9_walk_255 ?_
            refine lv_topi (fun z_202 ez_202 => ?_)
            have hvz_202 : 0 ≤ (z_202 : Int32).toInt ∧ (z_202 : Int32).toInt ≤ 129600 := by rw [ez_202]; exact yMI.to_ hId_184 _
            refine lv_i2l hx hb dX9_walk_256 rfl ?_
            refine lv_topl (fun z_203 ez_203 => ?_)
            refine lv_aload_n hx hb dX9_walk_257 rfl (lv_at hl 5 rfl) ?_
            refine lv_iload hx hb dX9_walk_258 (lv_at hl 1 rfl) ?_
            refine lv_bipush (v := 7) hx hb dX9_walk_260 (by decide) ?_
            refine yVri (As := [.int v_21, .int 7]) (rest := [.long z_203]) C0 (g_X9_of l G S d_184 h0 v_21 7 hSh hm_h0 hk_h0 (by refine ⟨?_, ?_⟩ <;> omega) (by decide +kernel)) ok_X9_of (mW425 : Cond.methodLink RX9 161 yX9_of ∈ wsT) ⟨Nat.le_of_ble_eq_true rfl, Nat.le_of_ble_eq_true rfl⟩ hP hD hK hN hm_h0 hk_h0 (by decide) rfl rfl rfl hl.1 rfl (Nat.le_of_ble_eq_true rfl) ⟨Nat.le_of_ble_eq_true rfl, Nat.le_of_ble_eq_true rfl⟩ dX9_walk_262 (fun r_204 hr_204 => ?_)
            have hOr_204 : (r_204 : Int32).toInt = yOf S d_184 h0 (v_21 : Int32).toInt.toNat 7 := by rw [hr_204, show (7 : Int32).toInt.toNat = 7 by decide +kernel]; rfl
            refine lv_i2l hx hb dX9_walk_265 rfl ?_
            refine lv_topl (fun z_205 ez_205 => ?_)
            refine lv_ladd hx hb dX9_walk_266 ?_
            refine lv_topl (fun z_206 ez_206 => ?_)
            refine lv_lstore (lv' := [(15, .long z_206), (13, .long z_201), (12, .int v_21), (10, .long v_20), (8, .long v_19), (6, .long z_7), (0, .ref h0), (2, .int p1), (3, .int p2), (4, .int p3), (5, .int p4)]) hx hb dX9_walk_267 hl (by decide) rfl (fun ls hl => ?_)
            refine lv_lload hx hb dX9_walk_269 (lv_at hl 1 rfl) ?_
            refine lv_lload hx hb dX9_walk_271 (lv_at hl 4 rfl) ?_
            refine W.lcmp hx hb dX9_walk_273 ?_
            refine lv_topi (fun z_207 ez_207 => ?_)
            refine yjoinR (σ := Int64) 284 (fun x ls st => st = [.long x] ∧ lv_has ls 17 [(15, .long z_206), (12, .int v_21), (10, .long v_20), (6, .long z_7), (0, .ref h0), (2, .int p1), (3, .int p2), (4, .int p3), (5, .int p4)]) (fun x ls st hI => ?_) (fun J284_208 => ?_)
            · obtain ⟨v_208, rfl⟩ : ∃ z, z = x := ⟨_, rfl⟩
              obtain ⟨rfl, hl⟩ := hI
              have hl : lv_has ls 17 [(15, .long z_206), (12, .int v_21), (10, .long v_20), (6, .long z_7), (0, .ref h0), (2, .int p1), (3, .int p2), (4, .int p3), (5, .int p4)] := hl
              refine lv_lstore (lv' := [(8, .long v_208), (15, .long z_206), (12, .int v_21), (10, .long v_20), (6, .long z_7), (0, .ref h0), (2, .int p1), (3, .int p2), (4, .int p3), (5, .int p4)]) hx hb dX9_walk_284 hl (by decide) rfl (fun ls hl => ?_)
              refine lv_lload hx hb dX9_walk_286 (lv_at hl 1 rfl) ?_
              refine lv_lload hx hb dX9_walk_288 (lv_at hl 3 rfl) ?_
              refine W.lcmp hx hb dX9_walk_290 ?_
              refine lv_topi (fun z_209 ez_209 => ?_)
              refine lv_if_le (tgt := 299) hx hb dX9_walk_291 (by decide) (fun c_210 => ?_) (fun c_210 => ?_)
              · refine lv_lload hx hb dX9_walk_299 (lv_at hl 3 rfl) ?_
                refine lv_lstore (lv' := [(10, .long v_20), (8, .long v_208), (15, .long z_206), (12, .int v_21), (6, .long z_7), (0, .ref h0), (2, .int p1), (3, .int p2), (4, .int p3), (5, .int p4)]) hx hb dX9_walk_301 hl (by decide) rfl (fun ls hl => ?_)
                refine lv_iinc (v := v_21 + 1) (lv' := [(12, .int (v_21 + 1)), (10, .long v_20), (8, .long v_208), (15, .long z_206), (6, .long z_7), (0, .ref h0), (2, .int p1), (3, .int p2), (4, .int p3), (5, .int p4)]) hx hb dX9_walk_303 hl (k := 3) rfl rfl (by decide) rfl (fun ls hl => ?_)
                refine lv_goto (tgt := 80) hx hb dX9_walk_306 (by decide) ?_
                have T_212 : ((v_21 + 1) : Int32).toInt = (v_21 : Int32).toInt + 1 := tadd rfl (rfl : (v_21 : Int32).toInt = (v_21 : Int32).toInt) (by decide +kernel : (1 : Int32).toInt = 1) (by omega) (by omega)
                exact hnext_23 (v_208, v_20, v_21 + 1, d_184) _ _ ls (xup c_25) ⟨hP, hD, hS, hgd_184, hPod_184, hfd_184, hId_184, hL0d_184, hK0d_184, (show (0 ≤ (((v_21 + 1)) : Int32).toInt) from by have hq0_ : (0 : Int32).toInt = 0 := (by decide +kernel); omega), lv_sub hl [0, 1, 2, 4, 5, 6, 7, 8, 9] rfl⟩
              · refine lv_lload hx hb dX9_walk_294 (lv_at hl 1 rfl) ?_
                refine lv_goto (tgt := 301) hx hb dX9_walk_296 (by decide) ?_
                refine lv_lstore (lv' := [(10, .long z_206), (8, .long v_208), (15, .long z_206), (12, .int v_21), (6, .long z_7), (0, .ref h0), (2, .int p1), (3, .int p2), (4, .int p3), (5, .int p4)]) hx hb dX9_walk_301 hl (by decide) rfl (fun ls hl => ?_)
                refine lv_iinc (v := v_21 + 1) (lv' := [(12, .int (v_21 + 1)), (10, .long z_206), (8, .long v_208), (15, .long z_206), (6, .long z_7), (0, .ref h0), (2, .int p1), (3, .int p2), (4, .int p3), (5, .int p4)]) hx hb dX9_walk_303 hl (k := 3) rfl rfl (by decide) rfl (fun ls hl => ?_)
                refine lv_goto (tgt := 80) hx hb dX9_walk_306 (by decide) ?_
                have T_214 : ((v_21 + 1) : Int32).toInt = (v_21 : Int32).toInt + 1 := tadd rfl (rfl : (v_21 : Int32).toInt = (v_21 : Int32).toInt) (by decide +kernel : (1 : Int32).toInt = 1) (by omega) (by omega)
                exact hnext_23 (v_208, z_206, v_21 + 1, d_184) _ _ ls (xup c_25) ⟨hP, hD, hS, hgd_184, hPod_184, hfd_184, hId_184, hL0d_184, hK0d_184, (show (0 ≤ (((v_21 + 1)) : Int32).toInt) from by have hq0_ : (0 : Int32).toInt = 0 := (by decide +kernel); omega), lv_sub hl [0, 1, 2, 4, 5, 6, 7, 8, 9] rfl⟩
            refine lv_if_ge (tgt := 282) hx hb dX9_walk_274 (by decide) (fun c_215 => ?_) (fun c_215 => ?_)
            · refine lv_lload hx hb dX9_walk_282 (lv_at hl 4 rfl) ?_
              exact J284_208 v_19 ls _ ⟨rfl, lv_sub hl [0, 2, 3, 5, 6, 7, 8, 9, 10] rfl⟩
            · refine lv_lload hx hb dX9_walk_277 (lv_at hl 1 rfl) ?_
              refine lv_goto (tgt := 284) hx hb dX9_walk_279 (by decide) ?_
              exact J284_208 z_201 ls _ ⟨rfl, lv_sub hl [0, 2, 3, 5, 6, 7, 8, 9, 10] rfl⟩
        · refine lv_goto (tgt := 303) hx hb dX9_walk_133 (by decide) ?_
          refine lv_iinc (v := v_21 + 1) (lv' := [(12, .int (v_21 + 1)), (10, .long v_20), (8, .long v_19), (6, .long z_7), (0, .ref h0), (2, .int p1), (3, .int p2), (4, .int p3), (5, .int p4)]) hx hb dX9_walk_303 hl (k := 0) rfl rfl (by decide) rfl (fun ls hl => ?_)
          refine lv_goto (tgt := 80) hx hb dX9_walk_306 (by decide) ?_
          have hCC_217 := yMI.c hId_147
          have F_218 := feq (rfl : (r_162 : Int32).toInt = (r_162 : Int32).toInt) (by decide +kernel : (0 : Int32).toInt = 0) c_163
          have T_219 : ((v_21 + 1) : Int32).toInt = (v_21 : Int32).toInt + 1 := tadd rfl (rfl : (v_21 : Int32).toInt = (v_21 : Int32).toInt) (by decide +kernel : (1 : Int32).toInt = 1) (by omega) (by omega)
          exact hnext_23 (v_19, v_20, v_21 + 1, d_147) _ _ ls (xup c_25) ⟨hP, hD, hS, hgd_147, hPod_147, hfd_147, hId_147, hL0d_147, hK0d_147, (show (0 ≤ (((v_21 + 1)) : Int32).toInt) from by have hq0_ : (0 : Int32).toInt = 0 := (by decide +kernel); omega), lv_sub hl [0, 1, 2, 3, 4, 5, 6, 7, 8] rfl⟩
