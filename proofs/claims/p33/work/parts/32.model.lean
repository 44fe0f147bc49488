theorem dX9_image_0 : decode cX9_image 0 = .ok (.aload_n 0, 1) := by decide +kernel
theorem dX9_image_1 : decode cX9_image 1 = .ok (.iconst 0, 1) := by decide +kernel
theorem dX9_image_2 : decode cX9_image 2 = .ok (.putfield 147, 3) := by decide +kernel
theorem dX9_image_5 : decode cX9_image 5 = .ok (.aload_n 0, 1) := by decide +kernel
theorem dX9_image_6 : decode cX9_image 6 = .ok (.iconst 1, 1) := by decide +kernel
theorem dX9_image_7 : decode cX9_image 7 = .ok (.putfield 367, 3) := by decide +kernel
theorem dX9_image_10 : decode cX9_image 10 = .ok (.aload_n 0, 1) := by decide +kernel
theorem dX9_image_11 : decode cX9_image 11 = .ok (.getfield 66, 3) := by decide +kernel
theorem dX9_image_14 : decode cX9_image 14 = .ok (.iconst 0, 1) := by decide +kernel
theorem dX9_image_15 : decode cX9_image 15 = .ok (.aload_n 0, 1) := by decide +kernel
theorem dX9_image_16 : decode cX9_image 16 = .ok (.getfield 150, 3) := by decide +kernel
theorem dX9_image_19 : decode cX9_image 19 = .ok (.iastore, 1) := by decide +kernel
theorem dX9_image_20 : decode cX9_image 20 = .ok (.aload_n 0, 1) := by decide +kernel
theorem dX9_image_21 : decode cX9_image 21 = .ok (.getfield 66, 3) := by decide +kernel
theorem dX9_image_24 : decode cX9_image 24 = .ok (.iconst 1, 1) := by decide +kernel
theorem dX9_image_25 : decode cX9_image 25 = .ok (.aload_n 0, 1) := by decide +kernel
theorem dX9_image_26 : decode cX9_image 26 = .ok (.getfield 180, 3) := by decide +kernel
theorem dX9_image_29 : decode cX9_image 29 = .ok (.iastore, 1) := by decide +kernel
theorem dX9_image_30 : decode cX9_image 30 = .ok (.aload_n 0, 1) := by decide +kernel
theorem dX9_image_31 : decode cX9_image 31 = .ok (.getfield 66, 3) := by decide +kernel
theorem dX9_image_34 : decode cX9_image 34 = .ok (.iconst 2, 1) := by decide +kernel
theorem dX9_image_35 : decode cX9_image 35 = .ok (.aload_n 0, 1) := by decide +kernel
theorem dX9_image_36 : decode cX9_image 36 = .ok (.getfield 326, 3) := by decide +kernel
theorem dX9_image_39 : decode cX9_image 39 = .ok (.iastore, 1) := by decide +kernel
theorem dX9_image_40 : decode cX9_image 40 = .ok (.aload_n 0, 1) := by decide +kernel
theorem dX9_image_41 : decode cX9_image 41 = .ok (.getfield 66, 3) := by decide +kernel
theorem dX9_image_44 : decode cX9_image 44 = .ok (.iconst 3, 1) := by decide +kernel
theorem dX9_image_45 : decode cX9_image 45 = .ok (.aload_n 0, 1) := by decide +kernel
theorem dX9_image_46 : decode cX9_image 46 = .ok (.getfield 7, 3) := by decide +kernel
theorem dX9_image_49 : decode cX9_image 49 = .ok (.iastore, 1) := by decide +kernel
theorem dX9_image_50 : decode cX9_image 50 = .ok (.iconst 0, 1) := by decide +kernel
theorem dX9_image_51 : decode cX9_image 51 = .ok (.istore_n 1, 1) := by decide +kernel
theorem dX9_image_52 : decode cX9_image 52 = .ok (.iload_n 1, 1) := by decide +kernel
theorem dX9_image_53 : decode cX9_image 53 = .ok (.sipush 2400, 3) := by decide +kernel
theorem dX9_image_56 : decode cX9_image 56 = .ok (.if_icmp .ge 93, 3) := by decide +kernel
theorem dX9_image_59 : decode cX9_image 59 = .ok (.aload_n 0, 1) := by decide +kernel
theorem dX9_image_60 : decode cX9_image 60 = .ok (.getfield 69, 3) := by decide +kernel
theorem dX9_image_63 : decode cX9_image 63 = .ok (.iload_n 1, 1) := by decide +kernel
theorem dX9_image_64 : decode cX9_image 64 = .ok (.aload_n 0, 1) := by decide +kernel
theorem dX9_image_65 : decode cX9_image 65 = .ok (.getfield 13, 3) := by decide +kernel
theorem dX9_image_68 : decode cX9_image 68 = .ok (.iload_n 1, 1) := by decide +kernel
theorem dX9_image_69 : decode cX9_image 69 = .ok (.baload, 1) := by decide +kernel
theorem dX9_image_70 : decode cX9_image 70 = .ok (.bastore, 1) := by decide +kernel
theorem dX9_image_71 : decode cX9_image 71 = .ok (.aload_n 0, 1) := by decide +kernel
theorem dX9_image_72 : decode cX9_image 72 = .ok (.getfield 72, 3) := by decide +kernel
theorem dX9_image_75 : decode cX9_image 75 = .ok (.iload_n 1, 1) := by decide +kernel
theorem dX9_image_76 : decode cX9_image 76 = .ok (.aload_n 0, 1) := by decide +kernel
theorem dX9_image_77 : decode cX9_image 77 = .ok (.getfield 17, 3) := by decide +kernel
theorem dX9_image_80 : decode cX9_image 80 = .ok (.iload_n 1, 1) := by decide +kernel
theorem dX9_image_81 : decode cX9_image 81 = .ok (.baload, 1) := by decide +kernel
theorem dX9_image_82 : decode cX9_image 82 = .ok (.bastore, 1) := by decide +kernel
theorem dX9_image_83 : decode cX9_image 83 = .ok (.aload_n 0, 1) := by decide +kernel
theorem dX9_image_84 : decode cX9_image 84 = .ok (.getfield 75, 3) := by decide +kernel
theorem dX9_image_87 : decode cX9_image 87 = .ok (.iload_n 1, 1) := by decide +kernel
theorem dX9_image_88 : decode cX9_image 88 = .ok (.aload_n 0, 1) := by decide +kernel
theorem dX9_image_89 : decode cX9_image 89 = .ok (.getfield 20, 3) := by decide +kernel
theorem dX9_image_92 : decode cX9_image 92 = .ok (.iload_n 1, 1) := by decide +kernel
theorem dX9_image_93 : decode cX9_image 93 = .ok (.baload, 1) := by decide +kernel
theorem dX9_image_94 : decode cX9_image 94 = .ok (.bastore, 1) := by decide +kernel
theorem dX9_image_95 : decode cX9_image 95 = .ok (.aload_n 0, 1) := by decide +kernel
theorem dX9_image_96 : decode cX9_image 96 = .ok (.getfield 78, 3) := by decide +kernel
theorem dX9_image_99 : decode cX9_image 99 = .ok (.iload_n 1, 1) := by decide +kernel
theorem dX9_image_100 : decode cX9_image 100 = .ok (.aload_n 0, 1) := by decide +kernel
theorem dX9_image_101 : decode cX9_image 101 = .ok (.getfield 23, 3) := by decide +kernel
theorem dX9_image_104 : decode cX9_image 104 = .ok (.iload_n 1, 1) := by decide +kernel
theorem dX9_image_105 : decode cX9_image 105 = .ok (.iaload, 1) := by decide +kernel
theorem dX9_image_106 : decode cX9_image 106 = .ok (.iastore, 1) := by decide +kernel
theorem dX9_image_107 : decode cX9_image 107 = .ok (.aload_n 0, 1) := by decide +kernel
theorem dX9_image_108 : decode cX9_image 108 = .ok (.getfield 81, 3) := by decide +kernel
theorem dX9_image_111 : decode cX9_image 111 = .ok (.iload_n 1, 1) := by decide +kernel
theorem dX9_image_112 : decode cX9_image 112 = .ok (.aload_n 0, 1) := by decide +kernel
theorem dX9_image_113 : decode cX9_image 113 = .ok (.getfield 27, 3) := by decide +kernel
theorem dX9_image_116 : decode cX9_image 116 = .ok (.iload_n 1, 1) := by decide +kernel
theorem dX9_image_117 : decode cX9_image 117 = .ok (.iaload, 1) := by decide +kernel
theorem dX9_image_118 : decode cX9_image 118 = .ok (.iastore, 1) := by decide +kernel
theorem dX9_image_119 : decode cX9_image 119 = .ok (.aload_n 0, 1) := by decide +kernel
theorem dX9_image_120 : decode cX9_image 120 = .ok (.getfield 84, 3) := by decide +kernel
theorem dX9_image_123 : decode cX9_image 123 = .ok (.iload_n 1, 1) := by decide +kernel
theorem dX9_image_124 : decode cX9_image 124 = .ok (.aload_n 0, 1) := by decide +kernel
theorem dX9_image_125 : decode cX9_image 125 = .ok (.getfield 30, 3) := by decide +kernel
theorem dX9_image_128 : decode cX9_image 128 = .ok (.iload_n 1, 1) := by decide +kernel
theorem dX9_image_129 : decode cX9_image 129 = .ok (.baload, 1) := by decide +kernel
theorem dX9_image_130 : decode cX9_image 130 = .ok (.bastore, 1) := by decide +kernel
theorem dX9_image_131 : decode cX9_image 131 = .ok (.aload_n 0, 1) := by decide +kernel
theorem dX9_image_132 : decode cX9_image 132 = .ok (.getfield 87, 3) := by decide +kernel
theorem dX9_image_135 : decode cX9_image 135 = .ok (.iload_n 1, 1) := by decide +kernel
theorem dX9_image_136 : decode cX9_image 136 = .ok (.aload_n 0, 1) := by decide +kernel
theorem dX9_image_137 : decode cX9_image 137 = .ok (.getfield 33, 3) := by decide +kernel
theorem dX9_image_140 : decode cX9_image 140 = .ok (.iload_n 1, 1) := by decide +kernel
theorem dX9_image_141 : decode cX9_image 141 = .ok (.iaload, 1) := by decide +kernel
theorem dX9_image_142 : decode cX9_image 142 = .ok (.iastore, 1) := by decide +kernel
theorem dX9_image_143 : decode cX9_image 143 = .ok (.iinc 1 1, 3) := by decide +kernel
theorem dX9_image_146 : decode cX9_image 146 = .ok (.goto (-94), 3) := by decide +kernel
theorem dX9_image_149 : decode cX9_image 149 = .ok (.iconst 0, 1) := by decide +kernel
theorem dX9_image_150 : decode cX9_image 150 = .ok (.istore_n 1, 1) := by decide +kernel
theorem dX9_image_151 : decode cX9_image 151 = .ok (.iload_n 1, 1) := by decide +kernel
theorem dX9_image_152 : decode cX9_image 152 = .ok (.bipush 96, 2) := by decide +kernel
theorem dX9_image_154 : decode cX9_image 154 = .ok (.if_icmp .ge 21, 3) := by decide +kernel
theorem dX9_image_157 : decode cX9_image 157 = .ok (.aload_n 0, 1) := by decide +kernel
theorem dX9_image_158 : decode cX9_image 158 = .ok (.getfield 90, 3) := by decide +kernel
theorem dX9_image_161 : decode cX9_image 161 = .ok (.iload_n 1, 1) := by decide +kernel
theorem dX9_image_162 : decode cX9_image 162 = .ok (.aload_n 0, 1) := by decide +kernel
theorem dX9_image_163 : decode cX9_image 163 = .ok (.getfield 36, 3) := by decide +kernel
theorem dX9_image_166 : decode cX9_image 166 = .ok (.iload_n 1, 1) := by decide +kernel
theorem dX9_image_167 : decode cX9_image 167 = .ok (.laload, 1) := by decide +kernel
theorem dX9_image_168 : decode cX9_image 168 = .ok (.lastore, 1) := by decide +kernel
theorem dX9_image_169 : decode cX9_image 169 = .ok (.iinc 1 1, 3) := by decide +kernel
theorem dX9_image_172 : decode cX9_image 172 = .ok (.goto (-21), 3) := by decide +kernel
theorem dX9_image_175 : decode cX9_image 175 = .ok (.iconst 0, 1) := by decide +kernel
theorem dX9_image_176 : decode cX9_image 176 = .ok (.istore_n 1, 1) := by decide +kernel
theorem dX9_image_177 : decode cX9_image 177 = .ok (.iload_n 1, 1) := by decide +kernel
theorem dX9_image_178 : decode cX9_image 178 = .ok (.sipush 720, 3) := by decide +kernel
theorem dX9_image_181 : decode cX9_image 181 = .ok (.if_icmp .ge 45, 3) := by decide +kernel
theorem dX9_image_184 : decode cX9_image 184 = .ok (.aload_n 0, 1) := by decide +kernel
theorem dX9_image_185 : decode cX9_image 185 = .ok (.getfield 93, 3) := by decide +kernel
theorem dX9_image_188 : decode cX9_image 188 = .ok (.iload_n 1, 1) := by decide +kernel
theorem dX9_image_189 : decode cX9_image 189 = .ok (.aload_n 0, 1) := by decide +kernel
theorem dX9_image_190 : decode cX9_image 190 = .ok (.getfield 40, 3) := by decide +kernel
theorem dX9_image_193 : decode cX9_image 193 = .ok (.iload_n 1, 1) := by decide +kernel
theorem dX9_image_194 : decode cX9_image 194 = .ok (.saload, 1) := by decide +kernel
theorem dX9_image_195 : decode cX9_image 195 = .ok (.sastore, 1) := by decide +kernel
theorem dX9_image_196 : decode cX9_image 196 = .ok (.aload_n 0, 1) := by decide +kernel
theorem dX9_image_197 : decode cX9_image 197 = .ok (.getfield 96, 3) := by decide +kernel
theorem dX9_image_200 : decode cX9_image 200 = .ok (.iload_n 1, 1) := by decide +kernel
theorem dX9_image_201 : decode cX9_image 201 = .ok (.aload_n 0, 1) := by decide +kernel
theorem dX9_image_202 : decode cX9_image 202 = .ok (.getfield 44, 3) := by decide +kernel
theorem dX9_image_205 : decode cX9_image 205 = .ok (.iload_n 1, 1) := by decide +kernel
theorem dX9_image_206 : decode cX9_image 206 = .ok (.baload, 1) := by decide +kernel
theorem dX9_image_207 : decode cX9_image 207 = .ok (.bastore, 1) := by decide +kernel
theorem dX9_image_208 : decode cX9_image 208 = .ok (.aload_n 0, 1) := by decide +kernel
theorem dX9_image_209 : decode cX9_image 209 = .ok (.getfield 99, 3) := by decide +kernel
theorem dX9_image_212 : decode cX9_image 212 = .ok (.iload_n 1, 1) := by decide +kernel
theorem dX9_image_213 : decode cX9_image 213 = .ok (.aload_n 0, 1) := by decide +kernel
theorem dX9_image_214 : decode cX9_image 214 = .ok (.getfield 48, 3) := by decide +kernel
theorem dX9_image_217 : decode cX9_image 217 = .ok (.iload_n 1, 1) := by decide +kernel
theorem dX9_image_218 : decode cX9_image 218 = .ok (.baload, 1) := by decide +kernel
theorem dX9_image_219 : decode cX9_image 219 = .ok (.bastore, 1) := by decide +kernel
theorem dX9_image_220 : decode cX9_image 220 = .ok (.iinc 1 1, 3) := by decide +kernel
theorem dX9_image_223 : decode cX9_image 223 = .ok (.goto (-46), 3) := by decide +kernel
theorem dX9_image_226 : decode cX9_image 226 = .ok (.iconst 0, 1) := by decide +kernel
theorem dX9_image_227 : decode cX9_image 227 = .ok (.istore_n 1, 1) := by decide +kernel
theorem dX9_image_228 : decode cX9_image 228 = .ok (.iload_n 1, 1) := by decide +kernel
theorem dX9_image_229 : decode cX9_image 229 = .ok (.sipush 5000, 3) := by decide +kernel
theorem dX9_image_232 : decode cX9_image 232 = .ok (.if_icmp .ge 45, 3) := by decide +kernel
theorem dX9_image_235 : decode cX9_image 235 = .ok (.aload_n 0, 1) := by decide +kernel
theorem dX9_image_236 : decode cX9_image 236 = .ok (.getfield 102, 3) := by decide +kernel
theorem dX9_image_239 : decode cX9_image 239 = .ok (.iload_n 1, 1) := by decide +kernel
theorem dX9_image_240 : decode cX9_image 240 = .ok (.aload_n 0, 1) := by decide +kernel
theorem dX9_image_241 : decode cX9_image 241 = .ok (.getfield 51, 3) := by decide +kernel
theorem dX9_image_244 : decode cX9_image 244 = .ok (.iload_n 1, 1) := by decide +kernel
theorem dX9_image_245 : decode cX9_image 245 = .ok (.baload, 1) := by decide +kernel
theorem dX9_image_246 : decode cX9_image 246 = .ok (.bastore, 1) := by decide +kernel
theorem dX9_image_247 : decode cX9_image 247 = .ok (.aload_n 0, 1) := by decide +kernel
theorem dX9_image_248 : decode cX9_image 248 = .ok (.getfield 105, 3) := by decide +kernel
theorem dX9_image_251 : decode cX9_image 251 = .ok (.iload_n 1, 1) := by decide +kernel
theorem dX9_image_252 : decode cX9_image 252 = .ok (.aload_n 0, 1) := by decide +kernel
theorem dX9_image_253 : decode cX9_image 253 = .ok (.getfield 54, 3) := by decide +kernel
theorem dX9_image_256 : decode cX9_image 256 = .ok (.iload_n 1, 1) := by decide +kernel
theorem dX9_image_257 : decode cX9_image 257 = .ok (.iaload, 1) := by decide +kernel
theorem dX9_image_258 : decode cX9_image 258 = .ok (.iastore, 1) := by decide +kernel
theorem dX9_image_259 : decode cX9_image 259 = .ok (.aload_n 0, 1) := by decide +kernel
theorem dX9_image_260 : decode cX9_image 260 = .ok (.getfield 108, 3) := by decide +kernel
theorem dX9_image_263 : decode cX9_image 263 = .ok (.iload_n 1, 1) := by decide +kernel
theorem dX9_image_264 : decode cX9_image 264 = .ok (.aload_n 0, 1) := by decide +kernel
theorem dX9_image_265 : decode cX9_image 265 = .ok (.getfield 57, 3) := by decide +kernel
theorem dX9_image_268 : decode cX9_image 268 = .ok (.iload_n 1, 1) := by decide +kernel
theorem dX9_image_269 : decode cX9_image 269 = .ok (.baload, 1) := by decide +kernel
theorem dX9_image_270 : decode cX9_image 270 = .ok (.bastore, 1) := by decide +kernel
theorem dX9_image_271 : decode cX9_image 271 = .ok (.iinc 1 1, 3) := by decide +kernel
theorem dX9_image_274 : decode cX9_image 274 = .ok (.goto (-46), 3) := by decide +kernel
theorem dX9_image_277 : decode cX9_image 277 = .ok (.iconst 0, 1) := by decide +kernel
theorem dX9_image_278 : decode cX9_image 278 = .ok (.istore_n 1, 1) := by decide +kernel
theorem dX9_image_279 : decode cX9_image 279 = .ok (.iload_n 1, 1) := by decide +kernel
theorem dX9_image_280 : decode cX9_image 280 = .ok (.sipush 500, 3) := by decide +kernel
theorem dX9_image_283 : decode cX9_image 283 = .ok (.if_icmp .ge 33, 3) := by decide +kernel
theorem dX9_image_286 : decode cX9_image 286 = .ok (.aload_n 0, 1) := by decide +kernel
theorem dX9_image_287 : decode cX9_image 287 = .ok (.getfield 111, 3) := by decide +kernel
theorem dX9_image_290 : decode cX9_image 290 = .ok (.iload_n 1, 1) := by decide +kernel
theorem dX9_image_291 : decode cX9_image 291 = .ok (.aload_n 0, 1) := by decide +kernel
theorem dX9_image_292 : decode cX9_image 292 = .ok (.getfield 60, 3) := by decide +kernel
theorem dX9_image_295 : decode cX9_image 295 = .ok (.iload_n 1, 1) := by decide +kernel
theorem dX9_image_296 : decode cX9_image 296 = .ok (.iaload, 1) := by decide +kernel
theorem dX9_image_297 : decode cX9_image 297 = .ok (.iastore, 1) := by decide +kernel
theorem dX9_image_298 : decode cX9_image 298 = .ok (.aload_n 0, 1) := by decide +kernel
theorem dX9_image_299 : decode cX9_image 299 = .ok (.getfield 114, 3) := by decide +kernel
theorem dX9_image_302 : decode cX9_image 302 = .ok (.iload_n 1, 1) := by decide +kernel
theorem dX9_image_303 : decode cX9_image 303 = .ok (.aload_n 0, 1) := by decide +kernel
theorem dX9_image_304 : decode cX9_image 304 = .ok (.getfield 63, 3) := by decide +kernel
theorem dX9_image_307 : decode cX9_image 307 = .ok (.iload_n 1, 1) := by decide +kernel
theorem dX9_image_308 : decode cX9_image 308 = .ok (.baload, 1) := by decide +kernel
theorem dX9_image_309 : decode cX9_image 309 = .ok (.bastore, 1) := by decide +kernel
theorem dX9_image_310 : decode cX9_image 310 = .ok (.iinc 1 1, 3) := by decide +kernel
theorem dX9_image_313 : decode cX9_image 313 = .ok (.goto (-34), 3) := by decide +kernel
theorem dX9_image_316 : decode cX9_image 316 = .ok (.iconst 1, 1) := by decide +kernel
theorem dX9_image_317 : decode cX9_image 317 = .ok (.ireturn, 1) := by decide +kernel
set_option maxHeartbeats 4000000 in
set_option maxRecDepth 100000 in
theorem g_X9_image (l : Launch) (G : xG) (S : yS) (d : yD) (h0 : Nat) (hSh : ySh S) (hPo : yPo S d) (hm_h0 : h0 ∈ S.1) (hk_h0 : S.2.1 h0 = 9) (hI : yMI S d h0) : xWi l G yX9_image cX9_image 2 (some .boolean) 0 0 0 0 [.ref h0] (yW G S d) (fun r (u : yD) => yAg S [9, 51, 52, 53, 54, 55, 56, 57, 58, 59, 60, 61, 62, 63, 64, 65, 66, 67] d u ∧ (yPo S d → yPo S u) ∧ yK [20, 38] d u h0 ∧ (yMI S u h0 ∧ (u.1 h0 20 = 1 ∧ u.2.2.2.1 (S.2.2.1 h0 21) 0 = d.1 h0 0 ∧ u.1 h0 0 = d.1 h0 0 ∧ r = 1) ∧ u.2.2.2.1 (S.2.2.1 h0 21) 2 = d.1 h0 2 ∧ u.2.2.2.1 (S.2.2.1 h0 21) 3 = d.1 h0 3 ∧ (∀ j : Nat, j < 96 → u.2.2.2.2 (S.2.2.1 h0 29) j = d.2.2.2.2 (S.2.2.1 h0 11) j) ∧ ∀ s, 4 ≤ s → s ≤ 10 → ∀ j : Nat, j < 2400 → u.2.2.2.1 (S.2.2.1 h0 (s + 18)) j = zNr s (d.2.2.2.1 (S.2.2.1 h0 s) j))) (fun u => yW G S u) := by
  intro sz
  refine xstart (by decide) (Nat.le_of_ble_eq_true rfl) (fun p e s m args below meth c ls C0 hr hlocks hin hsz hP hK hD hN hl => ?_)
  obtain ⟨hx, hb, hml, hown, htl⟩ := id C0
  subst hsz
  have hD := hD.self (sz := s.heap.size)
  generalize hAe : va_A (yW G S d) s.heap.size = A at hD ⊢
  have hA : ∀ q : Nat, s.heap.size ≤ q → A q := fun q h => by rw [← hAe]; exact Or.inr h
  have hS : va_S A s.heap s.heap [] := va_S.rf
  have hg0 : yAg S [9, 51, 52, 53, 54, 55, 56, 57, 58, 59, 60, 61, 62, 63, 64, 65, 66, 67] d d := yAg.rf
  have hl : lv_has ls 2 [(0, .ref h0)] := hl
  refine lv_aload_n hx hb dX9_image_0 rfl (lv_at hl 0 rfl) ?_
  refine lv_iconst (v := 0) hx hb dX9_image_1 (by decide) ?_
  refine yputI (ci := 9) (k := 38) (ty := .int) (C := RX9) (T := TX9) (N := 67) C0 hK hP hD hS hm_h0 hk_h0 (by decide) rfl inlX9 tyX9 tyX9_ok nmX9 (by decide) mW175 (fun _ h9 => h9) rfl (by decide +kernel) rfl rfl (Nat.le_of_ble_eq_true rfl) ysi_9_38 dX9_image_2 (fun H locs hP hD hS => ?_)
  obtain ⟨d_1, ed_1⟩ : ∃ z : yD, z = yi d h0 38 0 := ⟨_, rfl⟩
  rw [← ed_1] at hP hD
  have hgd_1 : yAg S [9, 51, 52, 53, 54, 55, 56, 57, 58, 59, 60, 61, 62, 63, 64, 65, 66, 67] d d_1 := by rw [ed_1]; exact yAg.i hg0 (by rw [hk_h0]; decide)
  have hsd_1 : yAg S [9] d d_1 := by rw [ed_1]; exact yAg.i yAg.rf (by rw [hk_h0]; decide)
  have hPod_1 : yPo S d_1 := by rw [ed_1]; exact yPo.i hPo hk_h0 (Or.inl rfl)
  have hfd_1 : yK [20, 38] d d_1 h0 := by rw [ed_1]; exact yK.i yK.rf (by decide)
  have hId_1 : yMI S d_1 h0 := yMI.ag hI hSh hm_h0 hk_h0 (show yAg S [9] d d_1 from by rw [ed_1]; exact yAg.i yAg.rf (by rw [hk_h0]; decide)) (show yK [38] d d_1 h0 from by rw [ed_1]; exact yK.i yK.rf (by decide)) (by decide) (by decide)
  have hE0d_1 : (d_1.1 h0 0).toInt = (d.1 h0 0).toInt := congrArg Int32.toInt ((show yK [38] d d_1 h0 from by rw [ed_1]; exact yK.i yK.rf (by decide)) 0 (by decide))
  have hE1d_1 : (d_1.1 h0 1).toInt = (d.1 h0 1).toInt := congrArg Int32.toInt ((show yK [38] d d_1 h0 from by rw [ed_1]; exact yK.i yK.rf (by decide)) 1 (by decide))
  have hE2d_1 : (d_1.1 h0 2).toInt = (d.1 h0 2).toInt := congrArg Int32.toInt ((show yK [38] d d_1 h0 from by rw [ed_1]; exact yK.i yK.rf (by decide)) 2 (by decide))
  have hE3d_1 : (d_1.1 h0 3).toInt = (d.1 h0 3).toInt := congrArg Int32.toInt ((show yK [38] d d_1 h0 from by rw [ed_1]; exact yK.i yK.rf (by decide)) 3 (by decide))
  have hE63d_1 : (d_1.1 h0 63).toInt = (d.1 h0 63).toInt := congrArg Int32.toInt ((show yK [38] d d_1 h0 from by rw [ed_1]; exact yK.i yK.rf (by decide)) 63 (by decide))
  refine lv_aload_n hx hb dX9_image_5 rfl (lv_at hl 0 rfl) ?_
  refine lv_iconst (v := 1) hx hb dX9_image_6 (by decide) ?_
  refine yputI (ci := 9) (k := 20) (ty := .boolean) (C := RX9) (T := TX9) (N := 67) C0 hK hP hD hS hm_h0 hk_h0 (by decide) rfl inlX9 tyX9 tyX9_ok nmX9 (by decide) mW1101 (fun _ h9 => h9) rfl (by decide +kernel) rfl rfl (Nat.le_of_ble_eq_true rfl) ysi_9_20 dX9_image_7 (fun H locs hP hD hS => ?_)
  obtain ⟨d_2, ed_2⟩ : ∃ z : yD, z = yi d_1 h0 20 1 := ⟨_, rfl⟩
  rw [← ed_2] at hP hD
  have hgd_2 : yAg S [9, 51, 52, 53, 54, 55, 56, 57, 58, 59, 60, 61, 62, 63, 64, 65, 66, 67] d d_2 := by rw [ed_2]; exact yAg.i hgd_1 (by rw [hk_h0]; decide)
  have hsd_2 : yAg S [9] d_1 d_2 := by rw [ed_2]; exact yAg.i yAg.rf (by rw [hk_h0]; decide)
  have hPod_2 : yPo S d_2 := by rw [ed_2]; exact yPo.i hPod_1 hk_h0 (Or.inr (Or.inr rfl))
  have hfd_2 : yK [20, 38] d d_2 h0 := by rw [ed_2]; exact yK.i hfd_1 (by decide)
  have hId_2 : yMI S d_2 h0 := yMI.ag hId_1 hSh hm_h0 hk_h0 (show yAg S [9] d_1 d_2 from by rw [ed_2]; exact yAg.i yAg.rf (by rw [hk_h0]; decide)) (show yK [20] d_1 d_2 h0 from by rw [ed_2]; exact yK.i yK.rf (by decide)) (by decide) (by decide)
  have hE0d_2 : (d_2.1 h0 0).toInt = (d_1.1 h0 0).toInt := congrArg Int32.toInt ((show yK [20] d_1 d_2 h0 from by rw [ed_2]; exact yK.i yK.rf (by decide)) 0 (by decide))
  have hE1d_2 : (d_2.1 h0 1).toInt = (d_1.1 h0 1).toInt := congrArg Int32.toInt ((show yK [20] d_1 d_2 h0 from by rw [ed_2]; exact yK.i yK.rf (by decide)) 1 (by decide))
  have hE2d_2 : (d_2.1 h0 2).toInt = (d_1.1 h0 2).toInt := congrArg Int32.toInt ((show yK [20] d_1 d_2 h0 from by rw [ed_2]; exact yK.i yK.rf (by decide)) 2 (by decide))
  have hE3d_2 : (d_2.1 h0 3).toInt = (d_1.1 h0 3).toInt := congrArg Int32.toInt ((show yK [20] d_1 d_2 h0 from by rw [ed_2]; exact yK.i yK.rf (by decide)) 3 (by decide))
  have hE63d_2 : (d_2.1 h0 63).toInt = (d_1.1 h0 63).toInt := congrArg Int32.toInt ((show yK [20] d_1 d_2 h0 from by rw [ed_2]; exact yK.i yK.rf (by decide)) 63 (by decide))
  refine lv_aload_n hx hb dX9_image_10 rfl (lv_at hl 0 rfl) ?_
  refine yget (ci := 9) (k := 21) (v := .ref (S.2.2.1 h0 21)) (C := RX9) (T := TX9) (N := 67) C0 hK hP hm_h0 hk_h0 (by decide) rfl inlX9 (by decide) mW127 (fun _ h9 => h9) rfl dX9_image_11 ?_
  obtain ⟨hmy_3, hky_3⟩ := ySh.f9_21 hSh _ hm_h0 hk_h0
  refine lv_iconst (v := 0) hx hb dX9_image_14 (by decide) ?_
  refine lv_aload_n hx hb dX9_image_15 rfl (lv_at hl 0 rfl) ?_
  refine yget (ci := 9) (k := 0) (v := .int (d_2.1 h0 0)) (C := RX9) (T := TX9) (N := 67) C0 hK hP hm_h0 hk_h0 (by decide) rfl inlX9 (by decide) mW176 (fun _ h9 => h9) rfl dX9_image_16 ?_
  refine lv_topi (fun z_4 ez_4 => ?_)
  refine yast C0 hK hP hD hS hmy_3 hky_3 (by decide) rfl 0 rfl (by unfold vp_in; decide +kernel) dX9_image_19 (fun H locs hP hD hS => ?_)
  obtain ⟨d_5, ed_5⟩ : ∃ z : yD, z = ycs d_2 (S.2.2.1 h0 21) (upd (d_2.2.2.2.1 (S.2.2.1 h0 21)) (0 : Int32).toNatClampNeg z_4) := ⟨_, rfl⟩
  rw [← ed_5] at hP hD
  have hgd_5 : yAg S [9, 51, 52, 53, 54, 55, 56, 57, 58, 59, 60, 61, 62, 63, 64, 65, 66, 67] d d_5 := by rw [ed_5]; exact yAg.cs hgd_2 (by rw [hky_3]; decide)
  have hsd_5 : yAg S [51] d_2 d_5 := by rw [ed_5]; exact yAg.cs yAg.rf (by rw [hky_3]; decide)
  have hPod_5 : yPo S d_5 := by rw [ed_5]; exact hPod_2
  have hfd_5 : yK [20, 38] d d_5 h0 := yK.ag hfd_2 (show yAg S [51] d_2 d_5 from by rw [ed_5]; exact yAg.cs yAg.rf (by rw [hky_3]; decide)) (by rw [hk_h0]; decide)
  have hCC_6 := yMI.c hId_2
  have T_7 : (z_4 : Int32).toInt = (d_2.1 h0 0).toInt := by rw [ez_4]
  have hId_5 : yMI S d_5 h0 := by rw [ed_5]; exact yMI.w21 hId_2 hSh hm_h0 hk_h0 (yBk.up (yMI.kp_ hId_2) (fun _ => ⟨by omega, by omega⟩) (fun e => absurd e (by decide +kernel)) (fun e => absurd e (by decide +kernel)) (fun e => absurd e (by decide +kernel)))
  have hE0d_5 : (d_5.1 h0 0).toInt = (d_2.1 h0 0).toInt := congrArg Int32.toInt ((yK.ag (F := []) yK.rf (show yAg S [51] d_2 d_5 from by rw [ed_5]; exact yAg.cs yAg.rf (by rw [hky_3]; decide)) (by rw [hk_h0]; decide)) 0 (by decide))
  have hE1d_5 : (d_5.1 h0 1).toInt = (d_2.1 h0 1).toInt := congrArg Int32.toInt ((yK.ag (F := []) yK.rf (show yAg S [51] d_2 d_5 from by rw [ed_5]; exact yAg.cs yAg.rf (by rw [hky_3]; decide)) (by rw [hk_h0]; decide)) 1 (by decide))
  have hE2d_5 : (d_5.1 h0 2).toInt = (d_2.1 h0 2).toInt := congrArg Int32.toInt ((yK.ag (F := []) yK.rf (show yAg S [51] d_2 d_5 from by rw [ed_5]; exact yAg.cs yAg.rf (by rw [hky_3]; decide)) (by rw [hk_h0]; decide)) 2 (by decide))
  have hE3d_5 : (d_5.1 h0 3).toInt = (d_2.1 h0 3).toInt := congrArg Int32.toInt ((yK.ag (F := []) yK.rf (show yAg S [51] d_2 d_5 from by rw [ed_5]; exact yAg.cs yAg.rf (by rw [hky_3]; decide)) (by rw [hk_h0]; decide)) 3 (by decide))
  have hE63d_5 : (d_5.1 h0 63).toInt = (d_2.1 h0 63).toInt := congrArg Int32.toInt ((yK.ag (F := []) yK.rf (show yAg S [51] d_2 d_5 from by rw [ed_5]; exact yAg.cs yAg.rf (by rw [hky_3]; decide)) (by rw [hk_h0]; decide)) 63 (by decide))
  refine lv_aload_n hx hb dX9_image_20 rfl (lv_at hl 0 rfl) ?_
  refine yget (ci := 9) (k := 21) (v := .ref (S.2.2.1 h0 21)) (C := RX9) (T := TX9) (N := 67) C0 hK hP hm_h0 hk_h0 (by decide) rfl inlX9 (by decide) mW127 (fun _ h9 => h9) rfl dX9_image_21 ?_
  refine lv_iconst (v := 1) hx hb dX9_image_24 (by decide) ?_
  refine lv_aload_n hx hb dX9_image_25 rfl (lv_at hl 0 rfl) ?_
  refine yget (ci := 9) (k := 1) (v := .int (d_5.1 h0 1)) (C := RX9) (T := TX9) (N := 67) C0 hK hP hm_h0 hk_h0 (by decide) rfl inlX9 (by decide) mW364 (fun _ h9 => h9) rfl dX9_image_26 ?_
  refine lv_topi (fun z_8 ez_8 => ?_)
  refine yast C0 hK hP hD hS hmy_3 hky_3 (by decide) rfl 0 rfl (by unfold vp_in; decide +kernel) dX9_image_29 (fun H locs hP hD hS => ?_)
  obtain ⟨d_9, ed_9⟩ : ∃ z : yD, z = ycs d_5 (S.2.2.1 h0 21) (upd (d_5.2.2.2.1 (S.2.2.1 h0 21)) (1 : Int32).toNatClampNeg z_8) := ⟨_, rfl⟩
  rw [← ed_9] at hP hD
  have hgd_9 : yAg S [9, 51, 52, 53, 54, 55, 56, 57, 58, 59, 60, 61, 62, 63, 64, 65, 66, 67] d d_9 := by rw [ed_9]; exact yAg.cs hgd_5 (by rw [hky_3]; decide)
  have hsd_9 : yAg S [51] d_5 d_9 := by rw [ed_9]; exact yAg.cs yAg.rf (by rw [hky_3]; decide)
  have hPod_9 : yPo S d_9 := by rw [ed_9]; exact hPod_5
  have hfd_9 : yK [20, 38] d d_9 h0 := yK.ag hfd_5 (show yAg S [51] d_5 d_9 from by rw [ed_9]; exact yAg.cs yAg.rf (by rw [hky_3]; decide)) (by rw [hk_h0]; decide)
  have hCC_10 := yMI.c hId_5
  have T_11 : (z_8 : Int32).toInt = (d_5.1 h0 1).toInt := by rw [ez_8]
  have hId_9 : yMI S d_9 h0 := by rw [ed_9]; exact yMI.w21 hId_5 hSh hm_h0 hk_h0 (yBk.up (yMI.kp_ hId_5) (fun e => absurd e (by decide +kernel)) (fun _ => ⟨by omega, by omega⟩) (fun e => absurd e (by decide +kernel)) (fun e => absurd e (by decide +kernel)))
  have hE0d_9 : (d_9.1 h0 0).toInt = (d_5.1 h0 0).toInt := congrArg Int32.toInt ((yK.ag (F := []) yK.rf (show yAg S [51] d_5 d_9 from by rw [ed_9]; exact yAg.cs yAg.rf (by rw [hky_3]; decide)) (by rw [hk_h0]; decide)) 0 (by decide))
  have hE1d_9 : (d_9.1 h0 1).toInt = (d_5.1 h0 1).toInt := congrArg Int32.toInt ((yK.ag (F := []) yK.rf (show yAg S [51] d_5 d_9 from by rw [ed_9]; exact yAg.cs yAg.rf (by rw [hky_3]; decide)) (by rw [hk_h0]; decide)) 1 (by decide))
  have hE2d_9 : (d_9.1 h0 2).toInt = (d_5.1 h0 2).toInt := congrArg Int32.toInt ((yK.ag (F := []) yK.rf (show yAg S [51] d_5 d_9 from by rw [ed_9]; exact yAg.cs yAg.rf (by rw [hky_3]; decide)) (by rw [hk_h0]; decide)) 2 (by decide))
  have hE3d_9 : (d_9.1 h0 3).toInt = (d_5.1 h0 3).toInt := congrArg Int32.toInt ((yK.ag (F := []) yK.rf (show yAg S [51] d_5 d_9 from by rw [ed_9]; exact yAg.cs yAg.rf (by rw [hky_3]; decide)) (by rw [hk_h0]; decide)) 3 (by decide))
  have hE63d_9 : (d_9.1 h0 63).toInt = (d_5.1 h0 63).toInt := congrArg Int32.toInt ((yK.ag (F := []) yK.rf (show yAg S [51] d_5 d_9 from by rw [ed_9]; exact yAg.cs yAg.rf (by rw [hky_3]; decide)) (by rw [hk_h0]; decide)) 63 (by decide))
  refine lv_aload_n hx hb dX9_image_30 rfl (lv_at hl 0 rfl) ?_
  refine yget (ci := 9) (k := 21) (v := .ref (S.2.2.1 h0 21)) (C := RX9) (T := TX9) (N := 67) C0 hK hP hm_h0 hk_h0 (by decide) rfl inlX9 (by decide) mW127 (fun _ h9 => h9) rfl dX9_image_31 ?_
  refine lv_iconst (v := 2) hx hb dX9_image_34 (by decide) ?_
  refine lv_aload_n hx hb dX9_image_35 rfl (lv_at hl 0 rfl) ?_
  refine yget (ci := 9) (k := 2) (v := .int (d_9.1 h0 2)) (C := RX9) (T := TX9) (N := 67) C0 hK hP hm_h0 hk_h0 (by decide) rfl inlX9 (by decide) mW888 (fun _ h9 => h9) rfl dX9_image_36 ?_
  refine lv_topi (fun z_12 ez_12 => ?_)
  refine yast C0 hK hP hD hS hmy_3 hky_3 (by decide) rfl 0 rfl (by unfold vp_in; decide +kernel) dX9_image_39 (fun H locs hP hD hS => ?_)
  obtain ⟨d_13, ed_13⟩ : ∃ z : yD, z = ycs d_9 (S.2.2.1 h0 21) (upd (d_9.2.2.2.1 (S.2.2.1 h0 21)) (2 : Int32).toNatClampNeg z_12) := ⟨_, rfl⟩
  rw [← ed_13] at hP hD
  have hgd_13 : yAg S [9, 51, 52, 53, 54, 55, 56, 57, 58, 59, 60, 61, 62, 63, 64, 65, 66, 67] d d_13 := by rw [ed_13]; exact yAg.cs hgd_9 (by rw [hky_3]; decide)
  have hsd_13 : yAg S [51] d_9 d_13 := by rw [ed_13]; exact yAg.cs yAg.rf (by rw [hky_3]; decide)
  have hPod_13 : yPo S d_13 := by rw [ed_13]; exact hPod_9
  have hfd_13 : yK [20, 38] d d_13 h0 := yK.ag hfd_9 (show yAg S [51] d_9 d_13 from by rw [ed_13]; exact yAg.cs yAg.rf (by rw [hky_3]; decide)) (by rw [hk_h0]; decide)
  have hCC_14 := yMI.c hId_9
  have T_15 : (z_12 : Int32).toInt = (d_9.1 h0 2).toInt := by rw [ez_12]
  have hId_13 : yMI S d_13 h0 := by rw [ed_13]; exact yMI.w21 hId_9 hSh hm_h0 hk_h0 (yBk.up (yMI.kp_ hId_9) (fun e => absurd e (by decide +kernel)) (fun e => absurd e (by decide +kernel)) (fun _ => ⟨by omega, by omega⟩) (fun e => absurd e (by decide +kernel)))
  have hE0d_13 : (d_13.1 h0 0).toInt = (d_9.1 h0 0).toInt := congrArg Int32.toInt ((yK.ag (F := []) yK.rf (show yAg S [51] d_9 d_13 from by rw [ed_13]; exact yAg.cs yAg.rf (by rw [hky_3]; decide)) (by rw [hk_h0]; decide)) 0 (by decide))
  have hE1d_13 : (d_13.1 h0 1).toInt = (d_9.1 h0 1).toInt := congrArg Int32.toInt ((yK.ag (F := []) yK.rf (show yAg S [51] d_9 d_13 from by rw [ed_13]; exact yAg.cs yAg.rf (by rw [hky_3]; decide)) (by rw [hk_h0]; decide)) 1 (by decide))
  have hE2d_13 : (d_13.1 h0 2).toInt = (d_9.1 h0 2).toInt := congrArg Int32.toInt ((yK.ag (F := []) yK.rf (show yAg S [51] d_9 d_13 from by rw [ed_13]; exact yAg.cs yAg.rf (by rw [hky_3]; decide)) (by rw [hk_h0]; decide)) 2 (by decide))
  have hE3d_13 : (d_13.1 h0 3).toInt = (d_9.1 h0 3).toInt := congrArg Int32.toInt ((yK.ag (F := []) yK.rf (show yAg S [51] d_9 d_13 from by rw [ed_13]; exact yAg.cs yAg.rf (by rw [hky_3]; decide)) (by rw [hk_h0]; decide)) 3 (by decide))
  have hE63d_13 : (d_13.1 h0 63).toInt = (d_9.1 h0 63).toInt := congrArg Int32.toInt ((yK.ag (F := []) yK.rf (show yAg S [51] d_9 d_13 from by rw [ed_13]; exact yAg.cs yAg.rf (by rw [hky_3]; decide)) (by rw [hk_h0]; decide)) 63 (by decide))
  refine lv_aload_n hx hb dX9_image_40 rfl (lv_at hl 0 rfl) ?_
  refine yget (ci := 9) (k := 21) (v := .ref (S.2.2.1 h0 21)) (C := RX9) (T := TX9) (N := 67) C0 hK hP hm_h0 hk_h0 (by decide) rfl inlX9 (by decide) mW127 (fun _ h9 => h9) rfl dX9_image_41 ?_
  refine lv_iconst (v := 3) hx hb dX9_image_44 (by decide) ?_
  refine lv_aload_n hx hb dX9_image_45 rfl (lv_at hl 0 rfl) ?_
  refine yget (ci := 9) (k := 3) (v := .int (d_13.1 h0 3)) (C := RX9) (T := TX9) (N := 67) C0 hK hP hm_h0 hk_h0 (by decide) rfl inlX9 (by decide) mW106 (fun _ h9 => h9) rfl dX9_image_46 ?_
  refine lv_topi (fun z_16 ez_16 => ?_)
  refine yast C0 hK hP hD hS hmy_3 hky_3 (by decide) rfl 0 rfl (by unfold vp_in; decide +kernel) dX9_image_49 (fun H locs hP hD hS => ?_)
  obtain ⟨d_17, ed_17⟩ : ∃ z : yD, z = ycs d_13 (S.2.2.1 h0 21) (upd (d_13.2.2.2.1 (S.2.2.1 h0 21)) (3 : Int32).toNatClampNeg z_16) := ⟨_, rfl⟩
  rw [← ed_17] at hP hD
  have hgd_17 : yAg S [9, 51, 52, 53, 54, 55, 56, 57, 58, 59, 60, 61, 62, 63, 64, 65, 66, 67] d d_17 := by rw [ed_17]; exact yAg.cs hgd_13 (by rw [hky_3]; decide)
  have hsd_17 : yAg S [51] d_13 d_17 := by rw [ed_17]; exact yAg.cs yAg.rf (by rw [hky_3]; decide)
  have hPod_17 : yPo S d_17 := by rw [ed_17]; exact hPod_13
  have hfd_17 : yK [20, 38] d d_17 h0 := yK.ag hfd_13 (show yAg S [51] d_13 d_17 from by rw [ed_17]; exact yAg.cs yAg.rf (by rw [hky_3]; decide)) (by rw [hk_h0]; decide)
  have hCC_18 := yMI.c hId_13
  have T_19 : (z_16 : Int32).toInt = (d_13.1 h0 3).toInt := by rw [ez_16]
  have hId_17 : yMI S d_17 h0 := by rw [ed_17]; exact yMI.w21 hId_13 hSh hm_h0 hk_h0 (yBk.up (yMI.kp_ hId_13) (fun e => absurd e (by decide +kernel)) (fun e => absurd e (by decide +kernel)) (fun e => absurd e (by decide +kernel)) (fun _ => ⟨by omega, by omega⟩))
  have hE0d_17 : (d_17.1 h0 0).toInt = (d_13.1 h0 0).toInt := congrArg Int32.toInt ((yK.ag (F := []) yK.rf (show yAg S [51] d_13 d_17 from by rw [ed_17]; exact yAg.cs yAg.rf (by rw [hky_3]; decide)) (by rw [hk_h0]; decide)) 0 (by decide))
  have hE1d_17 : (d_17.1 h0 1).toInt = (d_13.1 h0 1).toInt := congrArg Int32.toInt ((yK.ag (F := []) yK.rf (show yAg S [51] d_13 d_17 from by rw [ed_17]; exact yAg.cs yAg.rf (by rw [hky_3]; decide)) (by rw [hk_h0]; decide)) 1 (by decide))
  have hE2d_17 : (d_17.1 h0 2).toInt = (d_13.1 h0 2).toInt := congrArg Int32.toInt ((yK.ag (F := []) yK.rf (show yAg S [51] d_13 d_17 from by rw [ed_17]; exact yAg.cs yAg.rf (by rw [hky_3]; decide)) (by rw [hk_h0]; decide)) 2 (by decide))
  have hE3d_17 : (d_17.1 h0 3).toInt = (d_13.1 h0 3).toInt := congrArg Int32.toInt ((yK.ag (F := []) yK.rf (show yAg S [51] d_13 d_17 from by rw [ed_17]; exact yAg.cs yAg.rf (by rw [hky_3]; decide)) (by rw [hk_h0]; decide)) 3 (by decide))
  have hE63d_17 : (d_17.1 h0 63).toInt = (d_13.1 h0 63).toInt := congrArg Int32.toInt ((yK.ag (F := []) yK.rf (show yAg S [51] d_13 d_17 from by rw [ed_17]; exact yAg.cs yAg.rf (by rw [hky_3]; decide)) (by rw [hk_h0]; decide)) 63 (by decide))
  refine lv_iconst (v := 0) hx hb dX9_image_50 (by decide) ?_
  refine lv_istore_n (lv' := [(1, .int 0), (0, .ref h0)]) hx hb dX9_image_51 rfl hl (by decide) rfl (fun ls hl => ?_)
  refine yloop (σ := Int32 × yD) (fun x => (2147483647 - (x.1 : Int32).toInt).toNat) 52 (fun x H locs ls => va_P G.1 xcl (yW G S x.2) H ∧ va_D A (yW G S x.2) ∧ va_S A s.heap H locs ∧ yAg S [9, 51, 52, 53, 54, 55, 56, 57, 58, 59, 60, 61, 62, 63, 64, 65, 66, 67] d x.2 ∧ yPo S x.2 ∧ yK [20, 38] d x.2 h0 ∧ yMI S x.2 h0 ∧ yAg S [52, 53, 54, 55, 56, 57, 58] d_17 x.2 ∧ yK [] d_17 x.2 h0 ∧ (zCr (fun s => x.2.2.2.2.1 (S.2.2.1 h0 (s + 18))) (fun s => d_17.2.2.2.1 (S.2.2.1 h0 (s))) x.1 ∧ 0 ≤ (x.1 : Int32).toInt) ∧ lv_has ls 2 [(1, .int x.1), (0, .ref h0)]) (fun x H locs ls hI hnext_22 => ?_) (0, d_17) ⟨hP, hD, hS, hgd_17, hPod_17, hfd_17, hId_17, yAg.rf, yK.rf, ⟨zCr.ini, (show 0 ≤ (0 : Int32).toInt by decide)⟩, lv_sub hl [0, 1] rfl⟩
  obtain ⟨v_20, d_21⟩ := x
  obtain ⟨hP, hD, hS, hgd_21, hPod_21, hfd_21, hId_21, hLJd_21, hKJd_21, hex_23, hl⟩ := hI
  have hId_21 : yMI S d_21 h0 := hId_21
  have hex_23 : (zCr (fun s => d_21.2.2.2.1 (S.2.2.1 h0 (s + 18))) (fun s => d_17.2.2.2.1 (S.2.2.1 h0 (s))) v_20 ∧ 0 ≤ (v_20 : Int32).toInt) := hex_23
  have hl : lv_has ls 2 [(1, .int v_20), (0, .ref h0)] := hl
  have hLJd_21 : yAg S [52, 53, 54, 55, 56, 57, 58] d_17 d_21 := hLJd_21
  have hKJd_21 : yK [] d_17 d_21 h0 := hKJd_21
  have hE0d_21 : (d_21.1 h0 0).toInt = (d_17.1 h0 0).toInt := congrArg Int32.toInt (hKJd_21 0 (by decide))
  have hE1d_21 : (d_21.1 h0 1).toInt = (d_17.1 h0 1).toInt := congrArg Int32.toInt (hKJd_21 1 (by decide))
  have hE2d_21 : (d_21.1 h0 2).toInt = (d_17.1 h0 2).toInt := congrArg Int32.toInt (hKJd_21 2 (by decide))
  have hE3d_21 : (d_21.1 h0 3).toInt = (d_17.1 h0 3).toInt := congrArg Int32.toInt (hKJd_21 3 (by decide))
  have hE63d_21 : (d_21.1 h0 63).toInt = (d_17.1 h0 63).toInt := congrArg Int32.toInt (hKJd_21 63 (by decide))
  have hxr_ := hex_23.2
  refine lv_iload_n hx hb dX9_image_52 rfl (lv_at hl 0 rfl) ?_
  refine lv_sipush (v := 2400) hx hb dX9_image_53 (by decide) ?_
  refine lv_icmp_ge (tgt := 149) hx hb dX9_image_56 (by decide) (fun c_24 => ?_) (fun c_24 => ?_)
  · refine lv_iconst (v := 0) hx hb dX9_image_149 (by decide) ?_
    refine lv_istore_n (lv' := [(1, .int 0), (0, .ref h0)]) hx hb dX9_image_150 rfl hl (by decide) rfl (fun ls hl => ?_)
    refine yloop (σ := Int32 × yD) (fun x => (2147483647 - (x.1 : Int32).toInt).toNat) 151 (fun x H locs ls => va_P G.1 xcl (yW G S x.2) H ∧ va_D A (yW G S x.2) ∧ va_S A s.heap H locs ∧ yAg S [9, 51, 52, 53, 54, 55, 56, 57, 58, 59, 60, 61, 62, 63, 64, 65, 66, 67] d x.2 ∧ yPo S x.2 ∧ yK [20, 38] d x.2 h0 ∧ yMI S x.2 h0 ∧ yAg S [59] d_21 x.2 ∧ yK [] d_21 x.2 h0 ∧ (zCp (x.2.2.2.2.2 (S.2.2.1 h0 29)) (d_21.2.2.2.2 (S.2.2.1 h0 11)) x.1 ∧ 0 ≤ (x.1 : Int32).toInt) ∧ lv_has ls 2 [(1, .int x.1), (0, .ref h0)]) (fun x H locs ls hI hnext_27 => ?_) (0, d_21) ⟨hP, hD, hS, hgd_21, hPod_21, hfd_21, hId_21, yAg.rf, yK.rf, ⟨zCp.ini, (show 0 ≤ (0 : Int32).toInt by decide)⟩, lv_sub hl [0, 1] rfl⟩
    obtain ⟨v_25, d_26⟩ := x
    obtain ⟨hP, hD, hS, hgd_26, hPod_26, hfd_26, hId_26, hLJd_26, hKJd_26, hex_28, hl⟩ := hI
    have hId_26 : yMI S d_26 h0 := hId_26
    have hex_28 : (zCp (d_26.2.2.2.2 (S.2.2.1 h0 29)) (d_21.2.2.2.2 (S.2.2.1 h0 11)) v_25 ∧ 0 ≤ (v_25 : Int32).toInt) := hex_28
    have hl : lv_has ls 2 [(1, .int v_25), (0, .ref h0)] := hl
    have hLJd_26 : yAg S [59] d_21 d_26 := hLJd_26
    have hKJd_26 : yK [] d_21 d_26 h0 := hKJd_26
    have hE0d_26 : (d_26.1 h0 0).toInt = (d_21.1 h0 0).toInt := congrArg Int32.toInt (hKJd_26 0 (by decide))
    have hE1d_26 : (d_26.1 h0 1).toInt = (d_21.1 h0 1).toInt := congrArg Int32.toInt (hKJd_26 1 (by decide))
    have hE2d_26 : (d_26.1 h0 2).toInt = (d_21.1 h0 2).toInt := congrArg Int32.toInt (hKJd_26 2 (by decide))
    have hE3d_26 : (d_26.1 h0 3).toInt = (d_21.1 h0 3).toInt := congrArg Int32.toInt (hKJd_26 3 (by decide))
    have hE63d_26 : (d_26.1 h0 63).toInt = (d_21.1 h0 63).toInt := congrArg Int32.toInt (hKJd_26 63 (by decide))
    have hxr_ := hex_28.2
    refine lv_iload_n hx hb dX9_image_151 rfl (lv_at hl 0 rfl) ?_
    refine lv_bipush (v := 96) hx hb dX9_image_152 (by decide) ?_
    refine lv_icmp_ge (tgt := 175) hx hb dX9_image_154 (by decide) (fun c_29 => ?_) (fun c_29 => ?_)
    · refine lv_iconst (v := 0) hx hb dX9_image_175 (by decide) ?_
      refine lv_istore_n (lv' := [(1, .int 0), (0, .ref h0)]) hx hb dX9_image_176 rfl hl (by decide) rfl (fun ls hl => ?_)
      have hCC_30 := yMI.c hId_26
      have F_31 := fle (by decide +kernel : (2400 : Int32).toInt = 2400) (rfl : (v_20 : Int32).toInt = (v_20 : Int32).toInt) c_24
      have F_32 := fle (by decide +kernel : (96 : Int32).toInt = 96) (rfl : (v_25 : Int32).toInt = (v_25 : Int32).toInt) c_29
      refine yloop (σ := Int32 × yD) (fun x => (2147483647 - (x.1 : Int32).toInt).toNat) 177 (fun x H locs ls => va_P G.1 xcl (yW G S x.2) H ∧ va_D A (yW G S x.2) ∧ va_S A s.heap H locs ∧ yAg S [9, 51, 52, 53, 54, 55, 56, 57, 58, 59, 60, 61, 62, 63, 64, 65, 66, 67] d x.2 ∧ yPo S x.2 ∧ yK [20, 38] d x.2 h0 ∧ yMI S x.2 h0 ∧ yAg S [60, 61, 62] d_26 x.2 ∧ yK [] d_26 x.2 h0 ∧ (0 ≤ ((x.1) : Int32).toInt) ∧ lv_has ls 2 [(1, .int x.1), (0, .ref h0)]) (fun x H locs ls hI hnext_35 => ?_) (0, d_26) ⟨hP, hD, hS, hgd_26, hPod_26, hfd_26, hId_26, yAg.rf, yK.rf, (show (0 ≤ ((0) : Int32).toInt) from by have hl0_ : (0 : Int32).toInt = 0 := (by decide +kernel); have hq0_ : (0 : Int32).toInt = 0 := (by decide +kernel); omega), lv_sub hl [0, 1] rfl⟩
      obtain ⟨v_33, d_34⟩ := x
      obtain ⟨hP, hD, hS, hgd_34, hPod_34, hfd_34, hId_34, hLJd_34, hKJd_34, hex_36, hl⟩ := hI
      have hId_34 : yMI S d_34 h0 := hId_34
      have hex_36 : (0 ≤ ((v_33) : Int32).toInt) := hex_36
      have hl : lv_has ls 2 [(1, .int v_33), (0, .ref h0)] := hl
      have hLJd_34 : yAg S [60, 61, 62] d_26 d_34 := hLJd_34
      have hKJd_34 : yK [] d_26 d_34 h0 := hKJd_34
      have hE0d_34 : (d_34.1 h0 0).toInt = (d_26.1 h0 0).toInt := congrArg Int32.toInt (hKJd_34 0 (by decide))
      have hE1d_34 : (d_34.1 h0 1).toInt = (d_26.1 h0 1).toInt := congrArg Int32.toInt (hKJd_34 1 (by decide))
      have hE2d_34 : (d_34.1 h0 2).toInt = (d_26.1 h0 2).toInt := congrArg Int32.toInt (hKJd_34 2 (by decide))
      have hE3d_34 : (d_34.1 h0 3).toInt = (d_26.1 h0 3).toInt := congrArg Int32.toInt (hKJd_34 3 (by decide))
      have hE63d_34 : (d_34.1 h0 63).toInt = (d_26.1 h0 63).toInt := congrArg Int32.toInt (hKJd_34 63 (by decide))
      refine lv_iload_n hx hb dX9_image_177 rfl (lv_at hl 0 rfl) ?_
      refine lv_sipush (v := 720) hx hb dX9_image_178 (by decide) ?_
      refine lv_icmp_ge (tgt := 226) hx hb dX9_image_181 (by decide) (fun c_37 => ?_) (fun c_37 => ?_)
      · refine lv_iconst (v := 0) hx hb dX9_image_226 (by decide) ?_
        refine lv_istore_n (lv' := [(1, .int 0), (0, .ref h0)]) hx hb dX9_image_227 rfl hl (by decide) rfl (fun ls hl => ?_)
        have hCC_38 := yMI.c hId_34
        have F_39 := fle (by decide +kernel : (720 : Int32).toInt = 720) (rfl : (v_33 : Int32).toInt = (v_33 : Int32).toInt) c_37
        refine yloop (σ := Int32 × yD) (fun x => (2147483647 - (x.1 : Int32).toInt).toNat) 228 (fun x H locs ls => va_P G.1 xcl (yW G S x.2) H ∧ va_D A (yW G S x.2) ∧ va_S A s.heap H locs ∧ yAg S [9, 51, 52, 53, 54, 55, 56, 57, 58, 59, 60, 61, 62, 63, 64, 65, 66, 67] d x.2 ∧ yPo S x.2 ∧ yK [20, 38] d x.2 h0 ∧ yMI S x.2 h0 ∧ yAg S [63, 64, 65] d_34 x.2 ∧ yK [] d_34 x.2 h0 ∧ (0 ≤ ((x.1) : Int32).toInt) ∧ lv_has ls 2 [(1, .int x.1), (0, .ref h0)]) (fun x H locs ls hI hnext_42 => ?_) (0, d_34) ⟨hP, hD, hS, hgd_34, hPod_34, hfd_34, hId_34, yAg.rf, yK.rf, (show (0 ≤ ((0) : Int32).toInt) from by have hl0_ : (0 : Int32).toInt = 0 := (by decide +kernel); have hq0_ : (0 : Int32).toInt = 0 := (by decide +kernel); omega), lv_sub hl [0, 1] rfl⟩
        obtain ⟨v_40, d_41⟩ := x
        obtain ⟨hP, hD, hS, hgd_41, hPod_41, hfd_41, hId_41, hLJd_41, hKJd_41, hex_43, hl⟩ := hI
        have hId_41 : yMI S d_41 h0 := hId_41
        have hex_43 : (0 ≤ ((v_40) : Int32).toInt) := hex_43
        have hl : lv_has ls 2 [(1, .int v_40), (0, .ref h0)] := hl
        have hLJd_41 : yAg S [63, 64, 65] d_34 d_41 := hLJd_41
        have hKJd_41 : yK [] d_34 d_41 h0 := hKJd_41
        have hE0d_41 : (d_41.1 h0 0).toInt = (d_34.1 h0 0).toInt := congrArg Int32.toInt (hKJd_41 0 (by decide))
        have hE1d_41 : (d_41.1 h0 1).toInt = (d_34.1 h0 1).toInt := congrArg Int32.toInt (hKJd_41 1 (by decide))
        have hE2d_41 : (d_41.1 h0 2).toInt = (d_34.1 h0 2).toInt := congrArg Int32.toInt (hKJd_41 2 (by decide))
        have hE3d_41 : (d_41.1 h0 3).toInt = (d_34.1 h0 3).toInt := congrArg Int32.toInt (hKJd_41 3 (by decide))
        have hE63d_41 : (d_41.1 h0 63).toInt = (d_34.1 h0 63).toInt := congrArg Int32.toInt (hKJd_41 63 (by decide))
        refine lv_iload_n hx hb dX9_image_228 rfl (lv_at hl 0 rfl) ?_
        refine lv_sipush (v := 5000) hx hb dX9_image_229 (by decide) ?_
        refine lv_icmp_ge (tgt := 277) hx hb dX9_image_232 (by decide) (fun c_44 => ?_) (fun c_44 => ?_)
        · refine lv_iconst (v := 0) hx hb dX9_image_277 (by decide) ?_
          refine lv_istore_n (lv' := [(1, .int 0), (0, .ref h0)]) hx hb dX9_image_278 rfl hl (by decide) rfl (fun ls hl => ?_)
          have hCC_45 := yMI.c hId_41
          have F_46 := fle (by decide +kernel : (5000 : Int32).toInt = 5000) (rfl : (v_40 : Int32).toInt = (v_40 : Int32).toInt) c_44
          refine yloop (σ := Int32 × yD) (fun x => (2147483647 - (x.1 : Int32).toInt).toNat) 279 (fun x H locs ls => va_P G.1 xcl (yW G S x.2) H ∧ va_D A (yW G S x.2) ∧ va_S A s.heap H locs ∧ yAg S [9, 51, 52, 53, 54, 55, 56, 57, 58, 59, 60, 61, 62, 63, 64, 65, 66, 67] d x.2 ∧ yPo S x.2 ∧ yK [20, 38] d x.2 h0 ∧ yMI S x.2 h0 ∧ yAg S [66, 67] d_41 x.2 ∧ yK [] d_41 x.2 h0 ∧ (0 ≤ ((x.1) : Int32).toInt) ∧ lv_has ls 2 [(1, .int x.1), (0, .ref h0)]) (fun x H locs ls hI hnext_49 => ?_) (0, d_41) ⟨hP, hD, hS, hgd_41, hPod_41, hfd_41, hId_41, yAg.rf, yK.rf, (show (0 ≤ ((0) : Int32).toInt) from by have hl0_ : (0 : Int32).toInt = 0 := (by decide +kernel); have hq0_ : (0 : Int32).toInt = 0 := (by decide +kernel); omega), lv_sub hl [0, 1] rfl⟩
          obtain ⟨v_47, d_48⟩ := x
          obtain ⟨hP, hD, hS, hgd_48, hPod_48, hfd_48, hId_48, hLJd_48, hKJd_48, hex_50, hl⟩ := hI
          have hId_48 : yMI S d_48 h0 := hId_48
          have hex_50 : (0 ≤ ((v_47) : Int32).toInt) := hex_50
          have hl : lv_has ls 2 [(1, .int v_47), (0, .ref h0)] := hl
          have hLJd_48 : yAg S [66, 67] d_41 d_48 := hLJd_48
          have hKJd_48 : yK [] d_41 d_48 h0 := hKJd_48
          have hE0d_48 : (d_48.1 h0 0).toInt = (d_41.1 h0 0).toInt := congrArg Int32.toInt (hKJd_48 0 (by decide))
          have hE1d_48 : (d_48.1 h0 1).toInt = (d_41.1 h0 1).toInt := congrArg Int32.toInt (hKJd_48 1 (by decide))
          have hE2d_48 : (d_48.1 h0 2).toInt = (d_41.1 h0 2).toInt := congrArg Int32.toInt (hKJd_48 2 (by decide))
          have hE3d_48 : (d_48.1 h0 3).toInt = (d_41.1 h0 3).toInt := congrArg Int32.toInt (hKJd_48 3 (by decide))
          have hE63d_48 : (d_48.1 h0 63).toInt = (d_41.1 h0 63).toInt := congrArg Int32.toInt (hKJd_48 63 (by decide))
          refine lv_iload_n hx hb dX9_image_279 rfl (lv_at hl 0 rfl) ?_
          refine lv_sipush (v := 500) hx hb dX9_image_280 (by decide) ?_
          refine lv_icmp_ge (tgt := 316) hx hb dX9_image_283 (by decide) (fun c_51 => ?_) (fun c_51 => ?_)
          · refine lv_iconst (v := 1) hx hb dX9_image_316 (by decide) ?_
            have hk21_ : d_48.2.2.2.1 (S.2.2.1 h0 21) = d_17.2.2.2.1 (S.2.2.1 h0 21) := (((hLJd_48 _ (by rw [(ySh.f9_21 hSh h0 hm_h0 hk_h0).2]; decide)).2.2.2.1).trans (((hLJd_41 _ (by rw [(ySh.f9_21 hSh h0 hm_h0 hk_h0).2]; decide)).2.2.2.1).trans (((hLJd_34 _ (by rw [(ySh.f9_21 hSh h0 hm_h0 hk_h0).2]; decide)).2.2.2.1).trans (((hLJd_26 _ (by rw [(ySh.f9_21 hSh h0 hm_h0 hk_h0).2]; decide)).2.2.2.1).trans (hLJd_21 _ (by rw [(ySh.f9_21 hSh h0 hm_h0 hk_h0).2]; decide)).2.2.2.1))))
            have hkud_5 : d_5.2.2.2.1 (S.2.2.1 h0 21) = (upd (d_2.2.2.2.1 (S.2.2.1 h0 21)) (0 : Int32).toNatClampNeg z_4) := by rw [ed_5]; exact va_up_self _ _ _
            have hkud_9 : d_9.2.2.2.1 (S.2.2.1 h0 21) = (upd (d_5.2.2.2.1 (S.2.2.1 h0 21)) (1 : Int32).toNatClampNeg z_8) := by rw [ed_9]; exact va_up_self _ _ _
            have hkud_13 : d_13.2.2.2.1 (S.2.2.1 h0 21) = (upd (d_9.2.2.2.1 (S.2.2.1 h0 21)) (2 : Int32).toNatClampNeg z_12) := by rw [ed_13]; exact va_up_self _ _ _
            have hkud_17 : d_17.2.2.2.1 (S.2.2.1 h0 21) = (upd (d_13.2.2.2.1 (S.2.2.1 h0 21)) (3 : Int32).toNatClampNeg z_16) := by rw [ed_17]; exact va_up_self _ _ _
            have hk0_ : d_48.2.2.2.1 (S.2.2.1 h0 21) 0 = z_4 := by
              rw [hk21_, hkud_17, hkud_13, hkud_9, hkud_5]
              exact xkp0
            have hk2_ : d_48.2.2.2.1 (S.2.2.1 h0 21) 2 = z_12 := by
              rw [hk21_, hkud_17, hkud_13, hkud_9, hkud_5]
              exact xkp2.1
            have hk3_ : d_48.2.2.2.1 (S.2.2.1 h0 21) 3 = z_16 := by
              rw [hk21_, hkud_17, hkud_13, hkud_9, hkud_5]
              exact xkp2.2
            have F_52 := fle (by decide +kernel : (500 : Int32).toInt = 500) (rfl : (v_47 : Int32).toInt = (v_47 : Int32).toInt) c_51
            have hcp_ : ∀ j : Nat, j < 96 → d_48.2.2.2.2 (S.2.2.1 h0 29) j = d.2.2.2.2 (S.2.2.1 h0 11) j := fun j hj => by rw [(((hLJd_48 _ (by rw [(ySh.f9_29 hSh h0 hm_h0 hk_h0).2]; decide)).2.2.2.2).trans (((hLJd_41 _ (by rw [(ySh.f9_29 hSh h0 hm_h0 hk_h0).2]; decide)).2.2.2.2).trans (hLJd_34 _ (by rw [(ySh.f9_29 hSh h0 hm_h0 hk_h0).2]; decide)).2.2.2.2)), hex_28.1 j (by omega), (((hLJd_21 _ (by rw [(ySh.f9_11 hSh h0 hm_h0 hk_h0).2]; decide)).2.2.2.2).trans (((hsd_17 _ (by rw [(ySh.f9_11 hSh h0 hm_h0 hk_h0).2]; decide)).2.2.2.2).trans (((hsd_13 _ (by rw [(ySh.f9_11 hSh h0 hm_h0 hk_h0).2]; decide)).2.2.2.2).trans (((hsd_9 _ (by rw [(ySh.f9_11 hSh h0 hm_h0 hk_h0).2]; decide)).2.2.2.2).trans (((hsd_5 _ (by rw [(ySh.f9_11 hSh h0 hm_h0 hk_h0).2]; decide)).2.2.2.2).trans (((hsd_2 _ (by rw [(ySh.f9_11 hSh h0 hm_h0 hk_h0).2]; decide)).2.2.2.2).trans (hsd_1 _ (by rw [(ySh.f9_11 hSh h0 hm_h0 hk_h0).2]; decide)).2.2.2.2))))))]
            have hcr_ : ∀ s, 4 ≤ s → s ≤ 10 → ∀ j : Nat, j < 2400 → d_48.2.2.2.1 (S.2.2.1 h0 (s + 18)) j = zNr s (d.2.2.2.1 (S.2.2.1 h0 (s)) j) := by
              intro s a_ b_ j hj
              obtain rfl | rfl | rfl | rfl | rfl | rfl | rfl : s = 4 ∨ s = 5 ∨ s = 6 ∨ s = 7 ∨ s = 8 ∨ s = 9 ∨ s = 10 := by omega
              · rw [show d_48.2.2.2.1 (S.2.2.1 h0 (4 + 18)) = d_21.2.2.2.1 (S.2.2.1 h0 (4 + 18)) from (((hLJd_48 _ (by rw [(ySh.f9_22 hSh h0 hm_h0 hk_h0).2]; decide)).2.2.2.1).trans (((hLJd_41 _ (by rw [(ySh.f9_22 hSh h0 hm_h0 hk_h0).2]; decide)).2.2.2.1).trans (((hLJd_34 _ (by rw [(ySh.f9_22 hSh h0 hm_h0 hk_h0).2]; decide)).2.2.2.1).trans (hLJd_26 _ (by rw [(ySh.f9_22 hSh h0 hm_h0 hk_h0).2]; decide)).2.2.2.1))), show d_21.2.2.2.1 (S.2.2.1 h0 (4 + 18)) j = _ from hex_23.1 4 (by decide) (by decide) j (by omega)]; exact congrArg (zNr 4) (congrFun (show d_17.2.2.2.1 (S.2.2.1 h0 (4)) = d.2.2.2.1 (S.2.2.1 h0 (4)) from (((hsd_17 _ (by rw [(ySh.f9_4 hSh h0 hm_h0 hk_h0).2]; decide)).2.2.2.1).trans (((hsd_13 _ (by rw [(ySh.f9_4 hSh h0 hm_h0 hk_h0).2]; decide)).2.2.2.1).trans (((hsd_9 _ (by rw [(ySh.f9_4 hSh h0 hm_h0 hk_h0).2]; decide)).2.2.2.1).trans (((hsd_5 _ (by rw [(ySh.f9_4 hSh h0 hm_h0 hk_h0).2]; decide)).2.2.2.1).trans (((hsd_2 _ (by rw [(ySh.f9_4 hSh h0 hm_h0 hk_h0).2]; decide)).2.2.2.1).trans (hsd_1 _ (by rw [(ySh.f9_4 hSh h0 hm_h0 hk_h0).2]; decide)).2.2.2.1)))))) j)
              · rw [show d_48.2.2.2.1 (S.2.2.1 h0 (5 + 18)) = d_21.2.2.2.1 (S.2.2.1 h0 (5 + 18)) from (((hLJd_48 _ (by rw [(ySh.f9_23 hSh h0 hm_h0 hk_h0).2]; decide)).2.2.2.1).trans (((hLJd_41 _ (by rw [(ySh.f9_23 hSh h0 hm_h0 hk_h0).2]; decide)).2.2.2.1).trans (((hLJd_34 _ (by rw [(ySh.f9_23 hSh h0 hm_h0 hk_h0).2]; decide)).2.2.2.1).trans (hLJd_26 _ (by rw [(ySh.f9_23 hSh h0 hm_h0 hk_h0).2]; decide)).2.2.2.1))), show d_21.2.2.2.1 (S.2.2.1 h0 (5 + 18)) j = _ from hex_23.1 5 (by decide) (by decide) j (by omega)]; exact congrArg (zNr 5) (congrFun (show d_17.2.2.2.1 (S.2.2.1 h0 (5)) = d.2.2.2.1 (S.2.2.1 h0 (5)) from (((hsd_17 _ (by rw [(ySh.f9_5 hSh h0 hm_h0 hk_h0).2]; decide)).2.2.2.1).trans (((hsd_13 _ (by rw [(ySh.f9_5 hSh h0 hm_h0 hk_h0).2]; decide)).2.2.2.1).trans (((hsd_9 _ (by rw [(ySh.f9_5 hSh h0 hm_h0 hk_h0).2]; decide)).2.2.2.1).trans (((hsd_5 _ (by rw [(ySh.f9_5 hSh h0 hm_h0 hk_h0).2]; decide)).2.2.2.1).trans (((hsd_2 _ (by rw [(ySh.f9_5 hSh h0 hm_h0 hk_h0).2]; decide)).2.2.2.1).trans (hsd_1 _ (by rw [(ySh.f9_5 hSh h0 hm_h0 hk_h0).2]; decide)).2.2.2.1)))))) j)
              · rw [show d_48.2.2.2.1 (S.2.2.1 h0 (6 + 18)) = d_21.2.2.2.1 (S.2.2.1 h0 (6 + 18)) from (((hLJd_48 _ (by rw [(ySh.f9_24 hSh h0 hm_h0 hk_h0).2]; decide)).2.2.2.1).trans (((hLJd_41 _ (by rw [(ySh.f9_24 hSh h0 hm_h0 hk_h0).2]; decide)).2.2.2.1).trans (((hLJd_34 _ (by rw [(ySh.f9_24 hSh h0 hm_h0 hk_h0).2]; decide)).2.2.2.1).trans (hLJd_26 _ (by rw [(ySh.f9_24 hSh h0 hm_h0 hk_h0).2]; decide)).2.2.2.1))), show d_21.2.2.2.1 (S.2.2.1 h0 (6 + 18)) j = _ from hex_23.1 6 (by decide) (by decide) j (by omega)]; exact congrArg (zNr 6) (congrFun (show d_17.2.2.2.1 (S.2.2.1 h0 (6)) = d.2.2.2.1 (S.2.2.1 h0 (6)) from (((hsd_17 _ (by rw [(ySh.f9_6 hSh h0 hm_h0 hk_h0).2]; decide)).2.2.2.1).trans (((hsd_13 _ (by rw [(ySh.f9_6 hSh h0 hm_h0 hk_h0).2]; decide)).2.2.2.1).trans (((hsd_9 _ (by rw [(ySh.f9_6 hSh h0 hm_h0 hk_h0).2]; decide)).2.2.2.1).trans (((hsd_5 _ (by rw [(ySh.f9_6 hSh h0 hm_h0 hk_h0).2]; decide)).2.2.2.1).trans (((hsd_2 _ (by rw [(ySh.f9_6 hSh h0 hm_h0 hk_h0).2]; decide)).2.2.2.1).trans (hsd_1 _ (by rw [(ySh.f9_6 hSh h0 hm_h0 hk_h0).2]; decide)).2.2.2.1)))))) j)
              · rw [show d_48.2.2.2.1 (S.2.2.1 h0 (7 + 18)) = d_21.2.2.2.1 (S.2.2.1 h0 (7 + 18)) from (((hLJd_48 _ (by rw [(ySh.f9_25 hSh h0 hm_h0 hk_h0).2]; decide)).2.2.2.1).trans (((hLJd_41 _ (by rw [(ySh.f9_25 hSh h0 hm_h0 hk_h0).2]; decide)).2.2.2.1).trans (((hLJd_34 _ (by rw [(ySh.f9_25 hSh h0 hm_h0 hk_h0).2]; decide)).2.2.2.1).trans (hLJd_26 _ (by rw [(ySh.f9_25 hSh h0 hm_h0 hk_h0).2]; decide)).2.2.2.1))), show d_21.2.2.2.1 (S.2.2.1 h0 (7 + 18)) j = _ from hex_23.1 7 (by decide) (by decide) j (by omega)]; exact congrArg (zNr 7) (congrFun (show d_17.2.2.2.1 (S.2.2.1 h0 (7)) = d.2.2.2.1 (S.2.2.1 h0 (7)) from (((hsd_17 _ (by rw [(ySh.f9_7 hSh h0 hm_h0 hk_h0).2]; decide)).2.2.2.1).trans (((hsd_13 _ (by rw [(ySh.f9_7 hSh h0 hm_h0 hk_h0).2]; decide)).2.2.2.1).trans (((hsd_9 _ (by rw [(ySh.f9_7 hSh h0 hm_h0 hk_h0).2]; decide)).2.2.2.1).trans (((hsd_5 _ (by rw [(ySh.f9_7 hSh h0 hm_h0 hk_h0).2]; decide)).2.2.2.1).trans (((hsd_2 _ (by rw [(ySh.f9_7 hSh h0 hm_h0 hk_h0).2]; decide)).2.2.2.1).trans (hsd_1 _ (by rw [(ySh.f9_7 hSh h0 hm_h0 hk_h0).2]; decide)).2.2.2.1)))))) j)
              · rw [show d_48.2.2.2.1 (S.2.2.1 h0 (8 + 18)) = d_21.2.2.2.1 (S.2.2.1 h0 (8 + 18)) from (((hLJd_48 _ (by rw [(ySh.f9_26 hSh h0 hm_h0 hk_h0).2]; decide)).2.2.2.1).trans (((hLJd_41 _ (by rw [(ySh.f9_26 hSh h0 hm_h0 hk_h0).2]; decide)).2.2.2.1).trans (((hLJd_34 _ (by rw [(ySh.f9_26 hSh h0 hm_h0 hk_h0).2]; decide)).2.2.2.1).trans (hLJd_26 _ (by rw [(ySh.f9_26 hSh h0 hm_h0 hk_h0).2]; decide)).2.2.2.1))), show d_21.2.2.2.1 (S.2.2.1 h0 (8 + 18)) j = _ from hex_23.1 8 (by decide) (by decide) j (by omega)]; exact congrArg (zNr 8) (congrFun (show d_17.2.2.2.1 (S.2.2.1 h0 (8)) = d.2.2.2.1 (S.2.2.1 h0 (8)) from (((hsd_17 _ (by rw [(ySh.f9_8 hSh h0 hm_h0 hk_h0).2]; decide)).2.2.2.1).trans (((hsd_13 _ (by rw [(ySh.f9_8 hSh h0 hm_h0 hk_h0).2]; decide)).2.2.2.1).trans (((hsd_9 _ (by rw [(ySh.f9_8 hSh h0 hm_h0 hk_h0).2]; decide)).2.2.2.1).trans (((hsd_5 _ (by rw [(ySh.f9_8 hSh h0 hm_h0 hk_h0).2]; decide)).2.2.2.1).trans (((hsd_2 _ (by rw [(ySh.f9_8 hSh h0 hm_h0 hk_h0).2]; decide)).2.2.2.1).trans (hsd_1 _ (by rw [(ySh.f9_8 hSh h0 hm_h0 hk_h0).2]; decide)).2.2.2.1)))))) j)
              · rw [show d_48.2.2.2.1 (S.2.2.1 h0 (9 + 18)) = d_21.2.2.2.1 (S.2.2.1 h0 (9 + 18)) from (((hLJd_48 _ (by rw [(ySh.f9_27 hSh h0 hm_h0 hk_h0).2]; decide)).2.2.2.1).trans (((hLJd_41 _ (by rw [(ySh.f9_27 hSh h0 hm_h0 hk_h0).2]; decide)).2.2.2.1).trans (((hLJd_34 _ (by rw [(ySh.f9_27 hSh h0 hm_h0 hk_h0).2]; decide)).2.2.2.1).trans (hLJd_26 _ (by rw [(ySh.f9_27 hSh h0 hm_h0 hk_h0).2]; decide)).2.2.2.1))), show d_21.2.2.2.1 (S.2.2.1 h0 (9 + 18)) j = _ from hex_23.1 9 (by decide) (by decide) j (by omega)]; exact congrArg (zNr 9) (congrFun (show d_17.2.2.2.1 (S.2.2.1 h0 (9)) = d.2.2.2.1 (S.2.2.1 h0 (9)) from (((hsd_17 _ (by rw [(ySh.f9_9 hSh h0 hm_h0 hk_h0).2]; decide)).2.2.2.1).trans (((hsd_13 _ (by rw [(ySh.f9_9 hSh h0 hm_h0 hk_h0).2]; decide)).2.2.2.1).trans (((hsd_9 _ (by rw [(ySh.f9_9 hSh h0 hm_h0 hk_h0).2]; decide)).2.2.2.1).trans (((hsd_5 _ (by rw [(ySh.f9_9 hSh h0 hm_h0 hk_h0).2]; decide)).2.2.2.1).trans (((hsd_2 _ (by rw [(ySh.f9_9 hSh h0 hm_h0 hk_h0).2]; decide)).2.2.2.1).trans (hsd_1 _ (by rw [(ySh.f9_9 hSh h0 hm_h0 hk_h0).2]; decide)).2.2.2.1)))))) j)
              · rw [show d_48.2.2.2.1 (S.2.2.1 h0 (10 + 18)) = d_21.2.2.2.1 (S.2.2.1 h0 (10 + 18)) from (((hLJd_48 _ (by rw [(ySh.f9_28 hSh h0 hm_h0 hk_h0).2]; decide)).2.2.2.1).trans (((hLJd_41 _ (by rw [(ySh.f9_28 hSh h0 hm_h0 hk_h0).2]; decide)).2.2.2.1).trans (((hLJd_34 _ (by rw [(ySh.f9_28 hSh h0 hm_h0 hk_h0).2]; decide)).2.2.2.1).trans (hLJd_26 _ (by rw [(ySh.f9_28 hSh h0 hm_h0 hk_h0).2]; decide)).2.2.2.1))), show d_21.2.2.2.1 (S.2.2.1 h0 (10 + 18)) j = _ from hex_23.1 10 (by decide) (by decide) j (by omega)]; exact congrArg (zNr 10) (congrFun (show d_17.2.2.2.1 (S.2.2.1 h0 (10)) = d.2.2.2.1 (S.2.2.1 h0 (10)) from (((hsd_17 _ (by rw [(ySh.f9_10 hSh h0 hm_h0 hk_h0).2]; decide)).2.2.2.1).trans (((hsd_13 _ (by rw [(ySh.f9_10 hSh h0 hm_h0 hk_h0).2]; decide)).2.2.2.1).trans (((hsd_9 _ (by rw [(ySh.f9_10 hSh h0 hm_h0 hk_h0).2]; decide)).2.2.2.1).trans (((hsd_5 _ (by rw [(ySh.f9_10 hSh h0 hm_h0 hk_h0).2]; decide)).2.2.2.1).trans (((hsd_2 _ (by rw [(ySh.f9_10 hSh h0 hm_h0 hk_h0).2]; decide)).2.2.2.1).trans (hsd_1 _ (by rw [(ySh.f9_10 hSh h0 hm_h0 hk_h0).2]; decide)).2.2.2.1)))))) j)
            exact W.zret (v := 1) (ty := .boolean) hx hb hr rfl (fun t ht hW => ⟨⟨1, d_48, rfl, ⟨hgd_48, (fun _ => hPod_48), hfd_48, ⟨hId_48, ⟨((((hKJd_48 20 (by decide))).trans (((hKJd_41 20 (by decide))).trans (((hKJd_34 20 (by decide))).trans (((hKJd_26 20 (by decide))).trans (((hKJd_21 20 (by decide))).trans (((show d_17.1 h0 20 = d_13.1 h0 20 by rw [ed_17]; exact rfl)).trans (((show d_13.1 h0 20 = d_9.1 h0 20 by rw [ed_13]; exact rfl)).trans (((show d_9.1 h0 20 = d_5.1 h0 20 by rw [ed_9]; exact rfl)).trans (show d_5.1 h0 20 = d_2.1 h0 20 by rw [ed_5]; exact rfl)))))))))).trans (by rw [ed_2]; exact yi_self), hk0_.trans (ez_4.trans (((show d_2.1 h0 0 = d_1.1 h0 0 by rw [ed_2]; exact yi_at (by decide))).trans (show d_1.1 h0 0 = d.1 h0 0 by rw [ed_1]; exact yi_at (by decide)))), (((hKJd_48 0 (by decide))).trans (((hKJd_41 0 (by decide))).trans (((hKJd_34 0 (by decide))).trans (((hKJd_26 0 (by decide))).trans (((hKJd_21 0 (by decide))).trans (((show d_17.1 h0 0 = d_13.1 h0 0 by rw [ed_17]; exact rfl)).trans (((show d_13.1 h0 0 = d_9.1 h0 0 by rw [ed_13]; exact rfl)).trans (((show d_9.1 h0 0 = d_5.1 h0 0 by rw [ed_9]; exact rfl)).trans (((show d_5.1 h0 0 = d_2.1 h0 0 by rw [ed_5]; exact rfl)).trans (((show d_2.1 h0 0 = d_1.1 h0 0 by rw [ed_2]; exact yi_at (by decide))).trans (show d_1.1 h0 0 = d.1 h0 0 by rw [ed_1]; exact yi_at (by decide)))))))))))), rfl⟩, hk2_.trans (ez_12.trans (((show d_9.1 h0 2 = d_5.1 h0 2 by rw [ed_9]; exact rfl)).trans (((show d_5.1 h0 2 = d_2.1 h0 2 by rw [ed_5]; exact rfl)).trans (((show d_2.1 h0 2 = d_1.1 h0 2 by rw [ed_2]; exact yi_at (by decide))).trans (show d_1.1 h0 2 = d.1 h0 2 by rw [ed_1]; exact yi_at (by decide)))))), hk3_.trans (ez_16.trans (((show d_13.1 h0 3 = d_9.1 h0 3 by rw [ed_13]; exact rfl)).trans (((show d_9.1 h0 3 = d_5.1 h0 3 by rw [ed_9]; exact rfl)).trans (((show d_5.1 h0 3 = d_2.1 h0 3 by rw [ed_5]; exact rfl)).trans (((show d_2.1 h0 3 = d_1.1 h0 3 by rw [ed_2]; exact yi_at (by decide))).trans (show d_1.1 h0 3 = d.1 h0 3 by rw [ed_1]; exact yi_at (by decide))))))), ⟨hcp_, hcr_⟩⟩⟩, by rw [ht]; exact hP, hD⟩, hS.F ht⟩) hS.2.2 dX9_image_317
          · refine lv_aload_n hx hb dX9_image_286 rfl (lv_at hl 1 rfl) ?_
            refine yget (ci := 9) (k := 36) (v := .ref (S.2.2.1 h0 36)) (C := RX9) (T := TX9) (N := 67) C0 hK hP hm_h0 hk_h0 (by decide) rfl inlX9 (by decide) mW142 (fun _ h9 => h9) rfl dX9_image_287 ?_
            obtain ⟨hmy_53, hky_53⟩ := ySh.f9_36 hSh _ hm_h0 hk_h0
            refine lv_iload_n hx hb dX9_image_290 rfl (lv_at hl 0 rfl) ?_
            refine lv_aload_n hx hb dX9_image_291 rfl (lv_at hl 1 rfl) ?_
            refine yget (ci := 9) (k := 18) (v := .ref (S.2.2.1 h0 18)) (C := RX9) (T := TX9) (N := 67) C0 hK hP hm_h0 hk_h0 (by decide) rfl inlX9 (by decide) mW125 (fun _ h9 => h9) rfl dX9_image_292 ?_
            obtain ⟨hmy_54, hky_54⟩ := ySh.f9_18 hSh _ hm_h0 hk_h0
            refine lv_iload_n hx hb dX9_image_295 rfl (lv_at hl 0 rfl) ?_
            have hCC_55 := yMI.c hId_48
            have F_56 := fnle (by decide +kernel : (500 : Int32).toInt = 500) (rfl : (v_47 : Int32).toInt = (v_47 : Int32).toInt) c_51
            refine yald C0 hK hP hmy_54 hky_54 (by decide) rfl 0 rfl (xinT 500 rfl (by omega) (by omega)) dX9_image_296 ?_
            refine lv_topi (fun z_57 ez_57 => ?_)
            refine yast C0 hK hP hD hS hmy_53 hky_53 (by decide) rfl 0 rfl (xinT 500 rfl (by omega) (by omega)) dX9_image_297 (fun H locs hP hD hS => ?_)
            obtain ⟨d_58, ed_58⟩ : ∃ z : yD, z = ycs d_48 (S.2.2.1 h0 36) (upd (d_48.2.2.2.1 (S.2.2.1 h0 36)) (v_47 : Int32).toNatClampNeg z_57) := ⟨_, rfl⟩
            rw [← ed_58] at hP hD
            have hgd_58 : yAg S [9, 51, 52, 53, 54, 55, 56, 57, 58, 59, 60, 61, 62, 63, 64, 65, 66, 67] d d_58 := by rw [ed_58]; exact yAg.cs hgd_48 (by rw [hky_53]; decide)
            have hsd_58 : yAg S [66] d_48 d_58 := by rw [ed_58]; exact yAg.cs yAg.rf (by rw [hky_53]; decide)
            have hPod_58 : yPo S d_58 := by rw [ed_58]; exact hPod_48
            have hfd_58 : yK [20, 38] d d_58 h0 := yK.ag hfd_48 (show yAg S [66] d_48 d_58 from by rw [ed_58]; exact yAg.cs yAg.rf (by rw [hky_53]; decide)) (by rw [hk_h0]; decide)
            have hL0d_58 : yAg S [66, 67] d_41 d_58 := by rw [ed_58]; exact yAg.cs hLJd_48 (by rw [hky_53]; decide)
            have hK0d_58 : yK [] d_41 d_58 h0 := yK.ag hKJd_48 (show yAg S [66] d_48 d_58 from by rw [ed_58]; exact yAg.cs yAg.rf (by rw [hky_53]; decide)) (by rw [hk_h0]; decide)
            have hId_58 : yMI S d_58 h0 := yMI.ag hId_48 hSh hm_h0 hk_h0 (show yAg S [66] d_48 d_58 from by rw [ed_58]; exact yAg.cs yAg.rf (by rw [hky_53]; decide)) (yK.ag (F := []) yK.rf (show yAg S [66] d_48 d_58 from by rw [ed_58]; exact yAg.cs yAg.rf (by rw [hky_53]; decide)) (by rw [hk_h0]; decide)) (by decide) (by decide)
            have hE0d_58 : (d_58.1 h0 0).toInt = (d_48.1 h0 0).toInt := congrArg Int32.toInt ((yK.ag (F := []) yK.rf (show yAg S [66] d_48 d_58 from by rw [ed_58]; exact yAg.cs yAg.rf (by rw [hky_53]; decide)) (by rw [hk_h0]; decide)) 0 (by decide))
            have hE1d_58 : (d_58.1 h0 1).toInt = (d_48.1 h0 1).toInt := congrArg Int32.toInt ((yK.ag (F := []) yK.rf (show yAg S [66] d_48 d_58 from by rw [ed_58]; exact yAg.cs yAg.rf (by rw [hky_53]; decide)) (by rw [hk_h0]; decide)) 1 (by decide))
            have hE2d_58 : (d_58.1 h0 2).toInt = (d_48.1 h0 2).toInt := congrArg Int32.toInt ((yK.ag (F := []) yK.rf (show yAg S [66] d_48 d_58 from by rw [ed_58]; exact yAg.cs yAg.rf (by rw [hky_53]; decide)) (by rw [hk_h0]; decide)) 2 (by decide))
            have hE3d_58 : (d_58.1 h0 3).toInt = (d_48.1 h0 3).toInt := congrArg Int32.toInt ((yK.ag (F := []) yK.rf (show yAg S [66] d_48 d_58 from by rw [ed_58]; exact yAg.cs yAg.rf (by rw [hky_53]; decide)) (by rw [hk_h0]; decide)) 3 (by decide))
            have hE63d_58 : (d_58.1 h0 63).toInt = (d_48.1 h0 63).toInt := congrArg Int32.toInt ((yK.ag (F := []) yK.rf (show yAg S [66] d_48 d_58 from by rw [ed_58]; exact yAg.cs yAg.rf (by rw [hky_53]; decide)) (by rw [hk_h0]; decide)) 63 (by decide))
            refine lv_aload_n hx hb dX9_image_298 rfl (lv_at hl 1 rfl) ?_
            refine yget (ci := 9) (k := 37) (v := .ref (S.2.2.1 h0 37)) (C := RX9) (T := TX9) (N := 67) C0 hK hP hm_h0 hk_h0 (by decide) rfl inlX9 (by decide) mW143 (fun _ h9 => h9) rfl dX9_image_299 ?_
            obtain ⟨hmy_59, hky_59⟩ := ySh.f9_37 hSh _ hm_h0 hk_h0
            refine lv_iload_n hx hb dX9_image_302 rfl (lv_at hl 0 rfl) ?_
            refine lv_aload_n hx hb dX9_image_303 rfl (lv_at hl 1 rfl) ?_
            refine yget (ci := 9) (k := 19) (v := .ref (S.2.2.1 h0 19)) (C := RX9) (T := TX9) (N := 67) C0 hK hP hm_h0 hk_h0 (by decide) rfl inlX9 (by decide) mW126 (fun _ h9 => h9) rfl dX9_image_304 ?_
            obtain ⟨hmy_60, hky_60⟩ := ySh.f9_19 hSh _ hm_h0 hk_h0
            refine lv_iload_n hx hb dX9_image_307 rfl (lv_at hl 0 rfl) ?_
            have hCC_61 := yMI.c hId_58
            refine yaldB C0 hK hP hmy_60 hky_60 (by decide) rfl 1 rfl (xinT 500 rfl (by omega) (by omega)) dX9_image_308 ?_
            refine lv_topi (fun z_62 ez_62 => ?_)
            refine yastB C0 hK hP hD hS hmy_59 hky_59 (by decide) rfl 1 rfl (xinT 500 rfl (by omega) (by omega)) dX9_image_309 (fun H locs hP hD hS => ?_)
            obtain ⟨d_63, ed_63⟩ : ∃ z : yD, z = ycs d_58 (S.2.2.1 h0 37) (upd (d_58.2.2.2.1 (S.2.2.1 h0 37)) (v_47 : Int32).toNatClampNeg (vp_nar .byte z_62)) := ⟨_, rfl⟩
            rw [← ed_63] at hP hD
            have hgd_63 : yAg S [9, 51, 52, 53, 54, 55, 56, 57, 58, 59, 60, 61, 62, 63, 64, 65, 66, 67] d d_63 := by rw [ed_63]; exact yAg.cs hgd_58 (by rw [hky_59]; decide)
            have hsd_63 : yAg S [67] d_58 d_63 := by rw [ed_63]; exact yAg.cs yAg.rf (by rw [hky_59]; decide)
            have hPod_63 : yPo S d_63 := by rw [ed_63]; exact hPod_58
            have hfd_63 : yK [20, 38] d d_63 h0 := yK.ag hfd_58 (show yAg S [67] d_58 d_63 from by rw [ed_63]; exact yAg.cs yAg.rf (by rw [hky_59]; decide)) (by rw [hk_h0]; decide)
            have hL0d_63 : yAg S [66, 67] d_41 d_63 := by rw [ed_63]; exact yAg.cs hL0d_58 (by rw [hky_59]; decide)
            have hK0d_63 : yK [] d_41 d_63 h0 := yK.ag hK0d_58 (show yAg S [67] d_58 d_63 from by rw [ed_63]; exact yAg.cs yAg.rf (by rw [hky_59]; decide)) (by rw [hk_h0]; decide)
            have hId_63 : yMI S d_63 h0 := yMI.ag hId_58 hSh hm_h0 hk_h0 (show yAg S [67] d_58 d_63 from by rw [ed_63]; exact yAg.cs yAg.rf (by rw [hky_59]; decide)) (yK.ag (F := []) yK.rf (show yAg S [67] d_58 d_63 from by rw [ed_63]; exact yAg.cs yAg.rf (by rw [hky_59]; decide)) (by rw [hk_h0]; decide)) (by decide) (by decide)
            have hE0d_63 : (d_63.1 h0 0).toInt = (d_58.1 h0 0).toInt := congrArg Int32.toInt ((yK.ag (F := []) yK.rf (show yAg S [67] d_58 d_63 from by rw [ed_63]; exact yAg.cs yAg.rf (by rw [hky_59]; decide)) (by rw [hk_h0]; decide)) 0 (by decide))
            have hE1d_63 : (d_63.1 h0 1).toInt = (d_58.1 h0 1).toInt := congrArg Int32.toInt ((yK.ag (F := []) yK.rf (show yAg S [67] d_58 d_63 from by rw [ed_63]; exact yAg.cs yAg.rf (by rw [hky_59]; decide)) (by rw [hk_h0]; decide)) 1 (by decide))
            have hE2d_63 : (d_63.1 h0 2).toInt = (d_58.1 h0 2).toInt := congrArg Int32.toInt ((yK.ag (F := []) yK.rf (show yAg S [67] d_58 d_63 from by rw [ed_63]; exact yAg.cs yAg.rf (by rw [hky_59]; decide)) (by rw [hk_h0]; decide)) 2 (by decide))
            have hE3d_63 : (d_63.1 h0 3).toInt = (d_58.1 h0 3).toInt := congrArg Int32.toInt ((yK.ag (F := []) yK.rf (show yAg S [67] d_58 d_63 from by rw [ed_63]; exact yAg.cs yAg.rf (by rw [hky_59]; decide)) (by rw [hk_h0]; decide)) 3 (by decide))
            have hE63d_63 : (d_63.1 h0 63).toInt = (d_58.1 h0 63).toInt := congrArg Int32.toInt ((yK.ag (F := []) yK.rf (show yAg S [67] d_58 d_63 from by rw [ed_63]; exact yAg.cs yAg.rf (by rw [hky_59]; decide)) (by rw [hk_h0]; decide)) 63 (by decide))
            refine lv_iinc (v := v_47 + 1) (lv' := [(1, .int (v_47 + 1)), (0, .ref h0)]) hx hb dX9_image_310 hl (k := 0) rfl rfl (by decide) rfl (fun ls hl => ?_)
            refine lv_goto (tgt := 279) hx hb dX9_image_313 (by decide) ?_
            have hCC_65 := yMI.c hId_63
            have T_66 : ((v_47 + 1) : Int32).toInt = (v_47 : Int32).toInt + 1 := tadd rfl (rfl : (v_47 : Int32).toInt = (v_47 : Int32).toInt) (by decide +kernel : (1 : Int32).toInt = 1) (by omega) (by omega)
            exact hnext_49 (v_47 + 1, d_63) _ _ ls (xup c_51) ⟨hP, hD, hS, hgd_63, hPod_63, hfd_63, hId_63, hL0d_63, hK0d_63, (show (0 ≤ (((v_47 + 1)) : Int32).toInt) from by have hq0_ : (0 : Int32).toInt = 0 := (by decide +kernel); omega), lv_sub hl [0, 1] rfl⟩
        · refine lv_aload_n hx hb dX9_image_235 rfl (lv_at hl 1 rfl) ?_
          refine yget (ci := 9) (k := 33) (v := .ref (S.2.2.1 h0 33)) (C := RX9) (T := TX9) (N := 67) C0 hK hP hm_h0 hk_h0 (by decide) rfl inlX9 (by decide) mW139 (fun _ h9 => h9) rfl dX9_image_236 ?_
          obtain ⟨hmy_67, hky_67⟩ := ySh.f9_33 hSh _ hm_h0 hk_h0
          refine lv_iload_n hx hb dX9_image_239 rfl (lv_at hl 0 rfl) ?_
          refine lv_aload_n hx hb dX9_image_240 rfl (lv_at hl 1 rfl) ?_
          refine yget (ci := 9) (k := 15) (v := .ref (S.2.2.1 h0 15)) (C := RX9) (T := TX9) (N := 67) C0 hK hP hm_h0 hk_h0 (by decide) rfl inlX9 (by decide) mW122 (fun _ h9 => h9) rfl dX9_image_241 ?_
          obtain ⟨hmy_68, hky_68⟩ := ySh.f9_15 hSh _ hm_h0 hk_h0
          refine lv_iload_n hx hb dX9_image_244 rfl (lv_at hl 0 rfl) ?_
          have hCC_69 := yMI.c hId_41
          have F_70 := fnle (by decide +kernel : (5000 : Int32).toInt = 5000) (rfl : (v_40 : Int32).toInt = (v_40 : Int32).toInt) c_44
          refine yaldB C0 hK hP hmy_68 hky_68 (by decide) rfl 1 rfl (xinT 5000 rfl (by omega) (by omega)) dX9_image_245 ?_
          refine lv_topi (fun z_71 ez_71 => ?_)
          refine yastB C0 hK hP hD hS hmy_67 hky_67 (by decide) rfl 1 rfl (xinT 5000 rfl (by omega) (by omega)) dX9_image_246 (fun H locs hP hD hS => ?_)
          obtain ⟨d_72, ed_72⟩ : ∃ z : yD, z = ycs d_41 (S.2.2.1 h0 33) (upd (d_41.2.2.2.1 (S.2.2.1 h0 33)) (v_40 : Int32).toNatClampNeg (vp_nar .byte z_71)) := ⟨_, rfl⟩
          rw [← ed_72] at hP hD
          have hgd_72 : yAg S [9, 51, 52, 53, 54, 55, 56, 57, 58, 59, 60, 61, 62, 63, 64, 65, 66, 67] d d_72 := by rw [ed_72]; exact yAg.cs hgd_41 (by rw [hky_67]; decide)
          have hsd_72 : yAg S [63] d_41 d_72 := by rw [ed_72]; exact yAg.cs yAg.rf (by rw [hky_67]; decide)
          have hPod_72 : yPo S d_72 := by rw [ed_72]; exact hPod_41
          have hfd_72 : yK [20, 38] d d_72 h0 := yK.ag hfd_41 (show yAg S [63] d_41 d_72 from by rw [ed_72]; exact yAg.cs yAg.rf (by rw [hky_67]; decide)) (by rw [hk_h0]; decide)
          have hL0d_72 : yAg S [63, 64, 65] d_34 d_72 := by rw [ed_72]; exact yAg.cs hLJd_41 (by rw [hky_67]; decide)
          have hK0d_72 : yK [] d_34 d_72 h0 := yK.ag hKJd_41 (show yAg S [63] d_41 d_72 from by rw [ed_72]; exact yAg.cs yAg.rf (by rw [hky_67]; decide)) (by rw [hk_h0]; decide)
          have hId_72 : yMI S d_72 h0 := yMI.ag hId_41 hSh hm_h0 hk_h0 (show yAg S [63] d_41 d_72 from by rw [ed_72]; exact yAg.cs yAg.rf (by rw [hky_67]; decide)) (yK.ag (F := []) yK.rf (show yAg S [63] d_41 d_72 from by rw [ed_72]; exact yAg.cs yAg.rf (by rw [hky_67]; decide)) (by rw [hk_h0]; decide)) (by decide) (by decide)
          have hE0d_72 : (d_72.1 h0 0).toInt = (d_41.1 h0 0).toInt := congrArg Int32.toInt ((yK.ag (F := []) yK.rf (show yAg S [63] d_41 d_72 from by rw [ed_72]; exact yAg.cs yAg.rf (by rw [hky_67]; decide)) (by rw [hk_h0]; decide)) 0 (by decide))
          have hE1d_72 : (d_72.1 h0 1).toInt = (d_41.1 h0 1).toInt := congrArg Int32.toInt ((yK.ag (F := []) yK.rf (show yAg S [63] d_41 d_72 from by rw [ed_72]; exact yAg.cs yAg.rf (by rw [hky_67]; decide)) (by rw [hk_h0]; decide)) 1 (by decide))
          have hE2d_72 : (d_72.1 h0 2).toInt = (d_41.1 h0 2).toInt := congrArg Int32.toInt ((yK.ag (F := []) yK.rf (show yAg S [63] d_41 d_72 from by rw [ed_72]; exact yAg.cs yAg.rf (by rw [hky_67]; decide)) (by rw [hk_h0]; decide)) 2 (by decide))
          have hE3d_72 : (d_72.1 h0 3).toInt = (d_41.1 h0 3).toInt := congrArg Int32.toInt ((yK.ag (F := []) yK.rf (show yAg S [63] d_41 d_72 from by rw [ed_72]; exact yAg.cs yAg.rf (by rw [hky_67]; decide)) (by rw [hk_h0]; decide)) 3 (by decide))
          have hE63d_72 : (d_72.1 h0 63).toInt = (d_41.1 h0 63).toInt := congrArg Int32.toInt ((yK.ag (F := []) yK.rf (show yAg S [63] d_41 d_72 from by rw [ed_72]; exact yAg.cs yAg.rf (by rw [hky_67]; decide)) (by rw [hk_h0]; decide)) 63 (by decide))
          refine lv_aload_n hx hb dX9_image_247 rfl (lv_at hl 1 rfl) ?_
          refine yget (ci := 9) (k := 34) (v := .ref (S.2.2.1 h0 34)) (C := RX9) (T := TX9) (N := 67) C0 hK hP hm_h0 hk_h0 (by decide) rfl inlX9 (by decide) mW140 (fun _ h9 => h9) rfl dX9_image_248 ?_
          obtain ⟨hmy_73, hky_73⟩ := ySh.f9_34 hSh _ hm_h0 hk_h0
          refine lv_iload_n hx hb dX9_image_251 rfl (lv_at hl 0 rfl) ?_
          refine lv_aload_n hx hb dX9_image_252 rfl (lv_at hl 1 rfl) ?_
          refine yget (ci := 9) (k := 16) (v := .ref (S.2.2.1 h0 16)) (C := RX9) (T := TX9) (N := 67) C0 hK hP hm_h0 hk_h0 (by decide) rfl inlX9 (by decide) mW123 (fun _ h9 => h9) rfl dX9_image_253 ?_
          obtain ⟨hmy_74, hky_74⟩ := ySh.f9_16 hSh _ hm_h0 hk_h0
          refine lv_iload_n hx hb dX9_image_256 rfl (lv_at hl 0 rfl) ?_
          have hCC_75 := yMI.c hId_72
          refine yald C0 hK hP hmy_74 hky_74 (by decide) rfl 0 rfl (xinT 5000 rfl (by omega) (by omega)) dX9_image_257 ?_
          refine lv_topi (fun z_76 ez_76 => ?_)
          have hvz_76 : 0 ≤ (z_76 : Int32).toInt ∧ (z_76 : Int32).toInt ≤ 129599 := by rw [ez_76]; exact yMI.em_ hId_72 _
          refine yast C0 hK hP hD hS hmy_73 hky_73 (by decide) rfl 0 rfl (xinT 5000 rfl (by omega) (by omega)) dX9_image_258 (fun H locs hP hD hS => ?_)
          obtain ⟨d_77, ed_77⟩ : ∃ z : yD, z = ycs d_72 (S.2.2.1 h0 34) (upd (d_72.2.2.2.1 (S.2.2.1 h0 34)) (v_40 : Int32).toNatClampNeg z_76) := ⟨_, rfl⟩
          rw [← ed_77] at hP hD
          have hgd_77 : yAg S [9, 51, 52, 53, 54, 55, 56, 57, 58, 59, 60, 61, 62, 63, 64, 65, 66, 67] d d_77 := by rw [ed_77]; exact yAg.cs hgd_72 (by rw [hky_73]; decide)
          have hsd_77 : yAg S [64] d_72 d_77 := by rw [ed_77]; exact yAg.cs yAg.rf (by rw [hky_73]; decide)
          have hPod_77 : yPo S d_77 := by rw [ed_77]; exact hPod_72
          have hfd_77 : yK [20, 38] d d_77 h0 := yK.ag hfd_72 (show yAg S [64] d_72 d_77 from by rw [ed_77]; exact yAg.cs yAg.rf (by rw [hky_73]; decide)) (by rw [hk_h0]; decide)
          have hL0d_77 : yAg S [63, 64, 65] d_34 d_77 := by rw [ed_77]; exact yAg.cs hL0d_72 (by rw [hky_73]; decide)
          have hK0d_77 : yK [] d_34 d_77 h0 := yK.ag hK0d_72 (show yAg S [64] d_72 d_77 from by rw [ed_77]; exact yAg.cs yAg.rf (by rw [hky_73]; decide)) (by rw [hk_h0]; decide)
          have hId_77 : yMI S d_77 h0 := by rw [ed_77]; exact yMI.w34 hId_72 hSh hm_h0 hk_h0 (yBr.up (yMI.ke_ hId_72) ⟨by omega, by omega⟩)
          have hE0d_77 : (d_77.1 h0 0).toInt = (d_72.1 h0 0).toInt := congrArg Int32.toInt ((yK.ag (F := []) yK.rf (show yAg S [64] d_72 d_77 from by rw [ed_77]; exact yAg.cs yAg.rf (by rw [hky_73]; decide)) (by rw [hk_h0]; decide)) 0 (by decide))
          have hE1d_77 : (d_77.1 h0 1).toInt = (d_72.1 h0 1).toInt := congrArg Int32.toInt ((yK.ag (F := []) yK.rf (show yAg S [64] d_72 d_77 from by rw [ed_77]; exact yAg.cs yAg.rf (by rw [hky_73]; decide)) (by rw [hk_h0]; decide)) 1 (by decide))
          have hE2d_77 : (d_77.1 h0 2).toInt = (d_72.1 h0 2).toInt := congrArg Int32.toInt ((yK.ag (F := []) yK.rf (show yAg S [64] d_72 d_77 from by rw [ed_77]; exact yAg.cs yAg.rf (by rw [hky_73]; decide)) (by rw [hk_h0]; decide)) 2 (by decide))
          have hE3d_77 : (d_77.1 h0 3).toInt = (d_72.1 h0 3).toInt := congrArg Int32.toInt ((yK.ag (F := []) yK.rf (show yAg S [64] d_72 d_77 from by rw [ed_77]; exact yAg.cs yAg.rf (by rw [hky_73]; decide)) (by rw [hk_h0]; decide)) 3 (by decide))
          have hE63d_77 : (d_77.1 h0 63).toInt = (d_72.1 h0 63).toInt := congrArg Int32.toInt ((yK.ag (F := []) yK.rf (show yAg S [64] d_72 d_77 from by rw [ed_77]; exact yAg.cs yAg.rf (by rw [hky_73]; decide)) (by rw [hk_h0]; decide)) 63 (by decide))
          refine lv_aload_n hx hb dX9_image_259 rfl (lv_at hl 1 rfl) ?_
          refine yget (ci := 9) (k := 35) (v := .ref (S.2.2.1 h0 35)) (C := RX9) (T := TX9) (N := 67) C0 hK hP hm_h0 hk_h0 (by decide) rfl inlX9 (by decide) mW141 (fun _ h9 => h9) rfl dX9_image_260 ?_
          obtain ⟨hmy_79, hky_79⟩ := ySh.f9_35 hSh _ hm_h0 hk_h0
          refine lv_iload_n hx hb dX9_image_263 rfl (lv_at hl 0 rfl) ?_
          refine lv_aload_n hx hb dX9_image_264 rfl (lv_at hl 1 rfl) ?_
          refine yget (ci := 9) (k := 17) (v := .ref (S.2.2.1 h0 17)) (C := RX9) (T := TX9) (N := 67) C0 hK hP hm_h0 hk_h0 (by decide) rfl inlX9 (by decide) mW124 (fun _ h9 => h9) rfl dX9_image_265 ?_
          obtain ⟨hmy_80, hky_80⟩ := ySh.f9_17 hSh _ hm_h0 hk_h0
          refine lv_iload_n hx hb dX9_image_268 rfl (lv_at hl 0 rfl) ?_
          have hCC_81 := yMI.c hId_77
          refine yaldB C0 hK hP hmy_80 hky_80 (by decide) rfl 1 rfl (xinT 5000 rfl (by omega) (by omega)) dX9_image_269 ?_
          refine lv_topi (fun z_82 ez_82 => ?_)
          refine yastB C0 hK hP hD hS hmy_79 hky_79 (by decide) rfl 1 rfl (xinT 5000 rfl (by omega) (by omega)) dX9_image_270 (fun H locs hP hD hS => ?_)
          obtain ⟨d_83, ed_83⟩ : ∃ z : yD, z = ycs d_77 (S.2.2.1 h0 35) (upd (d_77.2.2.2.1 (S.2.2.1 h0 35)) (v_40 : Int32).toNatClampNeg (vp_nar .byte z_82)) := ⟨_, rfl⟩
          rw [← ed_83] at hP hD
          have hgd_83 : yAg S [9, 51, 52, 53, 54, 55, 56, 57, 58, 59, 60, 61, 62, 63, 64, 65, 66, 67] d d_83 := by rw [ed_83]; exact yAg.cs hgd_77 (by rw [hky_79]; decide)
          have hsd_83 : yAg S [65] d_77 d_83 := by rw [ed_83]; exact yAg.cs yAg.rf (by rw [hky_79]; decide)
          have hPod_83 : yPo S d_83 := by rw [ed_83]; exact hPod_77
          have hfd_83 : yK [20, 38] d d_83 h0 := yK.ag hfd_77 (show yAg S [65] d_77 d_83 from by rw [ed_83]; exact yAg.cs yAg.rf (by rw [hky_79]; decide)) (by rw [hk_h0]; decide)
          have hL0d_83 : yAg S [63, 64, 65] d_34 d_83 := by rw [ed_83]; exact yAg.cs hL0d_77 (by rw [hky_79]; decide)
          have hK0d_83 : yK [] d_34 d_83 h0 := yK.ag hK0d_77 (show yAg S [65] d_77 d_83 from by rw [ed_83]; exact yAg.cs yAg.rf (by rw [hky_79]; decide)) (by rw [hk_h0]; decide)
          have hId_83 : yMI S d_83 h0 := yMI.ag hId_77 hSh hm_h0 hk_h0 (show yAg S [65] d_77 d_83 from by rw [ed_83]; exact yAg.cs yAg.rf (by rw [hky_79]; decide)) (yK.ag (F := []) yK.rf (show yAg S [65] d_77 d_83 from by rw [ed_83]; exact yAg.cs yAg.rf (by rw [hky_79]; decide)) (by rw [hk_h0]; decide)) (by decide) (by decide)
          have hE0d_83 : (d_83.1 h0 0).toInt = (d_77.1 h0 0).toInt := congrArg Int32.toInt ((yK.ag (F := []) yK.rf (show yAg S [65] d_77 d_83 from by rw [ed_83]; exact yAg.cs yAg.rf (by rw [hky_79]; decide)) (by rw [hk_h0]; decide)) 0 (by decide))
          have hE1d_83 : (d_83.1 h0 1).toInt = (d_77.1 h0 1).toInt := congrArg Int32.toInt ((yK.ag (F := []) yK.rf (show yAg S [65] d_77 d_83 from by rw [ed_83]; exact yAg.cs yAg.rf (by rw [hky_79]; decide)) (by rw [hk_h0]; decide)) 1 (by decide))
          have hE2d_83 : (d_83.1 h0 2).toInt = (d_77.1 h0 2).toInt := congrArg Int32.toInt ((yK.ag (F := []) yK.rf (show yAg S [65] d_77 d_83 from by rw [ed_83]; exact yAg.cs yAg.rf (by rw [hky_79]; decide)) (by rw [hk_h0]; decide)) 2 (by decide))
          have hE3d_83 : (d_83.1 h0 3).toInt = (d_77.1 h0 3).toInt := congrArg Int32.toInt ((yK.ag (F := []) yK.rf (show yAg S [65] d_77 d_83 from by rw [ed_83]; exact yAg.cs yAg.rf (by rw [hky_79]; decide)) (by rw [hk_h0]; decide)) 3 (by decide))
          have hE63d_83 : (d_83.1 h0 63).toInt = (d_77.1 h0 63).toInt := congrArg Int32.toInt ((yK.ag (F := []) yK.rf (show yAg S [65] d_77 d_83 from by rw [ed_83]; exact yAg.cs yAg.rf (by rw [hky_79]; decide)) (by rw [hk_h0]; decide)) 63 (by decide))
          refine lv_iinc (v := v_40 + 1) (lv' := [(1, .int (v_40 + 1)), (0, .ref h0)]) hx hb dX9_image_271 hl (k := 0) rfl rfl (by decide) rfl (fun ls hl => ?_)
          refine lv_goto (tgt := 228) hx hb dX9_image_274 (by decide) ?_
          have hCC_85 := yMI.c hId_83
          have T_86 : ((v_40 + 1) : Int32).toInt = (v_40 : Int32).toInt + 1 := tadd rfl (rfl : (v_40 : Int32).toInt = (v_40 : Int32).toInt) (by decide +kernel : (1 : Int32).toInt = 1) (by omega) (by omega)
          exact hnext_42 (v_40 + 1, d_83) _ _ ls (xup c_44) ⟨hP, hD, hS, hgd_83, hPod_83, hfd_83, hId_83, hL0d_83, hK0d_83, (show (0 ≤ (((v_40 + 1)) : Int32).toInt) from by have hq0_ : (0 : Int32).toInt = 0 := (by decide +kernel); omega), lv_sub hl [0, 1] rfl⟩
      · refine lv_aload_n hx hb dX9_image_184 rfl (lv_at hl 1 rfl) ?_
        refine yget (ci := 9) (k := 30) (v := .ref (S.2.2.1 h0 30)) (C := RX9) (T := TX9) (N := 67) C0 hK hP hm_h0 hk_h0 (by decide) rfl inlX9 (by decide) mW136 (fun _ h9 => h9) rfl dX9_image_185 ?_
        obtain ⟨hmy_87, hky_87⟩ := ySh.f9_30 hSh _ hm_h0 hk_h0
        refine lv_iload_n hx hb dX9_image_188 rfl (lv_at hl 0 rfl) ?_
        refine lv_aload_n hx hb dX9_image_189 rfl (lv_at hl 1 rfl) ?_
        refine yget (ci := 9) (k := 12) (v := .ref (S.2.2.1 h0 12)) (C := RX9) (T := TX9) (N := 67) C0 hK hP hm_h0 hk_h0 (by decide) rfl inlX9 (by decide) mW118 (fun _ h9 => h9) rfl dX9_image_190 ?_
        obtain ⟨hmy_88, hky_88⟩ := ySh.f9_12 hSh _ hm_h0 hk_h0
        refine lv_iload_n hx hb dX9_image_193 rfl (lv_at hl 0 rfl) ?_
        have hCC_89 := yMI.c hId_34
        have F_90 := fnle (by decide +kernel : (720 : Int32).toInt = 720) (rfl : (v_33 : Int32).toInt = (v_33 : Int32).toInt) c_37
        refine yaldS C0 hK hP hmy_88 hky_88 (by decide) rfl 2 rfl (xinT 720 rfl (by omega) (by omega)) dX9_image_194 ?_
        refine lv_topi (fun z_91 ez_91 => ?_)
        refine yastS C0 hK hP hD hS hmy_87 hky_87 (by decide) rfl 2 rfl (xinT 720 rfl (by omega) (by omega)) dX9_image_195 (fun H locs hP hD hS => ?_)
        obtain ⟨d_92, ed_92⟩ : ∃ z : yD, z = ycs d_34 (S.2.2.1 h0 30) (upd (d_34.2.2.2.1 (S.2.2.1 h0 30)) (v_33 : Int32).toNatClampNeg (vp_nar .short z_91)) := ⟨_, rfl⟩
        rw [← ed_92] at hP hD
        have hgd_92 : yAg S [9, 51, 52, 53, 54, 55, 56, 57, 58, 59, 60, 61, 62, 63, 64, 65, 66, 67] d d_92 := by rw [ed_92]; exact yAg.cs hgd_34 (by rw [hky_87]; decide)
        have hsd_92 : yAg S [60] d_34 d_92 := by rw [ed_92]; exact yAg.cs yAg.rf (by rw [hky_87]; decide)
        have hPod_92 : yPo S d_92 := by rw [ed_92]; exact hPod_34
        have hfd_92 : yK [20, 38] d d_92 h0 := yK.ag hfd_34 (show yAg S [60] d_34 d_92 from by rw [ed_92]; exact yAg.cs yAg.rf (by rw [hky_87]; decide)) (by rw [hk_h0]; decide)
        have hL0d_92 : yAg S [60, 61, 62] d_26 d_92 := by rw [ed_92]; exact yAg.cs hLJd_34 (by rw [hky_87]; decide)
        have hK0d_92 : yK [] d_26 d_92 h0 := yK.ag hKJd_34 (show yAg S [60] d_34 d_92 from by rw [ed_92]; exact yAg.cs yAg.rf (by rw [hky_87]; decide)) (by rw [hk_h0]; decide)
        have hId_92 : yMI S d_92 h0 := yMI.ag hId_34 hSh hm_h0 hk_h0 (show yAg S [60] d_34 d_92 from by rw [ed_92]; exact yAg.cs yAg.rf (by rw [hky_87]; decide)) (yK.ag (F := []) yK.rf (show yAg S [60] d_34 d_92 from by rw [ed_92]; exact yAg.cs yAg.rf (by rw [hky_87]; decide)) (by rw [hk_h0]; decide)) (by decide) (by decide)
        have hE0d_92 : (d_92.1 h0 0).toInt = (d_34.1 h0 0).toInt := congrArg Int32.toInt ((yK.ag (F := []) yK.rf (show yAg S [60] d_34 d_92 from by rw [ed_92]; exact yAg.cs yAg.rf (by rw [hky_87]; decide)) (by rw [hk_h0]; decide)) 0 (by decide))
        have hE1d_92 : (d_92.1 h0 1).toInt = (d_34.1 h0 1).toInt := congrArg Int32.toInt ((yK.ag (F := []) yK.rf (show yAg S [60] d_34 d_92 from by rw [ed_92]; exact yAg.cs yAg.rf (by rw [hky_87]; decide)) (by rw [hk_h0]; decide)) 1 (by decide))
        have hE2d_92 : (d_92.1 h0 2).toInt = (d_34.1 h0 2).toInt := congrArg Int32.toInt ((yK.ag (F := []) yK.rf (show yAg S [60] d_34 d_92 from by rw [ed_92]; exact yAg.cs yAg.rf (by rw [hky_87]; decide)) (by rw [hk_h0]; decide)) 2 (by decide))
        have hE3d_92 : (d_92.1 h0 3).toInt = (d_34.1 h0 3).toInt := congrArg Int32.toInt ((yK.ag (F := []) yK.rf (show yAg S [60] d_34 d_92 from by rw [ed_92]; exact yAg.cs yAg.rf (by rw [hky_87]; decide)) (by rw [hk_h0]; decide)) 3 (by decide))
        have hE63d_92 : (d_92.1 h0 63).toInt = (d_34.1 h0 63).toInt := congrArg Int32.toInt ((yK.ag (F := []) yK.rf (show yAg S [60] d_34 d_92 from by rw [ed_92]; exact yAg.cs yAg.rf (by rw [hky_87]; decide)) (by rw [hk_h0]; decide)) 63 (by decide))
        refine lv_aload_n hx hb dX9_image_196 rfl (lv_at hl 1 rfl) ?_
        refine yget (ci := 9) (k := 31) (v := .ref (S.2.2.1 h0 31)) (C := RX9) (T := TX9) (N := 67) C0 hK hP hm_h0 hk_h0 (by decide) rfl inlX9 (by decide) mW137 (fun _ h9 => h9) rfl dX9_image_197 ?_
        obtain ⟨hmy_93, hky_93⟩ := ySh.f9_31 hSh _ hm_h0 hk_h0
        refine lv_iload_n hx hb dX9_image_200 rfl (lv_at hl 0 rfl) ?_
        refine lv_aload_n hx hb dX9_image_201 rfl (lv_at hl 1 rfl) ?_
        refine yget (ci := 9) (k := 13) (v := .ref (S.2.2.1 h0 13)) (C := RX9) (T := TX9) (N := 67) C0 hK hP hm_h0 hk_h0 (by decide) rfl inlX9 (by decide) mW120 (fun _ h9 => h9) rfl dX9_image_202 ?_
        obtain ⟨hmy_94, hky_94⟩ := ySh.f9_13 hSh _ hm_h0 hk_h0
        refine lv_iload_n hx hb dX9_image_205 rfl (lv_at hl 0 rfl) ?_
        have hCC_95 := yMI.c hId_92
        refine yaldZ C0 hK hP hmy_94 hky_94 (by decide) rfl 3 rfl (xinT 720 rfl (by omega) (by omega)) dX9_image_206 ?_
        refine lv_topi (fun z_96 ez_96 => ?_)
        refine yastZ C0 hK hP hD hS hmy_93 hky_93 (by decide) rfl 3 rfl (xinT 720 rfl (by omega) (by omega)) dX9_image_207 (fun H locs hP hD hS => ?_)
        obtain ⟨d_97, ed_97⟩ : ∃ z : yD, z = ycs d_92 (S.2.2.1 h0 31) (upd (d_92.2.2.2.1 (S.2.2.1 h0 31)) (v_33 : Int32).toNatClampNeg (vp_nar .boolean z_96)) := ⟨_, rfl⟩
        rw [← ed_97] at hP hD
        have hgd_97 : yAg S [9, 51, 52, 53, 54, 55, 56, 57, 58, 59, 60, 61, 62, 63, 64, 65, 66, 67] d d_97 := by rw [ed_97]; exact yAg.cs hgd_92 (by rw [hky_93]; decide)
        have hsd_97 : yAg S [61] d_92 d_97 := by rw [ed_97]; exact yAg.cs yAg.rf (by rw [hky_93]; decide)
        have hPod_97 : yPo S d_97 := by rw [ed_97]; exact hPod_92
        have hfd_97 : yK [20, 38] d d_97 h0 := yK.ag hfd_92 (show yAg S [61] d_92 d_97 from by rw [ed_97]; exact yAg.cs yAg.rf (by rw [hky_93]; decide)) (by rw [hk_h0]; decide)
        have hL0d_97 : yAg S [60, 61, 62] d_26 d_97 := by rw [ed_97]; exact yAg.cs hL0d_92 (by rw [hky_93]; decide)
        have hK0d_97 : yK [] d_26 d_97 h0 := yK.ag hK0d_92 (show yAg S [61] d_92 d_97 from by rw [ed_97]; exact yAg.cs yAg.rf (by rw [hky_93]; decide)) (by rw [hk_h0]; decide)
        have hId_97 : yMI S d_97 h0 := yMI.ag hId_92 hSh hm_h0 hk_h0 (show yAg S [61] d_92 d_97 from by rw [ed_97]; exact yAg.cs yAg.rf (by rw [hky_93]; decide)) (yK.ag (F := []) yK.rf (show yAg S [61] d_92 d_97 from by rw [ed_97]; exact yAg.cs yAg.rf (by rw [hky_93]; decide)) (by rw [hk_h0]; decide)) (by decide) (by decide)
        have hE0d_97 : (d_97.1 h0 0).toInt = (d_92.1 h0 0).toInt := congrArg Int32.toInt ((yK.ag (F := []) yK.rf (show yAg S [61] d_92 d_97 from by rw [ed_97]; exact yAg.cs yAg.rf (by rw [hky_93]; decide)) (by rw [hk_h0]; decide)) 0 (by decide))
        have hE1d_97 : (d_97.1 h0 1).toInt = (d_92.1 h0 1).toInt := congrArg Int32.toInt ((yK.ag (F := []) yK.rf (show yAg S [61] d_92 d_97 from by rw [ed_97]; exact yAg.cs yAg.rf (by rw [hky_93]; decide)) (by rw [hk_h0]; decide)) 1 (by decide))
        have hE2d_97 : (d_97.1 h0 2).toInt = (d_92.1 h0 2).toInt := congrArg Int32.toInt ((yK.ag (F := []) yK.rf (show yAg S [61] d_92 d_97 from by rw [ed_97]; exact yAg.cs yAg.rf (by rw [hky_93]; decide)) (by rw [hk_h0]; decide)) 2 (by decide))
        have hE3d_97 : (d_97.1 h0 3).toInt = (d_92.1 h0 3).toInt := congrArg Int32.toInt ((yK.ag (F := []) yK.rf (show yAg S [61] d_92 d_97 from by rw [ed_97]; exact yAg.cs yAg.rf (by rw [hky_93]; decide)) (by rw [hk_h0]; decide)) 3 (by decide))
        have hE63d_97 : (d_97.1 h0 63).toInt = (d_92.1 h0 63).toInt := congrArg Int32.toInt ((yK.ag (F := []) yK.rf (show yAg S [61] d_92 d_97 from by rw [ed_97]; exact yAg.cs yAg.rf (by rw [hky_93]; decide)) (by rw [hk_h0]; decide)) 63 (by decide))
        refine lv_aload_n hx hb dX9_image_208 rfl (lv_at hl 1 rfl) ?_
        refine yget (ci := 9) (k := 32) (v := .ref (S.2.2.1 h0 32)) (C := RX9) (T := TX9) (N := 67) C0 hK hP hm_h0 hk_h0 (by decide) rfl inlX9 (by decide) mW138 (fun _ h9 => h9) rfl dX9_image_209 ?_
        obtain ⟨hmy_98, hky_98⟩ := ySh.f9_32 hSh _ hm_h0 hk_h0
        refine lv_iload_n hx hb dX9_image_212 rfl (lv_at hl 0 rfl) ?_
        refine lv_aload_n hx hb dX9_image_213 rfl (lv_at hl 1 rfl) ?_
        refine yget (ci := 9) (k := 14) (v := .ref (S.2.2.1 h0 14)) (C := RX9) (T := TX9) (N := 67) C0 hK hP hm_h0 hk_h0 (by decide) rfl inlX9 (by decide) mW121 (fun _ h9 => h9) rfl dX9_image_214 ?_
        obtain ⟨hmy_99, hky_99⟩ := ySh.f9_14 hSh _ hm_h0 hk_h0
        refine lv_iload_n hx hb dX9_image_217 rfl (lv_at hl 0 rfl) ?_
        have hCC_100 := yMI.c hId_97
        refine yaldZ C0 hK hP hmy_99 hky_99 (by decide) rfl 3 rfl (xinT 720 rfl (by omega) (by omega)) dX9_image_218 ?_
        refine lv_topi (fun z_101 ez_101 => ?_)
        have hzz_101 : z_101 = 0 ∨ z_101 = 1 := by rw [ez_101]; exact yMI.z_ hId_97 _
        refine yastZ C0 hK hP hD hS hmy_98 hky_98 (by decide) rfl 3 rfl (xinT 720 rfl (by omega) (by omega)) dX9_image_219 (fun H locs hP hD hS => ?_)
        obtain ⟨d_102, ed_102⟩ : ∃ z : yD, z = ycs d_97 (S.2.2.1 h0 32) (upd (d_97.2.2.2.1 (S.2.2.1 h0 32)) (v_33 : Int32).toNatClampNeg (vp_nar .boolean z_101)) := ⟨_, rfl⟩
        rw [← ed_102] at hP hD
        have hgd_102 : yAg S [9, 51, 52, 53, 54, 55, 56, 57, 58, 59, 60, 61, 62, 63, 64, 65, 66, 67] d d_102 := by rw [ed_102]; exact yAg.cs hgd_97 (by rw [hky_98]; decide)
        have hsd_102 : yAg S [62] d_97 d_102 := by rw [ed_102]; exact yAg.cs yAg.rf (by rw [hky_98]; decide)
        have hPod_102 : yPo S d_102 := by rw [ed_102]; exact hPod_97
        have hfd_102 : yK [20, 38] d d_102 h0 := yK.ag hfd_97 (show yAg S [62] d_97 d_102 from by rw [ed_102]; exact yAg.cs yAg.rf (by rw [hky_98]; decide)) (by rw [hk_h0]; decide)
        have hL0d_102 : yAg S [60, 61, 62] d_26 d_102 := by rw [ed_102]; exact yAg.cs hL0d_97 (by rw [hky_98]; decide)
        have hK0d_102 : yK [] d_26 d_102 h0 := yK.ag hK0d_97 (show yAg S [62] d_97 d_102 from by rw [ed_102]; exact yAg.cs yAg.rf (by rw [hky_98]; decide)) (by rw [hk_h0]; decide)
        have hId_102 : yMI S d_102 h0 := by rw [ed_102]; exact yMI.w32 hId_97 hSh hm_h0 hk_h0 (yBz.up (yMI.kz_ hId_97) hzz_101)
        have hE0d_102 : (d_102.1 h0 0).toInt = (d_97.1 h0 0).toInt := congrArg Int32.toInt ((yK.ag (F := []) yK.rf (show yAg S [62] d_97 d_102 from by rw [ed_102]; exact yAg.cs yAg.rf (by rw [hky_98]; decide)) (by rw [hk_h0]; decide)) 0 (by decide))
        have hE1d_102 : (d_102.1 h0 1).toInt = (d_97.1 h0 1).toInt := congrArg Int32.toInt ((yK.ag (F := []) yK.rf (show yAg S [62] d_97 d_102 from by rw [ed_102]; exact yAg.cs yAg.rf (by rw [hky_98]; decide)) (by rw [hk_h0]; decide)) 1 (by decide))
        have hE2d_102 : (d_102.1 h0 2).toInt = (d_97.1 h0 2).toInt := congrArg Int32.toInt ((yK.ag (F := []) yK.rf (show yAg S [62] d_97 d_102 from by rw [ed_102]; exact yAg.cs yAg.rf (by rw [hky_98]; decide)) (by rw [hk_h0]; decide)) 2 (by decide))
        have hE3d_102 : (d_102.1 h0 3).toInt = (d_97.1 h0 3).toInt := congrArg Int32.toInt ((yK.ag (F := []) yK.rf (show yAg S [62] d_97 d_102 from by rw [ed_102]; exact yAg.cs yAg.rf (by rw [hky_98]; decide)) (by rw [hk_h0]; decide)) 3 (by decide))
        have hE63d_102 : (d_102.1 h0 63).toInt = (d_97.1 h0 63).toInt := congrArg Int32.toInt ((yK.ag (F := []) yK.rf (show yAg S [62] d_97 d_102 from by rw [ed_102]; exact yAg.cs yAg.rf (by rw [hky_98]; decide)) (by rw [hk_h0]; decide)) 63 (by decide))
        refine lv_iinc (v := v_33 + 1) (lv' := [(1, .int (v_33 + 1)), (0, .ref h0)]) hx hb dX9_image_220 hl (k := 0) rfl rfl (by decide) rfl (fun ls hl => ?_)
        refine lv_goto (tgt := 177) hx hb dX9_image_223 (by decide) ?_
        have hCC_104 := yMI.c hId_102
        have T_105 : ((v_33 + 1) : Int32).toInt = (v_33 : Int32).toInt + 1 := tadd rfl (rfl : (v_33 : Int32).toInt = (v_33 : Int32).toInt) (by decide +kernel : (1 : Int32).toInt = 1) (by omega) (by omega)
        exact hnext_35 (v_33 + 1, d_102) _ _ ls (xup c_37) ⟨hP, hD, hS, hgd_102, hPod_102, hfd_102, hId_102, hL0d_102, hK0d_102, (show (0 ≤ (((v_33 + 1)) : Int32).toInt) from by have hq0_ : (0 : Int32).toInt = 0 := (by decide +kernel); omega), lv_sub hl [0, 1] rfl⟩
    · refine lv_aload_n hx hb dX9_image_157 rfl (lv_at hl 1 rfl) ?_
      refine yget (ci := 9) (k := 29) (v := .ref (S.2.2.1 h0 29)) (C := RX9) (T := TX9) (N := 67) C0 hK hP hm_h0 hk_h0 (by decide) rfl inlX9 (by decide) mW135 (fun _ h9 => h9) rfl dX9_image_158 ?_
      obtain ⟨hmy_106, hky_106⟩ := ySh.f9_29 hSh _ hm_h0 hk_h0
      refine lv_iload_n hx hb dX9_image_161 rfl (lv_at hl 0 rfl) ?_
      refine lv_aload_n hx hb dX9_image_162 rfl (lv_at hl 1 rfl) ?_
      refine yget (ci := 9) (k := 11) (v := .ref (S.2.2.1 h0 11)) (C := RX9) (T := TX9) (N := 67) C0 hK hP hm_h0 hk_h0 (by decide) rfl inlX9 (by decide) mW116 (fun _ h9 => h9) rfl dX9_image_163 ?_
      obtain ⟨hmy_107, hky_107⟩ := ySh.f9_11 hSh _ hm_h0 hk_h0
      refine lv_iload_n hx hb dX9_image_166 rfl (lv_at hl 0 rfl) ?_
      have hCC_108 := yMI.c hId_26
      have F_109 := fle (by decide +kernel : (2400 : Int32).toInt = 2400) (rfl : (v_20 : Int32).toInt = (v_20 : Int32).toInt) c_24
      have F_110 := fnle (by decide +kernel : (96 : Int32).toInt = 96) (rfl : (v_25 : Int32).toInt = (v_25 : Int32).toInt) c_29
      refine yaldJ C0 hK hP hmy_107 hky_107 (by decide) rfl 4 rfl (xinT 96 rfl (by omega) (by omega)) dX9_image_167 ?_
      refine lv_topl (fun z_111 ez_111 => ?_)
      refine yastJ C0 hK hP hD hS hmy_106 hky_106 (by decide) rfl 4 rfl (xinT 96 rfl (by omega) (by omega)) dX9_image_168 (fun H locs hP hD hS => ?_)
      obtain ⟨d_112, ed_112⟩ : ∃ z : yD, z = ye d_26 (S.2.2.1 h0 29) (v_25 : Int32).toNatClampNeg z_111 := ⟨_, rfl⟩
      rw [← ed_112] at hP hD
      have hgd_112 : yAg S [9, 51, 52, 53, 54, 55, 56, 57, 58, 59, 60, 61, 62, 63, 64, 65, 66, 67] d d_112 := by rw [ed_112]; exact yAg.e hgd_26 (by rw [hky_106]; decide)
      have hsd_112 : yAg S [59] d_26 d_112 := by rw [ed_112]; exact yAg.e yAg.rf (by rw [hky_106]; decide)
      have hPod_112 : yPo S d_112 := by rw [ed_112]; exact hPod_26
      have hfd_112 : yK [20, 38] d d_112 h0 := yK.ag hfd_26 (show yAg S [59] d_26 d_112 from by rw [ed_112]; exact yAg.e yAg.rf (by rw [hky_106]; decide)) (by rw [hk_h0]; decide)
      have hL0d_112 : yAg S [59] d_21 d_112 := by rw [ed_112]; exact yAg.e hLJd_26 (by rw [hky_106]; decide)
      have hK0d_112 : yK [] d_21 d_112 h0 := yK.ag hKJd_26 (show yAg S [59] d_26 d_112 from by rw [ed_112]; exact yAg.e yAg.rf (by rw [hky_106]; decide)) (by rw [hk_h0]; decide)
      have hId_112 : yMI S d_112 h0 := by rw [ed_112]; exact yMI.w29 hId_26 hSh hm_h0 hk_h0 (yBp.up (yMI.kb_ hId_26) (fun p hp e => by rw [ez_111, show (v_25 : Int32).toNatClampNeg = 12 * p + 1 from e]; exact (yMI.bp_ hId_26 p hp).1) (fun p hp e => by rw [ez_111, show (v_25 : Int32).toNatClampNeg = 12 * p + 2 from e]; exact (yMI.bp_ hId_26 p hp).2.1) (fun p hp e => by rw [ez_111, show (v_25 : Int32).toNatClampNeg = 12 * p + 6 from e]; exact (yMI.bp_ hId_26 p hp).2.2))
      have hE0d_112 : (d_112.1 h0 0).toInt = (d_26.1 h0 0).toInt := congrArg Int32.toInt ((yK.ag (F := []) yK.rf (show yAg S [59] d_26 d_112 from by rw [ed_112]; exact yAg.e yAg.rf (by rw [hky_106]; decide)) (by rw [hk_h0]; decide)) 0 (by decide))
      have hE1d_112 : (d_112.1 h0 1).toInt = (d_26.1 h0 1).toInt := congrArg Int32.toInt ((yK.ag (F := []) yK.rf (show yAg S [59] d_26 d_112 from by rw [ed_112]; exact yAg.e yAg.rf (by rw [hky_106]; decide)) (by rw [hk_h0]; decide)) 1 (by decide))
      have hE2d_112 : (d_112.1 h0 2).toInt = (d_26.1 h0 2).toInt := congrArg Int32.toInt ((yK.ag (F := []) yK.rf (show yAg S [59] d_26 d_112 from by rw [ed_112]; exact yAg.e yAg.rf (by rw [hky_106]; decide)) (by rw [hk_h0]; decide)) 2 (by decide))
      have hE3d_112 : (d_112.1 h0 3).toInt = (d_26.1 h0 3).toInt := congrArg Int32.toInt ((yK.ag (F := []) yK.rf (show yAg S [59] d_26 d_112 from by rw [ed_112]; exact yAg.e yAg.rf (by rw [hky_106]; decide)) (by rw [hk_h0]; decide)) 3 (by decide))
      have hE63d_112 : (d_112.1 h0 63).toInt = (d_26.1 h0 63).toInt := congrArg Int32.toInt ((yK.ag (F := []) yK.rf (show yAg S [59] d_26 d_112 from by rw [ed_112]; exact yAg.e yAg.rf (by rw [hky_106]; decide)) (by rw [hk_h0]; decide)) 63 (by decide))
      refine lv_iinc (v := v_25 + 1) (lv' := [(1, .int (v_25 + 1)), (0, .ref h0)]) hx hb dX9_image_169 hl (k := 0) rfl rfl (by decide) rfl (fun ls hl => ?_)
      refine lv_goto (tgt := 151) hx hb dX9_image_172 (by decide) ?_
      have hCC_114 := yMI.c hId_112
      have T_115 : ((v_25 + 1) : Int32).toInt = (v_25 : Int32).toInt + 1 := tadd rfl (rfl : (v_25 : Int32).toInt = (v_25 : Int32).toInt) (by decide +kernel : (1 : Int32).toInt = 1) (by omega) (by omega)
      exact hnext_27 (v_25 + 1, d_112) _ _ ls (xup c_29) ⟨hP, hD, hS, hgd_112, hPod_112, hfd_112, hId_112, hL0d_112, hK0d_112, ⟨zCp.step hex_28.1 hex_28.2 c_29 (by rw [ed_112, ez_111, (hLJd_26 _ (by rw [(ySh.f9_11 hSh h0 hm_h0 hk_h0).2]; decide)).2.2.2.2]; exact va_up_self _ _ _), (show 0 ≤ (v_25 + 1 : Int32).toInt from by omega)⟩, lv_sub hl [0, 1] rfl⟩
  · refine lv_aload_n hx hb dX9_image_59 rfl (lv_at hl 1 rfl) ?_
    refine yget (ci := 9) (k := 22) (v := .ref (S.2.2.1 h0 22)) (C := RX9) (T := TX9) (N := 67) C0 hK hP hm_h0 hk_h0 (by decide) rfl inlX9 (by decide) mW128 (fun _ h9 => h9) rfl dX9_image_60 ?_
    obtain ⟨hmy_116, hky_116⟩ := ySh.f9_22 hSh _ hm_h0 hk_h0
    refine lv_iload_n hx hb dX9_image_63 rfl (lv_at hl 0 rfl) ?_
    refine lv_aload_n hx hb dX9_image_64 rfl (lv_at hl 1 rfl) ?_
    refine yget (ci := 9) (k := 4) (v := .ref (S.2.2.1 h0 4)) (C := RX9) (T := TX9) (N := 67) C0 hK hP hm_h0 hk_h0 (by decide) rfl inlX9 (by decide) mW108 (fun _ h9 => h9) rfl dX9_image_65 ?_
    obtain ⟨hmy_117, hky_117⟩ := ySh.f9_4 hSh _ hm_h0 hk_h0
    refine lv_iload_n hx hb dX9_image_68 rfl (lv_at hl 0 rfl) ?_
    have hCC_118 := yMI.c hId_21
    have F_119 := fnle (by decide +kernel : (2400 : Int32).toInt = 2400) (rfl : (v_20 : Int32).toInt = (v_20 : Int32).toInt) c_24
    refine yaldB C0 hK hP hmy_117 hky_117 (by decide) rfl 1 rfl (xinT 2400 rfl (by omega) (by omega)) dX9_image_69 ?_
    refine lv_topi (fun z_120 ez_120 => ?_)
    refine yastB C0 hK hP hD hS hmy_116 hky_116 (by decide) rfl 1 rfl (xinT 2400 rfl (by omega) (by omega)) dX9_image_70 (fun H locs hP hD hS => ?_)
    obtain ⟨d_121, ed_121⟩ : ∃ z : yD, z = ycs d_21 (S.2.2.1 h0 22) (upd (d_21.2.2.2.1 (S.2.2.1 h0 22)) (v_20 : Int32).toNatClampNeg (vp_nar .byte z_120)) := ⟨_, rfl⟩
    rw [← ed_121] at hP hD
    have hgd_121 : yAg S [9, 51, 52, 53, 54, 55, 56, 57, 58, 59, 60, 61, 62, 63, 64, 65, 66, 67] d d_121 := by rw [ed_121]; exact yAg.cs hgd_21 (by rw [hky_116]; decide)
    have hsd_121 : yAg S [52] d_21 d_121 := by rw [ed_121]; exact yAg.cs yAg.rf (by rw [hky_116]; decide)
    have hPod_121 : yPo S d_121 := by rw [ed_121]; exact hPod_21
    have hfd_121 : yK [20, 38] d d_121 h0 := yK.ag hfd_21 (show yAg S [52] d_21 d_121 from by rw [ed_121]; exact yAg.cs yAg.rf (by rw [hky_116]; decide)) (by rw [hk_h0]; decide)
    have hL0d_121 : yAg S [52, 53, 54, 55, 56, 57, 58] d_17 d_121 := by rw [ed_121]; exact yAg.cs hLJd_21 (by rw [hky_116]; decide)
    have hK0d_121 : yK [] d_17 d_121 h0 := yK.ag hKJd_21 (show yAg S [52] d_21 d_121 from by rw [ed_121]; exact yAg.cs yAg.rf (by rw [hky_116]; decide)) (by rw [hk_h0]; decide)
    have hId_121 : yMI S d_121 h0 := yMI.ag hId_21 hSh hm_h0 hk_h0 (show yAg S [52] d_21 d_121 from by rw [ed_121]; exact yAg.cs yAg.rf (by rw [hky_116]; decide)) (yK.ag (F := []) yK.rf (show yAg S [52] d_21 d_121 from by rw [ed_121]; exact yAg.cs yAg.rf (by rw [hky_116]; decide)) (by rw [hk_h0]; decide)) (by decide) (by decide)
    have hE0d_121 : (d_121.1 h0 0).toInt = (d_21.1 h0 0).toInt := congrArg Int32.toInt ((yK.ag (F := []) yK.rf (show yAg S [52] d_21 d_121 from by rw [ed_121]; exact yAg.cs yAg.rf (by rw [hky_116]; decide)) (by rw [hk_h0]; decide)) 0 (by decide))
    have hE1d_121 : (d_121.1 h0 1).toInt = (d_21.1 h0 1).toInt := congrArg Int32.toInt ((yK.ag (F := []) yK.rf (show yAg S [52] d_21 d_121 from by rw [ed_121]; exact yAg.cs yAg.rf (by rw [hky_116]; decide)) (by rw [hk_h0]; decide)) 1 (by decide))
    have hE2d_121 : (d_121.1 h0 2).toInt = (d_21.1 h0 2).toInt := congrArg Int32.toInt ((yK.ag (F := []) yK.rf (show yAg S [52] d_21 d_121 from by rw [ed_121]; exact yAg.cs yAg.rf (by rw [hky_116]; decide)) (by rw [hk_h0]; decide)) 2 (by decide))
    have hE3d_121 : (d_121.1 h0 3).toInt = (d_21.1 h0 3).toInt := congrArg Int32.toInt ((yK.ag (F := []) yK.rf (show yAg S [52] d_21 d_121 from by rw [ed_121]; exact yAg.cs yAg.rf (by rw [hky_116]; decide)) (by rw [hk_h0]; decide)) 3 (by decide))
    have hE63d_121 : (d_121.1 h0 63).toInt = (d_21.1 h0 63).toInt := congrArg Int32.toInt ((yK.ag (F := []) yK.rf (show yAg S [52] d_21 d_121 from by rw [ed_121]; exact yAg.cs yAg.rf (by rw [hky_116]; decide)) (by rw [hk_h0]; decide)) 63 (by decide))
    refine lv_aload_n hx hb dX9_image_71 rfl (lv_at hl 1 rfl) ?_
    refine yget (ci := 9) (k := 23) (v := .ref (S.2.2.1 h0 23)) (C := RX9) (T := TX9) (N := 67) C0 hK hP hm_h0 hk_h0 (by decide) rfl inlX9 (by decide) mW129 (fun _ h9 => h9) rfl dX9_image_72 ?_
    obtain ⟨hmy_122, hky_122⟩ := ySh.f9_23 hSh _ hm_h0 hk_h0
    refine lv_iload_n hx hb dX9_image_75 rfl (lv_at hl 0 rfl) ?_
    refine lv_aload_n hx hb dX9_image_76 rfl (lv_at hl 1 rfl) ?_
    refine yget (ci := 9) (k := 5) (v := .ref (S.2.2.1 h0 5)) (C := RX9) (T := TX9) (N := 67) C0 hK hP hm_h0 hk_h0 (by decide) rfl inlX9 (by decide) mW109 (fun _ h9 => h9) rfl dX9_image_77 ?_
    obtain ⟨hmy_123, hky_123⟩ := ySh.f9_5 hSh _ hm_h0 hk_h0
    refine lv_iload_n hx hb dX9_image_80 rfl (lv_at hl 0 rfl) ?_
    have hCC_124 := yMI.c hId_121
    refine yaldB C0 hK hP hmy_123 hky_123 (by decide) rfl 1 rfl (xinT 2400 rfl (by omega) (by omega)) dX9_image_81 ?_
    refine lv_topi (fun z_125 ez_125 => ?_)
    refine yastB C0 hK hP hD hS hmy_122 hky_122 (by decide) rfl 1 rfl (xinT 2400 rfl (by omega) (by omega)) dX9_image_82 (fun H locs hP hD hS => ?_)
    obtain ⟨d_126, ed_126⟩ : ∃ z : yD, z = ycs d_121 (S.2.2.1 h0 23) (upd (d_121.2.2.2.1 (S.2.2.1 h0 23)) (v_20 : Int32).toNatClampNeg (vp_nar .byte z_125)) := ⟨_, rfl⟩
    rw [← ed_126] at hP hD
    have hgd_126 : yAg S [9, 51, 52, 53, 54, 55, 56, 57, 58, 59, 60, 61, 62, 63, 64, 65, 66, 67] d d_126 := by rw [ed_126]; exact yAg.cs hgd_121 (by rw [hky_122]; decide)
    have hsd_126 : yAg S [53] d_121 d_126 := by rw [ed_126]; exact yAg.cs yAg.rf (by rw [hky_122]; decide)
    have hPod_126 : yPo S d_126 := by rw [ed_126]; exact hPod_121
    have hfd_126 : yK [20, 38] d d_126 h0 := yK.ag hfd_121 (show yAg S [53] d_121 d_126 from by rw [ed_126]; exact yAg.cs yAg.rf (by rw [hky_122]; decide)) (by rw [hk_h0]; decide)
    have hL0d_126 : yAg S [52, 53, 54, 55, 56, 57, 58] d_17 d_126 := by rw [ed_126]; exact yAg.cs hL0d_121 (by rw [hky_122]; decide)
    have hK0d_126 : yK [] d_17 d_126 h0 := yK.ag hK0d_121 (show yAg S [53] d_121 d_126 from by rw [ed_126]; exact yAg.cs yAg.rf (by rw [hky_122]; decide)) (by rw [hk_h0]; decide)
    have hId_126 : yMI S d_126 h0 := yMI.ag hId_121 hSh hm_h0 hk_h0 (show yAg S [53] d_121 d_126 from by rw [ed_126]; exact yAg.cs yAg.rf (by rw [hky_122]; decide)) (yK.ag (F := []) yK.rf (show yAg S [53] d_121 d_126 from by rw [ed_126]; exact yAg.cs yAg.rf (by rw [hky_122]; decide)) (by rw [hk_h0]; decide)) (by decide) (by decide)
    have hE0d_126 : (d_126.1 h0 0).toInt = (d_121.1 h0 0).toInt := congrArg Int32.toInt ((yK.ag (F := []) yK.rf (show yAg S [53] d_121 d_126 from by rw [ed_126]; exact yAg.cs yAg.rf (by rw [hky_122]; decide)) (by rw [hk_h0]; decide)) 0 (by decide))
    have hE1d_126 : (d_126.1 h0 1).toInt = (d_121.1 h0 1).toInt := congrArg Int32.toInt ((yK.ag (F := []) yK.rf (show yAg S [53] d_121 d_126 from by rw [ed_126]; exact yAg.cs yAg.rf (by rw [hky_122]; decide)) (by rw [hk_h0]; decide)) 1 (by decide))
    have hE2d_126 : (d_126.1 h0 2).toInt = (d_121.1 h0 2).toInt := congrArg Int32.toInt ((yK.ag (F := []) yK.rf (show yAg S [53] d_121 d_126 from by rw [ed_126]; exact yAg.cs yAg.rf (by rw [hky_122]; decide)) (by rw [hk_h0]; decide)) 2 (by decide))
    have hE3d_126 : (d_126.1 h0 3).toInt = (d_121.1 h0 3).toInt := congrArg Int32.toInt ((yK.ag (F := []) yK.rf (show yAg S [53] d_121 d_126 from by rw [ed_126]; exact yAg.cs yAg.rf (by rw [hky_122]; decide)) (by rw [hk_h0]; decide)) 3 (by decide))
    have hE63d_126 : (d_126.1 h0 63).toInt = (d_121.1 h0 63).toInt := congrArg Int32.toInt ((yK.ag (F := []) yK.rf (show yAg S [53] d_121 d_126 from by rw [ed_126]; exact yAg.cs yAg.rf (by rw [hky_122]; decide)) (by rw [hk_h0]; decide)) 63 (by decide))
    refine lv_aload_n hx hb dX9_image_83 rfl (lv_at hl 1 rfl) ?_
    refine yget (ci := 9) (k := 24) (v := .ref (S.2.2.1 h0 24)) (C := RX9) (T := TX9) (N := 67) C0 hK hP hm_h0 hk_h0 (by decide) rfl inlX9 (by decide) mW130 (fun _ h9 => h9) rfl dX9_image_84 ?_
    obtain ⟨hmy_127, hky_127⟩ := ySh.f9_24 hSh _ hm_h0 hk_h0
    refine lv_iload_n hx hb dX9_image_87 rfl (lv_at hl 0 rfl) ?_
    refine lv_aload_n hx hb dX9_image_88 rfl (lv_at hl 1 rfl) ?_
    refine yget (ci := 9) (k := 6) (v := .ref (S.2.2.1 h0 6)) (C := RX9) (T := TX9) (N := 67) C0 hK hP hm_h0 hk_h0 (by decide) rfl inlX9 (by decide) mW110 (fun _ h9 => h9) rfl dX9_image_89 ?_
    obtain ⟨hmy_128, hky_128⟩ := ySh.f9_6 hSh _ hm_h0 hk_h0
    refine lv_iload_n hx hb dX9_image_92 rfl (lv_at hl 0 rfl) ?_
    have hCC_129 := yMI.c hId_126
    refine yaldB C0 hK hP hmy_128 hky_128 (by decide) rfl 1 rfl (xinT 2400 rfl (by omega) (by omega)) dX9_image_93 ?_
    refine lv_topi (fun z_130 ez_130 => ?_)
    refine yastB C0 hK hP hD hS hmy_127 hky_127 (by decide) rfl 1 rfl (xinT 2400 rfl (by omega) (by omega)) dX9_image_94 (fun H locs hP hD hS => ?_)
    obtain ⟨d_131, ed_131⟩ : ∃ z : yD, z = ycs d_126 (S.2.2.1 h0 24) (upd (d_126.2.2.2.1 (S.2.2.1 h0 24)) (v_20 : Int32).toNatClampNeg (vp_nar .byte z_130)) := ⟨_, rfl⟩
    rw [← ed_131] at hP hD
    have hgd_131 : yAg S [9, 51, 52, 53, 54, 55, 56, 57, 58, 59, 60, 61, 62, 63, 64, 65, 66, 67] d d_131 := by rw [ed_131]; exact yAg.cs hgd_126 (by rw [hky_127]; decide)
    have hsd_131 : yAg S [54] d_126 d_131 := by rw [ed_131]; exact yAg.cs yAg.rf (by rw [hky_127]; decide)
    have hPod_131 : yPo S d_131 := by rw [ed_131]; exact hPod_126
    have hfd_131 : yK [20, 38] d d_131 h0 := yK.ag hfd_126 (show yAg S [54] d_126 d_131 from by rw [ed_131]; exact yAg.cs yAg.rf (by rw [hky_127]; decide)) (by rw [hk_h0]; decide)
    have hL0d_131 : yAg S [52, 53, 54, 55, 56, 57, 58] d_17 d_131 := by rw [ed_131]; exact yAg.cs hL0d_126 (by rw [hky_127]; decide)
    have hK0d_131 : yK [] d_17 d_131 h0 := yK.ag hK0d_126 (show yAg S [54] d_126 d_131 from by rw [ed_131]; exact yAg.cs yAg.rf (by rw [hky_127]; decide)) (by rw [hk_h0]; decide)
    have hId_131 : yMI S d_131 h0 := yMI.ag hId_126 hSh hm_h0 hk_h0 (show yAg S [54] d_126 d_131 from by rw [ed_131]; exact yAg.cs yAg.rf (by rw [hky_127]; decide)) (yK.ag (F := []) yK.rf (show yAg S [54] d_126 d_131 from by rw [ed_131]; exact yAg.cs yAg.rf (by rw [hky_127]; decide)) (by rw [hk_h0]; decide)) (by decide) (by decide)
    have hE0d_131 : (d_131.1 h0 0).toInt = (d_126.1 h0 0).toInt := congrArg Int32.toInt ((yK.ag (F := []) yK.rf (show yAg S [54] d_126 d_131 from by rw [ed_131]; exact yAg.cs yAg.rf (by rw [hky_127]; decide)) (by rw [hk_h0]; decide)) 0 (by decide))
    have hE1d_131 : (d_131.1 h0 1).toInt = (d_126.1 h0 1).toInt := congrArg Int32.toInt ((yK.ag (F := []) yK.rf (show yAg S [54] d_126 d_131 from by rw [ed_131]; exact yAg.cs yAg.rf (by rw [hky_127]; decide)) (by rw [hk_h0]; decide)) 1 (by decide))
    have hE2d_131 : (d_131.1 h0 2).toInt = (d_126.1 h0 2).toInt := congrArg Int32.toInt ((yK.ag (F := []) yK.rf (show yAg S [54] d_126 d_131 from by rw [ed_131]; exact yAg.cs yAg.rf (by rw [hky_127]; decide)) (by rw [hk_h0]; decide)) 2 (by decide))
    have hE3d_131 : (d_131.1 h0 3).toInt = (d_126.1 h0 3).toInt := congrArg Int32.toInt ((yK.ag (F := []) yK.rf (show yAg S [54] d_126 d_131 from by rw [ed_131]; exact yAg.cs yAg.rf (by rw [hky_127]; decide)) (by rw [hk_h0]; decide)) 3 (by decide))
    have hE63d_131 : (d_131.1 h0 63).toInt = (d_126.1 h0 63).toInt := congrArg Int32.toInt ((yK.ag (F := []) yK.rf (show yAg S [54] d_126 d_131 from by rw [ed_131]; exact yAg.cs yAg.rf (by rw [hky_127]; decide)) (by rw [hk_h0]; decide)) 63 (by decide))
    refine lv_aload_n hx hb dX9_image_95 rfl (lv_at hl 1 rfl) ?_
    refine yget (ci := 9) (k := 25) (v := .ref (S.2.2.1 h0 25)) (C := RX9) (T := TX9) (N := 67) C0 hK hP hm_h0 hk_h0 (by decide) rfl inlX9 (by decide) mW131 (fun _ h9 => h9) rfl dX9_image_96 ?_
    obtain ⟨hmy_132, hky_132⟩ := ySh.f9_25 hSh _ hm_h0 hk_h0
    refine lv_iload_n hx hb dX9_image_99 rfl (lv_at hl 0 rfl) ?_
    refine lv_aload_n hx hb dX9_image_100 rfl (lv_at hl 1 rfl) ?_
    refine yget (ci := 9) (k := 7) (v := .ref (S.2.2.1 h0 7)) (C := RX9) (T := TX9) (N := 67) C0 hK hP hm_h0 hk_h0 (by decide) rfl inlX9 (by decide) mW111 (fun _ h9 => h9) rfl dX9_image_101 ?_
    obtain ⟨hmy_133, hky_133⟩ := ySh.f9_7 hSh _ hm_h0 hk_h0
    refine lv_iload_n hx hb dX9_image_104 rfl (lv_at hl 0 rfl) ?_
    have hCC_134 := yMI.c hId_131
    refine yald C0 hK hP hmy_133 hky_133 (by decide) rfl 0 rfl (xinT 2400 rfl (by omega) (by omega)) dX9_image_105 ?_
    refine lv_topi (fun z_135 ez_135 => ?_)
    refine yast C0 hK hP hD hS hmy_132 hky_132 (by decide) rfl 0 rfl (xinT 2400 rfl (by omega) (by omega)) dX9_image_106 (fun H locs hP hD hS => ?_)
    obtain ⟨d_136, ed_136⟩ : ∃ z : yD, z = ycs d_131 (S.2.2.1 h0 25) (upd (d_131.2.2.2.1 (S.2.2.1 h0 25)) (v_20 : Int32).toNatClampNeg z_135) := ⟨_, rfl⟩
    rw [← ed_136] at hP hD
    have hgd_136 : yAg S [9, 51, 52, 53, 54, 55, 56, 57, 58, 59, 60, 61, 62, 63, 64, 65, 66, 67] d d_136 := by rw [ed_136]; exact yAg.cs hgd_131 (by rw [hky_132]; decide)
    have hsd_136 : yAg S [55] d_131 d_136 := by rw [ed_136]; exact yAg.cs yAg.rf (by rw [hky_132]; decide)
    have hPod_136 : yPo S d_136 := by rw [ed_136]; exact hPod_131
    have hfd_136 : yK [20, 38] d d_136 h0 := yK.ag hfd_131 (show yAg S [55] d_131 d_136 from by rw [ed_136]; exact yAg.cs yAg.rf (by rw [hky_132]; decide)) (by rw [hk_h0]; decide)
    have hL0d_136 : yAg S [52, 53, 54, 55, 56, 57, 58] d_17 d_136 := by rw [ed_136]; exact yAg.cs hL0d_131 (by rw [hky_132]; decide)
    have hK0d_136 : yK [] d_17 d_136 h0 := yK.ag hK0d_131 (show yAg S [55] d_131 d_136 from by rw [ed_136]; exact yAg.cs yAg.rf (by rw [hky_132]; decide)) (by rw [hk_h0]; decide)
    have hId_136 : yMI S d_136 h0 := yMI.ag hId_131 hSh hm_h0 hk_h0 (show yAg S [55] d_131 d_136 from by rw [ed_136]; exact yAg.cs yAg.rf (by rw [hky_132]; decide)) (yK.ag (F := []) yK.rf (show yAg S [55] d_131 d_136 from by rw [ed_136]; exact yAg.cs yAg.rf (by rw [hky_132]; decide)) (by rw [hk_h0]; decide)) (by decide) (by decide)
    have hE0d_136 : (d_136.1 h0 0).toInt = (d_131.1 h0 0).toInt := congrArg Int32.toInt ((yK.ag (F := []) yK.rf (show yAg S [55] d_131 d_136 from by rw [ed_136]; exact yAg.cs yAg.rf (by rw [hky_132]; decide)) (by rw [hk_h0]; decide)) 0 (by decide))
    have hE1d_136 : (d_136.1 h0 1).toInt = (d_131.1 h0 1).toInt := congrArg Int32.toInt ((yK.ag (F := []) yK.rf (show yAg S [55] d_131 d_136 from by rw [ed_136]; exact yAg.cs yAg.rf (by rw [hky_132]; decide)) (by rw [hk_h0]; decide)) 1 (by decide))
    have hE2d_136 : (d_136.1 h0 2).toInt = (d_131.1 h0 2).toInt := congrArg Int32.toInt ((yK.ag (F := []) yK.rf (show yAg S [55] d_131 d_136 from by rw [ed_136]; exact yAg.cs yAg.rf (by rw [hky_132]; decide)) (by rw [hk_h0]; decide)) 2 (by decide))
    have hE3d_136 : (d_136.1 h0 3).toInt = (d_131.1 h0 3).toInt := congrArg Int32.toInt ((yK.ag (F := []) yK.rf (show yAg S [55] d_131 d_136 from by rw [ed_136]; exact yAg.cs yAg.rf (by rw [hky_132]; decide)) (by rw [hk_h0]; decide)) 3 (by decide))
    have hE63d_136 : (d_136.1 h0 63).toInt = (d_131.1 h0 63).toInt := congrArg Int32.toInt ((yK.ag (F := []) yK.rf (show yAg S [55] d_131 d_136 from by rw [ed_136]; exact yAg.cs yAg.rf (by rw [hky_132]; decide)) (by rw [hk_h0]; decide)) 63 (by decide))
    refine lv_aload_n hx hb dX9_image_107 rfl (lv_at hl 1 rfl) ?_
    refine yget (ci := 9) (k := 26) (v := .ref (S.2.2.1 h0 26)) (C := RX9) (T := TX9) (N := 67) C0 hK hP hm_h0 hk_h0 (by decide) rfl inlX9 (by decide) mW132 (fun _ h9 => h9) rfl dX9_image_108 ?_
    obtain ⟨hmy_137, hky_137⟩ := ySh.f9_26 hSh _ hm_h0 hk_h0
    refine lv_iload_n hx hb dX9_image_111 rfl (lv_at hl 0 rfl) ?_
    refine lv_aload_n hx hb dX9_image_112 rfl (lv_at hl 1 rfl) ?_
    refine yget (ci := 9) (k := 8) (v := .ref (S.2.2.1 h0 8)) (C := RX9) (T := TX9) (N := 67) C0 hK hP hm_h0 hk_h0 (by decide) rfl inlX9 (by decide) mW112 (fun _ h9 => h9) rfl dX9_image_113 ?_
    obtain ⟨hmy_138, hky_138⟩ := ySh.f9_8 hSh _ hm_h0 hk_h0
    refine lv_iload_n hx hb dX9_image_116 rfl (lv_at hl 0 rfl) ?_
    have hCC_139 := yMI.c hId_136
    refine yald C0 hK hP hmy_138 hky_138 (by decide) rfl 0 rfl (xinT 2400 rfl (by omega) (by omega)) dX9_image_117 ?_
    refine lv_topi (fun z_140 ez_140 => ?_)
    refine yast C0 hK hP hD hS hmy_137 hky_137 (by decide) rfl 0 rfl (xinT 2400 rfl (by omega) (by omega)) dX9_image_118 (fun H locs hP hD hS => ?_)
    obtain ⟨d_141, ed_141⟩ : ∃ z : yD, z = ycs d_136 (S.2.2.1 h0 26) (upd (d_136.2.2.2.1 (S.2.2.1 h0 26)) (v_20 : Int32).toNatClampNeg z_140) := ⟨_, rfl⟩
    rw [← ed_141] at hP hD
    have hgd_141 : yAg S [9, 51, 52, 53, 54, 55, 56, 57, 58, 59, 60, 61, 62, 63, 64, 65, 66, 67] d d_141 := by rw [ed_141]; exact yAg.cs hgd_136 (by rw [hky_137]; decide)
    have hsd_141 : yAg S [56] d_136 d_141 := by rw [ed_141]; exact yAg.cs yAg.rf (by rw [hky_137]; decide)
    have hPod_141 : yPo S d_141 := by rw [ed_141]; exact hPod_136
    have hfd_141 : yK [20, 38] d d_141 h0 := yK.ag hfd_136 (show yAg S [56] d_136 d_141 from by rw [ed_141]; exact yAg.cs yAg.rf (by rw [hky_137]; decide)) (by rw [hk_h0]; decide)
    have hL0d_141 : yAg S [52, 53, 54, 55, 56, 57, 58] d_17 d_141 := by rw [ed_141]; exact yAg.cs hL0d_136 (by rw [hky_137]; decide)
    have hK0d_141 : yK [] d_17 d_141 h0 := yK.ag hK0d_136 (show yAg S [56] d_136 d_141 from by rw [ed_141]; exact yAg.cs yAg.rf (by rw [hky_137]; decide)) (by rw [hk_h0]; decide)
    have hId_141 : yMI S d_141 h0 := yMI.ag hId_136 hSh hm_h0 hk_h0 (show yAg S [56] d_136 d_141 from by rw [ed_141]; exact yAg.cs yAg.rf (by rw [hky_137]; decide)) (yK.ag (F := []) yK.rf (show yAg S [56] d_136 d_141 from by rw [ed_141]; exact yAg.cs yAg.rf (by rw [hky_137]; decide)) (by rw [hk_h0]; decide)) (by decide) (by decide)
    have hE0d_141 : (d_141.1 h0 0).toInt = (d_136.1 h0 0).toInt := congrArg Int32.toInt ((yK.ag (F := []) yK.rf (show yAg S [56] d_136 d_141 from by rw [ed_141]; exact yAg.cs yAg.rf (by rw [hky_137]; decide)) (by rw [hk_h0]; decide)) 0 (by decide))
    have hE1d_141 : (d_141.1 h0 1).toInt = (d_136.1 h0 1).toInt := congrArg Int32.toInt ((yK.ag (F := []) yK.rf (show yAg S [56] d_136 d_141 from by rw [ed_141]; exact yAg.cs yAg.rf (by rw [hky_137]; decide)) (by rw [hk_h0]; decide)) 1 (by decide))
    have hE2d_141 : (d_141.1 h0 2).toInt = (d_136.1 h0 2).toInt := congrArg Int32.toInt ((yK.ag (F := []) yK.rf (show yAg S [56] d_136 d_141 from by rw [ed_141]; exact yAg.cs yAg.rf (by rw [hky_137]; decide)) (by rw [hk_h0]; decide)) 2 (by decide))
    have hE3d_141 : (d_141.1 h0 3).toInt = (d_136.1 h0 3).toInt := congrArg Int32.toInt ((yK.ag (F := []) yK.rf (show yAg S [56] d_136 d_141 from by rw [ed_141]; exact yAg.cs yAg.rf (by rw [hky_137]; decide)) (by rw [hk_h0]; decide)) 3 (by decide))
    have hE63d_141 : (d_141.1 h0 63).toInt = (d_136.1 h0 63).toInt := congrArg Int32.toInt ((yK.ag (F := []) yK.rf (show yAg S [56] d_136 d_141 from by rw [ed_141]; exact yAg.cs yAg.rf (by rw [hky_137]; decide)) (by rw [hk_h0]; decide)) 63 (by decide))
    refine lv_aload_n hx hb dX9_image_119 rfl (lv_at hl 1 rfl) ?_
    refine yget (ci := 9) (k := 27) (v := .ref (S.2.2.1 h0 27)) (C := RX9) (T := TX9) (N := 67) C0 hK hP hm_h0 hk_h0 (by decide) rfl inlX9 (by decide) mW133 (fun _ h9 => h9) rfl dX9_image_120 ?_
    obtain ⟨hmy_142, hky_142⟩ := ySh.f9_27 hSh _ hm_h0 hk_h0
    refine lv_iload_n hx hb dX9_image_123 rfl (lv_at hl 0 rfl) ?_
    refine lv_aload_n hx hb dX9_image_124 rfl (lv_at hl 1 rfl) ?_
    refine yget (ci := 9) (k := 9) (v := .ref (S.2.2.1 h0 9)) (C := RX9) (T := TX9) (N := 67) C0 hK hP hm_h0 hk_h0 (by decide) rfl inlX9 (by decide) mW113 (fun _ h9 => h9) rfl dX9_image_125 ?_
    obtain ⟨hmy_143, hky_143⟩ := ySh.f9_9 hSh _ hm_h0 hk_h0
    refine lv_iload_n hx hb dX9_image_128 rfl (lv_at hl 0 rfl) ?_
    have hCC_144 := yMI.c hId_141
    refine yaldB C0 hK hP hmy_143 hky_143 (by decide) rfl 1 rfl (xinT 2400 rfl (by omega) (by omega)) dX9_image_129 ?_
    refine lv_topi (fun z_145 ez_145 => ?_)
    refine yastB C0 hK hP hD hS hmy_142 hky_142 (by decide) rfl 1 rfl (xinT 2400 rfl (by omega) (by omega)) dX9_image_130 (fun H locs hP hD hS => ?_)
    obtain ⟨d_146, ed_146⟩ : ∃ z : yD, z = ycs d_141 (S.2.2.1 h0 27) (upd (d_141.2.2.2.1 (S.2.2.1 h0 27)) (v_20 : Int32).toNatClampNeg (vp_nar .byte z_145)) := ⟨_, rfl⟩
    rw [← ed_146] at hP hD
    have hgd_146 : yAg S [9, 51, 52, 53, 54, 55, 56, 57, 58, 59, 60, 61, 62, 63, 64, 65, 66, 67] d d_146 := by rw [ed_146]; exact yAg.cs hgd_141 (by rw [hky_142]; decide)
    have hsd_146 : yAg S [57] d_141 d_146 := by rw [ed_146]; exact yAg.cs yAg.rf (by rw [hky_142]; decide)
    have hPod_146 : yPo S d_146 := by rw [ed_146]; exact hPod_141
    have hfd_146 : yK [20, 38] d d_146 h0 := yK.ag hfd_141 (show yAg S [57] d_141 d_146 from by rw [ed_146]; exact yAg.cs yAg.rf (by rw [hky_142]; decide)) (by rw [hk_h0]; decide)
    have hL0d_146 : yAg S [52, 53, 54, 55, 56, 57, 58] d_17 d_146 := by rw [ed_146]; exact yAg.cs hL0d_141 (by rw [hky_142]; decide)
    have hK0d_146 : yK [] d_17 d_146 h0 := yK.ag hK0d_141 (show yAg S [57] d_141 d_146 from by rw [ed_146]; exact yAg.cs yAg.rf (by rw [hky_142]; decide)) (by rw [hk_h0]; decide)
    have hId_146 : yMI S d_146 h0 := yMI.ag hId_141 hSh hm_h0 hk_h0 (show yAg S [57] d_141 d_146 from by rw [ed_146]; exact yAg.cs yAg.rf (by rw [hky_142]; decide)) (yK.ag (F := []) yK.rf (show yAg S [57] d_141 d_146 from by rw [ed_146]; exact yAg.cs yAg.rf (by rw [hky_142]; decide)) (by rw [hk_h0]; decide)) (by decide) (by decide)
    have hE0d_146 : (d_146.1 h0 0).toInt = (d_141.1 h0 0).toInt := congrArg Int32.toInt ((yK.ag (F := []) yK.rf (show yAg S [57] d_141 d_146 from by rw [ed_146]; exact yAg.cs yAg.rf (by rw [hky_142]; decide)) (by rw [hk_h0]; decide)) 0 (by decide))
    have hE1d_146 : (d_146.1 h0 1).toInt = (d_141.1 h0 1).toInt := congrArg Int32.toInt ((yK.ag (F := []) yK.rf (show yAg S [57] d_141 d_146 from by rw [ed_146]; exact yAg.cs yAg.rf (by rw [hky_142]; decide)) (by rw [hk_h0]; decide)) 1 (by decide))
    have hE2d_146 : (d_146.1 h0 2).toInt = (d_141.1 h0 2).toInt := congrArg Int32.toInt ((yK.ag (F := []) yK.rf (show yAg S [57] d_141 d_146 from by rw [ed_146]; exact yAg.cs yAg.rf (by rw [hky_142]; decide)) (by rw [hk_h0]; decide)) 2 (by decide))
    have hE3d_146 : (d_146.1 h0 3).toInt = (d_141.1 h0 3).toInt := congrArg Int32.toInt ((yK.ag (F := []) yK.rf (show yAg S [57] d_141 d_146 from by rw [ed_146]; exact yAg.cs yAg.rf (by rw [hky_142]; decide)) (by rw [hk_h0]; decide)) 3 (by decide))
    have hE63d_146 : (d_146.1 h0 63).toInt = (d_141.1 h0 63).toInt := congrArg Int32.toInt ((yK.ag (F := []) yK.rf (show yAg S [57] d_141 d_146 from by rw [ed_146]; exact yAg.cs yAg.rf (by rw [hky_142]; decide)) (by rw [hk_h0]; decide)) 63 (by decide))
    refine lv_aload_n hx hb dX9_image_131 rfl (lv_at hl 1 rfl) ?_
    refine yget (ci := 9) (k := 28) (v := .ref (S.2.2.1 h0 28)) (C := RX9) (T := TX9) (N := 67) C0 hK hP hm_h0 hk_h0 (by decide) rfl inlX9 (by decide) mW134 (fun _ h9 => h9) rfl dX9_image_132 ?_
    obtain ⟨hmy_147, hky_147⟩ := ySh.f9_28 hSh _ hm_h0 hk_h0
    refine lv_iload_n hx hb dX9_image_135 rfl (lv_at hl 0 rfl) ?_
    refine lv_aload_n hx hb dX9_image_136 rfl (lv_at hl 1 rfl) ?_
    refine yget (ci := 9) (k := 10) (v := .ref (S.2.2.1 h0 10)) (C := RX9) (T := TX9) (N := 67) C0 hK hP hm_h0 hk_h0 (by decide) rfl inlX9 (by decide) mW114 (fun _ h9 => h9) rfl dX9_image_137 ?_
    obtain ⟨hmy_148, hky_148⟩ := ySh.f9_10 hSh _ hm_h0 hk_h0
    refine lv_iload_n hx hb dX9_image_140 rfl (lv_at hl 0 rfl) ?_
    have hCC_149 := yMI.c hId_146
    refine yald C0 hK hP hmy_148 hky_148 (by decide) rfl 0 rfl (xinT 2400 rfl (by omega) (by omega)) dX9_image_141 ?_
    refine lv_topi (fun z_150 ez_150 => ?_)
    refine yast C0 hK hP hD hS hmy_147 hky_147 (by decide) rfl 0 rfl (xinT 2400 rfl (by omega) (by omega)) dX9_image_142 (fun H locs hP hD hS => ?_)
    obtain ⟨d_151, ed_151⟩ : ∃ z : yD, z = ycs d_146 (S.2.2.1 h0 28) (upd (d_146.2.2.2.1 (S.2.2.1 h0 28)) (v_20 : Int32).toNatClampNeg z_150) := ⟨_, rfl⟩
    rw [← ed_151] at hP hD
    have hgd_151 : yAg S [9, 51, 52, 53, 54, 55, 56, 57, 58, 59, 60, 61, 62, 63, 64, 65, 66, 67] d d_151 := by rw [ed_151]; exact yAg.cs hgd_146 (by rw [hky_147]; decide)
    have hsd_151 : yAg S [58] d_146 d_151 := by rw [ed_151]; exact yAg.cs yAg.rf (by rw [hky_147]; decide)
    have hPod_151 : yPo S d_151 := by rw [ed_151]; exact hPod_146
    have hfd_151 : yK [20, 38] d d_151 h0 := yK.ag hfd_146 (show yAg S [58] d_146 d_151 from by rw [ed_151]; exact yAg.cs yAg.rf (by rw [hky_147]; decide)) (by rw [hk_h0]; decide)
    have hL0d_151 : yAg S [52, 53, 54, 55, 56, 57, 58] d_17 d_151 := by rw [ed_151]; exact yAg.cs hL0d_146 (by rw [hky_147]; decide)
    have hK0d_151 : yK [] d_17 d_151 h0 := yK.ag hK0d_146 (show yAg S [58] d_146 d_151 from by rw [ed_151]; exact yAg.cs yAg.rf (by rw [hky_147]; decide)) (by rw [hk_h0]; decide)
    have hId_151 : yMI S d_151 h0 := yMI.ag hId_146 hSh hm_h0 hk_h0 (show yAg S [58] d_146 d_151 from by rw [ed_151]; exact yAg.cs yAg.rf (by rw [hky_147]; decide)) (yK.ag (F := []) yK.rf (show yAg S [58] d_146 d_151 from by rw [ed_151]; exact yAg.cs yAg.rf (by rw [hky_147]; decide)) (by rw [hk_h0]; decide)) (by decide) (by decide)
    have hE0d_151 : (d_151.1 h0 0).toInt = (d_146.1 h0 0).toInt := congrArg Int32.toInt ((yK.ag (F := []) yK.rf (show yAg S [58] d_146 d_151 from by rw [ed_151]; exact yAg.cs yAg.rf (by rw [hky_147]; decide)) (by rw [hk_h0]; decide)) 0 (by decide))
    have hE1d_151 : (d_151.1 h0 1).toInt = (d_146.1 h0 1).toInt := congrArg Int32.toInt ((yK.ag (F := []) yK.rf (show yAg S [58] d_146 d_151 from by rw [ed_151]; exact yAg.cs yAg.rf (by rw [hky_147]; decide)) (by rw [hk_h0]; decide)) 1 (by decide))
    have hE2d_151 : (d_151.1 h0 2).toInt = (d_146.1 h0 2).toInt := congrArg Int32.toInt ((yK.ag (F := []) yK.rf (show yAg S [58] d_146 d_151 from by rw [ed_151]; exact yAg.cs yAg.rf (by rw [hky_147]; decide)) (by rw [hk_h0]; decide)) 2 (by decide))
    have hE3d_151 : (d_151.1 h0 3).toInt = (d_146.1 h0 3).toInt := congrArg Int32.toInt ((yK.ag (F := []) yK.rf (show yAg S [58] d_146 d_151 from by rw [ed_151]; exact yAg.cs yAg.rf (by rw [hky_147]; decide)) (by rw [hk_h0]; decide)) 3 (by decide))
    have hE63d_151 : (d_151.1 h0 63).toInt = (d_146.1 h0 63).toInt := congrArg Int32.toInt ((yK.ag (F := []) yK.rf (show yAg S [58] d_146 d_151 from by rw [ed_151]; exact yAg.cs yAg.rf (by rw [hky_147]; decide)) (by rw [hk_h0]; decide)) 63 (by decide))
    refine lv_iinc (v := v_20 + 1) (lv' := [(1, .int (v_20 + 1)), (0, .ref h0)]) hx hb dX9_image_143 hl (k := 0) rfl rfl (by decide) rfl (fun ls hl => ?_)
    refine lv_goto (tgt := 52) hx hb dX9_image_146 (by decide) ?_
    have hCC_153 := yMI.c hId_151
    have T_154 : ((v_20 + 1) : Int32).toInt = (v_20 : Int32).toInt + 1 := tadd rfl (rfl : (v_20 : Int32).toInt = (v_20 : Int32).toInt) (by decide +kernel : (1 : Int32).toInt = 1) (by omega) (by omega)
    have hv4_ : (vp_nar .byte z_120) = zNr 4 (d_17.2.2.2.1 (S.2.2.1 h0 4) (v_20 : Int32).toNatClampNeg) := by rw [ez_120, show d_21.2.2.2.1 (S.2.2.1 h0 4) = d_17.2.2.2.1 (S.2.2.1 h0 4) from (hLJd_21 _ (by rw [(ySh.f9_4 hSh h0 hm_h0 hk_h0).2]; decide)).2.2.2.1]; rfl
    have hv5_ : (vp_nar .byte z_125) = zNr 5 (d_17.2.2.2.1 (S.2.2.1 h0 5) (v_20 : Int32).toNatClampNeg) := by rw [ez_125, show d_121.2.2.2.1 (S.2.2.1 h0 5) = d_17.2.2.2.1 (S.2.2.1 h0 5) from (((hsd_121 _ (by rw [(ySh.f9_5 hSh h0 hm_h0 hk_h0).2]; decide)).2.2.2.1).trans (hLJd_21 _ (by rw [(ySh.f9_5 hSh h0 hm_h0 hk_h0).2]; decide)).2.2.2.1)]; rfl
    have hv6_ : (vp_nar .byte z_130) = zNr 6 (d_17.2.2.2.1 (S.2.2.1 h0 6) (v_20 : Int32).toNatClampNeg) := by rw [ez_130, show d_126.2.2.2.1 (S.2.2.1 h0 6) = d_17.2.2.2.1 (S.2.2.1 h0 6) from (((hsd_126 _ (by rw [(ySh.f9_6 hSh h0 hm_h0 hk_h0).2]; decide)).2.2.2.1).trans (((hsd_121 _ (by rw [(ySh.f9_6 hSh h0 hm_h0 hk_h0).2]; decide)).2.2.2.1).trans (hLJd_21 _ (by rw [(ySh.f9_6 hSh h0 hm_h0 hk_h0).2]; decide)).2.2.2.1))]; rfl
    have hv7_ : z_135 = zNr 7 (d_17.2.2.2.1 (S.2.2.1 h0 7) (v_20 : Int32).toNatClampNeg) := by rw [ez_135, show d_131.2.2.2.1 (S.2.2.1 h0 7) = d_17.2.2.2.1 (S.2.2.1 h0 7) from (((hsd_131 _ (by rw [(ySh.f9_7 hSh h0 hm_h0 hk_h0).2]; decide)).2.2.2.1).trans (((hsd_126 _ (by rw [(ySh.f9_7 hSh h0 hm_h0 hk_h0).2]; decide)).2.2.2.1).trans (((hsd_121 _ (by rw [(ySh.f9_7 hSh h0 hm_h0 hk_h0).2]; decide)).2.2.2.1).trans (hLJd_21 _ (by rw [(ySh.f9_7 hSh h0 hm_h0 hk_h0).2]; decide)).2.2.2.1)))]; rfl
    have hv8_ : z_140 = zNr 8 (d_17.2.2.2.1 (S.2.2.1 h0 8) (v_20 : Int32).toNatClampNeg) := by rw [ez_140, show d_136.2.2.2.1 (S.2.2.1 h0 8) = d_17.2.2.2.1 (S.2.2.1 h0 8) from (((hsd_136 _ (by rw [(ySh.f9_8 hSh h0 hm_h0 hk_h0).2]; decide)).2.2.2.1).trans (((hsd_131 _ (by rw [(ySh.f9_8 hSh h0 hm_h0 hk_h0).2]; decide)).2.2.2.1).trans (((hsd_126 _ (by rw [(ySh.f9_8 hSh h0 hm_h0 hk_h0).2]; decide)).2.2.2.1).trans (((hsd_121 _ (by rw [(ySh.f9_8 hSh h0 hm_h0 hk_h0).2]; decide)).2.2.2.1).trans (hLJd_21 _ (by rw [(ySh.f9_8 hSh h0 hm_h0 hk_h0).2]; decide)).2.2.2.1))))]; rfl
    have hv9_ : (vp_nar .byte z_145) = zNr 9 (d_17.2.2.2.1 (S.2.2.1 h0 9) (v_20 : Int32).toNatClampNeg) := by rw [ez_145, show d_141.2.2.2.1 (S.2.2.1 h0 9) = d_17.2.2.2.1 (S.2.2.1 h0 9) from (((hsd_141 _ (by rw [(ySh.f9_9 hSh h0 hm_h0 hk_h0).2]; decide)).2.2.2.1).trans (((hsd_136 _ (by rw [(ySh.f9_9 hSh h0 hm_h0 hk_h0).2]; decide)).2.2.2.1).trans (((hsd_131 _ (by rw [(ySh.f9_9 hSh h0 hm_h0 hk_h0).2]; decide)).2.2.2.1).trans (((hsd_126 _ (by rw [(ySh.f9_9 hSh h0 hm_h0 hk_h0).2]; decide)).2.2.2.1).trans (((hsd_121 _ (by rw [(ySh.f9_9 hSh h0 hm_h0 hk_h0).2]; decide)).2.2.2.1).trans (hLJd_21 _ (by rw [(ySh.f9_9 hSh h0 hm_h0 hk_h0).2]; decide)).2.2.2.1)))))]; rfl
    have hv10_ : z_150 = zNr 10 (d_17.2.2.2.1 (S.2.2.1 h0 10) (v_20 : Int32).toNatClampNeg) := by rw [ez_150, show d_146.2.2.2.1 (S.2.2.1 h0 10) = d_17.2.2.2.1 (S.2.2.1 h0 10) from (((hsd_146 _ (by rw [(ySh.f9_10 hSh h0 hm_h0 hk_h0).2]; decide)).2.2.2.1).trans (((hsd_141 _ (by rw [(ySh.f9_10 hSh h0 hm_h0 hk_h0).2]; decide)).2.2.2.1).trans (((hsd_136 _ (by rw [(ySh.f9_10 hSh h0 hm_h0 hk_h0).2]; decide)).2.2.2.1).trans (((hsd_131 _ (by rw [(ySh.f9_10 hSh h0 hm_h0 hk_h0).2]; decide)).2.2.2.1).trans (((hsd_126 _ (by rw [(ySh.f9_10 hSh h0 hm_h0 hk_h0).2]; decide)).2.2.2.1).trans (((hsd_121 _ (by rw [(ySh.f9_10 hSh h0 hm_h0 hk_h0).2]; decide)).2.2.2.1).trans (hLJd_21 _ (by rw [(ySh.f9_10 hSh h0 hm_h0 hk_h0).2]; decide)).2.2.2.1))))))]; rfl
    have hz_ := zRowK7 (d := d_21) hSh hm_h0 hk_h0 rfl rfl rfl rfl rfl rfl rfl ed_121 ed_126 ed_131 ed_136 ed_141 ed_146 ed_151
    have hf_ : ∀ s, 4 ≤ s → s ≤ 10 → d_151.2.2.2.1 (S.2.2.1 h0 (s + 18)) = upd (d_21.2.2.2.1 (S.2.2.1 h0 (s + 18))) (v_20 : Int32).toNatClampNeg (zNr s (d_17.2.2.2.1 (S.2.2.1 h0 (s)) (v_20 : Int32).toNatClampNeg)) := by
      intro s a_ b_
      obtain rfl | rfl | rfl | rfl | rfl | rfl | rfl : s = 4 ∨ s = 5 ∨ s = 6 ∨ s = 7 ∨ s = 8 ∨ s = 9 ∨ s = 10 := by omega
      · exact (hz_ 4 (by decide) (by decide)).trans (congrArg (upd _ _) hv4_)
      · exact (hz_ 5 (by decide) (by decide)).trans (congrArg (upd _ _) hv5_)
      · exact (hz_ 6 (by decide) (by decide)).trans (congrArg (upd _ _) hv6_)
      · exact (hz_ 7 (by decide) (by decide)).trans (congrArg (upd _ _) hv7_)
      · exact (hz_ 8 (by decide) (by decide)).trans (congrArg (upd _ _) hv8_)
      · exact (hz_ 9 (by decide) (by decide)).trans (congrArg (upd _ _) hv9_)
      · exact (hz_ 10 (by decide) (by decide)).trans (congrArg (upd _ _) hv10_)
    exact hnext_22 (v_20 + 1, d_151) _ _ ls (xup c_24) ⟨hP, hD, hS, hgd_151, hPod_151, hfd_151, hId_151, hL0d_151, hK0d_151, ⟨zCr.step hex_23.1 hex_23.2 c_24 hf_, (show 0 ≤ (v_20 + 1 : Int32).toInt from by omega)⟩, lv_sub hl [0, 1] rfl⟩
theorem dX9_back_0 : decode cX9_back 0 = .ok (.aload_n 0, 1) := by decide +kernel
theorem dX9_back_1 : decode cX9_back 1 = .ok (.iconst 0, 1) := by decide +kernel
theorem dX9_back_2 : decode cX9_back 2 = .ok (.putfield 147, 3) := by decide +kernel
theorem dX9_back_5 : decode cX9_back 5 = .ok (.aload_n 0, 1) := by decide +kernel
theorem dX9_back_6 : decode cX9_back 6 = .ok (.getfield 367, 3) := by decide +kernel
theorem dX9_back_9 : decode cX9_back 9 = .ok (.ifCond .ne 11, 3) := by decide +kernel
theorem dX9_back_12 : decode cX9_back 12 = .ok (.aload_n 0, 1) := by decide +kernel
theorem dX9_back_13 : decode cX9_back 13 = .ok (.iconst 2, 1) := by decide +kernel
theorem dX9_back_14 : decode cX9_back 14 = .ok (.invokevirtual 168, 3) := by decide +kernel
theorem dX9_back_17 : decode cX9_back 17 = .ok (.pop, 1) := by decide +kernel
theorem dX9_back_18 : decode cX9_back 18 = .ok (.iconst 0, 1) := by decide +kernel
theorem dX9_back_19 : decode cX9_back 19 = .ok (.ireturn, 1) := by decide +kernel
theorem dX9_back_20 : decode cX9_back 20 = .ok (.aload_n 0, 1) := by decide +kernel
theorem dX9_back_21 : decode cX9_back 21 = .ok (.aload_n 0, 1) := by decide +kernel
theorem dX9_back_22 : decode cX9_back 22 = .ok (.getfield 66, 3) := by decide +kernel
theorem dX9_back_25 : decode cX9_back 25 = .ok (.iconst 0, 1) := by decide +kernel
theorem dX9_back_26 : decode cX9_back 26 = .ok (.iaload, 1) := by decide +kernel
theorem dX9_back_27 : decode cX9_back 27 = .ok (.putfield 150, 3) := by decide +kernel
theorem dX9_back_30 : decode cX9_back 30 = .ok (.aload_n 0, 1) := by decide +kernel
theorem dX9_back_31 : decode cX9_back 31 = .ok (.aload_n 0, 1) := by decide +kernel
theorem dX9_back_32 : decode cX9_back 32 = .ok (.getfield 66, 3) := by decide +kernel
theorem dX9_back_35 : decode cX9_back 35 = .ok (.iconst 1, 1) := by decide +kernel
theorem dX9_back_36 : decode cX9_back 36 = .ok (.iaload, 1) := by decide +kernel
theorem dX9_back_37 : decode cX9_back 37 = .ok (.putfield 180, 3) := by decide +kernel
theorem dX9_back_40 : decode cX9_back 40 = .ok (.aload_n 0, 1) := by decide +kernel
theorem dX9_back_41 : decode cX9_back 41 = .ok (.aload_n 0, 1) := by decide +kernel
theorem dX9_back_42 : decode cX9_back 42 = .ok (.getfield 66, 3) := by decide +kernel
theorem dX9_back_45 : decode cX9_back 45 = .ok (.iconst 2, 1) := by decide +kernel
theorem dX9_back_46 : decode cX9_back 46 = .ok (.iaload, 1) := by decide +kernel
theorem dX9_back_47 : decode cX9_back 47 = .ok (.putfield 326, 3) := by decide +kernel
theorem dX9_back_50 : decode cX9_back 50 = .ok (.aload_n 0, 1) := by decide +kernel
theorem dX9_back_51 : decode cX9_back 51 = .ok (.aload_n 0, 1) := by decide +kernel
theorem dX9_back_52 : decode cX9_back 52 = .ok (.getfield 66, 3) := by decide +kernel
theorem dX9_back_55 : decode cX9_back 55 = .ok (.iconst 3, 1) := by decide +kernel
theorem dX9_back_56 : decode cX9_back 56 = .ok (.iaload, 1) := by decide +kernel
theorem dX9_back_57 : decode cX9_back 57 = .ok (.putfield 7, 3) := by decide +kernel
theorem dX9_back_60 : decode cX9_back 60 = .ok (.iconst 0, 1) := by decide +kernel
theorem dX9_back_61 : decode cX9_back 61 = .ok (.istore_n 1, 1) := by decide +kernel
theorem dX9_back_62 : decode cX9_back 62 = .ok (.iload_n 1, 1) := by decide +kernel
theorem dX9_back_63 : decode cX9_back 63 = .ok (.sipush 2400, 3) := by decide +kernel
theorem dX9_back_66 : decode cX9_back 66 = .ok (.if_icmp .ge 93, 3) := by decide +kernel
theorem dX9_back_69 : decode cX9_back 69 = .ok (.aload_n 0, 1) := by decide +kernel
theorem dX9_back_70 : decode cX9_back 70 = .ok (.getfield 13, 3) := by decide +kernel
theorem dX9_back_73 : decode cX9_back 73 = .ok (.iload_n 1, 1) := by decide +kernel
theorem dX9_back_74 : decode cX9_back 74 = .ok (.aload_n 0, 1) := by decide +kernel
theorem dX9_back_75 : decode cX9_back 75 = .ok (.getfield 69, 3) := by decide +kernel
theorem dX9_back_78 : decode cX9_back 78 = .ok (.iload_n 1, 1) := by decide +kernel
theorem dX9_back_79 : decode cX9_back 79 = .ok (.baload, 1) := by decide +kernel
theorem dX9_back_80 : decode cX9_back 80 = .ok (.bastore, 1) := by decide +kernel
theorem dX9_back_81 : decode cX9_back 81 = .ok (.aload_n 0, 1) := by decide +kernel
theorem dX9_back_82 : decode cX9_back 82 = .ok (.getfield 17, 3) := by decide +kernel
theorem dX9_back_85 : decode cX9_back 85 = .ok (.iload_n 1, 1) := by decide +kernel
theorem dX9_back_86 : decode cX9_back 86 = .ok (.aload_n 0, 1) := by decide +kernel
theorem dX9_back_87 : decode cX9_back 87 = .ok (.getfield 72, 3) := by decide +kernel
theorem dX9_back_90 : decode cX9_back 90 = .ok (.iload_n 1, 1) := by decide +kernel
theorem dX9_back_91 : decode cX9_back 91 = .ok (.baload, 1) := by decide +kernel
theorem dX9_back_92 : decode cX9_back 92 = .ok (.bastore, 1) := by decide +kernel
theorem dX9_back_93 : decode cX9_back 93 = .ok (.aload_n 0, 1) := by decide +kernel
theorem dX9_back_94 : decode cX9_back 94 = .ok (.getfield 20, 3) := by decide +kernel
theorem dX9_back_97 : decode cX9_back 97 = .ok (.iload_n 1, 1) := by decide +kernel
theorem dX9_back_98 : decode cX9_back 98 = .ok (.aload_n 0, 1) := by decide +kernel
theorem dX9_back_99 : decode cX9_back 99 = .ok (.getfield 75, 3) := by decide +kernel
theorem dX9_back_102 : decode cX9_back 102 = .ok (.iload_n 1, 1) := by decide +kernel
theorem dX9_back_103 : decode cX9_back 103 = .ok (.baload, 1) := by decide +kernel
theorem dX9_back_104 : decode cX9_back 104 = .ok (.bastore, 1) := by decide +kernel
theorem dX9_back_105 : decode cX9_back 105 = .ok (.aload_n 0, 1) := by decide +kernel
theorem dX9_back_106 : decode cX9_back 106 = .ok (.getfield 23, 3) := by decide +kernel
theorem dX9_back_109 : decode cX9_back 109 = .ok (.iload_n 1, 1) := by decide +kernel
theorem dX9_back_110 : decode cX9_back 110 = .ok (.aload_n 0, 1) := by decide +kernel
theorem dX9_back_111 : decode cX9_back 111 = .ok (.getfield 78, 3) := by decide +kernel
theorem dX9_back_114 : decode cX9_back 114 = .ok (.iload_n 1, 1) := by decide +kernel
theorem dX9_back_115 : decode cX9_back 115 = .ok (.iaload, 1) := by decide +kernel
theorem dX9_back_116 : decode cX9_back 116 = .ok (.iastore, 1) := by decide +kernel
theorem dX9_back_117 : decode cX9_back 117 = .ok (.aload_n 0, 1) := by decide +kernel
theorem dX9_back_118 : decode cX9_back 118 = .ok (.getfield 27, 3) := by decide +kernel
theorem dX9_back_121 : decode cX9_back 121 = .ok (.iload_n 1, 1) := by decide +kernel
theorem dX9_back_122 : decode cX9_back 122 = .ok (.aload_n 0, 1) := by decide +kernel
theorem dX9_back_123 : decode cX9_back 123 = .ok (.getfield 81, 3) := by decide +kernel
theorem dX9_back_126 : decode cX9_back 126 = .ok (.iload_n 1, 1) := by decide +kernel
theorem dX9_back_127 : decode cX9_back 127 = .ok (.iaload, 1) := by decide +kernel
theorem dX9_back_128 : decode cX9_back 128 = .ok (.iastore, 1) := by decide +kernel
theorem dX9_back_129 : decode cX9_back 129 = .ok (.aload_n 0, 1) := by decide +kernel
theorem dX9_back_130 : decode cX9_back 130 = .ok (.getfield 30, 3) := by decide +kernel
theorem dX9_back_133 : decode cX9_back 133 = .ok (.iload_n 1, 1) := by decide +kernel
theorem dX9_back_134 : decode cX9_back 134 = .ok (.aload_n 0, 1) := by decide +kernel
theorem dX9_back_135 : decode cX9_back 135 = .ok (.getfield 84, 3) := by decide +kernel
theorem dX9_back_138 : decode cX9_back 138 = .ok (.iload_n 1, 1) := by decide +kernel
theorem dX9_back_139 : decode cX9_back 139 = .ok (.baload, 1) := by decide +kernel
theorem dX9_back_140 : decode cX9_back 140 = .ok (.bastore, 1) := by decide +kernel
theorem dX9_back_141 : decode cX9_back 141 = .ok (.aload_n 0, 1) := by decide +kernel
theorem dX9_back_142 : decode cX9_back 142 = .ok (.getfield 33, 3) := by decide +kernel
theorem dX9_back_145 : decode cX9_back 145 = .ok (.iload_n 1, 1) := by decide +kernel
theorem dX9_back_146 : decode cX9_back 146 = .ok (.aload_n 0, 1) := by decide +kernel
theorem dX9_back_147 : decode cX9_back 147 = .ok (.getfield 87, 3) := by decide +kernel
theorem dX9_back_150 : decode cX9_back 150 = .ok (.iload_n 1, 1) := by decide +kernel
theorem dX9_back_151 : decode cX9_back 151 = .ok (.iaload, 1) := by decide +kernel
theorem dX9_back_152 : decode cX9_back 152 = .ok (.iastore, 1) := by decide +kernel
theorem dX9_back_153 : decode cX9_back 153 = .ok (.iinc 1 1, 3) := by decide +kernel
theorem dX9_back_156 : decode cX9_back 156 = .ok (.goto (-94), 3) := by decide +kernel
theorem dX9_back_159 : decode cX9_back 159 = .ok (.iconst 0, 1) := by decide +kernel
theorem dX9_back_160 : decode cX9_back 160 = .ok (.istore_n 1, 1) := by decide +kernel
theorem dX9_back_161 : decode cX9_back 161 = .ok (.iload_n 1, 1) := by decide +kernel
theorem dX9_back_162 : decode cX9_back 162 = .ok (.bipush 96, 2) := by decide +kernel
theorem dX9_back_164 : decode cX9_back 164 = .ok (.if_icmp .ge 21, 3) := by decide +kernel
theorem dX9_back_167 : decode cX9_back 167 = .ok (.aload_n 0, 1) := by decide +kernel
theorem dX9_back_168 : decode cX9_back 168 = .ok (.getfield 36, 3) := by decide +kernel
theorem dX9_back_171 : decode cX9_back 171 = .ok (.iload_n 1, 1) := by decide +kernel
theorem dX9_back_172 : decode cX9_back 172 = .ok (.aload_n 0, 1) := by decide +kernel
theorem dX9_back_173 : decode cX9_back 173 = .ok (.getfield 90, 3) := by decide +kernel
theorem dX9_back_176 : decode cX9_back 176 = .ok (.iload_n 1, 1) := by decide +kernel
theorem dX9_back_177 : decode cX9_back 177 = .ok (.laload, 1) := by decide +kernel
theorem dX9_back_178 : decode cX9_back 178 = .ok (.lastore, 1) := by decide +kernel
theorem dX9_back_179 : decode cX9_back 179 = .ok (.iinc 1 1, 3) := by decide +kernel
theorem dX9_back_182 : decode cX9_back 182 = .ok (.goto (-21), 3) := by decide +kernel
theorem dX9_back_185 : decode cX9_back 185 = .ok (.iconst 0, 1) := by decide +kernel
theorem dX9_back_186 : decode cX9_back 186 = .ok (.istore_n 1, 1) := by decide +kernel
theorem dX9_back_187 : decode cX9_back 187 = .ok (.iload_n 1, 1) := by decide +kernel
theorem dX9_back_188 : decode cX9_back 188 = .ok (.sipush 720, 3) := by decide +kernel
theorem dX9_back_191 : decode cX9_back 191 = .ok (.if_icmp .ge 45, 3) := by decide +kernel
theorem dX9_back_194 : decode cX9_back 194 = .ok (.aload_n 0, 1) := by decide +kernel
theorem dX9_back_195 : decode cX9_back 195 = .ok (.getfield 40, 3) := by decide +kernel
theorem dX9_back_198 : decode cX9_back 198 = .ok (.iload_n 1, 1) := by decide +kernel
theorem dX9_back_199 : decode cX9_back 199 = .ok (.aload_n 0, 1) := by decide +kernel
theorem dX9_back_200 : decode cX9_back 200 = .ok (.getfield 93, 3) := by decide +kernel
theorem dX9_back_203 : decode cX9_back 203 = .ok (.iload_n 1, 1) := by decide +kernel
theorem dX9_back_204 : decode cX9_back 204 = .ok (.saload, 1) := by decide +kernel
theorem dX9_back_205 : decode cX9_back 205 = .ok (.sastore, 1) := by decide +kernel
theorem dX9_back_206 : decode cX9_back 206 = .ok (.aload_n 0, 1) := by decide +kernel
theorem dX9_back_207 : decode cX9_back 207 = .ok (.getfield 44, 3) := by decide +kernel
theorem dX9_back_210 : decode cX9_back 210 = .ok (.iload_n 1, 1) := by decide +kernel
theorem dX9_back_211 : decode cX9_back 211 = .ok (.aload_n 0, 1) := by decide +kernel
theorem dX9_back_212 : decode cX9_back 212 = .ok (.getfield 96, 3) := by decide +kernel
theorem dX9_back_215 : decode cX9_back 215 = .ok (.iload_n 1, 1) := by decide +kernel
theorem dX9_back_216 : decode cX9_back 216 = .ok (.baload, 1) := by decide +kernel
theorem dX9_back_217 : decode cX9_back 217 = .ok (.bastore, 1) := by decide +kernel
theorem dX9_back_218 : decode cX9_back 218 = .ok (.aload_n 0, 1) := by decide +kernel
theorem dX9_back_219 : decode cX9_back 219 = .ok (.getfield 48, 3) := by decide +kernel
theorem dX9_back_222 : decode cX9_back 222 = .ok (.iload_n 1, 1) := by decide +kernel
theorem dX9_back_223 : decode cX9_back 223 = .ok (.aload_n 0, 1) := by decide +kernel
theorem dX9_back_224 : decode cX9_back 224 = .ok (.getfield 99, 3) := by decide +kernel
theorem dX9_back_227 : decode cX9_back 227 = .ok (.iload_n 1, 1) := by decide +kernel
theorem dX9_back_228 : decode cX9_back 228 = .ok (.baload, 1) := by decide +kernel
theorem dX9_back_229 : decode cX9_back 229 = .ok (.bastore, 1) := by decide +kernel
theorem dX9_back_230 : decode cX9_back 230 = .ok (.iinc 1 1, 3) := by decide +kernel
theorem dX9_back_233 : decode cX9_back 233 = .ok (.goto (-46), 3) := by decide +kernel
theorem dX9_back_236 : decode cX9_back 236 = .ok (.iconst 0, 1) := by decide +kernel
theorem dX9_back_237 : decode cX9_back 237 = .ok (.istore_n 1, 1) := by decide +kernel
theorem dX9_back_238 : decode cX9_back 238 = .ok (.iload_n 1, 1) := by decide +kernel
theorem dX9_back_239 : decode cX9_back 239 = .ok (.sipush 5000, 3) := by decide +kernel
theorem dX9_back_242 : decode cX9_back 242 = .ok (.if_icmp .ge 45, 3) := by decide +kernel
theorem dX9_back_245 : decode cX9_back 245 = .ok (.aload_n 0, 1) := by decide +kernel
theorem dX9_back_246 : decode cX9_back 246 = .ok (.getfield 51, 3) := by decide +kernel
theorem dX9_back_249 : decode cX9_back 249 = .ok (.iload_n 1, 1) := by decide +kernel
theorem dX9_back_250 : decode cX9_back 250 = .ok (.aload_n 0, 1) := by decide +kernel
theorem dX9_back_251 : decode cX9_back 251 = .ok (.getfield 102, 3) := by decide +kernel
theorem dX9_back_254 : decode cX9_back 254 = .ok (.iload_n 1, 1) := by decide +kernel
theorem dX9_back_255 : decode cX9_back 255 = .ok (.baload, 1) := by decide +kernel
theorem dX9_back_256 : decode cX9_back 256 = .ok (.bastore, 1) := by decide +kernel
theorem dX9_back_257 : decode cX9_back 257 = .ok (.aload_n 0, 1) := by decide +kernel
theorem dX9_back_258 : decode cX9_back 258 = .ok (.getfield 54, 3) := by decide +kernel
theorem dX9_back_261 : decode cX9_back 261 = .ok (.iload_n 1, 1) := by decide +kernel
theorem dX9_back_262 : decode cX9_back 262 = .ok (.aload_n 0, 1) := by decide +kernel
theorem dX9_back_263 : decode cX9_back 263 = .ok (.getfield 105, 3) := by decide +kernel
theorem dX9_back_266 : decode cX9_back 266 = .ok (.iload_n 1, 1) := by decide +kernel
theorem dX9_back_267 : decode cX9_back 267 = .ok (.iaload, 1) := by decide +kernel
theorem dX9_back_268 : decode cX9_back 268 = .ok (.iastore, 1) := by decide +kernel
theorem dX9_back_269 : decode cX9_back 269 = .ok (.aload_n 0, 1) := by decide +kernel
theorem dX9_back_270 : decode cX9_back 270 = .ok (.getfield 57, 3) := by decide +kernel
theorem dX9_back_273 : decode cX9_back 273 = .ok (.iload_n 1, 1) := by decide +kernel
theorem dX9_back_274 : decode cX9_back 274 = .ok (.aload_n 0, 1) := by decide +kernel
theorem dX9_back_275 : decode cX9_back 275 = .ok (.getfield 108, 3) := by decide +kernel
theorem dX9_back_278 : decode cX9_back 278 = .ok (.iload_n 1, 1) := by decide +kernel
theorem dX9_back_279 : decode cX9_back 279 = .ok (.baload, 1) := by decide +kernel
theorem dX9_back_280 : decode cX9_back 280 = .ok (.bastore, 1) := by decide +kernel
theorem dX9_back_281 : decode cX9_back 281 = .ok (.iinc 1 1, 3) := by decide +kernel
theorem dX9_back_284 : decode cX9_back 284 = .ok (.goto (-46), 3) := by decide +kernel
theorem dX9_back_287 : decode cX9_back 287 = .ok (.iconst 0, 1) := by decide +kernel
theorem dX9_back_288 : decode cX9_back 288 = .ok (.istore_n 1, 1) := by decide +kernel
theorem dX9_back_289 : decode cX9_back 289 = .ok (.iload_n 1, 1) := by decide +kernel
theorem dX9_back_290 : decode cX9_back 290 = .ok (.sipush 500, 3) := by decide +kernel
theorem dX9_back_293 : decode cX9_back 293 = .ok (.if_icmp .ge 33, 3) := by decide +kernel
theorem dX9_back_296 : decode cX9_back 296 = .ok (.aload_n 0, 1) := by decide +kernel
theorem dX9_back_297 : decode cX9_back 297 = .ok (.getfield 60, 3) := by decide +kernel
theorem dX9_back_300 : decode cX9_back 300 = .ok (.iload_n 1, 1) := by decide +kernel
theorem dX9_back_301 : decode cX9_back 301 = .ok (.aload_n 0, 1) := by decide +kernel
theorem dX9_back_302 : decode cX9_back 302 = .ok (.getfield 111, 3) := by decide +kernel
theorem dX9_back_305 : decode cX9_back 305 = .ok (.iload_n 1, 1) := by decide +kernel
theorem dX9_back_306 : decode cX9_back 306 = .ok (.iaload, 1) := by decide +kernel
theorem dX9_back_307 : decode cX9_back 307 = .ok (.iastore, 1) := by decide +kernel
theorem dX9_back_308 : decode cX9_back 308 = .ok (.aload_n 0, 1) := by decide +kernel
theorem dX9_back_309 : decode cX9_back 309 = .ok (.getfield 63, 3) := by decide +kernel
theorem dX9_back_312 : decode cX9_back 312 = .ok (.iload_n 1, 1) := by decide +kernel
theorem dX9_back_313 : decode cX9_back 313 = .ok (.aload_n 0, 1) := by decide +kernel
theorem dX9_back_314 : decode cX9_back 314 = .ok (.getfield 114, 3) := by decide +kernel
theorem dX9_back_317 : decode cX9_back 317 = .ok (.iload_n 1, 1) := by decide +kernel
theorem dX9_back_318 : decode cX9_back 318 = .ok (.baload, 1) := by decide +kernel
theorem dX9_back_319 : decode cX9_back 319 = .ok (.bastore, 1) := by decide +kernel
theorem dX9_back_320 : decode cX9_back 320 = .ok (.iinc 1 1, 3) := by decide +kernel
theorem dX9_back_323 : decode cX9_back 323 = .ok (.goto (-34), 3) := by decide +kernel
theorem dX9_back_326 : decode cX9_back 326 = .ok (.iconst 1, 1) := by decide +kernel
theorem dX9_back_327 : decode cX9_back 327 = .ok (.ireturn, 1) := by decide +kernel
set_option maxHeartbeats 4000000 in
set_option maxRecDepth 100000 in
theorem g_X9_back (l : Launch) (G : xG) (S : yS) (d : yD) (h0 : Nat) (hSh : ySh S) (hPo : yPo S d) (hm_h0 : h0 ∈ S.1) (hk_h0 : S.2.1 h0 = 9) (hI : yMI S d h0) : xWi l G yX9_back cX9_back 2 (some .boolean) 1 21 0 0 [.ref h0] (yW G S d) (fun r (u : yD) => yAg S [9, 34, 35, 36, 37, 38, 39, 40, 41, 42, 43, 44, 45, 46, 47, 48, 49, 69] d u ∧ (yPo S d → yPo S u) ∧ yK [0, 1, 2, 3, 38] d u h0 ∧ (yMI S u h0 ∧ (((d.1 h0 20 = 0 ∧ u.1 h0 0 = d.1 h0 0 ∧ r = 0) ∧ u.1 h0 2 = d.1 h0 2 ∧ u.1 h0 3 = d.1 h0 3 ∧ zPf S d u h0 (fun _ => False) ∧ zTr S u h0 (fun s => d.2.2.2.1 (S.2.2.1 h0 s))) ∨ ((¬ d.1 h0 20 = 0 ∧ u.1 h0 0 = d.2.2.2.1 (S.2.2.1 h0 21) 0 ∧ r = 1) ∧ u.1 h0 2 = d.2.2.2.1 (S.2.2.1 h0 21) 2 ∧ u.1 h0 3 = d.2.2.2.1 (S.2.2.1 h0 21) 3 ∧ (∀ j : Nat, j < 96 → u.2.2.2.2 (S.2.2.1 h0 11) j = d.2.2.2.2 (S.2.2.1 h0 29) j) ∧ ∀ s, 4 ≤ s → s ≤ 10 → ∀ j : Nat, j < 2400 → u.2.2.2.1 (S.2.2.1 h0 s) j = zNr s (d.2.2.2.1 (S.2.2.1 h0 (s + 18)) j))))) (fun u => yW G S u) := by
  intro sz
  refine xstart (by decide) (Nat.le_of_ble_eq_true rfl) (fun p e s m args below meth c ls C0 hr hlocks hin hsz hP hK hD hN hl => ?_)
  obtain ⟨hx, hb, hml, hown, htl⟩ := id C0
  subst hsz
  have hD := hD.self (sz := s.heap.size)
  generalize hAe : va_A (yW G S d) s.heap.size = A at hD ⊢
  have hA : ∀ q : Nat, s.heap.size ≤ q → A q := fun q h => by rw [← hAe]; exact Or.inr h
  have hS : va_S A s.heap s.heap [] := va_S.rf
  have hg0 : yAg S [9, 34, 35, 36, 37, 38, 39, 40, 41, 42, 43, 44, 45, 46, 47, 48, 49, 69] d d := yAg.rf
  have hl : lv_has ls 2 [(0, .ref h0)] := hl
  refine lv_aload_n hx hb dX9_back_0 rfl (lv_at hl 0 rfl) ?_
  refine lv_iconst (v := 0) hx hb dX9_back_1 (by decide) ?_
  refine yputI (ci := 9) (k := 38) (ty := .int) (C := RX9) (T := TX9) (N := 67) C0 hK hP hD hS hm_h0 hk_h0 (by decide) rfl inlX9 tyX9 tyX9_ok nmX9 (by decide) mW175 (fun _ h9 => h9) rfl (by decide +kernel) rfl rfl (Nat.le_of_ble_eq_true rfl) ysi_9_38 dX9_back_2 (fun H locs hP hD hS => ?_)
  obtain ⟨d_1, ed_1⟩ : ∃ z : yD, z = yi d h0 38 0 := ⟨_, rfl⟩
  rw [← ed_1] at hP hD
  have hgd_1 : yAg S [9, 34, 35, 36, 37, 38, 39, 40, 41, 42, 43, 44, 45, 46, 47, 48, 49, 69] d d_1 := by rw [ed_1]; exact yAg.i hg0 (by rw [hk_h0]; decide)
  have hsd_1 : yAg S [9] d d_1 := by rw [ed_1]; exact yAg.i yAg.rf (by rw [hk_h0]; decide)
  have hPod_1 : yPo S d_1 := by rw [ed_1]; exact yPo.i hPo hk_h0 (Or.inl rfl)
  have hfd_1 : yK [0, 1, 2, 3, 38] d d_1 h0 := by rw [ed_1]; exact yK.i yK.rf (by decide)
  have hId_1 : yMI S d_1 h0 := yMI.ag hI hSh hm_h0 hk_h0 (show yAg S [9] d d_1 from by rw [ed_1]; exact yAg.i yAg.rf (by rw [hk_h0]; decide)) (show yK [38] d d_1 h0 from by rw [ed_1]; exact yK.i yK.rf (by decide)) (by decide) (by decide)
  have hE0d_1 : (d_1.1 h0 0).toInt = (d.1 h0 0).toInt := congrArg Int32.toInt ((show yK [38] d d_1 h0 from by rw [ed_1]; exact yK.i yK.rf (by decide)) 0 (by decide))
  have hE1d_1 : (d_1.1 h0 1).toInt = (d.1 h0 1).toInt := congrArg Int32.toInt ((show yK [38] d d_1 h0 from by rw [ed_1]; exact yK.i yK.rf (by decide)) 1 (by decide))
  have hE2d_1 : (d_1.1 h0 2).toInt = (d.1 h0 2).toInt := congrArg Int32.toInt ((show yK [38] d d_1 h0 from by rw [ed_1]; exact yK.i yK.rf (by decide)) 2 (by decide))
  have hE3d_1 : (d_1.1 h0 3).toInt = (d.1 h0 3).toInt := congrArg Int32.toInt ((show yK [38] d d_1 h0 from by rw [ed_1]; exact yK.i yK.rf (by decide)) 3 (by decide))
  have hE63d_1 : (d_1.1 h0 63).toInt = (d.1 h0 63).toInt := congrArg Int32.toInt ((show yK [38] d d_1 h0 from by rw [ed_1]; exact yK.i yK.rf (by decide)) 63 (by decide))
  refine lv_aload_n hx hb dX9_back_5 rfl (lv_at hl 0 rfl) ?_
  refine yget (ci := 9) (k := 20) (v := .int (d_1.1 h0 20)) (C := RX9) (T := TX9) (N := 67) C0 hK hP hm_h0 hk_h0 (by decide) rfl inlX9 (by decide) mW1101 (fun _ h9 => h9) rfl dX9_back_6 ?_
  refine lv_topi (fun z_2 ez_2 => ?_)
  have hzz_2 : z_2 = 0 ∨ z_2 = 1 := by rw [ez_2]; exact yPo.b hPod_1 hm_h0 hk_h0 rfl
  refine lv_if_ne (tgt := 20) hx hb dX9_back_9 (by decide) (fun c_3 => ?_) (fun c_3 => ?_)
  · refine lv_aload_n hx hb dX9_back_20 rfl (lv_at hl 0 rfl) ?_
    refine lv_aload_n hx hb dX9_back_21 rfl (lv_at hl 0 rfl) ?_
    refine yget (ci := 9) (k := 21) (v := .ref (S.2.2.1 h0 21)) (C := RX9) (T := TX9) (N := 67) C0 hK hP hm_h0 hk_h0 (by decide) rfl inlX9 (by decide) mW127 (fun _ h9 => h9) rfl dX9_back_22 ?_
    obtain ⟨hmy_4, hky_4⟩ := ySh.f9_21 hSh _ hm_h0 hk_h0
    refine lv_iconst (v := 0) hx hb dX9_back_25 (by decide) ?_
    refine yald C0 hK hP hmy_4 hky_4 (by decide) rfl 0 rfl (by unfold vp_in; decide +kernel) dX9_back_26 ?_
    refine lv_topi (fun z_5 ez_5 => ?_)
    have hvz_5 : 0 ≤ (z_5 : Int32).toInt ∧ (z_5 : Int32).toInt ≤ 40 := by rw [ez_5, show (0 : Int32).toNatClampNeg = 0 by decide +kernel]; exact (yMI.kp_ hId_1).1
    refine yputI (ci := 9) (k := 0) (ty := .int) (C := RX9) (T := TX9) (N := 67) C0 hK hP hD hS hm_h0 hk_h0 (by decide) rfl inlX9 tyX9 tyX9_ok nmX9 (by decide) mW176 (fun _ h9 => h9) rfl (by decide +kernel) rfl rfl (Nat.le_of_ble_eq_true rfl) ysi_9_0 dX9_back_27 (fun H locs hP hD hS => ?_)
    obtain ⟨d_6, ed_6⟩ : ∃ z : yD, z = yi d_1 h0 0 z_5 := ⟨_, rfl⟩
    rw [← ed_6] at hP hD
    have hgd_6 : yAg S [9, 34, 35, 36, 37, 38, 39, 40, 41, 42, 43, 44, 45, 46, 47, 48, 49, 69] d d_6 := by rw [ed_6]; exact yAg.i hgd_1 (by rw [hk_h0]; decide)
    have hsd_6 : yAg S [9] d_1 d_6 := by rw [ed_6]; exact yAg.i yAg.rf (by rw [hk_h0]; decide)
    have hPod_6 : yPo S d_6 := by rw [ed_6]; exact yPo.i hPod_1 hk_h0 (Or.inl rfl)
    have hfd_6 : yK [0, 1, 2, 3, 38] d d_6 h0 := by rw [ed_6]; exact yK.i hfd_1 (by decide)
    have hCC_7 := yMI.c hId_1
    have T_8 : (z_2 : Int32).toInt = (d_1.1 h0 20).toInt := by rw [ez_2]
    have F_9 := fne (rfl : (z_2 : Int32).toInt = (z_2 : Int32).toInt) (by decide +kernel : (0 : Int32).toInt = 0) c_3
    have hId_6 : yMI S d_6 h0 := by rw [ed_6]; exact yMI.i0 hId_1 ⟨by omega, by omega⟩
    have hE0d_6 : (d_6.1 h0 0).toInt = (z_5 : Int32).toInt := by rw [ed_6, yi_self]
    have hE1d_6 : (d_6.1 h0 1).toInt = (d_1.1 h0 1).toInt := congrArg Int32.toInt ((show yK [0] d_1 d_6 h0 from by rw [ed_6]; exact yK.i yK.rf (by decide)) 1 (by decide))
    have hE2d_6 : (d_6.1 h0 2).toInt = (d_1.1 h0 2).toInt := congrArg Int32.toInt ((show yK [0] d_1 d_6 h0 from by rw [ed_6]; exact yK.i yK.rf (by decide)) 2 (by decide))
    have hE3d_6 : (d_6.1 h0 3).toInt = (d_1.1 h0 3).toInt := congrArg Int32.toInt ((show yK [0] d_1 d_6 h0 from by rw [ed_6]; exact yK.i yK.rf (by decide)) 3 (by decide))
    have hE63d_6 : (d_6.1 h0 63).toInt = (d_1.1 h0 63).toInt := congrArg Int32.toInt ((show yK [0] d_1 d_6 h0 from by rw [ed_6]; exact yK.i yK.rf (by decide)) 63 (by decide))
    refine lv_aload_n hx hb dX9_back_30 rfl (lv_at hl 0 rfl) ?_
    refine lv_aload_n hx hb dX9_back_31 rfl (lv_at hl 0 rfl) ?_
    refine yget (ci := 9) (k := 21) (v := .ref (S.2.2.1 h0 21)) (C := RX9) (T := TX9) (N := 67) C0 hK hP hm_h0 hk_h0 (by decide) rfl inlX9 (by decide) mW127 (fun _ h9 => h9) rfl dX9_back_32 ?_
    refine lv_iconst (v := 1) hx hb dX9_back_35 (by decide) ?_
    refine yald C0 hK hP hmy_4 hky_4 (by decide) rfl 0 rfl (by unfold vp_in; decide +kernel) dX9_back_36 ?_
    refine lv_topi (fun z_11 ez_11 => ?_)
    have hvz_11 : 0 ≤ (z_11 : Int32).toInt ∧ (z_11 : Int32).toInt ≤ 5000 := by rw [ez_11, show (1 : Int32).toNatClampNeg = 1 by decide +kernel]; exact (yMI.kp_ hId_6).2.1
    refine yputI (ci := 9) (k := 1) (ty := .int) (C := RX9) (T := TX9) (N := 67) C0 hK hP hD hS hm_h0 hk_h0 (by decide) rfl inlX9 tyX9 tyX9_ok nmX9 (by decide) mW364 (fun _ h9 => h9) rfl (by decide +kernel) rfl rfl (Nat.le_of_ble_eq_true rfl) ysi_9_1 dX9_back_37 (fun H locs hP hD hS => ?_)
    obtain ⟨d_12, ed_12⟩ : ∃ z : yD, z = yi d_6 h0 1 z_11 := ⟨_, rfl⟩
    rw [← ed_12] at hP hD
    have hgd_12 : yAg S [9, 34, 35, 36, 37, 38, 39, 40, 41, 42, 43, 44, 45, 46, 47, 48, 49, 69] d d_12 := by rw [ed_12]; exact yAg.i hgd_6 (by rw [hk_h0]; decide)
    have hsd_12 : yAg S [9] d_6 d_12 := by rw [ed_12]; exact yAg.i yAg.rf (by rw [hk_h0]; decide)
    have hPod_12 : yPo S d_12 := by rw [ed_12]; exact yPo.i hPod_6 hk_h0 (Or.inl rfl)
    have hfd_12 : yK [0, 1, 2, 3, 38] d d_12 h0 := by rw [ed_12]; exact yK.i hfd_6 (by decide)
    have hCC_13 := yMI.c hId_6
    have hId_12 : yMI S d_12 h0 := by rw [ed_12]; exact yMI.i1 hId_6 ⟨by omega, by omega⟩
    have hE0d_12 : (d_12.1 h0 0).toInt = (d_6.1 h0 0).toInt := congrArg Int32.toInt ((show yK [1] d_6 d_12 h0 from by rw [ed_12]; exact yK.i yK.rf (by decide)) 0 (by decide))
    have hE1d_12 : (d_12.1 h0 1).toInt = (z_11 : Int32).toInt := by rw [ed_12, yi_self]
    have hE2d_12 : (d_12.1 h0 2).toInt = (d_6.1 h0 2).toInt := congrArg Int32.toInt ((show yK [1] d_6 d_12 h0 from by rw [ed_12]; exact yK.i yK.rf (by decide)) 2 (by decide))
    have hE3d_12 : (d_12.1 h0 3).toInt = (d_6.1 h0 3).toInt := congrArg Int32.toInt ((show yK [1] d_6 d_12 h0 from by rw [ed_12]; exact yK.i yK.rf (by decide)) 3 (by decide))
    have hE63d_12 : (d_12.1 h0 63).toInt = (d_6.1 h0 63).toInt := congrArg Int32.toInt ((show yK [1] d_6 d_12 h0 from by rw [ed_12]; exact yK.i yK.rf (by decide)) 63 (by decide))
    refine lv_aload_n hx hb dX9_back_40 rfl (lv_at hl 0 rfl) ?_
    refine lv_aload_n hx hb dX9_back_41 rfl (lv_at hl 0 rfl) ?_
    refine yget (ci := 9) (k := 21) (v := .ref (S.2.2.1 h0 21)) (C := RX9) (T := TX9) (N := 67) C0 hK hP hm_h0 hk_h0 (by decide) rfl inlX9 (by decide) mW127 (fun _ h9 => h9) rfl dX9_back_42 ?_
    refine lv_iconst (v := 2) hx hb dX9_back_45 (by decide) ?_
    refine yald C0 hK hP hmy_4 hky_4 (by decide) rfl 0 rfl (by unfold vp_in; decide +kernel) dX9_back_46 ?_
    refine lv_topi (fun z_15 ez_15 => ?_)
    have hvz_15 : 0 ≤ (z_15 : Int32).toInt ∧ (z_15 : Int32).toInt ≤ 500 := by rw [ez_15, show (2 : Int32).toNatClampNeg = 2 by decide +kernel]; exact (yMI.kp_ hId_12).2.2.1
    refine yputI (ci := 9) (k := 2) (ty := .int) (C := RX9) (T := TX9) (N := 67) C0 hK hP hD hS hm_h0 hk_h0 (by decide) rfl inlX9 tyX9 tyX9_ok nmX9 (by decide) mW888 (fun _ h9 => h9) rfl (by decide +kernel) rfl rfl (Nat.le_of_ble_eq_true rfl) ysi_9_2 dX9_back_47 (fun H locs hP hD hS => ?_)
    obtain ⟨d_16, ed_16⟩ : ∃ z : yD, z = yi d_12 h0 2 z_15 := ⟨_, rfl⟩
    rw [← ed_16] at hP hD
    have hgd_16 : yAg S [9, 34, 35, 36, 37, 38, 39, 40, 41, 42, 43, 44, 45, 46, 47, 48, 49, 69] d d_16 := by rw [ed_16]; exact yAg.i hgd_12 (by rw [hk_h0]; decide)
    have hsd_16 : yAg S [9] d_12 d_16 := by rw [ed_16]; exact yAg.i yAg.rf (by rw [hk_h0]; decide)
    have hPod_16 : yPo S d_16 := by rw [ed_16]; exact yPo.i hPod_12 hk_h0 (Or.inl rfl)
    have hfd_16 : yK [0, 1, 2, 3, 38] d d_16 h0 := by rw [ed_16]; exact yK.i hfd_12 (by decide)
    have hCC_17 := yMI.c hId_12
    have hId_16 : yMI S d_16 h0 := by rw [ed_16]; exact yMI.i2 hId_12 ⟨by omega, by omega⟩
    have hE0d_16 : (d_16.1 h0 0).toInt = (d_12.1 h0 0).toInt := congrArg Int32.toInt ((show yK [2] d_12 d_16 h0 from by rw [ed_16]; exact yK.i yK.rf (by decide)) 0 (by decide))
    have hE1d_16 : (d_16.1 h0 1).toInt = (d_12.1 h0 1).toInt := congrArg Int32.toInt ((show yK [2] d_12 d_16 h0 from by rw [ed_16]; exact yK.i yK.rf (by decide)) 1 (by decide))
    have hE2d_16 : (d_16.1 h0 2).toInt = (z_15 : Int32).toInt := by rw [ed_16, yi_self]
    have hE3d_16 : (d_16.1 h0 3).toInt = (d_12.1 h0 3).toInt := congrArg Int32.toInt ((show yK [2] d_12 d_16 h0 from by rw [ed_16]; exact yK.i yK.rf (by decide)) 3 (by decide))
    have hE63d_16 : (d_16.1 h0 63).toInt = (d_12.1 h0 63).toInt := congrArg Int32.toInt ((show yK [2] d_12 d_16 h0 from by rw [ed_16]; exact yK.i yK.rf (by decide)) 63 (by decide))
    refine lv_aload_n hx hb dX9_back_50 rfl (lv_at hl 0 rfl) ?_
    refine lv_aload_n hx hb dX9_back_51 rfl (lv_at hl 0 rfl) ?_
    refine yget (ci := 9) (k := 21) (v := .ref (S.2.2.1 h0 21)) (C := RX9) (T := TX9) (N := 67) C0 hK hP hm_h0 hk_h0 (by decide) rfl inlX9 (by decide) mW127 (fun _ h9 => h9) rfl dX9_back_52 ?_
    refine lv_iconst (v := 3) hx hb dX9_back_55 (by decide) ?_
    refine yald C0 hK hP hmy_4 hky_4 (by decide) rfl 0 rfl (by unfold vp_in; decide +kernel) dX9_back_56 ?_
    refine lv_topi (fun z_19 ez_19 => ?_)
    have hvz_19 : (-1) ≤ (z_19 : Int32).toInt ∧ (z_19 : Int32).toInt ≤ 7 := by rw [ez_19, show (3 : Int32).toNatClampNeg = 3 by decide +kernel]; exact (yMI.kp_ hId_16).2.2.2
    refine yputI (ci := 9) (k := 3) (ty := .int) (C := RX9) (T := TX9) (N := 67) C0 hK hP hD hS hm_h0 hk_h0 (by decide) rfl inlX9 tyX9 tyX9_ok nmX9 (by decide) mW106 (fun _ h9 => h9) rfl (by decide +kernel) rfl rfl (Nat.le_of_ble_eq_true rfl) ysi_9_3 dX9_back_57 (fun H locs hP hD hS => ?_)
    obtain ⟨d_20, ed_20⟩ : ∃ z : yD, z = yi d_16 h0 3 z_19 := ⟨_, rfl⟩
    rw [← ed_20] at hP hD
    have hgd_20 : yAg S [9, 34, 35, 36, 37, 38, 39, 40, 41, 42, 43, 44, 45, 46, 47, 48, 49, 69] d d_20 := by rw [ed_20]; exact yAg.i hgd_16 (by rw [hk_h0]; decide)
    have hsd_20 : yAg S [9] d_16 d_20 := by rw [ed_20]; exact yAg.i yAg.rf (by rw [hk_h0]; decide)
    have hPod_20 : yPo S d_20 := by rw [ed_20]; exact yPo.i hPod_16 hk_h0 (Or.inl rfl)
    have hfd_20 : yK [0, 1, 2, 3, 38] d d_20 h0 := by rw [ed_20]; exact yK.i hfd_16 (by decide)
    have hCC_21 := yMI.c hId_16
    have hId_20 : yMI S d_20 h0 := by rw [ed_20]; exact yMI.i3 hId_16 ⟨by omega, by omega⟩
    have hE0d_20 : (d_20.1 h0 0).toInt = (d_16.1 h0 0).toInt := congrArg Int32.toInt ((show yK [3] d_16 d_20 h0 from by rw [ed_20]; exact yK.i yK.rf (by decide)) 0 (by decide))
    have hE1d_20 : (d_20.1 h0 1).toInt = (d_16.1 h0 1).toInt := congrArg Int32.toInt ((show yK [3] d_16 d_20 h0 from by rw [ed_20]; exact yK.i yK.rf (by decide)) 1 (by decide))
    have hE2d_20 : (d_20.1 h0 2).toInt = (d_16.1 h0 2).toInt := congrArg Int32.toInt ((show yK [3] d_16 d_20 h0 from by rw [ed_20]; exact yK.i yK.rf (by decide)) 2 (by decide))
    have hE3d_20 : (d_20.1 h0 3).toInt = (z_19 : Int32).toInt := by rw [ed_20, yi_self]
    have hE63d_20 : (d_20.1 h0 63).toInt = (d_16.1 h0 63).toInt := congrArg Int32.toInt ((show yK [3] d_16 d_20 h0 from by rw [ed_20]; exact yK.i yK.rf (by decide)) 63 (by decide))
    refine lv_iconst (v := 0) hx hb dX9_back_60 (by decide) ?_
    refine lv_istore_n (lv' := [(1, .int 0), (0, .ref h0)]) hx hb dX9_back_61 rfl hl (by decide) rfl (fun ls hl => ?_)
    refine yloop (σ := Int32 × yD) (fun x => (2147483647 - (x.1 : Int32).toInt).toNat) 62 (fun x H locs ls => va_P G.1 xcl (yW G S x.2) H ∧ va_D A (yW G S x.2) ∧ va_S A s.heap H locs ∧ yAg S [9, 34, 35, 36, 37, 38, 39, 40, 41, 42, 43, 44, 45, 46, 47, 48, 49, 69] d x.2 ∧ yPo S x.2 ∧ yK [0, 1, 2, 3, 38] d x.2 h0 ∧ yMI S x.2 h0 ∧ yAg S [34, 35, 36, 37, 38, 39, 40] d_20 x.2 ∧ yK [] d_20 x.2 h0 ∧ (zCr (fun s => x.2.2.2.2.1 (S.2.2.1 h0 (s))) (fun s => d_20.2.2.2.1 (S.2.2.1 h0 (s + 18))) x.1 ∧ 0 ≤ (x.1 : Int32).toInt) ∧ lv_has ls 2 [(1, .int x.1), (0, .ref h0)]) (fun x H locs ls hI hnext_25 => ?_) (0, d_20) ⟨hP, hD, hS, hgd_20, hPod_20, hfd_20, hId_20, yAg.rf, yK.rf, ⟨zCr.ini, (show 0 ≤ (0 : Int32).toInt by decide)⟩, lv_sub hl [0, 1] rfl⟩
    obtain ⟨v_23, d_24⟩ := x
    obtain ⟨hP, hD, hS, hgd_24, hPod_24, hfd_24, hId_24, hLJd_24, hKJd_24, hex_26, hl⟩ := hI
    have hId_24 : yMI S d_24 h0 := hId_24
    have hex_26 : (zCr (fun s => d_24.2.2.2.1 (S.2.2.1 h0 (s))) (fun s => d_20.2.2.2.1 (S.2.2.1 h0 (s + 18))) v_23 ∧ 0 ≤ (v_23 : Int32).toInt) := hex_26
    have hl : lv_has ls 2 [(1, .int v_23), (0, .ref h0)] := hl
    have hLJd_24 : yAg S [34, 35, 36, 37, 38, 39, 40] d_20 d_24 := hLJd_24
    have hKJd_24 : yK [] d_20 d_24 h0 := hKJd_24
    have hE0d_24 : (d_24.1 h0 0).toInt = (d_20.1 h0 0).toInt := congrArg Int32.toInt (hKJd_24 0 (by decide))
    have hE1d_24 : (d_24.1 h0 1).toInt = (d_20.1 h0 1).toInt := congrArg Int32.toInt (hKJd_24 1 (by decide))
    have hE2d_24 : (d_24.1 h0 2).toInt = (d_20.1 h0 2).toInt := congrArg Int32.toInt (hKJd_24 2 (by decide))
    have hE3d_24 : (d_24.1 h0 3).toInt = (d_20.1 h0 3).toInt := congrArg Int32.toInt (hKJd_24 3 (by decide))
    have hE63d_24 : (d_24.1 h0 63).toInt = (d_20.1 h0 63).toInt := congrArg Int32.toInt (hKJd_24 63 (by decide))
    have hxr_ := hex_26.2
    refine lv_iload_n hx hb dX9_back_62 rfl (lv_at hl 0 rfl) ?_
    refine lv_sipush (v := 2400) hx hb dX9_back_63 (by decide) ?_
    refine lv_icmp_ge (tgt := 159) hx hb dX9_back_66 (by decide) (fun c_27 => ?_) (fun c_27 => ?_)
    · refine lv_iconst (v := 0) hx hb dX9_back_159 (by decide) ?_
      refine lv_istore_n (lv' := [(1, .int 0), (0, .ref h0)]) hx hb dX9_back_160 rfl hl (by decide) rfl (fun ls hl => ?_)
      refine yloop (σ := Int32 × yD) (fun x => (2147483647 - (x.1 : Int32).toInt).toNat) 161 (fun x H locs ls => va_P G.1 xcl (yW G S x.2) H ∧ va_D A (yW G S x.2) ∧ va_S A s.heap H locs ∧ yAg S [9, 34, 35, 36, 37, 38, 39, 40, 41, 42, 43, 44, 45, 46, 47, 48, 49, 69] d x.2 ∧ yPo S x.2 ∧ yK [0, 1, 2, 3, 38] d x.2 h0 ∧ yMI S x.2 h0 ∧ yAg S [41] d_24 x.2 ∧ yK [] d_24 x.2 h0 ∧ (zCp (x.2.2.2.2.2 (S.2.2.1 h0 11)) (d_24.2.2.2.2 (S.2.2.1 h0 29)) x.1 ∧ 0 ≤ (x.1 : Int32).toInt) ∧ lv_has ls 2 [(1, .int x.1), (0, .ref h0)]) (fun x H locs ls hI hnext_30 => ?_) (0, d_24) ⟨hP, hD, hS, hgd_24, hPod_24, hfd_24, hId_24, yAg.rf, yK.rf, ⟨zCp.ini, (show 0 ≤ (0 : Int32).toInt by decide)⟩, lv_sub hl [0, 1] rfl⟩
      obtain ⟨v_28, d_29⟩ := x
      obtain ⟨hP, hD, hS, hgd_29, hPod_29, hfd_29, hId_29, hLJd_29, hKJd_29, hex_31, hl⟩ := hI
      have hId_29 : yMI S d_29 h0 := hId_29
      have hex_31 : (zCp (d_29.2.2.2.2 (S.2.2.1 h0 11)) (d_24.2.2.2.2 (S.2.2.1 h0 29)) v_28 ∧ 0 ≤ (v_28 : Int32).toInt) := hex_31
      have hl : lv_has ls 2 [(1, .int v_28), (0, .ref h0)] := hl
      have hLJd_29 : yAg S [41] d_24 d_29 := hLJd_29
      have hKJd_29 : yK [] d_24 d_29 h0 := hKJd_29
      have hE0d_29 : (d_29.1 h0 0).toInt = (d_24.1 h0 0).toInt := congrArg Int32.toInt (hKJd_29 0 (by decide))
      have hE1d_29 : (d_29.1 h0 1).toInt = (d_24.1 h0 1).toInt := congrArg Int32.toInt (hKJd_29 1 (by decide))
      have hE2d_29 : (d_29.1 h0 2).toInt = (d_24.1 h0 2).toInt := congrArg Int32.toInt (hKJd_29 2 (by decide))
      have hE3d_29 : (d_29.1 h0 3).toInt = (d_24.1 h0 3).toInt := congrArg Int32.toInt (hKJd_29 3 (by decide))
      have hE63d_29 : (d_29.1 h0 63).toInt = (d_24.1 h0 63).toInt := congrArg Int32.toInt (hKJd_29 63 (by decide))
      have hxr_ := hex_31.2
      refine lv_iload_n hx hb dX9_back_161 rfl (lv_at hl 0 rfl) ?_
      refine lv_bipush (v := 96) hx hb dX9_back_162 (by decide) ?_
      refine lv_icmp_ge (tgt := 185) hx hb dX9_back_164 (by decide) (fun c_32 => ?_) (fun c_32 => ?_)
      · refine lv_iconst (v := 0) hx hb dX9_back_185 (by decide) ?_
        refine lv_istore_n (lv' := [(1, .int 0), (0, .ref h0)]) hx hb dX9_back_186 rfl hl (by decide) rfl (fun ls hl => ?_)
        have hCC_33 := yMI.c hId_29
        have F_34 := fle (by decide +kernel : (2400 : Int32).toInt = 2400) (rfl : (v_23 : Int32).toInt = (v_23 : Int32).toInt) c_27
        have F_35 := fle (by decide +kernel : (96 : Int32).toInt = 96) (rfl : (v_28 : Int32).toInt = (v_28 : Int32).toInt) c_32
        refine yloop (σ := Int32 × yD) (fun x => (2147483647 - (x.1 : Int32).toInt).toNat) 187 (fun x H locs ls => va_P G.1 xcl (yW G S x.2) H ∧ va_D A (yW G S x.2) ∧ va_S A s.heap H locs ∧ yAg S [9, 34, 35, 36, 37, 38, 39, 40, 41, 42, 43, 44, 45, 46, 47, 48, 49, 69] d x.2 ∧ yPo S x.2 ∧ yK [0, 1, 2, 3, 38] d x.2 h0 ∧ yMI S x.2 h0 ∧ yAg S [42, 43, 44] d_29 x.2 ∧ yK [] d_29 x.2 h0 ∧ (0 ≤ ((x.1) : Int32).toInt) ∧ lv_has ls 2 [(1, .int x.1), (0, .ref h0)]) (fun x H locs ls hI hnext_38 => ?_) (0, d_29) ⟨hP, hD, hS, hgd_29, hPod_29, hfd_29, hId_29, yAg.rf, yK.rf, (show (0 ≤ ((0) : Int32).toInt) from by have hl0_ : (0 : Int32).toInt = 0 := (by decide +kernel); have hq0_ : (0 : Int32).toInt = 0 := (by decide +kernel); omega), lv_sub hl [0, 1] rfl⟩
        obtain ⟨v_36, d_37⟩ := x
        obtain ⟨hP, hD, hS, hgd_37, hPod_37, hfd_37, hId_37, hLJd_37, hKJd_37, hex_39, hl⟩ := hI
        have hId_37 : yMI S d_37 h0 := hId_37
        have hex_39 : (0 ≤ ((v_36) : Int32).toInt) := hex_39
        have hl : lv_has ls 2 [(1, .int v_36), (0, .ref h0)] := hl
        have hLJd_37 : yAg S [42, 43, 44] d_29 d_37 := hLJd_37
        have hKJd_37 : yK [] d_29 d_37 h0 := hKJd_37
        have hE0d_37 : (d_37.1 h0 0).toInt = (d_29.1 h0 0).toInt := congrArg Int32.toInt (hKJd_37 0 (by decide))
        have hE1d_37 : (d_37.1 h0 1).toInt = (d_29.1 h0 1).toInt := congrArg Int32.toInt (hKJd_37 1 (by decide))
        have hE2d_37 : (d_37.1 h0 2).toInt = (d_29.1 h0 2).toInt := congrArg Int32.toInt (hKJd_37 2 (by decide))
        have hE3d_37 : (d_37.1 h0 3).toInt = (d_29.1 h0 3).toInt := congrArg Int32.toInt (hKJd_37 3 (by decide))
        have hE63d_37 : (d_37.1 h0 63).toInt = (d_29.1 h0 63).toInt := congrArg Int32.toInt (hKJd_37 63 (by decide))
        refine lv_iload_n hx hb dX9_back_187 rfl (lv_at hl 0 rfl) ?_
        refine lv_sipush (v := 720) hx hb dX9_back_188 (by decide) ?_
        refine lv_icmp_ge (tgt := 236) hx hb dX9_back_191 (by decide) (fun c_40 => ?_) (fun c_40 => ?_)
        · refine lv_iconst (v := 0) hx hb dX9_back_236 (by decide) ?_
          refine lv_istore_n (lv' := [(1, .int 0), (0, .ref h0)]) hx hb dX9_back_237 rfl hl (by decide) rfl (fun ls hl => ?_)
          have hCC_41 := yMI.c hId_37
          have F_42 := fle (by decide +kernel : (720 : Int32).toInt = 720) (rfl : (v_36 : Int32).toInt = (v_36 : Int32).toInt) c_40
          refine yloop (σ := Int32 × yD) (fun x => (2147483647 - (x.1 : Int32).toInt).toNat) 238 (fun x H locs ls => va_P G.1 xcl (yW G S x.2) H ∧ va_D A (yW G S x.2) ∧ va_S A s.heap H locs ∧ yAg S [9, 34, 35, 36, 37, 38, 39, 40, 41, 42, 43, 44, 45, 46, 47, 48, 49, 69] d x.2 ∧ yPo S x.2 ∧ yK [0, 1, 2, 3, 38] d x.2 h0 ∧ yMI S x.2 h0 ∧ yAg S [45, 46, 47] d_37 x.2 ∧ yK [] d_37 x.2 h0 ∧ (0 ≤ ((x.1) : Int32).toInt) ∧ lv_has ls 2 [(1, .int x.1), (0, .ref h0)]) (fun x H locs ls hI hnext_45 => ?_) (0, d_37) ⟨hP, hD, hS, hgd_37, hPod_37, hfd_37, hId_37, yAg.rf, yK.rf, (show (0 ≤ ((0) : Int32).toInt) from by have hl0_ : (0 : Int32).toInt = 0 := (by decide +kernel); have hq0_ : (0 : Int32).toInt = 0 := (by decide +kernel); omega), lv_sub hl [0, 1] rfl⟩
          obtain ⟨v_43, d_44⟩ := x
          obtain ⟨hP, hD, hS, hgd_44, hPod_44, hfd_44, hId_44, hLJd_44, hKJd_44, hex_46, hl⟩ := hI
          have hId_44 : yMI S d_44 h0 := hId_44
          have hex_46 : (0 ≤ ((v_43) : Int32).toInt) := hex_46
          have hl : lv_has ls 2 [(1, .int v_43), (0, .ref h0)] := hl
          have hLJd_44 : yAg S [45, 46, 47] d_37 d_44 := hLJd_44
          have hKJd_44 : yK [] d_37 d_44 h0 := hKJd_44
          have hE0d_44 : (d_44.1 h0 0).toInt = (d_37.1 h0 0).toInt := congrArg Int32.toInt (hKJd_44 0 (by decide))
          have hE1d_44 : (d_44.1 h0 1).toInt = (d_37.1 h0 1).toInt := congrArg Int32.toInt (hKJd_44 1 (by decide))
          have hE2d_44 : (d_44.1 h0 2).toInt = (d_37.1 h0 2).toInt := congrArg Int32.toInt (hKJd_44 2 (by decide))
          have hE3d_44 : (d_44.1 h0 3).toInt = (d_37.1 h0 3).toInt := congrArg Int32.toInt (hKJd_44 3 (by decide))
          have hE63d_44 : (d_44.1 h0 63).toInt = (d_37.1 h0 63).toInt := congrArg Int32.toInt (hKJd_44 63 (by decide))
          refine lv_iload_n hx hb dX9_back_238 rfl (lv_at hl 0 rfl) ?_
          refine lv_sipush (v := 5000) hx hb dX9_back_239 (by decide) ?_
          refine lv_icmp_ge (tgt := 287) hx hb dX9_back_242 (by decide) (fun c_47 => ?_) (fun c_47 => ?_)
          · refine lv_iconst (v := 0) hx hb dX9_back_287 (by decide) ?_
            refine lv_istore_n (lv' := [(1, .int 0), (0, .ref h0)]) hx hb dX9_back_288 rfl hl (by decide) rfl (fun ls hl => ?_)
            have hCC_48 := yMI.c hId_44
            have F_49 := fle (by decide +kernel : (5000 : Int32).toInt = 5000) (rfl : (v_43 : Int32).toInt = (v_43 : Int32).toInt) c_47
            refine yloop (σ := Int32 × yD) (fun x => (2147483647 - (x.1 : Int32).toInt).toNat) 289 (fun x H locs ls => va_P G.1 xcl (yW G S x.2) H ∧ va_D A (yW G S x.2) ∧ va_S A s.heap H locs ∧ yAg S [9, 34, 35, 36, 37, 38, 39, 40, 41, 42, 43, 44, 45, 46, 47, 48, 49, 69] d x.2 ∧ yPo S x.2 ∧ yK [0, 1, 2, 3, 38] d x.2 h0 ∧ yMI S x.2 h0 ∧ yAg S [48, 49] d_44 x.2 ∧ yK [] d_44 x.2 h0 ∧ (0 ≤ ((x.1) : Int32).toInt) ∧ lv_has ls 2 [(1, .int x.1), (0, .ref h0)]) (fun x H locs ls hI hnext_52 => ?_) (0, d_44) ⟨hP, hD, hS, hgd_44, hPod_44, hfd_44, hId_44, yAg.rf, yK.rf, (show (0 ≤ ((0) : Int32).toInt) from by have hl0_ : (0 : Int32).toInt = 0 := (by decide +kernel); have hq0_ : (0 : Int32).toInt = 0 := (by decide +kernel); omega), lv_sub hl [0, 1] rfl⟩
            obtain ⟨v_50, d_51⟩ := x
            obtain ⟨hP, hD, hS, hgd_51, hPod_51, hfd_51, hId_51, hLJd_51, hKJd_51, hex_53, hl⟩ := hI
            have hId_51 : yMI S d_51 h0 := hId_51
            have hex_53 : (0 ≤ ((v_50) : Int32).toInt) := hex_53
            have hl : lv_has ls 2 [(1, .int v_50), (0, .ref h0)] := hl
            have hLJd_51 : yAg S [48, 49] d_44 d_51 := hLJd_51
            have hKJd_51 : yK [] d_44 d_51 h0 := hKJd_51
            have hE0d_51 : (d_51.1 h0 0).toInt = (d_44.1 h0 0).toInt := congrArg Int32.toInt (hKJd_51 0 (by decide))
            have hE1d_51 : (d_51.1 h0 1).toInt = (d_44.1 h0 1).toInt := congrArg Int32.toInt (hKJd_51 1 (by decide))
            have hE2d_51 : (d_51.1 h0 2).toInt = (d_44.1 h0 2).toInt := congrArg Int32.toInt (hKJd_51 2 (by decide))
            have hE3d_51 : (d_51.1 h0 3).toInt = (d_44.1 h0 3).toInt := congrArg Int32.toInt (hKJd_51 3 (by decide))
            have hE63d_51 : (d_51.1 h0 63).toInt = (d_44.1 h0 63).toInt := congrArg Int32.toInt (hKJd_51 63 (by decide))
            refine lv_iload_n hx hb dX9_back_289 rfl (lv_at hl 0 rfl) ?_
            refine lv_sipush (v := 500) hx hb dX9_back_290 (by decide) ?_
            refine lv_icmp_ge (tgt := 326) hx hb dX9_back_293 (by decide) (fun c_54 => ?_) (fun c_54 => ?_)
            · refine lv_iconst (v := 1) hx hb dX9_back_326 (by decide) ?_
              have F_55 := fle (by decide +kernel : (500 : Int32).toInt = 500) (rfl : (v_50 : Int32).toInt = (v_50 : Int32).toInt) c_54
              have hcp_ : ∀ j : Nat, j < 96 → d_51.2.2.2.2 (S.2.2.1 h0 11) j = d.2.2.2.2 (S.2.2.1 h0 29) j := fun j hj => by rw [(((hLJd_51 _ (by rw [(ySh.f9_11 hSh h0 hm_h0 hk_h0).2]; decide)).2.2.2.2).trans (((hLJd_44 _ (by rw [(ySh.f9_11 hSh h0 hm_h0 hk_h0).2]; decide)).2.2.2.2).trans (hLJd_37 _ (by rw [(ySh.f9_11 hSh h0 hm_h0 hk_h0).2]; decide)).2.2.2.2)), hex_31.1 j (by omega), (((hLJd_24 _ (by rw [(ySh.f9_29 hSh h0 hm_h0 hk_h0).2]; decide)).2.2.2.2).trans (((hsd_20 _ (by rw [(ySh.f9_29 hSh h0 hm_h0 hk_h0).2]; decide)).2.2.2.2).trans (((hsd_16 _ (by rw [(ySh.f9_29 hSh h0 hm_h0 hk_h0).2]; decide)).2.2.2.2).trans (((hsd_12 _ (by rw [(ySh.f9_29 hSh h0 hm_h0 hk_h0).2]; decide)).2.2.2.2).trans (((hsd_6 _ (by rw [(ySh.f9_29 hSh h0 hm_h0 hk_h0).2]; decide)).2.2.2.2).trans (hsd_1 _ (by rw [(ySh.f9_29 hSh h0 hm_h0 hk_h0).2]; decide)).2.2.2.2)))))]
              have hcr_ : ∀ s, 4 ≤ s → s ≤ 10 → ∀ j : Nat, j < 2400 → d_51.2.2.2.1 (S.2.2.1 h0 (s)) j = zNr s (d.2.2.2.1 (S.2.2.1 h0 (s + 18)) j) := by
                intro s a_ b_ j hj
                obtain rfl | rfl | rfl | rfl | rfl | rfl | rfl : s = 4 ∨ s = 5 ∨ s = 6 ∨ s = 7 ∨ s = 8 ∨ s = 9 ∨ s = 10 := by omega
                · rw [show d_51.2.2.2.1 (S.2.2.1 h0 (4)) = d_24.2.2.2.1 (S.2.2.1 h0 (4)) from (((hLJd_51 _ (by rw [(ySh.f9_4 hSh h0 hm_h0 hk_h0).2]; decide)).2.2.2.1).trans (((hLJd_44 _ (by rw [(ySh.f9_4 hSh h0 hm_h0 hk_h0).2]; decide)).2.2.2.1).trans (((hLJd_37 _ (by rw [(ySh.f9_4 hSh h0 hm_h0 hk_h0).2]; decide)).2.2.2.1).trans (hLJd_29 _ (by rw [(ySh.f9_4 hSh h0 hm_h0 hk_h0).2]; decide)).2.2.2.1))), show d_24.2.2.2.1 (S.2.2.1 h0 (4)) j = _ from hex_26.1 4 (by decide) (by decide) j (by omega)]; exact congrArg (zNr 4) (congrFun (show d_20.2.2.2.1 (S.2.2.1 h0 (4 + 18)) = d.2.2.2.1 (S.2.2.1 h0 (4 + 18)) from (((hsd_20 _ (by rw [(ySh.f9_22 hSh h0 hm_h0 hk_h0).2]; decide)).2.2.2.1).trans (((hsd_16 _ (by rw [(ySh.f9_22 hSh h0 hm_h0 hk_h0).2]; decide)).2.2.2.1).trans (((hsd_12 _ (by rw [(ySh.f9_22 hSh h0 hm_h0 hk_h0).2]; decide)).2.2.2.1).trans (((hsd_6 _ (by rw [(ySh.f9_22 hSh h0 hm_h0 hk_h0).2]; decide)).2.2.2.1).trans (hsd_1 _ (by rw [(ySh.f9_22 hSh h0 hm_h0 hk_h0).2]; decide)).2.2.2.1))))) j)
                · rw [show d_51.2.2.2.1 (S.2.2.1 h0 (5)) = d_24.2.2.2.1 (S.2.2.1 h0 (5)) from (((hLJd_51 _ (by rw [(ySh.f9_5 hSh h0 hm_h0 hk_h0).2]; decide)).2.2.2.1).trans (((hLJd_44 _ (by rw [(ySh.f9_5 hSh h0 hm_h0 hk_h0).2]; decide)).2.2.2.1).trans (((hLJd_37 _ (by rw [(ySh.f9_5 hSh h0 hm_h0 hk_h0).2]; decide)).2.2.2.1).trans (hLJd_29 _ (by rw [(ySh.f9_5 hSh h0 hm_h0 hk_h0).2]; decide)).2.2.2.1))), show d_24.2.2.2.1 (S.2.2.1 h0 (5)) j = _ from hex_26.1 5 (by decide) (by decide) j (by omega)]; exact congrArg (zNr 5) (congrFun (show d_20.2.2.2.1 (S.2.2.1 h0 (5 + 18)) = d.2.2.2.1 (S.2.2.1 h0 (5 + 18)) from (((hsd_20 _ (by rw [(ySh.f9_23 hSh h0 hm_h0 hk_h0).2]; decide)).2.2.2.1).trans (((hsd_16 _ (by rw [(ySh.f9_23 hSh h0 hm_h0 hk_h0).2]; decide)).2.2.2.1).trans (((hsd_12 _ (by rw [(ySh.f9_23 hSh h0 hm_h0 hk_h0).2]; decide)).2.2.2.1).trans (((hsd_6 _ (by rw [(ySh.f9_23 hSh h0 hm_h0 hk_h0).2]; decide)).2.2.2.1).trans (hsd_1 _ (by rw [(ySh.f9_23 hSh h0 hm_h0 hk_h0).2]; decide)).2.2.2.1))))) j)
                · rw [show d_51.2.2.2.1 (S.2.2.1 h0 (6)) = d_24.2.2.2.1 (S.2.2.1 h0 (6)) from (((hLJd_51 _ (by rw [(ySh.f9_6 hSh h0 hm_h0 hk_h0).2]; decide)).2.2.2.1).trans (((hLJd_44 _ (by rw [(ySh.f9_6 hSh h0 hm_h0 hk_h0).2]; decide)).2.2.2.1).trans (((hLJd_37 _ (by rw [(ySh.f9_6 hSh h0 hm_h0 hk_h0).2]; decide)).2.2.2.1).trans (hLJd_29 _ (by rw [(ySh.f9_6 hSh h0 hm_h0 hk_h0).2]; decide)).2.2.2.1))), show d_24.2.2.2.1 (S.2.2.1 h0 (6)) j = _ from hex_26.1 6 (by decide) (by decide) j (by omega)]; exact congrArg (zNr 6) (congrFun (show d_20.2.2.2.1 (S.2.2.1 h0 (6 + 18)) = d.2.2.2.1 (S.2.2.1 h0 (6 + 18)) from (((hsd_20 _ (by rw [(ySh.f9_24 hSh h0 hm_h0 hk_h0).2]; decide)).2.2.2.1).trans (((hsd_16 _ (by rw [(ySh.f9_24 hSh h0 hm_h0 hk_h0).2]; decide)).2.2.2.1).trans (((hsd_12 _ (by rw [(ySh.f9_24 hSh h0 hm_h0 hk_h0).2]; decide)).2.2.2.1).trans (((hsd_6 _ (by rw [(ySh.f9_24 hSh h0 hm_h0 hk_h0).2]; decide)).2.2.2.1).trans (hsd_1 _ (by rw [(ySh.f9_24 hSh h0 hm_h0 hk_h0).2]; decide)).2.2.2.1))))) j)
                · rw [show d_51.2.2.2.1 (S.2.2.1 h0 (7)) = d_24.2.2.2.1 (S.2.2.1 h0 (7)) from (((hLJd_51 _ (by rw [(ySh.f9_7 hSh h0 hm_h0 hk_h0).2]; decide)).2.2.2.1).trans (((hLJd_44 _ (by rw [(ySh.f9_7 hSh h0 hm_h0 hk_h0).2]; decide)).2.2.2.1).trans (((hLJd_37 _ (by rw [(ySh.f9_7 hSh h0 hm_h0 hk_h0).2]; decide)).2.2.2.1).trans (hLJd_29 _ (by rw [(ySh.f9_7 hSh h0 hm_h0 hk_h0).2]; decide)).2.2.2.1))), show d_24.2.2.2.1 (S.2.2.1 h0 (7)) j = _ from hex_26.1 7 (by decide) (by decide) j (by omega)]; exact congrArg (zNr 7) (congrFun (show d_20.2.2.2.1 (S.2.2.1 h0 (7 + 18)) = d.2.2.2.1 (S.2.2.1 h0 (7 + 18)) from (((hsd_20 _ (by rw [(ySh.f9_25 hSh h0 hm_h0 hk_h0).2]; decide)).2.2.2.1).trans (((hsd_16 _ (by rw [(ySh.f9_25 hSh h0 hm_h0 hk_h0).2]; decide)).2.2.2.1).trans (((hsd_12 _ (by rw [(ySh.f9_25 hSh h0 hm_h0 hk_h0).2]; decide)).2.2.2.1).trans (((hsd_6 _ (by rw [(ySh.f9_25 hSh h0 hm_h0 hk_h0).2]; decide)).2.2.2.1).trans (hsd_1 _ (by rw [(ySh.f9_25 hSh h0 hm_h0 hk_h0).2]; decide)).2.2.2.1))))) j)
                · rw [show d_51.2.2.2.1 (S.2.2.1 h0 (8)) = d_24.2.2.2.1 (S.2.2.1 h0 (8)) from (((hLJd_51 _ (by rw [(ySh.f9_8 hSh h0 hm_h0 hk_h0).2]; decide)).2.2.2.1).trans (((hLJd_44 _ (by rw [(ySh.f9_8 hSh h0 hm_h0 hk_h0).2]; decide)).2.2.2.1).trans (((hLJd_37 _ (by rw [(ySh.f9_8 hSh h0 hm_h0 hk_h0).2]; decide)).2.2.2.1).trans (hLJd_29 _ (by rw [(ySh.f9_8 hSh h0 hm_h0 hk_h0).2]; decide)).2.2.2.1))), show d_24.2.2.2.1 (S.2.2.1 h0 (8)) j = _ from hex_26.1 8 (by decide) (by decide) j (by omega)]; exact congrArg (zNr 8) (congrFun (show d_20.2.2.2.1 (S.2.2.1 h0 (8 + 18)) = d.2.2.2.1 (S.2.2.1 h0 (8 + 18)) from (((hsd_20 _ (by rw [(ySh.f9_26 hSh h0 hm_h0 hk_h0).2]; decide)).2.2.2.1).trans (((hsd_16 _ (by rw [(ySh.f9_26 hSh h0 hm_h0 hk_h0).2]; decide)).2.2.2.1).trans (((hsd_12 _ (by rw [(ySh.f9_26 hSh h0 hm_h0 hk_h0).2]; decide)).2.2.2.1).trans (((hsd_6 _ (by rw [(ySh.f9_26 hSh h0 hm_h0 hk_h0).2]; decide)).2.2.2.1).trans (hsd_1 _ (by rw [(ySh.f9_26 hSh h0 hm_h0 hk_h0).2]; decide)).2.2.2.1))))) j)
                · rw [show d_51.2.2.2.1 (S.2.2.1 h0 (9)) = d_24.2.2.2.1 (S.2.2.1 h0 (9)) from (((hLJd_51 _ (by rw [(ySh.f9_9 hSh h0 hm_h0 hk_h0).2]; decide)).2.2.2.1).trans (((hLJd_44 _ (by rw [(ySh.f9_9 hSh h0 hm_h0 hk_h0).2]; decide)).2.2.2.1).trans (((hLJd_37 _ (by rw [(ySh.f9_9 hSh h0 hm_h0 hk_h0).2]; decide)).2.2.2.1).trans (hLJd_29 _ (by rw [(ySh.f9_9 hSh h0 hm_h0 hk_h0).2]; decide)).2.2.2.1))), show d_24.2.2.2.1 (S.2.2.1 h0 (9)) j = _ from hex_26.1 9 (by decide) (by decide) j (by omega)]; exact congrArg (zNr 9) (congrFun (show d_20.2.2.2.1 (S.2.2.1 h0 (9 + 18)) = d.2.2.2.1 (S.2.2.1 h0 (9 + 18)) from (((hsd_20 _ (by rw [(ySh.f9_27 hSh h0 hm_h0 hk_h0).2]; decide)).2.2.2.1).trans (((hsd_16 _ (by rw [(ySh.f9_27 hSh h0 hm_h0 hk_h0).2]; decide)).2.2.2.1).trans (((hsd_12 _ (by rw [(ySh.f9_27 hSh h0 hm_h0 hk_h0).2]; decide)).2.2.2.1).trans (((hsd_6 _ (by rw [(ySh.f9_27 hSh h0 hm_h0 hk_h0).2]; decide)).2.2.2.1).trans (hsd_1 _ (by rw [(ySh.f9_27 hSh h0 hm_h0 hk_h0).2]; decide)).2.2.2.1))))) j)
                · rw [show d_51.2.2.2.1 (S.2.2.1 h0 (10)) = d_24.2.2.2.1 (S.2.2.1 h0 (10)) from (((hLJd_51 _ (by rw [(ySh.f9_10 hSh h0 hm_h0 hk_h0).2]; decide)).2.2.2.1).trans (((hLJd_44 _ (by rw [(ySh.f9_10 hSh h0 hm_h0 hk_h0).2]; decide)).2.2.2.1).trans (((hLJd_37 _ (by rw [(ySh.f9_10 hSh h0 hm_h0 hk_h0).2]; decide)).2.2.2.1).trans (hLJd_29 _ (by rw [(ySh.f9_10 hSh h0 hm_h0 hk_h0).2]; decide)).2.2.2.1))), show d_24.2.2.2.1 (S.2.2.1 h0 (10)) j = _ from hex_26.1 10 (by decide) (by decide) j (by omega)]; exact congrArg (zNr 10) (congrFun (show d_20.2.2.2.1 (S.2.2.1 h0 (10 + 18)) = d.2.2.2.1 (S.2.2.1 h0 (10 + 18)) from (((hsd_20 _ (by rw [(ySh.f9_28 hSh h0 hm_h0 hk_h0).2]; decide)).2.2.2.1).trans (((hsd_16 _ (by rw [(ySh.f9_28 hSh h0 hm_h0 hk_h0).2]; decide)).2.2.2.1).trans (((hsd_12 _ (by rw [(ySh.f9_28 hSh h0 hm_h0 hk_h0).2]; decide)).2.2.2.1).trans (((hsd_6 _ (by rw [(ySh.f9_28 hSh h0 hm_h0 hk_h0).2]; decide)).2.2.2.1).trans (hsd_1 _ (by rw [(ySh.f9_28 hSh h0 hm_h0 hk_h0).2]; decide)).2.2.2.1))))) j)
              exact W.zret (v := 1) (ty := .boolean) hx hb hr rfl (fun t ht hW => ⟨⟨1, d_51, rfl, ⟨hgd_51, (fun _ => hPod_51), hfd_51, ⟨hId_51, Or.inr ⟨⟨fun q => c_3 ((ez_2.trans (show d_1.1 h0 20 = d.1 h0 20 by rw [ed_1]; exact yi_at (by decide))).trans q), (((((hKJd_51 0 (by decide))).trans (((hKJd_44 0 (by decide))).trans (((hKJd_37 0 (by decide))).trans (((hKJd_29 0 (by decide))).trans (((hKJd_24 0 (by decide))).trans (((show d_20.1 h0 0 = d_16.1 h0 0 by rw [ed_20]; exact yi_at (by decide))).trans (((show d_16.1 h0 0 = d_12.1 h0 0 by rw [ed_16]; exact yi_at (by decide))).trans (show d_12.1 h0 0 = d_6.1 h0 0 by rw [ed_12]; exact yi_at (by decide)))))))))).trans ((show d_6.1 h0 0 = z_5 by rw [ed_6]; exact yi_self).trans (ez_5.trans ((congrArg (d_1.2.2.2.1 (S.2.2.1 h0 21)) (show (0 : Int32).toNatClampNeg = 0 by decide +kernel)).trans (congrFun (hsd_1 _ (by rw [(ySh.f9_21 hSh h0 hm_h0 hk_h0).2]; decide)).2.2.2.1 0))))), rfl⟩, (((((hKJd_51 2 (by decide))).trans (((hKJd_44 2 (by decide))).trans (((hKJd_37 2 (by decide))).trans (((hKJd_29 2 (by decide))).trans (((hKJd_24 2 (by decide))).trans (show d_20.1 h0 2 = d_16.1 h0 2 by rw [ed_20]; exact yi_at (by decide)))))))).trans ((show d_16.1 h0 2 = z_15 by rw [ed_16]; exact yi_self).trans (ez_15.trans ((congrArg (d_12.2.2.2.1 (S.2.2.1 h0 21)) (show (2 : Int32).toNatClampNeg = 2 by decide +kernel)).trans (congrFun (((hsd_12 _ (by rw [(ySh.f9_21 hSh h0 hm_h0 hk_h0).2]; decide)).2.2.2.1).trans (((hsd_6 _ (by rw [(ySh.f9_21 hSh h0 hm_h0 hk_h0).2]; decide)).2.2.2.1).trans (hsd_1 _ (by rw [(ySh.f9_21 hSh h0 hm_h0 hk_h0).2]; decide)).2.2.2.1)) 2))))), (((((hKJd_51 3 (by decide))).trans (((hKJd_44 3 (by decide))).trans (((hKJd_37 3 (by decide))).trans (((hKJd_29 3 (by decide))).trans (hKJd_24 3 (by decide))))))).trans ((show d_20.1 h0 3 = z_19 by rw [ed_20]; exact yi_self).trans (ez_19.trans ((congrArg (d_16.2.2.2.1 (S.2.2.1 h0 21)) (show (3 : Int32).toNatClampNeg = 3 by decide +kernel)).trans (congrFun (((hsd_16 _ (by rw [(ySh.f9_21 hSh h0 hm_h0 hk_h0).2]; decide)).2.2.2.1).trans (((hsd_12 _ (by rw [(ySh.f9_21 hSh h0 hm_h0 hk_h0).2]; decide)).2.2.2.1).trans (((hsd_6 _ (by rw [(ySh.f9_21 hSh h0 hm_h0 hk_h0).2]; decide)).2.2.2.1).trans (hsd_1 _ (by rw [(ySh.f9_21 hSh h0 hm_h0 hk_h0).2]; decide)).2.2.2.1))) 3))))), ⟨hcp_, hcr_⟩⟩⟩⟩, by rw [ht]; exact hP, hD⟩, hS.F ht⟩) hS.2.2 dX9_back_327
            · refine lv_aload_n hx hb dX9_back_296 rfl (lv_at hl 1 rfl) ?_
              refine yget (ci := 9) (k := 18) (v := .ref (S.2.2.1 h0 18)) (C := RX9) (T := TX9) (N := 67) C0 hK hP hm_h0 hk_h0 (by decide) rfl inlX9 (by decide) mW125 (fun _ h9 => h9) rfl dX9_back_297 ?_
              obtain ⟨hmy_56, hky_56⟩ := ySh.f9_18 hSh _ hm_h0 hk_h0
              refine lv_iload_n hx hb dX9_back_300 rfl (lv_at hl 0 rfl) ?_
              refine lv_aload_n hx hb dX9_back_301 rfl (lv_at hl 1 rfl) ?_
              refine yget (ci := 9) (k := 36) (v := .ref (S.2.2.1 h0 36)) (C := RX9) (T := TX9) (N := 67) C0 hK hP hm_h0 hk_h0 (by decide) rfl inlX9 (by decide) mW142 (fun _ h9 => h9) rfl dX9_back_302 ?_
              obtain ⟨hmy_57, hky_57⟩ := ySh.f9_36 hSh _ hm_h0 hk_h0
              refine lv_iload_n hx hb dX9_back_305 rfl (lv_at hl 0 rfl) ?_
              have hCC_58 := yMI.c hId_51
              have F_59 := fnle (by decide +kernel : (500 : Int32).toInt = 500) (rfl : (v_50 : Int32).toInt = (v_50 : Int32).toInt) c_54
              refine yald C0 hK hP hmy_57 hky_57 (by decide) rfl 0 rfl (xinT 500 rfl (by omega) (by omega)) dX9_back_306 ?_
              refine lv_topi (fun z_60 ez_60 => ?_)
              refine yast C0 hK hP hD hS hmy_56 hky_56 (by decide) rfl 0 rfl (xinT 500 rfl (by omega) (by omega)) dX9_back_307 (fun H locs hP hD hS => ?_)
              obtain ⟨d_61, ed_61⟩ : ∃ z : yD, z = ycs d_51 (S.2.2.1 h0 18) (upd (d_51.2.2.2.1 (S.2.2.1 h0 18)) (v_50 : Int32).toNatClampNeg z_60) := ⟨_, rfl⟩
              rw [← ed_61] at hP hD
              have hgd_61 : yAg S [9, 34, 35, 36, 37, 38, 39, 40, 41, 42, 43, 44, 45, 46, 47, 48, 49, 69] d d_61 := by rw [ed_61]; exact yAg.cs hgd_51 (by rw [hky_56]; decide)
              have hsd_61 : yAg S [48] d_51 d_61 := by rw [ed_61]; exact yAg.cs yAg.rf (by rw [hky_56]; decide)
              have hPod_61 : yPo S d_61 := by rw [ed_61]; exact hPod_51
              have hfd_61 : yK [0, 1, 2, 3, 38] d d_61 h0 := yK.ag hfd_51 (show yAg S [48] d_51 d_61 from by rw [ed_61]; exact yAg.cs yAg.rf (by rw [hky_56]; decide)) (by rw [hk_h0]; decide)
              have hL0d_61 : yAg S [48, 49] d_44 d_61 := by rw [ed_61]; exact yAg.cs hLJd_51 (by rw [hky_56]; decide)
              have hK0d_61 : yK [] d_44 d_61 h0 := yK.ag hKJd_51 (show yAg S [48] d_51 d_61 from by rw [ed_61]; exact yAg.cs yAg.rf (by rw [hky_56]; decide)) (by rw [hk_h0]; decide)
              have hId_61 : yMI S d_61 h0 := yMI.ag hId_51 hSh hm_h0 hk_h0 (show yAg S [48] d_51 d_61 from by rw [ed_61]; exact yAg.cs yAg.rf (by rw [hky_56]; decide)) (yK.ag (F := []) yK.rf (show yAg S [48] d_51 d_61 from by rw [ed_61]; exact yAg.cs yAg.rf (by rw [hky_56]; decide)) (by rw [hk_h0]; decide)) (by decide) (by decide)
              have hE0d_61 : (d_61.1 h0 0).toInt = (d_51.1 h0 0).toInt := congrArg Int32.toInt ((yK.ag (F := []) yK.rf (show yAg S [48] d_51 d_61 from by rw [ed_61]; exact yAg.cs yAg.rf (by rw [hky_56]; decide)) (by rw [hk_h0]; decide)) 0 (by decide))
              have hE1d_61 : (d_61.1 h0 1).toInt = (d_51.1 h0 1).toInt := congrArg Int32.toInt ((yK.ag (F := []) yK.rf (show yAg S [48] d_51 d_61 from by rw [ed_61]; exact yAg.cs yAg.rf (by rw [hky_56]; decide)) (by rw [hk_h0]; decide)) 1 (by decide))
              have hE2d_61 : (d_61.1 h0 2).toInt = (d_51.1 h0 2).toInt := congrArg Int32.toInt ((yK.ag (F := []) yK.rf (show yAg S [48] d_51 d_61 from by rw [ed_61]; exact yAg.cs yAg.rf (by rw [hky_56]; decide)) (by rw [hk_h0]; decide)) 2 (by decide))
              have hE3d_61 : (d_61.1 h0 3).toInt = (d_51.1 h0 3).toInt := congrArg Int32.toInt ((yK.ag (F := []) yK.rf (show yAg S [48] d_51 d_61 from by rw [ed_61]; exact yAg.cs yAg.rf (by rw [hky_56]; decide)) (by rw [hk_h0]; decide)) 3 (by decide))
              have hE63d_61 : (d_61.1 h0 63).toInt = (d_51.1 h0 63).toInt := congrArg Int32.toInt ((yK.ag (F := []) yK.rf (show yAg S [48] d_51 d_61 from by rw [ed_61]; exact yAg.cs yAg.rf (by rw [hky_56]; decide)) (by rw [hk_h0]; decide)) 63 (by decide))
              refine lv_aload_n hx hb dX9_back_308 rfl (lv_at hl 1 rfl) ?_
              refine yget (ci := 9) (k := 19) (v := .ref (S.2.2.1 h0 19)) (C := RX9) (T := TX9) (N := 67) C0 hK hP hm_h0 hk_h0 (by decide) rfl inlX9 (by decide) mW126 (fun _ h9 => h9) rfl dX9_back_309 ?_
              obtain ⟨hmy_62, hky_62⟩ := ySh.f9_19 hSh _ hm_h0 hk_h0
              refine lv_iload_n hx hb dX9_back_312 rfl (lv_at hl 0 rfl) ?_
              refine lv_aload_n hx hb dX9_back_313 rfl (lv_at hl 1 rfl) ?_
              refine yget (ci := 9) (k := 37) (v := .ref (S.2.2.1 h0 37)) (C := RX9) (T := TX9) (N := 67) C0 hK hP hm_h0 hk_h0 (by decide) rfl inlX9 (by decide) mW143 (fun _ h9 => h9) rfl dX9_back_314 ?_
              obtain ⟨hmy_63, hky_63⟩ := ySh.f9_37 hSh _ hm_h0 hk_h0
              refine lv_iload_n hx hb dX9_back_317 rfl (lv_at hl 0 rfl) ?_
              have hCC_64 := yMI.c hId_61
              refine yaldB C0 hK hP hmy_63 hky_63 (by decide) rfl 1 rfl (xinT 500 rfl (by omega) (by omega)) dX9_back_318 ?_
              refine lv_topi (fun z_65 ez_65 => ?_)
              refine yastB C0 hK hP hD hS hmy_62 hky_62 (by decide) rfl 1 rfl (xinT 500 rfl (by omega) (by omega)) dX9_back_319 (fun H locs hP hD hS => ?_)
              obtain ⟨d_66, ed_66⟩ : ∃ z : yD, z = ycs d_61 (S.2.2.1 h0 19) (upd (d_61.2.2.2.1 (S.2.2.1 h0 19)) (v_50 : Int32).toNatClampNeg (vp_nar .byte z_65)) := ⟨_, rfl⟩
              rw [← ed_66] at hP hD
              have hgd_66 : yAg S [9, 34, 35, 36, 37, 38, 39, 40, 41, 42, 43, 44, 45, 46, 47, 48, 49, 69] d d_66 := by rw [ed_66]; exact yAg.cs hgd_61 (by rw [hky_62]; decide)
              have hsd_66 : yAg S [49] d_61 d_66 := by rw [ed_66]; exact yAg.cs yAg.rf (by rw [hky_62]; decide)
              have hPod_66 : yPo S d_66 := by rw [ed_66]; exact hPod_61
              have hfd_66 : yK [0, 1, 2, 3, 38] d d_66 h0 := yK.ag hfd_61 (show yAg S [49] d_61 d_66 from by rw [ed_66]; exact yAg.cs yAg.rf (by rw [hky_62]; decide)) (by rw [hk_h0]; decide)
              have hL0d_66 : yAg S [48, 49] d_44 d_66 := by rw [ed_66]; exact yAg.cs hL0d_61 (by rw [hky_62]; decide)
              have hK0d_66 : yK [] d_44 d_66 h0 := yK.ag hK0d_61 (show yAg S [49] d_61 d_66 from by rw [ed_66]; exact yAg.cs yAg.rf (by rw [hky_62]; decide)) (by rw [hk_h0]; decide)
              have hId_66 : yMI S d_66 h0 := yMI.ag hId_61 hSh hm_h0 hk_h0 (show yAg S [49] d_61 d_66 from by rw [ed_66]; exact yAg.cs yAg.rf (by rw [hky_62]; decide)) (yK.ag (F := []) yK.rf (show yAg S [49] d_61 d_66 from by rw [ed_66]; exact yAg.cs yAg.rf (by rw [hky_62]; decide)) (by rw [hk_h0]; decide)) (by decide) (by decide)
              have hE0d_66 : (d_66.1 h0 0).toInt = (d_61.1 h0 0).toInt := congrArg Int32.toInt ((yK.ag (F := []) yK.rf (show yAg S [49] d_61 d_66 from by rw [ed_66]; exact yAg.cs yAg.rf (by rw [hky_62]; decide)) (by rw [hk_h0]; decide)) 0 (by decide))
              have hE1d_66 : (d_66.1 h0 1).toInt = (d_61.1 h0 1).toInt := congrArg Int32.toInt ((yK.ag (F := []) yK.rf (show yAg S [49] d_61 d_66 from by rw [ed_66]; exact yAg.cs yAg.rf (by rw [hky_62]; decide)) (by rw [hk_h0]; decide)) 1 (by decide))
              have hE2d_66 : (d_66.1 h0 2).toInt = (d_61.1 h0 2).toInt := congrArg Int32.toInt ((yK.ag (F := []) yK.rf (show yAg S [49] d_61 d_66 from by rw [ed_66]; exact yAg.cs yAg.rf (by rw [hky_62]; decide)) (by rw [hk_h0]; decide)) 2 (by decide))
              have hE3d_66 : (d_66.1 h0 3).toInt = (d_61.1 h0 3).toInt := congrArg Int32.toInt ((yK.ag (F := []) yK.rf (show yAg S [49] d_61 d_66 from by rw [ed_66]; exact yAg.cs yAg.rf (by rw [hky_62]; decide)) (by rw [hk_h0]; decide)) 3 (by decide))
              have hE63d_66 : (d_66.1 h0 63).toInt = (d_61.1 h0 63).toInt := congrArg Int32.toInt ((yK.ag (F := []) yK.rf (show yAg S [49] d_61 d_66 from by rw [ed_66]; exact yAg.cs yAg.rf (by rw [hky_62]; decide)) (by rw [hk_h0]; decide)) 63 (by decide))
              refine lv_iinc (v := v_50 + 1) (lv' := [(1, .int (v_50 + 1)), (0, .ref h0)]) hx hb dX9_back_320 hl (k := 0) rfl rfl (by decide) rfl (fun ls hl => ?_)
              refine lv_goto (tgt := 289) hx hb dX9_back_323 (by decide) ?_
              have hCC_68 := yMI.c hId_66
              have T_69 : ((v_50 + 1) : Int32).toInt = (v_50 : Int32).toInt + 1 := tadd rfl (rfl : (v_50 : Int32).toInt = (v_50 : Int32).toInt) (by decide +kernel : (1 : Int32).toInt = 1) (by omega) (by omega)
              exact hnext_52 (v_50 + 1, d_66) _ _ ls (xup c_54) ⟨hP, hD, hS, hgd_66, hPod_66, hfd_66, hId_66, hL0d_66, hK0d_66, (show (0 ≤ (((v_50 + 1)) : Int32).toInt) from by have hq0_ : (0 : Int32).toInt = 0 := (by decide +kernel); omega), lv_sub hl [0, 1] rfl⟩
          · refine lv_aload_n hx hb dX9_back_245 rfl (lv_at hl 1 rfl) ?_
            refine yget (ci := 9) (k := 15) (v := .ref (S.2.2.1 h0 15)) (C := RX9) (T := TX9) (N := 67) C0 hK hP hm_h0 hk_h0 (by decide) rfl inlX9 (by decide) mW122 (fun _ h9 => h9) rfl dX9_back_246 ?_
            obtain ⟨hmy_70, hky_70⟩ := ySh.f9_15 hSh _ hm_h0 hk_h0
            refine lv_iload_n hx hb dX9_back_249 rfl (lv_at hl 0 rfl) ?_
            refine lv_aload_n hx hb dX9_back_250 rfl (lv_at hl 1 rfl) ?_
            refine yget (ci := 9) (k := 33) (v := .ref (S.2.2.1 h0 33)) (C := RX9) (T := TX9) (N := 67) C0 hK hP hm_h0 hk_h0 (by decide) rfl inlX9 (by decide) mW139 (fun _ h9 => h9) rfl dX9_back_251 ?_
            obtain ⟨hmy_71, hky_71⟩ := ySh.f9_33 hSh _ hm_h0 hk_h0
            refine lv_iload_n hx hb dX9_back_254 rfl (lv_at hl 0 rfl) ?_
            have hCC_72 := yMI.c hId_44
            have F_73 := fnle (by decide +kernel : (5000 : Int32).toInt = 5000) (rfl : (v_43 : Int32).toInt = (v_43 : Int32).toInt) c_47
            refine yaldB C0 hK hP hmy_71 hky_71 (by decide) rfl 1 rfl (xinT 5000 rfl (by omega) (by omega)) dX9_back_255 ?_
            refine lv_topi (fun z_74 ez_74 => ?_)
            refine yastB C0 hK hP hD hS hmy_70 hky_70 (by decide) rfl 1 rfl (xinT 5000 rfl (by omega) (by omega)) dX9_back_256 (fun H locs hP hD hS => ?_)
            obtain ⟨d_75, ed_75⟩ : ∃ z : yD, z = ycs d_44 (S.2.2.1 h0 15) (upd (d_44.2.2.2.1 (S.2.2.1 h0 15)) (v_43 : Int32).toNatClampNeg (vp_nar .byte z_74)) := ⟨_, rfl⟩
            rw [← ed_75] at hP hD
            have hgd_75 : yAg S [9, 34, 35, 36, 37, 38, 39, 40, 41, 42, 43, 44, 45, 46, 47, 48, 49, 69] d d_75 := by rw [ed_75]; exact yAg.cs hgd_44 (by rw [hky_70]; decide)
            have hsd_75 : yAg S [45] d_44 d_75 := by rw [ed_75]; exact yAg.cs yAg.rf (by rw [hky_70]; decide)
            have hPod_75 : yPo S d_75 := by rw [ed_75]; exact hPod_44
            have hfd_75 : yK [0, 1, 2, 3, 38] d d_75 h0 := yK.ag hfd_44 (show yAg S [45] d_44 d_75 from by rw [ed_75]; exact yAg.cs yAg.rf (by rw [hky_70]; decide)) (by rw [hk_h0]; decide)
            have hL0d_75 : yAg S [45, 46, 47] d_37 d_75 := by rw [ed_75]; exact yAg.cs hLJd_44 (by rw [hky_70]; decide)
            have hK0d_75 : yK [] d_37 d_75 h0 := yK.ag hKJd_44 (show yAg S [45] d_44 d_75 from by rw [ed_75]; exact yAg.cs yAg.rf (by rw [hky_70]; decide)) (by rw [hk_h0]; decide)
            have hId_75 : yMI S d_75 h0 := yMI.ag hId_44 hSh hm_h0 hk_h0 (show yAg S [45] d_44 d_75 from by rw [ed_75]; exact yAg.cs yAg.rf (by rw [hky_70]; decide)) (yK.ag (F := []) yK.rf (show yAg S [45] d_44 d_75 from by rw [ed_75]; exact yAg.cs yAg.rf (by rw [hky_70]; decide)) (by rw [hk_h0]; decide)) (by decide) (by decide)
            have hE0d_75 : (d_75.1 h0 0).toInt = (d_44.1 h0 0).toInt := congrArg Int32.toInt ((yK.ag (F := []) yK.rf (show yAg S [45] d_44 d_75 from by rw [ed_75]; exact yAg.cs yAg.rf (by rw [hky_70]; decide)) (by rw [hk_h0]; decide)) 0 (by decide))
            have hE1d_75 : (d_75.1 h0 1).toInt = (d_44.1 h0 1).toInt := congrArg Int32.toInt ((yK.ag (F := []) yK.rf (show yAg S [45] d_44 d_75 from by rw [ed_75]; exact yAg.cs yAg.rf (by rw [hky_70]; decide)) (by rw [hk_h0]; decide)) 1 (by decide))
            have hE2d_75 : (d_75.1 h0 2).toInt = (d_44.1 h0 2).toInt := congrArg Int32.toInt ((yK.ag (F := []) yK.rf (show yAg S [45] d_44 d_75 from by rw [ed_75]; exact yAg.cs yAg.rf (by rw [hky_70]; decide)) (by rw [hk_h0]; decide)) 2 (by decide))
            have hE3d_75 : (d_75.1 h0 3).toInt = (d_44.1 h0 3).toInt := congrArg Int32.toInt ((yK.ag (F := []) yK.rf (show yAg S [45] d_44 d_75 from by rw [ed_75]; exact yAg.cs yAg.rf (by rw [hky_70]; decide)) (by rw [hk_h0]; decide)) 3 (by decide))
            have hE63d_75 : (d_75.1 h0 63).toInt = (d_44.1 h0 63).toInt := congrArg Int32.toInt ((yK.ag (F := []) yK.rf (show yAg S [45] d_44 d_75 from by rw [ed_75]; exact yAg.cs yAg.rf (by rw [hky_70]; decide)) (by rw [hk_h0]; decide)) 63 (by decide))
            refine lv_aload_n hx hb dX9_back_257 rfl (lv_at hl 1 rfl) ?_
            refine yget (ci := 9) (k := 16) (v := .ref (S.2.2.1 h0 16)) (C := RX9) (T := TX9) (N := 67) C0 hK hP hm_h0 hk_h0 (by decide) rfl inlX9 (by decide) mW123 (fun _ h9 => h9) rfl dX9_back_258 ?_
            obtain ⟨hmy_76, hky_76⟩ := ySh.f9_16 hSh _ hm_h0 hk_h0
            refine lv_iload_n hx hb dX9_back_261 rfl (lv_at hl 0 rfl) ?_
            refine lv_aload_n hx hb dX9_back_262 rfl (lv_at hl 1 rfl) ?_
            refine yget (ci := 9) (k := 34) (v := .ref (S.2.2.1 h0 34)) (C := RX9) (T := TX9) (N := 67) C0 hK hP hm_h0 hk_h0 (by decide) rfl inlX9 (by decide) mW140 (fun _ h9 => h9) rfl dX9_back_263 ?_
            obtain ⟨hmy_77, hky_77⟩ := ySh.f9_34 hSh _ hm_h0 hk_h0
            refine lv_iload_n hx hb dX9_back_266 rfl (lv_at hl 0 rfl) ?_
            have hCC_78 := yMI.c hId_75
            refine yald C0 hK hP hmy_77 hky_77 (by decide) rfl 0 rfl (xinT 5000 rfl (by omega) (by omega)) dX9_back_267 ?_
            refine lv_topi (fun z_79 ez_79 => ?_)
            have hvz_79 : 0 ≤ (z_79 : Int32).toInt ∧ (z_79 : Int32).toInt ≤ 129599 := by rw [ez_79]; exact yMI.ke_ hId_75 _
            refine yast C0 hK hP hD hS hmy_76 hky_76 (by decide) rfl 0 rfl (xinT 5000 rfl (by omega) (by omega)) dX9_back_268 (fun H locs hP hD hS => ?_)
            obtain ⟨d_80, ed_80⟩ : ∃ z : yD, z = ycs d_75 (S.2.2.1 h0 16) (upd (d_75.2.2.2.1 (S.2.2.1 h0 16)) (v_43 : Int32).toNatClampNeg z_79) := ⟨_, rfl⟩
            rw [← ed_80] at hP hD
            have hgd_80 : yAg S [9, 34, 35, 36, 37, 38, 39, 40, 41, 42, 43, 44, 45, 46, 47, 48, 49, 69] d d_80 := by rw [ed_80]; exact yAg.cs hgd_75 (by rw [hky_76]; decide)
            have hsd_80 : yAg S [46] d_75 d_80 := by rw [ed_80]; exact yAg.cs yAg.rf (by rw [hky_76]; decide)
            have hPod_80 : yPo S d_80 := by rw [ed_80]; exact hPod_75
            have hfd_80 : yK [0, 1, 2, 3, 38] d d_80 h0 := yK.ag hfd_75 (show yAg S [46] d_75 d_80 from by rw [ed_80]; exact yAg.cs yAg.rf (by rw [hky_76]; decide)) (by rw [hk_h0]; decide)
            have hL0d_80 : yAg S [45, 46, 47] d_37 d_80 := by rw [ed_80]; exact yAg.cs hL0d_75 (by rw [hky_76]; decide)
            have hK0d_80 : yK [] d_37 d_80 h0 := yK.ag hK0d_75 (show yAg S [46] d_75 d_80 from by rw [ed_80]; exact yAg.cs yAg.rf (by rw [hky_76]; decide)) (by rw [hk_h0]; decide)
            have hId_80 : yMI S d_80 h0 := by rw [ed_80]; exact yMI.w16 hId_75 hSh hm_h0 hk_h0 (yBr.up (yMI.em_ hId_75) ⟨by omega, by omega⟩)
            have hE0d_80 : (d_80.1 h0 0).toInt = (d_75.1 h0 0).toInt := congrArg Int32.toInt ((yK.ag (F := []) yK.rf (show yAg S [46] d_75 d_80 from by rw [ed_80]; exact yAg.cs yAg.rf (by rw [hky_76]; decide)) (by rw [hk_h0]; decide)) 0 (by decide))
            have hE1d_80 : (d_80.1 h0 1).toInt = (d_75.1 h0 1).toInt := congrArg Int32.toInt ((yK.ag (F := []) yK.rf (show yAg S [46] d_75 d_80 from by rw [ed_80]; exact yAg.cs yAg.rf (by rw [hky_76]; decide)) (by rw [hk_h0]; decide)) 1 (by decide))
            have hE2d_80 : (d_80.1 h0 2).toInt = (d_75.1 h0 2).toInt := congrArg Int32.toInt ((yK.ag (F := []) yK.rf (show yAg S [46] d_75 d_80 from by rw [ed_80]; exact yAg.cs yAg.rf (by rw [hky_76]; decide)) (by rw [hk_h0]; decide)) 2 (by decide))
            have hE3d_80 : (d_80.1 h0 3).toInt = (d_75.1 h0 3).toInt := congrArg Int32.toInt ((yK.ag (F := []) yK.rf (show yAg S [46] d_75 d_80 from by rw [ed_80]; exact yAg.cs yAg.rf (by rw [hky_76]; decide)) (by rw [hk_h0]; decide)) 3 (by decide))
            have hE63d_80 : (d_80.1 h0 63).toInt = (d_75.1 h0 63).toInt := congrArg Int32.toInt ((yK.ag (F := []) yK.rf (show yAg S [46] d_75 d_80 from by rw [ed_80]; exact yAg.cs yAg.rf (by rw [hky_76]; decide)) (by rw [hk_h0]; decide)) 63 (by decide))
            refine lv_aload_n hx hb dX9_back_269 rfl (lv_at hl 1 rfl) ?_
            refine yget (ci := 9) (k := 17) (v := .ref (S.2.2.1 h0 17)) (C := RX9) (T := TX9) (N := 67) C0 hK hP hm_h0 hk_h0 (by decide) rfl inlX9 (by decide) mW124 (fun _ h9 => h9) rfl dX9_back_270 ?_
            obtain ⟨hmy_82, hky_82⟩ := ySh.f9_17 hSh _ hm_h0 hk_h0
            refine lv_iload_n hx hb dX9_back_273 rfl (lv_at hl 0 rfl) ?_
            refine lv_aload_n hx hb dX9_back_274 rfl (lv_at hl 1 rfl) ?_
            refine yget (ci := 9) (k := 35) (v := .ref (S.2.2.1 h0 35)) (C := RX9) (T := TX9) (N := 67) C0 hK hP hm_h0 hk_h0 (by decide) rfl inlX9 (by decide) mW141 (fun _ h9 => h9) rfl dX9_back_275 ?_
            obtain ⟨hmy_83, hky_83⟩ := ySh.f9_35 hSh _ hm_h0 hk_h0
            refine lv_iload_n hx hb dX9_back_278 rfl (lv_at hl 0 rfl) ?_
            have hCC_84 := yMI.c hId_80
            refine yaldB C0 hK hP hmy_83 hky_83 (by decide) rfl 1 rfl (xinT 5000 rfl (by omega) (by omega)) dX9_back_279 ?_
            refine lv_topi (fun z_85 ez_85 => ?_)
            refine yastB C0 hK hP hD hS hmy_82 hky_82 (by decide) rfl 1 rfl (xinT 5000 rfl (by omega) (by omega)) dX9_back_280 (fun H locs hP hD hS => ?_)
            obtain ⟨d_86, ed_86⟩ : ∃ z : yD, z = ycs d_80 (S.2.2.1 h0 17) (upd (d_80.2.2.2.1 (S.2.2.1 h0 17)) (v_43 : Int32).toNatClampNeg (vp_nar .byte z_85)) := ⟨_, rfl⟩
            rw [← ed_86] at hP hD
            have hgd_86 : yAg S [9, 34, 35, 36, 37, 38, 39, 40, 41, 42, 43, 44, 45, 46, 47, 48, 49, 69] d d_86 := by rw [ed_86]; exact yAg.cs hgd_80 (by rw [hky_82]; decide)
            have hsd_86 : yAg S [47] d_80 d_86 := by rw [ed_86]; exact yAg.cs yAg.rf (by rw [hky_82]; decide)
            have hPod_86 : yPo S d_86 := by rw [ed_86]; exact hPod_80
            have hfd_86 : yK [0, 1, 2, 3, 38] d d_86 h0 := yK.ag hfd_80 (show yAg S [47] d_80 d_86 from by rw [ed_86]; exact yAg.cs yAg.rf (by rw [hky_82]; decide)) (by rw [hk_h0]; decide)
            have hL0d_86 : yAg S [45, 46, 47] d_37 d_86 := by rw [ed_86]; exact yAg.cs hL0d_80 (by rw [hky_82]; decide)
            have hK0d_86 : yK [] d_37 d_86 h0 := yK.ag hK0d_80 (show yAg S [47] d_80 d_86 from by rw [ed_86]; exact yAg.cs yAg.rf (by rw [hky_82]; decide)) (by rw [hk_h0]; decide)
            have hId_86 : yMI S d_86 h0 := yMI.ag hId_80 hSh hm_h0 hk_h0 (show yAg S [47] d_80 d_86 from by rw [ed_86]; exact yAg.cs yAg.rf (by rw [hky_82]; decide)) (yK.ag (F := []) yK.rf (show yAg S [47] d_80 d_86 from by rw [ed_86]; exact yAg.cs yAg.rf (by rw [hky_82]; decide)) (by rw [hk_h0]; decide)) (by decide) (by decide)
            have hE0d_86 : (d_86.1 h0 0).toInt = (d_80.1 h0 0).toInt := congrArg Int32.toInt ((yK.ag (F := []) yK.rf (show yAg S [47] d_80 d_86 from by rw [ed_86]; exact yAg.cs yAg.rf (by rw [hky_82]; decide)) (by rw [hk_h0]; decide)) 0 (by decide))
            have hE1d_86 : (d_86.1 h0 1).toInt = (d_80.1 h0 1).toInt := congrArg Int32.toInt ((yK.ag (F := []) yK.rf (show yAg S [47] d_80 d_86 from by rw [ed_86]; exact yAg.cs yAg.rf (by rw [hky_82]; decide)) (by rw [hk_h0]; decide)) 1 (by decide))
            have hE2d_86 : (d_86.1 h0 2).toInt = (d_80.1 h0 2).toInt := congrArg Int32.toInt ((yK.ag (F := []) yK.rf (show yAg S [47] d_80 d_86 from by rw [ed_86]; exact yAg.cs yAg.rf (by rw [hky_82]; decide)) (by rw [hk_h0]; decide)) 2 (by decide))
            have hE3d_86 : (d_86.1 h0 3).toInt = (d_80.1 h0 3).toInt := congrArg Int32.toInt ((yK.ag (F := []) yK.rf (show yAg S [47] d_80 d_86 from by rw [ed_86]; exact yAg.cs yAg.rf (by rw [hky_82]; decide)) (by rw [hk_h0]; decide)) 3 (by decide))
            have hE63d_86 : (d_86.1 h0 63).toInt = (d_80.1 h0 63).toInt := congrArg Int32.toInt ((yK.ag (F := []) yK.rf (show yAg S [47] d_80 d_86 from by rw [ed_86]; exact yAg.cs yAg.rf (by rw [hky_82]; decide)) (by rw [hk_h0]; decide)) 63 (by decide))
            refine lv_iinc (v := v_43 + 1) (lv' := [(1, .int (v_43 + 1)), (0, .ref h0)]) hx hb dX9_back_281 hl (k := 0) rfl rfl (by decide) rfl (fun ls hl => ?_)
            refine lv_goto (tgt := 238) hx hb dX9_back_284 (by decide) ?_
            have hCC_88 := yMI.c hId_86
            have T_89 : ((v_43 + 1) : Int32).toInt = (v_43 : Int32).toInt + 1 := tadd rfl (rfl : (v_43 : Int32).toInt = (v_43 : Int32).toInt) (by decide +kernel : (1 : Int32).toInt = 1) (by omega) (by omega)
            exact hnext_45 (v_43 + 1, d_86) _ _ ls (xup c_47) ⟨hP, hD, hS, hgd_86, hPod_86, hfd_86, hId_86, hL0d_86, hK0d_86, (show (0 ≤ (((v_43 + 1)) : Int32).toInt) from by have hq0_ : (0 : Int32).toInt = 0 := (by decide +kernel); omega), lv_sub hl [0, 1] rfl⟩
        · refine lv_aload_n hx hb dX9_back_194 rfl (lv_at hl 1 rfl) ?_
          refine yget (ci := 9) (k := 12) (v := .ref (S.2.2.1 h0 12)) (C := RX9) (T := TX9) (N := 67) C0 hK hP hm_h0 hk_h0 (by decide) rfl inlX9 (by decide) mW118 (fun _ h9 => h9) rfl dX9_back_195 ?_
          obtain ⟨hmy_90, hky_90⟩ := ySh.f9_12 hSh _ hm_h0 hk_h0
          refine lv_iload_n hx hb dX9_back_198 rfl (lv_at hl 0 rfl) ?_
          refine lv_aload_n hx hb dX9_back_199 rfl (lv_at hl 1 rfl) ?_
          refine yget (ci := 9) (k := 30) (v := .ref (S.2.2.1 h0 30)) (C := RX9) (T := TX9) (N := 67) C0 hK hP hm_h0 hk_h0 (by decide) rfl inlX9 (by decide) mW136 (fun _ h9 => h9) rfl dX9_back_200 ?_
          obtain ⟨hmy_91, hky_91⟩ := ySh.f9_30 hSh _ hm_h0 hk_h0
          refine lv_iload_n hx hb dX9_back_203 rfl (lv_at hl 0 rfl) ?_
          have hCC_92 := yMI.c hId_37
          have F_93 := fnle (by decide +kernel : (720 : Int32).toInt = 720) (rfl : (v_36 : Int32).toInt = (v_36 : Int32).toInt) c_40
          refine yaldS C0 hK hP hmy_91 hky_91 (by decide) rfl 2 rfl (xinT 720 rfl (by omega) (by omega)) dX9_back_204 ?_
          refine lv_topi (fun z_94 ez_94 => ?_)
          refine yastS C0 hK hP hD hS hmy_90 hky_90 (by decide) rfl 2 rfl (xinT 720 rfl (by omega) (by omega)) dX9_back_205 (fun H locs hP hD hS => ?_)
          obtain ⟨d_95, ed_95⟩ : ∃ z : yD, z = ycs d_37 (S.2.2.1 h0 12) (upd (d_37.2.2.2.1 (S.2.2.1 h0 12)) (v_36 : Int32).toNatClampNeg (vp_nar .short z_94)) := ⟨_, rfl⟩
          rw [← ed_95] at hP hD
          have hgd_95 : yAg S [9, 34, 35, 36, 37, 38, 39, 40, 41, 42, 43, 44, 45, 46, 47, 48, 49, 69] d d_95 := by rw [ed_95]; exact yAg.cs hgd_37 (by rw [hky_90]; decide)
          have hsd_95 : yAg S [42] d_37 d_95 := by rw [ed_95]; exact yAg.cs yAg.rf (by rw [hky_90]; decide)
          have hPod_95 : yPo S d_95 := by rw [ed_95]; exact hPod_37
          have hfd_95 : yK [0, 1, 2, 3, 38] d d_95 h0 := yK.ag hfd_37 (show yAg S [42] d_37 d_95 from by rw [ed_95]; exact yAg.cs yAg.rf (by rw [hky_90]; decide)) (by rw [hk_h0]; decide)
          have hL0d_95 : yAg S [42, 43, 44] d_29 d_95 := by rw [ed_95]; exact yAg.cs hLJd_37 (by rw [hky_90]; decide)
          have hK0d_95 : yK [] d_29 d_95 h0 := yK.ag hKJd_37 (show yAg S [42] d_37 d_95 from by rw [ed_95]; exact yAg.cs yAg.rf (by rw [hky_90]; decide)) (by rw [hk_h0]; decide)
          have hId_95 : yMI S d_95 h0 := yMI.ag hId_37 hSh hm_h0 hk_h0 (show yAg S [42] d_37 d_95 from by rw [ed_95]; exact yAg.cs yAg.rf (by rw [hky_90]; decide)) (yK.ag (F := []) yK.rf (show yAg S [42] d_37 d_95 from by rw [ed_95]; exact yAg.cs yAg.rf (by rw [hky_90]; decide)) (by rw [hk_h0]; decide)) (by decide) (by decide)
          have hE0d_95 : (d_95.1 h0 0).toInt = (d_37.1 h0 0).toInt := congrArg Int32.toInt ((yK.ag (F := []) yK.rf (show yAg S [42] d_37 d_95 from by rw [ed_95]; exact yAg.cs yAg.rf (by rw [hky_90]; decide)) (by rw [hk_h0]; decide)) 0 (by decide))
          have hE1d_95 : (d_95.1 h0 1).toInt = (d_37.1 h0 1).toInt := congrArg Int32.toInt ((yK.ag (F := []) yK.rf (show yAg S [42] d_37 d_95 from by rw [ed_95]; exact yAg.cs yAg.rf (by rw [hky_90]; decide)) (by rw [hk_h0]; decide)) 1 (by decide))
          have hE2d_95 : (d_95.1 h0 2).toInt = (d_37.1 h0 2).toInt := congrArg Int32.toInt ((yK.ag (F := []) yK.rf (show yAg S [42] d_37 d_95 from by rw [ed_95]; exact yAg.cs yAg.rf (by rw [hky_90]; decide)) (by rw [hk_h0]; decide)) 2 (by decide))
          have hE3d_95 : (d_95.1 h0 3).toInt = (d_37.1 h0 3).toInt := congrArg Int32.toInt ((yK.ag (F := []) yK.rf (show yAg S [42] d_37 d_95 from by rw [ed_95]; exact yAg.cs yAg.rf (by rw [hky_90]; decide)) (by rw [hk_h0]; decide)) 3 (by decide))
          have hE63d_95 : (d_95.1 h0 63).toInt = (d_37.1 h0 63).toInt := congrArg Int32.toInt ((yK.ag (F := []) yK.rf (show yAg S [42] d_37 d_95 from by rw [ed_95]; exact yAg.cs yAg.rf (by rw [hky_90]; decide)) (by rw [hk_h0]; decide)) 63 (by decide))
          refine lv_aload_n hx hb dX9_back_206 rfl (lv_at hl 1 rfl) ?_
          refine yget (ci := 9) (k := 13) (v := .ref (S.2.2.1 h0 13)) (C := RX9) (T := TX9) (N := 67) C0 hK hP hm_h0 hk_h0 (by decide) rfl inlX9 (by decide) mW120 (fun _ h9 => h9) rfl dX9_back_207 ?_
          obtain ⟨hmy_96, hky_96⟩ := ySh.f9_13 hSh _ hm_h0 hk_h0
          refine lv_iload_n hx hb dX9_back_210 rfl (lv_at hl 0 rfl) ?_
          refine lv_aload_n hx hb dX9_back_211 rfl (lv_at hl 1 rfl) ?_
          refine yget (ci := 9) (k := 31) (v := .ref (S.2.2.1 h0 31)) (C := RX9) (T := TX9) (N := 67) C0 hK hP hm_h0 hk_h0 (by decide) rfl inlX9 (by decide) mW137 (fun _ h9 => h9) rfl dX9_back_212 ?_
          obtain ⟨hmy_97, hky_97⟩ := ySh.f9_31 hSh _ hm_h0 hk_h0
          refine lv_iload_n hx hb dX9_back_215 rfl (lv_at hl 0 rfl) ?_
          have hCC_98 := yMI.c hId_95
          refine yaldZ C0 hK hP hmy_97 hky_97 (by decide) rfl 3 rfl (xinT 720 rfl (by omega) (by omega)) dX9_back_216 ?_
          refine lv_topi (fun z_99 ez_99 => ?_)
          refine yastZ C0 hK hP hD hS hmy_96 hky_96 (by decide) rfl 3 rfl (xinT 720 rfl (by omega) (by omega)) dX9_back_217 (fun H locs hP hD hS => ?_)
          obtain ⟨d_100, ed_100⟩ : ∃ z : yD, z = ycs d_95 (S.2.2.1 h0 13) (upd (d_95.2.2.2.1 (S.2.2.1 h0 13)) (v_36 : Int32).toNatClampNeg (vp_nar .boolean z_99)) := ⟨_, rfl⟩
          rw [← ed_100] at hP hD
          have hgd_100 : yAg S [9, 34, 35, 36, 37, 38, 39, 40, 41, 42, 43, 44, 45, 46, 47, 48, 49, 69] d d_100 := by rw [ed_100]; exact yAg.cs hgd_95 (by rw [hky_96]; decide)
          have hsd_100 : yAg S [43] d_95 d_100 := by rw [ed_100]; exact yAg.cs yAg.rf (by rw [hky_96]; decide)
          have hPod_100 : yPo S d_100 := by rw [ed_100]; exact hPod_95
          have hfd_100 : yK [0, 1, 2, 3, 38] d d_100 h0 := yK.ag hfd_95 (show yAg S [43] d_95 d_100 from by rw [ed_100]; exact yAg.cs yAg.rf (by rw [hky_96]; decide)) (by rw [hk_h0]; decide)
          have hL0d_100 : yAg S [42, 43, 44] d_29 d_100 := by rw [ed_100]; exact yAg.cs hL0d_95 (by rw [hky_96]; decide)
          have hK0d_100 : yK [] d_29 d_100 h0 := yK.ag hK0d_95 (show yAg S [43] d_95 d_100 from by rw [ed_100]; exact yAg.cs yAg.rf (by rw [hky_96]; decide)) (by rw [hk_h0]; decide)
          have hId_100 : yMI S d_100 h0 := yMI.ag hId_95 hSh hm_h0 hk_h0 (show yAg S [43] d_95 d_100 from by rw [ed_100]; exact yAg.cs yAg.rf (by rw [hky_96]; decide)) (yK.ag (F := []) yK.rf (show yAg S [43] d_95 d_100 from by rw [ed_100]; exact yAg.cs yAg.rf (by rw [hky_96]; decide)) (by rw [hk_h0]; decide)) (by decide) (by decide)
          have hE0d_100 : (d_100.1 h0 0).toInt = (d_95.1 h0 0).toInt := congrArg Int32.toInt ((yK.ag (F := []) yK.rf (show yAg S [43] d_95 d_100 from by rw [ed_100]; exact yAg.cs yAg.rf (by rw [hky_96]; decide)) (by rw [hk_h0]; decide)) 0 (by decide))
          have hE1d_100 : (d_100.1 h0 1).toInt = (d_95.1 h0 1).toInt := congrArg Int32.toInt ((yK.ag (F := []) yK.rf (show yAg S [43] d_95 d_100 from by rw [ed_100]; exact yAg.cs yAg.rf (by rw [hky_96]; decide)) (by rw [hk_h0]; decide)) 1 (by decide))
          have hE2d_100 : (d_100.1 h0 2).toInt = (d_95.1 h0 2).toInt := congrArg Int32.toInt ((yK.ag (F := []) yK.rf (show yAg S [43] d_95 d_100 from by rw [ed_100]; exact yAg.cs yAg.rf (by rw [hky_96]; decide)) (by rw [hk_h0]; decide)) 2 (by decide))
          have hE3d_100 : (d_100.1 h0 3).toInt = (d_95.1 h0 3).toInt := congrArg Int32.toInt ((yK.ag (F := []) yK.rf (show yAg S [43] d_95 d_100 from by rw [ed_100]; exact yAg.cs yAg.rf (by rw [hky_96]; decide)) (by rw [hk_h0]; decide)) 3 (by decide))
          have hE63d_100 : (d_100.1 h0 63).toInt = (d_95.1 h0 63).toInt := congrArg Int32.toInt ((yK.ag (F := []) yK.rf (show yAg S [43] d_95 d_100 from by rw [ed_100]; exact yAg.cs yAg.rf (by rw [hky_96]; decide)) (by rw [hk_h0]; decide)) 63 (by decide))
          refine lv_aload_n hx hb dX9_back_218 rfl (lv_at hl 1 rfl) ?_
          refine yget (ci := 9) (k := 14) (v := .ref (S.2.2.1 h0 14)) (C := RX9) (T := TX9) (N := 67) C0 hK hP hm_h0 hk_h0 (by decide) rfl inlX9 (by decide) mW121 (fun _ h9 => h9) rfl dX9_back_219 ?_
          obtain ⟨hmy_101, hky_101⟩ := ySh.f9_14 hSh _ hm_h0 hk_h0
          refine lv_iload_n hx hb dX9_back_222 rfl (lv_at hl 0 rfl) ?_
          refine lv_aload_n hx hb dX9_back_223 rfl (lv_at hl 1 rfl) ?_
          refine yget (ci := 9) (k := 32) (v := .ref (S.2.2.1 h0 32)) (C := RX9) (T := TX9) (N := 67) C0 hK hP hm_h0 hk_h0 (by decide) rfl inlX9 (by decide) mW138 (fun _ h9 => h9) rfl dX9_back_224 ?_
          obtain ⟨hmy_102, hky_102⟩ := ySh.f9_32 hSh _ hm_h0 hk_h0
          refine lv_iload_n hx hb dX9_back_227 rfl (lv_at hl 0 rfl) ?_
          have hCC_103 := yMI.c hId_100
          refine yaldZ C0 hK hP hmy_102 hky_102 (by decide) rfl 3 rfl (xinT 720 rfl (by omega) (by omega)) dX9_back_228 ?_
          refine lv_topi (fun z_104 ez_104 => ?_)
          have hzz_104 : z_104 = 0 ∨ z_104 = 1 := by rw [ez_104]; exact yMI.kz_ hId_100 _
          refine yastZ C0 hK hP hD hS hmy_101 hky_101 (by decide) rfl 3 rfl (xinT 720 rfl (by omega) (by omega)) dX9_back_229 (fun H locs hP hD hS => ?_)
          obtain ⟨d_105, ed_105⟩ : ∃ z : yD, z = ycs d_100 (S.2.2.1 h0 14) (upd (d_100.2.2.2.1 (S.2.2.1 h0 14)) (v_36 : Int32).toNatClampNeg (vp_nar .boolean z_104)) := ⟨_, rfl⟩
          rw [← ed_105] at hP hD
          have hgd_105 : yAg S [9, 34, 35, 36, 37, 38, 39, 40, 41, 42, 43, 44, 45, 46, 47, 48, 49, 69] d d_105 := by rw [ed_105]; exact yAg.cs hgd_100 (by rw [hky_101]; decide)
          have hsd_105 : yAg S [44] d_100 d_105 := by rw [ed_105]; exact yAg.cs yAg.rf (by rw [hky_101]; decide)
          have hPod_105 : yPo S d_105 := by rw [ed_105]; exact hPod_100
          have hfd_105 : yK [0, 1, 2, 3, 38] d d_105 h0 := yK.ag hfd_100 (show yAg S [44] d_100 d_105 from by rw [ed_105]; exact yAg.cs yAg.rf (by rw [hky_101]; decide)) (by rw [hk_h0]; decide)
          have hL0d_105 : yAg S [42, 43, 44] d_29 d_105 := by rw [ed_105]; exact yAg.cs hL0d_100 (by rw [hky_101]; decide)
          have hK0d_105 : yK [] d_29 d_105 h0 := yK.ag hK0d_100 (show yAg S [44] d_100 d_105 from by rw [ed_105]; exact yAg.cs yAg.rf (by rw [hky_101]; decide)) (by rw [hk_h0]; decide)
          have hId_105 : yMI S d_105 h0 := by rw [ed_105]; exact yMI.w14 hId_100 hSh hm_h0 hk_h0 (yBz.up (yMI.z_ hId_100) hzz_104)
          have hE0d_105 : (d_105.1 h0 0).toInt = (d_100.1 h0 0).toInt := congrArg Int32.toInt ((yK.ag (F := []) yK.rf (show yAg S [44] d_100 d_105 from by rw [ed_105]; exact yAg.cs yAg.rf (by rw [hky_101]; decide)) (by rw [hk_h0]; decide)) 0 (by decide))
          have hE1d_105 : (d_105.1 h0 1).toInt = (d_100.1 h0 1).toInt := congrArg Int32.toInt ((yK.ag (F := []) yK.rf (show yAg S [44] d_100 d_105 from by rw [ed_105]; exact yAg.cs yAg.rf (by rw [hky_101]; decide)) (by rw [hk_h0]; decide)) 1 (by decide))
          have hE2d_105 : (d_105.1 h0 2).toInt = (d_100.1 h0 2).toInt := congrArg Int32.toInt ((yK.ag (F := []) yK.rf (show yAg S [44] d_100 d_105 from by rw [ed_105]; exact yAg.cs yAg.rf (by rw [hky_101]; decide)) (by rw [hk_h0]; decide)) 2 (by decide))
          have hE3d_105 : (d_105.1 h0 3).toInt = (d_100.1 h0 3).toInt := congrArg Int32.toInt ((yK.ag (F := []) yK.rf (show yAg S [44] d_100 d_105 from by rw [ed_105]; exact yAg.cs yAg.rf (by rw [hky_101]; decide)) (by rw [hk_h0]; decide)) 3 (by decide))
          have hE63d_105 : (d_105.1 h0 63).toInt = (d_100.1 h0 63).toInt := congrArg Int32.toInt ((yK.ag (F := []) yK.rf (show yAg S [44] d_100 d_105 from by rw [ed_105]; exact yAg.cs yAg.rf (by rw [hky_101]; decide)) (by rw [hk_h0]; decide)) 63 (by decide))
          refine lv_iinc (v := v_36 + 1) (lv' := [(1, .int (v_36 + 1)), (0, .ref h0)]) hx hb dX9_back_230 hl (k := 0) rfl rfl (by decide) rfl (fun ls hl => ?_)
          refine lv_goto (tgt := 187) hx hb dX9_back_233 (by decide) ?_
          have hCC_107 := yMI.c hId_105
          have T_108 : ((v_36 + 1) : Int32).toInt = (v_36 : Int32).toInt + 1 := tadd rfl (rfl : (v_36 : Int32).toInt = (v_36 : Int32).toInt) (by decide +kernel : (1 : Int32).toInt = 1) (by omega) (by omega)
          exact hnext_38 (v_36 + 1, d_105) _ _ ls (xup c_40) ⟨hP, hD, hS, hgd_105, hPod_105, hfd_105, hId_105, hL0d_105, hK0d_105, (show (0 ≤ (((v_36 + 1)) : Int32).toInt) from by have hq0_ : (0 : Int32).toInt = 0 := (by decide +kernel); omega), lv_sub hl [0, 1] rfl⟩
      · refine lv_aload_n hx hb dX9_back_167 rfl (lv_at hl 1 rfl) ?_
        refine yget (ci := 9) (k := 11) (v := .ref (S.2.2.1 h0 11)) (C := RX9) (T := TX9) (N := 67) C0 hK hP hm_h0 hk_h0 (by decide) rfl inlX9 (by decide) mW116 (fun _ h9 => h9) rfl dX9_back_168 ?_
        obtain ⟨hmy_109, hky_109⟩ := ySh.f9_11 hSh _ hm_h0 hk_h0
        refine lv_iload_n hx hb dX9_back_171 rfl (lv_at hl 0 rfl) ?_
        refine lv_aload_n hx hb dX9_back_172 rfl (lv_at hl 1 rfl) ?_
        refine yget (ci := 9) (k := 29) (v := .ref (S.2.2.1 h0 29)) (C := RX9) (T := TX9) (N := 67) C0 hK hP hm_h0 hk_h0 (by decide) rfl inlX9 (by decide) mW135 (fun _ h9 => h9) rfl dX9_back_173 ?_
        obtain ⟨hmy_110, hky_110⟩ := ySh.f9_29 hSh _ hm_h0 hk_h0
        refine lv_iload_n hx hb dX9_back_176 rfl (lv_at hl 0 rfl) ?_
        have hCC_111 := yMI.c hId_29
        have F_112 := fle (by decide +kernel : (2400 : Int32).toInt = 2400) (rfl : (v_23 : Int32).toInt = (v_23 : Int32).toInt) c_27
        have F_113 := fnle (by decide +kernel : (96 : Int32).toInt = 96) (rfl : (v_28 : Int32).toInt = (v_28 : Int32).toInt) c_32
        refine yaldJ C0 hK hP hmy_110 hky_110 (by decide) rfl 4 rfl (xinT 96 rfl (by omega) (by omega)) dX9_back_177 ?_
        refine lv_topl (fun z_114 ez_114 => ?_)
        refine yastJ C0 hK hP hD hS hmy_109 hky_109 (by decide) rfl 4 rfl (xinT 96 rfl (by omega) (by omega)) dX9_back_178 (fun H locs hP hD hS => ?_)
        obtain ⟨d_115, ed_115⟩ : ∃ z : yD, z = ye d_29 (S.2.2.1 h0 11) (v_28 : Int32).toNatClampNeg z_114 := ⟨_, rfl⟩
        rw [← ed_115] at hP hD
        have hgd_115 : yAg S [9, 34, 35, 36, 37, 38, 39, 40, 41, 42, 43, 44, 45, 46, 47, 48, 49, 69] d d_115 := by rw [ed_115]; exact yAg.e hgd_29 (by rw [hky_109]; decide)
        have hsd_115 : yAg S [41] d_29 d_115 := by rw [ed_115]; exact yAg.e yAg.rf (by rw [hky_109]; decide)
        have hPod_115 : yPo S d_115 := by rw [ed_115]; exact hPod_29
        have hfd_115 : yK [0, 1, 2, 3, 38] d d_115 h0 := yK.ag hfd_29 (show yAg S [41] d_29 d_115 from by rw [ed_115]; exact yAg.e yAg.rf (by rw [hky_109]; decide)) (by rw [hk_h0]; decide)
        have hL0d_115 : yAg S [41] d_24 d_115 := by rw [ed_115]; exact yAg.e hLJd_29 (by rw [hky_109]; decide)
        have hK0d_115 : yK [] d_24 d_115 h0 := yK.ag hKJd_29 (show yAg S [41] d_29 d_115 from by rw [ed_115]; exact yAg.e yAg.rf (by rw [hky_109]; decide)) (by rw [hk_h0]; decide)
        have hId_115 : yMI S d_115 h0 := by rw [ed_115]; exact yMI.w11 hId_29 hSh hm_h0 hk_h0 (yBp.up (yMI.bp_ hId_29) (fun p hp e => by rw [ez_114, show (v_28 : Int32).toNatClampNeg = 12 * p + 1 from e]; exact (yMI.kb_ hId_29 p hp).1) (fun p hp e => by rw [ez_114, show (v_28 : Int32).toNatClampNeg = 12 * p + 2 from e]; exact (yMI.kb_ hId_29 p hp).2.1) (fun p hp e => by rw [ez_114, show (v_28 : Int32).toNatClampNeg = 12 * p + 6 from e]; exact (yMI.kb_ hId_29 p hp).2.2))
        have hE0d_115 : (d_115.1 h0 0).toInt = (d_29.1 h0 0).toInt := congrArg Int32.toInt ((yK.ag (F := []) yK.rf (show yAg S [41] d_29 d_115 from by rw [ed_115]; exact yAg.e yAg.rf (by rw [hky_109]; decide)) (by rw [hk_h0]; decide)) 0 (by decide))
        have hE1d_115 : (d_115.1 h0 1).toInt = (d_29.1 h0 1).toInt := congrArg Int32.toInt ((yK.ag (F := []) yK.rf (show yAg S [41] d_29 d_115 from by rw [ed_115]; exact yAg.e yAg.rf (by rw [hky_109]; decide)) (by rw [hk_h0]; decide)) 1 (by decide))
        have hE2d_115 : (d_115.1 h0 2).toInt = (d_29.1 h0 2).toInt := congrArg Int32.toInt ((yK.ag (F := []) yK.rf (show yAg S [41] d_29 d_115 from by rw [ed_115]; exact yAg.e yAg.rf (by rw [hky_109]; decide)) (by rw [hk_h0]; decide)) 2 (by decide))
        have hE3d_115 : (d_115.1 h0 3).toInt = (d_29.1 h0 3).toInt := congrArg Int32.toInt ((yK.ag (F := []) yK.rf (show yAg S [41] d_29 d_115 from by rw [ed_115]; exact yAg.e yAg.rf (by rw [hky_109]; decide)) (by rw [hk_h0]; decide)) 3 (by decide))
        have hE63d_115 : (d_115.1 h0 63).toInt = (d_29.1 h0 63).toInt := congrArg Int32.toInt ((yK.ag (F := []) yK.rf (show yAg S [41] d_29 d_115 from by rw [ed_115]; exact yAg.e yAg.rf (by rw [hky_109]; decide)) (by rw [hk_h0]; decide)) 63 (by decide))
        refine lv_iinc (v := v_28 + 1) (lv' := [(1, .int (v_28 + 1)), (0, .ref h0)]) hx hb dX9_back_179 hl (k := 0) rfl rfl (by decide) rfl (fun ls hl => ?_)
        refine lv_goto (tgt := 161) hx hb dX9_back_182 (by decide) ?_
        have hCC_117 := yMI.c hId_115
        have T_118 : ((v_28 + 1) : Int32).toInt = (v_28 : Int32).toInt + 1 := tadd rfl (rfl : (v_28 : Int32).toInt = (v_28 : Int32).toInt) (by decide +kernel : (1 : Int32).toInt = 1) (by omega) (by omega)
        exact hnext_30 (v_28 + 1, d_115) _ _ ls (xup c_32) ⟨hP, hD, hS, hgd_115, hPod_115, hfd_115, hId_115, hL0d_115, hK0d_115, ⟨zCp.step hex_31.1 hex_31.2 c_32 (by rw [ed_115, ez_114, (hLJd_29 _ (by rw [(ySh.f9_29 hSh h0 hm_h0 hk_h0).2]; decide)).2.2.2.2]; exact va_up_self _ _ _), (show 0 ≤ (v_28 + 1 : Int32).toInt from by omega)⟩, lv_sub hl [0, 1] rfl⟩
    · refine lv_aload_n hx hb dX9_back_69 rfl (lv_at hl 1 rfl) ?_
      refine yget (ci := 9) (k := 4) (v := .ref (S.2.2.1 h0 4)) (C := RX9) (T := TX9) (N := 67) C0 hK hP hm_h0 hk_h0 (by decide) rfl inlX9 (by decide) mW108 (fun _ h9 => h9) rfl dX9_back_70 ?_
      obtain ⟨hmy_119, hky_119⟩ := ySh.f9_4 hSh _ hm_h0 hk_h0
      refine lv_iload_n hx hb dX9_back_73 rfl (lv_at hl 0 rfl) ?_
      refine lv_aload_n hx hb dX9_back_74 rfl (lv_at hl 1 rfl) ?_
      refine yget (ci := 9) (k := 22) (v := .ref (S.2.2.1 h0 22)) (C := RX9) (T := TX9) (N := 67) C0 hK hP hm_h0 hk_h0 (by decide) rfl inlX9 (by decide) mW128 (fun _ h9 => h9) rfl dX9_back_75 ?_
      obtain ⟨hmy_120, hky_120⟩ := ySh.f9_22 hSh _ hm_h0 hk_h0
      refine lv_iload_n hx hb dX9_back_78 rfl (lv_at hl 0 rfl) ?_
      have hCC_121 := yMI.c hId_24
      have F_122 := fnle (by decide +kernel : (2400 : Int32).toInt = 2400) (rfl : (v_23 : Int32).toInt = (v_23 : Int32).toInt) c_27
      refine yaldB C0 hK hP hmy_120 hky_120 (by decide) rfl 1 rfl (xinT 2400 rfl (by omega) (by omega)) dX9_back_79 ?_
      refine lv_topi (fun z_123 ez_123 => ?_)
      refine yastB C0 hK hP hD hS hmy_119 hky_119 (by decide) rfl 1 rfl (xinT 2400 rfl (by omega) (by omega)) dX9_back_80 (fun H locs hP hD hS => ?_)
      obtain ⟨d_124, ed_124⟩ : ∃ z : yD, z = ycs d_24 (S.2.2.1 h0 4) (upd (d_24.2.2.2.1 (S.2.2.1 h0 4)) (v_23 : Int32).toNatClampNeg (vp_nar .byte z_123)) := ⟨_, rfl⟩
      rw [← ed_124] at hP hD
      have hgd_124 : yAg S [9, 34, 35, 36, 37, 38, 39, 40, 41, 42, 43, 44, 45, 46, 47, 48, 49, 69] d d_124 := by rw [ed_124]; exact yAg.cs hgd_24 (by rw [hky_119]; decide)
      have hsd_124 : yAg S [34] d_24 d_124 := by rw [ed_124]; exact yAg.cs yAg.rf (by rw [hky_119]; decide)
      have hPod_124 : yPo S d_124 := by rw [ed_124]; exact hPod_24
      have hfd_124 : yK [0, 1, 2, 3, 38] d d_124 h0 := yK.ag hfd_24 (show yAg S [34] d_24 d_124 from by rw [ed_124]; exact yAg.cs yAg.rf (by rw [hky_119]; decide)) (by rw [hk_h0]; decide)
      have hL0d_124 : yAg S [34, 35, 36, 37, 38, 39, 40] d_20 d_124 := by rw [ed_124]; exact yAg.cs hLJd_24 (by rw [hky_119]; decide)
      have hK0d_124 : yK [] d_20 d_124 h0 := yK.ag hKJd_24 (show yAg S [34] d_24 d_124 from by rw [ed_124]; exact yAg.cs yAg.rf (by rw [hky_119]; decide)) (by rw [hk_h0]; decide)
      have hId_124 : yMI S d_124 h0 := yMI.ag hId_24 hSh hm_h0 hk_h0 (show yAg S [34] d_24 d_124 from by rw [ed_124]; exact yAg.cs yAg.rf (by rw [hky_119]; decide)) (yK.ag (F := []) yK.rf (show yAg S [34] d_24 d_124 from by rw [ed_124]; exact yAg.cs yAg.rf (by rw [hky_119]; decide)) (by rw [hk_h0]; decide)) (by decide) (by decide)
      have hE0d_124 : (d_124.1 h0 0).toInt = (d_24.1 h0 0).toInt := congrArg Int32.toInt ((yK.ag (F := []) yK.rf (show yAg S [34] d_24 d_124 from by rw [ed_124]; exact yAg.cs yAg.rf (by rw [hky_119]; decide)) (by rw [hk_h0]; decide)) 0 (by decide))
      have hE1d_124 : (d_124.1 h0 1).toInt = (d_24.1 h0 1).toInt := congrArg Int32.toInt ((yK.ag (F := []) yK.rf (show yAg S [34] d_24 d_124 from by rw [ed_124]; exact yAg.cs yAg.rf (by rw [hky_119]; decide)) (by rw [hk_h0]; decide)) 1 (by decide))
      have hE2d_124 : (d_124.1 h0 2).toInt = (d_24.1 h0 2).toInt := congrArg Int32.toInt ((yK.ag (F := []) yK.rf (show yAg S [34] d_24 d_124 from by rw [ed_124]; exact yAg.cs yAg.rf (by rw [hky_119]; decide)) (by rw [hk_h0]; decide)) 2 (by decide))
      have hE3d_124 : (d_124.1 h0 3).toInt = (d_24.1 h0 3).toInt := congrArg Int32.toInt ((yK.ag (F := []) yK.rf (show yAg S [34] d_24 d_124 from by rw [ed_124]; exact yAg.cs yAg.rf (by rw [hky_119]; decide)) (by rw [hk_h0]; decide)) 3 (by decide))
      have hE63d_124 : (d_124.1 h0 63).toInt = (d_24.1 h0 63).toInt := congrArg Int32.toInt ((yK.ag (F := []) yK.rf (show yAg S [34] d_24 d_124 from by rw [ed_124]; exact yAg.cs yAg.rf (by rw [hky_119]; decide)) (by rw [hk_h0]; decide)) 63 (by decide))
      refine lv_aload_n hx hb dX9_back_81 rfl (lv_at hl 1 rfl) ?_
      refine yget (ci := 9) (k := 5) (v := .ref (S.2.2.1 h0 5)) (C := RX9) (T := TX9) (N := 67) C0 hK hP hm_h0 hk_h0 (by decide) rfl inlX9 (by decide) mW109 (fun _ h9 => h9) rfl dX9_back_82 ?_
      obtain ⟨hmy_125, hky_125⟩ := ySh.f9_5 hSh _ hm_h0 hk_h0
      refine lv_iload_n hx hb dX9_back_85 rfl (lv_at hl 0 rfl) ?_
      refine lv_aload_n hx hb dX9_back_86 rfl (lv_at hl 1 rfl) ?_
      refine yget (ci := 9) (k := 23) (v := .ref (S.2.2.1 h0 23)) (C := RX9) (T := TX9) (N := 67) C0 hK hP hm_h0 hk_h0 (by decide) rfl inlX9 (by decide) mW129 (fun _ h9 => h9) rfl dX9_back_87 ?_
      obtain ⟨hmy_126, hky_126⟩ := ySh.f9_23 hSh _ hm_h0 hk_h0
      refine lv_iload_n hx hb dX9_back_90 rfl (lv_at hl 0 rfl) ?_
      have hCC_127 := yMI.c hId_124
      refine yaldB C0 hK hP hmy_126 hky_126 (by decide) rfl 1 rfl (xinT 2400 rfl (by omega) (by omega)) dX9_back_91 ?_
      refine lv_topi (fun z_128 ez_128 => ?_)
      refine yastB C0 hK hP hD hS hmy_125 hky_125 (by decide) rfl 1 rfl (xinT 2400 rfl (by omega) (by omega)) dX9_back_92 (fun H locs hP hD hS => ?_)
      obtain ⟨d_129, ed_129⟩ : ∃ z : yD, z = ycs d_124 (S.2.2.1 h0 5) (upd (d_124.2.2.2.1 (S.2.2.1 h0 5)) (v_23 : Int32).toNatClampNeg (vp_nar .byte z_128)) := ⟨_, rfl⟩
      rw [← ed_129] at hP hD
      have hgd_129 : yAg S [9, 34, 35, 36, 37, 38, 39, 40, 41, 42, 43, 44, 45, 46, 47, 48, 49, 69] d d_129 := by rw [ed_129]; exact yAg.cs hgd_124 (by rw [hky_125]; decide)
      have hsd_129 : yAg S [35] d_124 d_129 := by rw [ed_129]; exact yAg.cs yAg.rf (by rw [hky_125]; decide)
      have hPod_129 : yPo S d_129 := by rw [ed_129]; exact hPod_124
      have hfd_129 : yK [0, 1, 2, 3, 38] d d_129 h0 := yK.ag hfd_124 (show yAg S [35] d_124 d_129 from by rw [ed_129]; exact yAg.cs yAg.rf (by rw [hky_125]; decide)) (by rw [hk_h0]; decide)
      have hL0d_129 : yAg S [34, 35, 36, 37, 38, 39, 40] d_20 d_129 := by rw [ed_129]; exact yAg.cs hL0d_124 (by rw [hky_125]; decide)
      have hK0d_129 : yK [] d_20 d_129 h0 := yK.ag hK0d_124 (show yAg S [35] d_124 d_129 from by rw [ed_129]; exact yAg.cs yAg.rf (by rw [hky_125]; decide)) (by rw [hk_h0]; decide)
      have hId_129 : yMI S d_129 h0 := yMI.ag hId_124 hSh hm_h0 hk_h0 (show yAg S [35] d_124 d_129 from by rw [ed_129]; exact yAg.cs yAg.rf (by rw [hky_125]; decide)) (yK.ag (F := []) yK.rf (show yAg S [35] d_124 d_129 from by rw [ed_129]; exact yAg.cs yAg.rf (by rw [hky_125]; decide)) (by rw [hk_h0]; decide)) (by decide) (by decide)
      have hE0d_129 : (d_129.1 h0 0).toInt = (d_124.1 h0 0).toInt := congrArg Int32.toInt ((yK.ag (F := []) yK.rf (show yAg S [35] d_124 d_129 from by rw [ed_129]; exact yAg.cs yAg.rf (by rw [hky_125]; decide)) (by rw [hk_h0]; decide)) 0 (by decide))
      have hE1d_129 : (d_129.1 h0 1).toInt = (d_124.1 h0 1).toInt := congrArg Int32.toInt ((yK.ag (F := []) yK.rf (show yAg S [35] d_124 d_129 from by rw [ed_129]; exact yAg.cs yAg.rf (by rw [hky_125]; decide)) (by rw [hk_h0]; decide)) 1 (by decide))
      have hE2d_129 : (d_129.1 h0 2).toInt = (d_124.1 h0 2).toInt := congrArg Int32.toInt ((yK.ag (F := []) yK.rf (show yAg S [35] d_124 d_129 from by rw [ed_129]; exact yAg.cs yAg.rf (by rw [hky_125]; decide)) (by rw [hk_h0]; decide)) 2 (by decide))
      have hE3d_129 : (d_129.1 h0 3).toInt = (d_124.1 h0 3).toInt := congrArg Int32.toInt ((yK.ag (F := []) yK.rf (show yAg S [35] d_124 d_129 from by rw [ed_129]; exact yAg.cs yAg.rf (by rw [hky_125]; decide)) (by rw [hk_h0]; decide)) 3 (by decide))
      have hE63d_129 : (d_129.1 h0 63).toInt = (d_124.1 h0 63).toInt := congrArg Int32.toInt ((yK.ag (F := []) yK.rf (show yAg S [35] d_124 d_129 from by rw [ed_129]; exact yAg.cs yAg.rf (by rw [hky_125]; decide)) (by rw [hk_h0]; decide)) 63 (by decide))
      refine lv_aload_n hx hb dX9_back_93 rfl (lv_at hl 1 rfl) ?_
      refine yget (ci := 9) (k := 6) (v := .ref (S.2.2.1 h0 6)) (C := RX9) (T := TX9) (N := 67) C0 hK hP hm_h0 hk_h0 (by decide) rfl inlX9 (by decide) mW110 (fun _ h9 => h9) rfl dX9_back_94 ?_
      obtain ⟨hmy_130, hky_130⟩ := ySh.f9_6 hSh _ hm_h0 hk_h0
      refine lv_iload_n hx hb dX9_back_97 rfl (lv_at hl 0 rfl) ?_
      refine lv_aload_n hx hb dX9_back_98 rfl (lv_at hl 1 rfl) ?_
      refine yget (ci := 9) (k := 24) (v := .ref (S.2.2.1 h0 24)) (C := RX9) (T := TX9) (N := 67) C0 hK hP hm_h0 hk_h0 (by decide) rfl inlX9 (by decide) mW130 (fun _ h9 => h9) rfl dX9_back_99 ?_
      obtain ⟨hmy_131, hky_131⟩ := ySh.f9_24 hSh _ hm_h0 hk_h0
      refine lv_iload_n hx hb dX9_back_102 rfl (lv_at hl 0 rfl) ?_
      have hCC_132 := yMI.c hId_129
      refine yaldB C0 hK hP hmy_131 hky_131 (by decide) rfl 1 rfl (xinT 2400 rfl (by omega) (by omega)) dX9_back_103 ?_
      refine lv_topi (fun z_133 ez_133 => ?_)
      refine yastB C0 hK hP hD hS hmy_130 hky_130 (by decide) rfl 1 rfl (xinT 2400 rfl (by omega) (by omega)) dX9_back_104 (fun H locs hP hD hS => ?_)
      obtain ⟨d_134, ed_134⟩ : ∃ z : yD, z = ycs d_129 (S.2.2.1 h0 6) (upd (d_129.2.2.2.1 (S.2.2.1 h0 6)) (v_23 : Int32).toNatClampNeg (vp_nar .byte z_133)) := ⟨_, rfl⟩
      rw [← ed_134] at hP hD
      have hgd_134 : yAg S [9, 34, 35, 36, 37, 38, 39, 40, 41, 42, 43, 44, 45, 46, 47, 48, 49, 69] d d_134 := by rw [ed_134]; exact yAg.cs hgd_129 (by rw [hky_130]; decide)
      have hsd_134 : yAg S [36] d_129 d_134 := by rw [ed_134]; exact yAg.cs yAg.rf (by rw [hky_130]; decide)
      have hPod_134 : yPo S d_134 := by rw [ed_134]; exact hPod_129
      have hfd_134 : yK [0, 1, 2, 3, 38] d d_134 h0 := yK.ag hfd_129 (show yAg S [36] d_129 d_134 from by rw [ed_134]; exact yAg.cs yAg.rf (by rw [hky_130]; decide)) (by rw [hk_h0]; decide)
      have hL0d_134 : yAg S [34, 35, 36, 37, 38, 39, 40] d_20 d_134 := by rw [ed_134]; exact yAg.cs hL0d_129 (by rw [hky_130]; decide)
      have hK0d_134 : yK [] d_20 d_134 h0 := yK.ag hK0d_129 (show yAg S [36] d_129 d_134 from by rw [ed_134]; exact yAg.cs yAg.rf (by rw [hky_130]; decide)) (by rw [hk_h0]; decide)
      have hId_134 : yMI S d_134 h0 := yMI.ag hId_129 hSh hm_h0 hk_h0 (show yAg S [36] d_129 d_134 from by rw [ed_134]; exact yAg.cs yAg.rf (by rw [hky_130]; decide)) (yK.ag (F := []) yK.rf (show yAg S [36] d_129 d_134 from by rw [ed_134]; exact yAg.cs yAg.rf (by rw [hky_130]; decide)) (by rw [hk_h0]; decide)) (by decide) (by decide)
      have hE0d_134 : (d_134.1 h0 0).toInt = (d_129.1 h0 0).toInt := congrArg Int32.toInt ((yK.ag (F := []) yK.rf (show yAg S [36] d_129 d_134 from by rw [ed_134]; exact yAg.cs yAg.rf (by rw [hky_130]; decide)) (by rw [hk_h0]; decide)) 0 (by decide))
      have hE1d_134 : (d_134.1 h0 1).toInt = (d_129.1 h0 1).toInt := congrArg Int32.toInt ((yK.ag (F := []) yK.rf (show yAg S [36] d_129 d_134 from by rw [ed_134]; exact yAg.cs yAg.rf (by rw [hky_130]; decide)) (by rw [hk_h0]; decide)) 1 (by decide))
      have hE2d_134 : (d_134.1 h0 2).toInt = (d_129.1 h0 2).toInt := congrArg Int32.toInt ((yK.ag (F := []) yK.rf (show yAg S [36] d_129 d_134 from by rw [ed_134]; exact yAg.cs yAg.rf (by rw [hky_130]; decide)) (by rw [hk_h0]; decide)) 2 (by decide))
      have hE3d_134 : (d_134.1 h0 3).toInt = (d_129.1 h0 3).toInt := congrArg Int32.toInt ((yK.ag (F := []) yK.rf (show yAg S [36] d_129 d_134 from by rw [ed_134]; exact yAg.cs yAg.rf (by rw [hky_130]; decide)) (by rw [hk_h0]; decide)) 3 (by decide))
      have hE63d_134 : (d_134.1 h0 63).toInt = (d_129.1 h0 63).toInt := congrArg Int32.toInt ((yK.ag (F := []) yK.rf (show yAg S [36] d_129 d_134 from by rw [ed_134]; exact yAg.cs yAg.rf (by rw [hky_130]; decide)) (by rw [hk_h0]; decide)) 63 (by decide))
      refine lv_aload_n hx hb dX9_back_105 rfl (lv_at hl 1 rfl) ?_
      refine yget (ci := 9) (k := 7) (v := .ref (S.2.2.1 h0 7)) (C := RX9) (T := TX9) (N := 67) C0 hK hP hm_h0 hk_h0 (by decide) rfl inlX9 (by decide) mW111 (fun _ h9 => h9) rfl dX9_back_106 ?_
      obtain ⟨hmy_135, hky_135⟩ := ySh.f9_7 hSh _ hm_h0 hk_h0
      refine lv_iload_n hx hb dX9_back_109 rfl (lv_at hl 0 rfl) ?_
      refine lv_aload_n hx hb dX9_back_110 rfl (lv_at hl 1 rfl) ?_
      refine yget (ci := 9) (k := 25) (v := .ref (S.2.2.1 h0 25)) (C := RX9) (T := TX9) (N := 67) C0 hK hP hm_h0 hk_h0 (by decide) rfl inlX9 (by decide) mW131 (fun _ h9 => h9) rfl dX9_back_111 ?_
      obtain ⟨hmy_136, hky_136⟩ := ySh.f9_25 hSh _ hm_h0 hk_h0
      refine lv_iload_n hx hb dX9_back_114 rfl (lv_at hl 0 rfl) ?_
      have hCC_137 := yMI.c hId_134
      refine yald C0 hK hP hmy_136 hky_136 (by decide) rfl 0 rfl (xinT 2400 rfl (by omega) (by omega)) dX9_back_115 ?_
      refine lv_topi (fun z_138 ez_138 => ?_)
      refine yast C0 hK hP hD hS hmy_135 hky_135 (by decide) rfl 0 rfl (xinT 2400 rfl (by omega) (by omega)) dX9_back_116 (fun H locs hP hD hS => ?_)
      obtain ⟨d_139, ed_139⟩ : ∃ z : yD, z = ycs d_134 (S.2.2.1 h0 7) (upd (d_134.2.2.2.1 (S.2.2.1 h0 7)) (v_23 : Int32).toNatClampNeg z_138) := ⟨_, rfl⟩
      rw [← ed_139] at hP hD
      have hgd_139 : yAg S [9, 34, 35, 36, 37, 38, 39, 40, 41, 42, 43, 44, 45, 46, 47, 48, 49, 69] d d_139 := by rw [ed_139]; exact yAg.cs hgd_134 (by rw [hky_135]; decide)
      have hsd_139 : yAg S [37] d_134 d_139 := by rw [ed_139]; exact yAg.cs yAg.rf (by rw [hky_135]; decide)
      have hPod_139 : yPo S d_139 := by rw [ed_139]; exact hPod_134
      have hfd_139 : yK [0, 1, 2, 3, 38] d d_139 h0 := yK.ag hfd_134 (show yAg S [37] d_134 d_139 from by rw [ed_139]; exact yAg.cs yAg.rf (by rw [hky_135]; decide)) (by rw [hk_h0]; decide)
      have hL0d_139 : yAg S [34, 35, 36, 37, 38, 39, 40] d_20 d_139 := by rw [ed_139]; exact yAg.cs hL0d_134 (by rw [hky_135]; decide)
      have hK0d_139 : yK [] d_20 d_139 h0 := yK.ag hK0d_134 (show yAg S [37] d_134 d_139 from by rw [ed_139]; exact yAg.cs yAg.rf (by rw [hky_135]; decide)) (by rw [hk_h0]; decide)
      have hId_139 : yMI S d_139 h0 := yMI.ag hId_134 hSh hm_h0 hk_h0 (show yAg S [37] d_134 d_139 from by rw [ed_139]; exact yAg.cs yAg.rf (by rw [hky_135]; decide)) (yK.ag (F := []) yK.rf (show yAg S [37] d_134 d_139 from by rw [ed_139]; exact yAg.cs yAg.rf (by rw [hky_135]; decide)) (by rw [hk_h0]; decide)) (by decide) (by decide)
      have hE0d_139 : (d_139.1 h0 0).toInt = (d_134.1 h0 0).toInt := congrArg Int32.toInt ((yK.ag (F := []) yK.rf (show yAg S [37] d_134 d_139 from by rw [ed_139]; exact yAg.cs yAg.rf (by rw [hky_135]; decide)) (by rw [hk_h0]; decide)) 0 (by decide))
      have hE1d_139 : (d_139.1 h0 1).toInt = (d_134.1 h0 1).toInt := congrArg Int32.toInt ((yK.ag (F := []) yK.rf (show yAg S [37] d_134 d_139 from by rw [ed_139]; exact yAg.cs yAg.rf (by rw [hky_135]; decide)) (by rw [hk_h0]; decide)) 1 (by decide))
      have hE2d_139 : (d_139.1 h0 2).toInt = (d_134.1 h0 2).toInt := congrArg Int32.toInt ((yK.ag (F := []) yK.rf (show yAg S [37] d_134 d_139 from by rw [ed_139]; exact yAg.cs yAg.rf (by rw [hky_135]; decide)) (by rw [hk_h0]; decide)) 2 (by decide))
      have hE3d_139 : (d_139.1 h0 3).toInt = (d_134.1 h0 3).toInt := congrArg Int32.toInt ((yK.ag (F := []) yK.rf (show yAg S [37] d_134 d_139 from by rw [ed_139]; exact yAg.cs yAg.rf (by rw [hky_135]; decide)) (by rw [hk_h0]; decide)) 3 (by decide))
      have hE63d_139 : (d_139.1 h0 63).toInt = (d_134.1 h0 63).toInt := congrArg Int32.toInt ((yK.ag (F := []) yK.rf (show yAg S [37] d_134 d_139 from by rw [ed_139]; exact yAg.cs yAg.rf (by rw [hky_135]; decide)) (by rw [hk_h0]; decide)) 63 (by decide))
      refine lv_aload_n hx hb dX9_back_117 rfl (lv_at hl 1 rfl) ?_
      refine yget (ci := 9) (k := 8) (v := .ref (S.2.2.1 h0 8)) (C := RX9) (T := TX9) (N := 67) C0 hK hP hm_h0 hk_h0 (by decide) rfl inlX9 (by decide) mW112 (fun _ h9 => h9) rfl dX9_back_118 ?_
      obtain ⟨hmy_140, hky_140⟩ := ySh.f9_8 hSh _ hm_h0 hk_h0
      refine lv_iload_n hx hb dX9_back_121 rfl (lv_at hl 0 rfl) ?_
      refine lv_aload_n hx hb dX9_back_122 rfl (lv_at hl 1 rfl) ?_
      refine yget (ci := 9) (k := 26) (v := .ref (S.2.2.1 h0 26)) (C := RX9) (T := TX9) (N := 67) C0 hK hP hm_h0 hk_h0 (by decide) rfl inlX9 (by decide) mW132 (fun _ h9 => h9) rfl dX9_back_123 ?_
      obtain ⟨hmy_141, hky_141⟩ := ySh.f9_26 hSh _ hm_h0 hk_h0
      refine lv_iload_n hx hb dX9_back_126 rfl (lv_at hl 0 rfl) ?_
      have hCC_142 := yMI.c hId_139
      refine yald C0 hK hP hmy_141 hky_141 (by decide) rfl 0 rfl (xinT 2400 rfl (by omega) (by omega)) dX9_back_127 ?_
      refine lv_topi (fun z_143 ez_143 => ?_)
      refine yast C0 hK hP hD hS hmy_140 hky_140 (by decide) rfl 0 rfl (xinT 2400 rfl (by omega) (by omega)) dX9_back_128 (fun H locs hP hD hS => ?_)
      obtain ⟨d_144, ed_144⟩ : ∃ z : yD, z = ycs d_139 (S.2.2.1 h0 8) (upd (d_139.2.2.2.1 (S.2.2.1 h0 8)) (v_23 : Int32).toNatClampNeg z_143) := ⟨_, rfl⟩
      rw [← ed_144] at hP hD
      have hgd_144 : yAg S [9, 34, 35, 36, 37, 38, 39, 40, 41, 42, 43, 44, 45, 46, 47, 48, 49, 69] d d_144 := by rw [ed_144]; exact yAg.cs hgd_139 (by rw [hky_140]; decide)
      have hsd_144 : yAg S [38] d_139 d_144 := by rw [ed_144]; exact yAg.cs yAg.rf (by rw [hky_140]; decide)
      have hPod_144 : yPo S d_144 := by rw [ed_144]; exact hPod_139
      have hfd_144 : yK [0, 1, 2, 3, 38] d d_144 h0 := yK.ag hfd_139 (show yAg S [38] d_139 d_144 from by rw [ed_144]; exact yAg.cs yAg.rf (by rw [hky_140]; decide)) (by rw [hk_h0]; decide)
      have hL0d_144 : yAg S [34, 35, 36, 37, 38, 39, 40] d_20 d_144 := by rw [ed_144]; exact yAg.cs hL0d_139 (by rw [hky_140]; decide)
      have hK0d_144 : yK [] d_20 d_144 h0 := yK.ag hK0d_139 (show yAg S [38] d_139 d_144 from by rw [ed_144]; exact yAg.cs yAg.rf (by rw [hky_140]; decide)) (by rw [hk_h0]; decide)
      have hId_144 : yMI S d_144 h0 := yMI.ag hId_139 hSh hm_h0 hk_h0 (show yAg S [38] d_139 d_144 from by rw [ed_144]; exact yAg.cs yAg.rf (by rw [hky_140]; decide)) (yK.ag (F := []) yK.rf (show yAg S [38] d_139 d_144 from by rw [ed_144]; exact yAg.cs yAg.rf (by rw [hky_140]; decide)) (by rw [hk_h0]; decide)) (by decide) (by decide)
      have hE0d_144 : (d_144.1 h0 0).toInt = (d_139.1 h0 0).toInt := congrArg Int32.toInt ((yK.ag (F := []) yK.rf (show yAg S [38] d_139 d_144 from by rw [ed_144]; exact yAg.cs yAg.rf (by rw [hky_140]; decide)) (by rw [hk_h0]; decide)) 0 (by decide))
      have hE1d_144 : (d_144.1 h0 1).toInt = (d_139.1 h0 1).toInt := congrArg Int32.toInt ((yK.ag (F := []) yK.rf (show yAg S [38] d_139 d_144 from by rw [ed_144]; exact yAg.cs yAg.rf (by rw [hky_140]; decide)) (by rw [hk_h0]; decide)) 1 (by decide))
      have hE2d_144 : (d_144.1 h0 2).toInt = (d_139.1 h0 2).toInt := congrArg Int32.toInt ((yK.ag (F := []) yK.rf (show yAg S [38] d_139 d_144 from by rw [ed_144]; exact yAg.cs yAg.rf (by rw [hky_140]; decide)) (by rw [hk_h0]; decide)) 2 (by decide))
      have hE3d_144 : (d_144.1 h0 3).toInt = (d_139.1 h0 3).toInt := congrArg Int32.toInt ((yK.ag (F := []) yK.rf (show yAg S [38] d_139 d_144 from by rw [ed_144]; exact yAg.cs yAg.rf (by rw [hky_140]; decide)) (by rw [hk_h0]; decide)) 3 (by decide))
      have hE63d_144 : (d_144.1 h0 63).toInt = (d_139.1 h0 63).toInt := congrArg Int32.toInt ((yK.ag (F := []) yK.rf (show yAg S [38] d_139 d_144 from by rw [ed_144]; exact yAg.cs yAg.rf (by rw [hky_140]; decide)) (by rw [hk_h0]; decide)) 63 (by decide))
      refine lv_aload_n hx hb dX9_back_129 rfl (lv_at hl 1 rfl) ?_
      refine yget (ci := 9) (k := 9) (v := .ref (S.2.2.1 h0 9)) (C := RX9) (T := TX9) (N := 67) C0 hK hP hm_h0 hk_h0 (by decide) rfl inlX9 (by decide) mW113 (fun _ h9 => h9) rfl dX9_back_130 ?_
      obtain ⟨hmy_145, hky_145⟩ := ySh.f9_9 hSh _ hm_h0 hk_h0
      refine lv_iload_n hx hb dX9_back_133 rfl (lv_at hl 0 rfl) ?_
      refine lv_aload_n hx hb dX9_back_134 rfl (lv_at hl 1 rfl) ?_
      refine yget (ci := 9) (k := 27) (v := .ref (S.2.2.1 h0 27)) (C := RX9) (T := TX9) (N := 67) C0 hK hP hm_h0 hk_h0 (by decide) rfl inlX9 (by decide) mW133 (fun _ h9 => h9) rfl dX9_back_135 ?_
      obtain ⟨hmy_146, hky_146⟩ := ySh.f9_27 hSh _ hm_h0 hk_h0
      refine lv_iload_n hx hb dX9_back_138 rfl (lv_at hl 0 rfl) ?_
      have hCC_147 := yMI.c hId_144
      refine yaldB C0 hK hP hmy_146 hky_146 (by decide) rfl 1 rfl (xinT 2400 rfl (by omega) (by omega)) dX9_back_139 ?_
      refine lv_topi (fun z_148 ez_148 => ?_)
      refine yastB C0 hK hP hD hS hmy_145 hky_145 (by decide) rfl 1 rfl (xinT 2400 rfl (by omega) (by omega)) dX9_back_140 (fun H locs hP hD hS => ?_)
      obtain ⟨d_149, ed_149⟩ : ∃ z : yD, z = ycs d_144 (S.2.2.1 h0 9) (upd (d_144.2.2.2.1 (S.2.2.1 h0 9)) (v_23 : Int32).toNatClampNeg (vp_nar .byte z_148)) := ⟨_, rfl⟩
      rw [← ed_149] at hP hD
      have hgd_149 : yAg S [9, 34, 35, 36, 37, 38, 39, 40, 41, 42, 43, 44, 45, 46, 47, 48, 49, 69] d d_149 := by rw [ed_149]; exact yAg.cs hgd_144 (by rw [hky_145]; decide)
      have hsd_149 : yAg S [39] d_144 d_149 := by rw [ed_149]; exact yAg.cs yAg.rf (by rw [hky_145]; decide)
      have hPod_149 : yPo S d_149 := by rw [ed_149]; exact hPod_144
      have hfd_149 : yK [0, 1, 2, 3, 38] d d_149 h0 := yK.ag hfd_144 (show yAg S [39] d_144 d_149 from by rw [ed_149]; exact yAg.cs yAg.rf (by rw [hky_145]; decide)) (by rw [hk_h0]; decide)
      have hL0d_149 : yAg S [34, 35, 36, 37, 38, 39, 40] d_20 d_149 := by rw [ed_149]; exact yAg.cs hL0d_144 (by rw [hky_145]; decide)
      have hK0d_149 : yK [] d_20 d_149 h0 := yK.ag hK0d_144 (show yAg S [39] d_144 d_149 from by rw [ed_149]; exact yAg.cs yAg.rf (by rw [hky_145]; decide)) (by rw [hk_h0]; decide)
      have hId_149 : yMI S d_149 h0 := yMI.ag hId_144 hSh hm_h0 hk_h0 (show yAg S [39] d_144 d_149 from by rw [ed_149]; exact yAg.cs yAg.rf (by rw [hky_145]; decide)) (yK.ag (F := []) yK.rf (show yAg S [39] d_144 d_149 from by rw [ed_149]; exact yAg.cs yAg.rf (by rw [hky_145]; decide)) (by rw [hk_h0]; decide)) (by decide) (by decide)
      have hE0d_149 : (d_149.1 h0 0).toInt = (d_144.1 h0 0).toInt := congrArg Int32.toInt ((yK.ag (F := []) yK.rf (show yAg S [39] d_144 d_149 from by rw [ed_149]; exact yAg.cs yAg.rf (by rw [hky_145]; decide)) (by rw [hk_h0]; decide)) 0 (by decide))
      have hE1d_149 : (d_149.1 h0 1).toInt = (d_144.1 h0 1).toInt := congrArg Int32.toInt ((yK.ag (F := []) yK.rf (show yAg S [39] d_144 d_149 from by rw [ed_149]; exact yAg.cs yAg.rf (by rw [hky_145]; decide)) (by rw [hk_h0]; decide)) 1 (by decide))
      have hE2d_149 : (d_149.1 h0 2).toInt = (d_144.1 h0 2).toInt := congrArg Int32.toInt ((yK.ag (F := []) yK.rf (show yAg S [39] d_144 d_149 from by rw [ed_149]; exact yAg.cs yAg.rf (by rw [hky_145]; decide)) (by rw [hk_h0]; decide)) 2 (by decide))
      have hE3d_149 : (d_149.1 h0 3).toInt = (d_144.1 h0 3).toInt := congrArg Int32.toInt ((yK.ag (F := []) yK.rf (show yAg S [39] d_144 d_149 from by rw [ed_149]; exact yAg.cs yAg.rf (by rw [hky_145]; decide)) (by rw [hk_h0]; decide)) 3 (by decide))
      have hE63d_149 : (d_149.1 h0 63).toInt = (d_144.1 h0 63).toInt := congrArg Int32.toInt ((yK.ag (F := []) yK.rf (show yAg S [39] d_144 d_149 from by rw [ed_149]; exact yAg.cs yAg.rf (by rw [hky_145]; decide)) (by rw [hk_h0]; decide)) 63 (by decide))
      refine lv_aload_n hx hb dX9_back_141 rfl (lv_at hl 1 rfl) ?_
      refine yget (ci := 9) (k := 10) (v := .ref (S.2.2.1 h0 10)) (C := RX9) (T := TX9) (N := 67) C0 hK hP hm_h0 hk_h0 (by decide) rfl inlX9 (by decide) mW114 (fun _ h9 => h9) rfl dX9_back_142 ?_
      obtain ⟨hmy_150, hky_150⟩ := ySh.f9_10 hSh _ hm_h0 hk_h0
      refine lv_iload_n hx hb dX9_back_145 rfl (lv_at hl 0 rfl) ?_
      refine lv_aload_n hx hb dX9_back_146 rfl (lv_at hl 1 rfl) ?_
      refine yget (ci := 9) (k := 28) (v := .ref (S.2.2.1 h0 28)) (C := RX9) (T := TX9) (N := 67) C0 hK hP hm_h0 hk_h0 (by decide) rfl inlX9 (by decide) mW134 (fun _ h9 => h9) rfl dX9_back_147 ?_
      obtain ⟨hmy_151, hky_151⟩ := ySh.f9_28 hSh _ hm_h0 hk_h0
      refine lv_iload_n hx hb dX9_back_150 rfl (lv_at hl 0 rfl) ?_
      have hCC_152 := yMI.c hId_149
      refine yald C0 hK hP hmy_151 hky_151 (by decide) rfl 0 rfl (xinT 2400 rfl (by omega) (by omega)) dX9_back_151 ?_
      refine lv_topi (fun z_153 ez_153 => ?_)
      refine yast C0 hK hP hD hS hmy_150 hky_150 (by decide) rfl 0 rfl (xinT 2400 rfl (by omega) (by omega)) dX9_back_152 (fun H locs hP hD hS => ?_)
      obtain ⟨d_154, ed_154⟩ : ∃ z : yD, z = ycs d_149 (S.2.2.1 h0 10) (upd (d_149.2.2.2.1 (S.2.2.1 h0 10)) (v_23 : Int32).toNatClampNeg z_153) := ⟨_, rfl⟩
      rw [← ed_154] at hP hD
      have hgd_154 : yAg S [9, 34, 35, 36, 37, 38, 39, 40, 41, 42, 43, 44, 45, 46, 47, 48, 49, 69] d d_154 := by rw [ed_154]; exact yAg.cs hgd_149 (by rw [hky_150]; decide)
      have hsd_154 : yAg S [40] d_149 d_154 := by rw [ed_154]; exact yAg.cs yAg.rf (by rw [hky_150]; decide)
      have hPod_154 : yPo S d_154 := by rw [ed_154]; exact hPod_149
      have hfd_154 : yK [0, 1, 2, 3, 38] d d_154 h0 := yK.ag hfd_149 (show yAg S [40] d_149 d_154 from by rw [ed_154]; exact yAg.cs yAg.rf (by rw [hky_150]; decide)) (by rw [hk_h0]; decide)
      have hL0d_154 : yAg S [34, 35, 36, 37, 38, 39, 40] d_20 d_154 := by rw [ed_154]; exact yAg.cs hL0d_149 (by rw [hky_150]; decide)
      have hK0d_154 : yK [] d_20 d_154 h0 := yK.ag hK0d_149 (show yAg S [40] d_149 d_154 from by rw [ed_154]; exact yAg.cs yAg.rf (by rw [hky_150]; decide)) (by rw [hk_h0]; decide)
      have hId_154 : yMI S d_154 h0 := yMI.ag hId_149 hSh hm_h0 hk_h0 (show yAg S [40] d_149 d_154 from by rw [ed_154]; exact yAg.cs yAg.rf (by rw [hky_150]; decide)) (yK.ag (F := []) yK.rf (show yAg S [40] d_149 d_154 from by rw [ed_154]; exact yAg.cs yAg.rf (by rw [hky_150]; decide)) (by rw [hk_h0]; decide)) (by decide) (by decide)
      have hE0d_154 : (d_154.1 h0 0).toInt = (d_149.1 h0 0).toInt := congrArg Int32.toInt ((yK.ag (F := []) yK.rf (show yAg S [40] d_149 d_154 from by rw [ed_154]; exact yAg.cs yAg.rf (by rw [hky_150]; decide)) (by rw [hk_h0]; decide)) 0 (by decide))
      have hE1d_154 : (d_154.1 h0 1).toInt = (d_149.1 h0 1).toInt := congrArg Int32.toInt ((yK.ag (F := []) yK.rf (show yAg S [40] d_149 d_154 from by rw [ed_154]; exact yAg.cs yAg.rf (by rw [hky_150]; decide)) (by rw [hk_h0]; decide)) 1 (by decide))
      have hE2d_154 : (d_154.1 h0 2).toInt = (d_149.1 h0 2).toInt := congrArg Int32.toInt ((yK.ag (F := []) yK.rf (show yAg S [40] d_149 d_154 from by rw [ed_154]; exact yAg.cs yAg.rf (by rw [hky_150]; decide)) (by rw [hk_h0]; decide)) 2 (by decide))
      have hE3d_154 : (d_154.1 h0 3).toInt = (d_149.1 h0 3).toInt := congrArg Int32.toInt ((yK.ag (F := []) yK.rf (show yAg S [40] d_149 d_154 from by rw [ed_154]; exact yAg.cs yAg.rf (by rw [hky_150]; decide)) (by rw [hk_h0]; decide)) 3 (by decide))
      have hE63d_154 : (d_154.1 h0 63).toInt = (d_149.1 h0 63).toInt := congrArg Int32.toInt ((yK.ag (F := []) yK.rf (show yAg S [40] d_149 d_154 from by rw [ed_154]; exact yAg.cs yAg.rf (by rw [hky_150]; decide)) (by rw [hk_h0]; decide)) 63 (by decide))
      refine lv_iinc (v := v_23 + 1) (lv' := [(1, .int (v_23 + 1)), (0, .ref h0)]) hx hb dX9_back_153 hl (k := 0) rfl rfl (by decide) rfl (fun ls hl => ?_)
      refine lv_goto (tgt := 62) hx hb dX9_back_156 (by decide) ?_
      have hCC_156 := yMI.c hId_154
      have T_157 : ((v_23 + 1) : Int32).toInt = (v_23 : Int32).toInt + 1 := tadd rfl (rfl : (v_23 : Int32).toInt = (v_23 : Int32).toInt) (by decide +kernel : (1 : Int32).toInt = 1) (by omega) (by omega)
      have hv4_ : (vp_nar .byte z_123) = zNr 4 (d_20.2.2.2.1 (S.2.2.1 h0 22) (v_23 : Int32).toNatClampNeg) := by rw [ez_123, show d_24.2.2.2.1 (S.2.2.1 h0 22) = d_20.2.2.2.1 (S.2.2.1 h0 22) from (hLJd_24 _ (by rw [(ySh.f9_22 hSh h0 hm_h0 hk_h0).2]; decide)).2.2.2.1]; rfl
      have hv5_ : (vp_nar .byte z_128) = zNr 5 (d_20.2.2.2.1 (S.2.2.1 h0 23) (v_23 : Int32).toNatClampNeg) := by rw [ez_128, show d_124.2.2.2.1 (S.2.2.1 h0 23) = d_20.2.2.2.1 (S.2.2.1 h0 23) from (((hsd_124 _ (by rw [(ySh.f9_23 hSh h0 hm_h0 hk_h0).2]; decide)).2.2.2.1).trans (hLJd_24 _ (by rw [(ySh.f9_23 hSh h0 hm_h0 hk_h0).2]; decide)).2.2.2.1)]; rfl
      have hv6_ : (vp_nar .byte z_133) = zNr 6 (d_20.2.2.2.1 (S.2.2.1 h0 24) (v_23 : Int32).toNatClampNeg) := by rw [ez_133, show d_129.2.2.2.1 (S.2.2.1 h0 24) = d_20.2.2.2.1 (S.2.2.1 h0 24) from (((hsd_129 _ (by rw [(ySh.f9_24 hSh h0 hm_h0 hk_h0).2]; decide)).2.2.2.1).trans (((hsd_124 _ (by rw [(ySh.f9_24 hSh h0 hm_h0 hk_h0).2]; decide)).2.2.2.1).trans (hLJd_24 _ (by rw [(ySh.f9_24 hSh h0 hm_h0 hk_h0).2]; decide)).2.2.2.1))]; rfl
      have hv7_ : z_138 = zNr 7 (d_20.2.2.2.1 (S.2.2.1 h0 25) (v_23 : Int32).toNatClampNeg) := by rw [ez_138, show d_134.2.2.2.1 (S.2.2.1 h0 25) = d_20.2.2.2.1 (S.2.2.1 h0 25) from (((hsd_134 _ (by rw [(ySh.f9_25 hSh h0 hm_h0 hk_h0).2]; decide)).2.2.2.1).trans (((hsd_129 _ (by rw [(ySh.f9_25 hSh h0 hm_h0 hk_h0).2]; decide)).2.2.2.1).trans (((hsd_124 _ (by rw [(ySh.f9_25 hSh h0 hm_h0 hk_h0).2]; decide)).2.2.2.1).trans (hLJd_24 _ (by rw [(ySh.f9_25 hSh h0 hm_h0 hk_h0).2]; decide)).2.2.2.1)))]; rfl
      have hv8_ : z_143 = zNr 8 (d_20.2.2.2.1 (S.2.2.1 h0 26) (v_23 : Int32).toNatClampNeg) := by rw [ez_143, show d_139.2.2.2.1 (S.2.2.1 h0 26) = d_20.2.2.2.1 (S.2.2.1 h0 26) from (((hsd_139 _ (by rw [(ySh.f9_26 hSh h0 hm_h0 hk_h0).2]; decide)).2.2.2.1).trans (((hsd_134 _ (by rw [(ySh.f9_26 hSh h0 hm_h0 hk_h0).2]; decide)).2.2.2.1).trans (((hsd_129 _ (by rw [(ySh.f9_26 hSh h0 hm_h0 hk_h0).2]; decide)).2.2.2.1).trans (((hsd_124 _ (by rw [(ySh.f9_26 hSh h0 hm_h0 hk_h0).2]; decide)).2.2.2.1).trans (hLJd_24 _ (by rw [(ySh.f9_26 hSh h0 hm_h0 hk_h0).2]; decide)).2.2.2.1))))]; rfl
      have hv9_ : (vp_nar .byte z_148) = zNr 9 (d_20.2.2.2.1 (S.2.2.1 h0 27) (v_23 : Int32).toNatClampNeg) := by rw [ez_148, show d_144.2.2.2.1 (S.2.2.1 h0 27) = d_20.2.2.2.1 (S.2.2.1 h0 27) from (((hsd_144 _ (by rw [(ySh.f9_27 hSh h0 hm_h0 hk_h0).2]; decide)).2.2.2.1).trans (((hsd_139 _ (by rw [(ySh.f9_27 hSh h0 hm_h0 hk_h0).2]; decide)).2.2.2.1).trans (((hsd_134 _ (by rw [(ySh.f9_27 hSh h0 hm_h0 hk_h0).2]; decide)).2.2.2.1).trans (((hsd_129 _ (by rw [(ySh.f9_27 hSh h0 hm_h0 hk_h0).2]; decide)).2.2.2.1).trans (((hsd_124 _ (by rw [(ySh.f9_27 hSh h0 hm_h0 hk_h0).2]; decide)).2.2.2.1).trans (hLJd_24 _ (by rw [(ySh.f9_27 hSh h0 hm_h0 hk_h0).2]; decide)).2.2.2.1)))))]; rfl
      have hv10_ : z_153 = zNr 10 (d_20.2.2.2.1 (S.2.2.1 h0 28) (v_23 : Int32).toNatClampNeg) := by rw [ez_153, show d_149.2.2.2.1 (S.2.2.1 h0 28) = d_20.2.2.2.1 (S.2.2.1 h0 28) from (((hsd_149 _ (by rw [(ySh.f9_28 hSh h0 hm_h0 hk_h0).2]; decide)).2.2.2.1).trans (((hsd_144 _ (by rw [(ySh.f9_28 hSh h0 hm_h0 hk_h0).2]; decide)).2.2.2.1).trans (((hsd_139 _ (by rw [(ySh.f9_28 hSh h0 hm_h0 hk_h0).2]; decide)).2.2.2.1).trans (((hsd_134 _ (by rw [(ySh.f9_28 hSh h0 hm_h0 hk_h0).2]; decide)).2.2.2.1).trans (((hsd_129 _ (by rw [(ySh.f9_28 hSh h0 hm_h0 hk_h0).2]; decide)).2.2.2.1).trans (((hsd_124 _ (by rw [(ySh.f9_28 hSh h0 hm_h0 hk_h0).2]; decide)).2.2.2.1).trans (hLJd_24 _ (by rw [(ySh.f9_28 hSh h0 hm_h0 hk_h0).2]; decide)).2.2.2.1))))))]; rfl
      have hz_ := zRowB7 (d := d_24) hSh hm_h0 hk_h0 rfl rfl rfl rfl rfl rfl rfl ed_124 ed_129 ed_134 ed_139 ed_144 ed_149 ed_154
      have hf_ : ∀ s, 4 ≤ s → s ≤ 10 → d_154.2.2.2.1 (S.2.2.1 h0 (s)) = upd (d_24.2.2.2.1 (S.2.2.1 h0 (s))) (v_23 : Int32).toNatClampNeg (zNr s (d_20.2.2.2.1 (S.2.2.1 h0 (s + 18)) (v_23 : Int32).toNatClampNeg)) := by
        intro s a_ b_
        obtain rfl | rfl | rfl | rfl | rfl | rfl | rfl : s = 4 ∨ s = 5 ∨ s = 6 ∨ s = 7 ∨ s = 8 ∨ s = 9 ∨ s = 10 := by omega
        · exact (hz_ 4 (by decide) (by decide)).trans (congrArg (upd _ _) hv4_)
        · exact (hz_ 5 (by decide) (by decide)).trans (congrArg (upd _ _) hv5_)
        · exact (hz_ 6 (by decide) (by decide)).trans (congrArg (upd _ _) hv6_)
        · exact (hz_ 7 (by decide) (by decide)).trans (congrArg (upd _ _) hv7_)
        · exact (hz_ 8 (by decide) (by decide)).trans (congrArg (upd _ _) hv8_)
        · exact (hz_ 9 (by decide) (by decide)).trans (congrArg (upd _ _) hv9_)
        · exact (hz_ 10 (by decide) (by decide)).trans (congrArg (upd _ _) hv10_)
      exact hnext_25 (v_23 + 1, d_154) _ _ ls (xup c_27) ⟨hP, hD, hS, hgd_154, hPod_154, hfd_154, hId_154, hL0d_154, hK0d_154, ⟨zCr.step hex_26.1 hex_26.2 c_27 hf_, (show 0 ≤ (v_23 + 1 : Int32).toInt from by omega)⟩, lv_sub hl [0, 1] rfl⟩
  · refine lv_aload_n hx hb dX9_back_12 rfl (lv_at hl 0 rfl) ?_
    refine lv_iconst (v := 2) hx hb dX9_back_13 (by decide) ?_
    refine yVwi (As := [.int 2]) (rest := []) C0 (g_X9_no l G S d_1 h0 2 hSh hPod_1 hm_h0 hk_h0 (by decide +kernel)) ok_X9_no (mW177 : Cond.methodLink RX9 168 yX9_no ∈ wsT) ⟨Nat.le_of_ble_eq_true rfl, Nat.le_of_ble_eq_true rfl⟩ hP hD hS hA hK hN hm_h0 hk_h0 (by decide) rfl rfl rfl hl.1 rfl (Nat.le_of_ble_eq_true rfl) ⟨Nat.le_of_ble_eq_true rfl, Nat.le_of_ble_eq_true rfl⟩ dX9_back_14 (fun r_158 d_159 H locs hr_158 hP hD hS => ?_)
    obtain ⟨hgad_159, hpad_159, hfad_159, hxd_159⟩ := hr_158
    have hfd_159 : yK [0, 1, 2, 3, 38] d d_159 h0 := yK.tr hfd_1 hfad_159 (by decide)
    have hE0d_159 : (d_159.1 h0 0).toInt = (d_1.1 h0 0).toInt := congrArg Int32.toInt (hfad_159 0 (by decide))
    have hE1d_159 : (d_159.1 h0 1).toInt = (d_1.1 h0 1).toInt := congrArg Int32.toInt (hfad_159 1 (by decide))
    have hE2d_159 : (d_159.1 h0 2).toInt = (d_1.1 h0 2).toInt := congrArg Int32.toInt (hfad_159 2 (by decide))
    have hE3d_159 : (d_159.1 h0 3).toInt = (d_1.1 h0 3).toInt := congrArg Int32.toInt (hfad_159 3 (by decide))
    have hE63d_159 : (d_159.1 h0 63).toInt = (d_1.1 h0 63).toInt := congrArg Int32.toInt (hfad_159 63 (by decide))
    have hId_159 : yMI S d_159 h0 := yMI.ag hId_1 hSh hm_h0 hk_h0 hgad_159 hfad_159 (by decide) (by decide)
    have hgd_159 : yAg S [9, 34, 35, 36, 37, 38, 39, 40, 41, 42, 43, 44, 45, 46, 47, 48, 49, 69] d d_159 := yAg.tr hgd_1 hgad_159 (by first | decide | exact fun _ h => h)
    have hPod_159 : yPo S d_159 := hpad_159 hPod_1
    refine lv_pop hx hb dX9_back_17 rfl ?_
    refine lv_iconst (v := 0) hx hb dX9_back_18 (by decide) ?_
    exact W.zret (v := 0) (ty := .boolean) hx hb hr rfl (fun t ht hW => ⟨⟨0, d_159, rfl, ⟨hgd_159, (fun _ => hPod_159), hfd_159, ⟨hId_159, Or.inl ⟨⟨(ez_2.trans (show d_1.1 h0 20 = d.1 h0 20 by rw [ed_1]; exact yi_at (by decide))).symm.trans c_3, (((hfad_159 0 (by decide))).trans (show d_1.1 h0 0 = d.1 h0 0 by rw [ed_1]; exact yi_at (by decide))), rfl⟩, (((hfad_159 2 (by decide))).trans (show d_1.1 h0 2 = d.1 h0 2 by rw [ed_1]; exact yi_at (by decide))), (((hfad_159 3 (by decide))).trans (show d_1.1 h0 3 = d.1 h0 3 by rw [ed_1]; exact yi_at (by decide))), ⟨(zPf.tr (zPf.eq (hsd_1 _ (by rw [(ySh.f9_11 hSh h0 hm_h0 hk_h0).2]; decide)).2.2.2.2) (zPf.eq (hgad_159 _ (by rw [(ySh.f9_11 hSh h0 hm_h0 hk_h0).2]; decide)).2.2.2.2)), (zTr.ag (zTr.ag zTr.rf hSh hm_h0 hk_h0 hsd_1 (by decide)) hSh hm_h0 hk_h0 hgad_159 (by decide))⟩⟩⟩⟩, by rw [ht]; exact hP, hD⟩, hS.F ht⟩) hS.2.2 dX9_back_19
