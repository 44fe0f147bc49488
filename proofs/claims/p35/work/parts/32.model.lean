theorem dX9_image_0 : decode cX9_image 0 = .ok (.aload_n 0, 1) := by decide +kernel
theorem dX9_image_1 : decode cX9_image 1 = .ok (.iconst 0, 1) := by decide +kernel
theorem dX9_image_2 : decode cX9_image 2 = .ok (.putfield 147, 3) := by decide +kernel
theorem dX9_image_5 : decode cX9_image 5 = .ok (.aload_n 0, 1) := by decide +kernel
theorem dX9_image_6 : decode cX9_image 6 = .ok (.iconst 1, 1) := by decide +kernel
theorem dX9_image_7 : decode cX9_image 7 = .ok (.putfield 367, 3) := by decide +kernel
theorem dX9_image_10 : decode cX9_image 10 = .ok (.aload_n 0, 1) := by decide +kernel
theorem dX9_image_11 : decode cX9_image 11 = .ok (.getfield 66, 3) := by decide +kernel
theorem dX9_image_14 : decode cX9_image 14 = .ok (.iconst 0, 1) := by decide +kernel
theorem dX9_image_15 : decode cX9_image 15 = .ok (.aload_n 0, 1) := by decide +kernel
theorem dX9_image_16 : decode cX9_image 16 = .ok (.getfield 150, 3) := by decide +kernel
theorem dX9_image_19 : decode cX9_image 19 = .ok (.iastore, 1) := by decide +kernel
theorem dX9_image_20 : decode cX9_image 20 = .ok (.aload_n 0, 1) := by decide +kernel
theorem dX9_image_21 : decode cX9_image 21 = .ok (.getfield 66, 3) := by decide +kernel
theorem dX9_image_24 : decode cX9_image 24 = .ok (.iconst 1, 1) := by decide +kernel
theorem dX9_image_25 : decode cX9_image 25 = .ok (.aload_n 0, 1) := by decide +kernel
theorem dX9_image_26 : decode cX9_image 26 = .ok (.getfield 180, 3) := by decide +kernel
theorem dX9_image_29 : decode cX9_image 29 = .ok (.iastore, 1) := by decide +kernel
theorem dX9_image_30 : decode cX9_image 30 = .ok (.aload_n 0, 1) := by decide +kernel
theorem dX9_image_31 : decode cX9_image 31 = .ok (.getfield 66, 3) := by decide +kernel
theorem dX9_image_34 : decode cX9_image 34 = .ok (.iconst 2, 1) := by decide +kernel
theorem dX9_image_35 : decode cX9_image 35 = .ok (.aload_n 0, 1) := by decide +kernel
theorem dX9_image_36 : decode cX9_image 36 = .ok (.getfield 326, 3) := by decide +kernel
theorem dX9_image_39 : decode cX9_image 39 = .ok (.iastore, 1) := by decide +kernel
theorem dX9_image_40 : decode cX9_image 40 = .ok (.aload_n 0, 1) := by decide +kernel
theorem dX9_image_41 : decode cX9_image 41 = .ok (.getfield 66, 3) := by decide +kernel
theorem dX9_image_44 : decode cX9_image 44 = .ok (.iconst 3, 1) := by decide +kernel
theorem dX9_image_45 : decode cX9_image 45 = .ok (.aload_n 0, 1) := by decide +kernel
theorem dX9_image_46 : decode cX9_image 46 = .ok (.getfield 7, 3) := by decide +kernel
theorem dX9_image_49 : decode cX9_image 49 = .ok (.iastore, 1) := by decide +kernel
theorem dX9_image_50 : decode cX9_image 50 = .ok (.iconst 0, 1) := by decide +kernel
theorem dX9_image_51 : decode cX9_image 51 = .ok (.istore_n 1, 1) := by decide +kernel
theorem dX9_image_52 : decode cX9_image 52 = .ok (.iload_n 1, 1) := by decide +kernel
theorem dX9_image_53 : decode cX9_image 53 = .ok (.sipush 2400, 3) := by decide +kernel
theorem dX9_image_56 : decode cX9_image 56 = .ok (.if_icmp .ge 93, 3) := by decide +kernel
theorem dX9_image_59 : decode cX9_image 59 = .ok (.aload_n 0, 1) := by decide +kernel
theorem dX9_image_60 : decode cX9_image 60 = .ok (.getfield 69, 3) := by decide +kernel
theorem dX9_image_63 : decode cX9_image 63 = .ok (.iload_n 1, 1) := by decide +kernel
theorem dX9_image_64 : decode cX9_image 64 = .ok (.aload_n 0, 1) := by decide +kernel
theorem dX9_image_65 : decode cX9_image 65 = .ok (.getfield 13, 3) := by decide +kernel
theorem dX9_image_68 : decode cX9_image 68 = .ok (.iload_n 1, 1) := by decide +kernel
theorem dX9_image_69 : decode cX9_image 69 = .ok (.baload, 1) := by decide +kernel
theorem dX9_image_70 : decode cX9_image 70 = .ok (.bastore, 1) := by decide +kernel
theorem dX9_image_71 : decode cX9_image 71 = .ok (.aload_n 0, 1) := by decide +kernel
theorem dX9_image_72 : decode cX9_image 72 = .ok (.getfield 72, 3) := by decide +kernel
theorem dX9_image_75 : decode cX9_image 75 = .ok (.iload_n 1, 1) := by decide +kernel
theorem dX9_image_76 : decode cX9_image 76 = .ok (.aload_n 0, 1) := by decide +kernel
theorem dX9_image_77 : decode cX9_image 77 = .ok (.getfield 17, 3) := by decide +kernel
theorem dX9_image_80 : decode cX9_image 80 = .ok (.iload_n 1, 1) := by decide +kernel
theorem dX9_image_81 : decode cX9_image 81 = .ok (.baload, 1) := by decide +kernel
theorem dX9_image_82 : decode cX9_image 82 = .ok (.bastore, 1) := by decide +kernel
theorem dX9_image_83 : decode cX9_image 83 = .ok (.aload_n 0, 1) := by decide +kernel
theorem dX9_image_84 : decode cX9_image 84 = .ok (.getfield 75, 3) := by decide +kernel
theorem dX9_image_87 : decode cX9_image 87 = .ok (.iload_n 1, 1) := by decide +kernel
theorem dX9_image_88 : decode cX9_image 88 = .ok (.aload_n 0, 1) := by decide +kernel
theorem dX9_image_89 : decode cX9_image 89 = .ok (.getfield 20, 3) := by decide +kernel
theorem dX9_image_92 : decode cX9_image 92 = .ok (.iload_n 1, 1) := by decide +kernel
theorem dX9_image_93 : decode cX9_image 93 = .ok (.baload, 1) := by decide +kernel
theorem dX9_image_94 : decode cX9_image 94 = .ok (.bastore, 1) := by decide +kernel
theorem dX9_image_95 : decode cX9_image 95 = .ok (.aload_n 0, 1) := by decide +kernel
theorem dX9_image_96 : decode cX9_image 96 = .ok (.getfield 78, 3) := by decide +kernel
theorem dX9_image_99 : decode cX9_image 99 = .ok (.iload_n 1, 1) := by decide +kernel
theorem dX9_image_100 : decode cX9_image 100 = .ok (.aload_n 0, 1) := by decide +kernel
theorem dX9_image_101 : decode cX9_image 101 = .ok (.getfield 23, 3) := by decide +kernel
theorem dX9_image_104 : decode cX9_image 104 = .ok (.iload_n 1, 1) := by decide +kernel
theorem dX9_image_105 : decode cX9_image 105 = .ok (.iaload, 1) := by decide +kernel
theorem dX9_image_106 : decode cX9_image 106 = .ok (.iastore, 1) := by decide +kernel
theorem dX9_image_107 : decode cX9_image 107 = .ok (.aload_n 0, 1) := by decide +kernel
theorem dX9_image_108 : decode cX9_image 108 = .ok (.getfield 81, 3) := by decide +kernel
theorem dX9_image_111 : decode cX9_image 111 = .ok (.iload_n 1, 1) := by decide +kernel
theorem dX9_image_112 : decode cX9_image 112 = .ok (.aload_n 0, 1) := by decide +kernel
theorem dX9_image_113 : decode cX9_image 113 = .ok (.getfield 27, 3) := by decide +kernel
theorem dX9_image_116 : decode cX9_image 116 = .ok (.iload_n 1, 1) := by decide +kernel
theorem dX9_image_117 : decode cX9_image 117 = .ok (.iaload, 1) := by decide +kernel
theorem dX9_image_118 : decode cX9_image 118 = .ok (.iastore, 1) := by decide +kernel
theorem dX9_image_119 : decode cX9_image 119 = .ok (.aload_n 0, 1) := by decide +kernel
theorem dX9_image_120 : decode cX9_image 120 = .ok (.getfield 84, 3) := by decide +kernel
theorem dX9_image_123 : decode cX9_image 123 = .ok (.iload_n 1, 1) := by decide +kernel
theorem dX9_image_124 : decode cX9_image 124 = .ok (.aload_n 0, 1) := by decide +kernel
theorem dX9_image_125 : decode cX9_image 125 = .ok (.getfield 30, 3) := by decide +kernel
theorem dX9_image_128 : decode cX9_image 128 = .ok (.iload_n 1, 1) := by decide +kernel
theorem dX9_image_129 : decode cX9_image 129 = .ok (.baload, 1) := by decide +kernel
theorem dX9_image_130 : decode cX9_image 130 = .ok (.bastore, 1) := by decide +kernel
theorem dX9_image_131 : decode cX9_image 131 = .ok (.aload_n 0, 1) := by decide +kernel
theorem dX9_image_132 : decode cX9_image 132 = .ok (.getfield 87, 3) := by decide +kernel
theorem dX9_image_135 : decode cX9_image 135 = .ok (.iload_n 1, 1) := by decide +kernel
theorem dX9_image_136 : decode cX9_image 136 = .ok (.aload_n 0, 1) := by decide +kernel
theorem dX9_image_137 : decode cX9_image 137 = .ok (.getfield 33, 3) := by decide +kernel
theorem dX9_image_140 : decode cX9_image 140 = .ok (.iload_n 1, 1) := by decide +kernel
theorem dX9_image_141 : decode cX9_image 141 = .ok (.iaload, 1) := by decide +kernel
theorem dX9_image_142 : decode cX9_image 142 = .ok (.iastore, 1) := by decide +kernel
theorem dX9_image_143 : decode cX9_image 143 = .ok (.iinc 1 1, 3) := by decide +kernel
theorem dX9_image_146 : decode cX9_image 146 = .ok (.goto (-94), 3) := by decide +kernel
theorem dX9_image_149 : decode cX9_image 149 = .ok (.iconst 0, 1) := by decide +kernel
theorem dX9_image_150 : decode cX9_image 150 = .ok (.istore_n 1, 1) := by decide +kernel
theorem dX9_image_151 : decode cX9_image 151 = .ok (.iload_n 1, 1) := by decide +kernel
theorem dX9_image_152 : decode cX9_image 152 = .ok (.bipush 96, 2) := by decide +kernel
theorem dX9_image_154 : decode cX9_image 154 = .ok (.if_icmp .ge 21, 3) := by decide +kernel
theorem dX9_image_157 : decode cX9_image 157 = .ok (.aload_n 0, 1) := by decide +kernel
theorem dX9_image_158 : decode cX9_image 158 = .ok (.getfield 90, 3) := by decide +kernel
theorem dX9_image_161 : decode cX9_image 161 = .ok (.iload_n 1, 1) := by decide +kernel
theorem dX9_image_162 : decode cX9_image 162 = .ok (.aload_n 0, 1) := by decide +kernel
theorem dX9_image_163 : decode cX9_image 163 = .ok (.getfield 36, 3) := by decide +kernel
theorem dX9_image_166 : decode cX9_image 166 = .ok (.iload_n 1, 1) := by decide +kernel
theorem dX9_image_167 : decode cX9_image 167 = .ok (.laload, 1) := by decide +kernel
theorem dX9_image_168 : decode cX9_image 168 = .ok (.lastore, 1) := by decide +kernel
theorem dX9_image_169 : decode cX9_image 169 = .ok (.iinc 1 1, 3) := by decide +kernel
theorem dX9_image_172 : decode cX9_image 172 = .ok (.goto (-21), 3) := by decide +kernel
theorem dX9_image_175 : decode cX9_image 175 = .ok (.iconst 0, 1) := by decide +kernel
theorem dX9_image_176 : decode cX9_image 176 = .ok (.istore_n 1, 1) := by decide +kernel
theorem dX9_image_177 : decode cX9_image 177 = .ok (.iload_n 1, 1) := by decide +kernel
theorem dX9_image_178 : decode cX9_image 178 = .ok (.sipush 720, 3) := by decide +kernel
theorem dX9_image_181 : decode cX9_image 181 = .ok (.if_icmp .ge 45, 3) := by decide +kernel
theorem dX9_image_184 : decode cX9_image 184 = .ok (.aload_n 0, 1) := by decide +kernel
theorem dX9_image_185 : decode cX9_image 185 = .ok (.getfield 93, 3) := by decide +kernel
theorem dX9_image_188 : decode cX9_image 188 = .ok (.iload_n 1, 1) := by decide +kernel
theorem dX9_image_189 : decode cX9_image 189 = .ok (.aload_n 0, 1) := by decide +kernel
theorem dX9_image_190 : decode cX9_image 190 = .ok (.getfield 40, 3) := by decide +kernel
theorem dX9_image_193 : decode cX9_image 193 = .ok (.iload_n 1, 1) := by decide +kernel
theorem dX9_image_194 : decode cX9_image 194 = .ok (.saload, 1) := by decide +kernel
theorem dX9_image_195 : decode cX9_image 195 = .ok (.sastore, 1) := by decide +kernel
theorem dX9_image_196 : decode cX9_image 196 = .ok (.aload_n 0, 1) := by decide +kernel
theorem dX9_image_197 : decode cX9_image 197 = .ok (.getfield 96, 3) := by decide +kernel
theorem dX9_image_200 : decode cX9_image 200 = .ok (.iload_n 1, 1) := by decide +kernel
theorem dX9_image_201 : decode cX9_image 201 = .ok (.aload_n 0, 1) := by decide +kernel
theorem dX9_image_202 : decode cX9_image 202 = .ok (.getfield 44, 3) := by decide +kernel
theorem dX9_image_205 : decode cX9_image 205 = .ok (.iload_n 1, 1) := by decide +kernel
theorem dX9_image_206 : decode cX9_image 206 = .ok (.baload, 1) := by decide +kernel
theorem dX9_image_207 : decode cX9_image 207 = .ok (.bastore, 1) := by decide +kernel
theorem dX9_image_208 : decode cX9_image 208 = .ok (.aload_n 0, 1) := by decide +kernel
theorem dX9_image_209 : decode cX9_image 209 = .ok (.getfield 99, 3) := by decide +kernel
theorem dX9_image_212 : decode cX9_image 212 = .ok (.iload_n 1, 1) := by decide +kernel
theorem dX9_image_213 : decode cX9_image 213 = .ok (.aload_n 0, 1) := by decide +kernel
theorem dX9_image_214 : decode cX9_image 214 = .ok (.getfield 48, 3) := by decide +kernel
theorem dX9_image_217 : decode cX9_image 217 = .ok (.iload_n 1, 1) := by decide +kernel
theorem dX9_image_218 : decode cX9_image 218 = .ok (.baload, 1) := by decide +kernel
theorem dX9_image_219 : decode cX9_image 219 = .ok (.bastore, 1) := by decide +kernel
theorem dX9_image_220 : decode cX9_image 220 = .ok (.iinc 1 1, 3) := by decide +kernel
theorem dX9_image_223 : decode cX9_image 223 = .ok (.goto (-46), 3) := by decide +kernel
theorem dX9_image_226 : decode cX9_image 226 = .ok (.iconst 0, 1) := by decide +kernel
theorem dX9_image_227 : decode cX9_image 227 = .ok (.istore_n 1, 1) := by decide +kernel
theorem dX9_image_228 : decode cX9_image 228 = .ok (.iload_n 1, 1) := by decide +kernel
theorem dX9_image_229 : decode cX9_image 229 = .ok (.sipush 5000, 3) := by decide +kernel
theorem dX9_image_232 : decode cX9_image 232 = .ok (.if_icmp .ge 45, 3) := by decide +kernel
theorem dX9_image_235 : decode cX9_image 235 = .ok (.aload_n 0, 1) := by decide +kernel
theorem dX9_image_236 : decode cX9_image 236 = .ok (.getfield 102, 3) := by decide +kernel
theorem dX9_image_239 : decode cX9_image 239 = .ok (.iload_n 1, 1) := by decide +kernel
theorem dX9_image_240 : decode cX9_image 240 = .ok (.aload_n 0, 1) := by decide +kernel
theorem dX9_image_241 : decode cX9_image 241 = .ok (.getfield 51, 3) := by decide +kernel
theorem dX9_image_244 : decode cX9_image 244 = .ok (.iload_n 1, 1) := by decide +kernel
theorem dX9_image_245 : decode cX9_image 245 = .ok (.baload, 1) := by decide +kernel
theorem dX9_image_246 : decode cX9_image 246 = .ok (.bastore, 1) := by decide +kernel
theorem dX9_image_247 : decode cX9_image 247 = .ok (.aload_n 0, 1) := by decide +kernel
theorem dX9_image_248 : decode cX9_image 248 = .ok (.getfield 105, 3) := by decide +kernel
theorem dX9_image_251 : decode cX9_image 251 = .ok (.iload_n 1, 1) := by decide +kernel
theorem dX9_image_252 : decode cX9_image 252 = .ok (.aload_n 0, 1) := by decide +kernel
theorem dX9_image_253 : decode cX9_image 253 = .ok (.getfield 54, 3) := by decide +kernel
theorem dX9_image_256 : decode cX9_image 256 = .ok (.iload_n 1, 1) := by decide +kernel
theorem dX9_image_257 : decode cX9_image 257 = .ok (.iaload, 1) := by decide +kernel
theorem dX9_image_258 : decode cX9_image 258 = .ok (.iastore, 1) := by decide +kernel
theorem dX9_image_259 : decode cX9_image 259 = .ok (.aload_n 0, 1) := by decide +kernel
theorem dX9_image_260 : decode cX9_image 260 = .ok (.getfield 108, 3) := by decide +kernel
theorem dX9_image_263 : decode cX9_image 263 = .ok (.iload_n 1, 1) := by decide +kernel
theorem dX9_image_264 : decode cX9_image 264 = .ok (.aload_n 0, 1) := by decide +kernel
theorem dX9_image_265 : decode cX9_image 265 = .ok (.getfield 57, 3) := by decide +kernel
theorem dX9_image_268 : decode cX9_image 268 = .ok (.iload_n 1, 1) := by decide +kernel
theorem dX9_image_269 : decode cX9_image 269 = .ok (.baload, 1) := by decide +kernel
theorem dX9_image_270 : decode cX9_image 270 = .ok (.bastore, 1) := by decide +kernel
theorem dX9_image_271 : decode cX9_image 271 = .ok (.iinc 1 1, 3) := by decide +kernel
theorem dX9_image_274 : decode cX9_image 274 = .ok (.goto (-46), 3) := by decide +kernel
theorem dX9_image_277 : decode cX9_image 277 = .ok (.iconst 0, 1) := by decide +kernel
theorem dX9_image_278 : decode cX9_image 278 = .ok (.istore_n 1, 1) := by decide +kernel
theorem dX9_image_279 : decode cX9_image 279 = .ok (.iload_n 1, 1) := by decide +kernel
theorem dX9_image_280 : decode cX9_image 280 = .ok (.sipush 500, 3) := by decide +kernel
theorem dX9_image_283 : decode cX9_image 283 = .ok (.if_icmp .ge 33, 3) := by decide +kernel
theorem dX9_image_286 : decode cX9_image 286 = .ok (.aload_n 0, 1) := by decide +kernel
theorem dX9_image_287 : decode cX9_image 287 = .ok (.getfield 111, 3) := by decide +kernel
theorem dX9_image_290 : decode cX9_image 290 = .ok (.iload_n 1, 1) := by decide +kernel
theorem dX9_image_291 : decode cX9_image 291 = .ok (.aload_n 0, 1) := by decide +kernel
theorem dX9_image_292 : decode cX9_image 292 = .ok (.getfield 60, 3) := by decide +kernel
theorem dX9_image_295 : decode cX9_image 295 = .ok (.iload_n 1, 1) := by decide +kernel
theorem dX9_image_296 : decode cX9_image 296 = .ok (.iaload, 1) := by decide +kernel
theorem dX9_image_297 : decode cX9_image 297 = .ok (.iastore, 1) := by decide +kernel
theorem dX9_image_298 : decode cX9_image 298 = .ok (.aload_n 0, 1) := by decide +kernel
theorem dX9_image_299 : decode cX9_image 299 = .ok (.getfield 114, 3) := by decide +kernel
theorem dX9_image_302 : decode cX9_image 302 = .ok (.iload_n 1, 1) := by decide +kernel
theorem dX9_image_303 : decode cX9_image 303 = .ok (.aload_n 0, 1) := by decide +kernel
theorem dX9_image_304 : decode cX9_image 304 = .ok (.getfield 63, 3) := by decide +kernel
theorem dX9_image_307 : decode cX9_image 307 = .ok (.iload_n 1, 1) := by decide +kernel
theorem dX9_image_308 : decode cX9_image 308 = .ok (.baload, 1) := by decide +kernel
theorem dX9_image_309 : decode cX9_image 309 = .ok (.bastore, 1) := by decide +kernel
theorem dX9_image_310 : decode cX9_image 310 = .ok (.iinc 1 1, 3) := by decide +kernel
theorem dX9_image_313 : decode cX9_image 313 = .ok (.goto (-34), 3) := by decide +kernel
theorem dX9_image_316 : decode cX9_image 316 = .ok (.iconst 1, 1) := by decide +kernel
theorem dX9_image_317 : decode cX9_image 317 = .ok (.ireturn, 1) := by decide +kernel
set_option maxHeartbeats 4000000 in
set_option maxRecDepth 100000 in
theorem g_X9_image (l : Launch) (G : xG) (S : yS) (d : yD) (h0 : Nat) (hSh : ySh S) (hPo : yPo S d) (hm_h0 : h0 ∈ S.1) (hk_h0 : S.2.1 h0 = 9) (hI : yMI S d h0) : xWi l G yX9_image cX9_image 2 (some .boolean) 0 0 0 0 [.ref h0] (yW G S d) (fun r (u : yD) => yAg S [9, 51, 52, 53, 54, 55, 56, 57, 58, 59, 60, 61, 62, 63, 64, 65, 66, 67] d u ∧ (yPo S d → yPo S u) ∧ yK [20, 38] d u h0 ∧ (yMI S u h0 ∧ u.1 h0 20 = 1 ∧ u.2.2.2.1 (S.2.2.1 h0 21) 0 = d.1 h0 0 ∧ u.1 h0 0 = d.1 h0 0 ∧ r = 1)) (fun u => yW G S u) := by
  intro sz
  refine xstart (by decide) (Nat.le_of_ble_eq_true rfl) (fun p e s m args below meth c ls C0 hr hlocks hin hsz hP hK hD hN hl => ?_)
  obtain ⟨hx, hb, hml, hown, htl⟩ := id C0
  subst hsz
  have hD := hD.self (sz := s.heap.size)
  generalize hAe : va_A (yW G S d) s.heap.size = A at hD ⊢
  have hA : ∀ q : Nat, s.heap.size ≤ q → A q := fun q h => by rw [← hAe]; exact Or.inr h
  have hS : va_S A s.heap s.heap [] := va_S.rf
  have hg0 : yAg S [9, 51, 52, 53, 54, 55, 56, 57, 58, 59, 60, 61, 62, 63, 64, 65, 66, 67] d d := yAg.rf
  have hl : lv_has ls 2 [(0, .ref h0)] := hl
  refine lv_aload_n hx hb dX9_image_0 rfl (lv_at hl 0 rfl) ?_
  refine lv_iconst (v := 0) hx hb dX9_image_1 (by decide) ?_
  refine yputI (ci := 9) (k := 38) (ty := .int) (C := RX9) (T := TX9) (N := 67) C0 hK hP hD hS hm_h0 hk_h0 (by decide) rfl inlX9 tyX9 tyX9_ok nmX9 (by decide) mW175 (fun _ h9 => h9) rfl (by decide +kernel) rfl rfl (Nat.le_of_ble_eq_true rfl) ysi_9_38 dX9_image_2 (fun H locs hP hD hS => ?_)
  obtain ⟨d_1, ed_1⟩ : ∃ z : yD, z = yi d h0 38 0 := ⟨_, rfl⟩
  rw [← ed_1] at hP hD
  have hgd_1 : yAg S [9, 51, 52, 53, 54, 55, 56, 57, 58, 59, 60, 61, 62, 63, 64, 65, 66, 67] d d_1 := by rw [ed_1]; exact yAg.i hg0 (by rw [hk_h0]; decide)
  have hsd_1 : yAg S [9] d d_1 := by rw [ed_1]; exact yAg.i yAg.rf (by rw [hk_h0]; decide)
  have hPod_1 : yPo S d_1 := by rw [ed_1]; exact yPo.i hPo hk_h0 (Or.inl rfl)
  have hfd_1 : yK [20, 38] d d_1 h0 := by rw [ed_1]; exact yK.i yK.rf (by decide)
  have hId_1 : yMI S d_1 h0 := yMI.ag hI hSh hm_h0 hk_h0 (show yAg S [9] d d_1 from by rw [ed_1]; exact yAg.i yAg.rf (by rw [hk_h0]; decide)) (show yK [38] d d_1 h0 from by rw [ed_1]; exact yK.i yK.rf (by decide)) (by decide) (by decide)
  have hE0d_1 : (d_1.1 h0 0).toInt = (d.1 h0 0).toInt := congrArg Int32.toInt ((show yK [38] d d_1 h0 from by rw [ed_1]; exact yK.i yK.rf (by decide)) 0 (by decide))
  have hE1d_1 : (d_1.1 h0 1).toInt = (d.1 h0 1).toInt := congrArg Int32.toInt ((show yK [38] d d_1 h0 from by rw [ed_1]; exact yK.i yK.rf (by decide)) 1 (by decide))
  have hE2d_1 : (d_1.1 h0 2).toInt = (d.1 h0 2).toInt := congrArg Int32.toInt ((show yK [38] d d_1 h0 from by rw [ed_1]; exact yK.i yK.rf (by decide)) 2 (by decide))
  have hE3d_1 : (d_1.1 h0 3).toInt = (d.1 h0 3).toInt := congrArg Int32.toInt ((show yK [38] d d_1 h0 from by rw [ed_1]; exact yK.i yK.rf (by decide)) 3 (by decide))
  have hE63d_1 : (d_1.1 h0 63).toInt = (d.1 h0 63).toInt := congrArg Int32.toInt ((show yK [38] d d_1 h0 from by rw [ed_1]; exact yK.i yK.rf (by decide)) 63 (by decide))
  refine lv_aload_n hx hb dX9_image_5 rfl (lv_at hl 0 rfl) ?_
  refine lv_iconst (v := 1) hx hb dX9_image_6 (by decide) ?_
  refine yputI (ci := 9) (k := 20) (ty := .boolean) (C := RX9) (T := TX9) (N := 67) C0 hK hP hD hS hm_h0 hk_h0 (by decide) rfl inlX9 tyX9 tyX9_ok nmX9 (by decide) mW1101 (fun _ h9 => h9) rfl (by decide +kernel) rfl rfl (Nat.le_of_ble_eq_true rfl) ysi_9_20 dX9_image_7 (fun H locs hP hD hS => ?_)
  obtain ⟨d_2, ed_2⟩ : ∃ z : yD, z = yi d_1 h0 20 1 := ⟨_, rfl⟩
  rw [← ed_2] at hP hD
  have hgd_2 : yAg S [9, 51, 52, 53, 54, 55, 56, 57, 58, 59, 60, 61, 62, 63, 64, 65, 66, 67] d d_2 := by rw [ed_2]; exact yAg.i hgd_1 (by rw [hk_h0]; decide)
  have hsd_2 : yAg S [9] d_1 d_2 := by rw [ed_2]; exact yAg.i yAg.rf (by rw [hk_h0]; decide)
  have hPod_2 : yPo S d_2 := by rw [ed_2]; exact yPo.i hPod_1 hk_h0 (Or.inr (Or.inr rfl))
  have hfd_2 : yK [20, 38] d d_2 h0 := by rw [ed_2]; exact yK.i hfd_1 (by decide)
  have hId_2 : yMI S d_2 h0 := yMI.ag hId_1 hSh hm_h0 hk_h0 (show yAg S [9] d_1 d_2 from by rw [ed_2]; exact yAg.i yAg.rf (by rw [hk_h0]; decide)) (show yK [20] d_1 d_2 h0 from by rw [ed_2]; exact yK.i yK.rf (by decide)) (by decide) (by decide)
  have hE0d_2 : (d_2.1 h0 0).toInt = (d_1.1 h0 0).toInt := congrArg Int32.toInt ((show yK [20] d_1 d_2 h0 from by rw [ed_2]; exact yK.i yK.rf (by decide)) 0 (by decide))
  have hE1d_2 : (d_2.1 h0 1).toInt = (d_1.1 h0 1).toInt := congrArg Int32.toInt ((show yK [20] d_1 d_2 h0 from by rw [ed_2]; exact yK.i yK.rf (by decide)) 1 (by decide))
  have hE2d_2 : (d_2.1 h0 2).toInt = (d_1.1 h0 2).toInt := congrArg Int32.toInt ((show yK [20] d_1 d_2 h0 from by rw [ed_2]; exact yK.i yK.rf (by decide)) 2 (by decide))
  have hE3d_2 : (d_2.1 h0 3).toInt = (d_1.1 h0 3).toInt := congrArg Int32.toInt ((show yK [20] d_1 d_2 h0 from by rw [ed_2]; exact yK.i yK.rf (by decide)) 3 (by decide))
  have hE63d_2 : (d_2.1 h0 63).toInt = (d_1.1 h0 63).toInt := congrArg Int32.toInt ((show yK [20] d_1 d_2 h0 from by rw [ed_2]; exact yK.i yK.rf (by decide)) 63 (by decide))
  refine lv_aload_n hx hb dX9_image_10 rfl (lv_at hl 0 rfl) ?_
  refine yget (ci := 9) (k := 21) (v := .ref (S.2.2.1 h0 21)) (C := RX9) (T := TX9) (N := 67) C0 hK hP hm_h0 hk_h0 (by decide) rfl inlX9 (by decide) mW127 (fun _ h9 => h9) rfl dX9_image_11 ?_
  obtain ⟨hmy_3, hky_3⟩ := ySh.f9_21 hSh _ hm_h0 hk_h0
  refine lv_iconst (v := 0) hx hb dX9_image_14 (by decide) ?_
  refine lv_aload_n hx hb dX9_image_15 rfl (lv_at hl 0 rfl) ?_
  refine yget (ci := 9) (k := 0) (v := .int (d_2.1 h0 0)) (C := RX9) (T := TX9) (N := 67) C0 hK hP hm_h0 hk_h0 (by decide) rfl inlX9 (by decide) mW176 (fun _ h9 => h9) rfl dX9_image_16 ?_
  refine lv_topi (fun z_4 ez_4 => ?_)
  refine yast C0 hK hP hD hS hmy_3 hky_3 (by decide) rfl 0 rfl (by unfold vp_in; decide +kernel) dX9_image_19 (fun H locs hP hD hS => ?_)
  obtain ⟨d_5, ed_5⟩ : ∃ z : yD, z = ycs d_2 (S.2.2.1 h0 21) (upd (d_2.2.2.2.1 (S.2.2.1 h0 21)) (0 : Int32).toNatClampNeg z_4) := ⟨_, rfl⟩
  rw [← ed_5] at hP hD
  have hgd_5 : yAg S [9, 51, 52, 53, 54, 55, 56, 57, 58, 59, 60, 61, 62, 63, 64, 65, 66, 67] d d_5 := by rw [ed_5]; exact yAg.cs hgd_2 (by rw [hky_3]; decide)
  have hsd_5 : yAg S [51] d_2 d_5 := by rw [ed_5]; exact yAg.cs yAg.rf (by rw [hky_3]; decide)
  have hPod_5 : yPo S d_5 := by rw [ed_5]; exact hPod_2
  have hfd_5 : yK [20, 38] d d_5 h0 := yK.ag hfd_2 (show yAg S [51] d_2 d_5 from by rw [ed_5]; exact yAg.cs yAg.rf (by rw [hky_3]; decide)) (by rw [hk_h0]; decide)
  have hCC_6 := yMI.c hId_2
  have T_7 : (z_4 : Int32).toInt = (d_2.1 h0 0).toInt := by rw [ez_4]
  have hId_5 : yMI S d_5 h0 := by rw [ed_5]; exact yMI.w21 hId_2 hSh hm_h0 hk_h0 (yBk.up (yMI.kp_ hId_2) (fun _ => ⟨by omega, by omega⟩) (fun e => absurd e (by decide +kernel)) (fun e => absurd e (by decide +kernel)) (fun e => absurd e (by decide +kernel)))
  have hE0d_5 : (d_5.1 h0 0).toInt = (d_2.1 h0 0).toInt := congrArg Int32.toInt ((yK.ag (F := []) yK.rf (show yAg S [51] d_2 d_5 from by rw [ed_5]; exact yAg.cs yAg.rf (by rw [hky_3]; decide)) (by rw [hk_h0]; decide)) 0 (by decide))
  have hE1d_5 : (d_5.1 h0 1).toInt = (d_2.1 h0 1).toInt := congrArg Int32.toInt ((yK.ag (F := []) yK.rf (show yAg S [51] d_2 d_5 from by rw [ed_5]; exact yAg.cs yAg.rf (by rw [hky_3]; decide)) (by rw [hk_h0]; decide)) 1 (by decide))
  have hE2d_5 : (d_5.1 h0 2).toInt = (d_2.1 h0 2).toInt := congrArg Int32.toInt ((yK.ag (F := []) yK.rf (show yAg S [51] d_2 d_5 from by rw [ed_5]; exact yAg.cs yAg.rf (by rw [hky_3]; decide)) (by rw [hk_h0]; decide)) 2 (by decide))
  have hE3d_5 : (d_5.1 h0 3).toInt = (d_2.1 h0 3).toInt := congrArg Int32.toInt ((yK.ag (F := []) yK.rf (show yAg S [51] d_2 d_5 from by rw [ed_5]; exact yAg.cs yAg.rf (by rw [hky_3]; decide)) (by rw [hk_h0]; decide)) 3 (by decide))
  have hE63d_5 : (d_5.1 h0 63).toInt = (d_2.1 h0 63).toInt := congrArg Int32.toInt ((yK.ag (F := []) yK.rf (show yAg S [51] d_2 d_5 from by rw [ed_5]; exact yAg.cs yAg.rf (by rw [hky_3]; decide)) (by rw [hk_h0]; decide)) 63 (by decide))
  refine lv_aload_n hx hb dX9_image_20 rfl (lv_at hl 0 rfl) ?_
  refine yget (ci := 9) (k := 21) (v := .ref (S.2.2.1 h0 21)) (C := RX9) (T := TX9) (N := 67) C0 hK hP hm_h0 hk_h0 (by decide) rfl inlX9 (by decide) mW127 (fun _ h9 => h9) rfl dX9_image_21 ?_
  refine lv_iconst (v := 1) hx hb dX9_image_24 (by decide) ?_
  refine lv_aload_n hx hb dX9_image_25 rfl (lv_at hl 0 rfl) ?_
  refine yget (ci := 9) (k := 1) (v := .int (d_5.1 h0 1)) (C := RX9) (T := TX9) (N := 67) C0 hK hP hm_h0 hk_h0 (by decide) rfl inlX9 (by decide) mW364 (fun _ h9 => h9) rfl dX9_image_26 ?_
  refine lv_topi (fun z_8 ez_8 => ?_)
  refine yast C0 hK hP hD hS hmy_3 hky_3 (by decide) rfl 0 rfl (by unfold vp_in; decide +kernel) dX9_image_29 (fun H locs hP hD hS => ?_)
  obtain ⟨d_9, ed_9⟩ : ∃ z : yD, z = ycs d_5 (S.2.2.1 h0 21) (upd (d_5.2.2.2.1 (S.2.2.1 h0 21)) (1 : Int32).toNatClampNeg z_8) := ⟨_, rfl⟩
  rw [← ed_9] at hP hD
  have hgd_9 : yAg S [9, 51, 52, 53, 54, 55, 56, 57, 58, 59, 60, 61, 62, 63, 64, 65, 66, 67] d d_9 := by rw [ed_9]; exact yAg.cs hgd_5 (by rw [hky_3]; decide)
  have hsd_9 : yAg S [51] d_5 d_9 := by rw [ed_9]; exact yAg.cs yAg.rf (by rw [hky_3]; decide)
  have hPod_9 : yPo S d_9 := by rw [ed_9]; exact hPod_5
  have hfd_9 : yK [20, 38] d d_9 h0 := yK.ag hfd_5 (show yAg S [51] d_5 d_9 from by rw [ed_9]; exact yAg.cs yAg.rf (by rw [hky_3]; decide)) (by rw [hk_h0]; decide)
  have hCC_10 := yMI.c hId_5
  have T_11 : (z_8 : Int32).toInt = (d_5.1 h0 1).toInt := by rw [ez_8]
  have hId_9 : yMI S d_9 h0 := by rw [ed_9]; exact yMI.w21 hId_5 hSh hm_h0 hk_h0 (yBk.up (yMI.kp_ hId_5) (fun e => absurd e (by decide +kernel)) (fun _ => ⟨by omega, by omega⟩) (fun e => absurd e (by decide +kernel)) (fun e => absurd e (by decide +kernel)))
  have hE0d_9 : (d_9.1 h0 0).toInt = (d_5.1 h0 0).toInt := congrArg Int32.toInt ((yK.ag (F := []) yK.rf (show yAg S [51] d_5 d_9 from by rw [ed_9]; exact yAg.cs yAg.rf (by rw [hky_3]; decide)) (by rw [hk_h0]; decide)) 0 (by decide))
  have hE1d_9 : (d_9.1 h0 1).toInt = (d_5.1 h0 1).toInt := congrArg Int32.toInt ((yK.ag (F := []) yK.rf (show yAg S [51] d_5 d_9 from by rw [ed_9]; exact yAg.cs yAg.rf (by rw [hky_3]; decide)) (by rw [hk_h0]; decide)) 1 (by decide))
  have hE2d_9 : (d_9.1 h0 2).toInt = (d_5.1 h0 2).toInt := congrArg Int32.toInt ((yK.ag (F := []) yK.rf (show yAg S [51] d_5 d_9 from by rw [ed_9]; exact yAg.cs yAg.rf (by rw [hky_3]; decide)) (by rw [hk_h0]; decide)) 2 (by decide))
  have hE3d_9 : (d_9.1 h0 3).toInt = (d_5.1 h0 3).toInt := congrArg Int32.toInt ((yK.ag (F := []) yK.rf (show yAg S [51] d_5 d_9 from by rw [ed_9]; exact yAg.cs yAg.rf (by rw [hky_3]; decide)) (by rw [hk_h0]; decide)) 3 (by decide))
  have hE63d_9 : (d_9.1 h0 63).toInt = (d_5.1 h0 63).toInt := congrArg Int32.toInt ((yK.ag (F := []) yK.rf (show yAg S [51] d_5 d_9 from by rw [ed_9]; exact yAg.cs yAg.rf (by rw [hky_3]; decide)) (by rw [hk_h0]; decide)) 63 (by decide))
  refine lv_aload_n hx hb dX9_image_30 rfl (lv_at hl 0 rfl) ?_
  refine yget (ci := 9) (k := 21) (v := .ref (S.2.2.1 h0 21)) (C := RX9) (T := TX9) (N := 67) C0 hK hP hm_h0 hk_h0 (by decide) rfl inlX9 (by decide) mW127 (fun _ h9 => h9) rfl dX9_image_31 ?_
  refine lv_iconst (v := 2) hx hb dX9_image_34 (by decide) ?_
  refine lv_aload_n hx hb dX9_image_35 rfl (lv_at hl 0 rfl) ?_
  refine yget (ci := 9) (k := 2) (v := .int (d_9.1 h0 2)) (C := RX9) (T := TX9) (N := 67) C0 hK hP hm_h0 hk_h0 (by decide) rfl inlX9 (by decide) mW888 (fun _ h9 => h9) rfl dX9_image_36 ?_
  refine lv_topi (fun z_12 ez_12 => ?_)
  refine yast C0 hK hP hD hS hmy_3 hky_3 (by decide) rfl 0 rfl (by unfold vp_in; decide +kernel) dX9_image_39 (fun H locs hP hD hS => ?_)
  obtain ⟨d_13, ed_13⟩ : ∃ z : yD, z = ycs d_9 (S.2.2.1 h0 21) (upd (d_9.2.2.2.1 (S.2.2.1 h0 21)) (2 : Int32).toNatClampNeg z_12) := ⟨_, rfl⟩
  rw [← ed_13] at hP hD
  have hgd_13 : yAg S [9, 51, 52, 53, 54, 55, 56, 57, 58, 59, 60, 61, 62, 63, 64, 65, 66, 67] d d_13 := by rw [ed_13]; exact yAg.cs hgd_9 (by rw [hky_3]; decide)
  have hsd_13 : yAg S [51] d_9 d_13 := by rw [ed_13]; exact yAg.cs yAg.rf (by rw [hky_3]; decide)
  have hPod_13 : yPo S d_13 := by rw [ed_13]; exact hPod_9
  have hfd_13 : yK [20, 38] d d_13 h0 := yK.ag hfd_9 (show yAg S [51] d_9 d_13 from by rw [ed_13]; exact yAg.cs yAg.rf (by rw [hky_3]; decide)) (by rw [hk_h0]; decide)
  have hCC_14 := yMI.c hId_9
  have T_15 : (z_12 : Int32).toInt = (d_9.1 h0 2).toInt := by rw [ez_12]
  have hId_13 : yMI S d_13 h0 := by rw [ed_13]; exact yMI.w21 hId_9 hSh hm_h0 hk_h0 (yBk.up (yMI.kp_ hId_9) (fun e => absurd e (by decide +kernel)) (fun e => absurd e (by decide +kernel)) (fun _ => ⟨by omega, by omega⟩) (fun e => absurd e (by decide +kernel)))
  have hE0d_13 : (d_13.1 h0 0).toInt = (d_9.1 h0 0).toInt := congrArg Int32.toInt ((yK.ag (F := []) yK.rf (show yAg S [51] d_9 d_13 from by rw [ed_13]; exact yAg.cs yAg.rf (by rw [hky_3]; decide)) (by rw [hk_h0]; decide)) 0 (by decide))
  have hE1d_13 : (d_13.1 h0 1).toInt = (d_9.1 h0 1).toInt := congrArg Int32.toInt ((yK.ag (F := []) yK.rf (show yAg S [51] d_9 d_13 from by rw [ed_13]; exact yAg.cs yAg.rf (by rw [hky_3]; decide)) (by rw [hk_h0]; decide)) 1 (by decide))
  have hE2d_13 : (d_13.1 h0 2).toInt = (d_9.1 h0 2).toInt := congrArg Int32.toInt ((yK.ag (F := []) yK.rf (show yAg S [51] d_9 d_13 from by rw [ed_13]; exact yAg.cs yAg.rf (by rw [hky_3]; decide)) (by rw [hk_h0]; decide)) 2 (by decide))
  have hE3d_13 : (d_13.1 h0 3).toInt = (d_9.1 h0 3).toInt := congrArg Int32.toInt ((yK.ag (F := []) yK.rf (show yAg S [51] d_9 d_13 from by rw [ed_13]; exact yAg.cs yAg.rf (by rw [hky_3]; decide)) (by rw [hk_h0]; decide)) 3 (by decide))
  have hE63d_13 : (d_13.1 h0 63).toInt = (d_9.1 h0 63).toInt := congrArg Int32.toInt ((yK.ag (F := []) yK.rf (show yAg S [51] d_9 d_13 from by rw [ed_13]; exact yAg.cs yAg.rf (by rw [hky_3]; decide)) (by rw [hk_h0]; decide)) 63 (by decide))
  refine lv_aload_n hx hb dX9_image_40 rfl (lv_at hl 0 rfl) ?_
  refine yget (ci := 9) (k := 21) (v := .ref (S.2.2.1 h0 21)) (C := RX9) (T := TX9) (N := 67) C0 hK hP hm_h0 hk_h0 (by decide) rfl inlX9 (by decide) mW127 (fun _ h9 => h9) rfl dX9_image_41 ?_
  refine lv_iconst (v := 3) hx hb dX9_image_44 (by decide) ?_
  refine lv_aload_n hx hb dX9_image_45 rfl (lv_at hl 0 rfl) ?_
  refine yget (ci := 9) (k := 3) (v := .int (d_13.1 h0 3)) (C := RX9) (T := TX9) (N := 67) C0 hK hP hm_h0 hk_h0 (by decide) rfl inlX9 (by decide) mW106 (fun _ h9 => h9) rfl dX9_image_46 ?_
  refine lv_topi (fun z_16 ez_16 => ?_)
  refine yast C0 hK hP hD hS hmy_3 hky_3 (by decide) rfl 0 rfl (by unfold vp_in; decide +kernel) dX9_image_49 (fun H locs hP hD hS => ?_)
  obtain ⟨d_17, ed_17⟩ : ∃ z : yD, z = ycs d_13 (S.2.2.1 h0 21) (upd (d_13.2.2.2.1 (S.2.2.1 h0 21)) (3 : Int32).toNatClampNeg z_16) := ⟨_, rfl⟩
  rw [← ed_17] at hP hD
  have hgd_17 : yAg S [9, 51, 52, 53, 54, 55, 56, 57, 58, 59, 60, 61, 62, 63, 64, 65, 66, 67] d d_17 := by rw [ed_17]; exact yAg.cs hgd_13 (by rw [hky_3]; decide)
  have hsd_17 : yAg S [51] d_13 d_17 := by rw [ed_17]; exact yAg.cs yAg.rf (by rw [hky_3]; decide)
  have hPod_17 : yPo S d_17 := by rw [ed_17]; exact hPod_13
  have hfd_17 : yK [20, 38] d d_17 h0 := yK.ag hfd_13 (show yAg S [51] d_13 d_17 from by rw [ed_17]; exact yAg.cs yAg.rf (by rw [hky_3]; decide)) (by rw [hk_h0]; decide)
  have hCC_18 := yMI.c hId_13
  have T_19 : (z_16 : Int32).toInt = (d_13.1 h0 3).toInt := by rw [ez_16]
  have hId_17 : yMI S d_17 h0 := by rw [ed_17]; exact yMI.w21 hId_13 hSh hm_h0 hk_h0 (yBk.up (yMI.kp_ hId_13) (fun e => absurd e (by decide +kernel)) (fun e => absurd e (by decide +kernel)) (fun e => absurd e (by decide +kernel)) (fun _ => ⟨by omega, by omega⟩))
  have hE0d_17 : (d_17.1 h0 0).toInt = (d_13.1 h0 0).toInt := congrArg Int32.toInt ((yK.ag (F := []) yK.rf (show yAg S [51] d_13 d_17 from by rw [ed_17]; exact yAg.cs yAg.rf (by rw [hky_3]; decide)) (by rw [hk_h0]; decide)) 0 (by decide))
  have hE1d_17 : (d_17.1 h0 1).toInt = (d_13.1 h0 1).toInt := congrArg Int32.toInt ((yK.ag (F := []) yK.rf (show yAg S [51] d_13 d_17 from by rw [ed_17]; exact yAg.cs yAg.rf (by rw [hky_3]; decide)) (by rw [hk_h0]; decide)) 1 (by decide))
  have hE2d_17 : (d_17.1 h0 2).toInt = (d_13.1 h0 2).toInt := congrArg Int32.toInt ((yK.ag (F := []) yK.rf (show yAg S [51] d_13 d_17 from by rw [ed_17]; exact yAg.cs yAg.rf (by rw [hky_3]; decide)) (by rw [hk_h0]; decide)) 2 (by decide))
  have hE3d_17 : (d_17.1 h0 3).toInt = (d_13.1 h0 3).toInt := congrArg Int32.toInt ((yK.ag (F := []) yK.rf (show yAg S [51] d_13 d_17 from by rw [ed_17]; exact yAg.cs yAg.rf (by rw [hky_3]; decide)) (by rw [hk_h0]; decide)) 3 (by decide))
  have hE63d_17 : (d_17.1 h0 63).toInt = (d_13.1 h0 63).toInt := congrArg Int32.toInt ((yK.ag (F := []) yK.rf (show yAg S [51] d_13 d_17 from by rw [ed_17]; exact yAg.cs yAg.rf (by rw [hky_3]; decide)) (by rw [hk_h0]; decide)) 63 (by decide))
  refine lv_iconst (v := 0) hx hb dX9_image_50 (by decide) ?_
  refine lv_istore_n (lv' := [(1, .int 0), (0, .ref h0)]) hx hb dX9_image_51 rfl hl (by decide) rfl (fun ls hl => ?_)
  have hCC_20 := yMI.c hId_17
  refine yloop (σ := Int32 × yD) (fun x => (2147483647 - (x.1 : Int32).toInt).toNat) 52 (fun x H locs ls => va_P G.1 xcl (yW G S x.2) H ∧ va_D A (yW G S x.2) ∧ va_S A s.heap H locs ∧ yAg S [9, 51, 52, 53, 54, 55, 56, 57, 58, 59, 60, 61, 62, 63, 64, 65, 66, 67] d x.2 ∧ yPo S x.2 ∧ yK [20, 38] d x.2 h0 ∧ yMI S x.2 h0 ∧ yAg S [52, 53, 54, 55, 56, 57, 58] d_17 x.2 ∧ yK [] d_17 x.2 h0 ∧ (0 ≤ ((x.1) : Int32).toInt) ∧ lv_has ls 2 [(1, .int x.1), (0, .ref h0)]) (fun x H locs ls hI hnext_23 => ?_) (0, d_17) ⟨hP, hD, hS, hgd_17, hPod_17, hfd_17, hId_17, yAg.rf, yK.rf, (show (0 ≤ ((0) : Int32).toInt) from by have hl0_ : (0 : Int32).toInt = 0 := (by decide +kernel); have hq0_ : (0 : Int32).toInt = 0 := (by decide +kernel); omega), lv_sub hl [0, 1] rfl⟩
  obtain ⟨v_21, d_22⟩ := x
  obtain ⟨hP, hD, hS, hgd_22, hPod_22, hfd_22, hId_22, hLJd_22, hKJd_22, hex_24, hl⟩ := hI
  have hId_22 : yMI S d_22 h0 := hId_22
  have hex_24 : (0 ≤ ((v_21) : Int32).toInt) := hex_24
  have hl : lv_has ls 2 [(1, .int v_21), (0, .ref h0)] := hl
  have hLJd_22 : yAg S [52, 53, 54, 55, 56, 57, 58] d_17 d_22 := hLJd_22
  have hKJd_22 : yK [] d_17 d_22 h0 := hKJd_22
  have hE0d_22 : (d_22.1 h0 0).toInt = (d_17.1 h0 0).toInt := congrArg Int32.toInt (hKJd_22 0 (by decide))
  have hE1d_22 : (d_22.1 h0 1).toInt = (d_17.1 h0 1).toInt := congrArg Int32.toInt (hKJd_22 1 (by decide))
  have hE2d_22 : (d_22.1 h0 2).toInt = (d_17.1 h0 2).toInt := congrArg Int32.toInt (hKJd_22 2 (by decide))
  have hE3d_22 : (d_22.1 h0 3).toInt = (d_17.1 h0 3).toInt := congrArg Int32.toInt (hKJd_22 3 (by decide))
  have hE63d_22 : (d_22.1 h0 63).toInt = (d_17.1 h0 63).toInt := congrArg Int32.toInt (hKJd_22 63 (by decide))
  refine lv_iload_n hx hb dX9_image_52 rfl (lv_at hl 0 rfl) ?_
  refine lv_sipush (v := 2400) hx hb dX9_image_53 (by decide) ?_
  refine lv_icmp_ge (tgt := 149) hx hb dX9_image_56 (by decide) (fun c_25 => ?_) (fun c_25 => ?_)
  · refine lv_iconst (v := 0) hx hb dX9_image_149 (by decide) ?_
    refine lv_istore_n (lv' := [(1, .int 0), (0, .ref h0)]) hx hb dX9_image_150 rfl hl (by decide) rfl (fun ls hl => ?_)
    have hCC_26 := yMI.c hId_22
    have F_27 := fle (by decide +kernel : (2400 : Int32).toInt = 2400) (rfl : (v_21 : Int32).toInt = (v_21 : Int32).toInt) c_25
    refine yloop (σ := Int32 × yD) (fun x => (2147483647 - (x.1 : Int32).toInt).toNat) 151 (fun x H locs ls => va_P G.1 xcl (yW G S x.2) H ∧ va_D A (yW G S x.2) ∧ va_S A s.heap H locs ∧ yAg S [9, 51, 52, 53, 54, 55, 56, 57, 58, 59, 60, 61, 62, 63, 64, 65, 66, 67] d x.2 ∧ yPo S x.2 ∧ yK [20, 38] d x.2 h0 ∧ yMI S x.2 h0 ∧ yAg S [59] d_22 x.2 ∧ yK [] d_22 x.2 h0 ∧ (0 ≤ ((x.1) : Int32).toInt) ∧ lv_has ls 2 [(1, .int x.1), (0, .ref h0)]) (fun x H locs ls hI hnext_30 => ?_) (0, d_22) ⟨hP, hD, hS, hgd_22, hPod_22, hfd_22, hId_22, yAg.rf, yK.rf, (show (0 ≤ ((0) : Int32).toInt) from by have hl0_ : (0 : Int32).toInt = 0 := (by decide +kernel); have hq0_ : (0 : Int32).toInt = 0 := (by decide +kernel); omega), lv_sub hl [0, 1] rfl⟩
    obtain ⟨v_28, d_29⟩ := x
    obtain ⟨hP, hD, hS, hgd_29, hPod_29, hfd_29, hId_29, hLJd_29, hKJd_29, hex_31, hl⟩ := hI
    have hId_29 : yMI S d_29 h0 := hId_29
    have hex_31 : (0 ≤ ((v_28) : Int32).toInt) := hex_31
    have hl : lv_has ls 2 [(1, .int v_28), (0, .ref h0)] := hl
    have hLJd_29 : yAg S [59] d_22 d_29 := hLJd_29
    have hKJd_29 : yK [] d_22 d_29 h0 := hKJd_29
    have hE0d_29 : (d_29.1 h0 0).toInt = (d_22.1 h0 0).toInt := congrArg Int32.toInt (hKJd_29 0 (by decide))
    have hE1d_29 : (d_29.1 h0 1).toInt = (d_22.1 h0 1).toInt := congrArg Int32.toInt (hKJd_29 1 (by decide))
    have hE2d_29 : (d_29.1 h0 2).toInt = (d_22.1 h0 2).toInt := congrArg Int32.toInt (hKJd_29 2 (by decide))
    have hE3d_29 : (d_29.1 h0 3).toInt = (d_22.1 h0 3).toInt := congrArg Int32.toInt (hKJd_29 3 (by decide))
    have hE63d_29 : (d_29.1 h0 63).toInt = (d_22.1 h0 63).toInt := congrArg Int32.toInt (hKJd_29 63 (by decide))
    refine lv_iload_n hx hb dX9_image_151 rfl (lv_at hl 0 rfl) ?_
    refine lv_bipush (v := 96) hx hb dX9_image_152 (by decide) ?_
    refine lv_icmp_ge (tgt := 175) hx hb dX9_image_154 (by decide) (fun c_32 => ?_) (fun c_32 => ?_)
    · refine lv_iconst (v := 0) hx hb dX9_image_175 (by decide) ?_
      refine lv_istore_n (lv' := [(1, .int 0), (0, .ref h0)]) hx hb dX9_image_176 rfl hl (by decide) rfl (fun ls hl => ?_)
      have hCC_33 := yMI.c hId_29
      have F_34 := fle (by decide +kernel : (96 : Int32).toInt = 96) (rfl : (v_28 : Int32).toInt = (v_28 : Int32).toInt) c_32
      refine yloop (σ := Int32 × yD) (fun x => (2147483647 - (x.1 : Int32).toInt).toNat) 177 (fun x H locs ls => va_P G.1 xcl (yW G S x.2) H ∧ va_D A (yW G S x.2) ∧ va_S A s.heap H locs ∧ yAg S [9, 51, 52, 53, 54, 55, 56, 57, 58, 59, 60, 61, 62, 63, 64, 65, 66, 67] d x.2 ∧ yPo S x.2 ∧ yK [20, 38] d x.2 h0 ∧ yMI S x.2 h0 ∧ yAg S [60, 61, 62] d_29 x.2 ∧ yK [] d_29 x.2 h0 ∧ (0 ≤ ((x.1) : Int32).toInt) ∧ lv_has ls 2 [(1, .int x.1), (0, .ref h0)]) (fun x H locs ls hI hnext_37 => ?_) (0, d_29) ⟨hP, hD, hS, hgd_29, hPod_29, hfd_29, hId_29, yAg.rf, yK.rf, (show (0 ≤ ((0) : Int32).toInt) from by have hl0_ : (0 : Int32).toInt = 0 := (by decide +kernel); have hq0_ : (0 : Int32).toInt = 0 := (by decide +kernel); omega), lv_sub hl [0, 1] rfl⟩
      obtain ⟨v_35, d_36⟩ := x
      obtain ⟨hP, hD, hS, hgd_36, hPod_36, hfd_36, hId_36, hLJd_36, hKJd_36, hex_38, hl⟩ := hI
      have hId_36 : yMI S d_36 h0 := hId_36
      have hex_38 : (0 ≤ ((v_35) : Int32).toInt) := hex_38
      have hl : lv_has ls 2 [(1, .int v_35), (0, .ref h0)] := hl
      have hLJd_36 : yAg S [60, 61, 62] d_29 d_36 := hLJd_36
      have hKJd_36 : yK [] d_29 d_36 h0 := hKJd_36
      have hE0d_36 : (d_36.1 h0 0).toInt = (d_29.1 h0 0).toInt := congrArg Int32.toInt (hKJd_36 0 (by decide))
      have hE1d_36 : (d_36.1 h0 1).toInt = (d_29.1 h0 1).toInt := congrArg Int32.toInt (hKJd_36 1 (by decide))
      have hE2d_36 : (d_36.1 h0 2).toInt = (d_29.1 h0 2).toInt := congrArg Int32.toInt (hKJd_36 2 (by decide))
      have hE3d_36 : (d_36.1 h0 3).toInt = (d_29.1 h0 3).toInt := congrArg Int32.toInt (hKJd_36 3 (by decide))
      have hE63d_36 : (d_36.1 h0 63).toInt = (d_29.1 h0 63).toInt := congrArg Int32.toInt (hKJd_36 63 (by decide))
      refine lv_iload_n hx hb dX9_image_177 rfl (lv_at hl 0 rfl) ?_
      refine lv_sipush (v := 720) hx hb dX9_image_178 (by decide) ?_
      refine lv_icmp_ge (tgt := 226) hx hb dX9_image_181 (by decide) (fun c_39 => ?_) (fun c_39 => ?_)
      · refine lv_iconst (v := 0) hx hb dX9_image_226 (by decide) ?_
        refine lv_istore_n (lv' := [(1, .int 0), (0, .ref h0)]) hx hb dX9_image_227 rfl hl (by decide) rfl (fun ls hl => ?_)
        have hCC_40 := yMI.c hId_36
        have F_41 := fle (by decide +kernel : (720 : Int32).toInt = 720) (rfl : (v_35 : Int32).toInt = (v_35 : Int32).toInt) c_39
        refine yloop (σ := Int32 × yD) (fun x => (2147483647 - (x.1 : Int32).toInt).toNat) 228 (fun x H locs ls => va_P G.1 xcl (yW G S x.2) H ∧ va_D A (yW G S x.2) ∧ va_S A s.heap H locs ∧ yAg S [9, 51, 52, 53, 54, 55, 56, 57, 58, 59, 60, 61, 62, 63, 64, 65, 66, 67] d x.2 ∧ yPo S x.2 ∧ yK [20, 38] d x.2 h0 ∧ yMI S x.2 h0 ∧ yAg S [63, 64, 65] d_36 x.2 ∧ yK [] d_36 x.2 h0 ∧ (0 ≤ ((x.1) : Int32).toInt) ∧ lv_has ls 2 [(1, .int x.1), (0, .ref h0)]) (fun x H locs ls hI hnext_44 => ?_) (0, d_36) ⟨hP, hD, hS, hgd_36, hPod_36, hfd_36, hId_36, yAg.rf, yK.rf, (show (0 ≤ ((0) : Int32).toInt) from by have hl0_ : (0 : Int32).toInt = 0 := (by decide +kernel); have hq0_ : (0 : Int32).toInt = 0 := (by decide +kernel); omega), lv_sub hl [0, 1] rfl⟩
        obtain ⟨v_42, d_43⟩ := x
        obtain ⟨hP, hD, hS, hgd_43, hPod_43, hfd_43, hId_43, hLJd_43, hKJd_43, hex_45, hl⟩ := hI
        have hId_43 : yMI S d_43 h0 := hId_43
        have hex_45 : (0 ≤ ((v_42) : Int32).toInt) := hex_45
        have hl : lv_has ls 2 [(1, .int v_42), (0, .ref h0)] := hl
        have hLJd_43 : yAg S [63, 64, 65] d_36 d_43 := hLJd_43
        have hKJd_43 : yK [] d_36 d_43 h0 := hKJd_43
        have hE0d_43 : (d_43.1 h0 0).toInt = (d_36.1 h0 0).toInt := congrArg Int32.toInt (hKJd_43 0 (by decide))
        have hE1d_43 : (d_43.1 h0 1).toInt = (d_36.1 h0 1).toInt := congrArg Int32.toInt (hKJd_43 1 (by decide))
        have hE2d_43 : (d_43.1 h0 2).toInt = (d_36.1 h0 2).toInt := congrArg Int32.toInt (hKJd_43 2 (by decide))
        have hE3d_43 : (d_43.1 h0 3).toInt = (d_36.1 h0 3).toInt := congrArg Int32.toInt (hKJd_43 3 (by decide))
        have hE63d_43 : (d_43.1 h0 63).toInt = (d_36.1 h0 63).toInt := congrArg Int32.toInt (hKJd_43 63 (by decide))
        refine lv_iload_n hx hb dX9_image_228 rfl (lv_at hl 0 rfl) ?_
        refine lv_sipush (v := 5000) hx hb dX9_image_229 (by decide) ?_
        refine lv_icmp_ge (tgt := 277) hx hb dX9_image_232 (by decide) (fun c_46 => ?_) (fun c_46 => ?_)
        · refine lv_iconst (v := 0) hx hb dX9_image_277 (by decide) ?_
          refine lv_istore_n (lv' := [(1, .int 0), (0, .ref h0)]) hx hb dX9_image_278 rfl hl (by decide) rfl (fun ls hl => ?_)
          have hCC_47 := yMI.c hId_43
          have F_48 := fle (by decide +kernel : (5000 : Int32).toInt = 5000) (rfl : (v_42 : Int32).toInt = (v_42 : Int32).toInt) c_46
          refine yloop (σ := Int32 × yD) (fun x => (2147483647 - (x.1 : Int32).toInt).toNat) 279 (fun x H locs ls => va_P G.1 xcl (yW G S x.2) H ∧ va_D A (yW G S x.2) ∧ va_S A s.heap H locs ∧ yAg S [9, 51, 52, 53, 54, 55, 56, 57, 58, 59, 60, 61, 62, 63, 64, 65, 66, 67] d x.2 ∧ yPo S x.2 ∧ yK [20, 38] d x.2 h0 ∧ yMI S x.2 h0 ∧ yAg S [66, 67] d_43 x.2 ∧ yK [] d_43 x.2 h0 ∧ (0 ≤ ((x.1) : Int32).toInt) ∧ lv_has ls 2 [(1, .int x.1), (0, .ref h0)]) (fun x H locs ls hI hnext_51 => ?_) (0, d_43) ⟨hP, hD, hS, hgd_43, hPod_43, hfd_43, hId_43, yAg.rf, yK.rf, (show (0 ≤ ((0) : Int32).toInt) from by have hl0_ : (0 : Int32).toInt = 0 := (by decide +kernel); have hq0_ : (0 : Int32).toInt = 0 := (by decide +kernel); omega), lv_sub hl [0, 1] rfl⟩
          obtain ⟨v_49, d_50⟩ := x
          obtain ⟨hP, hD, hS, hgd_50, hPod_50, hfd_50, hId_50, hLJd_50, hKJd_50, hex_52, hl⟩ := hI
          have hId_50 : yMI S d_50 h0 := hId_50
          have hex_52 : (0 ≤ ((v_49) : Int32).toInt) := hex_52
          have hl : lv_has ls 2 [(1, .int v_49), (0, .ref h0)] := hl
          have hLJd_50 : yAg S [66, 67] d_43 d_50 := hLJd_50
          have hKJd_50 : yK [] d_43 d_50 h0 := hKJd_50
          have hE0d_50 : (d_50.1 h0 0).toInt = (d_43.1 h0 0).toInt := congrArg Int32.toInt (hKJd_50 0 (by decide))
          have hE1d_50 : (d_50.1 h0 1).toInt = (d_43.1 h0 1).toInt := congrArg Int32.toInt (hKJd_50 1 (by decide))
          have hE2d_50 : (d_50.1 h0 2).toInt = (d_43.1 h0 2).toInt := congrArg Int32.toInt (hKJd_50 2 (by decide))
          have hE3d_50 : (d_50.1 h0 3).toInt = (d_43.1 h0 3).toInt := congrArg Int32.toInt (hKJd_50 3 (by decide))
          have hE63d_50 : (d_50.1 h0 63).toInt = (d_43.1 h0 63).toInt := congrArg Int32.toInt (hKJd_50 63 (by decide))
          refine lv_iload_n hx hb dX9_image_279 rfl (lv_at hl 0 rfl) ?_
          refine lv_sipush (v := 500) hx hb dX9_image_280 (by decide) ?_
          refine lv_icmp_ge (tgt := 316) hx hb dX9_image_283 (by decide) (fun c_53 => ?_) (fun c_53 => ?_)
          · refine lv_iconst (v := 1) hx hb dX9_image_316 (by decide) ?_
            have hk21_ : d_50.2.2.2.1 (S.2.2.1 h0 21) = d_17.2.2.2.1 (S.2.2.1 h0 21) := (((hLJd_50 _ (by rw [(ySh.f9_21 hSh h0 hm_h0 hk_h0).2]; decide)).2.2.2.1).trans (((hLJd_43 _ (by rw [(ySh.f9_21 hSh h0 hm_h0 hk_h0).2]; decide)).2.2.2.1).trans (((hLJd_36 _ (by rw [(ySh.f9_21 hSh h0 hm_h0 hk_h0).2]; decide)).2.2.2.1).trans (((hLJd_29 _ (by rw [(ySh.f9_21 hSh h0 hm_h0 hk_h0).2]; decide)).2.2.2.1).trans (hLJd_22 _ (by rw [(ySh.f9_21 hSh h0 hm_h0 hk_h0).2]; decide)).2.2.2.1))))
            have hkud_5 : d_5.2.2.2.1 (S.2.2.1 h0 21) = (upd (d_2.2.2.2.1 (S.2.2.1 h0 21)) (0 : Int32).toNatClampNeg z_4) := by rw [ed_5]; exact va_up_self _ _ _
            have hkud_9 : d_9.2.2.2.1 (S.2.2.1 h0 21) = (upd (d_5.2.2.2.1 (S.2.2.1 h0 21)) (1 : Int32).toNatClampNeg z_8) := by rw [ed_9]; exact va_up_self _ _ _
            have hkud_13 : d_13.2.2.2.1 (S.2.2.1 h0 21) = (upd (d_9.2.2.2.1 (S.2.2.1 h0 21)) (2 : Int32).toNatClampNeg z_12) := by rw [ed_13]; exact va_up_self _ _ _
            have hkud_17 : d_17.2.2.2.1 (S.2.2.1 h0 21) = (upd (d_13.2.2.2.1 (S.2.2.1 h0 21)) (3 : Int32).toNatClampNeg z_16) := by rw [ed_17]; exact va_up_self _ _ _
            have hk0_ : d_50.2.2.2.1 (S.2.2.1 h0 21) 0 = z_4 := by
              rw [hk21_, hkud_17, hkud_13, hkud_9, hkud_5]
              exact xkp0
            exact W.zret (v := 1) (ty := .boolean) hx hb hr rfl (fun t ht hW => ⟨⟨1, d_50, rfl, ⟨hgd_50, (fun _ => hPod_50), hfd_50, ⟨hId_50, ((((hKJd_50 20 (by decide))).trans (((hKJd_43 20 (by decide))).trans (((hKJd_36 20 (by decide))).trans (((hKJd_29 20 (by decide))).trans (((hKJd_22 20 (by decide))).trans (((show d_17.1 h0 20 = d_13.1 h0 20 by rw [ed_17]; exact rfl)).trans (((show d_13.1 h0 20 = d_9.1 h0 20 by rw [ed_13]; exact rfl)).trans (((show d_9.1 h0 20 = d_5.1 h0 20 by rw [ed_9]; exact rfl)).trans (show d_5.1 h0 20 = d_2.1 h0 20 by rw [ed_5]; exact rfl)))))))))).trans (by rw [ed_2]; exact yi_self), hk0_.trans (ez_4.trans (((show d_2.1 h0 0 = d_1.1 h0 0 by rw [ed_2]; exact yi_at (by decide))).trans (show d_1.1 h0 0 = d.1 h0 0 by rw [ed_1]; exact yi_at (by decide)))), (((hKJd_50 0 (by decide))).trans (((hKJd_43 0 (by decide))).trans (((hKJd_36 0 (by decide))).trans (((hKJd_29 0 (by decide))).trans (((hKJd_22 0 (by decide))).trans (((show d_17.1 h0 0 = d_13.1 h0 0 by rw [ed_17]; exact rfl)).trans (((show d_13.1 h0 0 = d_9.1 h0 0 by rw [ed_13]; exact rfl)).trans (((show d_9.1 h0 0 = d_5.1 h0 0 by rw [ed_9]; exact rfl)).trans (((show d_5.1 h0 0 = d_2.1 h0 0 by rw [ed_5]; exact rfl)).trans (((show d_2.1 h0 0 = d_1.1 h0 0 by rw [ed_2]; exact yi_at (by decide))).trans (show d_1.1 h0 0 = d.1 h0 0 by rw [ed_1]; exact yi_at (by decide)))))))))))), rfl⟩⟩, by rw [ht]; exact hP, hD⟩, hS.F ht⟩) hS.2.2 dX9_image_317
          · refine lv_aload_n hx hb dX9_image_286 rfl (lv_at hl 1 rfl) ?_
            refine yget (ci := 9) (k := 36) (v := .ref (S.2.2.1 h0 36)) (C := RX9) (T := TX9) (N := 67) C0 hK hP hm_h0 hk_h0 (by decide) rfl inlX9 (by decide) mW142 (fun _ h9 => h9) rfl dX9_image_287 ?_
            obtain ⟨hmy_54, hky_54⟩ := ySh.f9_36 hSh _ hm_h0 hk_h0
            refine lv_iload_n hx hb dX9_image_290 rfl (lv_at hl 0 rfl) ?_
            refine lv_aload_n hx hb dX9_image_291 rfl (lv_at hl 1 rfl) ?_
            refine yget (ci := 9) (k := 18) (v := .ref (S.2.2.1 h0 18)) (C := RX9) (T := TX9) (N := 67) C0 hK hP hm_h0 hk_h0 (by decide) rfl inlX9 (by decide) mW125 (fun _ h9 => h9) rfl dX9_image_292 ?_
            obtain ⟨hmy_55, hky_55⟩ := ySh.f9_18 hSh _ hm_h0 hk_h0
            refine lv_iload_n hx hb dX9_image_295 rfl (lv_at hl 0 rfl) ?_
            have hCC_56 := yMI.c hId_50
            have F_57 := fnle (by decide +kernel : (500 : Int32).toInt = 500) (rfl : (v_49 : Int32).toInt = (v_49 : Int32).toInt) c_53
            refine yald C0 hK hP hmy_55 hky_55 (by decide) rfl 0 rfl (xinT 500 rfl (by omega) (by omega)) dX9_image_296 ?_
            refine lv_topi (fun z_58 ez_58 => ?_)
            refine yast C0 hK hP hD hS hmy_54 hky_54 (by decide) rfl 0 rfl (xinT 500 rfl (by omega) (by omega)) dX9_image_297 (fun H locs hP hD hS => ?_)
            obtain ⟨d_59, ed_59⟩ : ∃ z : yD, z = ycs d_50 (S.2.2.1 h0 36) (upd (d_50.2.2.2.1 (S.2.2.1 h0 36)) (v_49 : Int32).toNatClampNeg z_58) := ⟨_, rfl⟩
            rw [← ed_59] at hP hD
            have hgd_59 : yAg S [9, 51, 52, 53, 54, 55, 56, 57, 58, 59, 60, 61, 62, 63, 64, 65, 66, 67] d d_59 := by rw [ed_59]; exact yAg.cs hgd_50 (by rw [hky_54]; decide)
            have hsd_59 : yAg S [66] d_50 d_59 := by rw [ed_59]; exact yAg.cs yAg.rf (by rw [hky_54]; decide)
            have hPod_59 : yPo S d_59 := by rw [ed_59]; exact hPod_50
            have hfd_59 : yK [20, 38] d d_59 h0 := yK.ag hfd_50 (show yAg S [66] d_50 d_59 from by rw [ed_59]; exact yAg.cs yAg.rf (by rw [hky_54]; decide)) (by rw [hk_h0]; decide)
            have hL0d_59 : yAg S [66, 67] d_43 d_59 := by rw [ed_59]; exact yAg.cs hLJd_50 (by rw [hky_54]; decide)
            have hK0d_59 : yK [] d_43 d_59 h0 := yK.ag hKJd_50 (show yAg S [66] d_50 d_59 from by rw [ed_59]; exact yAg.cs yAg.rf (by rw [hky_54]; decide)) (by rw [hk_h0]; decide)
            have hId_59 : yMI S d_59 h0 := yMI.ag hId_50 hSh hm_h0 hk_h0 (show yAg S [66] d_50 d_59 from by rw [ed_59]; exact yAg.cs yAg.rf (by rw [hky_54]; decide)) (yK.ag (F := []) yK.rf (show yAg S [66] d_50 d_59 from by rw [ed_59]; exact yAg.cs yAg.rf (by rw [hky_54]; decide)) (by rw [hk_h0]; decide)) (by decide) (by decide)
            have hE0d_59 : (d_59.1 h0 0).toInt = (d_50.1 h0 0).toInt := congrArg Int32.toInt ((yK.ag (F := []) yK.rf (show yAg S [66] d_50 d_59 from by rw [ed_59]; exact yAg.cs yAg.rf (by rw [hky_54]; decide)) (by rw [hk_h0]; decide)) 0 (by decide))
            have hE1d_59 : (d_59.1 h0 1).toInt = (d_50.1 h0 1).toInt := congrArg Int32.toInt ((yK.ag (F := []) yK.rf (show yAg S [66] d_50 d_59 from by rw [ed_59]; exact yAg.cs yAg.rf (by rw [hky_54]; decide)) (by rw [hk_h0]; decide)) 1 (by decide))
            have hE2d_59 : (d_59.1 h0 2).toInt = (d_50.1 h0 2).toInt := congrArg Int32.toInt ((yK.ag (F := []) yK.rf (show yAg S [66] d_50 d_59 from by rw [ed_59]; exact yAg.cs yAg.rf (by rw [hky_54]; decide)) (by rw [hk_h0]; decide)) 2 (by decide))
            have hE3d_59 : (d_59.1 h0 3).toInt = (d_50.1 h0 3).toInt := congrArg Int32.toInt ((yK.ag (F := []) yK.rf (show yAg S [66] d_50 d_59 from by rw [ed_59]; exact yAg.cs yAg.rf (by rw [hky_54]; decide)) (by rw [hk_h0]; decide)) 3 (by decide))
            have hE63d_59 : (d_59.1 h0 63).toInt = (d_50.1 h0 63).toInt := congrArg Int32.toInt ((yK.ag (F := []) yK.rf (show yAg S [66] d_50 d_59 from by rw [ed_59]; exact yAg.cs yAg.rf (by rw [hky_54]; decide)) (by rw [hk_h0]; decide)) 63 (by decide))
            refine lv_aload_n hx hb dX9_image_298 rfl (lv_at hl 1 rfl) ?_
            refine yget (ci := 9) (k := 37) (v := .ref (S.2.2.1 h0 37)) (C := RX9) (T := TX9) (N := 67) C0 hK hP hm_h0 hk_h0 (by decide) rfl inlX9 (by decide) mW143 (fun _ h9 => h9) rfl dX9_image_299 ?_
            obtain ⟨hmy_60, hky_60⟩ := ySh.f9_37 hSh _ hm_h0 hk_h0
            refine lv_iload_n hx hb dX9_image_302 rfl (lv_at hl 0 rfl) ?_
            refine lv_aload_n hx hb dX9_image_303 rfl (lv_at hl 1 rfl) ?_
            refine yget (ci := 9) (k := 19) (v := .ref (S.2.2.1 h0 19)) (C := RX9) (T := TX9) (N := 67) C0 hK hP hm_h0 hk_h0 (by decide) rfl inlX9 (by decide) mW126 (fun _ h9 => h9) rfl dX9_image_304 ?_
            obtain ⟨hmy_61, hky_61⟩ := ySh.f9_19 hSh _ hm_h0 hk_h0
            refine lv_iload_n hx hb dX9_image_307 rfl (lv_at hl 0 rfl) ?_
            have hCC_62 := yMI.c hId_59
            refine yaldB C0 hK hP hmy_61 hky_61 (by decide) rfl 1 rfl (xinT 500 rfl (by omega) (by omega)) dX9_image_308 ?_
            refine lv_topi (fun z_63 ez_63 => ?_)
            refine yastB C0 hK hP hD hS hmy_60 hky_60 (by decide) rfl 1 rfl (xinT 500 rfl (by omega) (by omega)) dX9_image_309 (fun H locs hP hD hS => ?_)
            obtain ⟨d_64, ed_64⟩ : ∃ z : yD, z = ycs d_59 (S.2.2.1 h0 37) (upd (d_59.2.2.2.1 (S.2.2.1 h0 37)) (v_49 : Int32).toNatClampNeg (vp_nar .byte z_63)) := ⟨_, rfl⟩
            rw [← ed_64] at hP hD
            have hgd_64 : yAg S [9, 51, 52, 53, 54, 55, 56, 57, 58, 59, 60, 61, 62, 63, 64, 65, 66, 67] d d_64 := by rw [ed_64]; exact yAg.cs hgd_59 (by rw [hky_60]; decide)
            have hsd_64 : yAg S [67] d_59 d_64 := by rw [ed_64]; exact yAg.cs yAg.rf (by rw [hky_60]; decide)
            have hPod_64 : yPo S d_64 := by rw [ed_64]; exact hPod_59
            have hfd_64 : yK [20, 38] d d_64 h0 := yK.ag hfd_59 (show yAg S [67] d_59 d_64 from by rw [ed_64]; exact yAg.cs yAg.rf (by rw [hky_60]; decide)) (by rw [hk_h0]; decide)
            have hL0d_64 : yAg S [66, 67] d_43 d_64 := by rw [ed_64]; exact yAg.cs hL0d_59 (by rw [hky_60]; decide)
            have hK0d_64 : yK [] d_43 d_64 h0 := yK.ag hK0d_59 (show yAg S [67] d_59 d_64 from by rw [ed_64]; exact yAg.cs yAg.rf (by rw [hky_60]; decide)) (by rw [hk_h0]; decide)
            have hId_64 : yMI S d_64 h0 := yMI.ag hId_59 hSh hm_h0 hk_h0 (show yAg S [67] d_59 d_64 from by rw [ed_64]; exact yAg.cs yAg.rf (by rw [hky_60]; decide)) (yK.ag (F := []) yK.rf (show yAg S [67] d_59 d_64 from by rw [ed_64]; exact yAg.cs yAg.rf (by rw [hky_60]; decide)) (by rw [hk_h0]; decide)) (by decide) (by decide)
            have hE0d_64 : (d_64.1 h0 0).toInt = (d_59.1 h0 0).toInt := congrArg Int32.toInt ((yK.ag (F := []) yK.rf (show yAg S [67] d_59 d_64 from by rw [ed_64]; exact yAg.cs yAg.rf (by rw [hky_60]; decide)) (by rw [hk_h0]; decide)) 0 (by decide))
            have hE1d_64 : (d_64.1 h0 1).toInt = (d_59.1 h0 1).toInt := congrArg Int32.toInt ((yK.ag (F := []) yK.rf (show yAg S [67] d_59 d_64 from by rw [ed_64]; exact yAg.cs yAg.rf (by rw [hky_60]; decide)) (by rw [hk_h0]; decide)) 1 (by decide))
            have hE2d_64 : (d_64.1 h0 2).toInt = (d_59.1 h0 2).toInt := congrArg Int32.toInt ((yK.ag (F := []) yK.rf (show yAg S [67] d_59 d_64 from by rw [ed_64]; exact yAg.cs yAg.rf (by rw [hky_60]; decide)) (by rw [hk_h0]; decide)) 2 (by decide))
            have hE3d_64 : (d_64.1 h0 3).toInt = (d_59.1 h0 3).toInt := congrArg Int32.toInt ((yK.ag (F := []) yK.rf (show yAg S [67] d_59 d_64 from by rw [ed_64]; exact yAg.cs yAg.rf (by rw [hky_60]; decide)) (by rw [hk_h0]; decide)) 3 (by decide))
            have hE63d_64 : (d_64.1 h0 63).toInt = (d_59.1 h0 63).toInt := congrArg Int32.toInt ((yK.ag (F := []) yK.rf (show yAg S [67] d_59 d_64 from by rw [ed_64]; exact yAg.cs yAg.rf (by rw [hky_60]; decide)) (by rw [hk_h0]; decide)) 63 (by decide))
            refine lv_iinc (v := v_49 + 1) (lv' := [(1, .int (v_49 + 1)), (0, .ref h0)]) hx hb dX9_image_310 hl (k := 0) rfl rfl (by decide) rfl (fun ls hl => ?_)
            refine lv_goto (tgt := 279) hx hb dX9_image_313 (by decide) ?_
            have hCC_66 := yMI.c hId_64
            have T_67 : ((v_49 + 1) : Int32).toInt = (v_49 : Int32).toInt + 1 := tadd rfl (rfl : (v_49 : Int32).toInt = (v_49 : Int32).toInt) (by decide +kernel : (1 : Int32).toInt = 1) (by omega) (by omega)
            exact hnext_51 (v_49 + 1, d_64) _ _ ls (xup c_53) ⟨hP, hD, hS, hgd_64, hPod_64, hfd_64, hId_64, hL0d_64, hK0d_64, (show (0 ≤ (((v_49 + 1)) : Int32).toInt) from by have hq0_ : (0 : Int32).toInt = 0 := (by decide +kernel); omega), lv_sub hl [0, 1] rfl⟩
        · refine lv_aload_n hx hb dX9_image_235 rfl (lv_at hl 1 rfl) ?_
          refine yget (ci := 9) (k := 33) (v := .ref (S.2.2.1 h0 33)) (C := RX9) (T := TX9) (N := 67) C0 hK hP hm_h0 hk_h0 (by decide) rfl inlX9 (by decide) mW139 (fun _ h9 => h9) rfl dX9_image_236 ?_
          obtain ⟨hmy_68, hky_68⟩ := ySh.f9_33 hSh _ hm_h0 hk_h0
          refine lv_iload_n hx hb dX9_image_239 rfl (lv_at hl 0 rfl) ?_
          refine lv_aload_n hx hb dX9_image_240 rfl (lv_at hl 1 rfl) ?_
          refine yget (ci := 9) (k := 15) (v := .ref (S.2.2.1 h0 15)) (C := RX9) (T := TX9) (N := 67) C0 hK hP hm_h0 hk_h0 (by decide) rfl inlX9 (by decide) mW122 (fun _ h9 => h9) rfl dX9_image_241 ?_
          obtain ⟨hmy_69, hky_69⟩ := ySh.f9_15 hSh _ hm_h0 hk_h0
          refine lv_iload_n hx hb dX9_image_244 rfl (lv_at hl 0 rfl) ?_
          have hCC_70 := yMI.c hId_43
          have F_71 := fnle (by decide +kernel : (5000 : Int32).toInt = 5000) (rfl : (v_42 : Int32).toInt = (v_42 : Int32).toInt) c_46
          refine yaldB C0 hK hP hmy_69 hky_69 (by decide) rfl 1 rfl (xinT 5000 rfl (by omega) (by omega)) dX9_image_245 ?_
          refine lv_topi (fun z_72 ez_72 => ?_)
          refine yastB C0 hK hP hD hS hmy_68 hky_68 (by decide) rfl 1 rfl (xinT 5000 rfl (by omega) (by omega)) dX9_image_246 (fun H locs hP hD hS => ?_)
          obtain ⟨d_73, ed_73⟩ : ∃ z : yD, z = ycs d_43 (S.2.2.1 h0 33) (upd (d_43.2.2.2.1 (S.2.2.1 h0 33)) (v_42 : Int32).toNatClampNeg (vp_nar .byte z_72)) := ⟨_, rfl⟩
          rw [← ed_73] at hP hD
          have hgd_73 : yAg S [9, 51, 52, 53, 54, 55, 56, 57, 58, 59, 60, 61, 62, 63, 64, 65, 66, 67] d d_73 := by rw [ed_73]; exact yAg.cs hgd_43 (by rw [hky_68]; decide)
          have hsd_73 : yAg S [63] d_43 d_73 := by rw [ed_73]; exact yAg.cs yAg.rf (by rw [hky_68]; decide)
          have hPod_73 : yPo S d_73 := by rw [ed_73]; exact hPod_43
          have hfd_73 : yK [20, 38] d d_73 h0 := yK.ag hfd_43 (show yAg S [63] d_43 d_73 from by rw [ed_73]; exact yAg.cs yAg.rf (by rw [hky_68]; decide)) (by rw [hk_h0]; decide)
          have hL0d_73 : yAg S [63, 64, 65] d_36 d_73 := by rw [ed_73]; exact yAg.cs hLJd_43 (by rw [hky_68]; decide)
          have hK0d_73 : yK [] d_36 d_73 h0 := yK.ag hKJd_43 (show yAg S [63] d_43 d_73 from by rw [ed_73]; exact yAg.cs yAg.rf (by rw [hky_68]; decide)) (by rw [hk_h0]; decide)
          have hId_73 : yMI S d_73 h0 := yMI.ag hId_43 hSh hm_h0 hk_h0 (show yAg S [63] d_43 d_73 from by rw [ed_73]; exact yAg.cs yAg.rf (by rw [hky_68]; decide)) (yK.ag (F := []) yK.rf (show yAg S [63] d_43 d_73 from by rw [ed_73]; exact yAg.cs yAg.rf (by rw [hky_68]; decide)) (by rw [hk_h0]; decide)) (by decide) (by decide)
          have hE0d_73 : (d_73.1 h0 0).toInt = (d_43.1 h0 0).toInt := congrArg Int32.toInt ((yK.ag (F := []) yK.rf (show yAg S [63] d_43 d_73 from by rw [ed_73]; exact yAg.cs yAg.rf (by rw [hky_68]; decide)) (by rw [hk_h0]; decide)) 0 (by decide))
          have hE1d_73 : (d_73.1 h0 1).toInt = (d_43.1 h0 1).toInt := congrArg Int32.toInt ((yK.ag (F := []) yK.rf (show yAg S [63] d_43 d_73 from by rw [ed_73]; exact yAg.cs yAg.rf (by rw [hky_68]; decide)) (by rw [hk_h0]; decide)) 1 (by decide))
          have hE2d_73 : (d_73.1 h0 2).toInt = (d_43.1 h0 2).toInt := congrArg Int32.toInt ((yK.ag (F := []) yK.rf (show yAg S [63] d_43 d_73 from by rw [ed_73]; exact yAg.cs yAg.rf (by rw [hky_68]; decide)) (by rw [hk_h0]; decide)) 2 (by decide))
          have hE3d_73 : (d_73.1 h0 3).toInt = (d_43.1 h0 3).toInt := congrArg Int32.toInt ((yK.ag (F := []) yK.rf (show yAg S [63] d_43 d_73 from by rw [ed_73]; exact yAg.cs yAg.rf (by rw [hky_68]; decide)) (by rw [hk_h0]; decide)) 3 (by decide))
          have hE63d_73 : (d_73.1 h0 63).toInt = (d_43.1 h0 63).toInt := congrArg Int32.toInt ((yK.ag (F := []) yK.rf (show yAg S [63] d_43 d_73 from by rw [ed_73]; exact yAg.cs yAg.rf (by rw [hky_68]; decide)) (by rw [hk_h0]; decide)) 63 (by decide))
          refine lv_aload_n hx hb dX9_image_247 rfl (lv_at hl 1 rfl) ?_
          refine yget (ci := 9) (k := 34) (v := .ref (S.2.2.1 h0 34)) (C := RX9) (T := TX9) (N := 67) C0 hK hP hm_h0 hk_h0 (by decide) rfl inlX9 (by decide) mW140 (fun _ h9 => h9) rfl dX9_image_248 ?_
          obtain ⟨hmy_74, hky_74⟩ := ySh.f9_34 hSh _ hm_h0 hk_h0
          refine lv_iload_n hx hb dX9_image_251 rfl (lv_at hl 0 rfl) ?_
          refine lv_aload_n hx hb dX9_image_252 rfl (lv_at hl 1 rfl) ?_
          refine yget (ci := 9) (k := 16) (v := .ref (S.2.2.1 h0 16)) (C := RX9) (T := TX9) (N := 67) C0 hK hP hm_h0 hk_h0 (by decide) rfl inlX9 (by decide) mW123 (fun _ h9 => h9) rfl dX9_image_253 ?_
          obtain ⟨hmy_75, hky_75⟩ := ySh.f9_16 hSh _ hm_h0 hk_h0
          refine lv_iload_n hx hb dX9_image_256 rfl (lv_at hl 0 rfl) ?_
          have hCC_76 := yMI.c hId_73
          refine yald C0 hK hP hmy_75 hky_75 (by decide) rfl 0 rfl (xinT 5000 rfl (by omega) (by omega)) dX9_image_257 ?_
          refine lv_topi (fun z_77 ez_77 => ?_)
          have hvz_77 : 0 ≤ (z_77 : Int32).toInt ∧ (z_77 : Int32).toInt ≤ 129599 := by rw [ez_77]; exact yMI.em_ hId_73 _
          refine yast C0 hK hP hD hS hmy_74 hky_74 (by decide) rfl 0 rfl (xinT 5000 rfl (by omega) (by omega)) dX9_image_258 (fun H locs hP hD hS => ?_)
          obtain ⟨d_78, ed_78⟩ : ∃ z : yD, z = ycs d_73 (S.2.2.1 h0 34) (upd (d_73.2.2.2.1 (S.2.2.1 h0 34)) (v_42 : Int32).toNatClampNeg z_77) := ⟨_, rfl⟩
          rw [← ed_78] at hP hD
          have hgd_78 : yAg S [9, 51, 52, 53, 54, 55, 56, 57, 58, 59, 60, 61, 62, 63, 64, 65, 66, 67] d d_78 := by rw [ed_78]; exact yAg.cs hgd_73 (by rw [hky_74]; decide)
          have hsd_78 : yAg S [64] d_73 d_78 := by rw [ed_78]; exact yAg.cs yAg.rf (by rw [hky_74]; decide)
          have hPod_78 : yPo S d_78 := by rw [ed_78]; exact hPod_73
          have hfd_78 : yK [20, 38] d d_78 h0 := yK.ag hfd_73 (show yAg S [64] d_73 d_78 from by rw [ed_78]; exact yAg.cs yAg.rf (by rw [hky_74]; decide)) (by rw [hk_h0]; decide)
          have hL0d_78 : yAg S [63, 64, 65] d_36 d_78 := by rw [ed_78]; exact yAg.cs hL0d_73 (by rw [hky_74]; decide)
          have hK0d_78 : yK [] d_36 d_78 h0 := yK.ag hK0d_73 (show yAg S [64] d_73 d_78 from by rw [ed_78]; exact yAg.cs yAg.rf (by rw [hky_74]; decide)) (by rw [hk_h0]; decide)
          have hId_78 : yMI S d_78 h0 := by rw [ed_78]; exact yMI.w34 hId_73 hSh hm_h0 hk_h0 (yBr.up (yMI.ke_ hId_73) ⟨by omega, by omega⟩)
          have hE0d_78 : (d_78.1 h0 0).toInt = (d_73.1 h0 0).toInt := congrArg Int32.toInt ((yK.ag (F := []) yK.rf (show yAg S [64] d_73 d_78 from by rw [ed_78]; exact yAg.cs yAg.rf (by rw [hky_74]; decide)) (by rw [hk_h0]; decide)) 0 (by decide))
          have hE1d_78 : (d_78.1 h0 1).toInt = (d_73.1 h0 1).toInt := congrArg Int32.toInt ((yK.ag (F := []) yK.rf (show yAg S [64] d_73 d_78 from by rw [ed_78]; exact yAg.cs yAg.rf (by rw [hky_74]; decide)) (by rw [hk_h0]; decide)) 1 (by decide))
          have hE2d_78 : (d_78.1 h0 2).toInt = (d_73.1 h0 2).toInt := congrArg Int32.toInt ((yK.ag (F := []) yK.rf (show yAg S [64] d_73 d_78 from by rw [ed_78]; exact yAg.cs yAg.rf (by rw [hky_74]; decide)) (by rw [hk_h0]; decide)) 2 (by decide))
          have hE3d_78 : (d_78.1 h0 3).toInt = (d_73.1 h0 3).toInt := congrArg Int32.toInt ((yK.ag (F := []) yK.rf (show yAg S [64] d_73 d_78 from by rw [ed_78]; exact yAg.cs yAg.rf (by rw [hky_74]; decide)) (by rw [hk_h0]; decide)) 3 (by decide))
          have hE63d_78 : (d_78.1 h0 63).toInt = (d_73.1 h0 63).toInt := congrArg Int32.toInt ((yK.ag (F := []) yK.rf (show yAg S [64] d_73 d_78 from by rw [ed_78]; exact yAg.cs yAg.rf (by rw [hky_74]; decide)) (by rw [hk_h0]; decide)) 63 (by decide))
          refine lv_aload_n hx hb dX9_image_259 rfl (lv_at hl 1 rfl) ?_
          refine yget (ci := 9) (k := 35) (v := .ref (S.2.2.1 h0 35)) (C := RX9) (T := TX9) (N := 67) C0 hK hP hm_h0 hk_h0 (by decide) rfl inlX9 (by decide) mW141 (fun _ h9 => h9) rfl dX9_image_260 ?_
          obtain ⟨hmy_80, hky_80⟩ := ySh.f9_35 hSh _ hm_h0 hk_h0
          refine lv_iload_n hx hb dX9_image_263 rfl (lv_at hl 0 rfl) ?_
          refine lv_aload_n hx hb dX9_image_264 rfl (lv_at hl 1 rfl) ?_
          refine yget (ci := 9) (k := 17) (v := .ref (S.2.2.1 h0 17)) (C := RX9) (T := TX9) (N := 67) C0 hK hP hm_h0 hk_h0 (by decide) rfl inlX9 (by decide) mW124 (fun _ h9 => h9) rfl dX9_image_265 ?_
          obtain ⟨hmy_81, hky_81⟩ := ySh.f9_17 hSh _ hm_h0 hk_h0
          refine lv_iload_n hx hb dX9_image_268 rfl (lv_at hl 0 rfl) ?_
          have hCC_82 := yMI.c hId_78
          refine yaldB C0 hK hP hmy_81 hky_81 (by decide) rfl 1 rfl (xinT 5000 rfl (by omega) (by omega)) dX9_image_269 ?_
          refine lv_topi (fun z_83 ez_83 => ?_)
          refine yastB C0 hK hP hD hS hmy_80 hky_80 (by decide) rfl 1 rfl (xinT 5000 rfl (by omega) (by omega)) dX9_image_270 (fun H locs hP hD hS => ?_)
          obtain ⟨d_84, ed_84⟩ : ∃ z : yD, z = ycs d_78 (S.2.2.1 h0 35) (upd (d_78.2.2.2.1 (S.2.2.1 h0 35)) (v_42 : Int32).toNatClampNeg (vp_nar .byte z_83)) := ⟨_, rfl⟩
          rw [← ed_84] at hP hD
          have hgd_84 : yAg S [9, 51, 52, 53, 54, 55, 56, 57, 58, 59, 60, 61, 62, 63, 64, 65, 66, 67] d d_84 := by rw [ed_84]; exact yAg.cs hgd_78 (by rw [hky_80]; decide)
          have hsd_84 : yAg S [65] d_78 d_84 := by rw [ed_84]; exact yAg.cs yAg.rf (by rw [hky_80]; decide)
          have hPod_84 : yPo S d_84 := by rw [ed_84]; exact hPod_78
          have hfd_84 : yK [20, 38] d d_84 h0 := yK.ag hfd_78 (show yAg S [65] d_78 d_84 from by rw [ed_84]; exact yAg.cs yAg.rf (by rw [hky_80]; decide)) (by rw [hk_h0]; decide)
          have hL0d_84 : yAg S [63, 64, 65] d_36 d_84 := by rw [ed_84]; exact yAg.cs hL0d_78 (by rw [hky_80]; decide)
          have hK0d_84 : yK [] d_36 d_84 h0 := yK.ag hK0d_78 (show yAg S [65] d_78 d_84 from by rw [ed_84]; exact yAg.cs yAg.rf (by rw [hky_80]; decide)) (by rw [hk_h0]; decide)
          have hId_84 : yMI S d_84 h0 := yMI.ag hId_78 hSh hm_h0 hk_h0 (show yAg S [65] d_78 d_84 from by rw [ed_84]; exact yAg.cs yAg.rf (by rw [hky_80]; decide)) (yK.ag (F := []) yK.rf (show yAg S [65] d_78 d_84 from by rw [ed_84]; exact yAg.cs yAg.rf (by rw [hky_80]; decide)) (by rw [hk_h0]; decide)) (by decide) (by decide)
          have hE0d_84 : (d_84.1 h0 0).toInt = (d_78.1 h0 0).toInt := congrArg Int32.toInt ((yK.ag (F := []) yK.rf (show yAg S [65] d_78 d_84 from by rw [ed_84]; exact yAg.cs yAg.rf (by rw [hky_80]; decide)) (by rw [hk_h0]; decide)) 0 (by decide))
          have hE1d_84 : (d_84.1 h0 1).toInt = (d_78.1 h0 1).toInt := congrArg Int32.toInt ((yK.ag (F := []) yK.rf (show yAg S [65] d_78 d_84 from by rw [ed_84]; exact yAg.cs yAg.rf (by rw [hky_80]; decide)) (by rw [hk_h0]; decide)) 1 (by decide))
          have hE2d_84 : (d_84.1 h0 2).toInt = (d_78.1 h0 2).toInt := congrArg Int32.toInt ((yK.ag (F := []) yK.rf (show yAg S [65] d_78 d_84 from by rw [ed_84]; exact yAg.cs yAg.rf (by rw [hky_80]; decide)) (by rw [hk_h0]; decide)) 2 (by decide))
          have hE3d_84 : (d_84.1 h0 3).toInt = (d_78.1 h0 3).toInt := congrArg Int32.toInt ((yK.ag (F := []) yK.rf (show yAg S [65] d_78 d_84 from by rw [ed_84]; exact yAg.cs yAg.rf (by rw [hky_80]; decide)) (by rw [hk_h0]; decide)) 3 (by decide))
          have hE63d_84 : (d_84.1 h0 63).toInt = (d_78.1 h0 63).toInt := congrArg Int32.toInt ((yK.ag (F := []) yK.rf (show yAg S [65] d_78 d_84 from by rw [ed_84]; exact yAg.cs yAg.rf (by rw [hky_80]; decide)) (by rw [hk_h0]; decide)) 63 (by decide))
          refine lv_iinc (v := v_42 + 1) (lv' := [(1, .int (v_42 + 1)), (0, .ref h0)]) hx hb dX9_image_271 hl (k := 0) rfl rfl (by decide) rfl (fun ls hl => ?_)
          refine lv_goto (tgt := 228) hx hb dX9_image_274 (by decide) ?_
          have hCC_86 := yMI.c hId_84
          have T_87 : ((v_42 + 1) : Int32).toInt = (v_42 : Int32).toInt + 1 := tadd rfl (rfl : (v_42 : Int32).toInt = (v_42 : Int32).toInt) (by decide +kernel : (1 : Int32).toInt = 1) (by omega) (by omega)
          exact hnext_44 (v_42 + 1, d_84) _ _ ls (xup c_46) ⟨hP, hD, hS, hgd_84, hPod_84, hfd_84, hId_84, hL0d_84, hK0d_84, (show (0 ≤ (((v_42 + 1)) : Int32).toInt) from by have hq0_ : (0 : Int32).toInt = 0 := (by decide +kernel); omega), lv_sub hl [0, 1] rfl⟩
      · refine lv_aload_n hx hb dX9_image_184 rfl (lv_at hl 1 rfl) ?_
        refine yget (ci := 9) (k := 30) (v := .ref (S.2.2.1 h0 30)) (C := RX9) (T := TX9) (N := 67) C0 hK hP hm_h0 hk_h0 (by decide) rfl inlX9 (by decide) mW136 (fun _ h9 => h9) rfl dX9_image_185 ?_
        obtain ⟨hmy_88, hky_88⟩ := ySh.f9_30 hSh _ hm_h0 hk_h0
        refine lv_iload_n hx hb dX9_image_188 rfl (lv_at hl 0 rfl) ?_
        refine lv_aload_n hx hb dX9_image_189 rfl (lv_at hl 1 rfl) ?_
        refine yget (ci := 9) (k := 12) (v := .ref (S.2.2.1 h0 12)) (C := RX9) (T := TX9) (N := 67) C0 hK hP hm_h0 hk_h0 (by decide) rfl inlX9 (by decide) mW118 (fun _ h9 => h9) rfl dX9_image_190 ?_
        obtain ⟨hmy_89, hky_89⟩ := ySh.f9_12 hSh _ hm_h0 hk_h0
        refine lv_iload_n hx hb dX9_image_193 rfl (lv_at hl 0 rfl) ?_
        have hCC_90 := yMI.c hId_36
        have F_91 := fnle (by decide +kernel : (720 : Int32).toInt = 720) (rfl : (v_35 : Int32).toInt = (v_35 : Int32).toInt) c_39
        refine yaldS C0 hK hP hmy_89 hky_89 (by decide) rfl 2 rfl (xinT 720 rfl (by omega) (by omega)) dX9_image_194 ?_
        refine lv_topi (fun z_92 ez_92 => ?_)
        refine yastS C0 hK hP hD hS hmy_88 hky_88 (by decide) rfl 2 rfl (xinT 720 rfl (by omega) (by omega)) dX9_image_195 (fun H locs hP hD hS => ?_)
        obtain ⟨d_93, ed_93⟩ : ∃ z : yD, z = ycs d_36 (S.2.2.1 h0 30) (upd (d_36.2.2.2.1 (S.2.2.1 h0 30)) (v_35 : Int32).toNatClampNeg (vp_nar .short z_92)) := ⟨_, rfl⟩
        rw [← ed_93] at hP hD
        have hgd_93 : yAg S [9, 51, 52, 53, 54, 55, 56, 57, 58, 59, 60, 61, 62, 63, 64, 65, 66, 67] d d_93 := by rw [ed_93]; exact yAg.cs hgd_36 (by rw [hky_88]; decide)
        have hsd_93 : yAg S [60] d_36 d_93 := by rw [ed_93]; exact yAg.cs yAg.rf (by rw [hky_88]; decide)
        have hPod_93 : yPo S d_93 := by rw [ed_93]; exact hPod_36
        have hfd_93 : yK [20, 38] d d_93 h0 := yK.ag hfd_36 (show yAg S [60] d_36 d_93 from by rw [ed_93]; exact yAg.cs yAg.rf (by rw [hky_88]; decide)) (by rw [hk_h0]; decide)
        have hL0d_93 : yAg S [60, 61, 62] d_29 d_93 := by rw [ed_93]; exact yAg.cs hLJd_36 (by rw [hky_88]; decide)
        have hK0d_93 : yK [] d_29 d_93 h0 := yK.ag hKJd_36 (show yAg S [60] d_36 d_93 from by rw [ed_93]; exact yAg.cs yAg.rf (by rw [hky_88]; decide)) (by rw [hk_h0]; decide)
        have hId_93 : yMI S d_93 h0 := yMI.ag hId_36 hSh hm_h0 hk_h0 (show yAg S [60] d_36 d_93 from by rw [ed_93]; exact yAg.cs yAg.rf (by rw [hky_88]; decide)) (yK.ag (F := []) yK.rf (show yAg S [60] d_36 d_93 from by rw [ed_93]; exact yAg.cs yAg.rf (by rw [hky_88]; decide)) (by rw [hk_h0]; decide)) (by decide) (by decide)
        have hE0d_93 : (d_93.1 h0 0).toInt = (d_36.1 h0 0).toInt := congrArg Int32.toInt ((yK.ag (F := []) yK.rf (show yAg S [60] d_36 d_93 from by rw [ed_93]; exact yAg.cs yAg.rf (by rw [hky_88]; decide)) (by rw [hk_h0]; decide)) 0 (by decide))
        have hE1d_93 : (d_93.1 h0 1).toInt = (d_36.1 h0 1).toInt := congrArg Int32.toInt ((yK.ag (F := []) yK.rf (show yAg S [60] d_36 d_93 from by rw [ed_93]; exact yAg.cs yAg.rf (by rw [hky_88]; decide)) (by rw [hk_h0]; decide)) 1 (by decide))
        have hE2d_93 : (d_93.1 h0 2).toInt = (d_36.1 h0 2).toInt := congrArg Int32.toInt ((yK.ag (F := []) yK.rf (show yAg S [60] d_36 d_93 from by rw [ed_93]; exact yAg.cs yAg.rf (by rw [hky_88]; decide)) (by rw [hk_h0]; decide)) 2 (by decide))
        have hE3d_93 : (d_93.1 h0 3).toInt = (d_36.1 h0 3).toInt := congrArg Int32.toInt ((yK.ag (F := []) yK.rf (show yAg S [60] d_36 d_93 from by rw [ed_93]; exact yAg.cs yAg.rf (by rw [hky_88]; decide)) (by rw [hk_h0]; decide)) 3 (by decide))
        have hE63d_93 : (d_93.1 h0 63).toInt = (d_36.1 h0 63).toInt := congrArg Int32.toInt ((yK.ag (F := []) yK.rf (show yAg S [60] d_36 d_93 from by rw [ed_93]; exact yAg.cs yAg.rf (by rw [hky_88]; decide)) (by rw [hk_h0]; decide)) 63 (by decide))
        refine lv_aload_n hx hb dX9_image_196 rfl (lv_at hl 1 rfl) ?_
        refine yget (ci := 9) (k := 31) (v := .ref (S.2.2.1 h0 31)) (C := RX9) (T := TX9) (N := 67) C0 hK hP hm_h0 hk_h0 (by decide) rfl inlX9 (by decide) mW137 (fun _ h9 => h9) rfl dX9_image_197 ?_
        obtain ⟨hmy_94, hky_94⟩ := ySh.f9_31 hSh _ hm_h0 hk_h0
        refine lv_iload_n hx hb dX9_image_200 rfl (lv_at hl 0 rfl) ?_
        refine lv_aload_n hx hb dX9_image_201 rfl (lv_at hl 1 rfl) ?_
        refine yget (ci := 9) (k := 13) (v := .ref (S.2.2.1 h0 13)) (C := RX9) (T := TX9) (N := 67) C0 hK hP hm_h0 hk_h0 (by decide) rfl inlX9 (by decide) mW120 (fun _ h9 => h9) rfl dX9_image_202 ?_
        obtain ⟨hmy_95, hky_95⟩ := ySh.f9_13 hSh _ hm_h0 hk_h0
        refine lv_iload_n hx hb dX9_image_205 rfl (lv_at hl 0 rfl) ?_
        have hCC_96 := yMI.c hId_93
        refine yaldZ C0 hK hP hmy_95 hky_95 (by decide) rfl 3 rfl (xinT 720 rfl (by omega) (by omega)) dX9_image_206 ?_
        refine lv_topi (fun z_97 ez_97 => ?_)
        refine yastZ C0 hK hP hD hS hmy_94 hky_94 (by decide) rfl 3 rfl (xinT 720 rfl (by omega) (by omega)) dX9_image_207 (fun H locs hP hD hS => ?_)
        obtain ⟨d_98, ed_98⟩ : ∃ z : yD, z = ycs d_93 (S.2.2.1 h0 31) (upd (d_93.2.2.2.1 (S.2.2.1 h0 31)) (v_35 : Int32).toNatClampNeg (vp_nar .boolean z_97)) := ⟨_, rfl⟩
        rw [← ed_98] at hP hD
        have hgd_98 : yAg S [9, 51, 52, 53, 54, 55, 56, 57, 58, 59, 60, 61, 62, 63, 64, 65, 66, 67] d d_98 := by rw [ed_98]; exact yAg.cs hgd_93 (by rw [hky_94]; decide)
        have hsd_98 : yAg S [61] d_93 d_98 := by rw [ed_98]; exact yAg.cs yAg.rf (by rw [hky_94]; decide)
        have hPod_98 : yPo S d_98 := by rw [ed_98]; exact hPod_93
        have hfd_98 : yK [20, 38] d d_98 h0 := yK.ag hfd_93 (show yAg S [61] d_93 d_98 from by rw [ed_98]; exact yAg.cs yAg.rf (by rw [hky_94]; decide)) (by rw [hk_h0]; decide)
        have hL0d_98 : yAg S [60, 61, 62] d_29 d_98 := by rw [ed_98]; exact yAg.cs hL0d_93 (by rw [hky_94]; decide)
        have hK0d_98 : yK [] d_29 d_98 h0 := yK.ag hK0d_93 (show yAg S [61] d_93 d_98 from by rw [ed_98]; exact yAg.cs yAg.rf (by rw [hky_94]; decide)) (by rw [hk_h0]; decide)
        have hId_98 : yMI S d_98 h0 := yMI.ag hId_93 hSh hm_h0 hk_h0 (show yAg S [61] d_93 d_98 from by rw [ed_98]; exact yAg.cs yAg.rf (by rw [hky_94]; decide)) (yK.ag (F := []) yK.rf (show yAg S [61] d_93 d_98 from by rw [ed_98]; exact yAg.cs yAg.rf (by rw [hky_94]; decide)) (by rw [hk_h0]; decide)) (by decide) (by decide)
        have hE0d_98 : (d_98.1 h0 0).toInt = (d_93.1 h0 0).toInt := congrArg Int32.toInt ((yK.ag (F := []) yK.rf (show yAg S [61] d_93 d_98 from by rw [ed_98]; exact yAg.cs yAg.rf (by rw [hky_94]; decide)) (by rw [hk_h0]; decide)) 0 (by decide))
        have hE1d_98 : (d_98.1 h0 1).toInt = (d_93.1 h0 1).toInt := congrArg Int32.toInt ((yK.ag (F := []) yK.rf (show yAg S [61] d_93 d_98 from by rw [ed_98]; exact yAg.cs yAg.rf (by rw [hky_94]; decide)) (by rw [hk_h0]; decide)) 1 (by decide))
        have hE2d_98 : (d_98.1 h0 2).toInt = (d_93.1 h0 2).toInt := congrArg Int32.toInt ((yK.ag (F := []) yK.rf (show yAg S [61] d_93 d_98 from by rw [ed_98]; exact yAg.cs yAg.rf (by rw [hky_94]; decide)) (by rw [hk_h0]; decide)) 2 (by decide))
        have hE3d_98 : (d_98.1 h0 3).toInt = (d_93.1 h0 3).toInt := congrArg Int32.toInt ((yK.ag (F := []) yK.rf (show yAg S [61] d_93 d_98 from by rw [ed_98]; exact yAg.cs yAg.rf (by rw [hky_94]; decide)) (by rw [hk_h0]; decide)) 3 (by decide))
        have hE63d_98 : (d_98.1 h0 63).toInt = (d_93.1 h0 63).toInt := congrArg Int32.toInt ((yK.ag (F := []) yK.rf (show yAg S [61] d_93 d_98 from by rw [ed_98]; exact yAg.cs yAg.rf (by rw [hky_94]; decide)) (by rw [hk_h0]; decide)) 63 (by decide))
        refine lv_aload_n hx hb dX9_image_208 rfl (lv_at hl 1 rfl) ?_
        refine yget (ci := 9) (k := 32) (v := .ref (S.2.2.1 h0 32)) (C := RX9) (T := TX9) (N := 67) C0 hK hP hm_h0 hk_h0 (by decide) rfl inlX9 (by decide) mW138 (fun _ h9 => h9) rfl dX9_image_209 ?_
        obtain ⟨hmy_99, hky_99⟩ := ySh.f9_32 hSh _ hm_h0 hk_h0
        refine lv_iload_n hx hb dX9_image_212 rfl (lv_at hl 0 rfl) ?_
        refine lv_aload_n hx hb dX9_image_213 rfl (lv_at hl 1 rfl) ?_
        refine yget (ci := 9) (k := 14) (v := .ref (S.2.2.1 h0 14)) (C := RX9) (T := TX9) (N := 67) C0 hK hP hm_h0 hk_h0 (by decide) rfl inlX9 (by decide) mW121 (fun _ h9 => h9) rfl dX9_image_214 ?_
        obtain ⟨hmy_100, hky_100⟩ := ySh.f9_14 hSh _ hm_h0 hk_h0
        refine lv_iload_n hx hb dX9_image_217 rfl (lv_at hl 0 rfl) ?_
        have hCC_101 := yMI.c hId_98
        refine yaldZ C0 hK hP hmy_100 hky_100 (by decide) rfl 3 rfl (xinT 720 rfl (by omega) (by omega)) dX9_image_218 ?_
        refine lv_topi (fun z_102 ez_102 => ?_)
        have hzz_102 : z_102 = 0 ∨ z_102 = 1 := by rw [ez_102]; exact yMI.z_ hId_98 _
        refine yastZ C0 hK hP hD hS hmy_99 hky_99 (by decide) rfl 3 rfl (xinT 720 rfl (by omega) (by omega)) dX9_image_219 (fun H locs hP hD hS => ?_)
        obtain ⟨d_103, ed_103⟩ : ∃ z : yD, z = ycs d_98 (S.2.2.1 h0 32) (upd (d_98.2.2.2.1 (S.2.2.1 h0 32)) (v_35 : Int32).toNatClampNeg (vp_nar .boolean z_102)) := ⟨_, rfl⟩
        rw [← ed_103] at hP hD
        have hgd_103 : yAg S [9, 51, 52, 53, 54, 55, 56, 57, 58, 59, 60, 61, 62, 63, 64, 65, 66, 67] d d_103 := by rw [ed_103]; exact yAg.cs hgd_98 (by rw [hky_99]; decide)
        have hsd_103 : yAg S [62] d_98 d_103 := by rw [ed_103]; exact yAg.cs yAg.rf (by rw [hky_99]; decide)
        have hPod_103 : yPo S d_103 := by rw [ed_103]; exact hPod_98
        have hfd_103 : yK [20, 38] d d_103 h0 := yK.ag hfd_98 (show yAg S [62] d_98 d_103 from by rw [ed_103]; exact yAg.cs yAg.rf (by rw [hky_99]; decide)) (by rw [hk_h0]; decide)
        have hL0d_103 : yAg S [60, 61, 62] d_29 d_103 := by rw [ed_103]; exact yAg.cs hL0d_98 (by rw [hky_99]; decide)
        have hK0d_103 : yK [] d_29 d_103 h0 := yK.ag hK0d_98 (show yAg S [62] d_98 d_103 from by rw [ed_103]; exact yAg.cs yAg.rf (by rw [hky_99]; decide)) (by rw [hk_h0]; decide)
        have hId_103 : yMI S d_103 h0 := by rw [ed_103]; exact yMI.w32 hId_98 hSh hm_h0 hk_h0 (yBz.up (yMI.kz_ hId_98) hzz_102)
        have hE0d_103 : (d_103.1 h0 0).toInt = (d_98.1 h0 0).toInt := congrArg Int32.toInt ((yK.ag (F := []) yK.rf (show yAg S [62] d_98 d_103 from by rw [ed_103]; exact yAg.cs yAg.rf (by rw [hky_99]; decide)) (by rw [hk_h0]; decide)) 0 (by decide))
        have hE1d_103 : (d_103.1 h0 1).toInt = (d_98.1 h0 1).toInt := congrArg Int32.toInt ((yK.ag (F := []) yK.rf (show yAg S [62] d_98 d_103 from by rw [ed_103]; exact yAg.cs yAg.rf (by rw [hky_99]; decide)) (by rw [hk_h0]; decide)) 1 (by decide))
        have hE2d_103 : (d_103.1 h0 2).toInt = (d_98.1 h0 2).toInt := congrArg Int32.toInt ((yK.ag (F := []) yK.rf (show yAg S [62] d_98 d_103 from by rw [ed_103]; exact yAg.cs yAg.rf (by rw [hky_99]; decide)) (by rw [hk_h0]; decide)) 2 (by decide))
        have hE3d_103 : (d_103.1 h0 3).toInt = (d_98.1 h0 3).toInt := congrArg Int32.toInt ((yK.ag (F := []) yK.rf (show yAg S [62] d_98 d_103 from by rw [ed_103]; exact yAg.cs yAg.rf (by rw [hky_99]; decide)) (by rw [hk_h0]; decide)) 3 (by decide))
        have hE63d_103 : (d_103.1 h0 63).toInt = (d_98.1 h0 63).toInt := congrArg Int32.toInt ((yK.ag (F := []) yK.rf (show yAg S [62] d_98 d_103 from by rw [ed_103]; exact yAg.cs yAg.rf (by rw [hky_99]; decide)) (by rw [hk_h0]; decide)) 63 (by decide))
        refine lv_iinc (v := v_35 + 1) (lv' := [(1, .int (v_35 + 1)), (0, .ref h0)]) hx hb dX9_image_220 hl (k := 0) rfl rfl (by decide) rfl (fun ls hl => ?_)
        refine lv_goto (tgt := 177) hx hb dX9_image_223 (by decide) ?_
        have hCC_105 := yMI.c hId_103
        have T_106 : ((v_35 + 1) : Int32).toInt = (v_35 : Int32).toInt + 1 := tadd rfl (rfl : (v_35 : Int32).toInt = (v_35 : Int32).toInt) (by decide +kernel : (1 : Int32).toInt = 1) (by omega) (by omega)
        exact hnext_37 (v_35 + 1, d_103) _ _ ls (xup c_39) ⟨hP, hD, hS, hgd_103, hPod_103, hfd_103, hId_103, hL0d_103, hK0d_103, (show (0 ≤ (((v_35 + 1)) : Int32).toInt) from by have hq0_ : (0 : Int32).toInt = 0 := (by decide +kernel); omega), lv_sub hl [0, 1] rfl⟩
    · refine lv_aload_n hx hb dX9_image_157 rfl (lv_at hl 1 rfl) ?_
      refine yget (ci := 9) (k := 29) (v := .ref (S.2.2.1 h0 29)) (C := RX9) (T := TX9) (N := 67) C0 hK hP hm_h0 hk_h0 (by decide) rfl inlX9 (by decide) mW135 (fun _ h9 => h9) rfl dX9_image_158 ?_
      obtain ⟨hmy_107, hky_107⟩ := ySh.f9_29 hSh _ hm_h0 hk_h0
      refine lv_iload_n hx hb dX9_image_161 rfl (lv_at hl 0 rfl) ?_
      refine lv_aload_n hx hb dX9_image_162 rfl (lv_at hl 1 rfl) ?_
      refine yget (ci := 9) (k := 11) (v := .ref (S.2.2.1 h0 11)) (C := RX9) (T := TX9) (N := 67) C0 hK hP hm_h0 hk_h0 (by decide) rfl inlX9 (by decide) mW116 (fun _ h9 => h9) rfl dX9_image_163 ?_
      obtain ⟨hmy_108, hky_108⟩ := ySh.f9_11 hSh _ hm_h0 hk_h0
      refine lv_iload_n hx hb dX9_image_166 rfl (lv_at hl 0 rfl) ?_
      have hCC_109 := yMI.c hId_29
      have F_110 := fnle (by decide +kernel : (96 : Int32).toInt = 96) (rfl : (v_28 : Int32).toInt = (v_28 : Int32).toInt) c_32
      refine yaldJ C0 hK hP hmy_108 hky_108 (by decide) rfl 4 rfl (xinT 96 rfl (by omega) (by omega)) dX9_image_167 ?_
      refine lv_topl (fun z_111 ez_111 => ?_)
      refine yastJ C0 hK hP hD hS hmy_107 hky_107 (by decide) rfl 4 rfl (xinT 96 rfl (by omega) (by omega)) dX9_image_168 (fun H locs hP hD hS => ?_)
      obtain ⟨d_112, ed_112⟩ : ∃ z : yD, z = ye d_29 (S.2.2.1 h0 29) (v_28 : Int32).toNatClampNeg z_111 := ⟨_, rfl⟩
      rw [← ed_112] at hP hD
      have hgd_112 : yAg S [9, 51, 52, 53, 54, 55, 56, 57, 58, 59, 60, 61, 62, 63, 64, 65, 66, 67] d d_112 := by rw [ed_112]; exact yAg.e hgd_29 (by rw [hky_107]; decide)
      have hsd_112 : yAg S [59] d_29 d_112 := by rw [ed_112]; exact yAg.e yAg.rf (by rw [hky_107]; decide)
      have hPod_112 : yPo S d_112 := by rw [ed_112]; exact hPod_29
      have hfd_112 : yK [20, 38] d d_112 h0 := yK.ag hfd_29 (show yAg S [59] d_29 d_112 from by rw [ed_112]; exact yAg.e yAg.rf (by rw [hky_107]; decide)) (by rw [hk_h0]; decide)
      have hL0d_112 : yAg S [59] d_22 d_112 := by rw [ed_112]; exact yAg.e hLJd_29 (by rw [hky_107]; decide)
      have hK0d_112 : yK [] d_22 d_112 h0 := yK.ag hKJd_29 (show yAg S [59] d_29 d_112 from by rw [ed_112]; exact yAg.e yAg.rf (by rw [hky_107]; decide)) (by rw [hk_h0]; decide)
      have hId_112 : yMI S d_112 h0 := by rw [ed_112]; exact yMI.w29 hId_29 hSh hm_h0 hk_h0 (yBp.up (yMI.kb_ hId_29) (fun p hp e => by rw [ez_111, show (v_28 : Int32).toNatClampNeg = 12 * p + 1 from e]; exact (yMI.bp_ hId_29 p hp).1) (fun p hp e => by rw [ez_111, show (v_28 : Int32).toNatClampNeg = 12 * p + 2 from e]; exact (yMI.bp_ hId_29 p hp).2.1) (fun p hp e => by rw [ez_111, show (v_28 : Int32).toNatClampNeg = 12 * p + 6 from e]; exact (yMI.bp_ hId_29 p hp).2.2))
      have hE0d_112 : (d_112.1 h0 0).toInt = (d_29.1 h0 0).toInt := congrArg Int32.toInt ((yK.ag (F := []) yK.rf (show yAg S [59] d_29 d_112 from by rw [ed_112]; exact yAg.e yAg.rf (by rw [hky_107]; decide)) (by rw [hk_h0]; decide)) 0 (by decide))
      have hE1d_112 : (d_112.1 h0 1).toInt = (d_29.1 h0 1).toInt := congrArg Int32.toInt ((yK.ag (F := []) yK.rf (show yAg S [59] d_29 d_112 from by rw [ed_112]; exact yAg.e yAg.rf (by rw [hky_107]; decide)) (by rw [hk_h0]; decide)) 1 (by decide))
      have hE2d_112 : (d_112.1 h0 2).toInt = (d_29.1 h0 2).toInt := congrArg Int32.toInt ((yK.ag (F := []) yK.rf (show yAg S [59] d_29 d_112 from by rw [ed_112]; exact yAg.e yAg.rf (by rw [hky_107]; decide)) (by rw [hk_h0]; decide)) 2 (by decide))
      have hE3d_112 : (d_112.1 h0 3).toInt = (d_29.1 h0 3).toInt := congrArg Int32.toInt ((yK.ag (F := []) yK.rf (show yAg S [59] d_29 d_112 from by rw [ed_112]; exact yAg.e yAg.rf (by rw [hky_107]; decide)) (by rw [hk_h0]; decide)) 3 (by decide))
      have hE63d_112 : (d_112.1 h0 63).toInt = (d_29.1 h0 63).toInt := congrArg Int32.toInt ((yK.ag (F := []) yK.rf (show yAg S [59] d_29 d_112 from by rw [ed_112]; exact yAg.e yAg.rf (by rw [hky_107]; decide)) (by rw [hk_h0]; decide)) 63 (by decide))
      refine lv_iinc (v := v_28 + 1) (lv' := [(1, .int (v_28 + 1)), (0, .ref h0)]) hx hb dX9_image_169 hl (k := 0) rfl rfl (by decide) rfl (fun ls hl => ?_)
      refine lv_goto (tgt := 151) hx hb dX9_image_172 (by decide) ?_
      have hCC_114 := yMI.c hId_112
      have T_115 : ((v_28 + 1) : Int32).toInt = (v_28 : Int32).toInt + 1 := tadd rfl (rfl : (v_28 : Int32).toInt = (v_28 : Int32).toInt) (by decide +kernel : (1 : Int32).toInt = 1) (by omega) (by omega)
      exact hnext_30 (v_28 + 1, d_112) _ _ ls (xup c_32) ⟨hP, hD, hS, hgd_112, hPod_112, hfd_112, hId_112, hL0d_112, hK0d_112, (show (0 ≤ (((v_28 + 1)) : Int32).toInt) from by have hq0_ : (0 : Int32).toInt = 0 := (by decide +kernel); omega), lv_sub hl [0, 1] rfl⟩
  · refine lv_aload_n hx hb dX9_image_59 rfl (lv_at hl 1 rfl) ?_
    refine yget (ci := 9) (k := 22) (v := .ref (S.2.2.1 h0 22)) (C := RX9) (T := TX9) (N := 67) C0 hK hP hm_h0 hk_h0 (by decide) rfl inlX9 (by decide) mW128 (fun _ h9 => h9) rfl dX9_image_60 ?_
    obtain ⟨hmy_116, hky_116⟩ := ySh.f9_22 hSh _ hm_h0 hk_h0
    refine lv_iload_n hx hb dX9_image_63 rfl (lv_at hl 0 rfl) ?_
    refine lv_aload_n hx hb dX9_image_64 rfl (lv_at hl 1 rfl) ?_
    refine yget (ci := 9) (k := 4) (v := .ref (S.2.2.1 h0 4)) (C := RX9) (T := TX9) (N := 67) C0 hK hP hm_h0 hk_h0 (by decide) rfl inlX9 (by decide) mW108 (fun _ h9 => h9) rfl dX9_image_65 ?_
    obtain ⟨hmy_117, hky_117⟩ := ySh.f9_4 hSh _ hm_h0 hk_h0
    refine lv_iload_n hx hb dX9_image_68 rfl (lv_at hl 0 rfl) ?_
    have hCC_118 := yMI.c hId_22
    have F_119 := fnle (by decide +kernel : (2400 : Int32).toInt = 2400) (rfl : (v_21 : Int32).toInt = (v_21 : Int32).toInt) c_25
    refine yaldB C0 hK hP hmy_117 hky_117 (by decide) rfl 1 rfl (xinT 2400 rfl (by omega) (by omega)) dX9_image_69 ?_
    refine lv_topi (fun z_120 ez_120 => ?_)
    refine yastB C0 hK hP hD hS hmy_116 hky_116 (by decide) rfl 1 rfl (xinT 2400 rfl (by omega) (by omega)) dX9_image_70 (fun H locs hP hD hS => ?_)
    obtain ⟨d_121, ed_121⟩ : ∃ z : yD, z = ycs d_22 (S.2.2.1 h0 22) (upd (d_22.2.2.2.1 (S.2.2.1 h0 22)) (v_21 : Int32).toNatClampNeg (vp_nar .byte z_120)) := ⟨_, rfl⟩
    rw [← ed_121] at hP hD
    have hgd_121 : yAg S [9, 51, 52, 53, 54, 55, 56, 57, 58, 59, 60, 61, 62, 63, 64, 65, 66, 67] d d_121 := by rw [ed_121]; exact yAg.cs hgd_22 (by rw [hky_116]; decide)
    have hsd_121 : yAg S [52] d_22 d_121 := by rw [ed_121]; exact yAg.cs yAg.rf (by rw [hky_116]; decide)
    have hPod_121 : yPo S d_121 := by rw [ed_121]; exact hPod_22
    have hfd_121 : yK [20, 38] d d_121 h0 := yK.ag hfd_22 (show yAg S [52] d_22 d_121 from by rw [ed_121]; exact yAg.cs yAg.rf (by rw [hky_116]; decide)) (by rw [hk_h0]; decide)
    have hL0d_121 : yAg S [52, 53, 54, 55, 56, 57, 58] d_17 d_121 := by rw [ed_121]; exact yAg.cs hLJd_22 (by rw [hky_116]; decide)
    have hK0d_121 : yK [] d_17 d_121 h0 := yK.ag hKJd_22 (show yAg S [52] d_22 d_121 from by rw [ed_121]; exact yAg.cs yAg.rf (by rw [hky_116]; decide)) (by rw [hk_h0]; decide)
    have hId_121 : yMI S d_121 h0 := yMI.ag hId_22 hSh hm_h0 hk_h0 (show yAg S [52] d_22 d_121 from by rw [ed_121]; exact yAg.cs yAg.rf (by rw [hky_116]; decide)) (yK.ag (F := []) yK.rf (show yAg S [52] d_22 d_121 from by rw [ed_121]; exact yAg.cs yAg.rf (by rw [hky_116]; decide)) (by rw [hk_h0]; decide)) (by decide) (by decide)
    have hE0d_121 : (d_121.1 h0 0).toInt = (d_22.1 h0 0).toInt := congrArg Int32.toInt ((yK.ag (F := []) yK.rf (show yAg S [52] d_22 d_121 from by rw [ed_121]; exact yAg.cs yAg.rf (by rw [hky_116]; decide)) (by rw [hk_h0]; decide)) 0 (by decide))
    have hE1d_121 : (d_121.1 h0 1).toInt = (d_22.1 h0 1).toInt := congrArg Int32.toInt ((yK.ag (F := []) yK.rf (show yAg S [52] d_22 d_121 from by rw [ed_121]; exact yAg.cs yAg.rf (by rw [hky_116]; decide)) (by rw [hk_h0]; decide)) 1 (by decide))
    have hE2d_121 : (d_121.1 h0 2).toInt = (d_22.1 h0 2).toInt := congrArg Int32.toInt ((yK.ag (F := []) yK.rf (show yAg S [52] d_22 d_121 from by rw [ed_121]; exact yAg.cs yAg.rf (by rw [hky_116]; decide)) (by rw [hk_h0]; decide)) 2 (by decide))
    have hE3d_121 : (d_121.1 h0 3).toInt = (d_22.1 h0 3).toInt := congrArg Int32.toInt ((yK.ag (F := []) yK.rf (show yAg S [52] d_22 d_121 from by rw [ed_121]; exact yAg.cs yAg.rf (by rw [hky_116]; decide)) (by rw [hk_h0]; decide)) 3 (by decide))
    have hE63d_121 : (d_121.1 h0 63).toInt = (d_22.1 h0 63).toInt := congrArg Int32.toInt ((yK.ag (F := []) yK.rf (show yAg S [52] d_22 d_121 from by rw [ed_121]; exact yAg.cs yAg.rf (by rw [hky_116]; decide)) (by rw [hk_h0]; decide)) 63 (by decide))
    refine lv_aload_n hx hb dX9_image_71 rfl (lv_at hl 1 rfl) ?_
    refine yget (ci := 9) (k := 23) (v := .ref (S.2.2.1 h0 23)) (C := RX9) (T := TX9) (N := 67) C0 hK hP hm_h0 hk_h0 (by decide) rfl inlX9 (by decide) mW129 (fun _ h9 => h9) rfl dX9_image_72 ?_
    obtain ⟨hmy_122, hky_122⟩ := ySh.f9_23 hSh _ hm_h0 hk_h0
    refine lv_iload_n hx hb dX9_image_75 rfl (lv_at hl 0 rfl) ?_
    refine lv_aload_n hx hb dX9_image_76 rfl (lv_at hl 1 rfl) ?_
    refine yget (ci := 9) (k := 5) (v := .ref (S.2.2.1 h0 5)) (C := RX9) (T := TX9) (N := 67) C0 hK hP hm_h0 hk_h0 (by decide) rfl inlX9 (by decide) mW109 (fun _ h9 => h9) rfl dX9_image_77 ?_
    obtain ⟨hmy_123, hky_123⟩ := ySh.f9_5 hSh _ hm_h0 hk_h0
    refine lv_iload_n hx hb dX9_image_80 rfl (lv_at hl 0 rfl) ?_
    have hCC_124 := yMI.c hId_121
    refine yaldB C0 hK hP hmy_123 hky_123 (by decide) rfl 1 rfl (xinT 2400 rfl (by omega) (by omega)) dX9_image_81 ?_
    refine lv_topi (fun z_125 ez_125 => ?_)
    refine yastB C0 hK hP hD hS hmy_122 hky_122 (by decide) rfl 1 rfl (xinT 2400 rfl (by omega) (by omega)) dX9_image_82 (fun H locs hP hD hS => ?_)
    obtain ⟨d_126, ed_126⟩ : ∃ z : yD, z = ycs d_121 (S.2.2.1 h0 23) (upd (d_121.2.2.2.1 (S.2.2.1 h0 23)) (v_21 : Int32).toNatClampNeg (vp_nar .byte z_125)) := ⟨_, rfl⟩
    rw [← ed_126] at hP hD
    have hgd_126 : yAg S [9, 51, 52, 53, 54, 55, 56, 57, 58, 59, 60, 61, 62, 63, 64, 65, 66, 67] d d_126 := by rw [ed_126]; exact yAg.cs hgd_121 (by rw [hky_122]; decide)
    have hsd_126 : yAg S [53] d_121 d_126 := by rw [ed_126]; exact yAg.cs yAg.rf (by rw [hky_122]; decide)
    have hPod_126 : yPo S d_126 := by rw [ed_126]; exact hPod_121
    have hfd_126 : yK [20, 38] d d_126 h0 := yK.ag hfd_121 (show yAg S [53] d_121 d_126 from by rw [ed_126]; exact yAg.cs yAg.rf (by rw [hky_122]; decide)) (by rw [hk_h0]; decide)
    have hL0d_126 : yAg S [52, 53, 54, 55, 56, 57, 58] d_17 d_126 := by rw [ed_126]; exact yAg.cs hL0d_121 (by rw [hky_122]; decide)
    have hK0d_126 : yK [] d_17 d_126 h0 := yK.ag hK0d_121 (show yAg S [53] d_121 d_126 from by rw [ed_126]; exact yAg.cs yAg.rf (by rw [hky_122]; decide)) (by rw [hk_h0]; decide)
    have hId_126 : yMI S d_126 h0 := yMI.ag hId_121 hSh hm_h0 hk_h0 (show yAg S [53] d_121 d_126 from by rw [ed_126]; exact yAg.cs yAg.rf (by rw [hky_122]; decide)) (yK.ag (F := []) yK.rf (show yAg S [53] d_121 d_126 from by rw [ed_126]; exact yAg.cs yAg.rf (by rw [hky_122]; decide)) (by rw [hk_h0]; decide)) (by decide) (by decide)
    have hE0d_126 : (d_126.1 h0 0).toInt = (d_121.1 h0 0).toInt := congrArg Int32.toInt ((yK.ag (F := []) yK.rf (show yAg S [53] d_121 d_126 from by rw [ed_126]; exact yAg.cs yAg.rf (by rw [hky_122]; decide)) (by rw [hk_h0]; decide)) 0 (by decide))
    have hE1d_126 : (d_126.1 h0 1).toInt = (d_121.1 h0 1).toInt := congrArg Int32.toInt ((yK.ag (F := []) yK.rf (show yAg S [53] d_121 d_126 from by rw [ed_126]; exact yAg.cs yAg.rf (by rw [hky_122]; decide)) (by rw [hk_h0]; decide)) 1 (by decide))
    have hE2d_126 : (d_126.1 h0 2).toInt = (d_121.1 h0 2).toInt := congrArg Int32.toInt ((yK.ag (F := []) yK.rf (show yAg S [53] d_121 d_126 from by rw [ed_126]; exact yAg.cs yAg.rf (by rw [hky_122]; decide)) (by rw [hk_h0]; decide)) 2 (by decide))
    have hE3d_126 : (d_126.1 h0 3).toInt = (d_121.1 h0 3).toInt := congrArg Int32.toInt ((yK.ag (F := []) yK.rf (show yAg S [53] d_121 d_126 from by rw [ed_126]; exact yAg.cs yAg.rf (by rw [hky_122]; decide)) (by rw [hk_h0]; decide)) 3 (by decide))
    have hE63d_126 : (d_126.1 h0 63).toInt = (d_121.1 h0 63).toInt := congrArg Int32.toInt ((yK.ag (F := []) yK.rf (show yAg S [53] d_121 d_126 from by rw [ed_126]; exact yAg.cs yAg.rf (by rw [hky_122]; decide)) (by rw [hk_h0]; decide)) 63 (by decide))
    refine lv_aload_n hx hb dX9_image_83 rfl (lv_at hl 1 rfl) ?_
    refine yget (ci := 9) (k := 24) (v := .ref (S.2.2.1 h0 24)) (C := RX9) (T := TX9) (N := 67) C0 hK hP hm_h0 hk_h0 (by decide) rfl inlX9 (by decide) mW130 (fun _ h9 => h9) rfl dX9_image_84 ?_
    obtain ⟨hmy_127, hky_127⟩ := ySh.f9_24 hSh _ hm_h0 hk_h0
    refine lv_iload_n hx hb dX9_image_87 rfl (lv_at hl 0 rfl) ?_
    refine lv_aload_n hx hb dX9_image_88 rfl (lv_at hl 1 rfl) ?_
    refine yget (ci := 9) (k := 6) (v := .ref (S.2.2.1 h0 6)) (C := RX9) (T := TX9) (N := 67) C0 hK hP hm_h0 hk_h0 (by decide) rfl inlX9 (by decide) mW110 (fun _ h9 => h9) rfl dX9_image_89 ?_
    obtain ⟨hmy_128, hky_128⟩ := ySh.f9_6 hSh _ hm_h0 hk_h0
    refine lv_iload_n hx hb dX9_image_92 rfl (lv_at hl 0 rfl) ?_
    have hCC_129 := yMI.c hId_126
    refine yaldB C0 hK hP hmy_128 hky_128 (by decide) rfl 1 rfl (xinT 2400 rfl (by omega) (by omega)) dX9_image_93 ?_
    refine lv_topi (fun z_130 ez_130 => ?_)
    refine yastB C0 hK hP hD hS hmy_127 hky_127 (by decide) rfl 1 rfl (xinT 2400 rfl (by omega) (by omega)) dX9_image_94 (fun H locs hP hD hS => ?_)
    obtain ⟨d_131, ed_131⟩ : ∃ z : yD, z = ycs d_126 (S.2.2.1 h0 24) (upd (d_126.2.2.2.1 (S.2.2.1 h0 24)) (v_21 : Int32).toNatClampNeg (vp_nar .byte z_130)) := ⟨_, rfl⟩
    rw [← ed_131] at hP hD
    have hgd_131 : yAg S [9, 51, 52, 53, 54, 55, 56, 57, 58, 59, 60, 61, 62, 63, 64, 65, 66, 67] d d_131 := by rw [ed_131]; exact yAg.cs hgd_126 (by rw [hky_127]; decide)
    have hsd_131 : yAg S [54] d_126 d_131 := by rw [ed_131]; exact yAg.cs yAg.rf (by rw [hky_127]; decide)
    have hPod_131 : yPo S d_131 := by rw [ed_131]; exact hPod_126
    have hfd_131 : yK [20, 38] d d_131 h0 := yK.ag hfd_126 (show yAg S [54] d_126 d_131 from by rw [ed_131]; exact yAg.cs yAg.rf (by rw [hky_127]; decide)) (by rw [hk_h0]; decide)
    have hL0d_131 : yAg S [52, 53, 54, 55, 56, 57, 58] d_17 d_131 := by rw [ed_131]; exact yAg.cs hL0d_126 (by rw [hky_127]; decide)
    have hK0d_131 : yK [] d_17 d_131 h0 := yK.ag hK0d_126 (show yAg S [54] d_126 d_131 from by rw [ed_131]; exact yAg.cs yAg.rf (by rw [hky_127]; decide)) (by rw [hk_h0]; decide)
    have hId_131 : yMI S d_131 h0 := yMI.ag hId_126 hSh hm_h0 hk_h0 (show yAg S [54] d_126 d_131 from by rw [ed_131]; exact yAg.cs yAg.rf (by rw [hky_127]; decide)) (yK.ag (F := []) yK.rf (show yAg S [54] d_126 d_131 from by rw [ed_131]; exact yAg.cs yAg.rf (by rw [hky_127]; decide)) (by rw [hk_h0]; decide)) (by decide) (by decide)
    have hE0d_131 : (d_131.1 h0 0).toInt = (d_126.1 h0 0).toInt := congrArg Int32.toInt ((yK.ag (F := []) yK.rf (show yAg S [54] d_126 d_131 from by rw [ed_131]; exact yAg.cs yAg.rf (by rw [hky_127]; decide)) (by rw [hk_h0]; decide)) 0 (by decide))
    have hE1d_131 : (d_131.1 h0 1).toInt = (d_126.1 h0 1).toInt := congrArg Int32.toInt ((yK.ag (F := []) yK.rf (show yAg S [54] d_126 d_131 from by rw [ed_131]; exact yAg.cs yAg.rf (by rw [hky_127]; decide)) (by rw [hk_h0]; decide)) 1 (by decide))
    have hE2d_131 : (d_131.1 h0 2).toInt = (d_126.1 h0 2).toInt := congrArg Int32.toInt ((yK.ag (F := []) yK.rf (show yAg S [54] d_126 d_131 from by rw [ed_131]; exact yAg.cs yAg.rf (by rw [hky_127]; decide)) (by rw [hk_h0]; decide)) 2 (by decide))
    have hE3d_131 : (d_131.1 h0 3).toInt = (d_126.1 h0 3).toInt := congrArg Int32.toInt ((yK.ag (F := []) yK.rf (show yAg S [54] d_126 d_131 from by rw [ed_131]; exact yAg.cs yAg.rf (by rw [hky_127]; decide)) (by rw [hk_h0]; decide)) 3 (by decide))
    have hE63d_131 : (d_131.1 h0 63).toInt = (d_126.1 h0 63).toInt := congrArg Int32.toInt ((yK.ag (F := []) yK.rf (show yAg S [54] d_126 d_131 from by rw [ed_131]; exact yAg.cs yAg.rf (by rw [hky_127]; decide)) (by rw [hk_h0]; decide)) 63 (by decide))
    refine lv_aload_n hx hb dX9_image_95 rfl (lv_at hl 1 rfl) ?_
    refine yget (ci := 9) (k := 25) (v := .ref (S.2.2.1 h0 25)) (C := RX9) (T := TX9) (N := 67) C0 hK hP hm_h0 hk_h0 (by decide) rfl inlX9 (by decide) mW131 (fun _ h9 => h9) rfl dX9_image_96 ?_
    obtain ⟨hmy_132, hky_132⟩ := ySh.f9_25 hSh _ hm_h0 hk_h0
    refine lv_iload_n hx hb dX9_image_99 rfl (lv_at hl 0 rfl) ?_
    refine lv_aload_n hx hb dX9_image_100 rfl (lv_at hl 1 rfl) ?_
    refine yget (ci := 9) (k := 7) (v := .ref (S.2.2.1 h0 7)) (C := RX9) (T := TX9) (N := 67) C0 hK hP hm_h0 hk_h0 (by decide) rfl inlX9 (by decide) mW111 (fun _ h9 => h9) rfl dX9_image_101 ?_
    obtain ⟨hmy_133, hky_133⟩ := ySh.f9_7 hSh _ hm_h0 hk_h0
    refine lv_iload_n hx hb dX9_image_104 rfl (lv_at hl 0 rfl) ?_
    have hCC_134 := yMI.c hId_131
    refine yald C0 hK hP hmy_133 hky_133 (by decide) rfl 0 rfl (xinT 2400 rfl (by omega) (by omega)) dX9_image_105 ?_
    refine lv_topi (fun z_135 ez_135 => ?_)
    refine yast C0 hK hP hD hS hmy_132 hky_132 (by decide) rfl 0 rfl (xinT 2400 rfl (by omega) (by omega)) dX9_image_106 (fun H locs hP hD hS => ?_)
    obtain ⟨d_136, ed_136⟩ : ∃ z : yD, z = ycs d_131 (S.2.2.1 h0 25) (upd (d_131.2.2.2.1 (S.2.2.1 h0 25)) (v_21 : Int32).toNatClampNeg z_135) := ⟨_, rfl⟩
    rw [← ed_136] at hP hD
    have hgd_136 : yAg S [9, 51, 52, 53, 54, 55, 56, 57, 58, 59, 60, 61, 62, 63, 64, 65, 66, 67] d d_136 := by rw [ed_136]; exact yAg.cs hgd_131 (by rw [hky_132]; decide)
    have hsd_136 : yAg S [55] d_131 d_136 := by rw [ed_136]; exact yAg.cs yAg.rf (by rw [hky_132]; decide)
    have hPod_136 : yPo S d_136 := by rw [ed_136]; exact hPod_131
    have hfd_136 : yK [20, 38] d d_136 h0 := yK.ag hfd_131 (show yAg S [55] d_131 d_136 from by rw [ed_136]; exact yAg.cs yAg.rf (by rw [hky_132]; decide)) (by rw [hk_h0]; decide)
    have hL0d_136 : yAg S [52, 53, 54, 55, 56, 57, 58] d_17 d_136 := by rw [ed_136]; exact yAg.cs hL0d_131 (by rw [hky_132]; decide)
    have hK0d_136 : yK [] d_17 d_136 h0 := yK.ag hK0d_131 (show yAg S [55] d_131 d_136 from by rw [ed_136]; exact yAg.cs yAg.rf (by rw [hky_132]; decide)) (by rw [hk_h0]; decide)
    have hId_136 : yMI S d_136 h0 := yMI.ag hId_131 hSh hm_h0 hk_h0 (show yAg S [55] d_131 d_136 from by rw [ed_136]; exact yAg.cs yAg.rf (by rw [hky_132]; decide)) (yK.ag (F := []) yK.rf (show yAg S [55] d_131 d_136 from by rw [ed_136]; exact yAg.cs yAg.rf (by rw [hky_132]; decide)) (by rw [hk_h0]; decide)) (by decide) (by decide)
    have hE0d_136 : (d_136.1 h0 0).toInt = (d_131.1 h0 0).toInt := congrArg Int32.toInt ((yK.ag (F := []) yK.rf (show yAg S [55] d_131 d_136 from by rw [ed_136]; exact yAg.cs yAg.rf (by rw [hky_132]; decide)) (by rw [hk_h0]; decide)) 0 (by decide))
    have hE1d_136 : (d_136.1 h0 1).toInt = (d_131.1 h0 1).toInt := congrArg Int32.toInt ((yK.ag (F := []) yK.rf (show yAg S [55] d_131 d_136 from by rw [ed_136]; exact yAg.cs yAg.rf (by rw [hky_132]; decide)) (by rw [hk_h0]; decide)) 1 (by decide))
    have hE2d_136 : (d_136.1 h0 2).toInt = (d_131.1 h0 2).toInt := congrArg Int32.toInt ((yK.ag (F := []) yK.rf (show yAg S [55] d_131 d_136 from by rw [ed_136]; exact yAg.cs yAg.rf (by rw [hky_132]; decide)) (by rw [hk_h0]; decide)) 2 (by decide))
    have hE3d_136 : (d_136.1 h0 3).toInt = (d_131.1 h0 3).toInt := congrArg Int32.toInt ((yK.ag (F := []) yK.rf (show yAg S [55] d_131 d_136 from by rw [ed_136]; exact yAg.cs yAg.rf (by rw [hky_132]; decide)) (by rw [hk_h0]; decide)) 3 (by decide))
    have hE63d_136 : (d_136.1 h0 63).toInt = (d_131.1 h0 63).toInt := congrArg Int32.toInt ((yK.ag (F := []) yK.rf (show yAg S [55] d_131 d_136 from by rw [ed_136]; exact yAg.cs yAg.rf (by rw [hky_132]; decide)) (by rw [hk_h0]; decide)) 63 (by decide))
    refine lv_aload_n hx hb dX9_image_107 rfl (lv_at hl 1 rfl) ?_
    refine yget (ci := 9) (k := 26) (v := .ref (S.2.2.1 h0 26)) (C := RX9) (T := TX9) (N := 67) C0 hK hP hm_h0 hk_h0 (by decide) rfl inlX9 (by decide) mW132 (fun _ h9 => h9) rfl dX9_image_108 ?_
    obtain ⟨hmy_137, hky_137⟩ := ySh.f9_26 hSh _ hm_h0 hk_h0
    refine lv_iload_n hx hb dX9_image_111 rfl (lv_at hl 0 rfl) ?_
    refine lv_aload_n hx hb dX9_image_112 rfl (lv_at hl 1 rfl) ?_
    refine yget (ci := 9) (k := 8) (v := .ref (S.2.2.1 h0 8)) (C := RX9) (T := TX9) (N := 67) C0 hK hP hm_h0 hk_h0 (by decide) rfl inlX9 (by decide) mW112 (fun _ h9 => h9) rfl dX9_image_113 ?_
    obtain ⟨hmy_138, hky_138⟩ := ySh.f9_8 hSh _ hm_h0 hk_h0
    refine lv_iload_n hx hb dX9_image_116 rfl (lv_at hl 0 rfl) ?_
    have hCC_139 := yMI.c hId_136
    refine yald C0 hK hP hmy_138 hky_138 (by decide) rfl 0 rfl (xinT 2400 rfl (by omega) (by omega)) dX9_image_117 ?_
    refine lv_topi (fun z_140 ez_140 => ?_)
    refine yast C0 hK hP hD hS hmy_137 hky_137 (by decide) rfl 0 rfl (xinT 2400 rfl (by omega) (by omega)) dX9_image_118 (fun H locs hP hD hS => ?_)
    obtain ⟨d_141, ed_141⟩ : ∃ z : yD, z = ycs d_136 (S.2.2.1 h0 26) (upd (d_136.2.2.2.1 (S.2.2.1 h0 26)) (v_21 : Int32).toNatClampNeg z_140) := ⟨_, rfl⟩
    rw [← ed_141] at hP hD
    have hgd_141 : yAg S [9, 51, 52, 53, 54, 55, 56, 57, 58, 59, 60, 61, 62, 63, 64, 65, 66, 67] d d_141 := by rw [ed_141]; exact yAg.cs hgd_136 (by rw [hky_137]; decide)
    have hsd_141 : yAg S [56] d_136 d_141 := by rw [ed_141]; exact yAg.cs yAg.rf (by rw [hky_137]; decide)
    have hPod_141 : yPo S d_141 := by rw [ed_141]; exact hPod_136
    have hfd_141 : yK [20, 38] d d_141 h0 := yK.ag hfd_136 (show yAg S [56] d_136 d_141 from by rw [ed_141]; exact yAg.cs yAg.rf (by rw [hky_137]; decide)) (by rw [hk_h0]; decide)
    have hL0d_141 : yAg S [52, 53, 54, 55, 56, 57, 58] d_17 d_141 := by rw [ed_141]; exact yAg.cs hL0d_136 (by rw [hky_137]; decide)
    have hK0d_141 : yK [] d_17 d_141 h0 := yK.ag hK0d_136 (show yAg S [56] d_136 d_141 from by rw [ed_141]; exact yAg.cs yAg.rf (by rw [hky_137]; decide)) (by rw [hk_h0]; decide)
    have hId_141 : yMI S d_141 h0 := yMI.ag hId_136 hSh hm_h0 hk_h0 (show yAg S [56] d_136 d_141 from by rw [ed_141]; exact yAg.cs yAg.rf (by rw [hky_137]; decide)) (yK.ag (F := []) yK.rf (show yAg S [56] d_136 d_141 from by rw [ed_141]; exact yAg.cs yAg.rf (by rw [hky_137]; decide)) (by rw [hk_h0]; decide)) (by decide) (by decide)
    have hE0d_141 : (d_141.1 h0 0).toInt = (d_136.1 h0 0).toInt := congrArg Int32.toInt ((yK.ag (F := []) yK.rf (show yAg S [56] d_136 d_141 from by rw [ed_141]; exact yAg.cs yAg.rf (by rw [hky_137]; decide)) (by rw [hk_h0]; decide)) 0 (by decide))
    have hE1d_141 : (d_141.1 h0 1).toInt = (d_136.1 h0 1).toInt := congrArg Int32.toInt ((yK.ag (F := []) yK.rf (show yAg S [56] d_136 d_141 from by rw [ed_141]; exact yAg.cs yAg.rf (by rw [hky_137]; decide)) (by rw [hk_h0]; decide)) 1 (by decide))
    have hE2d_141 : (d_141.1 h0 2).toInt = (d_136.1 h0 2).toInt := congrArg Int32.toInt ((yK.ag (F := []) yK.rf (show yAg S [56] d_136 d_141 from by rw [ed_141]; exact yAg.cs yAg.rf (by rw [hky_137]; decide)) (by rw [hk_h0]; decide)) 2 (by decide))
    have hE3d_141 : (d_141.1 h0 3).toInt = (d_136.1 h0 3).toInt := congrArg Int32.toInt ((yK.ag (F := []) yK.rf (show yAg S [56] d_136 d_141 from by rw [ed_141]; exact yAg.cs yAg.rf (by rw [hky_137]; decide)) (by rw [hk_h0]; decide)) 3 (by decide))
    have hE63d_141 : (d_141.1 h0 63).toInt = (d_136.1 h0 63).toInt := congrArg Int32.toInt ((yK.ag (F := []) yK.rf (show yAg S [56] d_136 d_141 from by rw [ed_141]; exact yAg.cs yAg.rf (by rw [hky_137]; decide)) (by rw [hk_h0]; decide)) 63 (by decide))
    refine lv_aload_n hx hb dX9_image_119 rfl (lv_at hl 1 rfl) ?_
    refine yget (ci := 9) (k := 27) (v := .ref (S.2.2.1 h0 27)) (C := RX9) (T := TX9) (N := 67) C0 hK hP hm_h0 hk_h0 (by decide) rfl inlX9 (by decide) mW133 (fun _ h9 => h9) rfl dX9_image_120 ?_
    obtain ⟨hmy_142, hky_142⟩ := ySh.f9_27 hSh _ hm_h0 hk_h0
    refine lv_iload_n hx hb dX9_image_123 rfl (lv_at hl 0 rfl) ?_
    refine lv_aload_n hx hb dX9_image_124 rfl (lv_at hl 1 rfl) ?_
    refine yget (ci := 9) (k := 9) (v := .ref (S.2.2.1 h0 9)) (C := RX9) (T := TX9) (N := 67) C0 hK hP hm_h0 hk_h0 (by decide) rfl inlX9 (by decide) mW113 (fun _ h9 => h9) rfl dX9_image_125 ?_
    obtain ⟨hmy_143, hky_143⟩ := ySh.f9_9 hSh _ hm_h0 hk_h0
    refine lv_iload_n hx hb dX9_image_128 rfl (lv_at hl 0 rfl) ?_
    have hCC_144 := yMI.c hId_141
    refine yaldB C0 hK hP hmy_143 hky_143 (by decide) rfl 1 rfl (xinT 2400 rfl (by omega) (by omega)) dX9_image_129 ?_
    refine lv_topi (fun z_145 ez_145 => ?_)
    refine yastB C0 hK hP hD hS hmy_142 hky_142 (by decide) rfl 1 rfl (xinT 2400 rfl (by omega) (by omega)) dX9_image_130 (fun H locs hP hD hS => ?_)
    obtain ⟨d_146, ed_146⟩ : ∃ z : yD, z = ycs d_141 (S.2.2.1 h0 27) (upd (d_141.2.2.2.1 (S.2.2.1 h0 27)) (v_21 : Int32).toNatClampNeg (vp_nar .byte z_145)) := ⟨_, rfl⟩
    rw [← ed_146] at hP hD
    have hgd_146 : yAg S [9, 51, 52, 53, 54, 55, 56, 57, 58, 59, 60, 61, 62, 63, 64, 65, 66, 67] d d_146 := by rw [ed_146]; exact yAg.cs hgd_141 (by rw [hky_142]; decide)
    have hsd_146 : yAg S [57] d_141 d_146 := by rw [ed_146]; exact yAg.cs yAg.rf (by rw [hky_142]; decide)
    have hPod_146 : yPo S d_146 := by rw [ed_146]; exact hPod_141
    have hfd_146 : yK [20, 38] d d_146 h0 := yK.ag hfd_141 (show yAg S [57] d_141 d_146 from by rw [ed_146]; exact yAg.cs yAg.rf (by rw [hky_142]; decide)) (by rw [hk_h0]; decide)
    have hL0d_146 : yAg S [52, 53, 54, 55, 56, 57, 58] d_17 d_146 := by rw [ed_146]; exact yAg.cs hL0d_141 (by rw [hky_142]; decide)
    have hK0d_146 : yK [] d_17 d_146 h0 := yK.ag hK0d_141 (show yAg S [57] d_141 d_146 from by rw [ed_146]; exact yAg.cs yAg.rf (by rw [hky_142]; decide)) (by rw [hk_h0]; decide)
    have hId_146 : yMI S d_146 h0 := yMI.ag hId_141 hSh hm_h0 hk_h0 (show yAg S [57] d_141 d_146 from by rw [ed_146]; exact yAg.cs yAg.rf (by rw [hky_142]; decide)) (yK.ag (F := []) yK.rf (show yAg S [57] d_141 d_146 from by rw [ed_146]; exact yAg.cs yAg.rf (by rw [hky_142]; decide)) (by rw [hk_h0]; decide)) (by decide) (by decide)
    have hE0d_146 : (d_146.1 h0 0).toInt = (d_141.1 h0 0).toInt := congrArg Int32.toInt ((yK.ag (F := []) yK.rf (show yAg S [57] d_141 d_146 from by rw [ed_146]; exact yAg.cs yAg.rf (by rw [hky_142]; decide)) (by rw [hk_h0]; decide)) 0 (by decide))
    have hE1d_146 : (d_146.1 h0 1).toInt = (d_141.1 h0 1).toInt := congrArg Int32.toInt ((yK.ag (F := []) yK.rf (show yAg S [57] d_141 d_146 from by rw [ed_146]; exact yAg.cs yAg.rf (by rw [hky_142]; decide)) (by rw [hk_h0]; decide)) 1 (by decide))
    have hE2d_146 : (d_146.1 h0 2).toInt = (d_141.1 h0 2).toInt := congrArg Int32.toInt ((yK.ag (F := []) yK.rf (show yAg S [57] d_141 d_146 from by rw [ed_146]; exact yAg.cs yAg.rf (by rw [hky_142]; decide)) (by rw [hk_h0]; decide)) 2 (by decide))
    have hE3d_146 : (d_146.1 h0 3).toInt = (d_141.1 h0 3).toInt := congrArg Int32.toInt ((yK.ag (F := []) yK.rf (show yAg S [57] d_141 d_146 from by rw [ed_146]; exact yAg.cs yAg.rf (by rw [hky_142]; decide)) (by rw [hk_h0]; decide)) 3 (by decide))
    have hE63d_146 : (d_146.1 h0 63).toInt = (d_141.1 h0 63).toInt := congrArg Int32.toInt ((yK.ag (F := []) yK.rf (show yAg S [57] d_141 d_146 from by rw [ed_146]; exact yAg.cs yAg.rf (by rw [hky_142]; decide)) (by rw [hk_h0]; decide)) 63 (by decide))
    refine lv_aload_n hx hb dX9_image_131 rfl (lv_at hl 1 rfl) ?_
    refine yget (ci := 9) (k := 28) (v := .ref (S.2.2.1 h0 28)) (C := RX9) (T := TX9) (N := 67) C0 hK hP hm_h0 hk_h0 (by decide) rfl inlX9 (by decide) mW134 (fun _ h9 => h9) rfl dX9_image_132 ?_
    obtain ⟨hmy_147, hky_147⟩ := ySh.f9_28 hSh _ hm_h0 hk_h0
    refine lv_iload_n hx hb dX9_image_135 rfl (lv_at hl 0 rfl) ?_
    refine lv_aload_n hx hb dX9_image_136 rfl (lv_at hl 1 rfl) ?_
    refine yget (ci := 9) (k := 10) (v := .ref (S.2.2.1 h0 10)) (C := RX9) (T := TX9) (N := 67) C0 hK hP hm_h0 hk_h0 (by decide) rfl inlX9 (by decide) mW114 (fun _ h9 => h9) rfl dX9_image_137 ?_
    obtain ⟨hmy_148, hky_148⟩ := ySh.f9_10 hSh _ hm_h0 hk_h0
    refine lv_iload_n hx hb dX9_image_140 rfl (lv_at hl 0 rfl) ?_
    have hCC_149 := yMI.c hId_146
    refine yald C0 hK hP hmy_148 hky_148 (by decide) rfl 0 rfl (xinT 2400 rfl (by omega) (by omega)) dX9_image_141 ?_
    refine lv_topi (fun z_150 ez_150 => ?_)
    refine yast C0 hK hP hD hS hmy_147 hky_147 (by decide) rfl 0 rfl (xinT 2400 rfl (by omega) (by omega)) dX9_image_142 (fun H locs hP hD hS => ?_)
    obtain ⟨d_151, ed_151⟩ : ∃ z : yD, z = ycs d_146 (S.2.2.1 h0 28) (upd (d_146.2.2.2.1 (S.2.2.1 h0 28)) (v_21 : Int32).toNatClampNeg z_150) := ⟨_, rfl⟩
    rw [← ed_151] at hP hD
    have hgd_151 : yAg S [9, 51, 52, 53, 54, 55, 56, 57, 58, 59, 60, 61, 62, 63, 64, 65, 66, 67] d d_151 := by rw [ed_151]; exact yAg.cs hgd_146 (by rw [hky_147]; decide)
    have hsd_151 : yAg S [58] d_146 d_151 := by rw [ed_151]; exact yAg.cs yAg.rf (by rw [hky_147]; decide)
    have hPod_151 : yPo S d_151 := by rw [ed_151]; exact hPod_146
    have hfd_151 : yK [20, 38] d d_151 h0 := yK.ag hfd_146 (show yAg S [58] d_146 d_151 from by rw [ed_151]; exact yAg.cs yAg.rf (by rw [hky_147]; decide)) (by rw [hk_h0]; decide)
    have hL0d_151 : yAg S [52, 53, 54, 55, 56, 57, 58] d_17 d_151 := by rw [ed_151]; exact yAg.cs hL0d_146 (by rw [hky_147]; decide)
    have hK0d_151 : yK [] d_17 d_151 h0 := yK.ag hK0d_146 (show yAg S [58] d_146 d_151 from by rw [ed_151]; exact yAg.cs yAg.rf (by rw [hky_147]; decide)) (by rw [hk_h0]; decide)
    have hId_151 : yMI S d_151 h0 := yMI.ag hId_146 hSh hm_h0 hk_h0 (show yAg S [58] d_146 d_151 from by rw [ed_151]; exact yAg.cs yAg.rf (by rw [hky_147]; decide)) (yK.ag (F := []) yK.rf (show yAg S [58] d_146 d_151 from by rw [ed_151]; exact yAg.cs yAg.rf (by rw [hky_147]; decide)) (by rw [hk_h0]; decide)) (by decide) (by decide)
    have hE0d_151 : (d_151.1 h0 0).toInt = (d_146.1 h0 0).toInt := congrArg Int32.toInt ((yK.ag (F := []) yK.rf (show yAg S [58] d_146 d_151 from by rw [ed_151]; exact yAg.cs yAg.rf (by rw [hky_147]; decide)) (by rw [hk_h0]; decide)) 0 (by decide))
    have hE1d_151 : (d_151.1 h0 1).toInt = (d_146.1 h0 1).toInt := congrArg Int32.toInt ((yK.ag (F := []) yK.rf (show yAg S [58] d_146 d_151 from by rw [ed_151]; exact yAg.cs yAg.rf (by rw [hky_147]; decide)) (by rw [hk_h0]; decide)) 1 (by decide))
    have hE2d_151 : (d_151.1 h0 2).toInt = (d_146.1 h0 2).toInt := congrArg Int32.toInt ((yK.ag (F := []) yK.rf (show yAg S [58] d_146 d_151 from by rw [ed_151]; exact yAg.cs yAg.rf (by rw [hky_147]; decide)) (by rw [hk_h0]; decide)) 2 (by decide))
    have hE3d_151 : (d_151.1 h0 3).toInt = (d_146.1 h0 3).toInt := congrArg Int32.toInt ((yK.ag (F := []) yK.rf (show yAg S [58] d_146 d_151 from by rw [ed_151]; exact yAg.cs yAg.rf (by rw [hky_147]; decide)) (by rw [hk_h0]; decide)) 3 (by decide))
    have hE63d_151 : (d_151.1 h0 63).toInt = (d_146.1 h0 63).toInt := congrArg Int32.toInt ((yK.ag (F := []) yK.rf (show yAg S [58] d_146 d_151 from by rw [ed_151]; exact yAg.cs yAg.rf (by rw [hky_147]; decide)) (by rw [hk_h0]; decide)) 63 (by decide))
    refine lv_iinc (v := v_21 + 1) (lv' := [(1, .int (v_21 + 1)), (0, .ref h0)]) hx hb dX9_image_143 hl (k := 0) rfl rfl (by decide) rfl (fun ls hl => ?_)
    refine lv_goto (tgt := 52) hx hb dX9_image_146 (by decide) ?_
    have hCC_153 := yMI.c hId_151
    have T_154 : ((v_21 + 1) : Int32).toInt = (v_21 : Int32).toInt + 1 := tadd rfl (rfl : (v_21 : Int32).toInt = (v_21 : Int32).toInt) (by decide +kernel : (1 : Int32).toInt = 1) (by omega) (by omega)
    exact hnext_23 (v_21 + 1, d_151) _ _ ls (xup c_25) ⟨hP, hD, hS, hgd_151, hPod_151, hfd_151, hId_151, hL0d_151, hK0d_151, (show (0 ≤ (((v_21 + 1)) : Int32).toInt) from by have hq0_ : (0 : Int32).toInt = 0 := (by decide +kernel); omega), lv_sub hl [0, 1] rfl⟩
theorem dX9_back_0 : decode cX9_back 0 = .ok (.aload_n 0, 1) := by decide +kernel
theorem dX9_back_1 : decode cX9_back 1 = .ok (.iconst 0, 1) := by decide +kernel
theorem dX9_back_2 : decode cX9_back 2 = .ok (.putfield 147, 3) := by decide +kernel
theorem dX9_back_5 : decode cX9_back 5 = .ok (.aload_n 0, 1) := by decide +kernel
theorem dX9_back_6 : decode cX9_back 6 = .ok (.getfield 367, 3) := by decide +kernel
theorem dX9_back_9 : decode cX9_back 9 = .ok (.ifCond .ne 11, 3) := by decide +kernel
theorem dX9_back_12 : decode cX9_back 12 = .ok (.aload_n 0, 1) := by decide +kernel
theorem dX9_back_13 : decode cX9_back 13 = .ok (.iconst 2, 1) := by decide +kernel
theorem dX9_back_14 : decode cX9_back 14 = .ok (.invokevirtual 168, 3) := by decide +kernel
theorem dX9_back_17 : decode cX9_back 17 = .ok (.pop, 1) := by decide +kernel
theorem dX9_back_18 : decode cX9_back 18 = .ok (.iconst 0, 1) := by decide +kernel
theorem dX9_back_19 : decode cX9_back 19 = .ok (.ireturn, 1) := by decide +kernel
theorem dX9_back_20 : decode cX9_back 20 = .ok (.aload_n 0, 1) := by decide +kernel
theorem dX9_back_21 : decode cX9_back 21 = .ok (.aload_n 0, 1) := by decide +kernel
theorem dX9_back_22 : decode cX9_back 22 = .ok (.getfield 66, 3) := by decide +kernel
theorem dX9_back_25 : decode cX9_back 25 = .ok (.iconst 0, 1) := by decide +kernel
theorem dX9_back_26 : decode cX9_back 26 = .ok (.iaload, 1) := by decide +kernel
theorem dX9_back_27 : decode cX9_back 27 = .ok (.putfield 150, 3) := by decide +kernel
theorem dX9_back_30 : decode cX9_back 30 = .ok (.aload_n 0, 1) := by decide +kernel
theorem dX9_back_31 : decode cX9_back 31 = .ok (.aload_n 0, 1) := by decide +kernel
theorem dX9_back_32 : decode cX9_back 32 = .ok (.getfield 66, 3) := by decide +kernel
theorem dX9_back_35 : decode cX9_back 35 = .ok (.iconst 1, 1) := by decide +kernel
theorem dX9_back_36 : decode cX9_back 36 = .ok (.iaload, 1) := by decide +kernel
theorem dX9_back_37 : decode cX9_back 37 = .ok (.putfield 180, 3) := by decide +kernel
theorem dX9_back_40 : decode cX9_back 40 = .ok (.aload_n 0, 1) := by decide +kernel
theorem dX9_back_41 : decode cX9_back 41 = .ok (.aload_n 0, 1) := by decide +kernel
theorem dX9_back_42 : decode cX9_back 42 = .ok (.getfield 66, 3) := by decide +kernel
theorem dX9_back_45 : decode cX9_back 45 = .ok (.iconst 2, 1) := by decide +kernel
theorem dX9_back_46 : decode cX9_back 46 = .ok (.iaload, 1) := by decide +kernel
theorem dX9_back_47 : decode cX9_back 47 = .ok (.putfield 326, 3) := by decide +kernel
theorem dX9_back_50 : decode cX9_back 50 = .ok (.aload_n 0, 1) := by decide +kernel
theorem dX9_back_51 : decode cX9_back 51 = .ok (.aload_n 0, 1) := by decide +kernel
theorem dX9_back_52 : decode cX9_back 52 = .ok (.getfield 66, 3) := by decide +kernel
theorem dX9_back_55 : decode cX9_back 55 = .ok (.iconst 3, 1) := by decide +kernel
theorem dX9_back_56 : decode cX9_back 56 = .ok (.iaload, 1) := by decide +kernel
theorem dX9_back_57 : decode cX9_back 57 = .ok (.putfield 7, 3) := by decide +kernel
theorem dX9_back_60 : decode cX9_back 60 = .ok (.iconst 0, 1) := by decide +kernel
theorem dX9_back_61 : decode cX9_back 61 = .ok (.istore_n 1, 1) := by decide +kernel
theorem dX9_back_62 : decode cX9_back 62 = .ok (.iload_n 1, 1) := by decide +kernel
theorem dX9_back_63 : decode cX9_back 63 = .ok (.sipush 2400, 3) := by decide +kernel
theorem dX9_back_66 : decode cX9_back 66 = .ok (.if_icmp .ge 93, 3) := by decide +kernel
theorem dX9_back_69 : decode cX9_back 69 = .ok (.aload_n 0, 1) := by decide +kernel
theorem dX9_back_70 : decode cX9_back 70 = .ok (.getfield 13, 3) := by decide +kernel
theorem dX9_back_73 : decode cX9_back 73 = .ok (.iload_n 1, 1) := by decide +kernel
theorem dX9_back_74 : decode cX9_back 74 = .ok (.aload_n 0, 1) := by decide +kernel
theorem dX9_back_75 : decode cX9_back 75 = .ok (.getfield 69, 3) := by decide +kernel
theorem dX9_back_78 : decode cX9_back 78 = .ok (.iload_n 1, 1) := by decide +kernel
theorem dX9_back_79 : decode cX9_back 79 = .ok (.baload, 1) := by decide +kernel
theorem dX9_back_80 : decode cX9_back 80 = .ok (.bastore, 1) := by decide +kernel
theorem dX9_back_81 : decode cX9_back 81 = .ok (.aload_n 0, 1) := by decide +kernel
theorem dX9_back_82 : decode cX9_back 82 = .ok (.getfield 17, 3) := by decide +kernel
theorem dX9_back_85 : decode cX9_back 85 = .ok (.iload_n 1, 1) := by decide +kernel
theorem dX9_back_86 : decode cX9_back 86 = .ok (.aload_n 0, 1) := by decide +kernel
theorem dX9_back_87 : decode cX9_back 87 = .ok (.getfield 72, 3) := by decide +kernel
theorem dX9_back_90 : decode cX9_back 90 = .ok (.iload_n 1, 1) := by decide +kernel
theorem dX9_back_91 : decode cX9_back 91 = .ok (.baload, 1) := by decide +kernel
theorem dX9_back_92 : decode cX9_back 92 = .ok (.bastore, 1) := by decide +kernel
theorem dX9_back_93 : decode cX9_back 93 = .ok (.aload_n 0, 1) := by decide +kernel
theorem dX9_back_94 : decode cX9_back 94 = .ok (.getfield 20, 3) := by decide +kernel
theorem dX9_back_97 : decode cX9_back 97 = .ok (.iload_n 1, 1) := by decide +kernel
theorem dX9_back_98 : decode cX9_back 98 = .ok (.aload_n 0, 1) := by decide +kernel
theorem dX9_back_99 : decode cX9_back 99 = .ok (.getfield 75, 3) := by decide +kernel
theorem dX9_back_102 : decode cX9_back 102 = .ok (.iload_n 1, 1) := by decide +kernel
theorem dX9_back_103 : decode cX9_back 103 = .ok (.baload, 1) := by decide +kernel
theorem dX9_back_104 : decode cX9_back 104 = .ok (.bastore, 1) := by decide +kernel
theorem dX9_back_105 : decode cX9_back 105 = .ok (.aload_n 0, 1) := by decide +kernel
theorem dX9_back_106 : decode cX9_back 106 = .ok (.getfield 23, 3) := by decide +kernel
theorem dX9_back_109 : decode cX9_back 109 = .ok (.iload_n 1, 1) := by decide +kernel
theorem dX9_back_110 : decode cX9_back 110 = .ok (.aload_n 0, 1) := by decide +kernel
theorem dX9_back_111 : decode cX9_back 111 = .ok (.getfield 78, 3) := by decide +kernel
theorem dX9_back_114 : decode cX9_back 114 = .ok (.iload_n 1, 1) := by decide +kernel
theorem dX9_back_115 : decode cX9_back 115 = .ok (.iaload, 1) := by decide +kernel
theorem dX9_back_116 : decode cX9_back 116 = .ok (.iastore, 1) := by decide +kernel
theorem dX9_back_117 : decode cX9_back 117 = .ok (.aload_n 0, 1) := by decide +kernel
theorem dX9_back_118 : decode cX9_back 118 = .ok (.getfield 27, 3) := by decide +kernel
theorem dX9_back_121 : decode cX9_back 121 = .ok (.iload_n 1, 1) := by decide +kernel
theorem dX9_back_122 : decode cX9_back 122 = .ok (.aload_n 0, 1) := by decide +kernel
theorem dX9_back_123 : decode cX9_back 123 = .ok (.getfield 81, 3) := by decide +kernel
theorem dX9_back_126 : decode cX9_back 126 = .ok (.iload_n 1, 1) := by decide +kernel
theorem dX9_back_127 : decode cX9_back 127 = .ok (.iaload, 1) := by decide +kernel
theorem dX9_back_128 : decode cX9_back 128 = .ok (.iastore, 1) := by decide +kernel
theorem dX9_back_129 : decode cX9_back 129 = .ok (.aload_n 0, 1) := by decide +kernel
theorem dX9_back_130 : decode cX9_back 130 = .ok (.getfield 30, 3) := by decide +kernel
theorem dX9_back_133 : decode cX9_back 133 = .ok (.iload_n 1, 1) := by decide +kernel
theorem dX9_back_134 : decode cX9_back 134 = .ok (.aload_n 0, 1) := by decide +kernel
theorem dX9_back_135 : decode cX9_back 135 = .ok (.getfield 84, 3) := by decide +kernel
theorem dX9_back_138 : decode cX9_back 138 = .ok (.iload_n 1, 1) := by decide +kernel
theorem dX9_back_139 : decode cX9_back 139 = .ok (.baload, 1) := by decide +kernel
theorem dX9_back_140 : decode cX9_back 140 = .ok (.bastore, 1) := by decide +kernel
theorem dX9_back_141 : decode cX9_back 141 = .ok (.aload_n 0, 1) := by decide +kernel
theorem dX9_back_142 : decode cX9_back 142 = .ok (.getfield 33, 3) := by decide +kernel
theorem dX9_back_145 : decode cX9_back 145 = .ok (.iload_n 1, 1) := by decide +kernel
theorem dX9_back_146 : decode cX9_back 146 = .ok (.aload_n 0, 1) := by decide +kernel
theorem dX9_back_147 : decode cX9_back 147 = .ok (.getfield 87, 3) := by decide +kernel
theorem dX9_back_150 : decode cX9_back 150 = .ok (.iload_n 1, 1) := by decide +kernel
theorem dX9_back_151 : decode cX9_back 151 = .ok (.iaload, 1) := by decide +kernel
theorem dX9_back_152 : decode cX9_back 152 = .ok (.iastore, 1) := by decide +kernel
theorem dX9_back_153 : decode cX9_back 153 = .ok (.iinc 1 1, 3) := by decide +kernel
theorem dX9_back_156 : decode cX9_back 156 = .ok (.goto (-94), 3) := by decide +kernel
theorem dX9_back_159 : decode cX9_back 159 = .ok (.iconst 0, 1) := by decide +kernel
theorem dX9_back_160 : decode cX9_back 160 = .ok (.istore_n 1, 1) := by decide +kernel
theorem dX9_back_161 : decode cX9_back 161 = .ok (.iload_n 1, 1) := by decide +kernel
theorem dX9_back_162 : decode cX9_back 162 = .ok (.bipush 96, 2) := by decide +kernel
theorem dX9_back_164 : decode cX9_back 164 = .ok (.if_icmp .ge 21, 3) := by decide +kernel
theorem dX9_back_167 : decode cX9_back 167 = .ok (.aload_n 0, 1) := by decide +kernel
theorem dX9_back_168 : decode cX9_back 168 = .ok (.getfield 36, 3) := by decide +kernel
theorem dX9_back_171 : decode cX9_back 171 = .ok (.iload_n 1, 1) := by decide +kernel
theorem dX9_back_172 : decode cX9_back 172 = .ok (.aload_n 0, 1) := by decide +kernel
theorem dX9_back_173 : decode cX9_back 173 = .ok (.getfield 90, 3) := by decide +kernel
theorem dX9_back_176 : decode cX9_back 176 = .ok (.iload_n 1, 1) := by decide +kernel
theorem dX9_back_177 : decode cX9_back 177 = .ok (.laload, 1) := by decide +kernel
theorem dX9_back_178 : decode cX9_back 178 = .ok (.lastore, 1) := by decide +kernel
theorem dX9_back_179 : decode cX9_back 179 = .ok (.iinc 1 1, 3) := by decide +kernel
theorem dX9_back_182 : decode cX9_back 182 = .ok (.goto (-21), 3) := by decide +kernel
theorem dX9_back_185 : decode cX9_back 185 = .ok (.iconst 0, 1) := by decide +kernel
theorem dX9_back_186 : decode cX9_back 186 = .ok (.istore_n 1, 1) := by decide +kernel
theorem dX9_back_187 : decode cX9_back 187 = .ok (.iload_n 1, 1) := by decide +kernel
theorem dX9_back_188 : decode cX9_back 188 = .ok (.sipush 720, 3) := by decide +kernel
theorem dX9_back_191 : decode cX9_back 191 = .ok (.if_icmp .ge 45, 3) := by decide +kernel
theorem dX9_back_194 : decode cX9_back 194 = .ok (.aload_n 0, 1) := by decide +kernel
theorem dX9_back_195 : decode cX9_back 195 = .ok (.getfield 40, 3) := by decide +kernel
theorem dX9_back_198 : decode cX9_back 198 = .ok (.iload_n 1, 1) := by decide +kernel
theorem dX9_back_199 : decode cX9_back 199 = .ok (.aload_n 0, 1) := by decide +kernel
theorem dX9_back_200 : decode cX9_back 200 = .ok (.getfield 93, 3) := by decide +kernel
theorem dX9_back_203 : decode cX9_back 203 = .ok (.iload_n 1, 1) := by decide +kernel
theorem dX9_back_204 : decode cX9_back 204 = .ok (.saload, 1) := by decide +kernel
theorem dX9_back_205 : decode cX9_back 205 = .ok (.sastore, 1) := by decide +kernel
theorem dX9_back_206 : decode cX9_back 206 = .ok (.aload_n 0, 1) := by decide +kernel
theorem dX9_back_207 : decode cX9_back 207 = .ok (.getfield 44, 3) := by decide +kernel
theorem dX9_back_210 : decode cX9_back 210 = .ok (.iload_n 1, 1) := by decide +kernel
theorem dX9_back_211 : decode cX9_back 211 = .ok (.aload_n 0, 1) := by decide +kernel
theorem dX9_back_212 : decode cX9_back 212 = .ok (.getfield 96, 3) := by decide +kernel
theorem dX9_back_215 : decode cX9_back 215 = .ok (.iload_n 1, 1) := by decide +kernel
theorem dX9_back_216 : decode cX9_back 216 = .ok (.baload, 1) := by decide +kernel
theorem dX9_back_217 : decode cX9_back 217 = .ok (.bastore, 1) := by decide +kernel
theorem dX9_back_218 : decode cX9_back 218 = .ok (.aload_n 0, 1) := by decide +kernel
theorem dX9_back_219 : decode cX9_back 219 = .ok (.getfield 48, 3) := by decide +kernel
theorem dX9_back_222 : decode cX9_back 222 = .ok (.iload_n 1, 1) := by decide +kernel
theorem dX9_back_223 : decode cX9_back 223 = .ok (.aload_n 0, 1) := by decide +kernel
theorem dX9_back_224 : decode cX9_back 224 = .ok (.getfield 99, 3) := by decide +kernel
theorem dX9_back_227 : decode cX9_back 227 = .ok (.iload_n 1, 1) := by decide +kernel
theorem dX9_back_228 : decode cX9_back 228 = .ok (.baload, 1) := by decide +kernel
theorem dX9_back_229 : decode cX9_back 229 = .ok (.bastore, 1) := by decide +kernel
theorem dX9_back_230 : decode cX9_back 230 = .ok (.iinc 1 1, 3) := by decide +kernel
theorem dX9_back_233 : decode cX9_back 233 = .ok (.goto (-46), 3) := by decide +kernel
theorem dX9_back_236 : decode cX9_back 236 = .ok (.iconst 0, 1) := by decide +kernel
theorem dX9_back_237 : decode cX9_back 237 = .ok (.istore_n 1, 1) := by decide +kernel
theorem dX9_back_238 : decode cX9_back 238 = .ok (.iload_n 1, 1) := by decide +kernel
theorem dX9_back_239 : decode cX9_back 239 = .ok (.sipush 5000, 3) := by decide +kernel
theorem dX9_back_242 : decode cX9_back 242 = .ok (.if_icmp .ge 45, 3) := by decide +kernel
theorem dX9_back_245 : decode cX9_back 245 = .ok (.aload_n 0, 1) := by decide +kernel
theorem dX9_back_246 : decode cX9_back 246 = .ok (.getfield 51, 3) := by decide +kernel
theorem dX9_back_249 : decode cX9_back 249 = .ok (.iload_n 1, 1) := by decide +kernel
theorem dX9_back_250 : decode cX9_back 250 = .ok (.aload_n 0, 1) := by decide +kernel
theorem dX9_back_251 : decode cX9_back 251 = .ok (.getfield 102, 3) := by decide +kernel
theorem dX9_back_254 : decode cX9_back 254 = .ok (.iload_n 1, 1) := by decide +kernel
theorem dX9_back_255 : decode cX9_back 255 = .ok (.baload, 1) := by decide +kernel
theorem dX9_back_256 : decode cX9_back 256 = .ok (.bastore, 1) := by decide +kernel
theorem dX9_back_257 : decode cX9_back 257 = .ok (.aload_n 0, 1) := by decide +kernel
theorem dX9_back_258 : decode cX9_back 258 = .ok (.getfield 54, 3) := by decide +kernel
theorem dX9_back_261 : decode cX9_back 261 = .ok (.iload_n 1, 1) := by decide +kernel
theorem dX9_back_262 : decode cX9_back 262 = .ok (.aload_n 0, 1) := by decide +kernel
theorem dX9_back_263 : decode cX9_back 263 = .ok (.getfield 105, 3) := by decide +kernel
theorem dX9_back_266 : decode cX9_back 266 = .ok (.iload_n 1, 1) := by decide +kernel
theorem dX9_back_267 : decode cX9_back 267 = .ok (.iaload, 1) := by decide +kernel
theorem dX9_back_268 : decode cX9_back 268 = .ok (.iastore, 1) := by decide +kernel
theorem dX9_back_269 : decode cX9_back 269 = .ok (.aload_n 0, 1) := by decide +kernel
theorem dX9_back_270 : decode cX9_back 270 = .ok (.getfield 57, 3) := by decide +kernel
theorem dX9_back_273 : decode cX9_back 273 = .ok (.iload_n 1, 1) := by decide +kernel
theorem dX9_back_274 : decode cX9_back 274 = .ok (.aload_n 0, 1) := by decide +kernel
theorem dX9_back_275 : decode cX9_back 275 = .ok (.getfield 108, 3) := by decide +kernel
theorem dX9_back_278 : decode cX9_back 278 = .ok (.iload_n 1, 1) := by decide +kernel
theorem dX9_back_279 : decode cX9_back 279 = .ok (.baload, 1) := by decide +kernel
theorem dX9_back_280 : decode cX9_back 280 = .ok (.bastore, 1) := by decide +kernel
theorem dX9_back_281 : decode cX9_back 281 = .ok (.iinc 1 1, 3) := by decide +kernel
theorem dX9_back_284 : decode cX9_back 284 = .ok (.goto (-46), 3) := by decide +kernel
theorem dX9_back_287 : decode cX9_back 287 = .ok (.iconst 0, 1) := by decide +kernel
theorem dX9_back_288 : decode cX9_back 288 = .ok (.istore_n 1, 1) := by decide +kernel
theorem dX9_back_289 : decode cX9_back 289 = .ok (.iload_n 1, 1) := by decide +kernel
theorem dX9_back_290 : decode cX9_back 290 = .ok (.sipush 500, 3) := by decide +kernel
theorem dX9_back_293 : decode cX9_back 293 = .ok (.if_icmp .ge 33, 3) := by decide +kernel
theorem dX9_back_296 : decode cX9_back 296 = .ok (.aload_n 0, 1) := by decide +kernel
theorem dX9_back_297 : decode cX9_back 297 = .ok (.getfield 60, 3) := by decide +kernel
theorem dX9_back_300 : decode cX9_back 300 = .ok (.iload_n 1, 1) := by decide +kernel
theorem dX9_back_301 : decode cX9_back 301 = .ok (.aload_n 0, 1) := by decide +kernel
theorem dX9_back_302 : decode cX9_back 302 = .ok (.getfield 111, 3) := by decide +kernel
theorem dX9_back_305 : decode cX9_back 305 = .ok (.iload_n 1, 1) := by decide +kernel
theorem dX9_back_306 : decode cX9_back 306 = .ok (.iaload, 1) := by decide +kernel
theorem dX9_back_307 : decode cX9_back 307 = .ok (.iastore, 1) := by decide +kernel
theorem dX9_back_308 : decode cX9_back 308 = .ok (.aload_n 0, 1) := by decide +kernel
theorem dX9_back_309 : decode cX9_back 309 = .ok (.getfield 63, 3) := by decide +kernel
theorem dX9_back_312 : decode cX9_back 312 = .ok (.iload_n 1, 1) := by decide +kernel
theorem dX9_back_313 : decode cX9_back 313 = .ok (.aload_n 0, 1) := by decide +kernel
theorem dX9_back_314 : decode cX9_back 314 = .ok (.getfield 114, 3) := by decide +kernel
theorem dX9_back_317 : decode cX9_back 317 = .ok (.iload_n 1, 1) := by decide +kernel
theorem dX9_back_318 : decode cX9_back 318 = .ok (.baload, 1) := by decide +kernel
theorem dX9_back_319 : decode cX9_back 319 = .ok (.bastore, 1) := by decide +kernel
theorem dX9_back_320 : decode cX9_back 320 = .ok (.iinc 1 1, 3) := by decide +kernel
theorem dX9_back_323 : decode cX9_back 323 = .ok (.goto (-34), 3) := by decide +kernel
theorem dX9_back_326 : decode cX9_back 326 = .ok (.iconst 1, 1) := by decide +kernel
theorem dX9_back_327 : decode cX9_back 327 = .ok (.ireturn, 1) := by decide +kernel
set_option maxHeartbeats 4000000 in
set_option maxRecDepth 100000 in
theorem g_X9_back (l : Launch) (G : xG) (S : yS) (d : yD) (h0 : Nat) (hSh : ySh S) (hPo : yPo S d) (hm_h0 : h0 ∈ S.1) (hk_h0 : S.2.1 h0 = 9) (hI : yMI S d h0) : xWi l G yX9_back cX9_back 2 (some .boolean) 1 21 0 0 [.ref h0] (yW G S d) (fun r (u : yD) => yAg S [9, 34, 35, 36, 37, 38, 39, 40, 41, 42, 43, 44, 45, 46, 47, 48, 49, 69] d u ∧ (yPo S d → yPo S u) ∧ yK [0, 1, 2, 3, 38] d u h0 ∧ (yMI S u h0 ∧ ((d.1 h0 20 = 0 ∧ u.1 h0 0 = d.1 h0 0 ∧ r = 0) ∨ (¬ d.1 h0 20 = 0 ∧ u.1 h0 0 = d.2.2.2.1 (S.2.2.1 h0 21) 0 ∧ r = 1)))) (fun u => yW G S u) := by
  intro sz
  refine xstart (by decide) (Nat.le_of_ble_eq_true rfl) (fun p e s m args below meth c ls C0 hr hlocks hin hsz hP hK hD hN hl => ?_)
  obtain ⟨hx, hb, hml, hown, htl⟩ := id C0
  subst hsz
  have hD := hD.self (sz := s.heap.size)
  generalize hAe : va_A (yW G S d) s.heap.size = A at hD ⊢
  have hA : ∀ q : Nat, s.heap.size ≤ q → A q := fun q h => by rw [← hAe]; exact Or.inr h
  have hS : va_S A s.heap s.heap [] := va_S.rf
  have hg0 : yAg S [9, 34, 35, 36, 37, 38, 39, 40, 41, 42, 43, 44, 45, 46, 47, 48, 49, 69] d d := yAg.rf
  have hl : lv_has ls 2 [(0, .ref h0)] := hl
  refine lv_aload_n hx hb dX9_back_0 rfl (lv_at hl 0 rfl) ?_
  refine lv_iconst (v := 0) hx hb dX9_back_1 (by decide) ?_
  refine yputI (ci := 9) (k := 38) (ty := .int) (C := RX9) (T := TX9) (N := 67) C0 hK hP hD hS hm_h0 hk_h0 (by decide) rfl inlX9 tyX9 tyX9_ok nmX9 (by decide) mW175 (fun _ h9 => h9) rfl (by decide +kernel) rfl rfl (Nat.le_of_ble_eq_true rfl) ysi_9_38 dX9_back_2 (fun H locs hP hD hS => ?_)
  obtain ⟨d_1, ed_1⟩ : ∃ z : yD, z = yi d h0 38 0 := ⟨_, rfl⟩
  rw [← ed_1] at hP hD
  have hgd_1 : yAg S [9, 34, 35, 36, 37, 38, 39, 40, 41, 42, 43, 44, 45, 46, 47, 48, 49, 69] d d_1 := by rw [ed_1]; exact yAg.i hg0 (by rw [hk_h0]; decide)
  have hsd_1 : yAg S [9] d d_1 := by rw [ed_1]; exact yAg.i yAg.rf (by rw [hk_h0]; decide)
  have hPod_1 : yPo S d_1 := by rw [ed_1]; exact yPo.i hPo hk_h0 (Or.inl rfl)
  have hfd_1 : yK [0, 1, 2, 3, 38] d d_1 h0 := by rw [ed_1]; exact yK.i yK.rf (by decide)
  have hId_1 : yMI S d_1 h0 := yMI.ag hI hSh hm_h0 hk_h0 (show yAg S [9] d d_1 from by rw [ed_1]; exact yAg.i yAg.rf (by rw [hk_h0]; decide)) (show yK [38] d d_1 h0 from by rw [ed_1]; exact yK.i yK.rf (by decide)) (by decide) (by decide)
  have hE0d_1 : (d_1.1 h0 0).toInt = (d.1 h0 0).toInt := congrArg Int32.toInt ((show yK [38] d d_1 h0 from by rw [ed_1]; exact yK.i yK.rf (by decide)) 0 (by decide))
  have hE1d_1 : (d_1.1 h0 1).toInt = (d.1 h0 1).toInt := congrArg Int32.toInt ((show yK [38] d d_1 h0 from by rw [ed_1]; exact yK.i yK.rf (by decide)) 1 (by decide))
  have hE2d_1 : (d_1.1 h0 2).toInt = (d.1 h0 2).toInt := congrArg Int32.toInt ((show yK [38] d d_1 h0 from by rw [ed_1]; exact yK.i yK.rf (by decide)) 2 (by decide))
  have hE3d_1 : (d_1.1 h0 3).toInt = (d.1 h0 3).toInt := congrArg Int32.toInt ((show yK [38] d d_1 h0 from by rw [ed_1]; exact yK.i yK.rf (by decide)) 3 (by decide))
  have hE63d_1 : (d_1.1 h0 63).toInt = (d.1 h0 63).toInt := congrArg Int32.toInt ((show yK [38] d d_1 h0 from by rw [ed_1]; exact yK.i yK.rf (by decide)) 63 (by decide))
  refine lv_aload_n hx hb dX9_back_5 rfl (lv_at hl 0 rfl) ?_
  refine yget (ci := 9) (k := 20) (v := .int (d_1.1 h0 20)) (C := RX9) (T := TX9) (N := 67) C0 hK hP hm_h0 hk_h0 (by decide) rfl inlX9 (by decide) mW1101 (fun _ h9 => h9) rfl dX9_back_6 ?_
  refine lv_topi (fun z_2 ez_2 => ?_)
  have hzz_2 : z_2 = 0 ∨ z_2 = 1 := by rw [ez_2]; exact yPo.b hPod_1 hm_h0 hk_h0 rfl
  refine lv_if_ne (tgt := 20) hx hb dX9_back_9 (by decide) (fun c_3 => ?_) (fun c_3 => ?_)
  · refine lv_aload_n hx hb dX9_back_20 rfl (lv_at hl 0 rfl) ?_
    refine lv_aload_n hx hb dX9_back_21 rfl (lv_at hl 0 rfl) ?_
    refine yget (ci := 9) (k := 21) (v := .ref (S.2.2.1 h0 21)) (C := RX9) (T := TX9) (N := 67) C0 hK hP hm_h0 hk_h0 (by decide) rfl inlX9 (by decide) mW127 (fun _ h9 => h9) rfl dX9_back_22 ?_
    obtain ⟨hmy_4, hky_4⟩ := ySh.f9_21 hSh _ hm_h0 hk_h0
    refine lv_iconst (v := 0) hx hb dX9_back_25 (by decide) ?_
    refine yald C0 hK hP hmy_4 hky_4 (by decide) rfl 0 rfl (by unfold vp_in; decide +kernel) dX9_back_26 ?_
    refine lv_topi (fun z_5 ez_5 => ?_)
    have hvz_5 : 0 ≤ (z_5 : Int32).toInt ∧ (z_5 : Int32).toInt ≤ 40 := by rw [ez_5, show (0 : Int32).toNatClampNeg = 0 by decide +kernel]; exact (yMI.kp_ hId_1).1
    refine yputI (ci := 9) (k := 0) (ty := .int) (C := RX9) (T := TX9) (N := 67) C0 hK hP hD hS hm_h0 hk_h0 (by decide) rfl inlX9 tyX9 tyX9_ok nmX9 (by decide) mW176 (fun _ h9 => h9) rfl (by decide +kernel) rfl rfl (Nat.le_of_ble_eq_true rfl) ysi_9_0 dX9_back_27 (fun H locs hP hD hS => ?_)
    obtain ⟨d_6, ed_6⟩ : ∃ z : yD, z = yi d_1 h0 0 z_5 := ⟨_, rfl⟩
    rw [← ed_6] at hP hD
    have hgd_6 : yAg S [9, 34, 35, 36, 37, 38, 39, 40, 41, 42, 43, 44, 45, 46, 47, 48, 49, 69] d d_6 := by rw [ed_6]; exact yAg.i hgd_1 (by rw [hk_h0]; decide)
    have hsd_6 : yAg S [9] d_1 d_6 := by rw [ed_6]; exact yAg.i yAg.rf (by rw [hk_h0]; decide)
    have hPod_6 : yPo S d_6 := by rw [ed_6]; exact yPo.i hPod_1 hk_h0 (Or.inl rfl)
    have hfd_6 : yK [0, 1, 2, 3, 38] d d_6 h0 := by rw [ed_6]; exact yK.i hfd_1 (by decide)
    have hCC_7 := yMI.c hId_1
    have T_8 : (z_2 : Int32).toInt = (d_1.1 h0 20).toInt := by rw [ez_2]
    have F_9 := fne (rfl : (z_2 : Int32).toInt = (z_2 : Int32).toInt) (by decide +kernel : (0 : Int32).toInt = 0) c_3
    have hId_6 : yMI S d_6 h0 := by rw [ed_6]; exact yMI.i0 hId_1 ⟨by omega, by omega⟩
    have hE0d_6 : (d_6.1 h0 0).toInt = (z_5 : Int32).toInt := by rw [ed_6, yi_self]
    have hE1d_6 : (d_6.1 h0 1).toInt = (d_1.1 h0 1).toInt := congrArg Int32.toInt ((show yK [0] d_1 d_6 h0 from by rw [ed_6]; exact yK.i yK.rf (by decide)) 1 (by decide))
    have hE2d_6 : (d_6.1 h0 2).toInt = (d_1.1 h0 2).toInt := congrArg Int32.toInt ((show yK [0] d_1 d_6 h0 from by rw [ed_6]; exact yK.i yK.rf (by decide)) 2 (by decide))
    have hE3d_6 : (d_6.1 h0 3).toInt = (d_1.1 h0 3).toInt := congrArg Int32.toInt ((show yK [0] d_1 d_6 h0 from by rw [ed_6]; exact yK.i yK.rf (by decide)) 3 (by decide))
    have hE63d_6 : (d_6.1 h0 63).toInt = (d_1.1 h0 63).toInt := congrArg Int32.toInt ((show yK [0] d_1 d_6 h0 from by rw [ed_6]; exact yK.i yK.rf (by decide)) 63 (by decide))
    refine lv_aload_n hx hb dX9_back_30 rfl (lv_at hl 0 rfl) ?_
    refine lv_aload_n hx hb dX9_back_31 rfl (lv_at hl 0 rfl) ?_
    refine yget (ci := 9) (k := 21) (v := .ref (S.2.2.1 h0 21)) (C := RX9) (T := TX9) (N := 67) C0 hK hP hm_h0 hk_h0 (by decide) rfl inlX9 (by decide) mW127 (fun _ h9 => h9) rfl dX9_back_32 ?_
    refine lv_iconst (v := 1) hx hb dX9_back_35 (by decide) ?_
    refine yald C0 hK hP hmy_4 hky_4 (by decide) rfl 0 rfl (by unfold vp_in; decide +kernel) dX9_back_36 ?_
    refine lv_topi (fun z_11 ez_11 => ?_)
    have hvz_11 : 0 ≤ (z_11 : Int32).toInt ∧ (z_11 : Int32).toInt ≤ 5000 := by rw [ez_11, show (1 : Int32).toNatClampNeg = 1 by decide +kernel]; exact (yMI.kp_ hId_6).2.1
    refine yputI (ci := 9) (k := 1) (ty := .int) (C := RX9) (T := TX9) (N := 67) C0 hK hP hD hS hm_h0 hk_h0 (by decide) rfl inlX9 tyX9 tyX9_ok nmX9 (by decide) mW364 (fun _ h9 => h9) rfl (by decide +kernel) rfl rfl (Nat.le_of_ble_eq_true rfl) ysi_9_1 dX9_back_37 (fun H locs hP hD hS => ?_)
    obtain ⟨d_12, ed_12⟩ : ∃ z : yD, z = yi d_6 h0 1 z_11 := ⟨_, rfl⟩
    rw [← ed_12] at hP hD
    have hgd_12 : yAg S [9, 34, 35, 36, 37, 38, 39, 40, 41, 42, 43, 44, 45, 46, 47, 48, 49, 69] d d_12 := by rw [ed_12]; exact yAg.i hgd_6 (by rw [hk_h0]; decide)
    have hsd_12 : yAg S [9] d_6 d_12 := by rw [ed_12]; exact yAg.i yAg.rf (by rw [hk_h0]; decide)
    have hPod_12 : yPo S d_12 := by rw [ed_12]; exact yPo.i hPod_6 hk_h0 (Or.inl rfl)
    have hfd_12 : yK [0, 1, 2, 3, 38] d d_12 h0 := by rw [ed_12]; exact yK.i hfd_6 (by decide)
    have hCC_13 := yMI.c hId_6
    have hId_12 : yMI S d_12 h0 := by rw [ed_12]; exact yMI.i1 hId_6 ⟨by omega, by omega⟩
    have hE0d_12 : (d_12.1 h0 0).toInt = (d_6.1 h0 0).toInt := congrArg Int32.toInt ((show yK [1] d_6 d_12 h0 from by rw [ed_12]; exact yK.i yK.rf (by decide)) 0 (by decide))
    have hE1d_12 : (d_12.1 h0 1).toInt = (z_11 : Int32).toInt := by rw [ed_12, yi_self]
    have hE2d_12 : (d_12.1 h0 2).toInt = (d_6.1 h0 2).toInt := congrArg Int32.toInt ((show yK [1] d_6 d_12 h0 from by rw [ed_12]; exact yK.i yK.rf (by decide)) 2 (by decide))
    have hE3d_12 : (d_12.1 h0 3).toInt = (d_6.1 h0 3).toInt := congrArg Int32.toInt ((show yK [1] d_6 d_12 h0 from by rw [ed_12]; exact yK.i yK.rf (by decide)) 3 (by decide))
    have hE63d_12 : (d_12.1 h0 63).toInt = (d_6.1 h0 63).toInt := congrArg Int32.toInt ((show yK [1] d_6 d_12 h0 from by rw [ed_12]; exact yK.i yK.rf (by decide)) 63 (by decide))
    refine lv_aload_n hx hb dX9_back_40 rfl (lv_at hl 0 rfl) ?_
    refine lv_aload_n hx hb dX9_back_41 rfl (lv_at hl 0 rfl) ?_
    refine yget (ci := 9) (k := 21) (v := .ref (S.2.2.1 h0 21)) (C := RX9) (T := TX9) (N := 67) C0 hK hP hm_h0 hk_h0 (by decide) rfl inlX9 (by decide) mW127 (fun _ h9 => h9) rfl dX9_back_42 ?_
    refine lv_iconst (v := 2) hx hb dX9_back_45 (by decide) ?_
    refine yald C0 hK hP hmy_4 hky_4 (by decide) rfl 0 rfl (by unfold vp_in; decide +kernel) dX9_back_46 ?_
    refine lv_topi (fun z_15 ez_15 => ?_)
    have hvz_15 : 0 ≤ (z_15 : Int32).toInt ∧ (z_15 : Int32).toInt ≤ 500 := by rw [ez_15, show (2 : Int32).toNatClampNeg = 2 by decide +kernel]; exact (yMI.kp_ hId_12).2.2.1
    refine yputI (ci := 9) (k := 2) (ty := .int) (C := RX9) (T := TX9) (N := 67) C0 hK hP hD hS hm_h0 hk_h0 (by decide) rfl inlX9 tyX9 tyX9_ok nmX9 (by decide) mW888 (fun _ h9 => h9) rfl (by decide +kernel) rfl rfl (Nat.le_of_ble_eq_true rfl) ysi_9_2 dX9_back_47 (fun H locs hP hD hS => ?_)
    obtain ⟨d_16, ed_16⟩ : ∃ z : yD, z = yi d_12 h0 2 z_15 := ⟨_, rfl⟩
    rw [← ed_16] at hP hD
    have hgd_16 : yAg S [9, 34, 35, 36, 37, 38, 39, 40, 41, 42, 43, 44, 45, 46, 47, 48, 49, 69] d d_16 := by rw [ed_16]; exact yAg.i hgd_12 (by rw [hk_h0]; decide)
    have hsd_16 : yAg S [9] d_12 d_16 := by rw [ed_16]; exact yAg.i yAg.rf (by rw [hk_h0]; decide)
    have hPod_16 : yPo S d_16 := by rw [ed_16]; exact yPo.i hPod_12 hk_h0 (Or.inl rfl)
    have hfd_16 : yK [0, 1, 2, 3, 38] d d_16 h0 := by rw [ed_16]; exact yK.i hfd_12 (by decide)
    have hCC_17 := yMI.c hId_12
    have hId_16 : yMI S d_16 h0 := by rw [ed_16]; exact yMI.i2 hId_12 ⟨by omega, by omega⟩
    have hE0d_16 : (d_16.1 h0 0).toInt = (d_12.1 h0 0).toInt := congrArg Int32.toInt ((show yK [2] d_12 d_16 h0 from by rw [ed_16]; exact yK.i yK.rf (by decide)) 0 (by decide))
    have hE1d_16 : (d_16.1 h0 1).toInt = (d_12.1 h0 1).toInt := congrArg Int32.toInt ((show yK [2] d_12 d_16 h0 from by rw [ed_16]; exact yK.i yK.rf (by decide)) 1 (by decide))
    have hE2d_16 : (d_16.1 h0 2).toInt = (z_15 : Int32).toInt := by rw [ed_16, yi_self]
    have hE3d_16 : (d_16.1 h0 3).toInt = (d_12.1 h0 3).toInt := congrArg Int32.toInt ((show yK [2] d_12 d_16 h0 from by rw [ed_16]; exact yK.i yK.rf (by decide)) 3 (by decide))
    have hE63d_16 : (d_16.1 h0 63).toInt = (d_12.1 h0 63).toInt := congrArg Int32.toInt ((show yK [2] d_12 d_16 h0 from by rw [ed_16]; exact yK.i yK.rf (by decide)) 63 (by decide))
    refine lv_aload_n hx hb dX9_back_50 rfl (lv_at hl 0 rfl) ?_
    refine lv_aload_n hx hb dX9_back_51 rfl (lv_at hl 0 rfl) ?_
    refine yget (ci := 9) (k := 21) (v := .ref (S.2.2.1 h0 21)) (C := RX9) (T := TX9) (N := 67) C0 hK hP hm_h0 hk_h0 (by decide) rfl inlX9 (by decide) mW127 (fun _ h9 => h9) rfl dX9_back_52 ?_
    refine lv_iconst (v := 3) hx hb dX9_back_55 (by decide) ?_
    refine yald C0 hK hP hmy_4 hky_4 (by decide) rfl 0 rfl (by unfold vp_in; decide +kernel) dX9_back_56 ?_
    refine lv_topi (fun z_19 ez_19 => ?_)
    have hvz_19 : (-1) ≤ (z_19 : Int32).toInt ∧ (z_19 : Int32).toInt ≤ 7 := by rw [ez_19, show (3 : Int32).toNatClampNeg = 3 by decide +kernel]; exact (yMI.kp_ hId_16).2.2.2
    refine yputI (ci := 9) (k := 3) (ty := .int) (C := RX9) (T := TX9) (N := 67) C0 hK hP hD hS hm_h0 hk_h0 (by decide) rfl inlX9 tyX9 tyX9_ok nmX9 (by decide) mW106 (fun _ h9 => h9) rfl (by decide +kernel) rfl rfl (Nat.le_of_ble_eq_true rfl) ysi_9_3 dX9_back_57 (fun H locs hP hD hS => ?_)
    obtain ⟨d_20, ed_20⟩ : ∃ z : yD, z = yi d_16 h0 3 z_19 := ⟨_, rfl⟩
    rw [← ed_20] at hP hD
    have hgd_20 : yAg S [9, 34, 35, 36, 37, 38, 39, 40, 41, 42, 43, 44, 45, 46, 47, 48, 49, 69] d d_20 := by rw [ed_20]; exact yAg.i hgd_16 (by rw [hk_h0]; decide)
    have hsd_20 : yAg S [9] d_16 d_20 := by rw [ed_20]; exact yAg.i yAg.rf (by rw [hk_h0]; decide)
    have hPod_20 : yPo S d_20 := by rw [ed_20]; exact yPo.i hPod_16 hk_h0 (Or.inl rfl)
    have hfd_20 : yK [0, 1, 2, 3, 38] d d_20 h0 := by rw [ed_20]; exact yK.i hfd_16 (by decide)
    have hCC_21 := yMI.c hId_16
    have hId_20 : yMI S d_20 h0 := by rw [ed_20]; exact yMI.i3 hId_16 ⟨by omega, by omega⟩
    have hE0d_20 : (d_20.1 h0 0).toInt = (d_16.1 h0 0).toInt := congrArg Int32.toInt ((show yK [3] d_16 d_20 h0 from by rw [ed_20]; exact yK.i yK.rf (by decide)) 0 (by decide))
    have hE1d_20 : (d_20.1 h0 1).toInt = (d_16.1 h0 1).toInt := congrArg Int32.toInt ((show yK [3] d_16 d_20 h0 from by rw [ed_20]; exact yK.i yK.rf (by decide)) 1 (by decide))
    have hE2d_20 : (d_20.1 h0 2).toInt = (d_16.1 h0 2).toInt := congrArg Int32.toInt ((show yK [3] d_16 d_20 h0 from by rw [ed_20]; exact yK.i yK.rf (by decide)) 2 (by decide))
    have hE3d_20 : (d_20.1 h0 3).toInt = (z_19 : Int32).toInt := by rw [ed_20, yi_self]
    have hE63d_20 : (d_20.1 h0 63).toInt = (d_16.1 h0 63).toInt := congrArg Int32.toInt ((show yK [3] d_16 d_20 h0 from by rw [ed_20]; exact yK.i yK.rf (by decide)) 63 (by decide))
    refine lv_iconst (v := 0) hx hb dX9_back_60 (by decide) ?_
    refine lv_istore_n (lv' := [(1, .int 0), (0, .ref h0)]) hx hb dX9_back_61 rfl hl (by decide) rfl (fun ls hl => ?_)
    have hCC_23 := yMI.c hId_20
    refine yloop (σ := Int32 × yD) (fun x => (2147483647 - (x.1 : Int32).toInt).toNat) 62 (fun x H locs ls => va_P G.1 xcl (yW G S x.2) H ∧ va_D A (yW G S x.2) ∧ va_S A s.heap H locs ∧ yAg S [9, 34, 35, 36, 37, 38, 39, 40, 41, 42, 43, 44, 45, 46, 47, 48, 49, 69] d x.2 ∧ yPo S x.2 ∧ yK [0, 1, 2, 3, 38] d x.2 h0 ∧ yMI S x.2 h0 ∧ yAg S [34, 35, 36, 37, 38, 39, 40] d_20 x.2 ∧ yK [] d_20 x.2 h0 ∧ (0 ≤ ((x.1) : Int32).toInt) ∧ lv_has ls 2 [(1, .int x.1), (0, .ref h0)]) (fun x H locs ls hI hnext_26 => ?_) (0, d_20) ⟨hP, hD, hS, hgd_20, hPod_20, hfd_20, hId_20, yAg.rf, yK.rf, (show (0 ≤ ((0) : Int32).toInt) from by have hl0_ : (0 : Int32).toInt = 0 := (by decide +kernel); have hq0_ : (0 : Int32).toInt = 0 := (by decide +kernel); omega), lv_sub hl [0, 1] rfl⟩
    obtain ⟨v_24, d_25⟩ := x
    obtain ⟨hP, hD, hS, hgd_25, hPod_25, hfd_25, hId_25, hLJd_25, hKJd_25, hex_27, hl⟩ := hI
    have hId_25 : yMI S d_25 h0 := hId_25
    have hex_27 : (0 ≤ ((v_24) : Int32).toInt) := hex_27
    have hl : lv_has ls 2 [(1, .int v_24), (0, .ref h0)] := hl
    have hLJd_25 : yAg S [34, 35, 36, 37, 38, 39, 40] d_20 d_25 := hLJd_25
    have hKJd_25 : yK [] d_20 d_25 h0 := hKJd_25
    have hE0d_25 : (d_25.1 h0 0).toInt = (d_20.1 h0 0).toInt := congrArg Int32.toInt (hKJd_25 0 (by decide))
    have hE1d_25 : (d_25.1 h0 1).toInt = (d_20.1 h0 1).toInt := congrArg Int32.toInt (hKJd_25 1 (by decide))
    have hE2d_25 : (d_25.1 h0 2).toInt = (d_20.1 h0 2).toInt := congrArg Int32.toInt (hKJd_25 2 (by decide))
    have hE3d_25 : (d_25.1 h0 3).toInt = (d_20.1 h0 3).toInt := congrArg Int32.toInt (hKJd_25 3 (by decide))
    have hE63d_25 : (d_25.1 h0 63).toInt = (d_20.1 h0 63).toInt := congrArg Int32.toInt (hKJd_25 63 (by decide))
    refine lv_iload_n hx hb dX9_back_62 rfl (lv_at hl 0 rfl) ?_
    refine lv_sipush (v := 2400) hx hb dX9_back_63 (by decide) ?_
    refine lv_icmp_ge (tgt := 159) hx hb dX9_back_66 (by decide) (fun c_28 => ?_) (fun c_28 => ?_)
    · refine lv_iconst (v := 0) hx hb dX9_back_159 (by decide) ?_
      refine lv_istore_n (lv' := [(1, .int 0), (0, .ref h0)]) hx hb dX9_back_160 rfl hl (by decide) rfl (fun ls hl => ?_)
      have hCC_29 := yMI.c hId_25
      have F_30 := fle (by decide +kernel : (2400 : Int32).toInt = 2400) (rfl : (v_24 : Int32).toInt = (v_24 : Int32).toInt) c_28
      refine yloop (σ := Int32 × yD) (fun x => (2147483647 - (x.1 : Int32).toInt).toNat) 161 (fun x H locs ls => va_P G.1 xcl (yW G S x.2) H ∧ va_D A (yW G S x.2) ∧ va_S A s.heap H locs ∧ yAg S [9, 34, 35, 36, 37, 38, 39, 40, 41, 42, 43, 44, 45, 46, 47, 48, 49, 69] d x.2 ∧ yPo S x.2 ∧ yK [0, 1, 2, 3, 38] d x.2 h0 ∧ yMI S x.2 h0 ∧ yAg S [41] d_25 x.2 ∧ yK [] d_25 x.2 h0 ∧ (0 ≤ ((x.1) : Int32).toInt) ∧ lv_has ls 2 [(1, .int x.1), (0, .ref h0)]) (fun x H locs ls hI hnext_33 => ?_) (0, d_25) ⟨hP, hD, hS, hgd_25, hPod_25, hfd_25, hId_25, yAg.rf, yK.rf, (show (0 ≤ ((0) : Int32).toInt) from by have hl0_ : (0 : Int32).toInt = 0 := (by decide +kernel); have hq0_ : (0 : Int32).toInt = 0 := (by decide +kernel); omega), lv_sub hl [0, 1] rfl⟩
      obtain ⟨v_31, d_32⟩ := x
      obtain ⟨hP, hD, hS, hgd_32, hPod_32, hfd_32, hId_32, hLJd_32, hKJd_32, hex_34, hl⟩ := hI
      have hId_32 : yMI S d_32 h0 := hId_32
      have hex_34 : (0 ≤ ((v_31) : Int32).toInt) := hex_34
      have hl : lv_has ls 2 [(1, .int v_31), (0, .ref h0)] := hl
      have hLJd_32 : yAg S [41] d_25 d_32 := hLJd_32
      have hKJd_32 : yK [] d_25 d_32 h0 := hKJd_32
      have hE0d_32 : (d_32.1 h0 0).toInt = (d_25.1 h0 0).toInt := congrArg Int32.toInt (hKJd_32 0 (by decide))
      have hE1d_32 : (d_32.1 h0 1).toInt = (d_25.1 h0 1).toInt := congrArg Int32.toInt (hKJd_32 1 (by decide))
      have hE2d_32 : (d_32.1 h0 2).toInt = (d_25.1 h0 2).toInt := congrArg Int32.toInt (hKJd_32 2 (by decide))
      have hE3d_32 : (d_32.1 h0 3).toInt = (d_25.1 h0 3).toInt := congrArg Int32.toInt (hKJd_32 3 (by decide))
      have hE63d_32 : (d_32.1 h0 63).toInt = (d_25.1 h0 63).toInt := congrArg Int32.toInt (hKJd_32 63 (by decide))
      refine lv_iload_n hx hb dX9_back_161 rfl (lv_at hl 0 rfl) ?_
      refine lv_bipush (v := 96) hx hb dX9_back_162 (by decide) ?_
      refine lv_icmp_ge (tgt := 185) hx hb dX9_back_164 (by decide) (fun c_35 => ?_) (fun c_35 => ?_)
      · refine lv_iconst (v := 0) hx hb dX9_back_185 (by decide) ?_
        refine lv_istore_n (lv' := [(1, .int 0), (0, .ref h0)]) hx hb dX9_back_186 rfl hl (by decide) rfl (fun ls hl => ?_)
        have hCC_36 := yMI.c hId_32
        have F_37 := fle (by decide +kernel : (96 : Int32).toInt = 96) (rfl : (v_31 : Int32).toInt = (v_31 : Int32).toInt) c_35
        refine yloop (σ := Int32 × yD) (fun x => (2147483647 - (x.1 : Int32).toInt).toNat) 187 (fun x H locs ls => va_P G.1 xcl (yW G S x.2) H ∧ va_D A (yW G S x.2) ∧ va_S A s.heap H locs ∧ yAg S [9, 34, 35, 36, 37, 38, 39, 40, 41, 42, 43, 44, 45, 46, 47, 48, 49, 69] d x.2 ∧ yPo S x.2 ∧ yK [0, 1, 2, 3, 38] d x.2 h0 ∧ yMI S x.2 h0 ∧ yAg S [42, 43, 44] d_32 x.2 ∧ yK [] d_32 x.2 h0 ∧ (0 ≤ ((x.1) : Int32).toInt) ∧ lv_has ls 2 [(1, .int x.1), (0, .ref h0)]) (fun x H locs ls hI hnext_40 => ?_) (0, d_32) ⟨hP, hD, hS, hgd_32, hPod_32, hfd_32, hId_32, yAg.rf, yK.rf, (show (0 ≤ ((0) : Int32).toInt) from by have hl0_ : (0 : Int32).toInt = 0 := (by decide +kernel); have hq0_ : (0 : Int32).toInt = 0 := (by decide +kernel); omega), lv_sub hl [0, 1] rfl⟩
        obtain ⟨v_38, d_39⟩ := x
        obtain ⟨hP, hD, hS, hgd_39, hPod_39, hfd_39, hId_39, hLJd_39, hKJd_39, hex_41, hl⟩ := hI
        have hId_39 : yMI S d_39 h0 := hId_39
        have hex_41 : (0 ≤ ((v_38) : Int32).toInt) := hex_41
        have hl : lv_has ls 2 [(1, .int v_38), (0, .ref h0)] := hl
        have hLJd_39 : yAg S [42, 43, 44] d_32 d_39 := hLJd_39
        have hKJd_39 : yK [] d_32 d_39 h0 := hKJd_39
        have hE0d_39 : (d_39.1 h0 0).toInt = (d_32.1 h0 0).toInt := congrArg Int32.toInt (hKJd_39 0 (by decide))
        have hE1d_39 : (d_39.1 h0 1).toInt = (d_32.1 h0 1).toInt := congrArg Int32.toInt (hKJd_39 1 (by decide))
        have hE2d_39 : (d_39.1 h0 2).toInt = (d_32.1 h0 2).toInt := congrArg Int32.toInt (hKJd_39 2 (by decide))
        have hE3d_39 : (d_39.1 h0 3).toInt = (d_32.1 h0 3).toInt := congrArg Int32.toInt (hKJd_39 3 (by decide))
        have hE63d_39 : (d_39.1 h0 63).toInt = (d_32.1 h0 63).toInt := congrArg Int32.toInt (hKJd_39 63 (by decide))
        refine lv_iload_n hx hb dX9_back_187 rfl (lv_at hl 0 rfl) ?_
        refine lv_sipush (v := 720) hx hb dX9_back_188 (by decide) ?_
        refine lv_icmp_ge (tgt := 236) hx hb dX9_back_191 (by decide) (fun c_42 => ?_) (fun c_42 => ?_)
        · refine lv_iconst (v := 0) hx hb dX9_back_236 (by decide) ?_
          refine lv_istore_n (lv' := [(1, .int 0), (0, .ref h0)]) hx hb dX9_back_237 rfl hl (by decide) rfl (fun ls hl => ?_)
          have hCC_43 := yMI.c hId_39
          have F_44 := fle (by decide +kernel : (720 : Int32).toInt = 720) (rfl : (v_38 : Int32).toInt = (v_38 : Int32).toInt) c_42
          refine yloop (σ := Int32 × yD) (fun x => (2147483647 - (x.1 : Int32).toInt).toNat) 238 (fun x H locs ls => va_P G.1 xcl (yW G S x.2) H ∧ va_D A (yW G S x.2) ∧ va_S A s.heap H locs ∧ yAg S [9, 34, 35, 36, 37, 38, 39, 40, 41, 42, 43, 44, 45, 46, 47, 48, 49, 69] d x.2 ∧ yPo S x.2 ∧ yK [0, 1, 2, 3, 38] d x.2 h0 ∧ yMI S x.2 h0 ∧ yAg S [45, 46, 47] d_39 x.2 ∧ yK [] d_39 x.2 h0 ∧ (0 ≤ ((x.1) : Int32).toInt) ∧ lv_has ls 2 [(1, .int x.1), (0, .ref h0)]) (fun x H locs ls hI hnext_47 => ?_) (0, d_39) ⟨hP, hD, hS, hgd_39, hPod_39, hfd_39, hId_39, yAg.rf, yK.rf, (show (0 ≤ ((0) : Int32).toInt) from by have hl0_ : (0 : Int32).toInt = 0 := (by decide +kernel); have hq0_ : (0 : Int32).toInt = 0 := (by decide +kernel); omega), lv_sub hl [0, 1] rfl⟩
          obtain ⟨v_45, d_46⟩ := x
          obtain ⟨hP, hD, hS, hgd_46, hPod_46, hfd_46, hId_46, hLJd_46, hKJd_46, hex_48, hl⟩ := hI
          have hId_46 : yMI S d_46 h0 := hId_46
          have hex_48 : (0 ≤ ((v_45) : Int32).toInt) := hex_48
          have hl : lv_has ls 2 [(1, .int v_45), (0, .ref h0)] := hl
          have hLJd_46 : yAg S [45, 46, 47] d_39 d_46 := hLJd_46
          have hKJd_46 : yK [] d_39 d_46 h0 := hKJd_46
          have hE0d_46 : (d_46.1 h0 0).toInt = (d_39.1 h0 0).toInt := congrArg Int32.toInt (hKJd_46 0 (by decide))
          have hE1d_46 : (d_46.1 h0 1).toInt = (d_39.1 h0 1).toInt := congrArg Int32.toInt (hKJd_46 1 (by decide))
          have hE2d_46 : (d_46.1 h0 2).toInt = (d_39.1 h0 2).toInt := congrArg Int32.toInt (hKJd_46 2 (by decide))
          have hE3d_46 : (d_46.1 h0 3).toInt = (d_39.1 h0 3).toInt := congrArg Int32.toInt (hKJd_46 3 (by decide))
          have hE63d_46 : (d_46.1 h0 63).toInt = (d_39.1 h0 63).toInt := congrArg Int32.toInt (hKJd_46 63 (by decide))
          refine lv_iload_n hx hb dX9_back_238 rfl (lv_at hl 0 rfl) ?_
          refine lv_sipush (v := 5000) hx hb dX9_back_239 (by decide) ?_
          refine lv_icmp_ge (tgt := 287) hx hb dX9_back_242 (by decide) (fun c_49 => ?_) (fun c_49 => ?_)
          · refine lv_iconst (v := 0) hx hb dX9_back_287 (by decide) ?_
            refine lv_istore_n (lv' := [(1, .int 0), (0, .ref h0)]) hx hb dX9_back_288 rfl hl (by decide) rfl (fun ls hl => ?_)
            have hCC_50 := yMI.c hId_46
            have F_51 := fle (by decide +kernel : (5000 : Int32).toInt = 5000) (rfl : (v_45 : Int32).toInt = (v_45 : Int32).toInt) c_49
            refine yloop (σ := Int32 × yD) (fun x => (2147483647 - (x.1 : Int32).toInt).toNat) 289 (fun x H locs ls => va_P G.1 xcl (yW G S x.2) H ∧ va_D A (yW G S x.2) ∧ va_S A s.heap H locs ∧ yAg S [9, 34, 35, 36, 37, 38, 39, 40, 41, 42, 43, 44, 45, 46, 47, 48, 49, 69] d x.2 ∧ yPo S x.2 ∧ yK [0, 1, 2, 3, 38] d x.2 h0 ∧ yMI S x.2 h0 ∧ yAg S [48, 49] d_46 x.2 ∧ yK [] d_46 x.2 h0 ∧ (0 ≤ ((x.1) : Int32).toInt) ∧ lv_has ls 2 [(1, .int x.1), (0, .ref h0)]) (fun x H locs ls hI hnext_54 => ?_) (0, d_46) ⟨hP, hD, hS, hgd_46, hPod_46, hfd_46, hId_46, yAg.rf, yK.rf, (show (0 ≤ ((0) : Int32).toInt) from by have hl0_ : (0 : Int32).toInt = 0 := (by decide +kernel); have hq0_ : (0 : Int32).toInt = 0 := (by decide +kernel); omega), lv_sub hl [0, 1] rfl⟩
            obtain ⟨v_52, d_53⟩ := x
            obtain ⟨hP, hD, hS, hgd_53, hPod_53, hfd_53, hId_53, hLJd_53, hKJd_53, hex_55, hl⟩ := hI
            have hId_53 : yMI S d_53 h0 := hId_53
            have hex_55 : (0 ≤ ((v_52) : Int32).toInt) := hex_55
            have hl : lv_has ls 2 [(1, .int v_52), (0, .ref h0)] := hl
            have hLJd_53 : yAg S [48, 49] d_46 d_53 := hLJd_53
            have hKJd_53 : yK [] d_46 d_53 h0 := hKJd_53
            have hE0d_53 : (d_53.1 h0 0).toInt = (d_46.1 h0 0).toInt := congrArg Int32.toInt (hKJd_53 0 (by decide))
            have hE1d_53 : (d_53.1 h0 1).toInt = (d_46.1 h0 1).toInt := congrArg Int32.toInt (hKJd_53 1 (by decide))
            have hE2d_53 : (d_53.1 h0 2).toInt = (d_46.1 h0 2).toInt := congrArg Int32.toInt (hKJd_53 2 (by decide))
            have hE3d_53 : (d_53.1 h0 3).toInt = (d_46.1 h0 3).toInt := congrArg Int32.toInt (hKJd_53 3 (by decide))
            have hE63d_53 : (d_53.1 h0 63).toInt = (d_46.1 h0 63).toInt := congrArg Int32.toInt (hKJd_53 63 (by decide))
            refine lv_iload_n hx hb dX9_back_289 rfl (lv_at hl 0 rfl) ?_
            refine lv_sipush (v := 500) hx hb dX9_back_290 (by decide) ?_
            refine lv_icmp_ge (tgt := 326) hx hb dX9_back_293 (by decide) (fun c_56 => ?_) (fun c_56 => ?_)
            · refine lv_iconst (v := 1) hx hb dX9_back_326 (by decide) ?_
              exact W.zret (v := 1) (ty := .boolean) hx hb hr rfl (fun t ht hW => ⟨⟨1, d_53, rfl, ⟨hgd_53, (fun _ => hPod_53), hfd_53, ⟨hId_53, Or.inr ⟨fun q => c_3 ((ez_2.trans (show d_1.1 h0 20 = d.1 h0 20 by rw [ed_1]; exact yi_at (by decide))).trans q), ((((hKJd_53 0 (by decide))).trans (((hKJd_46 0 (by decide))).trans (((hKJd_39 0 (by decide))).trans (((hKJd_32 0 (by decide))).trans (((hKJd_25 0 (by decide))).trans (((show d_20.1 h0 0 = d_16.1 h0 0 by rw [ed_20]; exact yi_at (by decide))).trans (((show d_16.1 h0 0 = d_12.1 h0 0 by rw [ed_16]; exact yi_at (by decide))).trans (show d_12.1 h0 0 = d_6.1 h0 0 by rw [ed_12]; exact yi_at (by decide)))))))))).trans ((show d_6.1 h0 0 = z_5 by rw [ed_6]; exact yi_self).trans (ez_5.trans ((congrArg (d_1.2.2.2.1 (S.2.2.1 h0 21)) (show (0 : Int32).toNatClampNeg = 0 by decide +kernel)).trans (congrFun (hsd_1 _ (by rw [(ySh.f9_21 hSh h0 hm_h0 hk_h0).2]; decide)).2.2.2.1 0)))), rfl⟩⟩⟩, by rw [ht]; exact hP, hD⟩, hS.F ht⟩) hS.2.2 dX9_back_327
            · refine lv_aload_n hx hb dX9_back_296 rfl (lv_at hl 1 rfl) ?_
              refine yget (ci := 9) (k := 18) (v := .ref (S.2.2.1 h0 18)) (C := RX9) (T := TX9) (N := 67) C0 hK hP hm_h0 hk_h0 (by decide) rfl inlX9 (by decide) mW125 (fun _ h9 => h9) rfl dX9_back_297 ?_
              obtain ⟨hmy_57, hky_57⟩ := ySh.f9_18 hSh _ hm_h0 hk_h0
              refine lv_iload_n hx hb dX9_back_300 rfl (lv_at hl 0 rfl) ?_
              refine lv_aload_n hx hb dX9_back_301 rfl (lv_at hl 1 rfl) ?_
              refine yget (ci := 9) (k := 36) (v := .ref (S.2.2.1 h0 36)) (C := RX9) (T := TX9) (N := 67) C0 hK hP hm_h0 hk_h0 (by decide) rfl inlX9 (by decide) mW142 (fun _ h9 => h9) rfl dX9_back_302 ?_
              obtain ⟨hmy_58, hky_58⟩ := ySh.f9_36 hSh _ hm_h0 hk_h0
              refine lv_iload_n hx hb dX9_back_305 rfl (lv_at hl 0 rfl) ?_
              have hCC_59 := yMI.c hId_53
              have F_60 := fnle (by decide +kernel : (500 : Int32).toInt = 500) (rfl : (v_52 : Int32).toInt = (v_52 : Int32).toInt) c_56
              refine yald C0 hK hP hmy_58 hky_58 (by decide) rfl 0 rfl (xinT 500 rfl (by omega) (by omega)) dX9_back_306 ?_
              refine lv_topi (fun z_61 ez_61 => ?_)
              refine yast C0 hK hP hD hS hmy_57 hky_57 (by decide) rfl 0 rfl (xinT 500 rfl (by omega) (by omega)) dX9_back_307 (fun H locs hP hD hS => ?_)
              obtain ⟨d_62, ed_62⟩ : ∃ z : yD, z = ycs d_53 (S.2.2.1 h0 18) (upd (d_53.2.2.2.1 (S.2.2.1 h0 18)) (v_52 : Int32).toNatClampNeg z_61) := ⟨_, rfl⟩
              rw [← ed_62] at hP hD
              have hgd_62 : yAg S [9, 34, 35, 36, 37, 38, 39, 40, 41, 42, 43, 44, 45, 46, 47, 48, 49, 69] d d_62 := by rw [ed_62]; exact yAg.cs hgd_53 (by rw [hky_57]; decide)
              have hsd_62 : yAg S [48] d_53 d_62 := by rw [ed_62]; exact yAg.cs yAg.rf (by rw [hky_57]; decide)
              have hPod_62 : yPo S d_62 := by rw [ed_62]; exact hPod_53
              have hfd_62 : yK [0, 1, 2, 3, 38] d d_62 h0 := yK.ag hfd_53 (show yAg S [48] d_53 d_62 from by rw [ed_62]; exact yAg.cs yAg.rf (by rw [hky_57]; decide)) (by rw [hk_h0]; decide)
              have hL0d_62 : yAg S [48, 49] d_46 d_62 := by rw [ed_62]; exact yAg.cs hLJd_53 (by rw [hky_57]; decide)
              have hK0d_62 : yK [] d_46 d_62 h0 := yK.ag hKJd_53 (show yAg S [48] d_53 d_62 from by rw [ed_62]; exact yAg.cs yAg.rf (by rw [hky_57]; decide)) (by rw [hk_h0]; decide)
              have hId_62 : yMI S d_62 h0 := yMI.ag hId_53 hSh hm_h0 hk_h0 (show yAg S [48] d_53 d_62 from by rw [ed_62]; exact yAg.cs yAg.rf (by rw [hky_57]; decide)) (yK.ag (F := []) yK.rf (show yAg S [48] d_53 d_62 from by rw [ed_62]; exact yAg.cs yAg.rf (by rw [hky_57]; decide)) (by rw [hk_h0]; decide)) (by decide) (by decide)
              have hE0d_62 : (d_62.1 h0 0).toInt = (d_53.1 h0 0).toInt := congrArg Int32.toInt ((yK.ag (F := []) yK.rf (show yAg S [48] d_53 d_62 from by rw [ed_62]; exact yAg.cs yAg.rf (by rw [hky_57]; decide)) (by rw [hk_h0]; decide)) 0 (by decide))
              have hE1d_62 : (d_62.1 h0 1).toInt = (d_53.1 h0 1).toInt := congrArg Int32.toInt ((yK.ag (F := []) yK.rf (show yAg S [48] d_53 d_62 from by rw [ed_62]; exact yAg.cs yAg.rf (by rw [hky_57]; decide)) (by rw [hk_h0]; decide)) 1 (by decide))
              have hE2d_62 : (d_62.1 h0 2).toInt = (d_53.1 h0 2).toInt := congrArg Int32.toInt ((yK.ag (F := []) yK.rf (show yAg S [48] d_53 d_62 from by rw [ed_62]; exact yAg.cs yAg.rf (by rw [hky_57]; decide)) (by rw [hk_h0]; decide)) 2 (by decide))
              have hE3d_62 : (d_62.1 h0 3).toInt = (d_53.1 h0 3).toInt := congrArg Int32.toInt ((yK.ag (F := []) yK.rf (show yAg S [48] d_53 d_62 from by rw [ed_62]; exact yAg.cs yAg.rf (by rw [hky_57]; decide)) (by rw [hk_h0]; decide)) 3 (by decide))
              have hE63d_62 : (d_62.1 h0 63).toInt = (d_53.1 h0 63).toInt := congrArg Int32.toInt ((yK.ag (F := []) yK.rf (show yAg S [48] d_53 d_62 from by rw [ed_62]; exact yAg.cs yAg.rf (by rw [hky_57]; decide)) (by rw [hk_h0]; decide)) 63 (by decide))
              refine lv_aload_n hx hb dX9_back_308 rfl (lv_at hl 1 rfl) ?_
              refine yget (ci := 9) (k := 19) (v := .ref (S.2.2.1 h0 19)) (C := RX9) (T := TX9) (N := 67) C0 hK hP hm_h0 hk_h0 (by decide) rfl inlX9 (by decide) mW126 (fun _ h9 => h9) rfl dX9_back_309 ?_
              obtain ⟨hmy_63, hky_63⟩ := ySh.f9_19 hSh _ hm_h0 hk_h0
              refine lv_iload_n hx hb dX9_back_312 rfl (lv_at hl 0 rfl) ?_
              refine lv_aload_n hx hb dX9_back_313 rfl (lv_at hl 1 rfl) ?_
              refine yget (ci := 9) (k := 37) (v := .ref (S.2.2.1 h0 37)) (C := RX9) (T := TX9) (N := 67) C0 hK hP hm_h0 hk_h0 (by decide) rfl inlX9 (by decide) mW143 (fun _ h9 => h9) rfl dX9_back_314 ?_
              obtain ⟨hmy_64, hky_64⟩ := ySh.f9_37 hSh _ hm_h0 hk_h0
              refine lv_iload_n hx hb dX9_back_317 rfl (lv_at hl 0 rfl) ?_
              have hCC_65 := yMI.c hId_62
              refine yaldB C0 hK hP hmy_64 hky_64 (by decide) rfl 1 rfl (xinT 500 rfl (by omega) (by omega)) dX9_back_318 ?_
              refine lv_topi (fun z_66 ez_66 => ?_)
              refine yastB C0 hK hP hD hS hmy_63 hky_63 (by decide) rfl 1 rfl (xinT 500 rfl (by omega) (by omega)) dX9_back_319 (fun H locs hP hD hS => ?_)
              obtain ⟨d_67, ed_67⟩ : ∃ z : yD, z = ycs d_62 (S.2.2.1 h0 19) (upd (d_62.2.2.2.1 (S.2.2.1 h0 19)) (v_52 : Int32).toNatClampNeg (vp_nar .byte z_66)) := ⟨_, rfl⟩
              rw [← ed_67] at hP hD
              have hgd_67 : yAg S [9, 34, 35, 36, 37, 38, 39, 40, 41, 42, 43, 44, 45, 46, 47, 48, 49, 69] d d_67 := by rw [ed_67]; exact yAg.cs hgd_62 (by rw [hky_63]; decide)
              have hsd_67 : yAg S [49] d_62 d_67 := by rw [ed_67]; exact yAg.cs yAg.rf (by rw [hky_63]; decide)
              have hPod_67 : yPo S d_67 := by rw [ed_67]; exact hPod_62
              have hfd_67 : yK [0, 1, 2, 3, 38] d d_67 h0 := yK.ag hfd_62 (show yAg S [49] d_62 d_67 from by rw [ed_67]; exact yAg.cs yAg.rf (by rw [hky_63]; decide)) (by rw [hk_h0]; decide)
              have hL0d_67 : yAg S [48, 49] d_46 d_67 := by rw [ed_67]; exact yAg.cs hL0d_62 (by rw [hky_63]; decide)
              have hK0d_67 : yK [] d_46 d_67 h0 := yK.ag hK0d_62 (show yAg S [49] d_62 d_67 from by rw [ed_67]; exact yAg.cs yAg.rf (by rw [hky_63]; decide)) (by rw [hk_h0]; decide)
              have hId_67 : yMI S d_67 h0 := yMI.ag hId_62 hSh hm_h0 hk_h0 (show yAg S [49] d_62 d_67 from by rw [ed_67]; exact yAg.cs yAg.rf (by rw [hky_63]; decide)) (yK.ag (F := []) yK.rf (show yAg S [49] d_62 d_67 from by rw [ed_67]; exact yAg.cs yAg.rf (by rw [hky_63]; decide)) (by rw [hk_h0]; decide)) (by decide) (by decide)
              have hE0d_67 : (d_67.1 h0 0).toInt = (d_62.1 h0 0).toInt := congrArg Int32.toInt ((yK.ag (F := []) yK.rf (show yAg S [49] d_62 d_67 from by rw [ed_67]; exact yAg.cs yAg.rf (by rw [hky_63]; decide)) (by rw [hk_h0]; decide)) 0 (by decide))
              have hE1d_67 : (d_67.1 h0 1).toInt = (d_62.1 h0 1).toInt := congrArg Int32.toInt ((yK.ag (F := []) yK.rf (show yAg S [49] d_62 d_67 from by rw [ed_67]; exact yAg.cs yAg.rf (by rw [hky_63]; decide)) (by rw [hk_h0]; decide)) 1 (by decide))
              have hE2d_67 : (d_67.1 h0 2).toInt = (d_62.1 h0 2).toInt := congrArg Int32.toInt ((yK.ag (F := []) yK.rf (show yAg S [49] d_62 d_67 from by rw [ed_67]; exact yAg.cs yAg.rf (by rw [hky_63]; decide)) (by rw [hk_h0]; decide)) 2 (by decide))
              have hE3d_67 : (d_67.1 h0 3).toInt = (d_62.1 h0 3).toInt := congrArg Int32.toInt ((yK.ag (F := []) yK.rf (show yAg S [49] d_62 d_67 from by rw [ed_67]; exact yAg.cs yAg.rf (by rw [hky_63]; decide)) (by rw [hk_h0]; decide)) 3 (by decide))
              have hE63d_67 : (d_67.1 h0 63).toInt = (d_62.1 h0 63).toInt := congrArg Int32.toInt ((yK.ag (F := []) yK.rf (show yAg S [49] d_62 d_67 from by rw [ed_67]; exact yAg.cs yAg.rf (by rw [hky_63]; decide)) (by rw [hk_h0]; decide)) 63 (by decide))
              refine lv_iinc (v := v_52 + 1) (lv' := [(1, .int (v_52 + 1)), (0, .ref h0)]) hx hb dX9_back_320 hl (k := 0) rfl rfl (by decide) rfl (fun ls hl => ?_)
              refine lv_goto (tgt := 289) hx hb dX9_back_323 (by decide) ?_
              have hCC_69 := yMI.c hId_67
              have T_70 : ((v_52 + 1) : Int32).toInt = (v_52 : Int32).toInt + 1 := tadd rfl (rfl : (v_52 : Int32).toInt = (v_52 : Int32).toInt) (by decide +kernel : (1 : Int32).toInt = 1) (by omega) (by omega)
              exact hnext_54 (v_52 + 1, d_67) _ _ ls (xup c_56) ⟨hP, hD, hS, hgd_67, hPod_67, hfd_67, hId_67, hL0d_67, hK0d_67, (show (0 ≤ (((v_52 + 1)) : Int32).toInt) from by have hq0_ : (0 : Int32).toInt = 0 := (by decide +kernel); omega), lv_sub hl [0, 1] rfl⟩
          · refine lv_aload_n hx hb dX9_back_245 rfl (lv_at hl 1 rfl) ?_
            refine yget (ci := 9) (k := 15) (v := .ref (S.2.2.1 h0 15)) (C := RX9) (T := TX9) (N := 67) C0 hK hP hm_h0 hk_h0 (by decide) rfl inlX9 (by decide) mW122 (fun _ h9 => h9) rfl dX9_back_246 ?_
            obtain ⟨hmy_71, hky_71⟩ := ySh.f9_15 hSh _ hm_h0 hk_h0
            refine lv_iload_n hx hb dX9_back_249 rfl (lv_at hl 0 rfl) ?_
            refine lv_aload_n hx hb dX9_back_250 rfl (lv_at hl 1 rfl) ?_
            refine yget (ci := 9) (k := 33) (v := .ref (S.2.2.1 h0 33)) (C := RX9) (T := TX9) (N := 67) C0 hK hP hm_h0 hk_h0 (by decide) rfl inlX9 (by decide) mW139 (fun _ h9 => h9) rfl dX9_back_251 ?_
            obtain ⟨hmy_72, hky_72⟩ := ySh.f9_33 hSh _ hm_h0 hk_h0
            refine lv_iload_n hx hb dX9_back_254 rfl (lv_at hl 0 rfl) ?_
            have hCC_73 := yMI.c hId_46
            have F_74 := fnle (by decide +kernel : (5000 : Int32).toInt = 5000) (rfl : (v_45 : Int32).toInt = (v_45 : Int32).toInt) c_49
            refine yaldB C0 hK hP hmy_72 hky_72 (by decide) rfl 1 rfl (xinT 5000 rfl (by omega) (by omega)) dX9_back_255 ?_
            refine lv_topi (fun z_75 ez_75 => ?_)
            refine yastB C0 hK hP hD hS hmy_71 hky_71 (by decide) rfl 1 rfl (xinT 5000 rfl (by omega) (by omega)) dX9_back_256 (fun H locs hP hD hS => ?_)
            obtain ⟨d_76, ed_76⟩ : ∃ z : yD, z = ycs d_46 (S.2.2.1 h0 15) (upd (d_46.2.2.2.1 (S.2.2.1 h0 15)) (v_45 : Int32).toNatClampNeg (vp_nar .byte z_75)) := ⟨_, rfl⟩
            rw [← ed_76] at hP hD
            have hgd_76 : yAg S [9, 34, 35, 36, 37, 38, 39, 40, 41, 42, 43, 44, 45, 46, 47, 48, 49, 69] d d_76 := by rw [ed_76]; exact yAg.cs hgd_46 (by rw [hky_71]; decide)
            have hsd_76 : yAg S [45] d_46 d_76 := by rw [ed_76]; exact yAg.cs yAg.rf (by rw [hky_71]; decide)
            have hPod_76 : yPo S d_76 := by rw [ed_76]; exact hPod_46
            have hfd_76 : yK [0, 1, 2, 3, 38] d d_76 h0 := yK.ag hfd_46 (show yAg S [45] d_46 d_76 from by rw [ed_76]; exact yAg.cs yAg.rf (by rw [hky_71]; decide)) (by rw [hk_h0]; decide)
            have hL0d_76 : yAg S [45, 46, 47] d_39 d_76 := by rw [ed_76]; exact yAg.cs hLJd_46 (by rw [hky_71]; decide)
            have hK0d_76 : yK [] d_39 d_76 h0 := yK.ag hKJd_46 (show yAg S [45] d_46 d_76 from by rw [ed_76]; exact yAg.cs yAg.rf (by rw [hky_71]; decide)) (by rw [hk_h0]; decide)
            have hId_76 : yMI S d_76 h0 := yMI.ag hId_46 hSh hm_h0 hk_h0 (show yAg S [45] d_46 d_76 from by rw [ed_76]; exact yAg.cs yAg.rf (by rw [hky_71]; decide)) (yK.ag (F := []) yK.rf (show yAg S [45] d_46 d_76 from by rw [ed_76]; exact yAg.cs yAg.rf (by rw [hky_71]; decide)) (by rw [hk_h0]; decide)) (by decide) (by decide)
            have hE0d_76 : (d_76.1 h0 0).toInt = (d_46.1 h0 0).toInt := congrArg Int32.toInt ((yK.ag (F := []) yK.rf (show yAg S [45] d_46 d_76 from by rw [ed_76]; exact yAg.cs yAg.rf (by rw [hky_71]; decide)) (by rw [hk_h0]; decide)) 0 (by decide))
            have hE1d_76 : (d_76.1 h0 1).toInt = (d_46.1 h0 1).toInt := congrArg Int32.toInt ((yK.ag (F := []) yK.rf (show yAg S [45] d_46 d_76 from by rw [ed_76]; exact yAg.cs yAg.rf (by rw [hky_71]; decide)) (by rw [hk_h0]; decide)) 1 (by decide))
            have hE2d_76 : (d_76.1 h0 2).toInt = (d_46.1 h0 2).toInt := congrArg Int32.toInt ((yK.ag (F := []) yK.rf (show yAg S [45] d_46 d_76 from by rw [ed_76]; exact yAg.cs yAg.rf (by rw [hky_71]; decide)) (by rw [hk_h0]; decide)) 2 (by decide))
            have hE3d_76 : (d_76.1 h0 3).toInt = (d_46.1 h0 3).toInt := congrArg Int32.toInt ((yK.ag (F := []) yK.rf (show yAg S [45] d_46 d_76 from by rw [ed_76]; exact yAg.cs yAg.rf (by rw [hky_71]; decide)) (by rw [hk_h0]; decide)) 3 (by decide))
            have hE63d_76 : (d_76.1 h0 63).toInt = (d_46.1 h0 63).toInt := congrArg Int32.toInt ((yK.ag (F := []) yK.rf (show yAg S [45] d_46 d_76 from by rw [ed_76]; exact yAg.cs yAg.rf (by rw [hky_71]; decide)) (by rw [hk_h0]; decide)) 63 (by decide))
            refine lv_aload_n hx hb dX9_back_257 rfl (lv_at hl 1 rfl) ?_
            refine yget (ci := 9) (k := 16) (v := .ref (S.2.2.1 h0 16)) (C := RX9) (T := TX9) (N := 67) C0 hK hP hm_h0 hk_h0 (by decide) rfl inlX9 (by decide) mW123 (fun _ h9 => h9) rfl dX9_back_258 ?_
            obtain ⟨hmy_77, hky_77⟩ := ySh.f9_16 hSh _ hm_h0 hk_h0
            refine lv_iload_n hx hb dX9_back_261 rfl (lv_at hl 0 rfl) ?_
            refine lv_aload_n hx hb dX9_back_262 rfl (lv_at hl 1 rfl) ?_
            refine yget (ci := 9) (k := 34) (v := .ref (S.2.2.1 h0 34)) (C := RX9) (T := TX9) (N := 67) C0 hK hP hm_h0 hk_h0 (by decide) rfl inlX9 (by decide) mW140 (fun _ h9 => h9) rfl dX9_back_263 ?_
            obtain ⟨hmy_78, hky_78⟩ := ySh.f9_34 hSh _ hm_h0 hk_h0
            refine lv_iload_n hx hb dX9_back_266 rfl (lv_at hl 0 rfl) ?_
            have hCC_79 := yMI.c hId_76
            refine yald C0 hK hP hmy_78 hky_78 (by decide) rfl 0 rfl (xinT 5000 rfl (by omega) (by omega)) dX9_back_267 ?_
            refine lv_topi (fun z_80 ez_80 => ?_)
            have hvz_80 : 0 ≤ (z_80 : Int32).toInt ∧ (z_80 : Int32).toInt ≤ 129599 := by rw [ez_80]; exact yMI.ke_ hId_76 _
            refine yast C0 hK hP hD hS hmy_77 hky_77 (by decide) rfl 0 rfl (xinT 5000 rfl (by omega) (by omega)) dX9_back_268 (fun H locs hP hD hS => ?_)
            obtain ⟨d_81, ed_81⟩ : ∃ z : yD, z = ycs d_76 (S.2.2.1 h0 16) (upd (d_76.2.2.2.1 (S.2.2.1 h0 16)) (v_45 : Int32).toNatClampNeg z_80) := ⟨_, rfl⟩
            rw [← ed_81] at hP hD
            have hgd_81 : yAg S [9, 34, 35, 36, 37, 38, 39, 40, 41, 42, 43, 44, 45, 46, 47, 48, 49, 69] d d_81 := by rw [ed_81]; exact yAg.cs hgd_76 (by rw [hky_77]; decide)
            have hsd_81 : yAg S [46] d_76 d_81 := by rw [ed_81]; exact yAg.cs yAg.rf (by rw [hky_77]; decide)
            have hPod_81 : yPo S d_81 := by rw [ed_81]; exact hPod_76
            have hfd_81 : yK [0, 1, 2, 3, 38] d d_81 h0 := yK.ag hfd_76 (show yAg S [46] d_76 d_81 from by rw [ed_81]; exact yAg.cs yAg.rf (by rw [hky_77]; decide)) (by rw [hk_h0]; decide)
            have hL0d_81 : yAg S [45, 46, 47] d_39 d_81 := by rw [ed_81]; exact yAg.cs hL0d_76 (by rw [hky_77]; decide)
            have hK0d_81 : yK [] d_39 d_81 h0 := yK.ag hK0d_76 (show yAg S [46] d_76 d_81 from by rw [ed_81]; exact yAg.cs yAg.rf (by rw [hky_77]; decide)) (by rw [hk_h0]; decide)
            have hId_81 : yMI S d_81 h0 := by rw [ed_81]; exact yMI.w16 hId_76 hSh hm_h0 hk_h0 (yBr.up (yMI.em_ hId_76) ⟨by omega, by omega⟩)
            have hE0d_81 : (d_81.1 h0 0).toInt = (d_76.1 h0 0).toInt := congrArg Int32.toInt ((yK.ag (F := []) yK.rf (show yAg S [46] d_76 d_81 from by rw [ed_81]; exact yAg.cs yAg.rf (by rw [hky_77]; decide)) (by rw [hk_h0]; decide)) 0 (by decide))
            have hE1d_81 : (d_81.1 h0 1).toInt = (d_76.1 h0 1).toInt := congrArg Int32.toInt ((yK.ag (F := []) yK.rf (show yAg S [46] d_76 d_81 from by rw [ed_81]; exact yAg.cs yAg.rf (by rw [hky_77]; decide)) (by rw [hk_h0]; decide)) 1 (by decide))
            have hE2d_81 : (d_81.1 h0 2).toInt = (d_76.1 h0 2).toInt := congrArg Int32.toInt ((yK.ag (F := []) yK.rf (show yAg S [46] d_76 d_81 from by rw [ed_81]; exact yAg.cs yAg.rf (by rw [hky_77]; decide)) (by rw [hk_h0]; decide)) 2 (by decide))
            have hE3d_81 : (d_81.1 h0 3).toInt = (d_76.1 h0 3).toInt := congrArg Int32.toInt ((yK.ag (F := []) yK.rf (show yAg S [46] d_76 d_81 from by rw [ed_81]; exact yAg.cs yAg.rf (by rw [hky_77]; decide)) (by rw [hk_h0]; decide)) 3 (by decide))
            have hE63d_81 : (d_81.1 h0 63).toInt = (d_76.1 h0 63).toInt := congrArg Int32.toInt ((yK.ag (F := []) yK.rf (show yAg S [46] d_76 d_81 from by rw [ed_81]; exact yAg.cs yAg.rf (by rw [hky_77]; decide)) (by rw [hk_h0]; decide)) 63 (by decide))
            refine lv_aload_n hx hb dX9_back_269 rfl (lv_at hl 1 rfl) ?_
            refine yget (ci := 9) (k := 17) (v := .ref (S.2.2.1 h0 17)) (C := RX9) (T := TX9) (N := 67) C0 hK hP hm_h0 hk_h0 (by decide) rfl inlX9 (by decide) mW124 (fun _ h9 => h9) rfl dX9_back_270 ?_
            obtain ⟨hmy_83, hky_83⟩ := ySh.f9_17 hSh _ hm_h0 hk_h0
            refine lv_iload_n hx hb dX9_back_273 rfl (lv_at hl 0 rfl) ?_
            refine lv_aload_n hx hb dX9_back_274 rfl (lv_at hl 1 rfl) ?_
            refine yget (ci := 9) (k := 35) (v := .ref (S.2.2.1 h0 35)) (C := RX9) (T := TX9) (N := 67) C0 hK hP hm_h0 hk_h0 (by decide) rfl inlX9 (by decide) mW141 (fun _ h9 => h9) rfl dX9_back_275 ?_
            obtain ⟨hmy_84, hky_84⟩ := ySh.f9_35 hSh _ hm_h0 hk_h0
            refine lv_iload_n hx hb dX9_back_278 rfl (lv_at hl 0 rfl) ?_
            have hCC_85 := yMI.c hId_81
            refine yaldB C0 hK hP hmy_84 hky_84 (by decide) rfl 1 rfl (xinT 5000 rfl (by omega) (by omega)) dX9_back_279 ?_
            refine lv_topi (fun z_86 ez_86 => ?_)
            refine yastB C0 hK hP hD hS hmy_83 hky_83 (by decide) rfl 1 rfl (xinT 5000 rfl (by omega) (by omega)) dX9_back_280 (fun H locs hP hD hS => ?_)
            obtain ⟨d_87, ed_87⟩ : ∃ z : yD, z = ycs d_81 (S.2.2.1 h0 17) (upd (d_81.2.2.2.1 (S.2.2.1 h0 17)) (v_45 : Int32).toNatClampNeg (vp_nar .byte z_86)) := ⟨_, rfl⟩
            rw [← ed_87] at hP hD
            have hgd_87 : yAg S [9, 34, 35, 36, 37, 38, 39, 40, 41, 42, 43, 44, 45, 46, 47, 48, 49, 69] d d_87 := by rw [ed_87]; exact yAg.cs hgd_81 (by rw [hky_83]; decide)
            have hsd_87 : yAg S [47] d_81 d_87 := by rw [ed_87]; exact yAg.cs yAg.rf (by rw [hky_83]; decide)
            have hPod_87 : yPo S d_87 := by rw [ed_87]; exact hPod_81
            have hfd_87 : yK [0, 1, 2, 3, 38] d d_87 h0 := yK.ag hfd_81 (show yAg S [47] d_81 d_87 from by rw [ed_87]; exact yAg.cs yAg.rf (by rw [hky_83]; decide)) (by rw [hk_h0]; decide)
            have hL0d_87 : yAg S [45, 46, 47] d_39 d_87 := by rw [ed_87]; exact yAg.cs hL0d_81 (by rw [hky_83]; decide)
            have hK0d_87 : yK [] d_39 d_87 h0 := yK.ag hK0d_81 (show yAg S [47] d_81 d_87 from by rw [ed_87]; exact yAg.cs yAg.rf (by rw [hky_83]; decide)) (by rw [hk_h0]; decide)
            have hId_87 : yMI S d_87 h0 := yMI.ag hId_81 hSh hm_h0 hk_h0 (show yAg S [47] d_81 d_87 from by rw [ed_87]; exact yAg.cs yAg.rf (by rw [hky_83]; decide)) (yK.ag (F := []) yK.rf (show yAg S [47] d_81 d_87 from by rw [ed_87]; exact yAg.cs yAg.rf (by rw [hky_83]; decide)) (by rw [hk_h0]; decide)) (by decide) (by decide)
            have hE0d_87 : (d_87.1 h0 0).toInt = (d_81.1 h0 0).toInt := congrArg Int32.toInt ((yK.ag (F := []) yK.rf (show yAg S [47] d_81 d_87 from by rw [ed_87]; exact yAg.cs yAg.rf (by rw [hky_83]; decide)) (by rw [hk_h0]; decide)) 0 (by decide))
            have hE1d_87 : (d_87.1 h0 1).toInt = (d_81.1 h0 1).toInt := congrArg Int32.toInt ((yK.ag (F := []) yK.rf (show yAg S [47] d_81 d_87 from by rw [ed_87]; exact yAg.cs yAg.rf (by rw [hky_83]; decide)) (by rw [hk_h0]; decide)) 1 (by decide))
            have hE2d_87 : (d_87.1 h0 2).toInt = (d_81.1 h0 2).toInt := congrArg Int32.toInt ((yK.ag (F := []) yK.rf (show yAg S [47] d_81 d_87 from by rw [ed_87]; exact yAg.cs yAg.rf (by rw [hky_83]; decide)) (by rw [hk_h0]; decide)) 2 (by decide))
            have hE3d_87 : (d_87.1 h0 3).toInt = (d_81.1 h0 3).toInt := congrArg Int32.toInt ((yK.ag (F := []) yK.rf (show yAg S [47] d_81 d_87 from by rw [ed_87]; exact yAg.cs yAg.rf (by rw [hky_83]; decide)) (by rw [hk_h0]; decide)) 3 (by decide))
            have hE63d_87 : (d_87.1 h0 63).toInt = (d_81.1 h0 63).toInt := congrArg Int32.toInt ((yK.ag (F := []) yK.rf (show yAg S [47] d_81 d_87 from by rw [ed_87]; exact yAg.cs yAg.rf (by rw [hky_83]; decide)) (by rw [hk_h0]; decide)) 63 (by decide))
            refine lv_iinc (v := v_45 + 1) (lv' := [(1, .int (v_45 + 1)), (0, .ref h0)]) hx hb dX9_back_281 hl (k := 0) rfl rfl (by decide) rfl (fun ls hl => ?_)
            refine lv_goto (tgt := 238) hx hb dX9_back_284 (by decide) ?_
            have hCC_89 := yMI.c hId_87
            have T_90 : ((v_45 + 1) : Int32).toInt = (v_45 : Int32).toInt + 1 := tadd rfl (rfl : (v_45 : Int32).toInt = (v_45 : Int32).toInt) (by decide +kernel : (1 : Int32).toInt = 1) (by omega) (by omega)
            exact hnext_47 (v_45 + 1, d_87) _ _ ls (xup c_49) ⟨hP, hD, hS, hgd_87, hPod_87, hfd_87, hId_87, hL0d_87, hK0d_87, (show (0 ≤ (((v_45 + 1)) : Int32).toInt) from by have hq0_ : (0 : Int32).toInt = 0 := (by decide +kernel); omega), lv_sub hl [0, 1] rfl⟩
        · refine lv_aload_n hx hb dX9_back_194 rfl (lv_at hl 1 rfl) ?_
          refine yget (ci := 9) (k := 12) (v := .ref (S.2.2.1 h0 12)) (C := RX9) (T := TX9) (N := 67) C0 hK hP hm_h0 hk_h0 (by decide) rfl inlX9 (by decide) mW118 (fun _ h9 => h9) rfl dX9_back_195 ?_
          obtain ⟨hmy_91, hky_91⟩ := ySh.f9_12 hSh _ hm_h0 hk_h0
          refine lv_iload_n hx hb dX9_back_198 rfl (lv_at hl 0 rfl) ?_
          refine lv_aload_n hx hb dX9_back_199 rfl (lv_at hl 1 rfl) ?_
          refine yget (ci := 9) (k := 30) (v := .ref (S.2.2.1 h0 30)) (C := RX9) (T := TX9) (N := 67) C0 hK hP hm_h0 hk_h0 (by decide) rfl inlX9 (by decide) mW136 (fun _ h9 => h9) rfl dX9_back_200 ?_
          obtain ⟨hmy_92, hky_92⟩ := ySh.f9_30 hSh _ hm_h0 hk_h0
          refine lv_iload_n hx hb dX9_back_203 rfl (lv_at hl 0 rfl) ?_
          have hCC_93 := yMI.c hId_39
          have F_94 := fnle (by decide +kernel : (720 : Int32).toInt = 720) (rfl : (v_38 : Int32).toInt = (v_38 : Int32).toInt) c_42
          refine yaldS C0 hK hP hmy_92 hky_92 (by decide) rfl 2 rfl (xinT 720 rfl (by omega) (by omega)) dX9_back_204 ?_
          refine lv_topi (fun z_95 ez_95 => ?_)
          refine yastS C0 hK hP hD hS hmy_91 hky_91 (by decide) rfl 2 rfl (xinT 720 rfl (by omega) (by omega)) dX9_back_205 (fun H locs hP hD hS => ?_)
          obtain ⟨d_96, ed_96⟩ : ∃ z : yD, z = ycs d_39 (S.2.2.1 h0 12) (upd (d_39.2.2.2.1 (S.2.2.1 h0 12)) (v_38 : Int32).toNatClampNeg (vp_nar .short z_95)) := ⟨_, rfl⟩
          rw [← ed_96] at hP hD
          have hgd_96 : yAg S [9, 34, 35, 36, 37, 38, 39, 40, 41, 42, 43, 44, 45, 46, 47, 48, 49, 69] d d_96 := by rw [ed_96]; exact yAg.cs hgd_39 (by rw [hky_91]; decide)
          have hsd_96 : yAg S [42] d_39 d_96 := by rw [ed_96]; exact yAg.cs yAg.rf (by rw [hky_91]; decide)
          have hPod_96 : yPo S d_96 := by rw [ed_96]; exact hPod_39
          have hfd_96 : yK [0, 1, 2, 3, 38] d d_96 h0 := yK.ag hfd_39 (show yAg S [42] d_39 d_96 from by rw [ed_96]; exact yAg.cs yAg.rf (by rw [hky_91]; decide)) (by rw [hk_h0]; decide)
          have hL0d_96 : yAg S [42, 43, 44] d_32 d_96 := by rw [ed_96]; exact yAg.cs hLJd_39 (by rw [hky_91]; decide)
          have hK0d_96 : yK [] d_32 d_96 h0 := yK.ag hKJd_39 (show yAg S [42] d_39 d_96 from by rw [ed_96]; exact yAg.cs yAg.rf (by rw [hky_91]; decide)) (by rw [hk_h0]; decide)
          have hId_96 : yMI S d_96 h0 := yMI.ag hId_39 hSh hm_h0 hk_h0 (show yAg S [42] d_39 d_96 from by rw [ed_96]; exact yAg.cs yAg.rf (by rw [hky_91]; decide)) (yK.ag (F := []) yK.rf (show yAg S [42] d_39 d_96 from by rw [ed_96]; exact yAg.cs yAg.rf (by rw [hky_91]; decide)) (by rw [hk_h0]; decide)) (by decide) (by decide)
          have hE0d_96 : (d_96.1 h0 0).toInt = (d_39.1 h0 0).toInt := congrArg Int32.toInt ((yK.ag (F := []) yK.rf (show yAg S [42] d_39 d_96 from by rw [ed_96]; exact yAg.cs yAg.rf (by rw [hky_91]; decide)) (by rw [hk_h0]; decide)) 0 (by decide))
          have hE1d_96 : (d_96.1 h0 1).toInt = (d_39.1 h0 1).toInt := congrArg Int32.toInt ((yK.ag (F := []) yK.rf (show yAg S [42] d_39 d_96 from by rw [ed_96]; exact yAg.cs yAg.rf (by rw [hky_91]; decide)) (by rw [hk_h0]; decide)) 1 (by decide))
          have hE2d_96 : (d_96.1 h0 2).toInt = (d_39.1 h0 2).toInt := congrArg Int32.toInt ((yK.ag (F := []) yK.rf (show yAg S [42] d_39 d_96 from by rw [ed_96]; exact yAg.cs yAg.rf (by rw [hky_91]; decide)) (by rw [hk_h0]; decide)) 2 (by decide))
          have hE3d_96 : (d_96.1 h0 3).toInt = (d_39.1 h0 3).toInt := congrArg Int32.toInt ((yK.ag (F := []) yK.rf (show yAg S [42] d_39 d_96 from by rw [ed_96]; exact yAg.cs yAg.rf (by rw [hky_91]; decide)) (by rw [hk_h0]; decide)) 3 (by decide))
          have hE63d_96 : (d_96.1 h0 63).toInt = (d_39.1 h0 63).toInt := congrArg Int32.toInt ((yK.ag (F := []) yK.rf (show yAg S [42] d_39 d_96 from by rw [ed_96]; exact yAg.cs yAg.rf (by rw [hky_91]; decide)) (by rw [hk_h0]; decide)) 63 (by decide))
          refine lv_aload_n hx hb dX9_back_206 rfl (lv_at hl 1 rfl) ?_
          refine yget (ci := 9) (k := 13) (v := .ref (S.2.2.1 h0 13)) (C := RX9) (T := TX9) (N := 67) C0 hK hP hm_h0 hk_h0 (by decide) rfl inlX9 (by decide) mW120 (fun _ h9 => h9) rfl dX9_back_207 ?_
          obtain ⟨hmy_97, hky_97⟩ := ySh.f9_13 hSh _ hm_h0 hk_h0
          refine lv_iload_n hx hb dX9_back_210 rfl (lv_at hl 0 rfl) ?_
          refine lv_aload_n hx hb dX9_back_211 rfl (lv_at hl 1 rfl) ?_
          refine yget (ci := 9) (k := 31) (v := .ref (S.2.2.1 h0 31)) (C := RX9) (T := TX9) (N := 67) C0 hK hP hm_h0 hk_h0 (by decide) rfl inlX9 (by decide) mW137 (fun _ h9 => h9) rfl dX9_back_212 ?_
          obtain ⟨hmy_98, hky_98⟩ := ySh.f9_31 hSh _ hm_h0 hk_h0
          refine lv_iload_n hx hb dX9_back_215 rfl (lv_at hl 0 rfl) ?_
          have hCC_99 := yMI.c hId_96
          refine yaldZ C0 hK hP hmy_98 hky_98 (by decide) rfl 3 rfl (xinT 720 rfl (by omega) (by omega)) dX9_back_216 ?_
          refine lv_topi (fun z_100 ez_100 => ?_)
          refine yastZ C0 hK hP hD hS hmy_97 hky_97 (by decide) rfl 3 rfl (xinT 720 rfl (by omega) (by omega)) dX9_back_217 (fun H locs hP hD hS => ?_)
          obtain ⟨d_101, ed_101⟩ : ∃ z : yD, z = ycs d_96 (S.2.2.1 h0 13) (upd (d_96.2.2.2.1 (S.2.2.1 h0 13)) (v_38 : Int32).toNatClampNeg (vp_nar .boolean z_100)) := ⟨_, rfl⟩
          rw [← ed_101] at hP hD
          have hgd_101 : yAg S [9, 34, 35, 36, 37, 38, 39, 40, 41, 42, 43, 44, 45, 46, 47, 48, 49, 69] d d_101 := by rw [ed_101]; exact yAg.cs hgd_96 (by rw [hky_97]; decide)
          have hsd_101 : yAg S [43] d_96 d_101 := by rw [ed_101]; exact yAg.cs yAg.rf (by rw [hky_97]; decide)
          have hPod_101 : yPo S d_101 := by rw [ed_101]; exact hPod_96
          have hfd_101 : yK [0, 1, 2, 3, 38] d d_101 h0 := yK.ag hfd_96 (show yAg S [43] d_96 d_101 from by rw [ed_101]; exact yAg.cs yAg.rf (by rw [hky_97]; decide)) (by rw [hk_h0]; decide)
          have hL0d_101 : yAg S [42, 43, 44] d_32 d_101 := by rw [ed_101]; exact yAg.cs hL0d_96 (by rw [hky_97]; decide)
          have hK0d_101 : yK [] d_32 d_101 h0 := yK.ag hK0d_96 (show yAg S [43] d_96 d_101 from by rw [ed_101]; exact yAg.cs yAg.rf (by rw [hky_97]; decide)) (by rw [hk_h0]; decide)
          have hId_101 : yMI S d_101 h0 := yMI.ag hId_96 hSh hm_h0 hk_h0 (show yAg S [43] d_96 d_101 from by rw [ed_101]; exact yAg.cs yAg.rf (by rw [hky_97]; decide)) (yK.ag (F := []) yK.rf (show yAg S [43] d_96 d_101 from by rw [ed_101]; exact yAg.cs yAg.rf (by rw [hky_97]; decide)) (by rw [hk_h0]; decide)) (by decide) (by decide)
          have hE0d_101 : (d_101.1 h0 0).toInt = (d_96.1 h0 0).toInt := congrArg Int32.toInt ((yK.ag (F := []) yK.rf (show yAg S [43] d_96 d_101 from by rw [ed_101]; exact yAg.cs yAg.rf (by rw [hky_97]; decide)) (by rw [hk_h0]; decide)) 0 (by decide))
          have hE1d_101 : (d_101.1 h0 1).toInt = (d_96.1 h0 1).toInt := congrArg Int32.toInt ((yK.ag (F := []) yK.rf (show yAg S [43] d_96 d_101 from by rw [ed_101]; exact yAg.cs yAg.rf (by rw [hky_97]; decide)) (by rw [hk_h0]; decide)) 1 (by decide))
          have hE2d_101 : (d_101.1 h0 2).toInt = (d_96.1 h0 2).toInt := congrArg Int32.toInt ((yK.ag (F := []) yK.rf (show yAg S [43] d_96 d_101 from by rw [ed_101]; exact yAg.cs yAg.rf (by rw [hky_97]; decide)) (by rw [hk_h0]; decide)) 2 (by decide))
          have hE3d_101 : (d_101.1 h0 3).toInt = (d_96.1 h0 3).toInt := congrArg Int32.toInt ((yK.ag (F := []) yK.rf (show yAg S [43] d_96 d_101 from by rw [ed_101]; exact yAg.cs yAg.rf (by rw [hky_97]; decide)) (by rw [hk_h0]; decide)) 3 (by decide))
          have hE63d_101 : (d_101.1 h0 63).toInt = (d_96.1 h0 63).toInt := congrArg Int32.toInt ((yK.ag (F := []) yK.rf (show yAg S [43] d_96 d_101 from by rw [ed_101]; exact yAg.cs yAg.rf (by rw [hky_97]; decide)) (by rw [hk_h0]; decide)) 63 (by decide))
          refine lv_aload_n hx hb dX9_back_218 rfl (lv_at hl 1 rfl) ?_
          refine yget (ci := 9) (k := 14) (v := .ref (S.2.2.1 h0 14)) (C := RX9) (T := TX9) (N := 67) C0 hK hP hm_h0 hk_h0 (by decide) rfl inlX9 (by decide) mW121 (fun _ h9 => h9) rfl dX9_back_219 ?_
          obtain ⟨hmy_102, hky_102⟩ := ySh.f9_14 hSh _ hm_h0 hk_h0
          refine lv_iload_n hx hb dX9_back_222 rfl (lv_at hl 0 rfl) ?_
          refine lv_aload_n hx hb dX9_back_223 rfl (lv_at hl 1 rfl) ?_
          refine yget (ci := 9) (k := 32) (v := .ref (S.2.2.1 h0 32)) (C := RX9) (T := TX9) (N := 67) C0 hK hP hm_h0 hk_h0 (by decide) rfl inlX9 (by decide) mW138 (fun _ h9 => h9) rfl dX9_back_224 ?_
          obtain ⟨hmy_103, hky_103⟩ := ySh.f9_32 hSh _ hm_h0 hk_h0
          refine lv_iload_n hx hb dX9_back_227 rfl (lv_at hl 0 rfl) ?_
          have hCC_104 := yMI.c hId_101
          refine yaldZ C0 hK hP hmy_103 hky_103 (by decide) rfl 3 rfl (xinT 720 rfl (by omega) (by omega)) dX9_back_228 ?_
          refine lv_topi (fun z_105 ez_105 => ?_)
          have hzz_105 : z_105 = 0 ∨ z_105 = 1 := by rw [ez_105]; exact yMI.kz_ hId_101 _
          refine yastZ C0 hK hP hD hS hmy_102 hky_102 (by decide) rfl 3 rfl (xinT 720 rfl (by omega) (by omega)) dX9_back_229 (fun H locs hP hD hS => ?_)
          obtain ⟨d_106, ed_106⟩ : ∃ z : yD, z = ycs d_101 (S.2.2.1 h0 14) (upd (d_101.2.2.2.1 (S.2.2.1 h0 14)) (v_38 : Int32).toNatClampNeg (vp_nar .boolean z_105)) := ⟨_, rfl⟩
          rw [← ed_106] at hP hD
          have hgd_106 : yAg S [9, 34, 35, 36, 37, 38, 39, 40, 41, 42, 43, 44, 45, 46, 47, 48, 49, 69] d d_106 := by rw [ed_106]; exact yAg.cs hgd_101 (by rw [hky_102]; decide)
          have hsd_106 : yAg S [44] d_101 d_106 := by rw [ed_106]; exact yAg.cs yAg.rf (by rw [hky_102]; decide)
          have hPod_106 : yPo S d_106 := by rw [ed_106]; exact hPod_101
          have hfd_106 : yK [0, 1, 2, 3, 38] d d_106 h0 := yK.ag hfd_101 (show yAg S [44] d_101 d_106 from by rw [ed_106]; exact yAg.cs yAg.rf (by rw [hky_102]; decide)) (by rw [hk_h0]; decide)
          have hL0d_106 : yAg S [42, 43, 44] d_32 d_106 := by rw [ed_106]; exact yAg.cs hL0d_101 (by rw [hky_102]; decide)
          have hK0d_106 : yK [] d_32 d_106 h0 := yK.ag hK0d_101 (show yAg S [44] d_101 d_106 from by rw [ed_106]; exact yAg.cs yAg.rf (by rw [hky_102]; decide)) (by rw [hk_h0]; decide)
          have hId_106 : yMI S d_106 h0 := by rw [ed_106]; exact yMI.w14 hId_101 hSh hm_h0 hk_h0 (yBz.up (yMI.z_ hId_101) hzz_105)
          have hE0d_106 : (d_106.1 h0 0).toInt = (d_101.1 h0 0).toInt := congrArg Int32.toInt ((yK.ag (F := []) yK.rf (show yAg S [44] d_101 d_106 from by rw [ed_106]; exact yAg.cs yAg.rf (by rw [hky_102]; decide)) (by rw [hk_h0]; decide)) 0 (by decide))
          have hE1d_106 : (d_106.1 h0 1).toInt = (d_101.1 h0 1).toInt := congrArg Int32.toInt ((yK.ag (F := []) yK.rf (show yAg S [44] d_101 d_106 from by rw [ed_106]; exact yAg.cs yAg.rf (by rw [hky_102]; decide)) (by rw [hk_h0]; decide)) 1 (by decide))
          have hE2d_106 : (d_106.1 h0 2).toInt = (d_101.1 h0 2).toInt := congrArg Int32.toInt ((yK.ag (F := []) yK.rf (show yAg S [44] d_101 d_106 from by rw [ed_106]; exact yAg.cs yAg.rf (by rw [hky_102]; decide)) (by rw [hk_h0]; decide)) 2 (by decide))
          have hE3d_106 : (d_106.1 h0 3).toInt = (d_101.1 h0 3).toInt := congrArg Int32.toInt ((yK.ag (F := []) yK.rf (show yAg S [44] d_101 d_106 from by rw [ed_106]; exact yAg.cs yAg.rf (by rw [hky_102]; decide)) (by rw [hk_h0]; decide)) 3 (by decide))
          have hE63d_106 : (d_106.1 h0 63).toInt = (d_101.1 h0 63).toInt := congrArg Int32.toInt ((yK.ag (F := []) yK.rf (show yAg S [44] d_101 d_106 from by rw [ed_106]; exact yAg.cs yAg.rf (by rw [hky_102]; decide)) (by rw [hk_h0]; decide)) 63 (by decide))
          refine lv_iinc (v := v_38 + 1) (lv' := [(1, .int (v_38 + 1)), (0, .ref h0)]) hx hb dX9_back_230 hl (k := 0) rfl rfl (by decide) rfl (fun ls hl => ?_)
          refine lv_goto (tgt := 187) hx hb dX9_back_233 (by decide) ?_
          have hCC_108 := yMI.c hId_106
          have T_109 : ((v_38 + 1) : Int32).toInt = (v_38 : Int32).toInt + 1 := tadd rfl (rfl : (v_38 : Int32).toInt = (v_38 : Int32).toInt) (by decide +kernel : (1 : Int32).toInt = 1) (by omega) (by omega)
          exact hnext_40 (v_38 + 1, d_106) _ _ ls (xup c_42) ⟨hP, hD, hS, hgd_106, hPod_106, hfd_106, hId_106, hL0d_106, hK0d_106, (show (0 ≤ (((v_38 + 1)) : Int32).toInt) from by have hq0_ : (0 : Int32).toInt = 0 := (by decide +kernel); omega), lv_sub hl [0, 1] rfl⟩
      · refine lv_aload_n hx hb dX9_back_167 rfl (lv_at hl 1 rfl) ?_
        refine yget (ci := 9) (k := 11) (v := .ref (S.2.2.1 h0 11)) (C := RX9) (T := TX9) (N := 67) C0 hK hP hm_h0 hk_h0 (by decide) rfl inlX9 (by decide) mW116 (fun _ h9 => h9) rfl dX9_back_168 ?_
        obtain ⟨hmy_110, hky_110⟩ := ySh.f9_11 hSh _ hm_h0 hk_h0
        refine lv_iload_n hx hb dX9_back_171 rfl (lv_at hl 0 rfl) ?_
        refine lv_aload_n hx hb dX9_back_172 rfl (lv_at hl 1 rfl) ?_
        refine yget (ci := 9) (k := 29) (v := .ref (S.2.2.1 h0 29)) (C := RX9) (T := TX9) (N := 67) C0 hK hP hm_h0 hk_h0 (by decide) rfl inlX9 (by decide) mW135 (fun _ h9 => h9) rfl dX9_back_173 ?_
        obtain ⟨hmy_111, hky_111⟩ := ySh.f9_29 hSh _ hm_h0 hk_h0
        refine lv_iload_n hx hb dX9_back_176 rfl (lv_at hl 0 rfl) ?_
        have hCC_112 := yMI.c hId_32
        have F_113 := fnle (by decide +kernel : (96 : Int32).toInt = 96) (rfl : (v_31 : Int32).toInt = (v_31 : Int32).toInt) c_35
        refine yaldJ C0 hK hP hmy_111 hky_111 (by decide) rfl 4 rfl (xinT 96 rfl (by omega) (by omega)) dX9_back_177 ?_
        refine lv_topl (fun z_114 ez_114 => ?_)
        refine yastJ C0 hK hP hD hS hmy_110 hky_110 (by decide) rfl 4 rfl (xinT 96 rfl (by omega) (by omega)) dX9_back_178 (fun H locs hP hD hS => ?_)
        obtain ⟨d_115, ed_115⟩ : ∃ z : yD, z = ye d_32 (S.2.2.1 h0 11) (v_31 : Int32).toNatClampNeg z_114 := ⟨_, rfl⟩
        rw [← ed_115] at hP hD
        have hgd_115 : yAg S [9, 34, 35, 36, 37, 38, 39, 40, 41, 42, 43, 44, 45, 46, 47, 48, 49, 69] d d_115 := by rw [ed_115]; exact yAg.e hgd_32 (by rw [hky_110]; decide)
        have hsd_115 : yAg S [41] d_32 d_115 := by rw [ed_115]; exact yAg.e yAg.rf (by rw [hky_110]; decide)
        have hPod_115 : yPo S d_115 := by rw [ed_115]; exact hPod_32
        have hfd_115 : yK [0, 1, 2, 3, 38] d d_115 h0 := yK.ag hfd_32 (show yAg S [41] d_32 d_115 from by rw [ed_115]; exact yAg.e yAg.rf (by rw [hky_110]; decide)) (by rw [hk_h0]; decide)
        have hL0d_115 : yAg S [41] d_25 d_115 := by rw [ed_115]; exact yAg.e hLJd_32 (by rw [hky_110]; decide)
        have hK0d_115 : yK [] d_25 d_115 h0 := yK.ag hKJd_32 (show yAg S [41] d_32 d_115 from by rw [ed_115]; exact yAg.e yAg.rf (by rw [hky_110]; decide)) (by rw [hk_h0]; decide)
        have hId_115 : yMI S d_115 h0 := by rw [ed_115]; exact yMI.w11 hId_32 hSh hm_h0 hk_h0 (yBp.up (yMI.bp_ hId_32) (fun p hp e => by rw [ez_114, show (v_31 : Int32).toNatClampNeg = 12 * p + 1 from e]; exact (yMI.kb_ hId_32 p hp).1) (fun p hp e => by rw [ez_114, show (v_31 : Int32).toNatClampNeg = 12 * p + 2 from e]; exact (yMI.kb_ hId_32 p hp).2.1) (fun p hp e => by rw [ez_114, show (v_31 : Int32).toNatClampNeg = 12 * p + 6 from e]; exact (yMI.kb_ hId_32 p hp).2.2))
        have hE0d_115 : (d_115.1 h0 0).toInt = (d_32.1 h0 0).toInt := congrArg Int32.toInt ((yK.ag (F := []) yK.rf (show yAg S [41] d_32 d_115 from by rw [ed_115]; exact yAg.e yAg.rf (by rw [hky_110]; decide)) (by rw [hk_h0]; decide)) 0 (by decide))
        have hE1d_115 : (d_115.1 h0 1).toInt = (d_32.1 h0 1).toInt := congrArg Int32.toInt ((yK.ag (F := []) yK.rf (show yAg S [41] d_32 d_115 from by rw [ed_115]; exact yAg.e yAg.rf (by rw [hky_110]; decide)) (by rw [hk_h0]; decide)) 1 (by decide))
        have hE2d_115 : (d_115.1 h0 2).toInt = (d_32.1 h0 2).toInt := congrArg Int32.toInt ((yK.ag (F := []) yK.rf (show yAg S [41] d_32 d_115 from by rw [ed_115]; exact yAg.e yAg.rf (by rw [hky_110]; decide)) (by rw [hk_h0]; decide)) 2 (by decide))
        have hE3d_115 : (d_115.1 h0 3).toInt = (d_32.1 h0 3).toInt := congrArg Int32.toInt ((yK.ag (F := []) yK.rf (show yAg S [41] d_32 d_115 from by rw [ed_115]; exact yAg.e yAg.rf (by rw [hky_110]; decide)) (by rw [hk_h0]; decide)) 3 (by decide))
        have hE63d_115 : (d_115.1 h0 63).toInt = (d_32.1 h0 63).toInt := congrArg Int32.toInt ((yK.ag (F := []) yK.rf (show yAg S [41] d_32 d_115 from by rw [ed_115]; exact yAg.e yAg.rf (by rw [hky_110]; decide)) (by rw [hk_h0]; decide)) 63 (by decide))
        refine lv_iinc (v := v_31 + 1) (lv' := [(1, .int (v_31 + 1)), (0, .ref h0)]) hx hb dX9_back_179 hl (k := 0) rfl rfl (by decide) rfl (fun ls hl => ?_)
        refine lv_goto (tgt := 161) hx hb dX9_back_182 (by decide) ?_
        have hCC_117 := yMI.c hId_115
        have T_118 : ((v_31 + 1) : Int32).toInt = (v_31 : Int32).toInt + 1 := tadd rfl (rfl : (v_31 : Int32).toInt = (v_31 : Int32).toInt) (by decide +kernel : (1 : Int32).toInt = 1) (by omega) (by omega)
        exact hnext_33 (v_31 + 1, d_115) _ _ ls (xup c_35) ⟨hP, hD, hS, hgd_115, hPod_115, hfd_115, hId_115, hL0d_115, hK0d_115, (show (0 ≤ (((v_31 + 1)) : Int32).toInt) from by have hq0_ : (0 : Int32).toInt = 0 := (by decide +kernel); omega), lv_sub hl [0, 1] rfl⟩
    · refine lv_aload_n hx hb dX9_back_69 rfl (lv_at hl 1 rfl) ?_
      refine yget (ci := 9) (k := 4) (v := .ref (S.2.2.1 h0 4)) (C := RX9) (T := TX9) (N := 67) C0 hK hP hm_h0 hk_h0 (by decide) rfl inlX9 (by decide) mW108 (fun _ h9 => h9) rfl dX9_back_70 ?_
      obtain ⟨hmy_119, hky_119⟩ := ySh.f9_4 hSh _ hm_h0 hk_h0
      refine lv_iload_n hx hb dX9_back_73 rfl (lv_at hl 0 rfl) ?_
      refine lv_aload_n hx hb dX9_back_74 rfl (lv_at hl 1 rfl) ?_
      refine yget (ci := 9) (k := 22) (v := .ref (S.2.2.1 h0 22)) (C := RX9) (T := TX9) (N := 67) C0 hK hP hm_h0 hk_h0 (by decide) rfl inlX9 (by decide) mW128 (fun _ h9 => h9) rfl dX9_back_75 ?_
      obtain ⟨hmy_120, hky_120⟩ := ySh.f9_22 hSh _ hm_h0 hk_h0
      refine lv_iload_n hx hb dX9_back_78 rfl (lv_at hl 0 rfl) ?_
      have hCC_121 := yMI.c hId_25
      have F_122 := fnle (by decide +kernel : (2400 : Int32).toInt = 2400) (rfl : (v_24 : Int32).toInt = (v_24 : Int32).toInt) c_28
      refine yaldB C0 hK hP hmy_120 hky_120 (by decide) rfl 1 rfl (xinT 2400 rfl (by omega) (by omega)) dX9_back_79 ?_
      refine lv_topi (fun z_123 ez_123 => ?_)
      refine yastB C0 hK hP hD hS hmy_119 hky_119 (by decide) rfl 1 rfl (xinT 2400 rfl (by omega) (by omega)) dX9_back_80 (fun H locs hP hD hS => ?_)
      obtain ⟨d_124, ed_124⟩ : ∃ z : yD, z = ycs d_25 (S.2.2.1 h0 4) (upd (d_25.2.2.2.1 (S.2.2.1 h0 4)) (v_24 : Int32).toNatClampNeg (vp_nar .byte z_123)) := ⟨_, rfl⟩
      rw [← ed_124] at hP hD
      have hgd_124 : yAg S [9, 34, 35, 36, 37, 38, 39, 40, 41, 42, 43, 44, 45, 46, 47, 48, 49, 69] d d_124 := by rw [ed_124]; exact yAg.cs hgd_25 (by rw [hky_119]; decide)
      have hsd_124 : yAg S [34] d_25 d_124 := by rw [ed_124]; exact yAg.cs yAg.rf (by rw [hky_119]; decide)
      have hPod_124 : yPo S d_124 := by rw [ed_124]; exact hPod_25
      have hfd_124 : yK [0, 1, 2, 3, 38] d d_124 h0 := yK.ag hfd_25 (show yAg S [34] d_25 d_124 from by rw [ed_124]; exact yAg.cs yAg.rf (by rw [hky_119]; decide)) (by rw [hk_h0]; decide)
      have hL0d_124 : yAg S [34, 35, 36, 37, 38, 39, 40] d_20 d_124 := by rw [ed_124]; exact yAg.cs hLJd_25 (by rw [hky_119]; decide)
      have hK0d_124 : yK [] d_20 d_124 h0 := yK.ag hKJd_25 (show yAg S [34] d_25 d_124 from by rw [ed_124]; exact yAg.cs yAg.rf (by rw [hky_119]; decide)) (by rw [hk_h0]; decide)
      have hId_124 : yMI S d_124 h0 := yMI.ag hId_25 hSh hm_h0 hk_h0 (show yAg S [34] d_25 d_124 from by rw [ed_124]; exact yAg.cs yAg.rf (by rw [hky_119]; decide)) (yK.ag (F := []) yK.rf (show yAg S [34] d_25 d_124 from by rw [ed_124]; exact yAg.cs yAg.rf (by rw [hky_119]; decide)) (by rw [hk_h0]; decide)) (by decide) (by decide)
      have hE0d_124 : (d_124.1 h0 0).toInt = (d_25.1 h0 0).toInt := congrArg Int32.toInt ((yK.ag (F := []) yK.rf (show yAg S [34] d_25 d_124 from by rw [ed_124]; exact yAg.cs yAg.rf (by rw [hky_119]; decide)) (by rw [hk_h0]; decide)) 0 (by decide))
      have hE1d_124 : (d_124.1 h0 1).toInt = (d_25.1 h0 1).toInt := congrArg Int32.toInt ((yK.ag (F := []) yK.rf (show yAg S [34] d_25 d_124 from by rw [ed_124]; exact yAg.cs yAg.rf (by rw [hky_119]; decide)) (by rw [hk_h0]; decide)) 1 (by decide))
      have hE2d_124 : (d_124.1 h0 2).toInt = (d_25.1 h0 2).toInt := congrArg Int32.toInt ((yK.ag (F := []) yK.rf (show yAg S [34] d_25 d_124 from by rw [ed_124]; exact yAg.cs yAg.rf (by rw [hky_119]; decide)) (by rw [hk_h0]; decide)) 2 (by decide))
      have hE3d_124 : (d_124.1 h0 3).toInt = (d_25.1 h0 3).toInt := congrArg Int32.toInt ((yK.ag (F := []) yK.rf (show yAg S [34] d_25 d_124 from by rw [ed_124]; exact yAg.cs yAg.rf (by rw [hky_119]; decide)) (by rw [hk_h0]; decide)) 3 (by decide))
      have hE63d_124 : (d_124.1 h0 63).toInt = (d_25.1 h0 63).toInt := congrArg Int32.toInt ((yK.ag (F := []) yK.rf (show yAg S [34] d_25 d_124 from by rw [ed_124]; exact yAg.cs yAg.rf (by rw [hky_119]; decide)) (by rw [hk_h0]; decide)) 63 (by decide))
      refine lv_aload_n hx hb dX9_back_81 rfl (lv_at hl 1 rfl) ?_
      refine yget (ci := 9) (k := 5) (v := .ref (S.2.2.1 h0 5)) (C := RX9) (T := TX9) (N := 67) C0 hK hP hm_h0 hk_h0 (by decide) rfl inlX9 (by decide) mW109 (fun _ h9 => h9) rfl dX9_back_82 ?_
      obtain ⟨hmy_125, hky_125⟩ := ySh.f9_5 hSh _ hm_h0 hk_h0
      refine lv_iload_n hx hb dX9_back_85 rfl (lv_at hl 0 rfl) ?_
      refine lv_aload_n hx hb dX9_back_86 rfl (lv_at hl 1 rfl) ?_
      refine yget (ci := 9) (k := 23) (v := .ref (S.2.2.1 h0 23)) (C := RX9) (T := TX9) (N := 67) C0 hK hP hm_h0 hk_h0 (by decide) rfl inlX9 (by decide) mW129 (fun _ h9 => h9) rfl dX9_back_87 ?_
      obtain ⟨hmy_126, hky_126⟩ := ySh.f9_23 hSh _ hm_h0 hk_h0
      refine lv_iload_n hx hb dX9_back_90 rfl (lv_at hl 0 rfl) ?_
      have hCC_127 := yMI.c hId_124
      refine yaldB C0 hK hP hmy_126 hky_126 (by decide) rfl 1 rfl (xinT 2400 rfl (by omega) (by omega)) dX9_back_91 ?_
      refine lv_topi (fun z_128 ez_128 => ?_)
      refine yastB C0 hK hP hD hS hmy_125 hky_125 (by decide) rfl 1 rfl (xinT 2400 rfl (by omega) (by omega)) dX9_back_92 (fun H locs hP hD hS => ?_)
      obtain ⟨d_129, ed_129⟩ : ∃ z : yD, z = ycs d_124 (S.2.2.1 h0 5) (upd (d_124.2.2.2.1 (S.2.2.1 h0 5)) (v_24 : Int32).toNatClampNeg (vp_nar .byte z_128)) := ⟨_, rfl⟩
      rw [← ed_129] at hP hD
      have hgd_129 : yAg S [9, 34, 35, 36, 37, 38, 39, 40, 41, 42, 43, 44, 45, 46, 47, 48, 49, 69] d d_129 := by rw [ed_129]; exact yAg.cs hgd_124 (by rw [hky_125]; decide)
      have hsd_129 : yAg S [35] d_124 d_129 := by rw [ed_129]; exact yAg.cs yAg.rf (by rw [hky_125]; decide)
      have hPod_129 : yPo S d_129 := by rw [ed_129]; exact hPod_124
      have hfd_129 : yK [0, 1, 2, 3, 38] d d_129 h0 := yK.ag hfd_124 (show yAg S [35] d_124 d_129 from by rw [ed_129]; exact yAg.cs yAg.rf (by rw [hky_125]; decide)) (by rw [hk_h0]; decide)
      have hL0d_129 : yAg S [34, 35, 36, 37, 38, 39, 40] d_20 d_129 := by rw [ed_129]; exact yAg.cs hL0d_124 (by rw [hky_125]; decide)
      have hK0d_129 : yK [] d_20 d_129 h0 := yK.ag hK0d_124 (show yAg S [35] d_124 d_129 from by rw [ed_129]; exact yAg.cs yAg.rf (by rw [hky_125]; decide)) (by rw [hk_h0]; decide)
      have hId_129 : yMI S d_129 h0 := yMI.ag hId_124 hSh hm_h0 hk_h0 (show yAg S [35] d_124 d_129 from by rw [ed_129]; exact yAg.cs yAg.rf (by rw [hky_125]; decide)) (yK.ag (F := []) yK.rf (show yAg S [35] d_124 d_129 from by rw [ed_129]; exact yAg.cs yAg.rf (by rw [hky_125]; decide)) (by rw [hk_h0]; decide)) (by decide) (by decide)
      have hE0d_129 : (d_129.1 h0 0).toInt = (d_124.1 h0 0).toInt := congrArg Int32.toInt ((yK.ag (F := []) yK.rf (show yAg S [35] d_124 d_129 from by rw [ed_129]; exact yAg.cs yAg.rf (by rw [hky_125]; decide)) (by rw [hk_h0]; decide)) 0 (by decide))
      have hE1d_129 : (d_129.1 h0 1).toInt = (d_124.1 h0 1).toInt := congrArg Int32.toInt ((yK.ag (F := []) yK.rf (show yAg S [35] d_124 d_129 from by rw [ed_129]; exact yAg.cs yAg.rf (by rw [hky_125]; decide)) (by rw [hk_h0]; decide)) 1 (by decide))
      have hE2d_129 : (d_129.1 h0 2).toInt = (d_124.1 h0 2).toInt := congrArg Int32.toInt ((yK.ag (F := []) yK.rf (show yAg S [35] d_124 d_129 from by rw [ed_129]; exact yAg.cs yAg.rf (by rw [hky_125]; decide)) (by rw [hk_h0]; decide)) 2 (by decide))
      have hE3d_129 : (d_129.1 h0 3).toInt = (d_124.1 h0 3).toInt := congrArg Int32.toInt ((yK.ag (F := []) yK.rf (show yAg S [35] d_124 d_129 from by rw [ed_129]; exact yAg.cs yAg.rf (by rw [hky_125]; decide)) (by rw [hk_h0]; decide)) 3 (by decide))
      have hE63d_129 : (d_129.1 h0 63).toInt = (d_124.1 h0 63).toInt := congrArg Int32.toInt ((yK.ag (F := []) yK.rf (show yAg S [35] d_124 d_129 from by rw [ed_129]; exact yAg.cs yAg.rf (by rw [hky_125]; decide)) (by rw [hk_h0]; decide)) 63 (by decide))
      refine lv_aload_n hx hb dX9_back_93 rfl (lv_at hl 1 rfl) ?_
      refine yget (ci := 9) (k := 6) (v := .ref (S.2.2.1 h0 6)) (C := RX9) (T := TX9) (N := 67) C0 hK hP hm_h0 hk_h0 (by decide) rfl inlX9 (by decide) mW110 (fun _ h9 => h9) rfl dX9_back_94 ?_
      obtain ⟨hmy_130, hky_130⟩ := ySh.f9_6 hSh _ hm_h0 hk_h0
      refine lv_iload_n hx hb dX9_back_97 rfl (lv_at hl 0 rfl) ?_
      refine lv_aload_n hx hb dX9_back_98 rfl (lv_at hl 1 rfl) ?_
      refine yget (ci := 9) (k := 24) (v := .ref (S.2.2.1 h0 24)) (C := RX9) (T := TX9) (N := 67) C0 hK hP hm_h0 hk_h0 (by decide) rfl inlX9 (by decide) mW130 (fun _ h9 => h9) rfl dX9_back_99 ?_
      obtain ⟨hmy_131, hky_131⟩ := ySh.f9_24 hSh _ hm_h0 hk_h0
      refine lv_iload_n hx hb dX9_back_102 rfl (lv_at hl 0 rfl) ?_
      have hCC_132 := yMI.c hId_129
      refine yaldB C0 hK hP hmy_131 hky_131 (by decide) rfl 1 rfl (xinT 2400 rfl (by omega) (by omega)) dX9_back_103 ?_
      refine lv_topi (fun z_133 ez_133 => ?_)
      refine yastB C0 hK hP hD hS hmy_130 hky_130 (by decide) rfl 1 rfl (xinT 2400 rfl (by omega) (by omega)) dX9_back_104 (fun H locs hP hD hS => ?_)
      obtain ⟨d_134, ed_134⟩ : ∃ z : yD, z = ycs d_129 (S.2.2.1 h0 6) (upd (d_129.2.2.2.1 (S.2.2.1 h0 6)) (v_24 : Int32).toNatClampNeg (vp_nar .byte z_133)) := ⟨_, rfl⟩
      rw [← ed_134] at hP hD
      have hgd_134 : yAg S [9, 34, 35, 36, 37, 38, 39, 40, 41, 42, 43, 44, 45, 46, 47, 48, 49, 69] d d_134 := by rw [ed_134]; exact yAg.cs hgd_129 (by rw [hky_130]; decide)
      have hsd_134 : yAg S [36] d_129 d_134 := by rw [ed_134]; exact yAg.cs yAg.rf (by rw [hky_130]; decide)
      have hPod_134 : yPo S d_134 := by rw [ed_134]; exact hPod_129
      have hfd_134 : yK [0, 1, 2, 3, 38] d d_134 h0 := yK.ag hfd_129 (show yAg S [36] d_129 d_134 from by rw [ed_134]; exact yAg.cs yAg.rf (by rw [hky_130]; decide)) (by rw [hk_h0]; decide)
      have hL0d_134 : yAg S [34, 35, 36, 37, 38, 39, 40] d_20 d_134 := by rw [ed_134]; exact yAg.cs hL0d_129 (by rw [hky_130]; decide)
      have hK0d_134 : yK [] d_20 d_134 h0 := yK.ag hK0d_129 (show yAg S [36] d_129 d_134 from by rw [ed_134]; exact yAg.cs yAg.rf (by rw [hky_130]; decide)) (by rw [hk_h0]; decide)
      have hId_134 : yMI S d_134 h0 := yMI.ag hId_129 hSh hm_h0 hk_h0 (show yAg S [36] d_129 d_134 from by rw [ed_134]; exact yAg.cs yAg.rf (by rw [hky_130]; decide)) (yK.ag (F := []) yK.rf (show yAg S [36] d_129 d_134 from by rw [ed_134]; exact yAg.cs yAg.rf (by rw [hky_130]; decide)) (by rw [hk_h0]; decide)) (by decide) (by decide)
      have hE0d_134 : (d_134.1 h0 0).toInt = (d_129.1 h0 0).toInt := congrArg Int32.toInt ((yK.ag (F := []) yK.rf (show yAg S [36] d_129 d_134 from by rw [ed_134]; exact yAg.cs yAg.rf (by rw [hky_130]; decide)) (by rw [hk_h0]; decide)) 0 (by decide))
      have hE1d_134 : (d_134.1 h0 1).toInt = (d_129.1 h0 1).toInt := congrArg Int32.toInt ((yK.ag (F := []) yK.rf (show yAg S [36] d_129 d_134 from by rw [ed_134]; exact yAg.cs yAg.rf (by rw [hky_130]; decide)) (by rw [hk_h0]; decide)) 1 (by decide))
      have hE2d_134 : (d_134.1 h0 2).toInt = (d_129.1 h0 2).toInt := congrArg Int32.toInt ((yK.ag (F := []) yK.rf (show yAg S [36] d_129 d_134 from by rw [ed_134]; exact yAg.cs yAg.rf (by rw [hky_130]; decide)) (by rw [hk_h0]; decide)) 2 (by decide))
      have hE3d_134 : (d_134.1 h0 3).toInt = (d_129.1 h0 3).toInt := congrArg Int32.toInt ((yK.ag (F := []) yK.rf (show yAg S [36] d_129 d_134 from by rw [ed_134]; exact yAg.cs yAg.rf (by rw [hky_130]; decide)) (by rw [hk_h0]; decide)) 3 (by decide))
      have hE63d_134 : (d_134.1 h0 63).toInt = (d_129.1 h0 63).toInt := congrArg Int32.toInt ((yK.ag (F := []) yK.rf (show yAg S [36] d_129 d_134 from by rw [ed_134]; exact yAg.cs yAg.rf (by rw [hky_130]; decide)) (by rw [hk_h0]; decide)) 63 (by decide))
      refine lv_aload_n hx hb dX9_back_105 rfl (lv_at hl 1 rfl) ?_
      refine yget (ci := 9) (k := 7) (v := .ref (S.2.2.1 h0 7)) (C := RX9) (T := TX9) (N := 67) C0 hK hP hm_h0 hk_h0 (by decide) rfl inlX9 (by decide) mW111 (fun _ h9 => h9) rfl dX9_back_106 ?_
      obtain ⟨hmy_135, hky_135⟩ := ySh.f9_7 hSh _ hm_h0 hk_h0
      refine lv_iload_n hx hb dX9_back_109 rfl (lv_at hl 0 rfl) ?_
      refine lv_aload_n hx hb dX9_back_110 rfl (lv_at hl 1 rfl) ?_
      refine yget (ci := 9) (k := 25) (v := .ref (S.2.2.1 h0 25)) (C := RX9) (T := TX9) (N := 67) C0 hK hP hm_h0 hk_h0 (by decide) rfl inlX9 (by decide) mW131 (fun _ h9 => h9) rfl dX9_back_111 ?_
      obtain ⟨hmy_136, hky_136⟩ := ySh.f9_25 hSh _ hm_h0 hk_h0
      refine lv_iload_n hx hb dX9_back_114 rfl (lv_at hl 0 rfl) ?_
      have hCC_137 := yMI.c hId_134
      refine yald C0 hK hP hmy_136 hky_136 (by decide) rfl 0 rfl (xinT 2400 rfl (by omega) (by omega)) dX9_back_115 ?_
      refine lv_topi (fun z_138 ez_138 => ?_)
      refine yast C0 hK hP hD hS hmy_135 hky_135 (by decide) rfl 0 rfl (xinT 2400 rfl (by omega) (by omega)) dX9_back_116 (fun H locs hP hD hS => ?_)
      obtain ⟨d_139, ed_139⟩ : ∃ z : yD, z = ycs d_134 (S.2.2.1 h0 7) (upd (d_134.2.2.2.1 (S.2.2.1 h0 7)) (v_24 : Int32).toNatClampNeg z_138) := ⟨_, rfl⟩
      rw [← ed_139] at hP hD
      have hgd_139 : yAg S [9, 34, 35, 36, 37, 38, 39, 40, 41, 42, 43, 44, 45, 46, 47, 48, 49, 69] d d_139 := by rw [ed_139]; exact yAg.cs hgd_134 (by rw [hky_135]; decide)
      have hsd_139 : yAg S [37] d_134 d_139 := by rw [ed_139]; exact yAg.cs yAg.rf (by rw [hky_135]; decide)
      have hPod_139 : yPo S d_139 := by rw [ed_139]; exact hPod_134
      have hfd_139 : yK [0, 1, 2, 3, 38] d d_139 h0 := yK.ag hfd_134 (show yAg S [37] d_134 d_139 from by rw [ed_139]; exact yAg.cs yAg.rf (by rw [hky_135]; decide)) (by rw [hk_h0]; decide)
      have hL0d_139 : yAg S [34, 35, 36, 37, 38, 39, 40] d_20 d_139 := by rw [ed_139]; exact yAg.cs hL0d_134 (by rw [hky_135]; decide)
      have hK0d_139 : yK [] d_20 d_139 h0 := yK.ag hK0d_134 (show yAg S [37] d_134 d_139 from by rw [ed_139]; exact yAg.cs yAg.rf (by rw [hky_135]; decide)) (by rw [hk_h0]; decide)
      have hId_139 : yMI S d_139 h0 := yMI.ag hId_134 hSh hm_h0 hk_h0 (show yAg S [37] d_134 d_139 from by rw [ed_139]; exact yAg.cs yAg.rf (by rw [hky_135]; decide)) (yK.ag (F := []) yK.rf (show yAg S [37] d_134 d_139 from by rw [ed_139]; exact yAg.cs yAg.rf (by rw [hky_135]; decide)) (by rw [hk_h0]; decide)) (by decide) (by decide)
      have hE0d_139 : (d_139.1 h0 0).toInt = (d_134.1 h0 0).toInt := congrArg Int32.toInt ((yK.ag (F := []) yK.rf (show yAg S [37] d_134 d_139 from by rw [ed_139]; exact yAg.cs yAg.rf (by rw [hky_135]; decide)) (by rw [hk_h0]; decide)) 0 (by decide))
      have hE1d_139 : (d_139.1 h0 1).toInt = (d_134.1 h0 1).toInt := congrArg Int32.toInt ((yK.ag (F := []) yK.rf (show yAg S [37] d_134 d_139 from by rw [ed_139]; exact yAg.cs yAg.rf (by rw [hky_135]; decide)) (by rw [hk_h0]; decide)) 1 (by decide))
      have hE2d_139 : (d_139.1 h0 2).toInt = (d_134.1 h0 2).toInt := congrArg Int32.toInt ((yK.ag (F := []) yK.rf (show yAg S [37] d_134 d_139 from by rw [ed_139]; exact yAg.cs yAg.rf (by rw [hky_135]; decide)) (by rw [hk_h0]; decide)) 2 (by decide))
      have hE3d_139 : (d_139.1 h0 3).toInt = (d_134.1 h0 3).toInt := congrArg Int32.toInt ((yK.ag (F := []) yK.rf (show yAg S [37] d_134 d_139 from by rw [ed_139]; exact yAg.cs yAg.rf (by rw [hky_135]; decide)) (by rw [hk_h0]; decide)) 3 (by decide))
      have hE63d_139 : (d_139.1 h0 63).toInt = (d_134.1 h0 63).toInt := congrArg Int32.toInt ((yK.ag (F := []) yK.rf (show yAg S [37] d_134 d_139 from by rw [ed_139]; exact yAg.cs yAg.rf (by rw [hky_135]; decide)) (by rw [hk_h0]; decide)) 63 (by decide))
      refine lv_aload_n hx hb dX9_back_117 rfl (lv_at hl 1 rfl) ?_
      refine yget (ci := 9) (k := 8) (v := .ref (S.2.2.1 h0 8)) (C := RX9) (T := TX9) (N := 67) C0 hK hP hm_h0 hk_h0 (by decide) rfl inlX9 (by decide) mW112 (fun _ h9 => h9) rfl dX9_back_118 ?_
      obtain ⟨hmy_140, hky_140⟩ := ySh.f9_8 hSh _ hm_h0 hk_h0
      refine lv_iload_n hx hb dX9_back_121 rfl (lv_at hl 0 rfl) ?_
      refine lv_aload_n hx hb dX9_back_122 rfl (lv_at hl 1 rfl) ?_
      refine yget (ci := 9) (k := 26) (v := .ref (S.2.2.1 h0 26)) (C := RX9) (T := TX9) (N := 67) C0 hK hP hm_h0 hk_h0 (by decide) rfl inlX9 (by decide) mW132 (fun _ h9 => h9) rfl dX9_back_123 ?_
      obtain ⟨hmy_141, hky_141⟩ := ySh.f9_26 hSh _ hm_h0 hk_h0
      refine lv_iload_n hx hb dX9_back_126 rfl (lv_at hl 0 rfl) ?_
      have hCC_142 := yMI.c hId_139
      refine yald C0 hK hP hmy_141 hky_141 (by decide) rfl 0 rfl (xinT 2400 rfl (by omega) (by omega)) dX9_back_127 ?_
      refine lv_topi (fun z_143 ez_143 => ?_)
      refine yast C0 hK hP hD hS hmy_140 hky_140 (by decide) rfl 0 rfl (xinT 2400 rfl (by omega) (by omega)) dX9_back_128 (fun H locs hP hD hS => ?_)
      obtain ⟨d_144, ed_144⟩ : ∃ z : yD, z = ycs d_139 (S.2.2.1 h0 8) (upd (d_139.2.2.2.1 (S.2.2.1 h0 8)) (v_24 : Int32).toNatClampNeg z_143) := ⟨_, rfl⟩
      rw [← ed_144] at hP hD
      have hgd_144 : yAg S [9, 34, 35, 36, 37, 38, 39, 40, 41, 42, 43, 44, 45, 46, 47, 48, 49, 69] d d_144 := by rw [ed_144]; exact yAg.cs hgd_139 (by rw [hky_140]; decide)
      have hsd_144 : yAg S [38] d_139 d_144 := by rw [ed_144]; exact yAg.cs yAg.rf (by rw [hky_140]; decide)
      have hPod_144 : yPo S d_144 := by rw [ed_144]; exact hPod_139
      have hfd_144 : yK [0, 1, 2, 3, 38] d d_144 h0 := yK.ag hfd_139 (show yAg S [38] d_139 d_144 from by rw [ed_144]; exact yAg.cs yAg.rf (by rw [hky_140]; decide)) (by rw [hk_h0]; decide)
      have hL0d_144 : yAg S [34, 35, 36, 37, 38, 39, 40] d_20 d_144 := by rw [ed_144]; exact yAg.cs hL0d_139 (by rw [hky_140]; decide)
      have hK0d_144 : yK [] d_20 d_144 h0 := yK.ag hK0d_139 (show yAg S [38] d_139 d_144 from by rw [ed_144]; exact yAg.cs yAg.rf (by rw [hky_140]; decide)) (by rw [hk_h0]; decide)
      have hId_144 : yMI S d_144 h0 := yMI.ag hId_139 hSh hm_h0 hk_h0 (show yAg S [38] d_139 d_144 from by rw [ed_144]; exact yAg.cs yAg.rf (by rw [hky_140]; decide)) (yK.ag (F := []) yK.rf (show yAg S [38] d_139 d_144 from by rw [ed_144]; exact yAg.cs yAg.rf (by rw [hky_140]; decide)) (by rw [hk_h0]; decide)) (by decide) (by decide)
      have hE0d_144 : (d_144.1 h0 0).toInt = (d_139.1 h0 0).toInt := congrArg Int32.toInt ((yK.ag (F := []) yK.rf (show yAg S [38] d_139 d_144 from by rw [ed_144]; exact yAg.cs yAg.rf (by rw [hky_140]; decide)) (by rw [hk_h0]; decide)) 0 (by decide))
      have hE1d_144 : (d_144.1 h0 1).toInt = (d_139.1 h0 1).toInt := congrArg Int32.toInt ((yK.ag (F := []) yK.rf (show yAg S [38] d_139 d_144 from by rw [ed_144]; exact yAg.cs yAg.rf (by rw [hky_140]; decide)) (by rw [hk_h0]; decide)) 1 (by decide))
      have hE2d_144 : (d_144.1 h0 2).toInt = (d_139.1 h0 2).toInt := congrArg Int32.toInt ((yK.ag (F := []) yK.rf (show yAg S [38] d_139 d_144 from by rw [ed_144]; exact yAg.cs yAg.rf (by rw [hky_140]; decide)) (by rw [hk_h0]; decide)) 2 (by decide))
      have hE3d_144 : (d_144.1 h0 3).toInt = (d_139.1 h0 3).toInt := congrArg Int32.toInt ((yK.ag (F := []) yK.rf (show yAg S [38] d_139 d_144 from by rw [ed_144]; exact yAg.cs yAg.rf (by rw [hky_140]; decide)) (by rw [hk_h0]; decide)) 3 (by decide))
      have hE63d_144 : (d_144.1 h0 63).toInt = (d_139.1 h0 63).toInt := congrArg Int32.toInt ((yK.ag (F := []) yK.rf (show yAg S [38] d_139 d_144 from by rw [ed_144]; exact yAg.cs yAg.rf (by rw [hky_140]; decide)) (by rw [hk_h0]; decide)) 63 (by decide))
      refine lv_aload_n hx hb dX9_back_129 rfl (lv_at hl 1 rfl) ?_
      refine yget (ci := 9) (k := 9) (v := .ref (S.2.2.1 h0 9)) (C := RX9) (T := TX9) (N := 67) C0 hK hP hm_h0 hk_h0 (by decide) rfl inlX9 (by decide) mW113 (fun _ h9 => h9) rfl dX9_back_130 ?_
      obtain ⟨hmy_145, hky_145⟩ := ySh.f9_9 hSh _ hm_h0 hk_h0
      refine lv_iload_n hx hb dX9_back_133 rfl (lv_at hl 0 rfl) ?_
      refine lv_aload_n hx hb dX9_back_134 rfl (lv_at hl 1 rfl) ?_
      refine yget (ci := 9) (k := 27) (v := .ref (S.2.2.1 h0 27)) (C := RX9) (T := TX9) (N := 67) C0 hK hP hm_h0 hk_h0 (by decide) rfl inlX9 (by decide) mW133 (fun _ h9 => h9) rfl dX9_back_135 ?_
      obtain ⟨hmy_146, hky_146⟩ := ySh.f9_27 hSh _ hm_h0 hk_h0
      refine lv_iload_n hx hb dX9_back_138 rfl (lv_at hl 0 rfl) ?_
      have hCC_147 := yMI.c hId_144
      refine yaldB C0 hK hP hmy_146 hky_146 (by decide) rfl 1 rfl (xinT 2400 rfl (by omega) (by omega)) dX9_back_139 ?_
      refine lv_topi (fun z_148 ez_148 => ?_)
      refine yastB C0 hK hP hD hS hmy_145 hky_145 (by decide) rfl 1 rfl (xinT 2400 rfl (by omega) (by omega)) dX9_back_140 (fun H locs hP hD hS => ?_)
      obtain ⟨d_149, ed_149⟩ : ∃ z : yD, z = ycs d_144 (S.2.2.1 h0 9) (upd (d_144.2.2.2.1 (S.2.2.1 h0 9)) (v_24 : Int32).toNatClampNeg (vp_nar .byte z_148)) := ⟨_, rfl⟩
      rw [← ed_149] at hP hD
      have hgd_149 : yAg S [9, 34, 35, 36, 37, 38, 39, 40, 41, 42, 43, 44, 45, 46, 47, 48, 49, 69] d d_149 := by rw [ed_149]; exact yAg.cs hgd_144 (by rw [hky_145]; decide)
      have hsd_149 : yAg S [39] d_144 d_149 := by rw [ed_149]; exact yAg.cs yAg.rf (by rw [hky_145]; decide)
      have hPod_149 : yPo S d_149 := by rw [ed_149]; exact hPod_144
      have hfd_149 : yK [0, 1, 2, 3, 38] d d_149 h0 := yK.ag hfd_144 (show yAg S [39] d_144 d_149 from by rw [ed_149]; exact yAg.cs yAg.rf (by rw [hky_145]; decide)) (by rw [hk_h0]; decide)
      have hL0d_149 : yAg S [34, 35, 36, 37, 38, 39, 40] d_20 d_149 := by rw [ed_149]; exact yAg.cs hL0d_144 (by rw [hky_145]; decide)
      have hK0d_149 : yK [] d_20 d_149 h0 := yK.ag hK0d_144 (show yAg S [39] d_144 d_149 from by rw [ed_149]; exact yAg.cs yAg.rf (by rw [hky_145]; decide)) (by rw [hk_h0]; decide)
      have hId_149 : yMI S d_149 h0 := yMI.ag hId_144 hSh hm_h0 hk_h0 (show yAg S [39] d_144 d_149 from by rw [ed_149]; exact yAg.cs yAg.rf (by rw [hky_145]; decide)) (yK.ag (F := []) yK.rf (show yAg S [39] d_144 d_149 from by rw [ed_149]; exact yAg.cs yAg.rf (by rw [hky_145]; decide)) (by rw [hk_h0]; decide)) (by decide) (by decide)
      have hE0d_149 : (d_149.1 h0 0).toInt = (d_144.1 h0 0).toInt := congrArg Int32.toInt ((yK.ag (F := []) yK.rf (show yAg S [39] d_144 d_149 from by rw [ed_149]; exact yAg.cs yAg.rf (by rw [hky_145]; decide)) (by rw [hk_h0]; decide)) 0 (by decide))
      have hE1d_149 : (d_149.1 h0 1).toInt = (d_144.1 h0 1).toInt := congrArg Int32.toInt ((yK.ag (F := []) yK.rf (show yAg S [39] d_144 d_149 from by rw [ed_149]; exact yAg.cs yAg.rf (by rw [hky_145]; decide)) (by rw [hk_h0]; decide)) 1 (by decide))
      have hE2d_149 : (d_149.1 h0 2).toInt = (d_144.1 h0 2).toInt := congrArg Int32.toInt ((yK.ag (F := []) yK.rf (show yAg S [39] d_144 d_149 from by rw [ed_149]; exact yAg.cs yAg.rf (by rw [hky_145]; decide)) (by rw [hk_h0]; decide)) 2 (by decide))
      have hE3d_149 : (d_149.1 h0 3).toInt = (d_144.1 h0 3).toInt := congrArg Int32.toInt ((yK.ag (F := []) yK.rf (show yAg S [39] d_144 d_149 from by rw [ed_149]; exact yAg.cs yAg.rf (by rw [hky_145]; decide)) (by rw [hk_h0]; decide)) 3 (by decide))
      have hE63d_149 : (d_149.1 h0 63).toInt = (d_144.1 h0 63).toInt := congrArg Int32.toInt ((yK.ag (F := []) yK.rf (show yAg S [39] d_144 d_149 from by rw [ed_149]; exact yAg.cs yAg.rf (by rw [hky_145]; decide)) (by rw [hk_h0]; decide)) 63 (by decide))
      refine lv_aload_n hx hb dX9_back_141 rfl (lv_at hl 1 rfl) ?_
      refine yget (ci := 9) (k := 10) (v := .ref (S.2.2.1 h0 10)) (C := RX9) (T := TX9) (N := 67) C0 hK hP hm_h0 hk_h0 (by decide) rfl inlX9 (by decide) mW114 (fun _ h9 => h9) rfl dX9_back_142 ?_
      obtain ⟨hmy_150, hky_150⟩ := ySh.f9_10 hSh _ hm_h0 hk_h0
      refine lv_iload_n hx hb dX9_back_145 rfl (lv_at hl 0 rfl) ?_
      refine lv_aload_n hx hb dX9_back_146 rfl (lv_at hl 1 rfl) ?_
      refine yget (ci := 9) (k := 28) (v := .ref (S.2.2.1 h0 28)) (C := RX9) (T := TX9) (N := 67) C0 hK hP hm_h0 hk_h0 (by decide) rfl inlX9 (by decide) mW134 (fun _ h9 => h9) rfl dX9_back_147 ?_
      obtain ⟨hmy_151, hky_151⟩ := ySh.f9_28 hSh _ hm_h0 hk_h0
      refine lv_iload_n hx hb dX9_back_150 rfl (lv_at hl 0 rfl) ?_
      have hCC_152 := yMI.c hId_149
      refine yald C0 hK hP hmy_151 hky_151 (by decide) rfl 0 rfl (xinT 2400 rfl (by omega) (by omega)) dX9_back_151 ?_
      refine lv_topi (fun z_153 ez_153 => ?_)
      refine yast C0 hK hP hD hS hmy_150 hky_150 (by decide) rfl 0 rfl (xinT 2400 rfl (by omega) (by omega)) dX9_back_152 (fun H locs hP hD hS => ?_)
      obtain ⟨d_154, ed_154⟩ : ∃ z : yD, z = ycs d_149 (S.2.2.1 h0 10) (upd (d_149.2.2.2.1 (S.2.2.1 h0 10)) (v_24 : Int32).toNatClampNeg z_153) := ⟨_, rfl⟩
      rw [← ed_154] at hP hD
      have hgd_154 : yAg S [9, 34, 35, 36, 37, 38, 39, 40, 41, 42, 43, 44, 45, 46, 47, 48, 49, 69] d d_154 := by rw [ed_154]; exact yAg.cs hgd_149 (by rw [hky_150]; decide)
      have hsd_154 : yAg S [40] d_149 d_154 := by rw [ed_154]; exact yAg.cs yAg.rf (by rw [hky_150]; decide)
      have hPod_154 : yPo S d_154 := by rw [ed_154]; exact hPod_149
      have hfd_154 : yK [0, 1, 2, 3, 38] d d_154 h0 := yK.ag hfd_149 (show yAg S [40] d_149 d_154 from by rw [ed_154]; exact yAg.cs yAg.rf (by rw [hky_150]; decide)) (by rw [hk_h0]; decide)
      have hL0d_154 : yAg S [34, 35, 36, 37, 38, 39, 40] d_20 d_154 := by rw [ed_154]; exact yAg.cs hL0d_149 (by rw [hky_150]; decide)
      have hK0d_154 : yK [] d_20 d_154 h0 := yK.ag hK0d_149 (show yAg S [40] d_149 d_154 from by rw [ed_154]; exact yAg.cs yAg.rf (by rw [hky_150]; decide)) (by rw [hk_h0]; decide)
      have hId_154 : yMI S d_154 h0 := yMI.ag hId_149 hSh hm_h0 hk_h0 (show yAg S [40] d_149 d_154 from by rw [ed_154]; exact yAg.cs yAg.rf (by rw [hky_150]; decide)) (yK.ag (F := []) yK.rf (show yAg S [40] d_149 d_154 from by rw [ed_154]; exact yAg.cs yAg.rf (by rw [hky_150]; decide)) (by rw [hk_h0]; decide)) (by decide) (by decide)
      have hE0d_154 : (d_154.1 h0 0).toInt = (d_149.1 h0 0).toInt := congrArg Int32.toInt ((yK.ag (F := []) yK.rf (show yAg S [40] d_149 d_154 from by rw [ed_154]; exact yAg.cs yAg.rf (by rw [hky_150]; decide)) (by rw [hk_h0]; decide)) 0 (by decide))
      have hE1d_154 : (d_154.1 h0 1).toInt = (d_149.1 h0 1).toInt := congrArg Int32.toInt ((yK.ag (F := []) yK.rf (show yAg S [40] d_149 d_154 from by rw [ed_154]; exact yAg.cs yAg.rf (by rw [hky_150]; decide)) (by rw [hk_h0]; decide)) 1 (by decide))
      have hE2d_154 : (d_154.1 h0 2).toInt = (d_149.1 h0 2).toInt := congrArg Int32.toInt ((yK.ag (F := []) yK.rf (show yAg S [40] d_149 d_154 from by rw [ed_154]; exact yAg.cs yAg.rf (by rw [hky_150]; decide)) (by rw [hk_h0]; decide)) 2 (by decide))
      have hE3d_154 : (d_154.1 h0 3).toInt = (d_149.1 h0 3).toInt := congrArg Int32.toInt ((yK.ag (F := []) yK.rf (show yAg S [40] d_149 d_154 from by rw [ed_154]; exact yAg.cs yAg.rf (by rw [hky_150]; decide)) (by rw [hk_h0]; decide)) 3 (by decide))
      have hE63d_154 : (d_154.1 h0 63).toInt = (d_149.1 h0 63).toInt := congrArg Int32.toInt ((yK.ag (F := []) yK.rf (show yAg S [40] d_149 d_154 from by rw [ed_154]; exact yAg.cs yAg.rf (by rw [hky_150]; decide)) (by rw [hk_h0]; decide)) 63 (by decide))
      refine lv_iinc (v := v_24 + 1) (lv' := [(1, .int (v_24 + 1)), (0, .ref h0)]) hx hb dX9_back_153 hl (k := 0) rfl rfl (by decide) rfl (fun ls hl => ?_)
      refine lv_goto (tgt := 62) hx hb dX9_back_156 (by decide) ?_
      have hCC_156 := yMI.c hId_154
      have T_157 : ((v_24 + 1) : Int32).toInt = (v_24 : Int32).toInt + 1 := tadd rfl (rfl : (v_24 : Int32).toInt = (v_24 : Int32).toInt) (by decide +kernel : (1 : Int32).toInt = 1) (by omega) (by omega)
      exact hnext_26 (v_24 + 1, d_154) _ _ ls (xup c_28) ⟨hP, hD, hS, hgd_154, hPod_154, hfd_154, hId_154, hL0d_154, hK0d_154, (show (0 ≤ (((v_24 + 1)) : Int32).toInt) from by have hq0_ : (0 : Int32).toInt = 0 := (by decide +kernel); omega), lv_sub hl [0, 1] rfl⟩
  · refine lv_aload_n hx hb dX9_back_12 rfl (lv_at hl 0 rfl) ?_
    refine lv_iconst (v := 2) hx hb dX9_back_13 (by decide) ?_
    refine yVwi (As := [.int 2]) (rest := []) C0 (g_X9_no l G S d_1 h0 2 hSh hPod_1 hm_h0 hk_h0 (by decide +kernel)) ok_X9_no (mW177 : Cond.methodLink RX9 168 yX9_no ∈ wsT) ⟨Nat.le_of_ble_eq_true rfl, Nat.le_of_ble_eq_true rfl⟩ hP hD hS hA hK hN hm_h0 hk_h0 (by decide) rfl rfl rfl hl.1 rfl (Nat.le_of_ble_eq_true rfl) ⟨Nat.le_of_ble_eq_true rfl, Nat.le_of_ble_eq_true rfl⟩ dX9_back_14 (fun r_158 d_159 H locs hr_158 hP hD hS => ?_)
    obtain ⟨hgad_159, hpad_159, hfad_159, hxd_159⟩ := hr_158
    have hfd_159 : yK [0, 1, 2, 3, 38] d d_159 h0 := yK.tr hfd_1 hfad_159 (by decide)
    have hE0d_159 : (d_159.1 h0 0).toInt = (d_1.1 h0 0).toInt := congrArg Int32.toInt (hfad_159 0 (by decide))
    have hE1d_159 : (d_159.1 h0 1).toInt = (d_1.1 h0 1).toInt := congrArg Int32.toInt (hfad_159 1 (by decide))
    have hE2d_159 : (d_159.1 h0 2).toInt = (d_1.1 h0 2).toInt := congrArg Int32.toInt (hfad_159 2 (by decide))
    have hE3d_159 : (d_159.1 h0 3).toInt = (d_1.1 h0 3).toInt := congrArg Int32.toInt (hfad_159 3 (by decide))
    have hE63d_159 : (d_159.1 h0 63).toInt = (d_1.1 h0 63).toInt := congrArg Int32.toInt (hfad_159 63 (by decide))
    have hId_159 : yMI S d_159 h0 := yMI.ag hId_1 hSh hm_h0 hk_h0 hgad_159 hfad_159 (by decide) (by decide)
    have hgd_159 : yAg S [9, 34, 35, 36, 37, 38, 39, 40, 41, 42, 43, 44, 45, 46, 47, 48, 49, 69] d d_159 := yAg.tr hgd_1 hgad_159 (by first | decide | exact fun _ h => h)
    have hPod_159 : yPo S d_159 := hpad_159 hPod_1
    refine lv_pop hx hb dX9_back_17 rfl ?_
    refine lv_iconst (v := 0) hx hb dX9_back_18 (by decide) ?_
    exact W.zret (v := 0) (ty := .boolean) hx hb hr rfl (fun t ht hW => ⟨⟨0, d_159, rfl, ⟨hgd_159, (fun _ => hPod_159), hfd_159, ⟨hId_159, Or.inl ⟨(ez_2.trans (show d_1.1 h0 20 = d.1 h0 20 by rw [ed_1]; exact yi_at (by decide))).symm.trans c_3, (((hfad_159 0 (by decide))).trans (show d_1.1 h0 0 = d.1 h0 0 by rw [ed_1]; exact yi_at (by decide))), rfl⟩⟩⟩, by rw [ht]; exact hP, hD⟩, hS.F ht⟩) hS.2.2 dX9_back_19
