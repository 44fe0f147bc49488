theorem dL_law_192 : decode cL_law 192 = .ok (.aload_n 1, 1) := by decide +kernel
theorem dL_law_193 : decode cL_law 193 = .ok (.invokevirtual 13, 3) := by decide +kernel
theorem dL_law_196 : decode cL_law 196 = .ok (.pop, 1) := by decide +kernel
theorem dL_law_197 : decode cL_law 197 = .ok (.aload_n 2, 1) := by decide +kernel
theorem dL_law_198 : decode cL_law 198 = .ok (.invokevirtual 17, 3) := by decide +kernel
theorem dL_law_201 : decode cL_law 201 = .ok (.pop, 1) := by decide +kernel
theorem dL_law_202 : decode cL_law 202 = .ok (.goto 1584, 3) := by decide +kernel
set_option maxHeartbeats 4000000 in
set_option maxRecDepth 100000 in
/-- case 0: contract -/
theorem law_0 {p : Program} {l : Launch} {e : Env} {s : State} {m : MethodId} {below : List Frame} {meth : Method} {c : Code} {G : xG} {sc L : Nat} {xs : Nat → Int32} {A : Nat → Prop} {S : yS} {q0 m0 : Nat} (C0 : CallFix p m c code 4 s #[Value.ref sc] wsT RL) (hr : meth.sig.returnType = ret) (hlocks : meth.locks = false) (hK : va_K G.1 xcl (xty G) s) (hN : xN s) (hX : va_X sc L xs s s.heap) (hbl : sc < s.heap.size) (hbA : ¬ A sc) (hA : ∀ q : Nat, s.heap.size ≤ q → A q) (hA2 : ∀ q, A q → s.heap.size ≤ q) (hL : L ≤ 3584) (hSh : ySh S) (hm_q0 : q0 ∈ S.1) (hk_q0 : S.2.1 q0 = 8) (hm_m0 : m0 ∈ S.1) (hk_m0 : S.2.1 m0 = 9) (hnk : S.2.2.1 q0 0 ≠ S.2.2.1 q0 1) {d : yD} {v : Int32} (hv0 : 0 ≤ v.toInt) (hv1 : v.toInt + 7 ≤ (L : Int)) (hPo : yPo S d) (hI : yMI S d m0) (hR : zR4 S d q0 m0) {H : Heap} {locs : List Loc} {ls : Array Slot} (hP : va_P G.1 xcl (yW G S d) H) (hD : va_D A (yW G S d)) (hS : va_S A s.heap H locs) (hl : lv_has ls 4 [(3, .int v), (2, .ref m0), (1, .ref q0), (0, .ref sc)]) (kk : ∀ (u : yD) (H1 : Heap) (locs1 : List Loc) (ls1 : Array Slot), va_P G.1 xcl (yW G S u) H1 → va_D A (yW G S u) → va_S A s.heap H1 locs1 → yPo S u → yMI S u m0 → zR4 S u q0 m0 → lv_has ls1 4 [(3, .int v), (2, .ref m0), (1, .ref q0), (0, .ref sc)] → W p l e room_1 s m #[Value.ref sc] below meth c H1 locs1 169 136076 (lw_Z below #[Value.ref sc] s) (F0 m 1786 ls1 [])) : W p l e room_1 s m #[Value.ref sc] below meth c H locs 169 136076 (lw_Z below #[Value.ref sc] s) (F0 m 192 ls []) := by
  obtain ⟨hx, hb, hml, hown, htl⟩ := id C0
  refine lv_aload_n hx hb dL_law_192 rfl (lv_at hl 2 rfl) ?_
  refine yVwi (As := []) (rest := []) C0 (g_X8_contract l G S d q0 hSh hPo hm_q0 hk_q0 hnk) ok_X8_contract (mW154 : Cond.methodLink RL 13 yX8_contract ∈ wsT) ⟨Nat.le_of_ble_eq_true rfl, Nat.le_of_ble_eq_true rfl⟩ hP hD hS hA hK hN hm_q0 hk_q0 (by decide) rfl rfl rfl hl.1 rfl (Nat.le_of_ble_eq_true rfl) ⟨Nat.le_of_ble_eq_true rfl, Nat.le_of_ble_eq_true rfl⟩ dL_law_193 (fun r_1 d_2 H locs hr_1 hP hD hS => ?_)
  obtain ⟨hgad_2, hpad_2, hxd_2⟩ := hr_1
  have hPod_2 : yPo S d_2 := hpad_2 hPo
  have hId_2 : yMI S d_2 m0 := yMI.ag hI hSh hm_m0 hk_m0 hgad_2 (yK.ag (F := []) yK.rf hgad_2 (by rw [hk_m0]; decide)) (by decide) (by decide)
  refine lv_pop hx hb dL_law_196 rfl ?_
  refine lv_aload_n hx hb dL_law_197 rfl (lv_at hl 1 rfl) ?_
  refine yVwi (As := []) (rest := []) C0 (g_X9_contract l G S d_2 m0 hSh hPod_2 hm_m0 hk_m0 hId_2) ok_X9_contract (mW171 : Cond.methodLink RL 17 yX9_contract ∈ wsT) ⟨Nat.le_of_ble_eq_true rfl, Nat.le_of_ble_eq_true rfl⟩ hP hD hS hA hK hN hm_m0 hk_m0 (by decide) rfl rfl rfl hl.1 rfl (Nat.le_of_ble_eq_true rfl) ⟨Nat.le_of_ble_eq_true rfl, Nat.le_of_ble_eq_true rfl⟩ dL_law_198 (fun r_3 d_4 H locs hr_3 hP hD hS => ?_)
  obtain ⟨hgad_4, hpad_4, hfad_4, hxd_4⟩ := hr_3
  have hPod_4 : yPo S d_4 := hpad_4 hPod_2
  have hId_4 : yMI S d_4 m0 := hxd_4.1
  refine lv_pop hx hb dL_law_201 rfl ?_
  refine lv_goto (tgt := 1786) hx hb dL_law_202 (by decide) ?_
  exact kk d_4 _ _ ls hP hD hS hPod_4 hId_4 (zR4.contract hR hId_2 hPo hSh hm_q0 hk_q0 hm_m0 hk_m0 hnk hgad_2 hgad_4 hfad_4 hxd_2 hxd_4).2 (lv_sub hl [0, 1, 2, 3] rfl)
theorem dL_law_205 : decode cL_law 205 = .ok (.aload_n 1, 1) := by decide +kernel
theorem dL_law_206 : decode cL_law 206 = .ok (.aload_n 0, 1) := by decide +kernel
theorem dL_law_207 : decode cL_law 207 = .ok (.iload_n 3, 1) := by decide +kernel
theorem dL_law_208 : decode cL_law 208 = .ok (.iconst 1, 1) := by decide +kernel
theorem dL_law_209 : decode cL_law 209 = .ok (.iadd, 1) := by decide +kernel
theorem dL_law_210 : decode cL_law 210 = .ok (.iaload, 1) := by decide +kernel
theorem dL_law_211 : decode cL_law 211 = .ok (.aload_n 0, 1) := by decide +kernel
theorem dL_law_212 : decode cL_law 212 = .ok (.iload_n 3, 1) := by decide +kernel
theorem dL_law_213 : decode cL_law 213 = .ok (.iconst 2, 1) := by decide +kernel
theorem dL_law_214 : decode cL_law 214 = .ok (.iadd, 1) := by decide +kernel
theorem dL_law_215 : decode cL_law 215 = .ok (.iaload, 1) := by decide +kernel
theorem dL_law_216 : decode cL_law 216 = .ok (.aload_n 0, 1) := by decide +kernel
theorem dL_law_217 : decode cL_law 217 = .ok (.iload_n 3, 1) := by decide +kernel
theorem dL_law_218 : decode cL_law 218 = .ok (.iconst 3, 1) := by decide +kernel
theorem dL_law_219 : decode cL_law 219 = .ok (.iadd, 1) := by decide +kernel
theorem dL_law_220 : decode cL_law 220 = .ok (.iaload, 1) := by decide +kernel
theorem dL_law_221 : decode cL_law 221 = .ok (.aload_n 0, 1) := by decide +kernel
theorem dL_law_222 : decode cL_law 222 = .ok (.iload_n 3, 1) := by decide +kernel
theorem dL_law_223 : decode cL_law 223 = .ok (.iconst 4, 1) := by decide +kernel
theorem dL_law_224 : decode cL_law 224 = .ok (.iadd, 1) := by decide +kernel
theorem dL_law_225 : decode cL_law 225 = .ok (.iaload, 1) := by decide +kernel
theorem dL_law_226 : decode cL_law 226 = .ok (.aload_n 0, 1) := by decide +kernel
theorem dL_law_227 : decode cL_law 227 = .ok (.iload_n 3, 1) := by decide +kernel
theorem dL_law_228 : decode cL_law 228 = .ok (.iconst 5, 1) := by decide +kernel
theorem dL_law_229 : decode cL_law 229 = .ok (.iadd, 1) := by decide +kernel
theorem dL_law_230 : decode cL_law 230 = .ok (.iaload, 1) := by decide +kernel
theorem dL_law_231 : decode cL_law 231 = .ok (.aload_n 0, 1) := by decide +kernel
theorem dL_law_232 : decode cL_law 232 = .ok (.iload_n 3, 1) := by decide +kernel
theorem dL_law_233 : decode cL_law 233 = .ok (.bipush 6, 2) := by decide +kernel
theorem dL_law_235 : decode cL_law 235 = .ok (.iadd, 1) := by decide +kernel
theorem dL_law_236 : decode cL_law 236 = .ok (.iaload, 1) := by decide +kernel
theorem dL_law_237 : decode cL_law 237 = .ok (.invokevirtual 18, 3) := by decide +kernel
theorem dL_law_240 : decode cL_law 240 = .ok (.pop, 1) := by decide +kernel
theorem dL_law_241 : decode cL_law 241 = .ok (.aload_n 2, 1) := by decide +kernel
theorem dL_law_242 : decode cL_law 242 = .ok (.aload_n 0, 1) := by decide +kernel
theorem dL_law_243 : decode cL_law 243 = .ok (.iload_n 3, 1) := by decide +kernel
theorem dL_law_244 : decode cL_law 244 = .ok (.iconst 1, 1) := by decide +kernel
theorem dL_law_245 : decode cL_law 245 = .ok (.iadd, 1) := by decide +kernel
theorem dL_law_246 : decode cL_law 246 = .ok (.iaload, 1) := by decide +kernel
theorem dL_law_247 : decode cL_law 247 = .ok (.aload_n 0, 1) := by decide +kernel
theorem dL_law_248 : decode cL_law 248 = .ok (.iload_n 3, 1) := by decide +kernel
theorem dL_law_249 : decode cL_law 249 = .ok (.iconst 2, 1) := by decide +kernel
theorem dL_law_250 : decode cL_law 250 = .ok (.iadd, 1) := by decide +kernel
theorem dL_law_251 : decode cL_law 251 = .ok (.iaload, 1) := by decide +kernel
theorem dL_law_252 : decode cL_law 252 = .ok (.aload_n 0, 1) := by decide +kernel
theorem dL_law_253 : decode cL_law 253 = .ok (.iload_n 3, 1) := by decide +kernel
theorem dL_law_254 : decode cL_law 254 = .ok (.iconst 3, 1) := by decide +kernel
theorem dL_law_255 : decode cL_law 255 = .ok (.iadd, 1) := by decide +kernel
theorem dL_law_256 : decode cL_law 256 = .ok (.iaload, 1) := by decide +kernel
theorem dL_law_257 : decode cL_law 257 = .ok (.aload_n 0, 1) := by decide +kernel
theorem dL_law_258 : decode cL_law 258 = .ok (.iload_n 3, 1) := by decide +kernel
theorem dL_law_259 : decode cL_law 259 = .ok (.iconst 4, 1) := by decide +kernel
theorem dL_law_260 : decode cL_law 260 = .ok (.iadd, 1) := by decide +kernel
theorem dL_law_261 : decode cL_law 261 = .ok (.iaload, 1) := by decide +kernel
theorem dL_law_262 : decode cL_law 262 = .ok (.aload_n 0, 1) := by decide +kernel
theorem dL_law_263 : decode cL_law 263 = .ok (.iload_n 3, 1) := by decide +kernel
theorem dL_law_264 : decode cL_law 264 = .ok (.iconst 5, 1) := by decide +kernel
theorem dL_law_265 : decode cL_law 265 = .ok (.iadd, 1) := by decide +kernel
theorem dL_law_266 : decode cL_law 266 = .ok (.iaload, 1) := by decide +kernel
theorem dL_law_267 : decode cL_law 267 = .ok (.aload_n 0, 1) := by decide +kernel
theorem dL_law_268 : decode cL_law 268 = .ok (.iload_n 3, 1) := by decide +kernel
theorem dL_law_269 : decode cL_law 269 = .ok (.bipush 6, 2) := by decide +kernel
theorem dL_law_271 : decode cL_law 271 = .ok (.iadd, 1) := by decide +kernel
theorem dL_law_272 : decode cL_law 272 = .ok (.iaload, 1) := by decide +kernel
theorem dL_law_273 : decode cL_law 273 = .ok (.invokevirtual 22, 3) := by decide +kernel
theorem dL_law_276 : decode cL_law 276 = .ok (.pop, 1) := by decide +kernel
theorem dL_law_277 : decode cL_law 277 = .ok (.goto 1509, 3) := by decide +kernel
set_option maxHeartbeats 4000000 in
set_option maxRecDepth 100000 in
/-- case 1: term -/
theorem law_1 {p : Program} {l : Launch} {e : Env} {s : State} {m : MethodId} {below : List Frame} {meth : Method} {c : Code} {G : xG} {sc L : Nat} {xs : Nat → Int32} {A : Nat → Prop} {S : yS} {q0 m0 : Nat} (C0 : CallFix p m c code 4 s #[Value.ref sc] wsT RL) (hr : meth.sig.returnType = ret) (hlocks : meth.locks = false) (hK : va_K G.1 xcl (xty G) s) (hN : xN s) (hX : va_X sc L xs s s.heap) (hbl : sc < s.heap.size) (hbA : ¬ A sc) (hA : ∀ q : Nat, s.heap.size ≤ q → A q) (hA2 : ∀ q, A q → s.heap.size ≤ q) (hL : L ≤ 3584) (hSh : ySh S) (hm_q0 : q0 ∈ S.1) (hk_q0 : S.2.1 q0 = 8) (hm_m0 : m0 ∈ S.1) (hk_m0 : S.2.1 m0 = 9) (hnk : S.2.2.1 q0 0 ≠ S.2.2.1 q0 1) {d : yD} {v : Int32} (hv0 : 0 ≤ v.toInt) (hv1 : v.toInt + 7 ≤ (L : Int)) (hPo : yPo S d) (hI : yMI S d m0) (hR : zR4 S d q0 m0) {H : Heap} {locs : List Loc} {ls : Array Slot} (hP : va_P G.1 xcl (yW G S d) H) (hD : va_D A (yW G S d)) (hS : va_S A s.heap H locs) (hl : lv_has ls 4 [(3, .int v), (2, .ref m0), (1, .ref q0), (0, .ref sc)]) (kk : ∀ (u : yD) (H1 : Heap) (locs1 : List Loc) (ls1 : Array Slot), va_P G.1 xcl (yW G S u) H1 → va_D A (yW G S u) → va_S A s.heap H1 locs1 → yPo S u → yMI S u m0 → zR4 S u q0 m0 → lv_has ls1 4 [(3, .int v), (2, .ref m0), (1, .ref q0), (0, .ref sc)] → W p l e room_1 s m #[Value.ref sc] below meth c H1 locs1 169 136076 (lw_Z below #[Value.ref sc] s) (F0 m 1786 ls1 [])) : W p l e room_1 s m #[Value.ref sc] below meth c H locs 169 136076 (lw_Z below #[Value.ref sc] s) (F0 m 205 ls []) := by
  obtain ⟨hx, hb, hml, hown, htl⟩ := id C0
  refine lv_aload_n hx hb dL_law_205 rfl (lv_at hl 2 rfl) ?_
  refine lv_aload_n hx hb dL_law_206 rfl (lv_at hl 3 rfl) ?_
  refine lv_iload_n hx hb dL_law_207 rfl (lv_at hl 0 rfl) ?_
  refine lv_iconst (v := 1) hx hb dL_law_208 (by decide) ?_
  refine lv_iadd hx hb dL_law_209 ?_
  refine lv_topi (fun z_1 ez_1 => ?_)
  have T_2 : (z_1 : Int32).toInt = (v : Int32).toInt + 1 := tadd ez_1 (rfl : (v : Int32).toInt = (v : Int32).toInt) (by decide +kernel : (1 : Int32).toInt = 1) (by omega) (by omega)
  refine va_sld hx hb hX hbl hbA hS (xinL (by omega) (by omega)) dL_law_210 ?_
  refine lv_topi (fun z_3 ez_3 => ?_)
  refine lv_aload_n hx hb dL_law_211 rfl (lv_at hl 3 rfl) ?_
  refine lv_iload_n hx hb dL_law_212 rfl (lv_at hl 0 rfl) ?_
  refine lv_iconst (v := 2) hx hb dL_law_213 (by decide) ?_
  refine lv_iadd hx hb dL_law_214 ?_
  refine lv_topi (fun z_4 ez_4 => ?_)
  have T_5 : (z_4 : Int32).toInt = (v : Int32).toInt + 2 := tadd ez_4 (rfl : (v : Int32).toInt = (v : Int32).toInt) (by decide +kernel : (2 : Int32).toInt = 2) (by omega) (by omega)
  refine va_sld hx hb hX hbl hbA hS (xinL (by omega) (by omega)) dL_law_215 ?_
  refine lv_topi (fun z_6 ez_6 => ?_)
  refine lv_aload_n hx hb dL_law_216 rfl (lv_at hl 3 rfl) ?_
  refine lv_iload_n hx hb dL_law_217 rfl (lv_at hl 0 rfl) ?_
  refine lv_iconst (v := 3) hx hb dL_law_218 (by decide) ?_
  refine lv_iadd hx hb dL_law_219 ?_
  refine lv_topi (fun z_7 ez_7 => ?_)
  have T_8 : (z_7 : Int32).toInt = (v : Int32).toInt + 3 := tadd ez_7 (rfl : (v : Int32).toInt = (v : Int32).toInt) (by decide +kernel : (3 : Int32).toInt = 3) (by omega) (by omega)
  refine va_sld hx hb hX hbl hbA hS (xinL (by omega) (by omega)) dL_law_220 ?_
  refine lv_topi (fun z_9 ez_9 => ?_)
  refine lv_aload_n hx hb dL_law_221 rfl (lv_at hl 3 rfl) ?_
  refine lv_iload_n hx hb dL_law_222 rfl (lv_at hl 0 rfl) ?_
  refine lv_iconst (v := 4) hx hb dL_law_223 (by decide) ?_
  refine lv_iadd hx hb dL_law_224 ?_
  refine lv_topi (fun z_10 ez_10 => ?_)
  have T_11 : (z_10 : Int32).toInt = (v : Int32).toInt + 4 := tadd ez_10 (rfl : (v : Int32).toInt = (v : Int32).toInt) (by decide +kernel : (4 : Int32).toInt = 4) (by omega) (by omega)
  refine va_sld hx hb hX hbl hbA hS (xinL (by omega) (by omega)) dL_law_225 ?_
  refine lv_topi (fun z_12 ez_12 => ?_)
  refine lv_aload_n hx hb dL_law_226 rfl (lv_at hl 3 rfl) ?_
  refine lv_iload_n hx hb dL_law_227 rfl (lv_at hl 0 rfl) ?_
  refine lv_iconst (v := 5) hx hb dL_law_228 (by decide) ?_
  refine lv_iadd hx hb dL_law_229 ?_
  refine lv_topi (fun z_13 ez_13 => ?_)
  have T_14 : (z_13 : Int32).toInt = (v : Int32).toInt + 5 := tadd ez_13 (rfl : (v : Int32).toInt = (v : Int32).toInt) (by decide +kernel : (5 : Int32).toInt = 5) (by omega) (by omega)
  refine va_sld hx hb hX hbl hbA hS (xinL (by omega) (by omega)) dL_law_230 ?_
  refine lv_topi (fun z_15 ez_15 => ?_)
  refine lv_aload_n hx hb dL_law_231 rfl (lv_at hl 3 rfl) ?_
  refine lv_iload_n hx hb dL_law_232 rfl (lv_at hl 0 rfl) ?_
  refine lv_bipush (v := 6) hx hb dL_law_233 (by decide) ?_
  refine lv_iadd hx hb dL_law_235 ?_
  refine lv_topi (fun z_16 ez_16 => ?_)
  have T_17 : (z_16 : Int32).toInt = (v : Int32).toInt + 6 := tadd ez_16 (rfl : (v : Int32).toInt = (v : Int32).toInt) (by decide +kernel : (6 : Int32).toInt = 6) (by omega) (by omega)
  refine va_sld hx hb hX hbl hbA hS (xinL (by omega) (by omega)) dL_law_236 ?_
  refine lv_topi (fun z_18 ez_18 => ?_)
  refine yVwi (As := [.int z_3, .int z_6, .int z_9, .int z_12, .int z_15, .int z_18]) (rest := []) C0 (g_X8_term l G S d q0 z_3 z_6 z_9 z_12 z_15 z_18 hSh hPo hm_q0 hk_q0) ok_X8_term (mW181 : Cond.methodLink RL 18 yX8_term ∈ wsT) ⟨Nat.le_of_ble_eq_true rfl, Nat.le_of_ble_eq_true rfl⟩ hP hD hS hA hK hN hm_q0 hk_q0 (by decide) rfl rfl rfl hl.1 rfl (Nat.le_of_ble_eq_true rfl) ⟨Nat.le_of_ble_eq_true rfl, Nat.le_of_ble_eq_true rfl⟩ dL_law_237 (fun r_19 d_20 H locs hr_19 hP hD hS => ?_)
  obtain ⟨hgad_20, hpad_20, hxd_20⟩ := hr_19
  have hPod_20 : yPo S d_20 := hpad_20 hPo
  have hId_20 : yMI S d_20 m0 := yMI.ag hI hSh hm_m0 hk_m0 hgad_20 (yK.ag (F := []) yK.rf hgad_20 (by rw [hk_m0]; decide)) (by decide) (by decide)
  refine lv_pop hx hb dL_law_240 rfl ?_
  refine lv_aload_n hx hb dL_law_241 rfl (lv_at hl 1 rfl) ?_
  refine lv_aload_n hx hb dL_law_242 rfl (lv_at hl 3 rfl) ?_
  refine lv_iload_n hx hb dL_law_243 rfl (lv_at hl 0 rfl) ?_
  refine lv_iconst (v := 1) hx hb dL_law_244 (by decide) ?_
  refine lv_iadd hx hb dL_law_245 ?_
  rw [← ez_1]
  refine va_sld hx hb hX hbl hbA hS (xinL (by omega) (by omega)) dL_law_246 ?_
  rw [← ez_3]
  refine lv_aload_n hx hb dL_law_247 rfl (lv_at hl 3 rfl) ?_
  refine lv_iload_n hx hb dL_law_248 rfl (lv_at hl 0 rfl) ?_
  refine lv_iconst (v := 2) hx hb dL_law_249 (by decide) ?_
  refine lv_iadd hx hb dL_law_250 ?_
  rw [← ez_4]
  refine va_sld hx hb hX hbl hbA hS (xinL (by omega) (by omega)) dL_law_251 ?_
  rw [← ez_6]
  refine lv_aload_n hx hb dL_law_252 rfl (lv_at hl 3 rfl) ?_
  refine lv_iload_n hx hb dL_law_253 rfl (lv_at hl 0 rfl) ?_
  refine lv_iconst (v := 3) hx hb dL_law_254 (by decide) ?_
  refine lv_iadd hx hb dL_law_255 ?_
  rw [← ez_7]
  refine va_sld hx hb hX hbl hbA hS (xinL (by omega) (by omega)) dL_law_256 ?_
  rw [← ez_9]
  refine lv_aload_n hx hb dL_law_257 rfl (lv_at hl 3 rfl) ?_
  refine lv_iload_n hx hb dL_law_258 rfl (lv_at hl 0 rfl) ?_
  refine lv_iconst (v := 4) hx hb dL_law_259 (by decide) ?_
  refine lv_iadd hx hb dL_law_260 ?_
  rw [← ez_10]
  refine va_sld hx hb hX hbl hbA hS (xinL (by omega) (by omega)) dL_law_261 ?_
  rw [← ez_12]
  refine lv_aload_n hx hb dL_law_262 rfl (lv_at hl 3 rfl) ?_
  refine lv_iload_n hx hb dL_law_263 rfl (lv_at hl 0 rfl) ?_
  refine lv_iconst (v := 5) hx hb dL_law_264 (by decide) ?_
  refine lv_iadd hx hb dL_law_265 ?_
  rw [← ez_13]
  refine va_sld hx hb hX hbl hbA hS (xinL (by omega) (by omega)) dL_law_266 ?_
  rw [← ez_15]
  refine lv_aload_n hx hb dL_law_267 rfl (lv_at hl 3 rfl) ?_
  refine lv_iload_n hx hb dL_law_268 rfl (lv_at hl 0 rfl) ?_
  refine lv_bipush (v := 6) hx hb dL_law_269 (by decide) ?_
  refine lv_iadd hx hb dL_law_271 ?_
  rw [← ez_16]
  refine va_sld hx hb hX hbl hbA hS (xinL (by omega) (by omega)) dL_law_272 ?_
  rw [← ez_18]
  refine yVwi (As := [.int z_3, .int z_6, .int z_9, .int z_12, .int z_15, .int z_18]) (rest := []) C0 (g_X9_term l G S d_20 m0 z_3 z_6 z_9 z_12 z_15 z_18 hSh hPod_20 hm_m0 hk_m0 hId_20) ok_X9_term (mW217 : Cond.methodLink RL 22 yX9_term ∈ wsT) ⟨Nat.le_of_ble_eq_true rfl, Nat.le_of_ble_eq_true rfl⟩ hP hD hS hA hK hN hm_m0 hk_m0 (by decide) rfl rfl rfl hl.1 rfl (Nat.le_of_ble_eq_true rfl) ⟨Nat.le_of_ble_eq_true rfl, Nat.le_of_ble_eq_true rfl⟩ dL_law_273 (fun r_21 d_22 H locs hr_21 hP hD hS => ?_)
  obtain ⟨hgad_22, hpad_22, hfad_22, hxd_22⟩ := hr_21
  have hPod_22 : yPo S d_22 := hpad_22 hPod_20
  have hId_22 : yMI S d_22 m0 := hxd_22.1
  refine lv_pop hx hb dL_law_276 rfl ?_
  refine lv_goto (tgt := 1786) hx hb dL_law_277 (by decide) ?_
  exact kk d_22 _ _ ls hP hD hS hPod_22 hId_22 (zR4.term hR hId_20 hPo hSh hm_q0 hk_q0 hm_m0 hk_m0 hnk hgad_20 hgad_22 hfad_22 hxd_20 hxd_22).2 (lv_sub hl [0, 1, 2, 3] rfl)
theorem dL_law_280 : decode cL_law 280 = .ok (.aload_n 1, 1) := by decide +kernel
theorem dL_law_281 : decode cL_law 281 = .ok (.aload_n 0, 1) := by decide +kernel
theorem dL_law_282 : decode cL_law 282 = .ok (.iload_n 3, 1) := by decide +kernel
theorem dL_law_283 : decode cL_law 283 = .ok (.iconst 1, 1) := by decide +kernel
theorem dL_law_284 : decode cL_law 284 = .ok (.iadd, 1) := by decide +kernel
theorem dL_law_285 : decode cL_law 285 = .ok (.iaload, 1) := by decide +kernel
theorem dL_law_286 : decode cL_law 286 = .ok (.aload_n 0, 1) := by decide +kernel
theorem dL_law_287 : decode cL_law 287 = .ok (.iload_n 3, 1) := by decide +kernel
theorem dL_law_288 : decode cL_law 288 = .ok (.iconst 2, 1) := by decide +kernel
theorem dL_law_289 : decode cL_law 289 = .ok (.iadd, 1) := by decide +kernel
theorem dL_law_290 : decode cL_law 290 = .ok (.iaload, 1) := by decide +kernel
theorem dL_law_291 : decode cL_law 291 = .ok (.aload_n 0, 1) := by decide +kernel
theorem dL_law_292 : decode cL_law 292 = .ok (.iload_n 3, 1) := by decide +kernel
theorem dL_law_293 : decode cL_law 293 = .ok (.iconst 3, 1) := by decide +kernel
theorem dL_law_294 : decode cL_law 294 = .ok (.iadd, 1) := by decide +kernel
theorem dL_law_295 : decode cL_law 295 = .ok (.iaload, 1) := by decide +kernel
theorem dL_law_296 : decode cL_law 296 = .ok (.invokevirtual 23, 3) := by decide +kernel
theorem dL_law_299 : decode cL_law 299 = .ok (.pop, 1) := by decide +kernel
theorem dL_law_300 : decode cL_law 300 = .ok (.aload_n 2, 1) := by decide +kernel
theorem dL_law_301 : decode cL_law 301 = .ok (.aload_n 0, 1) := by decide +kernel
theorem dL_law_302 : decode cL_law 302 = .ok (.iload_n 3, 1) := by decide +kernel
theorem dL_law_303 : decode cL_law 303 = .ok (.iconst 1, 1) := by decide +kernel
theorem dL_law_304 : decode cL_law 304 = .ok (.iadd, 1) := by decide +kernel
theorem dL_law_305 : decode cL_law 305 = .ok (.iaload, 1) := by decide +kernel
theorem dL_law_306 : decode cL_law 306 = .ok (.aload_n 0, 1) := by decide +kernel
theorem dL_law_307 : decode cL_law 307 = .ok (.iload_n 3, 1) := by decide +kernel
theorem dL_law_308 : decode cL_law 308 = .ok (.iconst 2, 1) := by decide +kernel
theorem dL_law_309 : decode cL_law 309 = .ok (.iadd, 1) := by decide +kernel
theorem dL_law_310 : decode cL_law 310 = .ok (.iaload, 1) := by decide +kernel
theorem dL_law_311 : decode cL_law 311 = .ok (.aload_n 0, 1) := by decide +kernel
theorem dL_law_312 : decode cL_law 312 = .ok (.iload_n 3, 1) := by decide +kernel
theorem dL_law_313 : decode cL_law 313 = .ok (.iconst 3, 1) := by decide +kernel
theorem dL_law_314 : decode cL_law 314 = .ok (.iadd, 1) := by decide +kernel
theorem dL_law_315 : decode cL_law 315 = .ok (.iaload, 1) := by decide +kernel
theorem dL_law_316 : decode cL_law 316 = .ok (.invokevirtual 27, 3) := by decide +kernel
theorem dL_law_319 : decode cL_law 319 = .ok (.pop, 1) := by decide +kernel
theorem dL_law_320 : decode cL_law 320 = .ok (.goto 1466, 3) := by decide +kernel
set_option maxHeartbeats 4000000 in
set_option maxRecDepth 100000 in
/-- case 2: yields -/
theorem law_2 {p : Program} {l : Launch} {e : Env} {s : State} {m : MethodId} {below : List Frame} {meth : Method} {c : Code} {G : xG} {sc L : Nat} {xs : Nat → Int32} {A : Nat → Prop} {S : yS} {q0 m0 : Nat} (C0 : CallFix p m c code 4 s #[Value.ref sc] wsT RL) (hr : meth.sig.returnType = ret) (hlocks : meth.locks = false) (hK : va_K G.1 xcl (xty G) s) (hN : xN s) (hX : va_X sc L xs s s.heap) (hbl : sc < s.heap.size) (hbA : ¬ A sc) (hA : ∀ q : Nat, s.heap.size ≤ q → A q) (hA2 : ∀ q, A q → s.heap.size ≤ q) (hL : L ≤ 3584) (hSh : ySh S) (hm_q0 : q0 ∈ S.1) (hk_q0 : S.2.1 q0 = 8) (hm_m0 : m0 ∈ S.1) (hk_m0 : S.2.1 m0 = 9) (hnk : S.2.2.1 q0 0 ≠ S.2.2.1 q0 1) {d : yD} {v : Int32} (hv0 : 0 ≤ v.toInt) (hv1 : v.toInt + 7 ≤ (L : Int)) (hPo : yPo S d) (hI : yMI S d m0) (hR : zR4 S d q0 m0) {H : Heap} {locs : List Loc} {ls : Array Slot} (hP : va_P G.1 xcl (yW G S d) H) (hD : va_D A (yW G S d)) (hS : va_S A s.heap H locs) (hl : lv_has ls 4 [(3, .int v), (2, .ref m0), (1, .ref q0), (0, .ref sc)]) (kk : ∀ (u : yD) (H1 : Heap) (locs1 : List Loc) (ls1 : Array Slot), va_P G.1 xcl (yW G S u) H1 → va_D A (yW G S u) → va_S A s.heap H1 locs1 → yPo S u → yMI S u m0 → zR4 S u q0 m0 → lv_has ls1 4 [(3, .int v), (2, .ref m0), (1, .ref q0), (0, .ref sc)] → W p l e room_1 s m #[Value.ref sc] below meth c H1 locs1 169 136076 (lw_Z below #[Value.ref sc] s) (F0 m 1786 ls1 [])) : W p l e room_1 s m #[Value.ref sc] below meth c H locs 169 136076 (lw_Z below #[Value.ref sc] s) (F0 m 280 ls []) := by
  obtain ⟨hx, hb, hml, hown, htl⟩ := id C0
  refine lv_aload_n hx hb dL_law_280 rfl (lv_at hl 2 rfl) ?_
  refine lv_aload_n hx hb dL_law_281 rfl (lv_at hl 3 rfl) ?_
  refine lv_iload_n hx hb dL_law_282 rfl (lv_at hl 0 rfl) ?_
  refine lv_iconst (v := 1) hx hb dL_law_283 (by decide) ?_
  refine lv_iadd hx hb dL_law_284 ?_
  refine lv_topi (fun z_1 ez_1 => ?_)
  have T_2 : (z_1 : Int32).toInt = (v : Int32).toInt + 1 := tadd ez_1 (rfl : (v : Int32).toInt = (v : Int32).toInt) (by decide +kernel : (1 : Int32).toInt = 1) (by omega) (by omega)
  refine va_sld hx hb hX hbl hbA hS (xinL (by omega) (by omega)) dL_law_285 ?_
  refine lv_topi (fun z_3 ez_3 => ?_)
  refine lv_aload_n hx hb dL_law_286 rfl (lv_at hl 3 rfl) ?_
  refine lv_iload_n hx hb dL_law_287 rfl (lv_at hl 0 rfl) ?_
  refine lv_iconst (v := 2) hx hb dL_law_288 (by decide) ?_
  refine lv_iadd hx hb dL_law_289 ?_
  refine lv_topi (fun z_4 ez_4 => ?_)
  have T_5 : (z_4 : Int32).toInt = (v : Int32).toInt + 2 := tadd ez_4 (rfl : (v : Int32).toInt = (v : Int32).toInt) (by decide +kernel : (2 : Int32).toInt = 2) (by omega) (by omega)
  refine va_sld hx hb hX hbl hbA hS (xinL (by omega) (by omega)) dL_law_290 ?_
  refine lv_topi (fun z_6 ez_6 => ?_)
  refine lv_aload_n hx hb dL_law_291 rfl (lv_at hl 3 rfl) ?_
  refine lv_iload_n hx hb dL_law_292 rfl (lv_at hl 0 rfl) ?_
  refine lv_iconst (v := 3) hx hb dL_law_293 (by decide) ?_
  refine lv_iadd hx hb dL_law_294 ?_
  refine lv_topi (fun z_7 ez_7 => ?_)
  have T_8 : (z_7 : Int32).toInt = (v : Int32).toInt + 3 := tadd ez_7 (rfl : (v : Int32).toInt = (v : Int32).toInt) (by decide +kernel : (3 : Int32).toInt = 3) (by omega) (by omega)
  refine va_sld hx hb hX hbl hbA hS (xinL (by omega) (by omega)) dL_law_295 ?_
  refine lv_topi (fun z_9 ez_9 => ?_)
  refine yVwi (As := [.int z_3, .int z_6, .int z_9]) (rest := []) C0 (g_X8_yields l G S d q0 z_3 z_6 z_9 hSh hPo hm_q0 hk_q0) ok_X8_yields (mW230 : Cond.methodLink RL 23 yX8_yields ∈ wsT) ⟨Nat.le_of_ble_eq_true rfl, Nat.le_of_ble_eq_true rfl⟩ hP hD hS hA hK hN hm_q0 hk_q0 (by decide) rfl rfl rfl hl.1 rfl (Nat.le_of_ble_eq_true rfl) ⟨Nat.le_of_ble_eq_true rfl, Nat.le_of_ble_eq_true rfl⟩ dL_law_296 (fun r_10 d_11 H locs hr_10 hP hD hS => ?_)
  obtain ⟨hgad_11, hpad_11, hxd_11⟩ := hr_10
  have hPod_11 : yPo S d_11 := hpad_11 hPo
  have hId_11 : yMI S d_11 m0 := yMI.ag hI hSh hm_m0 hk_m0 hgad_11 (yK.ag (F := []) yK.rf hgad_11 (by rw [hk_m0]; decide)) (by decide) (by decide)
  refine lv_pop hx hb dL_law_299 rfl ?_
  refine lv_aload_n hx hb dL_law_300 rfl (lv_at hl 1 rfl) ?_
  refine lv_aload_n hx hb dL_law_301 rfl (lv_at hl 3 rfl) ?_
  refine lv_iload_n hx hb dL_law_302 rfl (lv_at hl 0 rfl) ?_
  refine lv_iconst (v := 1) hx hb dL_law_303 (by decide) ?_
  refine lv_iadd hx hb dL_law_304 ?_
  rw [← ez_1]
  refine va_sld hx hb hX hbl hbA hS (xinL (by omega) (by omega)) dL_law_305 ?_
  rw [← ez_3]
  refine lv_aload_n hx hb dL_law_306 rfl (lv_at hl 3 rfl) ?_
  refine lv_iload_n hx hb dL_law_307 rfl (lv_at hl 0 rfl) ?_
  refine lv_iconst (v := 2) hx hb dL_law_308 (by decide) ?_
  refine lv_iadd hx hb dL_law_309 ?_
  rw [← ez_4]
  refine va_sld hx hb hX hbl hbA hS (xinL (by omega) (by omega)) dL_law_310 ?_
  rw [← ez_6]
  refine lv_aload_n hx hb dL_law_311 rfl (lv_at hl 3 rfl) ?_
  refine lv_iload_n hx hb dL_law_312 rfl (lv_at hl 0 rfl) ?_
  refine lv_iconst (v := 3) hx hb dL_law_313 (by decide) ?_
  refine lv_iadd hx hb dL_law_314 ?_
  rw [← ez_7]
  refine va_sld hx hb hX hbl hbA hS (xinL (by omega) (by omega)) dL_law_315 ?_
  rw [← ez_9]
  refine yVwi (As := [.int z_3, .int z_6, .int z_9]) (rest := []) C0 (g_X9_yields l G S d_11 m0 z_3 z_6 z_9 hSh hPod_11 hm_m0 hk_m0 hId_11) ok_X9_yields (mW244 : Cond.methodLink RL 27 yX9_yields ∈ wsT) ⟨Nat.le_of_ble_eq_true rfl, Nat.le_of_ble_eq_true rfl⟩ hP hD hS hA hK hN hm_m0 hk_m0 (by decide) rfl rfl rfl hl.1 rfl (Nat.le_of_ble_eq_true rfl) ⟨Nat.le_of_ble_eq_true rfl, Nat.le_of_ble_eq_true rfl⟩ dL_law_316 (fun r_12 d_13 H locs hr_12 hP hD hS => ?_)
  obtain ⟨hgad_13, hpad_13, hfad_13, hxd_13⟩ := hr_12
  have hPod_13 : yPo S d_13 := hpad_13 hPod_11
  have hId_13 : yMI S d_13 m0 := hxd_13.1
  refine lv_pop hx hb dL_law_319 rfl ?_
  refine lv_goto (tgt := 1786) hx hb dL_law_320 (by decide) ?_
  exact kk d_13 _ _ ls hP hD hS hPod_13 hId_13 (zR4.yields hR hId_11 hPo hSh hm_q0 hk_q0 hm_m0 hk_m0 hnk hgad_11 hgad_13 hfad_13 hxd_11 hxd_13).2 (lv_sub hl [0, 1, 2, 3] rfl)
theorem dL_law_323 : decode cL_law 323 = .ok (.aload_n 1, 1) := by decide +kernel
theorem dL_law_324 : decode cL_law 324 = .ok (.aload_n 0, 1) := by decide +kernel
theorem dL_law_325 : decode cL_law 325 = .ok (.iload_n 3, 1) := by decide +kernel
theorem dL_law_326 : decode cL_law 326 = .ok (.iconst 1, 1) := by decide +kernel
theorem dL_law_327 : decode cL_law 327 = .ok (.iadd, 1) := by decide +kernel
theorem dL_law_328 : decode cL_law 328 = .ok (.iaload, 1) := by decide +kernel
theorem dL_law_329 : decode cL_law 329 = .ok (.aload_n 0, 1) := by decide +kernel
theorem dL_law_330 : decode cL_law 330 = .ok (.iload_n 3, 1) := by decide +kernel
theorem dL_law_331 : decode cL_law 331 = .ok (.iconst 2, 1) := by decide +kernel
theorem dL_law_332 : decode cL_law 332 = .ok (.iadd, 1) := by decide +kernel
theorem dL_law_333 : decode cL_law 333 = .ok (.iaload, 1) := by decide +kernel
theorem dL_law_334 : decode cL_law 334 = .ok (.aload_n 0, 1) := by decide +kernel
theorem dL_law_335 : decode cL_law 335 = .ok (.iload_n 3, 1) := by decide +kernel
theorem dL_law_336 : decode cL_law 336 = .ok (.iconst 3, 1) := by decide +kernel
theorem dL_law_337 : decode cL_law 337 = .ok (.iadd, 1) := by decide +kernel
theorem dL_law_338 : decode cL_law 338 = .ok (.iaload, 1) := by decide +kernel
theorem dL_law_339 : decode cL_law 339 = .ok (.invokevirtual 28, 3) := by decide +kernel
theorem dL_law_342 : decode cL_law 342 = .ok (.pop, 1) := by decide +kernel
theorem dL_law_343 : decode cL_law 343 = .ok (.aload_n 2, 1) := by decide +kernel
theorem dL_law_344 : decode cL_law 344 = .ok (.aload_n 0, 1) := by decide +kernel
theorem dL_law_345 : decode cL_law 345 = .ok (.iload_n 3, 1) := by decide +kernel
theorem dL_law_346 : decode cL_law 346 = .ok (.iconst 1, 1) := by decide +kernel
theorem dL_law_347 : decode cL_law 347 = .ok (.iadd, 1) := by decide +kernel
theorem dL_law_348 : decode cL_law 348 = .ok (.iaload, 1) := by decide +kernel
theorem dL_law_349 : decode cL_law 349 = .ok (.aload_n 0, 1) := by decide +kernel
theorem dL_law_350 : decode cL_law 350 = .ok (.iload_n 3, 1) := by decide +kernel
theorem dL_law_351 : decode cL_law 351 = .ok (.iconst 2, 1) := by decide +kernel
theorem dL_law_352 : decode cL_law 352 = .ok (.iadd, 1) := by decide +kernel
theorem dL_law_353 : decode cL_law 353 = .ok (.iaload, 1) := by decide +kernel
theorem dL_law_354 : decode cL_law 354 = .ok (.aload_n 0, 1) := by decide +kernel
theorem dL_law_355 : decode cL_law 355 = .ok (.iload_n 3, 1) := by decide +kernel
theorem dL_law_356 : decode cL_law 356 = .ok (.iconst 3, 1) := by decide +kernel
theorem dL_law_357 : decode cL_law 357 = .ok (.iadd, 1) := by decide +kernel
theorem dL_law_358 : decode cL_law 358 = .ok (.iaload, 1) := by decide +kernel
theorem dL_law_359 : decode cL_law 359 = .ok (.invokevirtual 32, 3) := by decide +kernel
theorem dL_law_362 : decode cL_law 362 = .ok (.pop, 1) := by decide +kernel
theorem dL_law_363 : decode cL_law 363 = .ok (.goto 1423, 3) := by decide +kernel
set_option maxHeartbeats 4000000 in
set_option maxRecDepth 100000 in
/-- case 3: amount -/
theorem law_3 {p : Program} {l : Launch} {e : Env} {s : State} {m : MethodId} {below : List Frame} {meth : Method} {c : Code} {G : xG} {sc L : Nat} {xs : Nat → Int32} {A : Nat → Prop} {S : yS} {q0 m0 : Nat} (C0 : CallFix p m c code 4 s #[Value.ref sc] wsT RL) (hr : meth.sig.returnType = ret) (hlocks : meth.locks = false) (hK : va_K G.1 xcl (xty G) s) (hN : xN s) (hX : va_X sc L xs s s.heap) (hbl : sc < s.heap.size) (hbA : ¬ A sc) (hA : ∀ q : Nat, s.heap.size ≤ q → A q) (hA2 : ∀ q, A q → s.heap.size ≤ q) (hL : L ≤ 3584) (hSh : ySh S) (hm_q0 : q0 ∈ S.1) (hk_q0 : S.2.1 q0 = 8) (hm_m0 : m0 ∈ S.1) (hk_m0 : S.2.1 m0 = 9) (hnk : S.2.2.1 q0 0 ≠ S.2.2.1 q0 1) {d : yD} {v : Int32} (hv0 : 0 ≤ v.toInt) (hv1 : v.toInt + 7 ≤ (L : Int)) (hPo : yPo S d) (hI : yMI S d m0) (hR : zR4 S d q0 m0) {H : Heap} {locs : List Loc} {ls : Array Slot} (hP : va_P G.1 xcl (yW G S d) H) (hD : va_D A (yW G S d)) (hS : va_S A s.heap H locs) (hl : lv_has ls 4 [(3, .int v), (2, .ref m0), (1, .ref q0), (0, .ref sc)]) (kk : ∀ (u : yD) (H1 : Heap) (locs1 : List Loc) (ls1 : Array Slot), va_P G.1 xcl (yW G S u) H1 → va_D A (yW G S u) → va_S A s.heap H1 locs1 → yPo S u → yMI S u m0 → zR4 S u q0 m0 → lv_has ls1 4 [(3, .int v), (2, .ref m0), (1, .ref q0), (0, .ref sc)] → W p l e room_1 s m #[Value.ref sc] below meth c H1 locs1 169 136076 (lw_Z below #[Value.ref sc] s) (F0 m 1786 ls1 [])) : W p l e room_1 s m #[Value.ref sc] below meth c H locs 169 136076 (lw_Z below #[Value.ref sc] s) (F0 m 323 ls []) := by
  obtain ⟨hx, hb, hml, hown, htl⟩ := id C0
  refine lv_aload_n hx hb dL_law_323 rfl (lv_at hl 2 rfl) ?_
  refine lv_aload_n hx hb dL_law_324 rfl (lv_at hl 3 rfl) ?_
  refine lv_iload_n hx hb dL_law_325 rfl (lv_at hl 0 rfl) ?_
  refine lv_iconst (v := 1) hx hb dL_law_326 (by decide) ?_
  refine lv_iadd hx hb dL_law_327 ?_
  refine lv_topi (fun z_1 ez_1 => ?_)
  have T_2 : (z_1 : Int32).toInt = (v : Int32).toInt + 1 := tadd ez_1 (rfl : (v : Int32).toInt = (v : Int32).toInt) (by decide +kernel : (1 : Int32).toInt = 1) (by omega) (by omega)
  refine va_sld hx hb hX hbl hbA hS (xinL (by omega) (by omega)) dL_law_328 ?_
  refine lv_topi (fun z_3 ez_3 => ?_)
  refine lv_aload_n hx hb dL_law_329 rfl (lv_at hl 3 rfl) ?_
  refine lv_iload_n hx hb dL_law_330 rfl (lv_at hl 0 rfl) ?_
  refine lv_iconst (v := 2) hx hb dL_law_331 (by decide) ?_
  refine lv_iadd hx hb dL_law_332 ?_
  refine lv_topi (fun z_4 ez_4 => ?_)
  have T_5 : (z_4 : Int32).toInt = (v : Int32).toInt + 2 := tadd ez_4 (rfl : (v : Int32).toInt = (v : Int32).toInt) (by decide +kernel : (2 : Int32).toInt = 2) (by omega) (by omega)
  refine va_sld hx hb hX hbl hbA hS (xinL (by omega) (by omega)) dL_law_333 ?_
  refine lv_topi (fun z_6 ez_6 => ?_)
  refine lv_aload_n hx hb dL_law_334 rfl (lv_at hl 3 rfl) ?_
  refine lv_iload_n hx hb dL_law_335 rfl (lv_at hl 0 rfl) ?_
  refine lv_iconst (v := 3) hx hb dL_law_336 (by decide) ?_
  refine lv_iadd hx hb dL_law_337 ?_
  refine lv_topi (fun z_7 ez_7 => ?_)
  have T_8 : (z_7 : Int32).toInt = (v : Int32).toInt + 3 := tadd ez_7 (rfl : (v : Int32).toInt = (v : Int32).toInt) (by decide +kernel : (3 : Int32).toInt = 3) (by omega) (by omega)
  refine va_sld hx hb hX hbl hbA hS (xinL (by omega) (by omega)) dL_law_338 ?_
  refine lv_topi (fun z_9 ez_9 => ?_)
  refine yVwi (As := [.int z_3, .int z_6, .int z_9]) (rest := []) C0 (g_X8_amount l G S d q0 z_3 z_6 z_9 hSh hPo hm_q0 hk_q0) ok_X8_amount (mW252 : Cond.methodLink RL 28 yX8_amount ∈ wsT) ⟨Nat.le_of_ble_eq_true rfl, Nat.le_of_ble_eq_true rfl⟩ hP hD hS hA hK hN hm_q0 hk_q0 (by decide) rfl rfl rfl hl.1 rfl (Nat.le_of_ble_eq_true rfl) ⟨Nat.le_of_ble_eq_true rfl, Nat.le_of_ble_eq_true rfl⟩ dL_law_339 (fun r_10 d_11 H locs hr_10 hP hD hS => ?_)
  obtain ⟨hgad_11, hpad_11, hxd_11⟩ := hr_10
  have hPod_11 : yPo S d_11 := hpad_11 hPo
  have hId_11 : yMI S d_11 m0 := yMI.ag hI hSh hm_m0 hk_m0 hgad_11 (yK.ag (F := []) yK.rf hgad_11 (by rw [hk_m0]; decide)) (by decide) (by decide)
  refine lv_pop hx hb dL_law_342 rfl ?_
  refine lv_aload_n hx hb dL_law_343 rfl (lv_at hl 1 rfl) ?_
  refine lv_aload_n hx hb dL_law_344 rfl (lv_at hl 3 rfl) ?_
  refine lv_iload_n hx hb dL_law_345 rfl (lv_at hl 0 rfl) ?_
  refine lv_iconst (v := 1) hx hb dL_law_346 (by decide) ?_
  refine lv_iadd hx hb dL_law_347 ?_
  rw [← ez_1]
  refine va_sld hx hb hX hbl hbA hS (xinL (by omega) (by omega)) dL_law_348 ?_
  rw [← ez_3]
  refine lv_aload_n hx hb dL_law_349 rfl (lv_at hl 3 rfl) ?_
  refine lv_iload_n hx hb dL_law_350 rfl (lv_at hl 0 rfl) ?_
  refine lv_iconst (v := 2) hx hb dL_law_351 (by decide) ?_
  refine lv_iadd hx hb dL_law_352 ?_
  rw [← ez_4]
  refine va_sld hx hb hX hbl hbA hS (xinL (by omega) (by omega)) dL_law_353 ?_
  rw [← ez_6]
  refine lv_aload_n hx hb dL_law_354 rfl (lv_at hl 3 rfl) ?_
  refine lv_iload_n hx hb dL_law_355 rfl (lv_at hl 0 rfl) ?_
  refine lv_iconst (v := 3) hx hb dL_law_356 (by decide) ?_
  refine lv_iadd hx hb dL_law_357 ?_
  rw [← ez_7]
  refine va_sld hx hb hX hbl hbA hS (xinL (by omega) (by omega)) dL_law_358 ?_
  rw [← ez_9]
  refine yVwi (As := [.int z_3, .int z_6, .int z_9]) (rest := []) C0 (g_X9_amount l G S d_11 m0 z_3 z_6 z_9 hSh hPod_11 hm_m0 hk_m0 hId_11) ok_X9_amount (mW259 : Cond.methodLink RL 32 yX9_amount ∈ wsT) ⟨Nat.le_of_ble_eq_true rfl, Nat.le_of_ble_eq_true rfl⟩ hP hD hS hA hK hN hm_m0 hk_m0 (by decide) rfl rfl rfl hl.1 rfl (Nat.le_of_ble_eq_true rfl) ⟨Nat.le_of_ble_eq_true rfl, Nat.le_of_ble_eq_true rfl⟩ dL_law_359 (fun r_12 d_13 H locs hr_12 hP hD hS => ?_)
  obtain ⟨hgad_13, hpad_13, hfad_13, hxd_13⟩ := hr_12
  have hPod_13 : yPo S d_13 := hpad_13 hPod_11
  have hId_13 : yMI S d_13 m0 := hxd_13.1
  refine lv_pop hx hb dL_law_362 rfl ?_
  refine lv_goto (tgt := 1786) hx hb dL_law_363 (by decide) ?_
  exact kk d_13 _ _ ls hP hD hS hPod_13 hId_13 (zR4.amount hR hId_11 hPo hSh hm_q0 hk_q0 hm_m0 hk_m0 hnk hgad_11 hgad_13 hfad_13 hxd_11 hxd_13).2 (lv_sub hl [0, 1, 2, 3] rfl)
theorem dL_law_366 : decode cL_law 366 = .ok (.aload_n 1, 1) := by decide +kernel
theorem dL_law_367 : decode cL_law 367 = .ok (.aload_n 0, 1) := by decide +kernel
theorem dL_law_368 : decode cL_law 368 = .ok (.iload_n 3, 1) := by decide +kernel
theorem dL_law_369 : decode cL_law 369 = .ok (.iconst 1, 1) := by decide +kernel
theorem dL_law_370 : decode cL_law 370 = .ok (.iadd, 1) := by decide +kernel
theorem dL_law_371 : decode cL_law 371 = .ok (.iaload, 1) := by decide +kernel
theorem dL_law_372 : decode cL_law 372 = .ok (.aload_n 0, 1) := by decide +kernel
theorem dL_law_373 : decode cL_law 373 = .ok (.iload_n 3, 1) := by decide +kernel
theorem dL_law_374 : decode cL_law 374 = .ok (.iconst 2, 1) := by decide +kernel
theorem dL_law_375 : decode cL_law 375 = .ok (.iadd, 1) := by decide +kernel
theorem dL_law_376 : decode cL_law 376 = .ok (.iaload, 1) := by decide +kernel
theorem dL_law_377 : decode cL_law 377 = .ok (.aload_n 0, 1) := by decide +kernel
theorem dL_law_378 : decode cL_law 378 = .ok (.iload_n 3, 1) := by decide +kernel
theorem dL_law_379 : decode cL_law 379 = .ok (.iconst 3, 1) := by decide +kernel
theorem dL_law_380 : decode cL_law 380 = .ok (.iadd, 1) := by decide +kernel
theorem dL_law_381 : decode cL_law 381 = .ok (.iaload, 1) := by decide +kernel
theorem dL_law_382 : decode cL_law 382 = .ok (.invokevirtual 33, 3) := by decide +kernel
theorem dL_law_385 : decode cL_law 385 = .ok (.pop, 1) := by decide +kernel
theorem dL_law_386 : decode cL_law 386 = .ok (.aload_n 2, 1) := by decide +kernel
theorem dL_law_387 : decode cL_law 387 = .ok (.aload_n 0, 1) := by decide +kernel
theorem dL_law_388 : decode cL_law 388 = .ok (.iload_n 3, 1) := by decide +kernel
theorem dL_law_389 : decode cL_law 389 = .ok (.iconst 1, 1) := by decide +kernel
theorem dL_law_390 : decode cL_law 390 = .ok (.iadd, 1) := by decide +kernel
theorem dL_law_391 : decode cL_law 391 = .ok (.iaload, 1) := by decide +kernel
theorem dL_law_392 : decode cL_law 392 = .ok (.aload_n 0, 1) := by decide +kernel
theorem dL_law_393 : decode cL_law 393 = .ok (.iload_n 3, 1) := by decide +kernel
theorem dL_law_394 : decode cL_law 394 = .ok (.iconst 2, 1) := by decide +kernel
theorem dL_law_395 : decode cL_law 395 = .ok (.iadd, 1) := by decide +kernel
theorem dL_law_396 : decode cL_law 396 = .ok (.iaload, 1) := by decide +kernel
theorem dL_law_397 : decode cL_law 397 = .ok (.aload_n 0, 1) := by decide +kernel
theorem dL_law_398 : decode cL_law 398 = .ok (.iload_n 3, 1) := by decide +kernel
theorem dL_law_399 : decode cL_law 399 = .ok (.iconst 3, 1) := by decide +kernel
theorem dL_law_400 : decode cL_law 400 = .ok (.iadd, 1) := by decide +kernel
theorem dL_law_401 : decode cL_law 401 = .ok (.iaload, 1) := by decide +kernel
theorem dL_law_402 : decode cL_law 402 = .ok (.invokevirtual 36, 3) := by decide +kernel
theorem dL_law_405 : decode cL_law 405 = .ok (.pop, 1) := by decide +kernel
theorem dL_law_406 : decode cL_law 406 = .ok (.goto 1380, 3) := by decide +kernel
set_option maxHeartbeats 4000000 in
set_option maxRecDepth 100000 in
/-- case 4: heading -/
theorem law_4 {p : Program} {l : Launch} {e : Env} {s : State} {m : MethodId} {below : List Frame} {meth : Method} {c : Code} {G : xG} {sc L : Nat} {xs : Nat → Int32} {A : Nat → Prop} {S : yS} {q0 m0 : Nat} (C0 : CallFix p m c code 4 s #[Value.ref sc] wsT RL) (hr : meth.sig.returnType = ret) (hlocks : meth.locks = false) (hK : va_K G.1 xcl (xty G) s) (hN : xN s) (hX : va_X sc L xs s s.heap) (hbl : sc < s.heap.size) (hbA : ¬ A sc) (hA : ∀ q : Nat, s.heap.size ≤ q → A q) (hA2 : ∀ q, A q → s.heap.size ≤ q) (hL : L ≤ 3584) (hSh : ySh S) (hm_q0 : q0 ∈ S.1) (hk_q0 : S.2.1 q0 = 8) (hm_m0 : m0 ∈ S.1) (hk_m0 : S.2.1 m0 = 9) (hnk : S.2.2.1 q0 0 ≠ S.2.2.1 q0 1) {d : yD} {v : Int32} (hv0 : 0 ≤ v.toInt) (hv1 : v.toInt + 7 ≤ (L : Int)) (hPo : yPo S d) (hI : yMI S d m0) (hR : zR4 S d q0 m0) {H : Heap} {locs : List Loc} {ls : Array Slot} (hP : va_P G.1 xcl (yW G S d) H) (hD : va_D A (yW G S d)) (hS : va_S A s.heap H locs) (hl : lv_has ls 4 [(3, .int v), (2, .ref m0), (1, .ref q0), (0, .ref sc)]) (kk : ∀ (u : yD) (H1 : Heap) (locs1 : List Loc) (ls1 : Array Slot), va_P G.1 xcl (yW G S u) H1 → va_D A (yW G S u) → va_S A s.heap H1 locs1 → yPo S u → yMI S u m0 → zR4 S u q0 m0 → lv_has ls1 4 [(3, .int v), (2, .ref m0), (1, .ref q0), (0, .ref sc)] → W p l e room_1 s m #[Value.ref sc] below meth c H1 locs1 169 136076 (lw_Z below #[Value.ref sc] s) (F0 m 1786 ls1 [])) : W p l e room_1 s m #[Value.ref sc] below meth c H locs 169 136076 (lw_Z below #[Value.ref sc] s) (F0 m 366 ls []) := by
  obtain ⟨hx, hb, hml, hown, htl⟩ := id C0
  refine lv_aload_n hx hb dL_law_366 rfl (lv_at hl 2 rfl) ?_
  refine lv_aload_n hx hb dL_law_367 rfl (lv_at hl 3 rfl) ?_
  refine lv_iload_n hx hb dL_law_368 rfl (lv_at hl 0 rfl) ?_
  refine lv_iconst (v := 1) hx hb dL_law_369 (by decide) ?_
  refine lv_iadd hx hb dL_law_370 ?_
  refine lv_topi (fun z_1 ez_1 => ?_)
  have T_2 : (z_1 : Int32).toInt = (v : Int32).toInt + 1 := tadd ez_1 (rfl : (v : Int32).toInt = (v : Int32).toInt) (by decide +kernel : (1 : Int32).toInt = 1) (by omega) (by omega)
  refine va_sld hx hb hX hbl hbA hS (xinL (by omega) (by omega)) dL_law_371 ?_
  refine lv_topi (fun z_3 ez_3 => ?_)
  refine lv_aload_n hx hb dL_law_372 rfl (lv_at hl 3 rfl) ?_
  refine lv_iload_n hx hb dL_law_373 rfl (lv_at hl 0 rfl) ?_
  refine lv_iconst (v := 2) hx hb dL_law_374 (by decide) ?_
  refine lv_iadd hx hb dL_law_375 ?_
  refine lv_topi (fun z_4 ez_4 => ?_)
  have T_5 : (z_4 : Int32).toInt = (v : Int32).toInt + 2 := tadd ez_4 (rfl : (v : Int32).toInt = (v : Int32).toInt) (by decide +kernel : (2 : Int32).toInt = 2) (by omega) (by omega)
  refine va_sld hx hb hX hbl hbA hS (xinL (by omega) (by omega)) dL_law_376 ?_
  refine lv_topi (fun z_6 ez_6 => ?_)
  refine lv_aload_n hx hb dL_law_377 rfl (lv_at hl 3 rfl) ?_
  refine lv_iload_n hx hb dL_law_378 rfl (lv_at hl 0 rfl) ?_
  refine lv_iconst (v := 3) hx hb dL_law_379 (by decide) ?_
  refine lv_iadd hx hb dL_law_380 ?_
  refine lv_topi (fun z_7 ez_7 => ?_)
  have T_8 : (z_7 : Int32).toInt = (v : Int32).toInt + 3 := tadd ez_7 (rfl : (v : Int32).toInt = (v : Int32).toInt) (by decide +kernel : (3 : Int32).toInt = 3) (by omega) (by omega)
  refine va_sld hx hb hX hbl hbA hS (xinL (by omega) (by omega)) dL_law_381 ?_
  refine lv_topi (fun z_9 ez_9 => ?_)
  refine yVwi (As := [.int z_3, .int z_6, .int z_9]) (rest := []) C0 (g_X8_heading l G S d q0 z_3 z_6 z_9 hSh hPo hm_q0 hk_q0) ok_X8_heading (mW265 : Cond.methodLink RL 33 yX8_heading ∈ wsT) ⟨Nat.le_of_ble_eq_true rfl, Nat.le_of_ble_eq_true rfl⟩ hP hD hS hA hK hN hm_q0 hk_q0 (by decide) rfl rfl rfl hl.1 rfl (Nat.le_of_ble_eq_true rfl) ⟨Nat.le_of_ble_eq_true rfl, Nat.le_of_ble_eq_true rfl⟩ dL_law_382 (fun r_10 d_11 H locs hr_10 hP hD hS => ?_)
  obtain ⟨hgad_11, hpad_11, hxd_11⟩ := hr_10
  have hPod_11 : yPo S d_11 := hpad_11 hPo
  have hId_11 : yMI S d_11 m0 := yMI.ag hI hSh hm_m0 hk_m0 hgad_11 (yK.ag (F := []) yK.rf hgad_11 (by rw [hk_m0]; decide)) (by decide) (by decide)
  refine lv_pop hx hb dL_law_385 rfl ?_
  refine lv_aload_n hx hb dL_law_386 rfl (lv_at hl 1 rfl) ?_
  refine lv_aload_n hx hb dL_law_387 rfl (lv_at hl 3 rfl) ?_
  refine lv_iload_n hx hb dL_law_388 rfl (lv_at hl 0 rfl) ?_
  refine lv_iconst (v := 1) hx hb dL_law_389 (by decide) ?_
  refine lv_iadd hx hb dL_law_390 ?_
  rw [← ez_1]
  refine va_sld hx hb hX hbl hbA hS (xinL (by omega) (by omega)) dL_law_391 ?_
  rw [← ez_3]
  refine lv_aload_n hx hb dL_law_392 rfl (lv_at hl 3 rfl) ?_
  refine lv_iload_n hx hb dL_law_393 rfl (lv_at hl 0 rfl) ?_
  refine lv_iconst (v := 2) hx hb dL_law_394 (by decide) ?_
  refine lv_iadd hx hb dL_law_395 ?_
  rw [← ez_4]
  refine va_sld hx hb hX hbl hbA hS (xinL (by omega) (by omega)) dL_law_396 ?_
  rw [← ez_6]
  refine lv_aload_n hx hb dL_law_397 rfl (lv_at hl 3 rfl) ?_
  refine lv_iload_n hx hb dL_law_398 rfl (lv_at hl 0 rfl) ?_
  refine lv_iconst (v := 3) hx hb dL_law_399 (by decide) ?_
  refine lv_iadd hx hb dL_law_400 ?_
  rw [← ez_7]
  refine va_sld hx hb hX hbl hbA hS (xinL (by omega) (by omega)) dL_law_401 ?_
  rw [← ez_9]
  refine yVwi (As := [.int z_3, .int z_6, .int z_9]) (rest := []) C0 (g_X9_heading l G S d_11 m0 z_3 z_6 z_9 hSh hPod_11 hm_m0 hk_m0 hId_11) ok_X9_heading (mW269 : Cond.methodLink RL 36 yX9_heading ∈ wsT) ⟨Nat.le_of_ble_eq_true rfl, Nat.le_of_ble_eq_true rfl⟩ hP hD hS hA hK hN hm_m0 hk_m0 (by decide) rfl rfl rfl hl.1 rfl (Nat.le_of_ble_eq_true rfl) ⟨Nat.le_of_ble_eq_true rfl, Nat.le_of_ble_eq_true rfl⟩ dL_law_402 (fun r_12 d_13 H locs hr_12 hP hD hS => ?_)
  obtain ⟨hgad_13, hpad_13, hfad_13, hxd_13⟩ := hr_12
  have hPod_13 : yPo S d_13 := hpad_13 hPod_11
  have hId_13 : yMI S d_13 m0 := hxd_13.1
  refine lv_pop hx hb dL_law_405 rfl ?_
  refine lv_goto (tgt := 1786) hx hb dL_law_406 (by decide) ?_
  exact kk d_13 _ _ ls hP hD hS hPod_13 hId_13 (zR4.heading hR hId_11 hPo hSh hm_q0 hk_q0 hm_m0 hk_m0 hnk hgad_11 hgad_13 hfad_13 hxd_11 hxd_13).2 (lv_sub hl [0, 1, 2, 3] rfl)
theorem dL_law_409 : decode cL_law 409 = .ok (.aload_n 1, 1) := by decide +kernel
theorem dL_law_410 : decode cL_law 410 = .ok (.aload_n 0, 1) := by decide +kernel
theorem dL_law_411 : decode cL_law 411 = .ok (.iload_n 3, 1) := by decide +kernel
theorem dL_law_412 : decode cL_law 412 = .ok (.iconst 1, 1) := by decide +kernel
theorem dL_law_413 : decode cL_law 413 = .ok (.iadd, 1) := by decide +kernel
theorem dL_law_414 : decode cL_law 414 = .ok (.iaload, 1) := by decide +kernel
theorem dL_law_415 : decode cL_law 415 = .ok (.aload_n 0, 1) := by decide +kernel
theorem dL_law_416 : decode cL_law 416 = .ok (.iload_n 3, 1) := by decide +kernel
theorem dL_law_417 : decode cL_law 417 = .ok (.iconst 2, 1) := by decide +kernel
theorem dL_law_418 : decode cL_law 418 = .ok (.iadd, 1) := by decide +kernel
theorem dL_law_419 : decode cL_law 419 = .ok (.iaload, 1) := by decide +kernel
theorem dL_law_420 : decode cL_law 420 = .ok (.invokevirtual 37, 3) := by decide +kernel
theorem dL_law_423 : decode cL_law 423 = .ok (.pop, 1) := by decide +kernel
theorem dL_law_424 : decode cL_law 424 = .ok (.aload_n 2, 1) := by decide +kernel
theorem dL_law_425 : decode cL_law 425 = .ok (.aload_n 0, 1) := by decide +kernel
theorem dL_law_426 : decode cL_law 426 = .ok (.iload_n 3, 1) := by decide +kernel
theorem dL_law_427 : decode cL_law 427 = .ok (.iconst 1, 1) := by decide +kernel
theorem dL_law_428 : decode cL_law 428 = .ok (.iadd, 1) := by decide +kernel
theorem dL_law_429 : decode cL_law 429 = .ok (.iaload, 1) := by decide +kernel
theorem dL_law_430 : decode cL_law 430 = .ok (.aload_n 0, 1) := by decide +kernel
theorem dL_law_431 : decode cL_law 431 = .ok (.iload_n 3, 1) := by decide +kernel
theorem dL_law_432 : decode cL_law 432 = .ok (.iconst 2, 1) := by decide +kernel
theorem dL_law_433 : decode cL_law 433 = .ok (.iadd, 1) := by decide +kernel
theorem dL_law_434 : decode cL_law 434 = .ok (.iaload, 1) := by decide +kernel
theorem dL_law_435 : decode cL_law 435 = .ok (.invokevirtual 41, 3) := by decide +kernel
theorem dL_law_438 : decode cL_law 438 = .ok (.pop, 1) := by decide +kernel
theorem dL_law_439 : decode cL_law 439 = .ok (.goto 1347, 3) := by decide +kernel
set_option maxHeartbeats 4000000 in
set_option maxRecDepth 100000 in
/-- case 5: strike -/
theorem law_5 {p : Program} {l : Launch} {e : Env} {s : State} {m : MethodId} {below : List Frame} {meth : Method} {c : Code} {G : xG} {sc L : Nat} {xs : Nat → Int32} {A : Nat → Prop} {S : yS} {q0 m0 : Nat} (C0 : CallFix p m c code 4 s #[Value.ref sc] wsT RL) (hr : meth.sig.returnType = ret) (hlocks : meth.locks = false) (hK : va_K G.1 xcl (xty G) s) (hN : xN s) (hX : va_X sc L xs s s.heap) (hbl : sc < s.heap.size) (hbA : ¬ A sc) (hA : ∀ q : Nat, s.heap.size ≤ q → A q) (hA2 : ∀ q, A q → s.heap.size ≤ q) (hL : L ≤ 3584) (hSh : ySh S) (hm_q0 : q0 ∈ S.1) (hk_q0 : S.2.1 q0 = 8) (hm_m0 : m0 ∈ S.1) (hk_m0 : S.2.1 m0 = 9) (hnk : S.2.2.1 q0 0 ≠ S.2.2.1 q0 1) {d : yD} {v : Int32} (hv0 : 0 ≤ v.toInt) (hv1 : v.toInt + 7 ≤ (L : Int)) (hPo : yPo S d) (hI : yMI S d m0) (hR : zR4 S d q0 m0) {H : Heap} {locs : List Loc} {ls : Array Slot} (hP : va_P G.1 xcl (yW G S d) H) (hD : va_D A (yW G S d)) (hS : va_S A s.heap H locs) (hl : lv_has ls 4 [(3, .int v), (2, .ref m0), (1, .ref q0), (0, .ref sc)]) (kk : ∀ (u : yD) (H1 : Heap) (locs1 : List Loc) (ls1 : Array Slot), va_P G.1 xcl (yW G S u) H1 → va_D A (yW G S u) → va_S A s.heap H1 locs1 → yPo S u → yMI S u m0 → zR4 S u q0 m0 → lv_has ls1 4 [(3, .int v), (2, .ref m0), (1, .ref q0), (0, .ref sc)] → W p l e room_1 s m #[Value.ref sc] below meth c H1 locs1 169 136076 (lw_Z below #[Value.ref sc] s) (F0 m 1786 ls1 [])) : W p l e room_1 s m #[Value.ref sc] below meth c H locs 169 136076 (lw_Z below #[Value.ref sc] s) (F0 m 409 ls []) := by
  obtain ⟨hx, hb, hml, hown, htl⟩ := id C0
  refine lv_aload_n hx hb dL_law_409 rfl (lv_at hl 2 rfl) ?_
  refine lv_aload_n hx hb dL_law_410 rfl (lv_at hl 3 rfl) ?_
  refine lv_iload_n hx hb dL_law_411 rfl (lv_at hl 0 rfl) ?_
  refine lv_iconst (v := 1) hx hb dL_law_412 (by decide) ?_
  refine lv_iadd hx hb dL_law_413 ?_
  refine lv_topi (fun z_1 ez_1 => ?_)
  have T_2 : (z_1 : Int32).toInt = (v : Int32).toInt + 1 := tadd ez_1 (rfl : (v : Int32).toInt = (v : Int32).toInt) (by decide +kernel : (1 : Int32).toInt = 1) (by omega) (by omega)
  refine va_sld hx hb hX hbl hbA hS (xinL (by omega) (by omega)) dL_law_414 ?_
  refine lv_topi (fun z_3 ez_3 => ?_)
  refine lv_aload_n hx hb dL_law_415 rfl (lv_at hl 3 rfl) ?_
  refine lv_iload_n hx hb dL_law_416 rfl (lv_at hl 0 rfl) ?_
  refine lv_iconst (v := 2) hx hb dL_law_417 (by decide) ?_
  refine lv_iadd hx hb dL_law_418 ?_
  refine lv_topi (fun z_4 ez_4 => ?_)
  have T_5 : (z_4 : Int32).toInt = (v : Int32).toInt + 2 := tadd ez_4 (rfl : (v : Int32).toInt = (v : Int32).toInt) (by decide +kernel : (2 : Int32).toInt = 2) (by omega) (by omega)
  refine va_sld hx hb hX hbl hbA hS (xinL (by omega) (by omega)) dL_law_419 ?_
  refine lv_topi (fun z_6 ez_6 => ?_)
  refine yVwi (As := [.int z_3, .int z_6]) (rest := []) C0 (g_X8_strike l G S d q0 z_3 z_6 hSh hPo hm_q0 hk_q0) ok_X8_strike (mW273 : Cond.methodLink RL 37 yX8_strike ∈ wsT) ⟨Nat.le_of_ble_eq_true rfl, Nat.le_of_ble_eq_true rfl⟩ hP hD hS hA hK hN hm_q0 hk_q0 (by decide) rfl rfl rfl hl.1 rfl (Nat.le_of_ble_eq_true rfl) ⟨Nat.le_of_ble_eq_true rfl, Nat.le_of_ble_eq_true rfl⟩ dL_law_420 (fun r_7 d_8 H locs hr_7 hP hD hS => ?_)
  obtain ⟨hgad_8, hpad_8, hxd_8⟩ := hr_7
  have hPod_8 : yPo S d_8 := hpad_8 hPo
  have hId_8 : yMI S d_8 m0 := yMI.ag hI hSh hm_m0 hk_m0 hgad_8 (yK.ag (F := []) yK.rf hgad_8 (by rw [hk_m0]; decide)) (by decide) (by decide)
  refine lv_pop hx hb dL_law_423 rfl ?_
  refine lv_aload_n hx hb dL_law_424 rfl (lv_at hl 1 rfl) ?_
  refine lv_aload_n hx hb dL_law_425 rfl (lv_at hl 3 rfl) ?_
  refine lv_iload_n hx hb dL_law_426 rfl (lv_at hl 0 rfl) ?_
  refine lv_iconst (v := 1) hx hb dL_law_427 (by decide) ?_
  refine lv_iadd hx hb dL_law_428 ?_
  rw [← ez_1]
  refine va_sld hx hb hX hbl hbA hS (xinL (by omega) (by omega)) dL_law_429 ?_
  rw [← ez_3]
  refine lv_aload_n hx hb dL_law_430 rfl (lv_at hl 3 rfl) ?_
  refine lv_iload_n hx hb dL_law_431 rfl (lv_at hl 0 rfl) ?_
  refine lv_iconst (v := 2) hx hb dL_law_432 (by decide) ?_
  refine lv_iadd hx hb dL_law_433 ?_
  rw [← ez_4]
  refine va_sld hx hb hX hbl hbA hS (xinL (by omega) (by omega)) dL_law_434 ?_
  rw [← ez_6]
  refine yVwi (As := [.int z_3, .int z_6]) (rest := []) C0 (g_X9_strike l G S d_8 m0 z_3 z_6 hSh hPod_8 hm_m0 hk_m0 hId_8) ok_X9_strike (mW277 : Cond.methodLink RL 41 yX9_strike ∈ wsT) ⟨Nat.le_of_ble_eq_true rfl, Nat.le_of_ble_eq_true rfl⟩ hP hD hS hA hK hN hm_m0 hk_m0 (by decide) rfl rfl rfl hl.1 rfl (Nat.le_of_ble_eq_true rfl) ⟨Nat.le_of_ble_eq_true rfl, Nat.le_of_ble_eq_true rfl⟩ dL_law_435 (fun r_9 d_10 H locs hr_9 hP hD hS => ?_)
  obtain ⟨hgad_10, hpad_10, hfad_10, hxd_10⟩ := hr_9
  have hPod_10 : yPo S d_10 := hpad_10 hPod_8
  have hId_10 : yMI S d_10 m0 := hxd_10.1
  refine lv_pop hx hb dL_law_438 rfl ?_
  refine lv_goto (tgt := 1786) hx hb dL_law_439 (by decide) ?_
  exact kk d_10 _ _ ls hP hD hS hPod_10 hId_10 (zR4.strike hR hId_8 hPo hSh hm_q0 hk_q0 hm_m0 hk_m0 hnk hgad_8 hgad_10 hfad_10 hxd_8 hxd_10).2 (lv_sub hl [0, 1, 2, 3] rfl)
