theorem dL_law_1258 : decode cL_law 1258 = .ok (.aload_n 1, 1) := by decide +kernel
theorem dL_law_1259 : decode cL_law 1259 = .ok (.aload_n 0, 1) := by decide +kernel
theorem dL_law_1260 : decode cL_law 1260 = .ok (.iload_n 3, 1) := by decide +kernel
theorem dL_law_1261 : decode cL_law 1261 = .ok (.iconst 1, 1) := by decide +kernel
theorem dL_law_1262 : decode cL_law 1262 = .ok (.iadd, 1) := by decide +kernel
theorem dL_law_1263 : decode cL_law 1263 = .ok (.iaload, 1) := by decide +kernel
theorem dL_law_1264 : decode cL_law 1264 = .ok (.aload_n 0, 1) := by decide +kernel
theorem dL_law_1265 : decode cL_law 1265 = .ok (.iload_n 3, 1) := by decide +kernel
theorem dL_law_1266 : decode cL_law 1266 = .ok (.iconst 2, 1) := by decide +kernel
theorem dL_law_1267 : decode cL_law 1267 = .ok (.iadd, 1) := by decide +kernel
theorem dL_law_1268 : decode cL_law 1268 = .ok (.iaload, 1) := by decide +kernel
theorem dL_law_1269 : decode cL_law 1269 = .ok (.aload_n 0, 1) := by decide +kernel
theorem dL_law_1270 : decode cL_law 1270 = .ok (.iload_n 3, 1) := by decide +kernel
theorem dL_law_1271 : decode cL_law 1271 = .ok (.iconst 3, 1) := by decide +kernel
theorem dL_law_1272 : decode cL_law 1272 = .ok (.iadd, 1) := by decide +kernel
theorem dL_law_1273 : decode cL_law 1273 = .ok (.iaload, 1) := by decide +kernel
theorem dL_law_1274 : decode cL_law 1274 = .ok (.ifCond .eq 7, 3) := by decide +kernel
theorem dL_law_1277 : decode cL_law 1277 = .ok (.iconst 1, 1) := by decide +kernel
theorem dL_law_1278 : decode cL_law 1278 = .ok (.goto 4, 3) := by decide +kernel
theorem dL_law_1281 : decode cL_law 1281 = .ok (.iconst 0, 1) := by decide +kernel
theorem dL_law_1282 : decode cL_law 1282 = .ok (.invokevirtual 124, 3) := by decide +kernel
theorem dL_law_1285 : decode cL_law 1285 = .ok (.pop, 1) := by decide +kernel
theorem dL_law_1286 : decode cL_law 1286 = .ok (.aload_n 2, 1) := by decide +kernel
theorem dL_law_1287 : decode cL_law 1287 = .ok (.aload_n 0, 1) := by decide +kernel
theorem dL_law_1288 : decode cL_law 1288 = .ok (.iload_n 3, 1) := by decide +kernel
theorem dL_law_1289 : decode cL_law 1289 = .ok (.iconst 1, 1) := by decide +kernel
theorem dL_law_1290 : decode cL_law 1290 = .ok (.iadd, 1) := by decide +kernel
theorem dL_law_1291 : decode cL_law 1291 = .ok (.iaload, 1) := by decide +kernel
theorem dL_law_1292 : decode cL_law 1292 = .ok (.aload_n 0, 1) := by decide +kernel
theorem dL_law_1293 : decode cL_law 1293 = .ok (.iload_n 3, 1) := by decide +kernel
theorem dL_law_1294 : decode cL_law 1294 = .ok (.iconst 2, 1) := by decide +kernel
theorem dL_law_1295 : decode cL_law 1295 = .ok (.iadd, 1) := by decide +kernel
theorem dL_law_1296 : decode cL_law 1296 = .ok (.iaload, 1) := by decide +kernel
theorem dL_law_1297 : decode cL_law 1297 = .ok (.aload_n 0, 1) := by decide +kernel
theorem dL_law_1298 : decode cL_law 1298 = .ok (.iload_n 3, 1) := by decide +kernel
theorem dL_law_1299 : decode cL_law 1299 = .ok (.iconst 3, 1) := by decide +kernel
theorem dL_law_1300 : decode cL_law 1300 = .ok (.iadd, 1) := by decide +kernel
theorem dL_law_1301 : decode cL_law 1301 = .ok (.iaload, 1) := by decide +kernel
theorem dL_law_1302 : decode cL_law 1302 = .ok (.ifCond .eq 7, 3) := by decide +kernel
theorem dL_law_1305 : decode cL_law 1305 = .ok (.iconst 1, 1) := by decide +kernel
theorem dL_law_1306 : decode cL_law 1306 = .ok (.goto 4, 3) := by decide +kernel
theorem dL_law_1309 : decode cL_law 1309 = .ok (.iconst 0, 1) := by decide +kernel
theorem dL_law_1310 : decode cL_law 1310 = .ok (.invokevirtual 128, 3) := by decide +kernel
theorem dL_law_1313 : decode cL_law 1313 = .ok (.pop, 1) := by decide +kernel
theorem dL_law_1314 : decode cL_law 1314 = .ok (.goto 472, 3) := by decide +kernel
set_option maxHeartbeats 4000000 in
set_option maxRecDepth 100000 in
/-- case 24: minute -/
theorem law_24 {p : Program} {l : Launch} {e : Env} {s : State} {m : MethodId} {below : List Frame} {meth : Method} {c : Code} {G : xG} {sc L : Nat} {xs : Nat → Int32} {A : Nat → Prop} {S : yS} {q0 m0 : Nat} (C0 : CallFix p m c code 4 s #[Value.ref sc] wsT RL) (hr : meth.sig.returnType = ret) (hlocks : meth.locks = false) (hK : va_K G.1 xcl (xty G) s) (hN : xN s) (hX : va_X sc L xs s s.heap) (hbl : sc < s.heap.size) (hbA : ¬ A sc) (hA : ∀ q : Nat, s.heap.size ≤ q → A q) (hA2 : ∀ q, A q → s.heap.size ≤ q) (hL : L ≤ 3584) (hSh : ySh S) (hm_q0 : q0 ∈ S.1) (hk_q0 : S.2.1 q0 = 8) (hm_m0 : m0 ∈ S.1) (hk_m0 : S.2.1 m0 = 9) (hnk : S.2.2.1 q0 0 ≠ S.2.2.1 q0 1) {d : yD} {v : Int32} (hv0 : 0 ≤ v.toInt) (hv1 : v.toInt + 7 ≤ (L : Int)) (hPo : yPo S d) (hI : yMI S d m0) (hR : zR4 S d q0 m0) {H : Heap} {locs : List Loc} {ls : Array Slot} (hP : va_P G.1 xcl (yW G S d) H) (hD : va_D A (yW G S d)) (hS : va_S A s.heap H locs) (hl : lv_has ls 4 [(3, .int v), (2, .ref m0), (1, .ref q0), (0, .ref sc)]) (kk : ∀ (u : yD) (H1 : Heap) (locs1 : List Loc) (ls1 : Array Slot), va_P G.1 xcl (yW G S u) H1 → va_D A (yW G S u) → va_S A s.heap H1 locs1 → yPo S u → yMI S u m0 → zR4 S u q0 m0 → lv_has ls1 4 [(3, .int v), (2, .ref m0), (1, .ref q0), (0, .ref sc)] → W p l e room_1 s m #[Value.ref sc] below meth c H1 locs1 169 136076 (lw_Z below #[Value.ref sc] s) (F0 m 1786 ls1 [])) : W p l e room_1 s m #[Value.ref sc] below meth c H locs 169 136076 (lw_Z below #[Value.ref sc] s) (F0 m 1258 ls []) := by
  obtain ⟨hx, hb, hml, hown, htl⟩ := id C0
  refine lv_aload_n hx hb dL_law_1258 rfl (lv_at hl 2 rfl) ?_
  refine lv_aload_n hx hb dL_law_1259 rfl (lv_at hl 3 rfl) ?_
  refine lv_iload_n hx hb dL_law_1260 rfl (lv_at hl 0 rfl) ?_
  refine lv_iconst (v := 1) hx hb dL_law_1261 (by decide) ?_
  refine lv_iadd hx hb dL_law_1262 ?_
  refine lv_topi (fun z_1 ez_1 => ?_)
  have T_2 : (z_1 : Int32).toInt = (v : Int32).toInt + 1 := tadd ez_1 (rfl : (v : Int32).toInt = (v : Int32).toInt) (by decide +kernel : (1 : Int32).toInt = 1) (by omega) (by omega)
  refine va_sld hx hb hX hbl hbA hS (xinL (by omega) (by omega)) dL_law_1263 ?_
  refine lv_topi (fun z_3 ez_3 => ?_)
  refine lv_aload_n hx hb dL_law_1264 rfl (lv_at hl 3 rfl) ?_
  refine lv_iload_n hx hb dL_law_1265 rfl (lv_at hl 0 rfl) ?_
  refine lv_iconst (v := 2) hx hb dL_law_1266 (by decide) ?_
  refine lv_iadd hx hb dL_law_1267 ?_
  refine lv_topi (fun z_4 ez_4 => ?_)
  have T_5 : (z_4 : Int32).toInt = (v : Int32).toInt + 2 := tadd ez_4 (rfl : (v : Int32).toInt = (v : Int32).toInt) (by decide +kernel : (2 : Int32).toInt = 2) (by omega) (by omega)
  refine va_sld hx hb hX hbl hbA hS (xinL (by omega) (by omega)) dL_law_1268 ?_
  refine lv_topi (fun z_6 ez_6 => ?_)
  refine lv_aload_n hx hb dL_law_1269 rfl (lv_at hl 3 rfl) ?_
  refine lv_iload_n hx hb dL_law_1270 rfl (lv_at hl 0 rfl) ?_
  refine lv_iconst (v := 3) hx hb dL_law_1271 (by decide) ?_
  refine lv_iadd hx hb dL_law_1272 ?_
  refine lv_topi (fun z_7 ez_7 => ?_)
  have T_8 : (z_7 : Int32).toInt = (v : Int32).toInt + 3 := tadd ez_7 (rfl : (v : Int32).toInt = (v : Int32).toInt) (by decide +kernel : (3 : Int32).toInt = 3) (by omega) (by omega)
  refine va_sld hx hb hX hbl hbA hS (xinL (by omega) (by omega)) dL_law_1273 ?_
  refine lv_topi (fun z_9 ez_9 => ?_)
  refine lv_if_eq (tgt := 1281) hx hb dL_law_1274 (by decide) (fun c_10 => ?_) (fun c_10 => ?_)
  · refine lv_iconst (v := 0) hx hb dL_law_1281 (by decide) ?_
    refine yVwi (As := [.int z_3, .int z_6, .int 0]) (rest := []) C0 (g_X8_minute l G S d q0 z_3 z_6 0 hSh hPo hm_q0 hk_q0 (Or.inl rfl)) ok_X8_minute (mW688 : Cond.methodLink RL 124 yX8_minute ∈ wsT) ⟨Nat.le_of_ble_eq_true rfl, Nat.le_of_ble_eq_true rfl⟩ hP hD hS hA hK hN hm_q0 hk_q0 (by decide) rfl rfl rfl hl.1 rfl (Nat.le_of_ble_eq_true rfl) ⟨Nat.le_of_ble_eq_true rfl, Nat.le_of_ble_eq_true rfl⟩ dL_law_1282 (fun r_11 d_12 H locs hr_11 hP hD hS => ?_)
    obtain ⟨hgad_12, hpad_12, hxd_12⟩ := hr_11
    have hPod_12 : yPo S d_12 := hpad_12 hPo
    have hId_12 : yMI S d_12 m0 := yMI.ag hI hSh hm_m0 hk_m0 hgad_12 (yK.ag (F := []) yK.rf hgad_12 (by rw [hk_m0]; decide)) (by decide) (by decide)
    refine lv_pop hx hb dL_law_1285 rfl ?_
    refine lv_aload_n hx hb dL_law_1286 rfl (lv_at hl 1 rfl) ?_
    refine lv_aload_n hx hb dL_law_1287 rfl (lv_at hl 3 rfl) ?_
    refine lv_iload_n hx hb dL_law_1288 rfl (lv_at hl 0 rfl) ?_
    refine lv_iconst (v := 1) hx hb dL_law_1289 (by decide) ?_
    refine lv_iadd hx hb dL_law_1290 ?_
    rw [← ez_1]
    have F_13 := feq (rfl : (z_9 : Int32).toInt = (z_9 : Int32).toInt) (by decide +kernel : (0 : Int32).toInt = 0) c_10
    refine va_sld hx hb hX hbl hbA hS (xinL (by omega) (by omega)) dL_law_1291 ?_
    rw [← ez_3]
    refine lv_aload_n hx hb dL_law_1292 rfl (lv_at hl 3 rfl) ?_
    refine lv_iload_n hx hb dL_law_1293 rfl (lv_at hl 0 rfl) ?_
    refine lv_iconst (v := 2) hx hb dL_law_1294 (by decide) ?_
    refine lv_iadd hx hb dL_law_1295 ?_
    rw [← ez_4]
    refine va_sld hx hb hX hbl hbA hS (xinL (by omega) (by omega)) dL_law_1296 ?_
    rw [← ez_6]
    refine lv_aload_n hx hb dL_law_1297 rfl (lv_at hl 3 rfl) ?_
    refine lv_iload_n hx hb dL_law_1298 rfl (lv_at hl 0 rfl) ?_
    refine lv_iconst (v := 3) hx hb dL_law_1299 (by decide) ?_
    refine lv_iadd hx hb dL_law_1300 ?_
    rw [← ez_7]
    refine va_sld hx hb hX hbl hbA hS (xinL (by omega) (by omega)) dL_law_1301 ?_
    rw [← ez_9]
    refine lv_if_eq (tgt := 1309) hx hb dL_law_1302 (by decide) (fun c_14 => ?_) (fun c_14 => absurd c_10 c_14)
    refine lv_iconst (v := 0) hx hb dL_law_1309 (by decide) ?_
    refine yVwi (As := [.int z_3, .int z_6, .int 0]) (rest := []) C0 (g_X9_minute l G S d_12 m0 z_3 z_6 0 hSh hPod_12 hm_m0 hk_m0 hId_12 (Or.inl rfl)) ok_X9_minute (mW852 : Cond.methodLink RL 128 yX9_minute ∈ wsT) ⟨Nat.le_of_ble_eq_true rfl, Nat.le_of_ble_eq_true rfl⟩ hP hD hS hA hK hN hm_m0 hk_m0 (by decide) rfl rfl rfl hl.1 rfl (Nat.le_of_ble_eq_true rfl) ⟨Nat.le_of_ble_eq_true rfl, Nat.le_of_ble_eq_true rfl⟩ dL_law_1310 (fun r_15 d_16 H locs hr_15 hP hD hS => ?_)
    obtain ⟨hgad_16, hpad_16, hfad_16, hxd_16⟩ := hr_15
    have hPod_16 : yPo S d_16 := hpad_16 hPod_12
    have hId_16 : yMI S d_16 m0 := hxd_16
    refine lv_pop hx hb dL_law_1313 rfl ?_
    refine lv_goto (tgt := 1786) hx hb dL_law_1314 (by decide) ?_
    exact kk d_16 _ _ ls hP hD hS hPod_16 hId_16 (zR4.gen hR hSh hm_q0 hk_q0 hm_m0 hk_m0 hnk hgad_12 (by decide) (by decide) hxd_12 hgad_16 (by decide) (by decide) hfad_16 (by decide)) (lv_sub hl [0, 1, 2, 3] rfl)
  · refine lv_iconst (v := 1) hx hb dL_law_1277 (by decide) ?_
    refine lv_goto (tgt := 1282) hx hb dL_law_1278 (by decide) ?_
    refine yVwi (As := [.int z_3, .int z_6, .int 1]) (rest := []) C0 (g_X8_minute l G S d q0 z_3 z_6 1 hSh hPo hm_q0 hk_q0 (Or.inr rfl)) ok_X8_minute (mW688 : Cond.methodLink RL 124 yX8_minute ∈ wsT) ⟨Nat.le_of_ble_eq_true rfl, Nat.le_of_ble_eq_true rfl⟩ hP hD hS hA hK hN hm_q0 hk_q0 (by decide) rfl rfl rfl hl.1 rfl (Nat.le_of_ble_eq_true rfl) ⟨Nat.le_of_ble_eq_true rfl, Nat.le_of_ble_eq_true rfl⟩ dL_law_1282 (fun r_17 d_18 H locs hr_17 hP hD hS => ?_)
    obtain ⟨hgad_18, hpad_18, hxd_18⟩ := hr_17
    have hPod_18 : yPo S d_18 := hpad_18 hPo
    have hId_18 : yMI S d_18 m0 := yMI.ag hI hSh hm_m0 hk_m0 hgad_18 (yK.ag (F := []) yK.rf hgad_18 (by rw [hk_m0]; decide)) (by decide) (by decide)
    refine lv_pop hx hb dL_law_1285 rfl ?_
    refine lv_aload_n hx hb dL_law_1286 rfl (lv_at hl 1 rfl) ?_
    refine lv_aload_n hx hb dL_law_1287 rfl (lv_at hl 3 rfl) ?_
    refine lv_iload_n hx hb dL_law_1288 rfl (lv_at hl 0 rfl) ?_
    refine lv_iconst (v := 1) hx hb dL_law_1289 (by decide) ?_
    refine lv_iadd hx hb dL_law_1290 ?_
    rw [← ez_1]
    have F_19 := fne (rfl : (z_9 : Int32).toInt = (z_9 : Int32).toInt) (by decide +kernel : (0 : Int32).toInt = 0) c_10
    refine va_sld hx hb hX hbl hbA hS (xinL (by omega) (by omega)) dL_law_1291 ?_
    rw [← ez_3]
    refine lv_aload_n hx hb dL_law_1292 rfl (lv_at hl 3 rfl) ?_
    refine lv_iload_n hx hb dL_law_1293 rfl (lv_at hl 0 rfl) ?_
    refine lv_iconst (v := 2) hx hb dL_law_1294 (by decide) ?_
    refine lv_iadd hx hb dL_law_1295 ?_
    rw [← ez_4]
    refine va_sld hx hb hX hbl hbA hS (xinL (by omega) (by omega)) dL_law_1296 ?_
    rw [← ez_6]
    refine lv_aload_n hx hb dL_law_1297 rfl (lv_at hl 3 rfl) ?_
    refine lv_iload_n hx hb dL_law_1298 rfl (lv_at hl 0 rfl) ?_
    refine lv_iconst (v := 3) hx hb dL_law_1299 (by decide) ?_
    refine lv_iadd hx hb dL_law_1300 ?_
    rw [← ez_7]
    refine va_sld hx hb hX hbl hbA hS (xinL (by omega) (by omega)) dL_law_1301 ?_
    rw [← ez_9]
    refine lv_if_eq (tgt := 1309) hx hb dL_law_1302 (by decide) (fun c_20 => absurd c_20 c_10) (fun c_20 => ?_)
    refine lv_iconst (v := 1) hx hb dL_law_1305 (by decide) ?_
    refine lv_goto (tgt := 1310) hx hb dL_law_1306 (by decide) ?_
    refine yVwi (As := [.int z_3, .int z_6, .int 1]) (rest := []) C0 (g_X9_minute l G S d_18 m0 z_3 z_6 1 hSh hPod_18 hm_m0 hk_m0 hId_18 (Or.inr rfl)) ok_X9_minute (mW852 : Cond.methodLink RL 128 yX9_minute ∈ wsT) ⟨Nat.le_of_ble_eq_true rfl, Nat.le_of_ble_eq_true rfl⟩ hP hD hS hA hK hN hm_m0 hk_m0 (by decide) rfl rfl rfl hl.1 rfl (Nat.le_of_ble_eq_true rfl) ⟨Nat.le_of_ble_eq_true rfl, Nat.le_of_ble_eq_true rfl⟩ dL_law_1310 (fun r_21 d_22 H locs hr_21 hP hD hS => ?_)
    obtain ⟨hgad_22, hpad_22, hfad_22, hxd_22⟩ := hr_21
    have hPod_22 : yPo S d_22 := hpad_22 hPod_18
    have hId_22 : yMI S d_22 m0 := hxd_22
    refine lv_pop hx hb dL_law_1313 rfl ?_
    refine lv_goto (tgt := 1786) hx hb dL_law_1314 (by decide) ?_
    exact kk d_22 _ _ ls hP hD hS hPod_22 hId_22 (zR4.gen hR hSh hm_q0 hk_q0 hm_m0 hk_m0 hnk hgad_18 (by decide) (by decide) hxd_18 hgad_22 (by decide) (by decide) hfad_22 (by decide)) (lv_sub hl [0, 1, 2, 3] rfl)
theorem dL_law_1317 : decode cL_law 1317 = .ok (.aload_n 1, 1) := by decide +kernel
theorem dL_law_1318 : decode cL_law 1318 = .ok (.aload_n 0, 1) := by decide +kernel
theorem dL_law_1319 : decode cL_law 1319 = .ok (.iload_n 3, 1) := by decide +kernel
theorem dL_law_1320 : decode cL_law 1320 = .ok (.iconst 1, 1) := by decide +kernel
theorem dL_law_1321 : decode cL_law 1321 = .ok (.iadd, 1) := by decide +kernel
theorem dL_law_1322 : decode cL_law 1322 = .ok (.iaload, 1) := by decide +kernel
theorem dL_law_1323 : decode cL_law 1323 = .ok (.aload_n 0, 1) := by decide +kernel
theorem dL_law_1324 : decode cL_law 1324 = .ok (.iload_n 3, 1) := by decide +kernel
theorem dL_law_1325 : decode cL_law 1325 = .ok (.iconst 2, 1) := by decide +kernel
theorem dL_law_1326 : decode cL_law 1326 = .ok (.iadd, 1) := by decide +kernel
theorem dL_law_1327 : decode cL_law 1327 = .ok (.iaload, 1) := by decide +kernel
theorem dL_law_1328 : decode cL_law 1328 = .ok (.aload_n 0, 1) := by decide +kernel
theorem dL_law_1329 : decode cL_law 1329 = .ok (.iload_n 3, 1) := by decide +kernel
theorem dL_law_1330 : decode cL_law 1330 = .ok (.iconst 3, 1) := by decide +kernel
theorem dL_law_1331 : decode cL_law 1331 = .ok (.iadd, 1) := by decide +kernel
theorem dL_law_1332 : decode cL_law 1332 = .ok (.iaload, 1) := by decide +kernel
theorem dL_law_1333 : decode cL_law 1333 = .ok (.ifCond .eq 7, 3) := by decide +kernel
theorem dL_law_1336 : decode cL_law 1336 = .ok (.iconst 1, 1) := by decide +kernel
theorem dL_law_1337 : decode cL_law 1337 = .ok (.goto 4, 3) := by decide +kernel
theorem dL_law_1340 : decode cL_law 1340 = .ok (.iconst 0, 1) := by decide +kernel
theorem dL_law_1341 : decode cL_law 1341 = .ok (.invokevirtual 129, 3) := by decide +kernel
theorem dL_law_1344 : decode cL_law 1344 = .ok (.pop, 1) := by decide +kernel
theorem dL_law_1345 : decode cL_law 1345 = .ok (.aload_n 2, 1) := by decide +kernel
theorem dL_law_1346 : decode cL_law 1346 = .ok (.aload_n 0, 1) := by decide +kernel
theorem dL_law_1347 : decode cL_law 1347 = .ok (.iload_n 3, 1) := by decide +kernel
theorem dL_law_1348 : decode cL_law 1348 = .ok (.iconst 1, 1) := by decide +kernel
theorem dL_law_1349 : decode cL_law 1349 = .ok (.iadd, 1) := by decide +kernel
theorem dL_law_1350 : decode cL_law 1350 = .ok (.iaload, 1) := by decide +kernel
theorem dL_law_1351 : decode cL_law 1351 = .ok (.aload_n 0, 1) := by decide +kernel
theorem dL_law_1352 : decode cL_law 1352 = .ok (.iload_n 3, 1) := by decide +kernel
theorem dL_law_1353 : decode cL_law 1353 = .ok (.iconst 2, 1) := by decide +kernel
theorem dL_law_1354 : decode cL_law 1354 = .ok (.iadd, 1) := by decide +kernel
theorem dL_law_1355 : decode cL_law 1355 = .ok (.iaload, 1) := by decide +kernel
theorem dL_law_1356 : decode cL_law 1356 = .ok (.aload_n 0, 1) := by decide +kernel
theorem dL_law_1357 : decode cL_law 1357 = .ok (.iload_n 3, 1) := by decide +kernel
theorem dL_law_1358 : decode cL_law 1358 = .ok (.iconst 3, 1) := by decide +kernel
theorem dL_law_1359 : decode cL_law 1359 = .ok (.iadd, 1) := by decide +kernel
theorem dL_law_1360 : decode cL_law 1360 = .ok (.iaload, 1) := by decide +kernel
theorem dL_law_1361 : decode cL_law 1361 = .ok (.ifCond .eq 7, 3) := by decide +kernel
theorem dL_law_1364 : decode cL_law 1364 = .ok (.iconst 1, 1) := by decide +kernel
theorem dL_law_1365 : decode cL_law 1365 = .ok (.goto 4, 3) := by decide +kernel
theorem dL_law_1368 : decode cL_law 1368 = .ok (.iconst 0, 1) := by decide +kernel
theorem dL_law_1369 : decode cL_law 1369 = .ok (.invokevirtual 132, 3) := by decide +kernel
theorem dL_law_1372 : decode cL_law 1372 = .ok (.pop, 1) := by decide +kernel
theorem dL_law_1373 : decode cL_law 1373 = .ok (.goto 413, 3) := by decide +kernel
set_option maxHeartbeats 4000000 in
set_option maxRecDepth 100000 in
/-- case 25: why -/
theorem law_25 {p : Program} {l : Launch} {e : Env} {s : State} {m : MethodId} {below : List Frame} {meth : Method} {c : Code} {G : xG} {sc L : Nat} {xs : Nat → Int32} {A : Nat → Prop} {S : yS} {q0 m0 : Nat} (C0 : CallFix p m c code 4 s #[Value.ref sc] wsT RL) (hr : meth.sig.returnType = ret) (hlocks : meth.locks = false) (hK : va_K G.1 xcl (xty G) s) (hN : xN s) (hX : va_X sc L xs s s.heap) (hbl : sc < s.heap.size) (hbA : ¬ A sc) (hA : ∀ q : Nat, s.heap.size ≤ q → A q) (hA2 : ∀ q, A q → s.heap.size ≤ q) (hL : L ≤ 3584) (hSh : ySh S) (hm_q0 : q0 ∈ S.1) (hk_q0 : S.2.1 q0 = 8) (hm_m0 : m0 ∈ S.1) (hk_m0 : S.2.1 m0 = 9) (hnk : S.2.2.1 q0 0 ≠ S.2.2.1 q0 1) {d : yD} {v : Int32} (hv0 : 0 ≤ v.toInt) (hv1 : v.toInt + 7 ≤ (L : Int)) (hPo : yPo S d) (hI : yMI S d m0) (hR : zR4 S d q0 m0) {H : Heap} {locs : List Loc} {ls : Array Slot} (hP : va_P G.1 xcl (yW G S d) H) (hD : va_D A (yW G S d)) (hS : va_S A s.heap H locs) (hl : lv_has ls 4 [(3, .int v), (2, .ref m0), (1, .ref q0), (0, .ref sc)]) (kk : ∀ (u : yD) (H1 : Heap) (locs1 : List Loc) (ls1 : Array Slot), va_P G.1 xcl (yW G S u) H1 → va_D A (yW G S u) → va_S A s.heap H1 locs1 → yPo S u → yMI S u m0 → zR4 S u q0 m0 → lv_has ls1 4 [(3, .int v), (2, .ref m0), (1, .ref q0), (0, .ref sc)] → W p l e room_1 s m #[Value.ref sc] below meth c H1 locs1 169 136076 (lw_Z below #[Value.ref sc] s) (F0 m 1786 ls1 [])) : W p l e room_1 s m #[Value.ref sc] below meth c H locs 169 136076 (lw_Z below #[Value.ref sc] s) (F0 m 1317 ls []) := by
  obtain ⟨hx, hb, hml, hown, htl⟩ := id C0
  refine lv_aload_n hx hb dL_law_1317 rfl (lv_at hl 2 rfl) ?_
  refine lv_aload_n hx hb dL_law_1318 rfl (lv_at hl 3 rfl) ?_
  refine lv_iload_n hx hb dL_law_1319 rfl (lv_at hl 0 rfl) ?_
  refine lv_iconst (v := 1) hx hb dL_law_1320 (by decide) ?_
  refine lv_iadd hx hb dL_law_1321 ?_
  refine lv_topi (fun z_1 ez_1 => ?_)
  have T_2 : (z_1 : Int32).toInt = (v : Int32).toInt + 1 := tadd ez_1 (rfl : (v : Int32).toInt = (v : Int32).toInt) (by decide +kernel : (1 : Int32).toInt = 1) (by omega) (by omega)
  refine va_sld hx hb hX hbl hbA hS (xinL (by omega) (by omega)) dL_law_1322 ?_
  refine lv_topi (fun z_3 ez_3 => ?_)
  refine lv_aload_n hx hb dL_law_1323 rfl (lv_at hl 3 rfl) ?_
  refine lv_iload_n hx hb dL_law_1324 rfl (lv_at hl 0 rfl) ?_
  refine lv_iconst (v := 2) hx hb dL_law_1325 (by decide) ?_
  refine lv_iadd hx hb dL_law_1326 ?_
  refine lv_topi (fun z_4 ez_4 => ?_)
  have T_5 : (z_4 : Int32).toInt = (v : Int32).toInt + 2 := tadd ez_4 (rfl : (v : Int32).toInt = (v : Int32).toInt) (by decide +kernel : (2 : Int32).toInt = 2) (by omega) (by omega)
  refine va_sld hx hb hX hbl hbA hS (xinL (by omega) (by omega)) dL_law_1327 ?_
  refine lv_topi (fun z_6 ez_6 => ?_)
  refine lv_aload_n hx hb dL_law_1328 rfl (lv_at hl 3 rfl) ?_
  refine lv_iload_n hx hb dL_law_1329 rfl (lv_at hl 0 rfl) ?_
  refine lv_iconst (v := 3) hx hb dL_law_1330 (by decide) ?_
  refine lv_iadd hx hb dL_law_1331 ?_
  refine lv_topi (fun z_7 ez_7 => ?_)
  have T_8 : (z_7 : Int32).toInt = (v : Int32).toInt + 3 := tadd ez_7 (rfl : (v : Int32).toInt = (v : Int32).toInt) (by decide +kernel : (3 : Int32).toInt = 3) (by omega) (by omega)
  refine va_sld hx hb hX hbl hbA hS (xinL (by omega) (by omega)) dL_law_1332 ?_
  refine lv_topi (fun z_9 ez_9 => ?_)
  refine lv_if_eq (tgt := 1340) hx hb dL_law_1333 (by decide) (fun c_10 => ?_) (fun c_10 => ?_)
  · refine lv_iconst (v := 0) hx hb dL_law_1340 (by decide) ?_
    refine yVwi (As := [.int z_3, .int z_6, .int 0]) (rest := []) C0 (g_X8_why l G S d q0 z_3 z_6 0 hSh hPo hm_q0 hk_q0 (Or.inl rfl)) ok_X8_why (mW905 : Cond.methodLink RL 129 yX8_why ∈ wsT) ⟨Nat.le_of_ble_eq_true rfl, Nat.le_of_ble_eq_true rfl⟩ hP hD hS hA hK hN hm_q0 hk_q0 (by decide) rfl rfl rfl hl.1 rfl (Nat.le_of_ble_eq_true rfl) ⟨Nat.le_of_ble_eq_true rfl, Nat.le_of_ble_eq_true rfl⟩ dL_law_1341 (fun r_11 d_12 H locs hr_11 hP hD hS => ?_)
    obtain ⟨hgad_12, hpad_12, hxd_12⟩ := hr_11
    have hPod_12 : yPo S d_12 := hpad_12 hPo
    have hId_12 : yMI S d_12 m0 := yMI.ag hI hSh hm_m0 hk_m0 hgad_12 (yK.ag (F := []) yK.rf hgad_12 (by rw [hk_m0]; decide)) (by decide) (by decide)
    refine lv_pop hx hb dL_law_1344 rfl ?_
    refine lv_aload_n hx hb dL_law_1345 rfl (lv_at hl 1 rfl) ?_
    refine lv_aload_n hx hb dL_law_1346 rfl (lv_at hl 3 rfl) ?_
    refine lv_iload_n hx hb dL_law_1347 rfl (lv_at hl 0 rfl) ?_
    refine lv_iconst (v := 1) hx hb dL_law_1348 (by decide) ?_
    refine lv_iadd hx hb dL_law_1349 ?_
    rw [← ez_1]
    have F_13 := feq (rfl : (z_9 : Int32).toInt = (z_9 : Int32).toInt) (by decide +kernel : (0 : Int32).toInt = 0) c_10
    refine va_sld hx hb hX hbl hbA hS (xinL (by omega) (by omega)) dL_law_1350 ?_
    rw [← ez_3]
    refine lv_aload_n hx hb dL_law_1351 rfl (lv_at hl 3 rfl) ?_
    refine lv_iload_n hx hb dL_law_1352 rfl (lv_at hl 0 rfl) ?_
    refine lv_iconst (v := 2) hx hb dL_law_1353 (by decide) ?_
    refine lv_iadd hx hb dL_law_1354 ?_
    rw [← ez_4]
    refine va_sld hx hb hX hbl hbA hS (xinL (by omega) (by omega)) dL_law_1355 ?_
    rw [← ez_6]
    refine lv_aload_n hx hb dL_law_1356 rfl (lv_at hl 3 rfl) ?_
    refine lv_iload_n hx hb dL_law_1357 rfl (lv_at hl 0 rfl) ?_
    refine lv_iconst (v := 3) hx hb dL_law_1358 (by decide) ?_
    refine lv_iadd hx hb dL_law_1359 ?_
    rw [← ez_7]
    refine va_sld hx hb hX hbl hbA hS (xinL (by omega) (by omega)) dL_law_1360 ?_
    rw [← ez_9]
    refine lv_if_eq (tgt := 1368) hx hb dL_law_1361 (by decide) (fun c_14 => ?_) (fun c_14 => absurd c_10 c_14)
    refine lv_iconst (v := 0) hx hb dL_law_1368 (by decide) ?_
    refine yVwi (As := [.int z_3, .int z_6, .int 0]) (rest := []) C0 (g_X9_why l G S d_12 m0 z_3 z_6 0 hSh hPod_12 hm_m0 hk_m0 hId_12 (Or.inl rfl)) ok_X9_why (mW909 : Cond.methodLink RL 132 yX9_why ∈ wsT) ⟨Nat.le_of_ble_eq_true rfl, Nat.le_of_ble_eq_true rfl⟩ hP hD hS hA hK hN hm_m0 hk_m0 (by decide) rfl rfl rfl hl.1 rfl (Nat.le_of_ble_eq_true rfl) ⟨Nat.le_of_ble_eq_true rfl, Nat.le_of_ble_eq_true rfl⟩ dL_law_1369 (fun r_15 d_16 H locs hr_15 hP hD hS => ?_)
    obtain ⟨hgad_16, hpad_16, hfad_16, hxd_16⟩ := hr_15
    have hPod_16 : yPo S d_16 := hpad_16 hPod_12
    have hId_16 : yMI S d_16 m0 := hxd_16
    refine lv_pop hx hb dL_law_1372 rfl ?_
    refine lv_goto (tgt := 1786) hx hb dL_law_1373 (by decide) ?_
    exact kk d_16 _ _ ls hP hD hS hPod_16 hId_16 (zR4.gen hR hSh hm_q0 hk_q0 hm_m0 hk_m0 hnk hgad_12 (by decide) (by decide) hxd_12 hgad_16 (by decide) (by decide) hfad_16 (by decide)) (lv_sub hl [0, 1, 2, 3] rfl)
  · refine lv_iconst (v := 1) hx hb dL_law_1336 (by decide) ?_
    refine lv_goto (tgt := 1341) hx hb dL_law_1337 (by decide) ?_
    refine yVwi (As := [.int z_3, .int z_6, .int 1]) (rest := []) C0 (g_X8_why l G S d q0 z_3 z_6 1 hSh hPo hm_q0 hk_q0 (Or.inr rfl)) ok_X8_why (mW905 : Cond.methodLink RL 129 yX8_why ∈ wsT) ⟨Nat.le_of_ble_eq_true rfl, Nat.le_of_ble_eq_true rfl⟩ hP hD hS hA hK hN hm_q0 hk_q0 (by decide) rfl rfl rfl hl.1 rfl (Nat.le_of_ble_eq_true rfl) ⟨Nat.le_of_ble_eq_true rfl, Nat.le_of_ble_eq_true rfl⟩ dL_law_1341 (fun r_17 d_18 H locs hr_17 hP hD hS => ?_)
    obtain ⟨hgad_18, hpad_18, hxd_18⟩ := hr_17
    have hPod_18 : yPo S d_18 := hpad_18 hPo
    have hId_18 : yMI S d_18 m0 := yMI.ag hI hSh hm_m0 hk_m0 hgad_18 (yK.ag (F := []) yK.rf hgad_18 (by rw [hk_m0]; decide)) (by decide) (by decide)
    refine lv_pop hx hb dL_law_1344 rfl ?_
    refine lv_aload_n hx hb dL_law_1345 rfl (lv_at hl 1 rfl) ?_
    refine lv_aload_n hx hb dL_law_1346 rfl (lv_at hl 3 rfl) ?_
    refine lv_iload_n hx hb dL_law_1347 rfl (lv_at hl 0 rfl) ?_
    refine lv_iconst (v := 1) hx hb dL_law_1348 (by decide) ?_
    refine lv_iadd hx hb dL_law_1349 ?_
    rw [← ez_1]
    have F_19 := fne (rfl : (z_9 : Int32).toInt = (z_9 : Int32).toInt) (by decide +kernel : (0 : Int32).toInt = 0) c_10
    refine va_sld hx hb hX hbl hbA hS (xinL (by omega) (by omega)) dL_law_1350 ?_
    rw [← ez_3]
    refine lv_aload_n hx hb dL_law_1351 rfl (lv_at hl 3 rfl) ?_
    refine lv_iload_n hx hb dL_law_1352 rfl (lv_at hl 0 rfl) ?_
    refine lv_iconst (v := 2) hx hb dL_law_1353 (by decide) ?_
    refine lv_iadd hx hb dL_law_1354 ?_
    rw [← ez_4]
    refine va_sld hx hb hX hbl hbA hS (xinL (by omega) (by omega)) dL_law_1355 ?_
    rw [← ez_6]
    refine lv_aload_n hx hb dL_law_1356 rfl (lv_at hl 3 rfl) ?_
    refine lv_iload_n hx hb dL_law_1357 rfl (lv_at hl 0 rfl) ?_
    refine lv_iconst (v := 3) hx hb dL_law_1358 (by decide) ?_
    refine lv_iadd hx hb dL_law_1359 ?_
    rw [← ez_7]
    refine va_sld hx hb hX hbl hbA hS (xinL (by omega) (by omega)) dL_law_1360 ?_
    rw [← ez_9]
    refine lv_if_eq (tgt := 1368) hx hb dL_law_1361 (by decide) (fun c_20 => absurd c_20 c_10) (fun c_20 => ?_)
    refine lv_iconst (v := 1) hx hb dL_law_1364 (by decide) ?_
    refine lv_goto (tgt := 1369) hx hb dL_law_1365 (by decide) ?_
    refine yVwi (As := [.int z_3, .int z_6, .int 1]) (rest := []) C0 (g_X9_why l G S d_18 m0 z_3 z_6 1 hSh hPod_18 hm_m0 hk_m0 hId_18 (Or.inr rfl)) ok_X9_why (mW909 : Cond.methodLink RL 132 yX9_why ∈ wsT) ⟨Nat.le_of_ble_eq_true rfl, Nat.le_of_ble_eq_true rfl⟩ hP hD hS hA hK hN hm_m0 hk_m0 (by decide) rfl rfl rfl hl.1 rfl (Nat.le_of_ble_eq_true rfl) ⟨Nat.le_of_ble_eq_true rfl, Nat.le_of_ble_eq_true rfl⟩ dL_law_1369 (fun r_21 d_22 H locs hr_21 hP hD hS => ?_)
    obtain ⟨hgad_22, hpad_22, hfad_22, hxd_22⟩ := hr_21
    have hPod_22 : yPo S d_22 := hpad_22 hPod_18
    have hId_22 : yMI S d_22 m0 := hxd_22
    refine lv_pop hx hb dL_law_1372 rfl ?_
    refine lv_goto (tgt := 1786) hx hb dL_law_1373 (by decide) ?_
    exact kk d_22 _ _ ls hP hD hS hPod_22 hId_22 (zR4.gen hR hSh hm_q0 hk_q0 hm_m0 hk_m0 hnk hgad_18 (by decide) (by decide) hxd_18 hgad_22 (by decide) (by decide) hfad_22 (by decide)) (lv_sub hl [0, 1, 2, 3] rfl)
theorem dL_law_1376 : decode cL_law 1376 = .ok (.aload_n 1, 1) := by decide +kernel
theorem dL_law_1377 : decode cL_law 1377 = .ok (.aload_n 0, 1) := by decide +kernel
theorem dL_law_1378 : decode cL_law 1378 = .ok (.iload_n 3, 1) := by decide +kernel
theorem dL_law_1379 : decode cL_law 1379 = .ok (.iconst 1, 1) := by decide +kernel
theorem dL_law_1380 : decode cL_law 1380 = .ok (.iadd, 1) := by decide +kernel
theorem dL_law_1381 : decode cL_law 1381 = .ok (.iaload, 1) := by decide +kernel
theorem dL_law_1382 : decode cL_law 1382 = .ok (.aload_n 0, 1) := by decide +kernel
theorem dL_law_1383 : decode cL_law 1383 = .ok (.iload_n 3, 1) := by decide +kernel
theorem dL_law_1384 : decode cL_law 1384 = .ok (.iconst 2, 1) := by decide +kernel
theorem dL_law_1385 : decode cL_law 1385 = .ok (.iadd, 1) := by decide +kernel
theorem dL_law_1386 : decode cL_law 1386 = .ok (.iaload, 1) := by decide +kernel
theorem dL_law_1387 : decode cL_law 1387 = .ok (.aload_n 0, 1) := by decide +kernel
theorem dL_law_1388 : decode cL_law 1388 = .ok (.iload_n 3, 1) := by decide +kernel
theorem dL_law_1389 : decode cL_law 1389 = .ok (.iconst 3, 1) := by decide +kernel
theorem dL_law_1390 : decode cL_law 1390 = .ok (.iadd, 1) := by decide +kernel
theorem dL_law_1391 : decode cL_law 1391 = .ok (.iaload, 1) := by decide +kernel
theorem dL_law_1392 : decode cL_law 1392 = .ok (.aload_n 0, 1) := by decide +kernel
theorem dL_law_1393 : decode cL_law 1393 = .ok (.iload_n 3, 1) := by decide +kernel
theorem dL_law_1394 : decode cL_law 1394 = .ok (.iconst 4, 1) := by decide +kernel
theorem dL_law_1395 : decode cL_law 1395 = .ok (.iadd, 1) := by decide +kernel
theorem dL_law_1396 : decode cL_law 1396 = .ok (.iaload, 1) := by decide +kernel
theorem dL_law_1397 : decode cL_law 1397 = .ok (.ifCond .eq 7, 3) := by decide +kernel
theorem dL_law_1400 : decode cL_law 1400 = .ok (.iconst 1, 1) := by decide +kernel
theorem dL_law_1401 : decode cL_law 1401 = .ok (.goto 4, 3) := by decide +kernel
theorem dL_law_1404 : decode cL_law 1404 = .ok (.iconst 0, 1) := by decide +kernel
theorem dL_law_1405 : decode cL_law 1405 = .ok (.invokevirtual 133, 3) := by decide +kernel
theorem dL_law_1408 : decode cL_law 1408 = .ok (.pop, 1) := by decide +kernel
theorem dL_law_1409 : decode cL_law 1409 = .ok (.aload_n 2, 1) := by decide +kernel
theorem dL_law_1410 : decode cL_law 1410 = .ok (.aload_n 0, 1) := by decide +kernel
theorem dL_law_1411 : decode cL_law 1411 = .ok (.iload_n 3, 1) := by decide +kernel
theorem dL_law_1412 : decode cL_law 1412 = .ok (.iconst 1, 1) := by decide +kernel
theorem dL_law_1413 : decode cL_law 1413 = .ok (.iadd, 1) := by decide +kernel
theorem dL_law_1414 : decode cL_law 1414 = .ok (.iaload, 1) := by decide +kernel
theorem dL_law_1415 : decode cL_law 1415 = .ok (.aload_n 0, 1) := by decide +kernel
theorem dL_law_1416 : decode cL_law 1416 = .ok (.iload_n 3, 1) := by decide +kernel
theorem dL_law_1417 : decode cL_law 1417 = .ok (.iconst 2, 1) := by decide +kernel
theorem dL_law_1418 : decode cL_law 1418 = .ok (.iadd, 1) := by decide +kernel
theorem dL_law_1419 : decode cL_law 1419 = .ok (.iaload, 1) := by decide +kernel
theorem dL_law_1420 : decode cL_law 1420 = .ok (.aload_n 0, 1) := by decide +kernel
theorem dL_law_1421 : decode cL_law 1421 = .ok (.iload_n 3, 1) := by decide +kernel
theorem dL_law_1422 : decode cL_law 1422 = .ok (.iconst 3, 1) := by decide +kernel
theorem dL_law_1423 : decode cL_law 1423 = .ok (.iadd, 1) := by decide +kernel
theorem dL_law_1424 : decode cL_law 1424 = .ok (.iaload, 1) := by decide +kernel
theorem dL_law_1425 : decode cL_law 1425 = .ok (.aload_n 0, 1) := by decide +kernel
theorem dL_law_1426 : decode cL_law 1426 = .ok (.iload_n 3, 1) := by decide +kernel
theorem dL_law_1427 : decode cL_law 1427 = .ok (.iconst 4, 1) := by decide +kernel
theorem dL_law_1428 : decode cL_law 1428 = .ok (.iadd, 1) := by decide +kernel
theorem dL_law_1429 : decode cL_law 1429 = .ok (.iaload, 1) := by decide +kernel
theorem dL_law_1430 : decode cL_law 1430 = .ok (.ifCond .eq 7, 3) := by decide +kernel
theorem dL_law_1433 : decode cL_law 1433 = .ok (.iconst 1, 1) := by decide +kernel
theorem dL_law_1434 : decode cL_law 1434 = .ok (.goto 4, 3) := by decide +kernel
theorem dL_law_1437 : decode cL_law 1437 = .ok (.iconst 0, 1) := by decide +kernel
theorem dL_law_1438 : decode cL_law 1438 = .ok (.invokevirtual 137, 3) := by decide +kernel
theorem dL_law_1441 : decode cL_law 1441 = .ok (.pop, 1) := by decide +kernel
theorem dL_law_1442 : decode cL_law 1442 = .ok (.goto 344, 3) := by decide +kernel
set_option maxHeartbeats 4000000 in
set_option maxRecDepth 100000 in
/-- case 26: counts -/
theorem law_26 {p : Program} {l : Launch} {e : Env} {s : State} {m : MethodId} {below : List Frame} {meth : Method} {c : Code} {G : xG} {sc L : Nat} {xs : Nat → Int32} {A : Nat → Prop} {S : yS} {q0 m0 : Nat} (C0 : CallFix p m c code 4 s #[Value.ref sc] wsT RL) (hr : meth.sig.returnType = ret) (hlocks : meth.locks = false) (hK : va_K G.1 xcl (xty G) s) (hN : xN s) (hX : va_X sc L xs s s.heap) (hbl : sc < s.heap.size) (hbA : ¬ A sc) (hA : ∀ q : Nat, s.heap.size ≤ q → A q) (hA2 : ∀ q, A q → s.heap.size ≤ q) (hL : L ≤ 3584) (hSh : ySh S) (hm_q0 : q0 ∈ S.1) (hk_q0 : S.2.1 q0 = 8) (hm_m0 : m0 ∈ S.1) (hk_m0 : S.2.1 m0 = 9) (hnk : S.2.2.1 q0 0 ≠ S.2.2.1 q0 1) {d : yD} {v : Int32} (hv0 : 0 ≤ v.toInt) (hv1 : v.toInt + 7 ≤ (L : Int)) (hPo : yPo S d) (hI : yMI S d m0) (hR : zR4 S d q0 m0) {H : Heap} {locs : List Loc} {ls : Array Slot} (hP : va_P G.1 xcl (yW G S d) H) (hD : va_D A (yW G S d)) (hS : va_S A s.heap H locs) (hl : lv_has ls 4 [(3, .int v), (2, .ref m0), (1, .ref q0), (0, .ref sc)]) (kk : ∀ (u : yD) (H1 : Heap) (locs1 : List Loc) (ls1 : Array Slot), va_P G.1 xcl (yW G S u) H1 → va_D A (yW G S u) → va_S A s.heap H1 locs1 → yPo S u → yMI S u m0 → zR4 S u q0 m0 → lv_has ls1 4 [(3, .int v), (2, .ref m0), (1, .ref q0), (0, .ref sc)] → W p l e room_1 s m #[Value.ref sc] below meth c H1 locs1 169 136076 (lw_Z below #[Value.ref sc] s) (F0 m 1786 ls1 [])) : W p l e room_1 s m #[Value.ref sc] below meth c H locs 169 136076 (lw_Z below #[Value.ref sc] s) (F0 m 1376 ls []) := by
  obtain ⟨hx, hb, hml, hown, htl⟩ := id C0
  refine lv_aload_n hx hb dL_law_1376 rfl (lv_at hl 2 rfl) ?_
  refine lv_aload_n hx hb dL_law_1377 rfl (lv_at hl 3 rfl) ?_
  refine lv_iload_n hx hb dL_law_1378 rfl (lv_at hl 0 rfl) ?_
  refine lv_iconst (v := 1) hx hb dL_law_1379 (by decide) ?_
  refine lv_iadd hx hb dL_law_1380 ?_
  refine lv_topi (fun z_1 ez_1 => ?_)
  have T_2 : (z_1 : Int32).toInt = (v : Int32).toInt + 1 := tadd ez_1 (rfl : (v : Int32).toInt = (v : Int32).toInt) (by decide +kernel : (1 : Int32).toInt = 1) (by omega) (by omega)
  refine va_sld hx hb hX hbl hbA hS (xinL (by omega) (by omega)) dL_law_1381 ?_
  refine lv_topi (fun z_3 ez_3 => ?_)
  refine lv_aload_n hx hb dL_law_1382 rfl (lv_at hl 3 rfl) ?_
  refine lv_iload_n hx hb dL_law_1383 rfl (lv_at hl 0 rfl) ?_
  refine lv_iconst (v := 2) hx hb dL_law_1384 (by decide) ?_
  refine lv_iadd hx hb dL_law_1385 ?_
  refine lv_topi (fun z_4 ez_4 => ?_)
  have T_5 : (z_4 : Int32).toInt = (v : Int32).toInt + 2 := tadd ez_4 (rfl : (v : Int32).toInt = (v : Int32).toInt) (by decide +kernel : (2 : Int32).toInt = 2) (by omega) (by omega)
  refine va_sld hx hb hX hbl hbA hS (xinL (by omega) (by omega)) dL_law_1386 ?_
  refine lv_topi (fun z_6 ez_6 => ?_)
  refine lv_aload_n hx hb dL_law_1387 rfl (lv_at hl 3 rfl) ?_
  refine lv_iload_n hx hb dL_law_1388 rfl (lv_at hl 0 rfl) ?_
  refine lv_iconst (v := 3) hx hb dL_law_1389 (by decide) ?_
  refine lv_iadd hx hb dL_law_1390 ?_
  refine lv_topi (fun z_7 ez_7 => ?_)
  have T_8 : (z_7 : Int32).toInt = (v : Int32).toInt + 3 := tadd ez_7 (rfl : (v : Int32).toInt = (v : Int32).toInt) (by decide +kernel : (3 : Int32).toInt = 3) (by omega) (by omega)
  refine va_sld hx hb hX hbl hbA hS (xinL (by omega) (by omega)) dL_law_1391 ?_
  refine lv_topi (fun z_9 ez_9 => ?_)
  refine lv_aload_n hx hb dL_law_1392 rfl (lv_at hl 3 rfl) ?_
  refine lv_iload_n hx hb dL_law_1393 rfl (lv_at hl 0 rfl) ?_
  refine lv_iconst (v := 4) hx hb dL_law_1394 (by decide) ?_
  refine lv_iadd hx hb dL_law_1395 ?_
  refine lv_topi (fun z_10 ez_10 => ?_)
  have T_11 : (z_10 : Int32).toInt = (v : Int32).toInt + 4 := tadd ez_10 (rfl : (v : Int32).toInt = (v : Int32).toInt) (by decide +kernel : (4 : Int32).toInt = 4) (by omega) (by omega)
  refine va_sld hx hb hX hbl hbA hS (xinL (by omega) (by omega)) dL_law_1396 ?_
  refine lv_topi (fun z_12 ez_12 => ?_)
  refine lv_if_eq (tgt := 1404) hx hb dL_law_1397 (by decide) (fun c_13 => ?_) (fun c_13 => ?_)
  · refine lv_iconst (v := 0) hx hb dL_law_1404 (by decide) ?_
    refine yVwi (As := [.int z_3, .int z_6, .int z_9, .int 0]) (rest := []) C0 (g_X8_counts l G S d q0 z_3 z_6 z_9 0 hSh hPo hm_q0 hk_q0 (Or.inl rfl)) ok_X8_counts (mW913 : Cond.methodLink RL 133 yX8_counts ∈ wsT) ⟨Nat.le_of_ble_eq_true rfl, Nat.le_of_ble_eq_true rfl⟩ hP hD hS hA hK hN hm_q0 hk_q0 (by decide) rfl rfl rfl hl.1 rfl (Nat.le_of_ble_eq_true rfl) ⟨Nat.le_of_ble_eq_true rfl, Nat.le_of_ble_eq_true rfl⟩ dL_law_1405 (fun r_14 d_15 H locs hr_14 hP hD hS => ?_)
    obtain ⟨hgad_15, hpad_15, hxd_15⟩ := hr_14
    have hPod_15 : yPo S d_15 := hpad_15 hPo
    have hId_15 : yMI S d_15 m0 := yMI.ag hI hSh hm_m0 hk_m0 hgad_15 (yK.ag (F := []) yK.rf hgad_15 (by rw [hk_m0]; decide)) (by decide) (by decide)
    refine lv_pop hx hb dL_law_1408 rfl ?_
    refine lv_aload_n hx hb dL_law_1409 rfl (lv_at hl 1 rfl) ?_
    refine lv_aload_n hx hb dL_law_1410 rfl (lv_at hl 3 rfl) ?_
    refine lv_iload_n hx hb dL_law_1411 rfl (lv_at hl 0 rfl) ?_
    refine lv_iconst (v := 1) hx hb dL_law_1412 (by decide) ?_
    refine lv_iadd hx hb dL_law_1413 ?_
    rw [← ez_1]
    have F_16 := feq (rfl : (z_12 : Int32).toInt = (z_12 : Int32).toInt) (by decide +kernel : (0 : Int32).toInt = 0) c_13
    refine va_sld hx hb hX hbl hbA hS (xinL (by omega) (by omega)) dL_law_1414 ?_
    rw [← ez_3]
    refine lv_aload_n hx hb dL_law_1415 rfl (lv_at hl 3 rfl) ?_
    refine lv_iload_n hx hb dL_law_1416 rfl (lv_at hl 0 rfl) ?_
    refine lv_iconst (v := 2) hx hb dL_law_1417 (by decide) ?_
    refine lv_iadd hx hb dL_law_1418 ?_
    rw [← ez_4]
    refine va_sld hx hb hX hbl hbA hS (xinL (by omega) (by omega)) dL_law_1419 ?_
    rw [← ez_6]
    refine lv_aload_n hx hb dL_law_1420 rfl (lv_at hl 3 rfl) ?_
    refine lv_iload_n hx hb dL_law_1421 rfl (lv_at hl 0 rfl) ?_
    refine lv_iconst (v := 3) hx hb dL_law_1422 (by decide) ?_
    refine lv_iadd hx hb dL_law_1423 ?_
    rw [← ez_7]
    refine va_sld hx hb hX hbl hbA hS (xinL (by omega) (by omega)) dL_law_1424 ?_
    rw [← ez_9]
    refine lv_aload_n hx hb dL_law_1425 rfl (lv_at hl 3 rfl) ?_
    refine lv_iload_n hx hb dL_law_1426 rfl (lv_at hl 0 rfl) ?_
    refine lv_iconst (v := 4) hx hb dL_law_1427 (by decide) ?_
    refine lv_iadd hx hb dL_law_1428 ?_
    rw [← ez_10]
    refine va_sld hx hb hX hbl hbA hS (xinL (by omega) (by omega)) dL_law_1429 ?_
    rw [← ez_12]
    refine lv_if_eq (tgt := 1437) hx hb dL_law_1430 (by decide) (fun c_17 => ?_) (fun c_17 => absurd c_13 c_17)
    refine lv_iconst (v := 0) hx hb dL_law_1437 (by decide) ?_
    refine yVwi (As := [.int z_3, .int z_6, .int z_9, .int 0]) (rest := []) C0 (g_X9_counts l G S d_15 m0 z_3 z_6 z_9 0 hSh hPod_15 hm_m0 hk_m0 hId_15 (Or.inl rfl)) ok_X9_counts (mW922 : Cond.methodLink RL 137 yX9_counts ∈ wsT) ⟨Nat.le_of_ble_eq_true rfl, Nat.le_of_ble_eq_true rfl⟩ hP hD hS hA hK hN hm_m0 hk_m0 (by decide) rfl rfl rfl hl.1 rfl (Nat.le_of_ble_eq_true rfl) ⟨Nat.le_of_ble_eq_true rfl, Nat.le_of_ble_eq_true rfl⟩ dL_law_1438 (fun r_18 d_19 H locs hr_18 hP hD hS => ?_)
    obtain ⟨hgad_19, hpad_19, hfad_19, hxd_19⟩ := hr_18
    have hPod_19 : yPo S d_19 := hpad_19 hPod_15
    have hId_19 : yMI S d_19 m0 := hxd_19
    refine lv_pop hx hb dL_law_1441 rfl ?_
    refine lv_goto (tgt := 1786) hx hb dL_law_1442 (by decide) ?_
    exact kk d_19 _ _ ls hP hD hS hPod_19 hId_19 (zR4.gen hR hSh hm_q0 hk_q0 hm_m0 hk_m0 hnk hgad_15 (by decide) (by decide) hxd_15 hgad_19 (by decide) (by decide) hfad_19 (by decide)) (lv_sub hl [0, 1, 2, 3] rfl)
  · refine lv_iconst (v := 1) hx hb dL_law_1400 (by decide) ?_
    refine lv_goto (tgt := 1405) hx hb dL_law_1401 (by decide) ?_
    refine yVwi (As := [.int z_3, .int z_6, .int z_9, .int 1]) (rest := []) C0 (g_X8_counts l G S d q0 z_3 z_6 z_9 1 hSh hPo hm_q0 hk_q0 (Or.inr rfl)) ok_X8_counts (mW913 : Cond.methodLink RL 133 yX8_counts ∈ wsT) ⟨Nat.le_of_ble_eq_true rfl, Nat.le_of_ble_eq_true rfl⟩ hP hD hS hA hK hN hm_q0 hk_q0 (by decide) rfl rfl rfl hl.1 rfl (Nat.le_of_ble_eq_true rfl) ⟨Nat.le_of_ble_eq_true rfl, Nat.le_of_ble_eq_true rfl⟩ dL_law_1405 (fun r_20 d_21 H locs hr_20 hP hD hS => ?_)
    obtain ⟨hgad_21, hpad_21, hxd_21⟩ := hr_20
    have hPod_21 : yPo S d_21 := hpad_21 hPo
    have hId_21 : yMI S d_21 m0 := yMI.ag hI hSh hm_m0 hk_m0 hgad_21 (yK.ag (F := []) yK.rf hgad_21 (by rw [hk_m0]; decide)) (by decide) (by decide)
    refine lv_pop hx hb dL_law_1408 rfl ?_
    refine lv_aload_n hx hb dL_law_1409 rfl (lv_at hl 1 rfl) ?_
    refine lv_aload_n hx hb dL_law_1410 rfl (lv_at hl 3 rfl) ?_
    refine lv_iload_n hx hb dL_law_1411 rfl (lv_at hl 0 rfl) ?_
    refine lv_iconst (v := 1) hx hb dL_law_1412 (by decide) ?_
    refine lv_iadd hx hb dL_law_1413 ?_
    rw [← ez_1]
    have F_22 := fne (rfl : (z_12 : Int32).toInt = (z_12 : Int32).toInt) (by decide +kernel : (0 : Int32).toInt = 0) c_13
    refine va_sld hx hb hX hbl hbA hS (xinL (by omega) (by omega)) dL_law_1414 ?_
    rw [← ez_3]
    refine lv_aload_n hx hb dL_law_1415 rfl (lv_at hl 3 rfl) ?_
    refine lv_iload_n hx hb dL_law_1416 rfl (lv_at hl 0 rfl) ?_
    refine lv_iconst (v := 2) hx hb dL_law_1417 (by decide) ?_
    refine lv_iadd hx hb dL_law_1418 ?_
    rw [← ez_4]
    refine va_sld hx hb hX hbl hbA hS (xinL (by omega) (by omega)) dL_law_1419 ?_
    rw [← ez_6]
    refine lv_aload_n hx hb dL_law_1420 rfl (lv_at hl 3 rfl) ?_
    refine lv_iload_n hx hb dL_law_1421 rfl (lv_at hl 0 rfl) ?_
    refine lv_iconst (v := 3) hx hb dL_law_1422 (by decide) ?_
    refine lv_iadd hx hb dL_law_1423 ?_
    rw [← ez_7]
    refine va_sld hx hb hX hbl hbA hS (xinL (by omega) (by omega)) dL_law_1424 ?_
    rw [← ez_9]
    refine lv_aload_n hx hb dL_law_1425 rfl (lv_at hl 3 rfl) ?_
    refine lv_iload_n hx hb dL_law_1426 rfl (lv_at hl 0 rfl) ?_
    refine lv_iconst (v := 4) hx hb dL_law_1427 (by decide) ?_
    refine lv_iadd hx hb dL_law_1428 ?_
    rw [← ez_10]
    refine va_sld hx hb hX hbl hbA hS (xinL (by omega) (by omega)) dL_law_1429 ?_
    rw [← ez_12]
    refine lv_if_eq (tgt := 1437) hx hb dL_law_1430 (by decide) (fun c_23 => absurd c_23 c_13) (fun c_23 => ?_)
    refine lv_iconst (v := 1) hx hb dL_law_1433 (by decide) ?_
    refine lv_goto (tgt := 1438) hx hb dL_law_1434 (by decide) ?_
    refine yVwi (As := [.int z_3, .int z_6, .int z_9, .int 1]) (rest := []) C0 (g_X9_counts l G S d_21 m0 z_3 z_6 z_9 1 hSh hPod_21 hm_m0 hk_m0 hId_21 (Or.inr rfl)) ok_X9_counts (mW922 : Cond.methodLink RL 137 yX9_counts ∈ wsT) ⟨Nat.le_of_ble_eq_true rfl, Nat.le_of_ble_eq_true rfl⟩ hP hD hS hA hK hN hm_m0 hk_m0 (by decide) rfl rfl rfl hl.1 rfl (Nat.le_of_ble_eq_true rfl) ⟨Nat.le_of_ble_eq_true rfl, Nat.le_of_ble_eq_true rfl⟩ dL_law_1438 (fun r_24 d_25 H locs hr_24 hP hD hS => ?_)
    obtain ⟨hgad_25, hpad_25, hfad_25, hxd_25⟩ := hr_24
    have hPod_25 : yPo S d_25 := hpad_25 hPod_21
    have hId_25 : yMI S d_25 m0 := hxd_25
    refine lv_pop hx hb dL_law_1441 rfl ?_
    refine lv_goto (tgt := 1786) hx hb dL_law_1442 (by decide) ?_
    exact kk d_25 _ _ ls hP hD hS hPod_25 hId_25 (zR4.gen hR hSh hm_q0 hk_q0 hm_m0 hk_m0 hnk hgad_21 (by decide) (by decide) hxd_21 hgad_25 (by decide) (by decide) hfad_25 (by decide)) (lv_sub hl [0, 1, 2, 3] rfl)
theorem dL_law_1445 : decode cL_law 1445 = .ok (.aload_n 1, 1) := by decide +kernel
theorem dL_law_1446 : decode cL_law 1446 = .ok (.aload_n 0, 1) := by decide +kernel
theorem dL_law_1447 : decode cL_law 1447 = .ok (.iload_n 3, 1) := by decide +kernel
theorem dL_law_1448 : decode cL_law 1448 = .ok (.iconst 1, 1) := by decide +kernel
theorem dL_law_1449 : decode cL_law 1449 = .ok (.iadd, 1) := by decide +kernel
theorem dL_law_1450 : decode cL_law 1450 = .ok (.iaload, 1) := by decide +kernel
theorem dL_law_1451 : decode cL_law 1451 = .ok (.aload_n 0, 1) := by decide +kernel
theorem dL_law_1452 : decode cL_law 1452 = .ok (.iload_n 3, 1) := by decide +kernel
theorem dL_law_1453 : decode cL_law 1453 = .ok (.iconst 2, 1) := by decide +kernel
theorem dL_law_1454 : decode cL_law 1454 = .ok (.iadd, 1) := by decide +kernel
theorem dL_law_1455 : decode cL_law 1455 = .ok (.iaload, 1) := by decide +kernel
theorem dL_law_1456 : decode cL_law 1456 = .ok (.aload_n 0, 1) := by decide +kernel
theorem dL_law_1457 : decode cL_law 1457 = .ok (.iload_n 3, 1) := by decide +kernel
theorem dL_law_1458 : decode cL_law 1458 = .ok (.iconst 3, 1) := by decide +kernel
theorem dL_law_1459 : decode cL_law 1459 = .ok (.iadd, 1) := by decide +kernel
theorem dL_law_1460 : decode cL_law 1460 = .ok (.iaload, 1) := by decide +kernel
theorem dL_law_1461 : decode cL_law 1461 = .ok (.ifCond .eq 7, 3) := by decide +kernel
theorem dL_law_1464 : decode cL_law 1464 = .ok (.iconst 1, 1) := by decide +kernel
theorem dL_law_1465 : decode cL_law 1465 = .ok (.goto 4, 3) := by decide +kernel
theorem dL_law_1468 : decode cL_law 1468 = .ok (.iconst 0, 1) := by decide +kernel
theorem dL_law_1469 : decode cL_law 1469 = .ok (.invokevirtual 138, 3) := by decide +kernel
theorem dL_law_1472 : decode cL_law 1472 = .ok (.pop, 1) := by decide +kernel
theorem dL_law_1473 : decode cL_law 1473 = .ok (.aload_n 2, 1) := by decide +kernel
theorem dL_law_1474 : decode cL_law 1474 = .ok (.aload_n 0, 1) := by decide +kernel
theorem dL_law_1475 : decode cL_law 1475 = .ok (.iload_n 3, 1) := by decide +kernel
theorem dL_law_1476 : decode cL_law 1476 = .ok (.iconst 1, 1) := by decide +kernel
theorem dL_law_1477 : decode cL_law 1477 = .ok (.iadd, 1) := by decide +kernel
theorem dL_law_1478 : decode cL_law 1478 = .ok (.iaload, 1) := by decide +kernel
theorem dL_law_1479 : decode cL_law 1479 = .ok (.aload_n 0, 1) := by decide +kernel
theorem dL_law_1480 : decode cL_law 1480 = .ok (.iload_n 3, 1) := by decide +kernel
theorem dL_law_1481 : decode cL_law 1481 = .ok (.iconst 2, 1) := by decide +kernel
theorem dL_law_1482 : decode cL_law 1482 = .ok (.iadd, 1) := by decide +kernel
theorem dL_law_1483 : decode cL_law 1483 = .ok (.iaload, 1) := by decide +kernel
theorem dL_law_1484 : decode cL_law 1484 = .ok (.aload_n 0, 1) := by decide +kernel
theorem dL_law_1485 : decode cL_law 1485 = .ok (.iload_n 3, 1) := by decide +kernel
theorem dL_law_1486 : decode cL_law 1486 = .ok (.iconst 3, 1) := by decide +kernel
theorem dL_law_1487 : decode cL_law 1487 = .ok (.iadd, 1) := by decide +kernel
theorem dL_law_1488 : decode cL_law 1488 = .ok (.iaload, 1) := by decide +kernel
theorem dL_law_1489 : decode cL_law 1489 = .ok (.ifCond .eq 7, 3) := by decide +kernel
theorem dL_law_1492 : decode cL_law 1492 = .ok (.iconst 1, 1) := by decide +kernel
theorem dL_law_1493 : decode cL_law 1493 = .ok (.goto 4, 3) := by decide +kernel
theorem dL_law_1496 : decode cL_law 1496 = .ok (.iconst 0, 1) := by decide +kernel
theorem dL_law_1497 : decode cL_law 1497 = .ok (.invokevirtual 141, 3) := by decide +kernel
theorem dL_law_1500 : decode cL_law 1500 = .ok (.pop, 1) := by decide +kernel
theorem dL_law_1501 : decode cL_law 1501 = .ok (.goto 285, 3) := by decide +kernel
set_option maxHeartbeats 4000000 in
set_option maxRecDepth 100000 in
/-- case 27: by -/
theorem law_27 {p : Program} {l : Launch} {e : Env} {s : State} {m : MethodId} {below : List Frame} {meth : Method} {c : Code} {G : xG} {sc L : Nat} {xs : Nat → Int32} {A : Nat → Prop} {S : yS} {q0 m0 : Nat} (C0 : CallFix p m c code 4 s #[Value.ref sc] wsT RL) (hr : meth.sig.returnType = ret) (hlocks : meth.locks = false) (hK : va_K G.1 xcl (xty G) s) (hN : xN s) (hX : va_X sc L xs s s.heap) (hbl : sc < s.heap.size) (hbA : ¬ A sc) (hA : ∀ q : Nat, s.heap.size ≤ q → A q) (hA2 : ∀ q, A q → s.heap.size ≤ q) (hL : L ≤ 3584) (hSh : ySh S) (hm_q0 : q0 ∈ S.1) (hk_q0 : S.2.1 q0 = 8) (hm_m0 : m0 ∈ S.1) (hk_m0 : S.2.1 m0 = 9) (hnk : S.2.2.1 q0 0 ≠ S.2.2.1 q0 1) {d : yD} {v : Int32} (hv0 : 0 ≤ v.toInt) (hv1 : v.toInt + 7 ≤ (L : Int)) (hPo : yPo S d) (hI : yMI S d m0) (hR : zR4 S d q0 m0) {H : Heap} {locs : List Loc} {ls : Array Slot} (hP : va_P G.1 xcl (yW G S d) H) (hD : va_D A (yW G S d)) (hS : va_S A s.heap H locs) (hl : lv_has ls 4 [(3, .int v), (2, .ref m0), (1, .ref q0), (0, .ref sc)]) (kk : ∀ (u : yD) (H1 : Heap) (locs1 : List Loc) (ls1 : Array Slot), va_P G.1 xcl (yW G S u) H1 → va_D A (yW G S u) → va_S A s.heap H1 locs1 → yPo S u → yMI S u m0 → zR4 S u q0 m0 → lv_has ls1 4 [(3, .int v), (2, .ref m0), (1, .ref q0), (0, .ref sc)] → W p l e room_1 s m #[Value.ref sc] below meth c H1 locs1 169 136076 (lw_Z below #[Value.ref sc] s) (F0 m 1786 ls1 [])) : W p l e room_1 s m #[Value.ref sc] below meth c H locs 169 136076 (lw_Z below #[Value.ref sc] s) (F0 m 1445 ls []) := by
  obtain ⟨hx, hb, hml, hown, htl⟩ := id C0
  refine lv_aload_n hx hb dL_law_1445 rfl (lv_at hl 2 rfl) ?_
  refine lv_aload_n hx hb dL_law_1446 rfl (lv_at hl 3 rfl) ?_
  refine lv_iload_n hx hb dL_law_1447 rfl (lv_at hl 0 rfl) ?_
  refine lv_iconst (v := 1) hx hb dL_law_1448 (by decide) ?_
  refine lv_iadd hx hb dL_law_1449 ?_
  refine lv_topi (fun z_1 ez_1 => ?_)
  have T_2 : (z_1 : Int32).toInt = (v : Int32).toInt + 1 := tadd ez_1 (rfl : (v : Int32).toInt = (v : Int32).toInt) (by decide +kernel : (1 : Int32).toInt = 1) (by omega) (by omega)
  refine va_sld hx hb hX hbl hbA hS (xinL (by omega) (by omega)) dL_law_1450 ?_
  refine lv_topi (fun z_3 ez_3 => ?_)
  refine lv_aload_n hx hb dL_law_1451 rfl (lv_at hl 3 rfl) ?_
  refine lv_iload_n hx hb dL_law_1452 rfl (lv_at hl 0 rfl) ?_
  refine lv_iconst (v := 2) hx hb dL_law_1453 (by decide) ?_
  refine lv_iadd hx hb dL_law_1454 ?_
  refine lv_topi (fun z_4 ez_4 => ?_)
  have T_5 : (z_4 : Int32).toInt = (v : Int32).toInt + 2 := tadd ez_4 (rfl : (v : Int32).toInt = (v : Int32).toInt) (by decide +kernel : (2 : Int32).toInt = 2) (by omega) (by omega)
  refine va_sld hx hb hX hbl hbA hS (xinL (by omega) (by omega)) dL_law_1455 ?_
  refine lv_topi (fun z_6 ez_6 => ?_)
  refine lv_aload_n hx hb dL_law_1456 rfl (lv_at hl 3 rfl) ?_
  refine lv_iload_n hx hb dL_law_1457 rfl (lv_at hl 0 rfl) ?_
  refine lv_iconst (v := 3) hx hb dL_law_1458 (by decide) ?_
  refine lv_iadd hx hb dL_law_1459 ?_
  refine lv_topi (fun z_7 ez_7 => ?_)
  have T_8 : (z_7 : Int32).toInt = (v : Int32).toInt + 3 := tadd ez_7 (rfl : (v : Int32).toInt = (v : Int32).toInt) (by decide +kernel : (3 : Int32).toInt = 3) (by omega) (by omega)
  refine va_sld hx hb hX hbl hbA hS (xinL (by omega) (by omega)) dL_law_1460 ?_
  refine lv_topi (fun z_9 ez_9 => ?_)
  refine lv_if_eq (tgt := 1468) hx hb dL_law_1461 (by decide) (fun c_10 => ?_) (fun c_10 => ?_)
  · refine lv_iconst (v := 0) hx hb dL_law_1468 (by decide) ?_
    refine yVwi (As := [.int z_3, .int z_6, .int 0]) (rest := []) C0 (g_X8_by l G S d q0 z_3 z_6 0 hSh hPo hm_q0 hk_q0 (Or.inl rfl)) ok_X8_by (mW926 : Cond.methodLink RL 138 yX8_by ∈ wsT) ⟨Nat.le_of_ble_eq_true rfl, Nat.le_of_ble_eq_true rfl⟩ hP hD hS hA hK hN hm_q0 hk_q0 (by decide) rfl rfl rfl hl.1 rfl (Nat.le_of_ble_eq_true rfl) ⟨Nat.le_of_ble_eq_true rfl, Nat.le_of_ble_eq_true rfl⟩ dL_law_1469 (fun r_11 d_12 H locs hr_11 hP hD hS => ?_)
    obtain ⟨hgad_12, hpad_12, hxd_12⟩ := hr_11
    have hPod_12 : yPo S d_12 := hpad_12 hPo
    have hId_12 : yMI S d_12 m0 := yMI.ag hI hSh hm_m0 hk_m0 hgad_12 (yK.ag (F := []) yK.rf hgad_12 (by rw [hk_m0]; decide)) (by decide) (by decide)
    refine lv_pop hx hb dL_law_1472 rfl ?_
    refine lv_aload_n hx hb dL_law_1473 rfl (lv_at hl 1 rfl) ?_
    refine lv_aload_n hx hb dL_law_1474 rfl (lv_at hl 3 rfl) ?_
    refine lv_iload_n hx hb dL_law_1475 rfl (lv_at hl 0 rfl) ?_
    refine lv_iconst (v := 1) hx hb dL_law_1476 (by decide) ?_
    refine lv_iadd hx hb dL_law_1477 ?_
    rw [← ez_1]
    have F_13 := feq (rfl : (z_9 : Int32).toInt = (z_9 : Int32).toInt) (by decide +kernel : (0 : Int32).toInt = 0) c_10
    refine va_sld hx hb hX hbl hbA hS (xinL (by omega) (by omega)) dL_law_1478 ?_
    rw [← ez_3]
    refine lv_aload_n hx hb dL_law_1479 rfl (lv_at hl 3 rfl) ?_
    refine lv_iload_n hx hb dL_law_1480 rfl (lv_at hl 0 rfl) ?_
    refine lv_iconst (v := 2) hx hb dL_law_1481 (by decide) ?_
    refine lv_iadd hx hb dL_law_1482 ?_
    rw [← ez_4]
    refine va_sld hx hb hX hbl hbA hS (xinL (by omega) (by omega)) dL_law_1483 ?_
    rw [← ez_6]
    refine lv_aload_n hx hb dL_law_1484 rfl (lv_at hl 3 rfl) ?_
    refine lv_iload_n hx hb dL_law_1485 rfl (lv_at hl 0 rfl) ?_
    refine lv_iconst (v := 3) hx hb dL_law_1486 (by decide) ?_
    refine lv_iadd hx hb dL_law_1487 ?_
    rw [← ez_7]
    refine va_sld hx hb hX hbl hbA hS (xinL (by omega) (by omega)) dL_law_1488 ?_
    rw [← ez_9]
    refine lv_if_eq (tgt := 1496) hx hb dL_law_1489 (by decide) (fun c_14 => ?_) (fun c_14 => absurd c_10 c_14)
    refine lv_iconst (v := 0) hx hb dL_law_1496 (by decide) ?_
    refine yVwi (As := [.int z_3, .int z_6, .int 0]) (rest := []) C0 (g_X9_by l G S d_12 m0 z_3 z_6 0 hSh hPod_12 hm_m0 hk_m0 hId_12 (Or.inl rfl)) ok_X9_by (mW939 : Cond.methodLink RL 141 yX9_by ∈ wsT) ⟨Nat.le_of_ble_eq_true rfl, Nat.le_of_ble_eq_true rfl⟩ hP hD hS hA hK hN hm_m0 hk_m0 (by decide) rfl rfl rfl hl.1 rfl (Nat.le_of_ble_eq_true rfl) ⟨Nat.le_of_ble_eq_true rfl, Nat.le_of_ble_eq_true rfl⟩ dL_law_1497 (fun r_15 d_16 H locs hr_15 hP hD hS => ?_)
    obtain ⟨hgad_16, hpad_16, hfad_16, hxd_16⟩ := hr_15
    have hPod_16 : yPo S d_16 := hpad_16 hPod_12
    have hId_16 : yMI S d_16 m0 := hxd_16
    refine lv_pop hx hb dL_law_1500 rfl ?_
    refine lv_goto (tgt := 1786) hx hb dL_law_1501 (by decide) ?_
    exact kk d_16 _ _ ls hP hD hS hPod_16 hId_16 (zR4.gen hR hSh hm_q0 hk_q0 hm_m0 hk_m0 hnk hgad_12 (by decide) (by decide) hxd_12 hgad_16 (by decide) (by decide) hfad_16 (by decide)) (lv_sub hl [0, 1, 2, 3] rfl)
  · refine lv_iconst (v := 1) hx hb dL_law_1464 (by decide) ?_
    refine lv_goto (tgt := 1469) hx hb dL_law_1465 (by decide) ?_
    refine yVwi (As := [.int z_3, .int z_6, .int 1]) (rest := []) C0 (g_X8_by l G S d q0 z_3 z_6 1 hSh hPo hm_q0 hk_q0 (Or.inr rfl)) ok_X8_by (mW926 : Cond.methodLink RL 138 yX8_by ∈ wsT) ⟨Nat.le_of_ble_eq_true rfl, Nat.le_of_ble_eq_true rfl⟩ hP hD hS hA hK hN hm_q0 hk_q0 (by decide) rfl rfl rfl hl.1 rfl (Nat.le_of_ble_eq_true rfl) ⟨Nat.le_of_ble_eq_true rfl, Nat.le_of_ble_eq_true rfl⟩ dL_law_1469 (fun r_17 d_18 H locs hr_17 hP hD hS => ?_)
    obtain ⟨hgad_18, hpad_18, hxd_18⟩ := hr_17
    have hPod_18 : yPo S d_18 := hpad_18 hPo
    have hId_18 : yMI S d_18 m0 := yMI.ag hI hSh hm_m0 hk_m0 hgad_18 (yK.ag (F := []) yK.rf hgad_18 (by rw [hk_m0]; decide)) (by decide) (by decide)
    refine lv_pop hx hb dL_law_1472 rfl ?_
    refine lv_aload_n hx hb dL_law_1473 rfl (lv_at hl 1 rfl) ?_
    refine lv_aload_n hx hb dL_law_1474 rfl (lv_at hl 3 rfl) ?_
    refine lv_iload_n hx hb dL_law_1475 rfl (lv_at hl 0 rfl) ?_
    refine lv_iconst (v := 1) hx hb dL_law_1476 (by decide) ?_
    refine lv_iadd hx hb dL_law_1477 ?_
    rw [← ez_1]
    have F_19 := fne (rfl : (z_9 : Int32).toInt = (z_9 : Int32).toInt) (by decide +kernel : (0 : Int32).toInt = 0) c_10
    refine va_sld hx hb hX hbl hbA hS (xinL (by omega) (by omega)) dL_law_1478 ?_
    rw [← ez_3]
    refine lv_aload_n hx hb dL_law_1479 rfl (lv_at hl 3 rfl) ?_
    refine lv_iload_n hx hb dL_law_1480 rfl (lv_at hl 0 rfl) ?_
    refine lv_iconst (v := 2) hx hb dL_law_1481 (by decide) ?_
    refine lv_iadd hx hb dL_law_1482 ?_
    rw [← ez_4]
    refine va_sld hx hb hX hbl hbA hS (xinL (by omega) (by omega)) dL_law_1483 ?_
    rw [← ez_6]
    refine lv_aload_n hx hb dL_law_1484 rfl (lv_at hl 3 rfl) ?_
    refine lv_iload_n hx hb dL_law_1485 rfl (lv_at hl 0 rfl) ?_
    refine lv_iconst (v := 3) hx hb dL_law_1486 (by decide) ?_
    refine lv_iadd hx hb dL_law_1487 ?_
    rw [← ez_7]
    refine va_sld hx hb hX hbl hbA hS (xinL (by omega) (by omega)) dL_law_1488 ?_
    rw [← ez_9]
    refine lv_if_eq (tgt := 1496) hx hb dL_law_1489 (by decide) (fun c_20 => absurd c_20 c_10) (fun c_20 => ?_)
    refine lv_iconst (v := 1) hx hb dL_law_1492 (by decide) ?_
    refine lv_goto (tgt := 1497) hx hb dL_law_1493 (by decide) ?_
    refine yVwi (As := [.int z_3, .int z_6, .int 1]) (rest := []) C0 (g_X9_by l G S d_18 m0 z_3 z_6 1 hSh hPod_18 hm_m0 hk_m0 hId_18 (Or.inr rfl)) ok_X9_by (mW939 : Cond.methodLink RL 141 yX9_by ∈ wsT) ⟨Nat.le_of_ble_eq_true rfl, Nat.le_of_ble_eq_true rfl⟩ hP hD hS hA hK hN hm_m0 hk_m0 (by decide) rfl rfl rfl hl.1 rfl (Nat.le_of_ble_eq_true rfl) ⟨Nat.le_of_ble_eq_true rfl, Nat.le_of_ble_eq_true rfl⟩ dL_law_1497 (fun r_21 d_22 H locs hr_21 hP hD hS => ?_)
    obtain ⟨hgad_22, hpad_22, hfad_22, hxd_22⟩ := hr_21
    have hPod_22 : yPo S d_22 := hpad_22 hPod_18
    have hId_22 : yMI S d_22 m0 := hxd_22
    refine lv_pop hx hb dL_law_1500 rfl ?_
    refine lv_goto (tgt := 1786) hx hb dL_law_1501 (by decide) ?_
    exact kk d_22 _ _ ls hP hD hS hPod_22 hId_22 (zR4.gen hR hSh hm_q0 hk_q0 hm_m0 hk_m0 hnk hgad_18 (by decide) (by decide) hxd_18 hgad_22 (by decide) (by decide) hfad_22 (by decide)) (lv_sub hl [0, 1, 2, 3] rfl)
theorem dL_law_1504 : decode cL_law 1504 = .ok (.aload_n 1, 1) := by decide +kernel
theorem dL_law_1505 : decode cL_law 1505 = .ok (.aload_n 0, 1) := by decide +kernel
theorem dL_law_1506 : decode cL_law 1506 = .ok (.iload_n 3, 1) := by decide +kernel
theorem dL_law_1507 : decode cL_law 1507 = .ok (.iconst 1, 1) := by decide +kernel
theorem dL_law_1508 : decode cL_law 1508 = .ok (.iadd, 1) := by decide +kernel
theorem dL_law_1509 : decode cL_law 1509 = .ok (.iaload, 1) := by decide +kernel
theorem dL_law_1510 : decode cL_law 1510 = .ok (.aload_n 0, 1) := by decide +kernel
theorem dL_law_1511 : decode cL_law 1511 = .ok (.iload_n 3, 1) := by decide +kernel
theorem dL_law_1512 : decode cL_law 1512 = .ok (.iconst 2, 1) := by decide +kernel
theorem dL_law_1513 : decode cL_law 1513 = .ok (.iadd, 1) := by decide +kernel
theorem dL_law_1514 : decode cL_law 1514 = .ok (.iaload, 1) := by decide +kernel
theorem dL_law_1515 : decode cL_law 1515 = .ok (.aload_n 0, 1) := by decide +kernel
theorem dL_law_1516 : decode cL_law 1516 = .ok (.iload_n 3, 1) := by decide +kernel
theorem dL_law_1517 : decode cL_law 1517 = .ok (.iconst 3, 1) := by decide +kernel
theorem dL_law_1518 : decode cL_law 1518 = .ok (.iadd, 1) := by decide +kernel
theorem dL_law_1519 : decode cL_law 1519 = .ok (.iaload, 1) := by decide +kernel
theorem dL_law_1520 : decode cL_law 1520 = .ok (.ifCond .eq 7, 3) := by decide +kernel
theorem dL_law_1523 : decode cL_law 1523 = .ok (.iconst 1, 1) := by decide +kernel
theorem dL_law_1524 : decode cL_law 1524 = .ok (.goto 4, 3) := by decide +kernel
theorem dL_law_1527 : decode cL_law 1527 = .ok (.iconst 0, 1) := by decide +kernel
theorem dL_law_1528 : decode cL_law 1528 = .ok (.invokevirtual 142, 3) := by decide +kernel
theorem dL_law_1531 : decode cL_law 1531 = .ok (.pop2, 1) := by decide +kernel
theorem dL_law_1532 : decode cL_law 1532 = .ok (.aload_n 2, 1) := by decide +kernel
theorem dL_law_1533 : decode cL_law 1533 = .ok (.aload_n 0, 1) := by decide +kernel
theorem dL_law_1534 : decode cL_law 1534 = .ok (.iload_n 3, 1) := by decide +kernel
theorem dL_law_1535 : decode cL_law 1535 = .ok (.iconst 1, 1) := by decide +kernel
theorem dL_law_1536 : decode cL_law 1536 = .ok (.iadd, 1) := by decide +kernel
theorem dL_law_1537 : decode cL_law 1537 = .ok (.iaload, 1) := by decide +kernel
theorem dL_law_1538 : decode cL_law 1538 = .ok (.aload_n 0, 1) := by decide +kernel
theorem dL_law_1539 : decode cL_law 1539 = .ok (.iload_n 3, 1) := by decide +kernel
theorem dL_law_1540 : decode cL_law 1540 = .ok (.iconst 2, 1) := by decide +kernel
theorem dL_law_1541 : decode cL_law 1541 = .ok (.iadd, 1) := by decide +kernel
theorem dL_law_1542 : decode cL_law 1542 = .ok (.iaload, 1) := by decide +kernel
theorem dL_law_1543 : decode cL_law 1543 = .ok (.aload_n 0, 1) := by decide +kernel
theorem dL_law_1544 : decode cL_law 1544 = .ok (.iload_n 3, 1) := by decide +kernel
theorem dL_law_1545 : decode cL_law 1545 = .ok (.iconst 3, 1) := by decide +kernel
theorem dL_law_1546 : decode cL_law 1546 = .ok (.iadd, 1) := by decide +kernel
theorem dL_law_1547 : decode cL_law 1547 = .ok (.iaload, 1) := by decide +kernel
theorem dL_law_1548 : decode cL_law 1548 = .ok (.ifCond .eq 7, 3) := by decide +kernel
theorem dL_law_1551 : decode cL_law 1551 = .ok (.iconst 1, 1) := by decide +kernel
theorem dL_law_1552 : decode cL_law 1552 = .ok (.goto 4, 3) := by decide +kernel
theorem dL_law_1555 : decode cL_law 1555 = .ok (.iconst 0, 1) := by decide +kernel
theorem dL_law_1556 : decode cL_law 1556 = .ok (.invokevirtual 146, 3) := by decide +kernel
theorem dL_law_1559 : decode cL_law 1559 = .ok (.pop2, 1) := by decide +kernel
theorem dL_law_1560 : decode cL_law 1560 = .ok (.goto 226, 3) := by decide +kernel
set_option maxHeartbeats 4000000 in
set_option maxRecDepth 100000 in
/-- case 28: sum -/
theorem law_28 {p : Program} {l : Launch} {e : Env} {s : State} {m : MethodId} {below : List Frame} {meth : Method} {c : Code} {G : xG} {sc L : Nat} {xs : Nat → Int32} {A : Nat → Prop} {S : yS} {q0 m0 : Nat} (C0 : CallFix p m c code 4 s #[Value.ref sc] wsT RL) (hr : meth.sig.returnType = ret) (hlocks : meth.locks = false) (hK : va_K G.1 xcl (xty G) s) (hN : xN s) (hX : va_X sc L xs s s.heap) (hbl : sc < s.heap.size) (hbA : ¬ A sc) (hA : ∀ q : Nat, s.heap.size ≤ q → A q) (hA2 : ∀ q, A q → s.heap.size ≤ q) (hL : L ≤ 3584) (hSh : ySh S) (hm_q0 : q0 ∈ S.1) (hk_q0 : S.2.1 q0 = 8) (hm_m0 : m0 ∈ S.1) (hk_m0 : S.2.1 m0 = 9) (hnk : S.2.2.1 q0 0 ≠ S.2.2.1 q0 1) {d : yD} {v : Int32} (hv0 : 0 ≤ v.toInt) (hv1 : v.toInt + 7 ≤ (L : Int)) (hPo : yPo S d) (hI : yMI S d m0) (hR : zR4 S d q0 m0) {H : Heap} {locs : List Loc} {ls : Array Slot} (hP : va_P G.1 xcl (yW G S d) H) (hD : va_D A (yW G S d)) (hS : va_S A s.heap H locs) (hl : lv_has ls 4 [(3, .int v), (2, .ref m0), (1, .ref q0), (0, .ref sc)]) (kk : ∀ (u : yD) (H1 : Heap) (locs1 : List Loc) (ls1 : Array Slot), va_P G.1 xcl (yW G S u) H1 → va_D A (yW G S u) → va_S A s.heap H1 locs1 → yPo S u → yMI S u m0 → zR4 S u q0 m0 → lv_has ls1 4 [(3, .int v), (2, .ref m0), (1, .ref q0), (0, .ref sc)] → W p l e room_1 s m #[Value.ref sc] below meth c H1 locs1 169 136076 (lw_Z below #[Value.ref sc] s) (F0 m 1786 ls1 [])) : W p l e room_1 s m #[Value.ref sc] below meth c H locs 169 136076 (lw_Z below #[Value.ref sc] s) (F0 m 1504 ls []) := by
  obtain ⟨hx, hb, hml, hown, htl⟩ := id C0
  refine lv_aload_n hx hb dL_law_1504 rfl (lv_at hl 2 rfl) ?_
  refine lv_aload_n hx hb dL_law_1505 rfl (lv_at hl 3 rfl) ?_
  refine lv_iload_n hx hb dL_law_1506 rfl (lv_at hl 0 rfl) ?_
  refine lv_iconst (v := 1) hx hb dL_law_1507 (by decide) ?_
  refine lv_iadd hx hb dL_law_1508 ?_
  refine lv_topi (fun z_1 ez_1 => ?_)
  have T_2 : (z_1 : Int32).toInt = (v : Int32).toInt + 1 := tadd ez_1 (rfl : (v : Int32).toInt = (v : Int32).toInt) (by decide +kernel : (1 : Int32).toInt = 1) (by omega) (by omega)
  refine va_sld hx hb hX hbl hbA hS (xinL (by omega) (by omega)) dL_law_1509 ?_
  refine lv_topi (fun z_3 ez_3 => ?_)
  refine lv_aload_n hx hb dL_law_1510 rfl (lv_at hl 3 rfl) ?_
  refine lv_iload_n hx hb dL_law_1511 rfl (lv_at hl 0 rfl) ?_
  refine lv_iconst (v := 2) hx hb dL_law_1512 (by decide) ?_
  refine lv_iadd hx hb dL_law_1513 ?_
  refine lv_topi (fun z_4 ez_4 => ?_)
  have T_5 : (z_4 : Int32).toInt = (v : Int32).toInt + 2 := tadd ez_4 (rfl : (v : Int32).toInt = (v : Int32).toInt) (by decide +kernel : (2 : Int32).toInt = 2) (by omega) (by omega)
  refine va_sld hx hb hX hbl hbA hS (xinL (by omega) (by omega)) dL_law_1514 ?_
  refine lv_topi (fun z_6 ez_6 => ?_)
  refine lv_aload_n hx hb dL_law_1515 rfl (lv_at hl 3 rfl) ?_
  refine lv_iload_n hx hb dL_law_1516 rfl (lv_at hl 0 rfl) ?_
  refine lv_iconst (v := 3) hx hb dL_law_1517 (by decide) ?_
  refine lv_iadd hx hb dL_law_1518 ?_
  refine lv_topi (fun z_7 ez_7 => ?_)
  have T_8 : (z_7 : Int32).toInt = (v : Int32).toInt + 3 := tadd ez_7 (rfl : (v : Int32).toInt = (v : Int32).toInt) (by decide +kernel : (3 : Int32).toInt = 3) (by omega) (by omega)
  refine va_sld hx hb hX hbl hbA hS (xinL (by omega) (by omega)) dL_law_1519 ?_
  refine lv_topi (fun z_9 ez_9 => ?_)
  refine lv_if_eq (tgt := 1527) hx hb dL_law_1520 (by decide) (fun c_10 => ?_) (fun c_10 => ?_)
  · refine lv_iconst (v := 0) hx hb dL_law_1527 (by decide) ?_
    refine yVwl (As := [.int z_3, .int z_6, .int 0]) (rest := []) C0 (g_X8_sum l G S d q0 z_3 z_6 0 hSh hPo hm_q0 hk_q0 (Or.inl rfl)) ok_X8_sum (mW943 : Cond.methodLink RL 142 yX8_sum ∈ wsT) ⟨Nat.le_of_ble_eq_true rfl, Nat.le_of_ble_eq_true rfl⟩ hP hD hS hA hK hN hm_q0 hk_q0 (by decide) rfl rfl rfl hl.1 rfl (Nat.le_of_ble_eq_true rfl) ⟨Nat.le_of_ble_eq_true rfl, Nat.le_of_ble_eq_true rfl⟩ dL_law_1528 (fun r_11 d_12 H locs hr_11 hP hD hS => ?_)
    obtain ⟨hgad_12, hpad_12, hxd_12⟩ := hr_11
    have hPod_12 : yPo S d_12 := hpad_12 hPo
    have hId_12 : yMI S d_12 m0 := yMI.ag hI hSh hm_m0 hk_m0 hgad_12 (yK.ag (F := []) yK.rf hgad_12 (by rw [hk_m0]; decide)) (by decide) (by decide)
    refine lv_pop2_2 hx hb dL_law_1531 rfl ?_
    refine lv_aload_n hx hb dL_law_1532 rfl (lv_at hl 1 rfl) ?_
    refine lv_aload_n hx hb dL_law_1533 rfl (lv_at hl 3 rfl) ?_
    refine lv_iload_n hx hb dL_law_1534 rfl (lv_at hl 0 rfl) ?_
    refine lv_iconst (v := 1) hx hb dL_law_1535 (by decide) ?_
    refine lv_iadd hx hb dL_law_1536 ?_
    rw [← ez_1]
    have F_13 := feq (rfl : (z_9 : Int32).toInt = (z_9 : Int32).toInt) (by decide +kernel : (0 : Int32).toInt = 0) c_10
    refine va_sld hx hb hX hbl hbA hS (xinL (by omega) (by omega)) dL_law_1537 ?_
    rw [← ez_3]
    refine lv_aload_n hx hb dL_law_1538 rfl (lv_at hl 3 rfl) ?_
    refine lv_iload_n hx hb dL_law_1539 rfl (lv_at hl 0 rfl) ?_
    refine lv_iconst (v := 2) hx hb dL_law_1540 (by decide) ?_
    refine lv_iadd hx hb dL_law_1541 ?_
    rw [← ez_4]
    refine va_sld hx hb hX hbl hbA hS (xinL (by omega) (by omega)) dL_law_1542 ?_
    rw [← ez_6]
    refine lv_aload_n hx hb dL_law_1543 rfl (lv_at hl 3 rfl) ?_
    refine lv_iload_n hx hb dL_law_1544 rfl (lv_at hl 0 rfl) ?_
    refine lv_iconst (v := 3) hx hb dL_law_1545 (by decide) ?_
    refine lv_iadd hx hb dL_law_1546 ?_
    rw [← ez_7]
    refine va_sld hx hb hX hbl hbA hS (xinL (by omega) (by omega)) dL_law_1547 ?_
    rw [← ez_9]
    refine lv_if_eq (tgt := 1555) hx hb dL_law_1548 (by decide) (fun c_14 => ?_) (fun c_14 => absurd c_10 c_14)
    refine lv_iconst (v := 0) hx hb dL_law_1555 (by decide) ?_
    refine yVwl (As := [.int z_3, .int z_6, .int 0]) (rest := []) C0 (g_X9_sum l G S d_12 m0 z_3 z_6 0 hSh hPod_12 hm_m0 hk_m0 hId_12 (Or.inl rfl)) ok_X9_sum (mW987 : Cond.methodLink RL 146 yX9_sum ∈ wsT) ⟨Nat.le_of_ble_eq_true rfl, Nat.le_of_ble_eq_true rfl⟩ hP hD hS hA hK hN hm_m0 hk_m0 (by decide) rfl rfl rfl hl.1 rfl (Nat.le_of_ble_eq_true rfl) ⟨Nat.le_of_ble_eq_true rfl, Nat.le_of_ble_eq_true rfl⟩ dL_law_1556 (fun r_15 d_16 H locs hr_15 hP hD hS => ?_)
    obtain ⟨hgad_16, hpad_16, hfad_16, hxd_16⟩ := hr_15
    have hPod_16 : yPo S d_16 := hpad_16 hPod_12
    have hId_16 : yMI S d_16 m0 := hxd_16
    refine lv_pop2_2 hx hb dL_law_1559 rfl ?_
    refine lv_goto (tgt := 1786) hx hb dL_law_1560 (by decide) ?_
    exact kk d_16 _ _ ls hP hD hS hPod_16 hId_16 (zR4.gen hR hSh hm_q0 hk_q0 hm_m0 hk_m0 hnk hgad_12 (by decide) (by decide) hxd_12 hgad_16 (by decide) (by decide) hfad_16 (by decide)) (lv_sub hl [0, 1, 2, 3] rfl)
  · refine lv_iconst (v := 1) hx hb dL_law_1523 (by decide) ?_
    refine lv_goto (tgt := 1528) hx hb dL_law_1524 (by decide) ?_
    refine yVwl (As := [.int z_3, .int z_6, .int 1]) (rest := []) C0 (g_X8_sum l G S d q0 z_3 z_6 1 hSh hPo hm_q0 hk_q0 (Or.inr rfl)) ok_X8_sum (mW943 : Cond.methodLink RL 142 yX8_sum ∈ wsT) ⟨Nat.le_of_ble_eq_true rfl, Nat.le_of_ble_eq_true rfl⟩ hP hD hS hA hK hN hm_q0 hk_q0 (by decide) rfl rfl rfl hl.1 rfl (Nat.le_of_ble_eq_true rfl) ⟨Nat.le_of_ble_eq_true rfl, Nat.le_of_ble_eq_true rfl⟩ dL_law_1528 (fun r_17 d_18 H locs hr_17 hP hD hS => ?_)
    obtain ⟨hgad_18, hpad_18, hxd_18⟩ := hr_17
    have hPod_18 : yPo S d_18 := hpad_18 hPo
    have hId_18 : yMI S d_18 m0 := yMI.ag hI hSh hm_m0 hk_m0 hgad_18 (yK.ag (F := []) yK.rf hgad_18 (by rw [hk_m0]; decide)) (by decide) (by decide)
    refine lv_pop2_2 hx hb dL_law_1531 rfl ?_
    refine lv_aload_n hx hb dL_law_1532 rfl (lv_at hl 1 rfl) ?_
    refine lv_aload_n hx hb dL_law_1533 rfl (lv_at hl 3 rfl) ?_
    refine lv_iload_n hx hb dL_law_1534 rfl (lv_at hl 0 rfl) ?_
    refine lv_iconst (v := 1) hx hb dL_law_1535 (by decide) ?_
    refine lv_iadd hx hb dL_law_1536 ?_
    rw [← ez_1]
    have F_19 := fne (rfl : (z_9 : Int32).toInt = (z_9 : Int32).toInt) (by decide +kernel : (0 : Int32).toInt = 0) c_10
    refine va_sld hx hb hX hbl hbA hS (xinL (by omega) (by omega)) dL_law_1537 ?_
    rw [← ez_3]
    refine lv_aload_n hx hb dL_law_1538 rfl (lv_at hl 3 rfl) ?_
    refine lv_iload_n hx hb dL_law_1539 rfl (lv_at hl 0 rfl) ?_
    refine lv_iconst (v := 2) hx hb dL_law_1540 (by decide) ?_
    refine lv_iadd hx hb dL_law_1541 ?_
    rw [← ez_4]
    refine va_sld hx hb hX hbl hbA hS (xinL (by omega) (by omega)) dL_law_1542 ?_
    rw [← ez_6]
    refine lv_aload_n hx hb dL_law_1543 rfl (lv_at hl 3 rfl) ?_
    refine lv_iload_n hx hb dL_law_1544 rfl (lv_at hl 0 rfl) ?_
    refine lv_iconst (v := 3) hx hb dL_law_1545 (by decide) ?_
    refine lv_iadd hx hb dL_law_1546 ?_
    rw [← ez_7]
    refine va_sld hx hb hX hbl hbA hS (xinL (by omega) (by omega)) dL_law_1547 ?_
    rw [← ez_9]
    refine lv_if_eq (tgt := 1555) hx hb dL_law_1548 (by decide) (fun c_20 => absurd c_20 c_10) (fun c_20 => ?_)
    refine lv_iconst (v := 1) hx hb dL_law_1551 (by decide) ?_
    refine lv_goto (tgt := 1556) hx hb dL_law_1552 (by decide) ?_
    refine yVwl (As := [.int z_3, .int z_6, .int 1]) (rest := []) C0 (g_X9_sum l G S d_18 m0 z_3 z_6 1 hSh hPod_18 hm_m0 hk_m0 hId_18 (Or.inr rfl)) ok_X9_sum (mW987 : Cond.methodLink RL 146 yX9_sum ∈ wsT) ⟨Nat.le_of_ble_eq_true rfl, Nat.le_of_ble_eq_true rfl⟩ hP hD hS hA hK hN hm_m0 hk_m0 (by decide) rfl rfl rfl hl.1 rfl (Nat.le_of_ble_eq_true rfl) ⟨Nat.le_of_ble_eq_true rfl, Nat.le_of_ble_eq_true rfl⟩ dL_law_1556 (fun r_21 d_22 H locs hr_21 hP hD hS => ?_)
    obtain ⟨hgad_22, hpad_22, hfad_22, hxd_22⟩ := hr_21
    have hPod_22 : yPo S d_22 := hpad_22 hPod_18
    have hId_22 : yMI S d_22 m0 := hxd_22
    refine lv_pop2_2 hx hb dL_law_1559 rfl ?_
    refine lv_goto (tgt := 1786) hx hb dL_law_1560 (by decide) ?_
    exact kk d_22 _ _ ls hP hD hS hPod_22 hId_22 (zR4.gen hR hSh hm_q0 hk_q0 hm_m0 hk_m0 hnk hgad_18 (by decide) (by decide) hxd_18 hgad_22 (by decide) (by decide) hfad_22 (by decide)) (lv_sub hl [0, 1, 2, 3] rfl)
theorem dL_law_1563 : decode cL_law 1563 = .ok (.aload_n 1, 1) := by decide +kernel
theorem dL_law_1564 : decode cL_law 1564 = .ok (.aload_n 0, 1) := by decide +kernel
theorem dL_law_1565 : decode cL_law 1565 = .ok (.iload_n 3, 1) := by decide +kernel
theorem dL_law_1566 : decode cL_law 1566 = .ok (.iconst 1, 1) := by decide +kernel
theorem dL_law_1567 : decode cL_law 1567 = .ok (.iadd, 1) := by decide +kernel
theorem dL_law_1568 : decode cL_law 1568 = .ok (.iaload, 1) := by decide +kernel
theorem dL_law_1569 : decode cL_law 1569 = .ok (.aload_n 0, 1) := by decide +kernel
theorem dL_law_1570 : decode cL_law 1570 = .ok (.iload_n 3, 1) := by decide +kernel
theorem dL_law_1571 : decode cL_law 1571 = .ok (.iconst 2, 1) := by decide +kernel
theorem dL_law_1572 : decode cL_law 1572 = .ok (.iadd, 1) := by decide +kernel
theorem dL_law_1573 : decode cL_law 1573 = .ok (.iaload, 1) := by decide +kernel
theorem dL_law_1574 : decode cL_law 1574 = .ok (.aload_n 0, 1) := by decide +kernel
theorem dL_law_1575 : decode cL_law 1575 = .ok (.iload_n 3, 1) := by decide +kernel
theorem dL_law_1576 : decode cL_law 1576 = .ok (.iconst 3, 1) := by decide +kernel
theorem dL_law_1577 : decode cL_law 1577 = .ok (.iadd, 1) := by decide +kernel
theorem dL_law_1578 : decode cL_law 1578 = .ok (.iaload, 1) := by decide +kernel
theorem dL_law_1579 : decode cL_law 1579 = .ok (.aload_n 0, 1) := by decide +kernel
theorem dL_law_1580 : decode cL_law 1580 = .ok (.iload_n 3, 1) := by decide +kernel
theorem dL_law_1581 : decode cL_law 1581 = .ok (.iconst 4, 1) := by decide +kernel
theorem dL_law_1582 : decode cL_law 1582 = .ok (.iadd, 1) := by decide +kernel
theorem dL_law_1583 : decode cL_law 1583 = .ok (.iaload, 1) := by decide +kernel
theorem dL_law_1584 : decode cL_law 1584 = .ok (.ifCond .eq 7, 3) := by decide +kernel
theorem dL_law_1587 : decode cL_law 1587 = .ok (.iconst 1, 1) := by decide +kernel
theorem dL_law_1588 : decode cL_law 1588 = .ok (.goto 4, 3) := by decide +kernel
theorem dL_law_1591 : decode cL_law 1591 = .ok (.iconst 0, 1) := by decide +kernel
theorem dL_law_1592 : decode cL_law 1592 = .ok (.invokevirtual 147, 3) := by decide +kernel
theorem dL_law_1595 : decode cL_law 1595 = .ok (.pop2, 1) := by decide +kernel
theorem dL_law_1596 : decode cL_law 1596 = .ok (.aload_n 2, 1) := by decide +kernel
theorem dL_law_1597 : decode cL_law 1597 = .ok (.aload_n 0, 1) := by decide +kernel
theorem dL_law_1598 : decode cL_law 1598 = .ok (.iload_n 3, 1) := by decide +kernel
theorem dL_law_1599 : decode cL_law 1599 = .ok (.iconst 1, 1) := by decide +kernel
theorem dL_law_1600 : decode cL_law 1600 = .ok (.iadd, 1) := by decide +kernel
theorem dL_law_1601 : decode cL_law 1601 = .ok (.iaload, 1) := by decide +kernel
theorem dL_law_1602 : decode cL_law 1602 = .ok (.aload_n 0, 1) := by decide +kernel
theorem dL_law_1603 : decode cL_law 1603 = .ok (.iload_n 3, 1) := by decide +kernel
theorem dL_law_1604 : decode cL_law 1604 = .ok (.iconst 2, 1) := by decide +kernel
theorem dL_law_1605 : decode cL_law 1605 = .ok (.iadd, 1) := by decide +kernel
theorem dL_law_1606 : decode cL_law 1606 = .ok (.iaload, 1) := by decide +kernel
theorem dL_law_1607 : decode cL_law 1607 = .ok (.aload_n 0, 1) := by decide +kernel
theorem dL_law_1608 : decode cL_law 1608 = .ok (.iload_n 3, 1) := by decide +kernel
theorem dL_law_1609 : decode cL_law 1609 = .ok (.iconst 3, 1) := by decide +kernel
theorem dL_law_1610 : decode cL_law 1610 = .ok (.iadd, 1) := by decide +kernel
theorem dL_law_1611 : decode cL_law 1611 = .ok (.iaload, 1) := by decide +kernel
theorem dL_law_1612 : decode cL_law 1612 = .ok (.aload_n 0, 1) := by decide +kernel
theorem dL_law_1613 : decode cL_law 1613 = .ok (.iload_n 3, 1) := by decide +kernel
theorem dL_law_1614 : decode cL_law 1614 = .ok (.iconst 4, 1) := by decide +kernel
theorem dL_law_1615 : decode cL_law 1615 = .ok (.iadd, 1) := by decide +kernel
theorem dL_law_1616 : decode cL_law 1616 = .ok (.iaload, 1) := by decide +kernel
theorem dL_law_1617 : decode cL_law 1617 = .ok (.ifCond .eq 7, 3) := by decide +kernel
theorem dL_law_1620 : decode cL_law 1620 = .ok (.iconst 1, 1) := by decide +kernel
theorem dL_law_1621 : decode cL_law 1621 = .ok (.goto 4, 3) := by decide +kernel
theorem dL_law_1624 : decode cL_law 1624 = .ok (.iconst 0, 1) := by decide +kernel
theorem dL_law_1625 : decode cL_law 1625 = .ok (.invokevirtual 151, 3) := by decide +kernel
theorem dL_law_1628 : decode cL_law 1628 = .ok (.pop2, 1) := by decide +kernel
theorem dL_law_1629 : decode cL_law 1629 = .ok (.goto 157, 3) := by decide +kernel
set_option maxHeartbeats 4000000 in
set_option maxRecDepth 100000 in
/-- case 29: as -/
theorem law_29 {p : Program} {l : Launch} {e : Env} {s : State} {m : MethodId} {below : List Frame} {meth : Method} {c : Code} {G : xG} {sc L : Nat} {xs : Nat → Int32} {A : Nat → Prop} {S : yS} {q0 m0 : Nat} (C0 : CallFix p m c code 4 s #[Value.ref sc] wsT RL) (hr : meth.sig.returnType = ret) (hlocks : meth.locks = false) (hK : va_K G.1 xcl (xty G) s) (hN : xN s) (hX : va_X sc L xs s s.heap) (hbl : sc < s.heap.size) (hbA : ¬ A sc) (hA : ∀ q : Nat, s.heap.size ≤ q → A q) (hA2 : ∀ q, A q → s.heap.size ≤ q) (hL : L ≤ 3584) (hSh : ySh S) (hm_q0 : q0 ∈ S.1) (hk_q0 : S.2.1 q0 = 8) (hm_m0 : m0 ∈ S.1) (hk_m0 : S.2.1 m0 = 9) (hnk : S.2.2.1 q0 0 ≠ S.2.2.1 q0 1) {d : yD} {v : Int32} (hv0 : 0 ≤ v.toInt) (hv1 : v.toInt + 7 ≤ (L : Int)) (hPo : yPo S d) (hI : yMI S d m0) (hR : zR4 S d q0 m0) {H : Heap} {locs : List Loc} {ls : Array Slot} (hP : va_P G.1 xcl (yW G S d) H) (hD : va_D A (yW G S d)) (hS : va_S A s.heap H locs) (hl : lv_has ls 4 [(3, .int v), (2, .ref m0), (1, .ref q0), (0, .ref sc)]) (kk : ∀ (u : yD) (H1 : Heap) (locs1 : List Loc) (ls1 : Array Slot), va_P G.1 xcl (yW G S u) H1 → va_D A (yW G S u) → va_S A s.heap H1 locs1 → yPo S u → yMI S u m0 → zR4 S u q0 m0 → lv_has ls1 4 [(3, .int v), (2, .ref m0), (1, .ref q0), (0, .ref sc)] → W p l e room_1 s m #[Value.ref sc] below meth c H1 locs1 169 136076 (lw_Z below #[Value.ref sc] s) (F0 m 1786 ls1 [])) : W p l e room_1 s m #[Value.ref sc] below meth c H locs 169 136076 (lw_Z below #[Value.ref sc] s) (F0 m 1563 ls []) := by
  obtain ⟨hx, hb, hml, hown, htl⟩ := id C0
  have hI3 := hR.2.2
  refine lv_aload_n hx hb dL_law_1563 rfl (lv_at hl 2 rfl) ?_
  refine lv_aload_n hx hb dL_law_1564 rfl (lv_at hl 3 rfl) ?_
  refine lv_iload_n hx hb dL_law_1565 rfl (lv_at hl 0 rfl) ?_
  refine lv_iconst (v := 1) hx hb dL_law_1566 (by decide) ?_
  refine lv_iadd hx hb dL_law_1567 ?_
  refine lv_topi (fun z_1 ez_1 => ?_)
  have T_2 : (z_1 : Int32).toInt = (v : Int32).toInt + 1 := tadd ez_1 (rfl : (v : Int32).toInt = (v : Int32).toInt) (by decide +kernel : (1 : Int32).toInt = 1) (by omega) (by omega)
  refine va_sld hx hb hX hbl hbA hS (xinL (by omega) (by omega)) dL_law_1568 ?_
  refine lv_topi (fun z_3 ez_3 => ?_)
  refine lv_aload_n hx hb dL_law_1569 rfl (lv_at hl 3 rfl) ?_
  refine lv_iload_n hx hb dL_law_1570 rfl (lv_at hl 0 rfl) ?_
  refine lv_iconst (v := 2) hx hb dL_law_1571 (by decide) ?_
  refine lv_iadd hx hb dL_law_1572 ?_
  refine lv_topi (fun z_4 ez_4 => ?_)
  have T_5 : (z_4 : Int32).toInt = (v : Int32).toInt + 2 := tadd ez_4 (rfl : (v : Int32).toInt = (v : Int32).toInt) (by decide +kernel : (2 : Int32).toInt = 2) (by omega) (by omega)
  refine va_sld hx hb hX hbl hbA hS (xinL (by omega) (by omega)) dL_law_1573 ?_
  refine lv_topi (fun z_6 ez_6 => ?_)
  refine lv_aload_n hx hb dL_law_1574 rfl (lv_at hl 3 rfl) ?_
  refine lv_iload_n hx hb dL_law_1575 rfl (lv_at hl 0 rfl) ?_
  refine lv_iconst (v := 3) hx hb dL_law_1576 (by decide) ?_
  refine lv_iadd hx hb dL_law_1577 ?_
  refine lv_topi (fun z_7 ez_7 => ?_)
  have T_8 : (z_7 : Int32).toInt = (v : Int32).toInt + 3 := tadd ez_7 (rfl : (v : Int32).toInt = (v : Int32).toInt) (by decide +kernel : (3 : Int32).toInt = 3) (by omega) (by omega)
  refine va_sld hx hb hX hbl hbA hS (xinL (by omega) (by omega)) dL_law_1578 ?_
  refine lv_topi (fun z_9 ez_9 => ?_)
  refine lv_aload_n hx hb dL_law_1579 rfl (lv_at hl 3 rfl) ?_
  refine lv_iload_n hx hb dL_law_1580 rfl (lv_at hl 0 rfl) ?_
  refine lv_iconst (v := 4) hx hb dL_law_1581 (by decide) ?_
  refine lv_iadd hx hb dL_law_1582 ?_
  refine lv_topi (fun z_10 ez_10 => ?_)
  have T_11 : (z_10 : Int32).toInt = (v : Int32).toInt + 4 := tadd ez_10 (rfl : (v : Int32).toInt = (v : Int32).toInt) (by decide +kernel : (4 : Int32).toInt = 4) (by omega) (by omega)
  refine va_sld hx hb hX hbl hbA hS (xinL (by omega) (by omega)) dL_law_1583 ?_
  refine lv_topi (fun z_12 ez_12 => ?_)
  refine lv_if_eq (tgt := 1591) hx hb dL_law_1584 (by decide) (fun c_13 => ?_) (fun c_13 => ?_)
  · refine lv_iconst (v := 0) hx hb dL_law_1591 (by decide) ?_
    refine yVwl (As := [.int z_3, .int z_6, .int z_9, .int 0]) (rest := []) C0 (g_X8_as l G S d q0 z_3 z_6 z_9 0 hSh hPo hm_q0 hk_q0 (Or.inl rfl) hI3) ok_X8_as (mW1012 : Cond.methodLink RL 147 yX8_as ∈ wsT) ⟨Nat.le_of_ble_eq_true rfl, Nat.le_of_ble_eq_true rfl⟩ hP hD hS hA hK hN hm_q0 hk_q0 (by decide) rfl rfl rfl hl.1 rfl (Nat.le_of_ble_eq_true rfl) ⟨Nat.le_of_ble_eq_true rfl, Nat.le_of_ble_eq_true rfl⟩ dL_law_1592 (fun r_14 d_15 H locs hr_14 hP hD hS => ?_)
    obtain ⟨hgad_15, hpad_15, hxd_15⟩ := hr_14
    have hPod_15 : yPo S d_15 := hpad_15 hPo
    have hId_15 : yMI S d_15 m0 := yMI.ag hI hSh hm_m0 hk_m0 hgad_15 (yK.ag (F := []) yK.rf hgad_15 (by rw [hk_m0]; decide)) (by decide) (by decide)
    refine lv_pop2_2 hx hb dL_law_1595 rfl ?_
    refine lv_aload_n hx hb dL_law_1596 rfl (lv_at hl 1 rfl) ?_
    refine lv_aload_n hx hb dL_law_1597 rfl (lv_at hl 3 rfl) ?_
    refine lv_iload_n hx hb dL_law_1598 rfl (lv_at hl 0 rfl) ?_
    refine lv_iconst (v := 1) hx hb dL_law_1599 (by decide) ?_
    refine lv_iadd hx hb dL_law_1600 ?_
    rw [← ez_1]
    have F_16 := feq (rfl : (z_12 : Int32).toInt = (z_12 : Int32).toInt) (by decide +kernel : (0 : Int32).toInt = 0) c_13
    refine va_sld hx hb hX hbl hbA hS (xinL (by omega) (by omega)) dL_law_1601 ?_
    rw [← ez_3]
    refine lv_aload_n hx hb dL_law_1602 rfl (lv_at hl 3 rfl) ?_
    refine lv_iload_n hx hb dL_law_1603 rfl (lv_at hl 0 rfl) ?_
    refine lv_iconst (v := 2) hx hb dL_law_1604 (by decide) ?_
    refine lv_iadd hx hb dL_law_1605 ?_
    rw [← ez_4]
    refine va_sld hx hb hX hbl hbA hS (xinL (by omega) (by omega)) dL_law_1606 ?_
    rw [← ez_6]
    refine lv_aload_n hx hb dL_law_1607 rfl (lv_at hl 3 rfl) ?_
    refine lv_iload_n hx hb dL_law_1608 rfl (lv_at hl 0 rfl) ?_
    refine lv_iconst (v := 3) hx hb dL_law_1609 (by decide) ?_
    refine lv_iadd hx hb dL_law_1610 ?_
    rw [← ez_7]
    refine va_sld hx hb hX hbl hbA hS (xinL (by omega) (by omega)) dL_law_1611 ?_
    rw [← ez_9]
    refine lv_aload_n hx hb dL_law_1612 rfl (lv_at hl 3 rfl) ?_
    refine lv_iload_n hx hb dL_law_1613 rfl (lv_at hl 0 rfl) ?_
    refine lv_iconst (v := 4) hx hb dL_law_1614 (by decide) ?_
    refine lv_iadd hx hb dL_law_1615 ?_
    rw [← ez_10]
    refine va_sld hx hb hX hbl hbA hS (xinL (by omega) (by omega)) dL_law_1616 ?_
    rw [← ez_12]
    refine lv_if_eq (tgt := 1624) hx hb dL_law_1617 (by decide) (fun c_17 => ?_) (fun c_17 => absurd c_13 c_17)
    refine lv_iconst (v := 0) hx hb dL_law_1624 (by decide) ?_
    refine yVwl (As := [.int z_3, .int z_6, .int z_9, .int 0]) (rest := []) C0 (g_X9_as l G S d_15 m0 z_3 z_6 z_9 0 hSh hPod_15 hm_m0 hk_m0 hId_15 (Or.inl rfl)) ok_X9_as (mW1020 : Cond.methodLink RL 151 yX9_as ∈ wsT) ⟨Nat.le_of_ble_eq_true rfl, Nat.le_of_ble_eq_true rfl⟩ hP hD hS hA hK hN hm_m0 hk_m0 (by decide) rfl rfl rfl hl.1 rfl (Nat.le_of_ble_eq_true rfl) ⟨Nat.le_of_ble_eq_true rfl, Nat.le_of_ble_eq_true rfl⟩ dL_law_1625 (fun r_18 d_19 H locs hr_18 hP hD hS => ?_)
    obtain ⟨hgad_19, hpad_19, hfad_19, hxd_19⟩ := hr_18
    have hPod_19 : yPo S d_19 := hpad_19 hPod_15
    have hId_19 : yMI S d_19 m0 := hxd_19
    refine lv_pop2_2 hx hb dL_law_1628 rfl ?_
    refine lv_goto (tgt := 1786) hx hb dL_law_1629 (by decide) ?_
    exact kk d_19 _ _ ls hP hD hS hPod_19 hId_19 (zR4.as hR hId_15 hPo hSh hm_q0 hk_q0 hm_m0 hk_m0 hnk hgad_15 hgad_19 hfad_19 hxd_15 hxd_19) (lv_sub hl [0, 1, 2, 3] rfl)
  · refine lv_iconst (v := 1) hx hb dL_law_1587 (by decide) ?_
    refine lv_goto (tgt := 1592) hx hb dL_law_1588 (by decide) ?_
    refine yVwl (As := [.int z_3, .int z_6, .int z_9, .int 1]) (rest := []) C0 (g_X8_as l G S d q0 z_3 z_6 z_9 1 hSh hPo hm_q0 hk_q0 (Or.inr rfl) hI3) ok_X8_as (mW1012 : Cond.methodLink RL 147 yX8_as ∈ wsT) ⟨Nat.le_of_ble_eq_true rfl, Nat.le_of_ble_eq_true rfl⟩ hP hD hS hA hK hN hm_q0 hk_q0 (by decide) rfl rfl rfl hl.1 rfl (Nat.le_of_ble_eq_true rfl) ⟨Nat.le_of_ble_eq_true rfl, Nat.le_of_ble_eq_true rfl⟩ dL_law_1592 (fun r_20 d_21 H locs hr_20 hP hD hS => ?_)
    obtain ⟨hgad_21, hpad_21, hxd_21⟩ := hr_20
    have hPod_21 : yPo S d_21 := hpad_21 hPo
    have hId_21 : yMI S d_21 m0 := yMI.ag hI hSh hm_m0 hk_m0 hgad_21 (yK.ag (F := []) yK.rf hgad_21 (by rw [hk_m0]; decide)) (by decide) (by decide)
    refine lv_pop2_2 hx hb dL_law_1595 rfl ?_
    refine lv_aload_n hx hb dL_law_1596 rfl (lv_at hl 1 rfl) ?_
    refine lv_aload_n hx hb dL_law_1597 rfl (lv_at hl 3 rfl) ?_
    refine lv_iload_n hx hb dL_law_1598 rfl (lv_at hl 0 rfl) ?_
    refine lv_iconst (v := 1) hx hb dL_law_1599 (by decide) ?_
    refine lv_iadd hx hb dL_law_1600 ?_
    rw [← ez_1]
    have F_22 := fne (rfl : (z_12 : Int32).toInt = (z_12 : Int32).toInt) (by decide +kernel : (0 : Int32).toInt = 0) c_13
    refine va_sld hx hb hX hbl hbA hS (xinL (by omega) (by omega)) dL_law_1601 ?_
    rw [← ez_3]
    refine lv_aload_n hx hb dL_law_1602 rfl (lv_at hl 3 rfl) ?_
    refine lv_iload_n hx hb dL_law_1603 rfl (lv_at hl 0 rfl) ?_
    refine lv_iconst (v := 2) hx hb dL_law_1604 (by decide) ?_
    refine lv_iadd hx hb dL_law_1605 ?_
    rw [← ez_4]
    refine va_sld hx hb hX hbl hbA hS (xinL (by omega) (by omega)) dL_law_1606 ?_
    rw [← ez_6]
    refine lv_aload_n hx hb dL_law_1607 rfl (lv_at hl 3 rfl) ?_
    refine lv_iload_n hx hb dL_law_1608 rfl (lv_at hl 0 rfl) ?_
    refine lv_iconst (v := 3) hx hb dL_law_1609 (by decide) ?_
    refine lv_iadd hx hb dL_law_1610 ?_
    rw [← ez_7]
    refine va_sld hx hb hX hbl hbA hS (xinL (by omega) (by omega)) dL_law_1611 ?_
    rw [← ez_9]
    refine lv_aload_n hx hb dL_law_1612 rfl (lv_at hl 3 rfl) ?_
    refine lv_iload_n hx hb dL_law_1613 rfl (lv_at hl 0 rfl) ?_
    refine lv_iconst (v := 4) hx hb dL_law_1614 (by decide) ?_
    refine lv_iadd hx hb dL_law_1615 ?_
    rw [← ez_10]
    refine va_sld hx hb hX hbl hbA hS (xinL (by omega) (by omega)) dL_law_1616 ?_
    rw [← ez_12]
    refine lv_if_eq (tgt := 1624) hx hb dL_law_1617 (by decide) (fun c_23 => absurd c_23 c_13) (fun c_23 => ?_)
    refine lv_iconst (v := 1) hx hb dL_law_1620 (by decide) ?_
    refine lv_goto (tgt := 1625) hx hb dL_law_1621 (by decide) ?_
    refine yVwl (As := [.int z_3, .int z_6, .int z_9, .int 1]) (rest := []) C0 (g_X9_as l G S d_21 m0 z_3 z_6 z_9 1 hSh hPod_21 hm_m0 hk_m0 hId_21 (Or.inr rfl)) ok_X9_as (mW1020 : Cond.methodLink RL 151 yX9_as ∈ wsT) ⟨Nat.le_of_ble_eq_true rfl, Nat.le_of_ble_eq_true rfl⟩ hP hD hS hA hK hN hm_m0 hk_m0 (by decide) rfl rfl rfl hl.1 rfl (Nat.le_of_ble_eq_true rfl) ⟨Nat.le_of_ble_eq_true rfl, Nat.le_of_ble_eq_true rfl⟩ dL_law_1625 (fun r_24 d_25 H locs hr_24 hP hD hS => ?_)
    obtain ⟨hgad_25, hpad_25, hfad_25, hxd_25⟩ := hr_24
    have hPod_25 : yPo S d_25 := hpad_25 hPod_21
    have hId_25 : yMI S d_25 m0 := hxd_25
    refine lv_pop2_2 hx hb dL_law_1628 rfl ?_
    refine lv_goto (tgt := 1786) hx hb dL_law_1629 (by decide) ?_
    exact kk d_25 _ _ ls hP hD hS hPod_25 hId_25 (zR4.as hR hId_21 hPo hSh hm_q0 hk_q0 hm_m0 hk_m0 hnk hgad_21 hgad_25 hfad_25 hxd_21 hxd_25) (lv_sub hl [0, 1, 2, 3] rfl)
