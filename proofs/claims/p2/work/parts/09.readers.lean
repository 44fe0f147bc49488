theorem dX4_logLong_0 : decode cX4_logLong 0 = .ok (.aload_n 0, 1) := by decide +kernel
theorem dX4_logLong_1 : decode cX4_logLong 1 = .ok (.getfield 24, 3) := by decide +kernel
theorem dX4_logLong_4 : decode cX4_logLong 4 = .ok (.sipush 1440, 3) := by decide +kernel
theorem dX4_logLong_7 : decode cX4_logLong 7 = .ok (.imul, 1) := by decide +kernel
theorem dX4_logLong_8 : decode cX4_logLong 8 = .ok (.ireturn, 1) := by decide +kernel
set_option maxHeartbeats 4000000 in
set_option maxRecDepth 100000 in
theorem g_X4_logLong (l : Launch) (G : xG) (S : yS) (d : yD) (h0 : Nat) (hSh : ySh S) (hm_h0 : h0 ∈ S.1) (hk_h0 : S.2.1 h0 = 4) : xRi l G yX4_logLong cX4_logLong 1 (some .int) 0 0 [.ref h0] (yW G S d) (fun r => r = d.1 h0 2 * 1440) := by
  intro sz
  refine xstart (by decide) (Nat.le_of_ble_eq_true rfl) (fun p e s m args below meth c ls C0 hr hlocks hin hsz hP hK hD hN hl => ?_)
  obtain ⟨hx, hb, hml, hown, htl⟩ := id C0
  have hl : lv_has ls 1 [(0, .ref h0)] := hl
  refine lv_aload_n hx hb dX4_logLong_0 rfl (lv_at hl 0 rfl) ?_
  refine yget (ci := 4) (k := 2) (v := .int (d.1 h0 2)) (C := RX4) (T := TX4) (N := 11) C0 hK hP hm_h0 hk_h0 (by decide) rfl inlX4 (by decide) mW345 (fun _ h9 => h9) rfl dX4_logLong_1 ?_
  refine lv_topi (fun z_1 ez_1 => ?_)
  refine lv_sipush (v := 1440) hx hb dX4_logLong_4 (by decide) ?_
  refine lv_imul hx hb dX4_logLong_7 ?_
  refine lv_topi (fun z_2 ez_2 => ?_)
  exact W.iret (v := z_2) hx hb hr (fun t ht hW => ⟨z_2, rfl, (by rw [ez_2, ez_1]), ht⟩) (fun q hq => by cases hq) dX4_logLong_8
theorem dX4_knows_0 : decode cX4_knows 0 = .ok (.iload_n 1, 1) := by decide +kernel
theorem dX4_knows_1 : decode cX4_knows 1 = .ok (.sipush 1440, 3) := by decide +kernel
theorem dX4_knows_4 : decode cX4_knows 4 = .ok (.irem, 1) := by decide +kernel
theorem dX4_knows_5 : decode cX4_knows 5 = .ok (.aload_n 0, 1) := by decide +kernel
theorem dX4_knows_6 : decode cX4_knows 6 = .ok (.getfield 9, 3) := by decide +kernel
theorem dX4_knows_9 : decode cX4_knows 9 = .ok (.iload_n 1, 1) := by decide +kernel
theorem dX4_knows_10 : decode cX4_knows 10 = .ok (.sipush 1440, 3) := by decide +kernel
theorem dX4_knows_13 : decode cX4_knows 13 = .ok (.idiv, 1) := by decide +kernel
theorem dX4_knows_14 : decode cX4_knows 14 = .ok (.invokestatic 53, 3) := by decide +kernel
theorem dX4_knows_17 : decode cX4_knows 17 = .ok (.if_icmp .ge 7, 3) := by decide +kernel
theorem dX4_knows_20 : decode cX4_knows 20 = .ok (.iconst 1, 1) := by decide +kernel
theorem dX4_knows_21 : decode cX4_knows 21 = .ok (.goto 4, 3) := by decide +kernel
theorem dX4_knows_24 : decode cX4_knows 24 = .ok (.iconst 0, 1) := by decide +kernel
theorem dX4_knows_25 : decode cX4_knows 25 = .ok (.ireturn, 1) := by decide +kernel
set_option maxHeartbeats 4000000 in
set_option maxRecDepth 100000 in
theorem g_X4_knows (l : Launch) (G : xG) (S : yS) (d : yD) (h0 : Nat) (p0 : Int32) (hSh : ySh S) (hm_h0 : h0 ∈ S.1) (hk_h0 : S.2.1 h0 = 4) : xRi l G yX4_knows cX4_knows 2 (some .boolean) 1 21 [.ref h0, .int p0] (yW G S d) (fun r => r = 0 ∨ r = 1) := by
  intro sz
  refine xstart (by decide) (Nat.le_of_ble_eq_true rfl) (fun p e s m args below meth c ls C0 hr hlocks hin hsz hP hK hD hN hl => ?_)
  obtain ⟨hx, hb, hml, hown, htl⟩ := id C0
  have hl : lv_has ls 2 [(0, .ref h0), (1, .int p0)] := hl
  refine lv_iload_n hx hb dX4_knows_0 rfl (lv_at hl 1 rfl) ?_
  refine lv_sipush (v := 1440) hx hb dX4_knows_1 (by decide) ?_
  refine lv_irem hx hb dX4_knows_4 (by decide) ?_
  refine lv_topi (fun z_1 ez_1 => ?_)
  refine lv_aload_n hx hb dX4_knows_5 rfl (lv_at hl 0 rfl) ?_
  refine yget (ci := 4) (k := 0) (v := .ref (S.2.2.1 h0 0)) (C := RX4) (T := TX4) (N := 11) C0 hK hP hm_h0 hk_h0 (by decide) rfl inlX4 (by decide) mW73 (fun _ h9 => h9) rfl dX4_knows_6 ?_
  obtain ⟨hmy_2, hky_2⟩ := ySh.f4_0 hSh _ hm_h0 hk_h0
  refine lv_iload_n hx hb dX4_knows_9 rfl (lv_at hl 1 rfl) ?_
  refine lv_sipush (v := 1440) hx hb dX4_knows_10 (by decide) ?_
  refine lv_idiv hx hb dX4_knows_13 (by decide) ?_
  refine lv_topi (fun z_3 ez_3 => ?_)
  refine ySNri (As := [.ref (S.2.2.1 h0 0), .int z_3]) (rest := [.int z_1]) C0 (g_X8_at l G S d (S.2.2.1 h0 0) 20 z_3 hmy_2 hky_2 (by decide) rfl rfl (by decide)) ok_X8_at (xN.n7 hN) ⟨Nat.le_of_ble_eq_true rfl, Nat.le_of_ble_eq_true rfl⟩ hP hD hK hN rfl hl.1 rfl (Nat.le_of_ble_eq_true rfl) ⟨Nat.le_of_ble_eq_true rfl, Nat.le_of_ble_eq_true rfl⟩ dX4_knows_14 (fun r_4 hr_4 => ?_)
  refine lv_icmp_ge (tgt := 24) hx hb dX4_knows_17 (by decide) (fun c_5 => ?_) (fun c_5 => ?_)
  · refine lv_iconst (v := 0) hx hb dX4_knows_24 (by decide) ?_
    exact W.zret (v := 0) (ty := .boolean) hx hb hr rfl (fun t ht hW => ⟨0, rfl, Or.inl rfl, ht⟩) (fun q hq => by cases hq) dX4_knows_25
  · refine lv_iconst (v := 1) hx hb dX4_knows_20 (by decide) ?_
    refine lv_goto (tgt := 25) hx hb dX4_knows_21 (by decide) ?_
    exact W.zret (v := 1) (ty := .boolean) hx hb hr rfl (fun t ht hW => ⟨1, rfl, Or.inr rfl, ht⟩) (fun q hq => by cases hq) dX4_knows_25
theorem dX2_keyOf_0 : decode cX2_keyOf 0 = .ok (.iload_n 0, 1) := by decide +kernel
theorem dX2_keyOf_1 : decode cX2_keyOf 1 = .ok (.ldc 18, 2) := by decide +kernel
theorem dX2_keyOf_3 : decode cX2_keyOf 3 = .ok (.imul, 1) := by decide +kernel
theorem dX2_keyOf_4 : decode cX2_keyOf 4 = .ok (.iload_n 1, 1) := by decide +kernel
theorem dX2_keyOf_5 : decode cX2_keyOf 5 = .ok (.iadd, 1) := by decide +kernel
theorem dX2_keyOf_6 : decode cX2_keyOf 6 = .ok (.bipush 8, 2) := by decide +kernel
theorem dX2_keyOf_8 : decode cX2_keyOf 8 = .ok (.imul, 1) := by decide +kernel
theorem dX2_keyOf_9 : decode cX2_keyOf 9 = .ok (.iload_n 2, 1) := by decide +kernel
theorem dX2_keyOf_10 : decode cX2_keyOf 10 = .ok (.iadd, 1) := by decide +kernel
theorem dX2_keyOf_11 : decode cX2_keyOf 11 = .ok (.ireturn, 1) := by decide +kernel
set_option maxHeartbeats 4000000 in
set_option maxRecDepth 100000 in
theorem g_X2_keyOf (l : Launch) (G : xG) (S : yS) (d : yD) (p0 : Int32) (p1 : Int32) (p2 : Int32) : xRi l G yX2_keyOf cX2_keyOf 3 (some .int) 0 0 [.int p0, .int p1, .int p2] (yW G S d) (fun r => True) := by
  intro sz
  refine xstart (by decide) (Nat.le_of_ble_eq_true rfl) (fun p e s m args below meth c ls C0 hr hlocks hin hsz hP hK hD hN hl => ?_)
  obtain ⟨hx, hb, hml, hown, htl⟩ := id C0
  have hl : lv_has ls 3 [(0, .int p0), (1, .int p1), (2, .int p2)] := hl
  refine lv_iload_n hx hb dX2_keyOf_0 rfl (lv_at hl 0 rfl) ?_
  refine lv_ldc (v := 129600) hx hb hown (htl (.constant RX2 18 (129600)) mW330) dX2_keyOf_1 ?_
  refine lv_imul hx hb dX2_keyOf_3 ?_
  refine lv_topi (fun z_1 ez_1 => ?_)
  refine lv_iload_n hx hb dX2_keyOf_4 rfl (lv_at hl 1 rfl) ?_
  refine lv_iadd hx hb dX2_keyOf_5 ?_
  refine lv_topi (fun z_2 ez_2 => ?_)
  refine lv_bipush (v := 8) hx hb dX2_keyOf_6 (by decide) ?_
  refine lv_imul hx hb dX2_keyOf_8 ?_
  refine lv_topi (fun z_3 ez_3 => ?_)
  refine lv_iload_n hx hb dX2_keyOf_9 rfl (lv_at hl 2 rfl) ?_
  refine lv_iadd hx hb dX2_keyOf_10 ?_
  refine lv_topi (fun z_4 ez_4 => ?_)
  exact W.iret (v := z_4) hx hb hr (fun t ht hW => ⟨z_4, rfl, trivial, ht⟩) (fun q hq => by cases hq) dX2_keyOf_11
theorem dX2_minuteAt_0 : decode cX2_minuteAt 0 = .ok (.aload_n 0, 1) := by decide +kernel
theorem dX2_minuteAt_1 : decode cX2_minuteAt 1 = .ok (.getfield 9, 3) := by decide +kernel
theorem dX2_minuteAt_4 : decode cX2_minuteAt 4 = .ok (.iload_n 1, 1) := by decide +kernel
theorem dX2_minuteAt_5 : decode cX2_minuteAt 5 = .ok (.invokestatic 19, 3) := by decide +kernel
theorem dX2_minuteAt_8 : decode cX2_minuteAt 8 = .ok (.bipush 8, 2) := by decide +kernel
theorem dX2_minuteAt_10 : decode cX2_minuteAt 10 = .ok (.idiv, 1) := by decide +kernel
theorem dX2_minuteAt_11 : decode cX2_minuteAt 11 = .ok (.ldc 18, 2) := by decide +kernel
theorem dX2_minuteAt_13 : decode cX2_minuteAt 13 = .ok (.irem, 1) := by decide +kernel
theorem dX2_minuteAt_14 : decode cX2_minuteAt 14 = .ok (.ireturn, 1) := by decide +kernel
set_option maxHeartbeats 4000000 in
set_option maxRecDepth 100000 in
theorem g_X2_minuteAt (l : Launch) (G : xG) (S : yS) (d : yD) (h0 : Nat) (p0 : Int32) (hSh : ySh S) (hm_h0 : h0 ∈ S.1) (hk_h0 : S.2.1 h0 = 2) : xRi l G yX2_minuteAt cX2_minuteAt 2 (some .int) 1 21 [.ref h0, .int p0] (yW G S d) (fun r => True) := by
  intro sz
  refine xstart (by decide) (Nat.le_of_ble_eq_true rfl) (fun p e s m args below meth c ls C0 hr hlocks hin hsz hP hK hD hN hl => ?_)
  obtain ⟨hx, hb, hml, hown, htl⟩ := id C0
  have hl : lv_has ls 2 [(0, .ref h0), (1, .int p0)] := hl
  refine lv_aload_n hx hb dX2_minuteAt_0 rfl (lv_at hl 0 rfl) ?_
  refine yget (ci := 2) (k := 0) (v := .ref (S.2.2.1 h0 0)) (C := RX2) (T := TX2) (N := 3) C0 hK hP hm_h0 hk_h0 (by decide) rfl inlX2 (by decide) mW62 (fun _ h9 => h9) rfl dX2_minuteAt_1 ?_
  obtain ⟨hmy_1, hky_1⟩ := ySh.f2_0 hSh _ hm_h0 hk_h0
  refine lv_iload_n hx hb dX2_minuteAt_4 rfl (lv_at hl 1 rfl) ?_
  refine ySNri (As := [.ref (S.2.2.1 h0 0), .int p0]) (rest := []) C0 (g_X8_at l G S d (S.2.2.1 h0 0) 16 p0 hmy_1 hky_1 (by decide) rfl rfl (by decide)) ok_X8_at (xN.n5 hN) ⟨Nat.le_of_ble_eq_true rfl, Nat.le_of_ble_eq_true rfl⟩ hP hD hK hN rfl hl.1 rfl (Nat.le_of_ble_eq_true rfl) ⟨Nat.le_of_ble_eq_true rfl, Nat.le_of_ble_eq_true rfl⟩ dX2_minuteAt_5 (fun r_2 hr_2 => ?_)
  refine lv_bipush (v := 8) hx hb dX2_minuteAt_8 (by decide) ?_
  refine lv_idiv hx hb dX2_minuteAt_10 (by decide) ?_
  refine lv_topi (fun z_3 ez_3 => ?_)
  refine lv_ldc (v := 129600) hx hb hown (htl (.constant RX2 18 (129600)) mW330) dX2_minuteAt_11 ?_
  refine lv_irem hx hb dX2_minuteAt_13 (by decide) ?_
  refine lv_topi (fun z_4 ez_4 => ?_)
  exact W.iret (v := z_4) hx hb hr (fun t ht hW => ⟨z_4, rfl, trivial, ht⟩) (fun q hq => by cases hq) dX2_minuteAt_14
theorem dX2_kindAt_0 : decode cX2_kindAt 0 = .ok (.aload_n 0, 1) := by decide +kernel
theorem dX2_kindAt_1 : decode cX2_kindAt 1 = .ok (.getfield 9, 3) := by decide +kernel
theorem dX2_kindAt_4 : decode cX2_kindAt 4 = .ok (.iload_n 1, 1) := by decide +kernel
theorem dX2_kindAt_5 : decode cX2_kindAt 5 = .ok (.invokestatic 19, 3) := by decide +kernel
theorem dX2_kindAt_8 : decode cX2_kindAt 8 = .ok (.bipush 8, 2) := by decide +kernel
theorem dX2_kindAt_10 : decode cX2_kindAt 10 = .ok (.irem, 1) := by decide +kernel
theorem dX2_kindAt_11 : decode cX2_kindAt 11 = .ok (.ireturn, 1) := by decide +kernel
set_option maxHeartbeats 4000000 in
set_option maxRecDepth 100000 in
theorem g_X2_kindAt (l : Launch) (G : xG) (S : yS) (d : yD) (h0 : Nat) (p0 : Int32) (hSh : ySh S) (hm_h0 : h0 ∈ S.1) (hk_h0 : S.2.1 h0 = 2) : xRi l G yX2_kindAt cX2_kindAt 2 (some .int) 1 21 [.ref h0, .int p0] (yW G S d) (fun r => True) := by
  intro sz
  refine xstart (by decide) (Nat.le_of_ble_eq_true rfl) (fun p e s m args below meth c ls C0 hr hlocks hin hsz hP hK hD hN hl => ?_)
  obtain ⟨hx, hb, hml, hown, htl⟩ := id C0
  have hl : lv_has ls 2 [(0, .ref h0), (1, .int p0)] := hl
  refine lv_aload_n hx hb dX2_kindAt_0 rfl (lv_at hl 0 rfl) ?_
  refine yget (ci := 2) (k := 0) (v := .ref (S.2.2.1 h0 0)) (C := RX2) (T := TX2) (N := 3) C0 hK hP hm_h0 hk_h0 (by decide) rfl inlX2 (by decide) mW62 (fun _ h9 => h9) rfl dX2_kindAt_1 ?_
  obtain ⟨hmy_1, hky_1⟩ := ySh.f2_0 hSh _ hm_h0 hk_h0
  refine lv_iload_n hx hb dX2_kindAt_4 rfl (lv_at hl 1 rfl) ?_
  refine ySNri (As := [.ref (S.2.2.1 h0 0), .int p0]) (rest := []) C0 (g_X8_at l G S d (S.2.2.1 h0 0) 16 p0 hmy_1 hky_1 (by decide) rfl rfl (by decide)) ok_X8_at (xN.n5 hN) ⟨Nat.le_of_ble_eq_true rfl, Nat.le_of_ble_eq_true rfl⟩ hP hD hK hN rfl hl.1 rfl (Nat.le_of_ble_eq_true rfl) ⟨Nat.le_of_ble_eq_true rfl, Nat.le_of_ble_eq_true rfl⟩ dX2_kindAt_5 (fun r_2 hr_2 => ?_)
  refine lv_bipush (v := 8) hx hb dX2_kindAt_8 (by decide) ?_
  refine lv_irem hx hb dX2_kindAt_10 (by decide) ?_
  refine lv_topi (fun z_3 ez_3 => ?_)
  exact W.iret (v := z_3) hx hb hr (fun t ht hW => ⟨z_3, rfl, trivial, ht⟩) (fun q hq => by cases hq) dX2_kindAt_11
