theorem dX4_logLong_0 : decode cX4_logLong 0 = .ok (.aload_n 0, 1) := by decide +kernel
theorem dX4_logLong_1 : decode cX4_logLong 1 = .ok (.getfield 24, 3) := by decide +kernel
theorem dX4_logLong_4 : decode cX4_logLong 4 = .ok (.sipush 1440, 3) := by decide +kernel
theorem dX4_logLong_7 : decode cX4_logLong 7 = .ok (.imul, 1) := by decide +kernel
theorem dX4_logLong_8 : decode cX4_logLong 8 = .ok (.ireturn, 1) := by decide +kernel
set_option maxHeartbeats 4000000 in
set_option maxRecDepth 100000 in
theorem g_X4_logLong (l : Launch) (G : xG) (S : yS) (d : yD) (h0 : Nat) (hSh : ySh S) (hm_h0 : h0 ∈ S.1) (hk_h0 : S.2.1 h0 = 4) : xRi l G yX4_logLong cX4_logLong 1 (some .int) 0 0 [.ref h0] (yW G S d) (fun r => r = d.1 h0 2 * 1440) := by
  intro sz
  refine xstart (by decide) (Nat.le_of_ble_eq_true rfl) (fun p e s m args below meth c ls C0 hr hlocks hin hsz hP hK hD hN hl => ?_)
  obtain ⟨hx, hb, hml, hown, htl⟩ := id C0
  have hl : lv_has ls 1 [(0, .ref h0)] := hl
  refine lv_aload_n hx hb dX4_logLong_0 rfl (lv_at hl 0 rfl) ?_
  refine yget (ci := 4) (k := 2) (v := .int (d.1 h0 2)) (C := RX4) (T := TX4) (N := 11) C0 hK hP hm_h0 hk_h0 (by decide) rfl inlX4 (by decide) mW345 (fun _ h9 => h9) rfl dX4_logLong_1 ?_
  refine lv_topi (fun z_1 ez_1 => ?_)
  refine lv_sipush (v := 1440) hx hb dX4_logLong_4 (by decide) ?_
  refine lv_imul hx hb dX4_logLong_7 ?_
  refine lv_topi (fun z_2 ez_2 => ?_)
  exact W.iret (v := z_2) hx hb hr (fun t ht hW => ⟨z_2, rfl, (by rw [ez_2, ez_1]), ht⟩) (fun q hq => by cases hq) dX4_logLong_8
theorem dX4_knows_0 : decode cX4_knows 0 = .ok (.iload_n 1, 1) := by decide +kernel
theorem dX4_knows_1 : decode cX4_knows 1 = .ok (.sipush 1440, 3) := by decide +kernel
theorem dX4_knows_4 : decode cX4_knows 4 = .ok (.irem, 1) := by decide +kernel
theorem dX4_knows_5 : decode cX4_knows 5 = .ok (.aload_n 0, 1) := by decide +kernel
theorem dX4_knows_6 : decode cX4_knows 6 = .ok (.getfield 9, 3) := by decide +kernel
theorem dX4_knows_9 : decode cX4_knows 9 = .ok (.iload_n 1, 1) := by decide +kernel
theorem dX4_knows_10 : decode cX4_knows 10 = .ok (.sipush 1440, 3) := by decide +kernel
theorem dX4_knows_13 : decode cX4_knows 13 = .ok (.idiv, 1) := by decide +kernel
theorem dX4_knows_14 : decode cX4_knows 14 = .ok (.invokestatic 53, 3) := by decide +kernel
theorem dX4_knows_17 : decode cX4_knows 17 = .ok (.if_icmp .ge 7, 3) := by decide +kernel
theorem dX4_knows_20 : decode cX4_knows 20 = .ok (.iconst 1, 1) := by decide +kernel
theorem dX4_knows_21 : decode cX4_knows 21 = .ok (.goto 4, 3) := by decide +kernel
theorem dX4_knows_24 : decode cX4_knows 24 = .ok (.iconst 0, 1) := by decide +kernel
theorem dX4_knows_25 : decode cX4_knows 25 = .ok (.ireturn, 1) := by decide +kernel
set_option maxHeartbeats 4000000 in
set_option maxRecDepth 100000 in
theorem g_X4_knows (l : Launch) (G : xG) (S : yS) (d : yD) (h0 : Nat) (p0 : Int32) (hSh : ySh S) (hm_h0 : h0 ∈ S.1) (hk_h0 : S.2.1 h0 = 4) : xRi l G yX4_knows cX4_knows 2 (some .boolean) 1 21 [.ref h0, .int p0] (yW G S d) (fun r => r = 0 ∨ r = 1) := by
  intro sz
  refine xstart (by decide) (Nat.le_of_ble_eq_true rfl) (fun p e s m args below meth c ls C0 hr hlocks hin hsz hP hK hD hN hl => ?_)
  obtain ⟨hx, hb, hml, hown, htl⟩ := id C0
  have hl : lv_has ls 2 [(0, .ref h0), (1, .int p0)] := hl
  refine lv_iload_n hx hb dX4_knows_0 rfl (lv_at hl 1 rfl) ?_
  refine lv_sipush (v := 1440) hx hb dX4_knows_1 (by decide) ?_
  refine lv_irem hx hb dX4_knows_4 (by decide) ?_
  refine lv_topi (fun z_1 ez_1 => ?_)
  refine lv_aload_n hx hb dX4_knows_5 rfl (lv_at hl 0 rfl) ?_
  refine yget (ci := 4) (k := 0) (v := .ref (S.2.2.1 h0 0)) (C := RX4) (T := TX4) (N := 11) C0 hK hP hm_h0 hk_h0 (by decide) rfl inlX4 (by decide) mW73 (fun _ h9 => h9) rfl dX4_knows_6 ?_
  obtain ⟨hmy_2, hky_2⟩ := ySh.f4_0 hSh _ hm_h0 hk_h0
  refine lv_iload_n hx hb dX4_knows_9 rfl (lv_at hl 1 rfl) ?_
  refine lv_sipush (v := 1440) hx hb dX4_knows_10 (by decide) ?_
  refine lv_idiv hx hb dX4_knows_13 (by decide) ?_
  refine lv_topi (fun z_3 ez_3 => ?_)
  refine ySNri (As := [.ref (S.2.2.1 h0 0), .int z_3]) (rest := [.int z_1]) C0 (g_X8_at l G S d (S.2.2.1 h0 0) 20 z_3 hmy_2 hky_2 (by decide) rfl rfl (by decide)) ok_X8_at (xN.n7 hN) ⟨Nat.le_of_ble_eq_true rfl, Nat.le_of_ble_eq_true rfl⟩ hP hD hK hN rfl hl.1 rfl (Nat.le_of_ble_eq_true rfl) ⟨Nat.le_of_ble_eq_true rfl, Nat.le_of_ble_eq_true rfl⟩ dX4_knows_14 (fun r_4 hr_4 => ?_)
  refine lv_icmp_ge (tgt := 24) hx hb dX4_knows_17 (by decide) (fun c_5 => ?_) (fun c_5 => ?_)
  · refine lv_iconst (v := 0) hx hb dX4_knows_24 (by decide) ?_
    exact W.zret (v := 0) (ty := .boolean) hx hb hr rfl (fun t ht hW => ⟨0, rfl, Or.inl rfl, ht⟩) (fun q hq => by cases hq) dX4_knows_25
  · refine lv_iconst (v := 1) hx hb dX4_knows_20 (by decide) ?_
    refine lv_goto (tgt := 25) hx hb dX4_knows_21 (by decide) ?_
    exact W.zret (v := 1) (ty := .boolean) hx hb hr rfl (fun t ht hW => ⟨1, rfl, Or.inr rfl, ht⟩) (fun q hq => by cases hq) dX4_knows_25
theorem dX2_keyOf_0 : decode cX2_keyOf 0 = .ok (.iload_n 0, 1) := by decide +kernel
theorem dX2_keyOf_1 : decode cX2_keyOf 1 = .ok (.ldc 18, 2) := by decide +kernel
theorem dX2_keyOf_3 : decode cX2_keyOf 3 = .ok (.imul, 1) := by decide +kernel
theorem dX2_keyOf_4 : decode cX2_keyOf 4 = .ok (.iload_n 1, 1) := by decide +kernel
theorem dX2_keyOf_5 : decode cX2_keyOf 5 = .ok (.iadd, 1) := by decide +kernel
theorem dX2_keyOf_6 : decode cX2_keyOf 6 = .ok (.bipush 8, 2) := by decide +kernel
theorem dX2_keyOf_8 : decode cX2_keyOf 8 = .ok (.imul, 1) := by decide +kernel
theorem dX2_keyOf_9 : decode cX2_keyOf 9 = .ok (.iload_n 2, 1) := by decide +kernel
theorem dX2_keyOf_10 : decode cX2_keyOf 10 = .ok (.iadd, 1) := by decide +kernel
theorem dX2_keyOf_11 : decode cX2_keyOf 11 = .ok (.ireturn, 1) := by decide +kernel
set_option maxHeartbeats 4000000 in
set_option maxRecDepth 100000 in
theorem g_X2_keyOf (l : Launch) (G : xG) (S : yS) (d : yD) (p0 : Int32) (p1 : Int32) (p2 : Int32) : xRi l G yX2_keyOf cX2_keyOf 3 (some .int) 0 0 [.int p0, .int p1, .int p2] (yW G S d) (fun r => True) := by
  intro sz
  refine xstart (by decide) (Nat.le_of_ble_eq_true rfl) (fun p e s m args below meth c ls C0 hr hlocks hin hsz hP hK hD hN hl => ?_)
  obtain ⟨hx, hb, hml, hown, htl⟩ := id C0
  have hl : lv_has ls 3 [(0, .int p0), (1, .int p1), (2, .int p2)] := hl
  refine lv_iload_n hx hb dX2_keyOf_0 rfl (lv_at hl 0 rfl) ?_
  refine lv_ldc (v := 129600) hx hb hown (htl (.constant RX2 18 (129600)) mW330) dX2_keyOf_1 ?_
  refine lv_imul hx hb dX2_keyOf_3 ?_
  refine lv_topi (fun z_1 ez_1 => ?_)
  refine lv_iload_n hx hb dX2_keyOf_4 rfl (lv_at hl 1 rfl) ?_
  refine lv_iadd hx hb dX2_keyOf_5 ?_
  refine lv_topi (fun z_2 ez_2 => ?_)
  refine lv_bipush (v := 8) hx hb dX2_keyOf_6 (by decide) ?_
  refine lv_imul hx hb dX2_keyOf_8 ?_
  refine lv_topi (fun z_3 ez_3 => ?_)
  refine lv_iload_n hx hb dX2_keyOf_9 rfl (lv_at hl 2 rfl) ?_
  refine lv_iadd hx hb dX2_keyOf_10 ?_
  refine lv_topi (fun z_4 ez_4 => ?_)
  exact W.iret (v := z_4) hx hb hr (fun t ht hW => ⟨z_4, rfl, trivial, ht⟩) (fun q hq => by cases hq) dX2_keyOf_11
theorem dX2_minuteAt_0 : decode cX2_minuteAt 0 = .ok (.aload_n 0, 1) := by decide +kernel
theorem dX2_minuteAt_1 : decode cX2_minuteAt 1 = .ok (.getfield 9, 3) := by decide +kernel
theorem dX2_minuteAt_4 : decode cX2_minuteAt 4 = .ok (.iload_n 1, 1) := by decide +kernel
theorem dX2_minuteAt_5 : decode cX2_minuteAt 5 = .ok (.invokestatic 19, 3) := by decide +kernel
theorem dX2_minuteAt_8 : decode cX2_minuteAt 8 = .ok (.bipush 8, 2) := by decide +kernel
theorem dX2_minuteAt_10 : decode cX2_minuteAt 10 = .ok (.idiv, 1) := by decide +kernel
theorem dX2_minuteAt_11 : decode cX2_minuteAt 11 = .ok (.ldc 18, 2) := by decide +kernel
theorem dX2_minuteAt_13 : decode cX2_minuteAt 13 = .ok (.irem, 1) := by decide +kernel
theorem dX2_minuteAt_14 : decode cX2_minuteAt 14 = .ok (.ireturn, 1) := by decide +kernel
set_option maxHeartbeats 4000000 in
set_option maxRecDepth 100000 in
theorem g_X2_minuteAt (l : Launch) (G : xG) (S : yS) (d : yD) (h0 : Nat) (p0 : Int32) (hSh : ySh S) (hm_h0 : h0 ∈ S.1) (hk_h0 : S.2.1 h0 = 2) : xRi l G yX2_minuteAt cX2_minuteAt 2 (some .int) 1 21 [.ref h0, .int p0] (yW G S d) (fun r => True) := by
  intro sz
  refine xstart (by decide) (Nat.le_of_ble_eq_true rfl) (fun p e s m args below meth c ls C0 hr hlocks hin hsz hP hK hD hN hl => ?_)
  obtain ⟨hx, hb, hml, hown, htl⟩ := id C0
  have hl : lv_has ls 2 [(0, .ref h0), (1, .int p0)] := hl
  refine lv_aload_n hx hb dX2_minuteAt_0 rfl (lv_at hl 0 rfl) ?_
  refine yget (ci := 2) (k := 0) (v := .ref (S.2.2.1 h0 0)) (C := RX2) (T := TX2) (N := 3) C0 hK hP hm_h0 hk_h0 (by decide) rfl inlX2 (by decide) mW62 (fun _ h9 => h9) rfl dX2_minuteAt_1 ?_
  obtain ⟨hmy_1, hky_1⟩ := ySh.f2_0 hSh _ hm_h0 hk_h0
  refine lv_iload_n hx hb dX2_minuteAt_4 rfl (lv_at hl 1 rfl) ?_
  refine ySNri (As := [.ref (S.2.2.1 h0 0), .int p0]) (rest := []) C0 (g_X8_at l G S d (S.2.2.1 h0 0) 16 p0 hmy_1 hky_1 (by decide) rfl rfl (by decide)) ok_X8_at (xN.n5 hN) ⟨Nat.le_of_ble_eq_true rfl, Nat.le_of_ble_eq_true rfl⟩ hP hD hK hN rfl hl.1 rfl (Nat.le_of_ble_eq_true rfl) ⟨Nat.le_of_ble_eq_true rfl, Nat.le_of_ble_eq_true rfl⟩ dX2_minuteAt_5 (fun r_2 hr_2 => ?_)
  refine lv_bipush (v := 8) hx hb dX2_minuteAt_8 (by decide) ?_
  refine lv_idiv hx hb dX2_minuteAt_10 (by decide) ?_
  refine lv_topi (fun z_3 ez_3 => ?_)
  refine lv_ldc (v := 129600) hx hb hown (htl (.constant RX2 18 (129600)) mW330) dX2_minuteAt_11 ?_
  refine lv_irem hx hb dX2_minuteAt_13 (by decide) ?_
  refine lv_topi (fun z_4 ez_4 => ?_)
  exact W.iret (v := z_4) hx hb hr (fun t ht hW => ⟨z_4, rfl, trivial, ht⟩) (fun q hq => by cases hq) dX2_minuteAt_14
theorem dX2_kindAt_0 : decode cX2_kindAt 0 = .ok (.aload_n 0, 1) := by decide +kernel
theorem dX2_kindAt_1 : decode cX2_kindAt 1 = .ok (.getfield 9, 3) := by decide +kernel
theorem dX2_kindAt_4 : decode cX2_kindAt 4 = .ok (.iload_n 1, 1) := by decide +kernel
theorem dX2_kindAt_5 : decode cX2_kindAt 5 = .ok (.invokestatic 19, 3) := by decide +kernel
theorem dX2_kindAt_8 : decode cX2_kindAt 8 = .ok (.bipush 8, 2) := by decide +kernel
theorem dX2_kindAt_10 : decode cX2_kindAt 10 = .ok (.irem, 1) := by decide +kernel
theorem dX2_kindAt_11 : decode cX2_kindAt 11 = .ok (.ireturn, 1) := by decide +kernel
set_option maxHeartbeats 4000000 in
set_option maxRecDepth 100000 in
theorem g_X2_kindAt (l : Launch) (G : xG) (S : yS) (d : yD) (h0 : Nat) (p0 : Int32) (hSh : ySh S) (hm_h0 : h0 ∈ S.1) (hk_h0 : S.2.1 h0 = 2) : xRi l G yX2_kindAt cX2_kindAt 2 (some .int) 1 21 [.ref h0, .int p0] (yW G S d) (fun r => True) := by
  intro sz
  refine xstart (by decide) (Nat.le_of_ble_eq_true rfl) (fun p e s m args below meth c ls C0 hr hlocks hin hsz hP hK hD hN hl => ?_)
  obtain ⟨hx, hb, hml, hown, htl⟩ := id C0
  have hl : lv_has ls 2 [(0, .ref h0), (1, .int p0)] := hl
  refine lv_aload_n hx hb dX2_kindAt_0 rfl (lv_at hl 0 rfl) ?_
  refine yget (ci := 2) (k := 0) (v := .ref (S.2.2.1 h0 0)) (C := RX2) (T := TX2) (N := 3) C0 hK hP hm_h0 hk_h0 (by decide) rfl inlX2 (by decide) mW62 (fun _ h9 => h9) rfl dX2_kindAt_1 ?_
  obtain ⟨hmy_1, hky_1⟩ := ySh.f2_0 hSh _ hm_h0 hk_h0
  refine lv_iload_n hx hb dX2_kindAt_4 rfl (lv_at hl 1 rfl) ?_
  refine ySNri (As := [.ref (S.2.2.1 h0 0), .int p0]) (rest := []) C0 (g_X8_at l G S d (S.2.2.1 h0 0) 16 p0 hmy_1 hky_1 (by decide) rfl rfl (by decide)) ok_X8_at (xN.n5 hN) ⟨Nat.le_of_ble_eq_true rfl, Nat.le_of_ble_eq_true rfl⟩ hP hD hK hN rfl hl.1 rfl (Nat.le_of_ble_eq_true rfl) ⟨Nat.le_of_ble_eq_true rfl, Nat.le_of_ble_eq_true rfl⟩ dX2_kindAt_5 (fun r_2 hr_2 => ?_)
  refine lv_bipush (v := 8) hx hb dX2_kindAt_8 (by decide) ?_
  refine lv_irem hx hb dX2_kindAt_10 (by decide) ?_
  refine lv_topi (fun z_3 ez_3 => ?_)
  exact W.iret (v := z_3) hx hb hr (fun t ht hW => ⟨z_3, rfl, trivial, ht⟩) (fun q hq => by cases hq) dX2_kindAt_11
theorem dX2_indexOf_0 : decode cX2_indexOf 0 = .ok (.iload_n 1, 1) := by decide +kernel
theorem dX2_indexOf_1 : decode cX2_indexOf 1 = .ok (.iload_n 2, 1) := by decide +kernel
theorem dX2_indexOf_2 : decode cX2_indexOf 2 = .ok (.iconst 0, 1) := by decide +kernel
theorem dX2_indexOf_3 : decode cX2_indexOf 3 = .ok (.invokestatic 23, 3) := by decide +kernel
theorem dX2_indexOf_6 : decode cX2_indexOf 6 = .ok (.istore_n 3, 1) := by decide +kernel
theorem dX2_indexOf_7 : decode cX2_indexOf 7 = .ok (.iconst 0, 1) := by decide +kernel
theorem dX2_indexOf_8 : decode cX2_indexOf 8 = .ok (.istore 4, 2) := by decide +kernel
theorem dX2_indexOf_10 : decode cX2_indexOf 10 = .ok (.aload_n 0, 1) := by decide +kernel
theorem dX2_indexOf_11 : decode cX2_indexOf 11 = .ok (.getfield 27, 3) := by decide +kernel
theorem dX2_indexOf_14 : decode cX2_indexOf 14 = .ok (.istore 5, 2) := by decide +kernel
theorem dX2_indexOf_16 : decode cX2_indexOf 16 = .ok (.iconst 0, 1) := by decide +kernel
theorem dX2_indexOf_17 : decode cX2_indexOf 17 = .ok (.istore 6, 2) := by decide +kernel
theorem dX2_indexOf_19 : decode cX2_indexOf 19 = .ok (.iload 6, 2) := by decide +kernel
theorem dX2_indexOf_21 : decode cX2_indexOf 21 = .ok (.bipush 32, 2) := by decide +kernel
theorem dX2_indexOf_23 : decode cX2_indexOf 23 = .ok (.if_icmp .ge 51, 3) := by decide +kernel
theorem dX2_indexOf_26 : decode cX2_indexOf 26 = .ok (.iload 4, 2) := by decide +kernel
theorem dX2_indexOf_28 : decode cX2_indexOf 28 = .ok (.iload 5, 2) := by decide +kernel
theorem dX2_indexOf_30 : decode cX2_indexOf 30 = .ok (.if_icmp .ge 44, 3) := by decide +kernel
theorem dX2_indexOf_33 : decode cX2_indexOf 33 = .ok (.iload 4, 2) := by decide +kernel
theorem dX2_indexOf_35 : decode cX2_indexOf 35 = .ok (.iload 5, 2) := by decide +kernel
theorem dX2_indexOf_37 : decode cX2_indexOf 37 = .ok (.iadd, 1) := by decide +kernel
theorem dX2_indexOf_38 : decode cX2_indexOf 38 = .ok (.iconst 2, 1) := by decide +kernel
theorem dX2_indexOf_39 : decode cX2_indexOf 39 = .ok (.idiv, 1) := by decide +kernel
theorem dX2_indexOf_40 : decode cX2_indexOf 40 = .ok (.istore 7, 2) := by decide +kernel
theorem dX2_indexOf_42 : decode cX2_indexOf 42 = .ok (.aload_n 0, 1) := by decide +kernel
theorem dX2_indexOf_43 : decode cX2_indexOf 43 = .ok (.getfield 9, 3) := by decide +kernel
theorem dX2_indexOf_46 : decode cX2_indexOf 46 = .ok (.iload 7, 2) := by decide +kernel
theorem dX2_indexOf_48 : decode cX2_indexOf 48 = .ok (.invokestatic 19, 3) := by decide +kernel
theorem dX2_indexOf_51 : decode cX2_indexOf 51 = .ok (.iload_n 3, 1) := by decide +kernel
theorem dX2_indexOf_52 : decode cX2_indexOf 52 = .ok (.if_icmp .ge 12, 3) := by decide +kernel
theorem dX2_indexOf_55 : decode cX2_indexOf 55 = .ok (.iload 7, 2) := by decide +kernel
theorem dX2_indexOf_57 : decode cX2_indexOf 57 = .ok (.iconst 1, 1) := by decide +kernel
theorem dX2_indexOf_58 : decode cX2_indexOf 58 = .ok (.iadd, 1) := by decide +kernel
theorem dX2_indexOf_59 : decode cX2_indexOf 59 = .ok (.istore 4, 2) := by decide +kernel
theorem dX2_indexOf_61 : decode cX2_indexOf 61 = .ok (.goto 7, 3) := by decide +kernel
theorem dX2_indexOf_64 : decode cX2_indexOf 64 = .ok (.iload 7, 2) := by decide +kernel
theorem dX2_indexOf_66 : decode cX2_indexOf 66 = .ok (.istore 5, 2) := by decide +kernel
theorem dX2_indexOf_68 : decode cX2_indexOf 68 = .ok (.iinc 6 1, 3) := by decide +kernel
theorem dX2_indexOf_71 : decode cX2_indexOf 71 = .ok (.goto (-52), 3) := by decide +kernel
theorem dX2_indexOf_74 : decode cX2_indexOf 74 = .ok (.iload 4, 2) := by decide +kernel
theorem dX2_indexOf_76 : decode cX2_indexOf 76 = .ok (.ireturn, 1) := by decide +kernel
set_option maxHeartbeats 4000000 in
set_option maxRecDepth 100000 in
theorem g_X2_indexOf (l : Launch) (G : xG) (S : yS) (d : yD) (h0 : Nat) (p0 : Int32) (p1 : Int32) (hSh : ySh S) (hm_h0 : h0 ∈ S.1) (hk_h0 : S.2.1 h0 = 2) : xRi l G yX2_indexOf cX2_indexOf 8 (some .int) 1 22 [.ref h0, .int p0, .int p1] (yW G S d) (fun r => -1073741824 ≤ r.toInt) := by
  intro sz
  refine xstart (by decide) (Nat.le_of_ble_eq_true rfl) (fun p e s m args below meth c ls C0 hr hlocks hin hsz hP hK hD hN hl => ?_)
  obtain ⟨hx, hb, hml, hown, htl⟩ := id C0
  have hl : lv_has ls 8 [(0, .ref h0), (1, .int p0), (2, .int p1)] := hl
  refine lv_iload_n hx hb dX2_indexOf_0 rfl (lv_at hl 1 rfl) ?_
  refine lv_iload_n hx hb dX2_indexOf_1 rfl (lv_at hl 2 rfl) ?_
  refine lv_iconst (v := 0) hx hb dX2_indexOf_2 (by decide) ?_
  refine ySri (As := [.int p0, .int p1, .int 0]) (rest := []) C0 (g_X2_keyOf l G S d p0 p1 0 ) ok_X2_keyOf (mW327 : Cond.methodLink RX2 23 yX2_keyOf ∈ wsT) ⟨Nat.le_of_ble_eq_true rfl, Nat.le_of_ble_eq_true rfl⟩ hP hD hK hN rfl hl.1 rfl (Nat.le_of_ble_eq_true rfl) ⟨Nat.le_of_ble_eq_true rfl, Nat.le_of_ble_eq_true rfl⟩ dX2_indexOf_3 (fun r_1 hr_1 => ?_)
  refine lv_istore_n (lv' := [(3, .int r_1), (0, .ref h0), (1, .int p0), (2, .int p1)]) hx hb dX2_indexOf_6 rfl hl (by decide) rfl (fun ls hl => ?_)
  refine lv_iconst (v := 0) hx hb dX2_indexOf_7 (by decide) ?_
  refine lv_istore (lv' := [(4, .int 0), (3, .int r_1), (0, .ref h0), (1, .int p0), (2, .int p1)]) hx hb dX2_indexOf_8 hl (by decide) rfl (fun ls hl => ?_)
  refine lv_aload_n hx hb dX2_indexOf_10 rfl (lv_at hl 2 rfl) ?_
  refine yget (ci := 2) (k := 2) (v := .int (d.1 h0 2)) (C := RX2) (T := TX2) (N := 3) C0 hK hP hm_h0 hk_h0 (by decide) rfl inlX2 (by decide) mW322 (fun _ h9 => h9) rfl dX2_indexOf_11 ?_
  refine lv_topi (fun z_2 ez_2 => ?_)
  refine lv_istore (lv' := [(5, .int z_2), (4, .int 0), (3, .int r_1), (0, .ref h0), (1, .int p0), (2, .int p1)]) hx hb dX2_indexOf_14 hl (by decide) rfl (fun ls hl => ?_)
  refine lv_iconst (v := 0) hx hb dX2_indexOf_16 (by decide) ?_
  refine lv_istore (lv' := [(6, .int 0), (5, .int z_2), (4, .int 0), (3, .int r_1), (0, .ref h0), (1, .int p0), (2, .int p1)]) hx hb dX2_indexOf_17 hl (by decide) rfl (fun ls hl => ?_)
  refine yloopR (σ := Int32 × Int32 × Int32) (fun x => (2147483647 - (x.2.2 : Int32).toInt).toNat) 19 (fun x ls => -1073741824 ≤ (x.1 : Int32).toInt ∧ lv_has ls 8 [(6, .int x.2.2), (5, .int x.2.1), (4, .int x.1), (3, .int r_1), (0, .ref h0), (1, .int p0), (2, .int p1)]) (fun x ls hl hnext_6 => ?_) (0, z_2, 0) ⟨(show -1073741824 ≤ (0 : Int32).toInt by decide +kernel), lv_sub hl [0, 1, 2, 3, 4, 5, 6] rfl⟩
  obtain ⟨v_3, v_4, v_5⟩ := x
  obtain ⟨hex_7, hl⟩ := hl
  have hex_7 : -1073741824 ≤ (v_3 : Int32).toInt := hex_7
  have hl : lv_has ls 8 [(6, .int v_5), (5, .int v_4), (4, .int v_3), (3, .int r_1), (0, .ref h0), (1, .int p0), (2, .int p1)] := hl
  refine lv_iload hx hb dX2_indexOf_19 (lv_at hl 0 rfl) ?_
  refine lv_bipush (v := 32) hx hb dX2_indexOf_21 (by decide) ?_
  refine lv_icmp_ge (tgt := 74) hx hb dX2_indexOf_23 (by decide) (fun c_8 => ?_) (fun c_8 => ?_)
  · refine lv_iload hx hb dX2_indexOf_74 (lv_at hl 2 rfl) ?_
    exact W.iret (v := v_3) hx hb hr (fun t ht hW => ⟨v_3, rfl, hex_7, ht⟩) (fun q hq => by cases hq) dX2_indexOf_76
  · refine lv_iload hx hb dX2_indexOf_26 (lv_at hl 2 rfl) ?_
    refine lv_iload hx hb dX2_indexOf_28 (lv_at hl 1 rfl) ?_
    refine lv_icmp_ge (tgt := 74) hx hb dX2_indexOf_30 (by decide) (fun c_9 => ?_) (fun c_9 => ?_)
    · refine lv_iload hx hb dX2_indexOf_74 (lv_at hl 2 rfl) ?_
      exact W.iret (v := v_3) hx hb hr (fun t ht hW => ⟨v_3, rfl, hex_7, ht⟩) (fun q hq => by cases hq) dX2_indexOf_76
    · refine lv_iload hx hb dX2_indexOf_33 (lv_at hl 2 rfl) ?_
      refine lv_iload hx hb dX2_indexOf_35 (lv_at hl 1 rfl) ?_
      refine lv_iadd hx hb dX2_indexOf_37 ?_
      refine lv_topi (fun z_10 ez_10 => ?_)
      refine lv_iconst (v := 2) hx hb dX2_indexOf_38 (by decide) ?_
      refine lv_idiv hx hb dX2_indexOf_39 (by decide) ?_
      refine lv_topi (fun z_11 ez_11 => ?_)
      refine lv_istore (lv' := [(7, .int z_11), (6, .int v_5), (5, .int v_4), (4, .int v_3), (3, .int r_1), (0, .ref h0), (1, .int p0), (2, .int p1)]) hx hb dX2_indexOf_40 hl (by decide) rfl (fun ls hl => ?_)
      refine lv_aload_n hx hb dX2_indexOf_42 rfl (lv_at hl 5 rfl) ?_
      refine yget (ci := 2) (k := 0) (v := .ref (S.2.2.1 h0 0)) (C := RX2) (T := TX2) (N := 3) C0 hK hP hm_h0 hk_h0 (by decide) rfl inlX2 (by decide) mW62 (fun _ h9 => h9) rfl dX2_indexOf_43 ?_
      obtain ⟨hmy_12, hky_12⟩ := ySh.f2_0 hSh _ hm_h0 hk_h0
      refine lv_iload hx hb dX2_indexOf_46 (lv_at hl 0 rfl) ?_
      refine ySNri (As := [.ref (S.2.2.1 h0 0), .int z_11]) (rest := []) C0 (g_X8_at l G S d (S.2.2.1 h0 0) 16 z_11 hmy_12 hky_12 (by decide) rfl rfl (by decide)) ok_X8_at (xN.n5 hN) ⟨Nat.le_of_ble_eq_true rfl, Nat.le_of_ble_eq_true rfl⟩ hP hD hK hN rfl hl.1 rfl (Nat.le_of_ble_eq_true rfl) ⟨Nat.le_of_ble_eq_true rfl, Nat.le_of_ble_eq_true rfl⟩ dX2_indexOf_48 (fun r_13 hr_13 => ?_)
      refine lv_iload_n hx hb dX2_indexOf_51 rfl (lv_at hl 4 rfl) ?_
      refine lv_icmp_ge (tgt := 64) hx hb dX2_indexOf_52 (by decide) (fun c_14 => ?_) (fun c_14 => ?_)
      · refine lv_iload hx hb dX2_indexOf_64 (lv_at hl 0 rfl) ?_
        refine lv_istore (lv' := [(5, .int z_11), (7, .int z_11), (6, .int v_5), (4, .int v_3), (3, .int r_1), (0, .ref h0), (1, .int p0), (2, .int p1)]) hx hb dX2_indexOf_66 hl (by decide) rfl (fun ls hl => ?_)
        refine lv_iinc (v := v_5 + 1) (lv' := [(6, .int (v_5 + 1)), (5, .int z_11), (7, .int z_11), (4, .int v_3), (3, .int r_1), (0, .ref h0), (1, .int p0), (2, .int p1)]) hx hb dX2_indexOf_68 hl (k := 2) rfl rfl (by decide) rfl (fun ls hl => ?_)
        refine lv_goto (tgt := 19) hx hb dX2_indexOf_71 (by decide) ?_
        exact hnext_6 (v_3, z_11, v_5 + 1) ls (xup c_8) ⟨hex_7, (lv_sub hl [0, 1, 3, 4, 5, 6, 7] rfl)⟩
      · refine lv_iload hx hb dX2_indexOf_55 (lv_at hl 0 rfl) ?_
        refine lv_iconst (v := 1) hx hb dX2_indexOf_57 (by decide) ?_
        refine lv_iadd hx hb dX2_indexOf_58 ?_
        refine lv_topi (fun z_16 ez_16 => ?_)
        refine lv_istore (lv' := [(4, .int z_16), (7, .int z_11), (6, .int v_5), (5, .int v_4), (3, .int r_1), (0, .ref h0), (1, .int p0), (2, .int p1)]) hx hb dX2_indexOf_59 hl (by decide) rfl (fun ls hl => ?_)
        refine lv_goto (tgt := 68) hx hb dX2_indexOf_61 (by decide) ?_
        refine lv_iinc (v := v_5 + 1) (lv' := [(6, .int (v_5 + 1)), (4, .int z_16), (7, .int z_11), (5, .int v_4), (3, .int r_1), (0, .ref h0), (1, .int p0), (2, .int p1)]) hx hb dX2_indexOf_68 hl (k := 2) rfl rfl (by decide) rfl (fun ls hl => ?_)
        refine lv_goto (tgt := 19) hx hb dX2_indexOf_71 (by decide) ?_
        exact hnext_6 (z_16, v_4, v_5 + 1) ls (xup c_8) ⟨(by rw [ez_16, ez_11]; exact xhalf _), (lv_sub hl [0, 3, 1, 4, 5, 6, 7] rfl)⟩
theorem dX2_manyIn_0 : decode cX2_manyIn 0 = .ok (.aload_n 0, 1) := by decide +kernel
theorem dX2_manyIn_1 : decode cX2_manyIn 1 = .ok (.iload_n 1, 1) := by decide +kernel
theorem dX2_manyIn_2 : decode cX2_manyIn 2 = .ok (.iload_n 2, 1) := by decide +kernel
theorem dX2_manyIn_3 : decode cX2_manyIn 3 = .ok (.iload_n 3, 1) := by decide +kernel
theorem dX2_manyIn_4 : decode cX2_manyIn 4 = .ok (.iadd, 1) := by decide +kernel
theorem dX2_manyIn_5 : decode cX2_manyIn 5 = .ok (.invokevirtual 31, 3) := by decide +kernel
theorem dX2_manyIn_8 : decode cX2_manyIn 8 = .ok (.aload_n 0, 1) := by decide +kernel
theorem dX2_manyIn_9 : decode cX2_manyIn 9 = .ok (.iload_n 1, 1) := by decide +kernel
theorem dX2_manyIn_10 : decode cX2_manyIn 10 = .ok (.iload_n 2, 1) := by decide +kernel
theorem dX2_manyIn_11 : decode cX2_manyIn 11 = .ok (.invokevirtual 31, 3) := by decide +kernel
theorem dX2_manyIn_14 : decode cX2_manyIn 14 = .ok (.isub, 1) := by decide +kernel
theorem dX2_manyIn_15 : decode cX2_manyIn 15 = .ok (.ireturn, 1) := by decide +kernel
set_option maxHeartbeats 4000000 in
set_option maxRecDepth 100000 in
theorem g_X2_manyIn (l : Launch) (G : xG) (S : yS) (d : yD) (h0 : Nat) (p0 : Int32) (p1 : Int32) (p2 : Int32) (hSh : ySh S) (hm_h0 : h0 ∈ S.1) (hk_h0 : S.2.1 h0 = 2) : xRi l G yX2_manyIn cX2_manyIn 4 (some .int) 2 49 [.ref h0, .int p0, .int p1, .int p2] (yW G S d) (fun r => True) := by
  intro sz
  refine xstart (by decide) (Nat.le_of_ble_eq_true rfl) (fun p e s m args below meth c ls C0 hr hlocks hin hsz hP hK hD hN hl => ?_)
  obtain ⟨hx, hb, hml, hown, htl⟩ := id C0
  have hl : lv_has ls 4 [(0, .ref h0), (1, .int p0), (2, .int p1), (3, .int p2)] := hl
  refine lv_aload_n hx hb dX2_manyIn_0 rfl (lv_at hl 0 rfl) ?_
  refine lv_iload_n hx hb dX2_manyIn_1 rfl (lv_at hl 1 rfl) ?_
  refine lv_iload_n hx hb dX2_manyIn_2 rfl (lv_at hl 2 rfl) ?_
  refine lv_iload_n hx hb dX2_manyIn_3 rfl (lv_at hl 3 rfl) ?_
  refine lv_iadd hx hb dX2_manyIn_4 ?_
  refine lv_topi (fun z_1 ez_1 => ?_)
  refine yVri (As := [.int p0, .int z_1]) (rest := []) C0 (g_X2_indexOf l G S d h0 p0 z_1 hSh hm_h0 hk_h0) ok_X2_indexOf (mW323 : Cond.methodLink RX2 31 yX2_indexOf ∈ wsT) ⟨Nat.le_of_ble_eq_true rfl, Nat.le_of_ble_eq_true rfl⟩ hP hD hK hN hm_h0 hk_h0 (by decide) rfl rfl rfl hl.1 rfl (Nat.le_of_ble_eq_true rfl) ⟨Nat.le_of_ble_eq_true rfl, Nat.le_of_ble_eq_true rfl⟩ dX2_manyIn_5 (fun r_2 hr_2 => ?_)
  refine lv_aload_n hx hb dX2_manyIn_8 rfl (lv_at hl 0 rfl) ?_
  refine lv_iload_n hx hb dX2_manyIn_9 rfl (lv_at hl 1 rfl) ?_
  refine lv_iload_n hx hb dX2_manyIn_10 rfl (lv_at hl 2 rfl) ?_
  refine yVri (As := [.int p0, .int p1]) (rest := [.int r_2]) C0 (g_X2_indexOf l G S d h0 p0 p1 hSh hm_h0 hk_h0) ok_X2_indexOf (mW323 : Cond.methodLink RX2 31 yX2_indexOf ∈ wsT) ⟨Nat.le_of_ble_eq_true rfl, Nat.le_of_ble_eq_true rfl⟩ hP hD hK hN hm_h0 hk_h0 (by decide) rfl rfl rfl hl.1 rfl (Nat.le_of_ble_eq_true rfl) ⟨Nat.le_of_ble_eq_true rfl, Nat.le_of_ble_eq_true rfl⟩ dX2_manyIn_11 (fun r_3 hr_3 => ?_)
  refine lv_isub hx hb dX2_manyIn_14 ?_
  refine lv_topi (fun z_4 ez_4 => ?_)
  exact W.iret (v := z_4) hx hb hr (fun t ht hW => ⟨z_4, rfl, trivial, ht⟩) (fun q hq => by cases hq) dX2_manyIn_15
theorem dX2_firstOf_0 : decode cX2_firstOf 0 = .ok (.aload_n 0, 1) := by decide +kernel
theorem dX2_firstOf_1 : decode cX2_firstOf 1 = .ok (.iload_n 1, 1) := by decide +kernel
theorem dX2_firstOf_2 : decode cX2_firstOf 2 = .ok (.ldc 18, 2) := by decide +kernel
theorem dX2_firstOf_4 : decode cX2_firstOf 4 = .ok (.invokevirtual 31, 3) := by decide +kernel
theorem dX2_firstOf_7 : decode cX2_firstOf 7 = .ok (.istore 4, 2) := by decide +kernel
theorem dX2_firstOf_9 : decode cX2_firstOf 9 = .ok (.aload_n 0, 1) := by decide +kernel
theorem dX2_firstOf_10 : decode cX2_firstOf 10 = .ok (.iload_n 1, 1) := by decide +kernel
theorem dX2_firstOf_11 : decode cX2_firstOf 11 = .ok (.iload_n 2, 1) := by decide +kernel
theorem dX2_firstOf_12 : decode cX2_firstOf 12 = .ok (.invokevirtual 31, 3) := by decide +kernel
theorem dX2_firstOf_15 : decode cX2_firstOf 15 = .ok (.istore 5, 2) := by decide +kernel
theorem dX2_firstOf_17 : decode cX2_firstOf 17 = .ok (.iload 5, 2) := by decide +kernel
theorem dX2_firstOf_19 : decode cX2_firstOf 19 = .ok (.iload 4, 2) := by decide +kernel
theorem dX2_firstOf_21 : decode cX2_firstOf 21 = .ok (.if_icmp .ge 26, 3) := by decide +kernel
theorem dX2_firstOf_24 : decode cX2_firstOf 24 = .ok (.aload_n 0, 1) := by decide +kernel
theorem dX2_firstOf_25 : decode cX2_firstOf 25 = .ok (.iload 5, 2) := by decide +kernel
theorem dX2_firstOf_27 : decode cX2_firstOf 27 = .ok (.invokevirtual 49, 3) := by decide +kernel
theorem dX2_firstOf_30 : decode cX2_firstOf 30 = .ok (.iload_n 3, 1) := by decide +kernel
theorem dX2_firstOf_31 : decode cX2_firstOf 31 = .ok (.if_icmp .ne 10, 3) := by decide +kernel
theorem dX2_firstOf_34 : decode cX2_firstOf 34 = .ok (.aload_n 0, 1) := by decide +kernel
theorem dX2_firstOf_35 : decode cX2_firstOf 35 = .ok (.iload 5, 2) := by decide +kernel
theorem dX2_firstOf_37 : decode cX2_firstOf 37 = .ok (.invokevirtual 53, 3) := by decide +kernel
theorem dX2_firstOf_40 : decode cX2_firstOf 40 = .ok (.ireturn, 1) := by decide +kernel
theorem dX2_firstOf_41 : decode cX2_firstOf 41 = .ok (.iinc 5 1, 3) := by decide +kernel
theorem dX2_firstOf_44 : decode cX2_firstOf 44 = .ok (.goto (-27), 3) := by decide +kernel
theorem dX2_firstOf_47 : decode cX2_firstOf 47 = .ok (.iconst (-1), 1) := by decide +kernel
theorem dX2_firstOf_48 : decode cX2_firstOf 48 = .ok (.ireturn, 1) := by decide +kernel
set_option maxHeartbeats 4000000 in
set_option maxRecDepth 100000 in
theorem g_X2_firstOf (l : Launch) (G : xG) (S : yS) (d : yD) (h0 : Nat) (p0 : Int32) (p1 : Int32) (p2 : Int32) (hSh : ySh S) (hm_h0 : h0 ∈ S.1) (hk_h0 : S.2.1 h0 = 2) : xRi l G yX2_firstOf cX2_firstOf 6 (some .int) 2 49 [.ref h0, .int p0, .int p1, .int p2] (yW G S d) (fun r => True) := by
  intro sz
  refine xstart (by decide) (Nat.le_of_ble_eq_true rfl) (fun p e s m args below meth c ls C0 hr hlocks hin hsz hP hK hD hN hl => ?_)
  obtain ⟨hx, hb, hml, hown, htl⟩ := id C0
  have hl : lv_has ls 6 [(0, .ref h0), (1, .int p0), (2, .int p1), (3, .int p2)] := hl
  refine lv_aload_n hx hb dX2_firstOf_0 rfl (lv_at hl 0 rfl) ?_
  refine lv_iload_n hx hb dX2_firstOf_1 rfl (lv_at hl 1 rfl) ?_
  refine lv_ldc (v := 129600) hx hb hown (htl (.constant RX2 18 (129600)) mW330) dX2_firstOf_2 ?_
  refine yVri (As := [.int p0, .int 129600]) (rest := []) C0 (g_X2_indexOf l G S d h0 p0 129600 hSh hm_h0 hk_h0) ok_X2_indexOf (mW323 : Cond.methodLink RX2 31 yX2_indexOf ∈ wsT) ⟨Nat.le_of_ble_eq_true rfl, Nat.le_of_ble_eq_true rfl⟩ hP hD hK hN hm_h0 hk_h0 (by decide) rfl rfl rfl hl.1 rfl (Nat.le_of_ble_eq_true rfl) ⟨Nat.le_of_ble_eq_true rfl, Nat.le_of_ble_eq_true rfl⟩ dX2_firstOf_4 (fun r_1 hr_1 => ?_)
  refine lv_istore (lv' := [(4, .int r_1), (0, .ref h0), (1, .int p0), (2, .int p1), (3, .int p2)]) hx hb dX2_firstOf_7 hl (by decide) rfl (fun ls hl => ?_)
  refine lv_aload_n hx hb dX2_firstOf_9 rfl (lv_at hl 1 rfl) ?_
  refine lv_iload_n hx hb dX2_firstOf_10 rfl (lv_at hl 2 rfl) ?_
  refine lv_iload_n hx hb dX2_firstOf_11 rfl (lv_at hl 3 rfl) ?_
  refine yVri (As := [.int p0, .int p1]) (rest := []) C0 (g_X2_indexOf l G S d h0 p0 p1 hSh hm_h0 hk_h0) ok_X2_indexOf (mW323 : Cond.methodLink RX2 31 yX2_indexOf ∈ wsT) ⟨Nat.le_of_ble_eq_true rfl, Nat.le_of_ble_eq_true rfl⟩ hP hD hK hN hm_h0 hk_h0 (by decide) rfl rfl rfl hl.1 rfl (Nat.le_of_ble_eq_true rfl) ⟨Nat.le_of_ble_eq_true rfl, Nat.le_of_ble_eq_true rfl⟩ dX2_firstOf_12 (fun r_2 hr_2 => ?_)
  refine lv_istore (lv' := [(5, .int r_2), (4, .int r_1), (0, .ref h0), (1, .int p0), (2, .int p1), (3, .int p2)]) hx hb dX2_firstOf_15 hl (by decide) rfl (fun ls hl => ?_)
  refine yloopR (σ := Int32) (fun x => (2147483647 - (x : Int32).toInt).toNat) 17 (fun x ls => lv_has ls 6 [(5, .int x), (4, .int r_1), (0, .ref h0), (1, .int p0), (2, .int p1), (3, .int p2)]) (fun x ls hl hnext_4 => ?_) r_2 (lv_sub hl [0, 1, 2, 3, 4, 5] rfl)
  obtain ⟨v_3, rfl⟩ : ∃ z, z = x := ⟨_, rfl⟩
  have hl : lv_has ls 6 [(5, .int v_3), (4, .int r_1), (0, .ref h0), (1, .int p0), (2, .int p1), (3, .int p2)] := hl
  refine lv_iload hx hb dX2_firstOf_17 (lv_at hl 0 rfl) ?_
  refine lv_iload hx hb dX2_firstOf_19 (lv_at hl 1 rfl) ?_
  refine lv_icmp_ge (tgt := 47) hx hb dX2_firstOf_21 (by decide) (fun c_6 => ?_) (fun c_6 => ?_)
  · refine lv_iconst (v := (-1)) hx hb dX2_firstOf_47 (by decide) ?_
    exact W.iret (v := (-1)) hx hb hr (fun t ht hW => ⟨(-1), rfl, trivial, ht⟩) (fun q hq => by cases hq) dX2_firstOf_48
  · refine lv_aload_n hx hb dX2_firstOf_24 rfl (lv_at hl 2 rfl) ?_
    refine lv_iload hx hb dX2_firstOf_25 (lv_at hl 0 rfl) ?_
    refine yVri (As := [.int v_3]) (rest := []) C0 (g_X2_kindAt l G S d h0 v_3 hSh hm_h0 hk_h0) ok_X2_kindAt (mW598 : Cond.methodLink RX2 49 yX2_kindAt ∈ wsT) ⟨Nat.le_of_ble_eq_true rfl, Nat.le_of_ble_eq_true rfl⟩ hP hD hK hN hm_h0 hk_h0 (by decide) rfl rfl rfl hl.1 rfl (Nat.le_of_ble_eq_true rfl) ⟨Nat.le_of_ble_eq_true rfl, Nat.le_of_ble_eq_true rfl⟩ dX2_firstOf_27 (fun r_7 hr_7 => ?_)
    refine lv_iload_n hx hb dX2_firstOf_30 rfl (lv_at hl 5 rfl) ?_
    refine lv_icmp_ne (tgt := 41) hx hb dX2_firstOf_31 (by decide) (fun c_8 => ?_) (fun c_8 => ?_)
    · refine lv_iinc (v := v_3 + 1) (lv' := [(5, .int (v_3 + 1)), (4, .int r_1), (0, .ref h0), (1, .int p0), (2, .int p1), (3, .int p2)]) hx hb dX2_firstOf_41 hl (k := 0) rfl rfl (by decide) rfl (fun ls hl => ?_)
      refine lv_goto (tgt := 17) hx hb dX2_firstOf_44 (by decide) ?_
      exact hnext_4 (v_3 + 1) ls (xup c_6) (lv_sub hl [0, 1, 2, 3, 4, 5] rfl)
    · refine lv_aload_n hx hb dX2_firstOf_34 rfl (lv_at hl 2 rfl) ?_
      refine lv_iload hx hb dX2_firstOf_35 (lv_at hl 0 rfl) ?_
      refine yVri (As := [.int v_3]) (rest := []) C0 (g_X2_minuteAt l G S d h0 v_3 hSh hm_h0 hk_h0) ok_X2_minuteAt (mW602 : Cond.methodLink RX2 53 yX2_minuteAt ∈ wsT) ⟨Nat.le_of_ble_eq_true rfl, Nat.le_of_ble_eq_true rfl⟩ hP hD hK hN hm_h0 hk_h0 (by decide) rfl rfl rfl hl.1 rfl (Nat.le_of_ble_eq_true rfl) ⟨Nat.le_of_ble_eq_true rfl, Nat.le_of_ble_eq_true rfl⟩ dX2_firstOf_37 (fun r_10 hr_10 => ?_)
      exact W.iret (v := r_10) hx hb hr (fun t ht hW => ⟨r_10, rfl, trivial, ht⟩) (fun q hq => by cases hq) dX2_firstOf_40
theorem dX2_stateAt_0 : decode cX2_stateAt 0 = .ok (.aload_n 0, 1) := by decide +kernel
theorem dX2_stateAt_1 : decode cX2_stateAt 1 = .ok (.iload_n 1, 1) := by decide +kernel
theorem dX2_stateAt_2 : decode cX2_stateAt 2 = .ok (.iconst 0, 1) := by decide +kernel
theorem dX2_stateAt_3 : decode cX2_stateAt 3 = .ok (.invokevirtual 31, 3) := by decide +kernel
theorem dX2_stateAt_6 : decode cX2_stateAt 6 = .ok (.istore_n 3, 1) := by decide +kernel
theorem dX2_stateAt_7 : decode cX2_stateAt 7 = .ok (.aload_n 0, 1) := by decide +kernel
theorem dX2_stateAt_8 : decode cX2_stateAt 8 = .ok (.iload_n 1, 1) := by decide +kernel
theorem dX2_stateAt_9 : decode cX2_stateAt 9 = .ok (.iload_n 2, 1) := by decide +kernel
theorem dX2_stateAt_10 : decode cX2_stateAt 10 = .ok (.iconst 1, 1) := by decide +kernel
theorem dX2_stateAt_11 : decode cX2_stateAt 11 = .ok (.iadd, 1) := by decide +kernel
theorem dX2_stateAt_12 : decode cX2_stateAt 12 = .ok (.invokevirtual 31, 3) := by decide +kernel
theorem dX2_stateAt_15 : decode cX2_stateAt 15 = .ok (.iconst 1, 1) := by decide +kernel
theorem dX2_stateAt_16 : decode cX2_stateAt 16 = .ok (.isub, 1) := by decide +kernel
theorem dX2_stateAt_17 : decode cX2_stateAt 17 = .ok (.istore 4, 2) := by decide +kernel
theorem dX2_stateAt_19 : decode cX2_stateAt 19 = .ok (.iload 4, 2) := by decide +kernel
theorem dX2_stateAt_21 : decode cX2_stateAt 21 = .ok (.iload_n 3, 1) := by decide +kernel
theorem dX2_stateAt_22 : decode cX2_stateAt 22 = .ok (.if_icmp .lt 35, 3) := by decide +kernel
theorem dX2_stateAt_25 : decode cX2_stateAt 25 = .ok (.aload_n 0, 1) := by decide +kernel
theorem dX2_stateAt_26 : decode cX2_stateAt 26 = .ok (.iload 4, 2) := by decide +kernel
theorem dX2_stateAt_28 : decode cX2_stateAt 28 = .ok (.invokevirtual 49, 3) := by decide +kernel
theorem dX2_stateAt_31 : decode cX2_stateAt 31 = .ok (.iconst 3, 1) := by decide +kernel
theorem dX2_stateAt_32 : decode cX2_stateAt 32 = .ok (.bipush 6, 2) := by decide +kernel
theorem dX2_stateAt_34 : decode cX2_stateAt 34 = .ok (.invokestatic 56, 3) := by decide +kernel
theorem dX2_stateAt_37 : decode cX2_stateAt 37 = .ok (.ifCond .eq 14, 3) := by decide +kernel
theorem dX2_stateAt_40 : decode cX2_stateAt 40 = .ok (.aload_n 0, 1) := by decide +kernel
theorem dX2_stateAt_41 : decode cX2_stateAt 41 = .ok (.iload 4, 2) := by decide +kernel
theorem dX2_stateAt_43 : decode cX2_stateAt 43 = .ok (.invokevirtual 49, 3) := by decide +kernel
theorem dX2_stateAt_46 : decode cX2_stateAt 46 = .ok (.iconst 3, 1) := by decide +kernel
theorem dX2_stateAt_47 : decode cX2_stateAt 47 = .ok (.isub, 1) := by decide +kernel
theorem dX2_stateAt_48 : decode cX2_stateAt 48 = .ok (.iconst 1, 1) := by decide +kernel
theorem dX2_stateAt_49 : decode cX2_stateAt 49 = .ok (.iadd, 1) := by decide +kernel
theorem dX2_stateAt_50 : decode cX2_stateAt 50 = .ok (.ireturn, 1) := by decide +kernel
theorem dX2_stateAt_51 : decode cX2_stateAt 51 = .ok (.iinc 4 (-1), 3) := by decide +kernel
theorem dX2_stateAt_54 : decode cX2_stateAt 54 = .ok (.goto (-35), 3) := by decide +kernel
theorem dX2_stateAt_57 : decode cX2_stateAt 57 = .ok (.iconst 0, 1) := by decide +kernel
theorem dX2_stateAt_58 : decode cX2_stateAt 58 = .ok (.ireturn, 1) := by decide +kernel
set_option maxHeartbeats 4000000 in
set_option maxRecDepth 100000 in
theorem g_X2_stateAt (l : Launch) (G : xG) (S : yS) (d : yD) (h0 : Nat) (p0 : Int32) (p1 : Int32) (hSh : ySh S) (hm_h0 : h0 ∈ S.1) (hk_h0 : S.2.1 h0 = 2) : xRi l G yX2_stateAt cX2_stateAt 5 (some .int) 2 49 [.ref h0, .int p0, .int p1] (yW G S d) (fun r => True) := by
  intro sz
  refine xstart (by decide) (Nat.le_of_ble_eq_true rfl) (fun p e s m args below meth c ls C0 hr hlocks hin hsz hP hK hD hN hl => ?_)
  obtain ⟨hx, hb, hml, hown, htl⟩ := id C0
  have hl : lv_has ls 5 [(0, .ref h0), (1, .int p0), (2, .int p1)] := hl
  refine lv_aload_n hx hb dX2_stateAt_0 rfl (lv_at hl 0 rfl) ?_
  refine lv_iload_n hx hb dX2_stateAt_1 rfl (lv_at hl 1 rfl) ?_
  refine lv_iconst (v := 0) hx hb dX2_stateAt_2 (by decide) ?_
  refine yVri (As := [.int p0, .int 0]) (rest := []) C0 (g_X2_indexOf l G S d h0 p0 0 hSh hm_h0 hk_h0) ok_X2_indexOf (mW323 : Cond.methodLink RX2 31 yX2_indexOf ∈ wsT) ⟨Nat.le_of_ble_eq_true rfl, Nat.le_of_ble_eq_true rfl⟩ hP hD hK hN hm_h0 hk_h0 (by decide) rfl rfl rfl hl.1 rfl (Nat.le_of_ble_eq_true rfl) ⟨Nat.le_of_ble_eq_true rfl, Nat.le_of_ble_eq_true rfl⟩ dX2_stateAt_3 (fun r_1 hr_1 => ?_)
  refine lv_istore_n (lv' := [(3, .int r_1), (0, .ref h0), (1, .int p0), (2, .int p1)]) hx hb dX2_stateAt_6 rfl hl (by decide) rfl (fun ls hl => ?_)
  refine lv_aload_n hx hb dX2_stateAt_7 rfl (lv_at hl 1 rfl) ?_
  refine lv_iload_n hx hb dX2_stateAt_8 rfl (lv_at hl 2 rfl) ?_
  refine lv_iload_n hx hb dX2_stateAt_9 rfl (lv_at hl 3 rfl) ?_
  refine lv_iconst (v := 1) hx hb dX2_stateAt_10 (by decide) ?_
  refine lv_iadd hx hb dX2_stateAt_11 ?_
  refine lv_topi (fun z_2 ez_2 => ?_)
  refine yVri (As := [.int p0, .int z_2]) (rest := []) C0 (g_X2_indexOf l G S d h0 p0 z_2 hSh hm_h0 hk_h0) ok_X2_indexOf (mW323 : Cond.methodLink RX2 31 yX2_indexOf ∈ wsT) ⟨Nat.le_of_ble_eq_true rfl, Nat.le_of_ble_eq_true rfl⟩ hP hD hK hN hm_h0 hk_h0 (by decide) rfl rfl rfl hl.1 rfl (Nat.le_of_ble_eq_true rfl) ⟨Nat.le_of_ble_eq_true rfl, Nat.le_of_ble_eq_true rfl⟩ dX2_stateAt_12 (fun r_3 hr_3 => ?_)
  refine lv_iconst (v := 1) hx hb dX2_stateAt_15 (by decide) ?_
  refine lv_isub hx hb dX2_stateAt_16 ?_
  refine lv_topi (fun z_4 ez_4 => ?_)
  refine lv_istore (lv' := [(4, .int z_4), (3, .int r_1), (0, .ref h0), (1, .int p0), (2, .int p1)]) hx hb dX2_stateAt_17 hl (by decide) rfl (fun ls hl => ?_)
  refine yloopR (σ := Int32) (fun x => ((x : Int32).toInt + 2147483648).toNat) 19 (fun x ls => lv_has ls 5 [(4, .int x), (3, .int r_1), (0, .ref h0), (1, .int p0), (2, .int p1)]) (fun x ls hl hnext_6 => ?_) z_4 (lv_sub hl [0, 1, 2, 3, 4] rfl)
  obtain ⟨v_5, rfl⟩ : ∃ z, z = x := ⟨_, rfl⟩
  have hl : lv_has ls 5 [(4, .int v_5), (3, .int r_1), (0, .ref h0), (1, .int p0), (2, .int p1)] := hl
  refine lv_iload hx hb dX2_stateAt_19 (lv_at hl 0 rfl) ?_
  refine lv_iload_n hx hb dX2_stateAt_21 rfl (lv_at hl 1 rfl) ?_
  refine lv_icmp_lt (tgt := 57) hx hb dX2_stateAt_22 (by decide) (fun c_8 => ?_) (fun c_8 => ?_)
  · refine lv_iconst (v := 0) hx hb dX2_stateAt_57 (by decide) ?_
    exact W.iret (v := 0) hx hb hr (fun t ht hW => ⟨0, rfl, trivial, ht⟩) (fun q hq => by cases hq) dX2_stateAt_58
  · refine lv_aload_n hx hb dX2_stateAt_25 rfl (lv_at hl 2 rfl) ?_
    refine lv_iload hx hb dX2_stateAt_26 (lv_at hl 0 rfl) ?_
    refine yVri (As := [.int v_5]) (rest := []) C0 (g_X2_kindAt l G S d h0 v_5 hSh hm_h0 hk_h0) ok_X2_kindAt (mW598 : Cond.methodLink RX2 49 yX2_kindAt ∈ wsT) ⟨Nat.le_of_ble_eq_true rfl, Nat.le_of_ble_eq_true rfl⟩ hP hD hK hN hm_h0 hk_h0 (by decide) rfl rfl rfl hl.1 rfl (Nat.le_of_ble_eq_true rfl) ⟨Nat.le_of_ble_eq_true rfl, Nat.le_of_ble_eq_true rfl⟩ dX2_stateAt_28 (fun r_9 hr_9 => ?_)
    refine lv_iconst (v := 3) hx hb dX2_stateAt_31 (by decide) ?_
    refine lv_bipush (v := 6) hx hb dX2_stateAt_32 (by decide) ?_
    refine ySNri (As := [.int r_9, .int 3, .int 6]) (rest := []) C0 (g_X8_within l G S d r_9 3 6 ) ok_X8_within (xN.n10 hN) ⟨Nat.le_of_ble_eq_true rfl, Nat.le_of_ble_eq_true rfl⟩ hP hD hK hN rfl hl.1 rfl (Nat.le_of_ble_eq_true rfl) ⟨Nat.le_of_ble_eq_true rfl, Nat.le_of_ble_eq_true rfl⟩ dX2_stateAt_34 (fun r_10 hr_10 => ?_)
    refine lv_if_eq (tgt := 51) hx hb dX2_stateAt_37 (by decide) (fun c_11 => ?_) (fun c_11 => ?_)
    · refine lv_iinc (v := v_5 + (-1)) (lv' := [(4, .int (v_5 + (-1))), (3, .int r_1), (0, .ref h0), (1, .int p0), (2, .int p1)]) hx hb dX2_stateAt_51 hl (k := 0) rfl rfl (by decide) rfl (fun ls hl => ?_)
      refine lv_goto (tgt := 19) hx hb dX2_stateAt_54 (by decide) ?_
      exact hnext_6 (v_5 + (-1)) ls (xdn c_8 (fun q => by have h := hr_1; omega)) (lv_sub hl [0, 1, 2, 3, 4] rfl)
    · refine lv_aload_n hx hb dX2_stateAt_40 rfl (lv_at hl 2 rfl) ?_
      refine lv_iload hx hb dX2_stateAt_41 (lv_at hl 0 rfl) ?_
      refine yVri (As := [.int v_5]) (rest := []) C0 (g_X2_kindAt l G S d h0 v_5 hSh hm_h0 hk_h0) ok_X2_kindAt (mW598 : Cond.methodLink RX2 49 yX2_kindAt ∈ wsT) ⟨Nat.le_of_ble_eq_true rfl, Nat.le_of_ble_eq_true rfl⟩ hP hD hK hN hm_h0 hk_h0 (by decide) rfl rfl rfl hl.1 rfl (Nat.le_of_ble_eq_true rfl) ⟨Nat.le_of_ble_eq_true rfl, Nat.le_of_ble_eq_true rfl⟩ dX2_stateAt_43 (fun r_13 hr_13 => ?_)
      refine lv_iconst (v := 3) hx hb dX2_stateAt_46 (by decide) ?_
      refine lv_isub hx hb dX2_stateAt_47 ?_
      refine lv_topi (fun z_14 ez_14 => ?_)
      refine lv_iconst (v := 1) hx hb dX2_stateAt_48 (by decide) ?_
      refine lv_iadd hx hb dX2_stateAt_49 ?_
      refine lv_topi (fun z_15 ez_15 => ?_)
      exact W.iret (v := z_15) hx hb hr (fun t ht hW => ⟨z_15, rfl, trivial, ht⟩) (fun q hq => by cases hq) dX2_stateAt_50
theorem dX4_unknownMinutes_0 : decode cX4_unknownMinutes 0 = .ok (.iconst 0, 1) := by decide +kernel
theorem dX4_unknownMinutes_1 : decode cX4_unknownMinutes 1 = .ok (.istore_n 1, 1) := by decide +kernel
theorem dX4_unknownMinutes_2 : decode cX4_unknownMinutes 2 = .ok (.iconst 0, 1) := by decide +kernel
theorem dX4_unknownMinutes_3 : decode cX4_unknownMinutes 3 = .ok (.istore_n 2, 1) := by decide +kernel
theorem dX4_unknownMinutes_4 : decode cX4_unknownMinutes 4 = .ok (.iload_n 2, 1) := by decide +kernel
theorem dX4_unknownMinutes_5 : decode cX4_unknownMinutes 5 = .ok (.aload_n 0, 1) := by decide +kernel
theorem dX4_unknownMinutes_6 : decode cX4_unknownMinutes 6 = .ok (.getfield 24, 3) := by decide +kernel
theorem dX4_unknownMinutes_9 : decode cX4_unknownMinutes 9 = .ok (.if_icmp .ge 28, 3) := by decide +kernel
theorem dX4_unknownMinutes_12 : decode cX4_unknownMinutes 12 = .ok (.iload_n 1, 1) := by decide +kernel
theorem dX4_unknownMinutes_13 : decode cX4_unknownMinutes 13 = .ok (.sipush 1440, 3) := by decide +kernel
theorem dX4_unknownMinutes_16 : decode cX4_unknownMinutes 16 = .ok (.iconst 0, 1) := by decide +kernel
theorem dX4_unknownMinutes_17 : decode cX4_unknownMinutes 17 = .ok (.aload_n 0, 1) := by decide +kernel
theorem dX4_unknownMinutes_18 : decode cX4_unknownMinutes 18 = .ok (.getfield 9, 3) := by decide +kernel
theorem dX4_unknownMinutes_21 : decode cX4_unknownMinutes 21 = .ok (.iload_n 2, 1) := by decide +kernel
theorem dX4_unknownMinutes_22 : decode cX4_unknownMinutes 22 = .ok (.invokestatic 53, 3) := by decide +kernel
theorem dX4_unknownMinutes_25 : decode cX4_unknownMinutes 25 = .ok (.invokestatic 57, 3) := by decide +kernel
theorem dX4_unknownMinutes_28 : decode cX4_unknownMinutes 28 = .ok (.isub, 1) := by decide +kernel
theorem dX4_unknownMinutes_29 : decode cX4_unknownMinutes 29 = .ok (.iadd, 1) := by decide +kernel
theorem dX4_unknownMinutes_30 : decode cX4_unknownMinutes 30 = .ok (.istore_n 1, 1) := by decide +kernel
theorem dX4_unknownMinutes_31 : decode cX4_unknownMinutes 31 = .ok (.iinc 2 1, 3) := by decide +kernel
theorem dX4_unknownMinutes_34 : decode cX4_unknownMinutes 34 = .ok (.goto (-30), 3) := by decide +kernel
theorem dX4_unknownMinutes_37 : decode cX4_unknownMinutes 37 = .ok (.iload_n 1, 1) := by decide +kernel
theorem dX4_unknownMinutes_38 : decode cX4_unknownMinutes 38 = .ok (.ireturn, 1) := by decide +kernel
set_option maxHeartbeats 4000000 in
set_option maxRecDepth 100000 in
theorem g_X4_unknownMinutes (l : Launch) (G : xG) (S : yS) (d : yD) (h0 : Nat) (hSh : ySh S) (hm_h0 : h0 ∈ S.1) (hk_h0 : S.2.1 h0 = 4) : xRi l G yX4_unknownMinutes cX4_unknownMinutes 3 (some .int) 1 21 [.ref h0] (yW G S d) (fun r => True) := by
  intro sz
  refine xstart (by decide) (Nat.le_of_ble_eq_true rfl) (fun p e s m args below meth c ls C0 hr hlocks hin hsz hP hK hD hN hl => ?_)
  obtain ⟨hx, hb, hml, hown, htl⟩ := id C0
  have hl : lv_has ls 3 [(0, .ref h0)] := hl
  refine lv_iconst (v := 0) hx hb dX4_unknownMinutes_0 (by decide) ?_
  refine lv_istore_n (lv' := [(1, .int 0), (0, .ref h0)]) hx hb dX4_unknownMinutes_1 rfl hl (by decide) rfl (fun ls hl => ?_)
  refine lv_iconst (v := 0) hx hb dX4_unknownMinutes_2 (by decide) ?_
  refine lv_istore_n (lv' := [(2, .int 0), (1, .int 0), (0, .ref h0)]) hx hb dX4_unknownMinutes_3 rfl hl (by decide) rfl (fun ls hl => ?_)
  refine yloopR (σ := Int32 × Int32) (fun x => (2147483647 - (x.2 : Int32).toInt).toNat) 4 (fun x ls => lv_has ls 3 [(2, .int x.2), (1, .int x.1), (0, .ref h0)]) (fun x ls hl hnext_3 => ?_) (0, 0) (lv_sub hl [0, 1, 2] rfl)
  obtain ⟨v_1, v_2⟩ := x
  have hl : lv_has ls 3 [(2, .int v_2), (1, .int v_1), (0, .ref h0)] := hl
  refine lv_iload_n hx hb dX4_unknownMinutes_4 rfl (lv_at hl 0 rfl) ?_
  refine lv_aload_n hx hb dX4_unknownMinutes_5 rfl (lv_at hl 2 rfl) ?_
  refine yget (ci := 4) (k := 2) (v := .int (d.1 h0 2)) (C := RX4) (T := TX4) (N := 11) C0 hK hP hm_h0 hk_h0 (by decide) rfl inlX4 (by decide) mW345 (fun _ h9 => h9) rfl dX4_unknownMinutes_6 ?_
  refine lv_topi (fun z_5 ez_5 => ?_)
  refine lv_icmp_ge (tgt := 37) hx hb dX4_unknownMinutes_9 (by decide) (fun c_6 => ?_) (fun c_6 => ?_)
  · refine lv_iload_n hx hb dX4_unknownMinutes_37 rfl (lv_at hl 1 rfl) ?_
    exact W.iret (v := v_1) hx hb hr (fun t ht hW => ⟨v_1, rfl, trivial, ht⟩) (fun q hq => by cases hq) dX4_unknownMinutes_38
  · refine lv_iload_n hx hb dX4_unknownMinutes_12 rfl (lv_at hl 1 rfl) ?_
    refine lv_sipush (v := 1440) hx hb dX4_unknownMinutes_13 (by decide) ?_
    refine lv_iconst (v := 0) hx hb dX4_unknownMinutes_16 (by decide) ?_
    refine lv_aload_n hx hb dX4_unknownMinutes_17 rfl (lv_at hl 2 rfl) ?_
    refine yget (ci := 4) (k := 0) (v := .ref (S.2.2.1 h0 0)) (C := RX4) (T := TX4) (N := 11) C0 hK hP hm_h0 hk_h0 (by decide) rfl inlX4 (by decide) mW73 (fun _ h9 => h9) rfl dX4_unknownMinutes_18 ?_
    obtain ⟨hmy_7, hky_7⟩ := ySh.f4_0 hSh _ hm_h0 hk_h0
    refine lv_iload_n hx hb dX4_unknownMinutes_21 rfl (lv_at hl 0 rfl) ?_
    refine ySNri (As := [.ref (S.2.2.1 h0 0), .int v_2]) (rest := [.int 0, .int 1440, .int v_1]) C0 (g_X8_at l G S d (S.2.2.1 h0 0) 20 v_2 hmy_7 hky_7 (by decide) rfl rfl (by decide)) ok_X8_at (xN.n7 hN) ⟨Nat.le_of_ble_eq_true rfl, Nat.le_of_ble_eq_true rfl⟩ hP hD hK hN rfl hl.1 rfl (Nat.le_of_ble_eq_true rfl) ⟨Nat.le_of_ble_eq_true rfl, Nat.le_of_ble_eq_true rfl⟩ dX4_unknownMinutes_22 (fun r_8 hr_8 => ?_)
    refine va_mmax hx hb (by rw [hml]; exact hl.1.symm) hown (htl (.methodLink RX4 57 Lib.Math.max.name) mW610) (htl (.static Lib.Math.max.name) mW580) (htl (.initialized "java/lang/Math") mW204) (htl (.code Lib.Math.max.name Lib.Math.max.code 2 (some .int)) mW581) (Nat.le_of_ble_eq_true rfl) (Nat.le_of_ble_eq_true rfl) (Nat.le_of_ble_eq_true rfl) (Nat.le_of_ble_eq_true rfl) dX4_unknownMinutes_25 ?_
    refine lv_topi (fun z_9 ez_9 => ?_)
    refine lv_isub hx hb dX4_unknownMinutes_28 ?_
    refine lv_topi (fun z_10 ez_10 => ?_)
    refine lv_iadd hx hb dX4_unknownMinutes_29 ?_
    refine lv_topi (fun z_11 ez_11 => ?_)
    refine lv_istore_n (lv' := [(1, .int z_11), (2, .int v_2), (0, .ref h0)]) hx hb dX4_unknownMinutes_30 rfl hl (by decide) rfl (fun ls hl => ?_)
    refine lv_iinc (v := v_2 + 1) (lv' := [(2, .int (v_2 + 1)), (1, .int z_11), (0, .ref h0)]) hx hb dX4_unknownMinutes_31 hl (k := 1) rfl rfl (by decide) rfl (fun ls hl => ?_)
    refine lv_goto (tgt := 4) hx hb dX4_unknownMinutes_34 (by decide) ?_
    exact hnext_3 (z_11, v_2 + 1) ls (xup c_6) (lv_sub hl [0, 1, 2] rfl)
theorem dX4_firstOffice_0 : decode cX4_firstOffice 0 = .ok (.iconst 0, 1) := by decide +kernel
theorem dX4_firstOffice_1 : decode cX4_firstOffice 1 = .ok (.iload_n 1, 1) := by decide +kernel
theorem dX4_firstOffice_2 : decode cX4_firstOffice 2 = .ok (.invokestatic 57, 3) := by decide +kernel
theorem dX4_firstOffice_5 : decode cX4_firstOffice 5 = .ok (.sipush 1440, 3) := by decide +kernel
theorem dX4_firstOffice_8 : decode cX4_firstOffice 8 = .ok (.idiv, 1) := by decide +kernel
theorem dX4_firstOffice_9 : decode cX4_firstOffice 9 = .ok (.istore_n 2, 1) := by decide +kernel
theorem dX4_firstOffice_10 : decode cX4_firstOffice 10 = .ok (.iload_n 2, 1) := by decide +kernel
theorem dX4_firstOffice_11 : decode cX4_firstOffice 11 = .ok (.aload_n 0, 1) := by decide +kernel
theorem dX4_firstOffice_12 : decode cX4_firstOffice 12 = .ok (.getfield 24, 3) := by decide +kernel
theorem dX4_firstOffice_15 : decode cX4_firstOffice 15 = .ok (.if_icmp .ge 62, 3) := by decide +kernel
theorem dX4_firstOffice_18 : decode cX4_firstOffice 18 = .ok (.aload_n 0, 1) := by decide +kernel
theorem dX4_firstOffice_19 : decode cX4_firstOffice 19 = .ok (.getfield 31, 3) := by decide +kernel
theorem dX4_firstOffice_22 : decode cX4_firstOffice 22 = .ok (.iload_n 1, 1) := by decide +kernel
theorem dX4_firstOffice_23 : decode cX4_firstOffice 23 = .ok (.iload_n 2, 1) := by decide +kernel
theorem dX4_firstOffice_24 : decode cX4_firstOffice 24 = .ok (.sipush 1440, 3) := by decide +kernel
theorem dX4_firstOffice_27 : decode cX4_firstOffice 27 = .ok (.imul, 1) := by decide +kernel
theorem dX4_firstOffice_28 : decode cX4_firstOffice 28 = .ok (.isub, 1) := by decide +kernel
theorem dX4_firstOffice_29 : decode cX4_firstOffice 29 = .ok (.invokestatic 57, 3) := by decide +kernel
theorem dX4_firstOffice_32 : decode cX4_firstOffice 32 = .ok (.istore_n 3, 1) := by decide +kernel
theorem dX4_firstOffice_33 : decode cX4_firstOffice 33 = .ok (.aload_n 0, 1) := by decide +kernel
theorem dX4_firstOffice_34 : decode cX4_firstOffice 34 = .ok (.getfield 15, 3) := by decide +kernel
theorem dX4_firstOffice_37 : decode cX4_firstOffice 37 = .ok (.iload_n 2, 1) := by decide +kernel
theorem dX4_firstOffice_38 : decode cX4_firstOffice 38 = .ok (.invokestatic 53, 3) := by decide +kernel
theorem dX4_firstOffice_41 : decode cX4_firstOffice 41 = .ok (.ifCond .ne 30, 3) := by decide +kernel
theorem dX4_firstOffice_44 : decode cX4_firstOffice 44 = .ok (.iload_n 3, 1) := by decide +kernel
theorem dX4_firstOffice_45 : decode cX4_firstOffice 45 = .ok (.aload_n 0, 1) := by decide +kernel
theorem dX4_firstOffice_46 : decode cX4_firstOffice 46 = .ok (.getfield 34, 3) := by decide +kernel
theorem dX4_firstOffice_49 : decode cX4_firstOffice 49 = .ok (.aload_n 0, 1) := by decide +kernel
theorem dX4_firstOffice_50 : decode cX4_firstOffice 50 = .ok (.getfield 9, 3) := by decide +kernel
theorem dX4_firstOffice_53 : decode cX4_firstOffice 53 = .ok (.iload_n 2, 1) := by decide +kernel
theorem dX4_firstOffice_54 : decode cX4_firstOffice 54 = .ok (.invokestatic 53, 3) := by decide +kernel
theorem dX4_firstOffice_57 : decode cX4_firstOffice 57 = .ok (.invokestatic 63, 3) := by decide +kernel
theorem dX4_firstOffice_60 : decode cX4_firstOffice 60 = .ok (.if_icmp .ge 11, 3) := by decide +kernel
theorem dX4_firstOffice_63 : decode cX4_firstOffice 63 = .ok (.iload_n 2, 1) := by decide +kernel
theorem dX4_firstOffice_64 : decode cX4_firstOffice 64 = .ok (.sipush 1440, 3) := by decide +kernel
theorem dX4_firstOffice_67 : decode cX4_firstOffice 67 = .ok (.imul, 1) := by decide +kernel
theorem dX4_firstOffice_68 : decode cX4_firstOffice 68 = .ok (.iload_n 3, 1) := by decide +kernel
theorem dX4_firstOffice_69 : decode cX4_firstOffice 69 = .ok (.iadd, 1) := by decide +kernel
theorem dX4_firstOffice_70 : decode cX4_firstOffice 70 = .ok (.ireturn, 1) := by decide +kernel
theorem dX4_firstOffice_71 : decode cX4_firstOffice 71 = .ok (.iinc 2 1, 3) := by decide +kernel
theorem dX4_firstOffice_74 : decode cX4_firstOffice 74 = .ok (.goto (-64), 3) := by decide +kernel
theorem dX4_firstOffice_77 : decode cX4_firstOffice 77 = .ok (.iconst (-1), 1) := by decide +kernel
theorem dX4_firstOffice_78 : decode cX4_firstOffice 78 = .ok (.ireturn, 1) := by decide +kernel
set_option maxHeartbeats 4000000 in
set_option maxRecDepth 100000 in
theorem g_X4_firstOffice (l : Launch) (G : xG) (S : yS) (d : yD) (h0 : Nat) (p0 : Int32) (hSh : ySh S) (hm_h0 : h0 ∈ S.1) (hk_h0 : S.2.1 h0 = 4) : xRi l G yX4_firstOffice cX4_firstOffice 4 (some .int) 1 21 [.ref h0, .int p0] (yW G S d) (fun r => True) := by
  intro sz
  refine xstart (by decide) (Nat.le_of_ble_eq_true rfl) (fun p e s m args below meth c ls C0 hr hlocks hin hsz hP hK hD hN hl => ?_)
  obtain ⟨hx, hb, hml, hown, htl⟩ := id C0
  have hl : lv_has ls 4 [(0, .ref h0), (1, .int p0)] := hl
  refine lv_iconst (v := 0) hx hb dX4_firstOffice_0 (by decide) ?_
  refine lv_iload_n hx hb dX4_firstOffice_1 rfl (lv_at hl 1 rfl) ?_
  refine va_mmax hx hb (by rw [hml]; exact hl.1.symm) hown (htl (.methodLink RX4 57 Lib.Math.max.name) mW610) (htl (.static Lib.Math.max.name) mW580) (htl (.initialized "java/lang/Math") mW204) (htl (.code Lib.Math.max.name Lib.Math.max.code 2 (some .int)) mW581) (Nat.le_of_ble_eq_true rfl) (Nat.le_of_ble_eq_true rfl) (Nat.le_of_ble_eq_true rfl) (Nat.le_of_ble_eq_true rfl) dX4_firstOffice_2 ?_
  refine lv_topi (fun z_1 ez_1 => ?_)
  refine lv_sipush (v := 1440) hx hb dX4_firstOffice_5 (by decide) ?_
  refine lv_idiv hx hb dX4_firstOffice_8 (by decide) ?_
  refine lv_topi (fun z_2 ez_2 => ?_)
  refine lv_istore_n (lv' := [(2, .int z_2), (0, .ref h0), (1, .int p0)]) hx hb dX4_firstOffice_9 rfl hl (by decide) rfl (fun ls hl => ?_)
  refine yloopR (σ := Int32) (fun x => (2147483647 - (x : Int32).toInt).toNat) 10 (fun x ls => lv_has ls 4 [(2, .int x), (0, .ref h0), (1, .int p0)]) (fun x ls hl hnext_4 => ?_) z_2 (lv_sub hl [0, 1, 2] rfl)
  obtain ⟨v_3, rfl⟩ : ∃ z, z = x := ⟨_, rfl⟩
  have hl : lv_has ls 4 [(2, .int v_3), (0, .ref h0), (1, .int p0)] := hl
  refine lv_iload_n hx hb dX4_firstOffice_10 rfl (lv_at hl 0 rfl) ?_
  refine lv_aload_n hx hb dX4_firstOffice_11 rfl (lv_at hl 1 rfl) ?_
  refine yget (ci := 4) (k := 2) (v := .int (d.1 h0 2)) (C := RX4) (T := TX4) (N := 11) C0 hK hP hm_h0 hk_h0 (by decide) rfl inlX4 (by decide) mW345 (fun _ h9 => h9) rfl dX4_firstOffice_12 ?_
  refine lv_topi (fun z_6 ez_6 => ?_)
  refine lv_icmp_ge (tgt := 77) hx hb dX4_firstOffice_15 (by decide) (fun c_7 => ?_) (fun c_7 => ?_)
  · refine lv_iconst (v := (-1)) hx hb dX4_firstOffice_77 (by decide) ?_
    exact W.iret (v := (-1)) hx hb hr (fun t ht hW => ⟨(-1), rfl, trivial, ht⟩) (fun q hq => by cases hq) dX4_firstOffice_78
  · refine lv_aload_n hx hb dX4_firstOffice_18 rfl (lv_at hl 1 rfl) ?_
    refine yget (ci := 4) (k := 4) (v := .int (d.1 h0 4)) (C := RX4) (T := TX4) (N := 11) C0 hK hP hm_h0 hk_h0 (by decide) rfl inlX4 (by decide) mW347 (fun _ h9 => h9) rfl dX4_firstOffice_19 ?_
    refine lv_topi (fun z_8 ez_8 => ?_)
    refine lv_iload_n hx hb dX4_firstOffice_22 rfl (lv_at hl 2 rfl) ?_
    refine lv_iload_n hx hb dX4_firstOffice_23 rfl (lv_at hl 0 rfl) ?_
    refine lv_sipush (v := 1440) hx hb dX4_firstOffice_24 (by decide) ?_
    refine lv_imul hx hb dX4_firstOffice_27 ?_
    refine lv_topi (fun z_9 ez_9 => ?_)
    refine lv_isub hx hb dX4_firstOffice_28 ?_
    refine lv_topi (fun z_10 ez_10 => ?_)
    refine va_mmax hx hb (by rw [hml]; exact hl.1.symm) hown (htl (.methodLink RX4 57 Lib.Math.max.name) mW610) (htl (.static Lib.Math.max.name) mW580) (htl (.initialized "java/lang/Math") mW204) (htl (.code Lib.Math.max.name Lib.Math.max.code 2 (some .int)) mW581) (Nat.le_of_ble_eq_true rfl) (Nat.le_of_ble_eq_true rfl) (Nat.le_of_ble_eq_true rfl) (Nat.le_of_ble_eq_true rfl) dX4_firstOffice_29 ?_
    refine lv_topi (fun z_11 ez_11 => ?_)
    refine lv_istore_n (lv' := [(3, .int z_11), (2, .int v_3), (0, .ref h0), (1, .int p0)]) hx hb dX4_firstOffice_32 rfl hl (by decide) rfl (fun ls hl => ?_)
    refine lv_aload_n hx hb dX4_firstOffice_33 rfl (lv_at hl 2 rfl) ?_
    refine yget (ci := 4) (k := 1) (v := .ref (S.2.2.1 h0 1)) (C := RX4) (T := TX4) (N := 11) C0 hK hP hm_h0 hk_h0 (by decide) rfl inlX4 (by decide) mW74 (fun _ h9 => h9) rfl dX4_firstOffice_34 ?_
    obtain ⟨hmy_12, hky_12⟩ := ySh.f4_1 hSh _ hm_h0 hk_h0
    refine lv_iload_n hx hb dX4_firstOffice_37 rfl (lv_at hl 1 rfl) ?_
    refine ySNri (As := [.ref (S.2.2.1 h0 1), .int v_3]) (rest := []) C0 (g_X8_at l G S d (S.2.2.1 h0 1) 21 v_3 hmy_12 hky_12 (by decide) rfl rfl (by decide)) ok_X8_at (xN.n7 hN) ⟨Nat.le_of_ble_eq_true rfl, Nat.le_of_ble_eq_true rfl⟩ hP hD hK hN rfl hl.1 rfl (Nat.le_of_ble_eq_true rfl) ⟨Nat.le_of_ble_eq_true rfl, Nat.le_of_ble_eq_true rfl⟩ dX4_firstOffice_38 (fun r_13 hr_13 => ?_)
    refine lv_if_ne (tgt := 71) hx hb dX4_firstOffice_41 (by decide) (fun c_14 => ?_) (fun c_14 => ?_)
    · refine lv_iinc (v := v_3 + 1) (lv' := [(2, .int (v_3 + 1)), (3, .int z_11), (0, .ref h0), (1, .int p0)]) hx hb dX4_firstOffice_71 hl (k := 1) rfl rfl (by decide) rfl (fun ls hl => ?_)
      refine lv_goto (tgt := 10) hx hb dX4_firstOffice_74 (by decide) ?_
      exact hnext_4 (v_3 + 1) ls (xup c_7) (lv_sub hl [0, 2, 3] rfl)
    · refine lv_iload_n hx hb dX4_firstOffice_44 rfl (lv_at hl 0 rfl) ?_
      refine lv_aload_n hx hb dX4_firstOffice_45 rfl (lv_at hl 2 rfl) ?_
      refine yget (ci := 4) (k := 5) (v := .int (d.1 h0 5)) (C := RX4) (T := TX4) (N := 11) C0 hK hP hm_h0 hk_h0 (by decide) rfl inlX4 (by decide) mW348 (fun _ h9 => h9) rfl dX4_firstOffice_46 ?_
      refine lv_topi (fun z_16 ez_16 => ?_)
      refine lv_aload_n hx hb dX4_firstOffice_49 rfl (lv_at hl 2 rfl) ?_
      refine yget (ci := 4) (k := 0) (v := .ref (S.2.2.1 h0 0)) (C := RX4) (T := TX4) (N := 11) C0 hK hP hm_h0 hk_h0 (by decide) rfl inlX4 (by decide) mW73 (fun _ h9 => h9) rfl dX4_firstOffice_50 ?_
      obtain ⟨hmy_17, hky_17⟩ := ySh.f4_0 hSh _ hm_h0 hk_h0
      refine lv_iload_n hx hb dX4_firstOffice_53 rfl (lv_at hl 1 rfl) ?_
      refine ySNri (As := [.ref (S.2.2.1 h0 0), .int v_3]) (rest := [.int z_16, .int z_11]) C0 (g_X8_at l G S d (S.2.2.1 h0 0) 20 v_3 hmy_17 hky_17 (by decide) rfl rfl (by decide)) ok_X8_at (xN.n7 hN) ⟨Nat.le_of_ble_eq_true rfl, Nat.le_of_ble_eq_true rfl⟩ hP hD hK hN rfl hl.1 rfl (Nat.le_of_ble_eq_true rfl) ⟨Nat.le_of_ble_eq_true rfl, Nat.le_of_ble_eq_true rfl⟩ dX4_firstOffice_54 (fun r_18 hr_18 => ?_)
      refine va_mmin hx hb (by rw [hml]; exact hl.1.symm) hown (htl (.methodLink RX4 63 Lib.Math.min.name) mW611) (htl (.static Lib.Math.min.name) mW203) (htl (.initialized "java/lang/Math") mW204) (htl (.code Lib.Math.min.name Lib.Math.min.code 2 (some .int)) mW205) (Nat.le_of_ble_eq_true rfl) (Nat.le_of_ble_eq_true rfl) (Nat.le_of_ble_eq_true rfl) (Nat.le_of_ble_eq_true rfl) dX4_firstOffice_57 ?_
      refine lv_topi (fun z_19 ez_19 => ?_)
      refine lv_icmp_ge (tgt := 71) hx hb dX4_firstOffice_60 (by decide) (fun c_20 => ?_) (fun c_20 => ?_)
      · refine lv_iinc (v := v_3 + 1) (lv' := [(2, .int (v_3 + 1)), (3, .int z_11), (0, .ref h0), (1, .int p0)]) hx hb dX4_firstOffice_71 hl (k := 1) rfl rfl (by decide) rfl (fun ls hl => ?_)
        refine lv_goto (tgt := 10) hx hb dX4_firstOffice_74 (by decide) ?_
        exact hnext_4 (v_3 + 1) ls (xup c_7) (lv_sub hl [0, 2, 3] rfl)
      · refine lv_iload_n hx hb dX4_firstOffice_63 rfl (lv_at hl 1 rfl) ?_
        refine lv_sipush (v := 1440) hx hb dX4_firstOffice_64 (by decide) ?_
        refine lv_imul hx hb dX4_firstOffice_67 ?_
        refine lv_topi (fun z_22 ez_22 => ?_)
        refine lv_iload_n hx hb dX4_firstOffice_68 rfl (lv_at hl 0 rfl) ?_
        refine lv_iadd hx hb dX4_firstOffice_69 ?_
        refine lv_topi (fun z_23 ez_23 => ?_)
        exact W.iret (v := z_23) hx hb hr (fun t ht hW => ⟨z_23, rfl, trivial, ht⟩) (fun q hq => by cases hq) dX4_firstOffice_70
theorem dX0_groupOf_0 : decode cX0_groupOf 0 = .ok (.aload_n 0, 1) := by decide +kernel
theorem dX0_groupOf_1 : decode cX0_groupOf 1 = .ok (.getfield 43, 3) := by decide +kernel
theorem dX0_groupOf_4 : decode cX0_groupOf 4 = .ok (.iload_n 1, 1) := by decide +kernel
theorem dX0_groupOf_5 : decode cX0_groupOf 5 = .ok (.ishr, 1) := by decide +kernel
theorem dX0_groupOf_6 : decode cX0_groupOf 6 = .ok (.iconst 1, 1) := by decide +kernel
theorem dX0_groupOf_7 : decode cX0_groupOf 7 = .ok (.iand, 1) := by decide +kernel
theorem dX0_groupOf_8 : decode cX0_groupOf 8 = .ok (.iconst 1, 1) := by decide +kernel
theorem dX0_groupOf_9 : decode cX0_groupOf 9 = .ok (.if_icmp .ne 10, 3) := by decide +kernel
theorem dX0_groupOf_12 : decode cX0_groupOf 12 = .ok (.aload_n 0, 1) := by decide +kernel
theorem dX0_groupOf_13 : decode cX0_groupOf 13 = .ok (.getfield 43, 3) := by decide +kernel
theorem dX0_groupOf_16 : decode cX0_groupOf 16 = .ok (.goto 6, 3) := by decide +kernel
theorem dX0_groupOf_19 : decode cX0_groupOf 19 = .ok (.iconst 1, 1) := by decide +kernel
theorem dX0_groupOf_20 : decode cX0_groupOf 20 = .ok (.iload_n 1, 1) := by decide +kernel
theorem dX0_groupOf_21 : decode cX0_groupOf 21 = .ok (.ishl, 1) := by decide +kernel
theorem dX0_groupOf_22 : decode cX0_groupOf 22 = .ok (.ireturn, 1) := by decide +kernel
set_option maxHeartbeats 4000000 in
set_option maxRecDepth 100000 in
theorem g_X0_groupOf (l : Launch) (G : xG) (S : yS) (d : yD) (b0 : Nat) (p0 : Int32) (hSh : ySh S) (hm_b0 : b0 ∈ S.1) (hk_b0 : S.2.1 b0 = 0) : xRi l G yX0_groupOf cX0_groupOf 2 (some .int) 0 0 [.ref b0, .int p0] (yW G S d) (fun r => True) := by
  intro sz
  refine xstart (by decide) (Nat.le_of_ble_eq_true rfl) (fun p e s m args below meth c ls C0 hr hlocks hin hsz hP hK hD hN hl => ?_)
  obtain ⟨hx, hb, hml, hown, htl⟩ := id C0
  have hl : lv_has ls 2 [(0, .ref b0), (1, .int p0)] := hl
  refine lv_aload_n hx hb dX0_groupOf_0 rfl (lv_at hl 0 rfl) ?_
  refine yget (ci := 0) (k := 5) (v := .int (d.1 b0 5)) (C := RX0) (T := TX0) (N := 6) C0 hK hP hm_b0 hk_b0 (by decide) rfl inlX0 (by decide) mW698 (fun _ h9 => h9) rfl dX0_groupOf_1 ?_
  refine lv_topi (fun z_1 ez_1 => ?_)
  refine lv_iload_n hx hb dX0_groupOf_4 rfl (lv_at hl 1 rfl) ?_
  refine lv_ishr hx hb dX0_groupOf_5 ?_
  refine lv_topi (fun z_2 ez_2 => ?_)
  refine lv_iconst (v := 1) hx hb dX0_groupOf_6 (by decide) ?_
  refine lv_iand hx hb dX0_groupOf_7 ?_
  refine lv_topi (fun z_3 ez_3 => ?_)
  refine lv_iconst (v := 1) hx hb dX0_groupOf_8 (by decide) ?_
  refine lv_icmp_ne (tgt := 19) hx hb dX0_groupOf_9 (by decide) (fun c_4 => ?_) (fun c_4 => ?_)
  · refine lv_iconst (v := 1) hx hb dX0_groupOf_19 (by decide) ?_
    refine lv_iload_n hx hb dX0_groupOf_20 rfl (lv_at hl 1 rfl) ?_
    refine lv_ishl hx hb dX0_groupOf_21 ?_
    refine lv_topi (fun z_5 ez_5 => ?_)
    exact W.iret (v := z_5) hx hb hr (fun t ht hW => ⟨z_5, rfl, trivial, ht⟩) (fun q hq => by cases hq) dX0_groupOf_22
  · refine lv_aload_n hx hb dX0_groupOf_12 rfl (lv_at hl 0 rfl) ?_
    refine yget (ci := 0) (k := 5) (v := .int (d.1 b0 5)) (C := RX0) (T := TX0) (N := 6) C0 hK hP hm_b0 hk_b0 (by decide) rfl inlX0 (by decide) mW698 (fun _ h9 => h9) rfl dX0_groupOf_13 ?_
    refine lv_topi (fun z_6 ez_6 => ?_)
    refine lv_goto (tgt := 22) hx hb dX0_groupOf_16 (by decide) ?_
    exact W.iret (v := z_6) hx hb hr (fun t ht hW => ⟨z_6, rfl, trivial, ht⟩) (fun q hq => by cases hq) dX0_groupOf_22
theorem dX7_halvesBy_0 : decode cX7_halvesBy 0 = .ok (.iload_n 1, 1) := by decide +kernel
theorem dX7_halvesBy_1 : decode cX7_halvesBy 1 = .ok (.iconst 2, 1) := by decide +kernel
theorem dX7_halvesBy_2 : decode cX7_halvesBy 2 = .ok (.if_icmp .eq 13, 3) := by decide +kernel
theorem dX7_halvesBy_5 : decode cX7_halvesBy 5 = .ok (.iload_n 1, 1) := by decide +kernel
theorem dX7_halvesBy_6 : decode cX7_halvesBy 6 = .ok (.iconst 3, 1) := by decide +kernel
theorem dX7_halvesBy_7 : decode cX7_halvesBy 7 = .ok (.if_icmp .ne 12, 3) := by decide +kernel
theorem dX7_halvesBy_10 : decode cX7_halvesBy 10 = .ok (.iload_n 2, 1) := by decide +kernel
theorem dX7_halvesBy_11 : decode cX7_halvesBy 11 = .ok (.iconst 2, 1) := by decide +kernel
theorem dX7_halvesBy_12 : decode cX7_halvesBy 12 = .ok (.if_icmp .ne 7, 3) := by decide +kernel
theorem dX7_halvesBy_15 : decode cX7_halvesBy 15 = .ok (.iconst 1, 1) := by decide +kernel
theorem dX7_halvesBy_16 : decode cX7_halvesBy 16 = .ok (.goto 4, 3) := by decide +kernel
theorem dX7_halvesBy_19 : decode cX7_halvesBy 19 = .ok (.iconst 0, 1) := by decide +kernel
theorem dX7_halvesBy_20 : decode cX7_halvesBy 20 = .ok (.istore_n 3, 1) := by decide +kernel
theorem dX7_halvesBy_21 : decode cX7_halvesBy 21 = .ok (.iload_n 3, 1) := by decide +kernel
theorem dX7_halvesBy_22 : decode cX7_halvesBy 22 = .ok (.ifCond .eq 17, 3) := by decide +kernel
theorem dX7_halvesBy_25 : decode cX7_halvesBy 25 = .ok (.aload_n 0, 1) := by decide +kernel
theorem dX7_halvesBy_26 : decode cX7_halvesBy 26 = .ok (.getfield 72, 3) := by decide +kernel
theorem dX7_halvesBy_29 : decode cX7_halvesBy 29 = .ok (.iconst 1, 1) := by decide +kernel
theorem dX7_halvesBy_30 : decode cX7_halvesBy 30 = .ok (.if_icmp .ne 7, 3) := by decide +kernel
theorem dX7_halvesBy_33 : decode cX7_halvesBy 33 = .ok (.iconst 2, 1) := by decide +kernel
theorem dX7_halvesBy_34 : decode cX7_halvesBy 34 = .ok (.goto 4, 3) := by decide +kernel
theorem dX7_halvesBy_37 : decode cX7_halvesBy 37 = .ok (.iconst 0, 1) := by decide +kernel
theorem dX7_halvesBy_38 : decode cX7_halvesBy 38 = .ok (.ireturn, 1) := by decide +kernel
theorem dX7_halvesBy_39 : decode cX7_halvesBy 39 = .ok (.iload_n 1, 1) := by decide +kernel
theorem dX7_halvesBy_40 : decode cX7_halvesBy 40 = .ok (.iconst 1, 1) := by decide +kernel
theorem dX7_halvesBy_41 : decode cX7_halvesBy 41 = .ok (.if_icmp .eq 13, 3) := by decide +kernel
theorem dX7_halvesBy_44 : decode cX7_halvesBy 44 = .ok (.iload_n 1, 1) := by decide +kernel
theorem dX7_halvesBy_45 : decode cX7_halvesBy 45 = .ok (.iconst 3, 1) := by decide +kernel
theorem dX7_halvesBy_46 : decode cX7_halvesBy 46 = .ok (.if_icmp .ne 10, 3) := by decide +kernel
theorem dX7_halvesBy_49 : decode cX7_halvesBy 49 = .ok (.iload_n 2, 1) := by decide +kernel
theorem dX7_halvesBy_50 : decode cX7_halvesBy 50 = .ok (.iconst 1, 1) := by decide +kernel
theorem dX7_halvesBy_51 : decode cX7_halvesBy 51 = .ok (.if_icmp .ne 5, 3) := by decide +kernel
theorem dX7_halvesBy_54 : decode cX7_halvesBy 54 = .ok (.iconst 0, 1) := by decide +kernel
theorem dX7_halvesBy_55 : decode cX7_halvesBy 55 = .ok (.ireturn, 1) := by decide +kernel
theorem dX7_halvesBy_56 : decode cX7_halvesBy 56 = .ok (.iload_n 1, 1) := by decide +kernel
theorem dX7_halvesBy_57 : decode cX7_halvesBy 57 = .ok (.iconst 4, 1) := by decide +kernel
theorem dX7_halvesBy_58 : decode cX7_halvesBy 58 = .ok (.if_icmp .ne 7, 3) := by decide +kernel
theorem dX7_halvesBy_61 : decode cX7_halvesBy 61 = .ok (.iconst 1, 1) := by decide +kernel
theorem dX7_halvesBy_62 : decode cX7_halvesBy 62 = .ok (.goto 4, 3) := by decide +kernel
theorem dX7_halvesBy_65 : decode cX7_halvesBy 65 = .ok (.iconst 2, 1) := by decide +kernel
theorem dX7_halvesBy_66 : decode cX7_halvesBy 66 = .ok (.ireturn, 1) := by decide +kernel
set_option maxHeartbeats 4000000 in
set_option maxRecDepth 100000 in
theorem g_X7_halvesBy (l : Launch) (G : xG) (S : yS) (d : yD) (h0 : Nat) (p0 : Int32) (p1 : Int32) (hSh : ySh S) (hm_h0 : h0 ∈ S.1) (hk_h0 : S.2.1 h0 = 7) : xRi l G yX7_halvesBy cX7_halvesBy 4 (some .int) 0 0 [.ref h0, .int p0, .int p1] (yW G S d) (fun r => True) := by
  intro sz
  refine xstart (by decide) (Nat.le_of_ble_eq_true rfl) (fun p e s m args below meth c ls C0 hr hlocks hin hsz hP hK hD hN hl => ?_)
  obtain ⟨hx, hb, hml, hown, htl⟩ := id C0
  have hl : lv_has ls 4 [(0, .ref h0), (1, .int p0), (2, .int p1)] := hl
  refine lv_iload_n hx hb dX7_halvesBy_0 rfl (lv_at hl 1 rfl) ?_
  refine lv_iconst (v := 2) hx hb dX7_halvesBy_1 (by decide) ?_
  refine yjoinR (σ := Int32) 20 (fun x ls st => st = [.int x] ∧ lv_has ls 4 [(0, .ref h0), (1, .int p0), (2, .int p1)] ∧ (x = 0 ∨ x = 1)) (fun x ls st hI => ?_) (fun J20_1 => ?_)
  · obtain ⟨v_1, rfl⟩ : ∃ z, z = x := ⟨_, rfl⟩
    obtain ⟨rfl, hl, hzv_1⟩ := hI
    have hl : lv_has ls 4 [(0, .ref h0), (1, .int p0), (2, .int p1)] := hl
    refine lv_istore_n (lv' := [(3, .int v_1), (0, .ref h0), (1, .int p0), (2, .int p1)]) hx hb dX7_halvesBy_20 rfl hl (by decide) rfl (fun ls hl => ?_)
    refine lv_iload_n hx hb dX7_halvesBy_21 rfl (lv_at hl 0 rfl) ?_
    refine lv_if_eq (tgt := 39) hx hb dX7_halvesBy_22 (by decide) (fun c_2 => ?_) (fun c_2 => ?_)
    · refine lv_iload_n hx hb dX7_halvesBy_39 rfl (lv_at hl 2 rfl) ?_
      refine lv_iconst (v := 1) hx hb dX7_halvesBy_40 (by decide) ?_
      refine lv_icmp_eq (tgt := 54) hx hb dX7_halvesBy_41 (by decide) (fun c_3 => ?_) (fun c_3 => ?_)
      · refine lv_iconst (v := 0) hx hb dX7_halvesBy_54 (by decide) ?_
        exact W.iret (v := 0) hx hb hr (fun t ht hW => ⟨0, rfl, trivial, ht⟩) (fun q hq => by cases hq) dX7_halvesBy_55
      · refine lv_iload_n hx hb dX7_halvesBy_44 rfl (lv_at hl 2 rfl) ?_
        refine lv_iconst (v := 3) hx hb dX7_halvesBy_45 (by decide) ?_
        refine lv_icmp_ne (tgt := 56) hx hb dX7_halvesBy_46 (by decide) (fun c_4 => ?_) (fun c_4 => ?_)
        · refine lv_iload_n hx hb dX7_halvesBy_56 rfl (lv_at hl 2 rfl) ?_
          refine lv_iconst (v := 4) hx hb dX7_halvesBy_57 (by decide) ?_
          refine lv_icmp_ne (tgt := 65) hx hb dX7_halvesBy_58 (by decide) (fun c_5 => ?_) (fun c_5 => ?_)
          · refine lv_iconst (v := 2) hx hb dX7_halvesBy_65 (by decide) ?_
            exact W.iret (v := 2) hx hb hr (fun t ht hW => ⟨2, rfl, trivial, ht⟩) (fun q hq => by cases hq) dX7_halvesBy_66
          · refine lv_iconst (v := 1) hx hb dX7_halvesBy_61 (by decide) ?_
            refine lv_goto (tgt := 66) hx hb dX7_halvesBy_62 (by decide) ?_
            exact W.iret (v := 1) hx hb hr (fun t ht hW => ⟨1, rfl, trivial, ht⟩) (fun q hq => by cases hq) dX7_halvesBy_66
        · refine lv_iload_n hx hb dX7_halvesBy_49 rfl (lv_at hl 3 rfl) ?_
          refine lv_iconst (v := 1) hx hb dX7_halvesBy_50 (by decide) ?_
          refine lv_icmp_ne (tgt := 56) hx hb dX7_halvesBy_51 (by decide) (fun c_6 => ?_) (fun c_6 => ?_)
          · refine lv_iload_n hx hb dX7_halvesBy_56 rfl (lv_at hl 2 rfl) ?_
            refine lv_iconst (v := 4) hx hb dX7_halvesBy_57 (by decide) ?_
            refine lv_icmp_ne (tgt := 65) hx hb dX7_halvesBy_58 (by decide) (fun c_7 => ?_) (fun c_7 => ?_)
            · refine lv_iconst (v := 2) hx hb dX7_halvesBy_65 (by decide) ?_
              exact W.iret (v := 2) hx hb hr (fun t ht hW => ⟨2, rfl, trivial, ht⟩) (fun q hq => by cases hq) dX7_halvesBy_66
            · refine lv_iconst (v := 1) hx hb dX7_halvesBy_61 (by decide) ?_
              refine lv_goto (tgt := 66) hx hb dX7_halvesBy_62 (by decide) ?_
              exact W.iret (v := 1) hx hb hr (fun t ht hW => ⟨1, rfl, trivial, ht⟩) (fun q hq => by cases hq) dX7_halvesBy_66
          · refine lv_iconst (v := 0) hx hb dX7_halvesBy_54 (by decide) ?_
            exact W.iret (v := 0) hx hb hr (fun t ht hW => ⟨0, rfl, trivial, ht⟩) (fun q hq => by cases hq) dX7_halvesBy_55
    · refine lv_aload_n hx hb dX7_halvesBy_25 rfl (lv_at hl 1 rfl) ?_
      refine yget (ci := 7) (k := 15) (v := .int (d.1 h0 15)) (C := RX7) (T := TX7) (N := 18) C0 hK hP hm_h0 hk_h0 (by decide) rfl inlX7 (by decide) mW752 (fun _ h9 => h9) rfl dX7_halvesBy_26 ?_
      refine lv_topi (fun z_8 ez_8 => ?_)
      refine lv_iconst (v := 1) hx hb dX7_halvesBy_29 (by decide) ?_
      refine lv_icmp_ne (tgt := 37) hx hb dX7_halvesBy_30 (by decide) (fun c_9 => ?_) (fun c_9 => ?_)
      · refine lv_iconst (v := 0) hx hb dX7_halvesBy_37 (by decide) ?_
        exact W.iret (v := 0) hx hb hr (fun t ht hW => ⟨0, rfl, trivial, ht⟩) (fun q hq => by cases hq) dX7_halvesBy_38
      · refine lv_iconst (v := 2) hx hb dX7_halvesBy_33 (by decide) ?_
        refine lv_goto (tgt := 38) hx hb dX7_halvesBy_34 (by decide) ?_
        exact W.iret (v := 2) hx hb hr (fun t ht hW => ⟨2, rfl, trivial, ht⟩) (fun q hq => by cases hq) dX7_halvesBy_38
  refine lv_icmp_eq (tgt := 15) hx hb dX7_halvesBy_2 (by decide) (fun c_10 => ?_) (fun c_10 => ?_)
  · refine lv_iconst (v := 1) hx hb dX7_halvesBy_15 (by decide) ?_
    refine lv_goto (tgt := 20) hx hb dX7_halvesBy_16 (by decide) ?_
    exact J20_1 1 ls _ ⟨rfl, lv_sub hl [0, 1, 2] rfl, Or.inr rfl⟩
  · refine lv_iload_n hx hb dX7_halvesBy_5 rfl (lv_at hl 1 rfl) ?_
    refine lv_iconst (v := 3) hx hb dX7_halvesBy_6 (by decide) ?_
    refine lv_icmp_ne (tgt := 19) hx hb dX7_halvesBy_7 (by decide) (fun c_11 => ?_) (fun c_11 => ?_)
    · refine lv_iconst (v := 0) hx hb dX7_halvesBy_19 (by decide) ?_
      exact J20_1 0 ls _ ⟨rfl, lv_sub hl [0, 1, 2] rfl, Or.inl rfl⟩
    · refine lv_iload_n hx hb dX7_halvesBy_10 rfl (lv_at hl 2 rfl) ?_
      refine lv_iconst (v := 2) hx hb dX7_halvesBy_11 (by decide) ?_
      refine lv_icmp_ne (tgt := 19) hx hb dX7_halvesBy_12 (by decide) (fun c_12 => ?_) (fun c_12 => ?_)
      · refine lv_iconst (v := 0) hx hb dX7_halvesBy_19 (by decide) ?_
        exact J20_1 0 ls _ ⟨rfl, lv_sub hl [0, 1, 2] rfl, Or.inl rfl⟩
      · refine lv_iconst (v := 1) hx hb dX7_halvesBy_15 (by decide) ?_
        refine lv_goto (tgt := 20) hx hb dX7_halvesBy_16 (by decide) ?_
        exact J20_1 1 ls _ ⟨rfl, lv_sub hl [0, 1, 2] rfl, Or.inr rfl⟩
theorem dX6_allowedBy_0 : decode cX6_allowedBy 0 = .ok (.lconst 0, 1) := by decide +kernel
theorem dX6_allowedBy_1 : decode cX6_allowedBy 1 = .ok (.lstore 4, 2) := by decide +kernel
theorem dX6_allowedBy_3 : decode cX6_allowedBy 3 = .ok (.iload_n 1, 1) := by decide +kernel
theorem dX6_allowedBy_4 : decode cX6_allowedBy 4 = .ok (.bipush 60, 2) := by decide +kernel
theorem dX6_allowedBy_6 : decode cX6_allowedBy 6 = .ok (.imul, 1) := by decide +kernel
theorem dX6_allowedBy_7 : decode cX6_allowedBy 7 = .ok (.istore 6, 2) := by decide +kernel
theorem dX6_allowedBy_9 : decode cX6_allowedBy 9 = .ok (.iload 6, 2) := by decide +kernel
theorem dX6_allowedBy_11 : decode cX6_allowedBy 11 = .ok (.iload_n 1, 1) := by decide +kernel
theorem dX6_allowedBy_12 : decode cX6_allowedBy 12 = .ok (.iconst 1, 1) := by decide +kernel
theorem dX6_allowedBy_13 : decode cX6_allowedBy 13 = .ok (.iadd, 1) := by decide +kernel
theorem dX6_allowedBy_14 : decode cX6_allowedBy 14 = .ok (.bipush 60, 2) := by decide +kernel
theorem dX6_allowedBy_16 : decode cX6_allowedBy 16 = .ok (.imul, 1) := by decide +kernel
theorem dX6_allowedBy_17 : decode cX6_allowedBy 17 = .ok (.if_icmp .ge 66, 3) := by decide +kernel
theorem dX6_allowedBy_20 : decode cX6_allowedBy 20 = .ok (.aload_n 0, 1) := by decide +kernel
theorem dX6_allowedBy_21 : decode cX6_allowedBy 21 = .ok (.getfield 27, 3) := by decide +kernel
theorem dX6_allowedBy_24 : decode cX6_allowedBy 24 = .ok (.iload 6, 2) := by decide +kernel
theorem dX6_allowedBy_26 : decode cX6_allowedBy 26 = .ok (.invokestatic 40, 3) := by decide +kernel
theorem dX6_allowedBy_29 : decode cX6_allowedBy 29 = .ok (.i2l, 1) := by decide +kernel
theorem dX6_allowedBy_30 : decode cX6_allowedBy 30 = .ok (.lstore 7, 2) := by decide +kernel
theorem dX6_allowedBy_32 : decode cX6_allowedBy 32 = .ok (.aload_n 0, 1) := by decide +kernel
theorem dX6_allowedBy_33 : decode cX6_allowedBy 33 = .ok (.getfield 11, 3) := by decide +kernel
theorem dX6_allowedBy_36 : decode cX6_allowedBy 36 = .ok (.iload 6, 2) := by decide +kernel
theorem dX6_allowedBy_38 : decode cX6_allowedBy 38 = .ok (.invokestatic 40, 3) := by decide +kernel
theorem dX6_allowedBy_41 : decode cX6_allowedBy 41 = .ok (.ifCond .eq 6, 3) := by decide +kernel
theorem dX6_allowedBy_44 : decode cX6_allowedBy 44 = .ok (.goto 33, 3) := by decide +kernel
theorem dX6_allowedBy_47 : decode cX6_allowedBy 47 = .ok (.lload 4, 2) := by decide +kernel
theorem dX6_allowedBy_49 : decode cX6_allowedBy 49 = .ok (.lload 7, 2) := by decide +kernel
theorem dX6_allowedBy_51 : decode cX6_allowedBy 51 = .ok (.lconst 0, 1) := by decide +kernel
theorem dX6_allowedBy_52 : decode cX6_allowedBy 52 = .ok (.lcmp, 1) := by decide +kernel
theorem dX6_allowedBy_53 : decode cX6_allowedBy 53 = .ok (.ifCond .ge 19, 3) := by decide +kernel
theorem dX6_allowedBy_56 : decode cX6_allowedBy 56 = .ok (.lload_n 2, 1) := by decide +kernel
theorem dX6_allowedBy_57 : decode cX6_allowedBy 57 = .ok (.ldc2_w 44, 3) := by decide +kernel
theorem dX6_allowedBy_60 : decode cX6_allowedBy 60 = .ok (.lmul, 1) := by decide +kernel
theorem dX6_allowedBy_61 : decode cX6_allowedBy 61 = .ok (.ldc2_w 46, 3) := by decide +kernel
theorem dX6_allowedBy_64 : decode cX6_allowedBy 64 = .ok (.lload 7, 2) := by decide +kernel
theorem dX6_allowedBy_66 : decode cX6_allowedBy 66 = .ok (.lneg, 1) := by decide +kernel
theorem dX6_allowedBy_67 : decode cX6_allowedBy 67 = .ok (.lmul, 1) := by decide +kernel
theorem dX6_allowedBy_68 : decode cX6_allowedBy 68 = .ok (.ldiv, 1) := by decide +kernel
theorem dX6_allowedBy_69 : decode cX6_allowedBy 69 = .ok (.goto 5, 3) := by decide +kernel
theorem dX6_allowedBy_72 : decode cX6_allowedBy 72 = .ok (.lload 7, 2) := by decide +kernel
theorem dX6_allowedBy_74 : decode cX6_allowedBy 74 = .ok (.ladd, 1) := by decide +kernel
theorem dX6_allowedBy_75 : decode cX6_allowedBy 75 = .ok (.lstore 4, 2) := by decide +kernel
theorem dX6_allowedBy_77 : decode cX6_allowedBy 77 = .ok (.iinc 6 1, 3) := by decide +kernel
theorem dX6_allowedBy_80 : decode cX6_allowedBy 80 = .ok (.goto (-71), 3) := by decide +kernel
theorem dX6_allowedBy_83 : decode cX6_allowedBy 83 = .ok (.lload 4, 2) := by decide +kernel
theorem dX6_allowedBy_85 : decode cX6_allowedBy 85 = .ok (.lreturn, 1) := by decide +kernel
set_option maxHeartbeats 4000000 in
set_option maxRecDepth 100000 in
theorem g_X6_allowedBy (l : Launch) (G : xG) (S : yS) (d : yD) (h0 : Nat) (p0 : Int32) (p1 : Int64) (hSh : ySh S) (hm_h0 : h0 ∈ S.1) (hk_h0 : S.2.1 h0 = 6) : yRl l G yX6_allowedBy cX6_allowedBy 9 (some .long) 1 21 [.ref h0, .int p0, .long p1] (yW G S d) (fun r => True) := by
  intro sz
  refine xstart (by decide) (Nat.le_of_ble_eq_true rfl) (fun p e s m args below meth c ls C0 hr hlocks hin hsz hP hK hD hN hl => ?_)
  obtain ⟨hx, hb, hml, hown, htl⟩ := id C0
  have hl : lv_has ls 9 [(0, .ref h0), (1, .int p0), (2, .long p1)] := hl
  refine lv_lconst (v := 0) hx hb dX6_allowedBy_0 (by decide) ?_
  refine lv_lstore (lv' := [(4, .long 0), (0, .ref h0), (1, .int p0), (2, .long p1)]) hx hb dX6_allowedBy_1 hl (by decide) rfl (fun ls hl => ?_)
  refine lv_iload_n hx hb dX6_allowedBy_3 rfl (lv_at hl 2 rfl) ?_
  refine lv_bipush (v := 60) hx hb dX6_allowedBy_4 (by decide) ?_
  refine lv_imul hx hb dX6_allowedBy_6 ?_
  refine lv_topi (fun z_1 ez_1 => ?_)
  refine lv_istore (lv' := [(6, .int z_1), (4, .long 0), (0, .ref h0), (1, .int p0), (2, .long p1)]) hx hb dX6_allowedBy_7 hl (by decide) rfl (fun ls hl => ?_)
  refine yloopR (σ := Int64 × Int32) (fun x => (2147483647 - (x.2 : Int32).toInt).toNat) 9 (fun x ls => lv_has ls 9 [(6, .int x.2), (4, .long x.1), (0, .ref h0), (1, .int p0), (2, .long p1)]) (fun x ls hl hnext_4 => ?_) (0, z_1) (lv_sub hl [0, 1, 2, 3, 4] rfl)
  obtain ⟨v_2, v_3⟩ := x
  have hl : lv_has ls 9 [(6, .int v_3), (4, .long v_2), (0, .ref h0), (1, .int p0), (2, .long p1)] := hl
  refine lv_iload hx hb dX6_allowedBy_9 (lv_at hl 0 rfl) ?_
  refine lv_iload_n hx hb dX6_allowedBy_11 rfl (lv_at hl 3 rfl) ?_
  refine lv_iconst (v := 1) hx hb dX6_allowedBy_12 (by decide) ?_
  refine lv_iadd hx hb dX6_allowedBy_13 ?_
  refine lv_topi (fun z_6 ez_6 => ?_)
  refine lv_bipush (v := 60) hx hb dX6_allowedBy_14 (by decide) ?_
  refine lv_imul hx hb dX6_allowedBy_16 ?_
  refine lv_topi (fun z_7 ez_7 => ?_)
  refine lv_icmp_ge (tgt := 83) hx hb dX6_allowedBy_17 (by decide) (fun c_8 => ?_) (fun c_8 => ?_)
  · refine lv_lload hx hb dX6_allowedBy_83 (lv_at hl 1 rfl) ?_
    exact W.lret (v := v_2) hx hb hr (fun t ht hW => ⟨v_2, rfl, trivial, ht⟩) (fun q hq => by cases hq) dX6_allowedBy_85
  · refine lv_aload_n hx hb dX6_allowedBy_20 rfl (lv_at hl 2 rfl) ?_
    refine yget (ci := 6) (k := 5) (v := .ref (S.2.2.1 h0 5)) (C := RX6) (T := TX6) (N := 7) C0 hK hP hm_h0 hk_h0 (by decide) rfl inlX6 (by decide) mW54 (fun _ h9 => h9) rfl dX6_allowedBy_21 ?_
    obtain ⟨hmy_9, hky_9⟩ := ySh.f6_5 hSh _ hm_h0 hk_h0
    refine lv_iload hx hb dX6_allowedBy_24 (lv_at hl 0 rfl) ?_
    refine ySNri (As := [.ref (S.2.2.1 h0 5), .int v_3]) (rest := []) C0 (g_X8_at l G S d (S.2.2.1 h0 5) 15 v_3 hmy_9 hky_9 (by decide) rfl rfl (by decide)) ok_X8_at (xN.n9 hN) ⟨Nat.le_of_ble_eq_true rfl, Nat.le_of_ble_eq_true rfl⟩ hP hD hK hN rfl hl.1 rfl (Nat.le_of_ble_eq_true rfl) ⟨Nat.le_of_ble_eq_true rfl, Nat.le_of_ble_eq_true rfl⟩ dX6_allowedBy_26 (fun r_10 hr_10 => ?_)
    refine lv_i2l hx hb dX6_allowedBy_29 rfl ?_
    refine lv_topl (fun z_11 ez_11 => ?_)
    refine lv_lstore (lv' := [(7, .long z_11), (6, .int v_3), (4, .long v_2), (0, .ref h0), (1, .int p0), (2, .long p1)]) hx hb dX6_allowedBy_30 hl (by decide) rfl (fun ls hl => ?_)
    refine lv_aload_n hx hb dX6_allowedBy_32 rfl (lv_at hl 3 rfl) ?_
    refine yget (ci := 6) (k := 0) (v := .ref (S.2.2.1 h0 0)) (C := RX6) (T := TX6) (N := 7) C0 hK hP hm_h0 hk_h0 (by decide) rfl inlX6 (by decide) mW49 (fun _ h9 => h9) rfl dX6_allowedBy_33 ?_
    obtain ⟨hmy_12, hky_12⟩ := ySh.f6_0 hSh _ hm_h0 hk_h0
    refine lv_iload hx hb dX6_allowedBy_36 (lv_at hl 1 rfl) ?_
    refine ySNri (As := [.ref (S.2.2.1 h0 0), .int v_3]) (rest := []) C0 (g_X8_at l G S d (S.2.2.1 h0 0) 10 v_3 hmy_12 hky_12 (by decide) rfl rfl (by decide)) ok_X8_at (xN.n9 hN) ⟨Nat.le_of_ble_eq_true rfl, Nat.le_of_ble_eq_true rfl⟩ hP hD hK hN rfl hl.1 rfl (Nat.le_of_ble_eq_true rfl) ⟨Nat.le_of_ble_eq_true rfl, Nat.le_of_ble_eq_true rfl⟩ dX6_allowedBy_38 (fun r_13 hr_13 => ?_)
    refine lv_if_eq (tgt := 47) hx hb dX6_allowedBy_41 (by decide) (fun c_14 => ?_) (fun c_14 => ?_)
    · refine lv_lload hx hb dX6_allowedBy_47 (lv_at hl 2 rfl) ?_
      refine lv_lload hx hb dX6_allowedBy_49 (lv_at hl 0 rfl) ?_
      refine lv_lconst (v := 0) hx hb dX6_allowedBy_51 (by decide) ?_
      refine W.lcmp hx hb dX6_allowedBy_52 ?_
      refine lv_topi (fun z_15 ez_15 => ?_)
      refine lv_if_ge (tgt := 72) hx hb dX6_allowedBy_53 (by decide) (fun c_16 => ?_) (fun c_16 => ?_)
      · refine lv_lload hx hb dX6_allowedBy_72 (lv_at hl 0 rfl) ?_
        refine lv_ladd hx hb dX6_allowedBy_74 ?_
        refine lv_topl (fun z_17 ez_17 => ?_)
        refine lv_lstore (lv' := [(4, .long z_17), (7, .long z_11), (6, .int v_3), (0, .ref h0), (1, .int p0), (2, .long p1)]) hx hb dX6_allowedBy_75 hl (by decide) rfl (fun ls hl => ?_)
        refine lv_iinc (v := v_3 + 1) (lv' := [(6, .int (v_3 + 1)), (4, .long z_17), (7, .long z_11), (0, .ref h0), (1, .int p0), (2, .long p1)]) hx hb dX6_allowedBy_77 hl (k := 2) rfl rfl (by decide) rfl (fun ls hl => ?_)
        refine lv_goto (tgt := 9) hx hb dX6_allowedBy_80 (by decide) ?_
        exact hnext_4 (z_17, v_3 + 1) ls (xup c_8) (lv_sub hl [0, 1, 3, 4, 5] rfl)
      · refine lv_lload_n hx hb dX6_allowedBy_56 rfl (lv_at hl 5 rfl) ?_
        refine lv_ldc2 (v := 60) hx hb hown (htl (.constantLong RX6 44 (60)) mW617) dX6_allowedBy_57 ?_
        refine lv_lmul hx hb dX6_allowedBy_60 ?_
        refine lv_topl (fun z_19 ez_19 => ?_)
        refine lv_ldc2 (v := 1000) hx hb hown (htl (.constantLong RX6 46 (1000)) mW618) dX6_allowedBy_61 ?_
        refine lv_lload hx hb dX6_allowedBy_64 (lv_at hl 0 rfl) ?_
        refine lv_lneg hx hb dX6_allowedBy_66 ?_
        refine lv_topl (fun z_20 ez_20 => ?_)
        refine lv_lmul hx hb dX6_allowedBy_67 ?_
        refine lv_topl (fun z_21 ez_21 => ?_)
        refine lv_ldiv hx hb dX6_allowedBy_68 (xnz ez_11 (by rw [← ez_15]; exact c_16) ez_20 ez_21) ?_
        refine lv_topl (fun z_22 ez_22 => ?_)
        refine lv_goto (tgt := 74) hx hb dX6_allowedBy_69 (by decide) ?_
        refine lv_ladd hx hb dX6_allowedBy_74 ?_
        refine lv_topl (fun z_23 ez_23 => ?_)
        refine lv_lstore (lv' := [(4, .long z_23), (7, .long z_11), (6, .int v_3), (0, .ref h0), (1, .int p0), (2, .long p1)]) hx hb dX6_allowedBy_75 hl (by decide) rfl (fun ls hl => ?_)
        refine lv_iinc (v := v_3 + 1) (lv' := [(6, .int (v_3 + 1)), (4, .long z_23), (7, .long z_11), (0, .ref h0), (1, .int p0), (2, .long p1)]) hx hb dX6_allowedBy_77 hl (k := 2) rfl rfl (by decide) rfl (fun ls hl => ?_)
        refine lv_goto (tgt := 9) hx hb dX6_allowedBy_80 (by decide) ?_
        exact hnext_4 (z_23, v_3 + 1) ls (xup c_8) (lv_sub hl [0, 1, 3, 4, 5] rfl)
    · refine lv_goto (tgt := 77) hx hb dX6_allowedBy_44 (by decide) ?_
      refine lv_iinc (v := v_3 + 1) (lv' := [(6, .int (v_3 + 1)), (7, .long z_11), (4, .long v_2), (0, .ref h0), (1, .int p0), (2, .long p1)]) hx hb dX6_allowedBy_77 hl (k := 1) rfl rfl (by decide) rfl (fun ls hl => ?_)
      refine lv_goto (tgt := 9) hx hb dX6_allowedBy_80 (by decide) ?_
      exact hnext_4 (v_2, v_3 + 1) ls (xup c_8) (lv_sub hl [0, 2, 3, 4, 5] rfl)
