theorem dX8_contractReason_0 : decode cX8_contractReason 0 = .ok (.iload_n 1, 1) := by decide +kernel
theorem dX8_contractReason_1 : decode cX8_contractReason 1 = .ok (.iconst 0, 1) := by decide +kernel
theorem dX8_contractReason_2 : decode cX8_contractReason 2 = .ok (.bipush 39, 2) := by decide +kernel
theorem dX8_contractReason_4 : decode cX8_contractReason 4 = .ok (.invokestatic 71, 3) := by decide +kernel
theorem dX8_contractReason_7 : decode cX8_contractReason 7 = .ok (.ifCond .ne 5, 3) := by decide +kernel
theorem dX8_contractReason_10 : decode cX8_contractReason 10 = .ok (.iconst 1, 1) := by decide +kernel
theorem dX8_contractReason_11 : decode cX8_contractReason 11 = .ok (.ireturn, 1) := by decide +kernel
theorem dX8_contractReason_12 : decode cX8_contractReason 12 = .ok (.iload_n 1, 1) := by decide +kernel
theorem dX8_contractReason_13 : decode cX8_contractReason 13 = .ok (.aload_n 0, 1) := by decide +kernel
theorem dX8_contractReason_14 : decode cX8_contractReason 14 = .ok (.getfield 12, 3) := by decide +kernel
theorem dX8_contractReason_17 : decode cX8_contractReason 17 = .ok (.getfield 32, 3) := by decide +kernel
theorem dX8_contractReason_20 : decode cX8_contractReason 20 = .ok (.getfield 36, 3) := by decide +kernel
theorem dX8_contractReason_23 : decode cX8_contractReason 23 = .ok (.if_icmp .ge 7, 3) := by decide +kernel
theorem dX8_contractReason_26 : decode cX8_contractReason 26 = .ok (.iconst 0, 1) := by decide +kernel
theorem dX8_contractReason_27 : decode cX8_contractReason 27 = .ok (.goto 4, 3) := by decide +kernel
theorem dX8_contractReason_30 : decode cX8_contractReason 30 = .ok (.iconst 2, 1) := by decide +kernel
theorem dX8_contractReason_31 : decode cX8_contractReason 31 = .ok (.ireturn, 1) := by decide +kernel
set_option maxHeartbeats 4000000 in
set_option maxRecDepth 100000 in
theorem g_X8_contractReason (l : Launch) (G : xG) (S : yS) (d : yD) (q0 : Nat) (p0 : Int32) (hSh : ySh S) (hm_q0 : q0 ∈ S.1) (hk_q0 : S.2.1 q0 = 8) : xRi l G yX8_contractReason cX8_contractReason 2 (some .int) 1 22 [.ref q0, .int p0] (yW G S d) (fun r => r = xcr (d.1 (S.2.2.1 (S.2.2.1 q0 0) 0) 6) p0) := by
  intro sz
  refine xstart (by decide) (Nat.le_of_ble_eq_true rfl) (fun p e s m args below meth c ls C0 hr hlocks hin hsz hP hK hD hN hl => ?_)
  obtain ⟨hx, hb, hml, hown, htl⟩ := id C0
  have hl : lv_has ls 2 [(0, .ref q0), (1, .int p0)] := hl
  refine lv_iload_n hx hb dX8_contractReason_0 rfl (lv_at hl 1 rfl) ?_
  refine lv_iconst (v := 0) hx hb dX8_contractReason_1 (by decide) ?_
  refine lv_bipush (v := 39) hx hb dX8_contractReason_2 (by decide) ?_
  refine ySri (As := [.int p0, .int 0, .int 39]) (rest := []) C0 (g_X8_within l G S d p0 0 39 ) ok_X8_within (mW193 : Cond.methodLink RX8 71 yX8_within ∈ wsT) ⟨Nat.le_of_ble_eq_true rfl, Nat.le_of_ble_eq_true rfl⟩ hP hD hK hN rfl hl.1 rfl (Nat.le_of_ble_eq_true rfl) ⟨Nat.le_of_ble_eq_true rfl, Nat.le_of_ble_eq_true rfl⟩ dX8_contractReason_4 (fun r_1 hr_1 => ?_)
  refine lv_if_ne (tgt := 12) hx hb dX8_contractReason_7 (by decide) (fun c_2 => ?_) (fun c_2 => ?_)
  · refine lv_iload_n hx hb dX8_contractReason_12 rfl (lv_at hl 1 rfl) ?_
    refine lv_aload_n hx hb dX8_contractReason_13 rfl (lv_at hl 0 rfl) ?_
    refine yget (ci := 8) (k := 0) (v := .ref (S.2.2.1 q0 0)) (C := RX8) (T := TX8) (N := 6) C0 hK hP hm_q0 hk_q0 (by decide) rfl inlX8 (by decide) mW16 (fun _ h9 => h9) rfl dX8_contractReason_14 ?_
    obtain ⟨hmy_3, hky_3⟩ := ySh.f8_0 hSh _ hm_q0 hk_q0
    refine yget (ci := 0) (k := 0) (v := .ref (S.2.2.1 (S.2.2.1 q0 0) 0)) (C := RX0) (T := TX0) (N := 6) C0 hK hP hmy_3 hky_3 (by decide) rfl inlX0 (by decide) mW158 (fun _ h9 => h9) rfl dX8_contractReason_17 ?_
    obtain ⟨hmy_4, hky_4⟩ := ySh.f0_0 hSh _ hmy_3 hky_3
    refine yget (ci := 6) (k := 6) (v := .int (d.1 (S.2.2.1 (S.2.2.1 q0 0) 0) 6)) (C := RX6) (T := TX6) (N := 7) C0 hK hP hmy_4 hky_4 (by decide) rfl inlX6 (by decide) mW159 (fun _ h9 => h9) rfl dX8_contractReason_20 ?_
    refine lv_topi (fun z_5 ez_5 => ?_)
    refine lv_icmp_ge (tgt := 30) hx hb dX8_contractReason_23 (by decide) (fun c_6 => ?_) (fun c_6 => ?_)
    · refine lv_iconst (v := 2) hx hb dX8_contractReason_30 (by decide) ?_
      exact W.iret (v := 2) hx hb hr (fun t ht hW => ⟨2, rfl, (by rw [ez_5] at c_6; exact xcr_2 hr_1 c_2 c_6), ht⟩) (fun q hq => by cases hq) dX8_contractReason_31
    · refine lv_iconst (v := 0) hx hb dX8_contractReason_26 (by decide) ?_
      refine lv_goto (tgt := 31) hx hb dX8_contractReason_27 (by decide) ?_
      exact W.iret (v := 0) hx hb hr (fun t ht hW => ⟨0, rfl, (by rw [ez_5] at c_6; exact xcr_0 hr_1 c_2 c_6), ht⟩) (fun q hq => by cases hq) dX8_contractReason_31
  · refine lv_iconst (v := 1) hx hb dX8_contractReason_10 (by decide) ?_
    exact W.iret (v := 1) hx hb hr (fun t ht hW => ⟨1, rfl, (xcr_1 hr_1 c_2), ht⟩) (fun q hq => by cases hq) dX8_contractReason_11
theorem dX8_placeReason_0 : decode cX8_placeReason 0 = .ok (.aload_n 0, 1) := by decide +kernel
theorem dX8_placeReason_1 : decode cX8_placeReason 1 = .ok (.iload_n 1, 1) := by decide +kernel
theorem dX8_placeReason_2 : decode cX8_placeReason 2 = .ok (.invokevirtual 106, 3) := by decide +kernel
theorem dX8_placeReason_5 : decode cX8_placeReason 5 = .ok (.iload_n 2, 1) := by decide +kernel
theorem dX8_placeReason_6 : decode cX8_placeReason 6 = .ok (.iconst 0, 1) := by decide +kernel
theorem dX8_placeReason_7 : decode cX8_placeReason 7 = .ok (.bipush 59, 2) := by decide +kernel
theorem dX8_placeReason_9 : decode cX8_placeReason 9 = .ok (.invokestatic 71, 3) := by decide +kernel
theorem dX8_placeReason_12 : decode cX8_placeReason 12 = .ok (.invokestatic 54, 3) := by decide +kernel
theorem dX8_placeReason_15 : decode cX8_placeReason 15 = .ok (.invokestatic 58, 3) := by decide +kernel
theorem dX8_placeReason_18 : decode cX8_placeReason 18 = .ok (.ireturn, 1) := by decide +kernel
set_option maxHeartbeats 4000000 in
set_option maxRecDepth 100000 in
theorem g_X8_placeReason (l : Launch) (G : xG) (S : yS) (d : yD) (q0 : Nat) (p0 : Int32) (p1 : Int32) (hSh : ySh S) (hm_q0 : q0 ∈ S.1) (hk_q0 : S.2.1 q0 = 8) : xRi l G yX8_placeReason cX8_placeReason 3 (some .int) 2 43 [.ref q0, .int p0, .int p1] (yW G S d) (fun r => r = xplr (d.1 (S.2.2.1 (S.2.2.1 q0 0) 0) 6) p0 p1) := by
  intro sz
  refine xstart (by decide) (Nat.le_of_ble_eq_true rfl) (fun p e s m args below meth c ls C0 hr hlocks hin hsz hP hK hD hN hl => ?_)
  obtain ⟨hx, hb, hml, hown, htl⟩ := id C0
  have hl : lv_has ls 3 [(0, .ref q0), (1, .int p0), (2, .int p1)] := hl
  refine lv_aload_n hx hb dX8_placeReason_0 rfl (lv_at hl 0 rfl) ?_
  refine lv_iload_n hx hb dX8_placeReason_1 rfl (lv_at hl 1 rfl) ?_
  refine yVri (As := [.int p0]) (rest := []) C0 (g_X8_contractReason l G S d q0 p0 hSh hm_q0 hk_q0) ok_X8_contractReason (mW189 : Cond.methodLink RX8 106 yX8_contractReason ∈ wsT) ⟨Nat.le_of_ble_eq_true rfl, Nat.le_of_ble_eq_true rfl⟩ hP hD hK hN hm_q0 hk_q0 (by decide) rfl rfl rfl hl.1 rfl (Nat.le_of_ble_eq_true rfl) ⟨Nat.le_of_ble_eq_true rfl, Nat.le_of_ble_eq_true rfl⟩ dX8_placeReason_2 (fun r_1 hr_1 => ?_)
  refine lv_iload_n hx hb dX8_placeReason_5 rfl (lv_at hl 2 rfl) ?_
  refine lv_iconst (v := 0) hx hb dX8_placeReason_6 (by decide) ?_
  refine lv_bipush (v := 59) hx hb dX8_placeReason_7 (by decide) ?_
  refine ySri (As := [.int p1, .int 0, .int 59]) (rest := [.int r_1]) C0 (g_X8_within l G S d p1 0 59 ) ok_X8_within (mW193 : Cond.methodLink RX8 71 yX8_within ∈ wsT) ⟨Nat.le_of_ble_eq_true rfl, Nat.le_of_ble_eq_true rfl⟩ hP hD hK hN rfl hl.1 rfl (Nat.le_of_ble_eq_true rfl) ⟨Nat.le_of_ble_eq_true rfl, Nat.le_of_ble_eq_true rfl⟩ dX8_placeReason_9 (fun r_2 hr_2 => ?_)
  refine ySri (As := [.int r_2]) (rest := [.int r_1]) C0 (g_X8_number l G S d r_2 ) ok_X8_number (mW196 : Cond.methodLink RX8 54 yX8_number ∈ wsT) ⟨Nat.le_of_ble_eq_true rfl, Nat.le_of_ble_eq_true rfl⟩ hP hD hK hN rfl hl.1 rfl (Nat.le_of_ble_eq_true rfl) ⟨Nat.le_of_ble_eq_true rfl, Nat.le_of_ble_eq_true rfl⟩ dX8_placeReason_12 (fun r_3 hr_3 => ?_)
  refine ySri (As := [.int r_1, .int r_3]) (rest := []) C0 (g_X8_least l G S d r_1 r_3 ) ok_X8_least (mW199 : Cond.methodLink RX8 58 yX8_least ∈ wsT) ⟨Nat.le_of_ble_eq_true rfl, Nat.le_of_ble_eq_true rfl⟩ hP hD hK hN rfl hl.1 rfl (Nat.le_of_ble_eq_true rfl) ⟨Nat.le_of_ble_eq_true rfl, Nat.le_of_ble_eq_true rfl⟩ dX8_placeReason_15 (fun r_4 hr_4 => ?_)
  exact W.iret (v := r_4) hx hb hr (fun t ht hW => ⟨r_4, rfl, (by rw [hr_4, hr_1, hr_3]; exact xplr_of hr_2), ht⟩) (fun q hq => by cases hq) dX8_placeReason_18
theorem dX8_thingReason_0 : decode cX8_thingReason 0 = .ok (.aload_n 0, 1) := by decide +kernel
theorem dX8_thingReason_1 : decode cX8_thingReason 1 = .ok (.iload_n 1, 1) := by decide +kernel
theorem dX8_thingReason_2 : decode cX8_thingReason 2 = .ok (.iload_n 2, 1) := by decide +kernel
theorem dX8_thingReason_3 : decode cX8_thingReason 3 = .ok (.invokevirtual 46, 3) := by decide +kernel
theorem dX8_thingReason_6 : decode cX8_thingReason 6 = .ok (.istore_n 3, 1) := by decide +kernel
theorem dX8_thingReason_7 : decode cX8_thingReason 7 = .ok (.iload_n 3, 1) := by decide +kernel
theorem dX8_thingReason_8 : decode cX8_thingReason 8 = .ok (.ifCond .ne 28, 3) := by decide +kernel
theorem dX8_thingReason_11 : decode cX8_thingReason 11 = .ok (.aload_n 0, 1) := by decide +kernel
theorem dX8_thingReason_12 : decode cX8_thingReason 12 = .ok (.getfield 12, 3) := by decide +kernel
theorem dX8_thingReason_15 : decode cX8_thingReason 15 = .ok (.getfield 32, 3) := by decide +kernel
theorem dX8_thingReason_18 : decode cX8_thingReason 18 = .ok (.getfield 94, 3) := by decide +kernel
theorem dX8_thingReason_21 : decode cX8_thingReason 21 = .ok (.iload_n 1, 1) := by decide +kernel
theorem dX8_thingReason_22 : decode cX8_thingReason 22 = .ok (.iload_n 2, 1) := by decide +kernel
theorem dX8_thingReason_23 : decode cX8_thingReason 23 = .ok (.invokestatic 61, 3) := by decide +kernel
theorem dX8_thingReason_26 : decode cX8_thingReason 26 = .ok (.invokestatic 78, 3) := by decide +kernel
theorem dX8_thingReason_29 : decode cX8_thingReason 29 = .ok (.bipush 6, 2) := by decide +kernel
theorem dX8_thingReason_31 : decode cX8_thingReason 31 = .ok (.if_icmp .ne 5, 3) := by decide +kernel
theorem dX8_thingReason_34 : decode cX8_thingReason 34 = .ok (.iconst 2, 1) := by decide +kernel
theorem dX8_thingReason_35 : decode cX8_thingReason 35 = .ok (.ireturn, 1) := by decide +kernel
theorem dX8_thingReason_36 : decode cX8_thingReason 36 = .ok (.iload_n 3, 1) := by decide +kernel
theorem dX8_thingReason_37 : decode cX8_thingReason 37 = .ok (.ireturn, 1) := by decide +kernel
set_option maxHeartbeats 4000000 in
set_option maxRecDepth 100000 in
theorem g_X8_thingReason (l : Launch) (G : xG) (S : yS) (d : yD) (q0 : Nat) (p0 : Int32) (p1 : Int32) (hSh : ySh S) (hm_q0 : q0 ∈ S.1) (hk_q0 : S.2.1 q0 = 8) : xRi l G yX8_thingReason cX8_thingReason 4 (some .int) 3 65 [.ref q0, .int p0, .int p1] (yW G S d) (fun r => r = xthr (d.1 (S.2.2.1 (S.2.2.1 q0 0) 0) 6) (xat 2402 (d.2.2.2.1 (S.2.2.1 (S.2.2.1 (S.2.2.1 q0 0) 0) 0)) (p0 * 60 + p1)) p0 p1) := by
  intro sz
  refine xstart (by decide) (Nat.le_of_ble_eq_true rfl) (fun p e s m args below meth c ls C0 hr hlocks hin hsz hP hK hD hN hl => ?_)
  obtain ⟨hx, hb, hml, hown, htl⟩ := id C0
  have hl : lv_has ls 4 [(0, .ref q0), (1, .int p0), (2, .int p1)] := hl
  refine lv_aload_n hx hb dX8_thingReason_0 rfl (lv_at hl 0 rfl) ?_
  refine lv_iload_n hx hb dX8_thingReason_1 rfl (lv_at hl 1 rfl) ?_
  refine lv_iload_n hx hb dX8_thingReason_2 rfl (lv_at hl 2 rfl) ?_
  refine yVri (As := [.int p0, .int p1]) (rest := []) C0 (g_X8_placeReason l G S d q0 p0 p1 hSh hm_q0 hk_q0) ok_X8_placeReason (mW185 : Cond.methodLink RX8 46 yX8_placeReason ∈ wsT) ⟨Nat.le_of_ble_eq_true rfl, Nat.le_of_ble_eq_true rfl⟩ hP hD hK hN hm_q0 hk_q0 (by decide) rfl rfl rfl hl.1 rfl (Nat.le_of_ble_eq_true rfl) ⟨Nat.le_of_ble_eq_true rfl, Nat.le_of_ble_eq_true rfl⟩ dX8_thingReason_3 (fun r_1 hr_1 => ?_)
  refine lv_istore_n (lv' := [(3, .int r_1), (0, .ref q0), (1, .int p0), (2, .int p1)]) hx hb dX8_thingReason_6 rfl hl (by decide) rfl (fun ls hl => ?_)
  refine lv_iload_n hx hb dX8_thingReason_7 rfl (lv_at hl 0 rfl) ?_
  refine lv_if_ne (tgt := 36) hx hb dX8_thingReason_8 (by decide) (fun c_2 => ?_) (fun c_2 => ?_)
  · refine lv_iload_n hx hb dX8_thingReason_36 rfl (lv_at hl 0 rfl) ?_
    exact W.iret (v := r_1) hx hb hr (fun t ht hW => ⟨r_1, rfl, (xthr_n hr_1 c_2), ht⟩) (fun q hq => by cases hq) dX8_thingReason_37
  · refine lv_aload_n hx hb dX8_thingReason_11 rfl (lv_at hl 1 rfl) ?_
    refine yget (ci := 8) (k := 0) (v := .ref (S.2.2.1 q0 0)) (C := RX8) (T := TX8) (N := 6) C0 hK hP hm_q0 hk_q0 (by decide) rfl inlX8 (by decide) mW16 (fun _ h9 => h9) rfl dX8_thingReason_12 ?_
    obtain ⟨hmy_3, hky_3⟩ := ySh.f8_0 hSh _ hm_q0 hk_q0
    refine yget (ci := 0) (k := 0) (v := .ref (S.2.2.1 (S.2.2.1 q0 0) 0)) (C := RX0) (T := TX0) (N := 6) C0 hK hP hmy_3 hky_3 (by decide) rfl inlX0 (by decide) mW158 (fun _ h9 => h9) rfl dX8_thingReason_15 ?_
    obtain ⟨hmy_4, hky_4⟩ := ySh.f0_0 hSh _ hmy_3 hky_3
    refine yget (ci := 6) (k := 0) (v := .ref (S.2.2.1 (S.2.2.1 (S.2.2.1 q0 0) 0) 0)) (C := RX6) (T := TX6) (N := 7) C0 hK hP hmy_4 hky_4 (by decide) rfl inlX6 (by decide) mW239 (fun _ h9 => h9) rfl dX8_thingReason_18 ?_
    obtain ⟨hmy_5, hky_5⟩ := ySh.f6_0 hSh _ hmy_4 hky_4
    refine lv_iload_n hx hb dX8_thingReason_21 rfl (lv_at hl 2 rfl) ?_
    refine lv_iload_n hx hb dX8_thingReason_22 rfl (lv_at hl 3 rfl) ?_
    refine ySri (As := [.int p0, .int p1]) (rest := [.ref (S.2.2.1 (S.2.2.1 (S.2.2.1 q0 0) 0) 0)]) C0 (g_X8_rowOf l G S d p0 p1 ) ok_X8_rowOf (mW210 : Cond.methodLink RX8 61 yX8_rowOf ∈ wsT) ⟨Nat.le_of_ble_eq_true rfl, Nat.le_of_ble_eq_true rfl⟩ hP hD hK hN rfl hl.1 rfl (Nat.le_of_ble_eq_true rfl) ⟨Nat.le_of_ble_eq_true rfl, Nat.le_of_ble_eq_true rfl⟩ dX8_thingReason_23 (fun r_6 hr_6 => ?_)
    refine ySri (As := [.ref (S.2.2.1 (S.2.2.1 (S.2.2.1 q0 0) 0) 0), .int r_6]) (rest := []) C0 (g_X8_at l G S d (S.2.2.1 (S.2.2.1 (S.2.2.1 q0 0) 0) 0) 10 r_6 hmy_5 hky_5 (by decide) rfl rfl (by decide)) ok_X8_at (mW165 : Cond.methodLink RX8 78 yX8_at ∈ wsT) ⟨Nat.le_of_ble_eq_true rfl, Nat.le_of_ble_eq_true rfl⟩ hP hD hK hN rfl hl.1 rfl (Nat.le_of_ble_eq_true rfl) ⟨Nat.le_of_ble_eq_true rfl, Nat.le_of_ble_eq_true rfl⟩ dX8_thingReason_26 (fun r_7 hr_7 => ?_)
    refine lv_bipush (v := 6) hx hb dX8_thingReason_29 (by decide) ?_
    refine lv_icmp_ne (tgt := 36) hx hb dX8_thingReason_31 (by decide) (fun c_8 => ?_) (fun c_8 => ?_)
    · refine lv_iload_n hx hb dX8_thingReason_36 rfl (lv_at hl 0 rfl) ?_
      exact W.iret (v := r_1) hx hb hr (fun t ht hW => ⟨r_1, rfl, (xthr_o hr_1 c_2 (hr_7.trans (by rw [hr_6]; rfl)) c_8), ht⟩) (fun q hq => by cases hq) dX8_thingReason_37
    · refine lv_iconst (v := 2) hx hb dX8_thingReason_34 (by decide) ?_
      exact W.iret (v := 2) hx hb hr (fun t ht hW => ⟨2, rfl, (xthr_6 hr_1 c_2 (hr_7.trans (by rw [hr_6]; rfl)) c_8), ht⟩) (fun q hq => by cases hq) dX8_thingReason_35
theorem dX8_termReason_0 : decode cX8_termReason 0 = .ok (.aload_n 0, 1) := by decide +kernel
theorem dX8_termReason_1 : decode cX8_termReason 1 = .ok (.iload_n 1, 1) := by decide +kernel
theorem dX8_termReason_2 : decode cX8_termReason 2 = .ok (.iload_n 2, 1) := by decide +kernel
theorem dX8_termReason_3 : decode cX8_termReason 3 = .ok (.invokevirtual 91, 3) := by decide +kernel
theorem dX8_termReason_6 : decode cX8_termReason 6 = .ok (.istore_n 3, 1) := by decide +kernel
theorem dX8_termReason_7 : decode cX8_termReason 7 = .ok (.iload_n 3, 1) := by decide +kernel
theorem dX8_termReason_8 : decode cX8_termReason 8 = .ok (.ifCond .ne 27, 3) := by decide +kernel
theorem dX8_termReason_11 : decode cX8_termReason 11 = .ok (.aload_n 0, 1) := by decide +kernel
theorem dX8_termReason_12 : decode cX8_termReason 12 = .ok (.getfield 12, 3) := by decide +kernel
theorem dX8_termReason_15 : decode cX8_termReason 15 = .ok (.getfield 32, 3) := by decide +kernel
theorem dX8_termReason_18 : decode cX8_termReason 18 = .ok (.getfield 94, 3) := by decide +kernel
theorem dX8_termReason_21 : decode cX8_termReason 21 = .ok (.iload_n 1, 1) := by decide +kernel
theorem dX8_termReason_22 : decode cX8_termReason 22 = .ok (.iload_n 2, 1) := by decide +kernel
theorem dX8_termReason_23 : decode cX8_termReason 23 = .ok (.invokestatic 61, 3) := by decide +kernel
theorem dX8_termReason_26 : decode cX8_termReason 26 = .ok (.invokestatic 78, 3) := by decide +kernel
theorem dX8_termReason_29 : decode cX8_termReason 29 = .ok (.iconst 5, 1) := by decide +kernel
theorem dX8_termReason_30 : decode cX8_termReason 30 = .ok (.if_icmp .ne 5, 3) := by decide +kernel
theorem dX8_termReason_33 : decode cX8_termReason 33 = .ok (.iconst 3, 1) := by decide +kernel
theorem dX8_termReason_34 : decode cX8_termReason 34 = .ok (.ireturn, 1) := by decide +kernel
theorem dX8_termReason_35 : decode cX8_termReason 35 = .ok (.iload_n 3, 1) := by decide +kernel
theorem dX8_termReason_36 : decode cX8_termReason 36 = .ok (.ireturn, 1) := by decide +kernel
set_option maxHeartbeats 4000000 in
set_option maxRecDepth 100000 in
theorem g_X8_termReason (l : Launch) (G : xG) (S : yS) (d : yD) (q0 : Nat) (p0 : Int32) (p1 : Int32) (hSh : ySh S) (hm_q0 : q0 ∈ S.1) (hk_q0 : S.2.1 q0 = 8) : xRi l G yX8_termReason cX8_termReason 4 (some .int) 4 88 [.ref q0, .int p0, .int p1] (yW G S d) (fun r => r = xter (d.1 (S.2.2.1 (S.2.2.1 q0 0) 0) 6) (xat 2402 (d.2.2.2.1 (S.2.2.1 (S.2.2.1 (S.2.2.1 q0 0) 0) 0)) (p0 * 60 + p1)) p0 p1) := by
  intro sz
  refine xstart (by decide) (Nat.le_of_ble_eq_true rfl) (fun p e s m args below meth c ls C0 hr hlocks hin hsz hP hK hD hN hl => ?_)
  obtain ⟨hx, hb, hml, hown, htl⟩ := id C0
  have hl : lv_has ls 4 [(0, .ref q0), (1, .int p0), (2, .int p1)] := hl
  refine lv_aload_n hx hb dX8_termReason_0 rfl (lv_at hl 0 rfl) ?_
  refine lv_iload_n hx hb dX8_termReason_1 rfl (lv_at hl 1 rfl) ?_
  refine lv_iload_n hx hb dX8_termReason_2 rfl (lv_at hl 2 rfl) ?_
  refine yVri (As := [.int p0, .int p1]) (rest := []) C0 (g_X8_thingReason l G S d q0 p0 p1 hSh hm_q0 hk_q0) ok_X8_thingReason (mW240 : Cond.methodLink RX8 91 yX8_thingReason ∈ wsT) ⟨Nat.le_of_ble_eq_true rfl, Nat.le_of_ble_eq_true rfl⟩ hP hD hK hN hm_q0 hk_q0 (by decide) rfl rfl rfl hl.1 rfl (Nat.le_of_ble_eq_true rfl) ⟨Nat.le_of_ble_eq_true rfl, Nat.le_of_ble_eq_true rfl⟩ dX8_termReason_3 (fun r_1 hr_1 => ?_)
  refine lv_istore_n (lv' := [(3, .int r_1), (0, .ref q0), (1, .int p0), (2, .int p1)]) hx hb dX8_termReason_6 rfl hl (by decide) rfl (fun ls hl => ?_)
  refine lv_iload_n hx hb dX8_termReason_7 rfl (lv_at hl 0 rfl) ?_
  refine lv_if_ne (tgt := 35) hx hb dX8_termReason_8 (by decide) (fun c_2 => ?_) (fun c_2 => ?_)
  · refine lv_iload_n hx hb dX8_termReason_35 rfl (lv_at hl 0 rfl) ?_
    exact W.iret (v := r_1) hx hb hr (fun t ht hW => ⟨r_1, rfl, (xter_n hr_1 c_2), ht⟩) (fun q hq => by cases hq) dX8_termReason_36
  · refine lv_aload_n hx hb dX8_termReason_11 rfl (lv_at hl 1 rfl) ?_
    refine yget (ci := 8) (k := 0) (v := .ref (S.2.2.1 q0 0)) (C := RX8) (T := TX8) (N := 6) C0 hK hP hm_q0 hk_q0 (by decide) rfl inlX8 (by decide) mW16 (fun _ h9 => h9) rfl dX8_termReason_12 ?_
    obtain ⟨hmy_3, hky_3⟩ := ySh.f8_0 hSh _ hm_q0 hk_q0
    refine yget (ci := 0) (k := 0) (v := .ref (S.2.2.1 (S.2.2.1 q0 0) 0)) (C := RX0) (T := TX0) (N := 6) C0 hK hP hmy_3 hky_3 (by decide) rfl inlX0 (by decide) mW158 (fun _ h9 => h9) rfl dX8_termReason_15 ?_
    obtain ⟨hmy_4, hky_4⟩ := ySh.f0_0 hSh _ hmy_3 hky_3
    refine yget (ci := 6) (k := 0) (v := .ref (S.2.2.1 (S.2.2.1 (S.2.2.1 q0 0) 0) 0)) (C := RX6) (T := TX6) (N := 7) C0 hK hP hmy_4 hky_4 (by decide) rfl inlX6 (by decide) mW239 (fun _ h9 => h9) rfl dX8_termReason_18 ?_
    obtain ⟨hmy_5, hky_5⟩ := ySh.f6_0 hSh _ hmy_4 hky_4
    refine lv_iload_n hx hb dX8_termReason_21 rfl (lv_at hl 2 rfl) ?_
    refine lv_iload_n hx hb dX8_termReason_22 rfl (lv_at hl 3 rfl) ?_
    refine ySri (As := [.int p0, .int p1]) (rest := [.ref (S.2.2.1 (S.2.2.1 (S.2.2.1 q0 0) 0) 0)]) C0 (g_X8_rowOf l G S d p0 p1 ) ok_X8_rowOf (mW210 : Cond.methodLink RX8 61 yX8_rowOf ∈ wsT) ⟨Nat.le_of_ble_eq_true rfl, Nat.le_of_ble_eq_true rfl⟩ hP hD hK hN rfl hl.1 rfl (Nat.le_of_ble_eq_true rfl) ⟨Nat.le_of_ble_eq_true rfl, Nat.le_of_ble_eq_true rfl⟩ dX8_termReason_23 (fun r_6 hr_6 => ?_)
    refine ySri (As := [.ref (S.2.2.1 (S.2.2.1 (S.2.2.1 q0 0) 0) 0), .int r_6]) (rest := []) C0 (g_X8_at l G S d (S.2.2.1 (S.2.2.1 (S.2.2.1 q0 0) 0) 0) 10 r_6 hmy_5 hky_5 (by decide) rfl rfl (by decide)) ok_X8_at (mW165 : Cond.methodLink RX8 78 yX8_at ∈ wsT) ⟨Nat.le_of_ble_eq_true rfl, Nat.le_of_ble_eq_true rfl⟩ hP hD hK hN rfl hl.1 rfl (Nat.le_of_ble_eq_true rfl) ⟨Nat.le_of_ble_eq_true rfl, Nat.le_of_ble_eq_true rfl⟩ dX8_termReason_26 (fun r_7 hr_7 => ?_)
    refine lv_iconst (v := 5) hx hb dX8_termReason_29 (by decide) ?_
    refine lv_icmp_ne (tgt := 35) hx hb dX8_termReason_30 (by decide) (fun c_8 => ?_) (fun c_8 => ?_)
    · refine lv_iload_n hx hb dX8_termReason_35 rfl (lv_at hl 0 rfl) ?_
      exact W.iret (v := r_1) hx hb hr (fun t ht hW => ⟨r_1, rfl, (xter_o hr_1 c_2 (hr_7.trans (by rw [hr_6]; rfl)) c_8), ht⟩) (fun q hq => by cases hq) dX8_termReason_36
    · refine lv_iconst (v := 3) hx hb dX8_termReason_33 (by decide) ?_
      exact W.iret (v := 3) hx hb hr (fun t ht hW => ⟨3, rfl, (xter_5 hr_1 c_2 (hr_7.trans (by rw [hr_6]; rfl)) c_8), ht⟩) (fun q hq => by cases hq) dX8_termReason_34
theorem dX0_portAt_0 : decode cX0_portAt 0 = .ok (.iload_n 1, 1) := by decide +kernel
theorem dX0_portAt_1 : decode cX0_portAt 1 = .ok (.ifCond .lt 21, 3) := by decide +kernel
theorem dX0_portAt_4 : decode cX0_portAt 4 = .ok (.iload_n 1, 1) := by decide +kernel
theorem dX0_portAt_5 : decode cX0_portAt 5 = .ok (.aload_n 0, 1) := by decide +kernel
theorem dX0_portAt_6 : decode cX0_portAt 6 = .ok (.getfield 34, 3) := by decide +kernel
theorem dX0_portAt_9 : decode cX0_portAt 9 = .ok (.arraylength, 1) := by decide +kernel
theorem dX0_portAt_10 : decode cX0_portAt 10 = .ok (.if_icmp .ge 12, 3) := by decide +kernel
theorem dX0_portAt_13 : decode cX0_portAt 13 = .ok (.aload_n 0, 1) := by decide +kernel
theorem dX0_portAt_14 : decode cX0_portAt 14 = .ok (.getfield 34, 3) := by decide +kernel
theorem dX0_portAt_17 : decode cX0_portAt 17 = .ok (.iload_n 1, 1) := by decide +kernel
theorem dX0_portAt_18 : decode cX0_portAt 18 = .ok (.aaload, 1) := by decide +kernel
theorem dX0_portAt_19 : decode cX0_portAt 19 = .ok (.goto 7, 3) := by decide +kernel
theorem dX0_portAt_22 : decode cX0_portAt 22 = .ok (.aload_n 0, 1) := by decide +kernel
theorem dX0_portAt_23 : decode cX0_portAt 23 = .ok (.getfield 39, 3) := by decide +kernel
theorem dX0_portAt_26 : decode cX0_portAt 26 = .ok (.areturn, 1) := by decide +kernel
set_option maxHeartbeats 4000000 in
set_option maxRecDepth 100000 in
theorem g_X0_portAt (l : Launch) (G : xG) (S : yS) (d : yD) (b0 : Nat) (p0 : Int32) (hSh : ySh S) (hm_b0 : b0 ∈ S.1) (hk_b0 : S.2.1 b0 = 0) : xRr l G yX0_portAt cX0_portAt 2 (some (.object "LaytimeDesk$Port")) 0 0 [.ref b0, .int p0] (yW G S d) (fun r => r ∈ S.1 ∧ S.2.1 r = 4 ∧ r = yPA S b0 p0) := by
  intro sz
  refine xstart (by decide) (Nat.le_of_ble_eq_true rfl) (fun p e s m args below meth c ls C0 hr hlocks hin hsz hP hK hD hN hl => ?_)
  obtain ⟨hx, hb, hml, hown, htl⟩ := id C0
  have hl : lv_has ls 2 [(0, .ref b0), (1, .int p0)] := hl
  refine lv_iload_n hx hb dX0_portAt_0 rfl (lv_at hl 1 rfl) ?_
  refine lv_if_lt (tgt := 22) hx hb dX0_portAt_1 (by decide) (fun c_1 => ?_) (fun c_1 => ?_)
  · refine lv_aload_n hx hb dX0_portAt_22 rfl (lv_at hl 0 rfl) ?_
    refine yget (ci := 0) (k := 4) (v := .ref (S.2.2.1 b0 4)) (C := RX0) (T := TX0) (N := 6) C0 hK hP hm_b0 hk_b0 (by decide) rfl inlX0 (by decide) mW44 (fun _ h9 => h9) rfl dX0_portAt_23 ?_
    obtain ⟨hmy_2, hky_2⟩ := ySh.f0_4 hSh _ hm_b0 hk_b0
    exact W.aret (v := .ref (S.2.2.1 b0 4)) hx hb hr (Or.inl ⟨_, rfl⟩) (Or.inr ⟨_, rfl⟩) (fun t ht hW => ⟨S.2.2.1 b0 4, rfl, ⟨hmy_2, hky_2, (yPA_o (Or.inl c_1)).symm⟩, ht⟩) (fun q hq => by cases hq) dX0_portAt_26
  · refine lv_iload_n hx hb dX0_portAt_4 rfl (lv_at hl 1 rfl) ?_
    refine lv_aload_n hx hb dX0_portAt_5 rfl (lv_at hl 0 rfl) ?_
    refine yget (ci := 0) (k := 3) (v := .ref (S.2.2.1 b0 3)) (C := RX0) (T := TX0) (N := 6) C0 hK hP hm_b0 hk_b0 (by decide) rfl inlX0 (by decide) mW41 (fun _ h9 => h9) rfl dX0_portAt_6 ?_
    obtain ⟨hmy_3, hky_3⟩ := ySh.f0_3 hSh _ hm_b0 hk_b0
    refine ylen (v := 8) C0 hK hP hmy_3 hky_3 (by decide) 5 rfl (by decide +kernel) dX0_portAt_9 ?_
    refine lv_icmp_ge (tgt := 22) hx hb dX0_portAt_10 (by decide) (fun c_4 => ?_) (fun c_4 => ?_)
    · refine lv_aload_n hx hb dX0_portAt_22 rfl (lv_at hl 0 rfl) ?_
      refine yget (ci := 0) (k := 4) (v := .ref (S.2.2.1 b0 4)) (C := RX0) (T := TX0) (N := 6) C0 hK hP hm_b0 hk_b0 (by decide) rfl inlX0 (by decide) mW44 (fun _ h9 => h9) rfl dX0_portAt_23 ?_
      obtain ⟨hmy_5, hky_5⟩ := ySh.f0_4 hSh _ hm_b0 hk_b0
      exact W.aret (v := .ref (S.2.2.1 b0 4)) hx hb hr (Or.inl ⟨_, rfl⟩) (Or.inr ⟨_, rfl⟩) (fun t ht hW => ⟨S.2.2.1 b0 4, rfl, ⟨hmy_5, hky_5, (yPA_o (Or.inr c_4)).symm⟩, ht⟩) (fun q hq => by cases hq) dX0_portAt_26
    · refine lv_aload_n hx hb dX0_portAt_13 rfl (lv_at hl 0 rfl) ?_
      refine yget (ci := 0) (k := 3) (v := .ref (S.2.2.1 b0 3)) (C := RX0) (T := TX0) (N := 6) C0 hK hP hm_b0 hk_b0 (by decide) rfl inlX0 (by decide) mW41 (fun _ h9 => h9) rfl dX0_portAt_14 ?_
      refine lv_iload_n hx hb dX0_portAt_17 rfl (lv_at hl 1 rfl) ?_
      obtain ⟨y_6, hqy_6, hmy_6, hky_6⟩ := ySh.q25 hSh _ hmy_3 hky_3 (p0 : Int32).toNatClampNeg (by have h := xin (n := 8) c_1 c_4 (by decide); exact Nat.not_le.mp fun q => h (Or.inr q))
      refine yaldQ (C := RX4) C0 hK hP hmy_3 hky_3 (by decide) rfl 5 rfl (xin (n := 8) c_1 c_4 (by decide)) hqy_6 dX0_portAt_18 ?_
      refine lv_goto (tgt := 26) hx hb dX0_portAt_19 (by decide) ?_
      exact W.aret (v := .ref y_6) hx hb hr (Or.inl ⟨_, rfl⟩) (Or.inr ⟨_, rfl⟩) (fun t ht hW => ⟨y_6, rfl, ⟨hmy_6, hky_6, (yPA_i c_1 c_4 hqy_6).symm⟩, ht⟩) (fun q hq => by cases hq) dX0_portAt_26
theorem dX8_portReason_0 : decode cX8_portReason 0 = .ok (.iload_n 1, 1) := by decide +kernel
theorem dX8_portReason_1 : decode cX8_portReason 1 = .ok (.iconst 0, 1) := by decide +kernel
theorem dX8_portReason_2 : decode cX8_portReason 2 = .ok (.bipush 7, 2) := by decide +kernel
theorem dX8_portReason_4 : decode cX8_portReason 4 = .ok (.invokestatic 71, 3) := by decide +kernel
theorem dX8_portReason_7 : decode cX8_portReason 7 = .ok (.ifCond .ne 5, 3) := by decide +kernel
theorem dX8_portReason_10 : decode cX8_portReason 10 = .ok (.iconst 1, 1) := by decide +kernel
theorem dX8_portReason_11 : decode cX8_portReason 11 = .ok (.ireturn, 1) := by decide +kernel
theorem dX8_portReason_12 : decode cX8_portReason 12 = .ok (.aload_n 0, 1) := by decide +kernel
theorem dX8_portReason_13 : decode cX8_portReason 13 = .ok (.getfield 12, 3) := by decide +kernel
theorem dX8_portReason_16 : decode cX8_portReason 16 = .ok (.iload_n 1, 1) := by decide +kernel
theorem dX8_portReason_17 : decode cX8_portReason 17 = .ok (.invokevirtual 114, 3) := by decide +kernel
theorem dX8_portReason_20 : decode cX8_portReason 20 = .ok (.getfield 167, 3) := by decide +kernel
theorem dX8_portReason_23 : decode cX8_portReason 23 = .ok (.ifCond .le 7, 3) := by decide +kernel
theorem dX8_portReason_26 : decode cX8_portReason 26 = .ok (.iconst 0, 1) := by decide +kernel
theorem dX8_portReason_27 : decode cX8_portReason 27 = .ok (.goto 4, 3) := by decide +kernel
theorem dX8_portReason_30 : decode cX8_portReason 30 = .ok (.iconst 2, 1) := by decide +kernel
theorem dX8_portReason_31 : decode cX8_portReason 31 = .ok (.ireturn, 1) := by decide +kernel
set_option maxHeartbeats 4000000 in
set_option maxRecDepth 100000 in
theorem g_X8_portReason (l : Launch) (G : xG) (S : yS) (d : yD) (q0 : Nat) (p0 : Int32) (hSh : ySh S) (hm_q0 : q0 ∈ S.1) (hk_q0 : S.2.1 q0 = 8) : xRi l G yX8_portReason cX8_portReason 2 (some .int) 1 22 [.ref q0, .int p0] (yW G S d) (fun r => r = xpr (d.1 (yPA S (S.2.2.1 q0 0) p0) 2) p0) := by
  intro sz
  refine xstart (by decide) (Nat.le_of_ble_eq_true rfl) (fun p e s m args below meth c ls C0 hr hlocks hin hsz hP hK hD hN hl => ?_)
  obtain ⟨hx, hb, hml, hown, htl⟩ := id C0
  have hl : lv_has ls 2 [(0, .ref q0), (1, .int p0)] := hl
  refine lv_iload_n hx hb dX8_portReason_0 rfl (lv_at hl 1 rfl) ?_
  refine lv_iconst (v := 0) hx hb dX8_portReason_1 (by decide) ?_
  refine lv_bipush (v := 7) hx hb dX8_portReason_2 (by decide) ?_
  refine ySri (As := [.int p0, .int 0, .int 7]) (rest := []) C0 (g_X8_within l G S d p0 0 7 ) ok_X8_within (mW193 : Cond.methodLink RX8 71 yX8_within ∈ wsT) ⟨Nat.le_of_ble_eq_true rfl, Nat.le_of_ble_eq_true rfl⟩ hP hD hK hN rfl hl.1 rfl (Nat.le_of_ble_eq_true rfl) ⟨Nat.le_of_ble_eq_true rfl, Nat.le_of_ble_eq_true rfl⟩ dX8_portReason_4 (fun r_1 hr_1 => ?_)
  refine lv_if_ne (tgt := 12) hx hb dX8_portReason_7 (by decide) (fun c_2 => ?_) (fun c_2 => ?_)
  · refine lv_aload_n hx hb dX8_portReason_12 rfl (lv_at hl 0 rfl) ?_
    refine yget (ci := 8) (k := 0) (v := .ref (S.2.2.1 q0 0)) (C := RX8) (T := TX8) (N := 6) C0 hK hP hm_q0 hk_q0 (by decide) rfl inlX8 (by decide) mW16 (fun _ h9 => h9) rfl dX8_portReason_13 ?_
    obtain ⟨hmy_3, hky_3⟩ := ySh.f8_0 hSh _ hm_q0 hk_q0
    refine lv_iload_n hx hb dX8_portReason_16 rfl (lv_at hl 1 rfl) ?_
    refine yVrr (As := [.int p0]) (rest := []) C0 (g_X0_portAt l G S d (S.2.2.1 q0 0) p0 hSh hmy_3 hky_3) ok_X0_portAt (mW337 : Cond.methodLink RX8 114 yX0_portAt ∈ wsT) ⟨Nat.le_of_ble_eq_true rfl, Nat.le_of_ble_eq_true rfl⟩ hP hD hK hN hmy_3 hky_3 (by decide) rfl rfl rfl hl.1 rfl (Nat.le_of_ble_eq_true rfl) ⟨Nat.le_of_ble_eq_true rfl, Nat.le_of_ble_eq_true rfl⟩ dX8_portReason_17 (fun r_4 hr_4 => ?_)
    obtain ⟨hmr_4, hkr_4, her_4⟩ := hr_4
    refine yget (ci := 4) (k := 2) (v := .int (d.1 r_4 2)) (C := RX4) (T := TX4) (N := 11) C0 hK hP hmr_4 hkr_4 (by decide) rfl inlX4 (by decide) mW378 (fun _ h9 => h9) rfl dX8_portReason_20 ?_
    refine lv_topi (fun z_5 ez_5 => ?_)
    refine lv_if_le (tgt := 30) hx hb dX8_portReason_23 (by decide) (fun c_6 => ?_) (fun c_6 => ?_)
    · refine lv_iconst (v := 2) hx hb dX8_portReason_30 (by decide) ?_
      exact W.iret (v := 2) hx hb hr (fun t ht hW => ⟨2, rfl, (by rw [ez_5, her_4] at c_6; exact xpr_2 hr_1 c_2 c_6), ht⟩) (fun q hq => by cases hq) dX8_portReason_31
    · refine lv_iconst (v := 0) hx hb dX8_portReason_26 (by decide) ?_
      refine lv_goto (tgt := 31) hx hb dX8_portReason_27 (by decide) ?_
      exact W.iret (v := 0) hx hb hr (fun t ht hW => ⟨0, rfl, (by rw [ez_5, her_4] at c_6; exact xpr_0 hr_1 c_2 c_6), ht⟩) (fun q hq => by cases hq) dX8_portReason_31
  · refine lv_iconst (v := 1) hx hb dX8_portReason_10 (by decide) ?_
    exact W.iret (v := 1) hx hb hr (fun t ht hW => ⟨1, rfl, (xpr_1 hr_1 c_2), ht⟩) (fun q hq => by cases hq) dX8_portReason_11
