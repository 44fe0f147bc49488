theorem dX8_dayReason_0 : decode cX8_dayReason 0 = .ok (.aload_n 0, 1) := by decide +kernel
theorem dX8_dayReason_1 : decode cX8_dayReason 1 = .ok (.iload_n 1, 1) := by decide +kernel
theorem dX8_dayReason_2 : decode cX8_dayReason 2 = .ok (.invokevirtual 124, 3) := by decide +kernel
theorem dX8_dayReason_5 : decode cX8_dayReason 5 = .ok (.iload_n 2, 1) := by decide +kernel
theorem dX8_dayReason_6 : decode cX8_dayReason 6 = .ok (.iconst 0, 1) := by decide +kernel
theorem dX8_dayReason_7 : decode cX8_dayReason 7 = .ok (.bipush 89, 2) := by decide +kernel
theorem dX8_dayReason_9 : decode cX8_dayReason 9 = .ok (.invokestatic 71, 3) := by decide +kernel
theorem dX8_dayReason_12 : decode cX8_dayReason 12 = .ok (.invokestatic 54, 3) := by decide +kernel
theorem dX8_dayReason_15 : decode cX8_dayReason 15 = .ok (.invokestatic 58, 3) := by decide +kernel
theorem dX8_dayReason_18 : decode cX8_dayReason 18 = .ok (.istore_n 3, 1) := by decide +kernel
theorem dX8_dayReason_19 : decode cX8_dayReason 19 = .ok (.iload_n 3, 1) := by decide +kernel
theorem dX8_dayReason_20 : decode cX8_dayReason 20 = .ok (.ifCond .ne 20, 3) := by decide +kernel
theorem dX8_dayReason_23 : decode cX8_dayReason 23 = .ok (.iload_n 2, 1) := by decide +kernel
theorem dX8_dayReason_24 : decode cX8_dayReason 24 = .ok (.aload_n 0, 1) := by decide +kernel
theorem dX8_dayReason_25 : decode cX8_dayReason 25 = .ok (.getfield 12, 3) := by decide +kernel
theorem dX8_dayReason_28 : decode cX8_dayReason 28 = .ok (.iload_n 1, 1) := by decide +kernel
theorem dX8_dayReason_29 : decode cX8_dayReason 29 = .ok (.invokevirtual 114, 3) := by decide +kernel
theorem dX8_dayReason_32 : decode cX8_dayReason 32 = .ok (.getfield 167, 3) := by decide +kernel
theorem dX8_dayReason_35 : decode cX8_dayReason 35 = .ok (.if_icmp .lt 5, 3) := by decide +kernel
theorem dX8_dayReason_38 : decode cX8_dayReason 38 = .ok (.iconst 1, 1) := by decide +kernel
theorem dX8_dayReason_39 : decode cX8_dayReason 39 = .ok (.ireturn, 1) := by decide +kernel
theorem dX8_dayReason_40 : decode cX8_dayReason 40 = .ok (.iload_n 3, 1) := by decide +kernel
theorem dX8_dayReason_41 : decode cX8_dayReason 41 = .ok (.ireturn, 1) := by decide +kernel
set_option maxHeartbeats 4000000 in
set_option maxRecDepth 100000 in
theorem g_X8_dayReason (l : Launch) (G : xG) (S : yS) (d : yD) (q0 : Nat) (p0 : Int32) (p1 : Int32) (hSh : ySh S) (hm_q0 : q0 ∈ S.1) (hk_q0 : S.2.1 q0 = 8) : xRi l G yX8_dayReason cX8_dayReason 4 (some .int) 2 43 [.ref q0, .int p0, .int p1] (yW G S d) (fun r => (r.toInt = 0 ∧ 0 ≤ p0.toInt ∧ p0.toInt ≤ 7 ∧ 0 < (d.1 (yPA S (S.2.2.1 q0 0) p0) 2).toInt ∧ 0 ≤ p1.toInt ∧ p1.toInt ≤ 89 ∧ p1.toInt < (d.1 (yPA S (S.2.2.1 q0 0) p0) 2).toInt) ∨ (r.toInt ≠ 0 ∧ ¬ (0 ≤ p0.toInt ∧ p0.toInt ≤ 7 ∧ 0 < (d.1 (yPA S (S.2.2.1 q0 0) p0) 2).toInt ∧ 0 ≤ p1.toInt ∧ p1.toInt ≤ 89 ∧ p1.toInt < (d.1 (yPA S (S.2.2.1 q0 0) p0) 2).toInt))) := by
  intro sz
  refine xstart (by decide) (Nat.le_of_ble_eq_true rfl) (fun p e s m args below meth c ls C0 hr hlocks hin hsz hP hK hD hN hl => ?_)
  obtain ⟨hx, hb, hml, hown, htl⟩ := id C0
  have hl : lv_has ls 4 [(0, .ref q0), (1, .int p0), (2, .int p1)] := hl
  refine lv_aload_n hx hb dX8_dayReason_0 rfl (lv_at hl 0 rfl) ?_
  refine lv_iload_n hx hb dX8_dayReason_1 rfl (lv_at hl 1 rfl) ?_
  refine yVri (As := [.int p0]) (rest := []) C0 (g_X8_portReason l G S d q0 p0 hSh hm_q0 hk_q0) ok_X8_portReason (mW374 : Cond.methodLink RX8 124 yX8_portReason ∈ wsT) ⟨Nat.le_of_ble_eq_true rfl, Nat.le_of_ble_eq_true rfl⟩ hP hD hK hN hm_q0 hk_q0 (by decide) rfl rfl rfl hl.1 rfl (Nat.le_of_ble_eq_true rfl) ⟨Nat.le_of_ble_eq_true rfl, Nat.le_of_ble_eq_true rfl⟩ dX8_dayReason_2 (fun r_1 hr_1 => ?_)
  have tr_1 := tp_ hr_1
  refine lv_iload_n hx hb dX8_dayReason_5 rfl (lv_at hl 2 rfl) ?_
  refine lv_iconst (v := 0) hx hb dX8_dayReason_6 (by decide) ?_
  refine lv_bipush (v := 89) hx hb dX8_dayReason_7 (by decide) ?_
  refine ySri (As := [.int p1, .int 0, .int 89]) (rest := [.int r_1]) C0 (g_X8_within l G S d p1 0 89 ) ok_X8_within (mW193 : Cond.methodLink RX8 71 yX8_within ∈ wsT) ⟨Nat.le_of_ble_eq_true rfl, Nat.le_of_ble_eq_true rfl⟩ hP hD hK hN rfl hl.1 rfl (Nat.le_of_ble_eq_true rfl) ⟨Nat.le_of_ble_eq_true rfl, Nat.le_of_ble_eq_true rfl⟩ dX8_dayReason_9 (fun r_2 hr_2 => ?_)
  have hL_3 : (0 : Int32).toInt = 0 := by decide +kernel
  have hL_4 : (89 : Int32).toInt = 89 := by decide +kernel
  have tr_2 := tw_ hr_2
  refine ySri (As := [.int r_2]) (rest := [.int r_1]) C0 (g_X8_number l G S d r_2 ) ok_X8_number (mW196 : Cond.methodLink RX8 54 yX8_number ∈ wsT) ⟨Nat.le_of_ble_eq_true rfl, Nat.le_of_ble_eq_true rfl⟩ hP hD hK hN rfl hl.1 rfl (Nat.le_of_ble_eq_true rfl) ⟨Nat.le_of_ble_eq_true rfl, Nat.le_of_ble_eq_true rfl⟩ dX8_dayReason_12 (fun r_5 hr_5 => ?_)
  have tr_5 := tn_ hr_5
  refine ySri (As := [.int r_1, .int r_5]) (rest := []) C0 (g_X8_least l G S d r_1 r_5 ) ok_X8_least (mW199 : Cond.methodLink RX8 58 yX8_least ∈ wsT) ⟨Nat.le_of_ble_eq_true rfl, Nat.le_of_ble_eq_true rfl⟩ hP hD hK hN rfl hl.1 rfl (Nat.le_of_ble_eq_true rfl) ⟨Nat.le_of_ble_eq_true rfl, Nat.le_of_ble_eq_true rfl⟩ dX8_dayReason_15 (fun r_6 hr_6 => ?_)
  have tr_6 := tl_ hr_6
  refine lv_istore_n (lv' := [(3, .int r_6), (0, .ref q0), (1, .int p0), (2, .int p1)]) hx hb dX8_dayReason_18 rfl hl (by decide) rfl (fun ls hl => ?_)
  refine lv_iload_n hx hb dX8_dayReason_19 rfl (lv_at hl 0 rfl) ?_
  refine lv_if_ne (tgt := 40) hx hb dX8_dayReason_20 (by decide) (fun c_7 => ?_) (fun c_7 => ?_)
  · refine lv_iload_n hx hb dX8_dayReason_40 rfl (lv_at hl 0 rfl) ?_
    have F_8 := fne (rfl : (r_6 : Int32).toInt = (r_6 : Int32).toInt) (by decide +kernel : (0 : Int32).toInt = 0) c_7
    exact W.iret (v := r_6) hx hb hr (fun t ht hW => ⟨r_6, rfl, (by omega), ht⟩) (fun q hq => by cases hq) dX8_dayReason_41
  · refine lv_iload_n hx hb dX8_dayReason_23 rfl (lv_at hl 3 rfl) ?_
    refine lv_aload_n hx hb dX8_dayReason_24 rfl (lv_at hl 1 rfl) ?_
    refine yget (ci := 8) (k := 0) (v := .ref (S.2.2.1 q0 0)) (C := RX8) (T := TX8) (N := 6) C0 hK hP hm_q0 hk_q0 (by decide) rfl inlX8 (by decide) mW16 (fun _ h9 => h9) rfl dX8_dayReason_25 ?_
    obtain ⟨hmy_9, hky_9⟩ := ySh.f8_0 hSh _ hm_q0 hk_q0
    refine lv_iload_n hx hb dX8_dayReason_28 rfl (lv_at hl 2 rfl) ?_
    refine yVrr (As := [.int p0]) (rest := [.int p1]) C0 (g_X0_portAt l G S d (S.2.2.1 q0 0) p0 hSh hmy_9 hky_9) ok_X0_portAt (mW337 : Cond.methodLink RX8 114 yX0_portAt ∈ wsT) ⟨Nat.le_of_ble_eq_true rfl, Nat.le_of_ble_eq_true rfl⟩ hP hD hK hN hmy_9 hky_9 (by decide) rfl rfl rfl hl.1 rfl (Nat.le_of_ble_eq_true rfl) ⟨Nat.le_of_ble_eq_true rfl, Nat.le_of_ble_eq_true rfl⟩ dX8_dayReason_29 (fun r_10 hr_10 => ?_)
    obtain ⟨hmr_10, hkr_10, her_10⟩ := hr_10
    refine yget (ci := 4) (k := 2) (v := .int (d.1 r_10 2)) (C := RX4) (T := TX4) (N := 11) C0 hK hP hmr_10 hkr_10 (by decide) rfl inlX4 (by decide) mW378 (fun _ h9 => h9) rfl dX8_dayReason_32 ?_
    refine lv_topi (fun z_11 ez_11 => ?_)
    refine lv_icmp_lt (tgt := 40) hx hb dX8_dayReason_35 (by decide) (fun c_12 => ?_) (fun c_12 => ?_)
    · refine lv_iload_n hx hb dX8_dayReason_40 rfl (lv_at hl 0 rfl) ?_
      have hdz_11 : (z_11 : Int32).toInt = (d.1 (yPA S (S.2.2.1 q0 0) p0) 2).toInt := by rw [ez_11, her_10]
      have F_13 := feq (rfl : (r_6 : Int32).toInt = (r_6 : Int32).toInt) (by decide +kernel : (0 : Int32).toInt = 0) c_7
      have T_14 : (z_11 : Int32).toInt = (d.1 r_10 2).toInt := by rw [ez_11]
      have F_15 := flt (rfl : (p1 : Int32).toInt = (p1 : Int32).toInt) (rfl : (z_11 : Int32).toInt = (z_11 : Int32).toInt) c_12
      exact W.iret (v := r_6) hx hb hr (fun t ht hW => ⟨r_6, rfl, (by omega), ht⟩) (fun q hq => by cases hq) dX8_dayReason_41
    · refine lv_iconst (v := 1) hx hb dX8_dayReason_38 (by decide) ?_
      have hdz_11 : (z_11 : Int32).toInt = (d.1 (yPA S (S.2.2.1 q0 0) p0) 2).toInt := by rw [ez_11, her_10]
      have F_16 := feq (rfl : (r_6 : Int32).toInt = (r_6 : Int32).toInt) (by decide +kernel : (0 : Int32).toInt = 0) c_7
      have T_17 : (z_11 : Int32).toInt = (d.1 r_10 2).toInt := by rw [ez_11]
      have F_18 := fnlt (rfl : (p1 : Int32).toInt = (p1 : Int32).toInt) (rfl : (z_11 : Int32).toInt = (z_11 : Int32).toInt) c_12
      exact W.iret (v := 1) hx hb hr (fun t ht hW => ⟨1, rfl, (by have h0_ : (1 : Int32).toInt = 1 := (by decide +kernel); omega), ht⟩) (fun q hq => by cases hq) dX8_dayReason_39
theorem dX8_thereReason_0 : decode cX8_thereReason 0 = .ok (.aload_n 0, 1) := by decide +kernel
theorem dX8_thereReason_1 : decode cX8_thereReason 1 = .ok (.iload_n 1, 1) := by decide +kernel
theorem dX8_thereReason_2 : decode cX8_thereReason 2 = .ok (.iload_n 2, 1) := by decide +kernel
theorem dX8_thereReason_3 : decode cX8_thereReason 3 = .ok (.invokevirtual 149, 3) := by decide +kernel
theorem dX8_thereReason_6 : decode cX8_thereReason 6 = .ok (.istore_n 3, 1) := by decide +kernel
theorem dX8_thereReason_7 : decode cX8_thereReason 7 = .ok (.iload_n 3, 1) := by decide +kernel
theorem dX8_thereReason_8 : decode cX8_thereReason 8 = .ok (.ifCond .ne 24, 3) := by decide +kernel
theorem dX8_thereReason_11 : decode cX8_thereReason 11 = .ok (.aload_n 0, 1) := by decide +kernel
theorem dX8_thereReason_12 : decode cX8_thereReason 12 = .ok (.getfield 12, 3) := by decide +kernel
theorem dX8_thereReason_15 : decode cX8_thereReason 15 = .ok (.iload_n 1, 1) := by decide +kernel
theorem dX8_thereReason_16 : decode cX8_thereReason 16 = .ok (.invokevirtual 114, 3) := by decide +kernel
theorem dX8_thereReason_19 : decode cX8_thereReason 19 = .ok (.getfield 152, 3) := by decide +kernel
theorem dX8_thereReason_22 : decode cX8_thereReason 22 = .ok (.iload_n 2, 1) := by decide +kernel
theorem dX8_thereReason_23 : decode cX8_thereReason 23 = .ok (.invokestatic 78, 3) := by decide +kernel
theorem dX8_thereReason_26 : decode cX8_thereReason 26 = .ok (.iconst (-1), 1) := by decide +kernel
theorem dX8_thereReason_27 : decode cX8_thereReason 27 = .ok (.if_icmp .ne 5, 3) := by decide +kernel
theorem dX8_thereReason_30 : decode cX8_thereReason 30 = .ok (.iconst 2, 1) := by decide +kernel
theorem dX8_thereReason_31 : decode cX8_thereReason 31 = .ok (.ireturn, 1) := by decide +kernel
theorem dX8_thereReason_32 : decode cX8_thereReason 32 = .ok (.iload_n 3, 1) := by decide +kernel
theorem dX8_thereReason_33 : decode cX8_thereReason 33 = .ok (.ireturn, 1) := by decide +kernel
set_option maxHeartbeats 4000000 in
set_option maxRecDepth 100000 in
theorem g_X8_thereReason (l : Launch) (G : xG) (S : yS) (d : yD) (q0 : Nat) (p0 : Int32) (p1 : Int32) (hSh : ySh S) (hm_q0 : q0 ∈ S.1) (hk_q0 : S.2.1 q0 = 8) : xRi l G yX8_thereReason cX8_thereReason 4 (some .int) 3 66 [.ref q0, .int p0, .int p1] (yW G S d) (fun r => True) := by
  intro sz
  refine xstart (by decide) (Nat.le_of_ble_eq_true rfl) (fun p e s m args below meth c ls C0 hr hlocks hin hsz hP hK hD hN hl => ?_)
  obtain ⟨hx, hb, hml, hown, htl⟩ := id C0
  have hl : lv_has ls 4 [(0, .ref q0), (1, .int p0), (2, .int p1)] := hl
  refine lv_aload_n hx hb dX8_thereReason_0 rfl (lv_at hl 0 rfl) ?_
  refine lv_iload_n hx hb dX8_thereReason_1 rfl (lv_at hl 1 rfl) ?_
  refine lv_iload_n hx hb dX8_thereReason_2 rfl (lv_at hl 2 rfl) ?_
  refine yVri (As := [.int p0, .int p1]) (rest := []) C0 (g_X8_dayReason l G S d q0 p0 p1 hSh hm_q0 hk_q0) ok_X8_dayReason (mW442 : Cond.methodLink RX8 149 yX8_dayReason ∈ wsT) ⟨Nat.le_of_ble_eq_true rfl, Nat.le_of_ble_eq_true rfl⟩ hP hD hK hN hm_q0 hk_q0 (by decide) rfl rfl rfl hl.1 rfl (Nat.le_of_ble_eq_true rfl) ⟨Nat.le_of_ble_eq_true rfl, Nat.le_of_ble_eq_true rfl⟩ dX8_thereReason_3 (fun r_1 hr_1 => ?_)
  refine lv_istore_n (lv' := [(3, .int r_1), (0, .ref q0), (1, .int p0), (2, .int p1)]) hx hb dX8_thereReason_6 rfl hl (by decide) rfl (fun ls hl => ?_)
  refine lv_iload_n hx hb dX8_thereReason_7 rfl (lv_at hl 0 rfl) ?_
  refine lv_if_ne (tgt := 32) hx hb dX8_thereReason_8 (by decide) (fun c_2 => ?_) (fun c_2 => ?_)
  · refine lv_iload_n hx hb dX8_thereReason_32 rfl (lv_at hl 0 rfl) ?_
    exact W.iret (v := r_1) hx hb hr (fun t ht hW => ⟨r_1, rfl, trivial, ht⟩) (fun q hq => by cases hq) dX8_thereReason_33
  · refine lv_aload_n hx hb dX8_thereReason_11 rfl (lv_at hl 1 rfl) ?_
    refine yget (ci := 8) (k := 0) (v := .ref (S.2.2.1 q0 0)) (C := RX8) (T := TX8) (N := 6) C0 hK hP hm_q0 hk_q0 (by decide) rfl inlX8 (by decide) mW16 (fun _ h9 => h9) rfl dX8_thereReason_12 ?_
    obtain ⟨hmy_3, hky_3⟩ := ySh.f8_0 hSh _ hm_q0 hk_q0
    refine lv_iload_n hx hb dX8_thereReason_15 rfl (lv_at hl 2 rfl) ?_
    refine yVrr (As := [.int p0]) (rest := []) C0 (g_X0_portAt l G S d (S.2.2.1 q0 0) p0 hSh hmy_3 hky_3) ok_X0_portAt (mW337 : Cond.methodLink RX8 114 yX0_portAt ∈ wsT) ⟨Nat.le_of_ble_eq_true rfl, Nat.le_of_ble_eq_true rfl⟩ hP hD hK hN hmy_3 hky_3 (by decide) rfl rfl rfl hl.1 rfl (Nat.le_of_ble_eq_true rfl) ⟨Nat.le_of_ble_eq_true rfl, Nat.le_of_ble_eq_true rfl⟩ dX8_thereReason_16 (fun r_4 hr_4 => ?_)
    obtain ⟨hmr_4, hkr_4, her_4⟩ := hr_4
    refine yget (ci := 4) (k := 0) (v := .ref (S.2.2.1 r_4 0)) (C := RX4) (T := TX4) (N := 11) C0 hK hP hmr_4 hkr_4 (by decide) rfl inlX4 (by decide) mW441 (fun _ h9 => h9) rfl dX8_thereReason_19 ?_
    obtain ⟨hmy_5, hky_5⟩ := ySh.f4_0 hSh _ hmr_4 hkr_4
    refine lv_iload_n hx hb dX8_thereReason_22 rfl (lv_at hl 3 rfl) ?_
    refine ySri (As := [.ref (S.2.2.1 r_4 0), .int p1]) (rest := []) C0 (g_X8_at l G S d (S.2.2.1 r_4 0) 20 p1 hmy_5 hky_5 (by decide) rfl rfl (by decide)) ok_X8_at (mW165 : Cond.methodLink RX8 78 yX8_at ∈ wsT) ⟨Nat.le_of_ble_eq_true rfl, Nat.le_of_ble_eq_true rfl⟩ hP hD hK hN rfl hl.1 rfl (Nat.le_of_ble_eq_true rfl) ⟨Nat.le_of_ble_eq_true rfl, Nat.le_of_ble_eq_true rfl⟩ dX8_thereReason_23 (fun r_6 hr_6 => ?_)
    refine lv_iconst (v := (-1)) hx hb dX8_thereReason_26 (by decide) ?_
    refine lv_icmp_ne (tgt := 32) hx hb dX8_thereReason_27 (by decide) (fun c_7 => ?_) (fun c_7 => ?_)
    · refine lv_iload_n hx hb dX8_thereReason_32 rfl (lv_at hl 0 rfl) ?_
      exact W.iret (v := r_1) hx hb hr (fun t ht hW => ⟨r_1, rfl, trivial, ht⟩) (fun q hq => by cases hq) dX8_thereReason_33
    · refine lv_iconst (v := 2) hx hb dX8_thereReason_30 (by decide) ?_
      exact W.iret (v := 2) hx hb hr (fun t ht hW => ⟨2, rfl, trivial, ht⟩) (fun q hq => by cases hq) dX8_thereReason_31
theorem dX8_minuteReason_0 : decode cX8_minuteReason 0 = .ok (.aload_n 0, 1) := by decide +kernel
theorem dX8_minuteReason_1 : decode cX8_minuteReason 1 = .ok (.iload_n 1, 1) := by decide +kernel
theorem dX8_minuteReason_2 : decode cX8_minuteReason 2 = .ok (.invokevirtual 124, 3) := by decide +kernel
theorem dX8_minuteReason_5 : decode cX8_minuteReason 5 = .ok (.iload_n 2, 1) := by decide +kernel
theorem dX8_minuteReason_6 : decode cX8_minuteReason 6 = .ok (.iconst 0, 1) := by decide +kernel
theorem dX8_minuteReason_7 : decode cX8_minuteReason 7 = .ok (.ldc_w 354, 3) := by decide +kernel
theorem dX8_minuteReason_10 : decode cX8_minuteReason 10 = .ok (.invokestatic 71, 3) := by decide +kernel
theorem dX8_minuteReason_13 : decode cX8_minuteReason 13 = .ok (.invokestatic 54, 3) := by decide +kernel
theorem dX8_minuteReason_16 : decode cX8_minuteReason 16 = .ok (.invokestatic 58, 3) := by decide +kernel
theorem dX8_minuteReason_19 : decode cX8_minuteReason 19 = .ok (.istore_n 3, 1) := by decide +kernel
theorem dX8_minuteReason_20 : decode cX8_minuteReason 20 = .ok (.iload_n 3, 1) := by decide +kernel
theorem dX8_minuteReason_21 : decode cX8_minuteReason 21 = .ok (.ifCond .ne 20, 3) := by decide +kernel
theorem dX8_minuteReason_24 : decode cX8_minuteReason 24 = .ok (.iload_n 2, 1) := by decide +kernel
theorem dX8_minuteReason_25 : decode cX8_minuteReason 25 = .ok (.aload_n 0, 1) := by decide +kernel
theorem dX8_minuteReason_26 : decode cX8_minuteReason 26 = .ok (.getfield 12, 3) := by decide +kernel
theorem dX8_minuteReason_29 : decode cX8_minuteReason 29 = .ok (.iload_n 1, 1) := by decide +kernel
theorem dX8_minuteReason_30 : decode cX8_minuteReason 30 = .ok (.invokevirtual 114, 3) := by decide +kernel
theorem dX8_minuteReason_33 : decode cX8_minuteReason 33 = .ok (.invokevirtual 355, 3) := by decide +kernel
theorem dX8_minuteReason_36 : decode cX8_minuteReason 36 = .ok (.if_icmp .lt 5, 3) := by decide +kernel
theorem dX8_minuteReason_39 : decode cX8_minuteReason 39 = .ok (.iconst 1, 1) := by decide +kernel
theorem dX8_minuteReason_40 : decode cX8_minuteReason 40 = .ok (.ireturn, 1) := by decide +kernel
theorem dX8_minuteReason_41 : decode cX8_minuteReason 41 = .ok (.iload_n 3, 1) := by decide +kernel
theorem dX8_minuteReason_42 : decode cX8_minuteReason 42 = .ok (.ireturn, 1) := by decide +kernel
set_option maxHeartbeats 4000000 in
set_option maxRecDepth 100000 in
theorem g_X8_minuteReason (l : Launch) (G : xG) (S : yS) (d : yD) (q0 : Nat) (p0 : Int32) (p1 : Int32) (hSh : ySh S) (hm_q0 : q0 ∈ S.1) (hk_q0 : S.2.1 q0 = 8) : xRi l G yX8_minuteReason cX8_minuteReason 4 (some .int) 2 43 [.ref q0, .int p0, .int p1] (yW G S d) (fun r => True) := by
  intro sz
  refine xstart (by decide) (Nat.le_of_ble_eq_true rfl) (fun p e s m args below meth c ls C0 hr hlocks hin hsz hP hK hD hN hl => ?_)
  obtain ⟨hx, hb, hml, hown, htl⟩ := id C0
  have hl : lv_has ls 4 [(0, .ref q0), (1, .int p0), (2, .int p1)] := hl
  refine lv_aload_n hx hb dX8_minuteReason_0 rfl (lv_at hl 0 rfl) ?_
  refine lv_iload_n hx hb dX8_minuteReason_1 rfl (lv_at hl 1 rfl) ?_
  refine yVri (As := [.int p0]) (rest := []) C0 (g_X8_portReason l G S d q0 p0 hSh hm_q0 hk_q0) ok_X8_portReason (mW374 : Cond.methodLink RX8 124 yX8_portReason ∈ wsT) ⟨Nat.le_of_ble_eq_true rfl, Nat.le_of_ble_eq_true rfl⟩ hP hD hK hN hm_q0 hk_q0 (by decide) rfl rfl rfl hl.1 rfl (Nat.le_of_ble_eq_true rfl) ⟨Nat.le_of_ble_eq_true rfl, Nat.le_of_ble_eq_true rfl⟩ dX8_minuteReason_2 (fun r_1 hr_1 => ?_)
  refine lv_iload_n hx hb dX8_minuteReason_5 rfl (lv_at hl 2 rfl) ?_
  refine lv_iconst (v := 0) hx hb dX8_minuteReason_6 (by decide) ?_
  refine lv_ldcw (v := 129599) hx hb hown (htl (.constant RX8 354 (129599)) mW404) dX8_minuteReason_7 ?_
  refine ySri (As := [.int p1, .int 0, .int 129599]) (rest := [.int r_1]) C0 (g_X8_within l G S d p1 0 129599 ) ok_X8_within (mW193 : Cond.methodLink RX8 71 yX8_within ∈ wsT) ⟨Nat.le_of_ble_eq_true rfl, Nat.le_of_ble_eq_true rfl⟩ hP hD hK hN rfl hl.1 rfl (Nat.le_of_ble_eq_true rfl) ⟨Nat.le_of_ble_eq_true rfl, Nat.le_of_ble_eq_true rfl⟩ dX8_minuteReason_10 (fun r_2 hr_2 => ?_)
  refine ySri (As := [.int r_2]) (rest := [.int r_1]) C0 (g_X8_number l G S d r_2 ) ok_X8_number (mW196 : Cond.methodLink RX8 54 yX8_number ∈ wsT) ⟨Nat.le_of_ble_eq_true rfl, Nat.le_of_ble_eq_true rfl⟩ hP hD hK hN rfl hl.1 rfl (Nat.le_of_ble_eq_true rfl) ⟨Nat.le_of_ble_eq_true rfl, Nat.le_of_ble_eq_true rfl⟩ dX8_minuteReason_13 (fun r_3 hr_3 => ?_)
  refine ySri (As := [.int r_1, .int r_3]) (rest := []) C0 (g_X8_least l G S d r_1 r_3 ) ok_X8_least (mW199 : Cond.methodLink RX8 58 yX8_least ∈ wsT) ⟨Nat.le_of_ble_eq_true rfl, Nat.le_of_ble_eq_true rfl⟩ hP hD hK hN rfl hl.1 rfl (Nat.le_of_ble_eq_true rfl) ⟨Nat.le_of_ble_eq_true rfl, Nat.le_of_ble_eq_true rfl⟩ dX8_minuteReason_16 (fun r_4 hr_4 => ?_)
  refine lv_istore_n (lv' := [(3, .int r_4), (0, .ref q0), (1, .int p0), (2, .int p1)]) hx hb dX8_minuteReason_19 rfl hl (by decide) rfl (fun ls hl => ?_)
  refine lv_iload_n hx hb dX8_minuteReason_20 rfl (lv_at hl 0 rfl) ?_
  refine lv_if_ne (tgt := 41) hx hb dX8_minuteReason_21 (by decide) (fun c_5 => ?_) (fun c_5 => ?_)
  · refine lv_iload_n hx hb dX8_minuteReason_41 rfl (lv_at hl 0 rfl) ?_
    exact W.iret (v := r_4) hx hb hr (fun t ht hW => ⟨r_4, rfl, trivial, ht⟩) (fun q hq => by cases hq) dX8_minuteReason_42
  · refine lv_iload_n hx hb dX8_minuteReason_24 rfl (lv_at hl 3 rfl) ?_
    refine lv_aload_n hx hb dX8_minuteReason_25 rfl (lv_at hl 1 rfl) ?_
    refine yget (ci := 8) (k := 0) (v := .ref (S.2.2.1 q0 0)) (C := RX8) (T := TX8) (N := 6) C0 hK hP hm_q0 hk_q0 (by decide) rfl inlX8 (by decide) mW16 (fun _ h9 => h9) rfl dX8_minuteReason_26 ?_
    obtain ⟨hmy_6, hky_6⟩ := ySh.f8_0 hSh _ hm_q0 hk_q0
    refine lv_iload_n hx hb dX8_minuteReason_29 rfl (lv_at hl 2 rfl) ?_
    refine yVrr (As := [.int p0]) (rest := [.int p1]) C0 (g_X0_portAt l G S d (S.2.2.1 q0 0) p0 hSh hmy_6 hky_6) ok_X0_portAt (mW337 : Cond.methodLink RX8 114 yX0_portAt ∈ wsT) ⟨Nat.le_of_ble_eq_true rfl, Nat.le_of_ble_eq_true rfl⟩ hP hD hK hN hmy_6 hky_6 (by decide) rfl rfl rfl hl.1 rfl (Nat.le_of_ble_eq_true rfl) ⟨Nat.le_of_ble_eq_true rfl, Nat.le_of_ble_eq_true rfl⟩ dX8_minuteReason_30 (fun r_7 hr_7 => ?_)
    obtain ⟨hmr_7, hkr_7, her_7⟩ := hr_7
    refine yVri (As := []) (rest := [.int p1]) C0 (g_X4_logLong l G S d r_7 hSh hmr_7 hkr_7) ok_X4_logLong (mW405 : Cond.methodLink RX8 355 yX4_logLong ∈ wsT) ⟨Nat.le_of_ble_eq_true rfl, Nat.le_of_ble_eq_true rfl⟩ hP hD hK hN hmr_7 hkr_7 (by decide) rfl rfl rfl hl.1 rfl (Nat.le_of_ble_eq_true rfl) ⟨Nat.le_of_ble_eq_true rfl, Nat.le_of_ble_eq_true rfl⟩ dX8_minuteReason_33 (fun r_8 hr_8 => ?_)
    refine lv_icmp_lt (tgt := 41) hx hb dX8_minuteReason_36 (by decide) (fun c_9 => ?_) (fun c_9 => ?_)
    · refine lv_iload_n hx hb dX8_minuteReason_41 rfl (lv_at hl 0 rfl) ?_
      exact W.iret (v := r_4) hx hb hr (fun t ht hW => ⟨r_4, rfl, trivial, ht⟩) (fun q hq => by cases hq) dX8_minuteReason_42
    · refine lv_iconst (v := 1) hx hb dX8_minuteReason_39 (by decide) ?_
      exact W.iret (v := 1) hx hb hr (fun t ht hW => ⟨1, rfl, trivial, ht⟩) (fun q hq => by cases hq) dX8_minuteReason_40
