theorem dX8_port_0 : decode cX8_port 0 = .ok (.iload_n 1, 1) := by decide +kernel
theorem dX8_port_1 : decode cX8_port 1 = .ok (.iconst 0, 1) := by decide +kernel
theorem dX8_port_2 : decode cX8_port 2 = .ok (.bipush 7, 2) := by decide +kernel
theorem dX8_port_4 : decode cX8_port 4 = .ok (.invokestatic 71, 3) := by decide +kernel
theorem dX8_port_7 : decode cX8_port 7 = .ok (.invokestatic 54, 3) := by decide +kernel
theorem dX8_port_10 : decode cX8_port 10 = .ok (.aload_n 0, 1) := by decide +kernel
theorem dX8_port_11 : decode cX8_port 11 = .ok (.iload_n 2, 1) := by decide +kernel
theorem dX8_port_12 : decode cX8_port 12 = .ok (.invokevirtual 106, 3) := by decide +kernel
theorem dX8_port_15 : decode cX8_port 15 = .ok (.invokestatic 58, 3) := by decide +kernel
theorem dX8_port_18 : decode cX8_port 18 = .ok (.istore 4, 2) := by decide +kernel
theorem dX8_port_20 : decode cX8_port 20 = .ok (.aload_n 0, 1) := by decide +kernel
theorem dX8_port_21 : decode cX8_port 21 = .ok (.iload 4, 2) := by decide +kernel
theorem dX8_port_23 : decode cX8_port 23 = .ok (.iload_n 3, 1) := by decide +kernel
theorem dX8_port_24 : decode cX8_port 24 = .ok (.iconst 1, 1) := by decide +kernel
theorem dX8_port_25 : decode cX8_port 25 = .ok (.bipush 90, 2) := by decide +kernel
theorem dX8_port_27 : decode cX8_port 27 = .ok (.invokestatic 71, 3) := by decide +kernel
theorem dX8_port_30 : decode cX8_port 30 = .ok (.invokestatic 54, 3) := by decide +kernel
theorem dX8_port_33 : decode cX8_port 33 = .ok (.invokestatic 58, 3) := by decide +kernel
theorem dX8_port_36 : decode cX8_port 36 = .ok (.invokevirtual 42, 3) := by decide +kernel
theorem dX8_port_39 : decode cX8_port 39 = .ok (.ifCond .eq 5, 3) := by decide +kernel
theorem dX8_port_42 : decode cX8_port 42 = .ok (.iconst 0, 1) := by decide +kernel
theorem dX8_port_43 : decode cX8_port 43 = .ok (.ireturn, 1) := by decide +kernel
theorem dX8_port_44 : decode cX8_port 44 = .ok (.aload_n 0, 1) := by decide +kernel
theorem dX8_port_45 : decode cX8_port 45 = .ok (.iload_n 1, 1) := by decide +kernel
theorem dX8_port_46 : decode cX8_port 46 = .ok (.invokevirtual 110, 3) := by decide +kernel
theorem dX8_port_49 : decode cX8_port 49 = .ok (.aload_n 0, 1) := by decide +kernel
theorem dX8_port_50 : decode cX8_port 50 = .ok (.getfield 12, 3) := by decide +kernel
theorem dX8_port_53 : decode cX8_port 53 = .ok (.iload_n 1, 1) := by decide +kernel
theorem dX8_port_54 : decode cX8_port 54 = .ok (.invokevirtual 114, 3) := by decide +kernel
theorem dX8_port_57 : decode cX8_port 57 = .ok (.iload_n 2, 1) := by decide +kernel
theorem dX8_port_58 : decode cX8_port 58 = .ok (.iload_n 3, 1) := by decide +kernel
theorem dX8_port_59 : decode cX8_port 59 = .ok (.invokevirtual 118, 3) := by decide +kernel
theorem dX8_port_62 : decode cX8_port 62 = .ok (.iconst 1, 1) := by decide +kernel
theorem dX8_port_63 : decode cX8_port 63 = .ok (.ireturn, 1) := by decide +kernel
set_option maxHeartbeats 4000000 in
set_option maxRecDepth 100000 in
theorem g_X8_port (l : Launch) (G : xG) (S : yS) (d : yD) (q0 : Nat) (p0 : Int32) (p1 : Int32) (p2 : Int32) (hSh : ySh S) (hPo : yPo S d) (hm_q0 : q0 ∈ S.1) (hk_q0 : S.2.1 q0 = 8) : xWi l G yX8_port cX8_port 5 (some .boolean) 4 95 0 0 [.ref q0, .int p0, .int p1, .int p2] (yW G S d) (fun r (u : yD) => yAg S [0, 2, 4, 8, 16, 20, 21, 24] d u ∧ (yPo S d → yPo S u) ∧ (((r.toInt = 0 ∧ ¬ (0 ≤ p0.toInt ∧ p0.toInt ≤ 7 ∧ 0 ≤ p1.toInt ∧ p1.toInt ≤ 39 ∧ p1.toInt < (d.1 (S.2.2.1 (S.2.2.1 q0 0) 0) 6).toInt ∧ 1 ≤ p2.toInt ∧ p2.toInt ≤ 90) ∧ zKp S 4 d u) ∨ (r.toInt = 1 ∧ (0 ≤ p0.toInt ∧ p0.toInt ≤ 7 ∧ 0 ≤ p1.toInt ∧ p1.toInt ≤ 39 ∧ p1.toInt < (d.1 (S.2.2.1 (S.2.2.1 q0 0) 0) 6).toInt ∧ 1 ≤ p2.toInt ∧ p2.toInt ≤ 90) ∧ u.1 (yPA S (S.2.2.1 q0 0) p0) 2 = p2 ∧ u.1 (yPA S (S.2.2.1 q0 0) p0) 3 = p1 ∧ u.2.1 (yPA S (S.2.2.1 q0 0) p0) 8 = 0 ∧ ∀ a, S.2.1 a = 4 → a ≠ (yPA S (S.2.2.1 q0 0) p0) → u.1 a = d.1 a ∧ u.2.1 a = d.2.1 a)) ∧ u.1 q0 4 = d.1 q0 4)) (fun u => yW G S u) := by
  intro sz
  refine xstart (by decide) (Nat.le_of_ble_eq_true rfl) (fun p e s m args below meth c ls C0 hr hlocks hin hsz hP hK hD hN hl => ?_)
  obtain ⟨hx, hb, hml, hown, htl⟩ := id C0
  subst hsz
  have hD := hD.self (sz := s.heap.size)
  generalize hAe : va_A (yW G S d) s.heap.size = A at hD ⊢
  have hA : ∀ q : Nat, s.heap.size ≤ q → A q := fun q h => by rw [← hAe]; exact Or.inr h
  have hS : va_S A s.heap s.heap [] := va_S.rf
  have hg0 : yAg S [0, 2, 4, 8, 16, 20, 21, 24] d d := yAg.rf
  have hl : lv_has ls 5 [(0, .ref q0), (1, .int p0), (2, .int p1), (3, .int p2)] := hl
  refine lv_iload_n hx hb dX8_port_0 rfl (lv_at hl 1 rfl) ?_
  refine lv_iconst (v := 0) hx hb dX8_port_1 (by decide) ?_
  refine lv_bipush (v := 7) hx hb dX8_port_2 (by decide) ?_
  refine ySri (As := [.int p0, .int 0, .int 7]) (rest := []) C0 (g_X8_within l G S d p0 0 7 ) ok_X8_within (mW193 : Cond.methodLink RX8 71 yX8_within ∈ wsT) ⟨Nat.le_of_ble_eq_true rfl, Nat.le_of_ble_eq_true rfl⟩ hP hD hK hN rfl hl.1 rfl (Nat.le_of_ble_eq_true rfl) ⟨Nat.le_of_ble_eq_true rfl, Nat.le_of_ble_eq_true rfl⟩ dX8_port_4 (fun r_1 hr_1 => ?_)
  have hL_2 : (0 : Int32).toInt = 0 := by decide +kernel
  have hL_3 : (7 : Int32).toInt = 7 := by decide +kernel
  have tr_1 := tw_ hr_1
  refine ySri (As := [.int r_1]) (rest := []) C0 (g_X8_number l G S d r_1 ) ok_X8_number (mW196 : Cond.methodLink RX8 54 yX8_number ∈ wsT) ⟨Nat.le_of_ble_eq_true rfl, Nat.le_of_ble_eq_true rfl⟩ hP hD hK hN rfl hl.1 rfl (Nat.le_of_ble_eq_true rfl) ⟨Nat.le_of_ble_eq_true rfl, Nat.le_of_ble_eq_true rfl⟩ dX8_port_7 (fun r_4 hr_4 => ?_)
  have tr_4 := tn_ hr_4
  refine lv_aload_n hx hb dX8_port_10 rfl (lv_at hl 0 rfl) ?_
  refine lv_iload_n hx hb dX8_port_11 rfl (lv_at hl 2 rfl) ?_
  refine yVri (As := [.int p1]) (rest := [.int r_4]) C0 (g_X8_contractReason l G S d q0 p1 hSh hm_q0 hk_q0) ok_X8_contractReason (mW189 : Cond.methodLink RX8 106 yX8_contractReason ∈ wsT) ⟨Nat.le_of_ble_eq_true rfl, Nat.le_of_ble_eq_true rfl⟩ hP hD hK hN hm_q0 hk_q0 (by decide) rfl rfl rfl hl.1 rfl (Nat.le_of_ble_eq_true rfl) ⟨Nat.le_of_ble_eq_true rfl, Nat.le_of_ble_eq_true rfl⟩ dX8_port_12 (fun r_5 hr_5 => ?_)
  have tr_5 := tc_ hr_5
  refine ySri (As := [.int r_4, .int r_5]) (rest := []) C0 (g_X8_least l G S d r_4 r_5 ) ok_X8_least (mW199 : Cond.methodLink RX8 58 yX8_least ∈ wsT) ⟨Nat.le_of_ble_eq_true rfl, Nat.le_of_ble_eq_true rfl⟩ hP hD hK hN rfl hl.1 rfl (Nat.le_of_ble_eq_true rfl) ⟨Nat.le_of_ble_eq_true rfl, Nat.le_of_ble_eq_true rfl⟩ dX8_port_15 (fun r_6 hr_6 => ?_)
  have tr_6 := tl_ hr_6
  refine lv_istore (lv' := [(4, .int r_6), (0, .ref q0), (1, .int p0), (2, .int p1), (3, .int p2)]) hx hb dX8_port_18 hl (by decide) rfl (fun ls hl => ?_)
  refine lv_aload_n hx hb dX8_port_20 rfl (lv_at hl 1 rfl) ?_
  refine lv_iload hx hb dX8_port_21 (lv_at hl 0 rfl) ?_
  refine lv_iload_n hx hb dX8_port_23 rfl (lv_at hl 4 rfl) ?_
  refine lv_iconst (v := 1) hx hb dX8_port_24 (by decide) ?_
  refine lv_bipush (v := 90) hx hb dX8_port_25 (by decide) ?_
  refine ySri (As := [.int p2, .int 1, .int 90]) (rest := [.int r_6, .ref q0]) C0 (g_X8_within l G S d p2 1 90 ) ok_X8_within (mW193 : Cond.methodLink RX8 71 yX8_within ∈ wsT) ⟨Nat.le_of_ble_eq_true rfl, Nat.le_of_ble_eq_true rfl⟩ hP hD hK hN rfl hl.1 rfl (Nat.le_of_ble_eq_true rfl) ⟨Nat.le_of_ble_eq_true rfl, Nat.le_of_ble_eq_true rfl⟩ dX8_port_27 (fun r_7 hr_7 => ?_)
  have hL_8 : (1 : Int32).toInt = 1 := by decide +kernel
  have hL_9 : (90 : Int32).toInt = 90 := by decide +kernel
  have tr_7 := tw_ hr_7
  refine ySri (As := [.int r_7]) (rest := [.int r_6, .ref q0]) C0 (g_X8_number l G S d r_7 ) ok_X8_number (mW196 : Cond.methodLink RX8 54 yX8_number ∈ wsT) ⟨Nat.le_of_ble_eq_true rfl, Nat.le_of_ble_eq_true rfl⟩ hP hD hK hN rfl hl.1 rfl (Nat.le_of_ble_eq_true rfl) ⟨Nat.le_of_ble_eq_true rfl, Nat.le_of_ble_eq_true rfl⟩ dX8_port_30 (fun r_10 hr_10 => ?_)
  have tr_10 := tn_ hr_10
  refine ySri (As := [.int r_6, .int r_10]) (rest := [.ref q0]) C0 (g_X8_least l G S d r_6 r_10 ) ok_X8_least (mW199 : Cond.methodLink RX8 58 yX8_least ∈ wsT) ⟨Nat.le_of_ble_eq_true rfl, Nat.le_of_ble_eq_true rfl⟩ hP hD hK hN rfl hl.1 rfl (Nat.le_of_ble_eq_true rfl) ⟨Nat.le_of_ble_eq_true rfl, Nat.le_of_ble_eq_true rfl⟩ dX8_port_33 (fun r_11 hr_11 => ?_)
  have tr_11 := tl_ hr_11
  refine yVwi (As := [.int r_11]) (rest := []) C0 (g_X8_refused l G S d q0 r_11 hSh hPo hm_q0 hk_q0) ok_X8_refused (mW160 : Cond.methodLink RX8 42 yX8_refused ∈ wsT) ⟨Nat.le_of_ble_eq_true rfl, Nat.le_of_ble_eq_true rfl⟩ hP hD hS hA hK hN hm_q0 hk_q0 (by decide) rfl rfl rfl hl.1 rfl (Nat.le_of_ble_eq_true rfl) ⟨Nat.le_of_ble_eq_true rfl, Nat.le_of_ble_eq_true rfl⟩ dX8_port_36 (fun r_12 d_13 H locs hr_12 hP hD hS => ?_)
  obtain ⟨hgad_13, hpad_13, hxd_13⟩ := hr_12
  have hgd_13 : yAg S [0, 2, 4, 8, 16, 20, 21, 24] d d_13 := yAg.tr hg0 hgad_13 (by first | decide | exact fun _ h => h)
  have hPod_13 : yPo S d_13 := hpad_13 hPo
  have tr_12 := tr_ hxd_13.1
  refine lv_if_eq (tgt := 44) hx hb dX8_port_39 (by decide) (fun c_14 => ?_) (fun c_14 => ?_)
  · refine lv_aload_n hx hb dX8_port_44 rfl (lv_at hl 1 rfl) ?_
    refine lv_iload_n hx hb dX8_port_45 rfl (lv_at hl 2 rfl) ?_
    refine yVwv (As := [.int p0]) (rest := []) C0 (g_X8_leave l G S d_13 q0 p0 hSh hPod_13 hm_q0 hk_q0) ok_X8_leave (mW312 : Cond.methodLink RX8 110 yX8_leave ∈ wsT) ⟨Nat.le_of_ble_eq_true rfl, Nat.le_of_ble_eq_true rfl⟩ hP hD hS hA hK hN hm_q0 hk_q0 (by decide) rfl rfl rfl hl.1 rfl (Nat.le_of_ble_eq_true rfl) ⟨Nat.le_of_ble_eq_true rfl, Nat.le_of_ble_eq_true rfl⟩ dX8_port_46 (fun d_16 H locs hr_15 hP hD hS => ?_)
    obtain ⟨hgad_16, hpad_16, hxd_16⟩ := hr_15
    have hgd_16 : yAg S [0, 2, 4, 8, 16, 20, 21, 24] d d_16 := yAg.tr hgd_13 hgad_16 (by first | decide | exact fun _ h => h)
    have hPod_16 : yPo S d_16 := hpad_16 hPod_13
    refine lv_aload_n hx hb dX8_port_49 rfl (lv_at hl 1 rfl) ?_
    refine yget (ci := 8) (k := 0) (v := .ref (S.2.2.1 q0 0)) (C := RX8) (T := TX8) (N := 6) C0 hK hP hm_q0 hk_q0 (by decide) rfl inlX8 (by decide) mW16 (fun _ h9 => h9) rfl dX8_port_50 ?_
    obtain ⟨hmy_17, hky_17⟩ := ySh.f8_0 hSh _ hm_q0 hk_q0
    refine lv_iload_n hx hb dX8_port_53 rfl (lv_at hl 2 rfl) ?_
    refine yVrr (As := [.int p0]) (rest := []) C0 (g_X0_portAt l G S d_16 (S.2.2.1 q0 0) p0 hSh hmy_17 hky_17) ok_X0_portAt (mW337 : Cond.methodLink RX8 114 yX0_portAt ∈ wsT) ⟨Nat.le_of_ble_eq_true rfl, Nat.le_of_ble_eq_true rfl⟩ hP hD hK hN hmy_17 hky_17 (by decide) rfl rfl rfl hl.1 rfl (Nat.le_of_ble_eq_true rfl) ⟨Nat.le_of_ble_eq_true rfl, Nat.le_of_ble_eq_true rfl⟩ dX8_port_54 (fun r_18 hr_18 => ?_)
    obtain ⟨hmr_18, hkr_18, her_18⟩ := hr_18
    refine lv_iload_n hx hb dX8_port_57 rfl (lv_at hl 3 rfl) ?_
    refine lv_iload_n hx hb dX8_port_58 rfl (lv_at hl 4 rfl) ?_
    refine yVwv (As := [.int p1, .int p2]) (rest := []) C0 (g_X4_open l G S d_16 r_18 p1 p2 hSh hPod_16 hmr_18 hkr_18) ok_X4_open (mW341 : Cond.methodLink RX8 118 yX4_open ∈ wsT) ⟨Nat.le_of_ble_eq_true rfl, Nat.le_of_ble_eq_true rfl⟩ hP hD hS hA hK hN hmr_18 hkr_18 (by decide) rfl rfl rfl hl.1 rfl (Nat.le_of_ble_eq_true rfl) ⟨Nat.le_of_ble_eq_true rfl, Nat.le_of_ble_eq_true rfl⟩ dX8_port_59 (fun d_20 H locs hr_19 hP hD hS => ?_)
    obtain ⟨hgad_20, hpad_20, hxd_20⟩ := hr_19
    have hgd_20 : yAg S [0, 2, 4, 8, 16, 20, 21, 24] d d_20 := yAg.tr hgd_16 hgad_20 (by first | decide | exact fun _ h => h)
    have hPod_20 : yPo S d_20 := hpad_20 hPod_16
    refine lv_iconst (v := 1) hx hb dX8_port_62 (by decide) ?_
    have F_21 := feq (rfl : (r_12 : Int32).toInt = (r_12 : Int32).toInt) (by decide +kernel : (0 : Int32).toInt = 0) c_14
    exact W.zret (v := 1) (ty := .boolean) hx hb hr rfl (fun t ht hW => ⟨⟨1, d_20, rfl, ⟨hgd_20, (fun _ => hPod_20), ⟨Or.inr ⟨by have h0_ : (1 : Int32).toInt = 1 := (by decide +kernel); omega, by omega, by rw [← her_18]; exact hxd_20.1, by rw [← her_18]; exact hxd_20.2.1, by rw [← her_18]; exact hxd_20.2.2.1, fun a ha hn => (o2 (o2 (yAg.o hgad_13 (by rw [ha]; decide)) (yAg.o hgad_16 (by rw [ha]; decide))) (hxd_20.2.2.2 a ha (fun e => hn (e.trans her_18))))⟩, ((congrFun (hgad_20 q0 (by rw [hk_q0]; decide)).1 4).trans ((congrFun (hgad_16 q0 (by rw [hk_q0]; decide)).1 4).trans (hxd_13.2)))⟩⟩, by rw [ht]; exact hP, hD⟩, hS.F ht⟩) hS.2.2 dX8_port_63
  · refine lv_iconst (v := 0) hx hb dX8_port_42 (by decide) ?_
    have F_22 := fne (rfl : (r_12 : Int32).toInt = (r_12 : Int32).toInt) (by decide +kernel : (0 : Int32).toInt = 0) c_14
    exact W.zret (v := 0) (ty := .boolean) hx hb hr rfl (fun t ht hW => ⟨⟨0, d_13, rfl, ⟨hgd_13, (fun _ => hPod_13), ⟨Or.inl ⟨by have h0_ : (0 : Int32).toInt = 0 := (by decide +kernel); omega, by omega, (fun a ha => (yAg.o hgad_13 (by rw [ha]; decide)))⟩, (hxd_13.2)⟩⟩, by rw [ht]; exact hP, hD⟩, hS.F ht⟩) hS.2.2 dX8_port_43
theorem dX8_close_0 : decode cX8_close 0 = .ok (.aload_n 0, 1) := by decide +kernel
theorem dX8_close_1 : decode cX8_close 1 = .ok (.aload_n 0, 1) := by decide +kernel
theorem dX8_close_2 : decode cX8_close 2 = .ok (.iload_n 1, 1) := by decide +kernel
theorem dX8_close_3 : decode cX8_close 3 = .ok (.invokevirtual 124, 3) := by decide +kernel
theorem dX8_close_6 : decode cX8_close 6 = .ok (.invokevirtual 42, 3) := by decide +kernel
theorem dX8_close_9 : decode cX8_close 9 = .ok (.ifCond .eq 5, 3) := by decide +kernel
theorem dX8_close_12 : decode cX8_close 12 = .ok (.iconst 0, 1) := by decide +kernel
theorem dX8_close_13 : decode cX8_close 13 = .ok (.ireturn, 1) := by decide +kernel
theorem dX8_close_14 : decode cX8_close 14 = .ok (.aload_n 0, 1) := by decide +kernel
theorem dX8_close_15 : decode cX8_close 15 = .ok (.iload_n 1, 1) := by decide +kernel
theorem dX8_close_16 : decode cX8_close 16 = .ok (.invokevirtual 110, 3) := by decide +kernel
theorem dX8_close_19 : decode cX8_close 19 = .ok (.aload_n 0, 1) := by decide +kernel
theorem dX8_close_20 : decode cX8_close 20 = .ok (.getfield 12, 3) := by decide +kernel
theorem dX8_close_23 : decode cX8_close 23 = .ok (.iload_n 1, 1) := by decide +kernel
theorem dX8_close_24 : decode cX8_close 24 = .ok (.invokevirtual 114, 3) := by decide +kernel
theorem dX8_close_27 : decode cX8_close 27 = .ok (.invokevirtual 127, 3) := by decide +kernel
theorem dX8_close_30 : decode cX8_close 30 = .ok (.iconst 1, 1) := by decide +kernel
theorem dX8_close_31 : decode cX8_close 31 = .ok (.ireturn, 1) := by decide +kernel
set_option maxHeartbeats 4000000 in
set_option maxRecDepth 100000 in
theorem g_X8_close (l : Launch) (G : xG) (S : yS) (d : yD) (q0 : Nat) (p0 : Int32) (hSh : ySh S) (hPo : yPo S d) (hm_q0 : q0 ∈ S.1) (hk_q0 : S.2.1 q0 = 8) : xWi l G yX8_close cX8_close 2 (some .boolean) 4 95 0 0 [.ref q0, .int p0] (yW G S d) (fun r (u : yD) => yAg S [0, 2, 4, 8, 16, 24] d u ∧ (yPo S d → yPo S u) ∧ (((r.toInt = 0 ∧ ¬ (0 ≤ p0.toInt ∧ p0.toInt ≤ 7 ∧ 0 < (d.1 (yPA S (S.2.2.1 q0 0) p0) 2).toInt) ∧ zKp S 4 d u) ∨ (r.toInt = 1 ∧ (0 ≤ p0.toInt ∧ p0.toInt ≤ 7 ∧ 0 < (d.1 (yPA S (S.2.2.1 q0 0) p0) 2).toInt) ∧ u.1 (yPA S (S.2.2.1 q0 0) p0) 2 = 0 ∧ u.1 (yPA S (S.2.2.1 q0 0) p0) 3 = d.1 (yPA S (S.2.2.1 q0 0) p0) 3 ∧ ∀ a, S.2.1 a = 4 → a ≠ (yPA S (S.2.2.1 q0 0) p0) → u.1 a = d.1 a ∧ u.2.1 a = d.2.1 a)) ∧ u.1 q0 4 = d.1 q0 4)) (fun u => yW G S u) := by
  intro sz
  refine xstart (by decide) (Nat.le_of_ble_eq_true rfl) (fun p e s m args below meth c ls C0 hr hlocks hin hsz hP hK hD hN hl => ?_)
  obtain ⟨hx, hb, hml, hown, htl⟩ := id C0
  subst hsz
  have hD := hD.self (sz := s.heap.size)
  generalize hAe : va_A (yW G S d) s.heap.size = A at hD ⊢
  have hA : ∀ q : Nat, s.heap.size ≤ q → A q := fun q h => by rw [← hAe]; exact Or.inr h
  have hS : va_S A s.heap s.heap [] := va_S.rf
  have hg0 : yAg S [0, 2, 4, 8, 16, 24] d d := yAg.rf
  have hl : lv_has ls 2 [(0, .ref q0), (1, .int p0)] := hl
  refine lv_aload_n hx hb dX8_close_0 rfl (lv_at hl 0 rfl) ?_
  refine lv_aload_n hx hb dX8_close_1 rfl (lv_at hl 0 rfl) ?_
  refine lv_iload_n hx hb dX8_close_2 rfl (lv_at hl 1 rfl) ?_
  refine yVri (As := [.int p0]) (rest := [.ref q0]) C0 (g_X8_portReason l G S d q0 p0 hSh hm_q0 hk_q0) ok_X8_portReason (mW374 : Cond.methodLink RX8 124 yX8_portReason ∈ wsT) ⟨Nat.le_of_ble_eq_true rfl, Nat.le_of_ble_eq_true rfl⟩ hP hD hK hN hm_q0 hk_q0 (by decide) rfl rfl rfl hl.1 rfl (Nat.le_of_ble_eq_true rfl) ⟨Nat.le_of_ble_eq_true rfl, Nat.le_of_ble_eq_true rfl⟩ dX8_close_3 (fun r_1 hr_1 => ?_)
  have tr_1 := tp_ hr_1
  refine yVwi (As := [.int r_1]) (rest := []) C0 (g_X8_refused l G S d q0 r_1 hSh hPo hm_q0 hk_q0) ok_X8_refused (mW160 : Cond.methodLink RX8 42 yX8_refused ∈ wsT) ⟨Nat.le_of_ble_eq_true rfl, Nat.le_of_ble_eq_true rfl⟩ hP hD hS hA hK hN hm_q0 hk_q0 (by decide) rfl rfl rfl hl.1 rfl (Nat.le_of_ble_eq_true rfl) ⟨Nat.le_of_ble_eq_true rfl, Nat.le_of_ble_eq_true rfl⟩ dX8_close_6 (fun r_2 d_3 H locs hr_2 hP hD hS => ?_)
  obtain ⟨hgad_3, hpad_3, hxd_3⟩ := hr_2
  have hgd_3 : yAg S [0, 2, 4, 8, 16, 24] d d_3 := yAg.tr hg0 hgad_3 (by first | decide | exact fun _ h => h)
  have hPod_3 : yPo S d_3 := hpad_3 hPo
  have tr_2 := tr_ hxd_3.1
  refine lv_if_eq (tgt := 14) hx hb dX8_close_9 (by decide) (fun c_4 => ?_) (fun c_4 => ?_)
  · refine lv_aload_n hx hb dX8_close_14 rfl (lv_at hl 0 rfl) ?_
    refine lv_iload_n hx hb dX8_close_15 rfl (lv_at hl 1 rfl) ?_
    refine yVwv (As := [.int p0]) (rest := []) C0 (g_X8_leave l G S d_3 q0 p0 hSh hPod_3 hm_q0 hk_q0) ok_X8_leave (mW312 : Cond.methodLink RX8 110 yX8_leave ∈ wsT) ⟨Nat.le_of_ble_eq_true rfl, Nat.le_of_ble_eq_true rfl⟩ hP hD hS hA hK hN hm_q0 hk_q0 (by decide) rfl rfl rfl hl.1 rfl (Nat.le_of_ble_eq_true rfl) ⟨Nat.le_of_ble_eq_true rfl, Nat.le_of_ble_eq_true rfl⟩ dX8_close_16 (fun d_6 H locs hr_5 hP hD hS => ?_)
    obtain ⟨hgad_6, hpad_6, hxd_6⟩ := hr_5
    have hgd_6 : yAg S [0, 2, 4, 8, 16, 24] d d_6 := yAg.tr hgd_3 hgad_6 (by first | decide | exact fun _ h => h)
    have hPod_6 : yPo S d_6 := hpad_6 hPod_3
    refine lv_aload_n hx hb dX8_close_19 rfl (lv_at hl 0 rfl) ?_
    refine yget (ci := 8) (k := 0) (v := .ref (S.2.2.1 q0 0)) (C := RX8) (T := TX8) (N := 6) C0 hK hP hm_q0 hk_q0 (by decide) rfl inlX8 (by decide) mW16 (fun _ h9 => h9) rfl dX8_close_20 ?_
    obtain ⟨hmy_7, hky_7⟩ := ySh.f8_0 hSh _ hm_q0 hk_q0
    refine lv_iload_n hx hb dX8_close_23 rfl (lv_at hl 1 rfl) ?_
    refine yVrr (As := [.int p0]) (rest := []) C0 (g_X0_portAt l G S d_6 (S.2.2.1 q0 0) p0 hSh hmy_7 hky_7) ok_X0_portAt (mW337 : Cond.methodLink RX8 114 yX0_portAt ∈ wsT) ⟨Nat.le_of_ble_eq_true rfl, Nat.le_of_ble_eq_true rfl⟩ hP hD hK hN hmy_7 hky_7 (by decide) rfl rfl rfl hl.1 rfl (Nat.le_of_ble_eq_true rfl) ⟨Nat.le_of_ble_eq_true rfl, Nat.le_of_ble_eq_true rfl⟩ dX8_close_24 (fun r_8 hr_8 => ?_)
    obtain ⟨hmr_8, hkr_8, her_8⟩ := hr_8
    refine yVwv (As := []) (rest := []) C0 (g_X4_shut l G S d_6 r_8 hSh hPod_6 hmr_8 hkr_8) ok_X4_shut (mW379 : Cond.methodLink RX8 127 yX4_shut ∈ wsT) ⟨Nat.le_of_ble_eq_true rfl, Nat.le_of_ble_eq_true rfl⟩ hP hD hS hA hK hN hmr_8 hkr_8 (by decide) rfl rfl rfl hl.1 rfl (Nat.le_of_ble_eq_true rfl) ⟨Nat.le_of_ble_eq_true rfl, Nat.le_of_ble_eq_true rfl⟩ dX8_close_27 (fun d_10 H locs hr_9 hP hD hS => ?_)
    obtain ⟨hgad_10, hpad_10, hxd_10⟩ := hr_9
    have hgd_10 : yAg S [0, 2, 4, 8, 16, 24] d d_10 := yAg.tr hgd_6 hgad_10 (by first | decide | exact fun _ h => h)
    have hPod_10 : yPo S d_10 := hpad_10 hPod_6
    refine lv_iconst (v := 1) hx hb dX8_close_30 (by decide) ?_
    have F_11 := feq (rfl : (r_2 : Int32).toInt = (r_2 : Int32).toInt) (by decide +kernel : (0 : Int32).toInt = 0) c_4
    exact W.zret (v := 1) (ty := .boolean) hx hb hr rfl (fun t ht hW => ⟨⟨1, d_10, rfl, ⟨hgd_10, (fun _ => hPod_10), ⟨Or.inr ⟨by have h0_ : (1 : Int32).toInt = 1 := (by decide +kernel); omega, by omega, by rw [← her_8]; exact hxd_10.1, by rw [← her_8]; exact hxd_10.2.1.trans (congrFun (o2 (yAg.o hgad_3 (a := r_8) (by rw [hkr_8]; decide)) (yAg.o hgad_6 (a := r_8) (by rw [hkr_8]; decide))).1 3), fun a ha hn => (o2 (o2 (yAg.o hgad_3 (by rw [ha]; decide)) (yAg.o hgad_6 (by rw [ha]; decide))) (hxd_10.2.2 a ha (fun e => hn (e.trans her_8))))⟩, ((congrFun (hgad_10 q0 (by rw [hk_q0]; decide)).1 4).trans ((congrFun (hgad_6 q0 (by rw [hk_q0]; decide)).1 4).trans (hxd_3.2)))⟩⟩, by rw [ht]; exact hP, hD⟩, hS.F ht⟩) hS.2.2 dX8_close_31
  · refine lv_iconst (v := 0) hx hb dX8_close_12 (by decide) ?_
    have F_12 := fne (rfl : (r_2 : Int32).toInt = (r_2 : Int32).toInt) (by decide +kernel : (0 : Int32).toInt = 0) c_4
    exact W.zret (v := 0) (ty := .boolean) hx hb hr rfl (fun t ht hW => ⟨⟨0, d_3, rfl, ⟨hgd_3, (fun _ => hPod_3), ⟨Or.inl ⟨by have h0_ : (0 : Int32).toInt = 0 := (by decide +kernel); omega, by omega, (fun a ha => (yAg.o hgad_3 (by rw [ha]; decide)))⟩, (hxd_3.2)⟩⟩, by rw [ht]; exact hP, hD⟩, hS.F ht⟩) hS.2.2 dX8_close_13
theorem dX8_day_0 : decode cX8_day 0 = .ok (.aload_n 0, 1) := by decide +kernel
theorem dX8_day_1 : decode cX8_day 1 = .ok (.aload_n 0, 1) := by decide +kernel
theorem dX8_day_2 : decode cX8_day 2 = .ok (.iload_n 1, 1) := by decide +kernel
theorem dX8_day_3 : decode cX8_day 3 = .ok (.iload_n 2, 1) := by decide +kernel
theorem dX8_day_4 : decode cX8_day 4 = .ok (.invokevirtual 149, 3) := by decide +kernel
theorem dX8_day_7 : decode cX8_day 7 = .ok (.invokevirtual 42, 3) := by decide +kernel
theorem dX8_day_10 : decode cX8_day 10 = .ok (.ifCond .eq 5, 3) := by decide +kernel
theorem dX8_day_13 : decode cX8_day 13 = .ok (.iconst 0, 1) := by decide +kernel
theorem dX8_day_14 : decode cX8_day 14 = .ok (.ireturn, 1) := by decide +kernel
theorem dX8_day_15 : decode cX8_day 15 = .ok (.aload_n 0, 1) := by decide +kernel
theorem dX8_day_16 : decode cX8_day 16 = .ok (.getfield 12, 3) := by decide +kernel
theorem dX8_day_19 : decode cX8_day 19 = .ok (.iload_n 1, 1) := by decide +kernel
theorem dX8_day_20 : decode cX8_day 20 = .ok (.invokevirtual 114, 3) := by decide +kernel
theorem dX8_day_23 : decode cX8_day 23 = .ok (.getfield 152, 3) := by decide +kernel
theorem dX8_day_26 : decode cX8_day 26 = .ok (.iload_n 2, 1) := by decide +kernel
theorem dX8_day_27 : decode cX8_day 27 = .ok (.iload_n 3, 1) := by decide +kernel
theorem dX8_day_28 : decode cX8_day 28 = .ok (.ifCond .eq 9, 3) := by decide +kernel
theorem dX8_day_31 : decode cX8_day 31 = .ok (.sipush 1440, 3) := by decide +kernel
theorem dX8_day_34 : decode cX8_day 34 = .ok (.goto 4, 3) := by decide +kernel
theorem dX8_day_37 : decode cX8_day 37 = .ok (.iconst (-1), 1) := by decide +kernel
theorem dX8_day_38 : decode cX8_day 38 = .ok (.invokestatic 82, 3) := by decide +kernel
theorem dX8_day_41 : decode cX8_day 41 = .ok (.aload_n 0, 1) := by decide +kernel
theorem dX8_day_42 : decode cX8_day 42 = .ok (.getfield 12, 3) := by decide +kernel
theorem dX8_day_45 : decode cX8_day 45 = .ok (.getfield 136, 3) := by decide +kernel
theorem dX8_day_48 : decode cX8_day 48 = .ok (.iload_n 1, 1) := by decide +kernel
theorem dX8_day_49 : decode cX8_day 49 = .ok (.iload_n 2, 1) := by decide +kernel
theorem dX8_day_50 : decode cX8_day 50 = .ok (.sipush 1440, 3) := by decide +kernel
theorem dX8_day_53 : decode cX8_day 53 = .ok (.imul, 1) := by decide +kernel
theorem dX8_day_54 : decode cX8_day 54 = .ok (.sipush 1440, 3) := by decide +kernel
theorem dX8_day_57 : decode cX8_day 57 = .ok (.invokevirtual 155, 3) := by decide +kernel
theorem dX8_day_60 : decode cX8_day 60 = .ok (.pop, 1) := by decide +kernel
theorem dX8_day_61 : decode cX8_day 61 = .ok (.iconst 1, 1) := by decide +kernel
theorem dX8_day_62 : decode cX8_day 62 = .ok (.ireturn, 1) := by decide +kernel
set_option maxHeartbeats 4000000 in
set_option maxRecDepth 100000 in
theorem g_X8_day (l : Launch) (G : xG) (S : yS) (d : yD) (q0 : Nat) (p0 : Int32) (p1 : Int32) (p2 : Int32) (hSh : ySh S) (hPo : yPo S d) (hm_q0 : q0 ∈ S.1) (hk_q0 : S.2.1 q0 = 8) (hz_p2 : p2 = 0 ∨ p2 = 1) : xWi l G yX8_day cX8_day 4 (some .boolean) 3 74 0 0 [.ref q0, .int p0, .int p1, .int p2] (yW G S d) (fun r (u : yD) => yAg S [2, 8, 16, 20, 24] d u ∧ (yPo S d → yPo S u) ∧ (((r.toInt = 0 ∧ ¬ (0 ≤ p0.toInt ∧ p0.toInt ≤ 7 ∧ 0 < (d.1 (yPA S (S.2.2.1 q0 0) p0) 2).toInt ∧ 0 ≤ p1.toInt ∧ p1.toInt ≤ 89 ∧ p1.toInt < (d.1 (yPA S (S.2.2.1 q0 0) p0) 2).toInt)) ∨ (r.toInt = 1 ∧ (0 ≤ p0.toInt ∧ p0.toInt ≤ 7 ∧ 0 < (d.1 (yPA S (S.2.2.1 q0 0) p0) 2).toInt ∧ 0 ≤ p1.toInt ∧ p1.toInt ≤ 89 ∧ p1.toInt < (d.1 (yPA S (S.2.2.1 q0 0) p0) 2).toInt))) ∧ u.1 q0 4 = d.1 q0 4)) (fun u => yW G S u) := by
  intro sz
  refine xstart (by decide) (Nat.le_of_ble_eq_true rfl) (fun p e s m args below meth c ls C0 hr hlocks hin hsz hP hK hD hN hl => ?_)
  obtain ⟨hx, hb, hml, hown, htl⟩ := id C0
  subst hsz
  have hD := hD.self (sz := s.heap.size)
  generalize hAe : va_A (yW G S d) s.heap.size = A at hD ⊢
  have hA : ∀ q : Nat, s.heap.size ≤ q → A q := fun q h => by rw [← hAe]; exact Or.inr h
  have hS : va_S A s.heap s.heap [] := va_S.rf
  have hg0 : yAg S [2, 8, 16, 20, 24] d d := yAg.rf
  have hl : lv_has ls 4 [(0, .ref q0), (1, .int p0), (2, .int p1), (3, .int p2)] := hl
  refine lv_aload_n hx hb dX8_day_0 rfl (lv_at hl 0 rfl) ?_
  refine lv_aload_n hx hb dX8_day_1 rfl (lv_at hl 0 rfl) ?_
  refine lv_iload_n hx hb dX8_day_2 rfl (lv_at hl 1 rfl) ?_
  refine lv_iload_n hx hb dX8_day_3 rfl (lv_at hl 2 rfl) ?_
  refine yVri (As := [.int p0, .int p1]) (rest := [.ref q0]) C0 (g_X8_dayReason l G S d q0 p0 p1 hSh hm_q0 hk_q0) ok_X8_dayReason (mW442 : Cond.methodLink RX8 149 yX8_dayReason ∈ wsT) ⟨Nat.le_of_ble_eq_true rfl, Nat.le_of_ble_eq_true rfl⟩ hP hD hK hN hm_q0 hk_q0 (by decide) rfl rfl rfl hl.1 rfl (Nat.le_of_ble_eq_true rfl) ⟨Nat.le_of_ble_eq_true rfl, Nat.le_of_ble_eq_true rfl⟩ dX8_day_4 (fun r_1 hr_1 => ?_)
  refine yVwi (As := [.int r_1]) (rest := []) C0 (g_X8_refused l G S d q0 r_1 hSh hPo hm_q0 hk_q0) ok_X8_refused (mW160 : Cond.methodLink RX8 42 yX8_refused ∈ wsT) ⟨Nat.le_of_ble_eq_true rfl, Nat.le_of_ble_eq_true rfl⟩ hP hD hS hA hK hN hm_q0 hk_q0 (by decide) rfl rfl rfl hl.1 rfl (Nat.le_of_ble_eq_true rfl) ⟨Nat.le_of_ble_eq_true rfl, Nat.le_of_ble_eq_true rfl⟩ dX8_day_7 (fun r_2 d_3 H locs hr_2 hP hD hS => ?_)
  obtain ⟨hgad_3, hpad_3, hxd_3⟩ := hr_2
  have hgd_3 : yAg S [2, 8, 16, 20, 24] d d_3 := yAg.tr hg0 hgad_3 (by first | decide | exact fun _ h => h)
  have hPod_3 : yPo S d_3 := hpad_3 hPo
  have tr_2 := tr_ hxd_3.1
  refine lv_if_eq (tgt := 15) hx hb dX8_day_10 (by decide) (fun c_4 => ?_) (fun c_4 => ?_)
  · refine lv_aload_n hx hb dX8_day_15 rfl (lv_at hl 0 rfl) ?_
    refine yget (ci := 8) (k := 0) (v := .ref (S.2.2.1 q0 0)) (C := RX8) (T := TX8) (N := 6) C0 hK hP hm_q0 hk_q0 (by decide) rfl inlX8 (by decide) mW16 (fun _ h9 => h9) rfl dX8_day_16 ?_
    obtain ⟨hmy_5, hky_5⟩ := ySh.f8_0 hSh _ hm_q0 hk_q0
    refine lv_iload_n hx hb dX8_day_19 rfl (lv_at hl 1 rfl) ?_
    refine yVrr (As := [.int p0]) (rest := []) C0 (g_X0_portAt l G S d_3 (S.2.2.1 q0 0) p0 hSh hmy_5 hky_5) ok_X0_portAt (mW337 : Cond.methodLink RX8 114 yX0_portAt ∈ wsT) ⟨Nat.le_of_ble_eq_true rfl, Nat.le_of_ble_eq_true rfl⟩ hP hD hK hN hmy_5 hky_5 (by decide) rfl rfl rfl hl.1 rfl (Nat.le_of_ble_eq_true rfl) ⟨Nat.le_of_ble_eq_true rfl, Nat.le_of_ble_eq_true rfl⟩ dX8_day_20 (fun r_6 hr_6 => ?_)
    obtain ⟨hmr_6, hkr_6, her_6⟩ := hr_6
    refine yget (ci := 4) (k := 0) (v := .ref (S.2.2.1 r_6 0)) (C := RX4) (T := TX4) (N := 11) C0 hK hP hmr_6 hkr_6 (by decide) rfl inlX4 (by decide) mW441 (fun _ h9 => h9) rfl dX8_day_23 ?_
    obtain ⟨hmy_7, hky_7⟩ := ySh.f4_0 hSh _ hmr_6 hkr_6
    refine lv_iload_n hx hb dX8_day_26 rfl (lv_at hl 2 rfl) ?_
    refine lv_iload_n hx hb dX8_day_27 rfl (lv_at hl 3 rfl) ?_
    refine lv_if_eq (tgt := 37) hx hb dX8_day_28 (by decide) (fun c_8 => ?_) (fun c_8 => ?_)
    · refine lv_iconst (v := (-1)) hx hb dX8_day_37 (by decide) ?_
      refine ySwv (As := [.ref (S.2.2.1 r_6 0), .int p1, .int (-1)]) (rest := []) C0 (g_X8_put l G S d_3 (S.2.2.1 r_6 0) 20 p1 (-1) hPod_3 hmy_7 hky_7 (by decide) rfl rfl (by decide)) ok_X8_put (mW168 : Cond.methodLink RX8 82 yX8_put ∈ wsT) ⟨Nat.le_of_ble_eq_true rfl, Nat.le_of_ble_eq_true rfl⟩ hP hD hS hA hK hN rfl hl.1 rfl (Nat.le_of_ble_eq_true rfl) ⟨Nat.le_of_ble_eq_true rfl, Nat.le_of_ble_eq_true rfl⟩ dX8_day_38 (fun d_10 H locs hr_9 hP hD hS => ?_)
      obtain ⟨hgad_10, hpad_10, hxd_10⟩ := hr_9
      have hgd_10 : yAg S [2, 8, 16, 20, 24] d d_10 := yAg.tr hgd_3 hgad_10 (by first | decide | exact fun _ h => h)
      have hPod_10 : yPo S d_10 := hpad_10 hPod_3
      refine lv_aload_n hx hb dX8_day_41 rfl (lv_at hl 0 rfl) ?_
      refine yget (ci := 8) (k := 0) (v := .ref (S.2.2.1 q0 0)) (C := RX8) (T := TX8) (N := 6) C0 hK hP hm_q0 hk_q0 (by decide) rfl inlX8 (by decide) mW16 (fun _ h9 => h9) rfl dX8_day_42 ?_
      refine yget (ci := 0) (k := 1) (v := .ref (S.2.2.1 (S.2.2.1 q0 0) 1)) (C := RX0) (T := TX0) (N := 6) C0 hK hP hmy_5 hky_5 (by decide) rfl inlX0 (by decide) mW316 (fun _ h9 => h9) rfl dX8_day_45 ?_
      obtain ⟨hmy_11, hky_11⟩ := ySh.f0_1 hSh _ hmy_5 hky_5
      refine lv_iload_n hx hb dX8_day_48 rfl (lv_at hl 1 rfl) ?_
      refine lv_iload_n hx hb dX8_day_49 rfl (lv_at hl 2 rfl) ?_
      refine lv_sipush (v := 1440) hx hb dX8_day_50 (by decide) ?_
      refine lv_imul hx hb dX8_day_53 ?_
      refine lv_topi (fun z_12 ez_12 => ?_)
      refine lv_sipush (v := 1440) hx hb dX8_day_54 (by decide) ?_
      refine yVwi (As := [.int p0, .int z_12, .int 1440]) (rest := []) C0 (g_X2_remove l G S d_10 (S.2.2.1 (S.2.2.1 q0 0) 1) p0 z_12 1440 hSh hPod_10 hmy_11 hky_11) ok_X2_remove (mW318 : Cond.methodLink RX8 155 yX2_remove ∈ wsT) ⟨Nat.le_of_ble_eq_true rfl, Nat.le_of_ble_eq_true rfl⟩ hP hD hS hA hK hN hmy_11 hky_11 (by decide) rfl rfl rfl hl.1 rfl (Nat.le_of_ble_eq_true rfl) ⟨Nat.le_of_ble_eq_true rfl, Nat.le_of_ble_eq_true rfl⟩ dX8_day_57 (fun r_13 d_14 H locs hr_13 hP hD hS => ?_)
      obtain ⟨hgad_14, hpad_14, hxd_14⟩ := hr_13
      have hgd_14 : yAg S [2, 8, 16, 20, 24] d d_14 := yAg.tr hgd_10 hgad_14 (by first | decide | exact fun _ h => h)
      have hPod_14 : yPo S d_14 := hpad_14 hPod_10
      refine lv_pop hx hb dX8_day_60 rfl ?_
      refine lv_iconst (v := 1) hx hb dX8_day_61 (by decide) ?_
      have F_15 := feq (rfl : (r_2 : Int32).toInt = (r_2 : Int32).toInt) (by decide +kernel : (0 : Int32).toInt = 0) c_4
      have F_16 := feq (rfl : (p2 : Int32).toInt = (p2 : Int32).toInt) (by decide +kernel : (0 : Int32).toInt = 0) c_8
      exact W.zret (v := 1) (ty := .boolean) hx hb hr rfl (fun t ht hW => ⟨⟨1, d_14, rfl, ⟨hgd_14, (fun _ => hPod_14), ⟨Or.inr ⟨by have h0_ : (1 : Int32).toInt = 1 := (by decide +kernel); omega, by omega⟩, ((congrFun (hgad_14 q0 (by rw [hk_q0]; decide)).1 4).trans ((congrFun (hgad_10 q0 (by rw [hk_q0]; decide)).1 4).trans (hxd_3.2)))⟩⟩, by rw [ht]; exact hP, hD⟩, hS.F ht⟩) hS.2.2 dX8_day_62
    · refine lv_sipush (v := 1440) hx hb dX8_day_31 (by decide) ?_
      refine lv_goto (tgt := 38) hx hb dX8_day_34 (by decide) ?_
      refine ySwv (As := [.ref (S.2.2.1 r_6 0), .int p1, .int 1440]) (rest := []) C0 (g_X8_put l G S d_3 (S.2.2.1 r_6 0) 20 p1 1440 hPod_3 hmy_7 hky_7 (by decide) rfl rfl (by decide)) ok_X8_put (mW168 : Cond.methodLink RX8 82 yX8_put ∈ wsT) ⟨Nat.le_of_ble_eq_true rfl, Nat.le_of_ble_eq_true rfl⟩ hP hD hS hA hK hN rfl hl.1 rfl (Nat.le_of_ble_eq_true rfl) ⟨Nat.le_of_ble_eq_true rfl, Nat.le_of_ble_eq_true rfl⟩ dX8_day_38 (fun d_18 H locs hr_17 hP hD hS => ?_)
      obtain ⟨hgad_18, hpad_18, hxd_18⟩ := hr_17
      have hgd_18 : yAg S [2, 8, 16, 20, 24] d d_18 := yAg.tr hgd_3 hgad_18 (by first | decide | exact fun _ h => h)
      have hPod_18 : yPo S d_18 := hpad_18 hPod_3
      refine lv_aload_n hx hb dX8_day_41 rfl (lv_at hl 0 rfl) ?_
      refine yget (ci := 8) (k := 0) (v := .ref (S.2.2.1 q0 0)) (C := RX8) (T := TX8) (N := 6) C0 hK hP hm_q0 hk_q0 (by decide) rfl inlX8 (by decide) mW16 (fun _ h9 => h9) rfl dX8_day_42 ?_
      refine yget (ci := 0) (k := 1) (v := .ref (S.2.2.1 (S.2.2.1 q0 0) 1)) (C := RX0) (T := TX0) (N := 6) C0 hK hP hmy_5 hky_5 (by decide) rfl inlX0 (by decide) mW316 (fun _ h9 => h9) rfl dX8_day_45 ?_
      obtain ⟨hmy_19, hky_19⟩ := ySh.f0_1 hSh _ hmy_5 hky_5
      refine lv_iload_n hx hb dX8_day_48 rfl (lv_at hl 1 rfl) ?_
      refine lv_iload_n hx hb dX8_day_49 rfl (lv_at hl 2 rfl) ?_
      refine lv_sipush (v := 1440) hx hb dX8_day_50 (by decide) ?_
      refine lv_imul hx hb dX8_day_53 ?_
      refine lv_topi (fun z_20 ez_20 => ?_)
      refine lv_sipush (v := 1440) hx hb dX8_day_54 (by decide) ?_
      refine yVwi (As := [.int p0, .int z_20, .int 1440]) (rest := []) C0 (g_X2_remove l G S d_18 (S.2.2.1 (S.2.2.1 q0 0) 1) p0 z_20 1440 hSh hPod_18 hmy_19 hky_19) ok_X2_remove (mW318 : Cond.methodLink RX8 155 yX2_remove ∈ wsT) ⟨Nat.le_of_ble_eq_true rfl, Nat.le_of_ble_eq_true rfl⟩ hP hD hS hA hK hN hmy_19 hky_19 (by decide) rfl rfl rfl hl.1 rfl (Nat.le_of_ble_eq_true rfl) ⟨Nat.le_of_ble_eq_true rfl, Nat.le_of_ble_eq_true rfl⟩ dX8_day_57 (fun r_21 d_22 H locs hr_21 hP hD hS => ?_)
      obtain ⟨hgad_22, hpad_22, hxd_22⟩ := hr_21
      have hgd_22 : yAg S [2, 8, 16, 20, 24] d d_22 := yAg.tr hgd_18 hgad_22 (by first | decide | exact fun _ h => h)
      have hPod_22 : yPo S d_22 := hpad_22 hPod_18
      refine lv_pop hx hb dX8_day_60 rfl ?_
      refine lv_iconst (v := 1) hx hb dX8_day_61 (by decide) ?_
      have F_23 := feq (rfl : (r_2 : Int32).toInt = (r_2 : Int32).toInt) (by decide +kernel : (0 : Int32).toInt = 0) c_4
      have F_24 := fne (rfl : (p2 : Int32).toInt = (p2 : Int32).toInt) (by decide +kernel : (0 : Int32).toInt = 0) c_8
      exact W.zret (v := 1) (ty := .boolean) hx hb hr rfl (fun t ht hW => ⟨⟨1, d_22, rfl, ⟨hgd_22, (fun _ => hPod_22), ⟨Or.inr ⟨by have h0_ : (1 : Int32).toInt = 1 := (by decide +kernel); omega, by omega⟩, ((congrFun (hgad_22 q0 (by rw [hk_q0]; decide)).1 4).trans ((congrFun (hgad_18 q0 (by rw [hk_q0]; decide)).1 4).trans (hxd_3.2)))⟩⟩, by rw [ht]; exact hP, hD⟩, hS.F ht⟩) hS.2.2 dX8_day_62
  · refine lv_iconst (v := 0) hx hb dX8_day_13 (by decide) ?_
    have F_25 := fne (rfl : (r_2 : Int32).toInt = (r_2 : Int32).toInt) (by decide +kernel : (0 : Int32).toInt = 0) c_4
    exact W.zret (v := 0) (ty := .boolean) hx hb hr rfl (fun t ht hW => ⟨⟨0, d_3, rfl, ⟨hgd_3, (fun _ => hPod_3), ⟨Or.inl ⟨by have h0_ : (0 : Int32).toInt = 0 := (by decide +kernel); omega, by omega⟩, (hxd_3.2)⟩⟩, by rw [ht]; exact hP, hD⟩, hS.F ht⟩) hS.2.2 dX8_day_14
theorem dX8_event_0 : decode cX8_event 0 = .ok (.aload_n 0, 1) := by decide +kernel
theorem dX8_event_1 : decode cX8_event 1 = .ok (.iload_n 1, 1) := by decide +kernel
theorem dX8_event_2 : decode cX8_event 2 = .ok (.iload_n 2, 1) := by decide +kernel
theorem dX8_event_3 : decode cX8_event 3 = .ok (.invokevirtual 130, 3) := by decide +kernel
theorem dX8_event_6 : decode cX8_event 6 = .ok (.iload_n 3, 1) := by decide +kernel
theorem dX8_event_7 : decode cX8_event 7 = .ok (.iconst 0, 1) := by decide +kernel
theorem dX8_event_8 : decode cX8_event 8 = .ok (.bipush 7, 2) := by decide +kernel
theorem dX8_event_10 : decode cX8_event 10 = .ok (.invokestatic 71, 3) := by decide +kernel
theorem dX8_event_13 : decode cX8_event 13 = .ok (.invokestatic 54, 3) := by decide +kernel
theorem dX8_event_16 : decode cX8_event 16 = .ok (.invokestatic 58, 3) := by decide +kernel
theorem dX8_event_19 : decode cX8_event 19 = .ok (.istore 4, 2) := by decide +kernel
theorem dX8_event_21 : decode cX8_event 21 = .ok (.iload 4, 2) := by decide +kernel
theorem dX8_event_23 : decode cX8_event 23 = .ok (.ifCond .ne 21, 3) := by decide +kernel
theorem dX8_event_26 : decode cX8_event 26 = .ok (.aload_n 0, 1) := by decide +kernel
theorem dX8_event_27 : decode cX8_event 27 = .ok (.getfield 12, 3) := by decide +kernel
theorem dX8_event_30 : decode cX8_event 30 = .ok (.iload_n 1, 1) := by decide +kernel
theorem dX8_event_31 : decode cX8_event 31 = .ok (.invokevirtual 114, 3) := by decide +kernel
theorem dX8_event_34 : decode cX8_event 34 = .ok (.iload_n 2, 1) := by decide +kernel
theorem dX8_event_35 : decode cX8_event 35 = .ok (.invokevirtual 133, 3) := by decide +kernel
theorem dX8_event_38 : decode cX8_event 38 = .ok (.ifCond .ne 6, 3) := by decide +kernel
theorem dX8_event_41 : decode cX8_event 41 = .ok (.iconst 2, 1) := by decide +kernel
theorem dX8_event_42 : decode cX8_event 42 = .ok (.istore 4, 2) := by decide +kernel
theorem dX8_event_44 : decode cX8_event 44 = .ok (.aload_n 0, 1) := by decide +kernel
theorem dX8_event_45 : decode cX8_event 45 = .ok (.iload 4, 2) := by decide +kernel
theorem dX8_event_47 : decode cX8_event 47 = .ok (.aload_n 0, 1) := by decide +kernel
theorem dX8_event_48 : decode cX8_event 48 = .ok (.getfield 12, 3) := by decide +kernel
theorem dX8_event_51 : decode cX8_event 51 = .ok (.getfield 136, 3) := by decide +kernel
theorem dX8_event_54 : decode cX8_event 54 = .ok (.getfield 140, 3) := by decide +kernel
theorem dX8_event_57 : decode cX8_event 57 = .ok (.sipush 5000, 3) := by decide +kernel
theorem dX8_event_60 : decode cX8_event 60 = .ok (.if_icmp .lt 7, 3) := by decide +kernel
theorem dX8_event_63 : decode cX8_event 63 = .ok (.iconst 5, 1) := by decide +kernel
theorem dX8_event_64 : decode cX8_event 64 = .ok (.goto 4, 3) := by decide +kernel
theorem dX8_event_67 : decode cX8_event 67 = .ok (.iconst 0, 1) := by decide +kernel
theorem dX8_event_68 : decode cX8_event 68 = .ok (.invokestatic 58, 3) := by decide +kernel
theorem dX8_event_71 : decode cX8_event 71 = .ok (.invokevirtual 42, 3) := by decide +kernel
theorem dX8_event_74 : decode cX8_event 74 = .ok (.ifCond .eq 5, 3) := by decide +kernel
theorem dX8_event_77 : decode cX8_event 77 = .ok (.iconst 0, 1) := by decide +kernel
theorem dX8_event_78 : decode cX8_event 78 = .ok (.ireturn, 1) := by decide +kernel
theorem dX8_event_79 : decode cX8_event 79 = .ok (.aload_n 0, 1) := by decide +kernel
theorem dX8_event_80 : decode cX8_event 80 = .ok (.getfield 12, 3) := by decide +kernel
theorem dX8_event_83 : decode cX8_event 83 = .ok (.getfield 136, 3) := by decide +kernel
theorem dX8_event_86 : decode cX8_event 86 = .ok (.iload_n 1, 1) := by decide +kernel
theorem dX8_event_87 : decode cX8_event 87 = .ok (.iload_n 2, 1) := by decide +kernel
theorem dX8_event_88 : decode cX8_event 88 = .ok (.iload_n 3, 1) := by decide +kernel
theorem dX8_event_89 : decode cX8_event 89 = .ok (.invokevirtual 145, 3) := by decide +kernel
theorem dX8_event_92 : decode cX8_event 92 = .ok (.iconst 1, 1) := by decide +kernel
theorem dX8_event_93 : decode cX8_event 93 = .ok (.ireturn, 1) := by decide +kernel
set_option maxHeartbeats 4000000 in
set_option maxRecDepth 100000 in
theorem g_X8_event (l : Launch) (G : xG) (S : yS) (d : yD) (q0 : Nat) (p0 : Int32) (p1 : Int32) (p2 : Int32) (hSh : ySh S) (hPo : yPo S d) (hm_q0 : q0 ∈ S.1) (hk_q0 : S.2.1 q0 = 8) : xWi l G yX8_event cX8_event 5 (some .boolean) 3 73 0 0 [.ref q0, .int p0, .int p1, .int p2] (yW G S d) (fun r (u : yD) => yAg S [2, 8, 16, 24] d u ∧ (yPo S d → yPo S u) ∧ (u.1 q0 4 = d.1 q0 4)) (fun u => yW G S u) := by
  intro sz
  refine xstart (by decide) (Nat.le_of_ble_eq_true rfl) (fun p e s m args below meth c ls C0 hr hlocks hin hsz hP hK hD hN hl => ?_)
  obtain ⟨hx, hb, hml, hown, htl⟩ := id C0
  subst hsz
  have hD := hD.self (sz := s.heap.size)
  generalize hAe : va_A (yW G S d) s.heap.size = A at hD ⊢
  have hA : ∀ q : Nat, s.heap.size ≤ q → A q := fun q h => by rw [← hAe]; exact Or.inr h
  have hS : va_S A s.heap s.heap [] := va_S.rf
  have hg0 : yAg S [2, 8, 16, 24] d d := yAg.rf
  have hl : lv_has ls 5 [(0, .ref q0), (1, .int p0), (2, .int p1), (3, .int p2)] := hl
  refine lv_aload_n hx hb dX8_event_0 rfl (lv_at hl 0 rfl) ?_
  refine lv_iload_n hx hb dX8_event_1 rfl (lv_at hl 1 rfl) ?_
  refine lv_iload_n hx hb dX8_event_2 rfl (lv_at hl 2 rfl) ?_
  refine yVri (As := [.int p0, .int p1]) (rest := []) C0 (g_X8_minuteReason l G S d q0 p0 p1 hSh hm_q0 hk_q0) ok_X8_minuteReason (mW400 : Cond.methodLink RX8 130 yX8_minuteReason ∈ wsT) ⟨Nat.le_of_ble_eq_true rfl, Nat.le_of_ble_eq_true rfl⟩ hP hD hK hN hm_q0 hk_q0 (by decide) rfl rfl rfl hl.1 rfl (Nat.le_of_ble_eq_true rfl) ⟨Nat.le_of_ble_eq_true rfl, Nat.le_of_ble_eq_true rfl⟩ dX8_event_3 (fun r_1 hr_1 => ?_)
  refine lv_iload_n hx hb dX8_event_6 rfl (lv_at hl 3 rfl) ?_
  refine lv_iconst (v := 0) hx hb dX8_event_7 (by decide) ?_
  refine lv_bipush (v := 7) hx hb dX8_event_8 (by decide) ?_
  refine ySri (As := [.int p2, .int 0, .int 7]) (rest := [.int r_1]) C0 (g_X8_within l G S d p2 0 7 ) ok_X8_within (mW193 : Cond.methodLink RX8 71 yX8_within ∈ wsT) ⟨Nat.le_of_ble_eq_true rfl, Nat.le_of_ble_eq_true rfl⟩ hP hD hK hN rfl hl.1 rfl (Nat.le_of_ble_eq_true rfl) ⟨Nat.le_of_ble_eq_true rfl, Nat.le_of_ble_eq_true rfl⟩ dX8_event_10 (fun r_2 hr_2 => ?_)
  refine ySri (As := [.int r_2]) (rest := [.int r_1]) C0 (g_X8_number l G S d r_2 ) ok_X8_number (mW196 : Cond.methodLink RX8 54 yX8_number ∈ wsT) ⟨Nat.le_of_ble_eq_true rfl, Nat.le_of_ble_eq_true rfl⟩ hP hD hK hN rfl hl.1 rfl (Nat.le_of_ble_eq_true rfl) ⟨Nat.le_of_ble_eq_true rfl, Nat.le_of_ble_eq_true rfl⟩ dX8_event_13 (fun r_3 hr_3 => ?_)
  refine ySri (As := [.int r_1, .int r_3]) (rest := []) C0 (g_X8_least l G S d r_1 r_3 ) ok_X8_least (mW199 : Cond.methodLink RX8 58 yX8_least ∈ wsT) ⟨Nat.le_of_ble_eq_true rfl, Nat.le_of_ble_eq_true rfl⟩ hP hD hK hN rfl hl.1 rfl (Nat.le_of_ble_eq_true rfl) ⟨Nat.le_of_ble_eq_true rfl, Nat.le_of_ble_eq_true rfl⟩ dX8_event_16 (fun r_4 hr_4 => ?_)
  refine lv_istore (lv' := [(4, .int r_4), (0, .ref q0), (1, .int p0), (2, .int p1), (3, .int p2)]) hx hb dX8_event_19 hl (by decide) rfl (fun ls hl => ?_)
  refine lv_iload hx hb dX8_event_21 (lv_at hl 0 rfl) ?_
  refine yjoinR (σ := Int32) 44 (fun x ls st => st = [] ∧ lv_has ls 5 [(0, .ref q0), (1, .int p0), (2, .int p1), (3, .int p2), (4, .int x)]) (fun x ls st hI => ?_) (fun J44_5 => ?_)
  · obtain ⟨v_5, rfl⟩ : ∃ z, z = x := ⟨_, rfl⟩
    obtain ⟨rfl, hl⟩ := hI
    have hl : lv_has ls 5 [(0, .ref q0), (1, .int p0), (2, .int p1), (3, .int p2), (4, .int v_5)] := hl
    refine lv_aload_n hx hb dX8_event_44 rfl (lv_at hl 0 rfl) ?_
    refine lv_iload hx hb dX8_event_45 (lv_at hl 4 rfl) ?_
    refine lv_aload_n hx hb dX8_event_47 rfl (lv_at hl 0 rfl) ?_
    refine yget (ci := 8) (k := 0) (v := .ref (S.2.2.1 q0 0)) (C := RX8) (T := TX8) (N := 6) C0 hK hP hm_q0 hk_q0 (by decide) rfl inlX8 (by decide) mW16 (fun _ h9 => h9) rfl dX8_event_48 ?_
    obtain ⟨hmy_6, hky_6⟩ := ySh.f8_0 hSh _ hm_q0 hk_q0
    refine yget (ci := 0) (k := 1) (v := .ref (S.2.2.1 (S.2.2.1 q0 0) 1)) (C := RX0) (T := TX0) (N := 6) C0 hK hP hmy_6 hky_6 (by decide) rfl inlX0 (by decide) mW316 (fun _ h9 => h9) rfl dX8_event_51 ?_
    obtain ⟨hmy_7, hky_7⟩ := ySh.f0_1 hSh _ hmy_6 hky_6
    refine yget (ci := 2) (k := 2) (v := .int (d.1 (S.2.2.1 (S.2.2.1 q0 0) 1) 2)) (C := RX2) (T := TX2) (N := 3) C0 hK hP hmy_7 hky_7 (by decide) rfl inlX2 (by decide) mW399 (fun _ h9 => h9) rfl dX8_event_54 ?_
    refine lv_topi (fun z_8 ez_8 => ?_)
    refine lv_sipush (v := 5000) hx hb dX8_event_57 (by decide) ?_
    refine yjoinR (σ := Int32) 68 (fun x ls st => st = [.int x, .int v_5, .ref q0] ∧ lv_has ls 5 [(0, .ref q0), (1, .int p0), (2, .int p1), (3, .int p2)]) (fun x ls st hI => ?_) (fun J68_9 => ?_)
    · obtain ⟨v_9, rfl⟩ : ∃ z, z = x := ⟨_, rfl⟩
      obtain ⟨rfl, hl⟩ := hI
      have hl : lv_has ls 5 [(0, .ref q0), (1, .int p0), (2, .int p1), (3, .int p2)] := hl
      refine ySri (As := [.int v_5, .int v_9]) (rest := [.ref q0]) C0 (g_X8_least l G S d v_5 v_9 ) ok_X8_least (mW199 : Cond.methodLink RX8 58 yX8_least ∈ wsT) ⟨Nat.le_of_ble_eq_true rfl, Nat.le_of_ble_eq_true rfl⟩ hP hD hK hN rfl hl.1 rfl (Nat.le_of_ble_eq_true rfl) ⟨Nat.le_of_ble_eq_true rfl, Nat.le_of_ble_eq_true rfl⟩ dX8_event_68 (fun r_10 hr_10 => ?_)
      refine yVwi (As := [.int r_10]) (rest := []) C0 (g_X8_refused l G S d q0 r_10 hSh hPo hm_q0 hk_q0) ok_X8_refused (mW160 : Cond.methodLink RX8 42 yX8_refused ∈ wsT) ⟨Nat.le_of_ble_eq_true rfl, Nat.le_of_ble_eq_true rfl⟩ hP hD hS hA hK hN hm_q0 hk_q0 (by decide) rfl rfl rfl hl.1 rfl (Nat.le_of_ble_eq_true rfl) ⟨Nat.le_of_ble_eq_true rfl, Nat.le_of_ble_eq_true rfl⟩ dX8_event_71 (fun r_11 d_12 H locs hr_11 hP hD hS => ?_)
      obtain ⟨hgad_12, hpad_12, hxd_12⟩ := hr_11
      have hgd_12 : yAg S [2, 8, 16, 24] d d_12 := yAg.tr hg0 hgad_12 (by first | decide | exact fun _ h => h)
      have hPod_12 : yPo S d_12 := hpad_12 hPo
      refine lv_if_eq (tgt := 79) hx hb dX8_event_74 (by decide) (fun c_13 => ?_) (fun c_13 => ?_)
      · refine lv_aload_n hx hb dX8_event_79 rfl (lv_at hl 0 rfl) ?_
        refine yget (ci := 8) (k := 0) (v := .ref (S.2.2.1 q0 0)) (C := RX8) (T := TX8) (N := 6) C0 hK hP hm_q0 hk_q0 (by decide) rfl inlX8 (by decide) mW16 (fun _ h9 => h9) rfl dX8_event_80 ?_
        refine yget (ci := 0) (k := 1) (v := .ref (S.2.2.1 (S.2.2.1 q0 0) 1)) (C := RX0) (T := TX0) (N := 6) C0 hK hP hmy_6 hky_6 (by decide) rfl inlX0 (by decide) mW316 (fun _ h9 => h9) rfl dX8_event_83 ?_
        refine lv_iload_n hx hb dX8_event_86 rfl (lv_at hl 1 rfl) ?_
        refine lv_iload_n hx hb dX8_event_87 rfl (lv_at hl 2 rfl) ?_
        refine lv_iload_n hx hb dX8_event_88 rfl (lv_at hl 3 rfl) ?_
        refine yVwv (As := [.int p0, .int p1, .int p2]) (rest := []) C0 (g_X2_add l G S d_12 (S.2.2.1 (S.2.2.1 q0 0) 1) p0 p1 p2 hSh hPod_12 hmy_7 hky_7) ok_X2_add (mW413 : Cond.methodLink RX8 145 yX2_add ∈ wsT) ⟨Nat.le_of_ble_eq_true rfl, Nat.le_of_ble_eq_true rfl⟩ hP hD hS hA hK hN hmy_7 hky_7 (by decide) rfl rfl rfl hl.1 rfl (Nat.le_of_ble_eq_true rfl) ⟨Nat.le_of_ble_eq_true rfl, Nat.le_of_ble_eq_true rfl⟩ dX8_event_89 (fun d_15 H locs hr_14 hP hD hS => ?_)
        obtain ⟨hgad_15, hpad_15, hxd_15⟩ := hr_14
        have hgd_15 : yAg S [2, 8, 16, 24] d d_15 := yAg.tr hgd_12 hgad_15 (by first | decide | exact fun _ h => h)
        have hPod_15 : yPo S d_15 := hpad_15 hPod_12
        refine lv_iconst (v := 1) hx hb dX8_event_92 (by decide) ?_
        exact W.zret (v := 1) (ty := .boolean) hx hb hr rfl (fun t ht hW => ⟨⟨1, d_15, rfl, ⟨hgd_15, (fun _ => hPod_15), ((congrFun (hgad_15 q0 (by rw [hk_q0]; decide)).1 4).trans (hxd_12.2))⟩, by rw [ht]; exact hP, hD⟩, hS.F ht⟩) hS.2.2 dX8_event_93
      · refine lv_iconst (v := 0) hx hb dX8_event_77 (by decide) ?_
        exact W.zret (v := 0) (ty := .boolean) hx hb hr rfl (fun t ht hW => ⟨⟨0, d_12, rfl, ⟨hgd_12, (fun _ => hPod_12), (hxd_12.2)⟩, by rw [ht]; exact hP, hD⟩, hS.F ht⟩) hS.2.2 dX8_event_78
    refine lv_icmp_lt (tgt := 67) hx hb dX8_event_60 (by decide) (fun c_16 => ?_) (fun c_16 => ?_)
    · refine lv_iconst (v := 0) hx hb dX8_event_67 (by decide) ?_
      exact J68_9 0 ls _ ⟨rfl, lv_sub hl [0, 1, 2, 3] rfl⟩
    · refine lv_iconst (v := 5) hx hb dX8_event_63 (by decide) ?_
      refine lv_goto (tgt := 68) hx hb dX8_event_64 (by decide) ?_
      exact J68_9 5 ls _ ⟨rfl, lv_sub hl [0, 1, 2, 3] rfl⟩
  refine lv_if_ne (tgt := 44) hx hb dX8_event_23 (by decide) (fun c_17 => ?_) (fun c_17 => ?_)
  · exact J44_5 r_4 ls _ ⟨rfl, lv_sub hl [1, 2, 3, 4, 0] rfl⟩
  · refine lv_aload_n hx hb dX8_event_26 rfl (lv_at hl 1 rfl) ?_
    refine yget (ci := 8) (k := 0) (v := .ref (S.2.2.1 q0 0)) (C := RX8) (T := TX8) (N := 6) C0 hK hP hm_q0 hk_q0 (by decide) rfl inlX8 (by decide) mW16 (fun _ h9 => h9) rfl dX8_event_27 ?_
    obtain ⟨hmy_18, hky_18⟩ := ySh.f8_0 hSh _ hm_q0 hk_q0
    refine lv_iload_n hx hb dX8_event_30 rfl (lv_at hl 2 rfl) ?_
    refine yVrr (As := [.int p0]) (rest := []) C0 (g_X0_portAt l G S d (S.2.2.1 q0 0) p0 hSh hmy_18 hky_18) ok_X0_portAt (mW337 : Cond.methodLink RX8 114 yX0_portAt ∈ wsT) ⟨Nat.le_of_ble_eq_true rfl, Nat.le_of_ble_eq_true rfl⟩ hP hD hK hN hmy_18 hky_18 (by decide) rfl rfl rfl hl.1 rfl (Nat.le_of_ble_eq_true rfl) ⟨Nat.le_of_ble_eq_true rfl, Nat.le_of_ble_eq_true rfl⟩ dX8_event_31 (fun r_19 hr_19 => ?_)
    obtain ⟨hmr_19, hkr_19, her_19⟩ := hr_19
    refine lv_iload_n hx hb dX8_event_34 rfl (lv_at hl 3 rfl) ?_
    refine yVri (As := [.int p1]) (rest := []) C0 (g_X4_knows l G S d r_19 p1 hSh hmr_19 hkr_19) ok_X4_knows (mW409 : Cond.methodLink RX8 133 yX4_knows ∈ wsT) ⟨Nat.le_of_ble_eq_true rfl, Nat.le_of_ble_eq_true rfl⟩ hP hD hK hN hmr_19 hkr_19 (by decide) rfl rfl rfl hl.1 rfl (Nat.le_of_ble_eq_true rfl) ⟨Nat.le_of_ble_eq_true rfl, Nat.le_of_ble_eq_true rfl⟩ dX8_event_35 (fun r_20 hr_20 => ?_)
    refine lv_if_ne (tgt := 44) hx hb dX8_event_38 (by decide) (fun c_21 => ?_) (fun c_21 => ?_)
    · exact J44_5 r_4 ls _ ⟨rfl, lv_sub hl [1, 2, 3, 4, 0] rfl⟩
    · refine lv_iconst (v := 2) hx hb dX8_event_41 (by decide) ?_
      refine lv_istore (lv' := [(4, .int 2), (0, .ref q0), (1, .int p0), (2, .int p1), (3, .int p2)]) hx hb dX8_event_42 hl (by decide) rfl (fun ls hl => ?_)
      exact J44_5 2 ls _ ⟨rfl, lv_sub hl [1, 2, 3, 4, 0] rfl⟩
theorem dX8_tear_0 : decode cX8_tear 0 = .ok (.aload_n 0, 1) := by decide +kernel
theorem dX8_tear_1 : decode cX8_tear 1 = .ok (.iload_n 1, 1) := by decide +kernel
theorem dX8_tear_2 : decode cX8_tear 2 = .ok (.iload_n 2, 1) := by decide +kernel
theorem dX8_tear_3 : decode cX8_tear 3 = .ok (.invokevirtual 159, 3) := by decide +kernel
theorem dX8_tear_6 : decode cX8_tear 6 = .ok (.iload_n 3, 1) := by decide +kernel
theorem dX8_tear_7 : decode cX8_tear 7 = .ok (.iconst 0, 1) := by decide +kernel
theorem dX8_tear_8 : decode cX8_tear 8 = .ok (.sipush 1439, 3) := by decide +kernel
theorem dX8_tear_11 : decode cX8_tear 11 = .ok (.invokestatic 71, 3) := by decide +kernel
theorem dX8_tear_14 : decode cX8_tear 14 = .ok (.invokestatic 54, 3) := by decide +kernel
theorem dX8_tear_17 : decode cX8_tear 17 = .ok (.invokestatic 58, 3) := by decide +kernel
theorem dX8_tear_20 : decode cX8_tear 20 = .ok (.istore 4, 2) := by decide +kernel
theorem dX8_tear_22 : decode cX8_tear 22 = .ok (.aload_n 0, 1) := by decide +kernel
theorem dX8_tear_23 : decode cX8_tear 23 = .ok (.iload 4, 2) := by decide +kernel
theorem dX8_tear_25 : decode cX8_tear 25 = .ok (.invokevirtual 42, 3) := by decide +kernel
theorem dX8_tear_28 : decode cX8_tear 28 = .ok (.ifCond .eq 5, 3) := by decide +kernel
theorem dX8_tear_31 : decode cX8_tear 31 = .ok (.iconst (-1), 1) := by decide +kernel
theorem dX8_tear_32 : decode cX8_tear 32 = .ok (.ireturn, 1) := by decide +kernel
theorem dX8_tear_33 : decode cX8_tear 33 = .ok (.iload_n 3, 1) := by decide +kernel
theorem dX8_tear_34 : decode cX8_tear 34 = .ok (.aload_n 0, 1) := by decide +kernel
theorem dX8_tear_35 : decode cX8_tear 35 = .ok (.getfield 12, 3) := by decide +kernel
theorem dX8_tear_38 : decode cX8_tear 38 = .ok (.iload_n 1, 1) := by decide +kernel
theorem dX8_tear_39 : decode cX8_tear 39 = .ok (.invokevirtual 114, 3) := by decide +kernel
theorem dX8_tear_42 : decode cX8_tear 42 = .ok (.getfield 152, 3) := by decide +kernel
theorem dX8_tear_45 : decode cX8_tear 45 = .ok (.iload_n 2, 1) := by decide +kernel
theorem dX8_tear_46 : decode cX8_tear 46 = .ok (.invokestatic 78, 3) := by decide +kernel
theorem dX8_tear_49 : decode cX8_tear 49 = .ok (.invokestatic 162, 3) := by decide +kernel
theorem dX8_tear_52 : decode cX8_tear 52 = .ok (.istore 5, 2) := by decide +kernel
theorem dX8_tear_54 : decode cX8_tear 54 = .ok (.aload_n 0, 1) := by decide +kernel
theorem dX8_tear_55 : decode cX8_tear 55 = .ok (.getfield 12, 3) := by decide +kernel
theorem dX8_tear_58 : decode cX8_tear 58 = .ok (.iload_n 1, 1) := by decide +kernel
theorem dX8_tear_59 : decode cX8_tear 59 = .ok (.invokevirtual 114, 3) := by decide +kernel
theorem dX8_tear_62 : decode cX8_tear 62 = .ok (.getfield 152, 3) := by decide +kernel
theorem dX8_tear_65 : decode cX8_tear 65 = .ok (.iload_n 2, 1) := by decide +kernel
theorem dX8_tear_66 : decode cX8_tear 66 = .ok (.iload 5, 2) := by decide +kernel
theorem dX8_tear_68 : decode cX8_tear 68 = .ok (.invokestatic 82, 3) := by decide +kernel
theorem dX8_tear_71 : decode cX8_tear 71 = .ok (.aload_n 0, 1) := by decide +kernel
theorem dX8_tear_72 : decode cX8_tear 72 = .ok (.getfield 12, 3) := by decide +kernel
theorem dX8_tear_75 : decode cX8_tear 75 = .ok (.getfield 136, 3) := by decide +kernel
theorem dX8_tear_78 : decode cX8_tear 78 = .ok (.iload_n 1, 1) := by decide +kernel
theorem dX8_tear_79 : decode cX8_tear 79 = .ok (.iload_n 2, 1) := by decide +kernel
theorem dX8_tear_80 : decode cX8_tear 80 = .ok (.sipush 1440, 3) := by decide +kernel
theorem dX8_tear_83 : decode cX8_tear 83 = .ok (.imul, 1) := by decide +kernel
theorem dX8_tear_84 : decode cX8_tear 84 = .ok (.iload 5, 2) := by decide +kernel
theorem dX8_tear_86 : decode cX8_tear 86 = .ok (.iadd, 1) := by decide +kernel
theorem dX8_tear_87 : decode cX8_tear 87 = .ok (.sipush 1440, 3) := by decide +kernel
theorem dX8_tear_90 : decode cX8_tear 90 = .ok (.iload 5, 2) := by decide +kernel
theorem dX8_tear_92 : decode cX8_tear 92 = .ok (.isub, 1) := by decide +kernel
theorem dX8_tear_93 : decode cX8_tear 93 = .ok (.invokevirtual 155, 3) := by decide +kernel
theorem dX8_tear_96 : decode cX8_tear 96 = .ok (.ireturn, 1) := by decide +kernel
set_option maxHeartbeats 4000000 in
set_option maxRecDepth 100000 in
theorem g_X8_tear (l : Launch) (G : xG) (S : yS) (d : yD) (q0 : Nat) (p0 : Int32) (p1 : Int32) (p2 : Int32) (hSh : ySh S) (hPo : yPo S d) (hm_q0 : q0 ∈ S.1) (hk_q0 : S.2.1 q0 = 8) : xWi l G yX8_tear cX8_tear 6 (some .int) 4 89 0 0 [.ref q0, .int p0, .int p1, .int p2] (yW G S d) (fun r (u : yD) => yAg S [2, 8, 16, 20, 24] d u ∧ (yPo S d → yPo S u) ∧ (u.1 q0 4 = d.1 q0 4)) (fun u => yW G S u) := by
  intro sz
  refine xstart (by decide) (Nat.le_of_ble_eq_true rfl) (fun p e s m args below meth c ls C0 hr hlocks hin hsz hP hK hD hN hl => ?_)
  obtain ⟨hx, hb, hml, hown, htl⟩ := id C0
  subst hsz
  have hD := hD.self (sz := s.heap.size)
  generalize hAe : va_A (yW G S d) s.heap.size = A at hD ⊢
  have hA : ∀ q : Nat, s.heap.size ≤ q → A q := fun q h => by rw [← hAe]; exact Or.inr h
  have hS : va_S A s.heap s.heap [] := va_S.rf
  have hg0 : yAg S [2, 8, 16, 20, 24] d d := yAg.rf
  have hl : lv_has ls 6 [(0, .ref q0), (1, .int p0), (2, .int p1), (3, .int p2)] := hl
  refine lv_aload_n hx hb dX8_tear_0 rfl (lv_at hl 0 rfl) ?_
  refine lv_iload_n hx hb dX8_tear_1 rfl (lv_at hl 1 rfl) ?_
  refine lv_iload_n hx hb dX8_tear_2 rfl (lv_at hl 2 rfl) ?_
  refine yVri (As := [.int p0, .int p1]) (rest := []) C0 (g_X8_thereReason l G S d q0 p0 p1 hSh hm_q0 hk_q0) ok_X8_thereReason (mW458 : Cond.methodLink RX8 159 yX8_thereReason ∈ wsT) ⟨Nat.le_of_ble_eq_true rfl, Nat.le_of_ble_eq_true rfl⟩ hP hD hK hN hm_q0 hk_q0 (by decide) rfl rfl rfl hl.1 rfl (Nat.le_of_ble_eq_true rfl) ⟨Nat.le_of_ble_eq_true rfl, Nat.le_of_ble_eq_true rfl⟩ dX8_tear_3 (fun r_1 hr_1 => ?_)
  refine lv_iload_n hx hb dX8_tear_6 rfl (lv_at hl 3 rfl) ?_
  refine lv_iconst (v := 0) hx hb dX8_tear_7 (by decide) ?_
  refine lv_sipush (v := 1439) hx hb dX8_tear_8 (by decide) ?_
  refine ySri (As := [.int p2, .int 0, .int 1439]) (rest := [.int r_1]) C0 (g_X8_within l G S d p2 0 1439 ) ok_X8_within (mW193 : Cond.methodLink RX8 71 yX8_within ∈ wsT) ⟨Nat.le_of_ble_eq_true rfl, Nat.le_of_ble_eq_true rfl⟩ hP hD hK hN rfl hl.1 rfl (Nat.le_of_ble_eq_true rfl) ⟨Nat.le_of_ble_eq_true rfl, Nat.le_of_ble_eq_true rfl⟩ dX8_tear_11 (fun r_2 hr_2 => ?_)
  refine ySri (As := [.int r_2]) (rest := [.int r_1]) C0 (g_X8_number l G S d r_2 ) ok_X8_number (mW196 : Cond.methodLink RX8 54 yX8_number ∈ wsT) ⟨Nat.le_of_ble_eq_true rfl, Nat.le_of_ble_eq_true rfl⟩ hP hD hK hN rfl hl.1 rfl (Nat.le_of_ble_eq_true rfl) ⟨Nat.le_of_ble_eq_true rfl, Nat.le_of_ble_eq_true rfl⟩ dX8_tear_14 (fun r_3 hr_3 => ?_)
  refine ySri (As := [.int r_1, .int r_3]) (rest := []) C0 (g_X8_least l G S d r_1 r_3 ) ok_X8_least (mW199 : Cond.methodLink RX8 58 yX8_least ∈ wsT) ⟨Nat.le_of_ble_eq_true rfl, Nat.le_of_ble_eq_true rfl⟩ hP hD hK hN rfl hl.1 rfl (Nat.le_of_ble_eq_true rfl) ⟨Nat.le_of_ble_eq_true rfl, Nat.le_of_ble_eq_true rfl⟩ dX8_tear_17 (fun r_4 hr_4 => ?_)
  refine lv_istore (lv' := [(4, .int r_4), (0, .ref q0), (1, .int p0), (2, .int p1), (3, .int p2)]) hx hb dX8_tear_20 hl (by decide) rfl (fun ls hl => ?_)
  refine lv_aload_n hx hb dX8_tear_22 rfl (lv_at hl 1 rfl) ?_
  refine lv_iload hx hb dX8_tear_23 (lv_at hl 0 rfl) ?_
  refine yVwi (As := [.int r_4]) (rest := []) C0 (g_X8_refused l G S d q0 r_4 hSh hPo hm_q0 hk_q0) ok_X8_refused (mW160 : Cond.methodLink RX8 42 yX8_refused ∈ wsT) ⟨Nat.le_of_ble_eq_true rfl, Nat.le_of_ble_eq_true rfl⟩ hP hD hS hA hK hN hm_q0 hk_q0 (by decide) rfl rfl rfl hl.1 rfl (Nat.le_of_ble_eq_true rfl) ⟨Nat.le_of_ble_eq_true rfl, Nat.le_of_ble_eq_true rfl⟩ dX8_tear_25 (fun r_5 d_6 H locs hr_5 hP hD hS => ?_)
  obtain ⟨hgad_6, hpad_6, hxd_6⟩ := hr_5
  have hgd_6 : yAg S [2, 8, 16, 20, 24] d d_6 := yAg.tr hg0 hgad_6 (by first | decide | exact fun _ h => h)
  have hPod_6 : yPo S d_6 := hpad_6 hPo
  refine lv_if_eq (tgt := 33) hx hb dX8_tear_28 (by decide) (fun c_7 => ?_) (fun c_7 => ?_)
  · refine lv_iload_n hx hb dX8_tear_33 rfl (lv_at hl 4 rfl) ?_
    refine lv_aload_n hx hb dX8_tear_34 rfl (lv_at hl 1 rfl) ?_
    refine yget (ci := 8) (k := 0) (v := .ref (S.2.2.1 q0 0)) (C := RX8) (T := TX8) (N := 6) C0 hK hP hm_q0 hk_q0 (by decide) rfl inlX8 (by decide) mW16 (fun _ h9 => h9) rfl dX8_tear_35 ?_
    obtain ⟨hmy_8, hky_8⟩ := ySh.f8_0 hSh _ hm_q0 hk_q0
    refine lv_iload_n hx hb dX8_tear_38 rfl (lv_at hl 2 rfl) ?_
    refine yVrr (As := [.int p0]) (rest := [.int p2]) C0 (g_X0_portAt l G S d_6 (S.2.2.1 q0 0) p0 hSh hmy_8 hky_8) ok_X0_portAt (mW337 : Cond.methodLink RX8 114 yX0_portAt ∈ wsT) ⟨Nat.le_of_ble_eq_true rfl, Nat.le_of_ble_eq_true rfl⟩ hP hD hK hN hmy_8 hky_8 (by decide) rfl rfl rfl hl.1 rfl (Nat.le_of_ble_eq_true rfl) ⟨Nat.le_of_ble_eq_true rfl, Nat.le_of_ble_eq_true rfl⟩ dX8_tear_39 (fun r_9 hr_9 => ?_)
    obtain ⟨hmr_9, hkr_9, her_9⟩ := hr_9
    refine yget (ci := 4) (k := 0) (v := .ref (S.2.2.1 r_9 0)) (C := RX4) (T := TX4) (N := 11) C0 hK hP hmr_9 hkr_9 (by decide) rfl inlX4 (by decide) mW441 (fun _ h9 => h9) rfl dX8_tear_42 ?_
    obtain ⟨hmy_10, hky_10⟩ := ySh.f4_0 hSh _ hmr_9 hkr_9
    refine lv_iload_n hx hb dX8_tear_45 rfl (lv_at hl 3 rfl) ?_
    refine ySri (As := [.ref (S.2.2.1 r_9 0), .int p1]) (rest := [.int p2]) C0 (g_X8_at l G S d_6 (S.2.2.1 r_9 0) 20 p1 hmy_10 hky_10 (by decide) rfl rfl (by decide)) ok_X8_at (mW165 : Cond.methodLink RX8 78 yX8_at ∈ wsT) ⟨Nat.le_of_ble_eq_true rfl, Nat.le_of_ble_eq_true rfl⟩ hP hD hK hN rfl hl.1 rfl (Nat.le_of_ble_eq_true rfl) ⟨Nat.le_of_ble_eq_true rfl, Nat.le_of_ble_eq_true rfl⟩ dX8_tear_46 (fun r_11 hr_11 => ?_)
    refine va_mmin hx hb (by rw [hml]; exact hl.1.symm) hown (htl (.methodLink RX8 162 Lib.Math.min.name) mW202) (htl (.static Lib.Math.min.name) mW203) (htl (.initialized "java/lang/Math") mW204) (htl (.code Lib.Math.min.name Lib.Math.min.code 2 (some .int)) mW205) (Nat.le_of_ble_eq_true rfl) (Nat.le_of_ble_eq_true rfl) (Nat.le_of_ble_eq_true rfl) (Nat.le_of_ble_eq_true rfl) dX8_tear_49 ?_
    refine lv_topi (fun z_12 ez_12 => ?_)
    refine lv_istore (lv' := [(5, .int z_12), (4, .int r_4), (0, .ref q0), (1, .int p0), (2, .int p1), (3, .int p2)]) hx hb dX8_tear_52 hl (by decide) rfl (fun ls hl => ?_)
    refine lv_aload_n hx hb dX8_tear_54 rfl (lv_at hl 2 rfl) ?_
    refine yget (ci := 8) (k := 0) (v := .ref (S.2.2.1 q0 0)) (C := RX8) (T := TX8) (N := 6) C0 hK hP hm_q0 hk_q0 (by decide) rfl inlX8 (by decide) mW16 (fun _ h9 => h9) rfl dX8_tear_55 ?_
    refine lv_iload_n hx hb dX8_tear_58 rfl (lv_at hl 3 rfl) ?_
    refine yVrr (As := [.int p0]) (rest := []) C0 (g_X0_portAt l G S d_6 (S.2.2.1 q0 0) p0 hSh hmy_8 hky_8) ok_X0_portAt (mW337 : Cond.methodLink RX8 114 yX0_portAt ∈ wsT) ⟨Nat.le_of_ble_eq_true rfl, Nat.le_of_ble_eq_true rfl⟩ hP hD hK hN hmy_8 hky_8 (by decide) rfl rfl rfl hl.1 rfl (Nat.le_of_ble_eq_true rfl) ⟨Nat.le_of_ble_eq_true rfl, Nat.le_of_ble_eq_true rfl⟩ dX8_tear_59 (fun r_13 hr_13 => ?_)
    obtain ⟨hmr_13, hkr_13, her_13⟩ := hr_13
    refine yget (ci := 4) (k := 0) (v := .ref (S.2.2.1 r_13 0)) (C := RX4) (T := TX4) (N := 11) C0 hK hP hmr_13 hkr_13 (by decide) rfl inlX4 (by decide) mW441 (fun _ h9 => h9) rfl dX8_tear_62 ?_
    obtain ⟨hmy_14, hky_14⟩ := ySh.f4_0 hSh _ hmr_13 hkr_13
    refine lv_iload_n hx hb dX8_tear_65 rfl (lv_at hl 4 rfl) ?_
    refine lv_iload hx hb dX8_tear_66 (lv_at hl 0 rfl) ?_
    refine ySwv (As := [.ref (S.2.2.1 r_13 0), .int p1, .int z_12]) (rest := []) C0 (g_X8_put l G S d_6 (S.2.2.1 r_13 0) 20 p1 z_12 hPod_6 hmy_14 hky_14 (by decide) rfl rfl (by decide)) ok_X8_put (mW168 : Cond.methodLink RX8 82 yX8_put ∈ wsT) ⟨Nat.le_of_ble_eq_true rfl, Nat.le_of_ble_eq_true rfl⟩ hP hD hS hA hK hN rfl hl.1 rfl (Nat.le_of_ble_eq_true rfl) ⟨Nat.le_of_ble_eq_true rfl, Nat.le_of_ble_eq_true rfl⟩ dX8_tear_68 (fun d_16 H locs hr_15 hP hD hS => ?_)
    obtain ⟨hgad_16, hpad_16, hxd_16⟩ := hr_15
    have hgd_16 : yAg S [2, 8, 16, 20, 24] d d_16 := yAg.tr hgd_6 hgad_16 (by first | decide | exact fun _ h => h)
    have hPod_16 : yPo S d_16 := hpad_16 hPod_6
    refine lv_aload_n hx hb dX8_tear_71 rfl (lv_at hl 2 rfl) ?_
    refine yget (ci := 8) (k := 0) (v := .ref (S.2.2.1 q0 0)) (C := RX8) (T := TX8) (N := 6) C0 hK hP hm_q0 hk_q0 (by decide) rfl inlX8 (by decide) mW16 (fun _ h9 => h9) rfl dX8_tear_72 ?_
    refine yget (ci := 0) (k := 1) (v := .ref (S.2.2.1 (S.2.2.1 q0 0) 1)) (C := RX0) (T := TX0) (N := 6) C0 hK hP hmy_8 hky_8 (by decide) rfl inlX0 (by decide) mW316 (fun _ h9 => h9) rfl dX8_tear_75 ?_
    obtain ⟨hmy_17, hky_17⟩ := ySh.f0_1 hSh _ hmy_8 hky_8
    refine lv_iload_n hx hb dX8_tear_78 rfl (lv_at hl 3 rfl) ?_
    refine lv_iload_n hx hb dX8_tear_79 rfl (lv_at hl 4 rfl) ?_
    refine lv_sipush (v := 1440) hx hb dX8_tear_80 (by decide) ?_
    refine lv_imul hx hb dX8_tear_83 ?_
    refine lv_topi (fun z_18 ez_18 => ?_)
    refine lv_iload hx hb dX8_tear_84 (lv_at hl 0 rfl) ?_
    refine lv_iadd hx hb dX8_tear_86 ?_
    refine lv_topi (fun z_19 ez_19 => ?_)
    refine lv_sipush (v := 1440) hx hb dX8_tear_87 (by decide) ?_
    refine lv_iload hx hb dX8_tear_90 (lv_at hl 0 rfl) ?_
    refine lv_isub hx hb dX8_tear_92 ?_
    refine lv_topi (fun z_20 ez_20 => ?_)
    refine yVwi (As := [.int p0, .int z_19, .int z_20]) (rest := []) C0 (g_X2_remove l G S d_16 (S.2.2.1 (S.2.2.1 q0 0) 1) p0 z_19 z_20 hSh hPod_16 hmy_17 hky_17) ok_X2_remove (mW318 : Cond.methodLink RX8 155 yX2_remove ∈ wsT) ⟨Nat.le_of_ble_eq_true rfl, Nat.le_of_ble_eq_true rfl⟩ hP hD hS hA hK hN hmy_17 hky_17 (by decide) rfl rfl rfl hl.1 rfl (Nat.le_of_ble_eq_true rfl) ⟨Nat.le_of_ble_eq_true rfl, Nat.le_of_ble_eq_true rfl⟩ dX8_tear_93 (fun r_21 d_22 H locs hr_21 hP hD hS => ?_)
    obtain ⟨hgad_22, hpad_22, hxd_22⟩ := hr_21
    have hgd_22 : yAg S [2, 8, 16, 20, 24] d d_22 := yAg.tr hgd_16 hgad_22 (by first | decide | exact fun _ h => h)
    have hPod_22 : yPo S d_22 := hpad_22 hPod_16
    exact W.iret (v := r_21) hx hb hr (fun t ht hW => ⟨⟨r_21, d_22, rfl, ⟨hgd_22, (fun _ => hPod_22), ((congrFun (hgad_22 q0 (by rw [hk_q0]; decide)).1 4).trans ((congrFun (hgad_16 q0 (by rw [hk_q0]; decide)).1 4).trans (hxd_6.2)))⟩, by rw [ht]; exact hP, hD⟩, hS.F ht⟩) hS.2.2 dX8_tear_96
  · refine lv_iconst (v := (-1)) hx hb dX8_tear_31 (by decide) ?_
    exact W.iret (v := (-1)) hx hb hr (fun t ht hW => ⟨⟨(-1), d_6, rfl, ⟨hgd_6, (fun _ => hPod_6), (hxd_6.2)⟩, by rw [ht]; exact hP, hD⟩, hS.F ht⟩) hS.2.2 dX8_tear_32
theorem dX8_copy_0 : decode cX8_copy 0 = .ok (.aload_n 0, 1) := by decide +kernel
theorem dX8_copy_1 : decode cX8_copy 1 = .ok (.iload_n 1, 1) := by decide +kernel
theorem dX8_copy_2 : decode cX8_copy 2 = .ok (.iload_n 2, 1) := by decide +kernel
theorem dX8_copy_3 : decode cX8_copy 3 = .ok (.invokevirtual 149, 3) := by decide +kernel
theorem dX8_copy_6 : decode cX8_copy 6 = .ok (.aload_n 0, 1) := by decide +kernel
theorem dX8_copy_7 : decode cX8_copy 7 = .ok (.iload_n 3, 1) := by decide +kernel
theorem dX8_copy_8 : decode cX8_copy 8 = .ok (.iload 4, 2) := by decide +kernel
theorem dX8_copy_10 : decode cX8_copy 10 = .ok (.invokevirtual 149, 3) := by decide +kernel
theorem dX8_copy_13 : decode cX8_copy 13 = .ok (.invokestatic 58, 3) := by decide +kernel
theorem dX8_copy_16 : decode cX8_copy 16 = .ok (.istore 6, 2) := by decide +kernel
theorem dX8_copy_18 : decode cX8_copy 18 = .ok (.iload 6, 2) := by decide +kernel
theorem dX8_copy_20 : decode cX8_copy 20 = .ok (.iload 5, 2) := by decide +kernel
theorem dX8_copy_22 : decode cX8_copy 22 = .ok (.iconst 0, 1) := by decide +kernel
theorem dX8_copy_23 : decode cX8_copy 23 = .ok (.bipush 90, 2) := by decide +kernel
theorem dX8_copy_25 : decode cX8_copy 25 = .ok (.invokestatic 71, 3) := by decide +kernel
theorem dX8_copy_28 : decode cX8_copy 28 = .ok (.invokestatic 54, 3) := by decide +kernel
theorem dX8_copy_31 : decode cX8_copy 31 = .ok (.invokestatic 58, 3) := by decide +kernel
theorem dX8_copy_34 : decode cX8_copy 34 = .ok (.istore 6, 2) := by decide +kernel
theorem dX8_copy_36 : decode cX8_copy 36 = .ok (.iload 6, 2) := by decide +kernel
theorem dX8_copy_38 : decode cX8_copy 38 = .ok (.ifCond .eq 12, 3) := by decide +kernel
theorem dX8_copy_41 : decode cX8_copy 41 = .ok (.aload_n 0, 1) := by decide +kernel
theorem dX8_copy_42 : decode cX8_copy 42 = .ok (.iload 6, 2) := by decide +kernel
theorem dX8_copy_44 : decode cX8_copy 44 = .ok (.invokevirtual 42, 3) := by decide +kernel
theorem dX8_copy_47 : decode cX8_copy 47 = .ok (.pop, 1) := by decide +kernel
theorem dX8_copy_48 : decode cX8_copy 48 = .ok (.iconst (-1), 1) := by decide +kernel
theorem dX8_copy_49 : decode cX8_copy 49 = .ok (.ireturn, 1) := by decide +kernel
theorem dX8_copy_50 : decode cX8_copy 50 = .ok (.aload_n 0, 1) := by decide +kernel
theorem dX8_copy_51 : decode cX8_copy 51 = .ok (.getfield 12, 3) := by decide +kernel
theorem dX8_copy_54 : decode cX8_copy 54 = .ok (.iload_n 1, 1) := by decide +kernel
theorem dX8_copy_55 : decode cX8_copy 55 = .ok (.invokevirtual 114, 3) := by decide +kernel
theorem dX8_copy_58 : decode cX8_copy 58 = .ok (.getfield 167, 3) := by decide +kernel
theorem dX8_copy_61 : decode cX8_copy 61 = .ok (.iload_n 2, 1) := by decide +kernel
theorem dX8_copy_62 : decode cX8_copy 62 = .ok (.isub, 1) := by decide +kernel
theorem dX8_copy_63 : decode cX8_copy 63 = .ok (.aload_n 0, 1) := by decide +kernel
theorem dX8_copy_64 : decode cX8_copy 64 = .ok (.getfield 12, 3) := by decide +kernel
theorem dX8_copy_67 : decode cX8_copy 67 = .ok (.iload_n 3, 1) := by decide +kernel
theorem dX8_copy_68 : decode cX8_copy 68 = .ok (.invokevirtual 114, 3) := by decide +kernel
theorem dX8_copy_71 : decode cX8_copy 71 = .ok (.getfield 167, 3) := by decide +kernel
theorem dX8_copy_74 : decode cX8_copy 74 = .ok (.iload 4, 2) := by decide +kernel
theorem dX8_copy_76 : decode cX8_copy 76 = .ok (.isub, 1) := by decide +kernel
theorem dX8_copy_77 : decode cX8_copy 77 = .ok (.invokestatic 162, 3) := by decide +kernel
theorem dX8_copy_80 : decode cX8_copy 80 = .ok (.istore 7, 2) := by decide +kernel
theorem dX8_copy_82 : decode cX8_copy 82 = .ok (.aload_n 0, 1) := by decide +kernel
theorem dX8_copy_83 : decode cX8_copy 83 = .ok (.iload_n 1, 1) := by decide +kernel
theorem dX8_copy_84 : decode cX8_copy 84 = .ok (.iload_n 2, 1) := by decide +kernel
theorem dX8_copy_85 : decode cX8_copy 85 = .ok (.iload_n 3, 1) := by decide +kernel
theorem dX8_copy_86 : decode cX8_copy 86 = .ok (.iload 4, 2) := by decide +kernel
theorem dX8_copy_88 : decode cX8_copy 88 = .ok (.iload 5, 2) := by decide +kernel
theorem dX8_copy_90 : decode cX8_copy 90 = .ok (.iload 7, 2) := by decide +kernel
theorem dX8_copy_92 : decode cX8_copy 92 = .ok (.invokestatic 162, 3) := by decide +kernel
theorem dX8_copy_95 : decode cX8_copy 95 = .ok (.invokevirtual 170, 3) := by decide +kernel
theorem dX8_copy_98 : decode cX8_copy 98 = .ok (.istore 8, 2) := by decide +kernel
theorem dX8_copy_100 : decode cX8_copy 100 = .ok (.aload_n 0, 1) := by decide +kernel
theorem dX8_copy_101 : decode cX8_copy 101 = .ok (.iload 8, 2) := by decide +kernel
theorem dX8_copy_103 : decode cX8_copy 103 = .ok (.iload 5, 2) := by decide +kernel
theorem dX8_copy_105 : decode cX8_copy 105 = .ok (.if_icmp .ne 7, 3) := by decide +kernel
theorem dX8_copy_108 : decode cX8_copy 108 = .ok (.iconst 0, 1) := by decide +kernel
theorem dX8_copy_109 : decode cX8_copy 109 = .ok (.goto 15, 3) := by decide +kernel
theorem dX8_copy_112 : decode cX8_copy 112 = .ok (.iload 8, 2) := by decide +kernel
theorem dX8_copy_114 : decode cX8_copy 114 = .ok (.iload 7, 2) := by decide +kernel
theorem dX8_copy_116 : decode cX8_copy 116 = .ok (.if_icmp .ne 7, 3) := by decide +kernel
theorem dX8_copy_119 : decode cX8_copy 119 = .ok (.iconst 4, 1) := by decide +kernel
theorem dX8_copy_120 : decode cX8_copy 120 = .ok (.goto 4, 3) := by decide +kernel
theorem dX8_copy_123 : decode cX8_copy 123 = .ok (.iconst 5, 1) := by decide +kernel
theorem dX8_copy_124 : decode cX8_copy 124 = .ok (.invokevirtual 42, 3) := by decide +kernel
theorem dX8_copy_127 : decode cX8_copy 127 = .ok (.pop, 1) := by decide +kernel
theorem dX8_copy_128 : decode cX8_copy 128 = .ok (.aload_n 0, 1) := by decide +kernel
theorem dX8_copy_129 : decode cX8_copy 129 = .ok (.getfield 12, 3) := by decide +kernel
theorem dX8_copy_132 : decode cX8_copy 132 = .ok (.getfield 136, 3) := by decide +kernel
theorem dX8_copy_135 : decode cX8_copy 135 = .ok (.iload_n 3, 1) := by decide +kernel
theorem dX8_copy_136 : decode cX8_copy 136 = .ok (.iload 4, 2) := by decide +kernel
theorem dX8_copy_138 : decode cX8_copy 138 = .ok (.sipush 1440, 3) := by decide +kernel
theorem dX8_copy_141 : decode cX8_copy 141 = .ok (.imul, 1) := by decide +kernel
theorem dX8_copy_142 : decode cX8_copy 142 = .ok (.iload_n 1, 1) := by decide +kernel
theorem dX8_copy_143 : decode cX8_copy 143 = .ok (.iload_n 2, 1) := by decide +kernel
theorem dX8_copy_144 : decode cX8_copy 144 = .ok (.sipush 1440, 3) := by decide +kernel
theorem dX8_copy_147 : decode cX8_copy 147 = .ok (.imul, 1) := by decide +kernel
theorem dX8_copy_148 : decode cX8_copy 148 = .ok (.iload 8, 2) := by decide +kernel
theorem dX8_copy_150 : decode cX8_copy 150 = .ok (.sipush 1440, 3) := by decide +kernel
theorem dX8_copy_153 : decode cX8_copy 153 = .ok (.imul, 1) := by decide +kernel
theorem dX8_copy_154 : decode cX8_copy 154 = .ok (.invokevirtual 174, 3) := by decide +kernel
theorem dX8_copy_157 : decode cX8_copy 157 = .ok (.aload_n 0, 1) := by decide +kernel
theorem dX8_copy_158 : decode cX8_copy 158 = .ok (.getfield 12, 3) := by decide +kernel
theorem dX8_copy_161 : decode cX8_copy 161 = .ok (.iload_n 3, 1) := by decide +kernel
theorem dX8_copy_162 : decode cX8_copy 162 = .ok (.invokevirtual 114, 3) := by decide +kernel
theorem dX8_copy_165 : decode cX8_copy 165 = .ok (.getfield 152, 3) := by decide +kernel
theorem dX8_copy_168 : decode cX8_copy 168 = .ok (.iload 4, 2) := by decide +kernel
theorem dX8_copy_170 : decode cX8_copy 170 = .ok (.aload_n 0, 1) := by decide +kernel
theorem dX8_copy_171 : decode cX8_copy 171 = .ok (.getfield 12, 3) := by decide +kernel
theorem dX8_copy_174 : decode cX8_copy 174 = .ok (.iload_n 1, 1) := by decide +kernel
theorem dX8_copy_175 : decode cX8_copy 175 = .ok (.invokevirtual 114, 3) := by decide +kernel
theorem dX8_copy_178 : decode cX8_copy 178 = .ok (.getfield 152, 3) := by decide +kernel
theorem dX8_copy_181 : decode cX8_copy 181 = .ok (.iload_n 2, 1) := by decide +kernel
theorem dX8_copy_182 : decode cX8_copy 182 = .ok (.iload 8, 2) := by decide +kernel
theorem dX8_copy_184 : decode cX8_copy 184 = .ok (.invokestatic 177, 3) := by decide +kernel
theorem dX8_copy_187 : decode cX8_copy 187 = .ok (.iload 8, 2) := by decide +kernel
theorem dX8_copy_189 : decode cX8_copy 189 = .ok (.ireturn, 1) := by decide +kernel
set_option maxHeartbeats 4000000 in
set_option maxRecDepth 100000 in
theorem g_X8_copy (l : Launch) (G : xG) (S : yS) (d : yD) (q0 : Nat) (p0 : Int32) (p1 : Int32) (p2 : Int32) (p3 : Int32) (p4 : Int32) (hSh : ySh S) (hPo : yPo S d) (hm_q0 : q0 ∈ S.1) (hk_q0 : S.2.1 q0 = 8) : xWi l G yX8_copy cX8_copy 9 (some .int) 4 104 0 0 [.ref q0, .int p0, .int p1, .int p2, .int p3, .int p4] (yW G S d) (fun r (u : yD) => yAg S [2, 8, 16, 17, 20, 24] d u ∧ (yPo S d → yPo S u) ∧ (u.1 q0 4 = d.1 q0 4)) (fun u => yW G S u) := by
  intro sz
  refine xstart (by decide) (Nat.le_of_ble_eq_true rfl) (fun p e s m args below meth c ls C0 hr hlocks hin hsz hP hK hD hN hl => ?_)
  obtain ⟨hx, hb, hml, hown, htl⟩ := id C0
  subst hsz
  have hD := hD.self (sz := s.heap.size)
  generalize hAe : va_A (yW G S d) s.heap.size = A at hD ⊢
  have hA : ∀ q : Nat, s.heap.size ≤ q → A q := fun q h => by rw [← hAe]; exact Or.inr h
  have hS : va_S A s.heap s.heap [] := va_S.rf
  have hg0 : yAg S [2, 8, 16, 17, 20, 24] d d := yAg.rf
  have hl : lv_has ls 9 [(0, .ref q0), (1, .int p0), (2, .int p1), (3, .int p2), (4, .int p3), (5, .int p4)] := hl
  refine lv_aload_n hx hb dX8_copy_0 rfl (lv_at hl 0 rfl) ?_
  refine lv_iload_n hx hb dX8_copy_1 rfl (lv_at hl 1 rfl) ?_
  refine lv_iload_n hx hb dX8_copy_2 rfl (lv_at hl 2 rfl) ?_
  refine yVri (As := [.int p0, .int p1]) (rest := []) C0 (g_X8_dayReason l G S d q0 p0 p1 hSh hm_q0 hk_q0) ok_X8_dayReason (mW442 : Cond.methodLink RX8 149 yX8_dayReason ∈ wsT) ⟨Nat.le_of_ble_eq_true rfl, Nat.le_of_ble_eq_true rfl⟩ hP hD hK hN hm_q0 hk_q0 (by decide) rfl rfl rfl hl.1 rfl (Nat.le_of_ble_eq_true rfl) ⟨Nat.le_of_ble_eq_true rfl, Nat.le_of_ble_eq_true rfl⟩ dX8_copy_3 (fun r_1 hr_1 => ?_)
  refine lv_aload_n hx hb dX8_copy_6 rfl (lv_at hl 0 rfl) ?_
  refine lv_iload_n hx hb dX8_copy_7 rfl (lv_at hl 3 rfl) ?_
  refine lv_iload hx hb dX8_copy_8 (lv_at hl 4 rfl) ?_
  refine yVri (As := [.int p2, .int p3]) (rest := [.int r_1]) C0 (g_X8_dayReason l G S d q0 p2 p3 hSh hm_q0 hk_q0) ok_X8_dayReason (mW442 : Cond.methodLink RX8 149 yX8_dayReason ∈ wsT) ⟨Nat.le_of_ble_eq_true rfl, Nat.le_of_ble_eq_true rfl⟩ hP hD hK hN hm_q0 hk_q0 (by decide) rfl rfl rfl hl.1 rfl (Nat.le_of_ble_eq_true rfl) ⟨Nat.le_of_ble_eq_true rfl, Nat.le_of_ble_eq_true rfl⟩ dX8_copy_10 (fun r_2 hr_2 => ?_)
  refine ySri (As := [.int r_1, .int r_2]) (rest := []) C0 (g_X8_least l G S d r_1 r_2 ) ok_X8_least (mW199 : Cond.methodLink RX8 58 yX8_least ∈ wsT) ⟨Nat.le_of_ble_eq_true rfl, Nat.le_of_ble_eq_true rfl⟩ hP hD hK hN rfl hl.1 rfl (Nat.le_of_ble_eq_true rfl) ⟨Nat.le_of_ble_eq_true rfl, Nat.le_of_ble_eq_true rfl⟩ dX8_copy_13 (fun r_3 hr_3 => ?_)
  refine lv_istore (lv' := [(6, .int r_3), (0, .ref q0), (1, .int p0), (2, .int p1), (3, .int p2), (4, .int p3), (5, .int p4)]) hx hb dX8_copy_16 hl (by decide) rfl (fun ls hl => ?_)
  refine lv_iload hx hb dX8_copy_18 (lv_at hl 0 rfl) ?_
  refine lv_iload hx hb dX8_copy_20 (lv_at hl 6 rfl) ?_
  refine lv_iconst (v := 0) hx hb dX8_copy_22 (by decide) ?_
  refine lv_bipush (v := 90) hx hb dX8_copy_23 (by decide) ?_
  refine ySri (As := [.int p4, .int 0, .int 90]) (rest := [.int r_3]) C0 (g_X8_within l G S d p4 0 90 ) ok_X8_within (mW193 : Cond.methodLink RX8 71 yX8_within ∈ wsT) ⟨Nat.le_of_ble_eq_true rfl, Nat.le_of_ble_eq_true rfl⟩ hP hD hK hN rfl hl.1 rfl (Nat.le_of_ble_eq_true rfl) ⟨Nat.le_of_ble_eq_true rfl, Nat.le_of_ble_eq_true rfl⟩ dX8_copy_25 (fun r_4 hr_4 => ?_)
  refine ySri (As := [.int r_4]) (rest := [.int r_3]) C0 (g_X8_number l G S d r_4 ) ok_X8_number (mW196 : Cond.methodLink RX8 54 yX8_number ∈ wsT) ⟨Nat.le_of_ble_eq_true rfl, Nat.le_of_ble_eq_true rfl⟩ hP hD hK hN rfl hl.1 rfl (Nat.le_of_ble_eq_true rfl) ⟨Nat.le_of_ble_eq_true rfl, Nat.le_of_ble_eq_true rfl⟩ dX8_copy_28 (fun r_5 hr_5 => ?_)
  refine ySri (As := [.int r_3, .int r_5]) (rest := []) C0 (g_X8_least l G S d r_3 r_5 ) ok_X8_least (mW199 : Cond.methodLink RX8 58 yX8_least ∈ wsT) ⟨Nat.le_of_ble_eq_true rfl, Nat.le_of_ble_eq_true rfl⟩ hP hD hK hN rfl hl.1 rfl (Nat.le_of_ble_eq_true rfl) ⟨Nat.le_of_ble_eq_true rfl, Nat.le_of_ble_eq_true rfl⟩ dX8_copy_31 (fun r_6 hr_6 => ?_)
  refine lv_istore (lv' := [(6, .int r_6), (0, .ref q0), (1, .int p0), (2, .int p1), (3, .int p2), (4, .int p3), (5, .int p4)]) hx hb dX8_copy_34 hl (by decide) rfl (fun ls hl => ?_)
  refine lv_iload hx hb dX8_copy_36 (lv_at hl 0 rfl) ?_
  refine lv_if_eq (tgt := 50) hx hb dX8_copy_38 (by decide) (fun c_7 => ?_) (fun c_7 => ?_)
  · refine lv_aload_n hx hb dX8_copy_50 rfl (lv_at hl 1 rfl) ?_
    refine yget (ci := 8) (k := 0) (v := .ref (S.2.2.1 q0 0)) (C := RX8) (T := TX8) (N := 6) C0 hK hP hm_q0 hk_q0 (by decide) rfl inlX8 (by decide) mW16 (fun _ h9 => h9) rfl dX8_copy_51 ?_
    obtain ⟨hmy_8, hky_8⟩ := ySh.f8_0 hSh _ hm_q0 hk_q0
    refine lv_iload_n hx hb dX8_copy_54 rfl (lv_at hl 2 rfl) ?_
    refine yVrr (As := [.int p0]) (rest := []) C0 (g_X0_portAt l G S d (S.2.2.1 q0 0) p0 hSh hmy_8 hky_8) ok_X0_portAt (mW337 : Cond.methodLink RX8 114 yX0_portAt ∈ wsT) ⟨Nat.le_of_ble_eq_true rfl, Nat.le_of_ble_eq_true rfl⟩ hP hD hK hN hmy_8 hky_8 (by decide) rfl rfl rfl hl.1 rfl (Nat.le_of_ble_eq_true rfl) ⟨Nat.le_of_ble_eq_true rfl, Nat.le_of_ble_eq_true rfl⟩ dX8_copy_55 (fun r_9 hr_9 => ?_)
    obtain ⟨hmr_9, hkr_9, her_9⟩ := hr_9
    refine yget (ci := 4) (k := 2) (v := .int (d.1 r_9 2)) (C := RX4) (T := TX4) (N := 11) C0 hK hP hmr_9 hkr_9 (by decide) rfl inlX4 (by decide) mW378 (fun _ h9 => h9) rfl dX8_copy_58 ?_
    refine lv_topi (fun z_10 ez_10 => ?_)
    refine lv_iload_n hx hb dX8_copy_61 rfl (lv_at hl 3 rfl) ?_
    refine lv_isub hx hb dX8_copy_62 ?_
    refine lv_topi (fun z_11 ez_11 => ?_)
    refine lv_aload_n hx hb dX8_copy_63 rfl (lv_at hl 1 rfl) ?_
    refine yget (ci := 8) (k := 0) (v := .ref (S.2.2.1 q0 0)) (C := RX8) (T := TX8) (N := 6) C0 hK hP hm_q0 hk_q0 (by decide) rfl inlX8 (by decide) mW16 (fun _ h9 => h9) rfl dX8_copy_64 ?_
    refine lv_iload_n hx hb dX8_copy_67 rfl (lv_at hl 4 rfl) ?_
    refine yVrr (As := [.int p2]) (rest := [.int z_11]) C0 (g_X0_portAt l G S d (S.2.2.1 q0 0) p2 hSh hmy_8 hky_8) ok_X0_portAt (mW337 : Cond.methodLink RX8 114 yX0_portAt ∈ wsT) ⟨Nat.le_of_ble_eq_true rfl, Nat.le_of_ble_eq_true rfl⟩ hP hD hK hN hmy_8 hky_8 (by decide) rfl rfl rfl hl.1 rfl (Nat.le_of_ble_eq_true rfl) ⟨Nat.le_of_ble_eq_true rfl, Nat.le_of_ble_eq_true rfl⟩ dX8_copy_68 (fun r_12 hr_12 => ?_)
    obtain ⟨hmr_12, hkr_12, her_12⟩ := hr_12
    refine yget (ci := 4) (k := 2) (v := .int (d.1 r_12 2)) (C := RX4) (T := TX4) (N := 11) C0 hK hP hmr_12 hkr_12 (by decide) rfl inlX4 (by decide) mW378 (fun _ h9 => h9) rfl dX8_copy_71 ?_
    refine lv_topi (fun z_13 ez_13 => ?_)
    refine lv_iload hx hb dX8_copy_74 (lv_at hl 5 rfl) ?_
    refine lv_isub hx hb dX8_copy_76 ?_
    refine lv_topi (fun z_14 ez_14 => ?_)
    refine va_mmin hx hb (by rw [hml]; exact hl.1.symm) hown (htl (.methodLink RX8 162 Lib.Math.min.name) mW202) (htl (.static Lib.Math.min.name) mW203) (htl (.initialized "java/lang/Math") mW204) (htl (.code Lib.Math.min.name Lib.Math.min.code 2 (some .int)) mW205) (Nat.le_of_ble_eq_true rfl) (Nat.le_of_ble_eq_true rfl) (Nat.le_of_ble_eq_true rfl) (Nat.le_of_ble_eq_true rfl) dX8_copy_77 ?_
    refine lv_topi (fun z_15 ez_15 => ?_)
    refine lv_istore (lv' := [(7, .int z_15), (6, .int r_6), (0, .ref q0), (1, .int p0), (2, .int p1), (3, .int p2), (4, .int p3), (5, .int p4)]) hx hb dX8_copy_80 hl (by decide) rfl (fun ls hl => ?_)
    refine lv_aload_n hx hb dX8_copy_82 rfl (lv_at hl 2 rfl) ?_
    refine lv_iload_n hx hb dX8_copy_83 rfl (lv_at hl 3 rfl) ?_
    refine lv_iload_n hx hb dX8_copy_84 rfl (lv_at hl 4 rfl) ?_
    refine lv_iload_n hx hb dX8_copy_85 rfl (lv_at hl 5 rfl) ?_
    refine lv_iload hx hb dX8_copy_86 (lv_at hl 6 rfl) ?_
    refine lv_iload hx hb dX8_copy_88 (lv_at hl 7 rfl) ?_
    refine lv_iload hx hb dX8_copy_90 (lv_at hl 0 rfl) ?_
    refine va_mmin hx hb (by rw [hml]; exact hl.1.symm) hown (htl (.methodLink RX8 162 Lib.Math.min.name) mW202) (htl (.static Lib.Math.min.name) mW203) (htl (.initialized "java/lang/Math") mW204) (htl (.code Lib.Math.min.name Lib.Math.min.code 2 (some .int)) mW205) (Nat.le_of_ble_eq_true rfl) (Nat.le_of_ble_eq_true rfl) (Nat.le_of_ble_eq_true rfl) (Nat.le_of_ble_eq_true rfl) dX8_copy_92 ?_
    refine lv_topi (fun z_16 ez_16 => ?_)
    refine yVri (As := [.int p0, .int p1, .int p2, .int p3, .int z_16]) (rest := []) C0 (g_X8_daysThatFit l G S d q0 p0 p1 p2 p3 z_16 hSh hm_q0 hk_q0) ok_X8_daysThatFit (mW470 : Cond.methodLink RX8 170 yX8_daysThatFit ∈ wsT) ⟨Nat.le_of_ble_eq_true rfl, Nat.le_of_ble_eq_true rfl⟩ hP hD hK hN hm_q0 hk_q0 (by decide) rfl rfl rfl hl.1 rfl (Nat.le_of_ble_eq_true rfl) ⟨Nat.le_of_ble_eq_true rfl, Nat.le_of_ble_eq_true rfl⟩ dX8_copy_95 (fun r_17 hr_17 => ?_)
    refine lv_istore (lv' := [(8, .int r_17), (7, .int z_15), (6, .int r_6), (0, .ref q0), (1, .int p0), (2, .int p1), (3, .int p2), (4, .int p3), (5, .int p4)]) hx hb dX8_copy_98 hl (by decide) rfl (fun ls hl => ?_)
    refine lv_aload_n hx hb dX8_copy_100 rfl (lv_at hl 3 rfl) ?_
    refine lv_iload hx hb dX8_copy_101 (lv_at hl 0 rfl) ?_
    refine lv_iload hx hb dX8_copy_103 (lv_at hl 8 rfl) ?_
    refine yjoinR (σ := Int32) 124 (fun x ls st => st = [.int x, .ref q0] ∧ lv_has ls 9 [(8, .int r_17), (0, .ref q0), (1, .int p0), (2, .int p1), (3, .int p2), (4, .int p3)]) (fun x ls st hI => ?_) (fun J124_18 => ?_)
    · obtain ⟨v_18, rfl⟩ : ∃ z, z = x := ⟨_, rfl⟩
      obtain ⟨rfl, hl⟩ := hI
      have hl : lv_has ls 9 [(8, .int r_17), (0, .ref q0), (1, .int p0), (2, .int p1), (3, .int p2), (4, .int p3)] := hl
      refine yVwi (As := [.int v_18]) (rest := []) C0 (g_X8_refused l G S d q0 v_18 hSh hPo hm_q0 hk_q0) ok_X8_refused (mW160 : Cond.methodLink RX8 42 yX8_refused ∈ wsT) ⟨Nat.le_of_ble_eq_true rfl, Nat.le_of_ble_eq_true rfl⟩ hP hD hS hA hK hN hm_q0 hk_q0 (by decide) rfl rfl rfl hl.1 rfl (Nat.le_of_ble_eq_true rfl) ⟨Nat.le_of_ble_eq_true rfl, Nat.le_of_ble_eq_true rfl⟩ dX8_copy_124 (fun r_19 d_20 H locs hr_19 hP hD hS => ?_)
      obtain ⟨hgad_20, hpad_20, hxd_20⟩ := hr_19
      have hgd_20 : yAg S [2, 8, 16, 17, 20, 24] d d_20 := yAg.tr hg0 hgad_20 (by first | decide | exact fun _ h => h)
      have hPod_20 : yPo S d_20 := hpad_20 hPo
      refine lv_pop hx hb dX8_copy_127 rfl ?_
      refine lv_aload_n hx hb dX8_copy_128 rfl (lv_at hl 1 rfl) ?_
      refine yget (ci := 8) (k := 0) (v := .ref (S.2.2.1 q0 0)) (C := RX8) (T := TX8) (N := 6) C0 hK hP hm_q0 hk_q0 (by decide) rfl inlX8 (by decide) mW16 (fun _ h9 => h9) rfl dX8_copy_129 ?_
      refine yget (ci := 0) (k := 1) (v := .ref (S.2.2.1 (S.2.2.1 q0 0) 1)) (C := RX0) (T := TX0) (N := 6) C0 hK hP hmy_8 hky_8 (by decide) rfl inlX0 (by decide) mW316 (fun _ h9 => h9) rfl dX8_copy_132 ?_
      obtain ⟨hmy_21, hky_21⟩ := ySh.f0_1 hSh _ hmy_8 hky_8
      refine lv_iload_n hx hb dX8_copy_135 rfl (lv_at hl 4 rfl) ?_
      refine lv_iload hx hb dX8_copy_136 (lv_at hl 5 rfl) ?_
      refine lv_sipush (v := 1440) hx hb dX8_copy_138 (by decide) ?_
      refine lv_imul hx hb dX8_copy_141 ?_
      refine lv_topi (fun z_22 ez_22 => ?_)
      refine lv_iload_n hx hb dX8_copy_142 rfl (lv_at hl 2 rfl) ?_
      refine lv_iload_n hx hb dX8_copy_143 rfl (lv_at hl 3 rfl) ?_
      refine lv_sipush (v := 1440) hx hb dX8_copy_144 (by decide) ?_
      refine lv_imul hx hb dX8_copy_147 ?_
      refine lv_topi (fun z_23 ez_23 => ?_)
      refine lv_iload hx hb dX8_copy_148 (lv_at hl 0 rfl) ?_
      refine lv_sipush (v := 1440) hx hb dX8_copy_150 (by decide) ?_
      refine lv_imul hx hb dX8_copy_153 ?_
      refine lv_topi (fun z_24 ez_24 => ?_)
      refine yVwv (As := [.int p2, .int z_22, .int p0, .int z_23, .int z_24]) (rest := []) C0 (g_X2_copyRange l G S d_20 (S.2.2.1 (S.2.2.1 q0 0) 1) p2 z_22 p0 z_23 z_24 hSh hPod_20 hmy_21 hky_21) ok_X2_copyRange (mW478 : Cond.methodLink RX8 174 yX2_copyRange ∈ wsT) ⟨Nat.le_of_ble_eq_true rfl, Nat.le_of_ble_eq_true rfl⟩ hP hD hS hA hK hN hmy_21 hky_21 (by decide) rfl rfl rfl hl.1 rfl (Nat.le_of_ble_eq_true rfl) ⟨Nat.le_of_ble_eq_true rfl, Nat.le_of_ble_eq_true rfl⟩ dX8_copy_154 (fun d_26 H locs hr_25 hP hD hS => ?_)
      obtain ⟨hgad_26, hpad_26, hxd_26⟩ := hr_25
      have hgd_26 : yAg S [2, 8, 16, 17, 20, 24] d d_26 := yAg.tr hgd_20 hgad_26 (by first | decide | exact fun _ h => h)
      have hPod_26 : yPo S d_26 := hpad_26 hPod_20
      refine lv_aload_n hx hb dX8_copy_157 rfl (lv_at hl 1 rfl) ?_
      refine yget (ci := 8) (k := 0) (v := .ref (S.2.2.1 q0 0)) (C := RX8) (T := TX8) (N := 6) C0 hK hP hm_q0 hk_q0 (by decide) rfl inlX8 (by decide) mW16 (fun _ h9 => h9) rfl dX8_copy_158 ?_
      refine lv_iload_n hx hb dX8_copy_161 rfl (lv_at hl 4 rfl) ?_
      refine yVrr (As := [.int p2]) (rest := []) C0 (g_X0_portAt l G S d_26 (S.2.2.1 q0 0) p2 hSh hmy_8 hky_8) ok_X0_portAt (mW337 : Cond.methodLink RX8 114 yX0_portAt ∈ wsT) ⟨Nat.le_of_ble_eq_true rfl, Nat.le_of_ble_eq_true rfl⟩ hP hD hK hN hmy_8 hky_8 (by decide) rfl rfl rfl hl.1 rfl (Nat.le_of_ble_eq_true rfl) ⟨Nat.le_of_ble_eq_true rfl, Nat.le_of_ble_eq_true rfl⟩ dX8_copy_162 (fun r_27 hr_27 => ?_)
      obtain ⟨hmr_27, hkr_27, her_27⟩ := hr_27
      refine yget (ci := 4) (k := 0) (v := .ref (S.2.2.1 r_27 0)) (C := RX4) (T := TX4) (N := 11) C0 hK hP hmr_27 hkr_27 (by decide) rfl inlX4 (by decide) mW441 (fun _ h9 => h9) rfl dX8_copy_165 ?_
      obtain ⟨hmy_28, hky_28⟩ := ySh.f4_0 hSh _ hmr_27 hkr_27
      refine lv_iload hx hb dX8_copy_168 (lv_at hl 5 rfl) ?_
      refine lv_aload_n hx hb dX8_copy_170 rfl (lv_at hl 1 rfl) ?_
      refine yget (ci := 8) (k := 0) (v := .ref (S.2.2.1 q0 0)) (C := RX8) (T := TX8) (N := 6) C0 hK hP hm_q0 hk_q0 (by decide) rfl inlX8 (by decide) mW16 (fun _ h9 => h9) rfl dX8_copy_171 ?_
      refine lv_iload_n hx hb dX8_copy_174 rfl (lv_at hl 2 rfl) ?_
      refine yVrr (As := [.int p0]) (rest := [.int p3, .ref (S.2.2.1 r_27 0)]) C0 (g_X0_portAt l G S d_26 (S.2.2.1 q0 0) p0 hSh hmy_8 hky_8) ok_X0_portAt (mW337 : Cond.methodLink RX8 114 yX0_portAt ∈ wsT) ⟨Nat.le_of_ble_eq_true rfl, Nat.le_of_ble_eq_true rfl⟩ hP hD hK hN hmy_8 hky_8 (by decide) rfl rfl rfl hl.1 rfl (Nat.le_of_ble_eq_true rfl) ⟨Nat.le_of_ble_eq_true rfl, Nat.le_of_ble_eq_true rfl⟩ dX8_copy_175 (fun r_29 hr_29 => ?_)
      obtain ⟨hmr_29, hkr_29, her_29⟩ := hr_29
      refine yget (ci := 4) (k := 0) (v := .ref (S.2.2.1 r_29 0)) (C := RX4) (T := TX4) (N := 11) C0 hK hP hmr_29 hkr_29 (by decide) rfl inlX4 (by decide) mW441 (fun _ h9 => h9) rfl dX8_copy_178 ?_
      obtain ⟨hmy_30, hky_30⟩ := ySh.f4_0 hSh _ hmr_29 hkr_29
      refine lv_iload_n hx hb dX8_copy_181 rfl (lv_at hl 3 rfl) ?_
      refine lv_iload hx hb dX8_copy_182 (lv_at hl 0 rfl) ?_
      refine ySwv (As := [.ref (S.2.2.1 r_27 0), .int p3, .ref (S.2.2.1 r_29 0), .int p1, .int r_17]) (rest := []) C0 (g_X8_slide l G S d_26 (S.2.2.1 r_27 0) 20 p3 (S.2.2.1 r_29 0) 20 p1 r_17 hPod_26 hmy_28 hky_28 hmy_30 hky_30 (by decide) rfl rfl (by decide) (by decide) rfl rfl (by decide)) ok_X8_slide (mW484 : Cond.methodLink RX8 177 yX8_slide ∈ wsT) ⟨Nat.le_of_ble_eq_true rfl, Nat.le_of_ble_eq_true rfl⟩ hP hD hS hA hK hN rfl hl.1 rfl (Nat.le_of_ble_eq_true rfl) ⟨Nat.le_of_ble_eq_true rfl, Nat.le_of_ble_eq_true rfl⟩ dX8_copy_184 (fun d_32 H locs hr_31 hP hD hS => ?_)
      obtain ⟨hgad_32, hpad_32, hxd_32⟩ := hr_31
      have hgd_32 : yAg S [2, 8, 16, 17, 20, 24] d d_32 := yAg.tr hgd_26 hgad_32 (by first | decide | exact fun _ h => h)
      have hPod_32 : yPo S d_32 := hpad_32 hPod_26
      refine lv_iload hx hb dX8_copy_187 (lv_at hl 0 rfl) ?_
      exact W.iret (v := r_17) hx hb hr (fun t ht hW => ⟨⟨r_17, d_32, rfl, ⟨hgd_32, (fun _ => hPod_32), ((congrFun (hgad_32 q0 (by rw [hk_q0]; decide)).1 4).trans ((congrFun (hgad_26 q0 (by rw [hk_q0]; decide)).1 4).trans (hxd_20.2)))⟩, by rw [ht]; exact hP, hD⟩, hS.F ht⟩) hS.2.2 dX8_copy_189
    refine lv_icmp_ne (tgt := 112) hx hb dX8_copy_105 (by decide) (fun c_33 => ?_) (fun c_33 => ?_)
    · refine lv_iload hx hb dX8_copy_112 (lv_at hl 0 rfl) ?_
      refine lv_iload hx hb dX8_copy_114 (lv_at hl 1 rfl) ?_
      refine lv_icmp_ne (tgt := 123) hx hb dX8_copy_116 (by decide) (fun c_34 => ?_) (fun c_34 => ?_)
      · refine lv_iconst (v := 5) hx hb dX8_copy_123 (by decide) ?_
        exact J124_18 5 ls _ ⟨rfl, lv_sub hl [0, 3, 4, 5, 6, 7] rfl⟩
      · refine lv_iconst (v := 4) hx hb dX8_copy_119 (by decide) ?_
        refine lv_goto (tgt := 124) hx hb dX8_copy_120 (by decide) ?_
        exact J124_18 4 ls _ ⟨rfl, lv_sub hl [0, 3, 4, 5, 6, 7] rfl⟩
    · refine lv_iconst (v := 0) hx hb dX8_copy_108 (by decide) ?_
      refine lv_goto (tgt := 124) hx hb dX8_copy_109 (by decide) ?_
      exact J124_18 0 ls _ ⟨rfl, lv_sub hl [0, 3, 4, 5, 6, 7] rfl⟩
  · refine lv_aload_n hx hb dX8_copy_41 rfl (lv_at hl 1 rfl) ?_
    refine lv_iload hx hb dX8_copy_42 (lv_at hl 0 rfl) ?_
    refine yVwi (As := [.int r_6]) (rest := []) C0 (g_X8_refused l G S d q0 r_6 hSh hPo hm_q0 hk_q0) ok_X8_refused (mW160 : Cond.methodLink RX8 42 yX8_refused ∈ wsT) ⟨Nat.le_of_ble_eq_true rfl, Nat.le_of_ble_eq_true rfl⟩ hP hD hS hA hK hN hm_q0 hk_q0 (by decide) rfl rfl rfl hl.1 rfl (Nat.le_of_ble_eq_true rfl) ⟨Nat.le_of_ble_eq_true rfl, Nat.le_of_ble_eq_true rfl⟩ dX8_copy_44 (fun r_35 d_36 H locs hr_35 hP hD hS => ?_)
    obtain ⟨hgad_36, hpad_36, hxd_36⟩ := hr_35
    have hgd_36 : yAg S [2, 8, 16, 17, 20, 24] d d_36 := yAg.tr hg0 hgad_36 (by first | decide | exact fun _ h => h)
    have hPod_36 : yPo S d_36 := hpad_36 hPo
    refine lv_pop hx hb dX8_copy_47 rfl ?_
    refine lv_iconst (v := (-1)) hx hb dX8_copy_48 (by decide) ?_
    exact W.iret (v := (-1)) hx hb hr (fun t ht hW => ⟨⟨(-1), d_36, rfl, ⟨hgd_36, (fun _ => hPod_36), (hxd_36.2)⟩, by rw [ht]; exact hP, hD⟩, hS.F ht⟩) hS.2.2 dX8_copy_49
theorem dX8_free_0 : decode cX8_free 0 = .ok (.aload_n 0, 1) := by decide +kernel
theorem dX8_free_1 : decode cX8_free 1 = .ok (.aload_n 0, 1) := by decide +kernel
theorem dX8_free_2 : decode cX8_free 2 = .ok (.iload_n 1, 1) := by decide +kernel
theorem dX8_free_3 : decode cX8_free 3 = .ok (.iload_n 2, 1) := by decide +kernel
theorem dX8_free_4 : decode cX8_free 4 = .ok (.invokevirtual 159, 3) := by decide +kernel
theorem dX8_free_7 : decode cX8_free 7 = .ok (.invokevirtual 42, 3) := by decide +kernel
theorem dX8_free_10 : decode cX8_free 10 = .ok (.ifCond .eq 5, 3) := by decide +kernel
theorem dX8_free_13 : decode cX8_free 13 = .ok (.iconst 0, 1) := by decide +kernel
theorem dX8_free_14 : decode cX8_free 14 = .ok (.ireturn, 1) := by decide +kernel
theorem dX8_free_15 : decode cX8_free 15 = .ok (.aload_n 0, 1) := by decide +kernel
theorem dX8_free_16 : decode cX8_free 16 = .ok (.getfield 12, 3) := by decide +kernel
theorem dX8_free_19 : decode cX8_free 19 = .ok (.iload_n 1, 1) := by decide +kernel
theorem dX8_free_20 : decode cX8_free 20 = .ok (.invokevirtual 114, 3) := by decide +kernel
theorem dX8_free_23 : decode cX8_free 23 = .ok (.getfield 181, 3) := by decide +kernel
theorem dX8_free_26 : decode cX8_free 26 = .ok (.iload_n 2, 1) := by decide +kernel
theorem dX8_free_27 : decode cX8_free 27 = .ok (.invokestatic 78, 3) := by decide +kernel
theorem dX8_free_30 : decode cX8_free 30 = .ok (.iconst 1, 1) := by decide +kernel
theorem dX8_free_31 : decode cX8_free 31 = .ok (.if_icmp .ne 7, 3) := by decide +kernel
theorem dX8_free_34 : decode cX8_free 34 = .ok (.iconst 1, 1) := by decide +kernel
theorem dX8_free_35 : decode cX8_free 35 = .ok (.goto 4, 3) := by decide +kernel
theorem dX8_free_38 : decode cX8_free 38 = .ok (.iconst 0, 1) := by decide +kernel
theorem dX8_free_39 : decode cX8_free 39 = .ok (.istore 4, 2) := by decide +kernel
theorem dX8_free_41 : decode cX8_free 41 = .ok (.aload_n 0, 1) := by decide +kernel
theorem dX8_free_42 : decode cX8_free 42 = .ok (.getfield 12, 3) := by decide +kernel
theorem dX8_free_45 : decode cX8_free 45 = .ok (.iload_n 1, 1) := by decide +kernel
theorem dX8_free_46 : decode cX8_free 46 = .ok (.invokevirtual 114, 3) := by decide +kernel
theorem dX8_free_49 : decode cX8_free 49 = .ok (.getfield 181, 3) := by decide +kernel
theorem dX8_free_52 : decode cX8_free 52 = .ok (.iload_n 2, 1) := by decide +kernel
theorem dX8_free_53 : decode cX8_free 53 = .ok (.iload_n 3, 1) := by decide +kernel
theorem dX8_free_54 : decode cX8_free 54 = .ok (.ifCond .eq 7, 3) := by decide +kernel
theorem dX8_free_57 : decode cX8_free 57 = .ok (.iconst 1, 1) := by decide +kernel
theorem dX8_free_58 : decode cX8_free 58 = .ok (.goto 4, 3) := by decide +kernel
theorem dX8_free_61 : decode cX8_free 61 = .ok (.iconst 0, 1) := by decide +kernel
theorem dX8_free_62 : decode cX8_free 62 = .ok (.invokestatic 82, 3) := by decide +kernel
theorem dX8_free_65 : decode cX8_free 65 = .ok (.iload 4, 2) := by decide +kernel
theorem dX8_free_67 : decode cX8_free 67 = .ok (.ireturn, 1) := by decide +kernel
set_option maxHeartbeats 4000000 in
set_option maxRecDepth 100000 in
theorem g_X8_free (l : Launch) (G : xG) (S : yS) (d : yD) (q0 : Nat) (p0 : Int32) (p1 : Int32) (p2 : Int32) (hSh : ySh S) (hPo : yPo S d) (hm_q0 : q0 ∈ S.1) (hk_q0 : S.2.1 q0 = 8) (hz_p2 : p2 = 0 ∨ p2 = 1) : xWi l G yX8_free cX8_free 5 (some .boolean) 4 89 0 0 [.ref q0, .int p0, .int p1, .int p2] (yW G S d) (fun r (u : yD) => yAg S [8, 21, 24] d u ∧ (yPo S d → yPo S u) ∧ (u.1 q0 4 = d.1 q0 4)) (fun u => yW G S u) := by
  intro sz
  refine xstart (by decide) (Nat.le_of_ble_eq_true rfl) (fun p e s m args below meth c ls C0 hr hlocks hin hsz hP hK hD hN hl => ?_)
  obtain ⟨hx, hb, hml, hown, htl⟩ := id C0
  subst hsz
  have hD := hD.self (sz := s.heap.size)
  generalize hAe : va_A (yW G S d) s.heap.size = A at hD ⊢
  have hA : ∀ q : Nat, s.heap.size ≤ q → A q := fun q h => by rw [← hAe]; exact Or.inr h
  have hS : va_S A s.heap s.heap [] := va_S.rf
  have hg0 : yAg S [8, 21, 24] d d := yAg.rf
  have hl : lv_has ls 5 [(0, .ref q0), (1, .int p0), (2, .int p1), (3, .int p2)] := hl
  refine lv_aload_n hx hb dX8_free_0 rfl (lv_at hl 0 rfl) ?_
  refine lv_aload_n hx hb dX8_free_1 rfl (lv_at hl 0 rfl) ?_
  refine lv_iload_n hx hb dX8_free_2 rfl (lv_at hl 1 rfl) ?_
  refine lv_iload_n hx hb dX8_free_3 rfl (lv_at hl 2 rfl) ?_
  refine yVri (As := [.int p0, .int p1]) (rest := [.ref q0]) C0 (g_X8_thereReason l G S d q0 p0 p1 hSh hm_q0 hk_q0) ok_X8_thereReason (mW458 : Cond.methodLink RX8 159 yX8_thereReason ∈ wsT) ⟨Nat.le_of_ble_eq_true rfl, Nat.le_of_ble_eq_true rfl⟩ hP hD hK hN hm_q0 hk_q0 (by decide) rfl rfl rfl hl.1 rfl (Nat.le_of_ble_eq_true rfl) ⟨Nat.le_of_ble_eq_true rfl, Nat.le_of_ble_eq_true rfl⟩ dX8_free_4 (fun r_1 hr_1 => ?_)
  refine yVwi (As := [.int r_1]) (rest := []) C0 (g_X8_refused l G S d q0 r_1 hSh hPo hm_q0 hk_q0) ok_X8_refused (mW160 : Cond.methodLink RX8 42 yX8_refused ∈ wsT) ⟨Nat.le_of_ble_eq_true rfl, Nat.le_of_ble_eq_true rfl⟩ hP hD hS hA hK hN hm_q0 hk_q0 (by decide) rfl rfl rfl hl.1 rfl (Nat.le_of_ble_eq_true rfl) ⟨Nat.le_of_ble_eq_true rfl, Nat.le_of_ble_eq_true rfl⟩ dX8_free_7 (fun r_2 d_3 H locs hr_2 hP hD hS => ?_)
  obtain ⟨hgad_3, hpad_3, hxd_3⟩ := hr_2
  have hgd_3 : yAg S [8, 21, 24] d d_3 := yAg.tr hg0 hgad_3 (by first | decide | exact fun _ h => h)
  have hPod_3 : yPo S d_3 := hpad_3 hPo
  refine lv_if_eq (tgt := 15) hx hb dX8_free_10 (by decide) (fun c_4 => ?_) (fun c_4 => ?_)
  · refine lv_aload_n hx hb dX8_free_15 rfl (lv_at hl 0 rfl) ?_
    refine yget (ci := 8) (k := 0) (v := .ref (S.2.2.1 q0 0)) (C := RX8) (T := TX8) (N := 6) C0 hK hP hm_q0 hk_q0 (by decide) rfl inlX8 (by decide) mW16 (fun _ h9 => h9) rfl dX8_free_16 ?_
    obtain ⟨hmy_5, hky_5⟩ := ySh.f8_0 hSh _ hm_q0 hk_q0
    refine lv_iload_n hx hb dX8_free_19 rfl (lv_at hl 1 rfl) ?_
    refine yVrr (As := [.int p0]) (rest := []) C0 (g_X0_portAt l G S d_3 (S.2.2.1 q0 0) p0 hSh hmy_5 hky_5) ok_X0_portAt (mW337 : Cond.methodLink RX8 114 yX0_portAt ∈ wsT) ⟨Nat.le_of_ble_eq_true rfl, Nat.le_of_ble_eq_true rfl⟩ hP hD hK hN hmy_5 hky_5 (by decide) rfl rfl rfl hl.1 rfl (Nat.le_of_ble_eq_true rfl) ⟨Nat.le_of_ble_eq_true rfl, Nat.le_of_ble_eq_true rfl⟩ dX8_free_20 (fun r_6 hr_6 => ?_)
    obtain ⟨hmr_6, hkr_6, her_6⟩ := hr_6
    refine yget (ci := 4) (k := 1) (v := .ref (S.2.2.1 r_6 1)) (C := RX4) (T := TX4) (N := 11) C0 hK hP hmr_6 hkr_6 (by decide) rfl inlX4 (by decide) mW497 (fun _ h9 => h9) rfl dX8_free_23 ?_
    obtain ⟨hmy_7, hky_7⟩ := ySh.f4_1 hSh _ hmr_6 hkr_6
    refine lv_iload_n hx hb dX8_free_26 rfl (lv_at hl 2 rfl) ?_
    refine ySri (As := [.ref (S.2.2.1 r_6 1), .int p1]) (rest := []) C0 (g_X8_at l G S d_3 (S.2.2.1 r_6 1) 21 p1 hmy_7 hky_7 (by decide) rfl rfl (by decide)) ok_X8_at (mW165 : Cond.methodLink RX8 78 yX8_at ∈ wsT) ⟨Nat.le_of_ble_eq_true rfl, Nat.le_of_ble_eq_true rfl⟩ hP hD hK hN rfl hl.1 rfl (Nat.le_of_ble_eq_true rfl) ⟨Nat.le_of_ble_eq_true rfl, Nat.le_of_ble_eq_true rfl⟩ dX8_free_27 (fun r_8 hr_8 => ?_)
    refine lv_iconst (v := 1) hx hb dX8_free_30 (by decide) ?_
    refine yjoinR (σ := Int32) 39 (fun x ls st => st = [.int x] ∧ lv_has ls 5 [(0, .ref q0), (1, .int p0), (2, .int p1), (3, .int p2)] ∧ (x = 0 ∨ x = 1)) (fun x ls st hI => ?_) (fun J39_9 => ?_)
    · obtain ⟨v_9, rfl⟩ : ∃ z, z = x := ⟨_, rfl⟩
      obtain ⟨rfl, hl, hzv_9⟩ := hI
      have hl : lv_has ls 5 [(0, .ref q0), (1, .int p0), (2, .int p1), (3, .int p2)] := hl
      refine lv_istore (lv' := [(4, .int v_9), (0, .ref q0), (1, .int p0), (2, .int p1), (3, .int p2)]) hx hb dX8_free_39 hl (by decide) rfl (fun ls hl => ?_)
      refine lv_aload_n hx hb dX8_free_41 rfl (lv_at hl 1 rfl) ?_
      refine yget (ci := 8) (k := 0) (v := .ref (S.2.2.1 q0 0)) (C := RX8) (T := TX8) (N := 6) C0 hK hP hm_q0 hk_q0 (by decide) rfl inlX8 (by decide) mW16 (fun _ h9 => h9) rfl dX8_free_42 ?_
      refine lv_iload_n hx hb dX8_free_45 rfl (lv_at hl 2 rfl) ?_
      refine yVrr (As := [.int p0]) (rest := []) C0 (g_X0_portAt l G S d_3 (S.2.2.1 q0 0) p0 hSh hmy_5 hky_5) ok_X0_portAt (mW337 : Cond.methodLink RX8 114 yX0_portAt ∈ wsT) ⟨Nat.le_of_ble_eq_true rfl, Nat.le_of_ble_eq_true rfl⟩ hP hD hK hN hmy_5 hky_5 (by decide) rfl rfl rfl hl.1 rfl (Nat.le_of_ble_eq_true rfl) ⟨Nat.le_of_ble_eq_true rfl, Nat.le_of_ble_eq_true rfl⟩ dX8_free_46 (fun r_10 hr_10 => ?_)
      obtain ⟨hmr_10, hkr_10, her_10⟩ := hr_10
      refine yget (ci := 4) (k := 1) (v := .ref (S.2.2.1 r_10 1)) (C := RX4) (T := TX4) (N := 11) C0 hK hP hmr_10 hkr_10 (by decide) rfl inlX4 (by decide) mW497 (fun _ h9 => h9) rfl dX8_free_49 ?_
      obtain ⟨hmy_11, hky_11⟩ := ySh.f4_1 hSh _ hmr_10 hkr_10
      refine lv_iload_n hx hb dX8_free_52 rfl (lv_at hl 3 rfl) ?_
      refine lv_iload_n hx hb dX8_free_53 rfl (lv_at hl 4 rfl) ?_
      refine lv_if_eq (tgt := 61) hx hb dX8_free_54 (by decide) (fun c_12 => ?_) (fun c_12 => ?_)
      · refine lv_iconst (v := 0) hx hb dX8_free_61 (by decide) ?_
        refine ySwv (As := [.ref (S.2.2.1 r_10 1), .int p1, .int 0]) (rest := []) C0 (g_X8_put l G S d_3 (S.2.2.1 r_10 1) 21 p1 0 hPod_3 hmy_11 hky_11 (by decide) rfl rfl (by decide)) ok_X8_put (mW168 : Cond.methodLink RX8 82 yX8_put ∈ wsT) ⟨Nat.le_of_ble_eq_true rfl, Nat.le_of_ble_eq_true rfl⟩ hP hD hS hA hK hN rfl hl.1 rfl (Nat.le_of_ble_eq_true rfl) ⟨Nat.le_of_ble_eq_true rfl, Nat.le_of_ble_eq_true rfl⟩ dX8_free_62 (fun d_14 H locs hr_13 hP hD hS => ?_)
        obtain ⟨hgad_14, hpad_14, hxd_14⟩ := hr_13
        have hgd_14 : yAg S [8, 21, 24] d d_14 := yAg.tr hgd_3 hgad_14 (by first | decide | exact fun _ h => h)
        have hPod_14 : yPo S d_14 := hpad_14 hPod_3
        refine lv_iload hx hb dX8_free_65 (lv_at hl 0 rfl) ?_
        exact W.zret (v := v_9) (ty := .boolean) hx hb hr (znb hzv_9).1 (fun t ht hW => ⟨⟨v_9, d_14, rfl, ⟨hgd_14, (fun _ => hPod_14), ((congrFun (hgad_14 q0 (by rw [hk_q0]; decide)).1 4).trans (hxd_3.2))⟩, by rw [ht]; exact hP, hD⟩, hS.F ht⟩) hS.2.2 dX8_free_67
      · refine lv_iconst (v := 1) hx hb dX8_free_57 (by decide) ?_
        refine lv_goto (tgt := 62) hx hb dX8_free_58 (by decide) ?_
        refine ySwv (As := [.ref (S.2.2.1 r_10 1), .int p1, .int 1]) (rest := []) C0 (g_X8_put l G S d_3 (S.2.2.1 r_10 1) 21 p1 1 hPod_3 hmy_11 hky_11 (by decide) rfl rfl (by decide)) ok_X8_put (mW168 : Cond.methodLink RX8 82 yX8_put ∈ wsT) ⟨Nat.le_of_ble_eq_true rfl, Nat.le_of_ble_eq_true rfl⟩ hP hD hS hA hK hN rfl hl.1 rfl (Nat.le_of_ble_eq_true rfl) ⟨Nat.le_of_ble_eq_true rfl, Nat.le_of_ble_eq_true rfl⟩ dX8_free_62 (fun d_16 H locs hr_15 hP hD hS => ?_)
        obtain ⟨hgad_16, hpad_16, hxd_16⟩ := hr_15
        have hgd_16 : yAg S [8, 21, 24] d d_16 := yAg.tr hgd_3 hgad_16 (by first | decide | exact fun _ h => h)
        have hPod_16 : yPo S d_16 := hpad_16 hPod_3
        refine lv_iload hx hb dX8_free_65 (lv_at hl 0 rfl) ?_
        exact W.zret (v := v_9) (ty := .boolean) hx hb hr (znb hzv_9).1 (fun t ht hW => ⟨⟨v_9, d_16, rfl, ⟨hgd_16, (fun _ => hPod_16), ((congrFun (hgad_16 q0 (by rw [hk_q0]; decide)).1 4).trans (hxd_3.2))⟩, by rw [ht]; exact hP, hD⟩, hS.F ht⟩) hS.2.2 dX8_free_67
    refine lv_icmp_ne (tgt := 38) hx hb dX8_free_31 (by decide) (fun c_17 => ?_) (fun c_17 => ?_)
    · refine lv_iconst (v := 0) hx hb dX8_free_38 (by decide) ?_
      exact J39_9 0 ls _ ⟨rfl, lv_sub hl [0, 1, 2, 3] rfl, Or.inl rfl⟩
    · refine lv_iconst (v := 1) hx hb dX8_free_34 (by decide) ?_
      refine lv_goto (tgt := 39) hx hb dX8_free_35 (by decide) ?_
      exact J39_9 1 ls _ ⟨rfl, lv_sub hl [0, 1, 2, 3] rfl, Or.inr rfl⟩
  · refine lv_iconst (v := 0) hx hb dX8_free_13 (by decide) ?_
    exact W.zret (v := 0) (ty := .boolean) hx hb hr rfl (fun t ht hW => ⟨⟨0, d_3, rfl, ⟨hgd_3, (fun _ => hPod_3), (hxd_3.2)⟩, by rw [ht]; exact hP, hD⟩, hS.F ht⟩) hS.2.2 dX8_free_14
theorem dX8_tons_0 : decode cX8_tons 0 = .ok (.lload_n 2, 1) := by decide +kernel
theorem dX8_tons_1 : decode cX8_tons 1 = .ok (.lconst 0, 1) := by decide +kernel
theorem dX8_tons_2 : decode cX8_tons 2 = .ok (.lcmp, 1) := by decide +kernel
theorem dX8_tons_3 : decode cX8_tons 3 = .ok (.ifCond .lt 15, 3) := by decide +kernel
theorem dX8_tons_6 : decode cX8_tons 6 = .ok (.lload_n 2, 1) := by decide +kernel
theorem dX8_tons_7 : decode cX8_tons 7 = .ok (.ldc2_w 184, 3) := by decide +kernel
theorem dX8_tons_10 : decode cX8_tons 10 = .ok (.lcmp, 1) := by decide +kernel
theorem dX8_tons_11 : decode cX8_tons 11 = .ok (.ifCond .gt 7, 3) := by decide +kernel
theorem dX8_tons_14 : decode cX8_tons 14 = .ok (.iconst 1, 1) := by decide +kernel
theorem dX8_tons_15 : decode cX8_tons 15 = .ok (.goto 4, 3) := by decide +kernel
theorem dX8_tons_18 : decode cX8_tons 18 = .ok (.iconst 0, 1) := by decide +kernel
theorem dX8_tons_19 : decode cX8_tons 19 = .ok (.istore 4, 2) := by decide +kernel
theorem dX8_tons_21 : decode cX8_tons 21 = .ok (.aload_n 0, 1) := by decide +kernel
theorem dX8_tons_22 : decode cX8_tons 22 = .ok (.aload_n 0, 1) := by decide +kernel
theorem dX8_tons_23 : decode cX8_tons 23 = .ok (.iload_n 1, 1) := by decide +kernel
theorem dX8_tons_24 : decode cX8_tons 24 = .ok (.invokevirtual 124, 3) := by decide +kernel
theorem dX8_tons_27 : decode cX8_tons 27 = .ok (.iload 4, 2) := by decide +kernel
theorem dX8_tons_29 : decode cX8_tons 29 = .ok (.invokestatic 54, 3) := by decide +kernel
theorem dX8_tons_32 : decode cX8_tons 32 = .ok (.invokestatic 58, 3) := by decide +kernel
theorem dX8_tons_35 : decode cX8_tons 35 = .ok (.invokevirtual 42, 3) := by decide +kernel
theorem dX8_tons_38 : decode cX8_tons 38 = .ok (.ifCond .eq 5, 3) := by decide +kernel
theorem dX8_tons_41 : decode cX8_tons 41 = .ok (.iconst 0, 1) := by decide +kernel
theorem dX8_tons_42 : decode cX8_tons 42 = .ok (.ireturn, 1) := by decide +kernel
theorem dX8_tons_43 : decode cX8_tons 43 = .ok (.aload_n 0, 1) := by decide +kernel
theorem dX8_tons_44 : decode cX8_tons 44 = .ok (.getfield 12, 3) := by decide +kernel
theorem dX8_tons_47 : decode cX8_tons 47 = .ok (.iload_n 1, 1) := by decide +kernel
theorem dX8_tons_48 : decode cX8_tons 48 = .ok (.invokevirtual 114, 3) := by decide +kernel
theorem dX8_tons_51 : decode cX8_tons 51 = .ok (.lload_n 2, 1) := by decide +kernel
theorem dX8_tons_52 : decode cX8_tons 52 = .ok (.putfield 186, 3) := by decide +kernel
theorem dX8_tons_55 : decode cX8_tons 55 = .ok (.iconst 1, 1) := by decide +kernel
theorem dX8_tons_56 : decode cX8_tons 56 = .ok (.ireturn, 1) := by decide +kernel
set_option maxHeartbeats 4000000 in
set_option maxRecDepth 100000 in
theorem g_X8_tons (l : Launch) (G : xG) (S : yS) (d : yD) (q0 : Nat) (p0 : Int32) (p1 : Int64) (hSh : ySh S) (hPo : yPo S d) (hm_q0 : q0 ∈ S.1) (hk_q0 : S.2.1 q0 = 8) : xWi l G yX8_tons cX8_tons 5 (some .boolean) 2 43 0 0 [.ref q0, .int p0, .long p1] (yW G S d) (fun r (u : yD) => yAg S [4, 8, 24] d u ∧ (yPo S d → yPo S u) ∧ (((r.toInt = 0 ∧ ¬ (0 ≤ p0.toInt ∧ p0.toInt ≤ 7 ∧ 0 < (d.1 (yPA S (S.2.2.1 q0 0) p0) 2).toInt ∧ 0 ≤ p1.toInt ∧ p1.toInt ≤ 100000000) ∧ zKp S 4 d u) ∨ (r.toInt = 1 ∧ (0 ≤ p0.toInt ∧ p0.toInt ≤ 7 ∧ 0 < (d.1 (yPA S (S.2.2.1 q0 0) p0) 2).toInt ∧ 0 ≤ p1.toInt ∧ p1.toInt ≤ 100000000) ∧ u.2.1 (yPA S (S.2.2.1 q0 0) p0) 8 = p1 ∧ (∀ a, S.2.1 a = 4 → u.1 a = d.1 a) ∧ ∀ a, S.2.1 a = 4 → a ≠ (yPA S (S.2.2.1 q0 0) p0) → u.1 a = d.1 a ∧ u.2.1 a = d.2.1 a)) ∧ u.1 q0 4 = d.1 q0 4)) (fun u => yW G S u) := by
  intro sz
  refine xstart (by decide) (Nat.le_of_ble_eq_true rfl) (fun p e s m args below meth c ls C0 hr hlocks hin hsz hP hK hD hN hl => ?_)
  obtain ⟨hx, hb, hml, hown, htl⟩ := id C0
  subst hsz
  have hD := hD.self (sz := s.heap.size)
  generalize hAe : va_A (yW G S d) s.heap.size = A at hD ⊢
  have hA : ∀ q : Nat, s.heap.size ≤ q → A q := fun q h => by rw [← hAe]; exact Or.inr h
  have hS : va_S A s.heap s.heap [] := va_S.rf
  have hg0 : yAg S [4, 8, 24] d d := yAg.rf
  have hl : lv_has ls 5 [(0, .ref q0), (1, .int p0), (2, .long p1)] := hl
  refine lv_lload_n hx hb dX8_tons_0 rfl (lv_at hl 2 rfl) ?_
  refine lv_lconst (v := 0) hx hb dX8_tons_1 (by decide) ?_
  refine W.lcmp hx hb dX8_tons_2 ?_
  refine lv_topi (fun z_1 ez_1 => ?_)
  refine lv_if_lt (tgt := 18) hx hb dX8_tons_3 (by decide) (fun c_2 => ?_) (fun c_2 => ?_)
  · refine lv_iconst (v := 0) hx hb dX8_tons_18 (by decide) ?_
    refine lv_istore (lv' := [(4, .int 0), (0, .ref q0), (1, .int p0), (2, .long p1)]) hx hb dX8_tons_19 hl (by decide) rfl (fun ls hl => ?_)
    refine lv_aload_n hx hb dX8_tons_21 rfl (lv_at hl 1 rfl) ?_
    refine lv_aload_n hx hb dX8_tons_22 rfl (lv_at hl 1 rfl) ?_
    refine lv_iload_n hx hb dX8_tons_23 rfl (lv_at hl 2 rfl) ?_
    refine yVri (As := [.int p0]) (rest := [.ref q0]) C0 (g_X8_portReason l G S d q0 p0 hSh hm_q0 hk_q0) ok_X8_portReason (mW374 : Cond.methodLink RX8 124 yX8_portReason ∈ wsT) ⟨Nat.le_of_ble_eq_true rfl, Nat.le_of_ble_eq_true rfl⟩ hP hD hK hN hm_q0 hk_q0 (by decide) rfl rfl rfl hl.1 rfl (Nat.le_of_ble_eq_true rfl) ⟨Nat.le_of_ble_eq_true rfl, Nat.le_of_ble_eq_true rfl⟩ dX8_tons_24 (fun r_3 hr_3 => ?_)
    have tr_3 := tp_ hr_3
    refine lv_iload hx hb dX8_tons_27 (lv_at hl 0 rfl) ?_
    refine ySri (As := [.int 0]) (rest := [.int r_3, .ref q0]) C0 (g_X8_number l G S d 0 ) ok_X8_number (mW196 : Cond.methodLink RX8 54 yX8_number ∈ wsT) ⟨Nat.le_of_ble_eq_true rfl, Nat.le_of_ble_eq_true rfl⟩ hP hD hK hN rfl hl.1 rfl (Nat.le_of_ble_eq_true rfl) ⟨Nat.le_of_ble_eq_true rfl, Nat.le_of_ble_eq_true rfl⟩ dX8_tons_29 (fun r_4 hr_4 => ?_)
    have hL_5 : (0 : Int32).toInt = 0 := by decide +kernel
    have tr_4 := tn_ hr_4
    refine ySri (As := [.int r_3, .int r_4]) (rest := [.ref q0]) C0 (g_X8_least l G S d r_3 r_4 ) ok_X8_least (mW199 : Cond.methodLink RX8 58 yX8_least ∈ wsT) ⟨Nat.le_of_ble_eq_true rfl, Nat.le_of_ble_eq_true rfl⟩ hP hD hK hN rfl hl.1 rfl (Nat.le_of_ble_eq_true rfl) ⟨Nat.le_of_ble_eq_true rfl, Nat.le_of_ble_eq_true rfl⟩ dX8_tons_32 (fun r_6 hr_6 => ?_)
    have tr_6 := tl_ hr_6
    refine yVwi (As := [.int r_6]) (rest := []) C0 (g_X8_refused l G S d q0 r_6 hSh hPo hm_q0 hk_q0) ok_X8_refused (mW160 : Cond.methodLink RX8 42 yX8_refused ∈ wsT) ⟨Nat.le_of_ble_eq_true rfl, Nat.le_of_ble_eq_true rfl⟩ hP hD hS hA hK hN hm_q0 hk_q0 (by decide) rfl rfl rfl hl.1 rfl (Nat.le_of_ble_eq_true rfl) ⟨Nat.le_of_ble_eq_true rfl, Nat.le_of_ble_eq_true rfl⟩ dX8_tons_35 (fun r_7 d_8 H locs hr_7 hP hD hS => ?_)
    obtain ⟨hgad_8, hpad_8, hxd_8⟩ := hr_7
    have hgd_8 : yAg S [4, 8, 24] d d_8 := yAg.tr hg0 hgad_8 (by first | decide | exact fun _ h => h)
    have hPod_8 : yPo S d_8 := hpad_8 hPo
    have tr_7 := tr_ hxd_8.1
    refine lv_if_eq (tgt := 43) hx hb dX8_tons_38 (by decide) (fun c_9 => ?_) (fun c_9 => ?_)
    · refine lv_aload_n hx hb dX8_tons_43 rfl (lv_at hl 1 rfl) ?_
      refine yget (ci := 8) (k := 0) (v := .ref (S.2.2.1 q0 0)) (C := RX8) (T := TX8) (N := 6) C0 hK hP hm_q0 hk_q0 (by decide) rfl inlX8 (by decide) mW16 (fun _ h9 => h9) rfl dX8_tons_44 ?_
      obtain ⟨hmy_10, hky_10⟩ := ySh.f8_0 hSh _ hm_q0 hk_q0
      refine lv_iload_n hx hb dX8_tons_47 rfl (lv_at hl 2 rfl) ?_
      refine yVrr (As := [.int p0]) (rest := []) C0 (g_X0_portAt l G S d_8 (S.2.2.1 q0 0) p0 hSh hmy_10 hky_10) ok_X0_portAt (mW337 : Cond.methodLink RX8 114 yX0_portAt ∈ wsT) ⟨Nat.le_of_ble_eq_true rfl, Nat.le_of_ble_eq_true rfl⟩ hP hD hK hN hmy_10 hky_10 (by decide) rfl rfl rfl hl.1 rfl (Nat.le_of_ble_eq_true rfl) ⟨Nat.le_of_ble_eq_true rfl, Nat.le_of_ble_eq_true rfl⟩ dX8_tons_48 (fun r_11 hr_11 => ?_)
      obtain ⟨hmr_11, hkr_11, her_11⟩ := hr_11
      refine lv_lload_n hx hb dX8_tons_51 rfl (lv_at hl 3 rfl) ?_
      refine yputJ (ci := 4) (k := 8) (C := RX4) (T := TX4) (N := 11) C0 hK hP hD hS hmr_11 hkr_11 (by decide) rfl inlX4 tyX4 tyX4_ok nmX4 (by decide) mW507 (fun _ h9 => h9) rfl (by decide +kernel) (Nat.le_of_ble_eq_true rfl) ysj_4_8 dX8_tons_52 (fun H locs hP hD hS => ?_)
      obtain ⟨d_12, ed_12⟩ : ∃ z : yD, z = yj d_8 r_11 8 p1 := ⟨_, rfl⟩
      rw [← ed_12] at hP hD
      have hgd_12 : yAg S [4, 8, 24] d d_12 := by rw [ed_12]; exact yAg.j hgd_8 (by rw [hkr_11]; decide)
      have hsd_12 : yAg S [4] d_8 d_12 := by rw [ed_12]; exact yAg.j yAg.rf (by rw [hkr_11]; decide)
      have hPod_12 : yPo S d_12 := by rw [ed_12]; exact hPod_8
      refine lv_iconst (v := 1) hx hb dX8_tons_55 (by decide) ?_
      have F_13 := feq (rfl : (r_7 : Int32).toInt = (r_7 : Int32).toInt) (by decide +kernel : (0 : Int32).toInt = 0) c_9
      have T_14 : (0 : Int64).toInt = 0 := by decide +kernel
      have F_15 := jlt ez_1 c_2
      exact W.zret (v := 1) (ty := .boolean) hx hb hr rfl (fun t ht hW => ⟨⟨1, d_12, rfl, ⟨hgd_12, (fun _ => hPod_12), ⟨Or.inr ⟨by have h0_ : (1 : Int32).toInt = 1 := (by decide +kernel); omega, by omega, by rw [← her_11, ed_12]; exact yj_self, (fun a ha => (((show d_12.1 a = d_8.1 a by rw [ed_12]; rfl)).trans (hgad_8 a (by rw [ha]; decide)).1)), fun a ha hn => (o2 (yAg.o hgad_8 (by rw [ha]; decide)) (show d_12.1 a = d_8.1 a ∧ d_12.2.1 a = d_8.2.1 a by rw [ed_12]; exact yj_o (fun e => hn (e.trans her_11))))⟩, ((congrFun (hsd_12 q0 (by rw [hk_q0]; decide)).1 4).trans (hxd_8.2))⟩⟩, by rw [ht]; exact hP, hD⟩, hS.F ht⟩) hS.2.2 dX8_tons_56
    · refine lv_iconst (v := 0) hx hb dX8_tons_41 (by decide) ?_
      have F_16 := fne (rfl : (r_7 : Int32).toInt = (r_7 : Int32).toInt) (by decide +kernel : (0 : Int32).toInt = 0) c_9
      have T_17 : (0 : Int64).toInt = 0 := by decide +kernel
      have F_18 := jlt ez_1 c_2
      exact W.zret (v := 0) (ty := .boolean) hx hb hr rfl (fun t ht hW => ⟨⟨0, d_8, rfl, ⟨hgd_8, (fun _ => hPod_8), ⟨Or.inl ⟨by have h0_ : (0 : Int32).toInt = 0 := (by decide +kernel); omega, by omega, (fun a ha => (yAg.o hgad_8 (by rw [ha]; decide)))⟩, (hxd_8.2)⟩⟩, by rw [ht]; exact hP, hD⟩, hS.F ht⟩) hS.2.2 dX8_tons_42
  · refine lv_lload_n hx hb dX8_tons_6 rfl (lv_at hl 2 rfl) ?_
    refine lv_ldc2 (v := 100000000) hx hb hown (htl (.constantLong RX8 184 (100000000)) mW506) dX8_tons_7 ?_
    refine W.lcmp hx hb dX8_tons_10 ?_
    refine lv_topi (fun z_19 ez_19 => ?_)
    refine lv_if_gt (tgt := 18) hx hb dX8_tons_11 (by decide) (fun c_20 => ?_) (fun c_20 => ?_)
    · refine lv_iconst (v := 0) hx hb dX8_tons_18 (by decide) ?_
      refine lv_istore (lv' := [(4, .int 0), (0, .ref q0), (1, .int p0), (2, .long p1)]) hx hb dX8_tons_19 hl (by decide) rfl (fun ls hl => ?_)
      refine lv_aload_n hx hb dX8_tons_21 rfl (lv_at hl 1 rfl) ?_
      refine lv_aload_n hx hb dX8_tons_22 rfl (lv_at hl 1 rfl) ?_
      refine lv_iload_n hx hb dX8_tons_23 rfl (lv_at hl 2 rfl) ?_
      refine yVri (As := [.int p0]) (rest := [.ref q0]) C0 (g_X8_portReason l G S d q0 p0 hSh hm_q0 hk_q0) ok_X8_portReason (mW374 : Cond.methodLink RX8 124 yX8_portReason ∈ wsT) ⟨Nat.le_of_ble_eq_true rfl, Nat.le_of_ble_eq_true rfl⟩ hP hD hK hN hm_q0 hk_q0 (by decide) rfl rfl rfl hl.1 rfl (Nat.le_of_ble_eq_true rfl) ⟨Nat.le_of_ble_eq_true rfl, Nat.le_of_ble_eq_true rfl⟩ dX8_tons_24 (fun r_21 hr_21 => ?_)
      have tr_21 := tp_ hr_21
      refine lv_iload hx hb dX8_tons_27 (lv_at hl 0 rfl) ?_
      refine ySri (As := [.int 0]) (rest := [.int r_21, .ref q0]) C0 (g_X8_number l G S d 0 ) ok_X8_number (mW196 : Cond.methodLink RX8 54 yX8_number ∈ wsT) ⟨Nat.le_of_ble_eq_true rfl, Nat.le_of_ble_eq_true rfl⟩ hP hD hK hN rfl hl.1 rfl (Nat.le_of_ble_eq_true rfl) ⟨Nat.le_of_ble_eq_true rfl, Nat.le_of_ble_eq_true rfl⟩ dX8_tons_29 (fun r_22 hr_22 => ?_)
      have hL_23 : (0 : Int32).toInt = 0 := by decide +kernel
      have tr_22 := tn_ hr_22
      refine ySri (As := [.int r_21, .int r_22]) (rest := [.ref q0]) C0 (g_X8_least l G S d r_21 r_22 ) ok_X8_least (mW199 : Cond.methodLink RX8 58 yX8_least ∈ wsT) ⟨Nat.le_of_ble_eq_true rfl, Nat.le_of_ble_eq_true rfl⟩ hP hD hK hN rfl hl.1 rfl (Nat.le_of_ble_eq_true rfl) ⟨Nat.le_of_ble_eq_true rfl, Nat.le_of_ble_eq_true rfl⟩ dX8_tons_32 (fun r_24 hr_24 => ?_)
      have tr_24 := tl_ hr_24
      refine yVwi (As := [.int r_24]) (rest := []) C0 (g_X8_refused l G S d q0 r_24 hSh hPo hm_q0 hk_q0) ok_X8_refused (mW160 : Cond.methodLink RX8 42 yX8_refused ∈ wsT) ⟨Nat.le_of_ble_eq_true rfl, Nat.le_of_ble_eq_true rfl⟩ hP hD hS hA hK hN hm_q0 hk_q0 (by decide) rfl rfl rfl hl.1 rfl (Nat.le_of_ble_eq_true rfl) ⟨Nat.le_of_ble_eq_true rfl, Nat.le_of_ble_eq_true rfl⟩ dX8_tons_35 (fun r_25 d_26 H locs hr_25 hP hD hS => ?_)
      obtain ⟨hgad_26, hpad_26, hxd_26⟩ := hr_25
      have hgd_26 : yAg S [4, 8, 24] d d_26 := yAg.tr hg0 hgad_26 (by first | decide | exact fun _ h => h)
      have hPod_26 : yPo S d_26 := hpad_26 hPo
      have tr_25 := tr_ hxd_26.1
      refine lv_if_eq (tgt := 43) hx hb dX8_tons_38 (by decide) (fun c_27 => ?_) (fun c_27 => ?_)
      · refine lv_aload_n hx hb dX8_tons_43 rfl (lv_at hl 1 rfl) ?_
        refine yget (ci := 8) (k := 0) (v := .ref (S.2.2.1 q0 0)) (C := RX8) (T := TX8) (N := 6) C0 hK hP hm_q0 hk_q0 (by decide) rfl inlX8 (by decide) mW16 (fun _ h9 => h9) rfl dX8_tons_44 ?_
        obtain ⟨hmy_28, hky_28⟩ := ySh.f8_0 hSh _ hm_q0 hk_q0
        refine lv_iload_n hx hb dX8_tons_47 rfl (lv_at hl 2 rfl) ?_
        refine yVrr (As := [.int p0]) (rest := []) C0 (g_X0_portAt l G S d_26 (S.2.2.1 q0 0) p0 hSh hmy_28 hky_28) ok_X0_portAt (mW337 : Cond.methodLink RX8 114 yX0_portAt ∈ wsT) ⟨Nat.le_of_ble_eq_true rfl, Nat.le_of_ble_eq_true rfl⟩ hP hD hK hN hmy_28 hky_28 (by decide) rfl rfl rfl hl.1 rfl (Nat.le_of_ble_eq_true rfl) ⟨Nat.le_of_ble_eq_true rfl, Nat.le_of_ble_eq_true rfl⟩ dX8_tons_48 (fun r_29 hr_29 => ?_)
        obtain ⟨hmr_29, hkr_29, her_29⟩ := hr_29
        refine lv_lload_n hx hb dX8_tons_51 rfl (lv_at hl 3 rfl) ?_
        refine yputJ (ci := 4) (k := 8) (C := RX4) (T := TX4) (N := 11) C0 hK hP hD hS hmr_29 hkr_29 (by decide) rfl inlX4 tyX4 tyX4_ok nmX4 (by decide) mW507 (fun _ h9 => h9) rfl (by decide +kernel) (Nat.le_of_ble_eq_true rfl) ysj_4_8 dX8_tons_52 (fun H locs hP hD hS => ?_)
        obtain ⟨d_30, ed_30⟩ : ∃ z : yD, z = yj d_26 r_29 8 p1 := ⟨_, rfl⟩
        rw [← ed_30] at hP hD
        have hgd_30 : yAg S [4, 8, 24] d d_30 := by rw [ed_30]; exact yAg.j hgd_26 (by rw [hkr_29]; decide)
        have hsd_30 : yAg S [4] d_26 d_30 := by rw [ed_30]; exact yAg.j yAg.rf (by rw [hkr_29]; decide)
        have hPod_30 : yPo S d_30 := by rw [ed_30]; exact hPod_26
        refine lv_iconst (v := 1) hx hb dX8_tons_55 (by decide) ?_
        have F_31 := feq (rfl : (r_25 : Int32).toInt = (r_25 : Int32).toInt) (by decide +kernel : (0 : Int32).toInt = 0) c_27
        have T_32 : (0 : Int64).toInt = 0 := by decide +kernel
        have F_33 := jnlt ez_1 c_2
        have T_34 : (100000000 : Int64).toInt = 100000000 := by decide +kernel
        have F_35 := jgt ez_19 c_20
        exact W.zret (v := 1) (ty := .boolean) hx hb hr rfl (fun t ht hW => ⟨⟨1, d_30, rfl, ⟨hgd_30, (fun _ => hPod_30), ⟨Or.inr ⟨by have h0_ : (1 : Int32).toInt = 1 := (by decide +kernel); omega, by omega, by rw [← her_29, ed_30]; exact yj_self, (fun a ha => (((show d_30.1 a = d_26.1 a by rw [ed_30]; rfl)).trans (hgad_26 a (by rw [ha]; decide)).1)), fun a ha hn => (o2 (yAg.o hgad_26 (by rw [ha]; decide)) (show d_30.1 a = d_26.1 a ∧ d_30.2.1 a = d_26.2.1 a by rw [ed_30]; exact yj_o (fun e => hn (e.trans her_29))))⟩, ((congrFun (hsd_30 q0 (by rw [hk_q0]; decide)).1 4).trans (hxd_26.2))⟩⟩, by rw [ht]; exact hP, hD⟩, hS.F ht⟩) hS.2.2 dX8_tons_56
      · refine lv_iconst (v := 0) hx hb dX8_tons_41 (by decide) ?_
        have F_36 := fne (rfl : (r_25 : Int32).toInt = (r_25 : Int32).toInt) (by decide +kernel : (0 : Int32).toInt = 0) c_27
        have T_37 : (0 : Int64).toInt = 0 := by decide +kernel
        have F_38 := jnlt ez_1 c_2
        have T_39 : (100000000 : Int64).toInt = 100000000 := by decide +kernel
        have F_40 := jgt ez_19 c_20
        exact W.zret (v := 0) (ty := .boolean) hx hb hr rfl (fun t ht hW => ⟨⟨0, d_26, rfl, ⟨hgd_26, (fun _ => hPod_26), ⟨Or.inl ⟨by have h0_ : (0 : Int32).toInt = 0 := (by decide +kernel); omega, by omega, (fun a ha => (yAg.o hgad_26 (by rw [ha]; decide)))⟩, (hxd_26.2)⟩⟩, by rw [ht]; exact hP, hD⟩, hS.F ht⟩) hS.2.2 dX8_tons_42
    · refine lv_iconst (v := 1) hx hb dX8_tons_14 (by decide) ?_
      refine lv_goto (tgt := 19) hx hb dX8_tons_15 (by decide) ?_
      refine lv_istore (lv' := [(4, .int 1), (0, .ref q0), (1, .int p0), (2, .long p1)]) hx hb dX8_tons_19 hl (by decide) rfl (fun ls hl => ?_)
      refine lv_aload_n hx hb dX8_tons_21 rfl (lv_at hl 1 rfl) ?_
      refine lv_aload_n hx hb dX8_tons_22 rfl (lv_at hl 1 rfl) ?_
      refine lv_iload_n hx hb dX8_tons_23 rfl (lv_at hl 2 rfl) ?_
      refine yVri (As := [.int p0]) (rest := [.ref q0]) C0 (g_X8_portReason l G S d q0 p0 hSh hm_q0 hk_q0) ok_X8_portReason (mW374 : Cond.methodLink RX8 124 yX8_portReason ∈ wsT) ⟨Nat.le_of_ble_eq_true rfl, Nat.le_of_ble_eq_true rfl⟩ hP hD hK hN hm_q0 hk_q0 (by decide) rfl rfl rfl hl.1 rfl (Nat.le_of_ble_eq_true rfl) ⟨Nat.le_of_ble_eq_true rfl, Nat.le_of_ble_eq_true rfl⟩ dX8_tons_24 (fun r_41 hr_41 => ?_)
      have tr_41 := tp_ hr_41
      refine lv_iload hx hb dX8_tons_27 (lv_at hl 0 rfl) ?_
      refine ySri (As := [.int 1]) (rest := [.int r_41, .ref q0]) C0 (g_X8_number l G S d 1 ) ok_X8_number (mW196 : Cond.methodLink RX8 54 yX8_number ∈ wsT) ⟨Nat.le_of_ble_eq_true rfl, Nat.le_of_ble_eq_true rfl⟩ hP hD hK hN rfl hl.1 rfl (Nat.le_of_ble_eq_true rfl) ⟨Nat.le_of_ble_eq_true rfl, Nat.le_of_ble_eq_true rfl⟩ dX8_tons_29 (fun r_42 hr_42 => ?_)
      have hL_43 : (1 : Int32).toInt = 1 := by decide +kernel
      have tr_42 := tn_ hr_42
      refine ySri (As := [.int r_41, .int r_42]) (rest := [.ref q0]) C0 (g_X8_least l G S d r_41 r_42 ) ok_X8_least (mW199 : Cond.methodLink RX8 58 yX8_least ∈ wsT) ⟨Nat.le_of_ble_eq_true rfl, Nat.le_of_ble_eq_true rfl⟩ hP hD hK hN rfl hl.1 rfl (Nat.le_of_ble_eq_true rfl) ⟨Nat.le_of_ble_eq_true rfl, Nat.le_of_ble_eq_true rfl⟩ dX8_tons_32 (fun r_44 hr_44 => ?_)
      have tr_44 := tl_ hr_44
      refine yVwi (As := [.int r_44]) (rest := []) C0 (g_X8_refused l G S d q0 r_44 hSh hPo hm_q0 hk_q0) ok_X8_refused (mW160 : Cond.methodLink RX8 42 yX8_refused ∈ wsT) ⟨Nat.le_of_ble_eq_true rfl, Nat.le_of_ble_eq_true rfl⟩ hP hD hS hA hK hN hm_q0 hk_q0 (by decide) rfl rfl rfl hl.1 rfl (Nat.le_of_ble_eq_true rfl) ⟨Nat.le_of_ble_eq_true rfl, Nat.le_of_ble_eq_true rfl⟩ dX8_tons_35 (fun r_45 d_46 H locs hr_45 hP hD hS => ?_)
      obtain ⟨hgad_46, hpad_46, hxd_46⟩ := hr_45
      have hgd_46 : yAg S [4, 8, 24] d d_46 := yAg.tr hg0 hgad_46 (by first | decide | exact fun _ h => h)
      have hPod_46 : yPo S d_46 := hpad_46 hPo
      have tr_45 := tr_ hxd_46.1
      refine lv_if_eq (tgt := 43) hx hb dX8_tons_38 (by decide) (fun c_47 => ?_) (fun c_47 => ?_)
      · refine lv_aload_n hx hb dX8_tons_43 rfl (lv_at hl 1 rfl) ?_
        refine yget (ci := 8) (k := 0) (v := .ref (S.2.2.1 q0 0)) (C := RX8) (T := TX8) (N := 6) C0 hK hP hm_q0 hk_q0 (by decide) rfl inlX8 (by decide) mW16 (fun _ h9 => h9) rfl dX8_tons_44 ?_
        obtain ⟨hmy_48, hky_48⟩ := ySh.f8_0 hSh _ hm_q0 hk_q0
        refine lv_iload_n hx hb dX8_tons_47 rfl (lv_at hl 2 rfl) ?_
        refine yVrr (As := [.int p0]) (rest := []) C0 (g_X0_portAt l G S d_46 (S.2.2.1 q0 0) p0 hSh hmy_48 hky_48) ok_X0_portAt (mW337 : Cond.methodLink RX8 114 yX0_portAt ∈ wsT) ⟨Nat.le_of_ble_eq_true rfl, Nat.le_of_ble_eq_true rfl⟩ hP hD hK hN hmy_48 hky_48 (by decide) rfl rfl rfl hl.1 rfl (Nat.le_of_ble_eq_true rfl) ⟨Nat.le_of_ble_eq_true rfl, Nat.le_of_ble_eq_true rfl⟩ dX8_tons_48 (fun r_49 hr_49 => ?_)
        obtain ⟨hmr_49, hkr_49, her_49⟩ := hr_49
        refine lv_lload_n hx hb dX8_tons_51 rfl (lv_at hl 3 rfl) ?_
        refine yputJ (ci := 4) (k := 8) (C := RX4) (T := TX4) (N := 11) C0 hK hP hD hS hmr_49 hkr_49 (by decide) rfl inlX4 tyX4 tyX4_ok nmX4 (by decide) mW507 (fun _ h9 => h9) rfl (by decide +kernel) (Nat.le_of_ble_eq_true rfl) ysj_4_8 dX8_tons_52 (fun H locs hP hD hS => ?_)
        obtain ⟨d_50, ed_50⟩ : ∃ z : yD, z = yj d_46 r_49 8 p1 := ⟨_, rfl⟩
        rw [← ed_50] at hP hD
        have hgd_50 : yAg S [4, 8, 24] d d_50 := by rw [ed_50]; exact yAg.j hgd_46 (by rw [hkr_49]; decide)
        have hsd_50 : yAg S [4] d_46 d_50 := by rw [ed_50]; exact yAg.j yAg.rf (by rw [hkr_49]; decide)
        have hPod_50 : yPo S d_50 := by rw [ed_50]; exact hPod_46
        refine lv_iconst (v := 1) hx hb dX8_tons_55 (by decide) ?_
        have F_51 := feq (rfl : (r_45 : Int32).toInt = (r_45 : Int32).toInt) (by decide +kernel : (0 : Int32).toInt = 0) c_47
        have T_52 : (0 : Int64).toInt = 0 := by decide +kernel
        have F_53 := jnlt ez_1 c_2
        have T_54 : (100000000 : Int64).toInt = 100000000 := by decide +kernel
        have F_55 := jngt ez_19 c_20
        exact W.zret (v := 1) (ty := .boolean) hx hb hr rfl (fun t ht hW => ⟨⟨1, d_50, rfl, ⟨hgd_50, (fun _ => hPod_50), ⟨Or.inr ⟨by have h0_ : (1 : Int32).toInt = 1 := (by decide +kernel); omega, by omega, by rw [← her_49, ed_50]; exact yj_self, (fun a ha => (((show d_50.1 a = d_46.1 a by rw [ed_50]; rfl)).trans (hgad_46 a (by rw [ha]; decide)).1)), fun a ha hn => (o2 (yAg.o hgad_46 (by rw [ha]; decide)) (show d_50.1 a = d_46.1 a ∧ d_50.2.1 a = d_46.2.1 a by rw [ed_50]; exact yj_o (fun e => hn (e.trans her_49))))⟩, ((congrFun (hsd_50 q0 (by rw [hk_q0]; decide)).1 4).trans (hxd_46.2))⟩⟩, by rw [ht]; exact hP, hD⟩, hS.F ht⟩) hS.2.2 dX8_tons_56
      · refine lv_iconst (v := 0) hx hb dX8_tons_41 (by decide) ?_
        have F_56 := fne (rfl : (r_45 : Int32).toInt = (r_45 : Int32).toInt) (by decide +kernel : (0 : Int32).toInt = 0) c_47
        have T_57 : (0 : Int64).toInt = 0 := by decide +kernel
        have F_58 := jnlt ez_1 c_2
        have T_59 : (100000000 : Int64).toInt = 100000000 := by decide +kernel
        have F_60 := jngt ez_19 c_20
        exact W.zret (v := 0) (ty := .boolean) hx hb hr rfl (fun t ht hW => ⟨⟨0, d_46, rfl, ⟨hgd_46, (fun _ => hPod_46), ⟨Or.inl ⟨by have h0_ : (0 : Int32).toInt = 0 := (by decide +kernel); omega, by omega, (fun a ha => (yAg.o hgad_46 (by rw [ha]; decide)))⟩, (hxd_46.2)⟩⟩, by rw [ht]; exact hP, hD⟩, hS.F ht⟩) hS.2.2 dX8_tons_42
theorem dX8_office_0 : decode cX8_office 0 = .ok (.iload_n 2, 1) := by decide +kernel
theorem dX8_office_1 : decode cX8_office 1 = .ok (.iconst 0, 1) := by decide +kernel
theorem dX8_office_2 : decode cX8_office 2 = .ok (.sipush 1440, 3) := by decide +kernel
theorem dX8_office_5 : decode cX8_office 5 = .ok (.invokestatic 71, 3) := by decide +kernel
theorem dX8_office_8 : decode cX8_office 8 = .ok (.ifCond .eq 29, 3) := by decide +kernel
theorem dX8_office_11 : decode cX8_office 11 = .ok (.iload_n 3, 1) := by decide +kernel
theorem dX8_office_12 : decode cX8_office 12 = .ok (.iconst 0, 1) := by decide +kernel
theorem dX8_office_13 : decode cX8_office 13 = .ok (.sipush 1440, 3) := by decide +kernel
theorem dX8_office_16 : decode cX8_office 16 = .ok (.invokestatic 71, 3) := by decide +kernel
theorem dX8_office_19 : decode cX8_office 19 = .ok (.ifCond .eq 18, 3) := by decide +kernel
theorem dX8_office_22 : decode cX8_office 22 = .ok (.iload 4, 2) := by decide +kernel
theorem dX8_office_24 : decode cX8_office 24 = .ok (.iconst 0, 1) := by decide +kernel
theorem dX8_office_25 : decode cX8_office 25 = .ok (.ldc 190, 2) := by decide +kernel
theorem dX8_office_27 : decode cX8_office 27 = .ok (.invokestatic 71, 3) := by decide +kernel
theorem dX8_office_30 : decode cX8_office 30 = .ok (.ifCond .eq 7, 3) := by decide +kernel
theorem dX8_office_33 : decode cX8_office 33 = .ok (.iconst 1, 1) := by decide +kernel
theorem dX8_office_34 : decode cX8_office 34 = .ok (.goto 4, 3) := by decide +kernel
theorem dX8_office_37 : decode cX8_office 37 = .ok (.iconst 0, 1) := by decide +kernel
theorem dX8_office_38 : decode cX8_office 38 = .ok (.istore 5, 2) := by decide +kernel
theorem dX8_office_40 : decode cX8_office 40 = .ok (.aload_n 0, 1) := by decide +kernel
theorem dX8_office_41 : decode cX8_office 41 = .ok (.aload_n 0, 1) := by decide +kernel
theorem dX8_office_42 : decode cX8_office 42 = .ok (.iload_n 1, 1) := by decide +kernel
theorem dX8_office_43 : decode cX8_office 43 = .ok (.invokevirtual 124, 3) := by decide +kernel
theorem dX8_office_46 : decode cX8_office 46 = .ok (.iload 5, 2) := by decide +kernel
theorem dX8_office_48 : decode cX8_office 48 = .ok (.invokestatic 54, 3) := by decide +kernel
theorem dX8_office_51 : decode cX8_office 51 = .ok (.invokestatic 58, 3) := by decide +kernel
theorem dX8_office_54 : decode cX8_office 54 = .ok (.invokevirtual 42, 3) := by decide +kernel
theorem dX8_office_57 : decode cX8_office 57 = .ok (.ifCond .eq 5, 3) := by decide +kernel
theorem dX8_office_60 : decode cX8_office 60 = .ok (.iconst 0, 1) := by decide +kernel
theorem dX8_office_61 : decode cX8_office 61 = .ok (.ireturn, 1) := by decide +kernel
theorem dX8_office_62 : decode cX8_office 62 = .ok (.aload_n 0, 1) := by decide +kernel
theorem dX8_office_63 : decode cX8_office 63 = .ok (.getfield 12, 3) := by decide +kernel
theorem dX8_office_66 : decode cX8_office 66 = .ok (.iload_n 1, 1) := by decide +kernel
theorem dX8_office_67 : decode cX8_office 67 = .ok (.invokevirtual 114, 3) := by decide +kernel
theorem dX8_office_70 : decode cX8_office 70 = .ok (.astore 6, 2) := by decide +kernel
theorem dX8_office_72 : decode cX8_office 72 = .ok (.aload 6, 2) := by decide +kernel
theorem dX8_office_74 : decode cX8_office 74 = .ok (.iload_n 2, 1) := by decide +kernel
theorem dX8_office_75 : decode cX8_office 75 = .ok (.putfield 191, 3) := by decide +kernel
theorem dX8_office_78 : decode cX8_office 78 = .ok (.aload 6, 2) := by decide +kernel
theorem dX8_office_80 : decode cX8_office 80 = .ok (.iload_n 3, 1) := by decide +kernel
theorem dX8_office_81 : decode cX8_office 81 = .ok (.putfield 194, 3) := by decide +kernel
theorem dX8_office_84 : decode cX8_office 84 = .ok (.aload 6, 2) := by decide +kernel
theorem dX8_office_86 : decode cX8_office 86 = .ok (.iload 4, 2) := by decide +kernel
theorem dX8_office_88 : decode cX8_office 88 = .ok (.putfield 197, 3) := by decide +kernel
theorem dX8_office_91 : decode cX8_office 91 = .ok (.iconst 1, 1) := by decide +kernel
theorem dX8_office_92 : decode cX8_office 92 = .ok (.ireturn, 1) := by decide +kernel
set_option maxHeartbeats 4000000 in
set_option maxRecDepth 100000 in
theorem g_X8_office (l : Launch) (G : xG) (S : yS) (d : yD) (q0 : Nat) (p0 : Int32) (p1 : Int32) (p2 : Int32) (p3 : Int32) (hSh : ySh S) (hPo : yPo S d) (hm_q0 : q0 ∈ S.1) (hk_q0 : S.2.1 q0 = 8) : xWi l G yX8_office cX8_office 7 (some .boolean) 2 43 0 0 [.ref q0, .int p0, .int p1, .int p2, .int p3] (yW G S d) (fun r (u : yD) => yAg S [4, 8, 24] d u ∧ (yPo S d → yPo S u) ∧ (((r.toInt = 0 ∧ ¬ (0 ≤ p0.toInt ∧ p0.toInt ≤ 7 ∧ 0 < (d.1 (yPA S (S.2.2.1 q0 0) p0) 2).toInt ∧ 0 ≤ p1.toInt ∧ p1.toInt ≤ 1440 ∧ 0 ≤ p2.toInt ∧ p2.toInt ≤ 1440 ∧ 0 ≤ p3.toInt ∧ p3.toInt ≤ 100000) ∧ ∀ a, S.2.1 a = 4 → u.1 a 2 = d.1 a 2 ∧ u.1 a 3 = d.1 a 3 ∧ u.2.1 a 8 = d.2.1 a 8) ∨ (r.toInt = 1 ∧ (0 ≤ p0.toInt ∧ p0.toInt ≤ 7 ∧ 0 < (d.1 (yPA S (S.2.2.1 q0 0) p0) 2).toInt ∧ 0 ≤ p1.toInt ∧ p1.toInt ≤ 1440 ∧ 0 ≤ p2.toInt ∧ p2.toInt ≤ 1440 ∧ 0 ≤ p3.toInt ∧ p3.toInt ≤ 100000) ∧ ∀ a, S.2.1 a = 4 → u.1 a 2 = d.1 a 2 ∧ u.1 a 3 = d.1 a 3 ∧ u.2.1 a 8 = d.2.1 a 8)) ∧ u.1 q0 4 = d.1 q0 4)) (fun u => yW G S u) := by
  intro sz
  refine xstart (by decide) (Nat.le_of_ble_eq_true rfl) (fun p e s m args below meth c ls C0 hr hlocks hin hsz hP hK hD hN hl => ?_)
  obtain ⟨hx, hb, hml, hown, htl⟩ := id C0
  subst hsz
  have hD := hD.self (sz := s.heap.size)
  generalize hAe : va_A (yW G S d) s.heap.size = A at hD ⊢
  have hA : ∀ q : Nat, s.heap.size ≤ q → A q := fun q h => by rw [← hAe]; exact Or.inr h
  have hS : va_S A s.heap s.heap [] := va_S.rf
  have hg0 : yAg S [4, 8, 24] d d := yAg.rf
  have hl : lv_has ls 7 [(0, .ref q0), (1, .int p0), (2, .int p1), (3, .int p2), (4, .int p3)] := hl
  refine lv_iload_n hx hb dX8_office_0 rfl (lv_at hl 2 rfl) ?_
  refine lv_iconst (v := 0) hx hb dX8_office_1 (by decide) ?_
  refine lv_sipush (v := 1440) hx hb dX8_office_2 (by decide) ?_
  refine ySri (As := [.int p1, .int 0, .int 1440]) (rest := []) C0 (g_X8_within l G S d p1 0 1440 ) ok_X8_within (mW193 : Cond.methodLink RX8 71 yX8_within ∈ wsT) ⟨Nat.le_of_ble_eq_true rfl, Nat.le_of_ble_eq_true rfl⟩ hP hD hK hN rfl hl.1 rfl (Nat.le_of_ble_eq_true rfl) ⟨Nat.le_of_ble_eq_true rfl, Nat.le_of_ble_eq_true rfl⟩ dX8_office_5 (fun r_1 hr_1 => ?_)
  have hL_2 : (0 : Int32).toInt = 0 := by decide +kernel
  have hL_3 : (1440 : Int32).toInt = 1440 := by decide +kernel
  have tr_1 := tw_ hr_1
  refine lv_if_eq (tgt := 37) hx hb dX8_office_8 (by decide) (fun c_4 => ?_) (fun c_4 => ?_)
  · refine lv_iconst (v := 0) hx hb dX8_office_37 (by decide) ?_
    refine lv_istore (lv' := [(5, .int 0), (0, .ref q0), (1, .int p0), (2, .int p1), (3, .int p2), (4, .int p3)]) hx hb dX8_office_38 hl (by decide) rfl (fun ls hl => ?_)
    refine lv_aload_n hx hb dX8_office_40 rfl (lv_at hl 1 rfl) ?_
    refine lv_aload_n hx hb dX8_office_41 rfl (lv_at hl 1 rfl) ?_
    refine lv_iload_n hx hb dX8_office_42 rfl (lv_at hl 2 rfl) ?_
    refine yVri (As := [.int p0]) (rest := [.ref q0]) C0 (g_X8_portReason l G S d q0 p0 hSh hm_q0 hk_q0) ok_X8_portReason (mW374 : Cond.methodLink RX8 124 yX8_portReason ∈ wsT) ⟨Nat.le_of_ble_eq_true rfl, Nat.le_of_ble_eq_true rfl⟩ hP hD hK hN hm_q0 hk_q0 (by decide) rfl rfl rfl hl.1 rfl (Nat.le_of_ble_eq_true rfl) ⟨Nat.le_of_ble_eq_true rfl, Nat.le_of_ble_eq_true rfl⟩ dX8_office_43 (fun r_5 hr_5 => ?_)
    have tr_5 := tp_ hr_5
    refine lv_iload hx hb dX8_office_46 (lv_at hl 0 rfl) ?_
    refine ySri (As := [.int 0]) (rest := [.int r_5, .ref q0]) C0 (g_X8_number l G S d 0 ) ok_X8_number (mW196 : Cond.methodLink RX8 54 yX8_number ∈ wsT) ⟨Nat.le_of_ble_eq_true rfl, Nat.le_of_ble_eq_true rfl⟩ hP hD hK hN rfl hl.1 rfl (Nat.le_of_ble_eq_true rfl) ⟨Nat.le_of_ble_eq_true rfl, Nat.le_of_ble_eq_true rfl⟩ dX8_office_48 (fun r_6 hr_6 => ?_)
    have tr_6 := tn_ hr_6
    refine ySri (As := [.int r_5, .int r_6]) (rest := [.ref q0]) C0 (g_X8_least l G S d r_5 r_6 ) ok_X8_least (mW199 : Cond.methodLink RX8 58 yX8_least ∈ wsT) ⟨Nat.le_of_ble_eq_true rfl, Nat.le_of_ble_eq_true rfl⟩ hP hD hK hN rfl hl.1 rfl (Nat.le_of_ble_eq_true rfl) ⟨Nat.le_of_ble_eq_true rfl, Nat.le_of_ble_eq_true rfl⟩ dX8_office_51 (fun r_7 hr_7 => ?_)
    have tr_7 := tl_ hr_7
    refine yVwi (As := [.int r_7]) (rest := []) C0 (g_X8_refused l G S d q0 r_7 hSh hPo hm_q0 hk_q0) ok_X8_refused (mW160 : Cond.methodLink RX8 42 yX8_refused ∈ wsT) ⟨Nat.le_of_ble_eq_true rfl, Nat.le_of_ble_eq_true rfl⟩ hP hD hS hA hK hN hm_q0 hk_q0 (by decide) rfl rfl rfl hl.1 rfl (Nat.le_of_ble_eq_true rfl) ⟨Nat.le_of_ble_eq_true rfl, Nat.le_of_ble_eq_true rfl⟩ dX8_office_54 (fun r_8 d_9 H locs hr_8 hP hD hS => ?_)
    obtain ⟨hgad_9, hpad_9, hxd_9⟩ := hr_8
    have hgd_9 : yAg S [4, 8, 24] d d_9 := yAg.tr hg0 hgad_9 (by first | decide | exact fun _ h => h)
    have hPod_9 : yPo S d_9 := hpad_9 hPo
    have tr_8 := tr_ hxd_9.1
    refine lv_if_eq (tgt := 62) hx hb dX8_office_57 (by decide) (fun c_10 => ?_) (fun c_10 => ?_)
    · refine lv_aload_n hx hb dX8_office_62 rfl (lv_at hl 1 rfl) ?_
      refine yget (ci := 8) (k := 0) (v := .ref (S.2.2.1 q0 0)) (C := RX8) (T := TX8) (N := 6) C0 hK hP hm_q0 hk_q0 (by decide) rfl inlX8 (by decide) mW16 (fun _ h9 => h9) rfl dX8_office_63 ?_
      obtain ⟨hmy_11, hky_11⟩ := ySh.f8_0 hSh _ hm_q0 hk_q0
      refine lv_iload_n hx hb dX8_office_66 rfl (lv_at hl 2 rfl) ?_
      refine yVrr (As := [.int p0]) (rest := []) C0 (g_X0_portAt l G S d_9 (S.2.2.1 q0 0) p0 hSh hmy_11 hky_11) ok_X0_portAt (mW337 : Cond.methodLink RX8 114 yX0_portAt ∈ wsT) ⟨Nat.le_of_ble_eq_true rfl, Nat.le_of_ble_eq_true rfl⟩ hP hD hK hN hmy_11 hky_11 (by decide) rfl rfl rfl hl.1 rfl (Nat.le_of_ble_eq_true rfl) ⟨Nat.le_of_ble_eq_true rfl, Nat.le_of_ble_eq_true rfl⟩ dX8_office_67 (fun r_12 hr_12 => ?_)
      obtain ⟨hmr_12, hkr_12, her_12⟩ := hr_12
      refine lv_astore (lv' := [(6, .ref r_12), (5, .int 0), (0, .ref q0), (1, .int p0), (2, .int p1), (3, .int p2), (4, .int p3)]) hx hb dX8_office_70 hl (by decide) rfl (fun ls hl => ?_)
      refine lv_aload hx hb dX8_office_72 (lv_at hl 0 rfl) ?_
      refine lv_iload_n hx hb dX8_office_74 rfl (lv_at hl 4 rfl) ?_
      refine yputI (ci := 4) (k := 4) (ty := .int) (C := RX4) (T := TX4) (N := 11) C0 hK hP hD hS hmr_12 hkr_12 (by decide) rfl inlX4 tyX4 tyX4_ok nmX4 (by decide) mW522 (fun _ h9 => h9) rfl (by decide +kernel) rfl rfl (Nat.le_of_ble_eq_true rfl) ysi_4_4 dX8_office_75 (fun H locs hP hD hS => ?_)
      obtain ⟨d_13, ed_13⟩ : ∃ z : yD, z = yi d_9 r_12 4 p1 := ⟨_, rfl⟩
      rw [← ed_13] at hP hD
      have hgd_13 : yAg S [4, 8, 24] d d_13 := by rw [ed_13]; exact yAg.i hgd_9 (by rw [hkr_12]; decide)
      have hsd_13 : yAg S [4] d_9 d_13 := by rw [ed_13]; exact yAg.i yAg.rf (by rw [hkr_12]; decide)
      have hPod_13 : yPo S d_13 := by rw [ed_13]; exact yPo.i hPod_9 hkr_12 (Or.inl rfl)
      refine lv_aload hx hb dX8_office_78 (lv_at hl 0 rfl) ?_
      refine lv_iload_n hx hb dX8_office_80 rfl (lv_at hl 5 rfl) ?_
      refine yputI (ci := 4) (k := 5) (ty := .int) (C := RX4) (T := TX4) (N := 11) C0 hK hP hD hS hmr_12 hkr_12 (by decide) rfl inlX4 tyX4 tyX4_ok nmX4 (by decide) mW523 (fun _ h9 => h9) rfl (by decide +kernel) rfl rfl (Nat.le_of_ble_eq_true rfl) ysi_4_5 dX8_office_81 (fun H locs hP hD hS => ?_)
      obtain ⟨d_14, ed_14⟩ : ∃ z : yD, z = yi d_13 r_12 5 p2 := ⟨_, rfl⟩
      rw [← ed_14] at hP hD
      have hgd_14 : yAg S [4, 8, 24] d d_14 := by rw [ed_14]; exact yAg.i hgd_13 (by rw [hkr_12]; decide)
      have hsd_14 : yAg S [4] d_13 d_14 := by rw [ed_14]; exact yAg.i yAg.rf (by rw [hkr_12]; decide)
      have hPod_14 : yPo S d_14 := by rw [ed_14]; exact yPo.i hPod_13 hkr_12 (Or.inl rfl)
      refine lv_aload hx hb dX8_office_84 (lv_at hl 0 rfl) ?_
      refine lv_iload hx hb dX8_office_86 (lv_at hl 6 rfl) ?_
      refine yputI (ci := 4) (k := 6) (ty := .int) (C := RX4) (T := TX4) (N := 11) C0 hK hP hD hS hmr_12 hkr_12 (by decide) rfl inlX4 tyX4 tyX4_ok nmX4 (by decide) mW524 (fun _ h9 => h9) rfl (by decide +kernel) rfl rfl (Nat.le_of_ble_eq_true rfl) ysi_4_6 dX8_office_88 (fun H locs hP hD hS => ?_)
      obtain ⟨d_15, ed_15⟩ : ∃ z : yD, z = yi d_14 r_12 6 p3 := ⟨_, rfl⟩
      rw [← ed_15] at hP hD
      have hgd_15 : yAg S [4, 8, 24] d d_15 := by rw [ed_15]; exact yAg.i hgd_14 (by rw [hkr_12]; decide)
      have hsd_15 : yAg S [4] d_14 d_15 := by rw [ed_15]; exact yAg.i yAg.rf (by rw [hkr_12]; decide)
      have hPod_15 : yPo S d_15 := by rw [ed_15]; exact yPo.i hPod_14 hkr_12 (Or.inl rfl)
      refine lv_iconst (v := 1) hx hb dX8_office_91 (by decide) ?_
      have F_16 := feq (rfl : (r_1 : Int32).toInt = (r_1 : Int32).toInt) (by decide +kernel : (0 : Int32).toInt = 0) c_4
      have F_17 := feq (rfl : (r_8 : Int32).toInt = (r_8 : Int32).toInt) (by decide +kernel : (0 : Int32).toInt = 0) c_10
      exact W.zret (v := 1) (ty := .boolean) hx hb hr rfl (fun t ht hW => ⟨⟨1, d_15, rfl, ⟨hgd_15, (fun _ => hPod_15), ⟨Or.inr ⟨by have h0_ : (1 : Int32).toInt = 1 := (by decide +kernel); omega, by omega, (fun a ha => (o3 (o3 (o3 (yf42 (yAg.o hgad_9 (a := a) (by rw [ha]; decide))) (show d_13.1 a 2 = d_9.1 a 2 ∧ d_13.1 a 3 = d_9.1 a 3 ∧ d_13.2.1 a 8 = d_9.2.1 a 8 by rw [ed_13]; exact ⟨yi_ne (by decide), yi_ne (by decide), rfl⟩)) (show d_14.1 a 2 = d_13.1 a 2 ∧ d_14.1 a 3 = d_13.1 a 3 ∧ d_14.2.1 a 8 = d_13.2.1 a 8 by rw [ed_14]; exact ⟨yi_ne (by decide), yi_ne (by decide), rfl⟩)) (show d_15.1 a 2 = d_14.1 a 2 ∧ d_15.1 a 3 = d_14.1 a 3 ∧ d_15.2.1 a 8 = d_14.2.1 a 8 by rw [ed_15]; exact ⟨yi_ne (by decide), yi_ne (by decide), rfl⟩)))⟩, ((congrFun (hsd_15 q0 (by rw [hk_q0]; decide)).1 4).trans ((congrFun (hsd_14 q0 (by rw [hk_q0]; decide)).1 4).trans ((congrFun (hsd_13 q0 (by rw [hk_q0]; decide)).1 4).trans (hxd_9.2))))⟩⟩, by rw [ht]; exact hP, hD⟩, hS.F ht⟩) hS.2.2 dX8_office_92
    · refine lv_iconst (v := 0) hx hb dX8_office_60 (by decide) ?_
      have F_18 := feq (rfl : (r_1 : Int32).toInt = (r_1 : Int32).toInt) (by decide +kernel : (0 : Int32).toInt = 0) c_4
      have F_19 := fne (rfl : (r_8 : Int32).toInt = (r_8 : Int32).toInt) (by decide +kernel : (0 : Int32).toInt = 0) c_10
      exact W.zret (v := 0) (ty := .boolean) hx hb hr rfl (fun t ht hW => ⟨⟨0, d_9, rfl, ⟨hgd_9, (fun _ => hPod_9), ⟨Or.inl ⟨by have h0_ : (0 : Int32).toInt = 0 := (by decide +kernel); omega, by omega, (fun a ha => (yf42 (yAg.o hgad_9 (a := a) (by rw [ha]; decide))))⟩, (hxd_9.2)⟩⟩, by rw [ht]; exact hP, hD⟩, hS.F ht⟩) hS.2.2 dX8_office_61
  · refine lv_iload_n hx hb dX8_office_11 rfl (lv_at hl 3 rfl) ?_
    refine lv_iconst (v := 0) hx hb dX8_office_12 (by decide) ?_
    refine lv_sipush (v := 1440) hx hb dX8_office_13 (by decide) ?_
    refine ySri (As := [.int p2, .int 0, .int 1440]) (rest := []) C0 (g_X8_within l G S d p2 0 1440 ) ok_X8_within (mW193 : Cond.methodLink RX8 71 yX8_within ∈ wsT) ⟨Nat.le_of_ble_eq_true rfl, Nat.le_of_ble_eq_true rfl⟩ hP hD hK hN rfl hl.1 rfl (Nat.le_of_ble_eq_true rfl) ⟨Nat.le_of_ble_eq_true rfl, Nat.le_of_ble_eq_true rfl⟩ dX8_office_16 (fun r_20 hr_20 => ?_)
    have tr_20 := tw_ hr_20
    refine lv_if_eq (tgt := 37) hx hb dX8_office_19 (by decide) (fun c_21 => ?_) (fun c_21 => ?_)
    · refine lv_iconst (v := 0) hx hb dX8_office_37 (by decide) ?_
      refine lv_istore (lv' := [(5, .int 0), (0, .ref q0), (1, .int p0), (2, .int p1), (3, .int p2), (4, .int p3)]) hx hb dX8_office_38 hl (by decide) rfl (fun ls hl => ?_)
      refine lv_aload_n hx hb dX8_office_40 rfl (lv_at hl 1 rfl) ?_
      refine lv_aload_n hx hb dX8_office_41 rfl (lv_at hl 1 rfl) ?_
      refine lv_iload_n hx hb dX8_office_42 rfl (lv_at hl 2 rfl) ?_
      refine yVri (As := [.int p0]) (rest := [.ref q0]) C0 (g_X8_portReason l G S d q0 p0 hSh hm_q0 hk_q0) ok_X8_portReason (mW374 : Cond.methodLink RX8 124 yX8_portReason ∈ wsT) ⟨Nat.le_of_ble_eq_true rfl, Nat.le_of_ble_eq_true rfl⟩ hP hD hK hN hm_q0 hk_q0 (by decide) rfl rfl rfl hl.1 rfl (Nat.le_of_ble_eq_true rfl) ⟨Nat.le_of_ble_eq_true rfl, Nat.le_of_ble_eq_true rfl⟩ dX8_office_43 (fun r_22 hr_22 => ?_)
      have tr_22 := tp_ hr_22
      refine lv_iload hx hb dX8_office_46 (lv_at hl 0 rfl) ?_
      refine ySri (As := [.int 0]) (rest := [.int r_22, .ref q0]) C0 (g_X8_number l G S d 0 ) ok_X8_number (mW196 : Cond.methodLink RX8 54 yX8_number ∈ wsT) ⟨Nat.le_of_ble_eq_true rfl, Nat.le_of_ble_eq_true rfl⟩ hP hD hK hN rfl hl.1 rfl (Nat.le_of_ble_eq_true rfl) ⟨Nat.le_of_ble_eq_true rfl, Nat.le_of_ble_eq_true rfl⟩ dX8_office_48 (fun r_23 hr_23 => ?_)
      have tr_23 := tn_ hr_23
      refine ySri (As := [.int r_22, .int r_23]) (rest := [.ref q0]) C0 (g_X8_least l G S d r_22 r_23 ) ok_X8_least (mW199 : Cond.methodLink RX8 58 yX8_least ∈ wsT) ⟨Nat.le_of_ble_eq_true rfl, Nat.le_of_ble_eq_true rfl⟩ hP hD hK hN rfl hl.1 rfl (Nat.le_of_ble_eq_true rfl) ⟨Nat.le_of_ble_eq_true rfl, Nat.le_of_ble_eq_true rfl⟩ dX8_office_51 (fun r_24 hr_24 => ?_)
      have tr_24 := tl_ hr_24
      refine yVwi (As := [.int r_24]) (rest := []) C0 (g_X8_refused l G S d q0 r_24 hSh hPo hm_q0 hk_q0) ok_X8_refused (mW160 : Cond.methodLink RX8 42 yX8_refused ∈ wsT) ⟨Nat.le_of_ble_eq_true rfl, Nat.le_of_ble_eq_true rfl⟩ hP hD hS hA hK hN hm_q0 hk_q0 (by decide) rfl rfl rfl hl.1 rfl (Nat.le_of_ble_eq_true rfl) ⟨Nat.le_of_ble_eq_true rfl, Nat.le_of_ble_eq_true rfl⟩ dX8_office_54 (fun r_25 d_26 H locs hr_25 hP hD hS => ?_)
      obtain ⟨hgad_26, hpad_26, hxd_26⟩ := hr_25
      have hgd_26 : yAg S [4, 8, 24] d d_26 := yAg.tr hg0 hgad_26 (by first | decide | exact fun _ h => h)
      have hPod_26 : yPo S d_26 := hpad_26 hPo
      have tr_25 := tr_ hxd_26.1
      refine lv_if_eq (tgt := 62) hx hb dX8_office_57 (by decide) (fun c_27 => ?_) (fun c_27 => ?_)
      · refine lv_aload_n hx hb dX8_office_62 rfl (lv_at hl 1 rfl) ?_
        refine yget (ci := 8) (k := 0) (v := .ref (S.2.2.1 q0 0)) (C := RX8) (T := TX8) (N := 6) C0 hK hP hm_q0 hk_q0 (by decide) rfl inlX8 (by decide) mW16 (fun _ h9 => h9) rfl dX8_office_63 ?_
        obtain ⟨hmy_28, hky_28⟩ := ySh.f8_0 hSh _ hm_q0 hk_q0
        refine lv_iload_n hx hb dX8_office_66 rfl (lv_at hl 2 rfl) ?_
        refine yVrr (As := [.int p0]) (rest := []) C0 (g_X0_portAt l G S d_26 (S.2.2.1 q0 0) p0 hSh hmy_28 hky_28) ok_X0_portAt (mW337 : Cond.methodLink RX8 114 yX0_portAt ∈ wsT) ⟨Nat.le_of_ble_eq_true rfl, Nat.le_of_ble_eq_true rfl⟩ hP hD hK hN hmy_28 hky_28 (by decide) rfl rfl rfl hl.1 rfl (Nat.le_of_ble_eq_true rfl) ⟨Nat.le_of_ble_eq_true rfl, Nat.le_of_ble_eq_true rfl⟩ dX8_office_67 (fun r_29 hr_29 => ?_)
        obtain ⟨hmr_29, hkr_29, her_29⟩ := hr_29
        refine lv_astore (lv' := [(6, .ref r_29), (5, .int 0), (0, .ref q0), (1, .int p0), (2, .int p1), (3, .int p2), (4, .int p3)]) hx hb dX8_office_70 hl (by decide) rfl (fun ls hl => ?_)
        refine lv_aload hx hb dX8_office_72 (lv_at hl 0 rfl) ?_
        refine lv_iload_n hx hb dX8_office_74 rfl (lv_at hl 4 rfl) ?_
        refine yputI (ci := 4) (k := 4) (ty := .int) (C := RX4) (T := TX4) (N := 11) C0 hK hP hD hS hmr_29 hkr_29 (by decide) rfl inlX4 tyX4 tyX4_ok nmX4 (by decide) mW522 (fun _ h9 => h9) rfl (by decide +kernel) rfl rfl (Nat.le_of_ble_eq_true rfl) ysi_4_4 dX8_office_75 (fun H locs hP hD hS => ?_)
        obtain ⟨d_30, ed_30⟩ : ∃ z : yD, z = yi d_26 r_29 4 p1 := ⟨_, rfl⟩
        rw [← ed_30] at hP hD
        have hgd_30 : yAg S [4, 8, 24] d d_30 := by rw [ed_30]; exact yAg.i hgd_26 (by rw [hkr_29]; decide)
        have hsd_30 : yAg S [4] d_26 d_30 := by rw [ed_30]; exact yAg.i yAg.rf (by rw [hkr_29]; decide)
        have hPod_30 : yPo S d_30 := by rw [ed_30]; exact yPo.i hPod_26 hkr_29 (Or.inl rfl)
        refine lv_aload hx hb dX8_office_78 (lv_at hl 0 rfl) ?_
        refine lv_iload_n hx hb dX8_office_80 rfl (lv_at hl 5 rfl) ?_
        refine yputI (ci := 4) (k := 5) (ty := .int) (C := RX4) (T := TX4) (N := 11) C0 hK hP hD hS hmr_29 hkr_29 (by decide) rfl inlX4 tyX4 tyX4_ok nmX4 (by decide) mW523 (fun _ h9 => h9) rfl (by decide +kernel) rfl rfl (Nat.le_of_ble_eq_true rfl) ysi_4_5 dX8_office_81 (fun H locs hP hD hS => ?_)
        obtain ⟨d_31, ed_31⟩ : ∃ z : yD, z = yi d_30 r_29 5 p2 := ⟨_, rfl⟩
        rw [← ed_31] at hP hD
        have hgd_31 : yAg S [4, 8, 24] d d_31 := by rw [ed_31]; exact yAg.i hgd_30 (by rw [hkr_29]; decide)
        have hsd_31 : yAg S [4] d_30 d_31 := by rw [ed_31]; exact yAg.i yAg.rf (by rw [hkr_29]; decide)
        have hPod_31 : yPo S d_31 := by rw [ed_31]; exact yPo.i hPod_30 hkr_29 (Or.inl rfl)
        refine lv_aload hx hb dX8_office_84 (lv_at hl 0 rfl) ?_
        refine lv_iload hx hb dX8_office_86 (lv_at hl 6 rfl) ?_
        refine yputI (ci := 4) (k := 6) (ty := .int) (C := RX4) (T := TX4) (N := 11) C0 hK hP hD hS hmr_29 hkr_29 (by decide) rfl inlX4 tyX4 tyX4_ok nmX4 (by decide) mW524 (fun _ h9 => h9) rfl (by decide +kernel) rfl rfl (Nat.le_of_ble_eq_true rfl) ysi_4_6 dX8_office_88 (fun H locs hP hD hS => ?_)
        obtain ⟨d_32, ed_32⟩ : ∃ z : yD, z = yi d_31 r_29 6 p3 := ⟨_, rfl⟩
        rw [← ed_32] at hP hD
        have hgd_32 : yAg S [4, 8, 24] d d_32 := by rw [ed_32]; exact yAg.i hgd_31 (by rw [hkr_29]; decide)
        have hsd_32 : yAg S [4] d_31 d_32 := by rw [ed_32]; exact yAg.i yAg.rf (by rw [hkr_29]; decide)
        have hPod_32 : yPo S d_32 := by rw [ed_32]; exact yPo.i hPod_31 hkr_29 (Or.inl rfl)
        refine lv_iconst (v := 1) hx hb dX8_office_91 (by decide) ?_
        have F_33 := fne (rfl : (r_1 : Int32).toInt = (r_1 : Int32).toInt) (by decide +kernel : (0 : Int32).toInt = 0) c_4
        have F_34 := feq (rfl : (r_20 : Int32).toInt = (r_20 : Int32).toInt) (by decide +kernel : (0 : Int32).toInt = 0) c_21
        have F_35 := feq (rfl : (r_25 : Int32).toInt = (r_25 : Int32).toInt) (by decide +kernel : (0 : Int32).toInt = 0) c_27
        exact W.zret (v := 1) (ty := .boolean) hx hb hr rfl (fun t ht hW => ⟨⟨1, d_32, rfl, ⟨hgd_32, (fun _ => hPod_32), ⟨Or.inr ⟨by have h0_ : (1 : Int32).toInt = 1 := (by decide +kernel); omega, by omega, (fun a ha => (o3 (o3 (o3 (yf42 (yAg.o hgad_26 (a := a) (by rw [ha]; decide))) (show d_30.1 a 2 = d_26.1 a 2 ∧ d_30.1 a 3 = d_26.1 a 3 ∧ d_30.2.1 a 8 = d_26.2.1 a 8 by rw [ed_30]; exact ⟨yi_ne (by decide), yi_ne (by decide), rfl⟩)) (show d_31.1 a 2 = d_30.1 a 2 ∧ d_31.1 a 3 = d_30.1 a 3 ∧ d_31.2.1 a 8 = d_30.2.1 a 8 by rw [ed_31]; exact ⟨yi_ne (by decide), yi_ne (by decide), rfl⟩)) (show d_32.1 a 2 = d_31.1 a 2 ∧ d_32.1 a 3 = d_31.1 a 3 ∧ d_32.2.1 a 8 = d_31.2.1 a 8 by rw [ed_32]; exact ⟨yi_ne (by decide), yi_ne (by decide), rfl⟩)))⟩, ((congrFun (hsd_32 q0 (by rw [hk_q0]; decide)).1 4).trans ((congrFun (hsd_31 q0 (by rw [hk_q0]; decide)).1 4).trans ((congrFun (hsd_30 q0 (by rw [hk_q0]; decide)).1 4).trans (hxd_26.2))))⟩⟩, by rw [ht]; exact hP, hD⟩, hS.F ht⟩) hS.2.2 dX8_office_92
      · refine lv_iconst (v := 0) hx hb dX8_office_60 (by decide) ?_
        have F_36 := fne (rfl : (r_1 : Int32).toInt = (r_1 : Int32).toInt) (by decide +kernel : (0 : Int32).toInt = 0) c_4
        have F_37 := feq (rfl : (r_20 : Int32).toInt = (r_20 : Int32).toInt) (by decide +kernel : (0 : Int32).toInt = 0) c_21
        have F_38 := fne (rfl : (r_25 : Int32).toInt = (r_25 : Int32).toInt) (by decide +kernel : (0 : Int32).toInt = 0) c_27
        exact W.zret (v := 0) (ty := .boolean) hx hb hr rfl (fun t ht hW => ⟨⟨0, d_26, rfl, ⟨hgd_26, (fun _ => hPod_26), ⟨Or.inl ⟨by have h0_ : (0 : Int32).toInt = 0 := (by decide +kernel); omega, by omega, (fun a ha => (yf42 (yAg.o hgad_26 (a := a) (by rw [ha]; decide))))⟩, (hxd_26.2)⟩⟩, by rw [ht]; exact hP, hD⟩, hS.F ht⟩) hS.2.2 dX8_office_61
    · refine lv_iload hx hb dX8_office_22 (lv_at hl 4 rfl) ?_
      refine lv_iconst (v := 0) hx hb dX8_office_24 (by decide) ?_
      refine lv_ldc (v := 100000) hx hb hown (htl (.constant RX8 190 (100000)) mW521) dX8_office_25 ?_
      refine ySri (As := [.int p3, .int 0, .int 100000]) (rest := []) C0 (g_X8_within l G S d p3 0 100000 ) ok_X8_within (mW193 : Cond.methodLink RX8 71 yX8_within ∈ wsT) ⟨Nat.le_of_ble_eq_true rfl, Nat.le_of_ble_eq_true rfl⟩ hP hD hK hN rfl hl.1 rfl (Nat.le_of_ble_eq_true rfl) ⟨Nat.le_of_ble_eq_true rfl, Nat.le_of_ble_eq_true rfl⟩ dX8_office_27 (fun r_39 hr_39 => ?_)
      have hL_40 : (100000 : Int32).toInt = 100000 := by decide +kernel
      have tr_39 := tw_ hr_39
      refine lv_if_eq (tgt := 37) hx hb dX8_office_30 (by decide) (fun c_41 => ?_) (fun c_41 => ?_)
      · refine lv_iconst (v := 0) hx hb dX8_office_37 (by decide) ?_
        refine lv_istore (lv' := [(5, .int 0), (0, .ref q0), (1, .int p0), (2, .int p1), (3, .int p2), (4, .int p3)]) hx hb dX8_office_38 hl (by decide) rfl (fun ls hl => ?_)
        refine lv_aload_n hx hb dX8_office_40 rfl (lv_at hl 1 rfl) ?_
        refine lv_aload_n hx hb dX8_office_41 rfl (lv_at hl 1 rfl) ?_
        refine lv_iload_n hx hb dX8_office_42 rfl (lv_at hl 2 rfl) ?_
        refine yVri (As := [.int p0]) (rest := [.ref q0]) C0 (g_X8_portReason l G S d q0 p0 hSh hm_q0 hk_q0) ok_X8_portReason (mW374 : Cond.methodLink RX8 124 yX8_portReason ∈ wsT) ⟨Nat.le_of_ble_eq_true rfl, Nat.le_of_ble_eq_true rfl⟩ hP hD hK hN hm_q0 hk_q0 (by decide) rfl rfl rfl hl.1 rfl (Nat.le_of_ble_eq_true rfl) ⟨Nat.le_of_ble_eq_true rfl, Nat.le_of_ble_eq_true rfl⟩ dX8_office_43 (fun r_42 hr_42 => ?_)
        have tr_42 := tp_ hr_42
        refine lv_iload hx hb dX8_office_46 (lv_at hl 0 rfl) ?_
        refine ySri (As := [.int 0]) (rest := [.int r_42, .ref q0]) C0 (g_X8_number l G S d 0 ) ok_X8_number (mW196 : Cond.methodLink RX8 54 yX8_number ∈ wsT) ⟨Nat.le_of_ble_eq_true rfl, Nat.le_of_ble_eq_true rfl⟩ hP hD hK hN rfl hl.1 rfl (Nat.le_of_ble_eq_true rfl) ⟨Nat.le_of_ble_eq_true rfl, Nat.le_of_ble_eq_true rfl⟩ dX8_office_48 (fun r_43 hr_43 => ?_)
        have tr_43 := tn_ hr_43
        refine ySri (As := [.int r_42, .int r_43]) (rest := [.ref q0]) C0 (g_X8_least l G S d r_42 r_43 ) ok_X8_least (mW199 : Cond.methodLink RX8 58 yX8_least ∈ wsT) ⟨Nat.le_of_ble_eq_true rfl, Nat.le_of_ble_eq_true rfl⟩ hP hD hK hN rfl hl.1 rfl (Nat.le_of_ble_eq_true rfl) ⟨Nat.le_of_ble_eq_true rfl, Nat.le_of_ble_eq_true rfl⟩ dX8_office_51 (fun r_44 hr_44 => ?_)
        have tr_44 := tl_ hr_44
        refine yVwi (As := [.int r_44]) (rest := []) C0 (g_X8_refused l G S d q0 r_44 hSh hPo hm_q0 hk_q0) ok_X8_refused (mW160 : Cond.methodLink RX8 42 yX8_refused ∈ wsT) ⟨Nat.le_of_ble_eq_true rfl, Nat.le_of_ble_eq_true rfl⟩ hP hD hS hA hK hN hm_q0 hk_q0 (by decide) rfl rfl rfl hl.1 rfl (Nat.le_of_ble_eq_true rfl) ⟨Nat.le_of_ble_eq_true rfl, Nat.le_of_ble_eq_true rfl⟩ dX8_office_54 (fun r_45 d_46 H locs hr_45 hP hD hS => ?_)
        obtain ⟨hgad_46, hpad_46, hxd_46⟩ := hr_45
        have hgd_46 : yAg S [4, 8, 24] d d_46 := yAg.tr hg0 hgad_46 (by first | decide | exact fun _ h => h)
        have hPod_46 : yPo S d_46 := hpad_46 hPo
        have tr_45 := tr_ hxd_46.1
        refine lv_if_eq (tgt := 62) hx hb dX8_office_57 (by decide) (fun c_47 => ?_) (fun c_47 => ?_)
        · refine lv_aload_n hx hb dX8_office_62 rfl (lv_at hl 1 rfl) ?_
          refine yget (ci := 8) (k := 0) (v := .ref (S.2.2.1 q0 0)) (C := RX8) (T := TX8) (N := 6) C0 hK hP hm_q0 hk_q0 (by decide) rfl inlX8 (by decide) mW16 (fun _ h9 => h9) rfl dX8_office_63 ?_
          obtain ⟨hmy_48, hky_48⟩ := ySh.f8_0 hSh _ hm_q0 hk_q0
          refine lv_iload_n hx hb dX8_office_66 rfl (lv_at hl 2 rfl) ?_
          refine yVrr (As := [.int p0]) (rest := []) C0 (g_X0_portAt l G S d_46 (S.2.2.1 q0 0) p0 hSh hmy_48 hky_48) ok_X0_portAt (mW337 : Cond.methodLink RX8 114 yX0_portAt ∈ wsT) ⟨Nat.le_of_ble_eq_true rfl, Nat.le_of_ble_eq_true rfl⟩ hP hD hK hN hmy_48 hky_48 (by decide) rfl rfl rfl hl.1 rfl (Nat.le_of_ble_eq_true rfl) ⟨Nat.le_of_ble_eq_true rfl, Nat.le_of_ble_eq_true rfl⟩ dX8_office_67 (fun r_49 hr_49 => ?_)
          obtain ⟨hmr_49, hkr_49, her_49⟩ := hr_49
          refine lv_astore (lv' := [(6, .ref r_49), (5, .int 0), (0, .ref q0), (1, .int p0), (2, .int p1), (3, .int p2), (4, .int p3)]) hx hb dX8_office_70 hl (by decide) rfl (fun ls hl => ?_)
          refine lv_aload hx hb dX8_office_72 (lv_at hl 0 rfl) ?_
          refine lv_iload_n hx hb dX8_office_74 rfl (lv_at hl 4 rfl) ?_
          refine yputI (ci := 4) (k := 4) (ty := .int) (C := RX4) (T := TX4) (N := 11) C0 hK hP hD hS hmr_49 hkr_49 (by decide) rfl inlX4 tyX4 tyX4_ok nmX4 (by decide) mW522 (fun _ h9 => h9) rfl (by decide +kernel) rfl rfl (Nat.le_of_ble_eq_true rfl) ysi_4_4 dX8_office_75 (fun H locs hP hD hS => ?_)
          obtain ⟨d_50, ed_50⟩ : ∃ z : yD, z = yi d_46 r_49 4 p1 := ⟨_, rfl⟩
          rw [← ed_50] at hP hD
          have hgd_50 : yAg S [4, 8, 24] d d_50 := by rw [ed_50]; exact yAg.i hgd_46 (by rw [hkr_49]; decide)
          have hsd_50 : yAg S [4] d_46 d_50 := by rw [ed_50]; exact yAg.i yAg.rf (by rw [hkr_49]; decide)
          have hPod_50 : yPo S d_50 := by rw [ed_50]; exact yPo.i hPod_46 hkr_49 (Or.inl rfl)
          refine lv_aload hx hb dX8_office_78 (lv_at hl 0 rfl) ?_
          refine lv_iload_n hx hb dX8_office_80 rfl (lv_at hl 5 rfl) ?_
          refine yputI (ci := 4) (k := 5) (ty := .int) (C := RX4) (T := TX4) (N := 11) C0 hK hP hD hS hmr_49 hkr_49 (by decide) rfl inlX4 tyX4 tyX4_ok nmX4 (by decide) mW523 (fun _ h9 => h9) rfl (by decide +kernel) rfl rfl (Nat.le_of_ble_eq_true rfl) ysi_4_5 dX8_office_81 (fun H locs hP hD hS => ?_)
          obtain ⟨d_51, ed_51⟩ : ∃ z : yD, z = yi d_50 r_49 5 p2 := ⟨_, rfl⟩
          rw [← ed_51] at hP hD
          have hgd_51 : yAg S [4, 8, 24] d d_51 := by rw [ed_51]; exact yAg.i hgd_50 (by rw [hkr_49]; decide)
          have hsd_51 : yAg S [4] d_50 d_51 := by rw [ed_51]; exact yAg.i yAg.rf (by rw [hkr_49]; decide)
          have hPod_51 : yPo S d_51 := by rw [ed_51]; exact yPo.i hPod_50 hkr_49 (Or.inl rfl)
          refine lv_aload hx hb dX8_office_84 (lv_at hl 0 rfl) ?_
          refine lv_iload hx hb dX8_office_86 (lv_at hl 6 rfl) ?_
          refine yputI (ci := 4) (k := 6) (ty := .int) (C := RX4) (T := TX4) (N := 11) C0 hK hP hD hS hmr_49 hkr_49 (by decide) rfl inlX4 tyX4 tyX4_ok nmX4 (by decide) mW524 (fun _ h9 => h9) rfl (by decide +kernel) rfl rfl (Nat.le_of_ble_eq_true rfl) ysi_4_6 dX8_office_88 (fun H locs hP hD hS => ?_)
          obtain ⟨d_52, ed_52⟩ : ∃ z : yD, z = yi d_51 r_49 6 p3 := ⟨_, rfl⟩
          rw [← ed_52] at hP hD
          have hgd_52 : yAg S [4, 8, 24] d d_52 := by rw [ed_52]; exact yAg.i hgd_51 (by rw [hkr_49]; decide)
          have hsd_52 : yAg S [4] d_51 d_52 := by rw [ed_52]; exact yAg.i yAg.rf (by rw [hkr_49]; decide)
          have hPod_52 : yPo S d_52 := by rw [ed_52]; exact yPo.i hPod_51 hkr_49 (Or.inl rfl)
          refine lv_iconst (v := 1) hx hb dX8_office_91 (by decide) ?_
          have F_53 := fne (rfl : (r_1 : Int32).toInt = (r_1 : Int32).toInt) (by decide +kernel : (0 : Int32).toInt = 0) c_4
          have F_54 := fne (rfl : (r_20 : Int32).toInt = (r_20 : Int32).toInt) (by decide +kernel : (0 : Int32).toInt = 0) c_21
          have F_55 := feq (rfl : (r_39 : Int32).toInt = (r_39 : Int32).toInt) (by decide +kernel : (0 : Int32).toInt = 0) c_41
          have F_56 := feq (rfl : (r_45 : Int32).toInt = (r_45 : Int32).toInt) (by decide +kernel : (0 : Int32).toInt = 0) c_47
          exact W.zret (v := 1) (ty := .boolean) hx hb hr rfl (fun t ht hW => ⟨⟨1, d_52, rfl, ⟨hgd_52, (fun _ => hPod_52), ⟨Or.inr ⟨by have h0_ : (1 : Int32).toInt = 1 := (by decide +kernel); omega, by omega, (fun a ha => (o3 (o3 (o3 (yf42 (yAg.o hgad_46 (a := a) (by rw [ha]; decide))) (show d_50.1 a 2 = d_46.1 a 2 ∧ d_50.1 a 3 = d_46.1 a 3 ∧ d_50.2.1 a 8 = d_46.2.1 a 8 by rw [ed_50]; exact ⟨yi_ne (by decide), yi_ne (by decide), rfl⟩)) (show d_51.1 a 2 = d_50.1 a 2 ∧ d_51.1 a 3 = d_50.1 a 3 ∧ d_51.2.1 a 8 = d_50.2.1 a 8 by rw [ed_51]; exact ⟨yi_ne (by decide), yi_ne (by decide), rfl⟩)) (show d_52.1 a 2 = d_51.1 a 2 ∧ d_52.1 a 3 = d_51.1 a 3 ∧ d_52.2.1 a 8 = d_51.2.1 a 8 by rw [ed_52]; exact ⟨yi_ne (by decide), yi_ne (by decide), rfl⟩)))⟩, ((congrFun (hsd_52 q0 (by rw [hk_q0]; decide)).1 4).trans ((congrFun (hsd_51 q0 (by rw [hk_q0]; decide)).1 4).trans ((congrFun (hsd_50 q0 (by rw [hk_q0]; decide)).1 4).trans (hxd_46.2))))⟩⟩, by rw [ht]; exact hP, hD⟩, hS.F ht⟩) hS.2.2 dX8_office_92
        · refine lv_iconst (v := 0) hx hb dX8_office_60 (by decide) ?_
          have F_57 := fne (rfl : (r_1 : Int32).toInt = (r_1 : Int32).toInt) (by decide +kernel : (0 : Int32).toInt = 0) c_4
          have F_58 := fne (rfl : (r_20 : Int32).toInt = (r_20 : Int32).toInt) (by decide +kernel : (0 : Int32).toInt = 0) c_21
          have F_59 := feq (rfl : (r_39 : Int32).toInt = (r_39 : Int32).toInt) (by decide +kernel : (0 : Int32).toInt = 0) c_41
          have F_60 := fne (rfl : (r_45 : Int32).toInt = (r_45 : Int32).toInt) (by decide +kernel : (0 : Int32).toInt = 0) c_47
          exact W.zret (v := 0) (ty := .boolean) hx hb hr rfl (fun t ht hW => ⟨⟨0, d_46, rfl, ⟨hgd_46, (fun _ => hPod_46), ⟨Or.inl ⟨by have h0_ : (0 : Int32).toInt = 0 := (by decide +kernel); omega, by omega, (fun a ha => (yf42 (yAg.o hgad_46 (a := a) (by rw [ha]; decide))))⟩, (hxd_46.2)⟩⟩, by rw [ht]; exact hP, hD⟩, hS.F ht⟩) hS.2.2 dX8_office_61
      · refine lv_iconst (v := 1) hx hb dX8_office_33 (by decide) ?_
        refine lv_goto (tgt := 38) hx hb dX8_office_34 (by decide) ?_
        refine lv_istore (lv' := [(5, .int 1), (0, .ref q0), (1, .int p0), (2, .int p1), (3, .int p2), (4, .int p3)]) hx hb dX8_office_38 hl (by decide) rfl (fun ls hl => ?_)
        refine lv_aload_n hx hb dX8_office_40 rfl (lv_at hl 1 rfl) ?_
        refine lv_aload_n hx hb dX8_office_41 rfl (lv_at hl 1 rfl) ?_
        refine lv_iload_n hx hb dX8_office_42 rfl (lv_at hl 2 rfl) ?_
        refine yVri (As := [.int p0]) (rest := [.ref q0]) C0 (g_X8_portReason l G S d q0 p0 hSh hm_q0 hk_q0) ok_X8_portReason (mW374 : Cond.methodLink RX8 124 yX8_portReason ∈ wsT) ⟨Nat.le_of_ble_eq_true rfl, Nat.le_of_ble_eq_true rfl⟩ hP hD hK hN hm_q0 hk_q0 (by decide) rfl rfl rfl hl.1 rfl (Nat.le_of_ble_eq_true rfl) ⟨Nat.le_of_ble_eq_true rfl, Nat.le_of_ble_eq_true rfl⟩ dX8_office_43 (fun r_61 hr_61 => ?_)
        have tr_61 := tp_ hr_61
        refine lv_iload hx hb dX8_office_46 (lv_at hl 0 rfl) ?_
        refine ySri (As := [.int 1]) (rest := [.int r_61, .ref q0]) C0 (g_X8_number l G S d 1 ) ok_X8_number (mW196 : Cond.methodLink RX8 54 yX8_number ∈ wsT) ⟨Nat.le_of_ble_eq_true rfl, Nat.le_of_ble_eq_true rfl⟩ hP hD hK hN rfl hl.1 rfl (Nat.le_of_ble_eq_true rfl) ⟨Nat.le_of_ble_eq_true rfl, Nat.le_of_ble_eq_true rfl⟩ dX8_office_48 (fun r_62 hr_62 => ?_)
        have hL_63 : (1 : Int32).toInt = 1 := by decide +kernel
        have tr_62 := tn_ hr_62
        refine ySri (As := [.int r_61, .int r_62]) (rest := [.ref q0]) C0 (g_X8_least l G S d r_61 r_62 ) ok_X8_least (mW199 : Cond.methodLink RX8 58 yX8_least ∈ wsT) ⟨Nat.le_of_ble_eq_true rfl, Nat.le_of_ble_eq_true rfl⟩ hP hD hK hN rfl hl.1 rfl (Nat.le_of_ble_eq_true rfl) ⟨Nat.le_of_ble_eq_true rfl, Nat.le_of_ble_eq_true rfl⟩ dX8_office_51 (fun r_64 hr_64 => ?_)
        have tr_64 := tl_ hr_64
        refine yVwi (As := [.int r_64]) (rest := []) C0 (g_X8_refused l G S d q0 r_64 hSh hPo hm_q0 hk_q0) ok_X8_refused (mW160 : Cond.methodLink RX8 42 yX8_refused ∈ wsT) ⟨Nat.le_of_ble_eq_true rfl, Nat.le_of_ble_eq_true rfl⟩ hP hD hS hA hK hN hm_q0 hk_q0 (by decide) rfl rfl rfl hl.1 rfl (Nat.le_of_ble_eq_true rfl) ⟨Nat.le_of_ble_eq_true rfl, Nat.le_of_ble_eq_true rfl⟩ dX8_office_54 (fun r_65 d_66 H locs hr_65 hP hD hS => ?_)
        obtain ⟨hgad_66, hpad_66, hxd_66⟩ := hr_65
        have hgd_66 : yAg S [4, 8, 24] d d_66 := yAg.tr hg0 hgad_66 (by first | decide | exact fun _ h => h)
        have hPod_66 : yPo S d_66 := hpad_66 hPo
        have tr_65 := tr_ hxd_66.1
        refine lv_if_eq (tgt := 62) hx hb dX8_office_57 (by decide) (fun c_67 => ?_) (fun c_67 => ?_)
        · refine lv_aload_n hx hb dX8_office_62 rfl (lv_at hl 1 rfl) ?_
          refine yget (ci := 8) (k := 0) (v := .ref (S.2.2.1 q0 0)) (C := RX8) (T := TX8) (N := 6) C0 hK hP hm_q0 hk_q0 (by decide) rfl inlX8 (by decide) mW16 (fun _ h9 => h9) rfl dX8_office_63 ?_
          obtain ⟨hmy_68, hky_68⟩ := ySh.f8_0 hSh _ hm_q0 hk_q0
          refine lv_iload_n hx hb dX8_office_66 rfl (lv_at hl 2 rfl) ?_
          refine yVrr (As := [.int p0]) (rest := []) C0 (g_X0_portAt l G S d_66 (S.2.2.1 q0 0) p0 hSh hmy_68 hky_68) ok_X0_portAt (mW337 : Cond.methodLink RX8 114 yX0_portAt ∈ wsT) ⟨Nat.le_of_ble_eq_true rfl, Nat.le_of_ble_eq_true rfl⟩ hP hD hK hN hmy_68 hky_68 (by decide) rfl rfl rfl hl.1 rfl (Nat.le_of_ble_eq_true rfl) ⟨Nat.le_of_ble_eq_true rfl, Nat.le_of_ble_eq_true rfl⟩ dX8_office_67 (fun r_69 hr_69 => ?_)
          obtain ⟨hmr_69, hkr_69, her_69⟩ := hr_69
          refine lv_astore (lv' := [(6, .ref r_69), (5, .int 1), (0, .ref q0), (1, .int p0), (2, .int p1), (3, .int p2), (4, .int p3)]) hx hb dX8_office_70 hl (by decide) rfl (fun ls hl => ?_)
          refine lv_aload hx hb dX8_office_72 (lv_at hl 0 rfl) ?_
          refine lv_iload_n hx hb dX8_office_74 rfl (lv_at hl 4 rfl) ?_
          refine yputI (ci := 4) (k := 4) (ty := .int) (C := RX4) (T := TX4) (N := 11) C0 hK hP hD hS hmr_69 hkr_69 (by decide) rfl inlX4 tyX4 tyX4_ok nmX4 (by decide) mW522 (fun _ h9 => h9) rfl (by decide +kernel) rfl rfl (Nat.le_of_ble_eq_true rfl) ysi_4_4 dX8_office_75 (fun H locs hP hD hS => ?_)
          obtain ⟨d_70, ed_70⟩ : ∃ z : yD, z = yi d_66 r_69 4 p1 := ⟨_, rfl⟩
          rw [← ed_70] at hP hD
          have hgd_70 : yAg S [4, 8, 24] d d_70 := by rw [ed_70]; exact yAg.i hgd_66 (by rw [hkr_69]; decide)
          have hsd_70 : yAg S [4] d_66 d_70 := by rw [ed_70]; exact yAg.i yAg.rf (by rw [hkr_69]; decide)
          have hPod_70 : yPo S d_70 := by rw [ed_70]; exact yPo.i hPod_66 hkr_69 (Or.inl rfl)
          refine lv_aload hx hb dX8_office_78 (lv_at hl 0 rfl) ?_
          refine lv_iload_n hx hb dX8_office_80 rfl (lv_at hl 5 rfl) ?_
          refine yputI (ci := 4) (k := 5) (ty := .int) (C := RX4) (T := TX4) (N := 11) C0 hK hP hD hS hmr_69 hkr_69 (by decide) rfl inlX4 tyX4 tyX4_ok nmX4 (by decide) mW523 (fun _ h9 => h9) rfl (by decide +kernel) rfl rfl (Nat.le_of_ble_eq_true rfl) ysi_4_5 dX8_office_81 (fun H locs hP hD hS => ?_)
          obtain ⟨d_71, ed_71⟩ : ∃ z : yD, z = yi d_70 r_69 5 p2 := ⟨_, rfl⟩
          rw [← ed_71] at hP hD
          have hgd_71 : yAg S [4, 8, 24] d d_71 := by rw [ed_71]; exact yAg.i hgd_70 (by rw [hkr_69]; decide)
          have hsd_71 : yAg S [4] d_70 d_71 := by rw [ed_71]; exact yAg.i yAg.rf (by rw [hkr_69]; decide)
          have hPod_71 : yPo S d_71 := by rw [ed_71]; exact yPo.i hPod_70 hkr_69 (Or.inl rfl)
          refine lv_aload hx hb dX8_office_84 (lv_at hl 0 rfl) ?_
          refine lv_iload hx hb dX8_office_86 (lv_at hl 6 rfl) ?_
          refine yputI (ci := 4) (k := 6) (ty := .int) (C := RX4) (T := TX4) (N := 11) C0 hK hP hD hS hmr_69 hkr_69 (by decide) rfl inlX4 tyX4 tyX4_ok nmX4 (by decide) mW524 (fun _ h9 => h9) rfl (by decide +kernel) rfl rfl (Nat.le_of_ble_eq_true rfl) ysi_4_6 dX8_office_88 (fun H locs hP hD hS => ?_)
          obtain ⟨d_72, ed_72⟩ : ∃ z : yD, z = yi d_71 r_69 6 p3 := ⟨_, rfl⟩
          rw [← ed_72] at hP hD
          have hgd_72 : yAg S [4, 8, 24] d d_72 := by rw [ed_72]; exact yAg.i hgd_71 (by rw [hkr_69]; decide)
          have hsd_72 : yAg S [4] d_71 d_72 := by rw [ed_72]; exact yAg.i yAg.rf (by rw [hkr_69]; decide)
          have hPod_72 : yPo S d_72 := by rw [ed_72]; exact yPo.i hPod_71 hkr_69 (Or.inl rfl)
          refine lv_iconst (v := 1) hx hb dX8_office_91 (by decide) ?_
          have F_73 := fne (rfl : (r_1 : Int32).toInt = (r_1 : Int32).toInt) (by decide +kernel : (0 : Int32).toInt = 0) c_4
          have F_74 := fne (rfl : (r_20 : Int32).toInt = (r_20 : Int32).toInt) (by decide +kernel : (0 : Int32).toInt = 0) c_21
          have F_75 := fne (rfl : (r_39 : Int32).toInt = (r_39 : Int32).toInt) (by decide +kernel : (0 : Int32).toInt = 0) c_41
          have F_76 := feq (rfl : (r_65 : Int32).toInt = (r_65 : Int32).toInt) (by decide +kernel : (0 : Int32).toInt = 0) c_67
          exact W.zret (v := 1) (ty := .boolean) hx hb hr rfl (fun t ht hW => ⟨⟨1, d_72, rfl, ⟨hgd_72, (fun _ => hPod_72), ⟨Or.inr ⟨by have h0_ : (1 : Int32).toInt = 1 := (by decide +kernel); omega, by omega, (fun a ha => (o3 (o3 (o3 (yf42 (yAg.o hgad_66 (a := a) (by rw [ha]; decide))) (show d_70.1 a 2 = d_66.1 a 2 ∧ d_70.1 a 3 = d_66.1 a 3 ∧ d_70.2.1 a 8 = d_66.2.1 a 8 by rw [ed_70]; exact ⟨yi_ne (by decide), yi_ne (by decide), rfl⟩)) (show d_71.1 a 2 = d_70.1 a 2 ∧ d_71.1 a 3 = d_70.1 a 3 ∧ d_71.2.1 a 8 = d_70.2.1 a 8 by rw [ed_71]; exact ⟨yi_ne (by decide), yi_ne (by decide), rfl⟩)) (show d_72.1 a 2 = d_71.1 a 2 ∧ d_72.1 a 3 = d_71.1 a 3 ∧ d_72.2.1 a 8 = d_71.2.1 a 8 by rw [ed_72]; exact ⟨yi_ne (by decide), yi_ne (by decide), rfl⟩)))⟩, ((congrFun (hsd_72 q0 (by rw [hk_q0]; decide)).1 4).trans ((congrFun (hsd_71 q0 (by rw [hk_q0]; decide)).1 4).trans ((congrFun (hsd_70 q0 (by rw [hk_q0]; decide)).1 4).trans (hxd_66.2))))⟩⟩, by rw [ht]; exact hP, hD⟩, hS.F ht⟩) hS.2.2 dX8_office_92
        · refine lv_iconst (v := 0) hx hb dX8_office_60 (by decide) ?_
          have F_77 := fne (rfl : (r_1 : Int32).toInt = (r_1 : Int32).toInt) (by decide +kernel : (0 : Int32).toInt = 0) c_4
          have F_78 := fne (rfl : (r_20 : Int32).toInt = (r_20 : Int32).toInt) (by decide +kernel : (0 : Int32).toInt = 0) c_21
          have F_79 := fne (rfl : (r_39 : Int32).toInt = (r_39 : Int32).toInt) (by decide +kernel : (0 : Int32).toInt = 0) c_41
          have F_80 := fne (rfl : (r_65 : Int32).toInt = (r_65 : Int32).toInt) (by decide +kernel : (0 : Int32).toInt = 0) c_67
          exact W.zret (v := 0) (ty := .boolean) hx hb hr rfl (fun t ht hW => ⟨⟨0, d_66, rfl, ⟨hgd_66, (fun _ => hPod_66), ⟨Or.inl ⟨by have h0_ : (0 : Int32).toInt = 0 := (by decide +kernel); omega, by omega, (fun a ha => (yf42 (yAg.o hgad_66 (a := a) (by rw [ha]; decide))))⟩, (hxd_66.2)⟩⟩, by rw [ht]; exact hP, hD⟩, hS.F ht⟩) hS.2.2 dX8_office_61
theorem dX8_offset_0 : decode cX8_offset 0 = .ok (.aload_n 0, 1) := by decide +kernel
theorem dX8_offset_1 : decode cX8_offset 1 = .ok (.aload_n 0, 1) := by decide +kernel
theorem dX8_offset_2 : decode cX8_offset 2 = .ok (.iload_n 1, 1) := by decide +kernel
theorem dX8_offset_3 : decode cX8_offset 3 = .ok (.invokevirtual 124, 3) := by decide +kernel
theorem dX8_offset_6 : decode cX8_offset 6 = .ok (.iload_n 2, 1) := by decide +kernel
theorem dX8_offset_7 : decode cX8_offset 7 = .ok (.iconst 0, 1) := by decide +kernel
theorem dX8_offset_8 : decode cX8_offset 8 = .ok (.ldc 87, 2) := by decide +kernel
theorem dX8_offset_10 : decode cX8_offset 10 = .ok (.invokestatic 71, 3) := by decide +kernel
theorem dX8_offset_13 : decode cX8_offset 13 = .ok (.invokestatic 54, 3) := by decide +kernel
theorem dX8_offset_16 : decode cX8_offset 16 = .ok (.invokestatic 58, 3) := by decide +kernel
theorem dX8_offset_19 : decode cX8_offset 19 = .ok (.invokevirtual 42, 3) := by decide +kernel
theorem dX8_offset_22 : decode cX8_offset 22 = .ok (.ifCond .eq 5, 3) := by decide +kernel
theorem dX8_offset_25 : decode cX8_offset 25 = .ok (.iconst 0, 1) := by decide +kernel
theorem dX8_offset_26 : decode cX8_offset 26 = .ok (.ireturn, 1) := by decide +kernel
theorem dX8_offset_27 : decode cX8_offset 27 = .ok (.aload_n 0, 1) := by decide +kernel
theorem dX8_offset_28 : decode cX8_offset 28 = .ok (.getfield 12, 3) := by decide +kernel
theorem dX8_offset_31 : decode cX8_offset 31 = .ok (.iload_n 1, 1) := by decide +kernel
theorem dX8_offset_32 : decode cX8_offset 32 = .ok (.invokevirtual 114, 3) := by decide +kernel
theorem dX8_offset_35 : decode cX8_offset 35 = .ok (.iload_n 2, 1) := by decide +kernel
theorem dX8_offset_36 : decode cX8_offset 36 = .ok (.putfield 200, 3) := by decide +kernel
theorem dX8_offset_39 : decode cX8_offset 39 = .ok (.iconst 1, 1) := by decide +kernel
theorem dX8_offset_40 : decode cX8_offset 40 = .ok (.ireturn, 1) := by decide +kernel
set_option maxHeartbeats 4000000 in
set_option maxRecDepth 100000 in
theorem g_X8_offset (l : Launch) (G : xG) (S : yS) (d : yD) (q0 : Nat) (p0 : Int32) (p1 : Int32) (hSh : ySh S) (hPo : yPo S d) (hm_q0 : q0 ∈ S.1) (hk_q0 : S.2.1 q0 = 8) : xWi l G yX8_offset cX8_offset 3 (some .boolean) 2 43 0 0 [.ref q0, .int p0, .int p1] (yW G S d) (fun r (u : yD) => yAg S [4, 8, 24] d u ∧ (yPo S d → yPo S u) ∧ (((r.toInt = 0 ∧ ¬ (0 ≤ p0.toInt ∧ p0.toInt ≤ 7 ∧ 0 < (d.1 (yPA S (S.2.2.1 q0 0) p0) 2).toInt ∧ 0 ≤ p1.toInt ∧ p1.toInt ≤ 1000000) ∧ ∀ a, S.2.1 a = 4 → u.1 a 2 = d.1 a 2 ∧ u.1 a 3 = d.1 a 3 ∧ u.2.1 a 8 = d.2.1 a 8) ∨ (r.toInt = 1 ∧ (0 ≤ p0.toInt ∧ p0.toInt ≤ 7 ∧ 0 < (d.1 (yPA S (S.2.2.1 q0 0) p0) 2).toInt ∧ 0 ≤ p1.toInt ∧ p1.toInt ≤ 1000000) ∧ ∀ a, S.2.1 a = 4 → u.1 a 2 = d.1 a 2 ∧ u.1 a 3 = d.1 a 3 ∧ u.2.1 a 8 = d.2.1 a 8)) ∧ u.1 q0 4 = d.1 q0 4)) (fun u => yW G S u) := by
  intro sz
  refine xstart (by decide) (Nat.le_of_ble_eq_true rfl) (fun p e s m args below meth c ls C0 hr hlocks hin hsz hP hK hD hN hl => ?_)
  obtain ⟨hx, hb, hml, hown, htl⟩ := id C0
  subst hsz
  have hD := hD.self (sz := s.heap.size)
  generalize hAe : va_A (yW G S d) s.heap.size = A at hD ⊢
  have hA : ∀ q : Nat, s.heap.size ≤ q → A q := fun q h => by rw [← hAe]; exact Or.inr h
  have hS : va_S A s.heap s.heap [] := va_S.rf
  have hg0 : yAg S [4, 8, 24] d d := yAg.rf
  have hl : lv_has ls 3 [(0, .ref q0), (1, .int p0), (2, .int p1)] := hl
  refine lv_aload_n hx hb dX8_offset_0 rfl (lv_at hl 0 rfl) ?_
  refine lv_aload_n hx hb dX8_offset_1 rfl (lv_at hl 0 rfl) ?_
  refine lv_iload_n hx hb dX8_offset_2 rfl (lv_at hl 1 rfl) ?_
  refine yVri (As := [.int p0]) (rest := [.ref q0]) C0 (g_X8_portReason l G S d q0 p0 hSh hm_q0 hk_q0) ok_X8_portReason (mW374 : Cond.methodLink RX8 124 yX8_portReason ∈ wsT) ⟨Nat.le_of_ble_eq_true rfl, Nat.le_of_ble_eq_true rfl⟩ hP hD hK hN hm_q0 hk_q0 (by decide) rfl rfl rfl hl.1 rfl (Nat.le_of_ble_eq_true rfl) ⟨Nat.le_of_ble_eq_true rfl, Nat.le_of_ble_eq_true rfl⟩ dX8_offset_3 (fun r_1 hr_1 => ?_)
  have tr_1 := tp_ hr_1
  refine lv_iload_n hx hb dX8_offset_6 rfl (lv_at hl 2 rfl) ?_
  refine lv_iconst (v := 0) hx hb dX8_offset_7 (by decide) ?_
  refine lv_ldc (v := 1000000) hx hb hown (htl (.constant RX8 87 (1000000)) mW257) dX8_offset_8 ?_
  refine ySri (As := [.int p1, .int 0, .int 1000000]) (rest := [.int r_1, .ref q0]) C0 (g_X8_within l G S d p1 0 1000000 ) ok_X8_within (mW193 : Cond.methodLink RX8 71 yX8_within ∈ wsT) ⟨Nat.le_of_ble_eq_true rfl, Nat.le_of_ble_eq_true rfl⟩ hP hD hK hN rfl hl.1 rfl (Nat.le_of_ble_eq_true rfl) ⟨Nat.le_of_ble_eq_true rfl, Nat.le_of_ble_eq_true rfl⟩ dX8_offset_10 (fun r_2 hr_2 => ?_)
  have hL_3 : (0 : Int32).toInt = 0 := by decide +kernel
  have hL_4 : (1000000 : Int32).toInt = 1000000 := by decide +kernel
  have tr_2 := tw_ hr_2
  refine ySri (As := [.int r_2]) (rest := [.int r_1, .ref q0]) C0 (g_X8_number l G S d r_2 ) ok_X8_number (mW196 : Cond.methodLink RX8 54 yX8_number ∈ wsT) ⟨Nat.le_of_ble_eq_true rfl, Nat.le_of_ble_eq_true rfl⟩ hP hD hK hN rfl hl.1 rfl (Nat.le_of_ble_eq_true rfl) ⟨Nat.le_of_ble_eq_true rfl, Nat.le_of_ble_eq_true rfl⟩ dX8_offset_13 (fun r_5 hr_5 => ?_)
  have tr_5 := tn_ hr_5
  refine ySri (As := [.int r_1, .int r_5]) (rest := [.ref q0]) C0 (g_X8_least l G S d r_1 r_5 ) ok_X8_least (mW199 : Cond.methodLink RX8 58 yX8_least ∈ wsT) ⟨Nat.le_of_ble_eq_true rfl, Nat.le_of_ble_eq_true rfl⟩ hP hD hK hN rfl hl.1 rfl (Nat.le_of_ble_eq_true rfl) ⟨Nat.le_of_ble_eq_true rfl, Nat.le_of_ble_eq_true rfl⟩ dX8_offset_16 (fun r_6 hr_6 => ?_)
  have tr_6 := tl_ hr_6
  refine yVwi (As := [.int r_6]) (rest := []) C0 (g_X8_refused l G S d q0 r_6 hSh hPo hm_q0 hk_q0) ok_X8_refused (mW160 : Cond.methodLink RX8 42 yX8_refused ∈ wsT) ⟨Nat.le_of_ble_eq_true rfl, Nat.le_of_ble_eq_true rfl⟩ hP hD hS hA hK hN hm_q0 hk_q0 (by decide) rfl rfl rfl hl.1 rfl (Nat.le_of_ble_eq_true rfl) ⟨Nat.le_of_ble_eq_true rfl, Nat.le_of_ble_eq_true rfl⟩ dX8_offset_19 (fun r_7 d_8 H locs hr_7 hP hD hS => ?_)
  obtain ⟨hgad_8, hpad_8, hxd_8⟩ := hr_7
  have hgd_8 : yAg S [4, 8, 24] d d_8 := yAg.tr hg0 hgad_8 (by first | decide | exact fun _ h => h)
  have hPod_8 : yPo S d_8 := hpad_8 hPo
  have tr_7 := tr_ hxd_8.1
  refine lv_if_eq (tgt := 27) hx hb dX8_offset_22 (by decide) (fun c_9 => ?_) (fun c_9 => ?_)
  · refine lv_aload_n hx hb dX8_offset_27 rfl (lv_at hl 0 rfl) ?_
    refine yget (ci := 8) (k := 0) (v := .ref (S.2.2.1 q0 0)) (C := RX8) (T := TX8) (N := 6) C0 hK hP hm_q0 hk_q0 (by decide) rfl inlX8 (by decide) mW16 (fun _ h9 => h9) rfl dX8_offset_28 ?_
    obtain ⟨hmy_10, hky_10⟩ := ySh.f8_0 hSh _ hm_q0 hk_q0
    refine lv_iload_n hx hb dX8_offset_31 rfl (lv_at hl 1 rfl) ?_
    refine yVrr (As := [.int p0]) (rest := []) C0 (g_X0_portAt l G S d_8 (S.2.2.1 q0 0) p0 hSh hmy_10 hky_10) ok_X0_portAt (mW337 : Cond.methodLink RX8 114 yX0_portAt ∈ wsT) ⟨Nat.le_of_ble_eq_true rfl, Nat.le_of_ble_eq_true rfl⟩ hP hD hK hN hmy_10 hky_10 (by decide) rfl rfl rfl hl.1 rfl (Nat.le_of_ble_eq_true rfl) ⟨Nat.le_of_ble_eq_true rfl, Nat.le_of_ble_eq_true rfl⟩ dX8_offset_32 (fun r_11 hr_11 => ?_)
    obtain ⟨hmr_11, hkr_11, her_11⟩ := hr_11
    refine lv_iload_n hx hb dX8_offset_35 rfl (lv_at hl 2 rfl) ?_
    refine yputI (ci := 4) (k := 7) (ty := .int) (C := RX4) (T := TX4) (N := 11) C0 hK hP hD hS hmr_11 hkr_11 (by decide) rfl inlX4 tyX4 tyX4_ok nmX4 (by decide) mW534 (fun _ h9 => h9) rfl (by decide +kernel) rfl rfl (Nat.le_of_ble_eq_true rfl) ysi_4_7 dX8_offset_36 (fun H locs hP hD hS => ?_)
    obtain ⟨d_12, ed_12⟩ : ∃ z : yD, z = yi d_8 r_11 7 p1 := ⟨_, rfl⟩
    rw [← ed_12] at hP hD
    have hgd_12 : yAg S [4, 8, 24] d d_12 := by rw [ed_12]; exact yAg.i hgd_8 (by rw [hkr_11]; decide)
    have hsd_12 : yAg S [4] d_8 d_12 := by rw [ed_12]; exact yAg.i yAg.rf (by rw [hkr_11]; decide)
    have hPod_12 : yPo S d_12 := by rw [ed_12]; exact yPo.i hPod_8 hkr_11 (Or.inl rfl)
    refine lv_iconst (v := 1) hx hb dX8_offset_39 (by decide) ?_
    have F_13 := feq (rfl : (r_7 : Int32).toInt = (r_7 : Int32).toInt) (by decide +kernel : (0 : Int32).toInt = 0) c_9
    exact W.zret (v := 1) (ty := .boolean) hx hb hr rfl (fun t ht hW => ⟨⟨1, d_12, rfl, ⟨hgd_12, (fun _ => hPod_12), ⟨Or.inr ⟨by have h0_ : (1 : Int32).toInt = 1 := (by decide +kernel); omega, by omega, (fun a ha => (o3 (yf42 (yAg.o hgad_8 (a := a) (by rw [ha]; decide))) (show d_12.1 a 2 = d_8.1 a 2 ∧ d_12.1 a 3 = d_8.1 a 3 ∧ d_12.2.1 a 8 = d_8.2.1 a 8 by rw [ed_12]; exact ⟨yi_ne (by decide), yi_ne (by decide), rfl⟩)))⟩, ((congrFun (hsd_12 q0 (by rw [hk_q0]; decide)).1 4).trans (hxd_8.2))⟩⟩, by rw [ht]; exact hP, hD⟩, hS.F ht⟩) hS.2.2 dX8_offset_40
  · refine lv_iconst (v := 0) hx hb dX8_offset_25 (by decide) ?_
    have F_14 := fne (rfl : (r_7 : Int32).toInt = (r_7 : Int32).toInt) (by decide +kernel : (0 : Int32).toInt = 0) c_9
    exact W.zret (v := 0) (ty := .boolean) hx hb hr rfl (fun t ht hW => ⟨⟨0, d_8, rfl, ⟨hgd_8, (fun _ => hPod_8), ⟨Or.inl ⟨by have h0_ : (0 : Int32).toInt = 0 := (by decide +kernel); omega, by omega, (fun a ha => (yf42 (yAg.o hgad_8 (a := a) (by rw [ha]; decide))))⟩, (hxd_8.2)⟩⟩, by rw [ht]; exact hP, hD⟩, hS.F ht⟩) hS.2.2 dX8_offset_26
theorem dX8_rate_0 : decode cX8_rate 0 = .ok (.lload_n 2, 1) := by decide +kernel
theorem dX8_rate_1 : decode cX8_rate 1 = .ok (.lconst 0, 1) := by decide +kernel
theorem dX8_rate_2 : decode cX8_rate 2 = .ok (.lcmp, 1) := by decide +kernel
theorem dX8_rate_3 : decode cX8_rate 3 = .ok (.ifCond .lt 31, 3) := by decide +kernel
theorem dX8_rate_6 : decode cX8_rate 6 = .ok (.lload_n 2, 1) := by decide +kernel
theorem dX8_rate_7 : decode cX8_rate 7 = .ok (.ldc2_w 203, 3) := by decide +kernel
theorem dX8_rate_10 : decode cX8_rate 10 = .ok (.lcmp, 1) := by decide +kernel
theorem dX8_rate_11 : decode cX8_rate 11 = .ok (.ifCond .gt 23, 3) := by decide +kernel
theorem dX8_rate_14 : decode cX8_rate 14 = .ok (.lload 4, 2) := by decide +kernel
theorem dX8_rate_16 : decode cX8_rate 16 = .ok (.lconst 0, 1) := by decide +kernel
theorem dX8_rate_17 : decode cX8_rate 17 = .ok (.lcmp, 1) := by decide +kernel
theorem dX8_rate_18 : decode cX8_rate 18 = .ok (.ifCond .lt 16, 3) := by decide +kernel
theorem dX8_rate_21 : decode cX8_rate 21 = .ok (.lload 4, 2) := by decide +kernel
theorem dX8_rate_23 : decode cX8_rate 23 = .ok (.ldc2_w 203, 3) := by decide +kernel
theorem dX8_rate_26 : decode cX8_rate 26 = .ok (.lcmp, 1) := by decide +kernel
theorem dX8_rate_27 : decode cX8_rate 27 = .ok (.ifCond .gt 7, 3) := by decide +kernel
theorem dX8_rate_30 : decode cX8_rate 30 = .ok (.iconst 1, 1) := by decide +kernel
theorem dX8_rate_31 : decode cX8_rate 31 = .ok (.goto 4, 3) := by decide +kernel
theorem dX8_rate_34 : decode cX8_rate 34 = .ok (.iconst 0, 1) := by decide +kernel
theorem dX8_rate_35 : decode cX8_rate 35 = .ok (.istore 6, 2) := by decide +kernel
theorem dX8_rate_37 : decode cX8_rate 37 = .ok (.aload_n 0, 1) := by decide +kernel
theorem dX8_rate_38 : decode cX8_rate 38 = .ok (.aload_n 0, 1) := by decide +kernel
theorem dX8_rate_39 : decode cX8_rate 39 = .ok (.iload_n 1, 1) := by decide +kernel
theorem dX8_rate_40 : decode cX8_rate 40 = .ok (.invokevirtual 124, 3) := by decide +kernel
theorem dX8_rate_43 : decode cX8_rate 43 = .ok (.iload 6, 2) := by decide +kernel
theorem dX8_rate_45 : decode cX8_rate 45 = .ok (.invokestatic 54, 3) := by decide +kernel
theorem dX8_rate_48 : decode cX8_rate 48 = .ok (.invokestatic 58, 3) := by decide +kernel
theorem dX8_rate_51 : decode cX8_rate 51 = .ok (.invokevirtual 42, 3) := by decide +kernel
theorem dX8_rate_54 : decode cX8_rate 54 = .ok (.ifCond .eq 5, 3) := by decide +kernel
theorem dX8_rate_57 : decode cX8_rate 57 = .ok (.iconst 0, 1) := by decide +kernel
theorem dX8_rate_58 : decode cX8_rate 58 = .ok (.ireturn, 1) := by decide +kernel
theorem dX8_rate_59 : decode cX8_rate 59 = .ok (.aload_n 0, 1) := by decide +kernel
theorem dX8_rate_60 : decode cX8_rate 60 = .ok (.getfield 12, 3) := by decide +kernel
theorem dX8_rate_63 : decode cX8_rate 63 = .ok (.iload_n 1, 1) := by decide +kernel
theorem dX8_rate_64 : decode cX8_rate 64 = .ok (.invokevirtual 114, 3) := by decide +kernel
theorem dX8_rate_67 : decode cX8_rate 67 = .ok (.lload_n 2, 1) := by decide +kernel
theorem dX8_rate_68 : decode cX8_rate 68 = .ok (.putfield 205, 3) := by decide +kernel
theorem dX8_rate_71 : decode cX8_rate 71 = .ok (.aload_n 0, 1) := by decide +kernel
theorem dX8_rate_72 : decode cX8_rate 72 = .ok (.getfield 12, 3) := by decide +kernel
theorem dX8_rate_75 : decode cX8_rate 75 = .ok (.iload_n 1, 1) := by decide +kernel
theorem dX8_rate_76 : decode cX8_rate 76 = .ok (.invokevirtual 114, 3) := by decide +kernel
theorem dX8_rate_79 : decode cX8_rate 79 = .ok (.lload 4, 2) := by decide +kernel
theorem dX8_rate_81 : decode cX8_rate 81 = .ok (.putfield 208, 3) := by decide +kernel
theorem dX8_rate_84 : decode cX8_rate 84 = .ok (.iconst 1, 1) := by decide +kernel
theorem dX8_rate_85 : decode cX8_rate 85 = .ok (.ireturn, 1) := by decide +kernel
set_option maxHeartbeats 4000000 in
set_option maxRecDepth 100000 in
theorem g_X8_rate (l : Launch) (G : xG) (S : yS) (d : yD) (q0 : Nat) (p0 : Int32) (p1 : Int64) (p2 : Int64) (hSh : ySh S) (hPo : yPo S d) (hm_q0 : q0 ∈ S.1) (hk_q0 : S.2.1 q0 = 8) : xWi l G yX8_rate cX8_rate 7 (some .boolean) 2 43 0 0 [.ref q0, .int p0, .long p1, .long p2] (yW G S d) (fun r (u : yD) => yAg S [4, 8, 24] d u ∧ (yPo S d → yPo S u) ∧ (((r.toInt = 0 ∧ ¬ (0 ≤ p0.toInt ∧ p0.toInt ≤ 7 ∧ 0 < (d.1 (yPA S (S.2.2.1 q0 0) p0) 2).toInt ∧ 0 ≤ p1.toInt ∧ p1.toInt ≤ 1000000000 ∧ 0 ≤ p2.toInt ∧ p2.toInt ≤ 1000000000) ∧ ∀ a, S.2.1 a = 4 → u.1 a 2 = d.1 a 2 ∧ u.1 a 3 = d.1 a 3 ∧ u.2.1 a 8 = d.2.1 a 8) ∨ (r.toInt = 1 ∧ (0 ≤ p0.toInt ∧ p0.toInt ≤ 7 ∧ 0 < (d.1 (yPA S (S.2.2.1 q0 0) p0) 2).toInt ∧ 0 ≤ p1.toInt ∧ p1.toInt ≤ 1000000000 ∧ 0 ≤ p2.toInt ∧ p2.toInt ≤ 1000000000) ∧ ∀ a, S.2.1 a = 4 → u.1 a 2 = d.1 a 2 ∧ u.1 a 3 = d.1 a 3 ∧ u.2.1 a 8 = d.2.1 a 8)) ∧ u.1 q0 4 = d.1 q0 4)) (fun u => yW G S u) := by
  intro sz
  refine xstart (by decide) (Nat.le_of_ble_eq_true rfl) (fun p e s m args below meth c ls C0 hr hlocks hin hsz hP hK hD hN hl => ?_)
  obtain ⟨hx, hb, hml, hown, htl⟩ := id C0
  subst hsz
  have hD := hD.self (sz := s.heap.size)
  generalize hAe : va_A (yW G S d) s.heap.size = A at hD ⊢
  have hA : ∀ q : Nat, s.heap.size ≤ q → A q := fun q h => by rw [← hAe]; exact Or.inr h
  have hS : va_S A s.heap s.heap [] := va_S.rf
  have hg0 : yAg S [4, 8, 24] d d := yAg.rf
  have hl : lv_has ls 7 [(0, .ref q0), (1, .int p0), (2, .long p1), (4, .long p2)] := hl
  refine lv_lload_n hx hb dX8_rate_0 rfl (lv_at hl 2 rfl) ?_
  refine lv_lconst (v := 0) hx hb dX8_rate_1 (by decide) ?_
  refine W.lcmp hx hb dX8_rate_2 ?_
  refine lv_topi (fun z_1 ez_1 => ?_)
  refine lv_if_lt (tgt := 34) hx hb dX8_rate_3 (by decide) (fun c_2 => ?_) (fun c_2 => ?_)
  · refine lv_iconst (v := 0) hx hb dX8_rate_34 (by decide) ?_
    refine lv_istore (lv' := [(6, .int 0), (0, .ref q0), (1, .int p0), (2, .long p1), (4, .long p2)]) hx hb dX8_rate_35 hl (by decide) rfl (fun ls hl => ?_)
    refine lv_aload_n hx hb dX8_rate_37 rfl (lv_at hl 1 rfl) ?_
    refine lv_aload_n hx hb dX8_rate_38 rfl (lv_at hl 1 rfl) ?_
    refine lv_iload_n hx hb dX8_rate_39 rfl (lv_at hl 2 rfl) ?_
    refine yVri (As := [.int p0]) (rest := [.ref q0]) C0 (g_X8_portReason l G S d q0 p0 hSh hm_q0 hk_q0) ok_X8_portReason (mW374 : Cond.methodLink RX8 124 yX8_portReason ∈ wsT) ⟨Nat.le_of_ble_eq_true rfl, Nat.le_of_ble_eq_true rfl⟩ hP hD hK hN hm_q0 hk_q0 (by decide) rfl rfl rfl hl.1 rfl (Nat.le_of_ble_eq_true rfl) ⟨Nat.le_of_ble_eq_true rfl, Nat.le_of_ble_eq_true rfl⟩ dX8_rate_40 (fun r_3 hr_3 => ?_)
    have tr_3 := tp_ hr_3
    refine lv_iload hx hb dX8_rate_43 (lv_at hl 0 rfl) ?_
    refine ySri (As := [.int 0]) (rest := [.int r_3, .ref q0]) C0 (g_X8_number l G S d 0 ) ok_X8_number (mW196 : Cond.methodLink RX8 54 yX8_number ∈ wsT) ⟨Nat.le_of_ble_eq_true rfl, Nat.le_of_ble_eq_true rfl⟩ hP hD hK hN rfl hl.1 rfl (Nat.le_of_ble_eq_true rfl) ⟨Nat.le_of_ble_eq_true rfl, Nat.le_of_ble_eq_true rfl⟩ dX8_rate_45 (fun r_4 hr_4 => ?_)
    have hL_5 : (0 : Int32).toInt = 0 := by decide +kernel
    have tr_4 := tn_ hr_4
    refine ySri (As := [.int r_3, .int r_4]) (rest := [.ref q0]) C0 (g_X8_least l G S d r_3 r_4 ) ok_X8_least (mW199 : Cond.methodLink RX8 58 yX8_least ∈ wsT) ⟨Nat.le_of_ble_eq_true rfl, Nat.le_of_ble_eq_true rfl⟩ hP hD hK hN rfl hl.1 rfl (Nat.le_of_ble_eq_true rfl) ⟨Nat.le_of_ble_eq_true rfl, Nat.le_of_ble_eq_true rfl⟩ dX8_rate_48 (fun r_6 hr_6 => ?_)
    have tr_6 := tl_ hr_6
    refine yVwi (As := [.int r_6]) (rest := []) C0 (g_X8_refused l G S d q0 r_6 hSh hPo hm_q0 hk_q0) ok_X8_refused (mW160 : Cond.methodLink RX8 42 yX8_refused ∈ wsT) ⟨Nat.le_of_ble_eq_true rfl, Nat.le_of_ble_eq_true rfl⟩ hP hD hS hA hK hN hm_q0 hk_q0 (by decide) rfl rfl rfl hl.1 rfl (Nat.le_of_ble_eq_true rfl) ⟨Nat.le_of_ble_eq_true rfl, Nat.le_of_ble_eq_true rfl⟩ dX8_rate_51 (fun r_7 d_8 H locs hr_7 hP hD hS => ?_)
    obtain ⟨hgad_8, hpad_8, hxd_8⟩ := hr_7
    have hgd_8 : yAg S [4, 8, 24] d d_8 := yAg.tr hg0 hgad_8 (by first | decide | exact fun _ h => h)
    have hPod_8 : yPo S d_8 := hpad_8 hPo
    have tr_7 := tr_ hxd_8.1
    refine lv_if_eq (tgt := 59) hx hb dX8_rate_54 (by decide) (fun c_9 => ?_) (fun c_9 => ?_)
    · refine lv_aload_n hx hb dX8_rate_59 rfl (lv_at hl 1 rfl) ?_
      refine yget (ci := 8) (k := 0) (v := .ref (S.2.2.1 q0 0)) (C := RX8) (T := TX8) (N := 6) C0 hK hP hm_q0 hk_q0 (by decide) rfl inlX8 (by decide) mW16 (fun _ h9 => h9) rfl dX8_rate_60 ?_
      obtain ⟨hmy_10, hky_10⟩ := ySh.f8_0 hSh _ hm_q0 hk_q0
      refine lv_iload_n hx hb dX8_rate_63 rfl (lv_at hl 2 rfl) ?_
      refine yVrr (As := [.int p0]) (rest := []) C0 (g_X0_portAt l G S d_8 (S.2.2.1 q0 0) p0 hSh hmy_10 hky_10) ok_X0_portAt (mW337 : Cond.methodLink RX8 114 yX0_portAt ∈ wsT) ⟨Nat.le_of_ble_eq_true rfl, Nat.le_of_ble_eq_true rfl⟩ hP hD hK hN hmy_10 hky_10 (by decide) rfl rfl rfl hl.1 rfl (Nat.le_of_ble_eq_true rfl) ⟨Nat.le_of_ble_eq_true rfl, Nat.le_of_ble_eq_true rfl⟩ dX8_rate_64 (fun r_11 hr_11 => ?_)
      obtain ⟨hmr_11, hkr_11, her_11⟩ := hr_11
      refine lv_lload_n hx hb dX8_rate_67 rfl (lv_at hl 3 rfl) ?_
      refine yputJ (ci := 4) (k := 9) (C := RX4) (T := TX4) (N := 11) C0 hK hP hD hS hmr_11 hkr_11 (by decide) rfl inlX4 tyX4 tyX4_ok nmX4 (by decide) mW545 (fun _ h9 => h9) rfl (by decide +kernel) (Nat.le_of_ble_eq_true rfl) ysj_4_9 dX8_rate_68 (fun H locs hP hD hS => ?_)
      obtain ⟨d_12, ed_12⟩ : ∃ z : yD, z = yj d_8 r_11 9 p1 := ⟨_, rfl⟩
      rw [← ed_12] at hP hD
      have hgd_12 : yAg S [4, 8, 24] d d_12 := by rw [ed_12]; exact yAg.j hgd_8 (by rw [hkr_11]; decide)
      have hsd_12 : yAg S [4] d_8 d_12 := by rw [ed_12]; exact yAg.j yAg.rf (by rw [hkr_11]; decide)
      have hPod_12 : yPo S d_12 := by rw [ed_12]; exact hPod_8
      refine lv_aload_n hx hb dX8_rate_71 rfl (lv_at hl 1 rfl) ?_
      refine yget (ci := 8) (k := 0) (v := .ref (S.2.2.1 q0 0)) (C := RX8) (T := TX8) (N := 6) C0 hK hP hm_q0 hk_q0 (by decide) rfl inlX8 (by decide) mW16 (fun _ h9 => h9) rfl dX8_rate_72 ?_
      refine lv_iload_n hx hb dX8_rate_75 rfl (lv_at hl 2 rfl) ?_
      refine yVrr (As := [.int p0]) (rest := []) C0 (g_X0_portAt l G S d_12 (S.2.2.1 q0 0) p0 hSh hmy_10 hky_10) ok_X0_portAt (mW337 : Cond.methodLink RX8 114 yX0_portAt ∈ wsT) ⟨Nat.le_of_ble_eq_true rfl, Nat.le_of_ble_eq_true rfl⟩ hP hD hK hN hmy_10 hky_10 (by decide) rfl rfl rfl hl.1 rfl (Nat.le_of_ble_eq_true rfl) ⟨Nat.le_of_ble_eq_true rfl, Nat.le_of_ble_eq_true rfl⟩ dX8_rate_76 (fun r_13 hr_13 => ?_)
      obtain ⟨hmr_13, hkr_13, her_13⟩ := hr_13
      refine lv_lload hx hb dX8_rate_79 (lv_at hl 4 rfl) ?_
      refine yputJ (ci := 4) (k := 10) (C := RX4) (T := TX4) (N := 11) C0 hK hP hD hS hmr_13 hkr_13 (by decide) rfl inlX4 tyX4 tyX4_ok nmX4 (by decide) mW546 (fun _ h9 => h9) rfl (by decide +kernel) (Nat.le_of_ble_eq_true rfl) ysj_4_10 dX8_rate_81 (fun H locs hP hD hS => ?_)
      obtain ⟨d_14, ed_14⟩ : ∃ z : yD, z = yj d_12 r_13 10 p2 := ⟨_, rfl⟩
      rw [← ed_14] at hP hD
      have hgd_14 : yAg S [4, 8, 24] d d_14 := by rw [ed_14]; exact yAg.j hgd_12 (by rw [hkr_13]; decide)
      have hsd_14 : yAg S [4] d_12 d_14 := by rw [ed_14]; exact yAg.j yAg.rf (by rw [hkr_13]; decide)
      have hPod_14 : yPo S d_14 := by rw [ed_14]; exact hPod_12
      refine lv_iconst (v := 1) hx hb dX8_rate_84 (by decide) ?_
      have F_15 := feq (rfl : (r_7 : Int32).toInt = (r_7 : Int32).toInt) (by decide +kernel : (0 : Int32).toInt = 0) c_9
      have T_16 : (0 : Int64).toInt = 0 := by decide +kernel
      have F_17 := jlt ez_1 c_2
      exact W.zret (v := 1) (ty := .boolean) hx hb hr rfl (fun t ht hW => ⟨⟨1, d_14, rfl, ⟨hgd_14, (fun _ => hPod_14), ⟨Or.inr ⟨by have h0_ : (1 : Int32).toInt = 1 := (by decide +kernel); omega, by omega, (fun a ha => (o3 (o3 (yf42 (yAg.o hgad_8 (a := a) (by rw [ha]; decide))) (show d_12.1 a 2 = d_8.1 a 2 ∧ d_12.1 a 3 = d_8.1 a 3 ∧ d_12.2.1 a 8 = d_8.2.1 a 8 by rw [ed_12]; exact ⟨rfl, rfl, yj_ne (by decide)⟩)) (show d_14.1 a 2 = d_12.1 a 2 ∧ d_14.1 a 3 = d_12.1 a 3 ∧ d_14.2.1 a 8 = d_12.2.1 a 8 by rw [ed_14]; exact ⟨rfl, rfl, yj_ne (by decide)⟩)))⟩, ((congrFun (hsd_14 q0 (by rw [hk_q0]; decide)).1 4).trans ((congrFun (hsd_12 q0 (by rw [hk_q0]; decide)).1 4).trans (hxd_8.2)))⟩⟩, by rw [ht]; exact hP, hD⟩, hS.F ht⟩) hS.2.2 dX8_rate_85
    · refine lv_iconst (v := 0) hx hb dX8_rate_57 (by decide) ?_
      have F_18 := fne (rfl : (r_7 : Int32).toInt = (r_7 : Int32).toInt) (by decide +kernel : (0 : Int32).toInt = 0) c_9
      have T_19 : (0 : Int64).toInt = 0 := by decide +kernel
      have F_20 := jlt ez_1 c_2
      exact W.zret (v := 0) (ty := .boolean) hx hb hr rfl (fun t ht hW => ⟨⟨0, d_8, rfl, ⟨hgd_8, (fun _ => hPod_8), ⟨Or.inl ⟨by have h0_ : (0 : Int32).toInt = 0 := (by decide +kernel); omega, by omega, (fun a ha => (yf42 (yAg.o hgad_8 (a := a) (by rw [ha]; decide))))⟩, (hxd_8.2)⟩⟩, by rw [ht]; exact hP, hD⟩, hS.F ht⟩) hS.2.2 dX8_rate_58
  · refine lv_lload_n hx hb dX8_rate_6 rfl (lv_at hl 2 rfl) ?_
    refine lv_ldc2 (v := 1000000000) hx hb hown (htl (.constantLong RX8 203 (1000000000)) mW544) dX8_rate_7 ?_
    refine W.lcmp hx hb dX8_rate_10 ?_
    refine lv_topi (fun z_21 ez_21 => ?_)
    refine lv_if_gt (tgt := 34) hx hb dX8_rate_11 (by decide) (fun c_22 => ?_) (fun c_22 => ?_)
    · refine lv_iconst (v := 0) hx hb dX8_rate_34 (by decide) ?_
      refine lv_istore (lv' := [(6, .int 0), (0, .ref q0), (1, .int p0), (2, .long p1), (4, .long p2)]) hx hb dX8_rate_35 hl (by decide) rfl (fun ls hl => ?_)
      refine lv_aload_n hx hb dX8_rate_37 rfl (lv_at hl 1 rfl) ?_
      refine lv_aload_n hx hb dX8_rate_38 rfl (lv_at hl 1 rfl) ?_
      refine lv_iload_n hx hb dX8_rate_39 rfl (lv_at hl 2 rfl) ?_
      refine yVri (As := [.int p0]) (rest := [.ref q0]) C0 (g_X8_portReason l G S d q0 p0 hSh hm_q0 hk_q0) ok_X8_portReason (mW374 : Cond.methodLink RX8 124 yX8_portReason ∈ wsT) ⟨Nat.le_of_ble_eq_true rfl, Nat.le_of_ble_eq_true rfl⟩ hP hD hK hN hm_q0 hk_q0 (by decide) rfl rfl rfl hl.1 rfl (Nat.le_of_ble_eq_true rfl) ⟨Nat.le_of_ble_eq_true rfl, Nat.le_of_ble_eq_true rfl⟩ dX8_rate_40 (fun r_23 hr_23 => ?_)
      have tr_23 := tp_ hr_23
      refine lv_iload hx hb dX8_rate_43 (lv_at hl 0 rfl) ?_
      refine ySri (As := [.int 0]) (rest := [.int r_23, .ref q0]) C0 (g_X8_number l G S d 0 ) ok_X8_number (mW196 : Cond.methodLink RX8 54 yX8_number ∈ wsT) ⟨Nat.le_of_ble_eq_true rfl, Nat.le_of_ble_eq_true rfl⟩ hP hD hK hN rfl hl.1 rfl (Nat.le_of_ble_eq_true rfl) ⟨Nat.le_of_ble_eq_true rfl, Nat.le_of_ble_eq_true rfl⟩ dX8_rate_45 (fun r_24 hr_24 => ?_)
      have hL_25 : (0 : Int32).toInt = 0 := by decide +kernel
      have tr_24 := tn_ hr_24
      refine ySri (As := [.int r_23, .int r_24]) (rest := [.ref q0]) C0 (g_X8_least l G S d r_23 r_24 ) ok_X8_least (mW199 : Cond.methodLink RX8 58 yX8_least ∈ wsT) ⟨Nat.le_of_ble_eq_true rfl, Nat.le_of_ble_eq_true rfl⟩ hP hD hK hN rfl hl.1 rfl (Nat.le_of_ble_eq_true rfl) ⟨Nat.le_of_ble_eq_true rfl, Nat.le_of_ble_eq_true rfl⟩ dX8_rate_48 (fun r_26 hr_26 => ?_)
      have tr_26 := tl_ hr_26
      refine yVwi (As := [.int r_26]) (rest := []) C0 (g_X8_refused l G S d q0 r_26 hSh hPo hm_q0 hk_q0) ok_X8_refused (mW160 : Cond.methodLink RX8 42 yX8_refused ∈ wsT) ⟨Nat.le_of_ble_eq_true rfl, Nat.le_of_ble_eq_true rfl⟩ hP hD hS hA hK hN hm_q0 hk_q0 (by decide) rfl rfl rfl hl.1 rfl (Nat.le_of_ble_eq_true rfl) ⟨Nat.le_of_ble_eq_true rfl, Nat.le_of_ble_eq_true rfl⟩ dX8_rate_51 (fun r_27 d_28 H locs hr_27 hP hD hS => ?_)
      obtain ⟨hgad_28, hpad_28, hxd_28⟩ := hr_27
      have hgd_28 : yAg S [4, 8, 24] d d_28 := yAg.tr hg0 hgad_28 (by first | decide | exact fun _ h => h)
      have hPod_28 : yPo S d_28 := hpad_28 hPo
      have tr_27 := tr_ hxd_28.1
      refine lv_if_eq (tgt := 59) hx hb dX8_rate_54 (by decide) (fun c_29 => ?_) (fun c_29 => ?_)
      · refine lv_aload_n hx hb dX8_rate_59 rfl (lv_at hl 1 rfl) ?_
        refine yget (ci := 8) (k := 0) (v := .ref (S.2.2.1 q0 0)) (C := RX8) (T := TX8) (N := 6) C0 hK hP hm_q0 hk_q0 (by decide) rfl inlX8 (by decide) mW16 (fun _ h9 => h9) rfl dX8_rate_60 ?_
        obtain ⟨hmy_30, hky_30⟩ := ySh.f8_0 hSh _ hm_q0 hk_q0
        refine lv_iload_n hx hb dX8_rate_63 rfl (lv_at hl 2 rfl) ?_
        refine yVrr (As := [.int p0]) (rest := []) C0 (g_X0_portAt l G S d_28 (S.2.2.1 q0 0) p0 hSh hmy_30 hky_30) ok_X0_portAt (mW337 : Cond.methodLink RX8 114 yX0_portAt ∈ wsT) ⟨Nat.le_of_ble_eq_true rfl, Nat.le_of_ble_eq_true rfl⟩ hP hD hK hN hmy_30 hky_30 (by decide) rfl rfl rfl hl.1 rfl (Nat.le_of_ble_eq_true rfl) ⟨Nat.le_of_ble_eq_true rfl, Nat.le_of_ble_eq_true rfl⟩ dX8_rate_64 (fun r_31 hr_31 => ?_)
        obtain ⟨hmr_31, hkr_31, her_31⟩ := hr_31
        refine lv_lload_n hx hb dX8_rate_67 rfl (lv_at hl 3 rfl) ?_
        refine yputJ (ci := 4) (k := 9) (C := RX4) (T := TX4) (N := 11) C0 hK hP hD hS hmr_31 hkr_31 (by decide) rfl inlX4 tyX4 tyX4_ok nmX4 (by decide) mW545 (fun _ h9 => h9) rfl (by decide +kernel) (Nat.le_of_ble_eq_true rfl) ysj_4_9 dX8_rate_68 (fun H locs hP hD hS => ?_)
        obtain ⟨d_32, ed_32⟩ : ∃ z : yD, z = yj d_28 r_31 9 p1 := ⟨_, rfl⟩
        rw [← ed_32] at hP hD
        have hgd_32 : yAg S [4, 8, 24] d d_32 := by rw [ed_32]; exact yAg.j hgd_28 (by rw [hkr_31]; decide)
        have hsd_32 : yAg S [4] d_28 d_32 := by rw [ed_32]; exact yAg.j yAg.rf (by rw [hkr_31]; decide)
        have hPod_32 : yPo S d_32 := by rw [ed_32]; exact hPod_28
        refine lv_aload_n hx hb dX8_rate_71 rfl (lv_at hl 1 rfl) ?_
        refine yget (ci := 8) (k := 0) (v := .ref (S.2.2.1 q0 0)) (C := RX8) (T := TX8) (N := 6) C0 hK hP hm_q0 hk_q0 (by decide) rfl inlX8 (by decide) mW16 (fun _ h9 => h9) rfl dX8_rate_72 ?_
        refine lv_iload_n hx hb dX8_rate_75 rfl (lv_at hl 2 rfl) ?_
        refine yVrr (As := [.int p0]) (rest := []) C0 (g_X0_portAt l G S d_32 (S.2.2.1 q0 0) p0 hSh hmy_30 hky_30) ok_X0_portAt (mW337 : Cond.methodLink RX8 114 yX0_portAt ∈ wsT) ⟨Nat.le_of_ble_eq_true rfl, Nat.le_of_ble_eq_true rfl⟩ hP hD hK hN hmy_30 hky_30 (by decide) rfl rfl rfl hl.1 rfl (Nat.le_of_ble_eq_true rfl) ⟨Nat.le_of_ble_eq_true rfl, Nat.le_of_ble_eq_true rfl⟩ dX8_rate_76 (fun r_33 hr_33 => ?_)
        obtain ⟨hmr_33, hkr_33, her_33⟩ := hr_33
        refine lv_lload hx hb dX8_rate_79 (lv_at hl 4 rfl) ?_
        refine yputJ (ci := 4) (k := 10) (C := RX4) (T := TX4) (N := 11) C0 hK hP hD hS hmr_33 hkr_33 (by decide) rfl inlX4 tyX4 tyX4_ok nmX4 (by decide) mW546 (fun _ h9 => h9) rfl (by decide +kernel) (Nat.le_of_ble_eq_true rfl) ysj_4_10 dX8_rate_81 (fun H locs hP hD hS => ?_)
        obtain ⟨d_34, ed_34⟩ : ∃ z : yD, z = yj d_32 r_33 10 p2 := ⟨_, rfl⟩
        rw [← ed_34] at hP hD
        have hgd_34 : yAg S [4, 8, 24] d d_34 := by rw [ed_34]; exact yAg.j hgd_32 (by rw [hkr_33]; decide)
        have hsd_34 : yAg S [4] d_32 d_34 := by rw [ed_34]; exact yAg.j yAg.rf (by rw [hkr_33]; decide)
        have hPod_34 : yPo S d_34 := by rw [ed_34]; exact hPod_32
        refine lv_iconst (v := 1) hx hb dX8_rate_84 (by decide) ?_
        have F_35 := feq (rfl : (r_27 : Int32).toInt = (r_27 : Int32).toInt) (by decide +kernel : (0 : Int32).toInt = 0) c_29
        have T_36 : (0 : Int64).toInt = 0 := by decide +kernel
        have F_37 := jnlt ez_1 c_2
        have T_38 : (1000000000 : Int64).toInt = 1000000000 := by decide +kernel
        have F_39 := jgt ez_21 c_22
        exact W.zret (v := 1) (ty := .boolean) hx hb hr rfl (fun t ht hW => ⟨⟨1, d_34, rfl, ⟨hgd_34, (fun _ => hPod_34), ⟨Or.inr ⟨by have h0_ : (1 : Int32).toInt = 1 := (by decide +kernel); omega, by omega, (fun a ha => (o3 (o3 (yf42 (yAg.o hgad_28 (a := a) (by rw [ha]; decide))) (show d_32.1 a 2 = d_28.1 a 2 ∧ d_32.1 a 3 = d_28.1 a 3 ∧ d_32.2.1 a 8 = d_28.2.1 a 8 by rw [ed_32]; exact ⟨rfl, rfl, yj_ne (by decide)⟩)) (show d_34.1 a 2 = d_32.1 a 2 ∧ d_34.1 a 3 = d_32.1 a 3 ∧ d_34.2.1 a 8 = d_32.2.1 a 8 by rw [ed_34]; exact ⟨rfl, rfl, yj_ne (by decide)⟩)))⟩, ((congrFun (hsd_34 q0 (by rw [hk_q0]; decide)).1 4).trans ((congrFun (hsd_32 q0 (by rw [hk_q0]; decide)).1 4).trans (hxd_28.2)))⟩⟩, by rw [ht]; exact hP, hD⟩, hS.F ht⟩) hS.2.2 dX8_rate_85
      · refine lv_iconst (v := 0) hx hb dX8_rate_57 (by decide) ?_
        have F_40 := fne (rfl : (r_27 : Int32).toInt = (r_27 : Int32).toInt) (by decide +kernel : (0 : Int32).toInt = 0) c_29
        have T_41 : (0 : Int64).toInt = 0 := by decide +kernel
        have F_42 := jnlt ez_1 c_2
        have T_43 : (1000000000 : Int64).toInt = 1000000000 := by decide +kernel
        have F_44 := jgt ez_21 c_22
        exact W.zret (v := 0) (ty := .boolean) hx hb hr rfl (fun t ht hW => ⟨⟨0, d_28, rfl, ⟨hgd_28, (fun _ => hPod_28), ⟨Or.inl ⟨by have h0_ : (0 : Int32).toInt = 0 := (by decide +kernel); omega, by omega, (fun a ha => (yf42 (yAg.o hgad_28 (a := a) (by rw [ha]; decide))))⟩, (hxd_28.2)⟩⟩, by rw [ht]; exact hP, hD⟩, hS.F ht⟩) hS.2.2 dX8_rate_58
    · refine lv_lload hx hb dX8_rate_14 (lv_at hl 3 rfl) ?_
      refine lv_lconst (v := 0) hx hb dX8_rate_16 (by decide) ?_
      refine W.lcmp hx hb dX8_rate_17 ?_
      refine lv_topi (fun z_45 ez_45 => ?_)
      refine lv_if_lt (tgt := 34) hx hb dX8_rate_18 (by decide) (fun c_46 => ?_) (fun c_46 => ?_)
      · refine lv_iconst (v := 0) hx hb dX8_rate_34 (by decide) ?_
        refine lv_istore (lv' := [(6, .int 0), (0, .ref q0), (1, .int p0), (2, .long p1), (4, .long p2)]) hx hb dX8_rate_35 hl (by decide) rfl (fun ls hl => ?_)
        refine lv_aload_n hx hb dX8_rate_37 rfl (lv_at hl 1 rfl) ?_
        refine lv_aload_n hx hb dX8_rate_38 rfl (lv_at hl 1 rfl) ?_
        refine lv_iload_n hx hb dX8_rate_39 rfl (lv_at hl 2 rfl) ?_
        refine yVri (As := [.int p0]) (rest := [.ref q0]) C0 (g_X8_portReason l G S d q0 p0 hSh hm_q0 hk_q0) ok_X8_portReason (mW374 : Cond.methodLink RX8 124 yX8_portReason ∈ wsT) ⟨Nat.le_of_ble_eq_true rfl, Nat.le_of_ble_eq_true rfl⟩ hP hD hK hN hm_q0 hk_q0 (by decide) rfl rfl rfl hl.1 rfl (Nat.le_of_ble_eq_true rfl) ⟨Nat.le_of_ble_eq_true rfl, Nat.le_of_ble_eq_true rfl⟩ dX8_rate_40 (fun r_47 hr_47 => ?_)
        have tr_47 := tp_ hr_47
        refine lv_iload hx hb dX8_rate_43 (lv_at hl 0 rfl) ?_
        refine ySri (As := [.int 0]) (rest := [.int r_47, .ref q0]) C0 (g_X8_number l G S d 0 ) ok_X8_number (mW196 : Cond.methodLink RX8 54 yX8_number ∈ wsT) ⟨Nat.le_of_ble_eq_true rfl, Nat.le_of_ble_eq_true rfl⟩ hP hD hK hN rfl hl.1 rfl (Nat.le_of_ble_eq_true rfl) ⟨Nat.le_of_ble_eq_true rfl, Nat.le_of_ble_eq_true rfl⟩ dX8_rate_45 (fun r_48 hr_48 => ?_)
        have hL_49 : (0 : Int32).toInt = 0 := by decide +kernel
        have tr_48 := tn_ hr_48
        refine ySri (As := [.int r_47, .int r_48]) (rest := [.ref q0]) C0 (g_X8_least l G S d r_47 r_48 ) ok_X8_least (mW199 : Cond.methodLink RX8 58 yX8_least ∈ wsT) ⟨Nat.le_of_ble_eq_true rfl, Nat.le_of_ble_eq_true rfl⟩ hP hD hK hN rfl hl.1 rfl (Nat.le_of_ble_eq_true rfl) ⟨Nat.le_of_ble_eq_true rfl, Nat.le_of_ble_eq_true rfl⟩ dX8_rate_48 (fun r_50 hr_50 => ?_)
        have tr_50 := tl_ hr_50
        refine yVwi (As := [.int r_50]) (rest := []) C0 (g_X8_refused l G S d q0 r_50 hSh hPo hm_q0 hk_q0) ok_X8_refused (mW160 : Cond.methodLink RX8 42 yX8_refused ∈ wsT) ⟨Nat.le_of_ble_eq_true rfl, Nat.le_of_ble_eq_true rfl⟩ hP hD hS hA hK hN hm_q0 hk_q0 (by decide) rfl rfl rfl hl.1 rfl (Nat.le_of_ble_eq_true rfl) ⟨Nat.le_of_ble_eq_true rfl, Nat.le_of_ble_eq_true rfl⟩ dX8_rate_51 (fun r_51 d_52 H locs hr_51 hP hD hS => ?_)
        obtain ⟨hgad_52, hpad_52, hxd_52⟩ := hr_51
        have hgd_52 : yAg S [4, 8, 24] d d_52 := yAg.tr hg0 hgad_52 (by first | decide | exact fun _ h => h)
        have hPod_52 : yPo S d_52 := hpad_52 hPo
        have tr_51 := tr_ hxd_52.1
        refine lv_if_eq (tgt := 59) hx hb dX8_rate_54 (by decide) (fun c_53 => ?_) (fun c_53 => ?_)
        · refine lv_aload_n hx hb dX8_rate_59 rfl (lv_at hl 1 rfl) ?_
          refine yget (ci := 8) (k := 0) (v := .ref (S.2.2.1 q0 0)) (C := RX8) (T := TX8) (N := 6) C0 hK hP hm_q0 hk_q0 (by decide) rfl inlX8 (by decide) mW16 (fun _ h9 => h9) rfl dX8_rate_60 ?_
          obtain ⟨hmy_54, hky_54⟩ := ySh.f8_0 hSh _ hm_q0 hk_q0
          refine lv_iload_n hx hb dX8_rate_63 rfl (lv_at hl 2 rfl) ?_
          refine yVrr (As := [.int p0]) (rest := []) C0 (g_X0_portAt l G S d_52 (S.2.2.1 q0 0) p0 hSh hmy_54 hky_54) ok_X0_portAt (mW337 : Cond.methodLink RX8 114 yX0_portAt ∈ wsT) ⟨Nat.le_of_ble_eq_true rfl, Nat.le_of_ble_eq_true rfl⟩ hP hD hK hN hmy_54 hky_54 (by decide) rfl rfl rfl hl.1 rfl (Nat.le_of_ble_eq_true rfl) ⟨Nat.le_of_ble_eq_true rfl, Nat.le_of_ble_eq_true rfl⟩ dX8_rate_64 (fun r_55 hr_55 => ?_)
          obtain ⟨hmr_55, hkr_55, her_55⟩ := hr_55
          refine lv_lload_n hx hb dX8_rate_67 rfl (lv_at hl 3 rfl) ?_
          refine yputJ (ci := 4) (k := 9) (C := RX4) (T := TX4) (N := 11) C0 hK hP hD hS hmr_55 hkr_55 (by decide) rfl inlX4 tyX4 tyX4_ok nmX4 (by decide) mW545 (fun _ h9 => h9) rfl (by decide +kernel) (Nat.le_of_ble_eq_true rfl) ysj_4_9 dX8_rate_68 (fun H locs hP hD hS => ?_)
          obtain ⟨d_56, ed_56⟩ : ∃ z : yD, z = yj d_52 r_55 9 p1 := ⟨_, rfl⟩
          rw [← ed_56] at hP hD
          have hgd_56 : yAg S [4, 8, 24] d d_56 := by rw [ed_56]; exact yAg.j hgd_52 (by rw [hkr_55]; decide)
          have hsd_56 : yAg S [4] d_52 d_56 := by rw [ed_56]; exact yAg.j yAg.rf (by rw [hkr_55]; decide)
          have hPod_56 : yPo S d_56 := by rw [ed_56]; exact hPod_52
          refine lv_aload_n hx hb dX8_rate_71 rfl (lv_at hl 1 rfl) ?_
          refine yget (ci := 8) (k := 0) (v := .ref (S.2.2.1 q0 0)) (C := RX8) (T := TX8) (N := 6) C0 hK hP hm_q0 hk_q0 (by decide) rfl inlX8 (by decide) mW16 (fun _ h9 => h9) rfl dX8_rate_72 ?_
          refine lv_iload_n hx hb dX8_rate_75 rfl (lv_at hl 2 rfl) ?_
          refine yVrr (As := [.int p0]) (rest := []) C0 (g_X0_portAt l G S d_56 (S.2.2.1 q0 0) p0 hSh hmy_54 hky_54) ok_X0_portAt (mW337 : Cond.methodLink RX8 114 yX0_portAt ∈ wsT) ⟨Nat.le_of_ble_eq_true rfl, Nat.le_of_ble_eq_true rfl⟩ hP hD hK hN hmy_54 hky_54 (by decide) rfl rfl rfl hl.1 rfl (Nat.le_of_ble_eq_true rfl) ⟨Nat.le_of_ble_eq_true rfl, Nat.le_of_ble_eq_true rfl⟩ dX8_rate_76 (fun r_57 hr_57 => ?_)
          obtain ⟨hmr_57, hkr_57, her_57⟩ := hr_57
          refine lv_lload hx hb dX8_rate_79 (lv_at hl 4 rfl) ?_
          refine yputJ (ci := 4) (k := 10) (C := RX4) (T := TX4) (N := 11) C0 hK hP hD hS hmr_57 hkr_57 (by decide) rfl inlX4 tyX4 tyX4_ok nmX4 (by decide) mW546 (fun _ h9 => h9) rfl (by decide +kernel) (Nat.le_of_ble_eq_true rfl) ysj_4_10 dX8_rate_81 (fun H locs hP hD hS => ?_)
          obtain ⟨d_58, ed_58⟩ : ∃ z : yD, z = yj d_56 r_57 10 p2 := ⟨_, rfl⟩
          rw [← ed_58] at hP hD
          have hgd_58 : yAg S [4, 8, 24] d d_58 := by rw [ed_58]; exact yAg.j hgd_56 (by rw [hkr_57]; decide)
          have hsd_58 : yAg S [4] d_56 d_58 := by rw [ed_58]; exact yAg.j yAg.rf (by rw [hkr_57]; decide)
          have hPod_58 : yPo S d_58 := by rw [ed_58]; exact hPod_56
          refine lv_iconst (v := 1) hx hb dX8_rate_84 (by decide) ?_
          have F_59 := feq (rfl : (r_51 : Int32).toInt = (r_51 : Int32).toInt) (by decide +kernel : (0 : Int32).toInt = 0) c_53
          have T_60 : (0 : Int64).toInt = 0 := by decide +kernel
          have F_61 := jnlt ez_1 c_2
          have T_62 : (1000000000 : Int64).toInt = 1000000000 := by decide +kernel
          have F_63 := jngt ez_21 c_22
          have F_65 := jlt ez_45 c_46
          exact W.zret (v := 1) (ty := .boolean) hx hb hr rfl (fun t ht hW => ⟨⟨1, d_58, rfl, ⟨hgd_58, (fun _ => hPod_58), ⟨Or.inr ⟨by have h0_ : (1 : Int32).toInt = 1 := (by decide +kernel); omega, by omega, (fun a ha => (o3 (o3 (yf42 (yAg.o hgad_52 (a := a) (by rw [ha]; decide))) (show d_56.1 a 2 = d_52.1 a 2 ∧ d_56.1 a 3 = d_52.1 a 3 ∧ d_56.2.1 a 8 = d_52.2.1 a 8 by rw [ed_56]; exact ⟨rfl, rfl, yj_ne (by decide)⟩)) (show d_58.1 a 2 = d_56.1 a 2 ∧ d_58.1 a 3 = d_56.1 a 3 ∧ d_58.2.1 a 8 = d_56.2.1 a 8 by rw [ed_58]; exact ⟨rfl, rfl, yj_ne (by decide)⟩)))⟩, ((congrFun (hsd_58 q0 (by rw [hk_q0]; decide)).1 4).trans ((congrFun (hsd_56 q0 (by rw [hk_q0]; decide)).1 4).trans (hxd_52.2)))⟩⟩, by rw [ht]; exact hP, hD⟩, hS.F ht⟩) hS.2.2 dX8_rate_85
        · refine lv_iconst (v := 0) hx hb dX8_rate_57 (by decide) ?_
          have F_66 := fne (rfl : (r_51 : Int32).toInt = (r_51 : Int32).toInt) (by decide +kernel : (0 : Int32).toInt = 0) c_53
          have T_67 : (0 : Int64).toInt = 0 := by decide +kernel
          have F_68 := jnlt ez_1 c_2
          have T_69 : (1000000000 : Int64).toInt = 1000000000 := by decide +kernel
          have F_70 := jngt ez_21 c_22
          have F_72 := jlt ez_45 c_46
          exact W.zret (v := 0) (ty := .boolean) hx hb hr rfl (fun t ht hW => ⟨⟨0, d_52, rfl, ⟨hgd_52, (fun _ => hPod_52), ⟨Or.inl ⟨by have h0_ : (0 : Int32).toInt = 0 := (by decide +kernel); omega, by omega, (fun a ha => (yf42 (yAg.o hgad_52 (a := a) (by rw [ha]; decide))))⟩, (hxd_52.2)⟩⟩, by rw [ht]; exact hP, hD⟩, hS.F ht⟩) hS.2.2 dX8_rate_58
      · refine lv_lload hx hb dX8_rate_21 (lv_at hl 3 rfl) ?_
        refine lv_ldc2 (v := 1000000000) hx hb hown (htl (.constantLong RX8 203 (1000000000)) mW544) dX8_rate_23 ?_
        refine W.lcmp hx hb dX8_rate_26 ?_
        refine lv_topi (fun z_73 ez_73 => ?_)
        refine lv_if_gt (tgt := 34) hx hb dX8_rate_27 (by decide) (fun c_74 => ?_) (fun c_74 => ?_)
        · refine lv_iconst (v := 0) hx hb dX8_rate_34 (by decide) ?_
          refine lv_istore (lv' := [(6, .int 0), (0, .ref q0), (1, .int p0), (2, .long p1), (4, .long p2)]) hx hb dX8_rate_35 hl (by decide) rfl (fun ls hl => ?_)
          refine lv_aload_n hx hb dX8_rate_37 rfl (lv_at hl 1 rfl) ?_
          refine lv_aload_n hx hb dX8_rate_38 rfl (lv_at hl 1 rfl) ?_
          refine lv_iload_n hx hb dX8_rate_39 rfl (lv_at hl 2 rfl) ?_
          refine yVri (As := [.int p0]) (rest := [.ref q0]) C0 (g_X8_portReason l G S d q0 p0 hSh hm_q0 hk_q0) ok_X8_portReason (mW374 : Cond.methodLink RX8 124 yX8_portReason ∈ wsT) ⟨Nat.le_of_ble_eq_true rfl, Nat.le_of_ble_eq_true rfl⟩ hP hD hK hN hm_q0 hk_q0 (by decide) rfl rfl rfl hl.1 rfl (Nat.le_of_ble_eq_true rfl) ⟨Nat.le_of_ble_eq_true rfl, Nat.le_of_ble_eq_true rfl⟩ dX8_rate_40 (fun r_75 hr_75 => ?_)
          have tr_75 := tp_ hr_75
          refine lv_iload hx hb dX8_rate_43 (lv_at hl 0 rfl) ?_
          refine ySri (As := [.int 0]) (rest := [.int r_75, .ref q0]) C0 (g_X8_number l G S d 0 ) ok_X8_number (mW196 : Cond.methodLink RX8 54 yX8_number ∈ wsT) ⟨Nat.le_of_ble_eq_true rfl, Nat.le_of_ble_eq_true rfl⟩ hP hD hK hN rfl hl.1 rfl (Nat.le_of_ble_eq_true rfl) ⟨Nat.le_of_ble_eq_true rfl, Nat.le_of_ble_eq_true rfl⟩ dX8_rate_45 (fun r_76 hr_76 => ?_)
          have hL_77 : (0 : Int32).toInt = 0 := by decide +kernel
          have tr_76 := tn_ hr_76
          refine ySri (As := [.int r_75, .int r_76]) (rest := [.ref q0]) C0 (g_X8_least l G S d r_75 r_76 ) ok_X8_least (mW199 : Cond.methodLink RX8 58 yX8_least ∈ wsT) ⟨Nat.le_of_ble_eq_true rfl, Nat.le_of_ble_eq_true rfl⟩ hP hD hK hN rfl hl.1 rfl (Nat.le_of_ble_eq_true rfl) ⟨Nat.le_of_ble_eq_true rfl, Nat.le_of_ble_eq_true rfl⟩ dX8_rate_48 (fun r_78 hr_78 => ?_)
          have tr_78 := tl_ hr_78
          refine yVwi (As := [.int r_78]) (rest := []) C0 (g_X8_refused l G S d q0 r_78 hSh hPo hm_q0 hk_q0) ok_X8_refused (mW160 : Cond.methodLink RX8 42 yX8_refused ∈ wsT) ⟨Nat.le_of_ble_eq_true rfl, Nat.le_of_ble_eq_true rfl⟩ hP hD hS hA hK hN hm_q0 hk_q0 (by decide) rfl rfl rfl hl.1 rfl (Nat.le_of_ble_eq_true rfl) ⟨Nat.le_of_ble_eq_true rfl, Nat.le_of_ble_eq_true rfl⟩ dX8_rate_51 (fun r_79 d_80 H locs hr_79 hP hD hS => ?_)
          obtain ⟨hgad_80, hpad_80, hxd_80⟩ := hr_79
          have hgd_80 : yAg S [4, 8, 24] d d_80 := yAg.tr hg0 hgad_80 (by first | decide | exact fun _ h => h)
          have hPod_80 : yPo S d_80 := hpad_80 hPo
          have tr_79 := tr_ hxd_80.1
          refine lv_if_eq (tgt := 59) hx hb dX8_rate_54 (by decide) (fun c_81 => ?_) (fun c_81 => ?_)
          · refine lv_aload_n hx hb dX8_rate_59 rfl (lv_at hl 1 rfl) ?_
            refine yget (ci := 8) (k := 0) (v := .ref (S.2.2.1 q0 0)) (C := RX8) (T := TX8) (N := 6) C0 hK hP hm_q0 hk_q0 (by decide) rfl inlX8 (by decide) mW16 (fun _ h9 => h9) rfl dX8_rate_60 ?_
            obtain ⟨hmy_82, hky_82⟩ := ySh.f8_0 hSh _ hm_q0 hk_q0
            refine lv_iload_n hx hb dX8_rate_63 rfl (lv_at hl 2 rfl) ?_
            refine yVrr (As := [.int p0]) (rest := []) C0 (g_X0_portAt l G S d_80 (S.2.2.1 q0 0) p0 hSh hmy_82 hky_82) ok_X0_portAt (mW337 : Cond.methodLink RX8 114 yX0_portAt ∈ wsT) ⟨Nat.le_of_ble_eq_true rfl, Nat.le_of_ble_eq_true rfl⟩ hP hD hK hN hmy_82 hky_82 (by decide) rfl rfl rfl hl.1 rfl (Nat.le_of_ble_eq_true rfl) ⟨Nat.le_of_ble_eq_true rfl, Nat.le_of_ble_eq_true rfl⟩ dX8_rate_64 (fun r_83 hr_83 => ?_)
            obtain ⟨hmr_83, hkr_83, her_83⟩ := hr_83
            refine lv_lload_n hx hb dX8_rate_67 rfl (lv_at hl 3 rfl) ?_
            refine yputJ (ci := 4) (k := 9) (C := RX4) (T := TX4) (N := 11) C0 hK hP hD hS hmr_83 hkr_83 (by decide) rfl inlX4 tyX4 tyX4_ok nmX4 (by decide) mW545 (fun _ h9 => h9) rfl (by decide +kernel) (Nat.le_of_ble_eq_true rfl) ysj_4_9 dX8_rate_68 (fun H locs hP hD hS => ?_)
            obtain ⟨d_84, ed_84⟩ : ∃ z : yD, z = yj d_80 r_83 9 p1 := ⟨_, rfl⟩
            rw [← ed_84] at hP hD
            have hgd_84 : yAg S [4, 8, 24] d d_84 := by rw [ed_84]; exact yAg.j hgd_80 (by rw [hkr_83]; decide)
            have hsd_84 : yAg S [4] d_80 d_84 := by rw [ed_84]; exact yAg.j yAg.rf (by rw [hkr_83]; decide)
            have hPod_84 : yPo S d_84 := by rw [ed_84]; exact hPod_80
            refine lv_aload_n hx hb dX8_rate_71 rfl (lv_at hl 1 rfl) ?_
            refine yget (ci := 8) (k := 0) (v := .ref (S.2.2.1 q0 0)) (C := RX8) (T := TX8) (N := 6) C0 hK hP hm_q0 hk_q0 (by decide) rfl inlX8 (by decide) mW16 (fun _ h9 => h9) rfl dX8_rate_72 ?_
            refine lv_iload_n hx hb dX8_rate_75 rfl (lv_at hl 2 rfl) ?_
            refine yVrr (As := [.int p0]) (rest := []) C0 (g_X0_portAt l G S d_84 (S.2.2.1 q0 0) p0 hSh hmy_82 hky_82) ok_X0_portAt (mW337 : Cond.methodLink RX8 114 yX0_portAt ∈ wsT) ⟨Nat.le_of_ble_eq_true rfl, Nat.le_of_ble_eq_true rfl⟩ hP hD hK hN hmy_82 hky_82 (by decide) rfl rfl rfl hl.1 rfl (Nat.le_of_ble_eq_true rfl) ⟨Nat.le_of_ble_eq_true rfl, Nat.le_of_ble_eq_true rfl⟩ dX8_rate_76 (fun r_85 hr_85 => ?_)
            obtain ⟨hmr_85, hkr_85, her_85⟩ := hr_85
            refine lv_lload hx hb dX8_rate_79 (lv_at hl 4 rfl) ?_
            refine yputJ (ci := 4) (k := 10) (C := RX4) (T := TX4) (N := 11) C0 hK hP hD hS hmr_85 hkr_85 (by decide) rfl inlX4 tyX4 tyX4_ok nmX4 (by decide) mW546 (fun _ h9 => h9) rfl (by decide +kernel) (Nat.le_of_ble_eq_true rfl) ysj_4_10 dX8_rate_81 (fun H locs hP hD hS => ?_)
            obtain ⟨d_86, ed_86⟩ : ∃ z : yD, z = yj d_84 r_85 10 p2 := ⟨_, rfl⟩
            rw [← ed_86] at hP hD
            have hgd_86 : yAg S [4, 8, 24] d d_86 := by rw [ed_86]; exact yAg.j hgd_84 (by rw [hkr_85]; decide)
            have hsd_86 : yAg S [4] d_84 d_86 := by rw [ed_86]; exact yAg.j yAg.rf (by rw [hkr_85]; decide)
            have hPod_86 : yPo S d_86 := by rw [ed_86]; exact hPod_84
            refine lv_iconst (v := 1) hx hb dX8_rate_84 (by decide) ?_
            have F_87 := feq (rfl : (r_79 : Int32).toInt = (r_79 : Int32).toInt) (by decide +kernel : (0 : Int32).toInt = 0) c_81
            have T_88 : (0 : Int64).toInt = 0 := by decide +kernel
            have F_89 := jnlt ez_1 c_2
            have T_90 : (1000000000 : Int64).toInt = 1000000000 := by decide +kernel
            have F_91 := jngt ez_21 c_22
            have F_93 := jnlt ez_45 c_46
            have F_95 := jgt ez_73 c_74
            exact W.zret (v := 1) (ty := .boolean) hx hb hr rfl (fun t ht hW => ⟨⟨1, d_86, rfl, ⟨hgd_86, (fun _ => hPod_86), ⟨Or.inr ⟨by have h0_ : (1 : Int32).toInt = 1 := (by decide +kernel); omega, by omega, (fun a ha => (o3 (o3 (yf42 (yAg.o hgad_80 (a := a) (by rw [ha]; decide))) (show d_84.1 a 2 = d_80.1 a 2 ∧ d_84.1 a 3 = d_80.1 a 3 ∧ d_84.2.1 a 8 = d_80.2.1 a 8 by rw [ed_84]; exact ⟨rfl, rfl, yj_ne (by decide)⟩)) (show d_86.1 a 2 = d_84.1 a 2 ∧ d_86.1 a 3 = d_84.1 a 3 ∧ d_86.2.1 a 8 = d_84.2.1 a 8 by rw [ed_86]; exact ⟨rfl, rfl, yj_ne (by decide)⟩)))⟩, ((congrFun (hsd_86 q0 (by rw [hk_q0]; decide)).1 4).trans ((congrFun (hsd_84 q0 (by rw [hk_q0]; decide)).1 4).trans (hxd_80.2)))⟩⟩, by rw [ht]; exact hP, hD⟩, hS.F ht⟩) hS.2.2 dX8_rate_85
          · refine lv_iconst (v := 0) hx hb dX8_rate_57 (by decide) ?_
            have F_96 := fne (rfl : (r_79 : Int32).toInt = (r_79 : Int32).toInt) (by decide +kernel : (0 : Int32).toInt = 0) c_81
            have T_97 : (0 : Int64).toInt = 0 := by decide +kernel
            have F_98 := jnlt ez_1 c_2
            have T_99 : (1000000000 : Int64).toInt = 1000000000 := by decide +kernel
            have F_100 := jngt ez_21 c_22
            have F_102 := jnlt ez_45 c_46
            have F_104 := jgt ez_73 c_74
            exact W.zret (v := 0) (ty := .boolean) hx hb hr rfl (fun t ht hW => ⟨⟨0, d_80, rfl, ⟨hgd_80, (fun _ => hPod_80), ⟨Or.inl ⟨by have h0_ : (0 : Int32).toInt = 0 := (by decide +kernel); omega, by omega, (fun a ha => (yf42 (yAg.o hgad_80 (a := a) (by rw [ha]; decide))))⟩, (hxd_80.2)⟩⟩, by rw [ht]; exact hP, hD⟩, hS.F ht⟩) hS.2.2 dX8_rate_58
        · refine lv_iconst (v := 1) hx hb dX8_rate_30 (by decide) ?_
          refine lv_goto (tgt := 35) hx hb dX8_rate_31 (by decide) ?_
          refine lv_istore (lv' := [(6, .int 1), (0, .ref q0), (1, .int p0), (2, .long p1), (4, .long p2)]) hx hb dX8_rate_35 hl (by decide) rfl (fun ls hl => ?_)
          refine lv_aload_n hx hb dX8_rate_37 rfl (lv_at hl 1 rfl) ?_
          refine lv_aload_n hx hb dX8_rate_38 rfl (lv_at hl 1 rfl) ?_
          refine lv_iload_n hx hb dX8_rate_39 rfl (lv_at hl 2 rfl) ?_
          refine yVri (As := [.int p0]) (rest := [.ref q0]) C0 (g_X8_portReason l G S d q0 p0 hSh hm_q0 hk_q0) ok_X8_portReason (mW374 : Cond.methodLink RX8 124 yX8_portReason ∈ wsT) ⟨Nat.le_of_ble_eq_true rfl, Nat.le_of_ble_eq_true rfl⟩ hP hD hK hN hm_q0 hk_q0 (by decide) rfl rfl rfl hl.1 rfl (Nat.le_of_ble_eq_true rfl) ⟨Nat.le_of_ble_eq_true rfl, Nat.le_of_ble_eq_true rfl⟩ dX8_rate_40 (fun r_105 hr_105 => ?_)
          have tr_105 := tp_ hr_105
          refine lv_iload hx hb dX8_rate_43 (lv_at hl 0 rfl) ?_
          refine ySri (As := [.int 1]) (rest := [.int r_105, .ref q0]) C0 (g_X8_number l G S d 1 ) ok_X8_number (mW196 : Cond.methodLink RX8 54 yX8_number ∈ wsT) ⟨Nat.le_of_ble_eq_true rfl, Nat.le_of_ble_eq_true rfl⟩ hP hD hK hN rfl hl.1 rfl (Nat.le_of_ble_eq_true rfl) ⟨Nat.le_of_ble_eq_true rfl, Nat.le_of_ble_eq_true rfl⟩ dX8_rate_45 (fun r_106 hr_106 => ?_)
          have hL_107 : (1 : Int32).toInt = 1 := by decide +kernel
          have tr_106 := tn_ hr_106
          refine ySri (As := [.int r_105, .int r_106]) (rest := [.ref q0]) C0 (g_X8_least l G S d r_105 r_106 ) ok_X8_least (mW199 : Cond.methodLink RX8 58 yX8_least ∈ wsT) ⟨Nat.le_of_ble_eq_true rfl, Nat.le_of_ble_eq_true rfl⟩ hP hD hK hN rfl hl.1 rfl (Nat.le_of_ble_eq_true rfl) ⟨Nat.le_of_ble_eq_true rfl, Nat.le_of_ble_eq_true rfl⟩ dX8_rate_48 (fun r_108 hr_108 => ?_)
          have tr_108 := tl_ hr_108
          refine yVwi (As := [.int r_108]) (rest := []) C0 (g_X8_refused l G S d q0 r_108 hSh hPo hm_q0 hk_q0) ok_X8_refused (mW160 : Cond.methodLink RX8 42 yX8_refused ∈ wsT) ⟨Nat.le_of_ble_eq_true rfl, Nat.le_of_ble_eq_true rfl⟩ hP hD hS hA hK hN hm_q0 hk_q0 (by decide) rfl rfl rfl hl.1 rfl (Nat.le_of_ble_eq_true rfl) ⟨Nat.le_of_ble_eq_true rfl, Nat.le_of_ble_eq_true rfl⟩ dX8_rate_51 (fun r_109 d_110 H locs hr_109 hP hD hS => ?_)
          obtain ⟨hgad_110, hpad_110, hxd_110⟩ := hr_109
          have hgd_110 : yAg S [4, 8, 24] d d_110 := yAg.tr hg0 hgad_110 (by first | decide | exact fun _ h => h)
          have hPod_110 : yPo S d_110 := hpad_110 hPo
          have tr_109 := tr_ hxd_110.1
          refine lv_if_eq (tgt := 59) hx hb dX8_rate_54 (by decide) (fun c_111 => ?_) (fun c_111 => ?_)
          · refine lv_aload_n hx hb dX8_rate_59 rfl (lv_at hl 1 rfl) ?_
            refine yget (ci := 8) (k := 0) (v := .ref (S.2.2.1 q0 0)) (C := RX8) (T := TX8) (N := 6) C0 hK hP hm_q0 hk_q0 (by decide) rfl inlX8 (by decide) mW16 (fun _ h9 => h9) rfl dX8_rate_60 ?_
            obtain ⟨hmy_112, hky_112⟩ := ySh.f8_0 hSh _ hm_q0 hk_q0
            refine lv_iload_n hx hb dX8_rate_63 rfl (lv_at hl 2 rfl) ?_
            refine yVrr (As := [.int p0]) (rest := []) C0 (g_X0_portAt l G S d_110 (S.2.2.1 q0 0) p0 hSh hmy_112 hky_112) ok_X0_portAt (mW337 : Cond.methodLink RX8 114 yX0_portAt ∈ wsT) ⟨Nat.le_of_ble_eq_true rfl, Nat.le_of_ble_eq_true rfl⟩ hP hD hK hN hmy_112 hky_112 (by decide) rfl rfl rfl hl.1 rfl (Nat.le_of_ble_eq_true rfl) ⟨Nat.le_of_ble_eq_true rfl, Nat.le_of_ble_eq_true rfl⟩ dX8_rate_64 (fun r_113 hr_113 => ?_)
            obtain ⟨hmr_113, hkr_113, her_113⟩ := hr_113
            refine lv_lload_n hx hb dX8_rate_67 rfl (lv_at hl 3 rfl) ?_
            refine yputJ (ci := 4) (k := 9) (C := RX4) (T := TX4) (N := 11) C0 hK hP hD hS hmr_113 hkr_113 (by decide) rfl inlX4 tyX4 tyX4_ok nmX4 (by decide) mW545 (fun _ h9 => h9) rfl (by decide +kernel) (Nat.le_of_ble_eq_true rfl) ysj_4_9 dX8_rate_68 (fun H locs hP hD hS => ?_)
            obtain ⟨d_114, ed_114⟩ : ∃ z : yD, z = yj d_110 r_113 9 p1 := ⟨_, rfl⟩
            rw [← ed_114] at hP hD
            have hgd_114 : yAg S [4, 8, 24] d d_114 := by rw [ed_114]; exact yAg.j hgd_110 (by rw [hkr_113]; decide)
            have hsd_114 : yAg S [4] d_110 d_114 := by rw [ed_114]; exact yAg.j yAg.rf (by rw [hkr_113]; decide)
            have hPod_114 : yPo S d_114 := by rw [ed_114]; exact hPod_110
            refine lv_aload_n hx hb dX8_rate_71 rfl (lv_at hl 1 rfl) ?_
            refine yget (ci := 8) (k := 0) (v := .ref (S.2.2.1 q0 0)) (C := RX8) (T := TX8) (N := 6) C0 hK hP hm_q0 hk_q0 (by decide) rfl inlX8 (by decide) mW16 (fun _ h9 => h9) rfl dX8_rate_72 ?_
            refine lv_iload_n hx hb dX8_rate_75 rfl (lv_at hl 2 rfl) ?_
            refine yVrr (As := [.int p0]) (rest := []) C0 (g_X0_portAt l G S d_114 (S.2.2.1 q0 0) p0 hSh hmy_112 hky_112) ok_X0_portAt (mW337 : Cond.methodLink RX8 114 yX0_portAt ∈ wsT) ⟨Nat.le_of_ble_eq_true rfl, Nat.le_of_ble_eq_true rfl⟩ hP hD hK hN hmy_112 hky_112 (by decide) rfl rfl rfl hl.1 rfl (Nat.le_of_ble_eq_true rfl) ⟨Nat.le_of_ble_eq_true rfl, Nat.le_of_ble_eq_true rfl⟩ dX8_rate_76 (fun r_115 hr_115 => ?_)
            obtain ⟨hmr_115, hkr_115, her_115⟩ := hr_115
            refine lv_lload hx hb dX8_rate_79 (lv_at hl 4 rfl) ?_
            refine yputJ (ci := 4) (k := 10) (C := RX4) (T := TX4) (N := 11) C0 hK hP hD hS hmr_115 hkr_115 (by decide) rfl inlX4 tyX4 tyX4_ok nmX4 (by decide) mW546 (fun _ h9 => h9) rfl (by decide +kernel) (Nat.le_of_ble_eq_true rfl) ysj_4_10 dX8_rate_81 (fun H locs hP hD hS => ?_)
            obtain ⟨d_116, ed_116⟩ : ∃ z : yD, z = yj d_114 r_115 10 p2 := ⟨_, rfl⟩
            rw [← ed_116] at hP hD
            have hgd_116 : yAg S [4, 8, 24] d d_116 := by rw [ed_116]; exact yAg.j hgd_114 (by rw [hkr_115]; decide)
            have hsd_116 : yAg S [4] d_114 d_116 := by rw [ed_116]; exact yAg.j yAg.rf (by rw [hkr_115]; decide)
            have hPod_116 : yPo S d_116 := by rw [ed_116]; exact hPod_114
            refine lv_iconst (v := 1) hx hb dX8_rate_84 (by decide) ?_
            have F_117 := feq (rfl : (r_109 : Int32).toInt = (r_109 : Int32).toInt) (by decide +kernel : (0 : Int32).toInt = 0) c_111
            have T_118 : (0 : Int64).toInt = 0 := by decide +kernel
            have F_119 := jnlt ez_1 c_2
            have T_120 : (1000000000 : Int64).toInt = 1000000000 := by decide +kernel
            have F_121 := jngt ez_21 c_22
            have F_123 := jnlt ez_45 c_46
            have F_125 := jngt ez_73 c_74
            exact W.zret (v := 1) (ty := .boolean) hx hb hr rfl (fun t ht hW => ⟨⟨1, d_116, rfl, ⟨hgd_116, (fun _ => hPod_116), ⟨Or.inr ⟨by have h0_ : (1 : Int32).toInt = 1 := (by decide +kernel); omega, by omega, (fun a ha => (o3 (o3 (yf42 (yAg.o hgad_110 (a := a) (by rw [ha]; decide))) (show d_114.1 a 2 = d_110.1 a 2 ∧ d_114.1 a 3 = d_110.1 a 3 ∧ d_114.2.1 a 8 = d_110.2.1 a 8 by rw [ed_114]; exact ⟨rfl, rfl, yj_ne (by decide)⟩)) (show d_116.1 a 2 = d_114.1 a 2 ∧ d_116.1 a 3 = d_114.1 a 3 ∧ d_116.2.1 a 8 = d_114.2.1 a 8 by rw [ed_116]; exact ⟨rfl, rfl, yj_ne (by decide)⟩)))⟩, ((congrFun (hsd_116 q0 (by rw [hk_q0]; decide)).1 4).trans ((congrFun (hsd_114 q0 (by rw [hk_q0]; decide)).1 4).trans (hxd_110.2)))⟩⟩, by rw [ht]; exact hP, hD⟩, hS.F ht⟩) hS.2.2 dX8_rate_85
          · refine lv_iconst (v := 0) hx hb dX8_rate_57 (by decide) ?_
            have F_126 := fne (rfl : (r_109 : Int32).toInt = (r_109 : Int32).toInt) (by decide +kernel : (0 : Int32).toInt = 0) c_111
            have T_127 : (0 : Int64).toInt = 0 := by decide +kernel
            have F_128 := jnlt ez_1 c_2
            have T_129 : (1000000000 : Int64).toInt = 1000000000 := by decide +kernel
            have F_130 := jngt ez_21 c_22
            have F_132 := jnlt ez_45 c_46
            have F_134 := jngt ez_73 c_74
            exact W.zret (v := 0) (ty := .boolean) hx hb hr rfl (fun t ht hW => ⟨⟨0, d_110, rfl, ⟨hgd_110, (fun _ => hPod_110), ⟨Or.inl ⟨by have h0_ : (0 : Int32).toInt = 0 := (by decide +kernel); omega, by omega, (fun a ha => (yf42 (yAg.o hgad_110 (a := a) (by rw [ha]; decide))))⟩, (hxd_110.2)⟩⟩, by rw [ht]; exact hP, hD⟩, hS.F ht⟩) hS.2.2 dX8_rate_58
theorem dX8_together_0 : decode cX8_together 0 = .ok (.iload_n 1, 1) := by decide +kernel
theorem dX8_together_1 : decode cX8_together 1 = .ok (.iconst 0, 1) := by decide +kernel
theorem dX8_together_2 : decode cX8_together 2 = .ok (.sipush 255, 3) := by decide +kernel
theorem dX8_together_5 : decode cX8_together 5 = .ok (.invokestatic 71, 3) := by decide +kernel
theorem dX8_together_8 : decode cX8_together 8 = .ok (.invokestatic 54, 3) := by decide +kernel
theorem dX8_together_11 : decode cX8_together 11 = .ok (.istore_n 2, 1) := by decide +kernel
theorem dX8_together_12 : decode cX8_together 12 = .ok (.iconst 0, 1) := by decide +kernel
theorem dX8_together_13 : decode cX8_together 13 = .ok (.istore_n 3, 1) := by decide +kernel
theorem dX8_together_14 : decode cX8_together 14 = .ok (.iload_n 3, 1) := by decide +kernel
theorem dX8_together_15 : decode cX8_together 15 = .ok (.bipush 8, 2) := by decide +kernel
theorem dX8_together_17 : decode cX8_together 17 = .ok (.if_icmp .ge 28, 3) := by decide +kernel
theorem dX8_together_20 : decode cX8_together 20 = .ok (.iload_n 2, 1) := by decide +kernel
theorem dX8_together_21 : decode cX8_together 21 = .ok (.ifCond .ne 24, 3) := by decide +kernel
theorem dX8_together_24 : decode cX8_together 24 = .ok (.iload_n 1, 1) := by decide +kernel
theorem dX8_together_25 : decode cX8_together 25 = .ok (.iload_n 3, 1) := by decide +kernel
theorem dX8_together_26 : decode cX8_together 26 = .ok (.ishr, 1) := by decide +kernel
theorem dX8_together_27 : decode cX8_together 27 = .ok (.iconst 1, 1) := by decide +kernel
theorem dX8_together_28 : decode cX8_together 28 = .ok (.iand, 1) := by decide +kernel
theorem dX8_together_29 : decode cX8_together 29 = .ok (.iconst 1, 1) := by decide +kernel
theorem dX8_together_30 : decode cX8_together 30 = .ok (.if_icmp .ne 9, 3) := by decide +kernel
theorem dX8_together_33 : decode cX8_together 33 = .ok (.aload_n 0, 1) := by decide +kernel
theorem dX8_together_34 : decode cX8_together 34 = .ok (.iload_n 3, 1) := by decide +kernel
theorem dX8_together_35 : decode cX8_together 35 = .ok (.invokevirtual 124, 3) := by decide +kernel
theorem dX8_together_38 : decode cX8_together 38 = .ok (.istore_n 2, 1) := by decide +kernel
theorem dX8_together_39 : decode cX8_together 39 = .ok (.iinc 3 1, 3) := by decide +kernel
theorem dX8_together_42 : decode cX8_together 42 = .ok (.goto (-28), 3) := by decide +kernel
theorem dX8_together_45 : decode cX8_together 45 = .ok (.aload_n 0, 1) := by decide +kernel
theorem dX8_together_46 : decode cX8_together 46 = .ok (.iload_n 2, 1) := by decide +kernel
theorem dX8_together_47 : decode cX8_together 47 = .ok (.invokevirtual 42, 3) := by decide +kernel
theorem dX8_together_50 : decode cX8_together 50 = .ok (.ifCond .eq 5, 3) := by decide +kernel
theorem dX8_together_53 : decode cX8_together 53 = .ok (.iconst 0, 1) := by decide +kernel
theorem dX8_together_54 : decode cX8_together 54 = .ok (.ireturn, 1) := by decide +kernel
theorem dX8_together_55 : decode cX8_together 55 = .ok (.aload_n 0, 1) := by decide +kernel
theorem dX8_together_56 : decode cX8_together 56 = .ok (.getfield 12, 3) := by decide +kernel
theorem dX8_together_59 : decode cX8_together 59 = .ok (.iload_n 1, 1) := by decide +kernel
theorem dX8_together_60 : decode cX8_together 60 = .ok (.putfield 211, 3) := by decide +kernel
theorem dX8_together_63 : decode cX8_together 63 = .ok (.iconst 1, 1) := by decide +kernel
theorem dX8_together_64 : decode cX8_together 64 = .ok (.ireturn, 1) := by decide +kernel
set_option maxHeartbeats 4000000 in
set_option maxRecDepth 100000 in
theorem g_X8_together (l : Launch) (G : xG) (S : yS) (d : yD) (q0 : Nat) (p0 : Int32) (hSh : ySh S) (hPo : yPo S d) (hm_q0 : q0 ∈ S.1) (hk_q0 : S.2.1 q0 = 8) : xWi l G yX8_together cX8_together 4 (some .boolean) 2 43 0 0 [.ref q0, .int p0] (yW G S d) (fun r (u : yD) => yAg S [0, 8, 24] d u ∧ (yPo S d → yPo S u) ∧ (((r.toInt = 0 ∧ ¬ zTC p0 (fun j => 0 < (d.1 (yPA S (S.2.2.1 q0 0) j) 2).toInt)) ∨ (r.toInt = 1 ∧ zTC p0 (fun j => 0 < (d.1 (yPA S (S.2.2.1 q0 0) j) 2).toInt))) ∧ u.1 q0 4 = d.1 q0 4)) (fun u => yW G S u) := by
  intro sz
  refine xstart (by decide) (Nat.le_of_ble_eq_true rfl) (fun p e s m args below meth c ls C0 hr hlocks hin hsz hP hK hD hN hl => ?_)
  obtain ⟨hx, hb, hml, hown, htl⟩ := id C0
  subst hsz
  have hD := hD.self (sz := s.heap.size)
  generalize hAe : va_A (yW G S d) s.heap.size = A at hD ⊢
  have hA : ∀ q : Nat, s.heap.size ≤ q → A q := fun q h => by rw [← hAe]; exact Or.inr h
  have hS : va_S A s.heap s.heap [] := va_S.rf
  have hg0 : yAg S [0, 8, 24] d d := yAg.rf
  have hl : lv_has ls 4 [(0, .ref q0), (1, .int p0)] := hl
  refine lv_iload_n hx hb dX8_together_0 rfl (lv_at hl 1 rfl) ?_
  refine lv_iconst (v := 0) hx hb dX8_together_1 (by decide) ?_
  refine lv_sipush (v := 255) hx hb dX8_together_2 (by decide) ?_
  refine ySri (As := [.int p0, .int 0, .int 255]) (rest := []) C0 (g_X8_within l G S d p0 0 255 ) ok_X8_within (mW193 : Cond.methodLink RX8 71 yX8_within ∈ wsT) ⟨Nat.le_of_ble_eq_true rfl, Nat.le_of_ble_eq_true rfl⟩ hP hD hK hN rfl hl.1 rfl (Nat.le_of_ble_eq_true rfl) ⟨Nat.le_of_ble_eq_true rfl, Nat.le_of_ble_eq_true rfl⟩ dX8_together_5 (fun r_1 hr_1 => ?_)
  have hL_2 : (0 : Int32).toInt = 0 := by decide +kernel
  have hL_3 : (255 : Int32).toInt = 255 := by decide +kernel
  have tr_1 := tw_ hr_1
  refine ySri (As := [.int r_1]) (rest := []) C0 (g_X8_number l G S d r_1 ) ok_X8_number (mW196 : Cond.methodLink RX8 54 yX8_number ∈ wsT) ⟨Nat.le_of_ble_eq_true rfl, Nat.le_of_ble_eq_true rfl⟩ hP hD hK hN rfl hl.1 rfl (Nat.le_of_ble_eq_true rfl) ⟨Nat.le_of_ble_eq_true rfl, Nat.le_of_ble_eq_true rfl⟩ dX8_together_8 (fun r_4 hr_4 => ?_)
  have tr_4 := tn_ hr_4
  refine lv_istore_n (lv' := [(2, .int r_4), (0, .ref q0), (1, .int p0)]) hx hb dX8_together_11 rfl hl (by decide) rfl (fun ls hl => ?_)
  refine lv_iconst (v := 0) hx hb dX8_together_12 (by decide) ?_
  refine lv_istore_n (lv' := [(3, .int 0), (2, .int r_4), (0, .ref q0), (1, .int p0)]) hx hb dX8_together_13 rfl hl (by decide) rfl (fun ls hl => ?_)
  refine yloopR (σ := Int32 × Int32) (fun x => (2147483647 - (x.2 : Int32).toInt).toNat) 14 (fun x ls => (((0 ≤ (x.2 : Int32).toInt) ∧ zTg p0 (fun j => 0 < (d.1 (yPA S (S.2.2.1 q0 0) j) 2).toInt) x.1 x.2)) ∧ lv_has ls 4 [(3, .int x.2), (2, .int x.1), (0, .ref q0), (1, .int p0)]) (fun x ls hl hnext_7 => ?_) (r_4, 0) ⟨⟨(show 0 ≤ (0 : Int32).toInt from by have hl1_ : (0 : Int32).toInt = 0 := (by decide +kernel); have hq0_ : (0 : Int32).toInt = 0 := (by decide +kernel); omega), (show zTg p0 (fun j => 0 < (d.1 (yPA S (S.2.2.1 q0 0) j) 2).toInt) r_4 0 from zTg.ini (by have hl1_ : (0 : Int32).toInt = 0 := (by decide +kernel); omega))⟩, lv_sub hl [0, 1, 2, 3] rfl⟩
  obtain ⟨v_5, v_6⟩ := x
  obtain ⟨hex_8, hl⟩ := hl
  have hex_8 : (((0 ≤ (v_6 : Int32).toInt) ∧ zTg p0 (fun j => 0 < (d.1 (yPA S (S.2.2.1 q0 0) j) 2).toInt) v_5 v_6)) := hex_8
  have hl : lv_has ls 4 [(3, .int v_6), (2, .int v_5), (0, .ref q0), (1, .int p0)] := hl
  refine lv_iload_n hx hb dX8_together_14 rfl (lv_at hl 0 rfl) ?_
  refine lv_bipush (v := 8) hx hb dX8_together_15 (by decide) ?_
  refine lv_icmp_ge (tgt := 45) hx hb dX8_together_17 (by decide) (fun c_9 => ?_) (fun c_9 => ?_)
  · refine lv_aload_n hx hb dX8_together_45 rfl (lv_at hl 2 rfl) ?_
    refine lv_iload_n hx hb dX8_together_46 rfl (lv_at hl 1 rfl) ?_
    refine yVwi (As := [.int v_5]) (rest := []) C0 (g_X8_refused l G S d q0 v_5 hSh hPo hm_q0 hk_q0) ok_X8_refused (mW160 : Cond.methodLink RX8 42 yX8_refused ∈ wsT) ⟨Nat.le_of_ble_eq_true rfl, Nat.le_of_ble_eq_true rfl⟩ hP hD hS hA hK hN hm_q0 hk_q0 (by decide) rfl rfl rfl hl.1 rfl (Nat.le_of_ble_eq_true rfl) ⟨Nat.le_of_ble_eq_true rfl, Nat.le_of_ble_eq_true rfl⟩ dX8_together_47 (fun r_10 d_11 H locs hr_10 hP hD hS => ?_)
    obtain ⟨hgad_11, hpad_11, hxd_11⟩ := hr_10
    have hgd_11 : yAg S [0, 8, 24] d d_11 := yAg.tr hg0 hgad_11 (by first | decide | exact fun _ h => h)
    have hPod_11 : yPo S d_11 := hpad_11 hPo
    have tr_10 := tr_ hxd_11.1
    refine lv_if_eq (tgt := 55) hx hb dX8_together_50 (by decide) (fun c_12 => ?_) (fun c_12 => ?_)
    · refine lv_aload_n hx hb dX8_together_55 rfl (lv_at hl 2 rfl) ?_
      refine yget (ci := 8) (k := 0) (v := .ref (S.2.2.1 q0 0)) (C := RX8) (T := TX8) (N := 6) C0 hK hP hm_q0 hk_q0 (by decide) rfl inlX8 (by decide) mW16 (fun _ h9 => h9) rfl dX8_together_56 ?_
      obtain ⟨hmy_13, hky_13⟩ := ySh.f8_0 hSh _ hm_q0 hk_q0
      refine lv_iload_n hx hb dX8_together_59 rfl (lv_at hl 3 rfl) ?_
      refine yputI (ci := 0) (k := 5) (ty := .int) (C := RX0) (T := TX0) (N := 6) C0 hK hP hD hS hmy_13 hky_13 (by decide) rfl inlX0 tyX0 tyX0_ok nmX0 (by decide) mW317 (fun _ h9 => h9) rfl (by decide +kernel) rfl rfl (Nat.le_of_ble_eq_true rfl) ysi_0_5 dX8_together_60 (fun H locs hP hD hS => ?_)
      obtain ⟨d_14, ed_14⟩ : ∃ z : yD, z = yi d_11 (S.2.2.1 q0 0) 5 p0 := ⟨_, rfl⟩
      rw [← ed_14] at hP hD
      have hgd_14 : yAg S [0, 8, 24] d d_14 := by rw [ed_14]; exact yAg.i hgd_11 (by rw [hky_13]; decide)
      have hsd_14 : yAg S [0] d_11 d_14 := by rw [ed_14]; exact yAg.i yAg.rf (by rw [hky_13]; decide)
      have hPod_14 : yPo S d_14 := by rw [ed_14]; exact yPo.i hPod_11 hky_13 (Or.inl rfl)
      refine lv_iconst (v := 1) hx hb dX8_together_63 (by decide) ?_
      have F_15 := fle (by decide +kernel : (8 : Int32).toInt = 8) (rfl : (v_6 : Int32).toInt = (v_6 : Int32).toInt) c_9
      have F_16 := feq (rfl : (r_10 : Int32).toInt = (r_10 : Int32).toInt) (by decide +kernel : (0 : Int32).toInt = 0) c_12
      have hz_ := zTg.fin hex_8.2 (Or.inl c_9)
      exact W.zret (v := 1) (ty := .boolean) hx hb hr rfl (fun t ht hW => ⟨⟨1, d_14, rfl, ⟨hgd_14, (fun _ => hPod_14), ⟨Or.inr ⟨by decide +kernel, hz_.elim (fun w => w.2) (fun w => absurd (show (v_5 : Int32).toInt = 0 from by omega) w.1)⟩, ((congrFun (hsd_14 q0 (by rw [hk_q0]; decide)).1 4).trans (hxd_11.2))⟩⟩, by rw [ht]; exact hP, hD⟩, hS.F ht⟩) hS.2.2 dX8_together_64
    · refine lv_iconst (v := 0) hx hb dX8_together_53 (by decide) ?_
      have F_17 := fle (by decide +kernel : (8 : Int32).toInt = 8) (rfl : (v_6 : Int32).toInt = (v_6 : Int32).toInt) c_9
      have F_18 := fne (rfl : (r_10 : Int32).toInt = (r_10 : Int32).toInt) (by decide +kernel : (0 : Int32).toInt = 0) c_12
      have hz_ := zTg.fin hex_8.2 (Or.inl c_9)
      exact W.zret (v := 0) (ty := .boolean) hx hb hr rfl (fun t ht hW => ⟨⟨0, d_11, rfl, ⟨hgd_11, (fun _ => hPod_11), ⟨Or.inl ⟨by decide +kernel, hz_.elim (fun w => absurd w.1 (by omega)) (fun w => w.2)⟩, (hxd_11.2)⟩⟩, by rw [ht]; exact hP, hD⟩, hS.F ht⟩) hS.2.2 dX8_together_54
  · refine lv_iload_n hx hb dX8_together_20 rfl (lv_at hl 1 rfl) ?_
    refine lv_if_ne (tgt := 45) hx hb dX8_together_21 (by decide) (fun c_19 => ?_) (fun c_19 => ?_)
    · refine lv_aload_n hx hb dX8_together_45 rfl (lv_at hl 2 rfl) ?_
      refine lv_iload_n hx hb dX8_together_46 rfl (lv_at hl 1 rfl) ?_
      refine yVwi (As := [.int v_5]) (rest := []) C0 (g_X8_refused l G S d q0 v_5 hSh hPo hm_q0 hk_q0) ok_X8_refused (mW160 : Cond.methodLink RX8 42 yX8_refused ∈ wsT) ⟨Nat.le_of_ble_eq_true rfl, Nat.le_of_ble_eq_true rfl⟩ hP hD hS hA hK hN hm_q0 hk_q0 (by decide) rfl rfl rfl hl.1 rfl (Nat.le_of_ble_eq_true rfl) ⟨Nat.le_of_ble_eq_true rfl, Nat.le_of_ble_eq_true rfl⟩ dX8_together_47 (fun r_20 d_21 H locs hr_20 hP hD hS => ?_)
      obtain ⟨hgad_21, hpad_21, hxd_21⟩ := hr_20
      have hgd_21 : yAg S [0, 8, 24] d d_21 := yAg.tr hg0 hgad_21 (by first | decide | exact fun _ h => h)
      have hPod_21 : yPo S d_21 := hpad_21 hPo
      have tr_20 := tr_ hxd_21.1
      refine lv_if_eq (tgt := 55) hx hb dX8_together_50 (by decide) (fun c_22 => ?_) (fun c_22 => ?_)
      · refine lv_aload_n hx hb dX8_together_55 rfl (lv_at hl 2 rfl) ?_
        refine yget (ci := 8) (k := 0) (v := .ref (S.2.2.1 q0 0)) (C := RX8) (T := TX8) (N := 6) C0 hK hP hm_q0 hk_q0 (by decide) rfl inlX8 (by decide) mW16 (fun _ h9 => h9) rfl dX8_together_56 ?_
        obtain ⟨hmy_23, hky_23⟩ := ySh.f8_0 hSh _ hm_q0 hk_q0
        refine lv_iload_n hx hb dX8_together_59 rfl (lv_at hl 3 rfl) ?_
        refine yputI (ci := 0) (k := 5) (ty := .int) (C := RX0) (T := TX0) (N := 6) C0 hK hP hD hS hmy_23 hky_23 (by decide) rfl inlX0 tyX0 tyX0_ok nmX0 (by decide) mW317 (fun _ h9 => h9) rfl (by decide +kernel) rfl rfl (Nat.le_of_ble_eq_true rfl) ysi_0_5 dX8_together_60 (fun H locs hP hD hS => ?_)
        obtain ⟨d_24, ed_24⟩ : ∃ z : yD, z = yi d_21 (S.2.2.1 q0 0) 5 p0 := ⟨_, rfl⟩
        rw [← ed_24] at hP hD
        have hgd_24 : yAg S [0, 8, 24] d d_24 := by rw [ed_24]; exact yAg.i hgd_21 (by rw [hky_23]; decide)
        have hsd_24 : yAg S [0] d_21 d_24 := by rw [ed_24]; exact yAg.i yAg.rf (by rw [hky_23]; decide)
        have hPod_24 : yPo S d_24 := by rw [ed_24]; exact yPo.i hPod_21 hky_23 (Or.inl rfl)
        refine lv_iconst (v := 1) hx hb dX8_together_63 (by decide) ?_
        have F_25 := fnle (by decide +kernel : (8 : Int32).toInt = 8) (rfl : (v_6 : Int32).toInt = (v_6 : Int32).toInt) c_9
        have F_26 := fne (rfl : (v_5 : Int32).toInt = (v_5 : Int32).toInt) (by decide +kernel : (0 : Int32).toInt = 0) c_19
        have F_27 := feq (rfl : (r_20 : Int32).toInt = (r_20 : Int32).toInt) (by decide +kernel : (0 : Int32).toInt = 0) c_22
        have hz_ := zTg.fin hex_8.2 (Or.inr (by omega))
        exact W.zret (v := 1) (ty := .boolean) hx hb hr rfl (fun t ht hW => ⟨⟨1, d_24, rfl, ⟨hgd_24, (fun _ => hPod_24), ⟨Or.inr ⟨by decide +kernel, hz_.elim (fun w => w.2) (fun w => absurd (show (v_5 : Int32).toInt = 0 from by omega) w.1)⟩, ((congrFun (hsd_24 q0 (by rw [hk_q0]; decide)).1 4).trans (hxd_21.2))⟩⟩, by rw [ht]; exact hP, hD⟩, hS.F ht⟩) hS.2.2 dX8_together_64
      · refine lv_iconst (v := 0) hx hb dX8_together_53 (by decide) ?_
        have F_28 := fnle (by decide +kernel : (8 : Int32).toInt = 8) (rfl : (v_6 : Int32).toInt = (v_6 : Int32).toInt) c_9
        have F_29 := fne (rfl : (v_5 : Int32).toInt = (v_5 : Int32).toInt) (by decide +kernel : (0 : Int32).toInt = 0) c_19
        have F_30 := fne (rfl : (r_20 : Int32).toInt = (r_20 : Int32).toInt) (by decide +kernel : (0 : Int32).toInt = 0) c_22
        have hz_ := zTg.fin hex_8.2 (Or.inr (by omega))
        exact W.zret (v := 0) (ty := .boolean) hx hb hr rfl (fun t ht hW => ⟨⟨0, d_21, rfl, ⟨hgd_21, (fun _ => hPod_21), ⟨Or.inl ⟨by decide +kernel, hz_.elim (fun w => absurd w.1 (by omega)) (fun w => w.2)⟩, (hxd_21.2)⟩⟩, by rw [ht]; exact hP, hD⟩, hS.F ht⟩) hS.2.2 dX8_together_54
    · refine lv_iload_n hx hb dX8_together_24 rfl (lv_at hl 3 rfl) ?_
      refine lv_iload_n hx hb dX8_together_25 rfl (lv_at hl 0 rfl) ?_
      refine lv_ishr hx hb dX8_together_26 ?_
      refine lv_topi (fun z_31 ez_31 => ?_)
      refine lv_iconst (v := 1) hx hb dX8_together_27 (by decide) ?_
      refine lv_iand hx hb dX8_together_28 ?_
      refine lv_topi (fun z_32 ez_32 => ?_)
      refine lv_iconst (v := 1) hx hb dX8_together_29 (by decide) ?_
      refine lv_icmp_ne (tgt := 39) hx hb dX8_together_30 (by decide) (fun c_33 => ?_) (fun c_33 => ?_)
      · refine lv_iinc (v := v_6 + 1) (lv' := [(3, .int (v_6 + 1)), (2, .int v_5), (0, .ref q0), (1, .int p0)]) hx hb dX8_together_39 hl (k := 0) rfl rfl (by decide) rfl (fun ls hl => ?_)
        refine lv_goto (tgt := 14) hx hb dX8_together_42 (by decide) ?_
        have hk0_ : 0 ≤ (v_6 : Int32).toInt := hex_8.2.1
        have F_35 := fnle (by decide +kernel : (8 : Int32).toInt = 8) (rfl : (v_6 : Int32).toInt = (v_6 : Int32).toInt) c_9
        have F_36 := feq (rfl : (v_5 : Int32).toInt = (v_5 : Int32).toInt) (by decide +kernel : (0 : Int32).toInt = 0) c_19
        have F_38 := fne (rfl : (z_32 : Int32).toInt = (z_32 : Int32).toInt) (by decide +kernel : (1 : Int32).toInt = 1) c_33
        have T_39 : ((v_6 + 1) : Int32).toInt = (v_6 : Int32).toInt + 1 := tadd rfl (rfl : (v_6 : Int32).toInt = (v_6 : Int32).toInt) (by decide +kernel : (1 : Int32).toInt = 1) (by omega) (by omega)
        exact hnext_7 (v_5, v_6 + 1) ls (xup c_9) ⟨⟨(show 0 ≤ (v_6 + 1 : Int32).toInt from by have hq0_ : (0 : Int32).toInt = 0 := (by decide +kernel); omega), zTg.no hex_8.2 c_9 (by omega) (fun q => c_33 (by rw [ez_32, ez_31]; exact q))⟩, (lv_sub hl [0, 1, 2, 3] rfl)⟩
      · refine lv_aload_n hx hb dX8_together_33 rfl (lv_at hl 2 rfl) ?_
        refine lv_iload_n hx hb dX8_together_34 rfl (lv_at hl 0 rfl) ?_
        refine yVri (As := [.int v_6]) (rest := []) C0 (g_X8_portReason l G S d q0 v_6 hSh hm_q0 hk_q0) ok_X8_portReason (mW374 : Cond.methodLink RX8 124 yX8_portReason ∈ wsT) ⟨Nat.le_of_ble_eq_true rfl, Nat.le_of_ble_eq_true rfl⟩ hP hD hK hN hm_q0 hk_q0 (by decide) rfl rfl rfl hl.1 rfl (Nat.le_of_ble_eq_true rfl) ⟨Nat.le_of_ble_eq_true rfl, Nat.le_of_ble_eq_true rfl⟩ dX8_together_35 (fun r_40 hr_40 => ?_)
        have tr_40 := tp_ hr_40
        refine lv_istore_n (lv' := [(2, .int r_40), (3, .int v_6), (0, .ref q0), (1, .int p0)]) hx hb dX8_together_38 rfl hl (by decide) rfl (fun ls hl => ?_)
        refine lv_iinc (v := v_6 + 1) (lv' := [(3, .int (v_6 + 1)), (2, .int r_40), (0, .ref q0), (1, .int p0)]) hx hb dX8_together_39 hl (k := 1) rfl rfl (by decide) rfl (fun ls hl => ?_)
        refine lv_goto (tgt := 14) hx hb dX8_together_42 (by decide) ?_
        have hk0_ : 0 ≤ (v_6 : Int32).toInt := hex_8.2.1
        have F_42 := fnle (by decide +kernel : (8 : Int32).toInt = 8) (rfl : (v_6 : Int32).toInt = (v_6 : Int32).toInt) c_9
        have F_43 := feq (rfl : (v_5 : Int32).toInt = (v_5 : Int32).toInt) (by decide +kernel : (0 : Int32).toInt = 0) c_19
        have F_45 := feq (rfl : (z_32 : Int32).toInt = (z_32 : Int32).toInt) (by decide +kernel : (1 : Int32).toInt = 1) c_33
        have T_46 : ((v_6 + 1) : Int32).toInt = (v_6 : Int32).toInt + 1 := tadd rfl (rfl : (v_6 : Int32).toInt = (v_6 : Int32).toInt) (by decide +kernel : (1 : Int32).toInt = 1) (by omega) (by omega)
        exact hnext_7 (r_40, v_6 + 1) ls (xup c_9) ⟨⟨(show 0 ≤ (v_6 + 1 : Int32).toInt from by have hq0_ : (0 : Int32).toInt = 0 := (by decide +kernel); omega), zTg.yes hex_8.2 c_9 (by omega) (show zB p0 v_6 from by have h := c_33; rw [ez_32, ez_31] at h; exact h) (show ((r_40 : Int32).toInt = 0 ∧ 0 < (d.1 (yPA S (S.2.2.1 q0 0) (v_6 : Int32)) 2).toInt) ∨ ((r_40 : Int32).toInt ≠ 0 ∧ ¬ 0 < (d.1 (yPA S (S.2.2.1 q0 0) (v_6 : Int32)) 2).toInt) from by omega)⟩, (lv_sub hl [0, 1, 2, 3] rfl)⟩
