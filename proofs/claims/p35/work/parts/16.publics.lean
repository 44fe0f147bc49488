theorem dX8_port_0 : decode cX8_port 0 = .ok (.iload_n 1, 1) := by decide +kernel
theorem dX8_port_1 : decode cX8_port 1 = .ok (.iconst 0, 1) := by decide +kernel
theorem dX8_port_2 : decode cX8_port 2 = .ok (.bipush 7, 2) := by decide +kernel
theorem dX8_port_4 : decode cX8_port 4 = .ok (.invokestatic 71, 3) := by decide +kernel
theorem dX8_port_7 : decode cX8_port 7 = .ok (.invokestatic 54, 3) := by decide +kernel
theorem dX8_port_10 : decode cX8_port 10 = .ok (.aload_n 0, 1) := by decide +kernel
theorem dX8_port_11 : decode cX8_port 11 = .ok (.iload_n 2, 1) := by decide +kernel
theorem dX8_port_12 : decode cX8_port 12 = .ok (.invokevirtual 106, 3) := by decide +kernel
theorem dX8_port_15 : decode cX8_port 15 = .ok (.invokestatic 58, 3) := by decide +kernel
theorem dX8_port_18 : decode cX8_port 18 = .ok (.istore 4, 2) := by decide +kernel
theorem dX8_port_20 : decode cX8_port 20 = .ok (.aload_n 0, 1) := by decide +kernel
theorem dX8_port_21 : decode cX8_port 21 = .ok (.iload 4, 2) := by decide +kernel
theorem dX8_port_23 : decode cX8_port 23 = .ok (.iload_n 3, 1) := by decide +kernel
theorem dX8_port_24 : decode cX8_port 24 = .ok (.iconst 1, 1) := by decide +kernel
theorem dX8_port_25 : decode cX8_port 25 = .ok (.bipush 90, 2) := by decide +kernel
theorem dX8_port_27 : decode cX8_port 27 = .ok (.invokestatic 71, 3) := by decide +kernel
theorem dX8_port_30 : decode cX8_port 30 = .ok (.invokestatic 54, 3) := by decide +kernel
theorem dX8_port_33 : decode cX8_port 33 = .ok (.invokestatic 58, 3) := by decide +kernel
theorem dX8_port_36 : decode cX8_port 36 = .ok (.invokevirtual 42, 3) := by decide +kernel
theorem dX8_port_39 : decode cX8_port 39 = .ok (.ifCond .eq 5, 3) := by decide +kernel
theorem dX8_port_42 : decode cX8_port 42 = .ok (.iconst 0, 1) := by decide +kernel
theorem dX8_port_43 : decode cX8_port 43 = .ok (.ireturn, 1) := by decide +kernel
theorem dX8_port_44 : decode cX8_port 44 = .ok (.aload_n 0, 1) := by decide +kernel
theorem dX8_port_45 : decode cX8_port 45 = .ok (.iload_n 1, 1) := by decide +kernel
theorem dX8_port_46 : decode cX8_port 46 = .ok (.invokevirtual 110, 3) := by decide +kernel
theorem dX8_port_49 : decode cX8_port 49 = .ok (.aload_n 0, 1) := by decide +kernel
theorem dX8_port_50 : decode cX8_port 50 = .ok (.getfield 12, 3) := by decide +kernel
theorem dX8_port_53 : decode cX8_port 53 = .ok (.iload_n 1, 1) := by decide +kernel
theorem dX8_port_54 : decode cX8_port 54 = .ok (.invokevirtual 114, 3) := by decide +kernel
theorem dX8_port_57 : decode cX8_port 57 = .ok (.iload_n 2, 1) := by decide +kernel
theorem dX8_port_58 : decode cX8_port 58 = .ok (.iload_n 3, 1) := by decide +kernel
theorem dX8_port_59 : decode cX8_port 59 = .ok (.invokevirtual 118, 3) := by decide +kernel
theorem dX8_port_62 : decode cX8_port 62 = .ok (.iconst 1, 1) := by decide +kernel
theorem dX8_port_63 : decode cX8_port 63 = .ok (.ireturn, 1) := by decide +kernel
set_option maxHeartbeats 4000000 in
set_option maxRecDepth 100000 in
theorem g_X8_port (l : Launch) (G : xG) (S : yS) (d : yD) (q0 : Nat) (p0 : Int32) (p1 : Int32) (p2 : Int32) (hSh : ySh S) (hPo : yPo S d) (hm_q0 : q0 ∈ S.1) (hk_q0 : S.2.1 q0 = 8) : xWi l G yX8_port cX8_port 5 (some .boolean) 4 95 0 0 [.ref q0, .int p0, .int p1, .int p2] (yW G S d) (fun r (u : yD) => yAg S [0, 2, 4, 8, 16, 20, 21, 24] d u ∧ (yPo S d → yPo S u) ∧ (u.1 q0 4 = d.1 q0 4)) (fun u => yW G S u) := by
  intro sz
  refine xstart (by decide) (Nat.le_of_ble_eq_true rfl) (fun p e s m args below meth c ls C0 hr hlocks hin hsz hP hK hD hN hl => ?_)
  obtain ⟨hx, hb, hml, hown, htl⟩ := id C0
  subst hsz
  have hD := hD.self (sz := s.heap.size)
  generalize hAe : va_A (yW G S d) s.heap.size = A at hD ⊢
  have hA : ∀ q : Nat, s.heap.size ≤ q → A q := fun q h => by rw [← hAe]; exact Or.inr h
  have hS : va_S A s.heap s.heap [] := va_S.rf
  have hg0 : yAg S [0, 2, 4, 8, 16, 20, 21, 24] d d := yAg.rf
  have hl : lv_has ls 5 [(0, .ref q0), (1, .int p0), (2, .int p1), (3, .int p2)] := hl
  refine lv_iload_n hx hb dX8_port_0 rfl (lv_at hl 1 rfl) ?_
  refine lv_iconst (v := 0) hx hb dX8_port_1 (by decide) ?_
  refine lv_bipush (v := 7) hx hb dX8_port_2 (by decide) ?_
  refine ySri (As := [.int p0, .int 0, .int 7]) (rest := []) C0 (g_X8_within l G S d p0 0 7 ) ok_X8_within (mW193 : Cond.methodLink RX8 71 yX8_within ∈ wsT) ⟨Nat.le_of_ble_eq_true rfl, Nat.le_of_ble_eq_true rfl⟩ hP hD hK hN rfl hl.1 rfl (Nat.le_of_ble_eq_true rfl) ⟨Nat.le_of_ble_eq_true rfl, Nat.le_of_ble_eq_true rfl⟩ dX8_port_4 (fun r_1 hr_1 => ?_)
  refine ySri (As := [.int r_1]) (rest := []) C0 (g_X8_number l G S d r_1 ) ok_X8_number (mW196 : Cond.methodLink RX8 54 yX8_number ∈ wsT) ⟨Nat.le_of_ble_eq_true rfl, Nat.le_of_ble_eq_true rfl⟩ hP hD hK hN rfl hl.1 rfl (Nat.le_of_ble_eq_true rfl) ⟨Nat.le_of_ble_eq_true rfl, Nat.le_of_ble_eq_true rfl⟩ dX8_port_7 (fun r_2 hr_2 => ?_)
  refine lv_aload_n hx hb dX8_port_10 rfl (lv_at hl 0 rfl) ?_
  refine lv_iload_n hx hb dX8_port_11 rfl (lv_at hl 2 rfl) ?_
  refine yVri (As := [.int p1]) (rest := [.int r_2]) C0 (g_X8_contractReason l G S d q0 p1 hSh hm_q0 hk_q0) ok_X8_contractReason (mW189 : Cond.methodLink RX8 106 yX8_contractReason ∈ wsT) ⟨Nat.le_of_ble_eq_true rfl, Nat.le_of_ble_eq_true rfl⟩ hP hD hK hN hm_q0 hk_q0 (by decide) rfl rfl rfl hl.1 rfl (Nat.le_of_ble_eq_true rfl) ⟨Nat.le_of_ble_eq_true rfl, Nat.le_of_ble_eq_true rfl⟩ dX8_port_12 (fun r_3 hr_3 => ?_)
  refine ySri (As := [.int r_2, .int r_3]) (rest := []) C0 (g_X8_least l G S d r_2 r_3 ) ok_X8_least (mW199 : Cond.methodLink RX8 58 yX8_least ∈ wsT) ⟨Nat.le_of_ble_eq_true rfl, Nat.le_of_ble_eq_true rfl⟩ hP hD hK hN rfl hl.1 rfl (Nat.le_of_ble_eq_true rfl) ⟨Nat.le_of_ble_eq_true rfl, Nat.le_of_ble_eq_true rfl⟩ dX8_port_15 (fun r_4 hr_4 => ?_)
  refine lv_istore (lv' := [(4, .int r_4), (0, .ref q0), (1, .int p0), (2, .int p1), (3, .int p2)]) hx hb dX8_port_18 hl (by decide) rfl (fun ls hl => ?_)
  refine lv_aload_n hx hb dX8_port_20 rfl (lv_at hl 1 rfl) ?_
  refine lv_iload hx hb dX8_port_21 (lv_at hl 0 rfl) ?_
  refine lv_iload_n hx hb dX8_port_23 rfl (lv_at hl 4 rfl) ?_
  refine lv_iconst (v := 1) hx hb dX8_port_24 (by decide) ?_
  refine lv_bipush (v := 90) hx hb dX8_port_25 (by decide) ?_
  refine ySri (As := [.int p2, .int 1, .int 90]) (rest := [.int r_4, .ref q0]) C0 (g_X8_within l G S d p2 1 90 ) ok_X8_within (mW193 : Cond.methodLink RX8 71 yX8_within ∈ wsT) ⟨Nat.le_of_ble_eq_true rfl, Nat.le_of_ble_eq_true rfl⟩ hP hD hK hN rfl hl.1 rfl (Nat.le_of_ble_eq_true rfl) ⟨Nat.le_of_ble_eq_true rfl, Nat.le_of_ble_eq_true rfl⟩ dX8_port_27 (fun r_5 hr_5 => ?_)
  refine ySri (As := [.int r_5]) (rest := [.int r_4, .ref q0]) C0 (g_X8_number l G S d r_5 ) ok_X8_number (mW196 : Cond.methodLink RX8 54 yX8_number ∈ wsT) ⟨Nat.le_of_ble_eq_true rfl, Nat.le_of_ble_eq_true rfl⟩ hP hD hK hN rfl hl.1 rfl (Nat.le_of_ble_eq_true rfl) ⟨Nat.le_of_ble_eq_true rfl, Nat.le_of_ble_eq_true rfl⟩ dX8_port_30 (fun r_6 hr_6 => ?_)
  refine ySri (As := [.int r_4, .int r_6]) (rest := [.ref q0]) C0 (g_X8_least l G S d r_4 r_6 ) ok_X8_least (mW199 : Cond.methodLink RX8 58 yX8_least ∈ wsT) ⟨Nat.le_of_ble_eq_true rfl, Nat.le_of_ble_eq_true rfl⟩ hP hD hK hN rfl hl.1 rfl (Nat.le_of_ble_eq_true rfl) ⟨Nat.le_of_ble_eq_true rfl, Nat.le_of_ble_eq_true rfl⟩ dX8_port_33 (fun r_7 hr_7 => ?_)
  refine yVwi (As := [.int r_7]) (rest := []) C0 (g_X8_refused l G S d q0 r_7 hSh hPo hm_q0 hk_q0) ok_X8_refused (mW160 : Cond.methodLink RX8 42 yX8_refused ∈ wsT) ⟨Nat.le_of_ble_eq_true rfl, Nat.le_of_ble_eq_true rfl⟩ hP hD hS hA hK hN hm_q0 hk_q0 (by decide) rfl rfl rfl hl.1 rfl (Nat.le_of_ble_eq_true rfl) ⟨Nat.le_of_ble_eq_true rfl, Nat.le_of_ble_eq_true rfl⟩ dX8_port_36 (fun r_8 d_9 H locs hr_8 hP hD hS => ?_)
  obtain ⟨hgad_9, hpad_9, hxd_9⟩ := hr_8
  have hgd_9 : yAg S [0, 2, 4, 8, 16, 20, 21, 24] d d_9 := yAg.tr hg0 hgad_9 (by first | decide | exact fun _ h => h)
  have hPod_9 : yPo S d_9 := hpad_9 hPo
  refine lv_if_eq (tgt := 44) hx hb dX8_port_39 (by decide) (fun c_10 => ?_) (fun c_10 => ?_)
  · refine lv_aload_n hx hb dX8_port_44 rfl (lv_at hl 1 rfl) ?_
    refine lv_iload_n hx hb dX8_port_45 rfl (lv_at hl 2 rfl) ?_
    refine yVwv (As := [.int p0]) (rest := []) C0 (g_X8_leave l G S d_9 q0 p0 hSh hPod_9 hm_q0 hk_q0) ok_X8_leave (mW312 : Cond.methodLink RX8 110 yX8_leave ∈ wsT) ⟨Nat.le_of_ble_eq_true rfl, Nat.le_of_ble_eq_true rfl⟩ hP hD hS hA hK hN hm_q0 hk_q0 (by decide) rfl rfl rfl hl.1 rfl (Nat.le_of_ble_eq_true rfl) ⟨Nat.le_of_ble_eq_true rfl, Nat.le_of_ble_eq_true rfl⟩ dX8_port_46 (fun d_12 H locs hr_11 hP hD hS => ?_)
    obtain ⟨hgad_12, hpad_12, hxd_12⟩ := hr_11
    have hgd_12 : yAg S [0, 2, 4, 8, 16, 20, 21, 24] d d_12 := yAg.tr hgd_9 hgad_12 (by first | decide | exact fun _ h => h)
    have hPod_12 : yPo S d_12 := hpad_12 hPod_9
    refine lv_aload_n hx hb dX8_port_49 rfl (lv_at hl 1 rfl) ?_
    refine yget (ci := 8) (k := 0) (v := .ref (S.2.2.1 q0 0)) (C := RX8) (T := TX8) (N := 6) C0 hK hP hm_q0 hk_q0 (by decide) rfl inlX8 (by decide) mW16 (fun _ h9 => h9) rfl dX8_port_50 ?_
    obtain ⟨hmy_13, hky_13⟩ := ySh.f8_0 hSh _ hm_q0 hk_q0
    refine lv_iload_n hx hb dX8_port_53 rfl (lv_at hl 2 rfl) ?_
    refine yVrr (As := [.int p0]) (rest := []) C0 (g_X0_portAt l G S d_12 (S.2.2.1 q0 0) p0 hSh hmy_13 hky_13) ok_X0_portAt (mW337 : Cond.methodLink RX8 114 yX0_portAt ∈ wsT) ⟨Nat.le_of_ble_eq_true rfl, Nat.le_of_ble_eq_true rfl⟩ hP hD hK hN hmy_13 hky_13 (by decide) rfl rfl rfl hl.1 rfl (Nat.le_of_ble_eq_true rfl) ⟨Nat.le_of_ble_eq_true rfl, Nat.le_of_ble_eq_true rfl⟩ dX8_port_54 (fun r_14 hr_14 => ?_)
    obtain ⟨hmr_14, hkr_14, her_14⟩ := hr_14
    refine lv_iload_n hx hb dX8_port_57 rfl (lv_at hl 3 rfl) ?_
    refine lv_iload_n hx hb dX8_port_58 rfl (lv_at hl 4 rfl) ?_
    refine yVwv (As := [.int p1, .int p2]) (rest := []) C0 (g_X4_open l G S d_12 r_14 p1 p2 hSh hPod_12 hmr_14 hkr_14) ok_X4_open (mW341 : Cond.methodLink RX8 118 yX4_open ∈ wsT) ⟨Nat.le_of_ble_eq_true rfl, Nat.le_of_ble_eq_true rfl⟩ hP hD hS hA hK hN hmr_14 hkr_14 (by decide) rfl rfl rfl hl.1 rfl (Nat.le_of_ble_eq_true rfl) ⟨Nat.le_of_ble_eq_true rfl, Nat.le_of_ble_eq_true rfl⟩ dX8_port_59 (fun d_16 H locs hr_15 hP hD hS => ?_)
    obtain ⟨hgad_16, hpad_16, hxd_16⟩ := hr_15
    have hgd_16 : yAg S [0, 2, 4, 8, 16, 20, 21, 24] d d_16 := yAg.tr hgd_12 hgad_16 (by first | decide | exact fun _ h => h)
    have hPod_16 : yPo S d_16 := hpad_16 hPod_12
    refine lv_iconst (v := 1) hx hb dX8_port_62 (by decide) ?_
    exact W.zret (v := 1) (ty := .boolean) hx hb hr rfl (fun t ht hW => ⟨⟨1, d_16, rfl, ⟨hgd_16, (fun _ => hPod_16), ((congrFun (hgad_16 q0 (by rw [hk_q0]; decide)).1 4).trans ((congrFun (hgad_12 q0 (by rw [hk_q0]; decide)).1 4).trans (hxd_9.2)))⟩, by rw [ht]; exact hP, hD⟩, hS.F ht⟩) hS.2.2 dX8_port_63
  · refine lv_iconst (v := 0) hx hb dX8_port_42 (by decide) ?_
    exact W.zret (v := 0) (ty := .boolean) hx hb hr rfl (fun t ht hW => ⟨⟨0, d_9, rfl, ⟨hgd_9, (fun _ => hPod_9), (hxd_9.2)⟩, by rw [ht]; exact hP, hD⟩, hS.F ht⟩) hS.2.2 dX8_port_43
theorem dX8_close_0 : decode cX8_close 0 = .ok (.aload_n 0, 1) := by decide +kernel
theorem dX8_close_1 : decode cX8_close 1 = .ok (.aload_n 0, 1) := by decide +kernel
theorem dX8_close_2 : decode cX8_close 2 = .ok (.iload_n 1, 1) := by decide +kernel
theorem dX8_close_3 : decode cX8_close 3 = .ok (.invokevirtual 124, 3) := by decide +kernel
theorem dX8_close_6 : decode cX8_close 6 = .ok (.invokevirtual 42, 3) := by decide +kernel
theorem dX8_close_9 : decode cX8_close 9 = .ok (.ifCond .eq 5, 3) := by decide +kernel
theorem dX8_close_12 : decode cX8_close 12 = .ok (.iconst 0, 1) := by decide +kernel
theorem dX8_close_13 : decode cX8_close 13 = .ok (.ireturn, 1) := by decide +kernel
theorem dX8_close_14 : decode cX8_close 14 = .ok (.aload_n 0, 1) := by decide +kernel
theorem dX8_close_15 : decode cX8_close 15 = .ok (.iload_n 1, 1) := by decide +kernel
theorem dX8_close_16 : decode cX8_close 16 = .ok (.invokevirtual 110, 3) := by decide +kernel
theorem dX8_close_19 : decode cX8_close 19 = .ok (.aload_n 0, 1) := by decide +kernel
theorem dX8_close_20 : decode cX8_close 20 = .ok (.getfield 12, 3) := by decide +kernel
theorem dX8_close_23 : decode cX8_close 23 = .ok (.iload_n 1, 1) := by decide +kernel
theorem dX8_close_24 : decode cX8_close 24 = .ok (.invokevirtual 114, 3) := by decide +kernel
theorem dX8_close_27 : decode cX8_close 27 = .ok (.invokevirtual 127, 3) := by decide +kernel
theorem dX8_close_30 : decode cX8_close 30 = .ok (.iconst 1, 1) := by decide +kernel
theorem dX8_close_31 : decode cX8_close 31 = .ok (.ireturn, 1) := by decide +kernel
set_option maxHeartbeats 4000000 in
set_option maxRecDepth 100000 in
theorem g_X8_close (l : Launch) (G : xG) (S : yS) (d : yD) (q0 : Nat) (p0 : Int32) (hSh : ySh S) (hPo : yPo S d) (hm_q0 : q0 ∈ S.1) (hk_q0 : S.2.1 q0 = 8) : xWi l G yX8_close cX8_close 2 (some .boolean) 4 95 0 0 [.ref q0, .int p0] (yW G S d) (fun r (u : yD) => yAg S [0, 2, 4, 8, 16, 24] d u ∧ (yPo S d → yPo S u) ∧ (u.1 q0 4 = d.1 q0 4)) (fun u => yW G S u) := by
  intro sz
  refine xstart (by decide) (Nat.le_of_ble_eq_true rfl) (fun p e s m args below meth c ls C0 hr hlocks hin hsz hP hK hD hN hl => ?_)
  obtain ⟨hx, hb, hml, hown, htl⟩ := id C0
  subst hsz
  have hD := hD.self (sz := s.heap.size)
  generalize hAe : va_A (yW G S d) s.heap.size = A at hD ⊢
  have hA : ∀ q : Nat, s.heap.size ≤ q → A q := fun q h => by rw [← hAe]; exact Or.inr h
  have hS : va_S A s.heap s.heap [] := va_S.rf
  have hg0 : yAg S [0, 2, 4, 8, 16, 24] d d := yAg.rf
  have hl : lv_has ls 2 [(0, .ref q0), (1, .int p0)] := hl
  refine lv_aload_n hx hb dX8_close_0 rfl (lv_at hl 0 rfl) ?_
  refine lv_aload_n hx hb dX8_close_1 rfl (lv_at hl 0 rfl) ?_
  refine lv_iload_n hx hb dX8_close_2 rfl (lv_at hl 1 rfl) ?_
  refine yVri (As := [.int p0]) (rest := [.ref q0]) C0 (g_X8_portReason l G S d q0 p0 hSh hm_q0 hk_q0) ok_X8_portReason (mW374 : Cond.methodLink RX8 124 yX8_portReason ∈ wsT) ⟨Nat.le_of_ble_eq_true rfl, Nat.le_of_ble_eq_true rfl⟩ hP hD hK hN hm_q0 hk_q0 (by decide) rfl rfl rfl hl.1 rfl (Nat.le_of_ble_eq_true rfl) ⟨Nat.le_of_ble_eq_true rfl, Nat.le_of_ble_eq_true rfl⟩ dX8_close_3 (fun r_1 hr_1 => ?_)
  refine yVwi (As := [.int r_1]) (rest := []) C0 (g_X8_refused l G S d q0 r_1 hSh hPo hm_q0 hk_q0) ok_X8_refused (mW160 : Cond.methodLink RX8 42 yX8_refused ∈ wsT) ⟨Nat.le_of_ble_eq_true rfl, Nat.le_of_ble_eq_true rfl⟩ hP hD hS hA hK hN hm_q0 hk_q0 (by decide) rfl rfl rfl hl.1 rfl (Nat.le_of_ble_eq_true rfl) ⟨Nat.le_of_ble_eq_true rfl, Nat.le_of_ble_eq_true rfl⟩ dX8_close_6 (fun r_2 d_3 H locs hr_2 hP hD hS => ?_)
  obtain ⟨hgad_3, hpad_3, hxd_3⟩ := hr_2
  have hgd_3 : yAg S [0, 2, 4, 8, 16, 24] d d_3 := yAg.tr hg0 hgad_3 (by first | decide | exact fun _ h => h)
  have hPod_3 : yPo S d_3 := hpad_3 hPo
  refine lv_if_eq (tgt := 14) hx hb dX8_close_9 (by decide) (fun c_4 => ?_) (fun c_4 => ?_)
  · refine lv_aload_n hx hb dX8_close_14 rfl (lv_at hl 0 rfl) ?_
    refine lv_iload_n hx hb dX8_close_15 rfl (lv_at hl 1 rfl) ?_
    refine yVwv (As := [.int p0]) (rest := []) C0 (g_X8_leave l G S d_3 q0 p0 hSh hPod_3 hm_q0 hk_q0) ok_X8_leave (mW312 : Cond.methodLink RX8 110 yX8_leave ∈ wsT) ⟨Nat.le_of_ble_eq_true rfl, Nat.le_of_ble_eq_true rfl⟩ hP hD hS hA hK hN hm_q0 hk_q0 (by decide) rfl rfl rfl hl.1 rfl (Nat.le_of_ble_eq_true rfl) ⟨Nat.le_of_ble_eq_true rfl, Nat.le_of_ble_eq_true rfl⟩ dX8_close_16 (fun d_6 H locs hr_5 hP hD hS => ?_)
    obtain ⟨hgad_6, hpad_6, hxd_6⟩ := hr_5
    have hgd_6 : yAg S [0, 2, 4, 8, 16, 24] d d_6 := yAg.tr hgd_3 hgad_6 (by first | decide | exact fun _ h => h)
    have hPod_6 : yPo S d_6 := hpad_6 hPod_3
    refine lv_aload_n hx hb dX8_close_19 rfl (lv_at hl 0 rfl) ?_
    refine yget (ci := 8) (k := 0) (v := .ref (S.2.2.1 q0 0)) (C := RX8) (T := TX8) (N := 6) C0 hK hP hm_q0 hk_q0 (by decide) rfl inlX8 (by decide) mW16 (fun _ h9 => h9) rfl dX8_close_20 ?_
    obtain ⟨hmy_7, hky_7⟩ := ySh.f8_0 hSh _ hm_q0 hk_q0
    refine lv_iload_n hx hb dX8_close_23 rfl (lv_at hl 1 rfl) ?_
    refine yVrr (As := [.int p0]) (rest := []) C0 (g_X0_portAt l G S d_6 (S.2.2.1 q0 0) p0 hSh hmy_7 hky_7) ok_X0_portAt (mW337 : Cond.methodLink RX8 114 yX0_portAt ∈ wsT) ⟨Nat.le_of_ble_eq_true rfl, Nat.le_of_ble_eq_true rfl⟩ hP hD hK hN hmy_7 hky_7 (by decide) rfl rfl rfl hl.1 rfl (Nat.le_of_ble_eq_true rfl) ⟨Nat.le_of_ble_eq_true rfl, Nat.le_of_ble_eq_true rfl⟩ dX8_close_24 (fun r_8 hr_8 => ?_)
    obtain ⟨hmr_8, hkr_8, her_8⟩ := hr_8
    refine yVwv (As := []) (rest := []) C0 (g_X4_shut l G S d_6 r_8 hSh hPod_6 hmr_8 hkr_8) ok_X4_shut (mW379 : Cond.methodLink RX8 127 yX4_shut ∈ wsT) ⟨Nat.le_of_ble_eq_true rfl, Nat.le_of_ble_eq_true rfl⟩ hP hD hS hA hK hN hmr_8 hkr_8 (by decide) rfl rfl rfl hl.1 rfl (Nat.le_of_ble_eq_true rfl) ⟨Nat.le_of_ble_eq_true rfl, Nat.le_of_ble_eq_true rfl⟩ dX8_close_27 (fun d_10 H locs hr_9 hP hD hS => ?_)
    obtain ⟨hgad_10, hpad_10, hxd_10⟩ := hr_9
    have hgd_10 : yAg S [0, 2, 4, 8, 16, 24] d d_10 := yAg.tr hgd_6 hgad_10 (by first | decide | exact fun _ h => h)
    have hPod_10 : yPo S d_10 := hpad_10 hPod_6
    refine lv_iconst (v := 1) hx hb dX8_close_30 (by decide) ?_
    exact W.zret (v := 1) (ty := .boolean) hx hb hr rfl (fun t ht hW => ⟨⟨1, d_10, rfl, ⟨hgd_10, (fun _ => hPod_10), ((congrFun (hgad_10 q0 (by rw [hk_q0]; decide)).1 4).trans ((congrFun (hgad_6 q0 (by rw [hk_q0]; decide)).1 4).trans (hxd_3.2)))⟩, by rw [ht]; exact hP, hD⟩, hS.F ht⟩) hS.2.2 dX8_close_31
  · refine lv_iconst (v := 0) hx hb dX8_close_12 (by decide) ?_
    exact W.zret (v := 0) (ty := .boolean) hx hb hr rfl (fun t ht hW => ⟨⟨0, d_3, rfl, ⟨hgd_3, (fun _ => hPod_3), (hxd_3.2)⟩, by rw [ht]; exact hP, hD⟩, hS.F ht⟩) hS.2.2 dX8_close_13
theorem dX8_event_0 : decode cX8_event 0 = .ok (.aload_n 0, 1) := by decide +kernel
theorem dX8_event_1 : decode cX8_event 1 = .ok (.iload_n 1, 1) := by decide +kernel
theorem dX8_event_2 : decode cX8_event 2 = .ok (.iload_n 2, 1) := by decide +kernel
theorem dX8_event_3 : decode cX8_event 3 = .ok (.invokevirtual 130, 3) := by decide +kernel
theorem dX8_event_6 : decode cX8_event 6 = .ok (.iload_n 3, 1) := by decide +kernel
theorem dX8_event_7 : decode cX8_event 7 = .ok (.iconst 0, 1) := by decide +kernel
theorem dX8_event_8 : decode cX8_event 8 = .ok (.bipush 7, 2) := by decide +kernel
theorem dX8_event_10 : decode cX8_event 10 = .ok (.invokestatic 71, 3) := by decide +kernel
theorem dX8_event_13 : decode cX8_event 13 = .ok (.invokestatic 54, 3) := by decide +kernel
theorem dX8_event_16 : decode cX8_event 16 = .ok (.invokestatic 58, 3) := by decide +kernel
theorem dX8_event_19 : decode cX8_event 19 = .ok (.istore 4, 2) := by decide +kernel
theorem dX8_event_21 : decode cX8_event 21 = .ok (.iload 4, 2) := by decide +kernel
theorem dX8_event_23 : decode cX8_event 23 = .ok (.ifCond .ne 21, 3) := by decide +kernel
theorem dX8_event_26 : decode cX8_event 26 = .ok (.aload_n 0, 1) := by decide +kernel
theorem dX8_event_27 : decode cX8_event 27 = .ok (.getfield 12, 3) := by decide +kernel
theorem dX8_event_30 : decode cX8_event 30 = .ok (.iload_n 1, 1) := by decide +kernel
theorem dX8_event_31 : decode cX8_event 31 = .ok (.invokevirtual 114, 3) := by decide +kernel
theorem dX8_event_34 : decode cX8_event 34 = .ok (.iload_n 2, 1) := by decide +kernel
theorem dX8_event_35 : decode cX8_event 35 = .ok (.invokevirtual 133, 3) := by decide +kernel
theorem dX8_event_38 : decode cX8_event 38 = .ok (.ifCond .ne 6, 3) := by decide +kernel
theorem dX8_event_41 : decode cX8_event 41 = .ok (.iconst 2, 1) := by decide +kernel
theorem dX8_event_42 : decode cX8_event 42 = .ok (.istore 4, 2) := by decide +kernel
theorem dX8_event_44 : decode cX8_event 44 = .ok (.aload_n 0, 1) := by decide +kernel
theorem dX8_event_45 : decode cX8_event 45 = .ok (.iload 4, 2) := by decide +kernel
theorem dX8_event_47 : decode cX8_event 47 = .ok (.aload_n 0, 1) := by decide +kernel
theorem dX8_event_48 : decode cX8_event 48 = .ok (.getfield 12, 3) := by decide +kernel
theorem dX8_event_51 : decode cX8_event 51 = .ok (.getfield 136, 3) := by decide +kernel
theorem dX8_event_54 : decode cX8_event 54 = .ok (.getfield 140, 3) := by decide +kernel
theorem dX8_event_57 : decode cX8_event 57 = .ok (.sipush 5000, 3) := by decide +kernel
theorem dX8_event_60 : decode cX8_event 60 = .ok (.if_icmp .lt 7, 3) := by decide +kernel
theorem dX8_event_63 : decode cX8_event 63 = .ok (.iconst 5, 1) := by decide +kernel
theorem dX8_event_64 : decode cX8_event 64 = .ok (.goto 4, 3) := by decide +kernel
theorem dX8_event_67 : decode cX8_event 67 = .ok (.iconst 0, 1) := by decide +kernel
theorem dX8_event_68 : decode cX8_event 68 = .ok (.invokestatic 58, 3) := by decide +kernel
theorem dX8_event_71 : decode cX8_event 71 = .ok (.invokevirtual 42, 3) := by decide +kernel
theorem dX8_event_74 : decode cX8_event 74 = .ok (.ifCond .eq 5, 3) := by decide +kernel
theorem dX8_event_77 : decode cX8_event 77 = .ok (.iconst 0, 1) := by decide +kernel
theorem dX8_event_78 : decode cX8_event 78 = .ok (.ireturn, 1) := by decide +kernel
theorem dX8_event_79 : decode cX8_event 79 = .ok (.aload_n 0, 1) := by decide +kernel
theorem dX8_event_80 : decode cX8_event 80 = .ok (.getfield 12, 3) := by decide +kernel
theorem dX8_event_83 : decode cX8_event 83 = .ok (.getfield 136, 3) := by decide +kernel
theorem dX8_event_86 : decode cX8_event 86 = .ok (.iload_n 1, 1) := by decide +kernel
theorem dX8_event_87 : decode cX8_event 87 = .ok (.iload_n 2, 1) := by decide +kernel
theorem dX8_event_88 : decode cX8_event 88 = .ok (.iload_n 3, 1) := by decide +kernel
theorem dX8_event_89 : decode cX8_event 89 = .ok (.invokevirtual 145, 3) := by decide +kernel
theorem dX8_event_92 : decode cX8_event 92 = .ok (.iconst 1, 1) := by decide +kernel
theorem dX8_event_93 : decode cX8_event 93 = .ok (.ireturn, 1) := by decide +kernel
set_option maxHeartbeats 4000000 in
set_option maxRecDepth 100000 in
theorem g_X8_event (l : Launch) (G : xG) (S : yS) (d : yD) (q0 : Nat) (p0 : Int32) (p1 : Int32) (p2 : Int32) (hSh : ySh S) (hPo : yPo S d) (hm_q0 : q0 ∈ S.1) (hk_q0 : S.2.1 q0 = 8) : xWi l G yX8_event cX8_event 5 (some .boolean) 3 73 0 0 [.ref q0, .int p0, .int p1, .int p2] (yW G S d) (fun r (u : yD) => yAg S [2, 8, 16, 24] d u ∧ (yPo S d → yPo S u) ∧ (u.1 q0 4 = d.1 q0 4)) (fun u => yW G S u) := by
  intro sz
  refine xstart (by decide) (Nat.le_of_ble_eq_true rfl) (fun p e s m args below meth c ls C0 hr hlocks hin hsz hP hK hD hN hl => ?_)
  obtain ⟨hx, hb, hml, hown, htl⟩ := id C0
  subst hsz
  have hD := hD.self (sz := s.heap.size)
  generalize hAe : va_A (yW G S d) s.heap.size = A at hD ⊢
  have hA : ∀ q : Nat, s.heap.size ≤ q → A q := fun q h => by rw [← hAe]; exact Or.inr h
  have hS : va_S A s.heap s.heap [] := va_S.rf
  have hg0 : yAg S [2, 8, 16, 24] d d := yAg.rf
  have hl : lv_has ls 5 [(0, .ref q0), (1, .int p0), (2, .int p1), (3, .int p2)] := hl
  refine lv_aload_n hx hb dX8_event_0 rfl (lv_at hl 0 rfl) ?_
  refine lv_iload_n hx hb dX8_event_1 rfl (lv_at hl 1 rfl) ?_
  refine lv_iload_n hx hb dX8_event_2 rfl (lv_at hl 2 rfl) ?_
  refine yVri (As := [.int p0, .int p1]) (rest := []) C0 (g_X8_minuteReason l G S d q0 p0 p1 hSh hm_q0 hk_q0) ok_X8_minuteReason (mW400 : Cond.methodLink RX8 130 yX8_minuteReason ∈ wsT) ⟨Nat.le_of_ble_eq_true rfl, Nat.le_of_ble_eq_true rfl⟩ hP hD hK hN hm_q0 hk_q0 (by decide) rfl rfl rfl hl.1 rfl (Nat.le_of_ble_eq_true rfl) ⟨Nat.le_of_ble_eq_true rfl, Nat.le_of_ble_eq_true rfl⟩ dX8_event_3 (fun r_1 hr_1 => ?_)
  refine lv_iload_n hx hb dX8_event_6 rfl (lv_at hl 3 rfl) ?_
  refine lv_iconst (v := 0) hx hb dX8_event_7 (by decide) ?_
  refine lv_bipush (v := 7) hx hb dX8_event_8 (by decide) ?_
  refine ySri (As := [.int p2, .int 0, .int 7]) (rest := [.int r_1]) C0 (g_X8_within l G S d p2 0 7 ) ok_X8_within (mW193 : Cond.methodLink RX8 71 yX8_within ∈ wsT) ⟨Nat.le_of_ble_eq_true rfl, Nat.le_of_ble_eq_true rfl⟩ hP hD hK hN rfl hl.1 rfl (Nat.le_of_ble_eq_true rfl) ⟨Nat.le_of_ble_eq_true rfl, Nat.le_of_ble_eq_true rfl⟩ dX8_event_10 (fun r_2 hr_2 => ?_)
  refine ySri (As := [.int r_2]) (rest := [.int r_1]) C0 (g_X8_number l G S d r_2 ) ok_X8_number (mW196 : Cond.methodLink RX8 54 yX8_number ∈ wsT) ⟨Nat.le_of_ble_eq_true rfl, Nat.le_of_ble_eq_true rfl⟩ hP hD hK hN rfl hl.1 rfl (Nat.le_of_ble_eq_true rfl) ⟨Nat.le_of_ble_eq_true rfl, Nat.le_of_ble_eq_true rfl⟩ dX8_event_13 (fun r_3 hr_3 => ?_)
  refine ySri (As := [.int r_1, .int r_3]) (rest := []) C0 (g_X8_least l G S d r_1 r_3 ) ok_X8_least (mW199 : Cond.methodLink RX8 58 yX8_least ∈ wsT) ⟨Nat.le_of_ble_eq_true rfl, Nat.le_of_ble_eq_true rfl⟩ hP hD hK hN rfl hl.1 rfl (Nat.le_of_ble_eq_true rfl) ⟨Nat.le_of_ble_eq_true rfl, Nat.le_of_ble_eq_true rfl⟩ dX8_event_16 (fun r_4 hr_4 => ?_)
  refine lv_istore (lv' := [(4, .int r_4), (0, .ref q0), (1, .int p0), (2, .int p1), (3, .int p2)]) hx hb dX8_event_19 hl (by decide) rfl (fun ls hl => ?_)
  refine lv_iload hx hb dX8_event_21 (lv_at hl 0 rfl) ?_
  refine yjoinR (σ := Int32) 44 (fun x ls st => st = [] ∧ lv_has ls 5 [(0, .ref q0), (1, .int p0), (2, .int p1), (3, .int p2), (4, .int x)]) (fun x ls st hI => ?_) (fun J44_5 => ?_)
  · obtain ⟨v_5, rfl⟩ : ∃ z, z = x := ⟨_, rfl⟩
    obtain ⟨rfl, hl⟩ := hI
    have hl : lv_has ls 5 [(0, .ref q0), (1, .int p0), (2, .int p1), (3, .int p2), (4, .int v_5)] := hl
    refine lv_aload_n hx hb dX8_event_44 rfl (lv_at hl 0 rfl) ?_
    refine lv_iload hx hb dX8_event_45 (lv_at hl 4 rfl) ?_
    refine lv_aload_n hx hb dX8_event_47 rfl (lv_at hl 0 rfl) ?_
    refine yget (ci := 8) (k := 0) (v := .ref (S.2.2.1 q0 0)) (C := RX8) (T := TX8) (N := 6) C0 hK hP hm_q0 hk_q0 (by decide) rfl inlX8 (by decide) mW16 (fun _ h9 => h9) rfl dX8_event_48 ?_
    obtain ⟨hmy_6, hky_6⟩ := ySh.f8_0 hSh _ hm_q0 hk_q0
    refine yget (ci := 0) (k := 1) (v := .ref (S.2.2.1 (S.2.2.1 q0 0) 1)) (C := RX0) (T := TX0) (N := 6) C0 hK hP hmy_6 hky_6 (by decide) rfl inlX0 (by decide) mW316 (fun _ h9 => h9) rfl dX8_event_51 ?_
    obtain ⟨hmy_7, hky_7⟩ := ySh.f0_1 hSh _ hmy_6 hky_6
    refine yget (ci := 2) (k := 2) (v := .int (d.1 (S.2.2.1 (S.2.2.1 q0 0) 1) 2)) (C := RX2) (T := TX2) (N := 3) C0 hK hP hmy_7 hky_7 (by decide) rfl inlX2 (by decide) mW399 (fun _ h9 => h9) rfl dX8_event_54 ?_
    refine lv_topi (fun z_8 ez_8 => ?_)
    refine lv_sipush (v := 5000) hx hb dX8_event_57 (by decide) ?_
    refine yjoinR (σ := Int32) 68 (fun x ls st => st = [.int x, .int v_5, .ref q0] ∧ lv_has ls 5 [(0, .ref q0), (1, .int p0), (2, .int p1), (3, .int p2)]) (fun x ls st hI => ?_) (fun J68_9 => ?_)
    · obtain ⟨v_9, rfl⟩ : ∃ z, z = x := ⟨_, rfl⟩
      obtain ⟨rfl, hl⟩ := hI
      have hl : lv_has ls 5 [(0, .ref q0), (1, .int p0), (2, .int p1), (3, .int p2)] := hl
      refine ySri (As := [.int v_5, .int v_9]) (rest := [.ref q0]) C0 (g_X8_least l G S d v_5 v_9 ) ok_X8_least (mW199 : Cond.methodLink RX8 58 yX8_least ∈ wsT) ⟨Nat.le_of_ble_eq_true rfl, Nat.le_of_ble_eq_true rfl⟩ hP hD hK hN rfl hl.1 rfl (Nat.le_of_ble_eq_true rfl) ⟨Nat.le_of_ble_eq_true rfl, Nat.le_of_ble_eq_true rfl⟩ dX8_event_68 (fun r_10 hr_10 => ?_)
      refine yVwi (As := [.int r_10]) (rest := []) C0 (g_X8_refused l G S d q0 r_10 hSh hPo hm_q0 hk_q0) ok_X8_refused (mW160 : Cond.methodLink RX8 42 yX8_refused ∈ wsT) ⟨Nat.le_of_ble_eq_true rfl, Nat.le_of_ble_eq_true rfl⟩ hP hD hS hA hK hN hm_q0 hk_q0 (by decide) rfl rfl rfl hl.1 rfl (Nat.le_of_ble_eq_true rfl) ⟨Nat.le_of_ble_eq_true rfl, Nat.le_of_ble_eq_true rfl⟩ dX8_event_71 (fun r_11 d_12 H locs hr_11 hP hD hS => ?_)
      obtain ⟨hgad_12, hpad_12, hxd_12⟩ := hr_11
      have hgd_12 : yAg S [2, 8, 16, 24] d d_12 := yAg.tr hg0 hgad_12 (by first | decide | exact fun _ h => h)
      have hPod_12 : yPo S d_12 := hpad_12 hPo
      refine lv_if_eq (tgt := 79) hx hb dX8_event_74 (by decide) (fun c_13 => ?_) (fun c_13 => ?_)
      · refine lv_aload_n hx hb dX8_event_79 rfl (lv_at hl 0 rfl) ?_
        refine yget (ci := 8) (k := 0) (v := .ref (S.2.2.1 q0 0)) (C := RX8) (T := TX8) (N := 6) C0 hK hP hm_q0 hk_q0 (by decide) rfl inlX8 (by decide) mW16 (fun _ h9 => h9) rfl dX8_event_80 ?_
        refine yget (ci := 0) (k := 1) (v := .ref (S.2.2.1 (S.2.2.1 q0 0) 1)) (C := RX0) (T := TX0) (N := 6) C0 hK hP hmy_6 hky_6 (by decide) rfl inlX0 (by decide) mW316 (fun _ h9 => h9) rfl dX8_event_83 ?_
        refine lv_iload_n hx hb dX8_event_86 rfl (lv_at hl 1 rfl) ?_
        refine lv_iload_n hx hb dX8_event_87 rfl (lv_at hl 2 rfl) ?_
        refine lv_iload_n hx hb dX8_event_88 rfl (lv_at hl 3 rfl) ?_
        refine yVwv (As := [.int p0, .int p1, .int p2]) (rest := []) C0 (g_X2_add l G S d_12 (S.2.2.1 (S.2.2.1 q0 0) 1) p0 p1 p2 hSh hPod_12 hmy_7 hky_7) ok_X2_add (mW413 : Cond.methodLink RX8 145 yX2_add ∈ wsT) ⟨Nat.le_of_ble_eq_true rfl, Nat.le_of_ble_eq_true rfl⟩ hP hD hS hA hK hN hmy_7 hky_7 (by decide) rfl rfl rfl hl.1 rfl (Nat.le_of_ble_eq_true rfl) ⟨Nat.le_of_ble_eq_true rfl, Nat.le_of_ble_eq_true rfl⟩ dX8_event_89 (fun d_15 H locs hr_14 hP hD hS => ?_)
        obtain ⟨hgad_15, hpad_15, hxd_15⟩ := hr_14
        have hgd_15 : yAg S [2, 8, 16, 24] d d_15 := yAg.tr hgd_12 hgad_15 (by first | decide | exact fun _ h => h)
        have hPod_15 : yPo S d_15 := hpad_15 hPod_12
        refine lv_iconst (v := 1) hx hb dX8_event_92 (by decide) ?_
        exact W.zret (v := 1) (ty := .boolean) hx hb hr rfl (fun t ht hW => ⟨⟨1, d_15, rfl, ⟨hgd_15, (fun _ => hPod_15), ((congrFun (hgad_15 q0 (by rw [hk_q0]; decide)).1 4).trans (hxd_12.2))⟩, by rw [ht]; exact hP, hD⟩, hS.F ht⟩) hS.2.2 dX8_event_93
      · refine lv_iconst (v := 0) hx hb dX8_event_77 (by decide) ?_
        exact W.zret (v := 0) (ty := .boolean) hx hb hr rfl (fun t ht hW => ⟨⟨0, d_12, rfl, ⟨hgd_12, (fun _ => hPod_12), (hxd_12.2)⟩, by rw [ht]; exact hP, hD⟩, hS.F ht⟩) hS.2.2 dX8_event_78
    refine lv_icmp_lt (tgt := 67) hx hb dX8_event_60 (by decide) (fun c_16 => ?_) (fun c_16 => ?_)
    · refine lv_iconst (v := 0) hx hb dX8_event_67 (by decide) ?_
      exact J68_9 0 ls _ ⟨rfl, lv_sub hl [0, 1, 2, 3] rfl⟩
    · refine lv_iconst (v := 5) hx hb dX8_event_63 (by decide) ?_
      refine lv_goto (tgt := 68) hx hb dX8_event_64 (by decide) ?_
      exact J68_9 5 ls _ ⟨rfl, lv_sub hl [0, 1, 2, 3] rfl⟩
  refine lv_if_ne (tgt := 44) hx hb dX8_event_23 (by decide) (fun c_17 => ?_) (fun c_17 => ?_)
  · exact J44_5 r_4 ls _ ⟨rfl, lv_sub hl [1, 2, 3, 4, 0] rfl⟩
  · refine lv_aload_n hx hb dX8_event_26 rfl (lv_at hl 1 rfl) ?_
    refine yget (ci := 8) (k := 0) (v := .ref (S.2.2.1 q0 0)) (C := RX8) (T := TX8) (N := 6) C0 hK hP hm_q0 hk_q0 (by decide) rfl inlX8 (by decide) mW16 (fun _ h9 => h9) rfl dX8_event_27 ?_
    obtain ⟨hmy_18, hky_18⟩ := ySh.f8_0 hSh _ hm_q0 hk_q0
    refine lv_iload_n hx hb dX8_event_30 rfl (lv_at hl 2 rfl) ?_
    refine yVrr (As := [.int p0]) (rest := []) C0 (g_X0_portAt l G S d (S.2.2.1 q0 0) p0 hSh hmy_18 hky_18) ok_X0_portAt (mW337 : Cond.methodLink RX8 114 yX0_portAt ∈ wsT) ⟨Nat.le_of_ble_eq_true rfl, Nat.le_of_ble_eq_true rfl⟩ hP hD hK hN hmy_18 hky_18 (by decide) rfl rfl rfl hl.1 rfl (Nat.le_of_ble_eq_true rfl) ⟨Nat.le_of_ble_eq_true rfl, Nat.le_of_ble_eq_true rfl⟩ dX8_event_31 (fun r_19 hr_19 => ?_)
    obtain ⟨hmr_19, hkr_19, her_19⟩ := hr_19
    refine lv_iload_n hx hb dX8_event_34 rfl (lv_at hl 3 rfl) ?_
    refine yVri (As := [.int p1]) (rest := []) C0 (g_X4_knows l G S d r_19 p1 hSh hmr_19 hkr_19) ok_X4_knows (mW409 : Cond.methodLink RX8 133 yX4_knows ∈ wsT) ⟨Nat.le_of_ble_eq_true rfl, Nat.le_of_ble_eq_true rfl⟩ hP hD hK hN hmr_19 hkr_19 (by decide) rfl rfl rfl hl.1 rfl (Nat.le_of_ble_eq_true rfl) ⟨Nat.le_of_ble_eq_true rfl, Nat.le_of_ble_eq_true rfl⟩ dX8_event_35 (fun r_20 hr_20 => ?_)
    refine lv_if_ne (tgt := 44) hx hb dX8_event_38 (by decide) (fun c_21 => ?_) (fun c_21 => ?_)
    · exact J44_5 r_4 ls _ ⟨rfl, lv_sub hl [1, 2, 3, 4, 0] rfl⟩
    · refine lv_iconst (v := 2) hx hb dX8_event_41 (by decide) ?_
      refine lv_istore (lv' := [(4, .int 2), (0, .ref q0), (1, .int p0), (2, .int p1), (3, .int p2)]) hx hb dX8_event_42 hl (by decide) rfl (fun ls hl => ?_)
      exact J44_5 2 ls _ ⟨rfl, lv_sub hl [1, 2, 3, 4, 0] rfl⟩
theorem dX8_day_0 : decode cX8_day 0 = .ok (.aload_n 0, 1) := by decide +kernel
theorem dX8_day_1 : decode cX8_day 1 = .ok (.aload_n 0, 1) := by decide +kernel
theorem dX8_day_2 : decode cX8_day 2 = .ok (.iload_n 1, 1) := by decide +kernel
theorem dX8_day_3 : decode cX8_day 3 = .ok (.iload_n 2, 1) := by decide +kernel
theorem dX8_day_4 : decode cX8_day 4 = .ok (.invokevirtual 149, 3) := by decide +kernel
theorem dX8_day_7 : decode cX8_day 7 = .ok (.invokevirtual 42, 3) := by decide +kernel
theorem dX8_day_10 : decode cX8_day 10 = .ok (.ifCond .eq 5, 3) := by decide +kernel
theorem dX8_day_13 : decode cX8_day 13 = .ok (.iconst 0, 1) := by decide +kernel
theorem dX8_day_14 : decode cX8_day 14 = .ok (.ireturn, 1) := by decide +kernel
theorem dX8_day_15 : decode cX8_day 15 = .ok (.aload_n 0, 1) := by decide +kernel
theorem dX8_day_16 : decode cX8_day 16 = .ok (.getfield 12, 3) := by decide +kernel
theorem dX8_day_19 : decode cX8_day 19 = .ok (.iload_n 1, 1) := by decide +kernel
theorem dX8_day_20 : decode cX8_day 20 = .ok (.invokevirtual 114, 3) := by decide +kernel
theorem dX8_day_23 : decode cX8_day 23 = .ok (.getfield 152, 3) := by decide +kernel
theorem dX8_day_26 : decode cX8_day 26 = .ok (.iload_n 2, 1) := by decide +kernel
theorem dX8_day_27 : decode cX8_day 27 = .ok (.iload_n 3, 1) := by decide +kernel
theorem dX8_day_28 : decode cX8_day 28 = .ok (.ifCond .eq 9, 3) := by decide +kernel
theorem dX8_day_31 : decode cX8_day 31 = .ok (.sipush 1440, 3) := by decide +kernel
theorem dX8_day_34 : decode cX8_day 34 = .ok (.goto 4, 3) := by decide +kernel
theorem dX8_day_37 : decode cX8_day 37 = .ok (.iconst (-1), 1) := by decide +kernel
theorem dX8_day_38 : decode cX8_day 38 = .ok (.invokestatic 82, 3) := by decide +kernel
theorem dX8_day_41 : decode cX8_day 41 = .ok (.aload_n 0, 1) := by decide +kernel
theorem dX8_day_42 : decode cX8_day 42 = .ok (.getfield 12, 3) := by decide +kernel
theorem dX8_day_45 : decode cX8_day 45 = .ok (.getfield 136, 3) := by decide +kernel
theorem dX8_day_48 : decode cX8_day 48 = .ok (.iload_n 1, 1) := by decide +kernel
theorem dX8_day_49 : decode cX8_day 49 = .ok (.iload_n 2, 1) := by decide +kernel
theorem dX8_day_50 : decode cX8_day 50 = .ok (.sipush 1440, 3) := by decide +kernel
theorem dX8_day_53 : decode cX8_day 53 = .ok (.imul, 1) := by decide +kernel
theorem dX8_day_54 : decode cX8_day 54 = .ok (.sipush 1440, 3) := by decide +kernel
theorem dX8_day_57 : decode cX8_day 57 = .ok (.invokevirtual 155, 3) := by decide +kernel
theorem dX8_day_60 : decode cX8_day 60 = .ok (.pop, 1) := by decide +kernel
theorem dX8_day_61 : decode cX8_day 61 = .ok (.iconst 1, 1) := by decide +kernel
theorem dX8_day_62 : decode cX8_day 62 = .ok (.ireturn, 1) := by decide +kernel
set_option maxHeartbeats 4000000 in
set_option maxRecDepth 100000 in
theorem g_X8_day (l : Launch) (G : xG) (S : yS) (d : yD) (q0 : Nat) (p0 : Int32) (p1 : Int32) (p2 : Int32) (hSh : ySh S) (hPo : yPo S d) (hm_q0 : q0 ∈ S.1) (hk_q0 : S.2.1 q0 = 8) (hz_p2 : p2 = 0 ∨ p2 = 1) : xWi l G yX8_day cX8_day 4 (some .boolean) 3 74 0 0 [.ref q0, .int p0, .int p1, .int p2] (yW G S d) (fun r (u : yD) => yAg S [2, 8, 16, 20, 24] d u ∧ (yPo S d → yPo S u) ∧ (u.1 q0 4 = d.1 q0 4)) (fun u => yW G S u) := by
  intro sz
  refine xstart (by decide) (Nat.le_of_ble_eq_true rfl) (fun p e s m args below meth c ls C0 hr hlocks hin hsz hP hK hD hN hl => ?_)
  obtain ⟨hx, hb, hml, hown, htl⟩ := id C0
  subst hsz
  have hD := hD.self (sz := s.heap.size)
  generalize hAe : va_A (yW G S d) s.heap.size = A at hD ⊢
  have hA : ∀ q : Nat, s.heap.size ≤ q → A q := fun q h => by rw [← hAe]; exact Or.inr h
  have hS : va_S A s.heap s.heap [] := va_S.rf
  have hg0 : yAg S [2, 8, 16, 20, 24] d d := yAg.rf
  have hl : lv_has ls 4 [(0, .ref q0), (1, .int p0), (2, .int p1), (3, .int p2)] := hl
  refine lv_aload_n hx hb dX8_day_0 rfl (lv_at hl 0 rfl) ?_
  refine lv_aload_n hx hb dX8_day_1 rfl (lv_at hl 0 rfl) ?_
  refine lv_iload_n hx hb dX8_day_2 rfl (lv_at hl 1 rfl) ?_
  refine lv_iload_n hx hb dX8_day_3 rfl (lv_at hl 2 rfl) ?_
  refine yVri (As := [.int p0, .int p1]) (rest := [.ref q0]) C0 (g_X8_dayReason l G S d q0 p0 p1 hSh hm_q0 hk_q0) ok_X8_dayReason (mW442 : Cond.methodLink RX8 149 yX8_dayReason ∈ wsT) ⟨Nat.le_of_ble_eq_true rfl, Nat.le_of_ble_eq_true rfl⟩ hP hD hK hN hm_q0 hk_q0 (by decide) rfl rfl rfl hl.1 rfl (Nat.le_of_ble_eq_true rfl) ⟨Nat.le_of_ble_eq_true rfl, Nat.le_of_ble_eq_true rfl⟩ dX8_day_4 (fun r_1 hr_1 => ?_)
  refine yVwi (As := [.int r_1]) (rest := []) C0 (g_X8_refused l G S d q0 r_1 hSh hPo hm_q0 hk_q0) ok_X8_refused (mW160 : Cond.methodLink RX8 42 yX8_refused ∈ wsT) ⟨Nat.le_of_ble_eq_true rfl, Nat.le_of_ble_eq_true rfl⟩ hP hD hS hA hK hN hm_q0 hk_q0 (by decide) rfl rfl rfl hl.1 rfl (Nat.le_of_ble_eq_true rfl) ⟨Nat.le_of_ble_eq_true rfl, Nat.le_of_ble_eq_true rfl⟩ dX8_day_7 (fun r_2 d_3 H locs hr_2 hP hD hS => ?_)
  obtain ⟨hgad_3, hpad_3, hxd_3⟩ := hr_2
  have hgd_3 : yAg S [2, 8, 16, 20, 24] d d_3 := yAg.tr hg0 hgad_3 (by first | decide | exact fun _ h => h)
  have hPod_3 : yPo S d_3 := hpad_3 hPo
  refine lv_if_eq (tgt := 15) hx hb dX8_day_10 (by decide) (fun c_4 => ?_) (fun c_4 => ?_)
  · refine lv_aload_n hx hb dX8_day_15 rfl (lv_at hl 0 rfl) ?_
    refine yget (ci := 8) (k := 0) (v := .ref (S.2.2.1 q0 0)) (C := RX8) (T := TX8) (N := 6) C0 hK hP hm_q0 hk_q0 (by decide) rfl inlX8 (by decide) mW16 (fun _ h9 => h9) rfl dX8_day_16 ?_
    obtain ⟨hmy_5, hky_5⟩ := ySh.f8_0 hSh _ hm_q0 hk_q0
    refine lv_iload_n hx hb dX8_day_19 rfl (lv_at hl 1 rfl) ?_
    refine yVrr (As := [.int p0]) (rest := []) C0 (g_X0_portAt l G S d_3 (S.2.2.1 q0 0) p0 hSh hmy_5 hky_5) ok_X0_portAt (mW337 : Cond.methodLink RX8 114 yX0_portAt ∈ wsT) ⟨Nat.le_of_ble_eq_true rfl, Nat.le_of_ble_eq_true rfl⟩ hP hD hK hN hmy_5 hky_5 (by decide) rfl rfl rfl hl.1 rfl (Nat.le_of_ble_eq_true rfl) ⟨Nat.le_of_ble_eq_true rfl, Nat.le_of_ble_eq_true rfl⟩ dX8_day_20 (fun r_6 hr_6 => ?_)
    obtain ⟨hmr_6, hkr_6, her_6⟩ := hr_6
    refine yget (ci := 4) (k := 0) (v := .ref (S.2.2.1 r_6 0)) (C := RX4) (T := TX4) (N := 11) C0 hK hP hmr_6 hkr_6 (by decide) rfl inlX4 (by decide) mW441 (fun _ h9 => h9) rfl dX8_day_23 ?_
    obtain ⟨hmy_7, hky_7⟩ := ySh.f4_0 hSh _ hmr_6 hkr_6
    refine lv_iload_n hx hb dX8_day_26 rfl (lv_at hl 2 rfl) ?_
    refine lv_iload_n hx hb dX8_day_27 rfl (lv_at hl 3 rfl) ?_
    refine yjoinR (σ := Int32) 38 (fun x ls st => st = [.int x, .int p1, .ref (S.2.2.1 r_6 0)] ∧ lv_has ls 4 [(0, .ref q0), (1, .int p0), (2, .int p1)]) (fun x ls st hI => ?_) (fun J38_8 => ?_)
    · obtain ⟨v_8, rfl⟩ : ∃ z, z = x := ⟨_, rfl⟩
      obtain ⟨rfl, hl⟩ := hI
      have hl : lv_has ls 4 [(0, .ref q0), (1, .int p0), (2, .int p1)] := hl
      refine ySwv (As := [.ref (S.2.2.1 r_6 0), .int p1, .int v_8]) (rest := []) C0 (g_X8_put l G S d_3 (S.2.2.1 r_6 0) 20 p1 v_8 hPod_3 hmy_7 hky_7 (by decide) rfl rfl (by decide)) ok_X8_put (mW168 : Cond.methodLink RX8 82 yX8_put ∈ wsT) ⟨Nat.le_of_ble_eq_true rfl, Nat.le_of_ble_eq_true rfl⟩ hP hD hS hA hK hN rfl hl.1 rfl (Nat.le_of_ble_eq_true rfl) ⟨Nat.le_of_ble_eq_true rfl, Nat.le_of_ble_eq_true rfl⟩ dX8_day_38 (fun d_10 H locs hr_9 hP hD hS => ?_)
      obtain ⟨hgad_10, hpad_10, hxd_10⟩ := hr_9
      have hgd_10 : yAg S [2, 8, 16, 20, 24] d d_10 := yAg.tr hgd_3 hgad_10 (by first | decide | exact fun _ h => h)
      have hPod_10 : yPo S d_10 := hpad_10 hPod_3
      refine lv_aload_n hx hb dX8_day_41 rfl (lv_at hl 0 rfl) ?_
      refine yget (ci := 8) (k := 0) (v := .ref (S.2.2.1 q0 0)) (C := RX8) (T := TX8) (N := 6) C0 hK hP hm_q0 hk_q0 (by decide) rfl inlX8 (by decide) mW16 (fun _ h9 => h9) rfl dX8_day_42 ?_
      refine yget (ci := 0) (k := 1) (v := .ref (S.2.2.1 (S.2.2.1 q0 0) 1)) (C := RX0) (T := TX0) (N := 6) C0 hK hP hmy_5 hky_5 (by decide) rfl inlX0 (by decide) mW316 (fun _ h9 => h9) rfl dX8_day_45 ?_
      obtain ⟨hmy_11, hky_11⟩ := ySh.f0_1 hSh _ hmy_5 hky_5
      refine lv_iload_n hx hb dX8_day_48 rfl (lv_at hl 1 rfl) ?_
      refine lv_iload_n hx hb dX8_day_49 rfl (lv_at hl 2 rfl) ?_
      refine lv_sipush (v := 1440) hx hb dX8_day_50 (by decide) ?_
      refine lv_imul hx hb dX8_day_53 ?_
      refine lv_topi (fun z_12 ez_12 => ?_)
      refine lv_sipush (v := 1440) hx hb dX8_day_54 (by decide) ?_
      refine yVwi (As := [.int p0, .int z_12, .int 1440]) (rest := []) C0 (g_X2_remove l G S d_10 (S.2.2.1 (S.2.2.1 q0 0) 1) p0 z_12 1440 hSh hPod_10 hmy_11 hky_11) ok_X2_remove (mW318 : Cond.methodLink RX8 155 yX2_remove ∈ wsT) ⟨Nat.le_of_ble_eq_true rfl, Nat.le_of_ble_eq_true rfl⟩ hP hD hS hA hK hN hmy_11 hky_11 (by decide) rfl rfl rfl hl.1 rfl (Nat.le_of_ble_eq_true rfl) ⟨Nat.le_of_ble_eq_true rfl, Nat.le_of_ble_eq_true rfl⟩ dX8_day_57 (fun r_13 d_14 H locs hr_13 hP hD hS => ?_)
      obtain ⟨hgad_14, hpad_14, hxd_14⟩ := hr_13
      have hgd_14 : yAg S [2, 8, 16, 20, 24] d d_14 := yAg.tr hgd_10 hgad_14 (by first | decide | exact fun _ h => h)
      have hPod_14 : yPo S d_14 := hpad_14 hPod_10
      refine lv_pop hx hb dX8_day_60 rfl ?_
      refine lv_iconst (v := 1) hx hb dX8_day_61 (by decide) ?_
      exact W.zret (v := 1) (ty := .boolean) hx hb hr rfl (fun t ht hW => ⟨⟨1, d_14, rfl, ⟨hgd_14, (fun _ => hPod_14), ((congrFun (hgad_14 q0 (by rw [hk_q0]; decide)).1 4).trans ((congrFun (hgad_10 q0 (by rw [hk_q0]; decide)).1 4).trans (hxd_3.2)))⟩, by rw [ht]; exact hP, hD⟩, hS.F ht⟩) hS.2.2 dX8_day_62
    refine lv_if_eq (tgt := 37) hx hb dX8_day_28 (by decide) (fun c_15 => ?_) (fun c_15 => ?_)
    · refine lv_iconst (v := (-1)) hx hb dX8_day_37 (by decide) ?_
      exact J38_8 (-1) ls _ ⟨rfl, lv_sub hl [0, 1, 2] rfl⟩
    · refine lv_sipush (v := 1440) hx hb dX8_day_31 (by decide) ?_
      refine lv_goto (tgt := 38) hx hb dX8_day_34 (by decide) ?_
      exact J38_8 1440 ls _ ⟨rfl, lv_sub hl [0, 1, 2] rfl⟩
  · refine lv_iconst (v := 0) hx hb dX8_day_13 (by decide) ?_
    exact W.zret (v := 0) (ty := .boolean) hx hb hr rfl (fun t ht hW => ⟨⟨0, d_3, rfl, ⟨hgd_3, (fun _ => hPod_3), (hxd_3.2)⟩, by rw [ht]; exact hP, hD⟩, hS.F ht⟩) hS.2.2 dX8_day_14
theorem dX8_tear_0 : decode cX8_tear 0 = .ok (.aload_n 0, 1) := by decide +kernel
theorem dX8_tear_1 : decode cX8_tear 1 = .ok (.iload_n 1, 1) := by decide +kernel
theorem dX8_tear_2 : decode cX8_tear 2 = .ok (.iload_n 2, 1) := by decide +kernel
theorem dX8_tear_3 : decode cX8_tear 3 = .ok (.invokevirtual 159, 3) := by decide +kernel
theorem dX8_tear_6 : decode cX8_tear 6 = .ok (.iload_n 3, 1) := by decide +kernel
theorem dX8_tear_7 : decode cX8_tear 7 = .ok (.iconst 0, 1) := by decide +kernel
theorem dX8_tear_8 : decode cX8_tear 8 = .ok (.sipush 1439, 3) := by decide +kernel
theorem dX8_tear_11 : decode cX8_tear 11 = .ok (.invokestatic 71, 3) := by decide +kernel
theorem dX8_tear_14 : decode cX8_tear 14 = .ok (.invokestatic 54, 3) := by decide +kernel
theorem dX8_tear_17 : decode cX8_tear 17 = .ok (.invokestatic 58, 3) := by decide +kernel
theorem dX8_tear_20 : decode cX8_tear 20 = .ok (.istore 4, 2) := by decide +kernel
theorem dX8_tear_22 : decode cX8_tear 22 = .ok (.aload_n 0, 1) := by decide +kernel
theorem dX8_tear_23 : decode cX8_tear 23 = .ok (.iload 4, 2) := by decide +kernel
theorem dX8_tear_25 : decode cX8_tear 25 = .ok (.invokevirtual 42, 3) := by decide +kernel
theorem dX8_tear_28 : decode cX8_tear 28 = .ok (.ifCond .eq 5, 3) := by decide +kernel
theorem dX8_tear_31 : decode cX8_tear 31 = .ok (.iconst (-1), 1) := by decide +kernel
theorem dX8_tear_32 : decode cX8_tear 32 = .ok (.ireturn, 1) := by decide +kernel
theorem dX8_tear_33 : decode cX8_tear 33 = .ok (.iload_n 3, 1) := by decide +kernel
theorem dX8_tear_34 : decode cX8_tear 34 = .ok (.aload_n 0, 1) := by decide +kernel
theorem dX8_tear_35 : decode cX8_tear 35 = .ok (.getfield 12, 3) := by decide +kernel
theorem dX8_tear_38 : decode cX8_tear 38 = .ok (.iload_n 1, 1) := by decide +kernel
theorem dX8_tear_39 : decode cX8_tear 39 = .ok (.invokevirtual 114, 3) := by decide +kernel
theorem dX8_tear_42 : decode cX8_tear 42 = .ok (.getfield 152, 3) := by decide +kernel
theorem dX8_tear_45 : decode cX8_tear 45 = .ok (.iload_n 2, 1) := by decide +kernel
theorem dX8_tear_46 : decode cX8_tear 46 = .ok (.invokestatic 78, 3) := by decide +kernel
theorem dX8_tear_49 : decode cX8_tear 49 = .ok (.invokestatic 162, 3) := by decide +kernel
theorem dX8_tear_52 : decode cX8_tear 52 = .ok (.istore 5, 2) := by decide +kernel
theorem dX8_tear_54 : decode cX8_tear 54 = .ok (.aload_n 0, 1) := by decide +kernel
theorem dX8_tear_55 : decode cX8_tear 55 = .ok (.getfield 12, 3) := by decide +kernel
theorem dX8_tear_58 : decode cX8_tear 58 = .ok (.iload_n 1, 1) := by decide +kernel
theorem dX8_tear_59 : decode cX8_tear 59 = .ok (.invokevirtual 114, 3) := by decide +kernel
theorem dX8_tear_62 : decode cX8_tear 62 = .ok (.getfield 152, 3) := by decide +kernel
theorem dX8_tear_65 : decode cX8_tear 65 = .ok (.iload_n 2, 1) := by decide +kernel
theorem dX8_tear_66 : decode cX8_tear 66 = .ok (.iload 5, 2) := by decide +kernel
theorem dX8_tear_68 : decode cX8_tear 68 = .ok (.invokestatic 82, 3) := by decide +kernel
theorem dX8_tear_71 : decode cX8_tear 71 = .ok (.aload_n 0, 1) := by decide +kernel
theorem dX8_tear_72 : decode cX8_tear 72 = .ok (.getfield 12, 3) := by decide +kernel
theorem dX8_tear_75 : decode cX8_tear 75 = .ok (.getfield 136, 3) := by decide +kernel
theorem dX8_tear_78 : decode cX8_tear 78 = .ok (.iload_n 1, 1) := by decide +kernel
theorem dX8_tear_79 : decode cX8_tear 79 = .ok (.iload_n 2, 1) := by decide +kernel
theorem dX8_tear_80 : decode cX8_tear 80 = .ok (.sipush 1440, 3) := by decide +kernel
theorem dX8_tear_83 : decode cX8_tear 83 = .ok (.imul, 1) := by decide +kernel
theorem dX8_tear_84 : decode cX8_tear 84 = .ok (.iload 5, 2) := by decide +kernel
theorem dX8_tear_86 : decode cX8_tear 86 = .ok (.iadd, 1) := by decide +kernel
theorem dX8_tear_87 : decode cX8_tear 87 = .ok (.sipush 1440, 3) := by decide +kernel
theorem dX8_tear_90 : decode cX8_tear 90 = .ok (.iload 5, 2) := by decide +kernel
theorem dX8_tear_92 : decode cX8_tear 92 = .ok (.isub, 1) := by decide +kernel
theorem dX8_tear_93 : decode cX8_tear 93 = .ok (.invokevirtual 155, 3) := by decide +kernel
theorem dX8_tear_96 : decode cX8_tear 96 = .ok (.ireturn, 1) := by decide +kernel
set_option maxHeartbeats 4000000 in
set_option maxRecDepth 100000 in
theorem g_X8_tear (l : Launch) (G : xG) (S : yS) (d : yD) (q0 : Nat) (p0 : Int32) (p1 : Int32) (p2 : Int32) (hSh : ySh S) (hPo : yPo S d) (hm_q0 : q0 ∈ S.1) (hk_q0 : S.2.1 q0 = 8) : xWi l G yX8_tear cX8_tear 6 (some .int) 4 89 0 0 [.ref q0, .int p0, .int p1, .int p2] (yW G S d) (fun r (u : yD) => yAg S [2, 8, 16, 20, 24] d u ∧ (yPo S d → yPo S u) ∧ (u.1 q0 4 = d.1 q0 4)) (fun u => yW G S u) := by
  intro sz
  refine xstart (by decide) (Nat.le_of_ble_eq_true rfl) (fun p e s m args below meth c ls C0 hr hlocks hin hsz hP hK hD hN hl => ?_)
  obtain ⟨hx, hb, hml, hown, htl⟩ := id C0
  subst hsz
  have hD := hD.self (sz := s.heap.size)
  generalize hAe : va_A (yW G S d) s.heap.size = A at hD ⊢
  have hA : ∀ q : Nat, s.heap.size ≤ q → A q := fun q h => by rw [← hAe]; exact Or.inr h
  have hS : va_S A s.heap s.heap [] := va_S.rf
  have hg0 : yAg S [2, 8, 16, 20, 24] d d := yAg.rf
  have hl : lv_has ls 6 [(0, .ref q0), (1, .int p0), (2, .int p1), (3, .int p2)] := hl
  refine lv_aload_n hx hb dX8_tear_0 rfl (lv_at hl 0 rfl) ?_
  refine lv_iload_n hx hb dX8_tear_1 rfl (lv_at hl 1 rfl) ?_
  refine lv_iload_n hx hb dX8_tear_2 rfl (lv_at hl 2 rfl) ?_
  refine yVri (As := [.int p0, .int p1]) (rest := []) C0 (g_X8_thereReason l G S d q0 p0 p1 hSh hm_q0 hk_q0) ok_X8_thereReason (mW458 : Cond.methodLink RX8 159 yX8_thereReason ∈ wsT) ⟨Nat.le_of_ble_eq_true rfl, Nat.le_of_ble_eq_true rfl⟩ hP hD hK hN hm_q0 hk_q0 (by decide) rfl rfl rfl hl.1 rfl (Nat.le_of_ble_eq_true rfl) ⟨Nat.le_of_ble_eq_true rfl, Nat.le_of_ble_eq_true rfl⟩ dX8_tear_3 (fun r_1 hr_1 => ?_)
  refine lv_iload_n hx hb dX8_tear_6 rfl (lv_at hl 3 rfl) ?_
  refine lv_iconst (v := 0) hx hb dX8_tear_7 (by decide) ?_
  refine lv_sipush (v := 1439) hx hb dX8_tear_8 (by decide) ?_
  refine ySri (As := [.int p2, .int 0, .int 1439]) (rest := [.int r_1]) C0 (g_X8_within l G S d p2 0 1439 ) ok_X8_within (mW193 : Cond.methodLink RX8 71 yX8_within ∈ wsT) ⟨Nat.le_of_ble_eq_true rfl, Nat.le_of_ble_eq_true rfl⟩ hP hD hK hN rfl hl.1 rfl (Nat.le_of_ble_eq_true rfl) ⟨Nat.le_of_ble_eq_true rfl, Nat.le_of_ble_eq_true rfl⟩ dX8_tear_11 (fun r_2 hr_2 => ?_)
  refine ySri (As := [.int r_2]) (rest := [.int r_1]) C0 (g_X8_number l G S d r_2 ) ok_X8_number (mW196 : Cond.methodLink RX8 54 yX8_number ∈ wsT) ⟨Nat.le_of_ble_eq_true rfl, Nat.le_of_ble_eq_true rfl⟩ hP hD hK hN rfl hl.1 rfl (Nat.le_of_ble_eq_true rfl) ⟨Nat.le_of_ble_eq_true rfl, Nat.le_of_ble_eq_true rfl⟩ dX8_tear_14 (fun r_3 hr_3 => ?_)
  refine ySri (As := [.int r_1, .int r_3]) (rest := []) C0 (g_X8_least l G S d r_1 r_3 ) ok_X8_least (mW199 : Cond.methodLink RX8 58 yX8_least ∈ wsT) ⟨Nat.le_of_ble_eq_true rfl, Nat.le_of_ble_eq_true rfl⟩ hP hD hK hN rfl hl.1 rfl (Nat.le_of_ble_eq_true rfl) ⟨Nat.le_of_ble_eq_true rfl, Nat.le_of_ble_eq_true rfl⟩ dX8_tear_17 (fun r_4 hr_4 => ?_)
  refine lv_istore (lv' := [(4, .int r_4), (0, .ref q0), (1, .int p0), (2, .int p1), (3, .int p2)]) hx hb dX8_tear_20 hl (by decide) rfl (fun ls hl => ?_)
  refine lv_aload_n hx hb dX8_tear_22 rfl (lv_at hl 1 rfl) ?_
  refine lv_iload hx hb dX8_tear_23 (lv_at hl 0 rfl) ?_
  refine yVwi (As := [.int r_4]) (rest := []) C0 (g_X8_refused l G S d q0 r_4 hSh hPo hm_q0 hk_q0) ok_X8_refused (mW160 : Cond.methodLink RX8 42 yX8_refused ∈ wsT) ⟨Nat.le_of_ble_eq_true rfl, Nat.le_of_ble_eq_true rfl⟩ hP hD hS hA hK hN hm_q0 hk_q0 (by decide) rfl rfl rfl hl.1 rfl (Nat.le_of_ble_eq_true rfl) ⟨Nat.le_of_ble_eq_true rfl, Nat.le_of_ble_eq_true rfl⟩ dX8_tear_25 (fun r_5 d_6 H locs hr_5 hP hD hS => ?_)
  obtain ⟨hgad_6, hpad_6, hxd_6⟩ := hr_5
  have hgd_6 : yAg S [2, 8, 16, 20, 24] d d_6 := yAg.tr hg0 hgad_6 (by first | decide | exact fun _ h => h)
  have hPod_6 : yPo S d_6 := hpad_6 hPo
  refine lv_if_eq (tgt := 33) hx hb dX8_tear_28 (by decide) (fun c_7 => ?_) (fun c_7 => ?_)
  · refine lv_iload_n hx hb dX8_tear_33 rfl (lv_at hl 4 rfl) ?_
    refine lv_aload_n hx hb dX8_tear_34 rfl (lv_at hl 1 rfl) ?_
    refine yget (ci := 8) (k := 0) (v := .ref (S.2.2.1 q0 0)) (C := RX8) (T := TX8) (N := 6) C0 hK hP hm_q0 hk_q0 (by decide) rfl inlX8 (by decide) mW16 (fun _ h9 => h9) rfl dX8_tear_35 ?_
    obtain ⟨hmy_8, hky_8⟩ := ySh.f8_0 hSh _ hm_q0 hk_q0
    refine lv_iload_n hx hb dX8_tear_38 rfl (lv_at hl 2 rfl) ?_
    refine yVrr (As := [.int p0]) (rest := [.int p2]) C0 (g_X0_portAt l G S d_6 (S.2.2.1 q0 0) p0 hSh hmy_8 hky_8) ok_X0_portAt (mW337 : Cond.methodLink RX8 114 yX0_portAt ∈ wsT) ⟨Nat.le_of_ble_eq_true rfl, Nat.le_of_ble_eq_true rfl⟩ hP hD hK hN hmy_8 hky_8 (by decide) rfl rfl rfl hl.1 rfl (Nat.le_of_ble_eq_true rfl) ⟨Nat.le_of_ble_eq_true rfl, Nat.le_of_ble_eq_true rfl⟩ dX8_tear_39 (fun r_9 hr_9 => ?_)
    obtain ⟨hmr_9, hkr_9, her_9⟩ := hr_9
    refine yget (ci := 4) (k := 0) (v := .ref (S.2.2.1 r_9 0)) (C := RX4) (T := TX4) (N := 11) C0 hK hP hmr_9 hkr_9 (by decide) rfl inlX4 (by decide) mW441 (fun _ h9 => h9) rfl dX8_tear_42 ?_
    obtain ⟨hmy_10, hky_10⟩ := ySh.f4_0 hSh _ hmr_9 hkr_9
    refine lv_iload_n hx hb dX8_tear_45 rfl (lv_at hl 3 rfl) ?_
    refine ySri (As := [.ref (S.2.2.1 r_9 0), .int p1]) (rest := [.int p2]) C0 (g_X8_at l G S d_6 (S.2.2.1 r_9 0) 20 p1 hmy_10 hky_10 (by decide) rfl rfl (by decide)) ok_X8_at (mW165 : Cond.methodLink RX8 78 yX8_at ∈ wsT) ⟨Nat.le_of_ble_eq_true rfl, Nat.le_of_ble_eq_true rfl⟩ hP hD hK hN rfl hl.1 rfl (Nat.le_of_ble_eq_true rfl) ⟨Nat.le_of_ble_eq_true rfl, Nat.le_of_ble_eq_true rfl⟩ dX8_tear_46 (fun r_11 hr_11 => ?_)
    refine va_mmin hx hb (by rw [hml]; exact hl.1.symm) hown (htl (.methodLink RX8 162 Lib.Math.min.name) mW202) (htl (.static Lib.Math.min.name) mW203) (htl (.initialized "java/lang/Math") mW204) (htl (.code Lib.Math.min.name Lib.Math.min.code 2 (some .int)) mW205) (Nat.le_of_ble_eq_true rfl) (Nat.le_of_ble_eq_true rfl) (Nat.le_of_ble_eq_true rfl) (Nat.le_of_ble_eq_true rfl) dX8_tear_49 ?_
    refine lv_topi (fun z_12 ez_12 => ?_)
    refine lv_istore (lv' := [(5, .int z_12), (4, .int r_4), (0, .ref q0), (1, .int p0), (2, .int p1), (3, .int p2)]) hx hb dX8_tear_52 hl (by decide) rfl (fun ls hl => ?_)
    refine lv_aload_n hx hb dX8_tear_54 rfl (lv_at hl 2 rfl) ?_
    refine yget (ci := 8) (k := 0) (v := .ref (S.2.2.1 q0 0)) (C := RX8) (T := TX8) (N := 6) C0 hK hP hm_q0 hk_q0 (by decide) rfl inlX8 (by decide) mW16 (fun _ h9 => h9) rfl dX8_tear_55 ?_
    refine lv_iload_n hx hb dX8_tear_58 rfl (lv_at hl 3 rfl) ?_
    refine yVrr (As := [.int p0]) (rest := []) C0 (g_X0_portAt l G S d_6 (S.2.2.1 q0 0) p0 hSh hmy_8 hky_8) ok_X0_portAt (mW337 : Cond.methodLink RX8 114 yX0_portAt ∈ wsT) ⟨Nat.le_of_ble_eq_true rfl, Nat.le_of_ble_eq_true rfl⟩ hP hD hK hN hmy_8 hky_8 (by decide) rfl rfl rfl hl.1 rfl (Nat.le_of_ble_eq_true rfl) ⟨Nat.le_of_ble_eq_true rfl, Nat.le_of_ble_eq_true rfl⟩ dX8_tear_59 (fun r_13 hr_13 => ?_)
    obtain ⟨hmr_13, hkr_13, her_13⟩ := hr_13
    refine yget (ci := 4) (k := 0) (v := .ref (S.2.2.1 r_13 0)) (C := RX4) (T := TX4) (N := 11) C0 hK hP hmr_13 hkr_13 (by decide) rfl inlX4 (by decide) mW441 (fun _ h9 => h9) rfl dX8_tear_62 ?_
    obtain ⟨hmy_14, hky_14⟩ := ySh.f4_0 hSh _ hmr_13 hkr_13
    refine lv_iload_n hx hb dX8_tear_65 rfl (lv_at hl 4 rfl) ?_
    refine lv_iload hx hb dX8_tear_66 (lv_at hl 0 rfl) ?_
    refine ySwv (As := [.ref (S.2.2.1 r_13 0), .int p1, .int z_12]) (rest := []) C0 (g_X8_put l G S d_6 (S.2.2.1 r_13 0) 20 p1 z_12 hPod_6 hmy_14 hky_14 (by decide) rfl rfl (by decide)) ok_X8_put (mW168 : Cond.methodLink RX8 82 yX8_put ∈ wsT) ⟨Nat.le_of_ble_eq_true rfl, Nat.le_of_ble_eq_true rfl⟩ hP hD hS hA hK hN rfl hl.1 rfl (Nat.le_of_ble_eq_true rfl) ⟨Nat.le_of_ble_eq_true rfl, Nat.le_of_ble_eq_true rfl⟩ dX8_tear_68 (fun d_16 H locs hr_15 hP hD hS => ?_)
    obtain ⟨hgad_16, hpad_16, hxd_16⟩ := hr_15
    have hgd_16 : yAg S [2, 8, 16, 20, 24] d d_16 := yAg.tr hgd_6 hgad_16 (by first | decide | exact fun _ h => h)
    have hPod_16 : yPo S d_16 := hpad_16 hPod_6
    refine lv_aload_n hx hb dX8_tear_71 rfl (lv_at hl 2 rfl) ?_
    refine yget (ci := 8) (k := 0) (v := .ref (S.2.2.1 q0 0)) (C := RX8) (T := TX8) (N := 6) C0 hK hP hm_q0 hk_q0 (by decide) rfl inlX8 (by decide) mW16 (fun _ h9 => h9) rfl dX8_tear_72 ?_
    refine yget (ci := 0) (k := 1) (v := .ref (S.2.2.1 (S.2.2.1 q0 0) 1)) (C := RX0) (T := TX0) (N := 6) C0 hK hP hmy_8 hky_8 (by decide) rfl inlX0 (by decide) mW316 (fun _ h9 => h9) rfl dX8_tear_75 ?_
    obtain ⟨hmy_17, hky_17⟩ := ySh.f0_1 hSh _ hmy_8 hky_8
    refine lv_iload_n hx hb dX8_tear_78 rfl (lv_at hl 3 rfl) ?_
    refine lv_iload_n hx hb dX8_tear_79 rfl (lv_at hl 4 rfl) ?_
    refine lv_sipush (v := 1440) hx hb dX8_tear_80 (by decide) ?_
    refine lv_imul hx hb dX8_tear_83 ?_
    refine lv_topi (fun z_18 ez_18 => ?_)
    refine lv_iload hx hb dX8_tear_84 (lv_at hl 0 rfl) ?_
    refine lv_iadd hx hb dX8_tear_86 ?_
    refine lv_topi (fun z_19 ez_19 => ?_)
    refine lv_sipush (v := 1440) hx hb dX8_tear_87 (by decide) ?_
    refine lv_iload hx hb dX8_tear_90 (lv_at hl 0 rfl) ?_
    refine lv_isub hx hb dX8_tear_92 ?_
    refine lv_topi (fun z_20 ez_20 => ?_)
    refine yVwi (As := [.int p0, .int z_19, .int z_20]) (rest := []) C0 (g_X2_remove l G S d_16 (S.2.2.1 (S.2.2.1 q0 0) 1) p0 z_19 z_20 hSh hPod_16 hmy_17 hky_17) ok_X2_remove (mW318 : Cond.methodLink RX8 155 yX2_remove ∈ wsT) ⟨Nat.le_of_ble_eq_true rfl, Nat.le_of_ble_eq_true rfl⟩ hP hD hS hA hK hN hmy_17 hky_17 (by decide) rfl rfl rfl hl.1 rfl (Nat.le_of_ble_eq_true rfl) ⟨Nat.le_of_ble_eq_true rfl, Nat.le_of_ble_eq_true rfl⟩ dX8_tear_93 (fun r_21 d_22 H locs hr_21 hP hD hS => ?_)
    obtain ⟨hgad_22, hpad_22, hxd_22⟩ := hr_21
    have hgd_22 : yAg S [2, 8, 16, 20, 24] d d_22 := yAg.tr hgd_16 hgad_22 (by first | decide | exact fun _ h => h)
    have hPod_22 : yPo S d_22 := hpad_22 hPod_16
    exact W.iret (v := r_21) hx hb hr (fun t ht hW => ⟨⟨r_21, d_22, rfl, ⟨hgd_22, (fun _ => hPod_22), ((congrFun (hgad_22 q0 (by rw [hk_q0]; decide)).1 4).trans ((congrFun (hgad_16 q0 (by rw [hk_q0]; decide)).1 4).trans (hxd_6.2)))⟩, by rw [ht]; exact hP, hD⟩, hS.F ht⟩) hS.2.2 dX8_tear_96
  · refine lv_iconst (v := (-1)) hx hb dX8_tear_31 (by decide) ?_
    exact W.iret (v := (-1)) hx hb hr (fun t ht hW => ⟨⟨(-1), d_6, rfl, ⟨hgd_6, (fun _ => hPod_6), (hxd_6.2)⟩, by rw [ht]; exact hP, hD⟩, hS.F ht⟩) hS.2.2 dX8_tear_32
theorem dX8_copy_0 : decode cX8_copy 0 = .ok (.aload_n 0, 1) := by decide +kernel
theorem dX8_copy_1 : decode cX8_copy 1 = .ok (.iload_n 1, 1) := by decide +kernel
theorem dX8_copy_2 : decode cX8_copy 2 = .ok (.iload_n 2, 1) := by decide +kernel
theorem dX8_copy_3 : decode cX8_copy 3 = .ok (.invokevirtual 149, 3) := by decide +kernel
theorem dX8_copy_6 : decode cX8_copy 6 = .ok (.aload_n 0, 1) := by decide +kernel
theorem dX8_copy_7 : decode cX8_copy 7 = .ok (.iload_n 3, 1) := by decide +kernel
theorem dX8_copy_8 : decode cX8_copy 8 = .ok (.iload 4, 2) := by decide +kernel
theorem dX8_copy_10 : decode cX8_copy 10 = .ok (.invokevirtual 149, 3) := by decide +kernel
theorem dX8_copy_13 : decode cX8_copy 13 = .ok (.invokestatic 58, 3) := by decide +kernel
theorem dX8_copy_16 : decode cX8_copy 16 = .ok (.istore 6, 2) := by decide +kernel
theorem dX8_copy_18 : decode cX8_copy 18 = .ok (.iload 6, 2) := by decide +kernel
theorem dX8_copy_20 : decode cX8_copy 20 = .ok (.iload 5, 2) := by decide +kernel
theorem dX8_copy_22 : decode cX8_copy 22 = .ok (.iconst 0, 1) := by decide +kernel
theorem dX8_copy_23 : decode cX8_copy 23 = .ok (.bipush 90, 2) := by decide +kernel
theorem dX8_copy_25 : decode cX8_copy 25 = .ok (.invokestatic 71, 3) := by decide +kernel
theorem dX8_copy_28 : decode cX8_copy 28 = .ok (.invokestatic 54, 3) := by decide +kernel
theorem dX8_copy_31 : decode cX8_copy 31 = .ok (.invokestatic 58, 3) := by decide +kernel
theorem dX8_copy_34 : decode cX8_copy 34 = .ok (.istore 6, 2) := by decide +kernel
theorem dX8_copy_36 : decode cX8_copy 36 = .ok (.iload 6, 2) := by decide +kernel
theorem dX8_copy_38 : decode cX8_copy 38 = .ok (.ifCond .eq 12, 3) := by decide +kernel
theorem dX8_copy_41 : decode cX8_copy 41 = .ok (.aload_n 0, 1) := by decide +kernel
theorem dX8_copy_42 : decode cX8_copy 42 = .ok (.iload 6, 2) := by decide +kernel
theorem dX8_copy_44 : decode cX8_copy 44 = .ok (.invokevirtual 42, 3) := by decide +kernel
theorem dX8_copy_47 : decode cX8_copy 47 = .ok (.pop, 1) := by decide +kernel
theorem dX8_copy_48 : decode cX8_copy 48 = .ok (.iconst (-1), 1) := by decide +kernel
theorem dX8_copy_49 : decode cX8_copy 49 = .ok (.ireturn, 1) := by decide +kernel
theorem dX8_copy_50 : decode cX8_copy 50 = .ok (.aload_n 0, 1) := by decide +kernel
theorem dX8_copy_51 : decode cX8_copy 51 = .ok (.getfield 12, 3) := by decide +kernel
theorem dX8_copy_54 : decode cX8_copy 54 = .ok (.iload_n 1, 1) := by decide +kernel
theorem dX8_copy_55 : decode cX8_copy 55 = .ok (.invokevirtual 114, 3) := by decide +kernel
theorem dX8_copy_58 : decode cX8_copy 58 = .ok (.getfield 167, 3) := by decide +kernel
theorem dX8_copy_61 : decode cX8_copy 61 = .ok (.iload_n 2, 1) := by decide +kernel
theorem dX8_copy_62 : decode cX8_copy 62 = .ok (.isub, 1) := by decide +kernel
theorem dX8_copy_63 : decode cX8_copy 63 = .ok (.aload_n 0, 1) := by decide +kernel
theorem dX8_copy_64 : decode cX8_copy 64 = .ok (.getfield 12, 3) := by decide +kernel
theorem dX8_copy_67 : decode cX8_copy 67 = .ok (.iload_n 3, 1) := by decide +kernel
theorem dX8_copy_68 : decode cX8_copy 68 = .ok (.invokevirtual 114, 3) := by decide +kernel
theorem dX8_copy_71 : decode cX8_copy 71 = .ok (.getfield 167, 3) := by decide +kernel
theorem dX8_copy_74 : decode cX8_copy 74 = .ok (.iload 4, 2) := by decide +kernel
theorem dX8_copy_76 : decode cX8_copy 76 = .ok (.isub, 1) := by decide +kernel
theorem dX8_copy_77 : decode cX8_copy 77 = .ok (.invokestatic 162, 3) := by decide +kernel
theorem dX8_copy_80 : decode cX8_copy 80 = .ok (.istore 7, 2) := by decide +kernel
theorem dX8_copy_82 : decode cX8_copy 82 = .ok (.aload_n 0, 1) := by decide +kernel
theorem dX8_copy_83 : decode cX8_copy 83 = .ok (.iload_n 1, 1) := by decide +kernel
theorem dX8_copy_84 : decode cX8_copy 84 = .ok (.iload_n 2, 1) := by decide +kernel
theorem dX8_copy_85 : decode cX8_copy 85 = .ok (.iload_n 3, 1) := by decide +kernel
theorem dX8_copy_86 : decode cX8_copy 86 = .ok (.iload 4, 2) := by decide +kernel
theorem dX8_copy_88 : decode cX8_copy 88 = .ok (.iload 5, 2) := by decide +kernel
theorem dX8_copy_90 : decode cX8_copy 90 = .ok (.iload 7, 2) := by decide +kernel
theorem dX8_copy_92 : decode cX8_copy 92 = .ok (.invokestatic 162, 3) := by decide +kernel
theorem dX8_copy_95 : decode cX8_copy 95 = .ok (.invokevirtual 170, 3) := by decide +kernel
theorem dX8_copy_98 : decode cX8_copy 98 = .ok (.istore 8, 2) := by decide +kernel
theorem dX8_copy_100 : decode cX8_copy 100 = .ok (.aload_n 0, 1) := by decide +kernel
theorem dX8_copy_101 : decode cX8_copy 101 = .ok (.iload 8, 2) := by decide +kernel
theorem dX8_copy_103 : decode cX8_copy 103 = .ok (.iload 5, 2) := by decide +kernel
theorem dX8_copy_105 : decode cX8_copy 105 = .ok (.if_icmp .ne 7, 3) := by decide +kernel
theorem dX8_copy_108 : decode cX8_copy 108 = .ok (.iconst 0, 1) := by decide +kernel
theorem dX8_copy_109 : decode cX8_copy 109 = .ok (.goto 15, 3) := by decide +kernel
theorem dX8_copy_112 : decode cX8_copy 112 = .ok (.iload 8, 2) := by decide +kernel
theorem dX8_copy_114 : decode cX8_copy 114 = .ok (.iload 7, 2) := by decide +kernel
theorem dX8_copy_116 : decode cX8_copy 116 = .ok (.if_icmp .ne 7, 3) := by decide +kernel
theorem dX8_copy_119 : decode cX8_copy 119 = .ok (.iconst 4, 1) := by decide +kernel
theorem dX8_copy_120 : decode cX8_copy 120 = .ok (.goto 4, 3) := by decide +kernel
theorem dX8_copy_123 : decode cX8_copy 123 = .ok (.iconst 5, 1) := by decide +kernel
theorem dX8_copy_124 : decode cX8_copy 124 = .ok (.invokevirtual 42, 3) := by decide +kernel
theorem dX8_copy_127 : decode cX8_copy 127 = .ok (.pop, 1) := by decide +kernel
theorem dX8_copy_128 : decode cX8_copy 128 = .ok (.aload_n 0, 1) := by decide +kernel
theorem dX8_copy_129 : decode cX8_copy 129 = .ok (.getfield 12, 3) := by decide +kernel
theorem dX8_copy_132 : decode cX8_copy 132 = .ok (.getfield 136, 3) := by decide +kernel
theorem dX8_copy_135 : decode cX8_copy 135 = .ok (.iload_n 3, 1) := by decide +kernel
theorem dX8_copy_136 : decode cX8_copy 136 = .ok (.iload 4, 2) := by decide +kernel
theorem dX8_copy_138 : decode cX8_copy 138 = .ok (.sipush 1440, 3) := by decide +kernel
theorem dX8_copy_141 : decode cX8_copy 141 = .ok (.imul, 1) := by decide +kernel
theorem dX8_copy_142 : decode cX8_copy 142 = .ok (.iload_n 1, 1) := by decide +kernel
theorem dX8_copy_143 : decode cX8_copy 143 = .ok (.iload_n 2, 1) := by decide +kernel
theorem dX8_copy_144 : decode cX8_copy 144 = .ok (.sipush 1440, 3) := by decide +kernel
theorem dX8_copy_147 : decode cX8_copy 147 = .ok (.imul, 1) := by decide +kernel
theorem dX8_copy_148 : decode cX8_copy 148 = .ok (.iload 8, 2) := by decide +kernel
theorem dX8_copy_150 : decode cX8_copy 150 = .ok (.sipush 1440, 3) := by decide +kernel
theorem dX8_copy_153 : decode cX8_copy 153 = .ok (.imul, 1) := by decide +kernel
theorem dX8_copy_154 : decode cX8_copy 154 = .ok (.invokevirtual 174, 3) := by decide +kernel
theorem dX8_copy_157 : decode cX8_copy 157 = .ok (.aload_n 0, 1) := by decide +kernel
theorem dX8_copy_158 : decode cX8_copy 158 = .ok (.getfield 12, 3) := by decide +kernel
theorem dX8_copy_161 : decode cX8_copy 161 = .ok (.iload_n 3, 1) := by decide +kernel
theorem dX8_copy_162 : decode cX8_copy 162 = .ok (.invokevirtual 114, 3) := by decide +kernel
theorem dX8_copy_165 : decode cX8_copy 165 = .ok (.getfield 152, 3) := by decide +kernel
theorem dX8_copy_168 : decode cX8_copy 168 = .ok (.iload 4, 2) := by decide +kernel
theorem dX8_copy_170 : decode cX8_copy 170 = .ok (.aload_n 0, 1) := by decide +kernel
theorem dX8_copy_171 : decode cX8_copy 171 = .ok (.getfield 12, 3) := by decide +kernel
theorem dX8_copy_174 : decode cX8_copy 174 = .ok (.iload_n 1, 1) := by decide +kernel
theorem dX8_copy_175 : decode cX8_copy 175 = .ok (.invokevirtual 114, 3) := by decide +kernel
theorem dX8_copy_178 : decode cX8_copy 178 = .ok (.getfield 152, 3) := by decide +kernel
theorem dX8_copy_181 : decode cX8_copy 181 = .ok (.iload_n 2, 1) := by decide +kernel
theorem dX8_copy_182 : decode cX8_copy 182 = .ok (.iload 8, 2) := by decide +kernel
theorem dX8_copy_184 : decode cX8_copy 184 = .ok (.invokestatic 177, 3) := by decide +kernel
theorem dX8_copy_187 : decode cX8_copy 187 = .ok (.iload 8, 2) := by decide +kernel
theorem dX8_copy_189 : decode cX8_copy 189 = .ok (.ireturn, 1) := by decide +kernel
set_option maxHeartbeats 4000000 in
set_option maxRecDepth 100000 in
theorem g_X8_copy (l : Launch) (G : xG) (S : yS) (d : yD) (q0 : Nat) (p0 : Int32) (p1 : Int32) (p2 : Int32) (p3 : Int32) (p4 : Int32) (hSh : ySh S) (hPo : yPo S d) (hm_q0 : q0 ∈ S.1) (hk_q0 : S.2.1 q0 = 8) : xWi l G yX8_copy cX8_copy 9 (some .int) 4 104 0 0 [.ref q0, .int p0, .int p1, .int p2, .int p3, .int p4] (yW G S d) (fun r (u : yD) => yAg S [2, 8, 16, 17, 20, 24] d u ∧ (yPo S d → yPo S u) ∧ (u.1 q0 4 = d.1 q0 4)) (fun u => yW G S u) := by
  intro sz
  refine xstart (by decide) (Nat.le_of_ble_eq_true rfl) (fun p e s m args below meth c ls C0 hr hlocks hin hsz hP hK hD hN hl => ?_)
  obtain ⟨hx, hb, hml, hown, htl⟩ := id C0
  subst hsz
  have hD := hD.self (sz := s.heap.size)
  generalize hAe : va_A (yW G S d) s.heap.size = A at hD ⊢
  have hA : ∀ q : Nat, s.heap.size ≤ q → A q := fun q h => by rw [← hAe]; exact Or.inr h
  have hS : va_S A s.heap s.heap [] := va_S.rf
  have hg0 : yAg S [2, 8, 16, 17, 20, 24] d d := yAg.rf
  have hl : lv_has ls 9 [(0, .ref q0), (1, .int p0), (2, .int p1), (3, .int p2), (4, .int p3), (5, .int p4)] := hl
  refine lv_aload_n hx hb dX8_copy_0 rfl (lv_at hl 0 rfl) ?_
  refine lv_iload_n hx hb dX8_copy_1 rfl (lv_at hl 1 rfl) ?_
  refine lv_iload_n hx hb dX8_copy_2 rfl (lv_at hl 2 rfl) ?_
  refine yVri (As := [.int p0, .int p1]) (rest := []) C0 (g_X8_dayReason l G S d q0 p0 p1 hSh hm_q0 hk_q0) ok_X8_dayReason (mW442 : Cond.methodLink RX8 149 yX8_dayReason ∈ wsT) ⟨Nat.le_of_ble_eq_true rfl, Nat.le_of_ble_eq_true rfl⟩ hP hD hK hN hm_q0 hk_q0 (by decide) rfl rfl rfl hl.1 rfl (Nat.le_of_ble_eq_true rfl) ⟨Nat.le_of_ble_eq_true rfl, Nat.le_of_ble_eq_true rfl⟩ dX8_copy_3 (fun r_1 hr_1 => ?_)
  refine lv_aload_n hx hb dX8_copy_6 rfl (lv_at hl 0 rfl) ?_
  refine lv_iload_n hx hb dX8_copy_7 rfl (lv_at hl 3 rfl) ?_
  refine lv_iload hx hb dX8_copy_8 (lv_at hl 4 rfl) ?_
  refine yVri (As := [.int p2, .int p3]) (rest := [.int r_1]) C0 (g_X8_dayReason l G S d q0 p2 p3 hSh hm_q0 hk_q0) ok_X8_dayReason (mW442 : Cond.methodLink RX8 149 yX8_dayReason ∈ wsT) ⟨Nat.le_of_ble_eq_true rfl, Nat.le_of_ble_eq_true rfl⟩ hP hD hK hN hm_q0 hk_q0 (by decide) rfl rfl rfl hl.1 rfl (Nat.le_of_ble_eq_true rfl) ⟨Nat.le_of_ble_eq_true rfl, Nat.le_of_ble_eq_true rfl⟩ dX8_copy_10 (fun r_2 hr_2 => ?_)
  refine ySri (As := [.int r_1, .int r_2]) (rest := []) C0 (g_X8_least l G S d r_1 r_2 ) ok_X8_least (mW199 : Cond.methodLink RX8 58 yX8_least ∈ wsT) ⟨Nat.le_of_ble_eq_true rfl, Nat.le_of_ble_eq_true rfl⟩ hP hD hK hN rfl hl.1 rfl (Nat.le_of_ble_eq_true rfl) ⟨Nat.le_of_ble_eq_true rfl, Nat.le_of_ble_eq_true rfl⟩ dX8_copy_13 (fun r_3 hr_3 => ?_)
  refine lv_istore (lv' := [(6, .int r_3), (0, .ref q0), (1, .int p0), (2, .int p1), (3, .int p2), (4, .int p3), (5, .int p4)]) hx hb dX8_copy_16 hl (by decide) rfl (fun ls hl => ?_)
  refine lv_iload hx hb dX8_copy_18 (lv_at hl 0 rfl) ?_
  refine lv_iload hx hb dX8_copy_20 (lv_at hl 6 rfl) ?_
  refine lv_iconst (v := 0) hx hb dX8_copy_22 (by decide) ?_
  refine lv_bipush (v := 90) hx hb dX8_copy_23 (by decide) ?_
  refine ySri (As := [.int p4, .int 0, .int 90]) (rest := [.int r_3]) C0 (g_X8_within l G S d p4 0 90 ) ok_X8_within (mW193 : Cond.methodLink RX8 71 yX8_within ∈ wsT) ⟨Nat.le_of_ble_eq_true rfl, Nat.le_of_ble_eq_true rfl⟩ hP hD hK hN rfl hl.1 rfl (Nat.le_of_ble_eq_true rfl) ⟨Nat.le_of_ble_eq_true rfl, Nat.le_of_ble_eq_true rfl⟩ dX8_copy_25 (fun r_4 hr_4 => ?_)
  refine ySri (As := [.int r_4]) (rest := [.int r_3]) C0 (g_X8_number l G S d r_4 ) ok_X8_number (mW196 : Cond.methodLink RX8 54 yX8_number ∈ wsT) ⟨Nat.le_of_ble_eq_true rfl, Nat.le_of_ble_eq_true rfl⟩ hP hD hK hN rfl hl.1 rfl (Nat.le_of_ble_eq_true rfl) ⟨Nat.le_of_ble_eq_true rfl, Nat.le_of_ble_eq_true rfl⟩ dX8_copy_28 (fun r_5 hr_5 => ?_)
  refine ySri (As := [.int r_3, .int r_5]) (rest := []) C0 (g_X8_least l G S d r_3 r_5 ) ok_X8_least (mW199 : Cond.methodLink RX8 58 yX8_least ∈ wsT) ⟨Nat.le_of_ble_eq_true rfl, Nat.le_of_ble_eq_true rfl⟩ hP hD hK hN rfl hl.1 rfl (Nat.le_of_ble_eq_true rfl) ⟨Nat.le_of_ble_eq_true rfl, Nat.le_of_ble_eq_true rfl⟩ dX8_copy_31 (fun r_6 hr_6 => ?_)
  refine lv_istore (lv' := [(6, .int r_6), (0, .ref q0), (1, .int p0), (2, .int p1), (3, .int p2), (4, .int p3), (5, .int p4)]) hx hb dX8_copy_34 hl (by decide) rfl (fun ls hl => ?_)
  refine lv_iload hx hb dX8_copy_36 (lv_at hl 0 rfl) ?_
  refine lv_if_eq (tgt := 50) hx hb dX8_copy_38 (by decide) (fun c_7 => ?_) (fun c_7 => ?_)
  · refine lv_aload_n hx hb dX8_copy_50 rfl (lv_at hl 1 rfl) ?_
    refine yget (ci := 8) (k := 0) (v := .ref (S.2.2.1 q0 0)) (C := RX8) (T := TX8) (N := 6) C0 hK hP hm_q0 hk_q0 (by decide) rfl inlX8 (by decide) mW16 (fun _ h9 => h9) rfl dX8_copy_51 ?_
    obtain ⟨hmy_8, hky_8⟩ := ySh.f8_0 hSh _ hm_q0 hk_q0
    refine lv_iload_n hx hb dX8_copy_54 rfl (lv_at hl 2 rfl) ?_
    refine yVrr (As := [.int p0]) (rest := []) C0 (g_X0_portAt l G S d (S.2.2.1 q0 0) p0 hSh hmy_8 hky_8) ok_X0_portAt (mW337 : Cond.methodLink RX8 114 yX0_portAt ∈ wsT) ⟨Nat.le_of_ble_eq_true rfl, Nat.le_of_ble_eq_true rfl⟩ hP hD hK hN hmy_8 hky_8 (by decide) rfl rfl rfl hl.1 rfl (Nat.le_of_ble_eq_true rfl) ⟨Nat.le_of_ble_eq_true rfl, Nat.le_of_ble_eq_true rfl⟩ dX8_copy_55 (fun r_9 hr_9 => ?_)
    obtain ⟨hmr_9, hkr_9, her_9⟩ := hr_9
    refine yget (ci := 4) (k := 2) (v := .int (d.1 r_9 2)) (C := RX4) (T := TX4) (N := 11) C0 hK hP hmr_9 hkr_9 (by decide) rfl inlX4 (by decide) mW378 (fun _ h9 => h9) rfl dX8_copy_58 ?_
    refine lv_topi (fun z_10 ez_10 => ?_)
    refine lv_iload_n hx hb dX8_copy_61 rfl (lv_at hl 3 rfl) ?_
    refine lv_isub hx hb dX8_copy_62 ?_
    refine lv_topi (fun z_11 ez_11 => ?_)
    refine lv_aload_n hx hb dX8_copy_63 rfl (lv_at hl 1 rfl) ?_
    refine yget (ci := 8) (k := 0) (v := .ref (S.2.2.1 q0 0)) (C := RX8) (T := TX8) (N := 6) C0 hK hP hm_q0 hk_q0 (by decide) rfl inlX8 (by decide) mW16 (fun _ h9 => h9) rfl dX8_copy_64 ?_
    refine lv_iload_n hx hb dX8_copy_67 rfl (lv_at hl 4 rfl) ?_
    refine yVrr (As := [.int p2]) (rest := [.int z_11]) C0 (g_X0_portAt l G S d (S.2.2.1 q0 0) p2 hSh hmy_8 hky_8) ok_X0_portAt (mW337 : Cond.methodLink RX8 114 yX0_portAt ∈ wsT) ⟨Nat.le_of_ble_eq_true rfl, Nat.le_of_ble_eq_true rfl⟩ hP hD hK hN hmy_8 hky_8 (by decide) rfl rfl rfl hl.1 rfl (Nat.le_of_ble_eq_true rfl) ⟨Nat.le_of_ble_eq_true rfl, Nat.le_of_ble_eq_true rfl⟩ dX8_copy_68 (fun r_12 hr_12 => ?_)
    obtain ⟨hmr_12, hkr_12, her_12⟩ := hr_12
    refine yget (ci := 4) (k := 2) (v := .int (d.1 r_12 2)) (C := RX4) (T := TX4) (N := 11) C0 hK hP hmr_12 hkr_12 (by decide) rfl inlX4 (by decide) mW378 (fun _ h9 => h9) rfl dX8_copy_71 ?_
    refine lv_topi (fun z_13 ez_13 => ?_)
    refine lv_iload hx hb dX8_copy_74 (lv_at hl 5 rfl) ?_
    refine lv_isub hx hb dX8_copy_76 ?_
    refine lv_topi (fun z_14 ez_14 => ?_)
    refine va_mmin hx hb (by rw [hml]; exact hl.1.symm) hown (htl (.methodLink RX8 162 Lib.Math.min.name) mW202) (htl (.static Lib.Math.min.name) mW203) (htl (.initialized "java/lang/Math") mW204) (htl (.code Lib.Math.min.name Lib.Math.min.code 2 (some .int)) mW205) (Nat.le_of_ble_eq_true rfl) (Nat.le_of_ble_eq_true rfl) (Nat.le_of_ble_eq_true rfl) (Nat.le_of_ble_eq_true rfl) dX8_copy_77 ?_
    refine lv_topi (fun z_15 ez_15 => ?_)
    refine lv_istore (lv' := [(7, .int z_15), (6, .int r_6), (0, .ref q0), (1, .int p0), (2, .int p1), (3, .int p2), (4, .int p3), (5, .int p4)]) hx hb dX8_copy_80 hl (by decide) rfl (fun ls hl => ?_)
    refine lv_aload_n hx hb dX8_copy_82 rfl (lv_at hl 2 rfl) ?_
    refine lv_iload_n hx hb dX8_copy_83 rfl (lv_at hl 3 rfl) ?_
    refine lv_iload_n hx hb dX8_copy_84 rfl (lv_at hl 4 rfl) ?_
    refine lv_iload_n hx hb dX8_copy_85 rfl (lv_at hl 5 rfl) ?_
    refine lv_iload hx hb dX8_copy_86 (lv_at hl 6 rfl) ?_
    refine lv_iload hx hb dX8_copy_88 (lv_at hl 7 rfl) ?_
    refine lv_iload hx hb dX8_copy_90 (lv_at hl 0 rfl) ?_
    refine va_mmin hx hb (by rw [hml]; exact hl.1.symm) hown (htl (.methodLink RX8 162 Lib.Math.min.name) mW202) (htl (.static Lib.Math.min.name) mW203) (htl (.initialized "java/lang/Math") mW204) (htl (.code Lib.Math.min.name Lib.Math.min.code 2 (some .int)) mW205) (Nat.le_of_ble_eq_true rfl) (Nat.le_of_ble_eq_true rfl) (Nat.le_of_ble_eq_true rfl) (Nat.le_of_ble_eq_true rfl) dX8_copy_92 ?_
    refine lv_topi (fun z_16 ez_16 => ?_)
    refine yVri (As := [.int p0, .int p1, .int p2, .int p3, .int z_16]) (rest := []) C0 (g_X8_daysThatFit l G S d q0 p0 p1 p2 p3 z_16 hSh hm_q0 hk_q0) ok_X8_daysThatFit (mW470 : Cond.methodLink RX8 170 yX8_daysThatFit ∈ wsT) ⟨Nat.le_of_ble_eq_true rfl, Nat.le_of_ble_eq_true rfl⟩ hP hD hK hN hm_q0 hk_q0 (by decide) rfl rfl rfl hl.1 rfl (Nat.le_of_ble_eq_true rfl) ⟨Nat.le_of_ble_eq_true rfl, Nat.le_of_ble_eq_true rfl⟩ dX8_copy_95 (fun r_17 hr_17 => ?_)
    refine lv_istore (lv' := [(8, .int r_17), (7, .int z_15), (6, .int r_6), (0, .ref q0), (1, .int p0), (2, .int p1), (3, .int p2), (4, .int p3), (5, .int p4)]) hx hb dX8_copy_98 hl (by decide) rfl (fun ls hl => ?_)
    refine lv_aload_n hx hb dX8_copy_100 rfl (lv_at hl 3 rfl) ?_
    refine lv_iload hx hb dX8_copy_101 (lv_at hl 0 rfl) ?_
    refine lv_iload hx hb dX8_copy_103 (lv_at hl 8 rfl) ?_
    refine yjoinR (σ := Int32) 124 (fun x ls st => st = [.int x, .ref q0] ∧ lv_has ls 9 [(8, .int r_17), (0, .ref q0), (1, .int p0), (2, .int p1), (3, .int p2), (4, .int p3)]) (fun x ls st hI => ?_) (fun J124_18 => ?_)
    · obtain ⟨v_18, rfl⟩ : ∃ z, z = x := ⟨_, rfl⟩
      obtain ⟨rfl, hl⟩ := hI
      have hl : lv_has ls 9 [(8, .int r_17), (0, .ref q0), (1, .int p0), (2, .int p1), (3, .int p2), (4, .int p3)] := hl
      refine yVwi (As := [.int v_18]) (rest := []) C0 (g_X8_refused l G S d q0 v_18 hSh hPo hm_q0 hk_q0) ok_X8_refused (mW160 : Cond.methodLink RX8 42 yX8_refused ∈ wsT) ⟨Nat.le_of_ble_eq_true rfl, Nat.le_of_ble_eq_true rfl⟩ hP hD hS hA hK hN hm_q0 hk_q0 (by decide) rfl rfl rfl hl.1 rfl (Nat.le_of_ble_eq_true rfl) ⟨Nat.le_of_ble_eq_true rfl, Nat.le_of_ble_eq_true rfl⟩ dX8_copy_124 (fun r_19 d_20 H locs hr_19 hP hD hS => ?_)
      obtain ⟨hgad_20, hpad_20, hxd_20⟩ := hr_19
      have hgd_20 : yAg S [2, 8, 16, 17, 20, 24] d d_20 := yAg.tr hg0 hgad_20 (by first | decide | exact fun _ h => h)
      have hPod_20 : yPo S d_20 := hpad_20 hPo
      refine lv_pop hx hb dX8_copy_127 rfl ?_
      refine lv_aload_n hx hb dX8_copy_128 rfl (lv_at hl 1 rfl) ?_
      refine yget (ci := 8) (k := 0) (v := .ref (S.2.2.1 q0 0)) (C := RX8) (T := TX8) (N := 6) C0 hK hP hm_q0 hk_q0 (by decide) rfl inlX8 (by decide) mW16 (fun _ h9 => h9) rfl dX8_copy_129 ?_
      refine yget (ci := 0) (k := 1) (v := .ref (S.2.2.1 (S.2.2.1 q0 0) 1)) (C := RX0) (T := TX0) (N := 6) C0 hK hP hmy_8 hky_8 (by decide) rfl inlX0 (by decide) mW316 (fun _ h9 => h9) rfl dX8_copy_132 ?_
      obtain ⟨hmy_21, hky_21⟩ := ySh.f0_1 hSh _ hmy_8 hky_8
      refine lv_iload_n hx hb dX8_copy_135 rfl (lv_at hl 4 rfl) ?_
      refine lv_iload hx hb dX8_copy_136 (lv_at hl 5 rfl) ?_
      refine lv_sipush (v := 1440) hx hb dX8_copy_138 (by decide) ?_
      refine lv_imul hx hb dX8_copy_141 ?_
      refine lv_topi (fun z_22 ez_22 => ?_)
      refine lv_iload_n hx hb dX8_copy_142 rfl (lv_at hl 2 rfl) ?_
      refine lv_iload_n hx hb dX8_copy_143 rfl (lv_at hl 3 rfl) ?_
      refine lv_sipush (v := 1440) hx hb dX8_copy_144 (by decide) ?_
      refine lv_imul hx hb dX8_copy_147 ?_
      refine lv_topi (fun z_23 ez_23 => ?_)
      refine lv_iload hx hb dX8_copy_148 (lv_at hl 0 rfl) ?_
      refine lv_sipush (v := 1440) hx hb dX8_copy_150 (by decide) ?_
      refine lv_imul hx hb dX8_copy_153 ?_
      refine lv_topi (fun z_24 ez_24 => ?_)
      refine yVwv (As := [.int p2, .int z_22, .int p0, .int z_23, .int z_24]) (rest := []) C0 (g_X2_copyRange l G S d_20 (S.2.2.1 (S.2.2.1 q0 0) 1) p2 z_22 p0 z_23 z_24 hSh hPod_20 hmy_21 hky_21) ok_X2_copyRange (mW478 : Cond.methodLink RX8 174 yX2_copyRange ∈ wsT) ⟨Nat.le_of_ble_eq_true rfl, Nat.le_of_ble_eq_true rfl⟩ hP hD hS hA hK hN hmy_21 hky_21 (by decide) rfl rfl rfl hl.1 rfl (Nat.le_of_ble_eq_true rfl) ⟨Nat.le_of_ble_eq_true rfl, Nat.le_of_ble_eq_true rfl⟩ dX8_copy_154 (fun d_26 H locs hr_25 hP hD hS => ?_)
      obtain ⟨hgad_26, hpad_26, hxd_26⟩ := hr_25
      have hgd_26 : yAg S [2, 8, 16, 17, 20, 24] d d_26 := yAg.tr hgd_20 hgad_26 (by first | decide | exact fun _ h => h)
      have hPod_26 : yPo S d_26 := hpad_26 hPod_20
      refine lv_aload_n hx hb dX8_copy_157 rfl (lv_at hl 1 rfl) ?_
      refine yget (ci := 8) (k := 0) (v := .ref (S.2.2.1 q0 0)) (C := RX8) (T := TX8) (N := 6) C0 hK hP hm_q0 hk_q0 (by decide) rfl inlX8 (by decide) mW16 (fun _ h9 => h9) rfl dX8_copy_158 ?_
      refine lv_iload_n hx hb dX8_copy_161 rfl (lv_at hl 4 rfl) ?_
      refine yVrr (As := [.int p2]) (rest := []) C0 (g_X0_portAt l G S d_26 (S.2.2.1 q0 0) p2 hSh hmy_8 hky_8) ok_X0_portAt (mW337 : Cond.methodLink RX8 114 yX0_portAt ∈ wsT) ⟨Nat.le_of_ble_eq_true rfl, Nat.le_of_ble_eq_true rfl⟩ hP hD hK hN hmy_8 hky_8 (by decide) rfl rfl rfl hl.1 rfl (Nat.le_of_ble_eq_true rfl) ⟨Nat.le_of_ble_eq_true rfl, Nat.le_of_ble_eq_true rfl⟩ dX8_copy_162 (fun r_27 hr_27 => ?_)
      obtain ⟨hmr_27, hkr_27, her_27⟩ := hr_27
      refine yget (ci := 4) (k := 0) (v := .ref (S.2.2.1 r_27 0)) (C := RX4) (T := TX4) (N := 11) C0 hK hP hmr_27 hkr_27 (by decide) rfl inlX4 (by decide) mW441 (fun _ h9 => h9) rfl dX8_copy_165 ?_
      obtain ⟨hmy_28, hky_28⟩ := ySh.f4_0 hSh _ hmr_27 hkr_27
      refine lv_iload hx hb dX8_copy_168 (lv_at hl 5 rfl) ?_
      refine lv_aload_n hx hb dX8_copy_170 rfl (lv_at hl 1 rfl) ?_
      refine yget (ci := 8) (k := 0) (v := .ref (S.2.2.1 q0 0)) (C := RX8) (T := TX8) (N := 6) C0 hK hP hm_q0 hk_q0 (by decide) rfl inlX8 (by decide) mW16 (fun _ h9 => h9) rfl dX8_copy_171 ?_
      refine lv_iload_n hx hb dX8_copy_174 rfl (lv_at hl 2 rfl) ?_
      refine yVrr (As := [.int p0]) (rest := [.int p3, .ref (S.2.2.1 r_27 0)]) C0 (g_X0_portAt l G S d_26 (S.2.2.1 q0 0) p0 hSh hmy_8 hky_8) ok_X0_portAt (mW337 : Cond.methodLink RX8 114 yX0_portAt ∈ wsT) ⟨Nat.le_of_ble_eq_true rfl, Nat.le_of_ble_eq_true rfl⟩ hP hD hK hN hmy_8 hky_8 (by decide) rfl rfl rfl hl.1 rfl (Nat.le_of_ble_eq_true rfl) ⟨Nat.le_of_ble_eq_true rfl, Nat.le_of_ble_eq_true rfl⟩ dX8_copy_175 (fun r_29 hr_29 => ?_)
      obtain ⟨hmr_29, hkr_29, her_29⟩ := hr_29
      refine yget (ci := 4) (k := 0) (v := .ref (S.2.2.1 r_29 0)) (C := RX4) (T := TX4) (N := 11) C0 hK hP hmr_29 hkr_29 (by decide) rfl inlX4 (by decide) mW441 (fun _ h9 => h9) rfl dX8_copy_178 ?_
      obtain ⟨hmy_30, hky_30⟩ := ySh.f4_0 hSh _ hmr_29 hkr_29
      refine lv_iload_n hx hb dX8_copy_181 rfl (lv_at hl 3 rfl) ?_
      refine lv_iload hx hb dX8_copy_182 (lv_at hl 0 rfl) ?_
      refine ySwv (As := [.ref (S.2.2.1 r_27 0), .int p3, .ref (S.2.2.1 r_29 0), .int p1, .int r_17]) (rest := []) C0 (g_X8_slide l G S d_26 (S.2.2.1 r_27 0) 20 p3 (S.2.2.1 r_29 0) 20 p1 r_17 hPod_26 hmy_28 hky_28 hmy_30 hky_30 (by decide) rfl rfl (by decide) (by decide) rfl rfl (by decide)) ok_X8_slide (mW484 : Cond.methodLink RX8 177 yX8_slide ∈ wsT) ⟨Nat.le_of_ble_eq_true rfl, Nat.le_of_ble_eq_true rfl⟩ hP hD hS hA hK hN rfl hl.1 rfl (Nat.le_of_ble_eq_true rfl) ⟨Nat.le_of_ble_eq_true rfl, Nat.le_of_ble_eq_true rfl⟩ dX8_copy_184 (fun d_32 H locs hr_31 hP hD hS => ?_)
      obtain ⟨hgad_32, hpad_32, hxd_32⟩ := hr_31
      have hgd_32 : yAg S [2, 8, 16, 17, 20, 24] d d_32 := yAg.tr hgd_26 hgad_32 (by first | decide | exact fun _ h => h)
      have hPod_32 : yPo S d_32 := hpad_32 hPod_26
      refine lv_iload hx hb dX8_copy_187 (lv_at hl 0 rfl) ?_
      exact W.iret (v := r_17) hx hb hr (fun t ht hW => ⟨⟨r_17, d_32, rfl, ⟨hgd_32, (fun _ => hPod_32), ((congrFun (hgad_32 q0 (by rw [hk_q0]; decide)).1 4).trans ((congrFun (hgad_26 q0 (by rw [hk_q0]; decide)).1 4).trans (hxd_20.2)))⟩, by rw [ht]; exact hP, hD⟩, hS.F ht⟩) hS.2.2 dX8_copy_189
    refine lv_icmp_ne (tgt := 112) hx hb dX8_copy_105 (by decide) (fun c_33 => ?_) (fun c_33 => ?_)
    · refine lv_iload hx hb dX8_copy_112 (lv_at hl 0 rfl) ?_
      refine lv_iload hx hb dX8_copy_114 (lv_at hl 1 rfl) ?_
      refine lv_icmp_ne (tgt := 123) hx hb dX8_copy_116 (by decide) (fun c_34 => ?_) (fun c_34 => ?_)
      · refine lv_iconst (v := 5) hx hb dX8_copy_123 (by decide) ?_
        exact J124_18 5 ls _ ⟨rfl, lv_sub hl [0, 3, 4, 5, 6, 7] rfl⟩
      · refine lv_iconst (v := 4) hx hb dX8_copy_119 (by decide) ?_
        refine lv_goto (tgt := 124) hx hb dX8_copy_120 (by decide) ?_
        exact J124_18 4 ls _ ⟨rfl, lv_sub hl [0, 3, 4, 5, 6, 7] rfl⟩
    · refine lv_iconst (v := 0) hx hb dX8_copy_108 (by decide) ?_
      refine lv_goto (tgt := 124) hx hb dX8_copy_109 (by decide) ?_
      exact J124_18 0 ls _ ⟨rfl, lv_sub hl [0, 3, 4, 5, 6, 7] rfl⟩
  · refine lv_aload_n hx hb dX8_copy_41 rfl (lv_at hl 1 rfl) ?_
    refine lv_iload hx hb dX8_copy_42 (lv_at hl 0 rfl) ?_
    refine yVwi (As := [.int r_6]) (rest := []) C0 (g_X8_refused l G S d q0 r_6 hSh hPo hm_q0 hk_q0) ok_X8_refused (mW160 : Cond.methodLink RX8 42 yX8_refused ∈ wsT) ⟨Nat.le_of_ble_eq_true rfl, Nat.le_of_ble_eq_true rfl⟩ hP hD hS hA hK hN hm_q0 hk_q0 (by decide) rfl rfl rfl hl.1 rfl (Nat.le_of_ble_eq_true rfl) ⟨Nat.le_of_ble_eq_true rfl, Nat.le_of_ble_eq_true rfl⟩ dX8_copy_44 (fun r_35 d_36 H locs hr_35 hP hD hS => ?_)
    obtain ⟨hgad_36, hpad_36, hxd_36⟩ := hr_35
    have hgd_36 : yAg S [2, 8, 16, 17, 20, 24] d d_36 := yAg.tr hg0 hgad_36 (by first | decide | exact fun _ h => h)
    have hPod_36 : yPo S d_36 := hpad_36 hPo
    refine lv_pop hx hb dX8_copy_47 rfl ?_
    refine lv_iconst (v := (-1)) hx hb dX8_copy_48 (by decide) ?_
    exact W.iret (v := (-1)) hx hb hr (fun t ht hW => ⟨⟨(-1), d_36, rfl, ⟨hgd_36, (fun _ => hPod_36), (hxd_36.2)⟩, by rw [ht]; exact hP, hD⟩, hS.F ht⟩) hS.2.2 dX8_copy_49
theorem dX8_free_0 : decode cX8_free 0 = .ok (.aload_n 0, 1) := by decide +kernel
theorem dX8_free_1 : decode cX8_free 1 = .ok (.aload_n 0, 1) := by decide +kernel
theorem dX8_free_2 : decode cX8_free 2 = .ok (.iload_n 1, 1) := by decide +kernel
theorem dX8_free_3 : decode cX8_free 3 = .ok (.iload_n 2, 1) := by decide +kernel
theorem dX8_free_4 : decode cX8_free 4 = .ok (.invokevirtual 159, 3) := by decide +kernel
theorem dX8_free_7 : decode cX8_free 7 = .ok (.invokevirtual 42, 3) := by decide +kernel
theorem dX8_free_10 : decode cX8_free 10 = .ok (.ifCond .eq 5, 3) := by decide +kernel
theorem dX8_free_13 : decode cX8_free 13 = .ok (.iconst 0, 1) := by decide +kernel
theorem dX8_free_14 : decode cX8_free 14 = .ok (.ireturn, 1) := by decide +kernel
theorem dX8_free_15 : decode cX8_free 15 = .ok (.aload_n 0, 1) := by decide +kernel
theorem dX8_free_16 : decode cX8_free 16 = .ok (.getfield 12, 3) := by decide +kernel
theorem dX8_free_19 : decode cX8_free 19 = .ok (.iload_n 1, 1) := by decide +kernel
theorem dX8_free_20 : decode cX8_free 20 = .ok (.invokevirtual 114, 3) := by decide +kernel
theorem dX8_free_23 : decode cX8_free 23 = .ok (.getfield 181, 3) := by decide +kernel
theorem dX8_free_26 : decode cX8_free 26 = .ok (.iload_n 2, 1) := by decide +kernel
theorem dX8_free_27 : decode cX8_free 27 = .ok (.invokestatic 78, 3) := by decide +kernel
theorem dX8_free_30 : decode cX8_free 30 = .ok (.iconst 1, 1) := by decide +kernel
theorem dX8_free_31 : decode cX8_free 31 = .ok (.if_icmp .ne 7, 3) := by decide +kernel
theorem dX8_free_34 : decode cX8_free 34 = .ok (.iconst 1, 1) := by decide +kernel
theorem dX8_free_35 : decode cX8_free 35 = .ok (.goto 4, 3) := by decide +kernel
theorem dX8_free_38 : decode cX8_free 38 = .ok (.iconst 0, 1) := by decide +kernel
theorem dX8_free_39 : decode cX8_free 39 = .ok (.istore 4, 2) := by decide +kernel
theorem dX8_free_41 : decode cX8_free 41 = .ok (.aload_n 0, 1) := by decide +kernel
theorem dX8_free_42 : decode cX8_free 42 = .ok (.getfield 12, 3) := by decide +kernel
theorem dX8_free_45 : decode cX8_free 45 = .ok (.iload_n 1, 1) := by decide +kernel
theorem dX8_free_46 : decode cX8_free 46 = .ok (.invokevirtual 114, 3) := by decide +kernel
theorem dX8_free_49 : decode cX8_free 49 = .ok (.getfield 181, 3) := by decide +kernel
theorem dX8_free_52 : decode cX8_free 52 = .ok (.iload_n 2, 1) := by decide +kernel
theorem dX8_free_53 : decode cX8_free 53 = .ok (.iload_n 3, 1) := by decide +kernel
theorem dX8_free_54 : decode cX8_free 54 = .ok (.ifCond .eq 7, 3) := by decide +kernel
theorem dX8_free_57 : decode cX8_free 57 = .ok (.iconst 1, 1) := by decide +kernel
theorem dX8_free_58 : decode cX8_free 58 = .ok (.goto 4, 3) := by decide +kernel
theorem dX8_free_61 : decode cX8_free 61 = .ok (.iconst 0, 1) := by decide +kernel
theorem dX8_free_62 : decode cX8_free 62 = .ok (.invokestatic 82, 3) := by decide +kernel
theorem dX8_free_65 : decode cX8_free 65 = .ok (.iload 4, 2) := by decide +kernel
theorem dX8_free_67 : decode cX8_free 67 = .ok (.ireturn, 1) := by decide +kernel
set_option maxHeartbeats 4000000 in
set_option maxRecDepth 100000 in
theorem g_X8_free (l : Launch) (G : xG) (S : yS) (d : yD) (q0 : Nat) (p0 : Int32) (p1 : Int32) (p2 : Int32) (hSh : ySh S) (hPo : yPo S d) (hm_q0 : q0 ∈ S.1) (hk_q0 : S.2.1 q0 = 8) (hz_p2 : p2 = 0 ∨ p2 = 1) : xWi l G yX8_free cX8_free 5 (some .boolean) 4 89 0 0 [.ref q0, .int p0, .int p1, .int p2] (yW G S d) (fun r (u : yD) => yAg S [8, 21, 24] d u ∧ (yPo S d → yPo S u) ∧ (u.1 q0 4 = d.1 q0 4)) (fun u => yW G S u) := by
  intro sz
  refine xstart (by decide) (Nat.le_of_ble_eq_true rfl) (fun p e s m args below meth c ls C0 hr hlocks hin hsz hP hK hD hN hl => ?_)
  obtain ⟨hx, hb, hml, hown, htl⟩ := id C0
  subst hsz
  have hD := hD.self (sz := s.heap.size)
  generalize hAe : va_A (yW G S d) s.heap.size = A at hD ⊢
  have hA : ∀ q : Nat, s.heap.size ≤ q → A q := fun q h => by rw [← hAe]; exact Or.inr h
  have hS : va_S A s.heap s.heap [] := va_S.rf
  have hg0 : yAg S [8, 21, 24] d d := yAg.rf
  have hl : lv_has ls 5 [(0, .ref q0), (1, .int p0), (2, .int p1), (3, .int p2)] := hl
  refine lv_aload_n hx hb dX8_free_0 rfl (lv_at hl 0 rfl) ?_
  refine lv_aload_n hx hb dX8_free_1 rfl (lv_at hl 0 rfl) ?_
  refine lv_iload_n hx hb dX8_free_2 rfl (lv_at hl 1 rfl) ?_
  refine lv_iload_n hx hb dX8_free_3 rfl (lv_at hl 2 rfl) ?_
  refine yVri (As := [.int p0, .int p1]) (rest := [.ref q0]) C0 (g_X8_thereReason l G S d q0 p0 p1 hSh hm_q0 hk_q0) ok_X8_thereReason (mW458 : Cond.methodLink RX8 159 yX8_thereReason ∈ wsT) ⟨Nat.le_of_ble_eq_true rfl, Nat.le_of_ble_eq_true rfl⟩ hP hD hK hN hm_q0 hk_q0 (by decide) rfl rfl rfl hl.1 rfl (Nat.le_of_ble_eq_true rfl) ⟨Nat.le_of_ble_eq_true rfl, Nat.le_of_ble_eq_true rfl⟩ dX8_free_4 (fun r_1 hr_1 => ?_)
  refine yVwi (As := [.int r_1]) (rest := []) C0 (g_X8_refused l G S d q0 r_1 hSh hPo hm_q0 hk_q0) ok_X8_refused (mW160 : Cond.methodLink RX8 42 yX8_refused ∈ wsT) ⟨Nat.le_of_ble_eq_true rfl, Nat.le_of_ble_eq_true rfl⟩ hP hD hS hA hK hN hm_q0 hk_q0 (by decide) rfl rfl rfl hl.1 rfl (Nat.le_of_ble_eq_true rfl) ⟨Nat.le_of_ble_eq_true rfl, Nat.le_of_ble_eq_true rfl⟩ dX8_free_7 (fun r_2 d_3 H locs hr_2 hP hD hS => ?_)
  obtain ⟨hgad_3, hpad_3, hxd_3⟩ := hr_2
  have hgd_3 : yAg S [8, 21, 24] d d_3 := yAg.tr hg0 hgad_3 (by first | decide | exact fun _ h => h)
  have hPod_3 : yPo S d_3 := hpad_3 hPo
  refine lv_if_eq (tgt := 15) hx hb dX8_free_10 (by decide) (fun c_4 => ?_) (fun c_4 => ?_)
  · refine lv_aload_n hx hb dX8_free_15 rfl (lv_at hl 0 rfl) ?_
    refine yget (ci := 8) (k := 0) (v := .ref (S.2.2.1 q0 0)) (C := RX8) (T := TX8) (N := 6) C0 hK hP hm_q0 hk_q0 (by decide) rfl inlX8 (by decide) mW16 (fun _ h9 => h9) rfl dX8_free_16 ?_
    obtain ⟨hmy_5, hky_5⟩ := ySh.f8_0 hSh _ hm_q0 hk_q0
    refine lv_iload_n hx hb dX8_free_19 rfl (lv_at hl 1 rfl) ?_
    refine yVrr (As := [.int p0]) (rest := []) C0 (g_X0_portAt l G S d_3 (S.2.2.1 q0 0) p0 hSh hmy_5 hky_5) ok_X0_portAt (mW337 : Cond.methodLink RX8 114 yX0_portAt ∈ wsT) ⟨Nat.le_of_ble_eq_true rfl, Nat.le_of_ble_eq_true rfl⟩ hP hD hK hN hmy_5 hky_5 (by decide) rfl rfl rfl hl.1 rfl (Nat.le_of_ble_eq_true rfl) ⟨Nat.le_of_ble_eq_true rfl, Nat.le_of_ble_eq_true rfl⟩ dX8_free_20 (fun r_6 hr_6 => ?_)
    obtain ⟨hmr_6, hkr_6, her_6⟩ := hr_6
    refine yget (ci := 4) (k := 1) (v := .ref (S.2.2.1 r_6 1)) (C := RX4) (T := TX4) (N := 11) C0 hK hP hmr_6 hkr_6 (by decide) rfl inlX4 (by decide) mW497 (fun _ h9 => h9) rfl dX8_free_23 ?_
    obtain ⟨hmy_7, hky_7⟩ := ySh.f4_1 hSh _ hmr_6 hkr_6
    refine lv_iload_n hx hb dX8_free_26 rfl (lv_at hl 2 rfl) ?_
    refine ySri (As := [.ref (S.2.2.1 r_6 1), .int p1]) (rest := []) C0 (g_X8_at l G S d_3 (S.2.2.1 r_6 1) 21 p1 hmy_7 hky_7 (by decide) rfl rfl (by decide)) ok_X8_at (mW165 : Cond.methodLink RX8 78 yX8_at ∈ wsT) ⟨Nat.le_of_ble_eq_true rfl, Nat.le_of_ble_eq_true rfl⟩ hP hD hK hN rfl hl.1 rfl (Nat.le_of_ble_eq_true rfl) ⟨Nat.le_of_ble_eq_true rfl, Nat.le_of_ble_eq_true rfl⟩ dX8_free_27 (fun r_8 hr_8 => ?_)
    refine lv_iconst (v := 1) hx hb dX8_free_30 (by decide) ?_
    refine yjoinR (σ := Int32) 39 (fun x ls st => st = [.int x] ∧ lv_has ls 5 [(0, .ref q0), (1, .int p0), (2, .int p1), (3, .int p2)] ∧ (x = 0 ∨ x = 1)) (fun x ls st hI => ?_) (fun J39_9 => ?_)
    · obtain ⟨v_9, rfl⟩ : ∃ z, z = x := ⟨_, rfl⟩
      obtain ⟨rfl, hl, hzv_9⟩ := hI
      have hl : lv_has ls 5 [(0, .ref q0), (1, .int p0), (2, .int p1), (3, .int p2)] := hl
      refine lv_istore (lv' := [(4, .int v_9), (0, .ref q0), (1, .int p0), (2, .int p1), (3, .int p2)]) hx hb dX8_free_39 hl (by decide) rfl (fun ls hl => ?_)
      refine lv_aload_n hx hb dX8_free_41 rfl (lv_at hl 1 rfl) ?_
      refine yget (ci := 8) (k := 0) (v := .ref (S.2.2.1 q0 0)) (C := RX8) (T := TX8) (N := 6) C0 hK hP hm_q0 hk_q0 (by decide) rfl inlX8 (by decide) mW16 (fun _ h9 => h9) rfl dX8_free_42 ?_
      refine lv_iload_n hx hb dX8_free_45 rfl (lv_at hl 2 rfl) ?_
      refine yVrr (As := [.int p0]) (rest := []) C0 (g_X0_portAt l G S d_3 (S.2.2.1 q0 0) p0 hSh hmy_5 hky_5) ok_X0_portAt (mW337 : Cond.methodLink RX8 114 yX0_portAt ∈ wsT) ⟨Nat.le_of_ble_eq_true rfl, Nat.le_of_ble_eq_true rfl⟩ hP hD hK hN hmy_5 hky_5 (by decide) rfl rfl rfl hl.1 rfl (Nat.le_of_ble_eq_true rfl) ⟨Nat.le_of_ble_eq_true rfl, Nat.le_of_ble_eq_true rfl⟩ dX8_free_46 (fun r_10 hr_10 => ?_)
      obtain ⟨hmr_10, hkr_10, her_10⟩ := hr_10
      refine yget (ci := 4) (k := 1) (v := .ref (S.2.2.1 r_10 1)) (C := RX4) (T := TX4) (N := 11) C0 hK hP hmr_10 hkr_10 (by decide) rfl inlX4 (by decide) mW497 (fun _ h9 => h9) rfl dX8_free_49 ?_
      obtain ⟨hmy_11, hky_11⟩ := ySh.f4_1 hSh _ hmr_10 hkr_10
      refine lv_iload_n hx hb dX8_free_52 rfl (lv_at hl 3 rfl) ?_
      refine lv_iload_n hx hb dX8_free_53 rfl (lv_at hl 4 rfl) ?_
      refine lv_if_eq (tgt := 61) hx hb dX8_free_54 (by decide) (fun c_12 => ?_) (fun c_12 => ?_)
      · refine lv_iconst (v := 0) hx hb dX8_free_61 (by decide) ?_
        refine ySwv (As := [.ref (S.2.2.1 r_10 1), .int p1, .int 0]) (rest := []) C0 (g_X8_put l G S d_3 (S.2.2.1 r_10 1) 21 p1 0 hPod_3 hmy_11 hky_11 (by decide) rfl rfl (by decide)) ok_X8_put (mW168 : Cond.methodLink RX8 82 yX8_put ∈ wsT) ⟨Nat.le_of_ble_eq_true rfl, Nat.le_of_ble_eq_true rfl⟩ hP hD hS hA hK hN rfl hl.1 rfl (Nat.le_of_ble_eq_true rfl) ⟨Nat.le_of_ble_eq_true rfl, Nat.le_of_ble_eq_true rfl⟩ dX8_free_62 (fun d_14 H locs hr_13 hP hD hS => ?_)
        obtain ⟨hgad_14, hpad_14, hxd_14⟩ := hr_13
        have hgd_14 : yAg S [8, 21, 24] d d_14 := yAg.tr hgd_3 hgad_14 (by first | decide | exact fun _ h => h)
        have hPod_14 : yPo S d_14 := hpad_14 hPod_3
        refine lv_iload hx hb dX8_free_65 (lv_at hl 0 rfl) ?_
        exact W.zret (v := v_9) (ty := .boolean) hx hb hr (znb hzv_9).1 (fun t ht hW => ⟨⟨v_9, d_14, rfl, ⟨hgd_14, (fun _ => hPod_14), ((congrFun (hgad_14 q0 (by rw [hk_q0]; decide)).1 4).trans (hxd_3.2))⟩, by rw [ht]; exact hP, hD⟩, hS.F ht⟩) hS.2.2 dX8_free_67
      · refine lv_iconst (v := 1) hx hb dX8_free_57 (by decide) ?_
        refine lv_goto (tgt := 62) hx hb dX8_free_58 (by decide) ?_
        refine ySwv (As := [.ref (S.2.2.1 r_10 1), .int p1, .int 1]) (rest := []) C0 (g_X8_put l G S d_3 (S.2.2.1 r_10 1) 21 p1 1 hPod_3 hmy_11 hky_11 (by decide) rfl rfl (by decide)) ok_X8_put (mW168 : Cond.methodLink RX8 82 yX8_put ∈ wsT) ⟨Nat.le_of_ble_eq_true rfl, Nat.le_of_ble_eq_true rfl⟩ hP hD hS hA hK hN rfl hl.1 rfl (Nat.le_of_ble_eq_true rfl) ⟨Nat.le_of_ble_eq_true rfl, Nat.le_of_ble_eq_true rfl⟩ dX8_free_62 (fun d_16 H locs hr_15 hP hD hS => ?_)
        obtain ⟨hgad_16, hpad_16, hxd_16⟩ := hr_15
        have hgd_16 : yAg S [8, 21, 24] d d_16 := yAg.tr hgd_3 hgad_16 (by first | decide | exact fun _ h => h)
        have hPod_16 : yPo S d_16 := hpad_16 hPod_3
        refine lv_iload hx hb dX8_free_65 (lv_at hl 0 rfl) ?_
        exact W.zret (v := v_9) (ty := .boolean) hx hb hr (znb hzv_9).1 (fun t ht hW => ⟨⟨v_9, d_16, rfl, ⟨hgd_16, (fun _ => hPod_16), ((congrFun (hgad_16 q0 (by rw [hk_q0]; decide)).1 4).trans (hxd_3.2))⟩, by rw [ht]; exact hP, hD⟩, hS.F ht⟩) hS.2.2 dX8_free_67
    refine lv_icmp_ne (tgt := 38) hx hb dX8_free_31 (by decide) (fun c_17 => ?_) (fun c_17 => ?_)
    · refine lv_iconst (v := 0) hx hb dX8_free_38 (by decide) ?_
      exact J39_9 0 ls _ ⟨rfl, lv_sub hl [0, 1, 2, 3] rfl, Or.inl rfl⟩
    · refine lv_iconst (v := 1) hx hb dX8_free_34 (by decide) ?_
      refine lv_goto (tgt := 39) hx hb dX8_free_35 (by decide) ?_
      exact J39_9 1 ls _ ⟨rfl, lv_sub hl [0, 1, 2, 3] rfl, Or.inr rfl⟩
  · refine lv_iconst (v := 0) hx hb dX8_free_13 (by decide) ?_
    exact W.zret (v := 0) (ty := .boolean) hx hb hr rfl (fun t ht hW => ⟨⟨0, d_3, rfl, ⟨hgd_3, (fun _ => hPod_3), (hxd_3.2)⟩, by rw [ht]; exact hP, hD⟩, hS.F ht⟩) hS.2.2 dX8_free_14
theorem dX8_tons_0 : decode cX8_tons 0 = .ok (.lload_n 2, 1) := by decide +kernel
theorem dX8_tons_1 : decode cX8_tons 1 = .ok (.lconst 0, 1) := by decide +kernel
theorem dX8_tons_2 : decode cX8_tons 2 = .ok (.lcmp, 1) := by decide +kernel
theorem dX8_tons_3 : decode cX8_tons 3 = .ok (.ifCond .lt 15, 3) := by decide +kernel
theorem dX8_tons_6 : decode cX8_tons 6 = .ok (.lload_n 2, 1) := by decide +kernel
theorem dX8_tons_7 : decode cX8_tons 7 = .ok (.ldc2_w 184, 3) := by decide +kernel
theorem dX8_tons_10 : decode cX8_tons 10 = .ok (.lcmp, 1) := by decide +kernel
theorem dX8_tons_11 : decode cX8_tons 11 = .ok (.ifCond .gt 7, 3) := by decide +kernel
theorem dX8_tons_14 : decode cX8_tons 14 = .ok (.iconst 1, 1) := by decide +kernel
theorem dX8_tons_15 : decode cX8_tons 15 = .ok (.goto 4, 3) := by decide +kernel
theorem dX8_tons_18 : decode cX8_tons 18 = .ok (.iconst 0, 1) := by decide +kernel
theorem dX8_tons_19 : decode cX8_tons 19 = .ok (.istore 4, 2) := by decide +kernel
theorem dX8_tons_21 : decode cX8_tons 21 = .ok (.aload_n 0, 1) := by decide +kernel
theorem dX8_tons_22 : decode cX8_tons 22 = .ok (.aload_n 0, 1) := by decide +kernel
theorem dX8_tons_23 : decode cX8_tons 23 = .ok (.iload_n 1, 1) := by decide +kernel
theorem dX8_tons_24 : decode cX8_tons 24 = .ok (.invokevirtual 124, 3) := by decide +kernel
theorem dX8_tons_27 : decode cX8_tons 27 = .ok (.iload 4, 2) := by decide +kernel
theorem dX8_tons_29 : decode cX8_tons 29 = .ok (.invokestatic 54, 3) := by decide +kernel
theorem dX8_tons_32 : decode cX8_tons 32 = .ok (.invokestatic 58, 3) := by decide +kernel
theorem dX8_tons_35 : decode cX8_tons 35 = .ok (.invokevirtual 42, 3) := by decide +kernel
theorem dX8_tons_38 : decode cX8_tons 38 = .ok (.ifCond .eq 5, 3) := by decide +kernel
theorem dX8_tons_41 : decode cX8_tons 41 = .ok (.iconst 0, 1) := by decide +kernel
theorem dX8_tons_42 : decode cX8_tons 42 = .ok (.ireturn, 1) := by decide +kernel
theorem dX8_tons_43 : decode cX8_tons 43 = .ok (.aload_n 0, 1) := by decide +kernel
theorem dX8_tons_44 : decode cX8_tons 44 = .ok (.getfield 12, 3) := by decide +kernel
theorem dX8_tons_47 : decode cX8_tons 47 = .ok (.iload_n 1, 1) := by decide +kernel
theorem dX8_tons_48 : decode cX8_tons 48 = .ok (.invokevirtual 114, 3) := by decide +kernel
theorem dX8_tons_51 : decode cX8_tons 51 = .ok (.lload_n 2, 1) := by decide +kernel
theorem dX8_tons_52 : decode cX8_tons 52 = .ok (.putfield 186, 3) := by decide +kernel
theorem dX8_tons_55 : decode cX8_tons 55 = .ok (.iconst 1, 1) := by decide +kernel
theorem dX8_tons_56 : decode cX8_tons 56 = .ok (.ireturn, 1) := by decide +kernel
set_option maxHeartbeats 4000000 in
set_option maxRecDepth 100000 in
theorem g_X8_tons (l : Launch) (G : xG) (S : yS) (d : yD) (q0 : Nat) (p0 : Int32) (p1 : Int64) (hSh : ySh S) (hPo : yPo S d) (hm_q0 : q0 ∈ S.1) (hk_q0 : S.2.1 q0 = 8) : xWi l G yX8_tons cX8_tons 5 (some .boolean) 2 43 0 0 [.ref q0, .int p0, .long p1] (yW G S d) (fun r (u : yD) => yAg S [4, 8, 24] d u ∧ (yPo S d → yPo S u) ∧ (u.1 q0 4 = d.1 q0 4)) (fun u => yW G S u) := by
  intro sz
  refine xstart (by decide) (Nat.le_of_ble_eq_true rfl) (fun p e s m args below meth c ls C0 hr hlocks hin hsz hP hK hD hN hl => ?_)
  obtain ⟨hx, hb, hml, hown, htl⟩ := id C0
  subst hsz
  have hD := hD.self (sz := s.heap.size)
  generalize hAe : va_A (yW G S d) s.heap.size = A at hD ⊢
  have hA : ∀ q : Nat, s.heap.size ≤ q → A q := fun q h => by rw [← hAe]; exact Or.inr h
  have hS : va_S A s.heap s.heap [] := va_S.rf
  have hg0 : yAg S [4, 8, 24] d d := yAg.rf
  have hl : lv_has ls 5 [(0, .ref q0), (1, .int p0), (2, .long p1)] := hl
  refine lv_lload_n hx hb dX8_tons_0 rfl (lv_at hl 2 rfl) ?_
  refine lv_lconst (v := 0) hx hb dX8_tons_1 (by decide) ?_
  refine W.lcmp hx hb dX8_tons_2 ?_
  refine lv_topi (fun z_1 ez_1 => ?_)
  refine yjoinR (σ := Int32) 19 (fun x ls st => st = [.int x] ∧ lv_has ls 5 [(0, .ref q0), (1, .int p0), (2, .long p1)] ∧ (x = 0 ∨ x = 1)) (fun x ls st hI => ?_) (fun J19_2 => ?_)
  · obtain ⟨v_2, rfl⟩ : ∃ z, z = x := ⟨_, rfl⟩
    obtain ⟨rfl, hl, hzv_2⟩ := hI
    have hl : lv_has ls 5 [(0, .ref q0), (1, .int p0), (2, .long p1)] := hl
    refine lv_istore (lv' := [(4, .int v_2), (0, .ref q0), (1, .int p0), (2, .long p1)]) hx hb dX8_tons_19 hl (by decide) rfl (fun ls hl => ?_)
    refine lv_aload_n hx hb dX8_tons_21 rfl (lv_at hl 1 rfl) ?_
    refine lv_aload_n hx hb dX8_tons_22 rfl (lv_at hl 1 rfl) ?_
    refine lv_iload_n hx hb dX8_tons_23 rfl (lv_at hl 2 rfl) ?_
    refine yVri (As := [.int p0]) (rest := [.ref q0]) C0 (g_X8_portReason l G S d q0 p0 hSh hm_q0 hk_q0) ok_X8_portReason (mW374 : Cond.methodLink RX8 124 yX8_portReason ∈ wsT) ⟨Nat.le_of_ble_eq_true rfl, Nat.le_of_ble_eq_true rfl⟩ hP hD hK hN hm_q0 hk_q0 (by decide) rfl rfl rfl hl.1 rfl (Nat.le_of_ble_eq_true rfl) ⟨Nat.le_of_ble_eq_true rfl, Nat.le_of_ble_eq_true rfl⟩ dX8_tons_24 (fun r_3 hr_3 => ?_)
    refine lv_iload hx hb dX8_tons_27 (lv_at hl 0 rfl) ?_
    refine ySri (As := [.int v_2]) (rest := [.int r_3, .ref q0]) C0 (g_X8_number l G S d v_2 ) ok_X8_number (mW196 : Cond.methodLink RX8 54 yX8_number ∈ wsT) ⟨Nat.le_of_ble_eq_true rfl, Nat.le_of_ble_eq_true rfl⟩ hP hD hK hN rfl hl.1 rfl (Nat.le_of_ble_eq_true rfl) ⟨Nat.le_of_ble_eq_true rfl, Nat.le_of_ble_eq_true rfl⟩ dX8_tons_29 (fun r_4 hr_4 => ?_)
    refine ySri (As := [.int r_3, .int r_4]) (rest := [.ref q0]) C0 (g_X8_least l G S d r_3 r_4 ) ok_X8_least (mW199 : Cond.methodLink RX8 58 yX8_least ∈ wsT) ⟨Nat.le_of_ble_eq_true rfl, Nat.le_of_ble_eq_true rfl⟩ hP hD hK hN rfl hl.1 rfl (Nat.le_of_ble_eq_true rfl) ⟨Nat.le_of_ble_eq_true rfl, Nat.le_of_ble_eq_true rfl⟩ dX8_tons_32 (fun r_5 hr_5 => ?_)
    refine yVwi (As := [.int r_5]) (rest := []) C0 (g_X8_refused l G S d q0 r_5 hSh hPo hm_q0 hk_q0) ok_X8_refused (mW160 : Cond.methodLink RX8 42 yX8_refused ∈ wsT) ⟨Nat.le_of_ble_eq_true rfl, Nat.le_of_ble_eq_true rfl⟩ hP hD hS hA hK hN hm_q0 hk_q0 (by decide) rfl rfl rfl hl.1 rfl (Nat.le_of_ble_eq_true rfl) ⟨Nat.le_of_ble_eq_true rfl, Nat.le_of_ble_eq_true rfl⟩ dX8_tons_35 (fun r_6 d_7 H locs hr_6 hP hD hS => ?_)
    obtain ⟨hgad_7, hpad_7, hxd_7⟩ := hr_6
    have hgd_7 : yAg S [4, 8, 24] d d_7 := yAg.tr hg0 hgad_7 (by first | decide | exact fun _ h => h)
    have hPod_7 : yPo S d_7 := hpad_7 hPo
    refine lv_if_eq (tgt := 43) hx hb dX8_tons_38 (by decide) (fun c_8 => ?_) (fun c_8 => ?_)
    · refine lv_aload_n hx hb dX8_tons_43 rfl (lv_at hl 1 rfl) ?_
      refine yget (ci := 8) (k := 0) (v := .ref (S.2.2.1 q0 0)) (C := RX8) (T := TX8) (N := 6) C0 hK hP hm_q0 hk_q0 (by decide) rfl inlX8 (by decide) mW16 (fun _ h9 => h9) rfl dX8_tons_44 ?_
      obtain ⟨hmy_9, hky_9⟩ := ySh.f8_0 hSh _ hm_q0 hk_q0
      refine lv_iload_n hx hb dX8_tons_47 rfl (lv_at hl 2 rfl) ?_
      refine yVrr (As := [.int p0]) (rest := []) C0 (g_X0_portAt l G S d_7 (S.2.2.1 q0 0) p0 hSh hmy_9 hky_9) ok_X0_portAt (mW337 : Cond.methodLink RX8 114 yX0_portAt ∈ wsT) ⟨Nat.le_of_ble_eq_true rfl, Nat.le_of_ble_eq_true rfl⟩ hP hD hK hN hmy_9 hky_9 (by decide) rfl rfl rfl hl.1 rfl (Nat.le_of_ble_eq_true rfl) ⟨Nat.le_of_ble_eq_true rfl, Nat.le_of_ble_eq_true rfl⟩ dX8_tons_48 (fun r_10 hr_10 => ?_)
      obtain ⟨hmr_10, hkr_10, her_10⟩ := hr_10
      refine lv_lload_n hx hb dX8_tons_51 rfl (lv_at hl 3 rfl) ?_
      refine yputJ (ci := 4) (k := 8) (C := RX4) (T := TX4) (N := 11) C0 hK hP hD hS hmr_10 hkr_10 (by decide) rfl inlX4 tyX4 tyX4_ok nmX4 (by decide) mW507 (fun _ h9 => h9) rfl (by decide +kernel) (Nat.le_of_ble_eq_true rfl) ysj_4_8 dX8_tons_52 (fun H locs hP hD hS => ?_)
      obtain ⟨d_11, ed_11⟩ : ∃ z : yD, z = yj d_7 r_10 8 p1 := ⟨_, rfl⟩
      rw [← ed_11] at hP hD
      have hgd_11 : yAg S [4, 8, 24] d d_11 := by rw [ed_11]; exact yAg.j hgd_7 (by rw [hkr_10]; decide)
      have hsd_11 : yAg S [4] d_7 d_11 := by rw [ed_11]; exact yAg.j yAg.rf (by rw [hkr_10]; decide)
      have hPod_11 : yPo S d_11 := by rw [ed_11]; exact hPod_7
      refine lv_iconst (v := 1) hx hb dX8_tons_55 (by decide) ?_
      exact W.zret (v := 1) (ty := .boolean) hx hb hr rfl (fun t ht hW => ⟨⟨1, d_11, rfl, ⟨hgd_11, (fun _ => hPod_11), ((congrFun (hsd_11 q0 (by rw [hk_q0]; decide)).1 4).trans (hxd_7.2))⟩, by rw [ht]; exact hP, hD⟩, hS.F ht⟩) hS.2.2 dX8_tons_56
    · refine lv_iconst (v := 0) hx hb dX8_tons_41 (by decide) ?_
      exact W.zret (v := 0) (ty := .boolean) hx hb hr rfl (fun t ht hW => ⟨⟨0, d_7, rfl, ⟨hgd_7, (fun _ => hPod_7), (hxd_7.2)⟩, by rw [ht]; exact hP, hD⟩, hS.F ht⟩) hS.2.2 dX8_tons_42
  refine lv_if_lt (tgt := 18) hx hb dX8_tons_3 (by decide) (fun c_12 => ?_) (fun c_12 => ?_)
  · refine lv_iconst (v := 0) hx hb dX8_tons_18 (by decide) ?_
    exact J19_2 0 ls _ ⟨rfl, lv_sub hl [0, 1, 2] rfl, Or.inl rfl⟩
  · refine lv_lload_n hx hb dX8_tons_6 rfl (lv_at hl 2 rfl) ?_
    refine lv_ldc2 (v := 100000000) hx hb hown (htl (.constantLong RX8 184 (100000000)) mW506) dX8_tons_7 ?_
    refine W.lcmp hx hb dX8_tons_10 ?_
    refine lv_topi (fun z_13 ez_13 => ?_)
    refine lv_if_gt (tgt := 18) hx hb dX8_tons_11 (by decide) (fun c_14 => ?_) (fun c_14 => ?_)
    · refine lv_iconst (v := 0) hx hb dX8_tons_18 (by decide) ?_
      exact J19_2 0 ls _ ⟨rfl, lv_sub hl [0, 1, 2] rfl, Or.inl rfl⟩
    · refine lv_iconst (v := 1) hx hb dX8_tons_14 (by decide) ?_
      refine lv_goto (tgt := 19) hx hb dX8_tons_15 (by decide) ?_
      exact J19_2 1 ls _ ⟨rfl, lv_sub hl [0, 1, 2] rfl, Or.inr rfl⟩
theorem dX8_office_0 : decode cX8_office 0 = .ok (.iload_n 2, 1) := by decide +kernel
theorem dX8_office_1 : decode cX8_office 1 = .ok (.iconst 0, 1) := by decide +kernel
theorem dX8_office_2 : decode cX8_office 2 = .ok (.sipush 1440, 3) := by decide +kernel
theorem dX8_office_5 : decode cX8_office 5 = .ok (.invokestatic 71, 3) := by decide +kernel
theorem dX8_office_8 : decode cX8_office 8 = .ok (.ifCond .eq 29, 3) := by decide +kernel
theorem dX8_office_11 : decode cX8_office 11 = .ok (.iload_n 3, 1) := by decide +kernel
theorem dX8_office_12 : decode cX8_office 12 = .ok (.iconst 0, 1) := by decide +kernel
theorem dX8_office_13 : decode cX8_office 13 = .ok (.sipush 1440, 3) := by decide +kernel
theorem dX8_office_16 : decode cX8_office 16 = .ok (.invokestatic 71, 3) := by decide +kernel
theorem dX8_office_19 : decode cX8_office 19 = .ok (.ifCond .eq 18, 3) := by decide +kernel
theorem dX8_office_22 : decode cX8_office 22 = .ok (.iload 4, 2) := by decide +kernel
theorem dX8_office_24 : decode cX8_office 24 = .ok (.iconst 0, 1) := by decide +kernel
theorem dX8_office_25 : decode cX8_office 25 = .ok (.ldc 190, 2) := by decide +kernel
theorem dX8_office_27 : decode cX8_office 27 = .ok (.invokestatic 71, 3) := by decide +kernel
theorem dX8_office_30 : decode cX8_office 30 = .ok (.ifCond .eq 7, 3) := by decide +kernel
theorem dX8_office_33 : decode cX8_office 33 = .ok (.iconst 1, 1) := by decide +kernel
theorem dX8_office_34 : decode cX8_office 34 = .ok (.goto 4, 3) := by decide +kernel
theorem dX8_office_37 : decode cX8_office 37 = .ok (.iconst 0, 1) := by decide +kernel
theorem dX8_office_38 : decode cX8_office 38 = .ok (.istore 5, 2) := by decide +kernel
theorem dX8_office_40 : decode cX8_office 40 = .ok (.aload_n 0, 1) := by decide +kernel
theorem dX8_office_41 : decode cX8_office 41 = .ok (.aload_n 0, 1) := by decide +kernel
theorem dX8_office_42 : decode cX8_office 42 = .ok (.iload_n 1, 1) := by decide +kernel
theorem dX8_office_43 : decode cX8_office 43 = .ok (.invokevirtual 124, 3) := by decide +kernel
theorem dX8_office_46 : decode cX8_office 46 = .ok (.iload 5, 2) := by decide +kernel
theorem dX8_office_48 : decode cX8_office 48 = .ok (.invokestatic 54, 3) := by decide +kernel
theorem dX8_office_51 : decode cX8_office 51 = .ok (.invokestatic 58, 3) := by decide +kernel
theorem dX8_office_54 : decode cX8_office 54 = .ok (.invokevirtual 42, 3) := by decide +kernel
theorem dX8_office_57 : decode cX8_office 57 = .ok (.ifCond .eq 5, 3) := by decide +kernel
theorem dX8_office_60 : decode cX8_office 60 = .ok (.iconst 0, 1) := by decide +kernel
theorem dX8_office_61 : decode cX8_office 61 = .ok (.ireturn, 1) := by decide +kernel
theorem dX8_office_62 : decode cX8_office 62 = .ok (.aload_n 0, 1) := by decide +kernel
theorem dX8_office_63 : decode cX8_office 63 = .ok (.getfield 12, 3) := by decide +kernel
theorem dX8_office_66 : decode cX8_office 66 = .ok (.iload_n 1, 1) := by decide +kernel
theorem dX8_office_67 : decode cX8_office 67 = .ok (.invokevirtual 114, 3) := by decide +kernel
theorem dX8_office_70 : decode cX8_office 70 = .ok (.astore 6, 2) := by decide +kernel
theorem dX8_office_72 : decode cX8_office 72 = .ok (.aload 6, 2) := by decide +kernel
theorem dX8_office_74 : decode cX8_office 74 = .ok (.iload_n 2, 1) := by decide +kernel
theorem dX8_office_75 : decode cX8_office 75 = .ok (.putfield 191, 3) := by decide +kernel
theorem dX8_office_78 : decode cX8_office 78 = .ok (.aload 6, 2) := by decide +kernel
theorem dX8_office_80 : decode cX8_office 80 = .ok (.iload_n 3, 1) := by decide +kernel
theorem dX8_office_81 : decode cX8_office 81 = .ok (.putfield 194, 3) := by decide +kernel
theorem dX8_office_84 : decode cX8_office 84 = .ok (.aload 6, 2) := by decide +kernel
theorem dX8_office_86 : decode cX8_office 86 = .ok (.iload 4, 2) := by decide +kernel
theorem dX8_office_88 : decode cX8_office 88 = .ok (.putfield 197, 3) := by decide +kernel
theorem dX8_office_91 : decode cX8_office 91 = .ok (.iconst 1, 1) := by decide +kernel
theorem dX8_office_92 : decode cX8_office 92 = .ok (.ireturn, 1) := by decide +kernel
set_option maxHeartbeats 4000000 in
set_option maxRecDepth 100000 in
theorem g_X8_office (l : Launch) (G : xG) (S : yS) (d : yD) (q0 : Nat) (p0 : Int32) (p1 : Int32) (p2 : Int32) (p3 : Int32) (hSh : ySh S) (hPo : yPo S d) (hm_q0 : q0 ∈ S.1) (hk_q0 : S.2.1 q0 = 8) : xWi l G yX8_office cX8_office 7 (some .boolean) 2 43 0 0 [.ref q0, .int p0, .int p1, .int p2, .int p3] (yW G S d) (fun r (u : yD) => yAg S [4, 8, 24] d u ∧ (yPo S d → yPo S u) ∧ (u.1 q0 4 = d.1 q0 4)) (fun u => yW G S u) := by
  intro sz
  refine xstart (by decide) (Nat.le_of_ble_eq_true rfl) (fun p e s m args below meth c ls C0 hr hlocks hin hsz hP hK hD hN hl => ?_)
  obtain ⟨hx, hb, hml, hown, htl⟩ := id C0
  subst hsz
  have hD := hD.self (sz := s.heap.size)
  generalize hAe : va_A (yW G S d) s.heap.size = A at hD ⊢
  have hA : ∀ q : Nat, s.heap.size ≤ q → A q := fun q h => by rw [← hAe]; exact Or.inr h
  have hS : va_S A s.heap s.heap [] := va_S.rf
  have hg0 : yAg S [4, 8, 24] d d := yAg.rf
  have hl : lv_has ls 7 [(0, .ref q0), (1, .int p0), (2, .int p1), (3, .int p2), (4, .int p3)] := hl
  refine lv_iload_n hx hb dX8_office_0 rfl (lv_at hl 2 rfl) ?_
  refine lv_iconst (v := 0) hx hb dX8_office_1 (by decide) ?_
  refine lv_sipush (v := 1440) hx hb dX8_office_2 (by decide) ?_
  refine ySri (As := [.int p1, .int 0, .int 1440]) (rest := []) C0 (g_X8_within l G S d p1 0 1440 ) ok_X8_within (mW193 : Cond.methodLink RX8 71 yX8_within ∈ wsT) ⟨Nat.le_of_ble_eq_true rfl, Nat.le_of_ble_eq_true rfl⟩ hP hD hK hN rfl hl.1 rfl (Nat.le_of_ble_eq_true rfl) ⟨Nat.le_of_ble_eq_true rfl, Nat.le_of_ble_eq_true rfl⟩ dX8_office_5 (fun r_1 hr_1 => ?_)
  refine yjoinR (σ := Int32) 38 (fun x ls st => st = [.int x] ∧ lv_has ls 7 [(0, .ref q0), (1, .int p0), (2, .int p1), (3, .int p2), (4, .int p3)] ∧ (x = 0 ∨ x = 1)) (fun x ls st hI => ?_) (fun J38_2 => ?_)
  · obtain ⟨v_2, rfl⟩ : ∃ z, z = x := ⟨_, rfl⟩
    obtain ⟨rfl, hl, hzv_2⟩ := hI
    have hl : lv_has ls 7 [(0, .ref q0), (1, .int p0), (2, .int p1), (3, .int p2), (4, .int p3)] := hl
    refine lv_istore (lv' := [(5, .int v_2), (0, .ref q0), (1, .int p0), (2, .int p1), (3, .int p2), (4, .int p3)]) hx hb dX8_office_38 hl (by decide) rfl (fun ls hl => ?_)
    refine lv_aload_n hx hb dX8_office_40 rfl (lv_at hl 1 rfl) ?_
    refine lv_aload_n hx hb dX8_office_41 rfl (lv_at hl 1 rfl) ?_
    refine lv_iload_n hx hb dX8_office_42 rfl (lv_at hl 2 rfl) ?_
    refine yVri (As := [.int p0]) (rest := [.ref q0]) C0 (g_X8_portReason l G S d q0 p0 hSh hm_q0 hk_q0) ok_X8_portReason (mW374 : Cond.methodLink RX8 124 yX8_portReason ∈ wsT) ⟨Nat.le_of_ble_eq_true rfl, Nat.le_of_ble_eq_true rfl⟩ hP hD hK hN hm_q0 hk_q0 (by decide) rfl rfl rfl hl.1 rfl (Nat.le_of_ble_eq_true rfl) ⟨Nat.le_of_ble_eq_true rfl, Nat.le_of_ble_eq_true rfl⟩ dX8_office_43 (fun r_3 hr_3 => ?_)
    refine lv_iload hx hb dX8_office_46 (lv_at hl 0 rfl) ?_
    refine ySri (As := [.int v_2]) (rest := [.int r_3, .ref q0]) C0 (g_X8_number l G S d v_2 ) ok_X8_number (mW196 : Cond.methodLink RX8 54 yX8_number ∈ wsT) ⟨Nat.le_of_ble_eq_true rfl, Nat.le_of_ble_eq_true rfl⟩ hP hD hK hN rfl hl.1 rfl (Nat.le_of_ble_eq_true rfl) ⟨Nat.le_of_ble_eq_true rfl, Nat.le_of_ble_eq_true rfl⟩ dX8_office_48 (fun r_4 hr_4 => ?_)
    refine ySri (As := [.int r_3, .int r_4]) (rest := [.ref q0]) C0 (g_X8_least l G S d r_3 r_4 ) ok_X8_least (mW199 : Cond.methodLink RX8 58 yX8_least ∈ wsT) ⟨Nat.le_of_ble_eq_true rfl, Nat.le_of_ble_eq_true rfl⟩ hP hD hK hN rfl hl.1 rfl (Nat.le_of_ble_eq_true rfl) ⟨Nat.le_of_ble_eq_true rfl, Nat.le_of_ble_eq_true rfl⟩ dX8_office_51 (fun r_5 hr_5 => ?_)
    refine yVwi (As := [.int r_5]) (rest := []) C0 (g_X8_refused l G S d q0 r_5 hSh hPo hm_q0 hk_q0) ok_X8_refused (mW160 : Cond.methodLink RX8 42 yX8_refused ∈ wsT) ⟨Nat.le_of_ble_eq_true rfl, Nat.le_of_ble_eq_true rfl⟩ hP hD hS hA hK hN hm_q0 hk_q0 (by decide) rfl rfl rfl hl.1 rfl (Nat.le_of_ble_eq_true rfl) ⟨Nat.le_of_ble_eq_true rfl, Nat.le_of_ble_eq_true rfl⟩ dX8_office_54 (fun r_6 d_7 H locs hr_6 hP hD hS => ?_)
    obtain ⟨hgad_7, hpad_7, hxd_7⟩ := hr_6
    have hgd_7 : yAg S [4, 8, 24] d d_7 := yAg.tr hg0 hgad_7 (by first | decide | exact fun _ h => h)
    have hPod_7 : yPo S d_7 := hpad_7 hPo
    refine lv_if_eq (tgt := 62) hx hb dX8_office_57 (by decide) (fun c_8 => ?_) (fun c_8 => ?_)
    · refine lv_aload_n hx hb dX8_office_62 rfl (lv_at hl 1 rfl) ?_
      refine yget (ci := 8) (k := 0) (v := .ref (S.2.2.1 q0 0)) (C := RX8) (T := TX8) (N := 6) C0 hK hP hm_q0 hk_q0 (by decide) rfl inlX8 (by decide) mW16 (fun _ h9 => h9) rfl dX8_office_63 ?_
      obtain ⟨hmy_9, hky_9⟩ := ySh.f8_0 hSh _ hm_q0 hk_q0
      refine lv_iload_n hx hb dX8_office_66 rfl (lv_at hl 2 rfl) ?_
      refine yVrr (As := [.int p0]) (rest := []) C0 (g_X0_portAt l G S d_7 (S.2.2.1 q0 0) p0 hSh hmy_9 hky_9) ok_X0_portAt (mW337 : Cond.methodLink RX8 114 yX0_portAt ∈ wsT) ⟨Nat.le_of_ble_eq_true rfl, Nat.le_of_ble_eq_true rfl⟩ hP hD hK hN hmy_9 hky_9 (by decide) rfl rfl rfl hl.1 rfl (Nat.le_of_ble_eq_true rfl) ⟨Nat.le_of_ble_eq_true rfl, Nat.le_of_ble_eq_true rfl⟩ dX8_office_67 (fun r_10 hr_10 => ?_)
      obtain ⟨hmr_10, hkr_10, her_10⟩ := hr_10
      refine lv_astore (lv' := [(6, .ref r_10), (5, .int v_2), (0, .ref q0), (1, .int p0), (2, .int p1), (3, .int p2), (4, .int p3)]) hx hb dX8_office_70 hl (by decide) rfl (fun ls hl => ?_)
      refine lv_aload hx hb dX8_office_72 (lv_at hl 0 rfl) ?_
      refine lv_iload_n hx hb dX8_office_74 rfl (lv_at hl 4 rfl) ?_
      refine yputI (ci := 4) (k := 4) (ty := .int) (C := RX4) (T := TX4) (N := 11) C0 hK hP hD hS hmr_10 hkr_10 (by decide) rfl inlX4 tyX4 tyX4_ok nmX4 (by decide) mW522 (fun _ h9 => h9) rfl (by decide +kernel) rfl rfl (Nat.le_of_ble_eq_true rfl) ysi_4_4 dX8_office_75 (fun H locs hP hD hS => ?_)
      obtain ⟨d_11, ed_11⟩ : ∃ z : yD, z = yi d_7 r_10 4 p1 := ⟨_, rfl⟩
      rw [← ed_11] at hP hD
      have hgd_11 : yAg S [4, 8, 24] d d_11 := by rw [ed_11]; exact yAg.i hgd_7 (by rw [hkr_10]; decide)
      have hsd_11 : yAg S [4] d_7 d_11 := by rw [ed_11]; exact yAg.i yAg.rf (by rw [hkr_10]; decide)
      have hPod_11 : yPo S d_11 := by rw [ed_11]; exact yPo.i hPod_7 hkr_10 (Or.inl rfl)
      refine lv_aload hx hb dX8_office_78 (lv_at hl 0 rfl) ?_
      refine lv_iload_n hx hb dX8_office_80 rfl (lv_at hl 5 rfl) ?_
      refine yputI (ci := 4) (k := 5) (ty := .int) (C := RX4) (T := TX4) (N := 11) C0 hK hP hD hS hmr_10 hkr_10 (by decide) rfl inlX4 tyX4 tyX4_ok nmX4 (by decide) mW523 (fun _ h9 => h9) rfl (by decide +kernel) rfl rfl (Nat.le_of_ble_eq_true rfl) ysi_4_5 dX8_office_81 (fun H locs hP hD hS => ?_)
      obtain ⟨d_12, ed_12⟩ : ∃ z : yD, z = yi d_11 r_10 5 p2 := ⟨_, rfl⟩
      rw [← ed_12] at hP hD
      have hgd_12 : yAg S [4, 8, 24] d d_12 := by rw [ed_12]; exact yAg.i hgd_11 (by rw [hkr_10]; decide)
      have hsd_12 : yAg S [4] d_11 d_12 := by rw [ed_12]; exact yAg.i yAg.rf (by rw [hkr_10]; decide)
      have hPod_12 : yPo S d_12 := by rw [ed_12]; exact yPo.i hPod_11 hkr_10 (Or.inl rfl)
      refine lv_aload hx hb dX8_office_84 (lv_at hl 0 rfl) ?_
      refine lv_iload hx hb dX8_office_86 (lv_at hl 6 rfl) ?_
      refine yputI (ci := 4) (k := 6) (ty := .int) (C := RX4) (T := TX4) (N := 11) C0 hK hP hD hS hmr_10 hkr_10 (by decide) rfl inlX4 tyX4 tyX4_ok nmX4 (by decide) mW524 (fun _ h9 => h9) rfl (by decide +kernel) rfl rfl (Nat.le_of_ble_eq_true rfl) ysi_4_6 dX8_office_88 (fun H locs hP hD hS => ?_)
      obtain ⟨d_13, ed_13⟩ : ∃ z : yD, z = yi d_12 r_10 6 p3 := ⟨_, rfl⟩
      rw [← ed_13] at hP hD
      have hgd_13 : yAg S [4, 8, 24] d d_13 := by rw [ed_13]; exact yAg.i hgd_12 (by rw [hkr_10]; decide)
      have hsd_13 : yAg S [4] d_12 d_13 := by rw [ed_13]; exact yAg.i yAg.rf (by rw [hkr_10]; decide)
      have hPod_13 : yPo S d_13 := by rw [ed_13]; exact yPo.i hPod_12 hkr_10 (Or.inl rfl)
      refine lv_iconst (v := 1) hx hb dX8_office_91 (by decide) ?_
      exact W.zret (v := 1) (ty := .boolean) hx hb hr rfl (fun t ht hW => ⟨⟨1, d_13, rfl, ⟨hgd_13, (fun _ => hPod_13), ((congrFun (hsd_13 q0 (by rw [hk_q0]; decide)).1 4).trans ((congrFun (hsd_12 q0 (by rw [hk_q0]; decide)).1 4).trans ((congrFun (hsd_11 q0 (by rw [hk_q0]; decide)).1 4).trans (hxd_7.2))))⟩, by rw [ht]; exact hP, hD⟩, hS.F ht⟩) hS.2.2 dX8_office_92
    · refine lv_iconst (v := 0) hx hb dX8_office_60 (by decide) ?_
      exact W.zret (v := 0) (ty := .boolean) hx hb hr rfl (fun t ht hW => ⟨⟨0, d_7, rfl, ⟨hgd_7, (fun _ => hPod_7), (hxd_7.2)⟩, by rw [ht]; exact hP, hD⟩, hS.F ht⟩) hS.2.2 dX8_office_61
  refine lv_if_eq (tgt := 37) hx hb dX8_office_8 (by decide) (fun c_14 => ?_) (fun c_14 => ?_)
  · refine lv_iconst (v := 0) hx hb dX8_office_37 (by decide) ?_
    exact J38_2 0 ls _ ⟨rfl, lv_sub hl [0, 1, 2, 3, 4] rfl, Or.inl rfl⟩
  · refine lv_iload_n hx hb dX8_office_11 rfl (lv_at hl 3 rfl) ?_
    refine lv_iconst (v := 0) hx hb dX8_office_12 (by decide) ?_
    refine lv_sipush (v := 1440) hx hb dX8_office_13 (by decide) ?_
    refine ySri (As := [.int p2, .int 0, .int 1440]) (rest := []) C0 (g_X8_within l G S d p2 0 1440 ) ok_X8_within (mW193 : Cond.methodLink RX8 71 yX8_within ∈ wsT) ⟨Nat.le_of_ble_eq_true rfl, Nat.le_of_ble_eq_true rfl⟩ hP hD hK hN rfl hl.1 rfl (Nat.le_of_ble_eq_true rfl) ⟨Nat.le_of_ble_eq_true rfl, Nat.le_of_ble_eq_true rfl⟩ dX8_office_16 (fun r_15 hr_15 => ?_)
    refine lv_if_eq (tgt := 37) hx hb dX8_office_19 (by decide) (fun c_16 => ?_) (fun c_16 => ?_)
    · refine lv_iconst (v := 0) hx hb dX8_office_37 (by decide) ?_
      exact J38_2 0 ls _ ⟨rfl, lv_sub hl [0, 1, 2, 3, 4] rfl, Or.inl rfl⟩
    · refine lv_iload hx hb dX8_office_22 (lv_at hl 4 rfl) ?_
      refine lv_iconst (v := 0) hx hb dX8_office_24 (by decide) ?_
      refine lv_ldc (v := 100000) hx hb hown (htl (.constant RX8 190 (100000)) mW521) dX8_office_25 ?_
      refine ySri (As := [.int p3, .int 0, .int 100000]) (rest := []) C0 (g_X8_within l G S d p3 0 100000 ) ok_X8_within (mW193 : Cond.methodLink RX8 71 yX8_within ∈ wsT) ⟨Nat.le_of_ble_eq_true rfl, Nat.le_of_ble_eq_true rfl⟩ hP hD hK hN rfl hl.1 rfl (Nat.le_of_ble_eq_true rfl) ⟨Nat.le_of_ble_eq_true rfl, Nat.le_of_ble_eq_true rfl⟩ dX8_office_27 (fun r_17 hr_17 => ?_)
      refine lv_if_eq (tgt := 37) hx hb dX8_office_30 (by decide) (fun c_18 => ?_) (fun c_18 => ?_)
      · refine lv_iconst (v := 0) hx hb dX8_office_37 (by decide) ?_
        exact J38_2 0 ls _ ⟨rfl, lv_sub hl [0, 1, 2, 3, 4] rfl, Or.inl rfl⟩
      · refine lv_iconst (v := 1) hx hb dX8_office_33 (by decide) ?_
        refine lv_goto (tgt := 38) hx hb dX8_office_34 (by decide) ?_
        exact J38_2 1 ls _ ⟨rfl, lv_sub hl [0, 1, 2, 3, 4] rfl, Or.inr rfl⟩
theorem dX8_offset_0 : decode cX8_offset 0 = .ok (.aload_n 0, 1) := by decide +kernel
theorem dX8_offset_1 : decode cX8_offset 1 = .ok (.aload_n 0, 1) := by decide +kernel
theorem dX8_offset_2 : decode cX8_offset 2 = .ok (.iload_n 1, 1) := by decide +kernel
theorem dX8_offset_3 : decode cX8_offset 3 = .ok (.invokevirtual 124, 3) := by decide +kernel
theorem dX8_offset_6 : decode cX8_offset 6 = .ok (.iload_n 2, 1) := by decide +kernel
theorem dX8_offset_7 : decode cX8_offset 7 = .ok (.iconst 0, 1) := by decide +kernel
theorem dX8_offset_8 : decode cX8_offset 8 = .ok (.ldc 87, 2) := by decide +kernel
theorem dX8_offset_10 : decode cX8_offset 10 = .ok (.invokestatic 71, 3) := by decide +kernel
theorem dX8_offset_13 : decode cX8_offset 13 = .ok (.invokestatic 54, 3) := by decide +kernel
theorem dX8_offset_16 : decode cX8_offset 16 = .ok (.invokestatic 58, 3) := by decide +kernel
theorem dX8_offset_19 : decode cX8_offset 19 = .ok (.invokevirtual 42, 3) := by decide +kernel
theorem dX8_offset_22 : decode cX8_offset 22 = .ok (.ifCond .eq 5, 3) := by decide +kernel
theorem dX8_offset_25 : decode cX8_offset 25 = .ok (.iconst 0, 1) := by decide +kernel
theorem dX8_offset_26 : decode cX8_offset 26 = .ok (.ireturn, 1) := by decide +kernel
theorem dX8_offset_27 : decode cX8_offset 27 = .ok (.aload_n 0, 1) := by decide +kernel
theorem dX8_offset_28 : decode cX8_offset 28 = .ok (.getfield 12, 3) := by decide +kernel
theorem dX8_offset_31 : decode cX8_offset 31 = .ok (.iload_n 1, 1) := by decide +kernel
theorem dX8_offset_32 : decode cX8_offset 32 = .ok (.invokevirtual 114, 3) := by decide +kernel
theorem dX8_offset_35 : decode cX8_offset 35 = .ok (.iload_n 2, 1) := by decide +kernel
theorem dX8_offset_36 : decode cX8_offset 36 = .ok (.putfield 200, 3) := by decide +kernel
theorem dX8_offset_39 : decode cX8_offset 39 = .ok (.iconst 1, 1) := by decide +kernel
theorem dX8_offset_40 : decode cX8_offset 40 = .ok (.ireturn, 1) := by decide +kernel
set_option maxHeartbeats 4000000 in
set_option maxRecDepth 100000 in
theorem g_X8_offset (l : Launch) (G : xG) (S : yS) (d : yD) (q0 : Nat) (p0 : Int32) (p1 : Int32) (hSh : ySh S) (hPo : yPo S d) (hm_q0 : q0 ∈ S.1) (hk_q0 : S.2.1 q0 = 8) : xWi l G yX8_offset cX8_offset 3 (some .boolean) 2 43 0 0 [.ref q0, .int p0, .int p1] (yW G S d) (fun r (u : yD) => yAg S [4, 8, 24] d u ∧ (yPo S d → yPo S u) ∧ (u.1 q0 4 = d.1 q0 4)) (fun u => yW G S u) := by
  intro sz
  refine xstart (by decide) (Nat.le_of_ble_eq_true rfl) (fun p e s m args below meth c ls C0 hr hlocks hin hsz hP hK hD hN hl => ?_)
  obtain ⟨hx, hb, hml, hown, htl⟩ := id C0
  subst hsz
  have hD := hD.self (sz := s.heap.size)
  generalize hAe : va_A (yW G S d) s.heap.size = A at hD ⊢
  have hA : ∀ q : Nat, s.heap.size ≤ q → A q := fun q h => by rw [← hAe]; exact Or.inr h
  have hS : va_S A s.heap s.heap [] := va_S.rf
  have hg0 : yAg S [4, 8, 24] d d := yAg.rf
  have hl : lv_has ls 3 [(0, .ref q0), (1, .int p0), (2, .int p1)] := hl
  refine lv_aload_n hx hb dX8_offset_0 rfl (lv_at hl 0 rfl) ?_
  refine lv_aload_n hx hb dX8_offset_1 rfl (lv_at hl 0 rfl) ?_
  refine lv_iload_n hx hb dX8_offset_2 rfl (lv_at hl 1 rfl) ?_
  refine yVri (As := [.int p0]) (rest := [.ref q0]) C0 (g_X8_portReason l G S d q0 p0 hSh hm_q0 hk_q0) ok_X8_portReason (mW374 : Cond.methodLink RX8 124 yX8_portReason ∈ wsT) ⟨Nat.le_of_ble_eq_true rfl, Nat.le_of_ble_eq_true rfl⟩ hP hD hK hN hm_q0 hk_q0 (by decide) rfl rfl rfl hl.1 rfl (Nat.le_of_ble_eq_true rfl) ⟨Nat.le_of_ble_eq_true rfl, Nat.le_of_ble_eq_true rfl⟩ dX8_offset_3 (fun r_1 hr_1 => ?_)
  refine lv_iload_n hx hb dX8_offset_6 rfl (lv_at hl 2 rfl) ?_
  refine lv_iconst (v := 0) hx hb dX8_offset_7 (by decide) ?_
  refine lv_ldc (v := 1000000) hx hb hown (htl (.constant RX8 87 (1000000)) mW257) dX8_offset_8 ?_
  refine ySri (As := [.int p1, .int 0, .int 1000000]) (rest := [.int r_1, .ref q0]) C0 (g_X8_within l G S d p1 0 1000000 ) ok_X8_within (mW193 : Cond.methodLink RX8 71 yX8_within ∈ wsT) ⟨Nat.le_of_ble_eq_true rfl, Nat.le_of_ble_eq_true rfl⟩ hP hD hK hN rfl hl.1 rfl (Nat.le_of_ble_eq_true rfl) ⟨Nat.le_of_ble_eq_true rfl, Nat.le_of_ble_eq_true rfl⟩ dX8_offset_10 (fun r_2 hr_2 => ?_)
  refine ySri (As := [.int r_2]) (rest := [.int r_1, .ref q0]) C0 (g_X8_number l G S d r_2 ) ok_X8_number (mW196 : Cond.methodLink RX8 54 yX8_number ∈ wsT) ⟨Nat.le_of_ble_eq_true rfl, Nat.le_of_ble_eq_true rfl⟩ hP hD hK hN rfl hl.1 rfl (Nat.le_of_ble_eq_true rfl) ⟨Nat.le_of_ble_eq_true rfl, Nat.le_of_ble_eq_true rfl⟩ dX8_offset_13 (fun r_3 hr_3 => ?_)
  refine ySri (As := [.int r_1, .int r_3]) (rest := [.ref q0]) C0 (g_X8_least l G S d r_1 r_3 ) ok_X8_least (mW199 : Cond.methodLink RX8 58 yX8_least ∈ wsT) ⟨Nat.le_of_ble_eq_true rfl, Nat.le_of_ble_eq_true rfl⟩ hP hD hK hN rfl hl.1 rfl (Nat.le_of_ble_eq_true rfl) ⟨Nat.le_of_ble_eq_true rfl, Nat.le_of_ble_eq_true rfl⟩ dX8_offset_16 (fun r_4 hr_4 => ?_)
  refine yVwi (As := [.int r_4]) (rest := []) C0 (g_X8_refused l G S d q0 r_4 hSh hPo hm_q0 hk_q0) ok_X8_refused (mW160 : Cond.methodLink RX8 42 yX8_refused ∈ wsT) ⟨Nat.le_of_ble_eq_true rfl, Nat.le_of_ble_eq_true rfl⟩ hP hD hS hA hK hN hm_q0 hk_q0 (by decide) rfl rfl rfl hl.1 rfl (Nat.le_of_ble_eq_true rfl) ⟨Nat.le_of_ble_eq_true rfl, Nat.le_of_ble_eq_true rfl⟩ dX8_offset_19 (fun r_5 d_6 H locs hr_5 hP hD hS => ?_)
  obtain ⟨hgad_6, hpad_6, hxd_6⟩ := hr_5
  have hgd_6 : yAg S [4, 8, 24] d d_6 := yAg.tr hg0 hgad_6 (by first | decide | exact fun _ h => h)
  have hPod_6 : yPo S d_6 := hpad_6 hPo
  refine lv_if_eq (tgt := 27) hx hb dX8_offset_22 (by decide) (fun c_7 => ?_) (fun c_7 => ?_)
  · refine lv_aload_n hx hb dX8_offset_27 rfl (lv_at hl 0 rfl) ?_
    refine yget (ci := 8) (k := 0) (v := .ref (S.2.2.1 q0 0)) (C := RX8) (T := TX8) (N := 6) C0 hK hP hm_q0 hk_q0 (by decide) rfl inlX8 (by decide) mW16 (fun _ h9 => h9) rfl dX8_offset_28 ?_
    obtain ⟨hmy_8, hky_8⟩ := ySh.f8_0 hSh _ hm_q0 hk_q0
    refine lv_iload_n hx hb dX8_offset_31 rfl (lv_at hl 1 rfl) ?_
    refine yVrr (As := [.int p0]) (rest := []) C0 (g_X0_portAt l G S d_6 (S.2.2.1 q0 0) p0 hSh hmy_8 hky_8) ok_X0_portAt (mW337 : Cond.methodLink RX8 114 yX0_portAt ∈ wsT) ⟨Nat.le_of_ble_eq_true rfl, Nat.le_of_ble_eq_true rfl⟩ hP hD hK hN hmy_8 hky_8 (by decide) rfl rfl rfl hl.1 rfl (Nat.le_of_ble_eq_true rfl) ⟨Nat.le_of_ble_eq_true rfl, Nat.le_of_ble_eq_true rfl⟩ dX8_offset_32 (fun r_9 hr_9 => ?_)
    obtain ⟨hmr_9, hkr_9, her_9⟩ := hr_9
    refine lv_iload_n hx hb dX8_offset_35 rfl (lv_at hl 2 rfl) ?_
    refine yputI (ci := 4) (k := 7) (ty := .int) (C := RX4) (T := TX4) (N := 11) C0 hK hP hD hS hmr_9 hkr_9 (by decide) rfl inlX4 tyX4 tyX4_ok nmX4 (by decide) mW534 (fun _ h9 => h9) rfl (by decide +kernel) rfl rfl (Nat.le_of_ble_eq_true rfl) ysi_4_7 dX8_offset_36 (fun H locs hP hD hS => ?_)
    obtain ⟨d_10, ed_10⟩ : ∃ z : yD, z = yi d_6 r_9 7 p1 := ⟨_, rfl⟩
    rw [← ed_10] at hP hD
    have hgd_10 : yAg S [4, 8, 24] d d_10 := by rw [ed_10]; exact yAg.i hgd_6 (by rw [hkr_9]; decide)
    have hsd_10 : yAg S [4] d_6 d_10 := by rw [ed_10]; exact yAg.i yAg.rf (by rw [hkr_9]; decide)
    have hPod_10 : yPo S d_10 := by rw [ed_10]; exact yPo.i hPod_6 hkr_9 (Or.inl rfl)
    refine lv_iconst (v := 1) hx hb dX8_offset_39 (by decide) ?_
    exact W.zret (v := 1) (ty := .boolean) hx hb hr rfl (fun t ht hW => ⟨⟨1, d_10, rfl, ⟨hgd_10, (fun _ => hPod_10), ((congrFun (hsd_10 q0 (by rw [hk_q0]; decide)).1 4).trans (hxd_6.2))⟩, by rw [ht]; exact hP, hD⟩, hS.F ht⟩) hS.2.2 dX8_offset_40
  · refine lv_iconst (v := 0) hx hb dX8_offset_25 (by decide) ?_
    exact W.zret (v := 0) (ty := .boolean) hx hb hr rfl (fun t ht hW => ⟨⟨0, d_6, rfl, ⟨hgd_6, (fun _ => hPod_6), (hxd_6.2)⟩, by rw [ht]; exact hP, hD⟩, hS.F ht⟩) hS.2.2 dX8_offset_26
theorem dX8_rate_0 : decode cX8_rate 0 = .ok (.lload_n 2, 1) := by decide +kernel
theorem dX8_rate_1 : decode cX8_rate 1 = .ok (.lconst 0, 1) := by decide +kernel
theorem dX8_rate_2 : decode cX8_rate 2 = .ok (.lcmp, 1) := by decide +kernel
theorem dX8_rate_3 : decode cX8_rate 3 = .ok (.ifCond .lt 31, 3) := by decide +kernel
theorem dX8_rate_6 : decode cX8_rate 6 = .ok (.lload_n 2, 1) := by decide +kernel
theorem dX8_rate_7 : decode cX8_rate 7 = .ok (.ldc2_w 203, 3) := by decide +kernel
theorem dX8_rate_10 : decode cX8_rate 10 = .ok (.lcmp, 1) := by decide +kernel
theorem dX8_rate_11 : decode cX8_rate 11 = .ok (.ifCond .gt 23, 3) := by decide +kernel
theorem dX8_rate_14 : decode cX8_rate 14 = .ok (.lload 4, 2) := by decide +kernel
theorem dX8_rate_16 : decode cX8_rate 16 = .ok (.lconst 0, 1) := by decide +kernel
theorem dX8_rate_17 : decode cX8_rate 17 = .ok (.lcmp, 1) := by decide +kernel
theorem dX8_rate_18 : decode cX8_rate 18 = .ok (.ifCond .lt 16, 3) := by decide +kernel
theorem dX8_rate_21 : decode cX8_rate 21 = .ok (.lload 4, 2) := by decide +kernel
theorem dX8_rate_23 : decode cX8_rate 23 = .ok (.ldc2_w 203, 3) := by decide +kernel
theorem dX8_rate_26 : decode cX8_rate 26 = .ok (.lcmp, 1) := by decide +kernel
theorem dX8_rate_27 : decode cX8_rate 27 = .ok (.ifCond .gt 7, 3) := by decide +kernel
theorem dX8_rate_30 : decode cX8_rate 30 = .ok (.iconst 1, 1) := by decide +kernel
theorem dX8_rate_31 : decode cX8_rate 31 = .ok (.goto 4, 3) := by decide +kernel
theorem dX8_rate_34 : decode cX8_rate 34 = .ok (.iconst 0, 1) := by decide +kernel
theorem dX8_rate_35 : decode cX8_rate 35 = .ok (.istore 6, 2) := by decide +kernel
theorem dX8_rate_37 : decode cX8_rate 37 = .ok (.aload_n 0, 1) := by decide +kernel
theorem dX8_rate_38 : decode cX8_rate 38 = .ok (.aload_n 0, 1) := by decide +kernel
theorem dX8_rate_39 : decode cX8_rate 39 = .ok (.iload_n 1, 1) := by decide +kernel
theorem dX8_rate_40 : decode cX8_rate 40 = .ok (.invokevirtual 124, 3) := by decide +kernel
theorem dX8_rate_43 : decode cX8_rate 43 = .ok (.iload 6, 2) := by decide +kernel
theorem dX8_rate_45 : decode cX8_rate 45 = .ok (.invokestatic 54, 3) := by decide +kernel
theorem dX8_rate_48 : decode cX8_rate 48 = .ok (.invokestatic 58, 3) := by decide +kernel
theorem dX8_rate_51 : decode cX8_rate 51 = .ok (.invokevirtual 42, 3) := by decide +kernel
theorem dX8_rate_54 : decode cX8_rate 54 = .ok (.ifCond .eq 5, 3) := by decide +kernel
theorem dX8_rate_57 : decode cX8_rate 57 = .ok (.iconst 0, 1) := by decide +kernel
theorem dX8_rate_58 : decode cX8_rate 58 = .ok (.ireturn, 1) := by decide +kernel
theorem dX8_rate_59 : decode cX8_rate 59 = .ok (.aload_n 0, 1) := by decide +kernel
theorem dX8_rate_60 : decode cX8_rate 60 = .ok (.getfield 12, 3) := by decide +kernel
theorem dX8_rate_63 : decode cX8_rate 63 = .ok (.iload_n 1, 1) := by decide +kernel
theorem dX8_rate_64 : decode cX8_rate 64 = .ok (.invokevirtual 114, 3) := by decide +kernel
theorem dX8_rate_67 : decode cX8_rate 67 = .ok (.lload_n 2, 1) := by decide +kernel
theorem dX8_rate_68 : decode cX8_rate 68 = .ok (.putfield 205, 3) := by decide +kernel
theorem dX8_rate_71 : decode cX8_rate 71 = .ok (.aload_n 0, 1) := by decide +kernel
theorem dX8_rate_72 : decode cX8_rate 72 = .ok (.getfield 12, 3) := by decide +kernel
theorem dX8_rate_75 : decode cX8_rate 75 = .ok (.iload_n 1, 1) := by decide +kernel
theorem dX8_rate_76 : decode cX8_rate 76 = .ok (.invokevirtual 114, 3) := by decide +kernel
theorem dX8_rate_79 : decode cX8_rate 79 = .ok (.lload 4, 2) := by decide +kernel
theorem dX8_rate_81 : decode cX8_rate 81 = .ok (.putfield 208, 3) := by decide +kernel
theorem dX8_rate_84 : decode cX8_rate 84 = .ok (.iconst 1, 1) := by decide +kernel
theorem dX8_rate_85 : decode cX8_rate 85 = .ok (.ireturn, 1) := by decide +kernel
set_option maxHeartbeats 4000000 in
set_option maxRecDepth 100000 in
theorem g_X8_rate (l : Launch) (G : xG) (S : yS) (d : yD) (q0 : Nat) (p0 : Int32) (p1 : Int64) (p2 : Int64) (hSh : ySh S) (hPo : yPo S d) (hm_q0 : q0 ∈ S.1) (hk_q0 : S.2.1 q0 = 8) : xWi l G yX8_rate cX8_rate 7 (some .boolean) 2 43 0 0 [.ref q0, .int p0, .long p1, .long p2] (yW G S d) (fun r (u : yD) => yAg S [4, 8, 24] d u ∧ (yPo S d → yPo S u) ∧ (u.1 q0 4 = d.1 q0 4)) (fun u => yW G S u) := by
  intro sz
  refine xstart (by decide) (Nat.le_of_ble_eq_true rfl) (fun p e s m args below meth c ls C0 hr hlocks hin hsz hP hK hD hN hl => ?_)
  obtain ⟨hx, hb, hml, hown, htl⟩ := id C0
  subst hsz
  have hD := hD.self (sz := s.heap.size)
  generalize hAe : va_A (yW G S d) s.heap.size = A at hD ⊢
  have hA : ∀ q : Nat, s.heap.size ≤ q → A q := fun q h => by rw [← hAe]; exact Or.inr h
  have hS : va_S A s.heap s.heap [] := va_S.rf
  have hg0 : yAg S [4, 8, 24] d d := yAg.rf
  have hl : lv_has ls 7 [(0, .ref q0), (1, .int p0), (2, .long p1), (4, .long p2)] := hl
  refine lv_lload_n hx hb dX8_rate_0 rfl (lv_at hl 2 rfl) ?_
  refine lv_lconst (v := 0) hx hb dX8_rate_1 (by decide) ?_
  refine W.lcmp hx hb dX8_rate_2 ?_
  refine lv_topi (fun z_1 ez_1 => ?_)
  refine yjoinR (σ := Int32) 35 (fun x ls st => st = [.int x] ∧ lv_has ls 7 [(0, .ref q0), (1, .int p0), (2, .long p1), (4, .long p2)] ∧ (x = 0 ∨ x = 1)) (fun x ls st hI => ?_) (fun J35_2 => ?_)
  · obtain ⟨v_2, rfl⟩ : ∃ z, z = x := ⟨_, rfl⟩
    obtain ⟨rfl, hl, hzv_2⟩ := hI
    have hl : lv_has ls 7 [(0, .ref q0), (1, .int p0), (2, .long p1), (4, .long p2)] := hl
    refine lv_istore (lv' := [(6, .int v_2), (0, .ref q0), (1, .int p0), (2, .long p1), (4, .long p2)]) hx hb dX8_rate_35 hl (by decide) rfl (fun ls hl => ?_)
    refine lv_aload_n hx hb dX8_rate_37 rfl (lv_at hl 1 rfl) ?_
    refine lv_aload_n hx hb dX8_rate_38 rfl (lv_at hl 1 rfl) ?_
    refine lv_iload_n hx hb dX8_rate_39 rfl (lv_at hl 2 rfl) ?_
    refine yVri (As := [.int p0]) (rest := [.ref q0]) C0 (g_X8_portReason l G S d q0 p0 hSh hm_q0 hk_q0) ok_X8_portReason (mW374 : Cond.methodLink RX8 124 yX8_portReason ∈ wsT) ⟨Nat.le_of_ble_eq_true rfl, Nat.le_of_ble_eq_true rfl⟩ hP hD hK hN hm_q0 hk_q0 (by decide) rfl rfl rfl hl.1 rfl (Nat.le_of_ble_eq_true rfl) ⟨Nat.le_of_ble_eq_true rfl, Nat.le_of_ble_eq_true rfl⟩ dX8_rate_40 (fun r_3 hr_3 => ?_)
    refine lv_iload hx hb dX8_rate_43 (lv_at hl 0 rfl) ?_
    refine ySri (As := [.int v_2]) (rest := [.int r_3, .ref q0]) C0 (g_X8_number l G S d v_2 ) ok_X8_number (mW196 : Cond.methodLink RX8 54 yX8_number ∈ wsT) ⟨Nat.le_of_ble_eq_true rfl, Nat.le_of_ble_eq_true rfl⟩ hP hD hK hN rfl hl.1 rfl (Nat.le_of_ble_eq_true rfl) ⟨Nat.le_of_ble_eq_true rfl, Nat.le_of_ble_eq_true rfl⟩ dX8_rate_45 (fun r_4 hr_4 => ?_)
    refine ySri (As := [.int r_3, .int r_4]) (rest := [.ref q0]) C0 (g_X8_least l G S d r_3 r_4 ) ok_X8_least (mW199 : Cond.methodLink RX8 58 yX8_least ∈ wsT) ⟨Nat.le_of_ble_eq_true rfl, Nat.le_of_ble_eq_true rfl⟩ hP hD hK hN rfl hl.1 rfl (Nat.le_of_ble_eq_true rfl) ⟨Nat.le_of_ble_eq_true rfl, Nat.le_of_ble_eq_true rfl⟩ dX8_rate_48 (fun r_5 hr_5 => ?_)
    refine yVwi (As := [.int r_5]) (rest := []) C0 (g_X8_refused l G S d q0 r_5 hSh hPo hm_q0 hk_q0) ok_X8_refused (mW160 : Cond.methodLink RX8 42 yX8_refused ∈ wsT) ⟨Nat.le_of_ble_eq_true rfl, Nat.le_of_ble_eq_true rfl⟩ hP hD hS hA hK hN hm_q0 hk_q0 (by decide) rfl rfl rfl hl.1 rfl (Nat.le_of_ble_eq_true rfl) ⟨Nat.le_of_ble_eq_true rfl, Nat.le_of_ble_eq_true rfl⟩ dX8_rate_51 (fun r_6 d_7 H locs hr_6 hP hD hS => ?_)
    obtain ⟨hgad_7, hpad_7, hxd_7⟩ := hr_6
    have hgd_7 : yAg S [4, 8, 24] d d_7 := yAg.tr hg0 hgad_7 (by first | decide | exact fun _ h => h)
    have hPod_7 : yPo S d_7 := hpad_7 hPo
    refine lv_if_eq (tgt := 59) hx hb dX8_rate_54 (by decide) (fun c_8 => ?_) (fun c_8 => ?_)
    · refine lv_aload_n hx hb dX8_rate_59 rfl (lv_at hl 1 rfl) ?_
      refine yget (ci := 8) (k := 0) (v := .ref (S.2.2.1 q0 0)) (C := RX8) (T := TX8) (N := 6) C0 hK hP hm_q0 hk_q0 (by decide) rfl inlX8 (by decide) mW16 (fun _ h9 => h9) rfl dX8_rate_60 ?_
      obtain ⟨hmy_9, hky_9⟩ := ySh.f8_0 hSh _ hm_q0 hk_q0
      refine lv_iload_n hx hb dX8_rate_63 rfl (lv_at hl 2 rfl) ?_
      refine yVrr (As := [.int p0]) (rest := []) C0 (g_X0_portAt l G S d_7 (S.2.2.1 q0 0) p0 hSh hmy_9 hky_9) ok_X0_portAt (mW337 : Cond.methodLink RX8 114 yX0_portAt ∈ wsT) ⟨Nat.le_of_ble_eq_true rfl, Nat.le_of_ble_eq_true rfl⟩ hP hD hK hN hmy_9 hky_9 (by decide) rfl rfl rfl hl.1 rfl (Nat.le_of_ble_eq_true rfl) ⟨Nat.le_of_ble_eq_true rfl, Nat.le_of_ble_eq_true rfl⟩ dX8_rate_64 (fun r_10 hr_10 => ?_)
      obtain ⟨hmr_10, hkr_10, her_10⟩ := hr_10
      refine lv_lload_n hx hb dX8_rate_67 rfl (lv_at hl 3 rfl) ?_
      refine yputJ (ci := 4) (k := 9) (C := RX4) (T := TX4) (N := 11) C0 hK hP hD hS hmr_10 hkr_10 (by decide) rfl inlX4 tyX4 tyX4_ok nmX4 (by decide) mW545 (fun _ h9 => h9) rfl (by decide +kernel) (Nat.le_of_ble_eq_true rfl) ysj_4_9 dX8_rate_68 (fun H locs hP hD hS => ?_)
      obtain ⟨d_11, ed_11⟩ : ∃ z : yD, z = yj d_7 r_10 9 p1 := ⟨_, rfl⟩
      rw [← ed_11] at hP hD
      have hgd_11 : yAg S [4, 8, 24] d d_11 := by rw [ed_11]; exact yAg.j hgd_7 (by rw [hkr_10]; decide)
      have hsd_11 : yAg S [4] d_7 d_11 := by rw [ed_11]; exact yAg.j yAg.rf (by rw [hkr_10]; decide)
      have hPod_11 : yPo S d_11 := by rw [ed_11]; exact hPod_7
      refine lv_aload_n hx hb dX8_rate_71 rfl (lv_at hl 1 rfl) ?_
      refine yget (ci := 8) (k := 0) (v := .ref (S.2.2.1 q0 0)) (C := RX8) (T := TX8) (N := 6) C0 hK hP hm_q0 hk_q0 (by decide) rfl inlX8 (by decide) mW16 (fun _ h9 => h9) rfl dX8_rate_72 ?_
      refine lv_iload_n hx hb dX8_rate_75 rfl (lv_at hl 2 rfl) ?_
      refine yVrr (As := [.int p0]) (rest := []) C0 (g_X0_portAt l G S d_11 (S.2.2.1 q0 0) p0 hSh hmy_9 hky_9) ok_X0_portAt (mW337 : Cond.methodLink RX8 114 yX0_portAt ∈ wsT) ⟨Nat.le_of_ble_eq_true rfl, Nat.le_of_ble_eq_true rfl⟩ hP hD hK hN hmy_9 hky_9 (by decide) rfl rfl rfl hl.1 rfl (Nat.le_of_ble_eq_true rfl) ⟨Nat.le_of_ble_eq_true rfl, Nat.le_of_ble_eq_true rfl⟩ dX8_rate_76 (fun r_12 hr_12 => ?_)
      obtain ⟨hmr_12, hkr_12, her_12⟩ := hr_12
      refine lv_lload hx hb dX8_rate_79 (lv_at hl 4 rfl) ?_
      refine yputJ (ci := 4) (k := 10) (C := RX4) (T := TX4) (N := 11) C0 hK hP hD hS hmr_12 hkr_12 (by decide) rfl inlX4 tyX4 tyX4_ok nmX4 (by decide) mW546 (fun _ h9 => h9) rfl (by decide +kernel) (Nat.le_of_ble_eq_true rfl) ysj_4_10 dX8_rate_81 (fun H locs hP hD hS => ?_)
      obtain ⟨d_13, ed_13⟩ : ∃ z : yD, z = yj d_11 r_12 10 p2 := ⟨_, rfl⟩
      rw [← ed_13] at hP hD
      have hgd_13 : yAg S [4, 8, 24] d d_13 := by rw [ed_13]; exact yAg.j hgd_11 (by rw [hkr_12]; decide)
      have hsd_13 : yAg S [4] d_11 d_13 := by rw [ed_13]; exact yAg.j yAg.rf (by rw [hkr_12]; decide)
      have hPod_13 : yPo S d_13 := by rw [ed_13]; exact hPod_11
      refine lv_iconst (v := 1) hx hb dX8_rate_84 (by decide) ?_
      exact W.zret (v := 1) (ty := .boolean) hx hb hr rfl (fun t ht hW => ⟨⟨1, d_13, rfl, ⟨hgd_13, (fun _ => hPod_13), ((congrFun (hsd_13 q0 (by rw [hk_q0]; decide)).1 4).trans ((congrFun (hsd_11 q0 (by rw [hk_q0]; decide)).1 4).trans (hxd_7.2)))⟩, by rw [ht]; exact hP, hD⟩, hS.F ht⟩) hS.2.2 dX8_rate_85
    · refine lv_iconst (v := 0) hx hb dX8_rate_57 (by decide) ?_
      exact W.zret (v := 0) (ty := .boolean) hx hb hr rfl (fun t ht hW => ⟨⟨0, d_7, rfl, ⟨hgd_7, (fun _ => hPod_7), (hxd_7.2)⟩, by rw [ht]; exact hP, hD⟩, hS.F ht⟩) hS.2.2 dX8_rate_58
  refine lv_if_lt (tgt := 34) hx hb dX8_rate_3 (by decide) (fun c_14 => ?_) (fun c_14 => ?_)
  · refine lv_iconst (v := 0) hx hb dX8_rate_34 (by decide) ?_
    exact J35_2 0 ls _ ⟨rfl, lv_sub hl [0, 1, 2, 3] rfl, Or.inl rfl⟩
  · refine lv_lload_n hx hb dX8_rate_6 rfl (lv_at hl 2 rfl) ?_
    refine lv_ldc2 (v := 1000000000) hx hb hown (htl (.constantLong RX8 203 (1000000000)) mW544) dX8_rate_7 ?_
    refine W.lcmp hx hb dX8_rate_10 ?_
    refine lv_topi (fun z_15 ez_15 => ?_)
    refine lv_if_gt (tgt := 34) hx hb dX8_rate_11 (by decide) (fun c_16 => ?_) (fun c_16 => ?_)
    · refine lv_iconst (v := 0) hx hb dX8_rate_34 (by decide) ?_
      exact J35_2 0 ls _ ⟨rfl, lv_sub hl [0, 1, 2, 3] rfl, Or.inl rfl⟩
    · refine lv_lload hx hb dX8_rate_14 (lv_at hl 3 rfl) ?_
      refine lv_lconst (v := 0) hx hb dX8_rate_16 (by decide) ?_
      refine W.lcmp hx hb dX8_rate_17 ?_
      refine lv_topi (fun z_17 ez_17 => ?_)
      refine lv_if_lt (tgt := 34) hx hb dX8_rate_18 (by decide) (fun c_18 => ?_) (fun c_18 => ?_)
      · refine lv_iconst (v := 0) hx hb dX8_rate_34 (by decide) ?_
        exact J35_2 0 ls _ ⟨rfl, lv_sub hl [0, 1, 2, 3] rfl, Or.inl rfl⟩
      · refine lv_lload hx hb dX8_rate_21 (lv_at hl 3 rfl) ?_
        refine lv_ldc2 (v := 1000000000) hx hb hown (htl (.constantLong RX8 203 (1000000000)) mW544) dX8_rate_23 ?_
        refine W.lcmp hx hb dX8_rate_26 ?_
        refine lv_topi (fun z_19 ez_19 => ?_)
        refine lv_if_gt (tgt := 34) hx hb dX8_rate_27 (by decide) (fun c_20 => ?_) (fun c_20 => ?_)
        · refine lv_iconst (v := 0) hx hb dX8_rate_34 (by decide) ?_
          exact J35_2 0 ls _ ⟨rfl, lv_sub hl [0, 1, 2, 3] rfl, Or.inl rfl⟩
        · refine lv_iconst (v := 1) hx hb dX8_rate_30 (by decide) ?_
          refine lv_goto (tgt := 35) hx hb dX8_rate_31 (by decide) ?_
          exact J35_2 1 ls _ ⟨rfl, lv_sub hl [0, 1, 2, 3] rfl, Or.inr rfl⟩
theorem dX8_together_0 : decode cX8_together 0 = .ok (.iload_n 1, 1) := by decide +kernel
theorem dX8_together_1 : decode cX8_together 1 = .ok (.iconst 0, 1) := by decide +kernel
theorem dX8_together_2 : decode cX8_together 2 = .ok (.sipush 255, 3) := by decide +kernel
theorem dX8_together_5 : decode cX8_together 5 = .ok (.invokestatic 71, 3) := by decide +kernel
theorem dX8_together_8 : decode cX8_together 8 = .ok (.invokestatic 54, 3) := by decide +kernel
theorem dX8_together_11 : decode cX8_together 11 = .ok (.istore_n 2, 1) := by decide +kernel
theorem dX8_together_12 : decode cX8_together 12 = .ok (.iconst 0, 1) := by decide +kernel
theorem dX8_together_13 : decode cX8_together 13 = .ok (.istore_n 3, 1) := by decide +kernel
theorem dX8_together_14 : decode cX8_together 14 = .ok (.iload_n 3, 1) := by decide +kernel
theorem dX8_together_15 : decode cX8_together 15 = .ok (.bipush 8, 2) := by decide +kernel
theorem dX8_together_17 : decode cX8_together 17 = .ok (.if_icmp .ge 28, 3) := by decide +kernel
theorem dX8_together_20 : decode cX8_together 20 = .ok (.iload_n 2, 1) := by decide +kernel
theorem dX8_together_21 : decode cX8_together 21 = .ok (.ifCond .ne 24, 3) := by decide +kernel
theorem dX8_together_24 : decode cX8_together 24 = .ok (.iload_n 1, 1) := by decide +kernel
theorem dX8_together_25 : decode cX8_together 25 = .ok (.iload_n 3, 1) := by decide +kernel
theorem dX8_together_26 : decode cX8_together 26 = .ok (.ishr, 1) := by decide +kernel
theorem dX8_together_27 : decode cX8_together 27 = .ok (.iconst 1, 1) := by decide +kernel
theorem dX8_together_28 : decode cX8_together 28 = .ok (.iand, 1) := by decide +kernel
theorem dX8_together_29 : decode cX8_together 29 = .ok (.iconst 1, 1) := by decide +kernel
theorem dX8_together_30 : decode cX8_together 30 = .ok (.if_icmp .ne 9, 3) := by decide +kernel
theorem dX8_together_33 : decode cX8_together 33 = .ok (.aload_n 0, 1) := by decide +kernel
theorem dX8_together_34 : decode cX8_together 34 = .ok (.iload_n 3, 1) := by decide +kernel
theorem dX8_together_35 : decode cX8_together 35 = .ok (.invokevirtual 124, 3) := by decide +kernel
theorem dX8_together_38 : decode cX8_together 38 = .ok (.istore_n 2, 1) := by decide +kernel
theorem dX8_together_39 : decode cX8_together 39 = .ok (.iinc 3 1, 3) := by decide +kernel
theorem dX8_together_42 : decode cX8_together 42 = .ok (.goto (-28), 3) := by decide +kernel
theorem dX8_together_45 : decode cX8_together 45 = .ok (.aload_n 0, 1) := by decide +kernel
theorem dX8_together_46 : decode cX8_together 46 = .ok (.iload_n 2, 1) := by decide +kernel
theorem dX8_together_47 : decode cX8_together 47 = .ok (.invokevirtual 42, 3) := by decide +kernel
theorem dX8_together_50 : decode cX8_together 50 = .ok (.ifCond .eq 5, 3) := by decide +kernel
theorem dX8_together_53 : decode cX8_together 53 = .ok (.iconst 0, 1) := by decide +kernel
theorem dX8_together_54 : decode cX8_together 54 = .ok (.ireturn, 1) := by decide +kernel
theorem dX8_together_55 : decode cX8_together 55 = .ok (.aload_n 0, 1) := by decide +kernel
theorem dX8_together_56 : decode cX8_together 56 = .ok (.getfield 12, 3) := by decide +kernel
theorem dX8_together_59 : decode cX8_together 59 = .ok (.iload_n 1, 1) := by decide +kernel
theorem dX8_together_60 : decode cX8_together 60 = .ok (.putfield 211, 3) := by decide +kernel
theorem dX8_together_63 : decode cX8_together 63 = .ok (.iconst 1, 1) := by decide +kernel
theorem dX8_together_64 : decode cX8_together 64 = .ok (.ireturn, 1) := by decide +kernel
set_option maxHeartbeats 4000000 in
set_option maxRecDepth 100000 in
theorem g_X8_together (l : Launch) (G : xG) (S : yS) (d : yD) (q0 : Nat) (p0 : Int32) (hSh : ySh S) (hPo : yPo S d) (hm_q0 : q0 ∈ S.1) (hk_q0 : S.2.1 q0 = 8) : xWi l G yX8_together cX8_together 4 (some .boolean) 2 43 0 0 [.ref q0, .int p0] (yW G S d) (fun r (u : yD) => yAg S [0, 8, 24] d u ∧ (yPo S d → yPo S u) ∧ (u.1 q0 4 = d.1 q0 4)) (fun u => yW G S u) := by
  intro sz
  refine xstart (by decide) (Nat.le_of_ble_eq_true rfl) (fun p e s m args below meth c ls C0 hr hlocks hin hsz hP hK hD hN hl => ?_)
  obtain ⟨hx, hb, hml, hown, htl⟩ := id C0
  subst hsz
  have hD := hD.self (sz := s.heap.size)
  generalize hAe : va_A (yW G S d) s.heap.size = A at hD ⊢
  have hA : ∀ q : Nat, s.heap.size ≤ q → A q := fun q h => by rw [← hAe]; exact Or.inr h
  have hS : va_S A s.heap s.heap [] := va_S.rf
  have hg0 : yAg S [0, 8, 24] d d := yAg.rf
  have hl : lv_has ls 4 [(0, .ref q0), (1, .int p0)] := hl
  refine lv_iload_n hx hb dX8_together_0 rfl (lv_at hl 1 rfl) ?_
  refine lv_iconst (v := 0) hx hb dX8_together_1 (by decide) ?_
  refine lv_sipush (v := 255) hx hb dX8_together_2 (by decide) ?_
  refine ySri (As := [.int p0, .int 0, .int 255]) (rest := []) C0 (g_X8_within l G S d p0 0 255 ) ok_X8_within (mW193 : Cond.methodLink RX8 71 yX8_within ∈ wsT) ⟨Nat.le_of_ble_eq_true rfl, Nat.le_of_ble_eq_true rfl⟩ hP hD hK hN rfl hl.1 rfl (Nat.le_of_ble_eq_true rfl) ⟨Nat.le_of_ble_eq_true rfl, Nat.le_of_ble_eq_true rfl⟩ dX8_together_5 (fun r_1 hr_1 => ?_)
  refine ySri (As := [.int r_1]) (rest := []) C0 (g_X8_number l G S d r_1 ) ok_X8_number (mW196 : Cond.methodLink RX8 54 yX8_number ∈ wsT) ⟨Nat.le_of_ble_eq_true rfl, Nat.le_of_ble_eq_true rfl⟩ hP hD hK hN rfl hl.1 rfl (Nat.le_of_ble_eq_true rfl) ⟨Nat.le_of_ble_eq_true rfl, Nat.le_of_ble_eq_true rfl⟩ dX8_together_8 (fun r_2 hr_2 => ?_)
  refine lv_istore_n (lv' := [(2, .int r_2), (0, .ref q0), (1, .int p0)]) hx hb dX8_together_11 rfl hl (by decide) rfl (fun ls hl => ?_)
  refine lv_iconst (v := 0) hx hb dX8_together_12 (by decide) ?_
  refine lv_istore_n (lv' := [(3, .int 0), (2, .int r_2), (0, .ref q0), (1, .int p0)]) hx hb dX8_together_13 rfl hl (by decide) rfl (fun ls hl => ?_)
  refine yloopR (σ := Int32 × Int32) (fun x => (2147483647 - (x.2 : Int32).toInt).toNat) 14 (fun x ls => lv_has ls 4 [(3, .int x.2), (2, .int x.1), (0, .ref q0), (1, .int p0)]) (fun x ls hl hnext_5 => ?_) (r_2, 0) (lv_sub hl [0, 1, 2, 3] rfl)
  obtain ⟨v_3, v_4⟩ := x
  have hl : lv_has ls 4 [(3, .int v_4), (2, .int v_3), (0, .ref q0), (1, .int p0)] := hl
  refine lv_iload_n hx hb dX8_together_14 rfl (lv_at hl 0 rfl) ?_
  refine lv_bipush (v := 8) hx hb dX8_together_15 (by decide) ?_
  refine lv_icmp_ge (tgt := 45) hx hb dX8_together_17 (by decide) (fun c_7 => ?_) (fun c_7 => ?_)
  · refine lv_aload_n hx hb dX8_together_45 rfl (lv_at hl 2 rfl) ?_
    refine lv_iload_n hx hb dX8_together_46 rfl (lv_at hl 1 rfl) ?_
    refine yVwi (As := [.int v_3]) (rest := []) C0 (g_X8_refused l G S d q0 v_3 hSh hPo hm_q0 hk_q0) ok_X8_refused (mW160 : Cond.methodLink RX8 42 yX8_refused ∈ wsT) ⟨Nat.le_of_ble_eq_true rfl, Nat.le_of_ble_eq_true rfl⟩ hP hD hS hA hK hN hm_q0 hk_q0 (by decide) rfl rfl rfl hl.1 rfl (Nat.le_of_ble_eq_true rfl) ⟨Nat.le_of_ble_eq_true rfl, Nat.le_of_ble_eq_true rfl⟩ dX8_together_47 (fun r_8 d_9 H locs hr_8 hP hD hS => ?_)
    obtain ⟨hgad_9, hpad_9, hxd_9⟩ := hr_8
    have hgd_9 : yAg S [0, 8, 24] d d_9 := yAg.tr hg0 hgad_9 (by first | decide | exact fun _ h => h)
    have hPod_9 : yPo S d_9 := hpad_9 hPo
    refine lv_if_eq (tgt := 55) hx hb dX8_together_50 (by decide) (fun c_10 => ?_) (fun c_10 => ?_)
    · refine lv_aload_n hx hb dX8_together_55 rfl (lv_at hl 2 rfl) ?_
      refine yget (ci := 8) (k := 0) (v := .ref (S.2.2.1 q0 0)) (C := RX8) (T := TX8) (N := 6) C0 hK hP hm_q0 hk_q0 (by decide) rfl inlX8 (by decide) mW16 (fun _ h9 => h9) rfl dX8_together_56 ?_
      obtain ⟨hmy_11, hky_11⟩ := ySh.f8_0 hSh _ hm_q0 hk_q0
      refine lv_iload_n hx hb dX8_together_59 rfl (lv_at hl 3 rfl) ?_
      refine yputI (ci := 0) (k := 5) (ty := .int) (C := RX0) (T := TX0) (N := 6) C0 hK hP hD hS hmy_11 hky_11 (by decide) rfl inlX0 tyX0 tyX0_ok nmX0 (by decide) mW317 (fun _ h9 => h9) rfl (by decide +kernel) rfl rfl (Nat.le_of_ble_eq_true rfl) ysi_0_5 dX8_together_60 (fun H locs hP hD hS => ?_)
      obtain ⟨d_12, ed_12⟩ : ∃ z : yD, z = yi d_9 (S.2.2.1 q0 0) 5 p0 := ⟨_, rfl⟩
      rw [← ed_12] at hP hD
      have hgd_12 : yAg S [0, 8, 24] d d_12 := by rw [ed_12]; exact yAg.i hgd_9 (by rw [hky_11]; decide)
      have hsd_12 : yAg S [0] d_9 d_12 := by rw [ed_12]; exact yAg.i yAg.rf (by rw [hky_11]; decide)
      have hPod_12 : yPo S d_12 := by rw [ed_12]; exact yPo.i hPod_9 hky_11 (Or.inl rfl)
      refine lv_iconst (v := 1) hx hb dX8_together_63 (by decide) ?_
      exact W.zret (v := 1) (ty := .boolean) hx hb hr rfl (fun t ht hW => ⟨⟨1, d_12, rfl, ⟨hgd_12, (fun _ => hPod_12), ((congrFun (hsd_12 q0 (by rw [hk_q0]; decide)).1 4).trans (hxd_9.2))⟩, by rw [ht]; exact hP, hD⟩, hS.F ht⟩) hS.2.2 dX8_together_64
    · refine lv_iconst (v := 0) hx hb dX8_together_53 (by decide) ?_
      exact W.zret (v := 0) (ty := .boolean) hx hb hr rfl (fun t ht hW => ⟨⟨0, d_9, rfl, ⟨hgd_9, (fun _ => hPod_9), (hxd_9.2)⟩, by rw [ht]; exact hP, hD⟩, hS.F ht⟩) hS.2.2 dX8_together_54
  · refine lv_iload_n hx hb dX8_together_20 rfl (lv_at hl 1 rfl) ?_
    refine lv_if_ne (tgt := 45) hx hb dX8_together_21 (by decide) (fun c_13 => ?_) (fun c_13 => ?_)
    · refine lv_aload_n hx hb dX8_together_45 rfl (lv_at hl 2 rfl) ?_
      refine lv_iload_n hx hb dX8_together_46 rfl (lv_at hl 1 rfl) ?_
      refine yVwi (As := [.int v_3]) (rest := []) C0 (g_X8_refused l G S d q0 v_3 hSh hPo hm_q0 hk_q0) ok_X8_refused (mW160 : Cond.methodLink RX8 42 yX8_refused ∈ wsT) ⟨Nat.le_of_ble_eq_true rfl, Nat.le_of_ble_eq_true rfl⟩ hP hD hS hA hK hN hm_q0 hk_q0 (by decide) rfl rfl rfl hl.1 rfl (Nat.le_of_ble_eq_true rfl) ⟨Nat.le_of_ble_eq_true rfl, Nat.le_of_ble_eq_true rfl⟩ dX8_together_47 (fun r_14 d_15 H locs hr_14 hP hD hS => ?_)
      obtain ⟨hgad_15, hpad_15, hxd_15⟩ := hr_14
      have hgd_15 : yAg S [0, 8, 24] d d_15 := yAg.tr hg0 hgad_15 (by first | decide | exact fun _ h => h)
      have hPod_15 : yPo S d_15 := hpad_15 hPo
      refine lv_if_eq (tgt := 55) hx hb dX8_together_50 (by decide) (fun c_16 => ?_) (fun c_16 => ?_)
      · refine lv_aload_n hx hb dX8_together_55 rfl (lv_at hl 2 rfl) ?_
        refine yget (ci := 8) (k := 0) (v := .ref (S.2.2.1 q0 0)) (C := RX8) (T := TX8) (N := 6) C0 hK hP hm_q0 hk_q0 (by decide) rfl inlX8 (by decide) mW16 (fun _ h9 => h9) rfl dX8_together_56 ?_
        obtain ⟨hmy_17, hky_17⟩ := ySh.f8_0 hSh _ hm_q0 hk_q0
        refine lv_iload_n hx hb dX8_together_59 rfl (lv_at hl 3 rfl) ?_
        refine yputI (ci := 0) (k := 5) (ty := .int) (C := RX0) (T := TX0) (N := 6) C0 hK hP hD hS hmy_17 hky_17 (by decide) rfl inlX0 tyX0 tyX0_ok nmX0 (by decide) mW317 (fun _ h9 => h9) rfl (by decide +kernel) rfl rfl (Nat.le_of_ble_eq_true rfl) ysi_0_5 dX8_together_60 (fun H locs hP hD hS => ?_)
        obtain ⟨d_18, ed_18⟩ : ∃ z : yD, z = yi d_15 (S.2.2.1 q0 0) 5 p0 := ⟨_, rfl⟩
        rw [← ed_18] at hP hD
        have hgd_18 : yAg S [0, 8, 24] d d_18 := by rw [ed_18]; exact yAg.i hgd_15 (by rw [hky_17]; decide)
        have hsd_18 : yAg S [0] d_15 d_18 := by rw [ed_18]; exact yAg.i yAg.rf (by rw [hky_17]; decide)
        have hPod_18 : yPo S d_18 := by rw [ed_18]; exact yPo.i hPod_15 hky_17 (Or.inl rfl)
        refine lv_iconst (v := 1) hx hb dX8_together_63 (by decide) ?_
        exact W.zret (v := 1) (ty := .boolean) hx hb hr rfl (fun t ht hW => ⟨⟨1, d_18, rfl, ⟨hgd_18, (fun _ => hPod_18), ((congrFun (hsd_18 q0 (by rw [hk_q0]; decide)).1 4).trans (hxd_15.2))⟩, by rw [ht]; exact hP, hD⟩, hS.F ht⟩) hS.2.2 dX8_together_64
      · refine lv_iconst (v := 0) hx hb dX8_together_53 (by decide) ?_
        exact W.zret (v := 0) (ty := .boolean) hx hb hr rfl (fun t ht hW => ⟨⟨0, d_15, rfl, ⟨hgd_15, (fun _ => hPod_15), (hxd_15.2)⟩, by rw [ht]; exact hP, hD⟩, hS.F ht⟩) hS.2.2 dX8_together_54
    · refine lv_iload_n hx hb dX8_together_24 rfl (lv_at hl 3 rfl) ?_
      refine lv_iload_n hx hb dX8_together_25 rfl (lv_at hl 0 rfl) ?_
      refine lv_ishr hx hb dX8_together_26 ?_
      refine lv_topi (fun z_19 ez_19 => ?_)
      refine lv_iconst (v := 1) hx hb dX8_together_27 (by decide) ?_
      refine lv_iand hx hb dX8_together_28 ?_
      refine lv_topi (fun z_20 ez_20 => ?_)
      refine lv_iconst (v := 1) hx hb dX8_together_29 (by decide) ?_
      refine lv_icmp_ne (tgt := 39) hx hb dX8_together_30 (by decide) (fun c_21 => ?_) (fun c_21 => ?_)
      · refine lv_iinc (v := v_4 + 1) (lv' := [(3, .int (v_4 + 1)), (2, .int v_3), (0, .ref q0), (1, .int p0)]) hx hb dX8_together_39 hl (k := 0) rfl rfl (by decide) rfl (fun ls hl => ?_)
        refine lv_goto (tgt := 14) hx hb dX8_together_42 (by decide) ?_
        exact hnext_5 (v_3, v_4 + 1) ls (xup c_7) (lv_sub hl [0, 1, 2, 3] rfl)
      · refine lv_aload_n hx hb dX8_together_33 rfl (lv_at hl 2 rfl) ?_
        refine lv_iload_n hx hb dX8_together_34 rfl (lv_at hl 0 rfl) ?_
        refine yVri (As := [.int v_4]) (rest := []) C0 (g_X8_portReason l G S d q0 v_4 hSh hm_q0 hk_q0) ok_X8_portReason (mW374 : Cond.methodLink RX8 124 yX8_portReason ∈ wsT) ⟨Nat.le_of_ble_eq_true rfl, Nat.le_of_ble_eq_true rfl⟩ hP hD hK hN hm_q0 hk_q0 (by decide) rfl rfl rfl hl.1 rfl (Nat.le_of_ble_eq_true rfl) ⟨Nat.le_of_ble_eq_true rfl, Nat.le_of_ble_eq_true rfl⟩ dX8_together_35 (fun r_23 hr_23 => ?_)
        refine lv_istore_n (lv' := [(2, .int r_23), (3, .int v_4), (0, .ref q0), (1, .int p0)]) hx hb dX8_together_38 rfl hl (by decide) rfl (fun ls hl => ?_)
        refine lv_iinc (v := v_4 + 1) (lv' := [(3, .int (v_4 + 1)), (2, .int r_23), (0, .ref q0), (1, .int p0)]) hx hb dX8_together_39 hl (k := 1) rfl rfl (by decide) rfl (fun ls hl => ?_)
        refine lv_goto (tgt := 14) hx hb dX8_together_42 (by decide) ?_
        exact hnext_5 (r_23, v_4 + 1) ls (xup c_7) (lv_sub hl [0, 1, 2, 3] rfl)
