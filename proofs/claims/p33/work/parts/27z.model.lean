theorem dX9_claim_0 : decode cX9_claim 0 = .ok (.aload_n 0, 1) := by decide +kernel
theorem dX9_claim_1 : decode cX9_claim 1 = .ok (.iconst 0, 1) := by decide +kernel
theorem dX9_claim_2 : decode cX9_claim 2 = .ok (.putfield 147, 3) := by decide +kernel
theorem dX9_claim_5 : decode cX9_claim 5 = .ok (.aload_n 0, 1) := by decide +kernel
theorem dX9_claim_6 : decode cX9_claim 6 = .ok (.iload_n 1, 1) := by decide +kernel
theorem dX9_claim_7 : decode cX9_claim 7 = .ok (.invokevirtual 165, 3) := by decide +kernel
theorem dX9_claim_10 : decode cX9_claim 10 = .ok (.istore_n 2, 1) := by decide +kernel
theorem dX9_claim_11 : decode cX9_claim 11 = .ok (.iload_n 2, 1) := by decide +kernel
theorem dX9_claim_12 : decode cX9_claim 12 = .ok (.ifCond .eq 11, 3) := by decide +kernel
theorem dX9_claim_15 : decode cX9_claim 15 = .ok (.aload_n 0, 1) := by decide +kernel
theorem dX9_claim_16 : decode cX9_claim 16 = .ok (.iload_n 2, 1) := by decide +kernel
theorem dX9_claim_17 : decode cX9_claim 17 = .ok (.invokevirtual 168, 3) := by decide +kernel
theorem dX9_claim_20 : decode cX9_claim 20 = .ok (.pop, 1) := by decide +kernel
theorem dX9_claim_21 : decode cX9_claim 21 = .ok (.iconst 0, 1) := by decide +kernel
theorem dX9_claim_22 : decode cX9_claim 22 = .ok (.ireturn, 1) := by decide +kernel
theorem dX9_claim_23 : decode cX9_claim 23 = .ok (.aload_n 0, 1) := by decide +kernel
theorem dX9_claim_24 : decode cX9_claim 24 = .ok (.iload_n 1, 1) := by decide +kernel
theorem dX9_claim_25 : decode cX9_claim 25 = .ok (.putfield 7, 3) := by decide +kernel
theorem dX9_claim_28 : decode cX9_claim 28 = .ok (.aload_n 0, 1) := by decide +kernel
theorem dX9_claim_29 : decode cX9_claim 29 = .ok (.iconst 0, 1) := by decide +kernel
theorem dX9_claim_30 : decode cX9_claim 30 = .ok (.putfield 326, 3) := by decide +kernel
theorem dX9_claim_33 : decode cX9_claim 33 = .ok (.iconst 1, 1) := by decide +kernel
theorem dX9_claim_34 : decode cX9_claim 34 = .ok (.ireturn, 1) := by decide +kernel
set_option maxHeartbeats 4000000 in
set_option maxRecDepth 100000 in
theorem g_X9_claim (l : Launch) (G : xG) (S : yS) (d : yD) (h0 : Nat) (p0 : Int32) (hSh : ySh S) (hPo : yPo S d) (hm_h0 : h0 ∈ S.1) (hk_h0 : S.2.1 h0 = 9) (hI : yMI S d h0) : xWi l G yX9_claim cX9_claim 3 (some .boolean) 2 42 0 0 [.ref h0, .int p0] (yW G S d) (fun r (u : yD) => yAg S [9, 69] d u ∧ (yPo S d → yPo S u) ∧ yK [2, 3, 38] d u h0 ∧ (yMI S u h0 ∧ ((r.toInt = 0 ∧ ¬ (0 ≤ p0.toInt ∧ p0.toInt ≤ 7 ∧ yOI S d h0 p0.toInt.toNat = 1) ∧ u.1 h0 2 = d.1 h0 2 ∧ u.1 h0 3 = d.1 h0 3) ∨ (r.toInt = 1 ∧ (0 ≤ p0.toInt ∧ p0.toInt ≤ 7 ∧ yOI S d h0 p0.toInt.toNat = 1) ∧ u.1 h0 3 = p0 ∧ u.1 h0 2 = 0)))) (fun u => yW G S u) := by
  intro sz
  refine xstart (by decide) (Nat.le_of_ble_eq_true rfl) (fun p e s m args below meth c ls C0 hr hlocks hin hsz hP hK hD hN hl => ?_)
  obtain ⟨hx, hb, hml, hown, htl⟩ := id C0
  subst hsz
  have hD := hD.self (sz := s.heap.size)
  generalize hAe : va_A (yW G S d) s.heap.size = A at hD ⊢
  have hA : ∀ q : Nat, s.heap.size ≤ q → A q := fun q h => by rw [← hAe]; exact Or.inr h
  have hS : va_S A s.heap s.heap [] := va_S.rf
  have hg0 : yAg S [9, 69] d d := yAg.rf
  have hl : lv_has ls 3 [(0, .ref h0), (1, .int p0)] := hl
  refine lv_aload_n hx hb dX9_claim_0 rfl (lv_at hl 0 rfl) ?_
  refine lv_iconst (v := 0) hx hb dX9_claim_1 (by decide) ?_
  refine yputI (ci := 9) (k := 38) (ty := .int) (C := RX9) (T := TX9) (N := 67) C0 hK hP hD hS hm_h0 hk_h0 (by decide) rfl inlX9 tyX9 tyX9_ok nmX9 (by decide) mW175 (fun _ h9 => h9) rfl (by decide +kernel) rfl rfl (Nat.le_of_ble_eq_true rfl) ysi_9_38 dX9_claim_2 (fun H locs hP hD hS => ?_)
  obtain ⟨d_1, ed_1⟩ : ∃ z : yD, z = yi d h0 38 0 := ⟨_, rfl⟩
  rw [← ed_1] at hP hD
  have hgd_1 : yAg S [9, 69] d d_1 := by rw [ed_1]; exact yAg.i hg0 (by rw [hk_h0]; decide)
  have hsd_1 : yAg S [9] d d_1 := by rw [ed_1]; exact yAg.i yAg.rf (by rw [hk_h0]; decide)
  have hPod_1 : yPo S d_1 := by rw [ed_1]; exact yPo.i hPo hk_h0 (Or.inl rfl)
  have hfd_1 : yK [2, 3, 38] d d_1 h0 := by rw [ed_1]; exact yK.i yK.rf (by decide)
  have hId_1 : yMI S d_1 h0 := yMI.ag hI hSh hm_h0 hk_h0 (show yAg S [9] d d_1 from by rw [ed_1]; exact yAg.i yAg.rf (by rw [hk_h0]; decide)) (show yK [38] d d_1 h0 from by rw [ed_1]; exact yK.i yK.rf (by decide)) (by decide) (by decide)
  have hE0d_1 : (d_1.1 h0 0).toInt = (d.1 h0 0).toInt := congrArg Int32.toInt ((show yK [38] d d_1 h0 from by rw [ed_1]; exact yK.i yK.rf (by decide)) 0 (by decide))
  have hE1d_1 : (d_1.1 h0 1).toInt = (d.1 h0 1).toInt := congrArg Int32.toInt ((show yK [38] d d_1 h0 from by rw [ed_1]; exact yK.i yK.rf (by decide)) 1 (by decide))
  have hE2d_1 : (d_1.1 h0 2).toInt = (d.1 h0 2).toInt := congrArg Int32.toInt ((show yK [38] d d_1 h0 from by rw [ed_1]; exact yK.i yK.rf (by decide)) 2 (by decide))
  have hE3d_1 : (d_1.1 h0 3).toInt = (d.1 h0 3).toInt := congrArg Int32.toInt ((show yK [38] d d_1 h0 from by rw [ed_1]; exact yK.i yK.rf (by decide)) 3 (by decide))
  have hE63d_1 : (d_1.1 h0 63).toInt = (d.1 h0 63).toInt := congrArg Int32.toInt ((show yK [38] d d_1 h0 from by rw [ed_1]; exact yK.i yK.rf (by decide)) 63 (by decide))
  refine lv_aload_n hx hb dX9_claim_5 rfl (lv_at hl 0 rfl) ?_
  refine lv_iload_n hx hb dX9_claim_6 rfl (lv_at hl 1 rfl) ?_
  refine yVri (As := [.int p0]) (rest := []) C0 (g_X9_portWhy l G S d_1 h0 p0 hSh hm_h0 hk_h0) ok_X9_portWhy (mW387 : Cond.methodLink RX9 165 yX9_portWhy ∈ wsT) ⟨Nat.le_of_ble_eq_true rfl, Nat.le_of_ble_eq_true rfl⟩ hP hD hK hN hm_h0 hk_h0 (by decide) rfl rfl rfl hl.1 rfl (Nat.le_of_ble_eq_true rfl) ⟨Nat.le_of_ble_eq_true rfl, Nat.le_of_ble_eq_true rfl⟩ dX9_claim_7 (fun r_2 hr_2 => ?_)
  refine lv_istore_n (lv' := [(2, .int r_2), (0, .ref h0), (1, .int p0)]) hx hb dX9_claim_10 rfl hl (by decide) rfl (fun ls hl => ?_)
  refine lv_iload_n hx hb dX9_claim_11 rfl (lv_at hl 0 rfl) ?_
  refine lv_if_eq (tgt := 23) hx hb dX9_claim_12 (by decide) (fun c_3 => ?_) (fun c_3 => ?_)
  · refine lv_aload_n hx hb dX9_claim_23 rfl (lv_at hl 1 rfl) ?_
    refine lv_iload_n hx hb dX9_claim_24 rfl (lv_at hl 2 rfl) ?_
    refine yputI (ci := 9) (k := 3) (ty := .int) (C := RX9) (T := TX9) (N := 67) C0 hK hP hD hS hm_h0 hk_h0 (by decide) rfl inlX9 tyX9 tyX9_ok nmX9 (by decide) mW106 (fun _ h9 => h9) rfl (by decide +kernel) rfl rfl (Nat.le_of_ble_eq_true rfl) ysi_9_3 dX9_claim_25 (fun H locs hP hD hS => ?_)
    obtain ⟨d_4, ed_4⟩ : ∃ z : yD, z = yi d_1 h0 3 p0 := ⟨_, rfl⟩
    rw [← ed_4] at hP hD
    have hgd_4 : yAg S [9, 69] d d_4 := by rw [ed_4]; exact yAg.i hgd_1 (by rw [hk_h0]; decide)
    have hsd_4 : yAg S [9] d_1 d_4 := by rw [ed_4]; exact yAg.i yAg.rf (by rw [hk_h0]; decide)
    have hPod_4 : yPo S d_4 := by rw [ed_4]; exact yPo.i hPod_1 hk_h0 (Or.inl rfl)
    have hfd_4 : yK [2, 3, 38] d d_4 h0 := by rw [ed_4]; exact yK.i hfd_1 (by decide)
    have hCC_5 := yMI.c hId_1
    have F_6 := feq (rfl : (r_2 : Int32).toInt = (r_2 : Int32).toInt) (by decide +kernel : (0 : Int32).toInt = 0) c_3
    have hId_4 : yMI S d_4 h0 := by rw [ed_4]; exact yMI.i3 hId_1 ⟨by omega, by omega⟩
    have hE0d_4 : (d_4.1 h0 0).toInt = (d_1.1 h0 0).toInt := congrArg Int32.toInt ((show yK [3] d_1 d_4 h0 from by rw [ed_4]; exact yK.i yK.rf (by decide)) 0 (by decide))
    have hE1d_4 : (d_4.1 h0 1).toInt = (d_1.1 h0 1).toInt := congrArg Int32.toInt ((show yK [3] d_1 d_4 h0 from by rw [ed_4]; exact yK.i yK.rf (by decide)) 1 (by decide))
    have hE2d_4 : (d_4.1 h0 2).toInt = (d_1.1 h0 2).toInt := congrArg Int32.toInt ((show yK [3] d_1 d_4 h0 from by rw [ed_4]; exact yK.i yK.rf (by decide)) 2 (by decide))
    have hE3d_4 : (d_4.1 h0 3).toInt = (p0 : Int32).toInt := by rw [ed_4, yi_self]
    have hE63d_4 : (d_4.1 h0 63).toInt = (d_1.1 h0 63).toInt := congrArg Int32.toInt ((show yK [3] d_1 d_4 h0 from by rw [ed_4]; exact yK.i yK.rf (by decide)) 63 (by decide))
    refine lv_aload_n hx hb dX9_claim_28 rfl (lv_at hl 1 rfl) ?_
    refine lv_iconst (v := 0) hx hb dX9_claim_29 (by decide) ?_
    refine yputI (ci := 9) (k := 2) (ty := .int) (C := RX9) (T := TX9) (N := 67) C0 hK hP hD hS hm_h0 hk_h0 (by decide) rfl inlX9 tyX9 tyX9_ok nmX9 (by decide) mW888 (fun _ h9 => h9) rfl (by decide +kernel) rfl rfl (Nat.le_of_ble_eq_true rfl) ysi_9_2 dX9_claim_30 (fun H locs hP hD hS => ?_)
    obtain ⟨d_7, ed_7⟩ : ∃ z : yD, z = yi d_4 h0 2 0 := ⟨_, rfl⟩
    rw [← ed_7] at hP hD
    have hgd_7 : yAg S [9, 69] d d_7 := by rw [ed_7]; exact yAg.i hgd_4 (by rw [hk_h0]; decide)
    have hsd_7 : yAg S [9] d_4 d_7 := by rw [ed_7]; exact yAg.i yAg.rf (by rw [hk_h0]; decide)
    have hPod_7 : yPo S d_7 := by rw [ed_7]; exact yPo.i hPod_4 hk_h0 (Or.inl rfl)
    have hfd_7 : yK [2, 3, 38] d d_7 h0 := by rw [ed_7]; exact yK.i hfd_4 (by decide)
    have hId_7 : yMI S d_7 h0 := by rw [ed_7]; exact yMI.i2 hId_4 (by decide +kernel)
    have hE0d_7 : (d_7.1 h0 0).toInt = (d_4.1 h0 0).toInt := congrArg Int32.toInt ((show yK [2] d_4 d_7 h0 from by rw [ed_7]; exact yK.i yK.rf (by decide)) 0 (by decide))
    have hE1d_7 : (d_7.1 h0 1).toInt = (d_4.1 h0 1).toInt := congrArg Int32.toInt ((show yK [2] d_4 d_7 h0 from by rw [ed_7]; exact yK.i yK.rf (by decide)) 1 (by decide))
    have hE2d_7 : (d_7.1 h0 2).toInt = (0 : Int32).toInt := by rw [ed_7, yi_self]
    have hE3d_7 : (d_7.1 h0 3).toInt = (d_4.1 h0 3).toInt := congrArg Int32.toInt ((show yK [2] d_4 d_7 h0 from by rw [ed_7]; exact yK.i yK.rf (by decide)) 3 (by decide))
    have hE63d_7 : (d_7.1 h0 63).toInt = (d_4.1 h0 63).toInt := congrArg Int32.toInt ((show yK [2] d_4 d_7 h0 from by rw [ed_7]; exact yK.i yK.rf (by decide)) 63 (by decide))
    refine lv_iconst (v := 1) hx hb dX9_claim_33 (by decide) ?_
    have hrf_8 : d_1.2.2.2.2 (S.2.2.1 h0 11) = d.2.2.2.2 (S.2.2.1 h0 11) := (hsd_1 _ (by rw [(ySh.f9_11 hSh h0 hm_h0 hk_h0).2]; decide)).2.2.2.2
    have hrf_8a : yOI S d_1 h0 (p0 : Int32).toInt.toNat = yOI S d h0 (p0 : Int32).toInt.toNat := by unfold yOI; rw [hrf_8]
    have hrf_8b : yOf S d_1 h0 (p0 : Int32).toInt.toNat 2 = yOf S d h0 (p0 : Int32).toInt.toNat 2 := by unfold yOf; rw [hrf_8]
    have hCC_9 := yMI.c hId_7
    exact W.zret (v := 1) (ty := .boolean) hx hb hr rfl (fun t ht hW => ⟨⟨1, d_7, rfl, ⟨hgd_7, (fun _ => hPod_7), hfd_7, ⟨hId_7, Or.inr ⟨by have h0_ : (1 : Int32).toInt = 1 := (by decide +kernel); omega, by omega, (((show d_7.1 h0 3 = d_4.1 h0 3 by rw [ed_7]; exact yi_ne (by decide))).trans (show d_4.1 h0 3 = p0 by rw [ed_4]; exact yi_self)), ((rfl).trans (show d_7.1 h0 2 = 0 by rw [ed_7]; exact yi_self))⟩⟩⟩, by rw [ht]; exact hP, hD⟩, hS.F ht⟩) hS.2.2 dX9_claim_34
  · refine lv_aload_n hx hb dX9_claim_15 rfl (lv_at hl 1 rfl) ?_
    refine lv_iload_n hx hb dX9_claim_16 rfl (lv_at hl 0 rfl) ?_
    have F_10 := fne (rfl : (r_2 : Int32).toInt = (r_2 : Int32).toInt) (by decide +kernel : (0 : Int32).toInt = 0) c_3
    refine yVwi (As := [.int r_2]) (rest := []) C0 (g_X9_no l G S d_1 h0 r_2 hSh hPod_1 hm_h0 hk_h0 (by refine ⟨?_, ?_⟩ <;> omega)) ok_X9_no (mW177 : Cond.methodLink RX9 168 yX9_no ∈ wsT) ⟨Nat.le_of_ble_eq_true rfl, Nat.le_of_ble_eq_true rfl⟩ hP hD hS hA hK hN hm_h0 hk_h0 (by decide) rfl rfl rfl hl.1 rfl (Nat.le_of_ble_eq_true rfl) ⟨Nat.le_of_ble_eq_true rfl, Nat.le_of_ble_eq_true rfl⟩ dX9_claim_17 (fun r_11 d_12 H locs hr_11 hP hD hS => ?_)
    obtain ⟨hgad_12, hpad_12, hfad_12, hxd_12⟩ := hr_11
    have hfd_12 : yK [2, 3, 38] d d_12 h0 := yK.tr hfd_1 hfad_12 (by decide)
    have hE0d_12 : (d_12.1 h0 0).toInt = (d_1.1 h0 0).toInt := congrArg Int32.toInt (hfad_12 0 (by decide))
    have hE1d_12 : (d_12.1 h0 1).toInt = (d_1.1 h0 1).toInt := congrArg Int32.toInt (hfad_12 1 (by decide))
    have hE2d_12 : (d_12.1 h0 2).toInt = (d_1.1 h0 2).toInt := congrArg Int32.toInt (hfad_12 2 (by decide))
    have hE3d_12 : (d_12.1 h0 3).toInt = (d_1.1 h0 3).toInt := congrArg Int32.toInt (hfad_12 3 (by decide))
    have hE63d_12 : (d_12.1 h0 63).toInt = (d_1.1 h0 63).toInt := congrArg Int32.toInt (hfad_12 63 (by decide))
    have hId_12 : yMI S d_12 h0 := yMI.ag hId_1 hSh hm_h0 hk_h0 hgad_12 hfad_12 (by decide) (by decide)
    have hgd_12 : yAg S [9, 69] d d_12 := yAg.tr hgd_1 hgad_12 (by first | decide | exact fun _ h => h)
    have hPod_12 : yPo S d_12 := hpad_12 hPod_1
    refine lv_pop hx hb dX9_claim_20 rfl ?_
    refine lv_iconst (v := 0) hx hb dX9_claim_21 (by decide) ?_
    have hrf_13 : d_1.2.2.2.2 (S.2.2.1 h0 11) = d.2.2.2.2 (S.2.2.1 h0 11) := (hsd_1 _ (by rw [(ySh.f9_11 hSh h0 hm_h0 hk_h0).2]; decide)).2.2.2.2
    have hrf_13a : yOI S d_1 h0 (p0 : Int32).toInt.toNat = yOI S d h0 (p0 : Int32).toInt.toNat := by unfold yOI; rw [hrf_13]
    have hrf_13b : yOf S d_1 h0 (p0 : Int32).toInt.toNat 2 = yOf S d h0 (p0 : Int32).toInt.toNat 2 := by unfold yOf; rw [hrf_13]
    have hCC_14 := yMI.c hId_12
    exact W.zret (v := 0) (ty := .boolean) hx hb hr rfl (fun t ht hW => ⟨⟨0, d_12, rfl, ⟨hgd_12, (fun _ => hPod_12), hfd_12, ⟨hId_12, Or.inl ⟨by have h0_ : (0 : Int32).toInt = 0 := (by decide +kernel); omega, by omega, (((hfad_12 2 (by decide))).trans (show d_1.1 h0 2 = d.1 h0 2 by rw [ed_1]; exact yi_at (by decide))), (((hfad_12 3 (by decide))).trans (show d_1.1 h0 3 = d.1 h0 3 by rw [ed_1]; exact yi_at (by decide)))⟩⟩⟩, by rw [ht]; exact hP, hD⟩, hS.F ht⟩) hS.2.2 dX9_claim_22
theorem dX9_tell_0 : decode cX9_tell 0 = .ok (.aload_n 0, 1) := by decide +kernel
theorem dX9_tell_1 : decode cX9_tell 1 = .ok (.iconst 0, 1) := by decide +kernel
theorem dX9_tell_2 : decode cX9_tell 2 = .ok (.putfield 147, 3) := by decide +kernel
theorem dX9_tell_5 : decode cX9_tell 5 = .ok (.iload_n 1, 1) := by decide +kernel
theorem dX9_tell_6 : decode cX9_tell 6 = .ok (.iconst 1, 1) := by decide +kernel
theorem dX9_tell_7 : decode cX9_tell 7 = .ok (.if_icmp .lt 26, 3) := by decide +kernel
theorem dX9_tell_10 : decode cX9_tell 10 = .ok (.iload_n 1, 1) := by decide +kernel
theorem dX9_tell_11 : decode cX9_tell 11 = .ok (.ldc 174, 2) := by decide +kernel
theorem dX9_tell_13 : decode cX9_tell 13 = .ok (.if_icmp .gt 20, 3) := by decide +kernel
theorem dX9_tell_16 : decode cX9_tell 16 = .ok (.iload_n 2, 1) := by decide +kernel
theorem dX9_tell_17 : decode cX9_tell 17 = .ok (.bipush (-3), 2) := by decide +kernel
theorem dX9_tell_19 : decode cX9_tell 19 = .ok (.if_icmp .lt 14, 3) := by decide +kernel
theorem dX9_tell_22 : decode cX9_tell 22 = .ok (.iload_n 2, 1) := by decide +kernel
theorem dX9_tell_23 : decode cX9_tell 23 = .ok (.iconst (-1), 1) := by decide +kernel
theorem dX9_tell_24 : decode cX9_tell 24 = .ok (.if_icmp .eq 9, 3) := by decide +kernel
theorem dX9_tell_27 : decode cX9_tell 27 = .ok (.iload_n 2, 1) := by decide +kernel
theorem dX9_tell_28 : decode cX9_tell 28 = .ok (.bipush 60, 2) := by decide +kernel
theorem dX9_tell_30 : decode cX9_tell 30 = .ok (.if_icmp .lt 7, 3) := by decide +kernel
theorem dX9_tell_33 : decode cX9_tell 33 = .ok (.iconst 1, 1) := by decide +kernel
theorem dX9_tell_34 : decode cX9_tell 34 = .ok (.goto 29, 3) := by decide +kernel
theorem dX9_tell_37 : decode cX9_tell 37 = .ok (.aload_n 0, 1) := by decide +kernel
theorem dX9_tell_38 : decode cX9_tell 38 = .ok (.getfield 7, 3) := by decide +kernel
theorem dX9_tell_41 : decode cX9_tell 41 = .ok (.ifCond .ge 7, 3) := by decide +kernel
theorem dX9_tell_44 : decode cX9_tell 44 = .ok (.iconst 2, 1) := by decide +kernel
theorem dX9_tell_45 : decode cX9_tell 45 = .ok (.goto 18, 3) := by decide +kernel
theorem dX9_tell_48 : decode cX9_tell 48 = .ok (.aload_n 0, 1) := by decide +kernel
theorem dX9_tell_49 : decode cX9_tell 49 = .ok (.getfield 326, 3) := by decide +kernel
theorem dX9_tell_52 : decode cX9_tell 52 = .ok (.sipush 500, 3) := by decide +kernel
theorem dX9_tell_55 : decode cX9_tell 55 = .ok (.if_icmp .ne 7, 3) := by decide +kernel
theorem dX9_tell_58 : decode cX9_tell 58 = .ok (.iconst 5, 1) := by decide +kernel
theorem dX9_tell_59 : decode cX9_tell 59 = .ok (.goto 4, 3) := by decide +kernel
theorem dX9_tell_62 : decode cX9_tell 62 = .ok (.iconst 0, 1) := by decide +kernel
theorem dX9_tell_63 : decode cX9_tell 63 = .ok (.istore_n 3, 1) := by decide +kernel
theorem dX9_tell_64 : decode cX9_tell 64 = .ok (.iload_n 3, 1) := by decide +kernel
theorem dX9_tell_65 : decode cX9_tell 65 = .ok (.ifCond .eq 9, 3) := by decide +kernel
theorem dX9_tell_68 : decode cX9_tell 68 = .ok (.aload_n 0, 1) := by decide +kernel
theorem dX9_tell_69 : decode cX9_tell 69 = .ok (.iload_n 3, 1) := by decide +kernel
theorem dX9_tell_70 : decode cX9_tell 70 = .ok (.invokevirtual 168, 3) := by decide +kernel
theorem dX9_tell_73 : decode cX9_tell 73 = .ok (.ireturn, 1) := by decide +kernel
theorem dX9_tell_74 : decode cX9_tell 74 = .ok (.aload_n 0, 1) := by decide +kernel
theorem dX9_tell_75 : decode cX9_tell 75 = .ok (.getfield 60, 3) := by decide +kernel
theorem dX9_tell_78 : decode cX9_tell 78 = .ok (.aload_n 0, 1) := by decide +kernel
theorem dX9_tell_79 : decode cX9_tell 79 = .ok (.getfield 326, 3) := by decide +kernel
theorem dX9_tell_82 : decode cX9_tell 82 = .ok (.iload_n 1, 1) := by decide +kernel
theorem dX9_tell_83 : decode cX9_tell 83 = .ok (.iastore, 1) := by decide +kernel
theorem dX9_tell_84 : decode cX9_tell 84 = .ok (.aload_n 0, 1) := by decide +kernel
theorem dX9_tell_85 : decode cX9_tell 85 = .ok (.getfield 63, 3) := by decide +kernel
theorem dX9_tell_88 : decode cX9_tell 88 = .ok (.aload_n 0, 1) := by decide +kernel
theorem dX9_tell_89 : decode cX9_tell 89 = .ok (.getfield 326, 3) := by decide +kernel
theorem dX9_tell_92 : decode cX9_tell 92 = .ok (.iload_n 2, 1) := by decide +kernel
theorem dX9_tell_93 : decode cX9_tell 93 = .ok (.i2b, 1) := by decide +kernel
theorem dX9_tell_94 : decode cX9_tell 94 = .ok (.bastore, 1) := by decide +kernel
theorem dX9_tell_95 : decode cX9_tell 95 = .ok (.aload_n 0, 1) := by decide +kernel
theorem dX9_tell_96 : decode cX9_tell 96 = .ok (.dup, 1) := by decide +kernel
theorem dX9_tell_97 : decode cX9_tell 97 = .ok (.getfield 326, 3) := by decide +kernel
theorem dX9_tell_100 : decode cX9_tell 100 = .ok (.iconst 1, 1) := by decide +kernel
theorem dX9_tell_101 : decode cX9_tell 101 = .ok (.iadd, 1) := by decide +kernel
theorem dX9_tell_102 : decode cX9_tell 102 = .ok (.putfield 326, 3) := by decide +kernel
theorem dX9_tell_105 : decode cX9_tell 105 = .ok (.aload_n 0, 1) := by decide +kernel
theorem dX9_tell_106 : decode cX9_tell 106 = .ok (.getfield 326, 3) := by decide +kernel
theorem dX9_tell_109 : decode cX9_tell 109 = .ok (.ireturn, 1) := by decide +kernel
set_option maxHeartbeats 4000000 in
set_option maxRecDepth 100000 in
theorem g_X9_tell (l : Launch) (G : xG) (S : yS) (d : yD) (h0 : Nat) (p0 : Int32) (p1 : Int32) (hSh : ySh S) (hPo : yPo S d) (hm_h0 : h0 ∈ S.1) (hk_h0 : S.2.1 h0 = 9) (hI : yMI S d h0) : xWi l G yX9_tell cX9_tell 4 (some .int) 1 21 0 0 [.ref h0, .int p0, .int p1] (yW G S d) (fun r (u : yD) => yAg S [9, 48, 49, 69] d u ∧ (yPo S d → yPo S u) ∧ yK [2, 38] d u h0 ∧ (yMI S u h0 ∧ ((r.toInt = -1 ∧ ¬ (1 ≤ p0.toInt ∧ p0.toInt ≤ 129600 ∧ (p1.toInt = -2 ∨ p1.toInt = -3 ∨ (0 ≤ p1.toInt ∧ p1.toInt ≤ 59)) ∧ 0 ≤ (d.1 h0 3).toInt ∧ (d.1 h0 2).toInt < 500) ∧ u.1 h0 2 = d.1 h0 2 ∧ u.1 h0 3 = d.1 h0 3) ∨ (r.toInt = (d.1 h0 2).toInt + 1 ∧ (1 ≤ p0.toInt ∧ p0.toInt ≤ 129600 ∧ (p1.toInt = -2 ∨ p1.toInt = -3 ∨ (0 ≤ p1.toInt ∧ p1.toInt ≤ 59)) ∧ 0 ≤ (d.1 h0 3).toInt ∧ (d.1 h0 2).toInt < 500) ∧ (u.1 h0 2).toInt = (d.1 h0 2).toInt + 1 ∧ u.1 h0 3 = d.1 h0 3)))) (fun u => yW G S u) := by
  intro sz
  refine xstart (by decide) (Nat.le_of_ble_eq_true rfl) (fun p e s m args below meth c ls C0 hr hlocks hin hsz hP hK hD hN hl => ?_)
  obtain ⟨hx, hb, hml, hown, htl⟩ := id C0
  subst hsz
  have hD := hD.self (sz := s.heap.size)
  generalize hAe : va_A (yW G S d) s.heap.size = A at hD ⊢
  have hA : ∀ q : Nat, s.heap.size ≤ q → A q := fun q h => by rw [← hAe]; exact Or.inr h
  have hS : va_S A s.heap s.heap [] := va_S.rf
  have hg0 : yAg S [9, 48, 49, 69] d d := yAg.rf
  have hl : lv_has ls 4 [(0, .ref h0), (1, .int p0), (2, .int p1)] := hl
  refine lv_aload_n hx hb dX9_tell_0 rfl (lv_at hl 0 rfl) ?_
  refine lv_iconst (v := 0) hx hb dX9_tell_1 (by decide) ?_
  refine yputI (ci := 9) (k := 38) (ty := .int) (C := RX9) (T := TX9) (N := 67) C0 hK hP hD hS hm_h0 hk_h0 (by decide) rfl inlX9 tyX9 tyX9_ok nmX9 (by decide) mW175 (fun _ h9 => h9) rfl (by decide +kernel) rfl rfl (Nat.le_of_ble_eq_true rfl) ysi_9_38 dX9_tell_2 (fun H locs hP hD hS => ?_)
  obtain ⟨d_1, ed_1⟩ : ∃ z : yD, z = yi d h0 38 0 := ⟨_, rfl⟩
  rw [← ed_1] at hP hD
  have hgd_1 : yAg S [9, 48, 49, 69] d d_1 := by rw [ed_1]; exact yAg.i hg0 (by rw [hk_h0]; decide)
  have hsd_1 : yAg S [9] d d_1 := by rw [ed_1]; exact yAg.i yAg.rf (by rw [hk_h0]; decide)
  have hPod_1 : yPo S d_1 := by rw [ed_1]; exact yPo.i hPo hk_h0 (Or.inl rfl)
  have hfd_1 : yK [2, 38] d d_1 h0 := by rw [ed_1]; exact yK.i yK.rf (by decide)
  have hId_1 : yMI S d_1 h0 := yMI.ag hI hSh hm_h0 hk_h0 (show yAg S [9] d d_1 from by rw [ed_1]; exact yAg.i yAg.rf (by rw [hk_h0]; decide)) (show yK [38] d d_1 h0 from by rw [ed_1]; exact yK.i yK.rf (by decide)) (by decide) (by decide)
  have hE0d_1 : (d_1.1 h0 0).toInt = (d.1 h0 0).toInt := congrArg Int32.toInt ((show yK [38] d d_1 h0 from by rw [ed_1]; exact yK.i yK.rf (by decide)) 0 (by decide))
  have hE1d_1 : (d_1.1 h0 1).toInt = (d.1 h0 1).toInt := congrArg Int32.toInt ((show yK [38] d d_1 h0 from by rw [ed_1]; exact yK.i yK.rf (by decide)) 1 (by decide))
  have hE2d_1 : (d_1.1 h0 2).toInt = (d.1 h0 2).toInt := congrArg Int32.toInt ((show yK [38] d d_1 h0 from by rw [ed_1]; exact yK.i yK.rf (by decide)) 2 (by decide))
  have hE3d_1 : (d_1.1 h0 3).toInt = (d.1 h0 3).toInt := congrArg Int32.toInt ((show yK [38] d d_1 h0 from by rw [ed_1]; exact yK.i yK.rf (by decide)) 3 (by decide))
  have hE63d_1 : (d_1.1 h0 63).toInt = (d.1 h0 63).toInt := congrArg Int32.toInt ((show yK [38] d d_1 h0 from by rw [ed_1]; exact yK.i yK.rf (by decide)) 63 (by decide))
  refine lv_iload_n hx hb dX9_tell_5 rfl (lv_at hl 1 rfl) ?_
  refine lv_iconst (v := 1) hx hb dX9_tell_6 (by decide) ?_
  refine lv_icmp_lt (tgt := 33) hx hb dX9_tell_7 (by decide) (fun c_2 => ?_) (fun c_2 => ?_)
  · refine lv_iconst (v := 1) hx hb dX9_tell_33 (by decide) ?_
    refine lv_goto (tgt := 63) hx hb dX9_tell_34 (by decide) ?_
    refine lv_istore_n (lv' := [(3, .int 1), (0, .ref h0), (1, .int p0), (2, .int p1)]) hx hb dX9_tell_63 rfl hl (by decide) rfl (fun ls hl => ?_)
    refine lv_iload_n hx hb dX9_tell_64 rfl (lv_at hl 0 rfl) ?_
    refine lv_if_eq (tgt := 74) hx hb dX9_tell_65 (by decide) (fun c_3 => absurd c_3 (by decide +kernel)) (fun c_3 => ?_)
    refine lv_aload_n hx hb dX9_tell_68 rfl (lv_at hl 1 rfl) ?_
    refine lv_iload_n hx hb dX9_tell_69 rfl (lv_at hl 0 rfl) ?_
    refine yVwi (As := [.int 1]) (rest := []) C0 (g_X9_no l G S d_1 h0 1 hSh hPod_1 hm_h0 hk_h0 (by decide +kernel)) ok_X9_no (mW177 : Cond.methodLink RX9 168 yX9_no ∈ wsT) ⟨Nat.le_of_ble_eq_true rfl, Nat.le_of_ble_eq_true rfl⟩ hP hD hS hA hK hN hm_h0 hk_h0 (by decide) rfl rfl rfl hl.1 rfl (Nat.le_of_ble_eq_true rfl) ⟨Nat.le_of_ble_eq_true rfl, Nat.le_of_ble_eq_true rfl⟩ dX9_tell_70 (fun r_4 d_5 H locs hr_4 hP hD hS => ?_)
    obtain ⟨hgad_5, hpad_5, hfad_5, hxd_5⟩ := hr_4
    have hfd_5 : yK [2, 38] d d_5 h0 := yK.tr hfd_1 hfad_5 (by decide)
    have hE0d_5 : (d_5.1 h0 0).toInt = (d_1.1 h0 0).toInt := congrArg Int32.toInt (hfad_5 0 (by decide))
    have hE1d_5 : (d_5.1 h0 1).toInt = (d_1.1 h0 1).toInt := congrArg Int32.toInt (hfad_5 1 (by decide))
    have hE2d_5 : (d_5.1 h0 2).toInt = (d_1.1 h0 2).toInt := congrArg Int32.toInt (hfad_5 2 (by decide))
    have hE3d_5 : (d_5.1 h0 3).toInt = (d_1.1 h0 3).toInt := congrArg Int32.toInt (hfad_5 3 (by decide))
    have hE63d_5 : (d_5.1 h0 63).toInt = (d_1.1 h0 63).toInt := congrArg Int32.toInt (hfad_5 63 (by decide))
    have hId_5 : yMI S d_5 h0 := yMI.ag hId_1 hSh hm_h0 hk_h0 hgad_5 hfad_5 (by decide) (by decide)
    have hgd_5 : yAg S [9, 48, 49, 69] d d_5 := yAg.tr hgd_1 hgad_5 (by first | decide | exact fun _ h => h)
    have hPod_5 : yPo S d_5 := hpad_5 hPod_1
    have hm1r_4 : (r_4 : Int32).toInt = -1 := by rw [hxd_5]; decide +kernel
    have hCC_6 := yMI.c hId_5
    have F_7 := flt (rfl : (p0 : Int32).toInt = (p0 : Int32).toInt) (by decide +kernel : (1 : Int32).toInt = 1) c_2
    have F_8 := fne (by decide +kernel : (1 : Int32).toInt = 1) (by decide +kernel : (0 : Int32).toInt = 0) c_3
    exact W.iret (v := r_4) hx hb hr (fun t ht hW => ⟨⟨r_4, d_5, rfl, ⟨hgd_5, (fun _ => hPod_5), hfd_5, ⟨hId_5, Or.inl ⟨by omega, by omega, (((hfad_5 2 (by decide))).trans (show d_1.1 h0 2 = d.1 h0 2 by rw [ed_1]; exact yi_at (by decide))), (((hfad_5 3 (by decide))).trans (show d_1.1 h0 3 = d.1 h0 3 by rw [ed_1]; exact yi_at (by decide)))⟩⟩⟩, by rw [ht]; exact hP, hD⟩, hS.F ht⟩) hS.2.2 dX9_tell_73
  · refine lv_iload_n hx hb dX9_tell_10 rfl (lv_at hl 1 rfl) ?_
    refine lv_ldc (v := 129600) hx hb hown (htl (.constant RX9 174 (129600)) mW221) dX9_tell_11 ?_
    refine lv_icmp_gt (tgt := 33) hx hb dX9_tell_13 (by decide) (fun c_9 => ?_) (fun c_9 => ?_)
    · refine lv_iconst (v := 1) hx hb dX9_tell_33 (by decide) ?_
      refine lv_goto (tgt := 63) hx hb dX9_tell_34 (by decide) ?_
      refine lv_istore_n (lv' := [(3, .int 1), (0, .ref h0), (1, .int p0), (2, .int p1)]) hx hb dX9_tell_63 rfl hl (by decide) rfl (fun ls hl => ?_)
      refine lv_iload_n hx hb dX9_tell_64 rfl (lv_at hl 0 rfl) ?_
      refine lv_if_eq (tgt := 74) hx hb dX9_tell_65 (by decide) (fun c_10 => absurd c_10 (by decide +kernel)) (fun c_10 => ?_)
      refine lv_aload_n hx hb dX9_tell_68 rfl (lv_at hl 1 rfl) ?_
      refine lv_iload_n hx hb dX9_tell_69 rfl (lv_at hl 0 rfl) ?_
      refine yVwi (As := [.int 1]) (rest := []) C0 (g_X9_no l G S d_1 h0 1 hSh hPod_1 hm_h0 hk_h0 (by decide +kernel)) ok_X9_no (mW177 : Cond.methodLink RX9 168 yX9_no ∈ wsT) ⟨Nat.le_of_ble_eq_true rfl, Nat.le_of_ble_eq_true rfl⟩ hP hD hS hA hK hN hm_h0 hk_h0 (by decide) rfl rfl rfl hl.1 rfl (Nat.le_of_ble_eq_true rfl) ⟨Nat.le_of_ble_eq_true rfl, Nat.le_of_ble_eq_true rfl⟩ dX9_tell_70 (fun r_11 d_12 H locs hr_11 hP hD hS => ?_)
      obtain ⟨hgad_12, hpad_12, hfad_12, hxd_12⟩ := hr_11
      have hfd_12 : yK [2, 38] d d_12 h0 := yK.tr hfd_1 hfad_12 (by decide)
      have hE0d_12 : (d_12.1 h0 0).toInt = (d_1.1 h0 0).toInt := congrArg Int32.toInt (hfad_12 0 (by decide))
      have hE1d_12 : (d_12.1 h0 1).toInt = (d_1.1 h0 1).toInt := congrArg Int32.toInt (hfad_12 1 (by decide))
      have hE2d_12 : (d_12.1 h0 2).toInt = (d_1.1 h0 2).toInt := congrArg Int32.toInt (hfad_12 2 (by decide))
      have hE3d_12 : (d_12.1 h0 3).toInt = (d_1.1 h0 3).toInt := congrArg Int32.toInt (hfad_12 3 (by decide))
      have hE63d_12 : (d_12.1 h0 63).toInt = (d_1.1 h0 63).toInt := congrArg Int32.toInt (hfad_12 63 (by decide))
      have hId_12 : yMI S d_12 h0 := yMI.ag hId_1 hSh hm_h0 hk_h0 hgad_12 hfad_12 (by decide) (by decide)
      have hgd_12 : yAg S [9, 48, 49, 69] d d_12 := yAg.tr hgd_1 hgad_12 (by first | decide | exact fun _ h => h)
      have hPod_12 : yPo S d_12 := hpad_12 hPod_1
      have hm1r_11 : (r_11 : Int32).toInt = -1 := by rw [hxd_12]; decide +kernel
      have hCC_13 := yMI.c hId_12
      have F_14 := fnlt (rfl : (p0 : Int32).toInt = (p0 : Int32).toInt) (by decide +kernel : (1 : Int32).toInt = 1) c_2
      have F_15 := flt (by decide +kernel : (129600 : Int32).toInt = 129600) (rfl : (p0 : Int32).toInt = (p0 : Int32).toInt) c_9
      have F_16 := fne (by decide +kernel : (1 : Int32).toInt = 1) (by decide +kernel : (0 : Int32).toInt = 0) c_10
      exact W.iret (v := r_11) hx hb hr (fun t ht hW => ⟨⟨r_11, d_12, rfl, ⟨hgd_12, (fun _ => hPod_12), hfd_12, ⟨hId_12, Or.inl ⟨by omega, by omega, (((hfad_12 2 (by decide))).trans (show d_1.1 h0 2 = d.1 h0 2 by rw [ed_1]; exact yi_at (by decide))), (((hfad_12 3 (by decide))).trans (show d_1.1 h0 3 = d.1 h0 3 by rw [ed_1]; exact yi_at (by decide)))⟩⟩⟩, by rw [ht]; exact hP, hD⟩, hS.F ht⟩) hS.2.2 dX9_tell_73
    · refine lv_iload_n hx hb dX9_tell_16 rfl (lv_at hl 2 rfl) ?_
      refine lv_bipush (v := (-3)) hx hb dX9_tell_17 (by decide) ?_
      refine lv_icmp_lt (tgt := 33) hx hb dX9_tell_19 (by decide) (fun c_17 => ?_) (fun c_17 => ?_)
      · refine lv_iconst (v := 1) hx hb dX9_tell_33 (by decide) ?_
        refine lv_goto (tgt := 63) hx hb dX9_tell_34 (by decide) ?_
        refine lv_istore_n (lv' := [(3, .int 1), (0, .ref h0), (1, .int p0), (2, .int p1)]) hx hb dX9_tell_63 rfl hl (by decide) rfl (fun ls hl => ?_)
        refine lv_iload_n hx hb dX9_tell_64 rfl (lv_at hl 0 rfl) ?_
        refine lv_if_eq (tgt := 74) hx hb dX9_tell_65 (by decide) (fun c_18 => absurd c_18 (by decide +kernel)) (fun c_18 => ?_)
        refine lv_aload_n hx hb dX9_tell_68 rfl (lv_at hl 1 rfl) ?_
        refine lv_iload_n hx hb dX9_tell_69 rfl (lv_at hl 0 rfl) ?_
        refine yVwi (As := [.int 1]) (rest := []) C0 (g_X9_no l G S d_1 h0 1 hSh hPod_1 hm_h0 hk_h0 (by decide +kernel)) ok_X9_no (mW177 : Cond.methodLink RX9 168 yX9_no ∈ wsT) ⟨Nat.le_of_ble_eq_true rfl, Nat.le_of_ble_eq_true rfl⟩ hP hD hS hA hK hN hm_h0 hk_h0 (by decide) rfl rfl rfl hl.1 rfl (Nat.le_of_ble_eq_true rfl) ⟨Nat.le_of_ble_eq_true rfl, Nat.le_of_ble_eq_true rfl⟩ dX9_tell_70 (fun r_19 d_20 H locs hr_19 hP hD hS => ?_)
        obtain ⟨hgad_20, hpad_20, hfad_20, hxd_20⟩ := hr_19
        have hfd_20 : yK [2, 38] d d_20 h0 := yK.tr hfd_1 hfad_20 (by decide)
        have hE0d_20 : (d_20.1 h0 0).toInt = (d_1.1 h0 0).toInt := congrArg Int32.toInt (hfad_20 0 (by decide))
        have hE1d_20 : (d_20.1 h0 1).toInt = (d_1.1 h0 1).toInt := congrArg Int32.toInt (hfad_20 1 (by decide))
        have hE2d_20 : (d_20.1 h0 2).toInt = (d_1.1 h0 2).toInt := congrArg Int32.toInt (hfad_20 2 (by decide))
        have hE3d_20 : (d_20.1 h0 3).toInt = (d_1.1 h0 3).toInt := congrArg Int32.toInt (hfad_20 3 (by decide))
        have hE63d_20 : (d_20.1 h0 63).toInt = (d_1.1 h0 63).toInt := congrArg Int32.toInt (hfad_20 63 (by decide))
        have hId_20 : yMI S d_20 h0 := yMI.ag hId_1 hSh hm_h0 hk_h0 hgad_20 hfad_20 (by decide) (by decide)
        have hgd_20 : yAg S [9, 48, 49, 69] d d_20 := yAg.tr hgd_1 hgad_20 (by first | decide | exact fun _ h => h)
        have hPod_20 : yPo S d_20 := hpad_20 hPod_1
        have hm1r_19 : (r_19 : Int32).toInt = -1 := by rw [hxd_20]; decide +kernel
        have hCC_21 := yMI.c hId_20
        have F_22 := fnlt (rfl : (p0 : Int32).toInt = (p0 : Int32).toInt) (by decide +kernel : (1 : Int32).toInt = 1) c_2
        have F_23 := fnlt (by decide +kernel : (129600 : Int32).toInt = 129600) (rfl : (p0 : Int32).toInt = (p0 : Int32).toInt) c_9
        have F_24 := flt (rfl : (p1 : Int32).toInt = (p1 : Int32).toInt) (by decide +kernel : ((-3) : Int32).toInt = (-3)) c_17
        have F_25 := fne (by decide +kernel : (1 : Int32).toInt = 1) (by decide +kernel : (0 : Int32).toInt = 0) c_18
        exact W.iret (v := r_19) hx hb hr (fun t ht hW => ⟨⟨r_19, d_20, rfl, ⟨hgd_20, (fun _ => hPod_20), hfd_20, ⟨hId_20, Or.inl ⟨by omega, by omega, (((hfad_20 2 (by decide))).trans (show d_1.1 h0 2 = d.1 h0 2 by rw [ed_1]; exact yi_at (by decide))), (((hfad_20 3 (by decide))).trans (show d_1.1 h0 3 = d.1 h0 3 by rw [ed_1]; exact yi_at (by decide)))⟩⟩⟩, by rw [ht]; exact hP, hD⟩, hS.F ht⟩) hS.2.2 dX9_tell_73
      · refine lv_iload_n hx hb dX9_tell_22 rfl (lv_at hl 2 rfl) ?_
        refine lv_iconst (v := (-1)) hx hb dX9_tell_23 (by decide) ?_
        refine lv_icmp_eq (tgt := 33) hx hb dX9_tell_24 (by decide) (fun c_26 => ?_) (fun c_26 => ?_)
        · refine lv_iconst (v := 1) hx hb dX9_tell_33 (by decide) ?_
          refine lv_goto (tgt := 63) hx hb dX9_tell_34 (by decide) ?_
          refine lv_istore_n (lv' := [(3, .int 1), (0, .ref h0), (1, .int p0), (2, .int p1)]) hx hb dX9_tell_63 rfl hl (by decide) rfl (fun ls hl => ?_)
          refine lv_iload_n hx hb dX9_tell_64 rfl (lv_at hl 0 rfl) ?_
          refine lv_if_eq (tgt := 74) hx hb dX9_tell_65 (by decide) (fun c_27 => absurd c_27 (by decide +kernel)) (fun c_27 => ?_)
          refine lv_aload_n hx hb dX9_tell_68 rfl (lv_at hl 1 rfl) ?_
          refine lv_iload_n hx hb dX9_tell_69 rfl (lv_at hl 0 rfl) ?_
          refine yVwi (As := [.int 1]) (rest := []) C0 (g_X9_no l G S d_1 h0 1 hSh hPod_1 hm_h0 hk_h0 (by decide +kernel)) ok_X9_no (mW177 : Cond.methodLink RX9 168 yX9_no ∈ wsT) ⟨Nat.le_of_ble_eq_true rfl, Nat.le_of_ble_eq_true rfl⟩ hP hD hS hA hK hN hm_h0 hk_h0 (by decide) rfl rfl rfl hl.1 rfl (Nat.le_of_ble_eq_true rfl) ⟨Nat.le_of_ble_eq_true rfl, Nat.le_of_ble_eq_true rfl⟩ dX9_tell_70 (fun r_28 d_29 H locs hr_28 hP hD hS => ?_)
          obtain ⟨hgad_29, hpad_29, hfad_29, hxd_29⟩ := hr_28
          have hfd_29 : yK [2, 38] d d_29 h0 := yK.tr hfd_1 hfad_29 (by decide)
          have hE0d_29 : (d_29.1 h0 0).toInt = (d_1.1 h0 0).toInt := congrArg Int32.toInt (hfad_29 0 (by decide))
          have hE1d_29 : (d_29.1 h0 1).toInt = (d_1.1 h0 1).toInt := congrArg Int32.toInt (hfad_29 1 (by decide))
          have hE2d_29 : (d_29.1 h0 2).toInt = (d_1.1 h0 2).toInt := congrArg Int32.toInt (hfad_29 2 (by decide))
          have hE3d_29 : (d_29.1 h0 3).toInt = (d_1.1 h0 3).toInt := congrArg Int32.toInt (hfad_29 3 (by decide))
          have hE63d_29 : (d_29.1 h0 63).toInt = (d_1.1 h0 63).toInt := congrArg Int32.toInt (hfad_29 63 (by decide))
          have hId_29 : yMI S d_29 h0 := yMI.ag hId_1 hSh hm_h0 hk_h0 hgad_29 hfad_29 (by decide) (by decide)
          have hgd_29 : yAg S [9, 48, 49, 69] d d_29 := yAg.tr hgd_1 hgad_29 (by first | decide | exact fun _ h => h)
          have hPod_29 : yPo S d_29 := hpad_29 hPod_1
          have hm1r_28 : (r_28 : Int32).toInt = -1 := by rw [hxd_29]; decide +kernel
          have hCC_30 := yMI.c hId_29
          have F_31 := fnlt (rfl : (p0 : Int32).toInt = (p0 : Int32).toInt) (by decide +kernel : (1 : Int32).toInt = 1) c_2
          have F_32 := fnlt (by decide +kernel : (129600 : Int32).toInt = 129600) (rfl : (p0 : Int32).toInt = (p0 : Int32).toInt) c_9
          have F_33 := fnlt (rfl : (p1 : Int32).toInt = (p1 : Int32).toInt) (by decide +kernel : ((-3) : Int32).toInt = (-3)) c_17
          have F_34 := feq (rfl : (p1 : Int32).toInt = (p1 : Int32).toInt) (by decide +kernel : ((-1) : Int32).toInt = (-1)) c_26
          have F_35 := fne (by decide +kernel : (1 : Int32).toInt = 1) (by decide +kernel : (0 : Int32).toInt = 0) c_27
          exact W.iret (v := r_28) hx hb hr (fun t ht hW => ⟨⟨r_28, d_29, rfl, ⟨hgd_29, (fun _ => hPod_29), hfd_29, ⟨hId_29, Or.inl ⟨by omega, by omega, (((hfad_29 2 (by decide))).trans (show d_1.1 h0 2 = d.1 h0 2 by rw [ed_1]; exact yi_at (by decide))), (((hfad_29 3 (by decide))).trans (show d_1.1 h0 3 = d.1 h0 3 by rw [ed_1]; exact yi_at (by decide)))⟩⟩⟩, by rw [ht]; exact hP, hD⟩, hS.F ht⟩) hS.2.2 dX9_tell_73
        · refine lv_iload_n hx hb dX9_tell_27 rfl (lv_at hl 2 rfl) ?_
          refine lv_bipush (v := 60) hx hb dX9_tell_28 (by decide) ?_
          refine lv_icmp_lt (tgt := 37) hx hb dX9_tell_30 (by decide) (fun c_36 => ?_) (fun c_36 => ?_)
          · refine lv_aload_n hx hb dX9_tell_37 rfl (lv_at hl 0 rfl) ?_
            refine yget (ci := 9) (k := 3) (v := .int (d_1.1 h0 3)) (C := RX9) (T := TX9) (N := 67) C0 hK hP hm_h0 hk_h0 (by decide) rfl inlX9 (by decide) mW106 (fun _ h9 => h9) rfl dX9_tell_38 ?_
            refine lv_topi (fun z_37 ez_37 => ?_)
            refine lv_if_ge (tgt := 48) hx hb dX9_tell_41 (by decide) (fun c_38 => ?_) (fun c_38 => ?_)
            · refine lv_aload_n hx hb dX9_tell_48 rfl (lv_at hl 0 rfl) ?_
              refine yget (ci := 9) (k := 2) (v := .int (d_1.1 h0 2)) (C := RX9) (T := TX9) (N := 67) C0 hK hP hm_h0 hk_h0 (by decide) rfl inlX9 (by decide) mW888 (fun _ h9 => h9) rfl dX9_tell_49 ?_
              refine lv_topi (fun z_39 ez_39 => ?_)
              refine lv_sipush (v := 500) hx hb dX9_tell_52 (by decide) ?_
              refine lv_icmp_ne (tgt := 62) hx hb dX9_tell_55 (by decide) (fun c_40 => ?_) (fun c_40 => ?_)
              · refine lv_iconst (v := 0) hx hb dX9_tell_62 (by decide) ?_
                refine lv_istore_n (lv' := [(3, .int 0), (0, .ref h0), (1, .int p0), (2, .int p1)]) hx hb dX9_tell_63 rfl hl (by decide) rfl (fun ls hl => ?_)
                refine lv_iload_n hx hb dX9_tell_64 rfl (lv_at hl 0 rfl) ?_
                refine lv_if_eq (tgt := 74) hx hb dX9_tell_65 (by decide) (fun c_41 => ?_) (fun c_41 => absurd c_41 (by decide +kernel))
                refine lv_aload_n hx hb dX9_tell_74 rfl (lv_at hl 1 rfl) ?_
                refine yget (ci := 9) (k := 18) (v := .ref (S.2.2.1 h0 18)) (C := RX9) (T := TX9) (N := 67) C0 hK hP hm_h0 hk_h0 (by decide) rfl inlX9 (by decide) mW125 (fun _ h9 => h9) rfl dX9_tell_75 ?_
                obtain ⟨hmy_42, hky_42⟩ := ySh.f9_18 hSh _ hm_h0 hk_h0
                refine lv_aload_n hx hb dX9_tell_78 rfl (lv_at hl 1 rfl) ?_
                refine yget (ci := 9) (k := 2) (v := .int (d_1.1 h0 2)) (C := RX9) (T := TX9) (N := 67) C0 hK hP hm_h0 hk_h0 (by decide) rfl inlX9 (by decide) mW888 (fun _ h9 => h9) rfl dX9_tell_79 ?_
                refine lv_topi (fun z_43 ez_43 => ?_)
                refine lv_iload_n hx hb dX9_tell_82 rfl (lv_at hl 2 rfl) ?_
                have hCC_44 := yMI.c hId_1
                have F_45 := fnlt (rfl : (p0 : Int32).toInt = (p0 : Int32).toInt) (by decide +kernel : (1 : Int32).toInt = 1) c_2
                have F_46 := fnlt (by decide +kernel : (129600 : Int32).toInt = 129600) (rfl : (p0 : Int32).toInt = (p0 : Int32).toInt) c_9
                have F_47 := fnlt (rfl : (p1 : Int32).toInt = (p1 : Int32).toInt) (by decide +kernel : ((-3) : Int32).toInt = (-3)) c_17
                have F_48 := fne (rfl : (p1 : Int32).toInt = (p1 : Int32).toInt) (by decide +kernel : ((-1) : Int32).toInt = (-1)) c_26
                have F_49 := flt (rfl : (p1 : Int32).toInt = (p1 : Int32).toInt) (by decide +kernel : (60 : Int32).toInt = 60) c_36
                have T_50 : (z_37 : Int32).toInt = (d_1.1 h0 3).toInt := by rw [ez_37]
                have F_51 := fle (by decide +kernel : (0 : Int32).toInt = 0) (rfl : (z_37 : Int32).toInt = (z_37 : Int32).toInt) c_38
                have T_52 : (z_39 : Int32).toInt = (d_1.1 h0 2).toInt := by rw [ez_39]
                have F_53 := fne (rfl : (z_39 : Int32).toInt = (z_39 : Int32).toInt) (by decide +kernel : (500 : Int32).toInt = 500) c_40
                have F_54 := feq (by decide +kernel : (0 : Int32).toInt = 0) (by decide +kernel : (0 : Int32).toInt = 0) c_41
                have T_55 : (z_43 : Int32).toInt = (d_1.1 h0 2).toInt := by rw [ez_43]
                refine yast C0 hK hP hD hS hmy_42 hky_42 (by decide) rfl 0 rfl (xinT 500 rfl (by omega) (by omega)) dX9_tell_83 (fun H locs hP hD hS => ?_)
                obtain ⟨d_56, ed_56⟩ : ∃ z : yD, z = ycs d_1 (S.2.2.1 h0 18) (upd (d_1.2.2.2.1 (S.2.2.1 h0 18)) (z_43 : Int32).toNatClampNeg p0) := ⟨_, rfl⟩
                rw [← ed_56] at hP hD
                have hgd_56 : yAg S [9, 48, 49, 69] d d_56 := by rw [ed_56]; exact yAg.cs hgd_1 (by rw [hky_42]; decide)
                have hsd_56 : yAg S [48] d_1 d_56 := by rw [ed_56]; exact yAg.cs yAg.rf (by rw [hky_42]; decide)
                have hPod_56 : yPo S d_56 := by rw [ed_56]; exact hPod_1
                have hfd_56 : yK [2, 38] d d_56 h0 := yK.ag hfd_1 (show yAg S [48] d_1 d_56 from by rw [ed_56]; exact yAg.cs yAg.rf (by rw [hky_42]; decide)) (by rw [hk_h0]; decide)
                have hId_56 : yMI S d_56 h0 := yMI.ag hId_1 hSh hm_h0 hk_h0 (show yAg S [48] d_1 d_56 from by rw [ed_56]; exact yAg.cs yAg.rf (by rw [hky_42]; decide)) (yK.ag (F := []) yK.rf (show yAg S [48] d_1 d_56 from by rw [ed_56]; exact yAg.cs yAg.rf (by rw [hky_42]; decide)) (by rw [hk_h0]; decide)) (by decide) (by decide)
                have hE0d_56 : (d_56.1 h0 0).toInt = (d_1.1 h0 0).toInt := congrArg Int32.toInt ((yK.ag (F := []) yK.rf (show yAg S [48] d_1 d_56 from by rw [ed_56]; exact yAg.cs yAg.rf (by rw [hky_42]; decide)) (by rw [hk_h0]; decide)) 0 (by decide))
                have hE1d_56 : (d_56.1 h0 1).toInt = (d_1.1 h0 1).toInt := congrArg Int32.toInt ((yK.ag (F := []) yK.rf (show yAg S [48] d_1 d_56 from by rw [ed_56]; exact yAg.cs yAg.rf (by rw [hky_42]; decide)) (by rw [hk_h0]; decide)) 1 (by decide))
                have hE2d_56 : (d_56.1 h0 2).toInt = (d_1.1 h0 2).toInt := congrArg Int32.toInt ((yK.ag (F := []) yK.rf (show yAg S [48] d_1 d_56 from by rw [ed_56]; exact yAg.cs yAg.rf (by rw [hky_42]; decide)) (by rw [hk_h0]; decide)) 2 (by decide))
                have hE3d_56 : (d_56.1 h0 3).toInt = (d_1.1 h0 3).toInt := congrArg Int32.toInt ((yK.ag (F := []) yK.rf (show yAg S [48] d_1 d_56 from by rw [ed_56]; exact yAg.cs yAg.rf (by rw [hky_42]; decide)) (by rw [hk_h0]; decide)) 3 (by decide))
                have hE63d_56 : (d_56.1 h0 63).toInt = (d_1.1 h0 63).toInt := congrArg Int32.toInt ((yK.ag (F := []) yK.rf (show yAg S [48] d_1 d_56 from by rw [ed_56]; exact yAg.cs yAg.rf (by rw [hky_42]; decide)) (by rw [hk_h0]; decide)) 63 (by decide))
                refine lv_aload_n hx hb dX9_tell_84 rfl (lv_at hl 1 rfl) ?_
                refine yget (ci := 9) (k := 19) (v := .ref (S.2.2.1 h0 19)) (C := RX9) (T := TX9) (N := 67) C0 hK hP hm_h0 hk_h0 (by decide) rfl inlX9 (by decide) mW126 (fun _ h9 => h9) rfl dX9_tell_85 ?_
                obtain ⟨hmy_57, hky_57⟩ := ySh.f9_19 hSh _ hm_h0 hk_h0
                refine lv_aload_n hx hb dX9_tell_88 rfl (lv_at hl 1 rfl) ?_
                refine yget (ci := 9) (k := 2) (v := .int (d_56.1 h0 2)) (C := RX9) (T := TX9) (N := 67) C0 hK hP hm_h0 hk_h0 (by decide) rfl inlX9 (by decide) mW888 (fun _ h9 => h9) rfl dX9_tell_89 ?_
                refine lv_topi (fun z_58 ez_58 => ?_)
                refine lv_iload_n hx hb dX9_tell_92 rfl (lv_at hl 3 rfl) ?_
                refine lv_i2b hx hb dX9_tell_93 rfl ?_
                refine lv_topi (fun z_59 ez_59 => ?_)
                have hCC_60 := yMI.c hId_56
                have T_61 : (z_58 : Int32).toInt = (d_56.1 h0 2).toInt := by rw [ez_58]
                refine yastB C0 hK hP hD hS hmy_57 hky_57 (by decide) rfl 1 rfl (xinT 500 rfl (by omega) (by omega)) dX9_tell_94 (fun H locs hP hD hS => ?_)
                obtain ⟨d_62, ed_62⟩ : ∃ z : yD, z = ycs d_56 (S.2.2.1 h0 19) (upd (d_56.2.2.2.1 (S.2.2.1 h0 19)) (z_58 : Int32).toNatClampNeg (vp_nar .byte z_59)) := ⟨_, rfl⟩
                rw [← ed_62] at hP hD
                have hgd_62 : yAg S [9, 48, 49, 69] d d_62 := by rw [ed_62]; exact yAg.cs hgd_56 (by rw [hky_57]; decide)
                have hsd_62 : yAg S [49] d_56 d_62 := by rw [ed_62]; exact yAg.cs yAg.rf (by rw [hky_57]; decide)
                have hPod_62 : yPo S d_62 := by rw [ed_62]; exact hPod_56
                have hfd_62 : yK [2, 38] d d_62 h0 := yK.ag hfd_56 (show yAg S [49] d_56 d_62 from by rw [ed_62]; exact yAg.cs yAg.rf (by rw [hky_57]; decide)) (by rw [hk_h0]; decide)
                have hId_62 : yMI S d_62 h0 := yMI.ag hId_56 hSh hm_h0 hk_h0 (show yAg S [49] d_56 d_62 from by rw [ed_62]; exact yAg.cs yAg.rf (by rw [hky_57]; decide)) (yK.ag (F := []) yK.rf (show yAg S [49] d_56 d_62 from by rw [ed_62]; exact yAg.cs yAg.rf (by rw [hky_57]; decide)) (by rw [hk_h0]; decide)) (by decide) (by decide)
                have hE0d_62 : (d_62.1 h0 0).toInt = (d_56.1 h0 0).toInt := congrArg Int32.toInt ((yK.ag (F := []) yK.rf (show yAg S [49] d_56 d_62 from by rw [ed_62]; exact yAg.cs yAg.rf (by rw [hky_57]; decide)) (by rw [hk_h0]; decide)) 0 (by decide))
                have hE1d_62 : (d_62.1 h0 1).toInt = (d_56.1 h0 1).toInt := congrArg Int32.toInt ((yK.ag (F := []) yK.rf (show yAg S [49] d_56 d_62 from by rw [ed_62]; exact yAg.cs yAg.rf (by rw [hky_57]; decide)) (by rw [hk_h0]; decide)) 1 (by decide))
                have hE2d_62 : (d_62.1 h0 2).toInt = (d_56.1 h0 2).toInt := congrArg Int32.toInt ((yK.ag (F := []) yK.rf (show yAg S [49] d_56 d_62 from by rw [ed_62]; exact yAg.cs yAg.rf (by rw [hky_57]; decide)) (by rw [hk_h0]; decide)) 2 (by decide))
                have hE3d_62 : (d_62.1 h0 3).toInt = (d_56.1 h0 3).toInt := congrArg Int32.toInt ((yK.ag (F := []) yK.rf (show yAg S [49] d_56 d_62 from by rw [ed_62]; exact yAg.cs yAg.rf (by rw [hky_57]; decide)) (by rw [hk_h0]; decide)) 3 (by decide))
                have hE63d_62 : (d_62.1 h0 63).toInt = (d_56.1 h0 63).toInt := congrArg Int32.toInt ((yK.ag (F := []) yK.rf (show yAg S [49] d_56 d_62 from by rw [ed_62]; exact yAg.cs yAg.rf (by rw [hky_57]; decide)) (by rw [hk_h0]; decide)) 63 (by decide))
                refine lv_aload_n hx hb dX9_tell_95 rfl (lv_at hl 1 rfl) ?_
                refine lv_dup hx hb dX9_tell_96 rfl ?_
                refine yget (ci := 9) (k := 2) (v := .int (d_62.1 h0 2)) (C := RX9) (T := TX9) (N := 67) C0 hK hP hm_h0 hk_h0 (by decide) rfl inlX9 (by decide) mW888 (fun _ h9 => h9) rfl dX9_tell_97 ?_
                refine lv_topi (fun z_63 ez_63 => ?_)
                refine lv_iconst (v := 1) hx hb dX9_tell_100 (by decide) ?_
                refine lv_iadd hx hb dX9_tell_101 ?_
                refine lv_topi (fun z_64 ez_64 => ?_)
                refine yputI (ci := 9) (k := 2) (ty := .int) (C := RX9) (T := TX9) (N := 67) C0 hK hP hD hS hm_h0 hk_h0 (by decide) rfl inlX9 tyX9 tyX9_ok nmX9 (by decide) mW888 (fun _ h9 => h9) rfl (by decide +kernel) rfl rfl (Nat.le_of_ble_eq_true rfl) ysi_9_2 dX9_tell_102 (fun H locs hP hD hS => ?_)
                obtain ⟨d_65, ed_65⟩ : ∃ z : yD, z = yi d_62 h0 2 z_64 := ⟨_, rfl⟩
                rw [← ed_65] at hP hD
                have hgd_65 : yAg S [9, 48, 49, 69] d d_65 := by rw [ed_65]; exact yAg.i hgd_62 (by rw [hk_h0]; decide)
                have hsd_65 : yAg S [9] d_62 d_65 := by rw [ed_65]; exact yAg.i yAg.rf (by rw [hk_h0]; decide)
                have hPod_65 : yPo S d_65 := by rw [ed_65]; exact yPo.i hPod_62 hk_h0 (Or.inl rfl)
                have hfd_65 : yK [2, 38] d d_65 h0 := by rw [ed_65]; exact yK.i hfd_62 (by decide)
                have hCC_66 := yMI.c hId_62
                have T_68 : (z_63 : Int32).toInt = (d_62.1 h0 2).toInt := by rw [ez_63]
                have T_67 : (z_64 : Int32).toInt = (z_63 : Int32).toInt + 1 := tadd ez_64 (rfl : (z_63 : Int32).toInt = (z_63 : Int32).toInt) (by decide +kernel : (1 : Int32).toInt = 1) (by omega) (by omega)
                have hId_65 : yMI S d_65 h0 := by rw [ed_65]; exact yMI.i2 hId_62 ⟨by omega, by omega⟩
                have hE0d_65 : (d_65.1 h0 0).toInt = (d_62.1 h0 0).toInt := congrArg Int32.toInt ((show yK [2] d_62 d_65 h0 from by rw [ed_65]; exact yK.i yK.rf (by decide)) 0 (by decide))
                have hE1d_65 : (d_65.1 h0 1).toInt = (d_62.1 h0 1).toInt := congrArg Int32.toInt ((show yK [2] d_62 d_65 h0 from by rw [ed_65]; exact yK.i yK.rf (by decide)) 1 (by decide))
                have hE2d_65 : (d_65.1 h0 2).toInt = (z_64 : Int32).toInt := by rw [ed_65, yi_self]
                have hE3d_65 : (d_65.1 h0 3).toInt = (d_62.1 h0 3).toInt := congrArg Int32.toInt ((show yK [2] d_62 d_65 h0 from by rw [ed_65]; exact yK.i yK.rf (by decide)) 3 (by decide))
                have hE63d_65 : (d_65.1 h0 63).toInt = (d_62.1 h0 63).toInt := congrArg Int32.toInt ((show yK [2] d_62 d_65 h0 from by rw [ed_65]; exact yK.i yK.rf (by decide)) 63 (by decide))
                refine lv_aload_n hx hb dX9_tell_105 rfl (lv_at hl 1 rfl) ?_
                refine yget (ci := 9) (k := 2) (v := .int (d_65.1 h0 2)) (C := RX9) (T := TX9) (N := 67) C0 hK hP hm_h0 hk_h0 (by decide) rfl inlX9 (by decide) mW888 (fun _ h9 => h9) rfl dX9_tell_106 ?_
                refine lv_topi (fun z_69 ez_69 => ?_)
                have hCC_70 := yMI.c hId_65
                have T_71 : (z_69 : Int32).toInt = (d_65.1 h0 2).toInt := by rw [ez_69]
                exact W.iret (v := z_69) hx hb hr (fun t ht hW => ⟨⟨z_69, d_65, rfl, ⟨hgd_65, (fun _ => hPod_65), hfd_65, ⟨hId_65, Or.inr ⟨by omega, by omega, by omega, (((show d_65.1 h0 3 = d_62.1 h0 3 by rw [ed_65]; exact yi_at (by decide))).trans (((show d_62.1 h0 3 = d_56.1 h0 3 by rw [ed_62]; exact rfl)).trans (((show d_56.1 h0 3 = d_1.1 h0 3 by rw [ed_56]; exact rfl)).trans (show d_1.1 h0 3 = d.1 h0 3 by rw [ed_1]; exact yi_at (by decide)))))⟩⟩⟩, by rw [ht]; exact hP, hD⟩, hS.F ht⟩) hS.2.2 dX9_tell_109
              · refine lv_iconst (v := 5) hx hb dX9_tell_58 (by decide) ?_
                refine lv_goto (tgt := 63) hx hb dX9_tell_59 (by decide) ?_
                refine lv_istore_n (lv' := [(3, .int 5), (0, .ref h0), (1, .int p0), (2, .int p1)]) hx hb dX9_tell_63 rfl hl (by decide) rfl (fun ls hl => ?_)
                refine lv_iload_n hx hb dX9_tell_64 rfl (lv_at hl 0 rfl) ?_
                refine lv_if_eq (tgt := 74) hx hb dX9_tell_65 (by decide) (fun c_72 => absurd c_72 (by decide +kernel)) (fun c_72 => ?_)
                refine lv_aload_n hx hb dX9_tell_68 rfl (lv_at hl 1 rfl) ?_
                refine lv_iload_n hx hb dX9_tell_69 rfl (lv_at hl 0 rfl) ?_
                refine yVwi (As := [.int 5]) (rest := []) C0 (g_X9_no l G S d_1 h0 5 hSh hPod_1 hm_h0 hk_h0 (by decide +kernel)) ok_X9_no (mW177 : Cond.methodLink RX9 168 yX9_no ∈ wsT) ⟨Nat.le_of_ble_eq_true rfl, Nat.le_of_ble_eq_true rfl⟩ hP hD hS hA hK hN hm_h0 hk_h0 (by decide) rfl rfl rfl hl.1 rfl (Nat.le_of_ble_eq_true rfl) ⟨Nat.le_of_ble_eq_true rfl, Nat.le_of_ble_eq_true rfl⟩ dX9_tell_70 (fun r_73 d_74 H locs hr_73 hP hD hS => ?_)
                obtain ⟨hgad_74, hpad_74, hfad_74, hxd_74⟩ := hr_73
                have hfd_74 : yK [2, 38] d d_74 h0 := yK.tr hfd_1 hfad_74 (by decide)
                have hE0d_74 : (d_74.1 h0 0).toInt = (d_1.1 h0 0).toInt := congrArg Int32.toInt (hfad_74 0 (by decide))
                have hE1d_74 : (d_74.1 h0 1).toInt = (d_1.1 h0 1).toInt := congrArg Int32.toInt (hfad_74 1 (by decide))
                have hE2d_74 : (d_74.1 h0 2).toInt = (d_1.1 h0 2).toInt := congrArg Int32.toInt (hfad_74 2 (by decide))
                have hE3d_74 : (d_74.1 h0 3).toInt = (d_1.1 h0 3).toInt := congrArg Int32.toInt (hfad_74 3 (by decide))
                have hE63d_74 : (d_74.1 h0 63).toInt = (d_1.1 h0 63).toInt := congrArg Int32.toInt (hfad_74 63 (by decide))
                have hId_74 : yMI S d_74 h0 := yMI.ag hId_1 hSh hm_h0 hk_h0 hgad_74 hfad_74 (by decide) (by decide)
                have hgd_74 : yAg S [9, 48, 49, 69] d d_74 := yAg.tr hgd_1 hgad_74 (by first | decide | exact fun _ h => h)
                have hPod_74 : yPo S d_74 := hpad_74 hPod_1
                have hm1r_73 : (r_73 : Int32).toInt = -1 := by rw [hxd_74]; decide +kernel
                have hCC_75 := yMI.c hId_74
                have T_76 : (z_37 : Int32).toInt = (d_1.1 h0 3).toInt := by rw [ez_37]
                have T_77 : (z_39 : Int32).toInt = (d_1.1 h0 2).toInt := by rw [ez_39]
                have F_78 := fnlt (rfl : (p0 : Int32).toInt = (p0 : Int32).toInt) (by decide +kernel : (1 : Int32).toInt = 1) c_2
                have F_79 := fnlt (by decide +kernel : (129600 : Int32).toInt = 129600) (rfl : (p0 : Int32).toInt = (p0 : Int32).toInt) c_9
                have F_80 := fnlt (rfl : (p1 : Int32).toInt = (p1 : Int32).toInt) (by decide +kernel : ((-3) : Int32).toInt = (-3)) c_17
                have F_81 := fne (rfl : (p1 : Int32).toInt = (p1 : Int32).toInt) (by decide +kernel : ((-1) : Int32).toInt = (-1)) c_26
                have F_82 := flt (rfl : (p1 : Int32).toInt = (p1 : Int32).toInt) (by decide +kernel : (60 : Int32).toInt = 60) c_36
                have F_83 := fle (by decide +kernel : (0 : Int32).toInt = 0) (rfl : (z_37 : Int32).toInt = (z_37 : Int32).toInt) c_38
                have F_84 := feq (rfl : (z_39 : Int32).toInt = (z_39 : Int32).toInt) (by decide +kernel : (500 : Int32).toInt = 500) c_40
                have F_85 := fne (by decide +kernel : (5 : Int32).toInt = 5) (by decide +kernel : (0 : Int32).toInt = 0) c_72
                exact W.iret (v := r_73) hx hb hr (fun t ht hW => ⟨⟨r_73, d_74, rfl, ⟨hgd_74, (fun _ => hPod_74), hfd_74, ⟨hId_74, Or.inl ⟨by omega, by omega, (((hfad_74 2 (by decide))).trans (show d_1.1 h0 2 = d.1 h0 2 by rw [ed_1]; exact yi_at (by decide))), (((hfad_74 3 (by decide))).trans (show d_1.1 h0 3 = d.1 h0 3 by rw [ed_1]; exact yi_at (by decide)))⟩⟩⟩, by rw [ht]; exact hP, hD⟩, hS.F ht⟩) hS.2.2 dX9_tell_73
            · refine lv_iconst (v := 2) hx hb dX9_tell_44 (by decide) ?_
              refine lv_goto (tgt := 63) hx hb dX9_tell_45 (by decide) ?_
              refine lv_istore_n (lv' := [(3, .int 2), (0, .ref h0), (1, .int p0), (2, .int p1)]) hx hb dX9_tell_63 rfl hl (by decide) rfl (fun ls hl => ?_)
              refine lv_iload_n hx hb dX9_tell_64 rfl (lv_at hl 0 rfl) ?_
              refine lv_if_eq (tgt := 74) hx hb dX9_tell_65 (by decide) (fun c_86 => absurd c_86 (by decide +kernel)) (fun c_86 => ?_)
              refine lv_aload_n hx hb dX9_tell_68 rfl (lv_at hl 1 rfl) ?_
              refine lv_iload_n hx hb dX9_tell_69 rfl (lv_at hl 0 rfl) ?_
              refine yVwi (As := [.int 2]) (rest := []) C0 (g_X9_no l G S d_1 h0 2 hSh hPod_1 hm_h0 hk_h0 (by decide +kernel)) ok_X9_no (mW177 : Cond.methodLink RX9 168 yX9_no ∈ wsT) ⟨Nat.le_of_ble_eq_true rfl, Nat.le_of_ble_eq_true rfl⟩ hP hD hS hA hK hN hm_h0 hk_h0 (by decide) rfl rfl rfl hl.1 rfl (Nat.le_of_ble_eq_true rfl) ⟨Nat.le_of_ble_eq_true rfl, Nat.le_of_ble_eq_true rfl⟩ dX9_tell_70 (fun r_87 d_88 H locs hr_87 hP hD hS => ?_)
              obtain ⟨hgad_88, hpad_88, hfad_88, hxd_88⟩ := hr_87
              have hfd_88 : yK [2, 38] d d_88 h0 := yK.tr hfd_1 hfad_88 (by decide)
              have hE0d_88 : (d_88.1 h0 0).toInt = (d_1.1 h0 0).toInt := congrArg Int32.toInt (hfad_88 0 (by decide))
              have hE1d_88 : (d_88.1 h0 1).toInt = (d_1.1 h0 1).toInt := congrArg Int32.toInt (hfad_88 1 (by decide))
              have hE2d_88 : (d_88.1 h0 2).toInt = (d_1.1 h0 2).toInt := congrArg Int32.toInt (hfad_88 2 (by decide))
              have hE3d_88 : (d_88.1 h0 3).toInt = (d_1.1 h0 3).toInt := congrArg Int32.toInt (hfad_88 3 (by decide))
              have hE63d_88 : (d_88.1 h0 63).toInt = (d_1.1 h0 63).toInt := congrArg Int32.toInt (hfad_88 63 (by decide))
              have hId_88 : yMI S d_88 h0 := yMI.ag hId_1 hSh hm_h0 hk_h0 hgad_88 hfad_88 (by decide) (by decide)
              have hgd_88 : yAg S [9, 48, 49, 69] d d_88 := yAg.tr hgd_1 hgad_88 (by first | decide | exact fun _ h => h)
              have hPod_88 : yPo S d_88 := hpad_88 hPod_1
              have hm1r_87 : (r_87 : Int32).toInt = -1 := by rw [hxd_88]; decide +kernel
              have hCC_89 := yMI.c hId_88
              have T_90 : (z_37 : Int32).toInt = (d_1.1 h0 3).toInt := by rw [ez_37]
              have F_91 := fnlt (rfl : (p0 : Int32).toInt = (p0 : Int32).toInt) (by decide +kernel : (1 : Int32).toInt = 1) c_2
              have F_92 := fnlt (by decide +kernel : (129600 : Int32).toInt = 129600) (rfl : (p0 : Int32).toInt = (p0 : Int32).toInt) c_9
              have F_93 := fnlt (rfl : (p1 : Int32).toInt = (p1 : Int32).toInt) (by decide +kernel : ((-3) : Int32).toInt = (-3)) c_17
              have F_94 := fne (rfl : (p1 : Int32).toInt = (p1 : Int32).toInt) (by decide +kernel : ((-1) : Int32).toInt = (-1)) c_26
              have F_95 := flt (rfl : (p1 : Int32).toInt = (p1 : Int32).toInt) (by decide +kernel : (60 : Int32).toInt = 60) c_36
              have F_96 := fnle (by decide +kernel : (0 : Int32).toInt = 0) (rfl : (z_37 : Int32).toInt = (z_37 : Int32).toInt) c_38
              have F_97 := fne (by decide +kernel : (2 : Int32).toInt = 2) (by decide +kernel : (0 : Int32).toInt = 0) c_86
              exact W.iret (v := r_87) hx hb hr (fun t ht hW => ⟨⟨r_87, d_88, rfl, ⟨hgd_88, (fun _ => hPod_88), hfd_88, ⟨hId_88, Or.inl ⟨by omega, by omega, (((hfad_88 2 (by decide))).trans (show d_1.1 h0 2 = d.1 h0 2 by rw [ed_1]; exact yi_at (by decide))), (((hfad_88 3 (by decide))).trans (show d_1.1 h0 3 = d.1 h0 3 by rw [ed_1]; exact yi_at (by decide)))⟩⟩⟩, by rw [ht]; exact hP, hD⟩, hS.F ht⟩) hS.2.2 dX9_tell_73
          · refine lv_iconst (v := 1) hx hb dX9_tell_33 (by decide) ?_
            refine lv_goto (tgt := 63) hx hb dX9_tell_34 (by decide) ?_
            refine lv_istore_n (lv' := [(3, .int 1), (0, .ref h0), (1, .int p0), (2, .int p1)]) hx hb dX9_tell_63 rfl hl (by decide) rfl (fun ls hl => ?_)
            refine lv_iload_n hx hb dX9_tell_64 rfl (lv_at hl 0 rfl) ?_
            refine lv_if_eq (tgt := 74) hx hb dX9_tell_65 (by decide) (fun c_98 => absurd c_98 (by decide +kernel)) (fun c_98 => ?_)
            refine lv_aload_n hx hb dX9_tell_68 rfl (lv_at hl 1 rfl) ?_
            refine lv_iload_n hx hb dX9_tell_69 rfl (lv_at hl 0 rfl) ?_
            refine yVwi (As := [.int 1]) (rest := []) C0 (g_X9_no l G S d_1 h0 1 hSh hPod_1 hm_h0 hk_h0 (by decide +kernel)) ok_X9_no (mW177 : Cond.methodLink RX9 168 yX9_no ∈ wsT) ⟨Nat.le_of_ble_eq_true rfl, Nat.le_of_ble_eq_true rfl⟩ hP hD hS hA hK hN hm_h0 hk_h0 (by decide) rfl rfl rfl hl.1 rfl (Nat.le_of_ble_eq_true rfl) ⟨Nat.le_of_ble_eq_true rfl, Nat.le_of_ble_eq_true rfl⟩ dX9_tell_70 (fun r_99 d_100 H locs hr_99 hP hD hS => ?_)
            obtain ⟨hgad_100, hpad_100, hfad_100, hxd_100⟩ := hr_99
            have hfd_100 : yK [2, 38] d d_100 h0 := yK.tr hfd_1 hfad_100 (by decide)
            have hE0d_100 : (d_100.1 h0 0).toInt = (d_1.1 h0 0).toInt := congrArg Int32.toInt (hfad_100 0 (by decide))
            have hE1d_100 : (d_100.1 h0 1).toInt = (d_1.1 h0 1).toInt := congrArg Int32.toInt (hfad_100 1 (by decide))
            have hE2d_100 : (d_100.1 h0 2).toInt = (d_1.1 h0 2).toInt := congrArg Int32.toInt (hfad_100 2 (by decide))
            have hE3d_100 : (d_100.1 h0 3).toInt = (d_1.1 h0 3).toInt := congrArg Int32.toInt (hfad_100 3 (by decide))
            have hE63d_100 : (d_100.1 h0 63).toInt = (d_1.1 h0 63).toInt := congrArg Int32.toInt (hfad_100 63 (by decide))
            have hId_100 : yMI S d_100 h0 := yMI.ag hId_1 hSh hm_h0 hk_h0 hgad_100 hfad_100 (by decide) (by decide)
            have hgd_100 : yAg S [9, 48, 49, 69] d d_100 := yAg.tr hgd_1 hgad_100 (by first | decide | exact fun _ h => h)
            have hPod_100 : yPo S d_100 := hpad_100 hPod_1
            have hm1r_99 : (r_99 : Int32).toInt = -1 := by rw [hxd_100]; decide +kernel
            have hCC_101 := yMI.c hId_100
            have F_102 := fnlt (rfl : (p0 : Int32).toInt = (p0 : Int32).toInt) (by decide +kernel : (1 : Int32).toInt = 1) c_2
            have F_103 := fnlt (by decide +kernel : (129600 : Int32).toInt = 129600) (rfl : (p0 : Int32).toInt = (p0 : Int32).toInt) c_9
            have F_104 := fnlt (rfl : (p1 : Int32).toInt = (p1 : Int32).toInt) (by decide +kernel : ((-3) : Int32).toInt = (-3)) c_17
            have F_105 := fne (rfl : (p1 : Int32).toInt = (p1 : Int32).toInt) (by decide +kernel : ((-1) : Int32).toInt = (-1)) c_26
            have F_106 := fnlt (rfl : (p1 : Int32).toInt = (p1 : Int32).toInt) (by decide +kernel : (60 : Int32).toInt = 60) c_36
            have F_107 := fne (by decide +kernel : (1 : Int32).toInt = 1) (by decide +kernel : (0 : Int32).toInt = 0) c_98
            exact W.iret (v := r_99) hx hb hr (fun t ht hW => ⟨⟨r_99, d_100, rfl, ⟨hgd_100, (fun _ => hPod_100), hfd_100, ⟨hId_100, Or.inl ⟨by omega, by omega, (((hfad_100 2 (by decide))).trans (show d_1.1 h0 2 = d.1 h0 2 by rw [ed_1]; exact yi_at (by decide))), (((hfad_100 3 (by decide))).trans (show d_1.1 h0 3 = d.1 h0 3 by rw [ed_1]; exact yi_at (by decide)))⟩⟩⟩, by rw [ht]; exact hP, hD⟩, hS.F ht⟩) hS.2.2 dX9_tell_73
