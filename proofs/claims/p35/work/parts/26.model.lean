theorem dX9_claim_0 : decode cX9_claim 0 = .ok (.aload_n 0, 1) := by decide +kernel
theorem dX9_claim_1 : decode cX9_claim 1 = .ok (.iconst 0, 1) := by decide +kernel
theorem dX9_claim_2 : decode cX9_claim 2 = .ok (.putfield 147, 3) := by decide +kernel
theorem dX9_claim_5 : decode cX9_claim 5 = .ok (.aload_n 0, 1) := by decide +kernel
theorem dX9_claim_6 : decode cX9_claim 6 = .ok (.iload_n 1, 1) := by decide +kernel
theorem dX9_claim_7 : decode cX9_claim 7 = .ok (.invokevirtual 165, 3) := by decide +kernel
theorem dX9_claim_10 : decode cX9_claim 10 = .ok (.istore_n 2, 1) := by decide +kernel
theorem dX9_claim_11 : decode cX9_claim 11 = .ok (.iload_n 2, 1) := by decide +kernel
theorem dX9_claim_12 : decode cX9_claim 12 = .ok (.ifCond .eq 11, 3) := by decide +kernel
theorem dX9_claim_15 : decode cX9_claim 15 = .ok (.aload_n 0, 1) := by decide +kernel
theorem dX9_claim_16 : decode cX9_claim 16 = .ok (.iload_n 2, 1) := by decide +kernel
theorem dX9_claim_17 : decode cX9_claim 17 = .ok (.invokevirtual 168, 3) := by decide +kernel
theorem dX9_claim_20 : decode cX9_claim 20 = .ok (.pop, 1) := by decide +kernel
theorem dX9_claim_21 : decode cX9_claim 21 = .ok (.iconst 0, 1) := by decide +kernel
theorem dX9_claim_22 : decode cX9_claim 22 = .ok (.ireturn, 1) := by decide +kernel
theorem dX9_claim_23 : decode cX9_claim 23 = .ok (.aload_n 0, 1) := by decide +kernel
theorem dX9_claim_24 : decode cX9_claim 24 = .ok (.iload_n 1, 1) := by decide +kernel
theorem dX9_claim_25 : decode cX9_claim 25 = .ok (.putfield 7, 3) := by decide +kernel
theorem dX9_claim_28 : decode cX9_claim 28 = .ok (.aload_n 0, 1) := by decide +kernel
theorem dX9_claim_29 : decode cX9_claim 29 = .ok (.iconst 0, 1) := by decide +kernel
theorem dX9_claim_30 : decode cX9_claim 30 = .ok (.putfield 326, 3) := by decide +kernel
theorem dX9_claim_33 : decode cX9_claim 33 = .ok (.iconst 1, 1) := by decide +kernel
theorem dX9_claim_34 : decode cX9_claim 34 = .ok (.ireturn, 1) := by decide +kernel
set_option maxHeartbeats 4000000 in
set_option maxRecDepth 100000 in
theorem g_X9_claim (l : Launch) (G : xG) (S : yS) (d : yD) (h0 : Nat) (p0 : Int32) (hSh : ySh S) (hPo : yPo S d) (hm_h0 : h0 ∈ S.1) (hk_h0 : S.2.1 h0 = 9) (hI : yMI S d h0) : xWi l G yX9_claim cX9_claim 3 (some .boolean) 2 42 0 0 [.ref h0, .int p0] (yW G S d) (fun r (u : yD) => yAg S [9, 69] d u ∧ (yPo S d → yPo S u) ∧ yK [2, 3, 38] d u h0 ∧ (yMI S u h0)) (fun u => yW G S u) := by
  intro sz
  refine xstart (by decide) (Nat.le_of_ble_eq_true rfl) (fun p e s m args below meth c ls C0 hr hlocks hin hsz hP hK hD hN hl => ?_)
  obtain ⟨hx, hb, hml, hown, htl⟩ := id C0
  subst hsz
  have hD := hD.self (sz := s.heap.size)
  generalize hAe : va_A (yW G S d) s.heap.size = A at hD ⊢
  have hA : ∀ q : Nat, s.heap.size ≤ q → A q := fun q h => by rw [← hAe]; exact Or.inr h
  have hS : va_S A s.heap s.heap [] := va_S.rf
  have hg0 : yAg S [9, 69] d d := yAg.rf
  have hl : lv_has ls 3 [(0, .ref h0), (1, .int p0)] := hl
  refine lv_aload_n hx hb dX9_claim_0 rfl (lv_at hl 0 rfl) ?_
  refine lv_iconst (v := 0) hx hb dX9_claim_1 (by decide) ?_
  refine yputI (ci := 9) (k := 38) (ty := .int) (C := RX9) (T := TX9) (N := 67) C0 hK hP hD hS hm_h0 hk_h0 (by decide) rfl inlX9 tyX9 tyX9_ok nmX9 (by decide) mW175 (fun _ h9 => h9) rfl (by decide +kernel) rfl rfl (Nat.le_of_ble_eq_true rfl) ysi_9_38 dX9_claim_2 (fun H locs hP hD hS => ?_)
  obtain ⟨d_1, ed_1⟩ : ∃ z : yD, z = yi d h0 38 0 := ⟨_, rfl⟩
  rw [← ed_1] at hP hD
  have hgd_1 : yAg S [9, 69] d d_1 := by rw [ed_1]; exact yAg.i hg0 (by rw [hk_h0]; decide)
  have hPod_1 : yPo S d_1 := by rw [ed_1]; exact yPo.i hPo hk_h0 (Or.inl rfl)
  have hfd_1 : yK [2, 3, 38] d d_1 h0 := by rw [ed_1]; exact yK.i yK.rf (by decide)
  have hId_1 : yMI S d_1 h0 := yMI.ag hI hSh hm_h0 hk_h0 (show yAg S [9] d d_1 from by rw [ed_1]; exact yAg.i yAg.rf (by rw [hk_h0]; decide)) (show yK [38] d d_1 h0 from by rw [ed_1]; exact yK.i yK.rf (by decide)) (by decide) (by decide)
  have hE0d_1 : (d_1.1 h0 0).toInt = (d.1 h0 0).toInt := congrArg Int32.toInt ((show yK [38] d d_1 h0 from by rw [ed_1]; exact yK.i yK.rf (by decide)) 0 (by decide))
  have hE1d_1 : (d_1.1 h0 1).toInt = (d.1 h0 1).toInt := congrArg Int32.toInt ((show yK [38] d d_1 h0 from by rw [ed_1]; exact yK.i yK.rf (by decide)) 1 (by decide))
  have hE2d_1 : (d_1.1 h0 2).toInt = (d.1 h0 2).toInt := congrArg Int32.toInt ((show yK [38] d d_1 h0 from by rw [ed_1]; exact yK.i yK.rf (by decide)) 2 (by decide))
  have hE3d_1 : (d_1.1 h0 3).toInt = (d.1 h0 3).toInt := congrArg Int32.toInt ((show yK [38] d d_1 h0 from by rw [ed_1]; exact yK.i yK.rf (by decide)) 3 (by decide))
  have hE63d_1 : (d_1.1 h0 63).toInt = (d.1 h0 63).toInt := congrArg Int32.toInt ((show yK [38] d d_1 h0 from by rw [ed_1]; exact yK.i yK.rf (by decide)) 63 (by decide))
  refine lv_aload_n hx hb dX9_claim_5 rfl (lv_at hl 0 rfl) ?_
  refine lv_iload_n hx hb dX9_claim_6 rfl (lv_at hl 1 rfl) ?_
  refine yVri (As := [.int p0]) (rest := []) C0 (g_X9_portWhy l G S d_1 h0 p0 hSh hm_h0 hk_h0) ok_X9_portWhy (mW387 : Cond.methodLink RX9 165 yX9_portWhy ∈ wsT) ⟨Nat.le_of_ble_eq_true rfl, Nat.le_of_ble_eq_true rfl⟩ hP hD hK hN hm_h0 hk_h0 (by decide) rfl rfl rfl hl.1 rfl (Nat.le_of_ble_eq_true rfl) ⟨Nat.le_of_ble_eq_true rfl, Nat.le_of_ble_eq_true rfl⟩ dX9_claim_7 (fun r_2 hr_2 => ?_)
  refine lv_istore_n (lv' := [(2, .int r_2), (0, .ref h0), (1, .int p0)]) hx hb dX9_claim_10 rfl hl (by decide) rfl (fun ls hl => ?_)
  refine lv_iload_n hx hb dX9_claim_11 rfl (lv_at hl 0 rfl) ?_
  refine lv_if_eq (tgt := 23) hx hb dX9_claim_12 (by decide) (fun c_3 => ?_) (fun c_3 => ?_)
  · refine lv_aload_n hx hb dX9_claim_23 rfl (lv_at hl 1 rfl) ?_
    refine lv_iload_n hx hb dX9_claim_24 rfl (lv_at hl 2 rfl) ?_
    refine yputI (ci := 9) (k := 3) (ty := .int) (C := RX9) (T := TX9) (N := 67) C0 hK hP hD hS hm_h0 hk_h0 (by decide) rfl inlX9 tyX9 tyX9_ok nmX9 (by decide) mW106 (fun _ h9 => h9) rfl (by decide +kernel) rfl rfl (Nat.le_of_ble_eq_true rfl) ysi_9_3 dX9_claim_25 (fun H locs hP hD hS => ?_)
    obtain ⟨d_4, ed_4⟩ : ∃ z : yD, z = yi d_1 h0 3 p0 := ⟨_, rfl⟩
    rw [← ed_4] at hP hD
    have hgd_4 : yAg S [9, 69] d d_4 := by rw [ed_4]; exact yAg.i hgd_1 (by rw [hk_h0]; decide)
    have hPod_4 : yPo S d_4 := by rw [ed_4]; exact yPo.i hPod_1 hk_h0 (Or.inl rfl)
    have hfd_4 : yK [2, 3, 38] d d_4 h0 := by rw [ed_4]; exact yK.i hfd_1 (by decide)
    have hCC_5 := yMI.c hId_1
    have F_6 := feq (rfl : (r_2 : Int32).toInt = (r_2 : Int32).toInt) (by decide +kernel : (0 : Int32).toInt = 0) c_3
    have hId_4 : yMI S d_4 h0 := by rw [ed_4]; exact yMI.i3 hId_1 ⟨by omega, by omega⟩
    have hE0d_4 : (d_4.1 h0 0).toInt = (d_1.1 h0 0).toInt := congrArg Int32.toInt ((show yK [3] d_1 d_4 h0 from by rw [ed_4]; exact yK.i yK.rf (by decide)) 0 (by decide))
    have hE1d_4 : (d_4.1 h0 1).toInt = (d_1.1 h0 1).toInt := congrArg Int32.toInt ((show yK [3] d_1 d_4 h0 from by rw [ed_4]; exact yK.i yK.rf (by decide)) 1 (by decide))
    have hE2d_4 : (d_4.1 h0 2).toInt = (d_1.1 h0 2).toInt := congrArg Int32.toInt ((show yK [3] d_1 d_4 h0 from by rw [ed_4]; exact yK.i yK.rf (by decide)) 2 (by decide))
    have hE3d_4 : (d_4.1 h0 3).toInt = (p0 : Int32).toInt := by rw [ed_4, yi_self]
    have hE63d_4 : (d_4.1 h0 63).toInt = (d_1.1 h0 63).toInt := congrArg Int32.toInt ((show yK [3] d_1 d_4 h0 from by rw [ed_4]; exact yK.i yK.rf (by decide)) 63 (by decide))
    refine lv_aload_n hx hb dX9_claim_28 rfl (lv_at hl 1 rfl) ?_
    refine lv_iconst (v := 0) hx hb dX9_claim_29 (by decide) ?_
    refine yputI (ci := 9) (k := 2) (ty := .int) (C := RX9) (T := TX9) (N := 67) C0 hK hP hD hS hm_h0 hk_h0 (by decide) rfl inlX9 tyX9 tyX9_ok nmX9 (by decide) mW888 (fun _ h9 => h9) rfl (by decide +kernel) rfl rfl (Nat.le_of_ble_eq_true rfl) ysi_9_2 dX9_claim_30 (fun H locs hP hD hS => ?_)
    obtain ⟨d_7, ed_7⟩ : ∃ z : yD, z = yi d_4 h0 2 0 := ⟨_, rfl⟩
    rw [← ed_7] at hP hD
    have hgd_7 : yAg S [9, 69] d d_7 := by rw [ed_7]; exact yAg.i hgd_4 (by rw [hk_h0]; decide)
    have hPod_7 : yPo S d_7 := by rw [ed_7]; exact yPo.i hPod_4 hk_h0 (Or.inl rfl)
    have hfd_7 : yK [2, 3, 38] d d_7 h0 := by rw [ed_7]; exact yK.i hfd_4 (by decide)
    have hId_7 : yMI S d_7 h0 := by rw [ed_7]; exact yMI.i2 hId_4 (by decide +kernel)
    have hE0d_7 : (d_7.1 h0 0).toInt = (d_4.1 h0 0).toInt := congrArg Int32.toInt ((show yK [2] d_4 d_7 h0 from by rw [ed_7]; exact yK.i yK.rf (by decide)) 0 (by decide))
    have hE1d_7 : (d_7.1 h0 1).toInt = (d_4.1 h0 1).toInt := congrArg Int32.toInt ((show yK [2] d_4 d_7 h0 from by rw [ed_7]; exact yK.i yK.rf (by decide)) 1 (by decide))
    have hE2d_7 : (d_7.1 h0 2).toInt = (0 : Int32).toInt := by rw [ed_7, yi_self]
    have hE3d_7 : (d_7.1 h0 3).toInt = (d_4.1 h0 3).toInt := congrArg Int32.toInt ((show yK [2] d_4 d_7 h0 from by rw [ed_7]; exact yK.i yK.rf (by decide)) 3 (by decide))
    have hE63d_7 : (d_7.1 h0 63).toInt = (d_4.1 h0 63).toInt := congrArg Int32.toInt ((show yK [2] d_4 d_7 h0 from by rw [ed_7]; exact yK.i yK.rf (by decide)) 63 (by decide))
    refine lv_iconst (v := 1) hx hb dX9_claim_33 (by decide) ?_
    exact W.zret (v := 1) (ty := .boolean) hx hb hr rfl (fun t ht hW => ⟨⟨1, d_7, rfl, ⟨hgd_7, (fun _ => hPod_7), hfd_7, hId_7⟩, by rw [ht]; exact hP, hD⟩, hS.F ht⟩) hS.2.2 dX9_claim_34
  · refine lv_aload_n hx hb dX9_claim_15 rfl (lv_at hl 1 rfl) ?_
    refine lv_iload_n hx hb dX9_claim_16 rfl (lv_at hl 0 rfl) ?_
    have F_8 := fne (rfl : (r_2 : Int32).toInt = (r_2 : Int32).toInt) (by decide +kernel : (0 : Int32).toInt = 0) c_3
    refine yVwi (As := [.int r_2]) (rest := []) C0 (g_X9_no l G S d_1 h0 r_2 hSh hPod_1 hm_h0 hk_h0 (by refine ⟨?_, ?_⟩ <;> omega)) ok_X9_no (mW177 : Cond.methodLink RX9 168 yX9_no ∈ wsT) ⟨Nat.le_of_ble_eq_true rfl, Nat.le_of_ble_eq_true rfl⟩ hP hD hS hA hK hN hm_h0 hk_h0 (by decide) rfl rfl rfl hl.1 rfl (Nat.le_of_ble_eq_true rfl) ⟨Nat.le_of_ble_eq_true rfl, Nat.le_of_ble_eq_true rfl⟩ dX9_claim_17 (fun r_9 d_10 H locs hr_9 hP hD hS => ?_)
    obtain ⟨hgad_10, hpad_10, hfad_10, hxd_10⟩ := hr_9
    have hfd_10 : yK [2, 3, 38] d d_10 h0 := yK.tr hfd_1 hfad_10 (by decide)
    have hE0d_10 : (d_10.1 h0 0).toInt = (d_1.1 h0 0).toInt := congrArg Int32.toInt (hfad_10 0 (by decide))
    have hE1d_10 : (d_10.1 h0 1).toInt = (d_1.1 h0 1).toInt := congrArg Int32.toInt (hfad_10 1 (by decide))
    have hE2d_10 : (d_10.1 h0 2).toInt = (d_1.1 h0 2).toInt := congrArg Int32.toInt (hfad_10 2 (by decide))
    have hE3d_10 : (d_10.1 h0 3).toInt = (d_1.1 h0 3).toInt := congrArg Int32.toInt (hfad_10 3 (by decide))
    have hE63d_10 : (d_10.1 h0 63).toInt = (d_1.1 h0 63).toInt := congrArg Int32.toInt (hfad_10 63 (by decide))
    have hId_10 : yMI S d_10 h0 := yMI.ag hId_1 hSh hm_h0 hk_h0 hgad_10 hfad_10 (by decide) (by decide)
    have hgd_10 : yAg S [9, 69] d d_10 := yAg.tr hgd_1 hgad_10 (by first | decide | exact fun _ h => h)
    have hPod_10 : yPo S d_10 := hpad_10 hPod_1
    refine lv_pop hx hb dX9_claim_20 rfl ?_
    refine lv_iconst (v := 0) hx hb dX9_claim_21 (by decide) ?_
    exact W.zret (v := 0) (ty := .boolean) hx hb hr rfl (fun t ht hW => ⟨⟨0, d_10, rfl, ⟨hgd_10, (fun _ => hPod_10), hfd_10, hId_10⟩, by rw [ht]; exact hP, hD⟩, hS.F ht⟩) hS.2.2 dX9_claim_22
theorem dX9_tell_0 : decode cX9_tell 0 = .ok (.aload_n 0, 1) := by decide +kernel
theorem dX9_tell_1 : decode cX9_tell 1 = .ok (.iconst 0, 1) := by decide +kernel
theorem dX9_tell_2 : decode cX9_tell 2 = .ok (.putfield 147, 3) := by decide +kernel
theorem dX9_tell_5 : decode cX9_tell 5 = .ok (.iload_n 1, 1) := by decide +kernel
theorem dX9_tell_6 : decode cX9_tell 6 = .ok (.iconst 1, 1) := by decide +kernel
theorem dX9_tell_7 : decode cX9_tell 7 = .ok (.if_icmp .lt 26, 3) := by decide +kernel
theorem dX9_tell_10 : decode cX9_tell 10 = .ok (.iload_n 1, 1) := by decide +kernel
theorem dX9_tell_11 : decode cX9_tell 11 = .ok (.ldc 174, 2) := by decide +kernel
theorem dX9_tell_13 : decode cX9_tell 13 = .ok (.if_icmp .gt 20, 3) := by decide +kernel
theorem dX9_tell_16 : decode cX9_tell 16 = .ok (.iload_n 2, 1) := by decide +kernel
theorem dX9_tell_17 : decode cX9_tell 17 = .ok (.bipush (-3), 2) := by decide +kernel
theorem dX9_tell_19 : decode cX9_tell 19 = .ok (.if_icmp .lt 14, 3) := by decide +kernel
theorem dX9_tell_22 : decode cX9_tell 22 = .ok (.iload_n 2, 1) := by decide +kernel
theorem dX9_tell_23 : decode cX9_tell 23 = .ok (.iconst (-1), 1) := by decide +kernel
theorem dX9_tell_24 : decode cX9_tell 24 = .ok (.if_icmp .eq 9, 3) := by decide +kernel
theorem dX9_tell_27 : decode cX9_tell 27 = .ok (.iload_n 2, 1) := by decide +kernel
theorem dX9_tell_28 : decode cX9_tell 28 = .ok (.bipush 60, 2) := by decide +kernel
theorem dX9_tell_30 : decode cX9_tell 30 = .ok (.if_icmp .lt 7, 3) := by decide +kernel
theorem dX9_tell_33 : decode cX9_tell 33 = .ok (.iconst 1, 1) := by decide +kernel
theorem dX9_tell_34 : decode cX9_tell 34 = .ok (.goto 29, 3) := by decide +kernel
theorem dX9_tell_37 : decode cX9_tell 37 = .ok (.aload_n 0, 1) := by decide +kernel
theorem dX9_tell_38 : decode cX9_tell 38 = .ok (.getfield 7, 3) := by decide +kernel
theorem dX9_tell_41 : decode cX9_tell 41 = .ok (.ifCond .ge 7, 3) := by decide +kernel
theorem dX9_tell_44 : decode cX9_tell 44 = .ok (.iconst 2, 1) := by decide +kernel
theorem dX9_tell_45 : decode cX9_tell 45 = .ok (.goto 18, 3) := by decide +kernel
theorem dX9_tell_48 : decode cX9_tell 48 = .ok (.aload_n 0, 1) := by decide +kernel
theorem dX9_tell_49 : decode cX9_tell 49 = .ok (.getfield 326, 3) := by decide +kernel
theorem dX9_tell_52 : decode cX9_tell 52 = .ok (.sipush 500, 3) := by decide +kernel
theorem dX9_tell_55 : decode cX9_tell 55 = .ok (.if_icmp .ne 7, 3) := by decide +kernel
theorem dX9_tell_58 : decode cX9_tell 58 = .ok (.iconst 5, 1) := by decide +kernel
theorem dX9_tell_59 : decode cX9_tell 59 = .ok (.goto 4, 3) := by decide +kernel
theorem dX9_tell_62 : decode cX9_tell 62 = .ok (.iconst 0, 1) := by decide +kernel
theorem dX9_tell_63 : decode cX9_tell 63 = .ok (.istore_n 3, 1) := by decide +kernel
theorem dX9_tell_64 : decode cX9_tell 64 = .ok (.iload_n 3, 1) := by decide +kernel
theorem dX9_tell_65 : decode cX9_tell 65 = .ok (.ifCond .eq 9, 3) := by decide +kernel
theorem dX9_tell_68 : decode cX9_tell 68 = .ok (.aload_n 0, 1) := by decide +kernel
theorem dX9_tell_69 : decode cX9_tell 69 = .ok (.iload_n 3, 1) := by decide +kernel
theorem dX9_tell_70 : decode cX9_tell 70 = .ok (.invokevirtual 168, 3) := by decide +kernel
theorem dX9_tell_73 : decode cX9_tell 73 = .ok (.ireturn, 1) := by decide +kernel
theorem dX9_tell_74 : decode cX9_tell 74 = .ok (.aload_n 0, 1) := by decide +kernel
theorem dX9_tell_75 : decode cX9_tell 75 = .ok (.getfield 60, 3) := by decide +kernel
theorem dX9_tell_78 : decode cX9_tell 78 = .ok (.aload_n 0, 1) := by decide +kernel
theorem dX9_tell_79 : decode cX9_tell 79 = .ok (.getfield 326, 3) := by decide +kernel
theorem dX9_tell_82 : decode cX9_tell 82 = .ok (.iload_n 1, 1) := by decide +kernel
theorem dX9_tell_83 : decode cX9_tell 83 = .ok (.iastore, 1) := by decide +kernel
theorem dX9_tell_84 : decode cX9_tell 84 = .ok (.aload_n 0, 1) := by decide +kernel
theorem dX9_tell_85 : decode cX9_tell 85 = .ok (.getfield 63, 3) := by decide +kernel
theorem dX9_tell_88 : decode cX9_tell 88 = .ok (.aload_n 0, 1) := by decide +kernel
theorem dX9_tell_89 : decode cX9_tell 89 = .ok (.getfield 326, 3) := by decide +kernel
theorem dX9_tell_92 : decode cX9_tell 92 = .ok (.iload_n 2, 1) := by decide +kernel
theorem dX9_tell_93 : decode cX9_tell 93 = .ok (.i2b, 1) := by decide +kernel
theorem dX9_tell_94 : decode cX9_tell 94 = .ok (.bastore, 1) := by decide +kernel
theorem dX9_tell_95 : decode cX9_tell 95 = .ok (.aload_n 0, 1) := by decide +kernel
theorem dX9_tell_96 : decode cX9_tell 96 = .ok (.dup, 1) := by decide +kernel
theorem dX9_tell_97 : decode cX9_tell 97 = .ok (.getfield 326, 3) := by decide +kernel
theorem dX9_tell_100 : decode cX9_tell 100 = .ok (.iconst 1, 1) := by decide +kernel
theorem dX9_tell_101 : decode cX9_tell 101 = .ok (.iadd, 1) := by decide +kernel
theorem dX9_tell_102 : decode cX9_tell 102 = .ok (.putfield 326, 3) := by decide +kernel
theorem dX9_tell_105 : decode cX9_tell 105 = .ok (.aload_n 0, 1) := by decide +kernel
theorem dX9_tell_106 : decode cX9_tell 106 = .ok (.getfield 326, 3) := by decide +kernel
theorem dX9_tell_109 : decode cX9_tell 109 = .ok (.ireturn, 1) := by decide +kernel
set_option maxHeartbeats 4000000 in
set_option maxRecDepth 100000 in
theorem g_X9_tell (l : Launch) (G : xG) (S : yS) (d : yD) (h0 : Nat) (p0 : Int32) (p1 : Int32) (hSh : ySh S) (hPo : yPo S d) (hm_h0 : h0 ∈ S.1) (hk_h0 : S.2.1 h0 = 9) (hI : yMI S d h0) : xWi l G yX9_tell cX9_tell 4 (some .int) 1 21 0 0 [.ref h0, .int p0, .int p1] (yW G S d) (fun r (u : yD) => yAg S [9, 48, 49, 69] d u ∧ (yPo S d → yPo S u) ∧ yK [2, 38] d u h0 ∧ (yMI S u h0)) (fun u => yW G S u) := by
  intro sz
  refine xstart (by decide) (Nat.le_of_ble_eq_true rfl) (fun p e s m args below meth c ls C0 hr hlocks hin hsz hP hK hD hN hl => ?_)
  obtain ⟨hx, hb, hml, hown, htl⟩ := id C0
  subst hsz
  have hD := hD.self (sz := s.heap.size)
  generalize hAe : va_A (yW G S d) s.heap.size = A at hD ⊢
  have hA : ∀ q : Nat, s.heap.size ≤ q → A q := fun q h => by rw [← hAe]; exact Or.inr h
  have hS : va_S A s.heap s.heap [] := va_S.rf
  have hg0 : yAg S [9, 48, 49, 69] d d := yAg.rf
  have hl : lv_has ls 4 [(0, .ref h0), (1, .int p0), (2, .int p1)] := hl
  refine lv_aload_n hx hb dX9_tell_0 rfl (lv_at hl 0 rfl) ?_
  refine lv_iconst (v := 0) hx hb dX9_tell_1 (by decide) ?_
  refine yputI (ci := 9) (k := 38) (ty := .int) (C := RX9) (T := TX9) (N := 67) C0 hK hP hD hS hm_h0 hk_h0 (by decide) rfl inlX9 tyX9 tyX9_ok nmX9 (by decide) mW175 (fun _ h9 => h9) rfl (by decide +kernel) rfl rfl (Nat.le_of_ble_eq_true rfl) ysi_9_38 dX9_tell_2 (fun H locs hP hD hS => ?_)
  obtain ⟨d_1, ed_1⟩ : ∃ z : yD, z = yi d h0 38 0 := ⟨_, rfl⟩
  rw [← ed_1] at hP hD
  have hgd_1 : yAg S [9, 48, 49, 69] d d_1 := by rw [ed_1]; exact yAg.i hg0 (by rw [hk_h0]; decide)
  have hPod_1 : yPo S d_1 := by rw [ed_1]; exact yPo.i hPo hk_h0 (Or.inl rfl)
  have hfd_1 : yK [2, 38] d d_1 h0 := by rw [ed_1]; exact yK.i yK.rf (by decide)
  have hId_1 : yMI S d_1 h0 := yMI.ag hI hSh hm_h0 hk_h0 (show yAg S [9] d d_1 from by rw [ed_1]; exact yAg.i yAg.rf (by rw [hk_h0]; decide)) (show yK [38] d d_1 h0 from by rw [ed_1]; exact yK.i yK.rf (by decide)) (by decide) (by decide)
  have hE0d_1 : (d_1.1 h0 0).toInt = (d.1 h0 0).toInt := congrArg Int32.toInt ((show yK [38] d d_1 h0 from by rw [ed_1]; exact yK.i yK.rf (by decide)) 0 (by decide))
  have hE1d_1 : (d_1.1 h0 1).toInt = (d.1 h0 1).toInt := congrArg Int32.toInt ((show yK [38] d d_1 h0 from by rw [ed_1]; exact yK.i yK.rf (by decide)) 1 (by decide))
  have hE2d_1 : (d_1.1 h0 2).toInt = (d.1 h0 2).toInt := congrArg Int32.toInt ((show yK [38] d d_1 h0 from by rw [ed_1]; exact yK.i yK.rf (by decide)) 2 (by decide))
  have hE3d_1 : (d_1.1 h0 3).toInt = (d.1 h0 3).toInt := congrArg Int32.toInt ((show yK [38] d d_1 h0 from by rw [ed_1]; exact yK.i yK.rf (by decide)) 3 (by decide))
  have hE63d_1 : (d_1.1 h0 63).toInt = (d.1 h0 63).toInt := congrArg Int32.toInt ((show yK [38] d d_1 h0 from by rw [ed_1]; exact yK.i yK.rf (by decide)) 63 (by decide))
  refine lv_iload_n hx hb dX9_tell_5 rfl (lv_at hl 1 rfl) ?_
  refine lv_iconst (v := 1) hx hb dX9_tell_6 (by decide) ?_
  refine lv_icmp_lt (tgt := 33) hx hb dX9_tell_7 (by decide) (fun c_2 => ?_) (fun c_2 => ?_)
  · refine lv_iconst (v := 1) hx hb dX9_tell_33 (by decide) ?_
    refine lv_goto (tgt := 63) hx hb dX9_tell_34 (by decide) ?_
    refine lv_istore_n (lv' := [(3, .int 1), (0, .ref h0), (1, .int p0), (2, .int p1)]) hx hb dX9_tell_63 rfl hl (by decide) rfl (fun ls hl => ?_)
    refine lv_iload_n hx hb dX9_tell_64 rfl (lv_at hl 0 rfl) ?_
    refine lv_if_eq (tgt := 74) hx hb dX9_tell_65 (by decide) (fun c_3 => absurd c_3 (by decide +kernel)) (fun c_3 => ?_)
    refine lv_aload_n hx hb dX9_tell_68 rfl (lv_at hl 1 rfl) ?_
    refine lv_iload_n hx hb dX9_tell_69 rfl (lv_at hl 0 rfl) ?_
    refine yVwi (As := [.int 1]) (rest := []) C0 (g_X9_no l G S d_1 h0 1 hSh hPod_1 hm_h0 hk_h0 (by decide +kernel)) ok_X9_no (mW177 : Cond.methodLink RX9 168 yX9_no ∈ wsT) ⟨Nat.le_of_ble_eq_true rfl, Nat.le_of_ble_eq_true rfl⟩ hP hD hS hA hK hN hm_h0 hk_h0 (by decide) rfl rfl rfl hl.1 rfl (Nat.le_of_ble_eq_true rfl) ⟨Nat.le_of_ble_eq_true rfl, Nat.le_of_ble_eq_true rfl⟩ dX9_tell_70 (fun r_4 d_5 H locs hr_4 hP hD hS => ?_)
    obtain ⟨hgad_5, hpad_5, hfad_5, hxd_5⟩ := hr_4
    have hfd_5 : yK [2, 38] d d_5 h0 := yK.tr hfd_1 hfad_5 (by decide)
    have hE0d_5 : (d_5.1 h0 0).toInt = (d_1.1 h0 0).toInt := congrArg Int32.toInt (hfad_5 0 (by decide))
    have hE1d_5 : (d_5.1 h0 1).toInt = (d_1.1 h0 1).toInt := congrArg Int32.toInt (hfad_5 1 (by decide))
    have hE2d_5 : (d_5.1 h0 2).toInt = (d_1.1 h0 2).toInt := congrArg Int32.toInt (hfad_5 2 (by decide))
    have hE3d_5 : (d_5.1 h0 3).toInt = (d_1.1 h0 3).toInt := congrArg Int32.toInt (hfad_5 3 (by decide))
    have hE63d_5 : (d_5.1 h0 63).toInt = (d_1.1 h0 63).toInt := congrArg Int32.toInt (hfad_5 63 (by decide))
    have hId_5 : yMI S d_5 h0 := yMI.ag hId_1 hSh hm_h0 hk_h0 hgad_5 hfad_5 (by decide) (by decide)
    have hgd_5 : yAg S [9, 48, 49, 69] d d_5 := yAg.tr hgd_1 hgad_5 (by first | decide | exact fun _ h => h)
    have hPod_5 : yPo S d_5 := hpad_5 hPod_1
    exact W.iret (v := r_4) hx hb hr (fun t ht hW => ⟨⟨r_4, d_5, rfl, ⟨hgd_5, (fun _ => hPod_5), hfd_5, hId_5⟩, by rw [ht]; exact hP, hD⟩, hS.F ht⟩) hS.2.2 dX9_tell_73
  · refine lv_iload_n hx hb dX9_tell_10 rfl (lv_at hl 1 rfl) ?_
    refine lv_ldc (v := 129600) hx hb hown (htl (.constant RX9 174 (129600)) mW221) dX9_tell_11 ?_
    refine lv_icmp_gt (tgt := 33) hx hb dX9_tell_13 (by decide) (fun c_6 => ?_) (fun c_6 => ?_)
    · refine lv_iconst (v := 1) hx hb dX9_tell_33 (by decide) ?_
      refine lv_goto (tgt := 63) hx hb dX9_tell_34 (by decide) ?_
      refine lv_istore_n (lv' := [(3, .int 1), (0, .ref h0), (1, .int p0), (2, .int p1)]) hx hb dX9_tell_63 rfl hl (by decide) rfl (fun ls hl => ?_)
      refine lv_iload_n hx hb dX9_tell_64 rfl (lv_at hl 0 rfl) ?_
      refine lv_if_eq (tgt := 74) hx hb dX9_tell_65 (by decide) (fun c_7 => absurd c_7 (by decide +kernel)) (fun c_7 => ?_)
      refine lv_aload_n hx hb dX9_tell_68 rfl (lv_at hl 1 rfl) ?_
      refine lv_iload_n hx hb dX9_tell_69 rfl (lv_at hl 0 rfl) ?_
      refine yVwi (As := [.int 1]) (rest := []) C0 (g_X9_no l G S d_1 h0 1 hSh hPod_1 hm_h0 hk_h0 (by decide +kernel)) ok_X9_no (mW177 : Cond.methodLink RX9 168 yX9_no ∈ wsT) ⟨Nat.le_of_ble_eq_true rfl, Nat.le_of_ble_eq_true rfl⟩ hP hD hS hA hK hN hm_h0 hk_h0 (by decide) rfl rfl rfl hl.1 rfl (Nat.le_of_ble_eq_true rfl) ⟨Nat.le_of_ble_eq_true rfl, Nat.le_of_ble_eq_true rfl⟩ dX9_tell_70 (fun r_8 d_9 H locs hr_8 hP hD hS => ?_)
      obtain ⟨hgad_9, hpad_9, hfad_9, hxd_9⟩ := hr_8
      have hfd_9 : yK [2, 38] d d_9 h0 := yK.tr hfd_1 hfad_9 (by decide)
      have hE0d_9 : (d_9.1 h0 0).toInt = (d_1.1 h0 0).toInt := congrArg Int32.toInt (hfad_9 0 (by decide))
      have hE1d_9 : (d_9.1 h0 1).toInt = (d_1.1 h0 1).toInt := congrArg Int32.toInt (hfad_9 1 (by decide))
      have hE2d_9 : (d_9.1 h0 2).toInt = (d_1.1 h0 2).toInt := congrArg Int32.toInt (hfad_9 2 (by decide))
      have hE3d_9 : (d_9.1 h0 3).toInt = (d_1.1 h0 3).toInt := congrArg Int32.toInt (hfad_9 3 (by decide))
      have hE63d_9 : (d_9.1 h0 63).toInt = (d_1.1 h0 63).toInt := congrArg Int32.toInt (hfad_9 63 (by decide))
      have hId_9 : yMI S d_9 h0 := yMI.ag hId_1 hSh hm_h0 hk_h0 hgad_9 hfad_9 (by decide) (by decide)
      have hgd_9 : yAg S [9, 48, 49, 69] d d_9 := yAg.tr hgd_1 hgad_9 (by first | decide | exact fun _ h => h)
      have hPod_9 : yPo S d_9 := hpad_9 hPod_1
      exact W.iret (v := r_8) hx hb hr (fun t ht hW => ⟨⟨r_8, d_9, rfl, ⟨hgd_9, (fun _ => hPod_9), hfd_9, hId_9⟩, by rw [ht]; exact hP, hD⟩, hS.F ht⟩) hS.2.2 dX9_tell_73
    · refine lv_iload_n hx hb dX9_tell_16 rfl (lv_at hl 2 rfl) ?_
      refine lv_bipush (v := (-3)) hx hb dX9_tell_17 (by decide) ?_
      refine lv_icmp_lt (tgt := 33) hx hb dX9_tell_19 (by decide) (fun c_10 => ?_) (fun c_10 => ?_)
      · refine lv_iconst (v := 1) hx hb dX9_tell_33 (by decide) ?_
        refine lv_goto (tgt := 63) hx hb dX9_tell_34 (by decide) ?_
        refine lv_istore_n (lv' := [(3, .int 1), (0, .ref h0), (1, .int p0), (2, .int p1)]) hx hb dX9_tell_63 rfl hl (by decide) rfl (fun ls hl => ?_)
        refine lv_iload_n hx hb dX9_tell_64 rfl (lv_at hl 0 rfl) ?_
        refine lv_if_eq (tgt := 74) hx hb dX9_tell_65 (by decide) (fun c_11 => absurd c_11 (by decide +kernel)) (fun c_11 => ?_)
        refine lv_aload_n hx hb dX9_tell_68 rfl (lv_at hl 1 rfl) ?_
        refine lv_iload_n hx hb dX9_tell_69 rfl (lv_at hl 0 rfl) ?_
        refine yVwi (As := [.int 1]) (rest := []) C0 (g_X9_no l G S d_1 h0 1 hSh hPod_1 hm_h0 hk_h0 (by decide +kernel)) ok_X9_no (mW177 : Cond.methodLink RX9 168 yX9_no ∈ wsT) ⟨Nat.le_of_ble_eq_true rfl, Nat.le_of_ble_eq_true rfl⟩ hP hD hS hA hK hN hm_h0 hk_h0 (by decide) rfl rfl rfl hl.1 rfl (Nat.le_of_ble_eq_true rfl) ⟨Nat.le_of_ble_eq_true rfl, Nat.le_of_ble_eq_true rfl⟩ dX9_tell_70 (fun r_12 d_13 H locs hr_12 hP hD hS => ?_)
        obtain ⟨hgad_13, hpad_13, hfad_13, hxd_13⟩ := hr_12
        have hfd_13 : yK [2, 38] d d_13 h0 := yK.tr hfd_1 hfad_13 (by decide)
        have hE0d_13 : (d_13.1 h0 0).toInt = (d_1.1 h0 0).toInt := congrArg Int32.toInt (hfad_13 0 (by decide))
        have hE1d_13 : (d_13.1 h0 1).toInt = (d_1.1 h0 1).toInt := congrArg Int32.toInt (hfad_13 1 (by decide))
        have hE2d_13 : (d_13.1 h0 2).toInt = (d_1.1 h0 2).toInt := congrArg Int32.toInt (hfad_13 2 (by decide))
        have hE3d_13 : (d_13.1 h0 3).toInt = (d_1.1 h0 3).toInt := congrArg Int32.toInt (hfad_13 3 (by decide))
        have hE63d_13 : (d_13.1 h0 63).toInt = (d_1.1 h0 63).toInt := congrArg Int32.toInt (hfad_13 63 (by decide))
        have hId_13 : yMI S d_13 h0 := yMI.ag hId_1 hSh hm_h0 hk_h0 hgad_13 hfad_13 (by decide) (by decide)
        have hgd_13 : yAg S [9, 48, 49, 69] d d_13 := yAg.tr hgd_1 hgad_13 (by first | decide | exact fun _ h => h)
        have hPod_13 : yPo S d_13 := hpad_13 hPod_1
        exact W.iret (v := r_12) hx hb hr (fun t ht hW => ⟨⟨r_12, d_13, rfl, ⟨hgd_13, (fun _ => hPod_13), hfd_13, hId_13⟩, by rw [ht]; exact hP, hD⟩, hS.F ht⟩) hS.2.2 dX9_tell_73
      · refine lv_iload_n hx hb dX9_tell_22 rfl (lv_at hl 2 rfl) ?_
        refine lv_iconst (v := (-1)) hx hb dX9_tell_23 (by decide) ?_
        refine lv_icmp_eq (tgt := 33) hx hb dX9_tell_24 (by decide) (fun c_14 => ?_) (fun c_14 => ?_)
        · refine lv_iconst (v := 1) hx hb dX9_tell_33 (by decide) ?_
          refine lv_goto (tgt := 63) hx hb dX9_tell_34 (by decide) ?_
          refine lv_istore_n (lv' := [(3, .int 1), (0, .ref h0), (1, .int p0), (2, .int p1)]) hx hb dX9_tell_63 rfl hl (by decide) rfl (fun ls hl => ?_)
          refine lv_iload_n hx hb dX9_tell_64 rfl (lv_at hl 0 rfl) ?_
          refine lv_if_eq (tgt := 74) hx hb dX9_tell_65 (by decide) (fun c_15 => absurd c_15 (by decide +kernel)) (fun c_15 => ?_)
          refine lv_aload_n hx hb dX9_tell_68 rfl (lv_at hl 1 rfl) ?_
          refine lv_iload_n hx hb dX9_tell_69 rfl (lv_at hl 0 rfl) ?_
          refine yVwi (As := [.int 1]) (rest := []) C0 (g_X9_no l G S d_1 h0 1 hSh hPod_1 hm_h0 hk_h0 (by decide +kernel)) ok_X9_no (mW177 : Cond.methodLink RX9 168 yX9_no ∈ wsT) ⟨Nat.le_of_ble_eq_true rfl, Nat.le_of_ble_eq_true rfl⟩ hP hD hS hA hK hN hm_h0 hk_h0 (by decide) rfl rfl rfl hl.1 rfl (Nat.le_of_ble_eq_true rfl) ⟨Nat.le_of_ble_eq_true rfl, Nat.le_of_ble_eq_true rfl⟩ dX9_tell_70 (fun r_16 d_17 H locs hr_16 hP hD hS => ?_)
          obtain ⟨hgad_17, hpad_17, hfad_17, hxd_17⟩ := hr_16
          have hfd_17 : yK [2, 38] d d_17 h0 := yK.tr hfd_1 hfad_17 (by decide)
          have hE0d_17 : (d_17.1 h0 0).toInt = (d_1.1 h0 0).toInt := congrArg Int32.toInt (hfad_17 0 (by decide))
          have hE1d_17 : (d_17.1 h0 1).toInt = (d_1.1 h0 1).toInt := congrArg Int32.toInt (hfad_17 1 (by decide))
          have hE2d_17 : (d_17.1 h0 2).toInt = (d_1.1 h0 2).toInt := congrArg Int32.toInt (hfad_17 2 (by decide))
          have hE3d_17 : (d_17.1 h0 3).toInt = (d_1.1 h0 3).toInt := congrArg Int32.toInt (hfad_17 3 (by decide))
          have hE63d_17 : (d_17.1 h0 63).toInt = (d_1.1 h0 63).toInt := congrArg Int32.toInt (hfad_17 63 (by decide))
          have hId_17 : yMI S d_17 h0 := yMI.ag hId_1 hSh hm_h0 hk_h0 hgad_17 hfad_17 (by decide) (by decide)
          have hgd_17 : yAg S [9, 48, 49, 69] d d_17 := yAg.tr hgd_1 hgad_17 (by first | decide | exact fun _ h => h)
          have hPod_17 : yPo S d_17 := hpad_17 hPod_1
          exact W.iret (v := r_16) hx hb hr (fun t ht hW => ⟨⟨r_16, d_17, rfl, ⟨hgd_17, (fun _ => hPod_17), hfd_17, hId_17⟩, by rw [ht]; exact hP, hD⟩, hS.F ht⟩) hS.2.2 dX9_tell_73
        · refine lv_iload_n hx hb dX9_tell_27 rfl (lv_at hl 2 rfl) ?_
          refine lv_bipush (v := 60) hx hb dX9_tell_28 (by decide) ?_
          refine lv_icmp_lt (tgt := 37) hx hb dX9_tell_30 (by decide) (fun c_18 => ?_) (fun c_18 => ?_)
          · refine lv_aload_n hx hb dX9_tell_37 rfl (lv_at hl 0 rfl) ?_
            refine yget (ci := 9) (k := 3) (v := .int (d_1.1 h0 3)) (C := RX9) (T := TX9) (N := 67) C0 hK hP hm_h0 hk_h0 (by decide) rfl inlX9 (by decide) mW106 (fun _ h9 => h9) rfl dX9_tell_38 ?_
            refine lv_topi (fun z_19 ez_19 => ?_)
            refine lv_if_ge (tgt := 48) hx hb dX9_tell_41 (by decide) (fun c_20 => ?_) (fun c_20 => ?_)
            · refine lv_aload_n hx hb dX9_tell_48 rfl (lv_at hl 0 rfl) ?_
              refine yget (ci := 9) (k := 2) (v := .int (d_1.1 h0 2)) (C := RX9) (T := TX9) (N := 67) C0 hK hP hm_h0 hk_h0 (by decide) rfl inlX9 (by decide) mW888 (fun _ h9 => h9) rfl dX9_tell_49 ?_
              refine lv_topi (fun z_21 ez_21 => ?_)
              refine lv_sipush (v := 500) hx hb dX9_tell_52 (by decide) ?_
              refine lv_icmp_ne (tgt := 62) hx hb dX9_tell_55 (by decide) (fun c_22 => ?_) (fun c_22 => ?_)
              · refine lv_iconst (v := 0) hx hb dX9_tell_62 (by decide) ?_
                refine lv_istore_n (lv' := [(3, .int 0), (0, .ref h0), (1, .int p0), (2, .int p1)]) hx hb dX9_tell_63 rfl hl (by decide) rfl (fun ls hl => ?_)
                refine lv_iload_n hx hb dX9_tell_64 rfl (lv_at hl 0 rfl) ?_
                refine lv_if_eq (tgt := 74) hx hb dX9_tell_65 (by decide) (fun c_23 => ?_) (fun c_23 => absurd c_23 (by decide +kernel))
                refine lv_aload_n hx hb dX9_tell_74 rfl (lv_at hl 1 rfl) ?_
                refine yget (ci := 9) (k := 18) (v := .ref (S.2.2.1 h0 18)) (C := RX9) (T := TX9) (N := 67) C0 hK hP hm_h0 hk_h0 (by decide) rfl inlX9 (by decide) mW125 (fun _ h9 => h9) rfl dX9_tell_75 ?_
                obtain ⟨hmy_24, hky_24⟩ := ySh.f9_18 hSh _ hm_h0 hk_h0
                refine lv_aload_n hx hb dX9_tell_78 rfl (lv_at hl 1 rfl) ?_
                refine yget (ci := 9) (k := 2) (v := .int (d_1.1 h0 2)) (C := RX9) (T := TX9) (N := 67) C0 hK hP hm_h0 hk_h0 (by decide) rfl inlX9 (by decide) mW888 (fun _ h9 => h9) rfl dX9_tell_79 ?_
                refine lv_topi (fun z_25 ez_25 => ?_)
                refine lv_iload_n hx hb dX9_tell_82 rfl (lv_at hl 2 rfl) ?_
                have hCC_26 := yMI.c hId_1
                have F_27 := fnlt (rfl : (p0 : Int32).toInt = (p0 : Int32).toInt) (by decide +kernel : (1 : Int32).toInt = 1) c_2
                have F_28 := fnlt (by decide +kernel : (129600 : Int32).toInt = 129600) (rfl : (p0 : Int32).toInt = (p0 : Int32).toInt) c_6
                have F_29 := fnlt (rfl : (p1 : Int32).toInt = (p1 : Int32).toInt) (by decide +kernel : ((-3) : Int32).toInt = (-3)) c_10
                have F_30 := fne (rfl : (p1 : Int32).toInt = (p1 : Int32).toInt) (by decide +kernel : ((-1) : Int32).toInt = (-1)) c_14
                have F_31 := flt (rfl : (p1 : Int32).toInt = (p1 : Int32).toInt) (by decide +kernel : (60 : Int32).toInt = 60) c_18
                have T_32 : (z_19 : Int32).toInt = (d_1.1 h0 3).toInt := by rw [ez_19]
                have F_33 := fle (by decide +kernel : (0 : Int32).toInt = 0) (rfl : (z_19 : Int32).toInt = (z_19 : Int32).toInt) c_20
                have T_34 : (z_21 : Int32).toInt = (d_1.1 h0 2).toInt := by rw [ez_21]
                have F_35 := fne (rfl : (z_21 : Int32).toInt = (z_21 : Int32).toInt) (by decide +kernel : (500 : Int32).toInt = 500) c_22
                have F_36 := feq (by decide +kernel : (0 : Int32).toInt = 0) (by decide +kernel : (0 : Int32).toInt = 0) c_23
                have T_37 : (z_25 : Int32).toInt = (d_1.1 h0 2).toInt := by rw [ez_25]
                refine yast C0 hK hP hD hS hmy_24 hky_24 (by decide) rfl 0 rfl (xinT 500 rfl (by omega) (by omega)) dX9_tell_83 (fun H locs hP hD hS => ?_)
                obtain ⟨d_38, ed_38⟩ : ∃ z : yD, z = ycs d_1 (S.2.2.1 h0 18) (upd (d_1.2.2.2.1 (S.2.2.1 h0 18)) (z_25 : Int32).toNatClampNeg p0) := ⟨_, rfl⟩
                rw [← ed_38] at hP hD
                have hgd_38 : yAg S [9, 48, 49, 69] d d_38 := by rw [ed_38]; exact yAg.cs hgd_1 (by rw [hky_24]; decide)
                have hPod_38 : yPo S d_38 := by rw [ed_38]; exact hPod_1
                have hfd_38 : yK [2, 38] d d_38 h0 := yK.ag hfd_1 (show yAg S [48] d_1 d_38 from by rw [ed_38]; exact yAg.cs yAg.rf (by rw [hky_24]; decide)) (by rw [hk_h0]; decide)
                have hId_38 : yMI S d_38 h0 := yMI.ag hId_1 hSh hm_h0 hk_h0 (show yAg S [48] d_1 d_38 from by rw [ed_38]; exact yAg.cs yAg.rf (by rw [hky_24]; decide)) (yK.ag (F := []) yK.rf (show yAg S [48] d_1 d_38 from by rw [ed_38]; exact yAg.cs yAg.rf (by rw [hky_24]; decide)) (by rw [hk_h0]; decide)) (by decide) (by decide)
                have hE0d_38 : (d_38.1 h0 0).toInt = (d_1.1 h0 0).toInt := congrArg Int32.toInt ((yK.ag (F := []) yK.rf (show yAg S [48] d_1 d_38 from by rw [ed_38]; exact yAg.cs yAg.rf (by rw [hky_24]; decide)) (by rw [hk_h0]; decide)) 0 (by decide))
                have hE1d_38 : (d_38.1 h0 1).toInt = (d_1.1 h0 1).toInt := congrArg Int32.toInt ((yK.ag (F := []) yK.rf (show yAg S [48] d_1 d_38 from by rw [ed_38]; exact yAg.cs yAg.rf (by rw [hky_24]; decide)) (by rw [hk_h0]; decide)) 1 (by decide))
                have hE2d_38 : (d_38.1 h0 2).toInt = (d_1.1 h0 2).toInt := congrArg Int32.toInt ((yK.ag (F := []) yK.rf (show yAg S [48] d_1 d_38 from by rw [ed_38]; exact yAg.cs yAg.rf (by rw [hky_24]; decide)) (by rw [hk_h0]; decide)) 2 (by decide))
                have hE3d_38 : (d_38.1 h0 3).toInt = (d_1.1 h0 3).toInt := congrArg Int32.toInt ((yK.ag (F := []) yK.rf (show yAg S [48] d_1 d_38 from by rw [ed_38]; exact yAg.cs yAg.rf (by rw [hky_24]; decide)) (by rw [hk_h0]; decide)) 3 (by decide))
                have hE63d_38 : (d_38.1 h0 63).toInt = (d_1.1 h0 63).toInt := congrArg Int32.toInt ((yK.ag (F := []) yK.rf (show yAg S [48] d_1 d_38 from by rw [ed_38]; exact yAg.cs yAg.rf (by rw [hky_24]; decide)) (by rw [hk_h0]; decide)) 63 (by decide))
                refine lv_aload_n hx hb dX9_tell_84 rfl (lv_at hl 1 rfl) ?_
                refine yget (ci := 9) (k := 19) (v := .ref (S.2.2.1 h0 19)) (C := RX9) (T := TX9) (N := 67) C0 hK hP hm_h0 hk_h0 (by decide) rfl inlX9 (by decide) mW126 (fun _ h9 => h9) rfl dX9_tell_85 ?_
                obtain ⟨hmy_39, hky_39⟩ := ySh.f9_19 hSh _ hm_h0 hk_h0
                refine lv_aload_n hx hb dX9_tell_88 rfl (lv_at hl 1 rfl) ?_
                refine yget (ci := 9) (k := 2) (v := .int (d_38.1 h0 2)) (C := RX9) (T := TX9) (N := 67) C0 hK hP hm_h0 hk_h0 (by decide) rfl inlX9 (by decide) mW888 (fun _ h9 => h9) rfl dX9_tell_89 ?_
                refine lv_topi (fun z_40 ez_40 => ?_)
                refine lv_iload_n hx hb dX9_tell_92 rfl (lv_at hl 3 rfl) ?_
                refine lv_i2b hx hb dX9_tell_93 rfl ?_
                refine lv_topi (fun z_41 ez_41 => ?_)
                have hCC_42 := yMI.c hId_38
                have T_43 : (z_40 : Int32).toInt = (d_38.1 h0 2).toInt := by rw [ez_40]
                refine yastB C0 hK hP hD hS hmy_39 hky_39 (by decide) rfl 1 rfl (xinT 500 rfl (by omega) (by omega)) dX9_tell_94 (fun H locs hP hD hS => ?_)
                obtain ⟨d_44, ed_44⟩ : ∃ z : yD, z = ycs d_38 (S.2.2.1 h0 19) (upd (d_38.2.2.2.1 (S.2.2.1 h0 19)) (z_40 : Int32).toNatClampNeg (vp_nar .byte z_41)) := ⟨_, rfl⟩
                rw [← ed_44] at hP hD
                have hgd_44 : yAg S [9, 48, 49, 69] d d_44 := by rw [ed_44]; exact yAg.cs hgd_38 (by rw [hky_39]; decide)
                have hPod_44 : yPo S d_44 := by rw [ed_44]; exact hPod_38
                have hfd_44 : yK [2, 38] d d_44 h0 := yK.ag hfd_38 (show yAg S [49] d_38 d_44 from by rw [ed_44]; exact yAg.cs yAg.rf (by rw [hky_39]; decide)) (by rw [hk_h0]; decide)
                have hId_44 : yMI S d_44 h0 := yMI.ag hId_38 hSh hm_h0 hk_h0 (show yAg S [49] d_38 d_44 from by rw [ed_44]; exact yAg.cs yAg.rf (by rw [hky_39]; decide)) (yK.ag (F := []) yK.rf (show yAg S [49] d_38 d_44 from by rw [ed_44]; exact yAg.cs yAg.rf (by rw [hky_39]; decide)) (by rw [hk_h0]; decide)) (by decide) (by decide)
                have hE0d_44 : (d_44.1 h0 0).toInt = (d_38.1 h0 0).toInt := congrArg Int32.toInt ((yK.ag (F := []) yK.rf (show yAg S [49] d_38 d_44 from by rw [ed_44]; exact yAg.cs yAg.rf (by rw [hky_39]; decide)) (by rw [hk_h0]; decide)) 0 (by decide))
                have hE1d_44 : (d_44.1 h0 1).toInt = (d_38.1 h0 1).toInt := congrArg Int32.toInt ((yK.ag (F := []) yK.rf (show yAg S [49] d_38 d_44 from by rw [ed_44]; exact yAg.cs yAg.rf (by rw [hky_39]; decide)) (by rw [hk_h0]; decide)) 1 (by decide))
                have hE2d_44 : (d_44.1 h0 2).toInt = (d_38.1 h0 2).toInt := congrArg Int32.toInt ((yK.ag (F := []) yK.rf (show yAg S [49] d_38 d_44 from by rw [ed_44]; exact yAg.cs yAg.rf (by rw [hky_39]; decide)) (by rw [hk_h0]; decide)) 2 (by decide))
                have hE3d_44 : (d_44.1 h0 3).toInt = (d_38.1 h0 3).toInt := congrArg Int32.toInt ((yK.ag (F := []) yK.rf (show yAg S [49] d_38 d_44 from by rw [ed_44]; exact yAg.cs yAg.rf (by rw [hky_39]; decide)) (by rw [hk_h0]; decide)) 3 (by decide))
                have hE63d_44 : (d_44.1 h0 63).toInt = (d_38.1 h0 63).toInt := congrArg Int32.toInt ((yK.ag (F := []) yK.rf (show yAg S [49] d_38 d_44 from by rw [ed_44]; exact yAg.cs yAg.rf (by rw [hky_39]; decide)) (by rw [hk_h0]; decide)) 63 (by decide))
                refine lv_aload_n hx hb dX9_tell_95 rfl (lv_at hl 1 rfl) ?_
                refine lv_dup hx hb dX9_tell_96 rfl ?_
                refine yget (ci := 9) (k := 2) (v := .int (d_44.1 h0 2)) (C := RX9) (T := TX9) (N := 67) C0 hK hP hm_h0 hk_h0 (by decide) rfl inlX9 (by decide) mW888 (fun _ h9 => h9) rfl dX9_tell_97 ?_
                refine lv_topi (fun z_45 ez_45 => ?_)
                refine lv_iconst (v := 1) hx hb dX9_tell_100 (by decide) ?_
                refine lv_iadd hx hb dX9_tell_101 ?_
                refine lv_topi (fun z_46 ez_46 => ?_)
                refine yputI (ci := 9) (k := 2) (ty := .int) (C := RX9) (T := TX9) (N := 67) C0 hK hP hD hS hm_h0 hk_h0 (by decide) rfl inlX9 tyX9 tyX9_ok nmX9 (by decide) mW888 (fun _ h9 => h9) rfl (by decide +kernel) rfl rfl (Nat.le_of_ble_eq_true rfl) ysi_9_2 dX9_tell_102 (fun H locs hP hD hS => ?_)
                obtain ⟨d_47, ed_47⟩ : ∃ z : yD, z = yi d_44 h0 2 z_46 := ⟨_, rfl⟩
                rw [← ed_47] at hP hD
                have hgd_47 : yAg S [9, 48, 49, 69] d d_47 := by rw [ed_47]; exact yAg.i hgd_44 (by rw [hk_h0]; decide)
                have hPod_47 : yPo S d_47 := by rw [ed_47]; exact yPo.i hPod_44 hk_h0 (Or.inl rfl)
                have hfd_47 : yK [2, 38] d d_47 h0 := by rw [ed_47]; exact yK.i hfd_44 (by decide)
                have hCC_48 := yMI.c hId_44
                have T_50 : (z_45 : Int32).toInt = (d_44.1 h0 2).toInt := by rw [ez_45]
                have T_49 : (z_46 : Int32).toInt = (z_45 : Int32).toInt + 1 := tadd ez_46 (rfl : (z_45 : Int32).toInt = (z_45 : Int32).toInt) (by decide +kernel : (1 : Int32).toInt = 1) (by omega) (by omega)
                have hId_47 : yMI S d_47 h0 := by rw [ed_47]; exact yMI.i2 hId_44 ⟨by omega, by omega⟩
                have hE0d_47 : (d_47.1 h0 0).toInt = (d_44.1 h0 0).toInt := congrArg Int32.toInt ((show yK [2] d_44 d_47 h0 from by rw [ed_47]; exact yK.i yK.rf (by decide)) 0 (by decide))
                have hE1d_47 : (d_47.1 h0 1).toInt = (d_44.1 h0 1).toInt := congrArg Int32.toInt ((show yK [2] d_44 d_47 h0 from by rw [ed_47]; exact yK.i yK.rf (by decide)) 1 (by decide))
                have hE2d_47 : (d_47.1 h0 2).toInt = (z_46 : Int32).toInt := by rw [ed_47, yi_self]
                have hE3d_47 : (d_47.1 h0 3).toInt = (d_44.1 h0 3).toInt := congrArg Int32.toInt ((show yK [2] d_44 d_47 h0 from by rw [ed_47]; exact yK.i yK.rf (by decide)) 3 (by decide))
                have hE63d_47 : (d_47.1 h0 63).toInt = (d_44.1 h0 63).toInt := congrArg Int32.toInt ((show yK [2] d_44 d_47 h0 from by rw [ed_47]; exact yK.i yK.rf (by decide)) 63 (by decide))
                refine lv_aload_n hx hb dX9_tell_105 rfl (lv_at hl 1 rfl) ?_
                refine yget (ci := 9) (k := 2) (v := .int (d_47.1 h0 2)) (C := RX9) (T := TX9) (N := 67) C0 hK hP hm_h0 hk_h0 (by decide) rfl inlX9 (by decide) mW888 (fun _ h9 => h9) rfl dX9_tell_106 ?_
                refine lv_topi (fun z_51 ez_51 => ?_)
                exact W.iret (v := z_51) hx hb hr (fun t ht hW => ⟨⟨z_51, d_47, rfl, ⟨hgd_47, (fun _ => hPod_47), hfd_47, hId_47⟩, by rw [ht]; exact hP, hD⟩, hS.F ht⟩) hS.2.2 dX9_tell_109
              · refine lv_iconst (v := 5) hx hb dX9_tell_58 (by decide) ?_
                refine lv_goto (tgt := 63) hx hb dX9_tell_59 (by decide) ?_
                refine lv_istore_n (lv' := [(3, .int 5), (0, .ref h0), (1, .int p0), (2, .int p1)]) hx hb dX9_tell_63 rfl hl (by decide) rfl (fun ls hl => ?_)
                refine lv_iload_n hx hb dX9_tell_64 rfl (lv_at hl 0 rfl) ?_
                refine lv_if_eq (tgt := 74) hx hb dX9_tell_65 (by decide) (fun c_52 => absurd c_52 (by decide +kernel)) (fun c_52 => ?_)
                refine lv_aload_n hx hb dX9_tell_68 rfl (lv_at hl 1 rfl) ?_
                refine lv_iload_n hx hb dX9_tell_69 rfl (lv_at hl 0 rfl) ?_
                refine yVwi (As := [.int 5]) (rest := []) C0 (g_X9_no l G S d_1 h0 5 hSh hPod_1 hm_h0 hk_h0 (by decide +kernel)) ok_X9_no (mW177 : Cond.methodLink RX9 168 yX9_no ∈ wsT) ⟨Nat.le_of_ble_eq_true rfl, Nat.le_of_ble_eq_true rfl⟩ hP hD hS hA hK hN hm_h0 hk_h0 (by decide) rfl rfl rfl hl.1 rfl (Nat.le_of_ble_eq_true rfl) ⟨Nat.le_of_ble_eq_true rfl, Nat.le_of_ble_eq_true rfl⟩ dX9_tell_70 (fun r_53 d_54 H locs hr_53 hP hD hS => ?_)
                obtain ⟨hgad_54, hpad_54, hfad_54, hxd_54⟩ := hr_53
                have hfd_54 : yK [2, 38] d d_54 h0 := yK.tr hfd_1 hfad_54 (by decide)
                have hE0d_54 : (d_54.1 h0 0).toInt = (d_1.1 h0 0).toInt := congrArg Int32.toInt (hfad_54 0 (by decide))
                have hE1d_54 : (d_54.1 h0 1).toInt = (d_1.1 h0 1).toInt := congrArg Int32.toInt (hfad_54 1 (by decide))
                have hE2d_54 : (d_54.1 h0 2).toInt = (d_1.1 h0 2).toInt := congrArg Int32.toInt (hfad_54 2 (by decide))
                have hE3d_54 : (d_54.1 h0 3).toInt = (d_1.1 h0 3).toInt := congrArg Int32.toInt (hfad_54 3 (by decide))
                have hE63d_54 : (d_54.1 h0 63).toInt = (d_1.1 h0 63).toInt := congrArg Int32.toInt (hfad_54 63 (by decide))
                have hId_54 : yMI S d_54 h0 := yMI.ag hId_1 hSh hm_h0 hk_h0 hgad_54 hfad_54 (by decide) (by decide)
                have hgd_54 : yAg S [9, 48, 49, 69] d d_54 := yAg.tr hgd_1 hgad_54 (by first | decide | exact fun _ h => h)
                have hPod_54 : yPo S d_54 := hpad_54 hPod_1
                exact W.iret (v := r_53) hx hb hr (fun t ht hW => ⟨⟨r_53, d_54, rfl, ⟨hgd_54, (fun _ => hPod_54), hfd_54, hId_54⟩, by rw [ht]; exact hP, hD⟩, hS.F ht⟩) hS.2.2 dX9_tell_73
            · refine lv_iconst (v := 2) hx hb dX9_tell_44 (by decide) ?_
              refine lv_goto (tgt := 63) hx hb dX9_tell_45 (by decide) ?_
              refine lv_istore_n (lv' := [(3, .int 2), (0, .ref h0), (1, .int p0), (2, .int p1)]) hx hb dX9_tell_63 rfl hl (by decide) rfl (fun ls hl => ?_)
              refine lv_iload_n hx hb dX9_tell_64 rfl (lv_at hl 0 rfl) ?_
              refine lv_if_eq (tgt := 74) hx hb dX9_tell_65 (by decide) (fun c_55 => absurd c_55 (by decide +kernel)) (fun c_55 => ?_)
              refine lv_aload_n hx hb dX9_tell_68 rfl (lv_at hl 1 rfl) ?_
              refine lv_iload_n hx hb dX9_tell_69 rfl (lv_at hl 0 rfl) ?_
              refine yVwi (As := [.int 2]) (rest := []) C0 (g_X9_no l G S d_1 h0 2 hSh hPod_1 hm_h0 hk_h0 (by decide +kernel)) ok_X9_no (mW177 : Cond.methodLink RX9 168 yX9_no ∈ wsT) ⟨Nat.le_of_ble_eq_true rfl, Nat.le_of_ble_eq_true rfl⟩ hP hD hS hA hK hN hm_h0 hk_h0 (by decide) rfl rfl rfl hl.1 rfl (Nat.le_of_ble_eq_true rfl) ⟨Nat.le_of_ble_eq_true rfl, Nat.le_of_ble_eq_true rfl⟩ dX9_tell_70 (fun r_56 d_57 H locs hr_56 hP hD hS => ?_)
              obtain ⟨hgad_57, hpad_57, hfad_57, hxd_57⟩ := hr_56
              have hfd_57 : yK [2, 38] d d_57 h0 := yK.tr hfd_1 hfad_57 (by decide)
              have hE0d_57 : (d_57.1 h0 0).toInt = (d_1.1 h0 0).toInt := congrArg Int32.toInt (hfad_57 0 (by decide))
              have hE1d_57 : (d_57.1 h0 1).toInt = (d_1.1 h0 1).toInt := congrArg Int32.toInt (hfad_57 1 (by decide))
              have hE2d_57 : (d_57.1 h0 2).toInt = (d_1.1 h0 2).toInt := congrArg Int32.toInt (hfad_57 2 (by decide))
              have hE3d_57 : (d_57.1 h0 3).toInt = (d_1.1 h0 3).toInt := congrArg Int32.toInt (hfad_57 3 (by decide))
              have hE63d_57 : (d_57.1 h0 63).toInt = (d_1.1 h0 63).toInt := congrArg Int32.toInt (hfad_57 63 (by decide))
              have hId_57 : yMI S d_57 h0 := yMI.ag hId_1 hSh hm_h0 hk_h0 hgad_57 hfad_57 (by decide) (by decide)
              have hgd_57 : yAg S [9, 48, 49, 69] d d_57 := yAg.tr hgd_1 hgad_57 (by first | decide | exact fun _ h => h)
              have hPod_57 : yPo S d_57 := hpad_57 hPod_1
              exact W.iret (v := r_56) hx hb hr (fun t ht hW => ⟨⟨r_56, d_57, rfl, ⟨hgd_57, (fun _ => hPod_57), hfd_57, hId_57⟩, by rw [ht]; exact hP, hD⟩, hS.F ht⟩) hS.2.2 dX9_tell_73
          · refine lv_iconst (v := 1) hx hb dX9_tell_33 (by decide) ?_
            refine lv_goto (tgt := 63) hx hb dX9_tell_34 (by decide) ?_
            refine lv_istore_n (lv' := [(3, .int 1), (0, .ref h0), (1, .int p0), (2, .int p1)]) hx hb dX9_tell_63 rfl hl (by decide) rfl (fun ls hl => ?_)
            refine lv_iload_n hx hb dX9_tell_64 rfl (lv_at hl 0 rfl) ?_
            refine lv_if_eq (tgt := 74) hx hb dX9_tell_65 (by decide) (fun c_58 => absurd c_58 (by decide +kernel)) (fun c_58 => ?_)
            refine lv_aload_n hx hb dX9_tell_68 rfl (lv_at hl 1 rfl) ?_
            refine lv_iload_n hx hb dX9_tell_69 rfl (lv_at hl 0 rfl) ?_
            refine yVwi (As := [.int 1]) (rest := []) C0 (g_X9_no l G S d_1 h0 1 hSh hPod_1 hm_h0 hk_h0 (by decide +kernel)) ok_X9_no (mW177 : Cond.methodLink RX9 168 yX9_no ∈ wsT) ⟨Nat.le_of_ble_eq_true rfl, Nat.le_of_ble_eq_true rfl⟩ hP hD hS hA hK hN hm_h0 hk_h0 (by decide) rfl rfl rfl hl.1 rfl (Nat.le_of_ble_eq_true rfl) ⟨Nat.le_of_ble_eq_true rfl, Nat.le_of_ble_eq_true rfl⟩ dX9_tell_70 (fun r_59 d_60 H locs hr_59 hP hD hS => ?_)
            obtain ⟨hgad_60, hpad_60, hfad_60, hxd_60⟩ := hr_59
            have hfd_60 : yK [2, 38] d d_60 h0 := yK.tr hfd_1 hfad_60 (by decide)
            have hE0d_60 : (d_60.1 h0 0).toInt = (d_1.1 h0 0).toInt := congrArg Int32.toInt (hfad_60 0 (by decide))
            have hE1d_60 : (d_60.1 h0 1).toInt = (d_1.1 h0 1).toInt := congrArg Int32.toInt (hfad_60 1 (by decide))
            have hE2d_60 : (d_60.1 h0 2).toInt = (d_1.1 h0 2).toInt := congrArg Int32.toInt (hfad_60 2 (by decide))
            have hE3d_60 : (d_60.1 h0 3).toInt = (d_1.1 h0 3).toInt := congrArg Int32.toInt (hfad_60 3 (by decide))
            have hE63d_60 : (d_60.1 h0 63).toInt = (d_1.1 h0 63).toInt := congrArg Int32.toInt (hfad_60 63 (by decide))
            have hId_60 : yMI S d_60 h0 := yMI.ag hId_1 hSh hm_h0 hk_h0 hgad_60 hfad_60 (by decide) (by decide)
            have hgd_60 : yAg S [9, 48, 49, 69] d d_60 := yAg.tr hgd_1 hgad_60 (by first | decide | exact fun _ h => h)
            have hPod_60 : yPo S d_60 := hpad_60 hPod_1
            exact W.iret (v := r_59) hx hb hr (fun t ht hW => ⟨⟨r_59, d_60, rfl, ⟨hgd_60, (fun _ => hPod_60), hfd_60, hId_60⟩, by rw [ht]; exact hP, hD⟩, hS.F ht⟩) hS.2.2 dX9_tell_73
theorem dX9_status_0 : decode cX9_status 0 = .ok (.iload_n 1, 1) := by decide +kernel
theorem dX9_status_1 : decode cX9_status 1 = .ok (.tableswitch 89 0 8 #[51, 56, 56, 56, 56, 56, 63, 68, 73], 51) := by decide +kernel
theorem dX9_status_52 : decode cX9_status 52 = .ok (.aload_n 0, 1) := by decide +kernel
theorem dX9_status_53 : decode cX9_status 53 = .ok (.getfield 147, 3) := by decide +kernel
theorem dX9_status_56 : decode cX9_status 56 = .ok (.ireturn, 1) := by decide +kernel
theorem dX9_status_57 : decode cX9_status 57 = .ok (.aload_n 0, 1) := by decide +kernel
theorem dX9_status_58 : decode cX9_status 58 = .ok (.getfield 117, 3) := by decide +kernel
theorem dX9_status_61 : decode cX9_status 61 = .ok (.iload_n 1, 1) := by decide +kernel
theorem dX9_status_62 : decode cX9_status 62 = .ok (.iaload, 1) := by decide +kernel
theorem dX9_status_63 : decode cX9_status 63 = .ok (.ireturn, 1) := by decide +kernel
theorem dX9_status_64 : decode cX9_status 64 = .ok (.aload_n 0, 1) := by decide +kernel
theorem dX9_status_65 : decode cX9_status 65 = .ok (.getfield 150, 3) := by decide +kernel
theorem dX9_status_68 : decode cX9_status 68 = .ok (.ireturn, 1) := by decide +kernel
theorem dX9_status_69 : decode cX9_status 69 = .ok (.aload_n 0, 1) := by decide +kernel
theorem dX9_status_70 : decode cX9_status 70 = .ok (.getfield 180, 3) := by decide +kernel
theorem dX9_status_73 : decode cX9_status 73 = .ok (.ireturn, 1) := by decide +kernel
theorem dX9_status_74 : decode cX9_status 74 = .ok (.aload_n 0, 1) := by decide +kernel
theorem dX9_status_75 : decode cX9_status 75 = .ok (.getfield 7, 3) := by decide +kernel
theorem dX9_status_78 : decode cX9_status 78 = .ok (.ifCond .ge 7, 3) := by decide +kernel
theorem dX9_status_81 : decode cX9_status 81 = .ok (.iconst 0, 1) := by decide +kernel
theorem dX9_status_82 : decode cX9_status 82 = .ok (.goto 7, 3) := by decide +kernel
theorem dX9_status_85 : decode cX9_status 85 = .ok (.aload_n 0, 1) := by decide +kernel
theorem dX9_status_86 : decode cX9_status 86 = .ok (.getfield 326, 3) := by decide +kernel
theorem dX9_status_89 : decode cX9_status 89 = .ok (.ireturn, 1) := by decide +kernel
theorem dX9_status_90 : decode cX9_status 90 = .ok (.iconst (-1), 1) := by decide +kernel
theorem dX9_status_91 : decode cX9_status 91 = .ok (.ireturn, 1) := by decide +kernel
set_option maxHeartbeats 4000000 in
set_option maxRecDepth 100000 in
theorem g_X9_status (l : Launch) (G : xG) (S : yS) (d : yD) (h0 : Nat) (p0 : Int32) (hSh : ySh S) (hm_h0 : h0 ∈ S.1) (hk_h0 : S.2.1 h0 = 9) (hI : yMI S d h0) : xRi l G yX9_status cX9_status 2 (some .int) 0 0 [.ref h0, .int p0] (yW G S d) (fun r => True) := by
  intro sz
  refine xstart (by decide) (Nat.le_of_ble_eq_true rfl) (fun p e s m args below meth c ls C0 hr hlocks hin hsz hP hK hD hN hl => ?_)
  obtain ⟨hx, hb, hml, hown, htl⟩ := id C0
  have hl : lv_has ls 2 [(0, .ref h0), (1, .int p0)] := hl
  refine lv_iload_n hx hb dX9_status_0 rfl (lv_at hl 1 rfl) ?_
  rcases xtab p0 9 (by decide) with hsw_1 | ⟨k_2, hk_2, hsw_1⟩
  · refine lv_tableOut (tgt := 90) hx hb dX9_status_1 (by omega) (by decide) ?_
    refine lv_iconst (v := (-1)) hx hb dX9_status_90 (by decide) ?_
    exact W.iret (v := (-1)) hx hb hr (fun t ht hW => ⟨(-1), rfl, trivial, ht⟩) (fun q hq => by cases hq) dX9_status_91
  · obtain rfl | rfl | rfl | rfl | rfl | rfl | rfl | rfl | rfl : k_2 = 0 ∨ k_2 = 1 ∨ k_2 = 2 ∨ k_2 = 3 ∨ k_2 = 4 ∨ k_2 = 5 ∨ k_2 = 6 ∨ k_2 = 7 ∨ k_2 = 8 := by omega
    · subst hsw_1
      refine lv_tableIn (tgt := 52) (off := 51) hx hb dX9_status_1 (by decide +kernel) (by decide +kernel) (by decide +kernel) (by decide) ?_
      refine lv_aload_n hx hb dX9_status_52 rfl (lv_at hl 0 rfl) ?_
      refine yget (ci := 9) (k := 38) (v := .int (d.1 h0 38)) (C := RX9) (T := TX9) (N := 67) C0 hK hP hm_h0 hk_h0 (by decide) rfl inlX9 (by decide) mW175 (fun _ h9 => h9) rfl dX9_status_53 ?_
      refine lv_topi (fun z_3 ez_3 => ?_)
      exact W.iret (v := z_3) hx hb hr (fun t ht hW => ⟨z_3, rfl, trivial, ht⟩) (fun q hq => by cases hq) dX9_status_56
    · subst hsw_1
      refine lv_tableIn (tgt := 57) (off := 56) hx hb dX9_status_1 (by decide +kernel) (by decide +kernel) (by decide +kernel) (by decide) ?_
      refine lv_aload_n hx hb dX9_status_57 rfl (lv_at hl 0 rfl) ?_
      refine yget (ci := 9) (k := 39) (v := .ref (S.2.2.1 h0 39)) (C := RX9) (T := TX9) (N := 67) C0 hK hP hm_h0 hk_h0 (by decide) rfl inlX9 (by decide) mW144 (fun _ h9 => h9) rfl dX9_status_58 ?_
      obtain ⟨hmy_4, hky_4⟩ := ySh.f9_39 hSh _ hm_h0 hk_h0
      refine lv_iload_n hx hb dX9_status_61 rfl (lv_at hl 1 rfl) ?_
      refine yald C0 hK hP hmy_4 hky_4 (by decide) rfl 0 rfl (by unfold vp_in; decide +kernel) dX9_status_62 ?_
      refine lv_topi (fun z_5 ez_5 => ?_)
      exact W.iret (v := z_5) hx hb hr (fun t ht hW => ⟨z_5, rfl, trivial, ht⟩) (fun q hq => by cases hq) dX9_status_63
    · subst hsw_1
      refine lv_tableIn (tgt := 57) (off := 56) hx hb dX9_status_1 (by decide +kernel) (by decide +kernel) (by decide +kernel) (by decide) ?_
      refine lv_aload_n hx hb dX9_status_57 rfl (lv_at hl 0 rfl) ?_
      refine yget (ci := 9) (k := 39) (v := .ref (S.2.2.1 h0 39)) (C := RX9) (T := TX9) (N := 67) C0 hK hP hm_h0 hk_h0 (by decide) rfl inlX9 (by decide) mW144 (fun _ h9 => h9) rfl dX9_status_58 ?_
      obtain ⟨hmy_6, hky_6⟩ := ySh.f9_39 hSh _ hm_h0 hk_h0
      refine lv_iload_n hx hb dX9_status_61 rfl (lv_at hl 1 rfl) ?_
      refine yald C0 hK hP hmy_6 hky_6 (by decide) rfl 0 rfl (by unfold vp_in; decide +kernel) dX9_status_62 ?_
      refine lv_topi (fun z_7 ez_7 => ?_)
      exact W.iret (v := z_7) hx hb hr (fun t ht hW => ⟨z_7, rfl, trivial, ht⟩) (fun q hq => by cases hq) dX9_status_63
    · subst hsw_1
      refine lv_tableIn (tgt := 57) (off := 56) hx hb dX9_status_1 (by decide +kernel) (by decide +kernel) (by decide +kernel) (by decide) ?_
      refine lv_aload_n hx hb dX9_status_57 rfl (lv_at hl 0 rfl) ?_
      refine yget (ci := 9) (k := 39) (v := .ref (S.2.2.1 h0 39)) (C := RX9) (T := TX9) (N := 67) C0 hK hP hm_h0 hk_h0 (by decide) rfl inlX9 (by decide) mW144 (fun _ h9 => h9) rfl dX9_status_58 ?_
      obtain ⟨hmy_8, hky_8⟩ := ySh.f9_39 hSh _ hm_h0 hk_h0
      refine lv_iload_n hx hb dX9_status_61 rfl (lv_at hl 1 rfl) ?_
      refine yald C0 hK hP hmy_8 hky_8 (by decide) rfl 0 rfl (by unfold vp_in; decide +kernel) dX9_status_62 ?_
      refine lv_topi (fun z_9 ez_9 => ?_)
      exact W.iret (v := z_9) hx hb hr (fun t ht hW => ⟨z_9, rfl, trivial, ht⟩) (fun q hq => by cases hq) dX9_status_63
    · subst hsw_1
      refine lv_tableIn (tgt := 57) (off := 56) hx hb dX9_status_1 (by decide +kernel) (by decide +kernel) (by decide +kernel) (by decide) ?_
      refine lv_aload_n hx hb dX9_status_57 rfl (lv_at hl 0 rfl) ?_
      refine yget (ci := 9) (k := 39) (v := .ref (S.2.2.1 h0 39)) (C := RX9) (T := TX9) (N := 67) C0 hK hP hm_h0 hk_h0 (by decide) rfl inlX9 (by decide) mW144 (fun _ h9 => h9) rfl dX9_status_58 ?_
      obtain ⟨hmy_10, hky_10⟩ := ySh.f9_39 hSh _ hm_h0 hk_h0
      refine lv_iload_n hx hb dX9_status_61 rfl (lv_at hl 1 rfl) ?_
      refine yald C0 hK hP hmy_10 hky_10 (by decide) rfl 0 rfl (by unfold vp_in; decide +kernel) dX9_status_62 ?_
      refine lv_topi (fun z_11 ez_11 => ?_)
      exact W.iret (v := z_11) hx hb hr (fun t ht hW => ⟨z_11, rfl, trivial, ht⟩) (fun q hq => by cases hq) dX9_status_63
    · subst hsw_1
      refine lv_tableIn (tgt := 57) (off := 56) hx hb dX9_status_1 (by decide +kernel) (by decide +kernel) (by decide +kernel) (by decide) ?_
      refine lv_aload_n hx hb dX9_status_57 rfl (lv_at hl 0 rfl) ?_
      refine yget (ci := 9) (k := 39) (v := .ref (S.2.2.1 h0 39)) (C := RX9) (T := TX9) (N := 67) C0 hK hP hm_h0 hk_h0 (by decide) rfl inlX9 (by decide) mW144 (fun _ h9 => h9) rfl dX9_status_58 ?_
      obtain ⟨hmy_12, hky_12⟩ := ySh.f9_39 hSh _ hm_h0 hk_h0
      refine lv_iload_n hx hb dX9_status_61 rfl (lv_at hl 1 rfl) ?_
      refine yald C0 hK hP hmy_12 hky_12 (by decide) rfl 0 rfl (by unfold vp_in; decide +kernel) dX9_status_62 ?_
      refine lv_topi (fun z_13 ez_13 => ?_)
      exact W.iret (v := z_13) hx hb hr (fun t ht hW => ⟨z_13, rfl, trivial, ht⟩) (fun q hq => by cases hq) dX9_status_63
    · subst hsw_1
      refine lv_tableIn (tgt := 64) (off := 63) hx hb dX9_status_1 (by decide +kernel) (by decide +kernel) (by decide +kernel) (by decide) ?_
      refine lv_aload_n hx hb dX9_status_64 rfl (lv_at hl 0 rfl) ?_
      refine yget (ci := 9) (k := 0) (v := .int (d.1 h0 0)) (C := RX9) (T := TX9) (N := 67) C0 hK hP hm_h0 hk_h0 (by decide) rfl inlX9 (by decide) mW176 (fun _ h9 => h9) rfl dX9_status_65 ?_
      refine lv_topi (fun z_14 ez_14 => ?_)
      exact W.iret (v := z_14) hx hb hr (fun t ht hW => ⟨z_14, rfl, trivial, ht⟩) (fun q hq => by cases hq) dX9_status_68
    · subst hsw_1
      refine lv_tableIn (tgt := 69) (off := 68) hx hb dX9_status_1 (by decide +kernel) (by decide +kernel) (by decide +kernel) (by decide) ?_
      refine lv_aload_n hx hb dX9_status_69 rfl (lv_at hl 0 rfl) ?_
      refine yget (ci := 9) (k := 1) (v := .int (d.1 h0 1)) (C := RX9) (T := TX9) (N := 67) C0 hK hP hm_h0 hk_h0 (by decide) rfl inlX9 (by decide) mW364 (fun _ h9 => h9) rfl dX9_status_70 ?_
      refine lv_topi (fun z_15 ez_15 => ?_)
      exact W.iret (v := z_15) hx hb hr (fun t ht hW => ⟨z_15, rfl, trivial, ht⟩) (fun q hq => by cases hq) dX9_status_73
    · subst hsw_1
      refine lv_tableIn (tgt := 74) (off := 73) hx hb dX9_status_1 (by decide +kernel) (by decide +kernel) (by decide +kernel) (by decide) ?_
      refine lv_aload_n hx hb dX9_status_74 rfl (lv_at hl 0 rfl) ?_
      refine yget (ci := 9) (k := 3) (v := .int (d.1 h0 3)) (C := RX9) (T := TX9) (N := 67) C0 hK hP hm_h0 hk_h0 (by decide) rfl inlX9 (by decide) mW106 (fun _ h9 => h9) rfl dX9_status_75 ?_
      refine lv_topi (fun z_16 ez_16 => ?_)
      refine lv_if_ge (tgt := 85) hx hb dX9_status_78 (by decide) (fun c_17 => ?_) (fun c_17 => ?_)
      · refine lv_aload_n hx hb dX9_status_85 rfl (lv_at hl 0 rfl) ?_
        refine yget (ci := 9) (k := 2) (v := .int (d.1 h0 2)) (C := RX9) (T := TX9) (N := 67) C0 hK hP hm_h0 hk_h0 (by decide) rfl inlX9 (by decide) mW888 (fun _ h9 => h9) rfl dX9_status_86 ?_
        refine lv_topi (fun z_18 ez_18 => ?_)
        exact W.iret (v := z_18) hx hb hr (fun t ht hW => ⟨z_18, rfl, trivial, ht⟩) (fun q hq => by cases hq) dX9_status_89
      · refine lv_iconst (v := 0) hx hb dX9_status_81 (by decide) ?_
        refine lv_goto (tgt := 89) hx hb dX9_status_82 (by decide) ?_
        exact W.iret (v := 0) hx hb hr (fun t ht hW => ⟨0, rfl, trivial, ht⟩) (fun q hq => by cases hq) dX9_status_89
