theorem dX9_check_0 : decode cX9_check 0 = .ok (.aload_n 0, 1) := by decide +kernel
theorem dX9_check_1 : decode cX9_check 1 = .ok (.iconst 0, 1) := by decide +kernel
theorem dX9_check_2 : decode cX9_check 2 = .ok (.putfield 147, 3) := by decide +kernel
theorem dX9_check_5 : decode cX9_check 5 = .ok (.aload_n 0, 1) := by decide +kernel
theorem dX9_check_6 : decode cX9_check 6 = .ok (.getfield 7, 3) := by decide +kernel
theorem dX9_check_9 : decode cX9_check 9 = .ok (.ifCond .lt 14, 3) := by decide +kernel
theorem dX9_check_12 : decode cX9_check 12 = .ok (.aload_n 0, 1) := by decide +kernel
theorem dX9_check_13 : decode cX9_check 13 = .ok (.aload_n 0, 1) := by decide +kernel
theorem dX9_check_14 : decode cX9_check 14 = .ok (.getfield 7, 3) := by decide +kernel
theorem dX9_check_17 : decode cX9_check 17 = .ok (.invokevirtual 157, 3) := by decide +kernel
theorem dX9_check_20 : decode cX9_check 20 = .ok (.ifCond .ne 12, 3) := by decide +kernel
theorem dX9_check_23 : decode cX9_check 23 = .ok (.aload_n 0, 1) := by decide +kernel
theorem dX9_check_24 : decode cX9_check 24 = .ok (.iconst 2, 1) := by decide +kernel
theorem dX9_check_25 : decode cX9_check 25 = .ok (.invokevirtual 168, 3) := by decide +kernel
theorem dX9_check_28 : decode cX9_check 28 = .ok (.pop, 1) := by decide +kernel
theorem dX9_check_29 : decode cX9_check 29 = .ok (.bipush (-4), 2) := by decide +kernel
theorem dX9_check_31 : decode cX9_check 31 = .ok (.ireturn, 1) := by decide +kernel
theorem dX9_check_32 : decode cX9_check 32 = .ok (.aload_n 0, 1) := by decide +kernel
theorem dX9_check_33 : decode cX9_check 33 = .ok (.aload_n 0, 1) := by decide +kernel
theorem dX9_check_34 : decode cX9_check 34 = .ok (.getfield 7, 3) := by decide +kernel
theorem dX9_check_37 : decode cX9_check 37 = .ok (.iconst (-1), 1) := by decide +kernel
theorem dX9_check_38 : decode cX9_check 38 = .ok (.iconst 0, 1) := by decide +kernel
theorem dX9_check_39 : decode cX9_check 39 = .ok (.iconst 0, 1) := by decide +kernel
theorem dX9_check_40 : decode cX9_check 40 = .ok (.bipush (-9), 2) := by decide +kernel
theorem dX9_check_42 : decode cX9_check 42 = .ok (.invokevirtual 340, 3) := by decide +kernel
theorem dX9_check_45 : decode cX9_check 45 = .ok (.aload_n 0, 1) := by decide +kernel
theorem dX9_check_46 : decode cX9_check 46 = .ok (.aload_n 0, 1) := by decide +kernel
theorem dX9_check_47 : decode cX9_check 47 = .ok (.getfield 7, 3) := by decide +kernel
theorem dX9_check_50 : decode cX9_check 50 = .ok (.iload_n 2, 1) := by decide +kernel
theorem dX9_check_51 : decode cX9_check 51 = .ok (.iconst (-1), 1) := by decide +kernel
theorem dX9_check_52 : decode cX9_check 52 = .ok (.iconst (-1), 1) := by decide +kernel
theorem dX9_check_53 : decode cX9_check 53 = .ok (.iconst (-1), 1) := by decide +kernel
theorem dX9_check_54 : decode cX9_check 54 = .ok (.invokevirtual 344, 3) := by decide +kernel
theorem dX9_check_57 : decode cX9_check 57 = .ok (.aload_n 0, 1) := by decide +kernel
theorem dX9_check_58 : decode cX9_check 58 = .ok (.getfield 320, 3) := by decide +kernel
theorem dX9_check_61 : decode cX9_check 61 = .ok (.ifCond .lt 8, 3) := by decide +kernel
theorem dX9_check_64 : decode cX9_check 64 = .ok (.aload_n 0, 1) := by decide +kernel
theorem dX9_check_65 : decode cX9_check 65 = .ok (.getfield 320, 3) := by decide +kernel
theorem dX9_check_68 : decode cX9_check 68 = .ok (.ireturn, 1) := by decide +kernel
theorem dX9_check_69 : decode cX9_check 69 = .ok (.aload_n 0, 1) := by decide +kernel
theorem dX9_check_70 : decode cX9_check 70 = .ok (.getfield 323, 3) := by decide +kernel
theorem dX9_check_73 : decode cX9_check 73 = .ok (.aload_n 0, 1) := by decide +kernel
theorem dX9_check_74 : decode cX9_check 74 = .ok (.getfield 326, 3) := by decide +kernel
theorem dX9_check_77 : decode cX9_check 77 = .ok (.if_icmp .ge 27, 3) := by decide +kernel
theorem dX9_check_80 : decode cX9_check 80 = .ok (.aload_n 0, 1) := by decide +kernel
theorem dX9_check_81 : decode cX9_check 81 = .ok (.aload_n 0, 1) := by decide +kernel
theorem dX9_check_82 : decode cX9_check 82 = .ok (.getfield 7, 3) := by decide +kernel
theorem dX9_check_85 : decode cX9_check 85 = .ok (.invokevirtual 282, 3) := by decide +kernel
theorem dX9_check_88 : decode cX9_check 88 = .ok (.ifCond .eq 14, 3) := by decide +kernel
theorem dX9_check_91 : decode cX9_check 91 = .ok (.aload_n 0, 1) := by decide +kernel
theorem dX9_check_92 : decode cX9_check 92 = .ok (.aload_n 0, 1) := by decide +kernel
theorem dX9_check_93 : decode cX9_check 93 = .ok (.getfield 7, 3) := by decide +kernel
theorem dX9_check_96 : decode cX9_check 96 = .ok (.invokevirtual 291, 3) := by decide +kernel
theorem dX9_check_99 : decode cX9_check 99 = .ok (.goto 4, 3) := by decide +kernel
theorem dX9_check_102 : decode cX9_check 102 = .ok (.iconst 0, 1) := by decide +kernel
theorem dX9_check_103 : decode cX9_check 103 = .ok (.ireturn, 1) := by decide +kernel
theorem dX9_check_104 : decode cX9_check 104 = .ok (.aload_n 0, 1) := by decide +kernel
theorem dX9_check_105 : decode cX9_check 105 = .ok (.getfield 275, 3) := by decide +kernel
theorem dX9_check_108 : decode cX9_check 108 = .ok (.iload_n 1, 1) := by decide +kernel
theorem dX9_check_109 : decode cX9_check 109 = .ok (.i2l, 1) := by decide +kernel
theorem dX9_check_110 : decode cX9_check 110 = .ok (.lcmp, 1) := by decide +kernel
theorem dX9_check_111 : decode cX9_check 111 = .ok (.ifCond .ne 7, 3) := by decide +kernel
theorem dX9_check_114 : decode cX9_check 114 = .ok (.iconst (-1), 1) := by decide +kernel
theorem dX9_check_115 : decode cX9_check 115 = .ok (.goto 5, 3) := by decide +kernel
theorem dX9_check_118 : decode cX9_check 118 = .ok (.bipush (-2), 2) := by decide +kernel
theorem dX9_check_120 : decode cX9_check 120 = .ok (.ireturn, 1) := by decide +kernel
set_option maxHeartbeats 4000000 in
set_option maxRecDepth 100000 in
theorem g_X9_check (l : Launch) (G : xG) (S : yS) (d : yD) (h0 : Nat) (p0 : Int32) (p1 : Int32) (hSh : ySh S) (hPo : yPo S d) (hm_h0 : h0 ∈ S.1) (hk_h0 : S.2.1 h0 = 9) (hI : yMI S d h0) (hz_p1 : p1 = 0 ∨ p1 = 1) : xWi l G yX9_check cX9_check 3 (some .int) 6 155 0 0 [.ref h0, .int p0, .int p1] (yW G S d) (fun r (u : yD) => yAg S [9, 69, 74, 75, 77, 78] d u ∧ (yPo S d → yPo S u) ∧ yK [38, 49, 50, 51, 52, 53, 54, 55, 57, 62, 63, 64, 65] d u h0 ∧ (yMI S u h0)) (fun u => yW G S u) := by
  intro sz
  refine xstart (by decide) (Nat.le_of_ble_eq_true rfl) (fun p e s m args below meth c ls C0 hr hlocks hin hsz hP hK hD hN hl => ?_)
  obtain ⟨hx, hb, hml, hown, htl⟩ := id C0
  subst hsz
  have hD := hD.self (sz := s.heap.size)
  generalize hAe : va_A (yW G S d) s.heap.size = A at hD ⊢
  have hA : ∀ q : Nat, s.heap.size ≤ q → A q := fun q h => by rw [← hAe]; exact Or.inr h
  have hS : va_S A s.heap s.heap [] := va_S.rf
  have hg0 : yAg S [9, 69, 74, 75, 77, 78] d d := yAg.rf
  have hl : lv_has ls 3 [(0, .ref h0), (1, .int p0), (2, .int p1)] := hl
  refine lv_aload_n hx hb dX9_check_0 rfl (lv_at hl 0 rfl) ?_
  refine lv_iconst (v := 0) hx hb dX9_check_1 (by decide) ?_
  refine yputI (ci := 9) (k := 38) (ty := .int) (C := RX9) (T := TX9) (N := 67) C0 hK hP hD hS hm_h0 hk_h0 (by decide) rfl inlX9 tyX9 tyX9_ok nmX9 (by decide) mW175 (fun _ h9 => h9) rfl (by decide +kernel) rfl rfl (Nat.le_of_ble_eq_true rfl) ysi_9_38 dX9_check_2 (fun H locs hP hD hS => ?_)
  obtain ⟨d_1, ed_1⟩ : ∃ z : yD, z = yi d h0 38 0 := ⟨_, rfl⟩
  rw [← ed_1] at hP hD
  have hgd_1 : yAg S [9, 69, 74, 75, 77, 78] d d_1 := by rw [ed_1]; exact yAg.i hg0 (by rw [hk_h0]; decide)
  have hPod_1 : yPo S d_1 := by rw [ed_1]; exact yPo.i hPo hk_h0 (Or.inl rfl)
  have hfd_1 : yK [38, 49, 50, 51, 52, 53, 54, 55, 57, 62, 63, 64, 65] d d_1 h0 := by rw [ed_1]; exact yK.i yK.rf (by decide)
  have hId_1 : yMI S d_1 h0 := yMI.ag hI hSh hm_h0 hk_h0 (show yAg S [9] d d_1 from by rw [ed_1]; exact yAg.i yAg.rf (by rw [hk_h0]; decide)) (show yK [38] d d_1 h0 from by rw [ed_1]; exact yK.i yK.rf (by decide)) (by decide) (by decide)
  have hE0d_1 : (d_1.1 h0 0).toInt = (d.1 h0 0).toInt := congrArg Int32.toInt ((show yK [38] d d_1 h0 from by rw [ed_1]; exact yK.i yK.rf (by decide)) 0 (by decide))
  have hE1d_1 : (d_1.1 h0 1).toInt = (d.1 h0 1).toInt := congrArg Int32.toInt ((show yK [38] d d_1 h0 from by rw [ed_1]; exact yK.i yK.rf (by decide)) 1 (by decide))
  have hE2d_1 : (d_1.1 h0 2).toInt = (d.1 h0 2).toInt := congrArg Int32.toInt ((show yK [38] d d_1 h0 from by rw [ed_1]; exact yK.i yK.rf (by decide)) 2 (by decide))
  have hE3d_1 : (d_1.1 h0 3).toInt = (d.1 h0 3).toInt := congrArg Int32.toInt ((show yK [38] d d_1 h0 from by rw [ed_1]; exact yK.i yK.rf (by decide)) 3 (by decide))
  have hE63d_1 : (d_1.1 h0 63).toInt = (d.1 h0 63).toInt := congrArg Int32.toInt ((show yK [38] d d_1 h0 from by rw [ed_1]; exact yK.i yK.rf (by decide)) 63 (by decide))
  refine lv_aload_n hx hb dX9_check_5 rfl (lv_at hl 0 rfl) ?_
  refine yget (ci := 9) (k := 3) (v := .int (d_1.1 h0 3)) (C := RX9) (T := TX9) (N := 67) C0 hK hP hm_h0 hk_h0 (by decide) rfl inlX9 (by decide) mW106 (fun _ h9 => h9) rfl dX9_check_6 ?_
  refine lv_topi (fun z_2 ez_2 => ?_)
  refine lv_if_lt (tgt := 23) hx hb dX9_check_9 (by decide) (fun c_3 => ?_) (fun c_3 => ?_)
  · refine lv_aload_n hx hb dX9_check_23 rfl (lv_at hl 0 rfl) ?_
    refine lv_iconst (v := 2) hx hb dX9_check_24 (by decide) ?_
    refine yVwi (As := [.int 2]) (rest := []) C0 (g_X9_no l G S d_1 h0 2 hSh hPod_1 hm_h0 hk_h0 (by decide +kernel)) ok_X9_no (mW177 : Cond.methodLink RX9 168 yX9_no ∈ wsT) ⟨Nat.le_of_ble_eq_true rfl, Nat.le_of_ble_eq_true rfl⟩ hP hD hS hA hK hN hm_h0 hk_h0 (by decide) rfl rfl rfl hl.1 rfl (Nat.le_of_ble_eq_true rfl) ⟨Nat.le_of_ble_eq_true rfl, Nat.le_of_ble_eq_true rfl⟩ dX9_check_25 (fun r_4 d_5 H locs hr_4 hP hD hS => ?_)
    obtain ⟨hgad_5, hpad_5, hfad_5, hxd_5⟩ := hr_4
    have hfd_5 : yK [38, 49, 50, 51, 52, 53, 54, 55, 57, 62, 63, 64, 65] d d_5 h0 := yK.tr hfd_1 hfad_5 (by decide)
    have hE0d_5 : (d_5.1 h0 0).toInt = (d_1.1 h0 0).toInt := congrArg Int32.toInt (hfad_5 0 (by decide))
    have hE1d_5 : (d_5.1 h0 1).toInt = (d_1.1 h0 1).toInt := congrArg Int32.toInt (hfad_5 1 (by decide))
    have hE2d_5 : (d_5.1 h0 2).toInt = (d_1.1 h0 2).toInt := congrArg Int32.toInt (hfad_5 2 (by decide))
    have hE3d_5 : (d_5.1 h0 3).toInt = (d_1.1 h0 3).toInt := congrArg Int32.toInt (hfad_5 3 (by decide))
    have hE63d_5 : (d_5.1 h0 63).toInt = (d_1.1 h0 63).toInt := congrArg Int32.toInt (hfad_5 63 (by decide))
    have hId_5 : yMI S d_5 h0 := yMI.ag hId_1 hSh hm_h0 hk_h0 hgad_5 hfad_5 (by decide) (by decide)
    have hgd_5 : yAg S [9, 69, 74, 75, 77, 78] d d_5 := yAg.tr hgd_1 hgad_5 (by first | decide | exact fun _ h => h)
    have hPod_5 : yPo S d_5 := hpad_5 hPod_1
    refine lv_pop hx hb dX9_check_28 rfl ?_
    refine lv_bipush (v := (-4)) hx hb dX9_check_29 (by decide) ?_
    exact W.iret (v := (-4)) hx hb hr (fun t ht hW => ⟨⟨(-4), d_5, rfl, ⟨hgd_5, (fun _ => hPod_5), hfd_5, hId_5⟩, by rw [ht]; exact hP, hD⟩, hS.F ht⟩) hS.2.2 dX9_check_31
  · refine lv_aload_n hx hb dX9_check_12 rfl (lv_at hl 0 rfl) ?_
    refine lv_aload_n hx hb dX9_check_13 rfl (lv_at hl 0 rfl) ?_
    refine yget (ci := 9) (k := 3) (v := .int (d_1.1 h0 3)) (C := RX9) (T := TX9) (N := 67) C0 hK hP hm_h0 hk_h0 (by decide) rfl inlX9 (by decide) mW106 (fun _ h9 => h9) rfl dX9_check_14 ?_
    refine lv_topi (fun z_6 ez_6 => ?_)
    refine yVri (As := [.int z_6]) (rest := []) C0 (g_X9_isOpen l G S d_1 h0 z_6 hSh hm_h0 hk_h0) ok_X9_isOpen (mW391 : Cond.methodLink RX9 157 yX9_isOpen ∈ wsT) ⟨Nat.le_of_ble_eq_true rfl, Nat.le_of_ble_eq_true rfl⟩ hP hD hK hN hm_h0 hk_h0 (by decide) rfl rfl rfl hl.1 rfl (Nat.le_of_ble_eq_true rfl) ⟨Nat.le_of_ble_eq_true rfl, Nat.le_of_ble_eq_true rfl⟩ dX9_check_17 (fun r_7 hr_7 => ?_)
    refine lv_if_ne (tgt := 32) hx hb dX9_check_20 (by decide) (fun c_8 => ?_) (fun c_8 => ?_)
    · refine lv_aload_n hx hb dX9_check_32 rfl (lv_at hl 0 rfl) ?_
      refine lv_aload_n hx hb dX9_check_33 rfl (lv_at hl 0 rfl) ?_
      refine yget (ci := 9) (k := 3) (v := .int (d_1.1 h0 3)) (C := RX9) (T := TX9) (N := 67) C0 hK hP hm_h0 hk_h0 (by decide) rfl inlX9 (by decide) mW106 (fun _ h9 => h9) rfl dX9_check_34 ?_
      refine lv_topi (fun z_9 ez_9 => ?_)
      refine lv_iconst (v := (-1)) hx hb dX9_check_37 (by decide) ?_
      refine lv_iconst (v := 0) hx hb dX9_check_38 (by decide) ?_
      refine lv_iconst (v := 0) hx hb dX9_check_39 (by decide) ?_
      refine lv_bipush (v := (-9)) hx hb dX9_check_40 (by decide) ?_
      refine yVwv (As := [.int z_9, .int (-1), .int 0, .int 0, .int (-9)]) (rest := []) C0 (g_X9_seek l G S d_1 h0 z_9 (-1) 0 0 (-9) hSh hPod_1 hm_h0 hk_h0 hId_1) ok_X9_seek (mW857 : Cond.methodLink RX9 340 yX9_seek ∈ wsT) ⟨Nat.le_of_ble_eq_true rfl, Nat.le_of_ble_eq_true rfl⟩ hP hD hS hA hK hN hm_h0 hk_h0 (by decide) rfl rfl rfl hl.1 rfl (Nat.le_of_ble_eq_true rfl) ⟨Nat.le_of_ble_eq_true rfl, Nat.le_of_ble_eq_true rfl⟩ dX9_check_42 (fun d_11 H locs hr_10 hP hD hS => ?_)
      obtain ⟨hgad_11, hpad_11, hfad_11, hxd_11⟩ := hr_10
      have hfd_11 : yK [38, 49, 50, 51, 52, 53, 54, 55, 57, 62, 63, 64, 65] d d_11 h0 := yK.tr hfd_1 hfad_11 (by decide)
      have hE0d_11 : (d_11.1 h0 0).toInt = (d_1.1 h0 0).toInt := congrArg Int32.toInt (hfad_11 0 (by decide))
      have hE1d_11 : (d_11.1 h0 1).toInt = (d_1.1 h0 1).toInt := congrArg Int32.toInt (hfad_11 1 (by decide))
      have hE2d_11 : (d_11.1 h0 2).toInt = (d_1.1 h0 2).toInt := congrArg Int32.toInt (hfad_11 2 (by decide))
      have hE3d_11 : (d_11.1 h0 3).toInt = (d_1.1 h0 3).toInt := congrArg Int32.toInt (hfad_11 3 (by decide))
      have hId_11 : yMI S d_11 h0 := hxd_11
      have hgd_11 : yAg S [9, 69, 74, 75, 77, 78] d d_11 := yAg.tr hgd_1 hgad_11 (by first | decide | exact fun _ h => h)
      have hPod_11 : yPo S d_11 := hpad_11 hPod_1
      refine lv_aload_n hx hb dX9_check_45 rfl (lv_at hl 0 rfl) ?_
      refine lv_aload_n hx hb dX9_check_46 rfl (lv_at hl 0 rfl) ?_
      refine yget (ci := 9) (k := 3) (v := .int (d_11.1 h0 3)) (C := RX9) (T := TX9) (N := 67) C0 hK hP hm_h0 hk_h0 (by decide) rfl inlX9 (by decide) mW106 (fun _ h9 => h9) rfl dX9_check_47 ?_
      refine lv_topi (fun z_12 ez_12 => ?_)
      refine lv_iload_n hx hb dX9_check_50 rfl (lv_at hl 2 rfl) ?_
      refine lv_iconst (v := (-1)) hx hb dX9_check_51 (by decide) ?_
      refine lv_iconst (v := (-1)) hx hb dX9_check_52 (by decide) ?_
      refine lv_iconst (v := (-1)) hx hb dX9_check_53 (by decide) ?_
      have T_13 : (z_2 : Int32).toInt = (d_1.1 h0 3).toInt := by rw [ez_2]
      have T_14 : (z_6 : Int32).toInt = (d_1.1 h0 3).toInt := by rw [ez_6]
      have T_15 : (z_9 : Int32).toInt = (d_1.1 h0 3).toInt := by rw [ez_9]
      have T_16 : (z_12 : Int32).toInt = (d_11.1 h0 3).toInt := by rw [ez_12]
      have F_17 := fnlt (rfl : (z_2 : Int32).toInt = (z_2 : Int32).toInt) (by decide +kernel : (0 : Int32).toInt = 0) c_3
      have F_18 := fne (rfl : (r_7 : Int32).toInt = (r_7 : Int32).toInt) (by decide +kernel : (0 : Int32).toInt = 0) c_8
      refine yVwv (As := [.int z_12, .int p1, .int (-1), .int (-1), .int (-1)]) (rest := []) C0 (g_X9_walk l G S d_11 h0 z_12 p1 (-1) (-1) (-1) hSh hPod_11 hm_h0 hk_h0 hId_11 (by refine ⟨?_, ?_⟩ <;> omega) (by decide +kernel) hz_p1) ok_X9_walk (mW869 : Cond.methodLink RX9 344 yX9_walk ∈ wsT) ⟨Nat.le_of_ble_eq_true rfl, Nat.le_of_ble_eq_true rfl⟩ hP hD hS hA hK hN hm_h0 hk_h0 (by decide) rfl rfl rfl hl.1 rfl (Nat.le_of_ble_eq_true rfl) ⟨Nat.le_of_ble_eq_true rfl, Nat.le_of_ble_eq_true rfl⟩ dX9_check_54 (fun d_20 H locs hr_19 hP hD hS => ?_)
      obtain ⟨hgad_20, hpad_20, hfad_20, hxd_20⟩ := hr_19
      have hfd_20 : yK [38, 49, 50, 51, 52, 53, 54, 55, 57, 62, 63, 64, 65] d d_20 h0 := yK.tr hfd_11 hfad_20 (by decide)
      have hE0d_20 : (d_20.1 h0 0).toInt = (d_11.1 h0 0).toInt := congrArg Int32.toInt (hfad_20 0 (by decide))
      have hE1d_20 : (d_20.1 h0 1).toInt = (d_11.1 h0 1).toInt := congrArg Int32.toInt (hfad_20 1 (by decide))
      have hE2d_20 : (d_20.1 h0 2).toInt = (d_11.1 h0 2).toInt := congrArg Int32.toInt (hfad_20 2 (by decide))
      have hE3d_20 : (d_20.1 h0 3).toInt = (d_11.1 h0 3).toInt := congrArg Int32.toInt (hfad_20 3 (by decide))
      have hId_20 : yMI S d_20 h0 := hxd_20
      have hgd_20 : yAg S [9, 69, 74, 75, 77, 78] d d_20 := yAg.tr hgd_11 hgad_20 (by first | decide | exact fun _ h => h)
      have hPod_20 : yPo S d_20 := hpad_20 hPod_11
      refine lv_aload_n hx hb dX9_check_57 rfl (lv_at hl 0 rfl) ?_
      refine yget (ci := 9) (k := 65) (v := .int (d_20.1 h0 65)) (C := RX9) (T := TX9) (N := 67) C0 hK hP hm_h0 hk_h0 (by decide) rfl inlX9 (by decide) mW868 (fun _ h9 => h9) rfl dX9_check_58 ?_
      refine lv_topi (fun z_21 ez_21 => ?_)
      refine lv_if_lt (tgt := 69) hx hb dX9_check_61 (by decide) (fun c_22 => ?_) (fun c_22 => ?_)
      · refine lv_aload_n hx hb dX9_check_69 rfl (lv_at hl 0 rfl) ?_
        refine yget (ci := 9) (k := 63) (v := .int (d_20.1 h0 63)) (C := RX9) (T := TX9) (N := 67) C0 hK hP hm_h0 hk_h0 (by decide) rfl inlX9 (by decide) mW866 (fun _ h9 => h9) rfl dX9_check_70 ?_
        refine lv_topi (fun z_23 ez_23 => ?_)
        refine lv_aload_n hx hb dX9_check_73 rfl (lv_at hl 0 rfl) ?_
        refine yget (ci := 9) (k := 2) (v := .int (d_20.1 h0 2)) (C := RX9) (T := TX9) (N := 67) C0 hK hP hm_h0 hk_h0 (by decide) rfl inlX9 (by decide) mW888 (fun _ h9 => h9) rfl dX9_check_74 ?_
        refine lv_topi (fun z_24 ez_24 => ?_)
        refine lv_icmp_ge (tgt := 104) hx hb dX9_check_77 (by decide) (fun c_25 => ?_) (fun c_25 => ?_)
        · refine lv_aload_n hx hb dX9_check_104 rfl (lv_at hl 0 rfl) ?_
          refine yget (ci := 9) (k := 66) (v := .long (d_20.2.1 h0 66)) (C := RX9) (T := TX9) (N := 67) C0 hK hP hm_h0 hk_h0 (by decide) rfl inlX9 (by decide) mW881 (fun _ h9 => h9) rfl dX9_check_105 ?_
          refine lv_topl (fun z_26 ez_26 => ?_)
          refine lv_iload_n hx hb dX9_check_108 rfl (lv_at hl 1 rfl) ?_
          refine lv_i2l hx hb dX9_check_109 rfl ?_
          refine lv_topl (fun z_27 ez_27 => ?_)
          refine W.lcmp hx hb dX9_check_110 ?_
          refine lv_topi (fun z_28 ez_28 => ?_)
          refine lv_if_ne (tgt := 118) hx hb dX9_check_111 (by decide) (fun c_29 => ?_) (fun c_29 => ?_)
          · refine lv_bipush (v := (-2)) hx hb dX9_check_118 (by decide) ?_
            exact W.iret (v := (-2)) hx hb hr (fun t ht hW => ⟨⟨(-2), d_20, rfl, ⟨hgd_20, (fun _ => hPod_20), hfd_20, hId_20⟩, by rw [ht]; exact hP, hD⟩, hS.F ht⟩) hS.2.2 dX9_check_120
          · refine lv_iconst (v := (-1)) hx hb dX9_check_114 (by decide) ?_
            refine lv_goto (tgt := 120) hx hb dX9_check_115 (by decide) ?_
            exact W.iret (v := (-1)) hx hb hr (fun t ht hW => ⟨⟨(-1), d_20, rfl, ⟨hgd_20, (fun _ => hPod_20), hfd_20, hId_20⟩, by rw [ht]; exact hP, hD⟩, hS.F ht⟩) hS.2.2 dX9_check_120
        · refine lv_aload_n hx hb dX9_check_80 rfl (lv_at hl 0 rfl) ?_
          refine lv_aload_n hx hb dX9_check_81 rfl (lv_at hl 0 rfl) ?_
          refine yget (ci := 9) (k := 3) (v := .int (d_20.1 h0 3)) (C := RX9) (T := TX9) (N := 67) C0 hK hP hm_h0 hk_h0 (by decide) rfl inlX9 (by decide) mW106 (fun _ h9 => h9) rfl dX9_check_82 ?_
          refine lv_topi (fun z_30 ez_30 => ?_)
          have T_31 : (z_23 : Int32).toInt = (d_20.1 h0 63).toInt := by rw [ez_23]
          have T_32 : (z_24 : Int32).toInt = (d_20.1 h0 2).toInt := by rw [ez_24]
          have T_33 : (z_30 : Int32).toInt = (d_20.1 h0 3).toInt := by rw [ez_30]
          have T_34 : (z_21 : Int32).toInt = (d_20.1 h0 65).toInt := by rw [ez_21]
          have F_35 := flt (rfl : (z_21 : Int32).toInt = (z_21 : Int32).toInt) (by decide +kernel : (0 : Int32).toInt = 0) c_22
          have F_36 := fnle (rfl : (z_24 : Int32).toInt = (z_24 : Int32).toInt) (rfl : (z_23 : Int32).toInt = (z_23 : Int32).toInt) c_25
          refine yVri (As := [.int z_30]) (rest := []) C0 (g_X9_doesCount l G S d_20 h0 z_30 hSh hm_h0 hk_h0 hId_20 (by refine ⟨?_, ?_⟩ <;> omega)) ok_X9_doesCount (mW643 : Cond.methodLink RX9 282 yX9_doesCount ∈ wsT) ⟨Nat.le_of_ble_eq_true rfl, Nat.le_of_ble_eq_true rfl⟩ hP hD hK hN hm_h0 hk_h0 (by decide) rfl rfl rfl hl.1 rfl (Nat.le_of_ble_eq_true rfl) ⟨Nat.le_of_ble_eq_true rfl, Nat.le_of_ble_eq_true rfl⟩ dX9_check_85 (fun r_37 hr_37 => ?_)
          refine lv_if_eq (tgt := 102) hx hb dX9_check_88 (by decide) (fun c_38 => ?_) (fun c_38 => ?_)
          · refine lv_iconst (v := 0) hx hb dX9_check_102 (by decide) ?_
            exact W.iret (v := 0) hx hb hr (fun t ht hW => ⟨⟨0, d_20, rfl, ⟨hgd_20, (fun _ => hPod_20), hfd_20, hId_20⟩, by rw [ht]; exact hP, hD⟩, hS.F ht⟩) hS.2.2 dX9_check_103
          · refine lv_aload_n hx hb dX9_check_91 rfl (lv_at hl 0 rfl) ?_
            refine lv_aload_n hx hb dX9_check_92 rfl (lv_at hl 0 rfl) ?_
            refine yget (ci := 9) (k := 3) (v := .int (d_20.1 h0 3)) (C := RX9) (T := TX9) (N := 67) C0 hK hP hm_h0 hk_h0 (by decide) rfl inlX9 (by decide) mW106 (fun _ h9 => h9) rfl dX9_check_93 ?_
            refine lv_topi (fun z_39 ez_39 => ?_)
            have T_40 : (z_39 : Int32).toInt = (d_20.1 h0 3).toInt := by rw [ez_39]
            have F_41 := fne (rfl : (r_37 : Int32).toInt = (r_37 : Int32).toInt) (by decide +kernel : (0 : Int32).toInt = 0) c_38
            refine yVri (As := [.int z_39]) (rest := []) C0 (g_X9_end l G S d_20 h0 z_39 hSh hm_h0 hk_h0 hId_20 (by refine ⟨?_, ?_⟩ <;> omega)) ok_X9_end (mW647 : Cond.methodLink RX9 291 yX9_end ∈ wsT) ⟨Nat.le_of_ble_eq_true rfl, Nat.le_of_ble_eq_true rfl⟩ hP hD hK hN hm_h0 hk_h0 (by decide) rfl rfl rfl hl.1 rfl (Nat.le_of_ble_eq_true rfl) ⟨Nat.le_of_ble_eq_true rfl, Nat.le_of_ble_eq_true rfl⟩ dX9_check_96 (fun r_42 hr_42 => ?_)
            refine lv_goto (tgt := 103) hx hb dX9_check_99 (by decide) ?_
            exact W.iret (v := r_42) hx hb hr (fun t ht hW => ⟨⟨r_42, d_20, rfl, ⟨hgd_20, (fun _ => hPod_20), hfd_20, hId_20⟩, by rw [ht]; exact hP, hD⟩, hS.F ht⟩) hS.2.2 dX9_check_103
      · refine lv_aload_n hx hb dX9_check_64 rfl (lv_at hl 0 rfl) ?_
        refine yget (ci := 9) (k := 65) (v := .int (d_20.1 h0 65)) (C := RX9) (T := TX9) (N := 67) C0 hK hP hm_h0 hk_h0 (by decide) rfl inlX9 (by decide) mW868 (fun _ h9 => h9) rfl dX9_check_65 ?_
        refine lv_topi (fun z_43 ez_43 => ?_)
        exact W.iret (v := z_43) hx hb hr (fun t ht hW => ⟨⟨z_43, d_20, rfl, ⟨hgd_20, (fun _ => hPod_20), hfd_20, hId_20⟩, by rw [ht]; exact hP, hD⟩, hS.F ht⟩) hS.2.2 dX9_check_68
    · refine lv_aload_n hx hb dX9_check_23 rfl (lv_at hl 0 rfl) ?_
      refine lv_iconst (v := 2) hx hb dX9_check_24 (by decide) ?_
      refine yVwi (As := [.int 2]) (rest := []) C0 (g_X9_no l G S d_1 h0 2 hSh hPod_1 hm_h0 hk_h0 (by decide +kernel)) ok_X9_no (mW177 : Cond.methodLink RX9 168 yX9_no ∈ wsT) ⟨Nat.le_of_ble_eq_true rfl, Nat.le_of_ble_eq_true rfl⟩ hP hD hS hA hK hN hm_h0 hk_h0 (by decide) rfl rfl rfl hl.1 rfl (Nat.le_of_ble_eq_true rfl) ⟨Nat.le_of_ble_eq_true rfl, Nat.le_of_ble_eq_true rfl⟩ dX9_check_25 (fun r_44 d_45 H locs hr_44 hP hD hS => ?_)
      obtain ⟨hgad_45, hpad_45, hfad_45, hxd_45⟩ := hr_44
      have hfd_45 : yK [38, 49, 50, 51, 52, 53, 54, 55, 57, 62, 63, 64, 65] d d_45 h0 := yK.tr hfd_1 hfad_45 (by decide)
      have hE0d_45 : (d_45.1 h0 0).toInt = (d_1.1 h0 0).toInt := congrArg Int32.toInt (hfad_45 0 (by decide))
      have hE1d_45 : (d_45.1 h0 1).toInt = (d_1.1 h0 1).toInt := congrArg Int32.toInt (hfad_45 1 (by decide))
      have hE2d_45 : (d_45.1 h0 2).toInt = (d_1.1 h0 2).toInt := congrArg Int32.toInt (hfad_45 2 (by decide))
      have hE3d_45 : (d_45.1 h0 3).toInt = (d_1.1 h0 3).toInt := congrArg Int32.toInt (hfad_45 3 (by decide))
      have hE63d_45 : (d_45.1 h0 63).toInt = (d_1.1 h0 63).toInt := congrArg Int32.toInt (hfad_45 63 (by decide))
      have hId_45 : yMI S d_45 h0 := yMI.ag hId_1 hSh hm_h0 hk_h0 hgad_45 hfad_45 (by decide) (by decide)
      have hgd_45 : yAg S [9, 69, 74, 75, 77, 78] d d_45 := yAg.tr hgd_1 hgad_45 (by first | decide | exact fun _ h => h)
      have hPod_45 : yPo S d_45 := hpad_45 hPod_1
      refine lv_pop hx hb dX9_check_28 rfl ?_
      refine lv_bipush (v := (-4)) hx hb dX9_check_29 (by decide) ?_
      exact W.iret (v := (-4)) hx hb hr (fun t ht hW => ⟨⟨(-4), d_45, rfl, ⟨hgd_45, (fun _ => hPod_45), hfd_45, hId_45⟩, by rw [ht]; exact hP, hD⟩, hS.F ht⟩) hS.2.2 dX9_check_31
