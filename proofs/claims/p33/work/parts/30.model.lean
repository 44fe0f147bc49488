theorem dX9_told_0 : decode cX9_told 0 = .ok (.aload_n 0, 1) := by decide +kernel
theorem dX9_told_1 : decode cX9_told 1 = .ok (.iconst 0, 1) := by decide +kernel
theorem dX9_told_2 : decode cX9_told 2 = .ok (.putfield 147, 3) := by decide +kernel
theorem dX9_told_5 : decode cX9_told 5 = .ok (.iload_n 2, 1) := by decide +kernel
theorem dX9_told_6 : decode cX9_told 6 = .ok (.ifCond .lt 9, 3) := by decide +kernel
theorem dX9_told_9 : decode cX9_told 9 = .ok (.iload_n 2, 1) := by decide +kernel
theorem dX9_told_10 : decode cX9_told 10 = .ok (.bipush 7, 2) := by decide +kernel
theorem dX9_told_12 : decode cX9_told 12 = .ok (.if_icmp .le 7, 3) := by decide +kernel
theorem dX9_told_15 : decode cX9_told 15 = .ok (.iconst 1, 1) := by decide +kernel
theorem dX9_told_16 : decode cX9_told 16 = .ok (.goto 8, 3) := by decide +kernel
theorem dX9_told_19 : decode cX9_told 19 = .ok (.aload_n 0, 1) := by decide +kernel
theorem dX9_told_20 : decode cX9_told 20 = .ok (.iload_n 1, 1) := by decide +kernel
theorem dX9_told_21 : decode cX9_told 21 = .ok (.invokevirtual 165, 3) := by decide +kernel
theorem dX9_told_24 : decode cX9_told 24 = .ok (.istore_n 3, 1) := by decide +kernel
theorem dX9_told_25 : decode cX9_told 25 = .ok (.iload_n 3, 1) := by decide +kernel
theorem dX9_told_26 : decode cX9_told 26 = .ok (.ifCond .eq 9, 3) := by decide +kernel
theorem dX9_told_29 : decode cX9_told 29 = .ok (.aload_n 0, 1) := by decide +kernel
theorem dX9_told_30 : decode cX9_told 30 = .ok (.iload_n 3, 1) := by decide +kernel
theorem dX9_told_31 : decode cX9_told 31 = .ok (.invokevirtual 168, 3) := by decide +kernel
theorem dX9_told_34 : decode cX9_told 34 = .ok (.ireturn, 1) := by decide +kernel
theorem dX9_told_35 : decode cX9_told 35 = .ok (.iload_n 2, 1) := by decide +kernel
theorem dX9_told_36 : decode cX9_told 36 = .ok (.tableswitch 103 0 6 #[44, 50, 56, 74, 84, 91, 97], 44) := by decide +kernel
theorem dX9_told_80 : decode cX9_told 80 = .ok (.aload_n 0, 1) := by decide +kernel
theorem dX9_told_81 : decode cX9_told 81 = .ok (.iload_n 1, 1) := by decide +kernel
theorem dX9_told_82 : decode cX9_told 82 = .ok (.invokevirtual 229, 3) := by decide +kernel
theorem dX9_told_85 : decode cX9_told 85 = .ok (.ireturn, 1) := by decide +kernel
theorem dX9_told_86 : decode cX9_told 86 = .ok (.aload_n 0, 1) := by decide +kernel
theorem dX9_told_87 : decode cX9_told 87 = .ok (.iload_n 1, 1) := by decide +kernel
theorem dX9_told_88 : decode cX9_told 88 = .ok (.invokevirtual 232, 3) := by decide +kernel
theorem dX9_told_91 : decode cX9_told 91 = .ok (.ireturn, 1) := by decide +kernel
theorem dX9_told_92 : decode cX9_told 92 = .ok (.aload_n 0, 1) := by decide +kernel
theorem dX9_told_93 : decode cX9_told 93 = .ok (.iload_n 1, 1) := by decide +kernel
theorem dX9_told_94 : decode cX9_told 94 = .ok (.invokevirtual 282, 3) := by decide +kernel
theorem dX9_told_97 : decode cX9_told 97 = .ok (.ifCond .eq 11, 3) := by decide +kernel
theorem dX9_told_100 : decode cX9_told 100 = .ok (.aload_n 0, 1) := by decide +kernel
theorem dX9_told_101 : decode cX9_told 101 = .ok (.iload_n 1, 1) := by decide +kernel
theorem dX9_told_102 : decode cX9_told 102 = .ok (.invokevirtual 291, 3) := by decide +kernel
theorem dX9_told_105 : decode cX9_told 105 = .ok (.goto 4, 3) := by decide +kernel
theorem dX9_told_108 : decode cX9_told 108 = .ok (.iconst (-1), 1) := by decide +kernel
theorem dX9_told_109 : decode cX9_told 109 = .ok (.ireturn, 1) := by decide +kernel
theorem dX9_told_110 : decode cX9_told 110 = .ok (.aload_n 0, 1) := by decide +kernel
theorem dX9_told_111 : decode cX9_told 111 = .ok (.iload_n 1, 1) := by decide +kernel
theorem dX9_told_112 : decode cX9_told 112 = .ok (.iconst (-1), 1) := by decide +kernel
theorem dX9_told_113 : decode cX9_told 113 = .ok (.iconst (-1), 1) := by decide +kernel
theorem dX9_told_114 : decode cX9_told 114 = .ok (.iconst (-1), 1) := by decide +kernel
theorem dX9_told_115 : decode cX9_told 115 = .ok (.invokevirtual 287, 3) := by decide +kernel
theorem dX9_told_118 : decode cX9_told 118 = .ok (.l2i, 1) := by decide +kernel
theorem dX9_told_119 : decode cX9_told 119 = .ok (.ireturn, 1) := by decide +kernel
theorem dX9_told_120 : decode cX9_told 120 = .ok (.aload_n 0, 1) := by decide +kernel
theorem dX9_told_121 : decode cX9_told 121 = .ok (.iload_n 1, 1) := by decide +kernel
theorem dX9_told_122 : decode cX9_told 122 = .ok (.iconst 2, 1) := by decide +kernel
theorem dX9_told_123 : decode cX9_told 123 = .ok (.invokevirtual 161, 3) := by decide +kernel
theorem dX9_told_126 : decode cX9_told 126 = .ok (.ireturn, 1) := by decide +kernel
theorem dX9_told_127 : decode cX9_told 127 = .ok (.aload_n 0, 1) := by decide +kernel
theorem dX9_told_128 : decode cX9_told 128 = .ok (.iload_n 1, 1) := by decide +kernel
theorem dX9_told_129 : decode cX9_told 129 = .ok (.invokevirtual 332, 3) := by decide +kernel
theorem dX9_told_132 : decode cX9_told 132 = .ok (.ireturn, 1) := by decide +kernel
theorem dX9_told_133 : decode cX9_told 133 = .ok (.aload_n 0, 1) := by decide +kernel
theorem dX9_told_134 : decode cX9_told 134 = .ok (.iload_n 1, 1) := by decide +kernel
theorem dX9_told_135 : decode cX9_told 135 = .ok (.invokevirtual 335, 3) := by decide +kernel
theorem dX9_told_138 : decode cX9_told 138 = .ok (.ireturn, 1) := by decide +kernel
theorem dX9_told_139 : decode cX9_told 139 = .ok (.aload_n 0, 1) := by decide +kernel
theorem dX9_told_140 : decode cX9_told 140 = .ok (.iload_n 1, 1) := by decide +kernel
theorem dX9_told_141 : decode cX9_told 141 = .ok (.iconst 1, 1) := by decide +kernel
theorem dX9_told_142 : decode cX9_told 142 = .ok (.invokevirtual 161, 3) := by decide +kernel
theorem dX9_told_145 : decode cX9_told 145 = .ok (.ireturn, 1) := by decide +kernel
set_option maxHeartbeats 4000000 in
set_option maxRecDepth 100000 in
theorem g_X9_told (l : Launch) (G : xG) (S : yS) (d : yD) (h0 : Nat) (p0 : Int32) (p1 : Int32) (hSh : ySh S) (hPo : yPo S d) (hm_h0 : h0 ∈ S.1) (hk_h0 : S.2.1 h0 = 9) (hI : yMI S d h0) : xWi l G yX9_told cX9_told 4 (some .int) 5 112 0 0 [.ref h0, .int p0, .int p1] (yW G S d) (fun r (u : yD) => yAg S [9, 69] d u ∧ (yPo S d → yPo S u) ∧ yK [38] d u h0 ∧ (yMI S u h0)) (fun u => yW G S u) := by
  intro sz
  refine xstart (by decide) (Nat.le_of_ble_eq_true rfl) (fun p e s m args below meth c ls C0 hr hlocks hin hsz hP hK hD hN hl => ?_)
  obtain ⟨hx, hb, hml, hown, htl⟩ := id C0
  subst hsz
  have hD := hD.self (sz := s.heap.size)
  generalize hAe : va_A (yW G S d) s.heap.size = A at hD ⊢
  have hA : ∀ q : Nat, s.heap.size ≤ q → A q := fun q h => by rw [← hAe]; exact Or.inr h
  have hS : va_S A s.heap s.heap [] := va_S.rf
  have hg0 : yAg S [9, 69] d d := yAg.rf
  have hl : lv_has ls 4 [(0, .ref h0), (1, .int p0), (2, .int p1)] := hl
  refine lv_aload_n hx hb dX9_told_0 rfl (lv_at hl 0 rfl) ?_
  refine lv_iconst (v := 0) hx hb dX9_told_1 (by decide) ?_
  refine yputI (ci := 9) (k := 38) (ty := .int) (C := RX9) (T := TX9) (N := 67) C0 hK hP hD hS hm_h0 hk_h0 (by decide) rfl inlX9 tyX9 tyX9_ok nmX9 (by decide) mW175 (fun _ h9 => h9) rfl (by decide +kernel) rfl rfl (Nat.le_of_ble_eq_true rfl) ysi_9_38 dX9_told_2 (fun H locs hP hD hS => ?_)
  obtain ⟨d_1, ed_1⟩ : ∃ z : yD, z = yi d h0 38 0 := ⟨_, rfl⟩
  rw [← ed_1] at hP hD
  have hgd_1 : yAg S [9, 69] d d_1 := by rw [ed_1]; exact yAg.i hg0 (by rw [hk_h0]; decide)
  have hPod_1 : yPo S d_1 := by rw [ed_1]; exact yPo.i hPo hk_h0 (Or.inl rfl)
  have hfd_1 : yK [38] d d_1 h0 := by rw [ed_1]; exact yK.i yK.rf (by decide)
  have hId_1 : yMI S d_1 h0 := yMI.ag hI hSh hm_h0 hk_h0 (show yAg S [9] d d_1 from by rw [ed_1]; exact yAg.i yAg.rf (by rw [hk_h0]; decide)) (show yK [38] d d_1 h0 from by rw [ed_1]; exact yK.i yK.rf (by decide)) (by decide) (by decide)
  have hE0d_1 : (d_1.1 h0 0).toInt = (d.1 h0 0).toInt := congrArg Int32.toInt ((show yK [38] d d_1 h0 from by rw [ed_1]; exact yK.i yK.rf (by decide)) 0 (by decide))
  have hE1d_1 : (d_1.1 h0 1).toInt = (d.1 h0 1).toInt := congrArg Int32.toInt ((show yK [38] d d_1 h0 from by rw [ed_1]; exact yK.i yK.rf (by decide)) 1 (by decide))
  have hE2d_1 : (d_1.1 h0 2).toInt = (d.1 h0 2).toInt := congrArg Int32.toInt ((show yK [38] d d_1 h0 from by rw [ed_1]; exact yK.i yK.rf (by decide)) 2 (by decide))
  have hE3d_1 : (d_1.1 h0 3).toInt = (d.1 h0 3).toInt := congrArg Int32.toInt ((show yK [38] d d_1 h0 from by rw [ed_1]; exact yK.i yK.rf (by decide)) 3 (by decide))
  have hE63d_1 : (d_1.1 h0 63).toInt = (d.1 h0 63).toInt := congrArg Int32.toInt ((show yK [38] d d_1 h0 from by rw [ed_1]; exact yK.i yK.rf (by decide)) 63 (by decide))
  refine lv_iload_n hx hb dX9_told_5 rfl (lv_at hl 2 rfl) ?_
  refine lv_if_lt (tgt := 15) hx hb dX9_told_6 (by decide) (fun c_2 => ?_) (fun c_2 => ?_)
  · refine lv_iconst (v := 1) hx hb dX9_told_15 (by decide) ?_
    refine lv_goto (tgt := 24) hx hb dX9_told_16 (by decide) ?_
    refine lv_istore_n (lv' := [(3, .int 1), (0, .ref h0), (1, .int p0), (2, .int p1)]) hx hb dX9_told_24 rfl hl (by decide) rfl (fun ls hl => ?_)
    refine lv_iload_n hx hb dX9_told_25 rfl (lv_at hl 0 rfl) ?_
    refine lv_if_eq (tgt := 35) hx hb dX9_told_26 (by decide) (fun c_3 => absurd c_3 (by decide +kernel)) (fun c_3 => ?_)
    refine lv_aload_n hx hb dX9_told_29 rfl (lv_at hl 1 rfl) ?_
    refine lv_iload_n hx hb dX9_told_30 rfl (lv_at hl 0 rfl) ?_
    refine yVwi (As := [.int 1]) (rest := []) C0 (g_X9_no l G S d_1 h0 1 hSh hPod_1 hm_h0 hk_h0 (by decide +kernel)) ok_X9_no (mW177 : Cond.methodLink RX9 168 yX9_no ∈ wsT) ⟨Nat.le_of_ble_eq_true rfl, Nat.le_of_ble_eq_true rfl⟩ hP hD hS hA hK hN hm_h0 hk_h0 (by decide) rfl rfl rfl hl.1 rfl (Nat.le_of_ble_eq_true rfl) ⟨Nat.le_of_ble_eq_true rfl, Nat.le_of_ble_eq_true rfl⟩ dX9_told_31 (fun r_4 d_5 H locs hr_4 hP hD hS => ?_)
    obtain ⟨hgad_5, hpad_5, hfad_5, hxd_5⟩ := hr_4
    have hfd_5 : yK [38] d d_5 h0 := yK.tr hfd_1 hfad_5 (by decide)
    have hE0d_5 : (d_5.1 h0 0).toInt = (d_1.1 h0 0).toInt := congrArg Int32.toInt (hfad_5 0 (by decide))
    have hE1d_5 : (d_5.1 h0 1).toInt = (d_1.1 h0 1).toInt := congrArg Int32.toInt (hfad_5 1 (by decide))
    have hE2d_5 : (d_5.1 h0 2).toInt = (d_1.1 h0 2).toInt := congrArg Int32.toInt (hfad_5 2 (by decide))
    have hE3d_5 : (d_5.1 h0 3).toInt = (d_1.1 h0 3).toInt := congrArg Int32.toInt (hfad_5 3 (by decide))
    have hE63d_5 : (d_5.1 h0 63).toInt = (d_1.1 h0 63).toInt := congrArg Int32.toInt (hfad_5 63 (by decide))
    have hId_5 : yMI S d_5 h0 := yMI.ag hId_1 hSh hm_h0 hk_h0 hgad_5 hfad_5 (by decide) (by decide)
    have hgd_5 : yAg S [9, 69] d d_5 := yAg.tr hgd_1 hgad_5 (by first | decide | exact fun _ h => h)
    have hPod_5 : yPo S d_5 := hpad_5 hPod_1
    exact W.iret (v := r_4) hx hb hr (fun t ht hW => ⟨⟨r_4, d_5, rfl, ⟨hgd_5, (fun _ => hPod_5), hfd_5, hId_5⟩, by rw [ht]; exact hP, hD⟩, hS.F ht⟩) hS.2.2 dX9_told_34
  · refine lv_iload_n hx hb dX9_told_9 rfl (lv_at hl 2 rfl) ?_
    refine lv_bipush (v := 7) hx hb dX9_told_10 (by decide) ?_
    refine lv_icmp_le (tgt := 19) hx hb dX9_told_12 (by decide) (fun c_6 => ?_) (fun c_6 => ?_)
    · refine lv_aload_n hx hb dX9_told_19 rfl (lv_at hl 0 rfl) ?_
      refine lv_iload_n hx hb dX9_told_20 rfl (lv_at hl 1 rfl) ?_
      refine yVri (As := [.int p0]) (rest := []) C0 (g_X9_portWhy l G S d_1 h0 p0 hSh hm_h0 hk_h0) ok_X9_portWhy (mW387 : Cond.methodLink RX9 165 yX9_portWhy ∈ wsT) ⟨Nat.le_of_ble_eq_true rfl, Nat.le_of_ble_eq_true rfl⟩ hP hD hK hN hm_h0 hk_h0 (by decide) rfl rfl rfl hl.1 rfl (Nat.le_of_ble_eq_true rfl) ⟨Nat.le_of_ble_eq_true rfl, Nat.le_of_ble_eq_true rfl⟩ dX9_told_21 (fun r_7 hr_7 => ?_)
      refine lv_istore_n (lv' := [(3, .int r_7), (0, .ref h0), (1, .int p0), (2, .int p1)]) hx hb dX9_told_24 rfl hl (by decide) rfl (fun ls hl => ?_)
      refine lv_iload_n hx hb dX9_told_25 rfl (lv_at hl 0 rfl) ?_
      refine lv_if_eq (tgt := 35) hx hb dX9_told_26 (by decide) (fun c_8 => ?_) (fun c_8 => ?_)
      · refine lv_iload_n hx hb dX9_told_35 rfl (lv_at hl 3 rfl) ?_
        rcases xtab p1 7 (by decide) with hsw_9 | ⟨k_10, hk_10, hsw_9⟩
        · refine lv_tableOut (tgt := 139) hx hb dX9_told_36 (by omega) (by decide) ?_
          refine lv_aload_n hx hb dX9_told_139 rfl (lv_at hl 1 rfl) ?_
          refine lv_iload_n hx hb dX9_told_140 rfl (lv_at hl 2 rfl) ?_
          refine lv_iconst (v := 1) hx hb dX9_told_141 (by decide) ?_
          have F_11 := fnlt (rfl : (p1 : Int32).toInt = (p1 : Int32).toInt) (by decide +kernel : (0 : Int32).toInt = 0) c_2
          have F_12 := fle (rfl : (p1 : Int32).toInt = (p1 : Int32).toInt) (by decide +kernel : (7 : Int32).toInt = 7) c_6
          have F_13 := feq (rfl : (r_7 : Int32).toInt = (r_7 : Int32).toInt) (by decide +kernel : (0 : Int32).toInt = 0) c_8
          refine yVri (As := [.int p0, .int 1]) (rest := []) C0 (g_X9_of l G S d_1 h0 p0 1 hSh hm_h0 hk_h0 (by refine ⟨?_, ?_⟩ <;> omega) (by decide +kernel)) ok_X9_of (mW425 : Cond.methodLink RX9 161 yX9_of ∈ wsT) ⟨Nat.le_of_ble_eq_true rfl, Nat.le_of_ble_eq_true rfl⟩ hP hD hK hN hm_h0 hk_h0 (by decide) rfl rfl rfl hl.1 rfl (Nat.le_of_ble_eq_true rfl) ⟨Nat.le_of_ble_eq_true rfl, Nat.le_of_ble_eq_true rfl⟩ dX9_told_142 (fun r_14 hr_14 => ?_)
          have hOr_14 : (r_14 : Int32).toInt = yOf S d_1 h0 (p0 : Int32).toInt.toNat 1 := by rw [hr_14, show (1 : Int32).toInt.toNat = 1 by decide +kernel]; rfl
          have hCC_15 := yMI.c hId_1
          have hbr_14 := xof1 hId_1 (p := p0) (by refine ⟨?_, ?_⟩ <;> omega) hr_14
          exact W.iret (v := r_14) hx hb hr (fun t ht hW => ⟨⟨r_14, d_1, rfl, ⟨hgd_1, (fun _ => hPod_1), hfd_1, hId_1⟩, by rw [ht]; exact hP, hD⟩, hS.F ht⟩) hS.2.2 dX9_told_145
        · obtain rfl | rfl | rfl | rfl | rfl | rfl | rfl : k_10 = 0 ∨ k_10 = 1 ∨ k_10 = 2 ∨ k_10 = 3 ∨ k_10 = 4 ∨ k_10 = 5 ∨ k_10 = 6 := by omega
          · subst hsw_9
            refine lv_tableIn (tgt := 80) (off := 44) hx hb dX9_told_36 (by decide +kernel) (by decide +kernel) (by decide +kernel) (by decide) ?_
            refine lv_aload_n hx hb dX9_told_80 rfl (lv_at hl 1 rfl) ?_
            refine lv_iload_n hx hb dX9_told_81 rfl (lv_at hl 2 rfl) ?_
            have F_16 := feq (rfl : (r_7 : Int32).toInt = (r_7 : Int32).toInt) (by decide +kernel : (0 : Int32).toInt = 0) c_8
            refine yVri (As := [.int p0]) (rest := []) C0 (g_X9_good l G S d_1 h0 p0 hSh hm_h0 hk_h0 hId_1 (by refine ⟨?_, ?_⟩ <;> omega)) ok_X9_good (mW627 : Cond.methodLink RX9 229 yX9_good ∈ wsT) ⟨Nat.le_of_ble_eq_true rfl, Nat.le_of_ble_eq_true rfl⟩ hP hD hK hN hm_h0 hk_h0 (by decide) rfl rfl rfl hl.1 rfl (Nat.le_of_ble_eq_true rfl) ⟨Nat.le_of_ble_eq_true rfl, Nat.le_of_ble_eq_true rfl⟩ dX9_told_82 (fun r_17 hr_17 => ?_)
            exact W.iret (v := r_17) hx hb hr (fun t ht hW => ⟨⟨r_17, d_1, rfl, ⟨hgd_1, (fun _ => hPod_1), hfd_1, hId_1⟩, by rw [ht]; exact hP, hD⟩, hS.F ht⟩) hS.2.2 dX9_told_85
          · subst hsw_9
            refine lv_tableIn (tgt := 86) (off := 50) hx hb dX9_told_36 (by decide +kernel) (by decide +kernel) (by decide +kernel) (by decide) ?_
            refine lv_aload_n hx hb dX9_told_86 rfl (lv_at hl 1 rfl) ?_
            refine lv_iload_n hx hb dX9_told_87 rfl (lv_at hl 2 rfl) ?_
            have F_18 := feq (rfl : (r_7 : Int32).toInt = (r_7 : Int32).toInt) (by decide +kernel : (0 : Int32).toInt = 0) c_8
            refine yVri (As := [.int p0]) (rest := []) C0 (g_X9_begin l G S d_1 h0 p0 hSh hm_h0 hk_h0 hId_1 (by refine ⟨?_, ?_⟩ <;> omega)) ok_X9_begin (mW639 : Cond.methodLink RX9 232 yX9_begin ∈ wsT) ⟨Nat.le_of_ble_eq_true rfl, Nat.le_of_ble_eq_true rfl⟩ hP hD hK hN hm_h0 hk_h0 (by decide) rfl rfl rfl hl.1 rfl (Nat.le_of_ble_eq_true rfl) ⟨Nat.le_of_ble_eq_true rfl, Nat.le_of_ble_eq_true rfl⟩ dX9_told_88 (fun r_19 hr_19 => ?_)
            exact W.iret (v := r_19) hx hb hr (fun t ht hW => ⟨⟨r_19, d_1, rfl, ⟨hgd_1, (fun _ => hPod_1), hfd_1, hId_1⟩, by rw [ht]; exact hP, hD⟩, hS.F ht⟩) hS.2.2 dX9_told_91
          · subst hsw_9
            refine lv_tableIn (tgt := 92) (off := 56) hx hb dX9_told_36 (by decide +kernel) (by decide +kernel) (by decide +kernel) (by decide) ?_
            refine lv_aload_n hx hb dX9_told_92 rfl (lv_at hl 1 rfl) ?_
            refine lv_iload_n hx hb dX9_told_93 rfl (lv_at hl 2 rfl) ?_
            have F_20 := feq (rfl : (r_7 : Int32).toInt = (r_7 : Int32).toInt) (by decide +kernel : (0 : Int32).toInt = 0) c_8
            refine yVri (As := [.int p0]) (rest := []) C0 (g_X9_doesCount l G S d_1 h0 p0 hSh hm_h0 hk_h0 hId_1 (by refine ⟨?_, ?_⟩ <;> omega)) ok_X9_doesCount (mW643 : Cond.methodLink RX9 282 yX9_doesCount ∈ wsT) ⟨Nat.le_of_ble_eq_true rfl, Nat.le_of_ble_eq_true rfl⟩ hP hD hK hN hm_h0 hk_h0 (by decide) rfl rfl rfl hl.1 rfl (Nat.le_of_ble_eq_true rfl) ⟨Nat.le_of_ble_eq_true rfl, Nat.le_of_ble_eq_true rfl⟩ dX9_told_94 (fun r_21 hr_21 => ?_)
            refine lv_if_eq (tgt := 108) hx hb dX9_told_97 (by decide) (fun c_22 => ?_) (fun c_22 => ?_)
            · refine lv_iconst (v := (-1)) hx hb dX9_told_108 (by decide) ?_
              exact W.iret (v := (-1)) hx hb hr (fun t ht hW => ⟨⟨(-1), d_1, rfl, ⟨hgd_1, (fun _ => hPod_1), hfd_1, hId_1⟩, by rw [ht]; exact hP, hD⟩, hS.F ht⟩) hS.2.2 dX9_told_109
            · refine lv_aload_n hx hb dX9_told_100 rfl (lv_at hl 1 rfl) ?_
              refine lv_iload_n hx hb dX9_told_101 rfl (lv_at hl 2 rfl) ?_
              have F_23 := fne (rfl : (r_21 : Int32).toInt = (r_21 : Int32).toInt) (by decide +kernel : (0 : Int32).toInt = 0) c_22
              refine yVri (As := [.int p0]) (rest := []) C0 (g_X9_end l G S d_1 h0 p0 hSh hm_h0 hk_h0 hId_1 (by refine ⟨?_, ?_⟩ <;> omega)) ok_X9_end (mW647 : Cond.methodLink RX9 291 yX9_end ∈ wsT) ⟨Nat.le_of_ble_eq_true rfl, Nat.le_of_ble_eq_true rfl⟩ hP hD hK hN hm_h0 hk_h0 (by decide) rfl rfl rfl hl.1 rfl (Nat.le_of_ble_eq_true rfl) ⟨Nat.le_of_ble_eq_true rfl, Nat.le_of_ble_eq_true rfl⟩ dX9_told_102 (fun r_24 hr_24 => ?_)
              refine lv_goto (tgt := 109) hx hb dX9_told_105 (by decide) ?_
              exact W.iret (v := r_24) hx hb hr (fun t ht hW => ⟨⟨r_24, d_1, rfl, ⟨hgd_1, (fun _ => hPod_1), hfd_1, hId_1⟩, by rw [ht]; exact hP, hD⟩, hS.F ht⟩) hS.2.2 dX9_told_109
          · subst hsw_9
            refine lv_tableIn (tgt := 110) (off := 74) hx hb dX9_told_36 (by decide +kernel) (by decide +kernel) (by decide +kernel) (by decide) ?_
            refine lv_aload_n hx hb dX9_told_110 rfl (lv_at hl 1 rfl) ?_
            refine lv_iload_n hx hb dX9_told_111 rfl (lv_at hl 2 rfl) ?_
            refine lv_iconst (v := (-1)) hx hb dX9_told_112 (by decide) ?_
            refine lv_iconst (v := (-1)) hx hb dX9_told_113 (by decide) ?_
            refine lv_iconst (v := (-1)) hx hb dX9_told_114 (by decide) ?_
            have F_25 := feq (rfl : (r_7 : Int32).toInt = (r_7 : Int32).toInt) (by decide +kernel : (0 : Int32).toInt = 0) c_8
            refine yVrl (As := [.int p0, .int (-1), .int (-1), .int (-1)]) (rest := []) C0 (g_X9_allowed l G S d_1 h0 p0 (-1) (-1) (-1) hSh hm_h0 hk_h0 hId_1 (by refine ⟨?_, ?_⟩ <;> omega) (by decide +kernel)) ok_X9_allowed (mW651 : Cond.methodLink RX9 287 yX9_allowed ∈ wsT) ⟨Nat.le_of_ble_eq_true rfl, Nat.le_of_ble_eq_true rfl⟩ hP hD hK hN hm_h0 hk_h0 (by decide) rfl rfl rfl hl.1 rfl (Nat.le_of_ble_eq_true rfl) ⟨Nat.le_of_ble_eq_true rfl, Nat.le_of_ble_eq_true rfl⟩ dX9_told_115 (fun r_26 hr_26 => ?_)
            refine lv_l2i hx hb dX9_told_118 rfl ?_
            refine lv_topi (fun z_27 ez_27 => ?_)
            exact W.iret (v := z_27) hx hb hr (fun t ht hW => ⟨⟨z_27, d_1, rfl, ⟨hgd_1, (fun _ => hPod_1), hfd_1, hId_1⟩, by rw [ht]; exact hP, hD⟩, hS.F ht⟩) hS.2.2 dX9_told_119
          · subst hsw_9
            refine lv_tableIn (tgt := 120) (off := 84) hx hb dX9_told_36 (by decide +kernel) (by decide +kernel) (by decide +kernel) (by decide) ?_
            refine lv_aload_n hx hb dX9_told_120 rfl (lv_at hl 1 rfl) ?_
            refine lv_iload_n hx hb dX9_told_121 rfl (lv_at hl 2 rfl) ?_
            refine lv_iconst (v := 2) hx hb dX9_told_122 (by decide) ?_
            have F_28 := feq (rfl : (r_7 : Int32).toInt = (r_7 : Int32).toInt) (by decide +kernel : (0 : Int32).toInt = 0) c_8
            refine yVri (As := [.int p0, .int 2]) (rest := []) C0 (g_X9_of l G S d_1 h0 p0 2 hSh hm_h0 hk_h0 (by refine ⟨?_, ?_⟩ <;> omega) (by decide +kernel)) ok_X9_of (mW425 : Cond.methodLink RX9 161 yX9_of ∈ wsT) ⟨Nat.le_of_ble_eq_true rfl, Nat.le_of_ble_eq_true rfl⟩ hP hD hK hN hm_h0 hk_h0 (by decide) rfl rfl rfl hl.1 rfl (Nat.le_of_ble_eq_true rfl) ⟨Nat.le_of_ble_eq_true rfl, Nat.le_of_ble_eq_true rfl⟩ dX9_told_123 (fun r_29 hr_29 => ?_)
            have hOr_29 : (r_29 : Int32).toInt = yOf S d_1 h0 (p0 : Int32).toInt.toNat 2 := by rw [hr_29, show (2 : Int32).toInt.toNat = 2 by decide +kernel]; rfl
            have hCC_30 := yMI.c hId_1
            have hbr_29 := xof2 hId_1 (p := p0) (by refine ⟨?_, ?_⟩ <;> omega) hr_29
            exact W.iret (v := r_29) hx hb hr (fun t ht hW => ⟨⟨r_29, d_1, rfl, ⟨hgd_1, (fun _ => hPod_1), hfd_1, hId_1⟩, by rw [ht]; exact hP, hD⟩, hS.F ht⟩) hS.2.2 dX9_told_126
          · subst hsw_9
            refine lv_tableIn (tgt := 127) (off := 91) hx hb dX9_told_36 (by decide +kernel) (by decide +kernel) (by decide +kernel) (by decide) ?_
            refine lv_aload_n hx hb dX9_told_127 rfl (lv_at hl 1 rfl) ?_
            refine lv_iload_n hx hb dX9_told_128 rfl (lv_at hl 2 rfl) ?_
            refine yVri (As := [.int p0]) (rest := []) C0 (g_X9_many l G S d_1 h0 p0 hSh hm_h0 hk_h0 hId_1) ok_X9_many (mW657 : Cond.methodLink RX9 332 yX9_many ∈ wsT) ⟨Nat.le_of_ble_eq_true rfl, Nat.le_of_ble_eq_true rfl⟩ hP hD hK hN hm_h0 hk_h0 (by decide) rfl rfl rfl hl.1 rfl (Nat.le_of_ble_eq_true rfl) ⟨Nat.le_of_ble_eq_true rfl, Nat.le_of_ble_eq_true rfl⟩ dX9_told_129 (fun r_31 hr_31 => ?_)
            exact W.iret (v := r_31) hx hb hr (fun t ht hW => ⟨⟨r_31, d_1, rfl, ⟨hgd_1, (fun _ => hPod_1), hfd_1, hId_1⟩, by rw [ht]; exact hP, hD⟩, hS.F ht⟩) hS.2.2 dX9_told_132
          · subst hsw_9
            refine lv_tableIn (tgt := 133) (off := 97) hx hb dX9_told_36 (by decide +kernel) (by decide +kernel) (by decide +kernel) (by decide) ?_
            refine lv_aload_n hx hb dX9_told_133 rfl (lv_at hl 1 rfl) ?_
            refine lv_iload_n hx hb dX9_told_134 rfl (lv_at hl 2 rfl) ?_
            have F_32 := feq (rfl : (r_7 : Int32).toInt = (r_7 : Int32).toInt) (by decide +kernel : (0 : Int32).toInt = 0) c_8
            refine yVri (As := [.int p0]) (rest := []) C0 (g_X9_unknown l G S d_1 h0 p0 hSh hm_h0 hk_h0 hId_1 (by refine ⟨?_, ?_⟩ <;> omega)) ok_X9_unknown (mW661 : Cond.methodLink RX9 335 yX9_unknown ∈ wsT) ⟨Nat.le_of_ble_eq_true rfl, Nat.le_of_ble_eq_true rfl⟩ hP hD hK hN hm_h0 hk_h0 (by decide) rfl rfl rfl hl.1 rfl (Nat.le_of_ble_eq_true rfl) ⟨Nat.le_of_ble_eq_true rfl, Nat.le_of_ble_eq_true rfl⟩ dX9_told_135 (fun r_33 hr_33 => ?_)
            exact W.iret (v := r_33) hx hb hr (fun t ht hW => ⟨⟨r_33, d_1, rfl, ⟨hgd_1, (fun _ => hPod_1), hfd_1, hId_1⟩, by rw [ht]; exact hP, hD⟩, hS.F ht⟩) hS.2.2 dX9_told_138
      · refine lv_aload_n hx hb dX9_told_29 rfl (lv_at hl 1 rfl) ?_
        refine lv_iload_n hx hb dX9_told_30 rfl (lv_at hl 0 rfl) ?_
        have F_34 := fnlt (rfl : (p1 : Int32).toInt = (p1 : Int32).toInt) (by decide +kernel : (0 : Int32).toInt = 0) c_2
        have F_35 := fle (rfl : (p1 : Int32).toInt = (p1 : Int32).toInt) (by decide +kernel : (7 : Int32).toInt = 7) c_6
        have F_36 := fne (rfl : (r_7 : Int32).toInt = (r_7 : Int32).toInt) (by decide +kernel : (0 : Int32).toInt = 0) c_8
        refine yVwi (As := [.int r_7]) (rest := []) C0 (g_X9_no l G S d_1 h0 r_7 hSh hPod_1 hm_h0 hk_h0 (by refine ⟨?_, ?_⟩ <;> omega)) ok_X9_no (mW177 : Cond.methodLink RX9 168 yX9_no ∈ wsT) ⟨Nat.le_of_ble_eq_true rfl, Nat.le_of_ble_eq_true rfl⟩ hP hD hS hA hK hN hm_h0 hk_h0 (by decide) rfl rfl rfl hl.1 rfl (Nat.le_of_ble_eq_true rfl) ⟨Nat.le_of_ble_eq_true rfl, Nat.le_of_ble_eq_true rfl⟩ dX9_told_31 (fun r_37 d_38 H locs hr_37 hP hD hS => ?_)
        obtain ⟨hgad_38, hpad_38, hfad_38, hxd_38⟩ := hr_37
        have hfd_38 : yK [38] d d_38 h0 := yK.tr hfd_1 hfad_38 (by decide)
        have hE0d_38 : (d_38.1 h0 0).toInt = (d_1.1 h0 0).toInt := congrArg Int32.toInt (hfad_38 0 (by decide))
        have hE1d_38 : (d_38.1 h0 1).toInt = (d_1.1 h0 1).toInt := congrArg Int32.toInt (hfad_38 1 (by decide))
        have hE2d_38 : (d_38.1 h0 2).toInt = (d_1.1 h0 2).toInt := congrArg Int32.toInt (hfad_38 2 (by decide))
        have hE3d_38 : (d_38.1 h0 3).toInt = (d_1.1 h0 3).toInt := congrArg Int32.toInt (hfad_38 3 (by decide))
        have hE63d_38 : (d_38.1 h0 63).toInt = (d_1.1 h0 63).toInt := congrArg Int32.toInt (hfad_38 63 (by decide))
        have hId_38 : yMI S d_38 h0 := yMI.ag hId_1 hSh hm_h0 hk_h0 hgad_38 hfad_38 (by decide) (by decide)
        have hgd_38 : yAg S [9, 69] d d_38 := yAg.tr hgd_1 hgad_38 (by first | decide | exact fun _ h => h)
        have hPod_38 : yPo S d_38 := hpad_38 hPod_1
        exact W.iret (v := r_37) hx hb hr (fun t ht hW => ⟨⟨r_37, d_38, rfl, ⟨hgd_38, (fun _ => hPod_38), hfd_38, hId_38⟩, by rw [ht]; exact hP, hD⟩, hS.F ht⟩) hS.2.2 dX9_told_34
    · refine lv_iconst (v := 1) hx hb dX9_told_15 (by decide) ?_
      refine lv_goto (tgt := 24) hx hb dX9_told_16 (by decide) ?_
      refine lv_istore_n (lv' := [(3, .int 1), (0, .ref h0), (1, .int p0), (2, .int p1)]) hx hb dX9_told_24 rfl hl (by decide) rfl (fun ls hl => ?_)
      refine lv_iload_n hx hb dX9_told_25 rfl (lv_at hl 0 rfl) ?_
      refine lv_if_eq (tgt := 35) hx hb dX9_told_26 (by decide) (fun c_39 => absurd c_39 (by decide +kernel)) (fun c_39 => ?_)
      refine lv_aload_n hx hb dX9_told_29 rfl (lv_at hl 1 rfl) ?_
      refine lv_iload_n hx hb dX9_told_30 rfl (lv_at hl 0 rfl) ?_
      refine yVwi (As := [.int 1]) (rest := []) C0 (g_X9_no l G S d_1 h0 1 hSh hPod_1 hm_h0 hk_h0 (by decide +kernel)) ok_X9_no (mW177 : Cond.methodLink RX9 168 yX9_no ∈ wsT) ⟨Nat.le_of_ble_eq_true rfl, Nat.le_of_ble_eq_true rfl⟩ hP hD hS hA hK hN hm_h0 hk_h0 (by decide) rfl rfl rfl hl.1 rfl (Nat.le_of_ble_eq_true rfl) ⟨Nat.le_of_ble_eq_true rfl, Nat.le_of_ble_eq_true rfl⟩ dX9_told_31 (fun r_40 d_41 H locs hr_40 hP hD hS => ?_)
      obtain ⟨hgad_41, hpad_41, hfad_41, hxd_41⟩ := hr_40
      have hfd_41 : yK [38] d d_41 h0 := yK.tr hfd_1 hfad_41 (by decide)
      have hE0d_41 : (d_41.1 h0 0).toInt = (d_1.1 h0 0).toInt := congrArg Int32.toInt (hfad_41 0 (by decide))
      have hE1d_41 : (d_41.1 h0 1).toInt = (d_1.1 h0 1).toInt := congrArg Int32.toInt (hfad_41 1 (by decide))
      have hE2d_41 : (d_41.1 h0 2).toInt = (d_1.1 h0 2).toInt := congrArg Int32.toInt (hfad_41 2 (by decide))
      have hE3d_41 : (d_41.1 h0 3).toInt = (d_1.1 h0 3).toInt := congrArg Int32.toInt (hfad_41 3 (by decide))
      have hE63d_41 : (d_41.1 h0 63).toInt = (d_1.1 h0 63).toInt := congrArg Int32.toInt (hfad_41 63 (by decide))
      have hId_41 : yMI S d_41 h0 := yMI.ag hId_1 hSh hm_h0 hk_h0 hgad_41 hfad_41 (by decide) (by decide)
      have hgd_41 : yAg S [9, 69] d d_41 := yAg.tr hgd_1 hgad_41 (by first | decide | exact fun _ h => h)
      have hPod_41 : yPo S d_41 := hpad_41 hPod_1
      exact W.iret (v := r_40) hx hb hr (fun t ht hW => ⟨⟨r_40, d_41, rfl, ⟨hgd_41, (fun _ => hPod_41), hfd_41, hId_41⟩, by rw [ht]; exact hP, hD⟩, hS.F ht⟩) hS.2.2 dX9_told_34
theorem dX9_minute_0 : decode cX9_minute 0 = .ok (.aload_n 0, 1) := by decide +kernel
theorem dX9_minute_1 : decode cX9_minute 1 = .ok (.iconst 0, 1) := by decide +kernel
theorem dX9_minute_2 : decode cX9_minute 2 = .ok (.putfield 147, 3) := by decide +kernel
theorem dX9_minute_5 : decode cX9_minute 5 = .ok (.aload_n 0, 1) := by decide +kernel
theorem dX9_minute_6 : decode cX9_minute 6 = .ok (.iload_n 1, 1) := by decide +kernel
theorem dX9_minute_7 : decode cX9_minute 7 = .ok (.iload_n 2, 1) := by decide +kernel
theorem dX9_minute_8 : decode cX9_minute 8 = .ok (.invokevirtual 195, 3) := by decide +kernel
theorem dX9_minute_11 : decode cX9_minute 11 = .ok (.istore 4, 2) := by decide +kernel
theorem dX9_minute_13 : decode cX9_minute 13 = .ok (.iload 4, 2) := by decide +kernel
theorem dX9_minute_15 : decode cX9_minute 15 = .ok (.ifCond .eq 10, 3) := by decide +kernel
theorem dX9_minute_18 : decode cX9_minute 18 = .ok (.aload_n 0, 1) := by decide +kernel
theorem dX9_minute_19 : decode cX9_minute 19 = .ok (.iload 4, 2) := by decide +kernel
theorem dX9_minute_21 : decode cX9_minute 21 = .ok (.invokevirtual 168, 3) := by decide +kernel
theorem dX9_minute_24 : decode cX9_minute 24 = .ok (.ireturn, 1) := by decide +kernel
theorem dX9_minute_25 : decode cX9_minute 25 = .ok (.aload_n 0, 1) := by decide +kernel
theorem dX9_minute_26 : decode cX9_minute 26 = .ok (.iload_n 1, 1) := by decide +kernel
theorem dX9_minute_27 : decode cX9_minute 27 = .ok (.iload_n 2, 1) := by decide +kernel
theorem dX9_minute_28 : decode cX9_minute 28 = .ok (.iconst 0, 1) := by decide +kernel
theorem dX9_minute_29 : decode cX9_minute 29 = .ok (.iconst 0, 1) := by decide +kernel
theorem dX9_minute_30 : decode cX9_minute 30 = .ok (.bipush (-9), 2) := by decide +kernel
theorem dX9_minute_32 : decode cX9_minute 32 = .ok (.invokevirtual 340, 3) := by decide +kernel
theorem dX9_minute_35 : decode cX9_minute 35 = .ok (.aload_n 0, 1) := by decide +kernel
theorem dX9_minute_36 : decode cX9_minute 36 = .ok (.iload_n 1, 1) := by decide +kernel
theorem dX9_minute_37 : decode cX9_minute 37 = .ok (.iload_n 3, 1) := by decide +kernel
theorem dX9_minute_38 : decode cX9_minute 38 = .ok (.iconst (-1), 1) := by decide +kernel
theorem dX9_minute_39 : decode cX9_minute 39 = .ok (.iconst (-1), 1) := by decide +kernel
theorem dX9_minute_40 : decode cX9_minute 40 = .ok (.iconst (-1), 1) := by decide +kernel
theorem dX9_minute_41 : decode cX9_minute 41 = .ok (.invokevirtual 344, 3) := by decide +kernel
theorem dX9_minute_44 : decode cX9_minute 44 = .ok (.aload_n 0, 1) := by decide +kernel
theorem dX9_minute_45 : decode cX9_minute 45 = .ok (.getfield 266, 3) := by decide +kernel
theorem dX9_minute_48 : decode cX9_minute 48 = .ok (.ireturn, 1) := by decide +kernel
set_option maxHeartbeats 4000000 in
set_option maxRecDepth 100000 in
theorem g_X9_minute (l : Launch) (G : xG) (S : yS) (d : yD) (h0 : Nat) (p0 : Int32) (p1 : Int32) (p2 : Int32) (hSh : ySh S) (hPo : yPo S d) (hm_h0 : h0 ∈ S.1) (hk_h0 : S.2.1 h0 = 9) (hI : yMI S d h0) (hz_p2 : p2 = 0 ∨ p2 = 1) : xWi l G yX9_minute cX9_minute 5 (some .int) 6 155 0 0 [.ref h0, .int p0, .int p1, .int p2] (yW G S d) (fun r (u : yD) => yAg S [9, 69, 74, 75, 77, 78] d u ∧ (yPo S d → yPo S u) ∧ yK [38, 49, 50, 51, 52, 53, 54, 55, 57, 62, 63, 64, 65] d u h0 ∧ (yMI S u h0)) (fun u => yW G S u) := by
  intro sz
  refine xstart (by decide) (Nat.le_of_ble_eq_true rfl) (fun p e s m args below meth c ls C0 hr hlocks hin hsz hP hK hD hN hl => ?_)
  obtain ⟨hx, hb, hml, hown, htl⟩ := id C0
  subst hsz
  have hD := hD.self (sz := s.heap.size)
  generalize hAe : va_A (yW G S d) s.heap.size = A at hD ⊢
  have hA : ∀ q : Nat, s.heap.size ≤ q → A q := fun q h => by rw [← hAe]; exact Or.inr h
  have hS : va_S A s.heap s.heap [] := va_S.rf
  have hg0 : yAg S [9, 69, 74, 75, 77, 78] d d := yAg.rf
  have hl : lv_has ls 5 [(0, .ref h0), (1, .int p0), (2, .int p1), (3, .int p2)] := hl
  refine lv_aload_n hx hb dX9_minute_0 rfl (lv_at hl 0 rfl) ?_
  refine lv_iconst (v := 0) hx hb dX9_minute_1 (by decide) ?_
  refine yputI (ci := 9) (k := 38) (ty := .int) (C := RX9) (T := TX9) (N := 67) C0 hK hP hD hS hm_h0 hk_h0 (by decide) rfl inlX9 tyX9 tyX9_ok nmX9 (by decide) mW175 (fun _ h9 => h9) rfl (by decide +kernel) rfl rfl (Nat.le_of_ble_eq_true rfl) ysi_9_38 dX9_minute_2 (fun H locs hP hD hS => ?_)
  obtain ⟨d_1, ed_1⟩ : ∃ z : yD, z = yi d h0 38 0 := ⟨_, rfl⟩
  rw [← ed_1] at hP hD
  have hgd_1 : yAg S [9, 69, 74, 75, 77, 78] d d_1 := by rw [ed_1]; exact yAg.i hg0 (by rw [hk_h0]; decide)
  have hPod_1 : yPo S d_1 := by rw [ed_1]; exact yPo.i hPo hk_h0 (Or.inl rfl)
  have hfd_1 : yK [38, 49, 50, 51, 52, 53, 54, 55, 57, 62, 63, 64, 65] d d_1 h0 := by rw [ed_1]; exact yK.i yK.rf (by decide)
  have hId_1 : yMI S d_1 h0 := yMI.ag hI hSh hm_h0 hk_h0 (show yAg S [9] d d_1 from by rw [ed_1]; exact yAg.i yAg.rf (by rw [hk_h0]; decide)) (show yK [38] d d_1 h0 from by rw [ed_1]; exact yK.i yK.rf (by decide)) (by decide) (by decide)
  have hE0d_1 : (d_1.1 h0 0).toInt = (d.1 h0 0).toInt := congrArg Int32.toInt ((show yK [38] d d_1 h0 from by rw [ed_1]; exact yK.i yK.rf (by decide)) 0 (by decide))
  have hE1d_1 : (d_1.1 h0 1).toInt = (d.1 h0 1).toInt := congrArg Int32.toInt ((show yK [38] d d_1 h0 from by rw [ed_1]; exact yK.i yK.rf (by decide)) 1 (by decide))
  have hE2d_1 : (d_1.1 h0 2).toInt = (d.1 h0 2).toInt := congrArg Int32.toInt ((show yK [38] d d_1 h0 from by rw [ed_1]; exact yK.i yK.rf (by decide)) 2 (by decide))
  have hE3d_1 : (d_1.1 h0 3).toInt = (d.1 h0 3).toInt := congrArg Int32.toInt ((show yK [38] d d_1 h0 from by rw [ed_1]; exact yK.i yK.rf (by decide)) 3 (by decide))
  have hE63d_1 : (d_1.1 h0 63).toInt = (d.1 h0 63).toInt := congrArg Int32.toInt ((show yK [38] d d_1 h0 from by rw [ed_1]; exact yK.i yK.rf (by decide)) 63 (by decide))
  refine lv_aload_n hx hb dX9_minute_5 rfl (lv_at hl 0 rfl) ?_
  refine lv_iload_n hx hb dX9_minute_6 rfl (lv_at hl 1 rfl) ?_
  refine lv_iload_n hx hb dX9_minute_7 rfl (lv_at hl 2 rfl) ?_
  refine yVri (As := [.int p0, .int p1]) (rest := []) C0 (g_X9_minuteWhy l G S d_1 h0 p0 p1 hSh hm_h0 hk_h0 hId_1) ok_X9_minuteWhy (mW421 : Cond.methodLink RX9 195 yX9_minuteWhy ∈ wsT) ⟨Nat.le_of_ble_eq_true rfl, Nat.le_of_ble_eq_true rfl⟩ hP hD hK hN hm_h0 hk_h0 (by decide) rfl rfl rfl hl.1 rfl (Nat.le_of_ble_eq_true rfl) ⟨Nat.le_of_ble_eq_true rfl, Nat.le_of_ble_eq_true rfl⟩ dX9_minute_8 (fun r_2 hr_2 => ?_)
  refine lv_istore (lv' := [(4, .int r_2), (0, .ref h0), (1, .int p0), (2, .int p1), (3, .int p2)]) hx hb dX9_minute_11 hl (by decide) rfl (fun ls hl => ?_)
  refine lv_iload hx hb dX9_minute_13 (lv_at hl 0 rfl) ?_
  refine lv_if_eq (tgt := 25) hx hb dX9_minute_15 (by decide) (fun c_3 => ?_) (fun c_3 => ?_)
  · refine lv_aload_n hx hb dX9_minute_25 rfl (lv_at hl 1 rfl) ?_
    refine lv_iload_n hx hb dX9_minute_26 rfl (lv_at hl 2 rfl) ?_
    refine lv_iload_n hx hb dX9_minute_27 rfl (lv_at hl 3 rfl) ?_
    refine lv_iconst (v := 0) hx hb dX9_minute_28 (by decide) ?_
    refine lv_iconst (v := 0) hx hb dX9_minute_29 (by decide) ?_
    refine lv_bipush (v := (-9)) hx hb dX9_minute_30 (by decide) ?_
    refine yVwv (As := [.int p0, .int p1, .int 0, .int 0, .int (-9)]) (rest := []) C0 (g_X9_seek l G S d_1 h0 p0 p1 0 0 (-9) hSh hPod_1 hm_h0 hk_h0 hId_1) ok_X9_seek (mW857 : Cond.methodLink RX9 340 yX9_seek ∈ wsT) ⟨Nat.le_of_ble_eq_true rfl, Nat.le_of_ble_eq_true rfl⟩ hP hD hS hA hK hN hm_h0 hk_h0 (by decide) rfl rfl rfl hl.1 rfl (Nat.le_of_ble_eq_true rfl) ⟨Nat.le_of_ble_eq_true rfl, Nat.le_of_ble_eq_true rfl⟩ dX9_minute_32 (fun d_5 H locs hr_4 hP hD hS => ?_)
    obtain ⟨hgad_5, hpad_5, hfad_5, hxd_5⟩ := hr_4
    have hfd_5 : yK [38, 49, 50, 51, 52, 53, 54, 55, 57, 62, 63, 64, 65] d d_5 h0 := yK.tr hfd_1 hfad_5 (by decide)
    have hE0d_5 : (d_5.1 h0 0).toInt = (d_1.1 h0 0).toInt := congrArg Int32.toInt (hfad_5 0 (by decide))
    have hE1d_5 : (d_5.1 h0 1).toInt = (d_1.1 h0 1).toInt := congrArg Int32.toInt (hfad_5 1 (by decide))
    have hE2d_5 : (d_5.1 h0 2).toInt = (d_1.1 h0 2).toInt := congrArg Int32.toInt (hfad_5 2 (by decide))
    have hE3d_5 : (d_5.1 h0 3).toInt = (d_1.1 h0 3).toInt := congrArg Int32.toInt (hfad_5 3 (by decide))
    have hId_5 : yMI S d_5 h0 := hxd_5
    have hgd_5 : yAg S [9, 69, 74, 75, 77, 78] d d_5 := yAg.tr hgd_1 hgad_5 (by first | decide | exact fun _ h => h)
    have hPod_5 : yPo S d_5 := hpad_5 hPod_1
    refine lv_aload_n hx hb dX9_minute_35 rfl (lv_at hl 1 rfl) ?_
    refine lv_iload_n hx hb dX9_minute_36 rfl (lv_at hl 2 rfl) ?_
    refine lv_iload_n hx hb dX9_minute_37 rfl (lv_at hl 4 rfl) ?_
    refine lv_iconst (v := (-1)) hx hb dX9_minute_38 (by decide) ?_
    refine lv_iconst (v := (-1)) hx hb dX9_minute_39 (by decide) ?_
    refine lv_iconst (v := (-1)) hx hb dX9_minute_40 (by decide) ?_
    have F_6 := feq (rfl : (r_2 : Int32).toInt = (r_2 : Int32).toInt) (by decide +kernel : (0 : Int32).toInt = 0) c_3
    refine yVwv (As := [.int p0, .int p2, .int (-1), .int (-1), .int (-1)]) (rest := []) C0 (g_X9_walk l G S d_5 h0 p0 p2 (-1) (-1) (-1) hSh hPod_5 hm_h0 hk_h0 hId_5 (by refine ⟨?_, ?_⟩ <;> omega) (by decide +kernel) hz_p2) ok_X9_walk (mW869 : Cond.methodLink RX9 344 yX9_walk ∈ wsT) ⟨Nat.le_of_ble_eq_true rfl, Nat.le_of_ble_eq_true rfl⟩ hP hD hS hA hK hN hm_h0 hk_h0 (by decide) rfl rfl rfl hl.1 rfl (Nat.le_of_ble_eq_true rfl) ⟨Nat.le_of_ble_eq_true rfl, Nat.le_of_ble_eq_true rfl⟩ dX9_minute_41 (fun d_8 H locs hr_7 hP hD hS => ?_)
    obtain ⟨hgad_8, hpad_8, hfad_8, hxd_8⟩ := hr_7
    have hfd_8 : yK [38, 49, 50, 51, 52, 53, 54, 55, 57, 62, 63, 64, 65] d d_8 h0 := yK.tr hfd_5 hfad_8 (by decide)
    have hE0d_8 : (d_8.1 h0 0).toInt = (d_5.1 h0 0).toInt := congrArg Int32.toInt (hfad_8 0 (by decide))
    have hE1d_8 : (d_8.1 h0 1).toInt = (d_5.1 h0 1).toInt := congrArg Int32.toInt (hfad_8 1 (by decide))
    have hE2d_8 : (d_8.1 h0 2).toInt = (d_5.1 h0 2).toInt := congrArg Int32.toInt (hfad_8 2 (by decide))
    have hE3d_8 : (d_8.1 h0 3).toInt = (d_5.1 h0 3).toInt := congrArg Int32.toInt (hfad_8 3 (by decide))
    have hId_8 : yMI S d_8 h0 := hxd_8
    have hgd_8 : yAg S [9, 69, 74, 75, 77, 78] d d_8 := yAg.tr hgd_5 hgad_8 (by first | decide | exact fun _ h => h)
    have hPod_8 : yPo S d_8 := hpad_8 hPod_5
    refine lv_aload_n hx hb dX9_minute_44 rfl (lv_at hl 1 rfl) ?_
    refine yget (ci := 9) (k := 55) (v := .int (d_8.1 h0 55)) (C := RX9) (T := TX9) (N := 67) C0 hK hP hm_h0 hk_h0 (by decide) rfl inlX9 (by decide) mW856 (fun _ h9 => h9) rfl dX9_minute_45 ?_
    refine lv_topi (fun z_9 ez_9 => ?_)
    exact W.iret (v := z_9) hx hb hr (fun t ht hW => ⟨⟨z_9, d_8, rfl, ⟨hgd_8, (fun _ => hPod_8), hfd_8, hId_8⟩, by rw [ht]; exact hP, hD⟩, hS.F ht⟩) hS.2.2 dX9_minute_48
  · refine lv_aload_n hx hb dX9_minute_18 rfl (lv_at hl 1 rfl) ?_
    refine lv_iload hx hb dX9_minute_19 (lv_at hl 0 rfl) ?_
    have F_10 := fne (rfl : (r_2 : Int32).toInt = (r_2 : Int32).toInt) (by decide +kernel : (0 : Int32).toInt = 0) c_3
    refine yVwi (As := [.int r_2]) (rest := []) C0 (g_X9_no l G S d_1 h0 r_2 hSh hPod_1 hm_h0 hk_h0 (by refine ⟨?_, ?_⟩ <;> omega)) ok_X9_no (mW177 : Cond.methodLink RX9 168 yX9_no ∈ wsT) ⟨Nat.le_of_ble_eq_true rfl, Nat.le_of_ble_eq_true rfl⟩ hP hD hS hA hK hN hm_h0 hk_h0 (by decide) rfl rfl rfl hl.1 rfl (Nat.le_of_ble_eq_true rfl) ⟨Nat.le_of_ble_eq_true rfl, Nat.le_of_ble_eq_true rfl⟩ dX9_minute_21 (fun r_11 d_12 H locs hr_11 hP hD hS => ?_)
    obtain ⟨hgad_12, hpad_12, hfad_12, hxd_12⟩ := hr_11
    have hfd_12 : yK [38, 49, 50, 51, 52, 53, 54, 55, 57, 62, 63, 64, 65] d d_12 h0 := yK.tr hfd_1 hfad_12 (by decide)
    have hE0d_12 : (d_12.1 h0 0).toInt = (d_1.1 h0 0).toInt := congrArg Int32.toInt (hfad_12 0 (by decide))
    have hE1d_12 : (d_12.1 h0 1).toInt = (d_1.1 h0 1).toInt := congrArg Int32.toInt (hfad_12 1 (by decide))
    have hE2d_12 : (d_12.1 h0 2).toInt = (d_1.1 h0 2).toInt := congrArg Int32.toInt (hfad_12 2 (by decide))
    have hE3d_12 : (d_12.1 h0 3).toInt = (d_1.1 h0 3).toInt := congrArg Int32.toInt (hfad_12 3 (by decide))
    have hE63d_12 : (d_12.1 h0 63).toInt = (d_1.1 h0 63).toInt := congrArg Int32.toInt (hfad_12 63 (by decide))
    have hId_12 : yMI S d_12 h0 := yMI.ag hId_1 hSh hm_h0 hk_h0 hgad_12 hfad_12 (by decide) (by decide)
    have hgd_12 : yAg S [9, 69, 74, 75, 77, 78] d d_12 := yAg.tr hgd_1 hgad_12 (by first | decide | exact fun _ h => h)
    have hPod_12 : yPo S d_12 := hpad_12 hPod_1
    exact W.iret (v := r_11) hx hb hr (fun t ht hW => ⟨⟨r_11, d_12, rfl, ⟨hgd_12, (fun _ => hPod_12), hfd_12, hId_12⟩, by rw [ht]; exact hP, hD⟩, hS.F ht⟩) hS.2.2 dX9_minute_24
theorem dX9_why_0 : decode cX9_why 0 = .ok (.aload_n 0, 1) := by decide +kernel
theorem dX9_why_1 : decode cX9_why 1 = .ok (.iconst 0, 1) := by decide +kernel
theorem dX9_why_2 : decode cX9_why 2 = .ok (.putfield 147, 3) := by decide +kernel
theorem dX9_why_5 : decode cX9_why 5 = .ok (.aload_n 0, 1) := by decide +kernel
theorem dX9_why_6 : decode cX9_why 6 = .ok (.iload_n 1, 1) := by decide +kernel
theorem dX9_why_7 : decode cX9_why 7 = .ok (.iload_n 2, 1) := by decide +kernel
theorem dX9_why_8 : decode cX9_why 8 = .ok (.invokevirtual 195, 3) := by decide +kernel
theorem dX9_why_11 : decode cX9_why 11 = .ok (.istore 4, 2) := by decide +kernel
theorem dX9_why_13 : decode cX9_why 13 = .ok (.iload 4, 2) := by decide +kernel
theorem dX9_why_15 : decode cX9_why 15 = .ok (.ifCond .eq 10, 3) := by decide +kernel
theorem dX9_why_18 : decode cX9_why 18 = .ok (.aload_n 0, 1) := by decide +kernel
theorem dX9_why_19 : decode cX9_why 19 = .ok (.iload 4, 2) := by decide +kernel
theorem dX9_why_21 : decode cX9_why 21 = .ok (.invokevirtual 168, 3) := by decide +kernel
theorem dX9_why_24 : decode cX9_why 24 = .ok (.ireturn, 1) := by decide +kernel
theorem dX9_why_25 : decode cX9_why 25 = .ok (.aload_n 0, 1) := by decide +kernel
theorem dX9_why_26 : decode cX9_why 26 = .ok (.iload_n 1, 1) := by decide +kernel
theorem dX9_why_27 : decode cX9_why 27 = .ok (.iload_n 2, 1) := by decide +kernel
theorem dX9_why_28 : decode cX9_why 28 = .ok (.iconst 0, 1) := by decide +kernel
theorem dX9_why_29 : decode cX9_why 29 = .ok (.iconst 0, 1) := by decide +kernel
theorem dX9_why_30 : decode cX9_why 30 = .ok (.bipush (-9), 2) := by decide +kernel
theorem dX9_why_32 : decode cX9_why 32 = .ok (.invokevirtual 340, 3) := by decide +kernel
theorem dX9_why_35 : decode cX9_why 35 = .ok (.aload_n 0, 1) := by decide +kernel
theorem dX9_why_36 : decode cX9_why 36 = .ok (.iload_n 1, 1) := by decide +kernel
theorem dX9_why_37 : decode cX9_why 37 = .ok (.iload_n 3, 1) := by decide +kernel
theorem dX9_why_38 : decode cX9_why 38 = .ok (.iconst (-1), 1) := by decide +kernel
theorem dX9_why_39 : decode cX9_why 39 = .ok (.iconst (-1), 1) := by decide +kernel
theorem dX9_why_40 : decode cX9_why 40 = .ok (.iconst (-1), 1) := by decide +kernel
theorem dX9_why_41 : decode cX9_why 41 = .ok (.invokevirtual 344, 3) := by decide +kernel
theorem dX9_why_44 : decode cX9_why 44 = .ok (.aload_n 0, 1) := by decide +kernel
theorem dX9_why_45 : decode cX9_why 45 = .ok (.getfield 263, 3) := by decide +kernel
theorem dX9_why_48 : decode cX9_why 48 = .ok (.bipush (-4), 2) := by decide +kernel
theorem dX9_why_50 : decode cX9_why 50 = .ok (.if_icmp .ne 7, 3) := by decide +kernel
theorem dX9_why_53 : decode cX9_why 53 = .ok (.iconst (-1), 1) := by decide +kernel
theorem dX9_why_54 : decode cX9_why 54 = .ok (.goto 7, 3) := by decide +kernel
theorem dX9_why_57 : decode cX9_why 57 = .ok (.aload_n 0, 1) := by decide +kernel
theorem dX9_why_58 : decode cX9_why 58 = .ok (.getfield 263, 3) := by decide +kernel
theorem dX9_why_61 : decode cX9_why 61 = .ok (.ireturn, 1) := by decide +kernel
set_option maxHeartbeats 4000000 in
set_option maxRecDepth 100000 in
theorem g_X9_why (l : Launch) (G : xG) (S : yS) (d : yD) (h0 : Nat) (p0 : Int32) (p1 : Int32) (p2 : Int32) (hSh : ySh S) (hPo : yPo S d) (hm_h0 : h0 ∈ S.1) (hk_h0 : S.2.1 h0 = 9) (hI : yMI S d h0) (hz_p2 : p2 = 0 ∨ p2 = 1) : xWi l G yX9_why cX9_why 5 (some .int) 6 155 0 0 [.ref h0, .int p0, .int p1, .int p2] (yW G S d) (fun r (u : yD) => yAg S [9, 69, 74, 75, 77, 78] d u ∧ (yPo S d → yPo S u) ∧ yK [38, 49, 50, 51, 52, 53, 54, 55, 57, 62, 63, 64, 65] d u h0 ∧ (yMI S u h0)) (fun u => yW G S u) := by
  intro sz
  refine xstart (by decide) (Nat.le_of_ble_eq_true rfl) (fun p e s m args below meth c ls C0 hr hlocks hin hsz hP hK hD hN hl => ?_)
  obtain ⟨hx, hb, hml, hown, htl⟩ := id C0
  subst hsz
  have hD := hD.self (sz := s.heap.size)
  generalize hAe : va_A (yW G S d) s.heap.size = A at hD ⊢
  have hA : ∀ q : Nat, s.heap.size ≤ q → A q := fun q h => by rw [← hAe]; exact Or.inr h
  have hS : va_S A s.heap s.heap [] := va_S.rf
  have hg0 : yAg S [9, 69, 74, 75, 77, 78] d d := yAg.rf
  have hl : lv_has ls 5 [(0, .ref h0), (1, .int p0), (2, .int p1), (3, .int p2)] := hl
  refine lv_aload_n hx hb dX9_why_0 rfl (lv_at hl 0 rfl) ?_
  refine lv_iconst (v := 0) hx hb dX9_why_1 (by decide) ?_
  refine yputI (ci := 9) (k := 38) (ty := .int) (C := RX9) (T := TX9) (N := 67) C0 hK hP hD hS hm_h0 hk_h0 (by decide) rfl inlX9 tyX9 tyX9_ok nmX9 (by decide) mW175 (fun _ h9 => h9) rfl (by decide +kernel) rfl rfl (Nat.le_of_ble_eq_true rfl) ysi_9_38 dX9_why_2 (fun H locs hP hD hS => ?_)
  obtain ⟨d_1, ed_1⟩ : ∃ z : yD, z = yi d h0 38 0 := ⟨_, rfl⟩
  rw [← ed_1] at hP hD
  have hgd_1 : yAg S [9, 69, 74, 75, 77, 78] d d_1 := by rw [ed_1]; exact yAg.i hg0 (by rw [hk_h0]; decide)
  have hPod_1 : yPo S d_1 := by rw [ed_1]; exact yPo.i hPo hk_h0 (Or.inl rfl)
  have hfd_1 : yK [38, 49, 50, 51, 52, 53, 54, 55, 57, 62, 63, 64, 65] d d_1 h0 := by rw [ed_1]; exact yK.i yK.rf (by decide)
  have hId_1 : yMI S d_1 h0 := yMI.ag hI hSh hm_h0 hk_h0 (show yAg S [9] d d_1 from by rw [ed_1]; exact yAg.i yAg.rf (by rw [hk_h0]; decide)) (show yK [38] d d_1 h0 from by rw [ed_1]; exact yK.i yK.rf (by decide)) (by decide) (by decide)
  have hE0d_1 : (d_1.1 h0 0).toInt = (d.1 h0 0).toInt := congrArg Int32.toInt ((show yK [38] d d_1 h0 from by rw [ed_1]; exact yK.i yK.rf (by decide)) 0 (by decide))
  have hE1d_1 : (d_1.1 h0 1).toInt = (d.1 h0 1).toInt := congrArg Int32.toInt ((show yK [38] d d_1 h0 from by rw [ed_1]; exact yK.i yK.rf (by decide)) 1 (by decide))
  have hE2d_1 : (d_1.1 h0 2).toInt = (d.1 h0 2).toInt := congrArg Int32.toInt ((show yK [38] d d_1 h0 from by rw [ed_1]; exact yK.i yK.rf (by decide)) 2 (by decide))
  have hE3d_1 : (d_1.1 h0 3).toInt = (d.1 h0 3).toInt := congrArg Int32.toInt ((show yK [38] d d_1 h0 from by rw [ed_1]; exact yK.i yK.rf (by decide)) 3 (by decide))
  have hE63d_1 : (d_1.1 h0 63).toInt = (d.1 h0 63).toInt := congrArg Int32.toInt ((show yK [38] d d_1 h0 from by rw [ed_1]; exact yK.i yK.rf (by decide)) 63 (by decide))
  refine lv_aload_n hx hb dX9_why_5 rfl (lv_at hl 0 rfl) ?_
  refine lv_iload_n hx hb dX9_why_6 rfl (lv_at hl 1 rfl) ?_
  refine lv_iload_n hx hb dX9_why_7 rfl (lv_at hl 2 rfl) ?_
  refine yVri (As := [.int p0, .int p1]) (rest := []) C0 (g_X9_minuteWhy l G S d_1 h0 p0 p1 hSh hm_h0 hk_h0 hId_1) ok_X9_minuteWhy (mW421 : Cond.methodLink RX9 195 yX9_minuteWhy ∈ wsT) ⟨Nat.le_of_ble_eq_true rfl, Nat.le_of_ble_eq_true rfl⟩ hP hD hK hN hm_h0 hk_h0 (by decide) rfl rfl rfl hl.1 rfl (Nat.le_of_ble_eq_true rfl) ⟨Nat.le_of_ble_eq_true rfl, Nat.le_of_ble_eq_true rfl⟩ dX9_why_8 (fun r_2 hr_2 => ?_)
  refine lv_istore (lv' := [(4, .int r_2), (0, .ref h0), (1, .int p0), (2, .int p1), (3, .int p2)]) hx hb dX9_why_11 hl (by decide) rfl (fun ls hl => ?_)
  refine lv_iload hx hb dX9_why_13 (lv_at hl 0 rfl) ?_
  refine lv_if_eq (tgt := 25) hx hb dX9_why_15 (by decide) (fun c_3 => ?_) (fun c_3 => ?_)
  · refine lv_aload_n hx hb dX9_why_25 rfl (lv_at hl 1 rfl) ?_
    refine lv_iload_n hx hb dX9_why_26 rfl (lv_at hl 2 rfl) ?_
    refine lv_iload_n hx hb dX9_why_27 rfl (lv_at hl 3 rfl) ?_
    refine lv_iconst (v := 0) hx hb dX9_why_28 (by decide) ?_
    refine lv_iconst (v := 0) hx hb dX9_why_29 (by decide) ?_
    refine lv_bipush (v := (-9)) hx hb dX9_why_30 (by decide) ?_
    refine yVwv (As := [.int p0, .int p1, .int 0, .int 0, .int (-9)]) (rest := []) C0 (g_X9_seek l G S d_1 h0 p0 p1 0 0 (-9) hSh hPod_1 hm_h0 hk_h0 hId_1) ok_X9_seek (mW857 : Cond.methodLink RX9 340 yX9_seek ∈ wsT) ⟨Nat.le_of_ble_eq_true rfl, Nat.le_of_ble_eq_true rfl⟩ hP hD hS hA hK hN hm_h0 hk_h0 (by decide) rfl rfl rfl hl.1 rfl (Nat.le_of_ble_eq_true rfl) ⟨Nat.le_of_ble_eq_true rfl, Nat.le_of_ble_eq_true rfl⟩ dX9_why_32 (fun d_5 H locs hr_4 hP hD hS => ?_)
    obtain ⟨hgad_5, hpad_5, hfad_5, hxd_5⟩ := hr_4
    have hfd_5 : yK [38, 49, 50, 51, 52, 53, 54, 55, 57, 62, 63, 64, 65] d d_5 h0 := yK.tr hfd_1 hfad_5 (by decide)
    have hE0d_5 : (d_5.1 h0 0).toInt = (d_1.1 h0 0).toInt := congrArg Int32.toInt (hfad_5 0 (by decide))
    have hE1d_5 : (d_5.1 h0 1).toInt = (d_1.1 h0 1).toInt := congrArg Int32.toInt (hfad_5 1 (by decide))
    have hE2d_5 : (d_5.1 h0 2).toInt = (d_1.1 h0 2).toInt := congrArg Int32.toInt (hfad_5 2 (by decide))
    have hE3d_5 : (d_5.1 h0 3).toInt = (d_1.1 h0 3).toInt := congrArg Int32.toInt (hfad_5 3 (by decide))
    have hId_5 : yMI S d_5 h0 := hxd_5
    have hgd_5 : yAg S [9, 69, 74, 75, 77, 78] d d_5 := yAg.tr hgd_1 hgad_5 (by first | decide | exact fun _ h => h)
    have hPod_5 : yPo S d_5 := hpad_5 hPod_1
    refine lv_aload_n hx hb dX9_why_35 rfl (lv_at hl 1 rfl) ?_
    refine lv_iload_n hx hb dX9_why_36 rfl (lv_at hl 2 rfl) ?_
    refine lv_iload_n hx hb dX9_why_37 rfl (lv_at hl 4 rfl) ?_
    refine lv_iconst (v := (-1)) hx hb dX9_why_38 (by decide) ?_
    refine lv_iconst (v := (-1)) hx hb dX9_why_39 (by decide) ?_
    refine lv_iconst (v := (-1)) hx hb dX9_why_40 (by decide) ?_
    have F_6 := feq (rfl : (r_2 : Int32).toInt = (r_2 : Int32).toInt) (by decide +kernel : (0 : Int32).toInt = 0) c_3
    refine yVwv (As := [.int p0, .int p2, .int (-1), .int (-1), .int (-1)]) (rest := []) C0 (g_X9_walk l G S d_5 h0 p0 p2 (-1) (-1) (-1) hSh hPod_5 hm_h0 hk_h0 hId_5 (by refine ⟨?_, ?_⟩ <;> omega) (by decide +kernel) hz_p2) ok_X9_walk (mW869 : Cond.methodLink RX9 344 yX9_walk ∈ wsT) ⟨Nat.le_of_ble_eq_true rfl, Nat.le_of_ble_eq_true rfl⟩ hP hD hS hA hK hN hm_h0 hk_h0 (by decide) rfl rfl rfl hl.1 rfl (Nat.le_of_ble_eq_true rfl) ⟨Nat.le_of_ble_eq_true rfl, Nat.le_of_ble_eq_true rfl⟩ dX9_why_41 (fun d_8 H locs hr_7 hP hD hS => ?_)
    obtain ⟨hgad_8, hpad_8, hfad_8, hxd_8⟩ := hr_7
    have hfd_8 : yK [38, 49, 50, 51, 52, 53, 54, 55, 57, 62, 63, 64, 65] d d_8 h0 := yK.tr hfd_5 hfad_8 (by decide)
    have hE0d_8 : (d_8.1 h0 0).toInt = (d_5.1 h0 0).toInt := congrArg Int32.toInt (hfad_8 0 (by decide))
    have hE1d_8 : (d_8.1 h0 1).toInt = (d_5.1 h0 1).toInt := congrArg Int32.toInt (hfad_8 1 (by decide))
    have hE2d_8 : (d_8.1 h0 2).toInt = (d_5.1 h0 2).toInt := congrArg Int32.toInt (hfad_8 2 (by decide))
    have hE3d_8 : (d_8.1 h0 3).toInt = (d_5.1 h0 3).toInt := congrArg Int32.toInt (hfad_8 3 (by decide))
    have hId_8 : yMI S d_8 h0 := hxd_8
    have hgd_8 : yAg S [9, 69, 74, 75, 77, 78] d d_8 := yAg.tr hgd_5 hgad_8 (by first | decide | exact fun _ h => h)
    have hPod_8 : yPo S d_8 := hpad_8 hPod_5
    refine lv_aload_n hx hb dX9_why_44 rfl (lv_at hl 1 rfl) ?_
    refine yget (ci := 9) (k := 54) (v := .int (d_8.1 h0 54)) (C := RX9) (T := TX9) (N := 67) C0 hK hP hm_h0 hk_h0 (by decide) rfl inlX9 (by decide) mW878 (fun _ h9 => h9) rfl dX9_why_45 ?_
    refine lv_topi (fun z_9 ez_9 => ?_)
    refine lv_bipush (v := (-4)) hx hb dX9_why_48 (by decide) ?_
    refine lv_icmp_ne (tgt := 57) hx hb dX9_why_50 (by decide) (fun c_10 => ?_) (fun c_10 => ?_)
    · refine lv_aload_n hx hb dX9_why_57 rfl (lv_at hl 1 rfl) ?_
      refine yget (ci := 9) (k := 54) (v := .int (d_8.1 h0 54)) (C := RX9) (T := TX9) (N := 67) C0 hK hP hm_h0 hk_h0 (by decide) rfl inlX9 (by decide) mW878 (fun _ h9 => h9) rfl dX9_why_58 ?_
      refine lv_topi (fun z_11 ez_11 => ?_)
      exact W.iret (v := z_11) hx hb hr (fun t ht hW => ⟨⟨z_11, d_8, rfl, ⟨hgd_8, (fun _ => hPod_8), hfd_8, hId_8⟩, by rw [ht]; exact hP, hD⟩, hS.F ht⟩) hS.2.2 dX9_why_61
    · refine lv_iconst (v := (-1)) hx hb dX9_why_53 (by decide) ?_
      refine lv_goto (tgt := 61) hx hb dX9_why_54 (by decide) ?_
      exact W.iret (v := (-1)) hx hb hr (fun t ht hW => ⟨⟨(-1), d_8, rfl, ⟨hgd_8, (fun _ => hPod_8), hfd_8, hId_8⟩, by rw [ht]; exact hP, hD⟩, hS.F ht⟩) hS.2.2 dX9_why_61
  · refine lv_aload_n hx hb dX9_why_18 rfl (lv_at hl 1 rfl) ?_
    refine lv_iload hx hb dX9_why_19 (lv_at hl 0 rfl) ?_
    have F_12 := fne (rfl : (r_2 : Int32).toInt = (r_2 : Int32).toInt) (by decide +kernel : (0 : Int32).toInt = 0) c_3
    refine yVwi (As := [.int r_2]) (rest := []) C0 (g_X9_no l G S d_1 h0 r_2 hSh hPod_1 hm_h0 hk_h0 (by refine ⟨?_, ?_⟩ <;> omega)) ok_X9_no (mW177 : Cond.methodLink RX9 168 yX9_no ∈ wsT) ⟨Nat.le_of_ble_eq_true rfl, Nat.le_of_ble_eq_true rfl⟩ hP hD hS hA hK hN hm_h0 hk_h0 (by decide) rfl rfl rfl hl.1 rfl (Nat.le_of_ble_eq_true rfl) ⟨Nat.le_of_ble_eq_true rfl, Nat.le_of_ble_eq_true rfl⟩ dX9_why_21 (fun r_13 d_14 H locs hr_13 hP hD hS => ?_)
    obtain ⟨hgad_14, hpad_14, hfad_14, hxd_14⟩ := hr_13
    have hfd_14 : yK [38, 49, 50, 51, 52, 53, 54, 55, 57, 62, 63, 64, 65] d d_14 h0 := yK.tr hfd_1 hfad_14 (by decide)
    have hE0d_14 : (d_14.1 h0 0).toInt = (d_1.1 h0 0).toInt := congrArg Int32.toInt (hfad_14 0 (by decide))
    have hE1d_14 : (d_14.1 h0 1).toInt = (d_1.1 h0 1).toInt := congrArg Int32.toInt (hfad_14 1 (by decide))
    have hE2d_14 : (d_14.1 h0 2).toInt = (d_1.1 h0 2).toInt := congrArg Int32.toInt (hfad_14 2 (by decide))
    have hE3d_14 : (d_14.1 h0 3).toInt = (d_1.1 h0 3).toInt := congrArg Int32.toInt (hfad_14 3 (by decide))
    have hE63d_14 : (d_14.1 h0 63).toInt = (d_1.1 h0 63).toInt := congrArg Int32.toInt (hfad_14 63 (by decide))
    have hId_14 : yMI S d_14 h0 := yMI.ag hId_1 hSh hm_h0 hk_h0 hgad_14 hfad_14 (by decide) (by decide)
    have hgd_14 : yAg S [9, 69, 74, 75, 77, 78] d d_14 := yAg.tr hgd_1 hgad_14 (by first | decide | exact fun _ h => h)
    have hPod_14 : yPo S d_14 := hpad_14 hPod_1
    exact W.iret (v := r_13) hx hb hr (fun t ht hW => ⟨⟨r_13, d_14, rfl, ⟨hgd_14, (fun _ => hPod_14), hfd_14, hId_14⟩, by rw [ht]; exact hP, hD⟩, hS.F ht⟩) hS.2.2 dX9_why_24
theorem dX9_counts_0 : decode cX9_counts 0 = .ok (.aload_n 0, 1) := by decide +kernel
theorem dX9_counts_1 : decode cX9_counts 1 = .ok (.iconst 0, 1) := by decide +kernel
theorem dX9_counts_2 : decode cX9_counts 2 = .ok (.putfield 147, 3) := by decide +kernel
theorem dX9_counts_5 : decode cX9_counts 5 = .ok (.iload_n 2, 1) := by decide +kernel
theorem dX9_counts_6 : decode cX9_counts 6 = .ok (.ifCond .lt 7, 3) := by decide +kernel
theorem dX9_counts_9 : decode cX9_counts 9 = .ok (.iload_n 3, 1) := by decide +kernel
theorem dX9_counts_10 : decode cX9_counts 10 = .ok (.ifCond .ge 7, 3) := by decide +kernel
theorem dX9_counts_13 : decode cX9_counts 13 = .ok (.iconst 1, 1) := by decide +kernel
theorem dX9_counts_14 : decode cX9_counts 14 = .ok (.goto 8, 3) := by decide +kernel
theorem dX9_counts_17 : decode cX9_counts 17 = .ok (.aload_n 0, 1) := by decide +kernel
theorem dX9_counts_18 : decode cX9_counts 18 = .ok (.iload_n 1, 1) := by decide +kernel
theorem dX9_counts_19 : decode cX9_counts 19 = .ok (.invokevirtual 165, 3) := by decide +kernel
theorem dX9_counts_22 : decode cX9_counts 22 = .ok (.istore 5, 2) := by decide +kernel
theorem dX9_counts_24 : decode cX9_counts 24 = .ok (.iload 5, 2) := by decide +kernel
theorem dX9_counts_26 : decode cX9_counts 26 = .ok (.ifCond .eq 10, 3) := by decide +kernel
theorem dX9_counts_29 : decode cX9_counts 29 = .ok (.aload_n 0, 1) := by decide +kernel
theorem dX9_counts_30 : decode cX9_counts 30 = .ok (.iload 5, 2) := by decide +kernel
theorem dX9_counts_32 : decode cX9_counts 32 = .ok (.invokevirtual 168, 3) := by decide +kernel
theorem dX9_counts_35 : decode cX9_counts 35 = .ok (.ireturn, 1) := by decide +kernel
theorem dX9_counts_36 : decode cX9_counts 36 = .ok (.aload_n 0, 1) := by decide +kernel
theorem dX9_counts_37 : decode cX9_counts 37 = .ok (.iload_n 1, 1) := by decide +kernel
theorem dX9_counts_38 : decode cX9_counts 38 = .ok (.iconst (-1), 1) := by decide +kernel
theorem dX9_counts_39 : decode cX9_counts 39 = .ok (.iload_n 2, 1) := by decide +kernel
theorem dX9_counts_40 : decode cX9_counts 40 = .ok (.iload_n 3, 1) := by decide +kernel
theorem dX9_counts_41 : decode cX9_counts 41 = .ok (.bipush (-9), 2) := by decide +kernel
theorem dX9_counts_43 : decode cX9_counts 43 = .ok (.invokevirtual 340, 3) := by decide +kernel
theorem dX9_counts_46 : decode cX9_counts 46 = .ok (.aload_n 0, 1) := by decide +kernel
theorem dX9_counts_47 : decode cX9_counts 47 = .ok (.iload_n 1, 1) := by decide +kernel
theorem dX9_counts_48 : decode cX9_counts 48 = .ok (.iload 4, 2) := by decide +kernel
theorem dX9_counts_50 : decode cX9_counts 50 = .ok (.iconst (-1), 1) := by decide +kernel
theorem dX9_counts_51 : decode cX9_counts 51 = .ok (.iconst (-1), 1) := by decide +kernel
theorem dX9_counts_52 : decode cX9_counts 52 = .ok (.iconst (-1), 1) := by decide +kernel
theorem dX9_counts_53 : decode cX9_counts 53 = .ok (.invokevirtual 344, 3) := by decide +kernel
theorem dX9_counts_56 : decode cX9_counts 56 = .ok (.aload_n 0, 1) := by decide +kernel
theorem dX9_counts_57 : decode cX9_counts 57 = .ok (.getfield 269, 3) := by decide +kernel
theorem dX9_counts_60 : decode cX9_counts 60 = .ok (.l2i, 1) := by decide +kernel
theorem dX9_counts_61 : decode cX9_counts 61 = .ok (.ireturn, 1) := by decide +kernel
set_option maxHeartbeats 4000000 in
set_option maxRecDepth 100000 in
theorem g_X9_counts (l : Launch) (G : xG) (S : yS) (d : yD) (h0 : Nat) (p0 : Int32) (p1 : Int32) (p2 : Int32) (p3 : Int32) (hSh : ySh S) (hPo : yPo S d) (hm_h0 : h0 ∈ S.1) (hk_h0 : S.2.1 h0 = 9) (hI : yMI S d h0) (hz_p3 : p3 = 0 ∨ p3 = 1) : xWi l G yX9_counts cX9_counts 6 (some .int) 6 155 0 0 [.ref h0, .int p0, .int p1, .int p2, .int p3] (yW G S d) (fun r (u : yD) => yAg S [9, 69, 74, 75, 77, 78] d u ∧ (yPo S d → yPo S u) ∧ yK [38, 49, 50, 51, 52, 53, 54, 55, 57, 62, 63, 64, 65] d u h0 ∧ (yMI S u h0)) (fun u => yW G S u) := by
  intro sz
  refine xstart (by decide) (Nat.le_of_ble_eq_true rfl) (fun p e s m args below meth c ls C0 hr hlocks hin hsz hP hK hD hN hl => ?_)
  obtain ⟨hx, hb, hml, hown, htl⟩ := id C0
  subst hsz
  have hD := hD.self (sz := s.heap.size)
  generalize hAe : va_A (yW G S d) s.heap.size = A at hD ⊢
  have hA : ∀ q : Nat, s.heap.size ≤ q → A q := fun q h => by rw [← hAe]; exact Or.inr h
  have hS : va_S A s.heap s.heap [] := va_S.rf
  have hg0 : yAg S [9, 69, 74, 75, 77, 78] d d := yAg.rf
  have hl : lv_has ls 6 [(0, .ref h0), (1, .int p0), (2, .int p1), (3, .int p2), (4, .int p3)] := hl
  refine lv_aload_n hx hb dX9_counts_0 rfl (lv_at hl 0 rfl) ?_
  refine lv_iconst (v := 0) hx hb dX9_counts_1 (by decide) ?_
  refine yputI (ci := 9) (k := 38) (ty := .int) (C := RX9) (T := TX9) (N := 67) C0 hK hP hD hS hm_h0 hk_h0 (by decide) rfl inlX9 tyX9 tyX9_ok nmX9 (by decide) mW175 (fun _ h9 => h9) rfl (by decide +kernel) rfl rfl (Nat.le_of_ble_eq_true rfl) ysi_9_38 dX9_counts_2 (fun H locs hP hD hS => ?_)
  obtain ⟨d_1, ed_1⟩ : ∃ z : yD, z = yi d h0 38 0 := ⟨_, rfl⟩
  rw [← ed_1] at hP hD
  have hgd_1 : yAg S [9, 69, 74, 75, 77, 78] d d_1 := by rw [ed_1]; exact yAg.i hg0 (by rw [hk_h0]; decide)
  have hPod_1 : yPo S d_1 := by rw [ed_1]; exact yPo.i hPo hk_h0 (Or.inl rfl)
  have hfd_1 : yK [38, 49, 50, 51, 52, 53, 54, 55, 57, 62, 63, 64, 65] d d_1 h0 := by rw [ed_1]; exact yK.i yK.rf (by decide)
  have hId_1 : yMI S d_1 h0 := yMI.ag hI hSh hm_h0 hk_h0 (show yAg S [9] d d_1 from by rw [ed_1]; exact yAg.i yAg.rf (by rw [hk_h0]; decide)) (show yK [38] d d_1 h0 from by rw [ed_1]; exact yK.i yK.rf (by decide)) (by decide) (by decide)
  have hE0d_1 : (d_1.1 h0 0).toInt = (d.1 h0 0).toInt := congrArg Int32.toInt ((show yK [38] d d_1 h0 from by rw [ed_1]; exact yK.i yK.rf (by decide)) 0 (by decide))
  have hE1d_1 : (d_1.1 h0 1).toInt = (d.1 h0 1).toInt := congrArg Int32.toInt ((show yK [38] d d_1 h0 from by rw [ed_1]; exact yK.i yK.rf (by decide)) 1 (by decide))
  have hE2d_1 : (d_1.1 h0 2).toInt = (d.1 h0 2).toInt := congrArg Int32.toInt ((show yK [38] d d_1 h0 from by rw [ed_1]; exact yK.i yK.rf (by decide)) 2 (by decide))
  have hE3d_1 : (d_1.1 h0 3).toInt = (d.1 h0 3).toInt := congrArg Int32.toInt ((show yK [38] d d_1 h0 from by rw [ed_1]; exact yK.i yK.rf (by decide)) 3 (by decide))
  have hE63d_1 : (d_1.1 h0 63).toInt = (d.1 h0 63).toInt := congrArg Int32.toInt ((show yK [38] d d_1 h0 from by rw [ed_1]; exact yK.i yK.rf (by decide)) 63 (by decide))
  refine lv_iload_n hx hb dX9_counts_5 rfl (lv_at hl 2 rfl) ?_
  refine lv_if_lt (tgt := 13) hx hb dX9_counts_6 (by decide) (fun c_2 => ?_) (fun c_2 => ?_)
  · refine lv_iconst (v := 1) hx hb dX9_counts_13 (by decide) ?_
    refine lv_goto (tgt := 22) hx hb dX9_counts_14 (by decide) ?_
    refine lv_istore (lv' := [(5, .int 1), (0, .ref h0), (1, .int p0), (2, .int p1), (3, .int p2), (4, .int p3)]) hx hb dX9_counts_22 hl (by decide) rfl (fun ls hl => ?_)
    refine lv_iload hx hb dX9_counts_24 (lv_at hl 0 rfl) ?_
    refine lv_if_eq (tgt := 36) hx hb dX9_counts_26 (by decide) (fun c_3 => absurd c_3 (by decide +kernel)) (fun c_3 => ?_)
    refine lv_aload_n hx hb dX9_counts_29 rfl (lv_at hl 1 rfl) ?_
    refine lv_iload hx hb dX9_counts_30 (lv_at hl 0 rfl) ?_
    refine yVwi (As := [.int 1]) (rest := []) C0 (g_X9_no l G S d_1 h0 1 hSh hPod_1 hm_h0 hk_h0 (by decide +kernel)) ok_X9_no (mW177 : Cond.methodLink RX9 168 yX9_no ∈ wsT) ⟨Nat.le_of_ble_eq_true rfl, Nat.le_of_ble_eq_true rfl⟩ hP hD hS hA hK hN hm_h0 hk_h0 (by decide) rfl rfl rfl hl.1 rfl (Nat.le_of_ble_eq_true rfl) ⟨Nat.le_of_ble_eq_true rfl, Nat.le_of_ble_eq_true rfl⟩ dX9_counts_32 (fun r_4 d_5 H locs hr_4 hP hD hS => ?_)
    obtain ⟨hgad_5, hpad_5, hfad_5, hxd_5⟩ := hr_4
    have hfd_5 : yK [38, 49, 50, 51, 52, 53, 54, 55, 57, 62, 63, 64, 65] d d_5 h0 := yK.tr hfd_1 hfad_5 (by decide)
    have hE0d_5 : (d_5.1 h0 0).toInt = (d_1.1 h0 0).toInt := congrArg Int32.toInt (hfad_5 0 (by decide))
    have hE1d_5 : (d_5.1 h0 1).toInt = (d_1.1 h0 1).toInt := congrArg Int32.toInt (hfad_5 1 (by decide))
    have hE2d_5 : (d_5.1 h0 2).toInt = (d_1.1 h0 2).toInt := congrArg Int32.toInt (hfad_5 2 (by decide))
    have hE3d_5 : (d_5.1 h0 3).toInt = (d_1.1 h0 3).toInt := congrArg Int32.toInt (hfad_5 3 (by decide))
    have hE63d_5 : (d_5.1 h0 63).toInt = (d_1.1 h0 63).toInt := congrArg Int32.toInt (hfad_5 63 (by decide))
    have hId_5 : yMI S d_5 h0 := yMI.ag hId_1 hSh hm_h0 hk_h0 hgad_5 hfad_5 (by decide) (by decide)
    have hgd_5 : yAg S [9, 69, 74, 75, 77, 78] d d_5 := yAg.tr hgd_1 hgad_5 (by first | decide | exact fun _ h => h)
    have hPod_5 : yPo S d_5 := hpad_5 hPod_1
    exact W.iret (v := r_4) hx hb hr (fun t ht hW => ⟨⟨r_4, d_5, rfl, ⟨hgd_5, (fun _ => hPod_5), hfd_5, hId_5⟩, by rw [ht]; exact hP, hD⟩, hS.F ht⟩) hS.2.2 dX9_counts_35
  · refine lv_iload_n hx hb dX9_counts_9 rfl (lv_at hl 3 rfl) ?_
    refine lv_if_ge (tgt := 17) hx hb dX9_counts_10 (by decide) (fun c_6 => ?_) (fun c_6 => ?_)
    · refine lv_aload_n hx hb dX9_counts_17 rfl (lv_at hl 0 rfl) ?_
      refine lv_iload_n hx hb dX9_counts_18 rfl (lv_at hl 1 rfl) ?_
      refine yVri (As := [.int p0]) (rest := []) C0 (g_X9_portWhy l G S d_1 h0 p0 hSh hm_h0 hk_h0) ok_X9_portWhy (mW387 : Cond.methodLink RX9 165 yX9_portWhy ∈ wsT) ⟨Nat.le_of_ble_eq_true rfl, Nat.le_of_ble_eq_true rfl⟩ hP hD hK hN hm_h0 hk_h0 (by decide) rfl rfl rfl hl.1 rfl (Nat.le_of_ble_eq_true rfl) ⟨Nat.le_of_ble_eq_true rfl, Nat.le_of_ble_eq_true rfl⟩ dX9_counts_19 (fun r_7 hr_7 => ?_)
      refine lv_istore (lv' := [(5, .int r_7), (0, .ref h0), (1, .int p0), (2, .int p1), (3, .int p2), (4, .int p3)]) hx hb dX9_counts_22 hl (by decide) rfl (fun ls hl => ?_)
      refine lv_iload hx hb dX9_counts_24 (lv_at hl 0 rfl) ?_
      refine lv_if_eq (tgt := 36) hx hb dX9_counts_26 (by decide) (fun c_8 => ?_) (fun c_8 => ?_)
      · refine lv_aload_n hx hb dX9_counts_36 rfl (lv_at hl 1 rfl) ?_
        refine lv_iload_n hx hb dX9_counts_37 rfl (lv_at hl 2 rfl) ?_
        refine lv_iconst (v := (-1)) hx hb dX9_counts_38 (by decide) ?_
        refine lv_iload_n hx hb dX9_counts_39 rfl (lv_at hl 3 rfl) ?_
        refine lv_iload_n hx hb dX9_counts_40 rfl (lv_at hl 4 rfl) ?_
        refine lv_bipush (v := (-9)) hx hb dX9_counts_41 (by decide) ?_
        refine yVwv (As := [.int p0, .int (-1), .int p1, .int p2, .int (-9)]) (rest := []) C0 (g_X9_seek l G S d_1 h0 p0 (-1) p1 p2 (-9) hSh hPod_1 hm_h0 hk_h0 hId_1) ok_X9_seek (mW857 : Cond.methodLink RX9 340 yX9_seek ∈ wsT) ⟨Nat.le_of_ble_eq_true rfl, Nat.le_of_ble_eq_true rfl⟩ hP hD hS hA hK hN hm_h0 hk_h0 (by decide) rfl rfl rfl hl.1 rfl (Nat.le_of_ble_eq_true rfl) ⟨Nat.le_of_ble_eq_true rfl, Nat.le_of_ble_eq_true rfl⟩ dX9_counts_43 (fun d_10 H locs hr_9 hP hD hS => ?_)
        obtain ⟨hgad_10, hpad_10, hfad_10, hxd_10⟩ := hr_9
        have hfd_10 : yK [38, 49, 50, 51, 52, 53, 54, 55, 57, 62, 63, 64, 65] d d_10 h0 := yK.tr hfd_1 hfad_10 (by decide)
        have hE0d_10 : (d_10.1 h0 0).toInt = (d_1.1 h0 0).toInt := congrArg Int32.toInt (hfad_10 0 (by decide))
        have hE1d_10 : (d_10.1 h0 1).toInt = (d_1.1 h0 1).toInt := congrArg Int32.toInt (hfad_10 1 (by decide))
        have hE2d_10 : (d_10.1 h0 2).toInt = (d_1.1 h0 2).toInt := congrArg Int32.toInt (hfad_10 2 (by decide))
        have hE3d_10 : (d_10.1 h0 3).toInt = (d_1.1 h0 3).toInt := congrArg Int32.toInt (hfad_10 3 (by decide))
        have hId_10 : yMI S d_10 h0 := hxd_10
        have hgd_10 : yAg S [9, 69, 74, 75, 77, 78] d d_10 := yAg.tr hgd_1 hgad_10 (by first | decide | exact fun _ h => h)
        have hPod_10 : yPo S d_10 := hpad_10 hPod_1
        refine lv_aload_n hx hb dX9_counts_46 rfl (lv_at hl 1 rfl) ?_
        refine lv_iload_n hx hb dX9_counts_47 rfl (lv_at hl 2 rfl) ?_
        refine lv_iload hx hb dX9_counts_48 (lv_at hl 5 rfl) ?_
        refine lv_iconst (v := (-1)) hx hb dX9_counts_50 (by decide) ?_
        refine lv_iconst (v := (-1)) hx hb dX9_counts_51 (by decide) ?_
        refine lv_iconst (v := (-1)) hx hb dX9_counts_52 (by decide) ?_
        have F_11 := fnlt (rfl : (p1 : Int32).toInt = (p1 : Int32).toInt) (by decide +kernel : (0 : Int32).toInt = 0) c_2
        have F_12 := fle (by decide +kernel : (0 : Int32).toInt = 0) (rfl : (p2 : Int32).toInt = (p2 : Int32).toInt) c_6
        have F_13 := feq (rfl : (r_7 : Int32).toInt = (r_7 : Int32).toInt) (by decide +kernel : (0 : Int32).toInt = 0) c_8
        refine yVwv (As := [.int p0, .int p3, .int (-1), .int (-1), .int (-1)]) (rest := []) C0 (g_X9_walk l G S d_10 h0 p0 p3 (-1) (-1) (-1) hSh hPod_10 hm_h0 hk_h0 hId_10 (by refine ⟨?_, ?_⟩ <;> omega) (by decide +kernel) hz_p3) ok_X9_walk (mW869 : Cond.methodLink RX9 344 yX9_walk ∈ wsT) ⟨Nat.le_of_ble_eq_true rfl, Nat.le_of_ble_eq_true rfl⟩ hP hD hS hA hK hN hm_h0 hk_h0 (by decide) rfl rfl rfl hl.1 rfl (Nat.le_of_ble_eq_true rfl) ⟨Nat.le_of_ble_eq_true rfl, Nat.le_of_ble_eq_true rfl⟩ dX9_counts_53 (fun d_15 H locs hr_14 hP hD hS => ?_)
        obtain ⟨hgad_15, hpad_15, hfad_15, hxd_15⟩ := hr_14
        have hfd_15 : yK [38, 49, 50, 51, 52, 53, 54, 55, 57, 62, 63, 64, 65] d d_15 h0 := yK.tr hfd_10 hfad_15 (by decide)
        have hE0d_15 : (d_15.1 h0 0).toInt = (d_10.1 h0 0).toInt := congrArg Int32.toInt (hfad_15 0 (by decide))
        have hE1d_15 : (d_15.1 h0 1).toInt = (d_10.1 h0 1).toInt := congrArg Int32.toInt (hfad_15 1 (by decide))
        have hE2d_15 : (d_15.1 h0 2).toInt = (d_10.1 h0 2).toInt := congrArg Int32.toInt (hfad_15 2 (by decide))
        have hE3d_15 : (d_15.1 h0 3).toInt = (d_10.1 h0 3).toInt := congrArg Int32.toInt (hfad_15 3 (by decide))
        have hId_15 : yMI S d_15 h0 := hxd_15
        have hgd_15 : yAg S [9, 69, 74, 75, 77, 78] d d_15 := yAg.tr hgd_10 hgad_15 (by first | decide | exact fun _ h => h)
        have hPod_15 : yPo S d_15 := hpad_15 hPod_10
        refine lv_aload_n hx hb dX9_counts_56 rfl (lv_at hl 1 rfl) ?_
        refine yget (ci := 9) (k := 56) (v := .long (d_15.2.1 h0 56)) (C := RX9) (T := TX9) (N := 67) C0 hK hP hm_h0 hk_h0 (by decide) rfl inlX9 (by decide) mW879 (fun _ h9 => h9) rfl dX9_counts_57 ?_
        refine lv_topl (fun z_16 ez_16 => ?_)
        refine lv_l2i hx hb dX9_counts_60 rfl ?_
        refine lv_topi (fun z_17 ez_17 => ?_)
        exact W.iret (v := z_17) hx hb hr (fun t ht hW => ⟨⟨z_17, d_15, rfl, ⟨hgd_15, (fun _ => hPod_15), hfd_15, hId_15⟩, by rw [ht]; exact hP, hD⟩, hS.F ht⟩) hS.2.2 dX9_counts_61
      · refine lv_aload_n hx hb dX9_counts_29 rfl (lv_at hl 1 rfl) ?_
        refine lv_iload hx hb dX9_counts_30 (lv_at hl 0 rfl) ?_
        have F_18 := fnlt (rfl : (p1 : Int32).toInt = (p1 : Int32).toInt) (by decide +kernel : (0 : Int32).toInt = 0) c_2
        have F_19 := fle (by decide +kernel : (0 : Int32).toInt = 0) (rfl : (p2 : Int32).toInt = (p2 : Int32).toInt) c_6
        have F_20 := fne (rfl : (r_7 : Int32).toInt = (r_7 : Int32).toInt) (by decide +kernel : (0 : Int32).toInt = 0) c_8
        refine yVwi (As := [.int r_7]) (rest := []) C0 (g_X9_no l G S d_1 h0 r_7 hSh hPod_1 hm_h0 hk_h0 (by refine ⟨?_, ?_⟩ <;> omega)) ok_X9_no (mW177 : Cond.methodLink RX9 168 yX9_no ∈ wsT) ⟨Nat.le_of_ble_eq_true rfl, Nat.le_of_ble_eq_true rfl⟩ hP hD hS hA hK hN hm_h0 hk_h0 (by decide) rfl rfl rfl hl.1 rfl (Nat.le_of_ble_eq_true rfl) ⟨Nat.le_of_ble_eq_true rfl, Nat.le_of_ble_eq_true rfl⟩ dX9_counts_32 (fun r_21 d_22 H locs hr_21 hP hD hS => ?_)
        obtain ⟨hgad_22, hpad_22, hfad_22, hxd_22⟩ := hr_21
        have hfd_22 : yK [38, 49, 50, 51, 52, 53, 54, 55, 57, 62, 63, 64, 65] d d_22 h0 := yK.tr hfd_1 hfad_22 (by decide)
        have hE0d_22 : (d_22.1 h0 0).toInt = (d_1.1 h0 0).toInt := congrArg Int32.toInt (hfad_22 0 (by decide))
        have hE1d_22 : (d_22.1 h0 1).toInt = (d_1.1 h0 1).toInt := congrArg Int32.toInt (hfad_22 1 (by decide))
        have hE2d_22 : (d_22.1 h0 2).toInt = (d_1.1 h0 2).toInt := congrArg Int32.toInt (hfad_22 2 (by decide))
        have hE3d_22 : (d_22.1 h0 3).toInt = (d_1.1 h0 3).toInt := congrArg Int32.toInt (hfad_22 3 (by decide))
        have hE63d_22 : (d_22.1 h0 63).toInt = (d_1.1 h0 63).toInt := congrArg Int32.toInt (hfad_22 63 (by decide))
        have hId_22 : yMI S d_22 h0 := yMI.ag hId_1 hSh hm_h0 hk_h0 hgad_22 hfad_22 (by decide) (by decide)
        have hgd_22 : yAg S [9, 69, 74, 75, 77, 78] d d_22 := yAg.tr hgd_1 hgad_22 (by first | decide | exact fun _ h => h)
        have hPod_22 : yPo S d_22 := hpad_22 hPod_1
        exact W.iret (v := r_21) hx hb hr (fun t ht hW => ⟨⟨r_21, d_22, rfl, ⟨hgd_22, (fun _ => hPod_22), hfd_22, hId_22⟩, by rw [ht]; exact hP, hD⟩, hS.F ht⟩) hS.2.2 dX9_counts_35
    · refine lv_iconst (v := 1) hx hb dX9_counts_13 (by decide) ?_
      refine lv_goto (tgt := 22) hx hb dX9_counts_14 (by decide) ?_
      refine lv_istore (lv' := [(5, .int 1), (0, .ref h0), (1, .int p0), (2, .int p1), (3, .int p2), (4, .int p3)]) hx hb dX9_counts_22 hl (by decide) rfl (fun ls hl => ?_)
      refine lv_iload hx hb dX9_counts_24 (lv_at hl 0 rfl) ?_
      refine lv_if_eq (tgt := 36) hx hb dX9_counts_26 (by decide) (fun c_23 => absurd c_23 (by decide +kernel)) (fun c_23 => ?_)
      refine lv_aload_n hx hb dX9_counts_29 rfl (lv_at hl 1 rfl) ?_
      refine lv_iload hx hb dX9_counts_30 (lv_at hl 0 rfl) ?_
      refine yVwi (As := [.int 1]) (rest := []) C0 (g_X9_no l G S d_1 h0 1 hSh hPod_1 hm_h0 hk_h0 (by decide +kernel)) ok_X9_no (mW177 : Cond.methodLink RX9 168 yX9_no ∈ wsT) ⟨Nat.le_of_ble_eq_true rfl, Nat.le_of_ble_eq_true rfl⟩ hP hD hS hA hK hN hm_h0 hk_h0 (by decide) rfl rfl rfl hl.1 rfl (Nat.le_of_ble_eq_true rfl) ⟨Nat.le_of_ble_eq_true rfl, Nat.le_of_ble_eq_true rfl⟩ dX9_counts_32 (fun r_24 d_25 H locs hr_24 hP hD hS => ?_)
      obtain ⟨hgad_25, hpad_25, hfad_25, hxd_25⟩ := hr_24
      have hfd_25 : yK [38, 49, 50, 51, 52, 53, 54, 55, 57, 62, 63, 64, 65] d d_25 h0 := yK.tr hfd_1 hfad_25 (by decide)
      have hE0d_25 : (d_25.1 h0 0).toInt = (d_1.1 h0 0).toInt := congrArg Int32.toInt (hfad_25 0 (by decide))
      have hE1d_25 : (d_25.1 h0 1).toInt = (d_1.1 h0 1).toInt := congrArg Int32.toInt (hfad_25 1 (by decide))
      have hE2d_25 : (d_25.1 h0 2).toInt = (d_1.1 h0 2).toInt := congrArg Int32.toInt (hfad_25 2 (by decide))
      have hE3d_25 : (d_25.1 h0 3).toInt = (d_1.1 h0 3).toInt := congrArg Int32.toInt (hfad_25 3 (by decide))
      have hE63d_25 : (d_25.1 h0 63).toInt = (d_1.1 h0 63).toInt := congrArg Int32.toInt (hfad_25 63 (by decide))
      have hId_25 : yMI S d_25 h0 := yMI.ag hId_1 hSh hm_h0 hk_h0 hgad_25 hfad_25 (by decide) (by decide)
      have hgd_25 : yAg S [9, 69, 74, 75, 77, 78] d d_25 := yAg.tr hgd_1 hgad_25 (by first | decide | exact fun _ h => h)
      have hPod_25 : yPo S d_25 := hpad_25 hPod_1
      exact W.iret (v := r_24) hx hb hr (fun t ht hW => ⟨⟨r_24, d_25, rfl, ⟨hgd_25, (fun _ => hPod_25), hfd_25, hId_25⟩, by rw [ht]; exact hP, hD⟩, hS.F ht⟩) hS.2.2 dX9_counts_35
theorem dX9_by_0 : decode cX9_by 0 = .ok (.aload_n 0, 1) := by decide +kernel
theorem dX9_by_1 : decode cX9_by 1 = .ok (.iconst 0, 1) := by decide +kernel
theorem dX9_by_2 : decode cX9_by 2 = .ok (.putfield 147, 3) := by decide +kernel
theorem dX9_by_5 : decode cX9_by 5 = .ok (.iload_n 2, 1) := by decide +kernel
theorem dX9_by_6 : decode cX9_by 6 = .ok (.bipush (-3), 2) := by decide +kernel
theorem dX9_by_8 : decode cX9_by 8 = .ok (.if_icmp .lt 14, 3) := by decide +kernel
theorem dX9_by_11 : decode cX9_by 11 = .ok (.iload_n 2, 1) := by decide +kernel
theorem dX9_by_12 : decode cX9_by 12 = .ok (.iconst (-1), 1) := by decide +kernel
theorem dX9_by_13 : decode cX9_by 13 = .ok (.if_icmp .eq 9, 3) := by decide +kernel
theorem dX9_by_16 : decode cX9_by 16 = .ok (.iload_n 2, 1) := by decide +kernel
theorem dX9_by_17 : decode cX9_by 17 = .ok (.bipush 60, 2) := by decide +kernel
theorem dX9_by_19 : decode cX9_by 19 = .ok (.if_icmp .lt 7, 3) := by decide +kernel
theorem dX9_by_22 : decode cX9_by 22 = .ok (.iconst 1, 1) := by decide +kernel
theorem dX9_by_23 : decode cX9_by 23 = .ok (.goto 8, 3) := by decide +kernel
theorem dX9_by_26 : decode cX9_by 26 = .ok (.aload_n 0, 1) := by decide +kernel
theorem dX9_by_27 : decode cX9_by 27 = .ok (.iload_n 1, 1) := by decide +kernel
theorem dX9_by_28 : decode cX9_by 28 = .ok (.invokevirtual 165, 3) := by decide +kernel
theorem dX9_by_31 : decode cX9_by 31 = .ok (.istore 4, 2) := by decide +kernel
theorem dX9_by_33 : decode cX9_by 33 = .ok (.iload 4, 2) := by decide +kernel
theorem dX9_by_35 : decode cX9_by 35 = .ok (.ifCond .eq 10, 3) := by decide +kernel
theorem dX9_by_38 : decode cX9_by 38 = .ok (.aload_n 0, 1) := by decide +kernel
theorem dX9_by_39 : decode cX9_by 39 = .ok (.iload 4, 2) := by decide +kernel
theorem dX9_by_41 : decode cX9_by 41 = .ok (.invokevirtual 168, 3) := by decide +kernel
theorem dX9_by_44 : decode cX9_by 44 = .ok (.ireturn, 1) := by decide +kernel
theorem dX9_by_45 : decode cX9_by 45 = .ok (.aload_n 0, 1) := by decide +kernel
theorem dX9_by_46 : decode cX9_by 46 = .ok (.iload_n 1, 1) := by decide +kernel
theorem dX9_by_47 : decode cX9_by 47 = .ok (.iconst (-1), 1) := by decide +kernel
theorem dX9_by_48 : decode cX9_by 48 = .ok (.iconst 0, 1) := by decide +kernel
theorem dX9_by_49 : decode cX9_by 49 = .ok (.iconst 0, 1) := by decide +kernel
theorem dX9_by_50 : decode cX9_by 50 = .ok (.iload_n 2, 1) := by decide +kernel
theorem dX9_by_51 : decode cX9_by 51 = .ok (.invokevirtual 340, 3) := by decide +kernel
theorem dX9_by_54 : decode cX9_by 54 = .ok (.aload_n 0, 1) := by decide +kernel
theorem dX9_by_55 : decode cX9_by 55 = .ok (.iload_n 1, 1) := by decide +kernel
theorem dX9_by_56 : decode cX9_by 56 = .ok (.iload_n 3, 1) := by decide +kernel
theorem dX9_by_57 : decode cX9_by 57 = .ok (.iconst (-1), 1) := by decide +kernel
theorem dX9_by_58 : decode cX9_by 58 = .ok (.iconst (-1), 1) := by decide +kernel
theorem dX9_by_59 : decode cX9_by 59 = .ok (.iconst (-1), 1) := by decide +kernel
theorem dX9_by_60 : decode cX9_by 60 = .ok (.invokevirtual 344, 3) := by decide +kernel
theorem dX9_by_63 : decode cX9_by 63 = .ok (.aload_n 0, 1) := by decide +kernel
theorem dX9_by_64 : decode cX9_by 64 = .ok (.getfield 272, 3) := by decide +kernel
theorem dX9_by_67 : decode cX9_by 67 = .ok (.ireturn, 1) := by decide +kernel
set_option maxHeartbeats 4000000 in
set_option maxRecDepth 100000 in
theorem g_X9_by (l : Launch) (G : xG) (S : yS) (d : yD) (h0 : Nat) (p0 : Int32) (p1 : Int32) (p2 : Int32) (hSh : ySh S) (hPo : yPo S d) (hm_h0 : h0 ∈ S.1) (hk_h0 : S.2.1 h0 = 9) (hI : yMI S d h0) (hz_p2 : p2 = 0 ∨ p2 = 1) : xWi l G yX9_by cX9_by 5 (some .int) 6 155 0 0 [.ref h0, .int p0, .int p1, .int p2] (yW G S d) (fun r (u : yD) => yAg S [9, 69, 74, 75, 77, 78] d u ∧ (yPo S d → yPo S u) ∧ yK [38, 49, 50, 51, 52, 53, 54, 55, 57, 62, 63, 64, 65] d u h0 ∧ (yMI S u h0)) (fun u => yW G S u) := by
  intro sz
  refine xstart (by decide) (Nat.le_of_ble_eq_true rfl) (fun p e s m args below meth c ls C0 hr hlocks hin hsz hP hK hD hN hl => ?_)
  obtain ⟨hx, hb, hml, hown, htl⟩ := id C0
  subst hsz
  have hD := hD.self (sz := s.heap.size)
  generalize hAe : va_A (yW G S d) s.heap.size = A at hD ⊢
  have hA : ∀ q : Nat, s.heap.size ≤ q → A q := fun q h => by rw [← hAe]; exact Or.inr h
  have hS : va_S A s.heap s.heap [] := va_S.rf
  have hg0 : yAg S [9, 69, 74, 75, 77, 78] d d := yAg.rf
  have hl : lv_has ls 5 [(0, .ref h0), (1, .int p0), (2, .int p1), (3, .int p2)] := hl
  refine lv_aload_n hx hb dX9_by_0 rfl (lv_at hl 0 rfl) ?_
  refine lv_iconst (v := 0) hx hb dX9_by_1 (by decide) ?_
  refine yputI (ci := 9) (k := 38) (ty := .int) (C := RX9) (T := TX9) (N := 67) C0 hK hP hD hS hm_h0 hk_h0 (by decide) rfl inlX9 tyX9 tyX9_ok nmX9 (by decide) mW175 (fun _ h9 => h9) rfl (by decide +kernel) rfl rfl (Nat.le_of_ble_eq_true rfl) ysi_9_38 dX9_by_2 (fun H locs hP hD hS => ?_)
  obtain ⟨d_1, ed_1⟩ : ∃ z : yD, z = yi d h0 38 0 := ⟨_, rfl⟩
  rw [← ed_1] at hP hD
  have hgd_1 : yAg S [9, 69, 74, 75, 77, 78] d d_1 := by rw [ed_1]; exact yAg.i hg0 (by rw [hk_h0]; decide)
  have hPod_1 : yPo S d_1 := by rw [ed_1]; exact yPo.i hPo hk_h0 (Or.inl rfl)
  have hfd_1 : yK [38, 49, 50, 51, 52, 53, 54, 55, 57, 62, 63, 64, 65] d d_1 h0 := by rw [ed_1]; exact yK.i yK.rf (by decide)
  have hId_1 : yMI S d_1 h0 := yMI.ag hI hSh hm_h0 hk_h0 (show yAg S [9] d d_1 from by rw [ed_1]; exact yAg.i yAg.rf (by rw [hk_h0]; decide)) (show yK [38] d d_1 h0 from by rw [ed_1]; exact yK.i yK.rf (by decide)) (by decide) (by decide)
  have hE0d_1 : (d_1.1 h0 0).toInt = (d.1 h0 0).toInt := congrArg Int32.toInt ((show yK [38] d d_1 h0 from by rw [ed_1]; exact yK.i yK.rf (by decide)) 0 (by decide))
  have hE1d_1 : (d_1.1 h0 1).toInt = (d.1 h0 1).toInt := congrArg Int32.toInt ((show yK [38] d d_1 h0 from by rw [ed_1]; exact yK.i yK.rf (by decide)) 1 (by decide))
  have hE2d_1 : (d_1.1 h0 2).toInt = (d.1 h0 2).toInt := congrArg Int32.toInt ((show yK [38] d d_1 h0 from by rw [ed_1]; exact yK.i yK.rf (by decide)) 2 (by decide))
  have hE3d_1 : (d_1.1 h0 3).toInt = (d.1 h0 3).toInt := congrArg Int32.toInt ((show yK [38] d d_1 h0 from by rw [ed_1]; exact yK.i yK.rf (by decide)) 3 (by decide))
  have hE63d_1 : (d_1.1 h0 63).toInt = (d.1 h0 63).toInt := congrArg Int32.toInt ((show yK [38] d d_1 h0 from by rw [ed_1]; exact yK.i yK.rf (by decide)) 63 (by decide))
  refine lv_iload_n hx hb dX9_by_5 rfl (lv_at hl 2 rfl) ?_
  refine lv_bipush (v := (-3)) hx hb dX9_by_6 (by decide) ?_
  refine lv_icmp_lt (tgt := 22) hx hb dX9_by_8 (by decide) (fun c_2 => ?_) (fun c_2 => ?_)
  · refine lv_iconst (v := 1) hx hb dX9_by_22 (by decide) ?_
    refine lv_goto (tgt := 31) hx hb dX9_by_23 (by decide) ?_
    refine lv_istore (lv' := [(4, .int 1), (0, .ref h0), (1, .int p0), (2, .int p1), (3, .int p2)]) hx hb dX9_by_31 hl (by decide) rfl (fun ls hl => ?_)
    refine lv_iload hx hb dX9_by_33 (lv_at hl 0 rfl) ?_
    refine lv_if_eq (tgt := 45) hx hb dX9_by_35 (by decide) (fun c_3 => absurd c_3 (by decide +kernel)) (fun c_3 => ?_)
    refine lv_aload_n hx hb dX9_by_38 rfl (lv_at hl 1 rfl) ?_
    refine lv_iload hx hb dX9_by_39 (lv_at hl 0 rfl) ?_
    refine yVwi (As := [.int 1]) (rest := []) C0 (g_X9_no l G S d_1 h0 1 hSh hPod_1 hm_h0 hk_h0 (by decide +kernel)) ok_X9_no (mW177 : Cond.methodLink RX9 168 yX9_no ∈ wsT) ⟨Nat.le_of_ble_eq_true rfl, Nat.le_of_ble_eq_true rfl⟩ hP hD hS hA hK hN hm_h0 hk_h0 (by decide) rfl rfl rfl hl.1 rfl (Nat.le_of_ble_eq_true rfl) ⟨Nat.le_of_ble_eq_true rfl, Nat.le_of_ble_eq_true rfl⟩ dX9_by_41 (fun r_4 d_5 H locs hr_4 hP hD hS => ?_)
    obtain ⟨hgad_5, hpad_5, hfad_5, hxd_5⟩ := hr_4
    have hfd_5 : yK [38, 49, 50, 51, 52, 53, 54, 55, 57, 62, 63, 64, 65] d d_5 h0 := yK.tr hfd_1 hfad_5 (by decide)
    have hE0d_5 : (d_5.1 h0 0).toInt = (d_1.1 h0 0).toInt := congrArg Int32.toInt (hfad_5 0 (by decide))
    have hE1d_5 : (d_5.1 h0 1).toInt = (d_1.1 h0 1).toInt := congrArg Int32.toInt (hfad_5 1 (by decide))
    have hE2d_5 : (d_5.1 h0 2).toInt = (d_1.1 h0 2).toInt := congrArg Int32.toInt (hfad_5 2 (by decide))
    have hE3d_5 : (d_5.1 h0 3).toInt = (d_1.1 h0 3).toInt := congrArg Int32.toInt (hfad_5 3 (by decide))
    have hE63d_5 : (d_5.1 h0 63).toInt = (d_1.1 h0 63).toInt := congrArg Int32.toInt (hfad_5 63 (by decide))
    have hId_5 : yMI S d_5 h0 := yMI.ag hId_1 hSh hm_h0 hk_h0 hgad_5 hfad_5 (by decide) (by decide)
    have hgd_5 : yAg S [9, 69, 74, 75, 77, 78] d d_5 := yAg.tr hgd_1 hgad_5 (by first | decide | exact fun _ h => h)
    have hPod_5 : yPo S d_5 := hpad_5 hPod_1
    exact W.iret (v := r_4) hx hb hr (fun t ht hW => ⟨⟨r_4, d_5, rfl, ⟨hgd_5, (fun _ => hPod_5), hfd_5, hId_5⟩, by rw [ht]; exact hP, hD⟩, hS.F ht⟩) hS.2.2 dX9_by_44
  · refine lv_iload_n hx hb dX9_by_11 rfl (lv_at hl 2 rfl) ?_
    refine lv_iconst (v := (-1)) hx hb dX9_by_12 (by decide) ?_
    refine lv_icmp_eq (tgt := 22) hx hb dX9_by_13 (by decide) (fun c_6 => ?_) (fun c_6 => ?_)
    · refine lv_iconst (v := 1) hx hb dX9_by_22 (by decide) ?_
      refine lv_goto (tgt := 31) hx hb dX9_by_23 (by decide) ?_
      refine lv_istore (lv' := [(4, .int 1), (0, .ref h0), (1, .int p0), (2, .int p1), (3, .int p2)]) hx hb dX9_by_31 hl (by decide) rfl (fun ls hl => ?_)
      refine lv_iload hx hb dX9_by_33 (lv_at hl 0 rfl) ?_
      refine lv_if_eq (tgt := 45) hx hb dX9_by_35 (by decide) (fun c_7 => absurd c_7 (by decide +kernel)) (fun c_7 => ?_)
      refine lv_aload_n hx hb dX9_by_38 rfl (lv_at hl 1 rfl) ?_
      refine lv_iload hx hb dX9_by_39 (lv_at hl 0 rfl) ?_
      refine yVwi (As := [.int 1]) (rest := []) C0 (g_X9_no l G S d_1 h0 1 hSh hPod_1 hm_h0 hk_h0 (by decide +kernel)) ok_X9_no (mW177 : Cond.methodLink RX9 168 yX9_no ∈ wsT) ⟨Nat.le_of_ble_eq_true rfl, Nat.le_of_ble_eq_true rfl⟩ hP hD hS hA hK hN hm_h0 hk_h0 (by decide) rfl rfl rfl hl.1 rfl (Nat.le_of_ble_eq_true rfl) ⟨Nat.le_of_ble_eq_true rfl, Nat.le_of_ble_eq_true rfl⟩ dX9_by_41 (fun r_8 d_9 H locs hr_8 hP hD hS => ?_)
      obtain ⟨hgad_9, hpad_9, hfad_9, hxd_9⟩ := hr_8
      have hfd_9 : yK [38, 49, 50, 51, 52, 53, 54, 55, 57, 62, 63, 64, 65] d d_9 h0 := yK.tr hfd_1 hfad_9 (by decide)
      have hE0d_9 : (d_9.1 h0 0).toInt = (d_1.1 h0 0).toInt := congrArg Int32.toInt (hfad_9 0 (by decide))
      have hE1d_9 : (d_9.1 h0 1).toInt = (d_1.1 h0 1).toInt := congrArg Int32.toInt (hfad_9 1 (by decide))
      have hE2d_9 : (d_9.1 h0 2).toInt = (d_1.1 h0 2).toInt := congrArg Int32.toInt (hfad_9 2 (by decide))
      have hE3d_9 : (d_9.1 h0 3).toInt = (d_1.1 h0 3).toInt := congrArg Int32.toInt (hfad_9 3 (by decide))
      have hE63d_9 : (d_9.1 h0 63).toInt = (d_1.1 h0 63).toInt := congrArg Int32.toInt (hfad_9 63 (by decide))
      have hId_9 : yMI S d_9 h0 := yMI.ag hId_1 hSh hm_h0 hk_h0 hgad_9 hfad_9 (by decide) (by decide)
      have hgd_9 : yAg S [9, 69, 74, 75, 77, 78] d d_9 := yAg.tr hgd_1 hgad_9 (by first | decide | exact fun _ h => h)
      have hPod_9 : yPo S d_9 := hpad_9 hPod_1
      exact W.iret (v := r_8) hx hb hr (fun t ht hW => ⟨⟨r_8, d_9, rfl, ⟨hgd_9, (fun _ => hPod_9), hfd_9, hId_9⟩, by rw [ht]; exact hP, hD⟩, hS.F ht⟩) hS.2.2 dX9_by_44
    · refine lv_iload_n hx hb dX9_by_16 rfl (lv_at hl 2 rfl) ?_
      refine lv_bipush (v := 60) hx hb dX9_by_17 (by decide) ?_
      refine lv_icmp_lt (tgt := 26) hx hb dX9_by_19 (by decide) (fun c_10 => ?_) (fun c_10 => ?_)
      · refine lv_aload_n hx hb dX9_by_26 rfl (lv_at hl 0 rfl) ?_
        refine lv_iload_n hx hb dX9_by_27 rfl (lv_at hl 1 rfl) ?_
        refine yVri (As := [.int p0]) (rest := []) C0 (g_X9_portWhy l G S d_1 h0 p0 hSh hm_h0 hk_h0) ok_X9_portWhy (mW387 : Cond.methodLink RX9 165 yX9_portWhy ∈ wsT) ⟨Nat.le_of_ble_eq_true rfl, Nat.le_of_ble_eq_true rfl⟩ hP hD hK hN hm_h0 hk_h0 (by decide) rfl rfl rfl hl.1 rfl (Nat.le_of_ble_eq_true rfl) ⟨Nat.le_of_ble_eq_true rfl, Nat.le_of_ble_eq_true rfl⟩ dX9_by_28 (fun r_11 hr_11 => ?_)
        refine lv_istore (lv' := [(4, .int r_11), (0, .ref h0), (1, .int p0), (2, .int p1), (3, .int p2)]) hx hb dX9_by_31 hl (by decide) rfl (fun ls hl => ?_)
        refine lv_iload hx hb dX9_by_33 (lv_at hl 0 rfl) ?_
        refine lv_if_eq (tgt := 45) hx hb dX9_by_35 (by decide) (fun c_12 => ?_) (fun c_12 => ?_)
        · refine lv_aload_n hx hb dX9_by_45 rfl (lv_at hl 1 rfl) ?_
          refine lv_iload_n hx hb dX9_by_46 rfl (lv_at hl 2 rfl) ?_
          refine lv_iconst (v := (-1)) hx hb dX9_by_47 (by decide) ?_
          refine lv_iconst (v := 0) hx hb dX9_by_48 (by decide) ?_
          refine lv_iconst (v := 0) hx hb dX9_by_49 (by decide) ?_
          refine lv_iload_n hx hb dX9_by_50 rfl (lv_at hl 3 rfl) ?_
          refine yVwv (As := [.int p0, .int (-1), .int 0, .int 0, .int p1]) (rest := []) C0 (g_X9_seek l G S d_1 h0 p0 (-1) 0 0 p1 hSh hPod_1 hm_h0 hk_h0 hId_1) ok_X9_seek (mW857 : Cond.methodLink RX9 340 yX9_seek ∈ wsT) ⟨Nat.le_of_ble_eq_true rfl, Nat.le_of_ble_eq_true rfl⟩ hP hD hS hA hK hN hm_h0 hk_h0 (by decide) rfl rfl rfl hl.1 rfl (Nat.le_of_ble_eq_true rfl) ⟨Nat.le_of_ble_eq_true rfl, Nat.le_of_ble_eq_true rfl⟩ dX9_by_51 (fun d_14 H locs hr_13 hP hD hS => ?_)
          obtain ⟨hgad_14, hpad_14, hfad_14, hxd_14⟩ := hr_13
          have hfd_14 : yK [38, 49, 50, 51, 52, 53, 54, 55, 57, 62, 63, 64, 65] d d_14 h0 := yK.tr hfd_1 hfad_14 (by decide)
          have hE0d_14 : (d_14.1 h0 0).toInt = (d_1.1 h0 0).toInt := congrArg Int32.toInt (hfad_14 0 (by decide))
          have hE1d_14 : (d_14.1 h0 1).toInt = (d_1.1 h0 1).toInt := congrArg Int32.toInt (hfad_14 1 (by decide))
          have hE2d_14 : (d_14.1 h0 2).toInt = (d_1.1 h0 2).toInt := congrArg Int32.toInt (hfad_14 2 (by decide))
          have hE3d_14 : (d_14.1 h0 3).toInt = (d_1.1 h0 3).toInt := congrArg Int32.toInt (hfad_14 3 (by decide))
          have hId_14 : yMI S d_14 h0 := hxd_14
          have hgd_14 : yAg S [9, 69, 74, 75, 77, 78] d d_14 := yAg.tr hgd_1 hgad_14 (by first | decide | exact fun _ h => h)
          have hPod_14 : yPo S d_14 := hpad_14 hPod_1
          refine lv_aload_n hx hb dX9_by_54 rfl (lv_at hl 1 rfl) ?_
          refine lv_iload_n hx hb dX9_by_55 rfl (lv_at hl 2 rfl) ?_
          refine lv_iload_n hx hb dX9_by_56 rfl (lv_at hl 4 rfl) ?_
          refine lv_iconst (v := (-1)) hx hb dX9_by_57 (by decide) ?_
          refine lv_iconst (v := (-1)) hx hb dX9_by_58 (by decide) ?_
          refine lv_iconst (v := (-1)) hx hb dX9_by_59 (by decide) ?_
          have F_15 := fnlt (rfl : (p1 : Int32).toInt = (p1 : Int32).toInt) (by decide +kernel : ((-3) : Int32).toInt = (-3)) c_2
          have F_16 := fne (rfl : (p1 : Int32).toInt = (p1 : Int32).toInt) (by decide +kernel : ((-1) : Int32).toInt = (-1)) c_6
          have F_17 := flt (rfl : (p1 : Int32).toInt = (p1 : Int32).toInt) (by decide +kernel : (60 : Int32).toInt = 60) c_10
          have F_18 := feq (rfl : (r_11 : Int32).toInt = (r_11 : Int32).toInt) (by decide +kernel : (0 : Int32).toInt = 0) c_12
          refine yVwv (As := [.int p0, .int p2, .int (-1), .int (-1), .int (-1)]) (rest := []) C0 (g_X9_walk l G S d_14 h0 p0 p2 (-1) (-1) (-1) hSh hPod_14 hm_h0 hk_h0 hId_14 (by refine ⟨?_, ?_⟩ <;> omega) (by decide +kernel) hz_p2) ok_X9_walk (mW869 : Cond.methodLink RX9 344 yX9_walk ∈ wsT) ⟨Nat.le_of_ble_eq_true rfl, Nat.le_of_ble_eq_true rfl⟩ hP hD hS hA hK hN hm_h0 hk_h0 (by decide) rfl rfl rfl hl.1 rfl (Nat.le_of_ble_eq_true rfl) ⟨Nat.le_of_ble_eq_true rfl, Nat.le_of_ble_eq_true rfl⟩ dX9_by_60 (fun d_20 H locs hr_19 hP hD hS => ?_)
          obtain ⟨hgad_20, hpad_20, hfad_20, hxd_20⟩ := hr_19
          have hfd_20 : yK [38, 49, 50, 51, 52, 53, 54, 55, 57, 62, 63, 64, 65] d d_20 h0 := yK.tr hfd_14 hfad_20 (by decide)
          have hE0d_20 : (d_20.1 h0 0).toInt = (d_14.1 h0 0).toInt := congrArg Int32.toInt (hfad_20 0 (by decide))
          have hE1d_20 : (d_20.1 h0 1).toInt = (d_14.1 h0 1).toInt := congrArg Int32.toInt (hfad_20 1 (by decide))
          have hE2d_20 : (d_20.1 h0 2).toInt = (d_14.1 h0 2).toInt := congrArg Int32.toInt (hfad_20 2 (by decide))
          have hE3d_20 : (d_20.1 h0 3).toInt = (d_14.1 h0 3).toInt := congrArg Int32.toInt (hfad_20 3 (by decide))
          have hId_20 : yMI S d_20 h0 := hxd_20
          have hgd_20 : yAg S [9, 69, 74, 75, 77, 78] d d_20 := yAg.tr hgd_14 hgad_20 (by first | decide | exact fun _ h => h)
          have hPod_20 : yPo S d_20 := hpad_20 hPod_14
          refine lv_aload_n hx hb dX9_by_63 rfl (lv_at hl 1 rfl) ?_
          refine yget (ci := 9) (k := 57) (v := .int (d_20.1 h0 57)) (C := RX9) (T := TX9) (N := 67) C0 hK hP hm_h0 hk_h0 (by decide) rfl inlX9 (by decide) mW880 (fun _ h9 => h9) rfl dX9_by_64 ?_
          refine lv_topi (fun z_21 ez_21 => ?_)
          exact W.iret (v := z_21) hx hb hr (fun t ht hW => ⟨⟨z_21, d_20, rfl, ⟨hgd_20, (fun _ => hPod_20), hfd_20, hId_20⟩, by rw [ht]; exact hP, hD⟩, hS.F ht⟩) hS.2.2 dX9_by_67
        · refine lv_aload_n hx hb dX9_by_38 rfl (lv_at hl 1 rfl) ?_
          refine lv_iload hx hb dX9_by_39 (lv_at hl 0 rfl) ?_
          have F_22 := fnlt (rfl : (p1 : Int32).toInt = (p1 : Int32).toInt) (by decide +kernel : ((-3) : Int32).toInt = (-3)) c_2
          have F_23 := fne (rfl : (p1 : Int32).toInt = (p1 : Int32).toInt) (by decide +kernel : ((-1) : Int32).toInt = (-1)) c_6
          have F_24 := flt (rfl : (p1 : Int32).toInt = (p1 : Int32).toInt) (by decide +kernel : (60 : Int32).toInt = 60) c_10
          have F_25 := fne (rfl : (r_11 : Int32).toInt = (r_11 : Int32).toInt) (by decide +kernel : (0 : Int32).toInt = 0) c_12
          refine yVwi (As := [.int r_11]) (rest := []) C0 (g_X9_no l G S d_1 h0 r_11 hSh hPod_1 hm_h0 hk_h0 (by refine ⟨?_, ?_⟩ <;> omega)) ok_X9_no (mW177 : Cond.methodLink RX9 168 yX9_no ∈ wsT) ⟨Nat.le_of_ble_eq_true rfl, Nat.le_of_ble_eq_true rfl⟩ hP hD hS hA hK hN hm_h0 hk_h0 (by decide) rfl rfl rfl hl.1 rfl (Nat.le_of_ble_eq_true rfl) ⟨Nat.le_of_ble_eq_true rfl, Nat.le_of_ble_eq_true rfl⟩ dX9_by_41 (fun r_26 d_27 H locs hr_26 hP hD hS => ?_)
          obtain ⟨hgad_27, hpad_27, hfad_27, hxd_27⟩ := hr_26
          have hfd_27 : yK [38, 49, 50, 51, 52, 53, 54, 55, 57, 62, 63, 64, 65] d d_27 h0 := yK.tr hfd_1 hfad_27 (by decide)
          have hE0d_27 : (d_27.1 h0 0).toInt = (d_1.1 h0 0).toInt := congrArg Int32.toInt (hfad_27 0 (by decide))
          have hE1d_27 : (d_27.1 h0 1).toInt = (d_1.1 h0 1).toInt := congrArg Int32.toInt (hfad_27 1 (by decide))
          have hE2d_27 : (d_27.1 h0 2).toInt = (d_1.1 h0 2).toInt := congrArg Int32.toInt (hfad_27 2 (by decide))
          have hE3d_27 : (d_27.1 h0 3).toInt = (d_1.1 h0 3).toInt := congrArg Int32.toInt (hfad_27 3 (by decide))
          have hE63d_27 : (d_27.1 h0 63).toInt = (d_1.1 h0 63).toInt := congrArg Int32.toInt (hfad_27 63 (by decide))
          have hId_27 : yMI S d_27 h0 := yMI.ag hId_1 hSh hm_h0 hk_h0 hgad_27 hfad_27 (by decide) (by decide)
          have hgd_27 : yAg S [9, 69, 74, 75, 77, 78] d d_27 := yAg.tr hgd_1 hgad_27 (by first | decide | exact fun _ h => h)
          have hPod_27 : yPo S d_27 := hpad_27 hPod_1
          exact W.iret (v := r_26) hx hb hr (fun t ht hW => ⟨⟨r_26, d_27, rfl, ⟨hgd_27, (fun _ => hPod_27), hfd_27, hId_27⟩, by rw [ht]; exact hP, hD⟩, hS.F ht⟩) hS.2.2 dX9_by_44
      · refine lv_iconst (v := 1) hx hb dX9_by_22 (by decide) ?_
        refine lv_goto (tgt := 31) hx hb dX9_by_23 (by decide) ?_
        refine lv_istore (lv' := [(4, .int 1), (0, .ref h0), (1, .int p0), (2, .int p1), (3, .int p2)]) hx hb dX9_by_31 hl (by decide) rfl (fun ls hl => ?_)
        refine lv_iload hx hb dX9_by_33 (lv_at hl 0 rfl) ?_
        refine lv_if_eq (tgt := 45) hx hb dX9_by_35 (by decide) (fun c_28 => absurd c_28 (by decide +kernel)) (fun c_28 => ?_)
        refine lv_aload_n hx hb dX9_by_38 rfl (lv_at hl 1 rfl) ?_
        refine lv_iload hx hb dX9_by_39 (lv_at hl 0 rfl) ?_
        refine yVwi (As := [.int 1]) (rest := []) C0 (g_X9_no l G S d_1 h0 1 hSh hPod_1 hm_h0 hk_h0 (by decide +kernel)) ok_X9_no (mW177 : Cond.methodLink RX9 168 yX9_no ∈ wsT) ⟨Nat.le_of_ble_eq_true rfl, Nat.le_of_ble_eq_true rfl⟩ hP hD hS hA hK hN hm_h0 hk_h0 (by decide) rfl rfl rfl hl.1 rfl (Nat.le_of_ble_eq_true rfl) ⟨Nat.le_of_ble_eq_true rfl, Nat.le_of_ble_eq_true rfl⟩ dX9_by_41 (fun r_29 d_30 H locs hr_29 hP hD hS => ?_)
        obtain ⟨hgad_30, hpad_30, hfad_30, hxd_30⟩ := hr_29
        have hfd_30 : yK [38, 49, 50, 51, 52, 53, 54, 55, 57, 62, 63, 64, 65] d d_30 h0 := yK.tr hfd_1 hfad_30 (by decide)
        have hE0d_30 : (d_30.1 h0 0).toInt = (d_1.1 h0 0).toInt := congrArg Int32.toInt (hfad_30 0 (by decide))
        have hE1d_30 : (d_30.1 h0 1).toInt = (d_1.1 h0 1).toInt := congrArg Int32.toInt (hfad_30 1 (by decide))
        have hE2d_30 : (d_30.1 h0 2).toInt = (d_1.1 h0 2).toInt := congrArg Int32.toInt (hfad_30 2 (by decide))
        have hE3d_30 : (d_30.1 h0 3).toInt = (d_1.1 h0 3).toInt := congrArg Int32.toInt (hfad_30 3 (by decide))
        have hE63d_30 : (d_30.1 h0 63).toInt = (d_1.1 h0 63).toInt := congrArg Int32.toInt (hfad_30 63 (by decide))
        have hId_30 : yMI S d_30 h0 := yMI.ag hId_1 hSh hm_h0 hk_h0 hgad_30 hfad_30 (by decide) (by decide)
        have hgd_30 : yAg S [9, 69, 74, 75, 77, 78] d d_30 := yAg.tr hgd_1 hgad_30 (by first | decide | exact fun _ h => h)
        have hPod_30 : yPo S d_30 := hpad_30 hPod_1
        exact W.iret (v := r_29) hx hb hr (fun t ht hW => ⟨⟨r_29, d_30, rfl, ⟨hgd_30, (fun _ => hPod_30), hfd_30, hId_30⟩, by rw [ht]; exact hP, hD⟩, hS.F ht⟩) hS.2.2 dX9_by_44
theorem dX9_sum_0 : decode cX9_sum 0 = .ok (.aload_n 0, 1) := by decide +kernel
theorem dX9_sum_1 : decode cX9_sum 1 = .ok (.iconst 0, 1) := by decide +kernel
theorem dX9_sum_2 : decode cX9_sum 2 = .ok (.putfield 147, 3) := by decide +kernel
theorem dX9_sum_5 : decode cX9_sum 5 = .ok (.iload_n 2, 1) := by decide +kernel
theorem dX9_sum_6 : decode cX9_sum 6 = .ok (.ifCond .lt 9, 3) := by decide +kernel
theorem dX9_sum_9 : decode cX9_sum 9 = .ok (.iload_n 2, 1) := by decide +kernel
theorem dX9_sum_10 : decode cX9_sum 10 = .ok (.bipush 8, 2) := by decide +kernel
theorem dX9_sum_12 : decode cX9_sum 12 = .ok (.if_icmp .le 7, 3) := by decide +kernel
theorem dX9_sum_15 : decode cX9_sum 15 = .ok (.iconst 1, 1) := by decide +kernel
theorem dX9_sum_16 : decode cX9_sum 16 = .ok (.goto 8, 3) := by decide +kernel
theorem dX9_sum_19 : decode cX9_sum 19 = .ok (.aload_n 0, 1) := by decide +kernel
theorem dX9_sum_20 : decode cX9_sum 20 = .ok (.iload_n 1, 1) := by decide +kernel
theorem dX9_sum_21 : decode cX9_sum 21 = .ok (.invokevirtual 165, 3) := by decide +kernel
theorem dX9_sum_24 : decode cX9_sum 24 = .ok (.istore 4, 2) := by decide +kernel
theorem dX9_sum_26 : decode cX9_sum 26 = .ok (.iload 4, 2) := by decide +kernel
theorem dX9_sum_28 : decode cX9_sum 28 = .ok (.ifCond .eq 11, 3) := by decide +kernel
theorem dX9_sum_31 : decode cX9_sum 31 = .ok (.aload_n 0, 1) := by decide +kernel
theorem dX9_sum_32 : decode cX9_sum 32 = .ok (.iload 4, 2) := by decide +kernel
theorem dX9_sum_34 : decode cX9_sum 34 = .ok (.invokevirtual 168, 3) := by decide +kernel
theorem dX9_sum_37 : decode cX9_sum 37 = .ok (.i2l, 1) := by decide +kernel
theorem dX9_sum_38 : decode cX9_sum 38 = .ok (.lreturn, 1) := by decide +kernel
theorem dX9_sum_39 : decode cX9_sum 39 = .ok (.aload_n 0, 1) := by decide +kernel
theorem dX9_sum_40 : decode cX9_sum 40 = .ok (.iconst (-1), 1) := by decide +kernel
theorem dX9_sum_41 : decode cX9_sum 41 = .ok (.iconst (-1), 1) := by decide +kernel
theorem dX9_sum_42 : decode cX9_sum 42 = .ok (.iconst 0, 1) := by decide +kernel
theorem dX9_sum_43 : decode cX9_sum 43 = .ok (.iconst 0, 1) := by decide +kernel
theorem dX9_sum_44 : decode cX9_sum 44 = .ok (.bipush (-9), 2) := by decide +kernel
theorem dX9_sum_46 : decode cX9_sum 46 = .ok (.invokevirtual 340, 3) := by decide +kernel
theorem dX9_sum_49 : decode cX9_sum 49 = .ok (.aload_n 0, 1) := by decide +kernel
theorem dX9_sum_50 : decode cX9_sum 50 = .ok (.iload_n 1, 1) := by decide +kernel
theorem dX9_sum_51 : decode cX9_sum 51 = .ok (.iload_n 3, 1) := by decide +kernel
theorem dX9_sum_52 : decode cX9_sum 52 = .ok (.iconst (-1), 1) := by decide +kernel
theorem dX9_sum_53 : decode cX9_sum 53 = .ok (.iconst (-1), 1) := by decide +kernel
theorem dX9_sum_54 : decode cX9_sum 54 = .ok (.iconst (-1), 1) := by decide +kernel
theorem dX9_sum_55 : decode cX9_sum 55 = .ok (.invokevirtual 344, 3) := by decide +kernel
theorem dX9_sum_58 : decode cX9_sum 58 = .ok (.aload_n 0, 1) := by decide +kernel
theorem dX9_sum_59 : decode cX9_sum 59 = .ok (.iload_n 1, 1) := by decide +kernel
theorem dX9_sum_60 : decode cX9_sum 60 = .ok (.invokevirtual 354, 3) := by decide +kernel
theorem dX9_sum_63 : decode cX9_sum 63 = .ok (.istore 5, 2) := by decide +kernel
theorem dX9_sum_65 : decode cX9_sum 65 = .ok (.iload_n 2, 1) := by decide +kernel
theorem dX9_sum_66 : decode cX9_sum 66 = .ok (.tableswitch 143 0 7 #[46, 51, 56, 76, 81, 87, 134, 139], 46) := by decide +kernel
theorem dX9_sum_112 : decode cX9_sum 112 = .ok (.aload_n 0, 1) := by decide +kernel
theorem dX9_sum_113 : decode cX9_sum 113 = .ok (.getfield 247, 3) := by decide +kernel
theorem dX9_sum_116 : decode cX9_sum 116 = .ok (.lreturn, 1) := by decide +kernel
theorem dX9_sum_117 : decode cX9_sum 117 = .ok (.aload_n 0, 1) := by decide +kernel
theorem dX9_sum_118 : decode cX9_sum 118 = .ok (.getfield 251, 3) := by decide +kernel
theorem dX9_sum_121 : decode cX9_sum 121 = .ok (.lreturn, 1) := by decide +kernel
theorem dX9_sum_122 : decode cX9_sum 122 = .ok (.aload_n 0, 1) := by decide +kernel
theorem dX9_sum_123 : decode cX9_sum 123 = .ok (.getfield 254, 3) := by decide +kernel
theorem dX9_sum_126 : decode cX9_sum 126 = .ok (.lconst 0, 1) := by decide +kernel
theorem dX9_sum_127 : decode cX9_sum 127 = .ok (.lcmp, 1) := by decide +kernel
theorem dX9_sum_128 : decode cX9_sum 128 = .ok (.ifCond .ne 9, 3) := by decide +kernel
theorem dX9_sum_131 : decode cX9_sum 131 = .ok (.ldc2_w 193, 3) := by decide +kernel
theorem dX9_sum_134 : decode cX9_sum 134 = .ok (.goto 7, 3) := by decide +kernel
theorem dX9_sum_137 : decode cX9_sum 137 = .ok (.aload_n 0, 1) := by decide +kernel
theorem dX9_sum_138 : decode cX9_sum 138 = .ok (.getfield 257, 3) := by decide +kernel
theorem dX9_sum_141 : decode cX9_sum 141 = .ok (.lreturn, 1) := by decide +kernel
theorem dX9_sum_142 : decode cX9_sum 142 = .ok (.aload_n 0, 1) := by decide +kernel
theorem dX9_sum_143 : decode cX9_sum 143 = .ok (.invokevirtual 357, 3) := by decide +kernel
theorem dX9_sum_146 : decode cX9_sum 146 = .ok (.lreturn, 1) := by decide +kernel
theorem dX9_sum_147 : decode cX9_sum 147 = .ok (.aload_n 0, 1) := by decide +kernel
theorem dX9_sum_148 : decode cX9_sum 148 = .ok (.iload_n 1, 1) := by decide +kernel
theorem dX9_sum_149 : decode cX9_sum 149 = .ok (.invokevirtual 361, 3) := by decide +kernel
theorem dX9_sum_152 : decode cX9_sum 152 = .ok (.lreturn, 1) := by decide +kernel
theorem dX9_sum_153 : decode cX9_sum 153 = .ok (.aload_n 0, 1) := by decide +kernel
theorem dX9_sum_154 : decode cX9_sum 154 = .ok (.invokevirtual 357, 3) := by decide +kernel
theorem dX9_sum_157 : decode cX9_sum 157 = .ok (.aload_n 0, 1) := by decide +kernel
theorem dX9_sum_158 : decode cX9_sum 158 = .ok (.getfield 36, 3) := by decide +kernel
theorem dX9_sum_161 : decode cX9_sum 161 = .ok (.bipush 12, 2) := by decide +kernel
theorem dX9_sum_163 : decode cX9_sum 163 = .ok (.iload 5, 2) := by decide +kernel
theorem dX9_sum_165 : decode cX9_sum 165 = .ok (.imul, 1) := by decide +kernel
theorem dX9_sum_166 : decode cX9_sum 166 = .ok (.bipush 8, 2) := by decide +kernel
theorem dX9_sum_168 : decode cX9_sum 168 = .ok (.iadd, 1) := by decide +kernel
theorem dX9_sum_169 : decode cX9_sum 169 = .ok (.laload, 1) := by decide +kernel
theorem dX9_sum_170 : decode cX9_sum 170 = .ok (.lmul, 1) := by decide +kernel
theorem dX9_sum_171 : decode cX9_sum 171 = .ok (.ldc2_w 365, 3) := by decide +kernel
theorem dX9_sum_174 : decode cX9_sum 174 = .ok (.ldiv, 1) := by decide +kernel
theorem dX9_sum_175 : decode cX9_sum 175 = .ok (.aload_n 0, 1) := by decide +kernel
theorem dX9_sum_176 : decode cX9_sum 176 = .ok (.iload_n 1, 1) := by decide +kernel
theorem dX9_sum_177 : decode cX9_sum 177 = .ok (.invokevirtual 361, 3) := by decide +kernel
theorem dX9_sum_180 : decode cX9_sum 180 = .ok (.aload_n 0, 1) := by decide +kernel
theorem dX9_sum_181 : decode cX9_sum 181 = .ok (.getfield 36, 3) := by decide +kernel
theorem dX9_sum_184 : decode cX9_sum 184 = .ok (.bipush 12, 2) := by decide +kernel
theorem dX9_sum_186 : decode cX9_sum 186 = .ok (.iload 5, 2) := by decide +kernel
theorem dX9_sum_188 : decode cX9_sum 188 = .ok (.imul, 1) := by decide +kernel
theorem dX9_sum_189 : decode cX9_sum 189 = .ok (.bipush 9, 2) := by decide +kernel
theorem dX9_sum_191 : decode cX9_sum 191 = .ok (.iadd, 1) := by decide +kernel
theorem dX9_sum_192 : decode cX9_sum 192 = .ok (.laload, 1) := by decide +kernel
theorem dX9_sum_193 : decode cX9_sum 193 = .ok (.lmul, 1) := by decide +kernel
theorem dX9_sum_194 : decode cX9_sum 194 = .ok (.ldc2_w 365, 3) := by decide +kernel
theorem dX9_sum_197 : decode cX9_sum 197 = .ok (.ldiv, 1) := by decide +kernel
theorem dX9_sum_198 : decode cX9_sum 198 = .ok (.lsub, 1) := by decide +kernel
theorem dX9_sum_199 : decode cX9_sum 199 = .ok (.lreturn, 1) := by decide +kernel
theorem dX9_sum_200 : decode cX9_sum 200 = .ok (.aload_n 0, 1) := by decide +kernel
theorem dX9_sum_201 : decode cX9_sum 201 = .ok (.getfield 254, 3) := by decide +kernel
theorem dX9_sum_204 : decode cX9_sum 204 = .ok (.lreturn, 1) := by decide +kernel
theorem dX9_sum_205 : decode cX9_sum 205 = .ok (.iload 5, 2) := by decide +kernel
theorem dX9_sum_207 : decode cX9_sum 207 = .ok (.i2l, 1) := by decide +kernel
theorem dX9_sum_208 : decode cX9_sum 208 = .ok (.lreturn, 1) := by decide +kernel
theorem dX9_sum_209 : decode cX9_sum 209 = .ok (.aload_n 0, 1) := by decide +kernel
theorem dX9_sum_210 : decode cX9_sum 210 = .ok (.getfield 260, 3) := by decide +kernel
theorem dX9_sum_213 : decode cX9_sum 213 = .ok (.i2l, 1) := by decide +kernel
theorem dX9_sum_214 : decode cX9_sum 214 = .ok (.lreturn, 1) := by decide +kernel
set_option maxHeartbeats 4000000 in
set_option maxRecDepth 100000 in
theorem g_X9_sum (l : Launch) (G : xG) (S : yS) (d : yD) (h0 : Nat) (p0 : Int32) (p1 : Int32) (p2 : Int32) (hSh : ySh S) (hPo : yPo S d) (hm_h0 : h0 ∈ S.1) (hk_h0 : S.2.1 h0 = 9) (hI : yMI S d h0) (hz_p2 : p2 = 0 ∨ p2 = 1) : xWl l G yX9_sum cX9_sum 6 (some .long) 7 156 0 0 [.ref h0, .int p0, .int p1, .int p2] (yW G S d) (fun r (u : yD) => yAg S [9, 69, 74, 75, 77, 78] d u ∧ (yPo S d → yPo S u) ∧ yK [38, 49, 50, 51, 52, 53, 54, 55, 57, 62, 63, 64, 65] d u h0 ∧ (yMI S u h0)) (fun u => yW G S u) := by
  intro sz
  refine xstart (by decide) (Nat.le_of_ble_eq_true rfl) (fun p e s m args below meth c ls C0 hr hlocks hin hsz hP hK hD hN hl => ?_)
  obtain ⟨hx, hb, hml, hown, htl⟩ := id C0
  subst hsz
  have hD := hD.self (sz := s.heap.size)
  generalize hAe : va_A (yW G S d) s.heap.size = A at hD ⊢
  have hA : ∀ q : Nat, s.heap.size ≤ q → A q := fun q h => by rw [← hAe]; exact Or.inr h
  have hS : va_S A s.heap s.heap [] := va_S.rf
  have hg0 : yAg S [9, 69, 74, 75, 77, 78] d d := yAg.rf
  have hl : lv_has ls 6 [(0, .ref h0), (1, .int p0), (2, .int p1), (3, .int p2)] := hl
  refine lv_aload_n hx hb dX9_sum_0 rfl (lv_at hl 0 rfl) ?_
  refine lv_iconst (v := 0) hx hb dX9_sum_1 (by decide) ?_
  refine yputI (ci := 9) (k := 38) (ty := .int) (C := RX9) (T := TX9) (N := 67) C0 hK hP hD hS hm_h0 hk_h0 (by decide) rfl inlX9 tyX9 tyX9_ok nmX9 (by decide) mW175 (fun _ h9 => h9) rfl (by decide +kernel) rfl rfl (Nat.le_of_ble_eq_true rfl) ysi_9_38 dX9_sum_2 (fun H locs hP hD hS => ?_)
  obtain ⟨d_1, ed_1⟩ : ∃ z : yD, z = yi d h0 38 0 := ⟨_, rfl⟩
  rw [← ed_1] at hP hD
  have hgd_1 : yAg S [9, 69, 74, 75, 77, 78] d d_1 := by rw [ed_1]; exact yAg.i hg0 (by rw [hk_h0]; decide)
  have hPod_1 : yPo S d_1 := by rw [ed_1]; exact yPo.i hPo hk_h0 (Or.inl rfl)
  have hfd_1 : yK [38, 49, 50, 51, 52, 53, 54, 55, 57, 62, 63, 64, 65] d d_1 h0 := by rw [ed_1]; exact yK.i yK.rf (by decide)
  have hId_1 : yMI S d_1 h0 := yMI.ag hI hSh hm_h0 hk_h0 (show yAg S [9] d d_1 from by rw [ed_1]; exact yAg.i yAg.rf (by rw [hk_h0]; decide)) (show yK [38] d d_1 h0 from by rw [ed_1]; exact yK.i yK.rf (by decide)) (by decide) (by decide)
  have hE0d_1 : (d_1.1 h0 0).toInt = (d.1 h0 0).toInt := congrArg Int32.toInt ((show yK [38] d d_1 h0 from by rw [ed_1]; exact yK.i yK.rf (by decide)) 0 (by decide))
  have hE1d_1 : (d_1.1 h0 1).toInt = (d.1 h0 1).toInt := congrArg Int32.toInt ((show yK [38] d d_1 h0 from by rw [ed_1]; exact yK.i yK.rf (by decide)) 1 (by decide))
  have hE2d_1 : (d_1.1 h0 2).toInt = (d.1 h0 2).toInt := congrArg Int32.toInt ((show yK [38] d d_1 h0 from by rw [ed_1]; exact yK.i yK.rf (by decide)) 2 (by decide))
  have hE3d_1 : (d_1.1 h0 3).toInt = (d.1 h0 3).toInt := congrArg Int32.toInt ((show yK [38] d d_1 h0 from by rw [ed_1]; exact yK.i yK.rf (by decide)) 3 (by decide))
  have hE63d_1 : (d_1.1 h0 63).toInt = (d.1 h0 63).toInt := congrArg Int32.toInt ((show yK [38] d d_1 h0 from by rw [ed_1]; exact yK.i yK.rf (by decide)) 63 (by decide))
  refine lv_iload_n hx hb dX9_sum_5 rfl (lv_at hl 2 rfl) ?_
  refine lv_if_lt (tgt := 15) hx hb dX9_sum_6 (by decide) (fun c_2 => ?_) (fun c_2 => ?_)
  · refine lv_iconst (v := 1) hx hb dX9_sum_15 (by decide) ?_
    refine lv_goto (tgt := 24) hx hb dX9_sum_16 (by decide) ?_
    refine lv_istore (lv' := [(4, .int 1), (0, .ref h0), (1, .int p0), (2, .int p1), (3, .int p2)]) hx hb dX9_sum_24 hl (by decide) rfl (fun ls hl => ?_)
    refine lv_iload hx hb dX9_sum_26 (lv_at hl 0 rfl) ?_
    refine lv_if_eq (tgt := 39) hx hb dX9_sum_28 (by decide) (fun c_3 => absurd c_3 (by decide +kernel)) (fun c_3 => ?_)
    refine lv_aload_n hx hb dX9_sum_31 rfl (lv_at hl 1 rfl) ?_
    refine lv_iload hx hb dX9_sum_32 (lv_at hl 0 rfl) ?_
    refine yVwi (As := [.int 1]) (rest := []) C0 (g_X9_no l G S d_1 h0 1 hSh hPod_1 hm_h0 hk_h0 (by decide +kernel)) ok_X9_no (mW177 : Cond.methodLink RX9 168 yX9_no ∈ wsT) ⟨Nat.le_of_ble_eq_true rfl, Nat.le_of_ble_eq_true rfl⟩ hP hD hS hA hK hN hm_h0 hk_h0 (by decide) rfl rfl rfl hl.1 rfl (Nat.le_of_ble_eq_true rfl) ⟨Nat.le_of_ble_eq_true rfl, Nat.le_of_ble_eq_true rfl⟩ dX9_sum_34 (fun r_4 d_5 H locs hr_4 hP hD hS => ?_)
    obtain ⟨hgad_5, hpad_5, hfad_5, hxd_5⟩ := hr_4
    have hfd_5 : yK [38, 49, 50, 51, 52, 53, 54, 55, 57, 62, 63, 64, 65] d d_5 h0 := yK.tr hfd_1 hfad_5 (by decide)
    have hE0d_5 : (d_5.1 h0 0).toInt = (d_1.1 h0 0).toInt := congrArg Int32.toInt (hfad_5 0 (by decide))
    have hE1d_5 : (d_5.1 h0 1).toInt = (d_1.1 h0 1).toInt := congrArg Int32.toInt (hfad_5 1 (by decide))
    have hE2d_5 : (d_5.1 h0 2).toInt = (d_1.1 h0 2).toInt := congrArg Int32.toInt (hfad_5 2 (by decide))
    have hE3d_5 : (d_5.1 h0 3).toInt = (d_1.1 h0 3).toInt := congrArg Int32.toInt (hfad_5 3 (by decide))
    have hE63d_5 : (d_5.1 h0 63).toInt = (d_1.1 h0 63).toInt := congrArg Int32.toInt (hfad_5 63 (by decide))
    have hId_5 : yMI S d_5 h0 := yMI.ag hId_1 hSh hm_h0 hk_h0 hgad_5 hfad_5 (by decide) (by decide)
    have hgd_5 : yAg S [9, 69, 74, 75, 77, 78] d d_5 := yAg.tr hgd_1 hgad_5 (by first | decide | exact fun _ h => h)
    have hPod_5 : yPo S d_5 := hpad_5 hPod_1
    refine lv_i2l hx hb dX9_sum_37 rfl ?_
    refine lv_topl (fun z_6 ez_6 => ?_)
    exact W.lret (v := z_6) hx hb hr (fun t ht hW => ⟨⟨z_6, d_5, rfl, ⟨hgd_5, (fun _ => hPod_5), hfd_5, hId_5⟩, by rw [ht]; exact hP, hD⟩, hS.F ht⟩) hS.2.2 dX9_sum_38
  · refine lv_iload_n hx hb dX9_sum_9 rfl (lv_at hl 2 rfl) ?_
    refine lv_bipush (v := 8) hx hb dX9_sum_10 (by decide) ?_
    refine lv_icmp_le (tgt := 19) hx hb dX9_sum_12 (by decide) (fun c_7 => ?_) (fun c_7 => ?_)
    · refine lv_aload_n hx hb dX9_sum_19 rfl (lv_at hl 0 rfl) ?_
      refine lv_iload_n hx hb dX9_sum_20 rfl (lv_at hl 1 rfl) ?_
      refine yVri (As := [.int p0]) (rest := []) C0 (g_X9_portWhy l G S d_1 h0 p0 hSh hm_h0 hk_h0) ok_X9_portWhy (mW387 : Cond.methodLink RX9 165 yX9_portWhy ∈ wsT) ⟨Nat.le_of_ble_eq_true rfl, Nat.le_of_ble_eq_true rfl⟩ hP hD hK hN hm_h0 hk_h0 (by decide) rfl rfl rfl hl.1 rfl (Nat.le_of_ble_eq_true rfl) ⟨Nat.le_of_ble_eq_true rfl, Nat.le_of_ble_eq_true rfl⟩ dX9_sum_21 (fun r_8 hr_8 => ?_)
      refine lv_istore (lv' := [(4, .int r_8), (0, .ref h0), (1, .int p0), (2, .int p1), (3, .int p2)]) hx hb dX9_sum_24 hl (by decide) rfl (fun ls hl => ?_)
      refine lv_iload hx hb dX9_sum_26 (lv_at hl 0 rfl) ?_
      refine lv_if_eq (tgt := 39) hx hb dX9_sum_28 (by decide) (fun c_9 => ?_) (fun c_9 => ?_)
      · refine lv_aload_n hx hb dX9_sum_39 rfl (lv_at hl 1 rfl) ?_
        refine lv_iconst (v := (-1)) hx hb dX9_sum_40 (by decide) ?_
        refine lv_iconst (v := (-1)) hx hb dX9_sum_41 (by decide) ?_
        refine lv_iconst (v := 0) hx hb dX9_sum_42 (by decide) ?_
        refine lv_iconst (v := 0) hx hb dX9_sum_43 (by decide) ?_
        refine lv_bipush (v := (-9)) hx hb dX9_sum_44 (by decide) ?_
        refine yVwv (As := [.int (-1), .int (-1), .int 0, .int 0, .int (-9)]) (rest := []) C0 (g_X9_seek l G S d_1 h0 (-1) (-1) 0 0 (-9) hSh hPod_1 hm_h0 hk_h0 hId_1) ok_X9_seek (mW857 : Cond.methodLink RX9 340 yX9_seek ∈ wsT) ⟨Nat.le_of_ble_eq_true rfl, Nat.le_of_ble_eq_true rfl⟩ hP hD hS hA hK hN hm_h0 hk_h0 (by decide) rfl rfl rfl hl.1 rfl (Nat.le_of_ble_eq_true rfl) ⟨Nat.le_of_ble_eq_true rfl, Nat.le_of_ble_eq_true rfl⟩ dX9_sum_46 (fun d_11 H locs hr_10 hP hD hS => ?_)
        obtain ⟨hgad_11, hpad_11, hfad_11, hxd_11⟩ := hr_10
        have hfd_11 : yK [38, 49, 50, 51, 52, 53, 54, 55, 57, 62, 63, 64, 65] d d_11 h0 := yK.tr hfd_1 hfad_11 (by decide)
        have hE0d_11 : (d_11.1 h0 0).toInt = (d_1.1 h0 0).toInt := congrArg Int32.toInt (hfad_11 0 (by decide))
        have hE1d_11 : (d_11.1 h0 1).toInt = (d_1.1 h0 1).toInt := congrArg Int32.toInt (hfad_11 1 (by decide))
        have hE2d_11 : (d_11.1 h0 2).toInt = (d_1.1 h0 2).toInt := congrArg Int32.toInt (hfad_11 2 (by decide))
        have hE3d_11 : (d_11.1 h0 3).toInt = (d_1.1 h0 3).toInt := congrArg Int32.toInt (hfad_11 3 (by decide))
        have hId_11 : yMI S d_11 h0 := hxd_11
        have hgd_11 : yAg S [9, 69, 74, 75, 77, 78] d d_11 := yAg.tr hgd_1 hgad_11 (by first | decide | exact fun _ h => h)
        have hPod_11 : yPo S d_11 := hpad_11 hPod_1
        refine lv_aload_n hx hb dX9_sum_49 rfl (lv_at hl 1 rfl) ?_
        refine lv_iload_n hx hb dX9_sum_50 rfl (lv_at hl 2 rfl) ?_
        refine lv_iload_n hx hb dX9_sum_51 rfl (lv_at hl 4 rfl) ?_
        refine lv_iconst (v := (-1)) hx hb dX9_sum_52 (by decide) ?_
        refine lv_iconst (v := (-1)) hx hb dX9_sum_53 (by decide) ?_
        refine lv_iconst (v := (-1)) hx hb dX9_sum_54 (by decide) ?_
        have F_12 := fnlt (rfl : (p1 : Int32).toInt = (p1 : Int32).toInt) (by decide +kernel : (0 : Int32).toInt = 0) c_2
        have F_13 := fle (rfl : (p1 : Int32).toInt = (p1 : Int32).toInt) (by decide +kernel : (8 : Int32).toInt = 8) c_7
        have F_14 := feq (rfl : (r_8 : Int32).toInt = (r_8 : Int32).toInt) (by decide +kernel : (0 : Int32).toInt = 0) c_9
        refine yVwv (As := [.int p0, .int p2, .int (-1), .int (-1), .int (-1)]) (rest := []) C0 (g_X9_walk l G S d_11 h0 p0 p2 (-1) (-1) (-1) hSh hPod_11 hm_h0 hk_h0 hId_11 (by refine ⟨?_, ?_⟩ <;> omega) (by decide +kernel) hz_p2) ok_X9_walk (mW869 : Cond.methodLink RX9 344 yX9_walk ∈ wsT) ⟨Nat.le_of_ble_eq_true rfl, Nat.le_of_ble_eq_true rfl⟩ hP hD hS hA hK hN hm_h0 hk_h0 (by decide) rfl rfl rfl hl.1 rfl (Nat.le_of_ble_eq_true rfl) ⟨Nat.le_of_ble_eq_true rfl, Nat.le_of_ble_eq_true rfl⟩ dX9_sum_55 (fun d_16 H locs hr_15 hP hD hS => ?_)
        obtain ⟨hgad_16, hpad_16, hfad_16, hxd_16⟩ := hr_15
        have hfd_16 : yK [38, 49, 50, 51, 52, 53, 54, 55, 57, 62, 63, 64, 65] d d_16 h0 := yK.tr hfd_11 hfad_16 (by decide)
        have hE0d_16 : (d_16.1 h0 0).toInt = (d_11.1 h0 0).toInt := congrArg Int32.toInt (hfad_16 0 (by decide))
        have hE1d_16 : (d_16.1 h0 1).toInt = (d_11.1 h0 1).toInt := congrArg Int32.toInt (hfad_16 1 (by decide))
        have hE2d_16 : (d_16.1 h0 2).toInt = (d_11.1 h0 2).toInt := congrArg Int32.toInt (hfad_16 2 (by decide))
        have hE3d_16 : (d_16.1 h0 3).toInt = (d_11.1 h0 3).toInt := congrArg Int32.toInt (hfad_16 3 (by decide))
        have hId_16 : yMI S d_16 h0 := hxd_16
        have hgd_16 : yAg S [9, 69, 74, 75, 77, 78] d d_16 := yAg.tr hgd_11 hgad_16 (by first | decide | exact fun _ h => h)
        have hPod_16 : yPo S d_16 := hpad_16 hPod_11
        refine lv_aload_n hx hb dX9_sum_58 rfl (lv_at hl 1 rfl) ?_
        refine lv_iload_n hx hb dX9_sum_59 rfl (lv_at hl 2 rfl) ?_
        refine yVri (As := [.int p0]) (rest := []) C0 (g_X9_leastPort l G S d_16 h0 p0 hSh hm_h0 hk_h0 hId_16 (by refine ⟨?_, ?_⟩ <;> omega)) ok_X9_leastPort (mW992 : Cond.methodLink RX9 354 yX9_leastPort ∈ wsT) ⟨Nat.le_of_ble_eq_true rfl, Nat.le_of_ble_eq_true rfl⟩ hP hD hK hN hm_h0 hk_h0 (by decide) rfl rfl rfl hl.1 rfl (Nat.le_of_ble_eq_true rfl) ⟨Nat.le_of_ble_eq_true rfl, Nat.le_of_ble_eq_true rfl⟩ dX9_sum_60 (fun r_17 hr_17 => ?_)
        refine lv_istore (lv' := [(5, .int r_17), (4, .int r_8), (0, .ref h0), (1, .int p0), (2, .int p1), (3, .int p2)]) hx hb dX9_sum_63 hl (by decide) rfl (fun ls hl => ?_)
        refine lv_iload_n hx hb dX9_sum_65 rfl (lv_at hl 4 rfl) ?_
        rcases xtab p1 8 (by decide) with hsw_18 | ⟨k_19, hk_19, hsw_18⟩
        · refine lv_tableOut (tgt := 209) hx hb dX9_sum_66 (by omega) (by decide) ?_
          refine lv_aload_n hx hb dX9_sum_209 rfl (lv_at hl 2 rfl) ?_
          refine yget (ci := 9) (k := 62) (v := .int (d_16.1 h0 62)) (C := RX9) (T := TX9) (N := 67) C0 hK hP hm_h0 hk_h0 (by decide) rfl inlX9 (by decide) mW877 (fun _ h9 => h9) rfl dX9_sum_210 ?_
          refine lv_topi (fun z_20 ez_20 => ?_)
          refine lv_i2l hx hb dX9_sum_213 rfl ?_
          refine lv_topl (fun z_21 ez_21 => ?_)
          exact W.lret (v := z_21) hx hb hr (fun t ht hW => ⟨⟨z_21, d_16, rfl, ⟨hgd_16, (fun _ => hPod_16), hfd_16, hId_16⟩, by rw [ht]; exact hP, hD⟩, hS.F ht⟩) hS.2.2 dX9_sum_214
        · obtain rfl | rfl | rfl | rfl | rfl | rfl | rfl | rfl : k_19 = 0 ∨ k_19 = 1 ∨ k_19 = 2 ∨ k_19 = 3 ∨ k_19 = 4 ∨ k_19 = 5 ∨ k_19 = 6 ∨ k_19 = 7 := by omega
          · subst hsw_18
            refine lv_tableIn (tgt := 112) (off := 46) hx hb dX9_sum_66 (by decide +kernel) (by decide +kernel) (by decide +kernel) (by decide) ?_
            refine lv_aload_n hx hb dX9_sum_112 rfl (lv_at hl 2 rfl) ?_
            refine yget (ci := 9) (k := 58) (v := .long (d_16.2.1 h0 58)) (C := RX9) (T := TX9) (N := 67) C0 hK hP hm_h0 hk_h0 (by decide) rfl inlX9 (by decide) mW873 (fun _ h9 => h9) rfl dX9_sum_113 ?_
            refine lv_topl (fun z_22 ez_22 => ?_)
            exact W.lret (v := z_22) hx hb hr (fun t ht hW => ⟨⟨z_22, d_16, rfl, ⟨hgd_16, (fun _ => hPod_16), hfd_16, hId_16⟩, by rw [ht]; exact hP, hD⟩, hS.F ht⟩) hS.2.2 dX9_sum_116
          · subst hsw_18
            refine lv_tableIn (tgt := 117) (off := 51) hx hb dX9_sum_66 (by decide +kernel) (by decide +kernel) (by decide +kernel) (by decide) ?_
            refine lv_aload_n hx hb dX9_sum_117 rfl (lv_at hl 2 rfl) ?_
            refine yget (ci := 9) (k := 59) (v := .long (d_16.2.1 h0 59)) (C := RX9) (T := TX9) (N := 67) C0 hK hP hm_h0 hk_h0 (by decide) rfl inlX9 (by decide) mW874 (fun _ h9 => h9) rfl dX9_sum_118 ?_
            refine lv_topl (fun z_23 ez_23 => ?_)
            exact W.lret (v := z_23) hx hb hr (fun t ht hW => ⟨⟨z_23, d_16, rfl, ⟨hgd_16, (fun _ => hPod_16), hfd_16, hId_16⟩, by rw [ht]; exact hP, hD⟩, hS.F ht⟩) hS.2.2 dX9_sum_121
          · subst hsw_18
            refine lv_tableIn (tgt := 122) (off := 56) hx hb dX9_sum_66 (by decide +kernel) (by decide +kernel) (by decide +kernel) (by decide) ?_
            refine lv_aload_n hx hb dX9_sum_122 rfl (lv_at hl 2 rfl) ?_
            refine yget (ci := 9) (k := 60) (v := .long (d_16.2.1 h0 60)) (C := RX9) (T := TX9) (N := 67) C0 hK hP hm_h0 hk_h0 (by decide) rfl inlX9 (by decide) mW875 (fun _ h9 => h9) rfl dX9_sum_123 ?_
            refine lv_topl (fun z_24 ez_24 => ?_)
            refine lv_lconst (v := 0) hx hb dX9_sum_126 (by decide) ?_
            refine W.lcmp hx hb dX9_sum_127 ?_
            refine lv_topi (fun z_25 ez_25 => ?_)
            refine lv_if_ne (tgt := 137) hx hb dX9_sum_128 (by decide) (fun c_26 => ?_) (fun c_26 => ?_)
            · refine lv_aload_n hx hb dX9_sum_137 rfl (lv_at hl 2 rfl) ?_
              refine yget (ci := 9) (k := 61) (v := .long (d_16.2.1 h0 61)) (C := RX9) (T := TX9) (N := 67) C0 hK hP hm_h0 hk_h0 (by decide) rfl inlX9 (by decide) mW876 (fun _ h9 => h9) rfl dX9_sum_138 ?_
              refine lv_topl (fun z_27 ez_27 => ?_)
              exact W.lret (v := z_27) hx hb hr (fun t ht hW => ⟨⟨z_27, d_16, rfl, ⟨hgd_16, (fun _ => hPod_16), hfd_16, hId_16⟩, by rw [ht]; exact hP, hD⟩, hS.F ht⟩) hS.2.2 dX9_sum_141
            · refine lv_ldc2 (v := (-1)) hx hb hown (htl (.constantLong RX9 193 (-1)) mW369) dX9_sum_131 ?_
              refine lv_goto (tgt := 141) hx hb dX9_sum_134 (by decide) ?_
              exact W.lret (v := (-1)) hx hb hr (fun t ht hW => ⟨⟨(-1), d_16, rfl, ⟨hgd_16, (fun _ => hPod_16), hfd_16, hId_16⟩, by rw [ht]; exact hP, hD⟩, hS.F ht⟩) hS.2.2 dX9_sum_141
          · subst hsw_18
            refine lv_tableIn (tgt := 142) (off := 76) hx hb dX9_sum_66 (by decide +kernel) (by decide +kernel) (by decide +kernel) (by decide) ?_
            refine lv_aload_n hx hb dX9_sum_142 rfl (lv_at hl 2 rfl) ?_
            refine yVrl (As := []) (rest := []) C0 (g_X9_owed l G S d_16 h0 hSh hm_h0 hk_h0) ok_X9_owed (mW996 : Cond.methodLink RX9 357 yX9_owed ∈ wsT) ⟨Nat.le_of_ble_eq_true rfl, Nat.le_of_ble_eq_true rfl⟩ hP hD hK hN hm_h0 hk_h0 (by decide) rfl rfl rfl hl.1 rfl (Nat.le_of_ble_eq_true rfl) ⟨Nat.le_of_ble_eq_true rfl, Nat.le_of_ble_eq_true rfl⟩ dX9_sum_143 (fun r_28 hr_28 => ?_)
            exact W.lret (v := r_28) hx hb hr (fun t ht hW => ⟨⟨r_28, d_16, rfl, ⟨hgd_16, (fun _ => hPod_16), hfd_16, hId_16⟩, by rw [ht]; exact hP, hD⟩, hS.F ht⟩) hS.2.2 dX9_sum_146
          · subst hsw_18
            refine lv_tableIn (tgt := 147) (off := 81) hx hb dX9_sum_66 (by decide +kernel) (by decide +kernel) (by decide +kernel) (by decide) ?_
            refine lv_aload_n hx hb dX9_sum_147 rfl (lv_at hl 2 rfl) ?_
            refine lv_iload_n hx hb dX9_sum_148 rfl (lv_at hl 3 rfl) ?_
            refine yVrl (As := [.int p0]) (rest := []) C0 (g_X9_saved l G S d_16 h0 p0 hSh hm_h0 hk_h0 hId_16 (by refine ⟨?_, ?_⟩ <;> omega)) ok_X9_saved (mW1000 : Cond.methodLink RX9 361 yX9_saved ∈ wsT) ⟨Nat.le_of_ble_eq_true rfl, Nat.le_of_ble_eq_true rfl⟩ hP hD hK hN hm_h0 hk_h0 (by decide) rfl rfl rfl hl.1 rfl (Nat.le_of_ble_eq_true rfl) ⟨Nat.le_of_ble_eq_true rfl, Nat.le_of_ble_eq_true rfl⟩ dX9_sum_149 (fun r_29 hr_29 => ?_)
            exact W.lret (v := r_29) hx hb hr (fun t ht hW => ⟨⟨r_29, d_16, rfl, ⟨hgd_16, (fun _ => hPod_16), hfd_16, hId_16⟩, by rw [ht]; exact hP, hD⟩, hS.F ht⟩) hS.2.2 dX9_sum_152
          · subst hsw_18
            refine lv_tableIn (tgt := 153) (off := 87) hx hb dX9_sum_66 (by decide +kernel) (by decide +kernel) (by decide +kernel) (by decide) ?_
            refine lv_aload_n hx hb dX9_sum_153 rfl (lv_at hl 2 rfl) ?_
            refine yVrl (As := []) (rest := []) C0 (g_X9_owed l G S d_16 h0 hSh hm_h0 hk_h0) ok_X9_owed (mW996 : Cond.methodLink RX9 357 yX9_owed ∈ wsT) ⟨Nat.le_of_ble_eq_true rfl, Nat.le_of_ble_eq_true rfl⟩ hP hD hK hN hm_h0 hk_h0 (by decide) rfl rfl rfl hl.1 rfl (Nat.le_of_ble_eq_true rfl) ⟨Nat.le_of_ble_eq_true rfl, Nat.le_of_ble_eq_true rfl⟩ dX9_sum_154 (fun r_30 hr_30 => ?_)
            refine lv_aload_n hx hb dX9_sum_157 rfl (lv_at hl 2 rfl) ?_
            refine yget (ci := 9) (k := 11) (v := .ref (S.2.2.1 h0 11)) (C := RX9) (T := TX9) (N := 67) C0 hK hP hm_h0 hk_h0 (by decide) rfl inlX9 (by decide) mW116 (fun _ h9 => h9) rfl dX9_sum_158 ?_
            obtain ⟨hmy_31, hky_31⟩ := ySh.f9_11 hSh _ hm_h0 hk_h0
            refine lv_bipush (v := 12) hx hb dX9_sum_161 (by decide) ?_
            refine lv_iload hx hb dX9_sum_163 (lv_at hl 0 rfl) ?_
            refine lv_imul hx hb dX9_sum_165 ?_
            refine lv_topi (fun z_32 ez_32 => ?_)
            refine lv_bipush (v := 8) hx hb dX9_sum_166 (by decide) ?_
            refine lv_iadd hx hb dX9_sum_168 ?_
            refine lv_topi (fun z_33 ez_33 => ?_)
            have hCC_34 := yMI.c hId_16
            have T_36 : (z_32 : Int32).toInt = 12 * (r_17 : Int32).toInt := tmul ez_32 (by decide +kernel : (12 : Int32).toInt = 12) (rfl : (r_17 : Int32).toInt = (r_17 : Int32).toInt) (by omega) (by omega)
            have T_35 : (z_33 : Int32).toInt = (z_32 : Int32).toInt + 8 := tadd ez_33 (rfl : (z_32 : Int32).toInt = (z_32 : Int32).toInt) (by decide +kernel : (8 : Int32).toInt = 8) (by omega) (by omega)
            refine yaldJ C0 hK hP hmy_31 hky_31 (by decide) rfl 4 rfl (xinT 96 rfl (by omega) (by omega)) dX9_sum_169 ?_
            refine lv_topl (fun z_37 ez_37 => ?_)
            refine lv_lmul hx hb dX9_sum_170 ?_
            refine lv_topl (fun z_38 ez_38 => ?_)
            refine lv_ldc2 (v := 2880) hx hb hown (htl (.constantLong RX9 365 (2880)) mW991) dX9_sum_171 ?_
            refine lv_ldiv hx hb dX9_sum_174 (by decide) ?_
            refine lv_topl (fun z_39 ez_39 => ?_)
            refine lv_aload_n hx hb dX9_sum_175 rfl (lv_at hl 2 rfl) ?_
            refine lv_iload_n hx hb dX9_sum_176 rfl (lv_at hl 3 rfl) ?_
            refine yVrl (As := [.int p0]) (rest := [.long z_39]) C0 (g_X9_saved l G S d_16 h0 p0 hSh hm_h0 hk_h0 hId_16 (by refine ⟨?_, ?_⟩ <;> omega)) ok_X9_saved (mW1000 : Cond.methodLink RX9 361 yX9_saved ∈ wsT) ⟨Nat.le_of_ble_eq_true rfl, Nat.le_of_ble_eq_true rfl⟩ hP hD hK hN hm_h0 hk_h0 (by decide) rfl rfl rfl hl.1 rfl (Nat.le_of_ble_eq_true rfl) ⟨Nat.le_of_ble_eq_true rfl, Nat.le_of_ble_eq_true rfl⟩ dX9_sum_177 (fun r_40 hr_40 => ?_)
            refine lv_aload_n hx hb dX9_sum_180 rfl (lv_at hl 2 rfl) ?_
            refine yget (ci := 9) (k := 11) (v := .ref (S.2.2.1 h0 11)) (C := RX9) (T := TX9) (N := 67) C0 hK hP hm_h0 hk_h0 (by decide) rfl inlX9 (by decide) mW116 (fun _ h9 => h9) rfl dX9_sum_181 ?_
            refine lv_bipush (v := 12) hx hb dX9_sum_184 (by decide) ?_
            refine lv_iload hx hb dX9_sum_186 (lv_at hl 0 rfl) ?_
            refine lv_imul hx hb dX9_sum_188 ?_
            refine lv_topi (fun z_41 ez_41 => ?_)
            refine lv_bipush (v := 9) hx hb dX9_sum_189 (by decide) ?_
            refine lv_iadd hx hb dX9_sum_191 ?_
            refine lv_topi (fun z_42 ez_42 => ?_)
            have T_44 : (z_41 : Int32).toInt = 12 * (r_17 : Int32).toInt := tmul ez_41 (by decide +kernel : (12 : Int32).toInt = 12) (rfl : (r_17 : Int32).toInt = (r_17 : Int32).toInt) (by omega) (by omega)
            have T_43 : (z_42 : Int32).toInt = (z_41 : Int32).toInt + 9 := tadd ez_42 (rfl : (z_41 : Int32).toInt = (z_41 : Int32).toInt) (by decide +kernel : (9 : Int32).toInt = 9) (by omega) (by omega)
            refine yaldJ C0 hK hP hmy_31 hky_31 (by decide) rfl 4 rfl (xinT 96 rfl (by omega) (by omega)) dX9_sum_192 ?_
            refine lv_topl (fun z_45 ez_45 => ?_)
            refine lv_lmul hx hb dX9_sum_193 ?_
            refine lv_topl (fun z_46 ez_46 => ?_)
            refine lv_ldc2 (v := 2880) hx hb hown (htl (.constantLong RX9 365 (2880)) mW991) dX9_sum_194 ?_
            refine lv_ldiv hx hb dX9_sum_197 (by decide) ?_
            refine lv_topl (fun z_47 ez_47 => ?_)
            refine lv_lsub hx hb dX9_sum_198 ?_
            refine lv_topl (fun z_48 ez_48 => ?_)
            exact W.lret (v := z_48) hx hb hr (fun t ht hW => ⟨⟨z_48, d_16, rfl, ⟨hgd_16, (fun _ => hPod_16), hfd_16, hId_16⟩, by rw [ht]; exact hP, hD⟩, hS.F ht⟩) hS.2.2 dX9_sum_199
          · subst hsw_18
            refine lv_tableIn (tgt := 200) (off := 134) hx hb dX9_sum_66 (by decide +kernel) (by decide +kernel) (by decide +kernel) (by decide) ?_
            refine lv_aload_n hx hb dX9_sum_200 rfl (lv_at hl 2 rfl) ?_
            refine yget (ci := 9) (k := 60) (v := .long (d_16.2.1 h0 60)) (C := RX9) (T := TX9) (N := 67) C0 hK hP hm_h0 hk_h0 (by decide) rfl inlX9 (by decide) mW875 (fun _ h9 => h9) rfl dX9_sum_201 ?_
            refine lv_topl (fun z_49 ez_49 => ?_)
            exact W.lret (v := z_49) hx hb hr (fun t ht hW => ⟨⟨z_49, d_16, rfl, ⟨hgd_16, (fun _ => hPod_16), hfd_16, hId_16⟩, by rw [ht]; exact hP, hD⟩, hS.F ht⟩) hS.2.2 dX9_sum_204
          · subst hsw_18
            refine lv_tableIn (tgt := 205) (off := 139) hx hb dX9_sum_66 (by decide +kernel) (by decide +kernel) (by decide +kernel) (by decide) ?_
            refine lv_iload hx hb dX9_sum_205 (lv_at hl 0 rfl) ?_
            refine lv_i2l hx hb dX9_sum_207 rfl ?_
            refine lv_topl (fun z_50 ez_50 => ?_)
            exact W.lret (v := z_50) hx hb hr (fun t ht hW => ⟨⟨z_50, d_16, rfl, ⟨hgd_16, (fun _ => hPod_16), hfd_16, hId_16⟩, by rw [ht]; exact hP, hD⟩, hS.F ht⟩) hS.2.2 dX9_sum_208
      · refine lv_aload_n hx hb dX9_sum_31 rfl (lv_at hl 1 rfl) ?_
        refine lv_iload hx hb dX9_sum_32 (lv_at hl 0 rfl) ?_
        have F_51 := fnlt (rfl : (p1 : Int32).toInt = (p1 : Int32).toInt) (by decide +kernel : (0 : Int32).toInt = 0) c_2
        have F_52 := fle (rfl : (p1 : Int32).toInt = (p1 : Int32).toInt) (by decide +kernel : (8 : Int32).toInt = 8) c_7
        have F_53 := fne (rfl : (r_8 : Int32).toInt = (r_8 : Int32).toInt) (by decide +kernel : (0 : Int32).toInt = 0) c_9
        refine yVwi (As := [.int r_8]) (rest := []) C0 (g_X9_no l G S d_1 h0 r_8 hSh hPod_1 hm_h0 hk_h0 (by refine ⟨?_, ?_⟩ <;> omega)) ok_X9_no (mW177 : Cond.methodLink RX9 168 yX9_no ∈ wsT) ⟨Nat.le_of_ble_eq_true rfl, Nat.le_of_ble_eq_true rfl⟩ hP hD hS hA hK hN hm_h0 hk_h0 (by decide) rfl rfl rfl hl.1 rfl (Nat.le_of_ble_eq_true rfl) ⟨Nat.le_of_ble_eq_true rfl, Nat.le_of_ble_eq_true rfl⟩ dX9_sum_34 (fun r_54 d_55 H locs hr_54 hP hD hS => ?_)
        obtain ⟨hgad_55, hpad_55, hfad_55, hxd_55⟩ := hr_54
        have hfd_55 : yK [38, 49, 50, 51, 52, 53, 54, 55, 57, 62, 63, 64, 65] d d_55 h0 := yK.tr hfd_1 hfad_55 (by decide)
        have hE0d_55 : (d_55.1 h0 0).toInt = (d_1.1 h0 0).toInt := congrArg Int32.toInt (hfad_55 0 (by decide))
        have hE1d_55 : (d_55.1 h0 1).toInt = (d_1.1 h0 1).toInt := congrArg Int32.toInt (hfad_55 1 (by decide))
        have hE2d_55 : (d_55.1 h0 2).toInt = (d_1.1 h0 2).toInt := congrArg Int32.toInt (hfad_55 2 (by decide))
        have hE3d_55 : (d_55.1 h0 3).toInt = (d_1.1 h0 3).toInt := congrArg Int32.toInt (hfad_55 3 (by decide))
        have hE63d_55 : (d_55.1 h0 63).toInt = (d_1.1 h0 63).toInt := congrArg Int32.toInt (hfad_55 63 (by decide))
        have hId_55 : yMI S d_55 h0 := yMI.ag hId_1 hSh hm_h0 hk_h0 hgad_55 hfad_55 (by decide) (by decide)
        have hgd_55 : yAg S [9, 69, 74, 75, 77, 78] d d_55 := yAg.tr hgd_1 hgad_55 (by first | decide | exact fun _ h => h)
        have hPod_55 : yPo S d_55 := hpad_55 hPod_1
        refine lv_i2l hx hb dX9_sum_37 rfl ?_
        refine lv_topl (fun z_56 ez_56 => ?_)
        exact W.lret (v := z_56) hx hb hr (fun t ht hW => ⟨⟨z_56, d_55, rfl, ⟨hgd_55, (fun _ => hPod_55), hfd_55, hId_55⟩, by rw [ht]; exact hP, hD⟩, hS.F ht⟩) hS.2.2 dX9_sum_38
    · refine lv_iconst (v := 1) hx hb dX9_sum_15 (by decide) ?_
      refine lv_goto (tgt := 24) hx hb dX9_sum_16 (by decide) ?_
      refine lv_istore (lv' := [(4, .int 1), (0, .ref h0), (1, .int p0), (2, .int p1), (3, .int p2)]) hx hb dX9_sum_24 hl (by decide) rfl (fun ls hl => ?_)
      refine lv_iload hx hb dX9_sum_26 (lv_at hl 0 rfl) ?_
      refine lv_if_eq (tgt := 39) hx hb dX9_sum_28 (by decide) (fun c_57 => absurd c_57 (by decide +kernel)) (fun c_57 => ?_)
      refine lv_aload_n hx hb dX9_sum_31 rfl (lv_at hl 1 rfl) ?_
      refine lv_iload hx hb dX9_sum_32 (lv_at hl 0 rfl) ?_
      refine yVwi (As := [.int 1]) (rest := []) C0 (g_X9_no l G S d_1 h0 1 hSh hPod_1 hm_h0 hk_h0 (by decide +kernel)) ok_X9_no (mW177 : Cond.methodLink RX9 168 yX9_no ∈ wsT) ⟨Nat.le_of_ble_eq_true rfl, Nat.le_of_ble_eq_true rfl⟩ hP hD hS hA hK hN hm_h0 hk_h0 (by decide) rfl rfl rfl hl.1 rfl (Nat.le_of_ble_eq_true rfl) ⟨Nat.le_of_ble_eq_true rfl, Nat.le_of_ble_eq_true rfl⟩ dX9_sum_34 (fun r_58 d_59 H locs hr_58 hP hD hS => ?_)
      obtain ⟨hgad_59, hpad_59, hfad_59, hxd_59⟩ := hr_58
      have hfd_59 : yK [38, 49, 50, 51, 52, 53, 54, 55, 57, 62, 63, 64, 65] d d_59 h0 := yK.tr hfd_1 hfad_59 (by decide)
      have hE0d_59 : (d_59.1 h0 0).toInt = (d_1.1 h0 0).toInt := congrArg Int32.toInt (hfad_59 0 (by decide))
      have hE1d_59 : (d_59.1 h0 1).toInt = (d_1.1 h0 1).toInt := congrArg Int32.toInt (hfad_59 1 (by decide))
      have hE2d_59 : (d_59.1 h0 2).toInt = (d_1.1 h0 2).toInt := congrArg Int32.toInt (hfad_59 2 (by decide))
      have hE3d_59 : (d_59.1 h0 3).toInt = (d_1.1 h0 3).toInt := congrArg Int32.toInt (hfad_59 3 (by decide))
      have hE63d_59 : (d_59.1 h0 63).toInt = (d_1.1 h0 63).toInt := congrArg Int32.toInt (hfad_59 63 (by decide))
      have hId_59 : yMI S d_59 h0 := yMI.ag hId_1 hSh hm_h0 hk_h0 hgad_59 hfad_59 (by decide) (by decide)
      have hgd_59 : yAg S [9, 69, 74, 75, 77, 78] d d_59 := yAg.tr hgd_1 hgad_59 (by first | decide | exact fun _ h => h)
      have hPod_59 : yPo S d_59 := hpad_59 hPod_1
      refine lv_i2l hx hb dX9_sum_37 rfl ?_
      refine lv_topl (fun z_60 ez_60 => ?_)
      exact W.lret (v := z_60) hx hb hr (fun t ht hW => ⟨⟨z_60, d_59, rfl, ⟨hgd_59, (fun _ => hPod_59), hfd_59, hId_59⟩, by rw [ht]; exact hP, hD⟩, hS.F ht⟩) hS.2.2 dX9_sum_38
theorem dX9_as_0 : decode cX9_as 0 = .ok (.aload_n 0, 1) := by decide +kernel
theorem dX9_as_1 : decode cX9_as 1 = .ok (.iconst 0, 1) := by decide +kernel
theorem dX9_as_2 : decode cX9_as 2 = .ok (.putfield 147, 3) := by decide +kernel
theorem dX9_as_5 : decode cX9_as 5 = .ok (.iload_n 2, 1) := by decide +kernel
theorem dX9_as_6 : decode cX9_as 6 = .ok (.ifCond .lt 20, 3) := by decide +kernel
theorem dX9_as_9 : decode cX9_as 9 = .ok (.iload_n 2, 1) := by decide +kernel
theorem dX9_as_10 : decode cX9_as 10 = .ok (.bipush 60, 2) := by decide +kernel
theorem dX9_as_12 : decode cX9_as 12 = .ok (.if_icmp .ge 14, 3) := by decide +kernel
theorem dX9_as_15 : decode cX9_as 15 = .ok (.iload_n 3, 1) := by decide +kernel
theorem dX9_as_16 : decode cX9_as 16 = .ok (.iconst (-1), 1) := by decide +kernel
theorem dX9_as_17 : decode cX9_as 17 = .ok (.if_icmp .lt 9, 3) := by decide +kernel
theorem dX9_as_20 : decode cX9_as 20 = .ok (.iload_n 3, 1) := by decide +kernel
theorem dX9_as_21 : decode cX9_as 21 = .ok (.bipush 60, 2) := by decide +kernel
theorem dX9_as_23 : decode cX9_as 23 = .ok (.if_icmp .lt 7, 3) := by decide +kernel
theorem dX9_as_26 : decode cX9_as 26 = .ok (.iconst 1, 1) := by decide +kernel
theorem dX9_as_27 : decode cX9_as 27 = .ok (.goto 8, 3) := by decide +kernel
theorem dX9_as_30 : decode cX9_as 30 = .ok (.aload_n 0, 1) := by decide +kernel
theorem dX9_as_31 : decode cX9_as 31 = .ok (.iload_n 1, 1) := by decide +kernel
theorem dX9_as_32 : decode cX9_as 32 = .ok (.invokevirtual 165, 3) := by decide +kernel
theorem dX9_as_35 : decode cX9_as 35 = .ok (.istore 5, 2) := by decide +kernel
theorem dX9_as_37 : decode cX9_as 37 = .ok (.iload 5, 2) := by decide +kernel
theorem dX9_as_39 : decode cX9_as 39 = .ok (.ifCond .eq 11, 3) := by decide +kernel
theorem dX9_as_42 : decode cX9_as 42 = .ok (.aload_n 0, 1) := by decide +kernel
theorem dX9_as_43 : decode cX9_as 43 = .ok (.iload 5, 2) := by decide +kernel
theorem dX9_as_45 : decode cX9_as 45 = .ok (.invokevirtual 168, 3) := by decide +kernel
theorem dX9_as_48 : decode cX9_as 48 = .ok (.i2l, 1) := by decide +kernel
theorem dX9_as_49 : decode cX9_as 49 = .ok (.lreturn, 1) := by decide +kernel
theorem dX9_as_50 : decode cX9_as 50 = .ok (.aload_n 0, 1) := by decide +kernel
theorem dX9_as_51 : decode cX9_as 51 = .ok (.iconst (-1), 1) := by decide +kernel
theorem dX9_as_52 : decode cX9_as 52 = .ok (.iconst (-1), 1) := by decide +kernel
theorem dX9_as_53 : decode cX9_as 53 = .ok (.iconst 0, 1) := by decide +kernel
theorem dX9_as_54 : decode cX9_as 54 = .ok (.iconst 0, 1) := by decide +kernel
theorem dX9_as_55 : decode cX9_as 55 = .ok (.bipush (-9), 2) := by decide +kernel
theorem dX9_as_57 : decode cX9_as 57 = .ok (.invokevirtual 340, 3) := by decide +kernel
theorem dX9_as_60 : decode cX9_as 60 = .ok (.aload_n 0, 1) := by decide +kernel
theorem dX9_as_61 : decode cX9_as 61 = .ok (.iload_n 1, 1) := by decide +kernel
theorem dX9_as_62 : decode cX9_as 62 = .ok (.iload 4, 2) := by decide +kernel
theorem dX9_as_64 : decode cX9_as 64 = .ok (.iload_n 2, 1) := by decide +kernel
theorem dX9_as_65 : decode cX9_as 65 = .ok (.iload_n 3, 1) := by decide +kernel
theorem dX9_as_66 : decode cX9_as 66 = .ok (.aload_n 0, 1) := by decide +kernel
theorem dX9_as_67 : decode cX9_as 67 = .ok (.iload_n 1, 1) := by decide +kernel
theorem dX9_as_68 : decode cX9_as 68 = .ok (.iconst 1, 1) := by decide +kernel
theorem dX9_as_69 : decode cX9_as 69 = .ok (.invokevirtual 161, 3) := by decide +kernel
theorem dX9_as_72 : decode cX9_as 72 = .ok (.invokevirtual 344, 3) := by decide +kernel
theorem dX9_as_75 : decode cX9_as 75 = .ok (.aload_n 0, 1) := by decide +kernel
theorem dX9_as_76 : decode cX9_as 76 = .ok (.invokevirtual 357, 3) := by decide +kernel
theorem dX9_as_79 : decode cX9_as 79 = .ok (.aload_n 0, 1) := by decide +kernel
theorem dX9_as_80 : decode cX9_as 80 = .ok (.iload_n 1, 1) := by decide +kernel
theorem dX9_as_81 : decode cX9_as 81 = .ok (.invokevirtual 361, 3) := by decide +kernel
theorem dX9_as_84 : decode cX9_as 84 = .ok (.lsub, 1) := by decide +kernel
theorem dX9_as_85 : decode cX9_as 85 = .ok (.lreturn, 1) := by decide +kernel
set_option maxHeartbeats 4000000 in
set_option maxRecDepth 100000 in
theorem g_X9_as (l : Launch) (G : xG) (S : yS) (d : yD) (h0 : Nat) (p0 : Int32) (p1 : Int32) (p2 : Int32) (p3 : Int32) (hSh : ySh S) (hPo : yPo S d) (hm_h0 : h0 ∈ S.1) (hk_h0 : S.2.1 h0 = 9) (hI : yMI S d h0) (hz_p3 : p3 = 0 ∨ p3 = 1) : xWl l G yX9_as cX9_as 6 (some .long) 7 156 0 0 [.ref h0, .int p0, .int p1, .int p2, .int p3] (yW G S d) (fun r (u : yD) => yAg S [9, 69, 74, 75, 77, 78] d u ∧ (yPo S d → yPo S u) ∧ yK [38, 49, 50, 51, 52, 53, 54, 55, 57, 62, 63, 64, 65] d u h0 ∧ (yMI S u h0)) (fun u => yW G S u) := by
  intro sz
  refine xstart (by decide) (Nat.le_of_ble_eq_true rfl) (fun p e s m args below meth c ls C0 hr hlocks hin hsz hP hK hD hN hl => ?_)
  obtain ⟨hx, hb, hml, hown, htl⟩ := id C0
  subst hsz
  have hD := hD.self (sz := s.heap.size)
  generalize hAe : va_A (yW G S d) s.heap.size = A at hD ⊢
  have hA : ∀ q : Nat, s.heap.size ≤ q → A q := fun q h => by rw [← hAe]; exact Or.inr h
  have hS : va_S A s.heap s.heap [] := va_S.rf
  have hg0 : yAg S [9, 69, 74, 75, 77, 78] d d := yAg.rf
  have hl : lv_has ls 6 [(0, .ref h0), (1, .int p0), (2, .int p1), (3, .int p2), (4, .int p3)] := hl
  refine lv_aload_n hx hb dX9_as_0 rfl (lv_at hl 0 rfl) ?_
  refine lv_iconst (v := 0) hx hb dX9_as_1 (by decide) ?_
  refine yputI (ci := 9) (k := 38) (ty := .int) (C := RX9) (T := TX9) (N := 67) C0 hK hP hD hS hm_h0 hk_h0 (by decide) rfl inlX9 tyX9 tyX9_ok nmX9 (by decide) mW175 (fun _ h9 => h9) rfl (by decide +kernel) rfl rfl (Nat.le_of_ble_eq_true rfl) ysi_9_38 dX9_as_2 (fun H locs hP hD hS => ?_)
  obtain ⟨d_1, ed_1⟩ : ∃ z : yD, z = yi d h0 38 0 := ⟨_, rfl⟩
  rw [← ed_1] at hP hD
  have hgd_1 : yAg S [9, 69, 74, 75, 77, 78] d d_1 := by rw [ed_1]; exact yAg.i hg0 (by rw [hk_h0]; decide)
  have hPod_1 : yPo S d_1 := by rw [ed_1]; exact yPo.i hPo hk_h0 (Or.inl rfl)
  have hfd_1 : yK [38, 49, 50, 51, 52, 53, 54, 55, 57, 62, 63, 64, 65] d d_1 h0 := by rw [ed_1]; exact yK.i yK.rf (by decide)
  have hId_1 : yMI S d_1 h0 := yMI.ag hI hSh hm_h0 hk_h0 (show yAg S [9] d d_1 from by rw [ed_1]; exact yAg.i yAg.rf (by rw [hk_h0]; decide)) (show yK [38] d d_1 h0 from by rw [ed_1]; exact yK.i yK.rf (by decide)) (by decide) (by decide)
  have hE0d_1 : (d_1.1 h0 0).toInt = (d.1 h0 0).toInt := congrArg Int32.toInt ((show yK [38] d d_1 h0 from by rw [ed_1]; exact yK.i yK.rf (by decide)) 0 (by decide))
  have hE1d_1 : (d_1.1 h0 1).toInt = (d.1 h0 1).toInt := congrArg Int32.toInt ((show yK [38] d d_1 h0 from by rw [ed_1]; exact yK.i yK.rf (by decide)) 1 (by decide))
  have hE2d_1 : (d_1.1 h0 2).toInt = (d.1 h0 2).toInt := congrArg Int32.toInt ((show yK [38] d d_1 h0 from by rw [ed_1]; exact yK.i yK.rf (by decide)) 2 (by decide))
  have hE3d_1 : (d_1.1 h0 3).toInt = (d.1 h0 3).toInt := congrArg Int32.toInt ((show yK [38] d d_1 h0 from by rw [ed_1]; exact yK.i yK.rf (by decide)) 3 (by decide))
  have hE63d_1 : (d_1.1 h0 63).toInt = (d.1 h0 63).toInt := congrArg Int32.toInt ((show yK [38] d d_1 h0 from by rw [ed_1]; exact yK.i yK.rf (by decide)) 63 (by decide))
  refine lv_iload_n hx hb dX9_as_5 rfl (lv_at hl 2 rfl) ?_
  refine lv_if_lt (tgt := 26) hx hb dX9_as_6 (by decide) (fun c_2 => ?_) (fun c_2 => ?_)
  · refine lv_iconst (v := 1) hx hb dX9_as_26 (by decide) ?_
    refine lv_goto (tgt := 35) hx hb dX9_as_27 (by decide) ?_
    refine lv_istore (lv' := [(5, .int 1), (0, .ref h0), (1, .int p0), (2, .int p1), (3, .int p2), (4, .int p3)]) hx hb dX9_as_35 hl (by decide) rfl (fun ls hl => ?_)
    refine lv_iload hx hb dX9_as_37 (lv_at hl 0 rfl) ?_
    refine lv_if_eq (tgt := 50) hx hb dX9_as_39 (by decide) (fun c_3 => absurd c_3 (by decide +kernel)) (fun c_3 => ?_)
    refine lv_aload_n hx hb dX9_as_42 rfl (lv_at hl 1 rfl) ?_
    refine lv_iload hx hb dX9_as_43 (lv_at hl 0 rfl) ?_
    refine yVwi (As := [.int 1]) (rest := []) C0 (g_X9_no l G S d_1 h0 1 hSh hPod_1 hm_h0 hk_h0 (by decide +kernel)) ok_X9_no (mW177 : Cond.methodLink RX9 168 yX9_no ∈ wsT) ⟨Nat.le_of_ble_eq_true rfl, Nat.le_of_ble_eq_true rfl⟩ hP hD hS hA hK hN hm_h0 hk_h0 (by decide) rfl rfl rfl hl.1 rfl (Nat.le_of_ble_eq_true rfl) ⟨Nat.le_of_ble_eq_true rfl, Nat.le_of_ble_eq_true rfl⟩ dX9_as_45 (fun r_4 d_5 H locs hr_4 hP hD hS => ?_)
    obtain ⟨hgad_5, hpad_5, hfad_5, hxd_5⟩ := hr_4
    have hfd_5 : yK [38, 49, 50, 51, 52, 53, 54, 55, 57, 62, 63, 64, 65] d d_5 h0 := yK.tr hfd_1 hfad_5 (by decide)
    have hE0d_5 : (d_5.1 h0 0).toInt = (d_1.1 h0 0).toInt := congrArg Int32.toInt (hfad_5 0 (by decide))
    have hE1d_5 : (d_5.1 h0 1).toInt = (d_1.1 h0 1).toInt := congrArg Int32.toInt (hfad_5 1 (by decide))
    have hE2d_5 : (d_5.1 h0 2).toInt = (d_1.1 h0 2).toInt := congrArg Int32.toInt (hfad_5 2 (by decide))
    have hE3d_5 : (d_5.1 h0 3).toInt = (d_1.1 h0 3).toInt := congrArg Int32.toInt (hfad_5 3 (by decide))
    have hE63d_5 : (d_5.1 h0 63).toInt = (d_1.1 h0 63).toInt := congrArg Int32.toInt (hfad_5 63 (by decide))
    have hId_5 : yMI S d_5 h0 := yMI.ag hId_1 hSh hm_h0 hk_h0 hgad_5 hfad_5 (by decide) (by decide)
    have hgd_5 : yAg S [9, 69, 74, 75, 77, 78] d d_5 := yAg.tr hgd_1 hgad_5 (by first | decide | exact fun _ h => h)
    have hPod_5 : yPo S d_5 := hpad_5 hPod_1
    refine lv_i2l hx hb dX9_as_48 rfl ?_
    refine lv_topl (fun z_6 ez_6 => ?_)
    exact W.lret (v := z_6) hx hb hr (fun t ht hW => ⟨⟨z_6, d_5, rfl, ⟨hgd_5, (fun _ => hPod_5), hfd_5, hId_5⟩, by rw [ht]; exact hP, hD⟩, hS.F ht⟩) hS.2.2 dX9_as_49
  · refine lv_iload_n hx hb dX9_as_9 rfl (lv_at hl 2 rfl) ?_
    refine lv_bipush (v := 60) hx hb dX9_as_10 (by decide) ?_
    refine lv_icmp_ge (tgt := 26) hx hb dX9_as_12 (by decide) (fun c_7 => ?_) (fun c_7 => ?_)
    · refine lv_iconst (v := 1) hx hb dX9_as_26 (by decide) ?_
      refine lv_goto (tgt := 35) hx hb dX9_as_27 (by decide) ?_
      refine lv_istore (lv' := [(5, .int 1), (0, .ref h0), (1, .int p0), (2, .int p1), (3, .int p2), (4, .int p3)]) hx hb dX9_as_35 hl (by decide) rfl (fun ls hl => ?_)
      refine lv_iload hx hb dX9_as_37 (lv_at hl 0 rfl) ?_
      refine lv_if_eq (tgt := 50) hx hb dX9_as_39 (by decide) (fun c_8 => absurd c_8 (by decide +kernel)) (fun c_8 => ?_)
      refine lv_aload_n hx hb dX9_as_42 rfl (lv_at hl 1 rfl) ?_
      refine lv_iload hx hb dX9_as_43 (lv_at hl 0 rfl) ?_
      refine yVwi (As := [.int 1]) (rest := []) C0 (g_X9_no l G S d_1 h0 1 hSh hPod_1 hm_h0 hk_h0 (by decide +kernel)) ok_X9_no (mW177 : Cond.methodLink RX9 168 yX9_no ∈ wsT) ⟨Nat.le_of_ble_eq_true rfl, Nat.le_of_ble_eq_true rfl⟩ hP hD hS hA hK hN hm_h0 hk_h0 (by decide) rfl rfl rfl hl.1 rfl (Nat.le_of_ble_eq_true rfl) ⟨Nat.le_of_ble_eq_true rfl, Nat.le_of_ble_eq_true rfl⟩ dX9_as_45 (fun r_9 d_10 H locs hr_9 hP hD hS => ?_)
      obtain ⟨hgad_10, hpad_10, hfad_10, hxd_10⟩ := hr_9
      have hfd_10 : yK [38, 49, 50, 51, 52, 53, 54, 55, 57, 62, 63, 64, 65] d d_10 h0 := yK.tr hfd_1 hfad_10 (by decide)
      have hE0d_10 : (d_10.1 h0 0).toInt = (d_1.1 h0 0).toInt := congrArg Int32.toInt (hfad_10 0 (by decide))
      have hE1d_10 : (d_10.1 h0 1).toInt = (d_1.1 h0 1).toInt := congrArg Int32.toInt (hfad_10 1 (by decide))
      have hE2d_10 : (d_10.1 h0 2).toInt = (d_1.1 h0 2).toInt := congrArg Int32.toInt (hfad_10 2 (by decide))
      have hE3d_10 : (d_10.1 h0 3).toInt = (d_1.1 h0 3).toInt := congrArg Int32.toInt (hfad_10 3 (by decide))
      have hE63d_10 : (d_10.1 h0 63).toInt = (d_1.1 h0 63).toInt := congrArg Int32.toInt (hfad_10 63 (by decide))
      have hId_10 : yMI S d_10 h0 := yMI.ag hId_1 hSh hm_h0 hk_h0 hgad_10 hfad_10 (by decide) (by decide)
      have hgd_10 : yAg S [9, 69, 74, 75, 77, 78] d d_10 := yAg.tr hgd_1 hgad_10 (by first | decide | exact fun _ h => h)
      have hPod_10 : yPo S d_10 := hpad_10 hPod_1
      refine lv_i2l hx hb dX9_as_48 rfl ?_
      refine lv_topl (fun z_11 ez_11 => ?_)
      exact W.lret (v := z_11) hx hb hr (fun t ht hW => ⟨⟨z_11, d_10, rfl, ⟨hgd_10, (fun _ => hPod_10), hfd_10, hId_10⟩, by rw [ht]; exact hP, hD⟩, hS.F ht⟩) hS.2.2 dX9_as_49
    · refine lv_iload_n hx hb dX9_as_15 rfl (lv_at hl 3 rfl) ?_
      refine lv_iconst (v := (-1)) hx hb dX9_as_16 (by decide) ?_
      refine lv_icmp_lt (tgt := 26) hx hb dX9_as_17 (by decide) (fun c_12 => ?_) (fun c_12 => ?_)
      · refine lv_iconst (v := 1) hx hb dX9_as_26 (by decide) ?_
        refine lv_goto (tgt := 35) hx hb dX9_as_27 (by decide) ?_
        refine lv_istore (lv' := [(5, .int 1), (0, .ref h0), (1, .int p0), (2, .int p1), (3, .int p2), (4, .int p3)]) hx hb dX9_as_35 hl (by decide) rfl (fun ls hl => ?_)
        refine lv_iload hx hb dX9_as_37 (lv_at hl 0 rfl) ?_
        refine lv_if_eq (tgt := 50) hx hb dX9_as_39 (by decide) (fun c_13 => absurd c_13 (by decide +kernel)) (fun c_13 => ?_)
        refine lv_aload_n hx hb dX9_as_42 rfl (lv_at hl 1 rfl) ?_
        refine lv_iload hx hb dX9_as_43 (lv_at hl 0 rfl) ?_
        refine yVwi (As := [.int 1]) (rest := []) C0 (g_X9_no l G S d_1 h0 1 hSh hPod_1 hm_h0 hk_h0 (by decide +kernel)) ok_X9_no (mW177 : Cond.methodLink RX9 168 yX9_no ∈ wsT) ⟨Nat.le_of_ble_eq_true rfl, Nat.le_of_ble_eq_true rfl⟩ hP hD hS hA hK hN hm_h0 hk_h0 (by decide) rfl rfl rfl hl.1 rfl (Nat.le_of_ble_eq_true rfl) ⟨Nat.le_of_ble_eq_true rfl, Nat.le_of_ble_eq_true rfl⟩ dX9_as_45 (fun r_14 d_15 H locs hr_14 hP hD hS => ?_)
        obtain ⟨hgad_15, hpad_15, hfad_15, hxd_15⟩ := hr_14
        have hfd_15 : yK [38, 49, 50, 51, 52, 53, 54, 55, 57, 62, 63, 64, 65] d d_15 h0 := yK.tr hfd_1 hfad_15 (by decide)
        have hE0d_15 : (d_15.1 h0 0).toInt = (d_1.1 h0 0).toInt := congrArg Int32.toInt (hfad_15 0 (by decide))
        have hE1d_15 : (d_15.1 h0 1).toInt = (d_1.1 h0 1).toInt := congrArg Int32.toInt (hfad_15 1 (by decide))
        have hE2d_15 : (d_15.1 h0 2).toInt = (d_1.1 h0 2).toInt := congrArg Int32.toInt (hfad_15 2 (by decide))
        have hE3d_15 : (d_15.1 h0 3).toInt = (d_1.1 h0 3).toInt := congrArg Int32.toInt (hfad_15 3 (by decide))
        have hE63d_15 : (d_15.1 h0 63).toInt = (d_1.1 h0 63).toInt := congrArg Int32.toInt (hfad_15 63 (by decide))
        have hId_15 : yMI S d_15 h0 := yMI.ag hId_1 hSh hm_h0 hk_h0 hgad_15 hfad_15 (by decide) (by decide)
        have hgd_15 : yAg S [9, 69, 74, 75, 77, 78] d d_15 := yAg.tr hgd_1 hgad_15 (by first | decide | exact fun _ h => h)
        have hPod_15 : yPo S d_15 := hpad_15 hPod_1
        refine lv_i2l hx hb dX9_as_48 rfl ?_
        refine lv_topl (fun z_16 ez_16 => ?_)
        exact W.lret (v := z_16) hx hb hr (fun t ht hW => ⟨⟨z_16, d_15, rfl, ⟨hgd_15, (fun _ => hPod_15), hfd_15, hId_15⟩, by rw [ht]; exact hP, hD⟩, hS.F ht⟩) hS.2.2 dX9_as_49
      · refine lv_iload_n hx hb dX9_as_20 rfl (lv_at hl 3 rfl) ?_
        refine lv_bipush (v := 60) hx hb dX9_as_21 (by decide) ?_
        refine lv_icmp_lt (tgt := 30) hx hb dX9_as_23 (by decide) (fun c_17 => ?_) (fun c_17 => ?_)
        · refine lv_aload_n hx hb dX9_as_30 rfl (lv_at hl 0 rfl) ?_
          refine lv_iload_n hx hb dX9_as_31 rfl (lv_at hl 1 rfl) ?_
          refine yVri (As := [.int p0]) (rest := []) C0 (g_X9_portWhy l G S d_1 h0 p0 hSh hm_h0 hk_h0) ok_X9_portWhy (mW387 : Cond.methodLink RX9 165 yX9_portWhy ∈ wsT) ⟨Nat.le_of_ble_eq_true rfl, Nat.le_of_ble_eq_true rfl⟩ hP hD hK hN hm_h0 hk_h0 (by decide) rfl rfl rfl hl.1 rfl (Nat.le_of_ble_eq_true rfl) ⟨Nat.le_of_ble_eq_true rfl, Nat.le_of_ble_eq_true rfl⟩ dX9_as_32 (fun r_18 hr_18 => ?_)
          refine lv_istore (lv' := [(5, .int r_18), (0, .ref h0), (1, .int p0), (2, .int p1), (3, .int p2), (4, .int p3)]) hx hb dX9_as_35 hl (by decide) rfl (fun ls hl => ?_)
          refine lv_iload hx hb dX9_as_37 (lv_at hl 0 rfl) ?_
          refine lv_if_eq (tgt := 50) hx hb dX9_as_39 (by decide) (fun c_19 => ?_) (fun c_19 => ?_)
          · refine lv_aload_n hx hb dX9_as_50 rfl (lv_at hl 1 rfl) ?_
            refine lv_iconst (v := (-1)) hx hb dX9_as_51 (by decide) ?_
            refine lv_iconst (v := (-1)) hx hb dX9_as_52 (by decide) ?_
            refine lv_iconst (v := 0) hx hb dX9_as_53 (by decide) ?_
            refine lv_iconst (v := 0) hx hb dX9_as_54 (by decide) ?_
            refine lv_bipush (v := (-9)) hx hb dX9_as_55 (by decide) ?_
            refine yVwv (As := [.int (-1), .int (-1), .int 0, .int 0, .int (-9)]) (rest := []) C0 (g_X9_seek l G S d_1 h0 (-1) (-1) 0 0 (-9) hSh hPod_1 hm_h0 hk_h0 hId_1) ok_X9_seek (mW857 : Cond.methodLink RX9 340 yX9_seek ∈ wsT) ⟨Nat.le_of_ble_eq_true rfl, Nat.le_of_ble_eq_true rfl⟩ hP hD hS hA hK hN hm_h0 hk_h0 (by decide) rfl rfl rfl hl.1 rfl (Nat.le_of_ble_eq_true rfl) ⟨Nat.le_of_ble_eq_true rfl, Nat.le_of_ble_eq_true rfl⟩ dX9_as_57 (fun d_21 H locs hr_20 hP hD hS => ?_)
            obtain ⟨hgad_21, hpad_21, hfad_21, hxd_21⟩ := hr_20
            have hfd_21 : yK [38, 49, 50, 51, 52, 53, 54, 55, 57, 62, 63, 64, 65] d d_21 h0 := yK.tr hfd_1 hfad_21 (by decide)
            have hE0d_21 : (d_21.1 h0 0).toInt = (d_1.1 h0 0).toInt := congrArg Int32.toInt (hfad_21 0 (by decide))
            have hE1d_21 : (d_21.1 h0 1).toInt = (d_1.1 h0 1).toInt := congrArg Int32.toInt (hfad_21 1 (by decide))
            have hE2d_21 : (d_21.1 h0 2).toInt = (d_1.1 h0 2).toInt := congrArg Int32.toInt (hfad_21 2 (by decide))
            have hE3d_21 : (d_21.1 h0 3).toInt = (d_1.1 h0 3).toInt := congrArg Int32.toInt (hfad_21 3 (by decide))
            have hId_21 : yMI S d_21 h0 := hxd_21
            have hgd_21 : yAg S [9, 69, 74, 75, 77, 78] d d_21 := yAg.tr hgd_1 hgad_21 (by first | decide | exact fun _ h => h)
            have hPod_21 : yPo S d_21 := hpad_21 hPod_1
            refine lv_aload_n hx hb dX9_as_60 rfl (lv_at hl 1 rfl) ?_
            refine lv_iload_n hx hb dX9_as_61 rfl (lv_at hl 2 rfl) ?_
            refine lv_iload hx hb dX9_as_62 (lv_at hl 5 rfl) ?_
            refine lv_iload_n hx hb dX9_as_64 rfl (lv_at hl 3 rfl) ?_
            refine lv_iload_n hx hb dX9_as_65 rfl (lv_at hl 4 rfl) ?_
            refine lv_aload_n hx hb dX9_as_66 rfl (lv_at hl 1 rfl) ?_
            refine lv_iload_n hx hb dX9_as_67 rfl (lv_at hl 2 rfl) ?_
            refine lv_iconst (v := 1) hx hb dX9_as_68 (by decide) ?_
            have F_22 := fnlt (rfl : (p1 : Int32).toInt = (p1 : Int32).toInt) (by decide +kernel : (0 : Int32).toInt = 0) c_2
            have F_23 := fnle (by decide +kernel : (60 : Int32).toInt = 60) (rfl : (p1 : Int32).toInt = (p1 : Int32).toInt) c_7
            have F_24 := fnlt (rfl : (p2 : Int32).toInt = (p2 : Int32).toInt) (by decide +kernel : ((-1) : Int32).toInt = (-1)) c_12
            have F_25 := flt (rfl : (p2 : Int32).toInt = (p2 : Int32).toInt) (by decide +kernel : (60 : Int32).toInt = 60) c_17
            have F_26 := feq (rfl : (r_18 : Int32).toInt = (r_18 : Int32).toInt) (by decide +kernel : (0 : Int32).toInt = 0) c_19
            refine yVri (As := [.int p0, .int 1]) (rest := [.int p2, .int p1, .int p3, .int p0, .ref h0]) C0 (g_X9_of l G S d_21 h0 p0 1 hSh hm_h0 hk_h0 (by refine ⟨?_, ?_⟩ <;> omega) (by decide +kernel)) ok_X9_of (mW425 : Cond.methodLink RX9 161 yX9_of ∈ wsT) ⟨Nat.le_of_ble_eq_true rfl, Nat.le_of_ble_eq_true rfl⟩ hP hD hK hN hm_h0 hk_h0 (by decide) rfl rfl rfl hl.1 rfl (Nat.le_of_ble_eq_true rfl) ⟨Nat.le_of_ble_eq_true rfl, Nat.le_of_ble_eq_true rfl⟩ dX9_as_69 (fun r_27 hr_27 => ?_)
            have hOr_27 : (r_27 : Int32).toInt = yOf S d_21 h0 (p0 : Int32).toInt.toNat 1 := by rw [hr_27, show (1 : Int32).toInt.toNat = 1 by decide +kernel]; rfl
            have hCC_28 := yMI.c hId_21
            have hbr_27 := xof1 hId_21 (p := p0) (by refine ⟨?_, ?_⟩ <;> omega) hr_27
            refine yVwv (As := [.int p0, .int p3, .int p1, .int p2, .int r_27]) (rest := []) C0 (g_X9_walk l G S d_21 h0 p0 p3 p1 p2 r_27 hSh hPod_21 hm_h0 hk_h0 hId_21 (by refine ⟨?_, ?_⟩ <;> omega) (by refine ⟨?_, ?_⟩ <;> omega) hz_p3) ok_X9_walk (mW869 : Cond.methodLink RX9 344 yX9_walk ∈ wsT) ⟨Nat.le_of_ble_eq_true rfl, Nat.le_of_ble_eq_true rfl⟩ hP hD hS hA hK hN hm_h0 hk_h0 (by decide) rfl rfl rfl hl.1 rfl (Nat.le_of_ble_eq_true rfl) ⟨Nat.le_of_ble_eq_true rfl, Nat.le_of_ble_eq_true rfl⟩ dX9_as_72 (fun d_30 H locs hr_29 hP hD hS => ?_)
            obtain ⟨hgad_30, hpad_30, hfad_30, hxd_30⟩ := hr_29
            have hfd_30 : yK [38, 49, 50, 51, 52, 53, 54, 55, 57, 62, 63, 64, 65] d d_30 h0 := yK.tr hfd_21 hfad_30 (by decide)
            have hE0d_30 : (d_30.1 h0 0).toInt = (d_21.1 h0 0).toInt := congrArg Int32.toInt (hfad_30 0 (by decide))
            have hE1d_30 : (d_30.1 h0 1).toInt = (d_21.1 h0 1).toInt := congrArg Int32.toInt (hfad_30 1 (by decide))
            have hE2d_30 : (d_30.1 h0 2).toInt = (d_21.1 h0 2).toInt := congrArg Int32.toInt (hfad_30 2 (by decide))
            have hE3d_30 : (d_30.1 h0 3).toInt = (d_21.1 h0 3).toInt := congrArg Int32.toInt (hfad_30 3 (by decide))
            have hId_30 : yMI S d_30 h0 := hxd_30
            have hgd_30 : yAg S [9, 69, 74, 75, 77, 78] d d_30 := yAg.tr hgd_21 hgad_30 (by first | decide | exact fun _ h => h)
            have hPod_30 : yPo S d_30 := hpad_30 hPod_21
            refine lv_aload_n hx hb dX9_as_75 rfl (lv_at hl 1 rfl) ?_
            refine yVrl (As := []) (rest := []) C0 (g_X9_owed l G S d_30 h0 hSh hm_h0 hk_h0) ok_X9_owed (mW996 : Cond.methodLink RX9 357 yX9_owed ∈ wsT) ⟨Nat.le_of_ble_eq_true rfl, Nat.le_of_ble_eq_true rfl⟩ hP hD hK hN hm_h0 hk_h0 (by decide) rfl rfl rfl hl.1 rfl (Nat.le_of_ble_eq_true rfl) ⟨Nat.le_of_ble_eq_true rfl, Nat.le_of_ble_eq_true rfl⟩ dX9_as_76 (fun r_31 hr_31 => ?_)
            refine lv_aload_n hx hb dX9_as_79 rfl (lv_at hl 1 rfl) ?_
            refine lv_iload_n hx hb dX9_as_80 rfl (lv_at hl 2 rfl) ?_
            refine yVrl (As := [.int p0]) (rest := [.long r_31]) C0 (g_X9_saved l G S d_30 h0 p0 hSh hm_h0 hk_h0 hId_30 (by refine ⟨?_, ?_⟩ <;> omega)) ok_X9_saved (mW1000 : Cond.methodLink RX9 361 yX9_saved ∈ wsT) ⟨Nat.le_of_ble_eq_true rfl, Nat.le_of_ble_eq_true rfl⟩ hP hD hK hN hm_h0 hk_h0 (by decide) rfl rfl rfl hl.1 rfl (Nat.le_of_ble_eq_true rfl) ⟨Nat.le_of_ble_eq_true rfl, Nat.le_of_ble_eq_true rfl⟩ dX9_as_81 (fun r_32 hr_32 => ?_)
            refine lv_lsub hx hb dX9_as_84 ?_
            refine lv_topl (fun z_33 ez_33 => ?_)
            exact W.lret (v := z_33) hx hb hr (fun t ht hW => ⟨⟨z_33, d_30, rfl, ⟨hgd_30, (fun _ => hPod_30), hfd_30, hId_30⟩, by rw [ht]; exact hP, hD⟩, hS.F ht⟩) hS.2.2 dX9_as_85
          · refine lv_aload_n hx hb dX9_as_42 rfl (lv_at hl 1 rfl) ?_
            refine lv_iload hx hb dX9_as_43 (lv_at hl 0 rfl) ?_
            have F_34 := fnlt (rfl : (p1 : Int32).toInt = (p1 : Int32).toInt) (by decide +kernel : (0 : Int32).toInt = 0) c_2
            have F_35 := fnle (by decide +kernel : (60 : Int32).toInt = 60) (rfl : (p1 : Int32).toInt = (p1 : Int32).toInt) c_7
            have F_36 := fnlt (rfl : (p2 : Int32).toInt = (p2 : Int32).toInt) (by decide +kernel : ((-1) : Int32).toInt = (-1)) c_12
            have F_37 := flt (rfl : (p2 : Int32).toInt = (p2 : Int32).toInt) (by decide +kernel : (60 : Int32).toInt = 60) c_17
            have F_38 := fne (rfl : (r_18 : Int32).toInt = (r_18 : Int32).toInt) (by decide +kernel : (0 : Int32).toInt = 0) c_19
            refine yVwi (As := [.int r_18]) (rest := []) C0 (g_X9_no l G S d_1 h0 r_18 hSh hPod_1 hm_h0 hk_h0 (by refine ⟨?_, ?_⟩ <;> omega)) ok_X9_no (mW177 : Cond.methodLink RX9 168 yX9_no ∈ wsT) ⟨Nat.le_of_ble_eq_true rfl, Nat.le_of_ble_eq_true rfl⟩ hP hD hS hA hK hN hm_h0 hk_h0 (by decide) rfl rfl rfl hl.1 rfl (Nat.le_of_ble_eq_true rfl) ⟨Nat.le_of_ble_eq_true rfl, Nat.le_of_ble_eq_true rfl⟩ dX9_as_45 (fun r_39 d_40 H locs hr_39 hP hD hS => ?_)
            obtain ⟨hgad_40, hpad_40, hfad_40, hxd_40⟩ := hr_39
            have hfd_40 : yK [38, 49, 50, 51, 52, 53, 54, 55, 57, 62, 63, 64, 65] d d_40 h0 := yK.tr hfd_1 hfad_40 (by decide)
            have hE0d_40 : (d_40.1 h0 0).toInt = (d_1.1 h0 0).toInt := congrArg Int32.toInt (hfad_40 0 (by decide))
            have hE1d_40 : (d_40.1 h0 1).toInt = (d_1.1 h0 1).toInt := congrArg Int32.toInt (hfad_40 1 (by decide))
            have hE2d_40 : (d_40.1 h0 2).toInt = (d_1.1 h0 2).toInt := congrArg Int32.toInt (hfad_40 2 (by decide))
            have hE3d_40 : (d_40.1 h0 3).toInt = (d_1.1 h0 3).toInt := congrArg Int32.toInt (hfad_40 3 (by decide))
            have hE63d_40 : (d_40.1 h0 63).toInt = (d_1.1 h0 63).toInt := congrArg Int32.toInt (hfad_40 63 (by decide))
            have hId_40 : yMI S d_40 h0 := yMI.ag hId_1 hSh hm_h0 hk_h0 hgad_40 hfad_40 (by decide) (by decide)
            have hgd_40 : yAg S [9, 69, 74, 75, 77, 78] d d_40 := yAg.tr hgd_1 hgad_40 (by first | decide | exact fun _ h => h)
            have hPod_40 : yPo S d_40 := hpad_40 hPod_1
            refine lv_i2l hx hb dX9_as_48 rfl ?_
            refine lv_topl (fun z_41 ez_41 => ?_)
            exact W.lret (v := z_41) hx hb hr (fun t ht hW => ⟨⟨z_41, d_40, rfl, ⟨hgd_40, (fun _ => hPod_40), hfd_40, hId_40⟩, by rw [ht]; exact hP, hD⟩, hS.F ht⟩) hS.2.2 dX9_as_49
        · refine lv_iconst (v := 1) hx hb dX9_as_26 (by decide) ?_
          refine lv_goto (tgt := 35) hx hb dX9_as_27 (by decide) ?_
          refine lv_istore (lv' := [(5, .int 1), (0, .ref h0), (1, .int p0), (2, .int p1), (3, .int p2), (4, .int p3)]) hx hb dX9_as_35 hl (by decide) rfl (fun ls hl => ?_)
          refine lv_iload hx hb dX9_as_37 (lv_at hl 0 rfl) ?_
          refine lv_if_eq (tgt := 50) hx hb dX9_as_39 (by decide) (fun c_42 => absurd c_42 (by decide +kernel)) (fun c_42 => ?_)
          refine lv_aload_n hx hb dX9_as_42 rfl (lv_at hl 1 rfl) ?_
          refine lv_iload hx hb dX9_as_43 (lv_at hl 0 rfl) ?_
          refine yVwi (As := [.int 1]) (rest := []) C0 (g_X9_no l G S d_1 h0 1 hSh hPod_1 hm_h0 hk_h0 (by decide +kernel)) ok_X9_no (mW177 : Cond.methodLink RX9 168 yX9_no ∈ wsT) ⟨Nat.le_of_ble_eq_true rfl, Nat.le_of_ble_eq_true rfl⟩ hP hD hS hA hK hN hm_h0 hk_h0 (by decide) rfl rfl rfl hl.1 rfl (Nat.le_of_ble_eq_true rfl) ⟨Nat.le_of_ble_eq_true rfl, Nat.le_of_ble_eq_true rfl⟩ dX9_as_45 (fun r_43 d_44 H locs hr_43 hP hD hS => ?_)
          obtain ⟨hgad_44, hpad_44, hfad_44, hxd_44⟩ := hr_43
          have hfd_44 : yK [38, 49, 50, 51, 52, 53, 54, 55, 57, 62, 63, 64, 65] d d_44 h0 := yK.tr hfd_1 hfad_44 (by decide)
          have hE0d_44 : (d_44.1 h0 0).toInt = (d_1.1 h0 0).toInt := congrArg Int32.toInt (hfad_44 0 (by decide))
          have hE1d_44 : (d_44.1 h0 1).toInt = (d_1.1 h0 1).toInt := congrArg Int32.toInt (hfad_44 1 (by decide))
          have hE2d_44 : (d_44.1 h0 2).toInt = (d_1.1 h0 2).toInt := congrArg Int32.toInt (hfad_44 2 (by decide))
          have hE3d_44 : (d_44.1 h0 3).toInt = (d_1.1 h0 3).toInt := congrArg Int32.toInt (hfad_44 3 (by decide))
          have hE63d_44 : (d_44.1 h0 63).toInt = (d_1.1 h0 63).toInt := congrArg Int32.toInt (hfad_44 63 (by decide))
          have hId_44 : yMI S d_44 h0 := yMI.ag hId_1 hSh hm_h0 hk_h0 hgad_44 hfad_44 (by decide) (by decide)
          have hgd_44 : yAg S [9, 69, 74, 75, 77, 78] d d_44 := yAg.tr hgd_1 hgad_44 (by first | decide | exact fun _ h => h)
          have hPod_44 : yPo S d_44 := hpad_44 hPod_1
          refine lv_i2l hx hb dX9_as_48 rfl ?_
          refine lv_topl (fun z_45 ez_45 => ?_)
          exact W.lret (v := z_45) hx hb hr (fun t ht hW => ⟨⟨z_45, d_44, rfl, ⟨hgd_44, (fun _ => hPod_44), hfd_44, hId_44⟩, by rw [ht]; exact hP, hD⟩, hS.F ht⟩) hS.2.2 dX9_as_49
