theorem dX9_yields_0 : decode cX9_yields 0 = .ok (.aload_n 0, 1) := by decide +kernel
theorem dX9_yields_1 : decode cX9_yields 1 = .ok (.iconst 0, 1) := by decide +kernel
theorem dX9_yields_2 : decode cX9_yields 2 = .ok (.putfield 147, 3) := by decide +kernel
theorem dX9_yields_5 : decode cX9_yields 5 = .ok (.iload_n 3, 1) := by decide +kernel
theorem dX9_yields_6 : decode cX9_yields 6 = .ok (.ifCond .lt 9, 3) := by decide +kernel
theorem dX9_yields_9 : decode cX9_yields 9 = .ok (.iload_n 3, 1) := by decide +kernel
theorem dX9_yields_10 : decode cX9_yields 10 = .ok (.bipush 31, 2) := by decide +kernel
theorem dX9_yields_12 : decode cX9_yields 12 = .ok (.if_icmp .le 7, 3) := by decide +kernel
theorem dX9_yields_15 : decode cX9_yields 15 = .ok (.iconst 1, 1) := by decide +kernel
theorem dX9_yields_16 : decode cX9_yields 16 = .ok (.goto 9, 3) := by decide +kernel
theorem dX9_yields_19 : decode cX9_yields 19 = .ok (.aload_n 0, 1) := by decide +kernel
theorem dX9_yields_20 : decode cX9_yields 20 = .ok (.iload_n 1, 1) := by decide +kernel
theorem dX9_yields_21 : decode cX9_yields 21 = .ok (.iload_n 2, 1) := by decide +kernel
theorem dX9_yields_22 : decode cX9_yields 22 = .ok (.invokevirtual 175, 3) := by decide +kernel
theorem dX9_yields_25 : decode cX9_yields 25 = .ok (.istore 4, 2) := by decide +kernel
theorem dX9_yields_27 : decode cX9_yields 27 = .ok (.iload 4, 2) := by decide +kernel
theorem dX9_yields_29 : decode cX9_yields 29 = .ok (.ifCond .eq 10, 3) := by decide +kernel
theorem dX9_yields_32 : decode cX9_yields 32 = .ok (.aload_n 0, 1) := by decide +kernel
theorem dX9_yields_33 : decode cX9_yields 33 = .ok (.iload 4, 2) := by decide +kernel
theorem dX9_yields_35 : decode cX9_yields 35 = .ok (.invokevirtual 168, 3) := by decide +kernel
theorem dX9_yields_38 : decode cX9_yields 38 = .ok (.ireturn, 1) := by decide +kernel
theorem dX9_yields_39 : decode cX9_yields 39 = .ok (.aload_n 0, 1) := by decide +kernel
theorem dX9_yields_40 : decode cX9_yields 40 = .ok (.getfield 30, 3) := by decide +kernel
theorem dX9_yields_43 : decode cX9_yields 43 = .ok (.bipush 60, 2) := by decide +kernel
theorem dX9_yields_45 : decode cX9_yields 45 = .ok (.iload_n 1, 1) := by decide +kernel
theorem dX9_yields_46 : decode cX9_yields 46 = .ok (.imul, 1) := by decide +kernel
theorem dX9_yields_47 : decode cX9_yields 47 = .ok (.iload_n 2, 1) := by decide +kernel
theorem dX9_yields_48 : decode cX9_yields 48 = .ok (.iadd, 1) := by decide +kernel
theorem dX9_yields_49 : decode cX9_yields 49 = .ok (.baload, 1) := by decide +kernel
theorem dX9_yields_50 : decode cX9_yields 50 = .ok (.istore 5, 2) := by decide +kernel
theorem dX9_yields_52 : decode cX9_yields 52 = .ok (.aload_n 0, 1) := by decide +kernel
theorem dX9_yields_53 : decode cX9_yields 53 = .ok (.getfield 30, 3) := by decide +kernel
theorem dX9_yields_56 : decode cX9_yields 56 = .ok (.bipush 60, 2) := by decide +kernel
theorem dX9_yields_58 : decode cX9_yields 58 = .ok (.iload_n 1, 1) := by decide +kernel
theorem dX9_yields_59 : decode cX9_yields 59 = .ok (.imul, 1) := by decide +kernel
theorem dX9_yields_60 : decode cX9_yields 60 = .ok (.iload_n 2, 1) := by decide +kernel
theorem dX9_yields_61 : decode cX9_yields 61 = .ok (.iadd, 1) := by decide +kernel
theorem dX9_yields_62 : decode cX9_yields 62 = .ok (.iload_n 3, 1) := by decide +kernel
theorem dX9_yields_63 : decode cX9_yields 63 = .ok (.i2b, 1) := by decide +kernel
theorem dX9_yields_64 : decode cX9_yields 64 = .ok (.bastore, 1) := by decide +kernel
theorem dX9_yields_65 : decode cX9_yields 65 = .ok (.iload 5, 2) := by decide +kernel
theorem dX9_yields_67 : decode cX9_yields 67 = .ok (.ireturn, 1) := by decide +kernel
set_option maxHeartbeats 4000000 in
set_option maxRecDepth 100000 in
theorem g_X9_yields (l : Launch) (G : xG) (S : yS) (d : yD) (h0 : Nat) (p0 : Int32) (p1 : Int32) (p2 : Int32) (hSh : ySh S) (hPo : yPo S d) (hm_h0 : h0 ∈ S.1) (hk_h0 : S.2.1 h0 = 9) : xWi l G yX9_yields cX9_yields 6 (some .int) 3 66 0 0 [.ref h0, .int p0, .int p1, .int p2] (yW G S d) (fun r (u : yD) => yAg S [9, 39, 69] d u ∧ (yPo S d → yPo S u) ∧ yK [38] d u h0 ∧ (True)) (fun u => yW G S u) := by
  intro sz
  refine xstart (by decide) (Nat.le_of_ble_eq_true rfl) (fun p e s m args below meth c ls C0 hr hlocks hin hsz hP hK hD hN hl => ?_)
  obtain ⟨hx, hb, hml, hown, htl⟩ := id C0
  subst hsz
  have hD := hD.self (sz := s.heap.size)
  generalize hAe : va_A (yW G S d) s.heap.size = A at hD ⊢
  have hA : ∀ q : Nat, s.heap.size ≤ q → A q := fun q h => by rw [← hAe]; exact Or.inr h
  have hS : va_S A s.heap s.heap [] := va_S.rf
  have hg0 : yAg S [9, 39, 69] d d := yAg.rf
  have hl : lv_has ls 6 [(0, .ref h0), (1, .int p0), (2, .int p1), (3, .int p2)] := hl
  refine lv_aload_n hx hb dX9_yields_0 rfl (lv_at hl 0 rfl) ?_
  refine lv_iconst (v := 0) hx hb dX9_yields_1 (by decide) ?_
  refine yputI (ci := 9) (k := 38) (ty := .int) (C := RX9) (T := TX9) (N := 67) C0 hK hP hD hS hm_h0 hk_h0 (by decide) rfl inlX9 tyX9 tyX9_ok nmX9 (by decide) mW175 (fun _ h9 => h9) rfl (by decide +kernel) rfl rfl (Nat.le_of_ble_eq_true rfl) ysi_9_38 dX9_yields_2 (fun H locs hP hD hS => ?_)
  obtain ⟨d_1, ed_1⟩ : ∃ z : yD, z = yi d h0 38 0 := ⟨_, rfl⟩
  rw [← ed_1] at hP hD
  have hgd_1 : yAg S [9, 39, 69] d d_1 := by rw [ed_1]; exact yAg.i hg0 (by rw [hk_h0]; decide)
  have hPod_1 : yPo S d_1 := by rw [ed_1]; exact yPo.i hPo hk_h0 (Or.inl rfl)
  have hfd_1 : yK [38] d d_1 h0 := by rw [ed_1]; exact yK.i yK.rf (by decide)
  refine lv_iload_n hx hb dX9_yields_5 rfl (lv_at hl 3 rfl) ?_
  refine lv_if_lt (tgt := 15) hx hb dX9_yields_6 (by decide) (fun c_2 => ?_) (fun c_2 => ?_)
  · refine lv_iconst (v := 1) hx hb dX9_yields_15 (by decide) ?_
    refine lv_goto (tgt := 25) hx hb dX9_yields_16 (by decide) ?_
    refine lv_istore (lv' := [(4, .int 1), (0, .ref h0), (1, .int p0), (2, .int p1), (3, .int p2)]) hx hb dX9_yields_25 hl (by decide) rfl (fun ls hl => ?_)
    refine lv_iload hx hb dX9_yields_27 (lv_at hl 0 rfl) ?_
    refine lv_if_eq (tgt := 39) hx hb dX9_yields_29 (by decide) (fun c_3 => absurd c_3 (by decide +kernel)) (fun c_3 => ?_)
    refine lv_aload_n hx hb dX9_yields_32 rfl (lv_at hl 1 rfl) ?_
    refine lv_iload hx hb dX9_yields_33 (lv_at hl 0 rfl) ?_
    refine yVwi (As := [.int 1]) (rest := []) C0 (g_X9_no l G S d_1 h0 1 hSh hPod_1 hm_h0 hk_h0 (by decide +kernel)) ok_X9_no (mW177 : Cond.methodLink RX9 168 yX9_no ∈ wsT) ⟨Nat.le_of_ble_eq_true rfl, Nat.le_of_ble_eq_true rfl⟩ hP hD hS hA hK hN hm_h0 hk_h0 (by decide) rfl rfl rfl hl.1 rfl (Nat.le_of_ble_eq_true rfl) ⟨Nat.le_of_ble_eq_true rfl, Nat.le_of_ble_eq_true rfl⟩ dX9_yields_35 (fun r_4 d_5 H locs hr_4 hP hD hS => ?_)
    obtain ⟨hgad_5, hpad_5, hfad_5, hxd_5⟩ := hr_4
    have hfd_5 : yK [38] d d_5 h0 := yK.tr hfd_1 hfad_5 (by decide)
    have hgd_5 : yAg S [9, 39, 69] d d_5 := yAg.tr hgd_1 hgad_5 (by first | decide | exact fun _ h => h)
    have hPod_5 : yPo S d_5 := hpad_5 hPod_1
    exact W.iret (v := r_4) hx hb hr (fun t ht hW => ⟨⟨r_4, d_5, rfl, ⟨hgd_5, (fun _ => hPod_5), hfd_5, trivial⟩, by rw [ht]; exact hP, hD⟩, hS.F ht⟩) hS.2.2 dX9_yields_38
  · refine lv_iload_n hx hb dX9_yields_9 rfl (lv_at hl 3 rfl) ?_
    refine lv_bipush (v := 31) hx hb dX9_yields_10 (by decide) ?_
    refine lv_icmp_le (tgt := 19) hx hb dX9_yields_12 (by decide) (fun c_6 => ?_) (fun c_6 => ?_)
    · refine lv_aload_n hx hb dX9_yields_19 rfl (lv_at hl 0 rfl) ?_
      refine lv_iload_n hx hb dX9_yields_20 rfl (lv_at hl 1 rfl) ?_
      refine lv_iload_n hx hb dX9_yields_21 rfl (lv_at hl 2 rfl) ?_
      refine yVri (As := [.int p0, .int p1]) (rest := []) C0 (g_X9_termWhy l G S d_1 h0 p0 p1 hSh hm_h0 hk_h0) ok_X9_termWhy (mW248 : Cond.methodLink RX9 175 yX9_termWhy ∈ wsT) ⟨Nat.le_of_ble_eq_true rfl, Nat.le_of_ble_eq_true rfl⟩ hP hD hK hN hm_h0 hk_h0 (by decide) rfl rfl rfl hl.1 rfl (Nat.le_of_ble_eq_true rfl) ⟨Nat.le_of_ble_eq_true rfl, Nat.le_of_ble_eq_true rfl⟩ dX9_yields_22 (fun r_7 hr_7 => ?_)
      refine lv_istore (lv' := [(4, .int r_7), (0, .ref h0), (1, .int p0), (2, .int p1), (3, .int p2)]) hx hb dX9_yields_25 hl (by decide) rfl (fun ls hl => ?_)
      refine lv_iload hx hb dX9_yields_27 (lv_at hl 0 rfl) ?_
      refine lv_if_eq (tgt := 39) hx hb dX9_yields_29 (by decide) (fun c_8 => ?_) (fun c_8 => ?_)
      · refine lv_aload_n hx hb dX9_yields_39 rfl (lv_at hl 1 rfl) ?_
        refine yget (ci := 9) (k := 9) (v := .ref (S.2.2.1 h0 9)) (C := RX9) (T := TX9) (N := 67) C0 hK hP hm_h0 hk_h0 (by decide) rfl inlX9 (by decide) mW113 (fun _ h9 => h9) rfl dX9_yields_40 ?_
        obtain ⟨hmy_9, hky_9⟩ := ySh.f9_9 hSh _ hm_h0 hk_h0
        refine lv_bipush (v := 60) hx hb dX9_yields_43 (by decide) ?_
        refine lv_iload_n hx hb dX9_yields_45 rfl (lv_at hl 2 rfl) ?_
        refine lv_imul hx hb dX9_yields_46 ?_
        refine lv_topi (fun z_10 ez_10 => ?_)
        refine lv_iload_n hx hb dX9_yields_47 rfl (lv_at hl 3 rfl) ?_
        refine lv_iadd hx hb dX9_yields_48 ?_
        refine lv_topi (fun z_11 ez_11 => ?_)
        have F_12 := fnlt (rfl : (p2 : Int32).toInt = (p2 : Int32).toInt) (by decide +kernel : (0 : Int32).toInt = 0) c_2
        have F_13 := fle (rfl : (p2 : Int32).toInt = (p2 : Int32).toInt) (by decide +kernel : (31 : Int32).toInt = 31) c_6
        have F_14 := feq (rfl : (r_7 : Int32).toInt = (r_7 : Int32).toInt) (by decide +kernel : (0 : Int32).toInt = 0) c_8
        have T_16 : (z_10 : Int32).toInt = 60 * (p0 : Int32).toInt := tmul ez_10 (by decide +kernel : (60 : Int32).toInt = 60) (rfl : (p0 : Int32).toInt = (p0 : Int32).toInt) (by omega) (by omega)
        have T_15 : (z_11 : Int32).toInt = (z_10 : Int32).toInt + (p1 : Int32).toInt := tadd ez_11 (rfl : (z_10 : Int32).toInt = (z_10 : Int32).toInt) (rfl : (p1 : Int32).toInt = (p1 : Int32).toInt) (by omega) (by omega)
        refine yaldB C0 hK hP hmy_9 hky_9 (by decide) rfl 1 rfl (xinT 2400 rfl (by omega) (by omega)) dX9_yields_49 ?_
        refine lv_topi (fun z_17 ez_17 => ?_)
        refine lv_istore (lv' := [(5, .int z_17), (4, .int r_7), (0, .ref h0), (1, .int p0), (2, .int p1), (3, .int p2)]) hx hb dX9_yields_50 hl (by decide) rfl (fun ls hl => ?_)
        refine lv_aload_n hx hb dX9_yields_52 rfl (lv_at hl 2 rfl) ?_
        refine yget (ci := 9) (k := 9) (v := .ref (S.2.2.1 h0 9)) (C := RX9) (T := TX9) (N := 67) C0 hK hP hm_h0 hk_h0 (by decide) rfl inlX9 (by decide) mW113 (fun _ h9 => h9) rfl dX9_yields_53 ?_
        refine lv_bipush (v := 60) hx hb dX9_yields_56 (by decide) ?_
        refine lv_iload_n hx hb dX9_yields_58 rfl (lv_at hl 3 rfl) ?_
        refine lv_imul hx hb dX9_yields_59 ?_
        refine lv_topi (fun z_18 ez_18 => ?_)
        refine lv_iload_n hx hb dX9_yields_60 rfl (lv_at hl 4 rfl) ?_
        refine lv_iadd hx hb dX9_yields_61 ?_
        refine lv_topi (fun z_19 ez_19 => ?_)
        refine lv_iload_n hx hb dX9_yields_62 rfl (lv_at hl 5 rfl) ?_
        refine lv_i2b hx hb dX9_yields_63 rfl ?_
        refine lv_topi (fun z_20 ez_20 => ?_)
        have T_22 : (z_18 : Int32).toInt = 60 * (p0 : Int32).toInt := tmul ez_18 (by decide +kernel : (60 : Int32).toInt = 60) (rfl : (p0 : Int32).toInt = (p0 : Int32).toInt) (by omega) (by omega)
        have T_21 : (z_19 : Int32).toInt = (z_18 : Int32).toInt + (p1 : Int32).toInt := tadd ez_19 (rfl : (z_18 : Int32).toInt = (z_18 : Int32).toInt) (rfl : (p1 : Int32).toInt = (p1 : Int32).toInt) (by omega) (by omega)
        refine yastB C0 hK hP hD hS hmy_9 hky_9 (by decide) rfl 1 rfl (xinT 2400 rfl (by omega) (by omega)) dX9_yields_64 (fun H locs hP hD hS => ?_)
        obtain ⟨d_23, ed_23⟩ : ∃ z : yD, z = ycs d_1 (S.2.2.1 h0 9) (upd (d_1.2.2.2.1 (S.2.2.1 h0 9)) (z_19 : Int32).toNatClampNeg (vp_nar .byte z_20)) := ⟨_, rfl⟩
        rw [← ed_23] at hP hD
        have hgd_23 : yAg S [9, 39, 69] d d_23 := by rw [ed_23]; exact yAg.cs hgd_1 (by rw [hky_9]; decide)
        have hPod_23 : yPo S d_23 := by rw [ed_23]; exact hPod_1
        have hfd_23 : yK [38] d d_23 h0 := yK.ag hfd_1 (show yAg S [39] d_1 d_23 from by rw [ed_23]; exact yAg.cs yAg.rf (by rw [hky_9]; decide)) (by rw [hk_h0]; decide)
        refine lv_iload hx hb dX9_yields_65 (lv_at hl 0 rfl) ?_
        exact W.iret (v := z_17) hx hb hr (fun t ht hW => ⟨⟨z_17, d_23, rfl, ⟨hgd_23, (fun _ => hPod_23), hfd_23, trivial⟩, by rw [ht]; exact hP, hD⟩, hS.F ht⟩) hS.2.2 dX9_yields_67
      · refine lv_aload_n hx hb dX9_yields_32 rfl (lv_at hl 1 rfl) ?_
        refine lv_iload hx hb dX9_yields_33 (lv_at hl 0 rfl) ?_
        have F_24 := fnlt (rfl : (p2 : Int32).toInt = (p2 : Int32).toInt) (by decide +kernel : (0 : Int32).toInt = 0) c_2
        have F_25 := fle (rfl : (p2 : Int32).toInt = (p2 : Int32).toInt) (by decide +kernel : (31 : Int32).toInt = 31) c_6
        have F_26 := fne (rfl : (r_7 : Int32).toInt = (r_7 : Int32).toInt) (by decide +kernel : (0 : Int32).toInt = 0) c_8
        refine yVwi (As := [.int r_7]) (rest := []) C0 (g_X9_no l G S d_1 h0 r_7 hSh hPod_1 hm_h0 hk_h0 (by refine ⟨?_, ?_⟩ <;> omega)) ok_X9_no (mW177 : Cond.methodLink RX9 168 yX9_no ∈ wsT) ⟨Nat.le_of_ble_eq_true rfl, Nat.le_of_ble_eq_true rfl⟩ hP hD hS hA hK hN hm_h0 hk_h0 (by decide) rfl rfl rfl hl.1 rfl (Nat.le_of_ble_eq_true rfl) ⟨Nat.le_of_ble_eq_true rfl, Nat.le_of_ble_eq_true rfl⟩ dX9_yields_35 (fun r_27 d_28 H locs hr_27 hP hD hS => ?_)
        obtain ⟨hgad_28, hpad_28, hfad_28, hxd_28⟩ := hr_27
        have hfd_28 : yK [38] d d_28 h0 := yK.tr hfd_1 hfad_28 (by decide)
        have hgd_28 : yAg S [9, 39, 69] d d_28 := yAg.tr hgd_1 hgad_28 (by first | decide | exact fun _ h => h)
        have hPod_28 : yPo S d_28 := hpad_28 hPod_1
        exact W.iret (v := r_27) hx hb hr (fun t ht hW => ⟨⟨r_27, d_28, rfl, ⟨hgd_28, (fun _ => hPod_28), hfd_28, trivial⟩, by rw [ht]; exact hP, hD⟩, hS.F ht⟩) hS.2.2 dX9_yields_38
    · refine lv_iconst (v := 1) hx hb dX9_yields_15 (by decide) ?_
      refine lv_goto (tgt := 25) hx hb dX9_yields_16 (by decide) ?_
      refine lv_istore (lv' := [(4, .int 1), (0, .ref h0), (1, .int p0), (2, .int p1), (3, .int p2)]) hx hb dX9_yields_25 hl (by decide) rfl (fun ls hl => ?_)
      refine lv_iload hx hb dX9_yields_27 (lv_at hl 0 rfl) ?_
      refine lv_if_eq (tgt := 39) hx hb dX9_yields_29 (by decide) (fun c_29 => absurd c_29 (by decide +kernel)) (fun c_29 => ?_)
      refine lv_aload_n hx hb dX9_yields_32 rfl (lv_at hl 1 rfl) ?_
      refine lv_iload hx hb dX9_yields_33 (lv_at hl 0 rfl) ?_
      refine yVwi (As := [.int 1]) (rest := []) C0 (g_X9_no l G S d_1 h0 1 hSh hPod_1 hm_h0 hk_h0 (by decide +kernel)) ok_X9_no (mW177 : Cond.methodLink RX9 168 yX9_no ∈ wsT) ⟨Nat.le_of_ble_eq_true rfl, Nat.le_of_ble_eq_true rfl⟩ hP hD hS hA hK hN hm_h0 hk_h0 (by decide) rfl rfl rfl hl.1 rfl (Nat.le_of_ble_eq_true rfl) ⟨Nat.le_of_ble_eq_true rfl, Nat.le_of_ble_eq_true rfl⟩ dX9_yields_35 (fun r_30 d_31 H locs hr_30 hP hD hS => ?_)
      obtain ⟨hgad_31, hpad_31, hfad_31, hxd_31⟩ := hr_30
      have hfd_31 : yK [38] d d_31 h0 := yK.tr hfd_1 hfad_31 (by decide)
      have hgd_31 : yAg S [9, 39, 69] d d_31 := yAg.tr hgd_1 hgad_31 (by first | decide | exact fun _ h => h)
      have hPod_31 : yPo S d_31 := hpad_31 hPod_1
      exact W.iret (v := r_30) hx hb hr (fun t ht hW => ⟨⟨r_30, d_31, rfl, ⟨hgd_31, (fun _ => hPod_31), hfd_31, trivial⟩, by rw [ht]; exact hP, hD⟩, hS.F ht⟩) hS.2.2 dX9_yields_38
theorem dX9_kind_0 : decode cX9_kind 0 = .ok (.aload_n 0, 1) := by decide +kernel
theorem dX9_kind_1 : decode cX9_kind 1 = .ok (.iconst 0, 1) := by decide +kernel
theorem dX9_kind_2 : decode cX9_kind 2 = .ok (.putfield 147, 3) := by decide +kernel
theorem dX9_kind_5 : decode cX9_kind 5 = .ok (.aload_n 0, 1) := by decide +kernel
theorem dX9_kind_6 : decode cX9_kind 6 = .ok (.iload_n 1, 1) := by decide +kernel
theorem dX9_kind_7 : decode cX9_kind 7 = .ok (.iload_n 2, 1) := by decide +kernel
theorem dX9_kind_8 : decode cX9_kind 8 = .ok (.invokevirtual 171, 3) := by decide +kernel
theorem dX9_kind_11 : decode cX9_kind 11 = .ok (.istore_n 3, 1) := by decide +kernel
theorem dX9_kind_12 : decode cX9_kind 12 = .ok (.iload_n 3, 1) := by decide +kernel
theorem dX9_kind_13 : decode cX9_kind 13 = .ok (.ifCond .eq 9, 3) := by decide +kernel
theorem dX9_kind_16 : decode cX9_kind 16 = .ok (.aload_n 0, 1) := by decide +kernel
theorem dX9_kind_17 : decode cX9_kind 17 = .ok (.iload_n 3, 1) := by decide +kernel
theorem dX9_kind_18 : decode cX9_kind 18 = .ok (.invokevirtual 168, 3) := by decide +kernel
theorem dX9_kind_21 : decode cX9_kind 21 = .ok (.ireturn, 1) := by decide +kernel
theorem dX9_kind_22 : decode cX9_kind 22 = .ok (.bipush 60, 2) := by decide +kernel
theorem dX9_kind_24 : decode cX9_kind 24 = .ok (.iload_n 1, 1) := by decide +kernel
theorem dX9_kind_25 : decode cX9_kind 25 = .ok (.imul, 1) := by decide +kernel
theorem dX9_kind_26 : decode cX9_kind 26 = .ok (.iload_n 2, 1) := by decide +kernel
theorem dX9_kind_27 : decode cX9_kind 27 = .ok (.iadd, 1) := by decide +kernel
theorem dX9_kind_28 : decode cX9_kind 28 = .ok (.istore 4, 2) := by decide +kernel
theorem dX9_kind_30 : decode cX9_kind 30 = .ok (.aload_n 0, 1) := by decide +kernel
theorem dX9_kind_31 : decode cX9_kind 31 = .ok (.getfield 13, 3) := by decide +kernel
theorem dX9_kind_34 : decode cX9_kind 34 = .ok (.iload 4, 2) := by decide +kernel
theorem dX9_kind_36 : decode cX9_kind 36 = .ok (.baload, 1) := by decide +kernel
theorem dX9_kind_37 : decode cX9_kind 37 = .ok (.ifCond .ne 8, 3) := by decide +kernel
theorem dX9_kind_40 : decode cX9_kind 40 = .ok (.bipush 6, 2) := by decide +kernel
theorem dX9_kind_42 : decode cX9_kind 42 = .ok (.goto 25, 3) := by decide +kernel
theorem dX9_kind_45 : decode cX9_kind 45 = .ok (.aload_n 0, 1) := by decide +kernel
theorem dX9_kind_46 : decode cX9_kind 46 = .ok (.getfield 13, 3) := by decide +kernel
theorem dX9_kind_49 : decode cX9_kind 49 = .ok (.iload 4, 2) := by decide +kernel
theorem dX9_kind_51 : decode cX9_kind 51 = .ok (.baload, 1) := by decide +kernel
theorem dX9_kind_52 : decode cX9_kind 52 = .ok (.iconst 1, 1) := by decide +kernel
theorem dX9_kind_53 : decode cX9_kind 53 = .ok (.if_icmp .ne 7, 3) := by decide +kernel
theorem dX9_kind_56 : decode cX9_kind 56 = .ok (.iconst 5, 1) := by decide +kernel
theorem dX9_kind_57 : decode cX9_kind 57 = .ok (.goto 10, 3) := by decide +kernel
theorem dX9_kind_60 : decode cX9_kind 60 = .ok (.aload_n 0, 1) := by decide +kernel
theorem dX9_kind_61 : decode cX9_kind 61 = .ok (.getfield 17, 3) := by decide +kernel
theorem dX9_kind_64 : decode cX9_kind 64 = .ok (.iload 4, 2) := by decide +kernel
theorem dX9_kind_66 : decode cX9_kind 66 = .ok (.baload, 1) := by decide +kernel
theorem dX9_kind_67 : decode cX9_kind 67 = .ok (.ireturn, 1) := by decide +kernel
set_option maxHeartbeats 4000000 in
set_option maxRecDepth 100000 in
theorem g_X9_kind (l : Launch) (G : xG) (S : yS) (d : yD) (h0 : Nat) (p0 : Int32) (p1 : Int32) (hSh : ySh S) (hPo : yPo S d) (hm_h0 : h0 ∈ S.1) (hk_h0 : S.2.1 h0 = 9) : xWi l G yX9_kind cX9_kind 5 (some .int) 2 43 0 0 [.ref h0, .int p0, .int p1] (yW G S d) (fun r (u : yD) => yAg S [9, 69] d u ∧ (yPo S d → yPo S u) ∧ yK [38] d u h0 ∧ (True)) (fun u => yW G S u) := by
  intro sz
  refine xstart (by decide) (Nat.le_of_ble_eq_true rfl) (fun p e s m args below meth c ls C0 hr hlocks hin hsz hP hK hD hN hl => ?_)
  obtain ⟨hx, hb, hml, hown, htl⟩ := id C0
  subst hsz
  have hD := hD.self (sz := s.heap.size)
  generalize hAe : va_A (yW G S d) s.heap.size = A at hD ⊢
  have hA : ∀ q : Nat, s.heap.size ≤ q → A q := fun q h => by rw [← hAe]; exact Or.inr h
  have hS : va_S A s.heap s.heap [] := va_S.rf
  have hg0 : yAg S [9, 69] d d := yAg.rf
  have hl : lv_has ls 5 [(0, .ref h0), (1, .int p0), (2, .int p1)] := hl
  refine lv_aload_n hx hb dX9_kind_0 rfl (lv_at hl 0 rfl) ?_
  refine lv_iconst (v := 0) hx hb dX9_kind_1 (by decide) ?_
  refine yputI (ci := 9) (k := 38) (ty := .int) (C := RX9) (T := TX9) (N := 67) C0 hK hP hD hS hm_h0 hk_h0 (by decide) rfl inlX9 tyX9 tyX9_ok nmX9 (by decide) mW175 (fun _ h9 => h9) rfl (by decide +kernel) rfl rfl (Nat.le_of_ble_eq_true rfl) ysi_9_38 dX9_kind_2 (fun H locs hP hD hS => ?_)
  obtain ⟨d_1, ed_1⟩ : ∃ z : yD, z = yi d h0 38 0 := ⟨_, rfl⟩
  rw [← ed_1] at hP hD
  have hgd_1 : yAg S [9, 69] d d_1 := by rw [ed_1]; exact yAg.i hg0 (by rw [hk_h0]; decide)
  have hPod_1 : yPo S d_1 := by rw [ed_1]; exact yPo.i hPo hk_h0 (Or.inl rfl)
  have hfd_1 : yK [38] d d_1 h0 := by rw [ed_1]; exact yK.i yK.rf (by decide)
  refine lv_aload_n hx hb dX9_kind_5 rfl (lv_at hl 0 rfl) ?_
  refine lv_iload_n hx hb dX9_kind_6 rfl (lv_at hl 1 rfl) ?_
  refine lv_iload_n hx hb dX9_kind_7 rfl (lv_at hl 2 rfl) ?_
  refine yVri (As := [.int p0, .int p1]) (rest := []) C0 (g_X9_placeWhy l G S d_1 h0 p0 p1 hSh hm_h0 hk_h0) ok_X9_placeWhy (mW222 : Cond.methodLink RX9 171 yX9_placeWhy ∈ wsT) ⟨Nat.le_of_ble_eq_true rfl, Nat.le_of_ble_eq_true rfl⟩ hP hD hK hN hm_h0 hk_h0 (by decide) rfl rfl rfl hl.1 rfl (Nat.le_of_ble_eq_true rfl) ⟨Nat.le_of_ble_eq_true rfl, Nat.le_of_ble_eq_true rfl⟩ dX9_kind_8 (fun r_2 hr_2 => ?_)
  refine lv_istore_n (lv' := [(3, .int r_2), (0, .ref h0), (1, .int p0), (2, .int p1)]) hx hb dX9_kind_11 rfl hl (by decide) rfl (fun ls hl => ?_)
  refine lv_iload_n hx hb dX9_kind_12 rfl (lv_at hl 0 rfl) ?_
  refine lv_if_eq (tgt := 22) hx hb dX9_kind_13 (by decide) (fun c_3 => ?_) (fun c_3 => ?_)
  · refine lv_bipush (v := 60) hx hb dX9_kind_22 (by decide) ?_
    refine lv_iload_n hx hb dX9_kind_24 rfl (lv_at hl 2 rfl) ?_
    refine lv_imul hx hb dX9_kind_25 ?_
    refine lv_topi (fun z_4 ez_4 => ?_)
    refine lv_iload_n hx hb dX9_kind_26 rfl (lv_at hl 3 rfl) ?_
    refine lv_iadd hx hb dX9_kind_27 ?_
    refine lv_topi (fun z_5 ez_5 => ?_)
    refine lv_istore (lv' := [(4, .int z_5), (3, .int r_2), (0, .ref h0), (1, .int p0), (2, .int p1)]) hx hb dX9_kind_28 hl (by decide) rfl (fun ls hl => ?_)
    refine lv_aload_n hx hb dX9_kind_30 rfl (lv_at hl 2 rfl) ?_
    refine yget (ci := 9) (k := 4) (v := .ref (S.2.2.1 h0 4)) (C := RX9) (T := TX9) (N := 67) C0 hK hP hm_h0 hk_h0 (by decide) rfl inlX9 (by decide) mW108 (fun _ h9 => h9) rfl dX9_kind_31 ?_
    obtain ⟨hmy_6, hky_6⟩ := ySh.f9_4 hSh _ hm_h0 hk_h0
    refine lv_iload hx hb dX9_kind_34 (lv_at hl 0 rfl) ?_
    have F_7 := feq (rfl : (r_2 : Int32).toInt = (r_2 : Int32).toInt) (by decide +kernel : (0 : Int32).toInt = 0) c_3
    have T_9 : (z_4 : Int32).toInt = 60 * (p0 : Int32).toInt := tmul ez_4 (by decide +kernel : (60 : Int32).toInt = 60) (rfl : (p0 : Int32).toInt = (p0 : Int32).toInt) (by omega) (by omega)
    have T_8 : (z_5 : Int32).toInt = (z_4 : Int32).toInt + (p1 : Int32).toInt := tadd ez_5 (rfl : (z_4 : Int32).toInt = (z_4 : Int32).toInt) (rfl : (p1 : Int32).toInt = (p1 : Int32).toInt) (by omega) (by omega)
    refine yaldB C0 hK hP hmy_6 hky_6 (by decide) rfl 1 rfl (xinT 2400 rfl (by omega) (by omega)) dX9_kind_36 ?_
    refine lv_topi (fun z_10 ez_10 => ?_)
    refine lv_if_ne (tgt := 45) hx hb dX9_kind_37 (by decide) (fun c_11 => ?_) (fun c_11 => ?_)
    · refine lv_aload_n hx hb dX9_kind_45 rfl (lv_at hl 2 rfl) ?_
      refine yget (ci := 9) (k := 4) (v := .ref (S.2.2.1 h0 4)) (C := RX9) (T := TX9) (N := 67) C0 hK hP hm_h0 hk_h0 (by decide) rfl inlX9 (by decide) mW108 (fun _ h9 => h9) rfl dX9_kind_46 ?_
      refine lv_iload hx hb dX9_kind_49 (lv_at hl 0 rfl) ?_
      have F_13 := fne (rfl : (z_10 : Int32).toInt = (z_10 : Int32).toInt) (by decide +kernel : (0 : Int32).toInt = 0) c_11
      refine yaldB C0 hK hP hmy_6 hky_6 (by decide) rfl 1 rfl (xinT 2400 rfl (by omega) (by omega)) dX9_kind_51 ?_
      refine lv_topi (fun z_14 ez_14 => ?_)
      refine lv_iconst (v := 1) hx hb dX9_kind_52 (by decide) ?_
      refine lv_icmp_ne (tgt := 60) hx hb dX9_kind_53 (by decide) (fun c_15 => ?_) (fun c_15 => ?_)
      · refine lv_aload_n hx hb dX9_kind_60 rfl (lv_at hl 2 rfl) ?_
        refine yget (ci := 9) (k := 5) (v := .ref (S.2.2.1 h0 5)) (C := RX9) (T := TX9) (N := 67) C0 hK hP hm_h0 hk_h0 (by decide) rfl inlX9 (by decide) mW109 (fun _ h9 => h9) rfl dX9_kind_61 ?_
        obtain ⟨hmy_16, hky_16⟩ := ySh.f9_5 hSh _ hm_h0 hk_h0
        refine lv_iload hx hb dX9_kind_64 (lv_at hl 0 rfl) ?_
        have F_18 := fne (rfl : (z_14 : Int32).toInt = (z_14 : Int32).toInt) (by decide +kernel : (1 : Int32).toInt = 1) c_15
        refine yaldB C0 hK hP hmy_16 hky_16 (by decide) rfl 1 rfl (xinT 2400 rfl (by omega) (by omega)) dX9_kind_66 ?_
        refine lv_topi (fun z_19 ez_19 => ?_)
        exact W.iret (v := z_19) hx hb hr (fun t ht hW => ⟨⟨z_19, d_1, rfl, ⟨hgd_1, (fun _ => hPod_1), hfd_1, trivial⟩, by rw [ht]; exact hP, hD⟩, hS.F ht⟩) hS.2.2 dX9_kind_67
      · refine lv_iconst (v := 5) hx hb dX9_kind_56 (by decide) ?_
        refine lv_goto (tgt := 67) hx hb dX9_kind_57 (by decide) ?_
        exact W.iret (v := 5) hx hb hr (fun t ht hW => ⟨⟨5, d_1, rfl, ⟨hgd_1, (fun _ => hPod_1), hfd_1, trivial⟩, by rw [ht]; exact hP, hD⟩, hS.F ht⟩) hS.2.2 dX9_kind_67
    · refine lv_bipush (v := 6) hx hb dX9_kind_40 (by decide) ?_
      refine lv_goto (tgt := 67) hx hb dX9_kind_42 (by decide) ?_
      exact W.iret (v := 6) hx hb hr (fun t ht hW => ⟨⟨6, d_1, rfl, ⟨hgd_1, (fun _ => hPod_1), hfd_1, trivial⟩, by rw [ht]; exact hP, hD⟩, hS.F ht⟩) hS.2.2 dX9_kind_67
  · refine lv_aload_n hx hb dX9_kind_16 rfl (lv_at hl 1 rfl) ?_
    refine lv_iload_n hx hb dX9_kind_17 rfl (lv_at hl 0 rfl) ?_
    have F_20 := fne (rfl : (r_2 : Int32).toInt = (r_2 : Int32).toInt) (by decide +kernel : (0 : Int32).toInt = 0) c_3
    refine yVwi (As := [.int r_2]) (rest := []) C0 (g_X9_no l G S d_1 h0 r_2 hSh hPod_1 hm_h0 hk_h0 (by refine ⟨?_, ?_⟩ <;> omega)) ok_X9_no (mW177 : Cond.methodLink RX9 168 yX9_no ∈ wsT) ⟨Nat.le_of_ble_eq_true rfl, Nat.le_of_ble_eq_true rfl⟩ hP hD hS hA hK hN hm_h0 hk_h0 (by decide) rfl rfl rfl hl.1 rfl (Nat.le_of_ble_eq_true rfl) ⟨Nat.le_of_ble_eq_true rfl, Nat.le_of_ble_eq_true rfl⟩ dX9_kind_18 (fun r_21 d_22 H locs hr_21 hP hD hS => ?_)
    obtain ⟨hgad_22, hpad_22, hfad_22, hxd_22⟩ := hr_21
    have hfd_22 : yK [38] d d_22 h0 := yK.tr hfd_1 hfad_22 (by decide)
    have hgd_22 : yAg S [9, 69] d d_22 := yAg.tr hgd_1 hgad_22 (by first | decide | exact fun _ h => h)
    have hPod_22 : yPo S d_22 := hpad_22 hPod_1
    exact W.iret (v := r_21) hx hb hr (fun t ht hW => ⟨⟨r_21, d_22, rfl, ⟨hgd_22, (fun _ => hPod_22), hfd_22, trivial⟩, by rw [ht]; exact hP, hD⟩, hS.F ht⟩) hS.2.2 dX9_kind_21
theorem dX9_headed_0 : decode cX9_headed 0 = .ok (.aload_n 0, 1) := by decide +kernel
theorem dX9_headed_1 : decode cX9_headed 1 = .ok (.iconst 0, 1) := by decide +kernel
theorem dX9_headed_2 : decode cX9_headed 2 = .ok (.putfield 147, 3) := by decide +kernel
theorem dX9_headed_5 : decode cX9_headed 5 = .ok (.aload_n 0, 1) := by decide +kernel
theorem dX9_headed_6 : decode cX9_headed 6 = .ok (.iload_n 1, 1) := by decide +kernel
theorem dX9_headed_7 : decode cX9_headed 7 = .ok (.iload_n 2, 1) := by decide +kernel
theorem dX9_headed_8 : decode cX9_headed 8 = .ok (.invokevirtual 171, 3) := by decide +kernel
theorem dX9_headed_11 : decode cX9_headed 11 = .ok (.istore_n 3, 1) := by decide +kernel
theorem dX9_headed_12 : decode cX9_headed 12 = .ok (.iload_n 3, 1) := by decide +kernel
theorem dX9_headed_13 : decode cX9_headed 13 = .ok (.ifCond .ne 38, 3) := by decide +kernel
theorem dX9_headed_16 : decode cX9_headed 16 = .ok (.aload_n 0, 1) := by decide +kernel
theorem dX9_headed_17 : decode cX9_headed 17 = .ok (.getfield 13, 3) := by decide +kernel
theorem dX9_headed_20 : decode cX9_headed 20 = .ok (.bipush 60, 2) := by decide +kernel
theorem dX9_headed_22 : decode cX9_headed 22 = .ok (.iload_n 1, 1) := by decide +kernel
theorem dX9_headed_23 : decode cX9_headed 23 = .ok (.imul, 1) := by decide +kernel
theorem dX9_headed_24 : decode cX9_headed 24 = .ok (.iload_n 2, 1) := by decide +kernel
theorem dX9_headed_25 : decode cX9_headed 25 = .ok (.iadd, 1) := by decide +kernel
theorem dX9_headed_26 : decode cX9_headed 26 = .ok (.baload, 1) := by decide +kernel
theorem dX9_headed_27 : decode cX9_headed 27 = .ok (.iconst 1, 1) := by decide +kernel
theorem dX9_headed_28 : decode cX9_headed 28 = .ok (.if_icmp .eq 23, 3) := by decide +kernel
theorem dX9_headed_31 : decode cX9_headed 31 = .ok (.aload_n 0, 1) := by decide +kernel
theorem dX9_headed_32 : decode cX9_headed 32 = .ok (.getfield 13, 3) := by decide +kernel
theorem dX9_headed_35 : decode cX9_headed 35 = .ok (.bipush 60, 2) := by decide +kernel
theorem dX9_headed_37 : decode cX9_headed 37 = .ok (.iload_n 1, 1) := by decide +kernel
theorem dX9_headed_38 : decode cX9_headed 38 = .ok (.imul, 1) := by decide +kernel
theorem dX9_headed_39 : decode cX9_headed 39 = .ok (.iload_n 2, 1) := by decide +kernel
theorem dX9_headed_40 : decode cX9_headed 40 = .ok (.iadd, 1) := by decide +kernel
theorem dX9_headed_41 : decode cX9_headed 41 = .ok (.baload, 1) := by decide +kernel
theorem dX9_headed_42 : decode cX9_headed 42 = .ok (.ifCond .ne 7, 3) := by decide +kernel
theorem dX9_headed_45 : decode cX9_headed 45 = .ok (.iconst 2, 1) := by decide +kernel
theorem dX9_headed_46 : decode cX9_headed 46 = .ok (.goto 4, 3) := by decide +kernel
theorem dX9_headed_49 : decode cX9_headed 49 = .ok (.iconst 3, 1) := by decide +kernel
theorem dX9_headed_50 : decode cX9_headed 50 = .ok (.istore_n 3, 1) := by decide +kernel
theorem dX9_headed_51 : decode cX9_headed 51 = .ok (.iload_n 3, 1) := by decide +kernel
theorem dX9_headed_52 : decode cX9_headed 52 = .ok (.ifCond .eq 9, 3) := by decide +kernel
theorem dX9_headed_55 : decode cX9_headed 55 = .ok (.aload_n 0, 1) := by decide +kernel
theorem dX9_headed_56 : decode cX9_headed 56 = .ok (.iload_n 3, 1) := by decide +kernel
theorem dX9_headed_57 : decode cX9_headed 57 = .ok (.invokevirtual 168, 3) := by decide +kernel
theorem dX9_headed_60 : decode cX9_headed 60 = .ok (.ireturn, 1) := by decide +kernel
theorem dX9_headed_61 : decode cX9_headed 61 = .ok (.aload_n 0, 1) := by decide +kernel
theorem dX9_headed_62 : decode cX9_headed 62 = .ok (.getfield 33, 3) := by decide +kernel
theorem dX9_headed_65 : decode cX9_headed 65 = .ok (.bipush 60, 2) := by decide +kernel
theorem dX9_headed_67 : decode cX9_headed 67 = .ok (.iload_n 1, 1) := by decide +kernel
theorem dX9_headed_68 : decode cX9_headed 68 = .ok (.imul, 1) := by decide +kernel
theorem dX9_headed_69 : decode cX9_headed 69 = .ok (.iload_n 2, 1) := by decide +kernel
theorem dX9_headed_70 : decode cX9_headed 70 = .ok (.iadd, 1) := by decide +kernel
theorem dX9_headed_71 : decode cX9_headed 71 = .ok (.iaload, 1) := by decide +kernel
theorem dX9_headed_72 : decode cX9_headed 72 = .ok (.ireturn, 1) := by decide +kernel
set_option maxHeartbeats 4000000 in
set_option maxRecDepth 100000 in
theorem g_X9_headed (l : Launch) (G : xG) (S : yS) (d : yD) (h0 : Nat) (p0 : Int32) (p1 : Int32) (hSh : ySh S) (hPo : yPo S d) (hm_h0 : h0 ∈ S.1) (hk_h0 : S.2.1 h0 = 9) : xWi l G yX9_headed cX9_headed 4 (some .int) 2 43 0 0 [.ref h0, .int p0, .int p1] (yW G S d) (fun r (u : yD) => yAg S [9, 69] d u ∧ (yPo S d → yPo S u) ∧ yK [38] d u h0 ∧ (True)) (fun u => yW G S u) := by
  intro sz
  refine xstart (by decide) (Nat.le_of_ble_eq_true rfl) (fun p e s m args below meth c ls C0 hr hlocks hin hsz hP hK hD hN hl => ?_)
  obtain ⟨hx, hb, hml, hown, htl⟩ := id C0
  subst hsz
  have hD := hD.self (sz := s.heap.size)
  generalize hAe : va_A (yW G S d) s.heap.size = A at hD ⊢
  have hA : ∀ q : Nat, s.heap.size ≤ q → A q := fun q h => by rw [← hAe]; exact Or.inr h
  have hS : va_S A s.heap s.heap [] := va_S.rf
  have hg0 : yAg S [9, 69] d d := yAg.rf
  have hl : lv_has ls 4 [(0, .ref h0), (1, .int p0), (2, .int p1)] := hl
  refine lv_aload_n hx hb dX9_headed_0 rfl (lv_at hl 0 rfl) ?_
  refine lv_iconst (v := 0) hx hb dX9_headed_1 (by decide) ?_
  refine yputI (ci := 9) (k := 38) (ty := .int) (C := RX9) (T := TX9) (N := 67) C0 hK hP hD hS hm_h0 hk_h0 (by decide) rfl inlX9 tyX9 tyX9_ok nmX9 (by decide) mW175 (fun _ h9 => h9) rfl (by decide +kernel) rfl rfl (Nat.le_of_ble_eq_true rfl) ysi_9_38 dX9_headed_2 (fun H locs hP hD hS => ?_)
  obtain ⟨d_1, ed_1⟩ : ∃ z : yD, z = yi d h0 38 0 := ⟨_, rfl⟩
  rw [← ed_1] at hP hD
  have hgd_1 : yAg S [9, 69] d d_1 := by rw [ed_1]; exact yAg.i hg0 (by rw [hk_h0]; decide)
  have hPod_1 : yPo S d_1 := by rw [ed_1]; exact yPo.i hPo hk_h0 (Or.inl rfl)
  have hfd_1 : yK [38] d d_1 h0 := by rw [ed_1]; exact yK.i yK.rf (by decide)
  refine lv_aload_n hx hb dX9_headed_5 rfl (lv_at hl 0 rfl) ?_
  refine lv_iload_n hx hb dX9_headed_6 rfl (lv_at hl 1 rfl) ?_
  refine lv_iload_n hx hb dX9_headed_7 rfl (lv_at hl 2 rfl) ?_
  refine yVri (As := [.int p0, .int p1]) (rest := []) C0 (g_X9_placeWhy l G S d_1 h0 p0 p1 hSh hm_h0 hk_h0) ok_X9_placeWhy (mW222 : Cond.methodLink RX9 171 yX9_placeWhy ∈ wsT) ⟨Nat.le_of_ble_eq_true rfl, Nat.le_of_ble_eq_true rfl⟩ hP hD hK hN hm_h0 hk_h0 (by decide) rfl rfl rfl hl.1 rfl (Nat.le_of_ble_eq_true rfl) ⟨Nat.le_of_ble_eq_true rfl, Nat.le_of_ble_eq_true rfl⟩ dX9_headed_8 (fun r_2 hr_2 => ?_)
  refine lv_istore_n (lv' := [(3, .int r_2), (0, .ref h0), (1, .int p0), (2, .int p1)]) hx hb dX9_headed_11 rfl hl (by decide) rfl (fun ls hl => ?_)
  refine lv_iload_n hx hb dX9_headed_12 rfl (lv_at hl 0 rfl) ?_
  refine lv_if_ne (tgt := 51) hx hb dX9_headed_13 (by decide) (fun c_3 => ?_) (fun c_3 => ?_)
  · refine lv_iload_n hx hb dX9_headed_51 rfl (lv_at hl 0 rfl) ?_
    refine lv_if_eq (tgt := 61) hx hb dX9_headed_52 (by decide) (fun c_4 => absurd c_4 c_3) (fun c_4 => ?_)
    refine lv_aload_n hx hb dX9_headed_55 rfl (lv_at hl 1 rfl) ?_
    refine lv_iload_n hx hb dX9_headed_56 rfl (lv_at hl 0 rfl) ?_
    have F_5 := fne (rfl : (r_2 : Int32).toInt = (r_2 : Int32).toInt) (by decide +kernel : (0 : Int32).toInt = 0) c_3
    have F_6 := fne (rfl : (r_2 : Int32).toInt = (r_2 : Int32).toInt) (by decide +kernel : (0 : Int32).toInt = 0) c_4
    refine yVwi (As := [.int r_2]) (rest := []) C0 (g_X9_no l G S d_1 h0 r_2 hSh hPod_1 hm_h0 hk_h0 (by refine ⟨?_, ?_⟩ <;> omega)) ok_X9_no (mW177 : Cond.methodLink RX9 168 yX9_no ∈ wsT) ⟨Nat.le_of_ble_eq_true rfl, Nat.le_of_ble_eq_true rfl⟩ hP hD hS hA hK hN hm_h0 hk_h0 (by decide) rfl rfl rfl hl.1 rfl (Nat.le_of_ble_eq_true rfl) ⟨Nat.le_of_ble_eq_true rfl, Nat.le_of_ble_eq_true rfl⟩ dX9_headed_57 (fun r_7 d_8 H locs hr_7 hP hD hS => ?_)
    obtain ⟨hgad_8, hpad_8, hfad_8, hxd_8⟩ := hr_7
    have hfd_8 : yK [38] d d_8 h0 := yK.tr hfd_1 hfad_8 (by decide)
    have hgd_8 : yAg S [9, 69] d d_8 := yAg.tr hgd_1 hgad_8 (by first | decide | exact fun _ h => h)
    have hPod_8 : yPo S d_8 := hpad_8 hPod_1
    exact W.iret (v := r_7) hx hb hr (fun t ht hW => ⟨⟨r_7, d_8, rfl, ⟨hgd_8, (fun _ => hPod_8), hfd_8, trivial⟩, by rw [ht]; exact hP, hD⟩, hS.F ht⟩) hS.2.2 dX9_headed_60
  · refine lv_aload_n hx hb dX9_headed_16 rfl (lv_at hl 1 rfl) ?_
    refine yget (ci := 9) (k := 4) (v := .ref (S.2.2.1 h0 4)) (C := RX9) (T := TX9) (N := 67) C0 hK hP hm_h0 hk_h0 (by decide) rfl inlX9 (by decide) mW108 (fun _ h9 => h9) rfl dX9_headed_17 ?_
    obtain ⟨hmy_9, hky_9⟩ := ySh.f9_4 hSh _ hm_h0 hk_h0
    refine lv_bipush (v := 60) hx hb dX9_headed_20 (by decide) ?_
    refine lv_iload_n hx hb dX9_headed_22 rfl (lv_at hl 2 rfl) ?_
    refine lv_imul hx hb dX9_headed_23 ?_
    refine lv_topi (fun z_10 ez_10 => ?_)
    refine lv_iload_n hx hb dX9_headed_24 rfl (lv_at hl 3 rfl) ?_
    refine lv_iadd hx hb dX9_headed_25 ?_
    refine lv_topi (fun z_11 ez_11 => ?_)
    have F_12 := feq (rfl : (r_2 : Int32).toInt = (r_2 : Int32).toInt) (by decide +kernel : (0 : Int32).toInt = 0) c_3
    have T_14 : (z_10 : Int32).toInt = 60 * (p0 : Int32).toInt := tmul ez_10 (by decide +kernel : (60 : Int32).toInt = 60) (rfl : (p0 : Int32).toInt = (p0 : Int32).toInt) (by omega) (by omega)
    have T_13 : (z_11 : Int32).toInt = (z_10 : Int32).toInt + (p1 : Int32).toInt := tadd ez_11 (rfl : (z_10 : Int32).toInt = (z_10 : Int32).toInt) (rfl : (p1 : Int32).toInt = (p1 : Int32).toInt) (by omega) (by omega)
    refine yaldB C0 hK hP hmy_9 hky_9 (by decide) rfl 1 rfl (xinT 2400 rfl (by omega) (by omega)) dX9_headed_26 ?_
    refine lv_topi (fun z_15 ez_15 => ?_)
    refine lv_iconst (v := 1) hx hb dX9_headed_27 (by decide) ?_
    refine lv_icmp_eq (tgt := 51) hx hb dX9_headed_28 (by decide) (fun c_16 => ?_) (fun c_16 => ?_)
    · refine lv_iload_n hx hb dX9_headed_51 rfl (lv_at hl 0 rfl) ?_
      refine lv_if_eq (tgt := 61) hx hb dX9_headed_52 (by decide) (fun c_17 => ?_) (fun c_17 => absurd c_3 c_17)
      refine lv_aload_n hx hb dX9_headed_61 rfl (lv_at hl 1 rfl) ?_
      refine yget (ci := 9) (k := 10) (v := .ref (S.2.2.1 h0 10)) (C := RX9) (T := TX9) (N := 67) C0 hK hP hm_h0 hk_h0 (by decide) rfl inlX9 (by decide) mW114 (fun _ h9 => h9) rfl dX9_headed_62 ?_
      obtain ⟨hmy_18, hky_18⟩ := ySh.f9_10 hSh _ hm_h0 hk_h0
      refine lv_bipush (v := 60) hx hb dX9_headed_65 (by decide) ?_
      refine lv_iload_n hx hb dX9_headed_67 rfl (lv_at hl 2 rfl) ?_
      refine lv_imul hx hb dX9_headed_68 ?_
      refine lv_topi (fun z_19 ez_19 => ?_)
      refine lv_iload_n hx hb dX9_headed_69 rfl (lv_at hl 3 rfl) ?_
      refine lv_iadd hx hb dX9_headed_70 ?_
      refine lv_topi (fun z_20 ez_20 => ?_)
      have F_22 := feq (rfl : (z_15 : Int32).toInt = (z_15 : Int32).toInt) (by decide +kernel : (1 : Int32).toInt = 1) c_16
      have F_23 := feq (rfl : (r_2 : Int32).toInt = (r_2 : Int32).toInt) (by decide +kernel : (0 : Int32).toInt = 0) c_17
      have T_25 : (z_19 : Int32).toInt = 60 * (p0 : Int32).toInt := tmul ez_19 (by decide +kernel : (60 : Int32).toInt = 60) (rfl : (p0 : Int32).toInt = (p0 : Int32).toInt) (by omega) (by omega)
      have T_24 : (z_20 : Int32).toInt = (z_19 : Int32).toInt + (p1 : Int32).toInt := tadd ez_20 (rfl : (z_19 : Int32).toInt = (z_19 : Int32).toInt) (rfl : (p1 : Int32).toInt = (p1 : Int32).toInt) (by omega) (by omega)
      refine yald C0 hK hP hmy_18 hky_18 (by decide) rfl 0 rfl (xinT 2400 rfl (by omega) (by omega)) dX9_headed_71 ?_
      refine lv_topi (fun z_26 ez_26 => ?_)
      exact W.iret (v := z_26) hx hb hr (fun t ht hW => ⟨⟨z_26, d_1, rfl, ⟨hgd_1, (fun _ => hPod_1), hfd_1, trivial⟩, by rw [ht]; exact hP, hD⟩, hS.F ht⟩) hS.2.2 dX9_headed_72
    · refine lv_aload_n hx hb dX9_headed_31 rfl (lv_at hl 1 rfl) ?_
      refine yget (ci := 9) (k := 4) (v := .ref (S.2.2.1 h0 4)) (C := RX9) (T := TX9) (N := 67) C0 hK hP hm_h0 hk_h0 (by decide) rfl inlX9 (by decide) mW108 (fun _ h9 => h9) rfl dX9_headed_32 ?_
      refine lv_bipush (v := 60) hx hb dX9_headed_35 (by decide) ?_
      refine lv_iload_n hx hb dX9_headed_37 rfl (lv_at hl 2 rfl) ?_
      refine lv_imul hx hb dX9_headed_38 ?_
      refine lv_topi (fun z_27 ez_27 => ?_)
      refine lv_iload_n hx hb dX9_headed_39 rfl (lv_at hl 3 rfl) ?_
      refine lv_iadd hx hb dX9_headed_40 ?_
      refine lv_topi (fun z_28 ez_28 => ?_)
      have F_30 := fne (rfl : (z_15 : Int32).toInt = (z_15 : Int32).toInt) (by decide +kernel : (1 : Int32).toInt = 1) c_16
      have T_32 : (z_27 : Int32).toInt = 60 * (p0 : Int32).toInt := tmul ez_27 (by decide +kernel : (60 : Int32).toInt = 60) (rfl : (p0 : Int32).toInt = (p0 : Int32).toInt) (by omega) (by omega)
      have T_31 : (z_28 : Int32).toInt = (z_27 : Int32).toInt + (p1 : Int32).toInt := tadd ez_28 (rfl : (z_27 : Int32).toInt = (z_27 : Int32).toInt) (rfl : (p1 : Int32).toInt = (p1 : Int32).toInt) (by omega) (by omega)
      refine yaldB C0 hK hP hmy_9 hky_9 (by decide) rfl 1 rfl (xinT 2400 rfl (by omega) (by omega)) dX9_headed_41 ?_
      refine lv_topi (fun z_33 ez_33 => ?_)
      refine lv_if_ne (tgt := 49) hx hb dX9_headed_42 (by decide) (fun c_34 => ?_) (fun c_34 => ?_)
      · refine lv_iconst (v := 3) hx hb dX9_headed_49 (by decide) ?_
        refine lv_istore_n (lv' := [(3, .int 3), (0, .ref h0), (1, .int p0), (2, .int p1)]) hx hb dX9_headed_50 rfl hl (by decide) rfl (fun ls hl => ?_)
        refine lv_iload_n hx hb dX9_headed_51 rfl (lv_at hl 0 rfl) ?_
        refine lv_if_eq (tgt := 61) hx hb dX9_headed_52 (by decide) (fun c_35 => absurd c_35 (by decide +kernel)) (fun c_35 => ?_)
        refine lv_aload_n hx hb dX9_headed_55 rfl (lv_at hl 1 rfl) ?_
        refine lv_iload_n hx hb dX9_headed_56 rfl (lv_at hl 0 rfl) ?_
        refine yVwi (As := [.int 3]) (rest := []) C0 (g_X9_no l G S d_1 h0 3 hSh hPod_1 hm_h0 hk_h0 (by decide +kernel)) ok_X9_no (mW177 : Cond.methodLink RX9 168 yX9_no ∈ wsT) ⟨Nat.le_of_ble_eq_true rfl, Nat.le_of_ble_eq_true rfl⟩ hP hD hS hA hK hN hm_h0 hk_h0 (by decide) rfl rfl rfl hl.1 rfl (Nat.le_of_ble_eq_true rfl) ⟨Nat.le_of_ble_eq_true rfl, Nat.le_of_ble_eq_true rfl⟩ dX9_headed_57 (fun r_36 d_37 H locs hr_36 hP hD hS => ?_)
        obtain ⟨hgad_37, hpad_37, hfad_37, hxd_37⟩ := hr_36
        have hfd_37 : yK [38] d d_37 h0 := yK.tr hfd_1 hfad_37 (by decide)
        have hgd_37 : yAg S [9, 69] d d_37 := yAg.tr hgd_1 hgad_37 (by first | decide | exact fun _ h => h)
        have hPod_37 : yPo S d_37 := hpad_37 hPod_1
        exact W.iret (v := r_36) hx hb hr (fun t ht hW => ⟨⟨r_36, d_37, rfl, ⟨hgd_37, (fun _ => hPod_37), hfd_37, trivial⟩, by rw [ht]; exact hP, hD⟩, hS.F ht⟩) hS.2.2 dX9_headed_60
      · refine lv_iconst (v := 2) hx hb dX9_headed_45 (by decide) ?_
        refine lv_goto (tgt := 50) hx hb dX9_headed_46 (by decide) ?_
        refine lv_istore_n (lv' := [(3, .int 2), (0, .ref h0), (1, .int p0), (2, .int p1)]) hx hb dX9_headed_50 rfl hl (by decide) rfl (fun ls hl => ?_)
        refine lv_iload_n hx hb dX9_headed_51 rfl (lv_at hl 0 rfl) ?_
        refine lv_if_eq (tgt := 61) hx hb dX9_headed_52 (by decide) (fun c_38 => absurd c_38 (by decide +kernel)) (fun c_38 => ?_)
        refine lv_aload_n hx hb dX9_headed_55 rfl (lv_at hl 1 rfl) ?_
        refine lv_iload_n hx hb dX9_headed_56 rfl (lv_at hl 0 rfl) ?_
        refine yVwi (As := [.int 2]) (rest := []) C0 (g_X9_no l G S d_1 h0 2 hSh hPod_1 hm_h0 hk_h0 (by decide +kernel)) ok_X9_no (mW177 : Cond.methodLink RX9 168 yX9_no ∈ wsT) ⟨Nat.le_of_ble_eq_true rfl, Nat.le_of_ble_eq_true rfl⟩ hP hD hS hA hK hN hm_h0 hk_h0 (by decide) rfl rfl rfl hl.1 rfl (Nat.le_of_ble_eq_true rfl) ⟨Nat.le_of_ble_eq_true rfl, Nat.le_of_ble_eq_true rfl⟩ dX9_headed_57 (fun r_39 d_40 H locs hr_39 hP hD hS => ?_)
        obtain ⟨hgad_40, hpad_40, hfad_40, hxd_40⟩ := hr_39
        have hfd_40 : yK [38] d d_40 h0 := yK.tr hfd_1 hfad_40 (by decide)
        have hgd_40 : yAg S [9, 69] d d_40 := yAg.tr hgd_1 hgad_40 (by first | decide | exact fun _ h => h)
        have hPod_40 : yPo S d_40 := hpad_40 hPod_1
        exact W.iret (v := r_39) hx hb hr (fun t ht hW => ⟨⟨r_39, d_40, rfl, ⟨hgd_40, (fun _ => hPod_40), hfd_40, trivial⟩, by rw [ht]; exact hP, hD⟩, hS.F ht⟩) hS.2.2 dX9_headed_60
theorem dX9_span_0 : decode cX9_span 0 = .ok (.aload_n 0, 1) := by decide +kernel
theorem dX9_span_1 : decode cX9_span 1 = .ok (.iconst 0, 1) := by decide +kernel
theorem dX9_span_2 : decode cX9_span 2 = .ok (.putfield 147, 3) := by decide +kernel
theorem dX9_span_5 : decode cX9_span 5 = .ok (.iload_n 3, 1) := by decide +kernel
theorem dX9_span_6 : decode cX9_span 6 = .ok (.ifCond .lt 8, 3) := by decide +kernel
theorem dX9_span_9 : decode cX9_span 9 = .ok (.iload_n 3, 1) := by decide +kernel
theorem dX9_span_10 : decode cX9_span 10 = .ok (.iconst 4, 1) := by decide +kernel
theorem dX9_span_11 : decode cX9_span 11 = .ok (.if_icmp .le 7, 3) := by decide +kernel
theorem dX9_span_14 : decode cX9_span 14 = .ok (.iconst 1, 1) := by decide +kernel
theorem dX9_span_15 : decode cX9_span 15 = .ok (.goto 9, 3) := by decide +kernel
theorem dX9_span_18 : decode cX9_span 18 = .ok (.aload_n 0, 1) := by decide +kernel
theorem dX9_span_19 : decode cX9_span 19 = .ok (.iload_n 1, 1) := by decide +kernel
theorem dX9_span_20 : decode cX9_span 20 = .ok (.iload_n 2, 1) := by decide +kernel
theorem dX9_span_21 : decode cX9_span 21 = .ok (.invokevirtual 175, 3) := by decide +kernel
theorem dX9_span_24 : decode cX9_span 24 = .ok (.istore 4, 2) := by decide +kernel
theorem dX9_span_26 : decode cX9_span 26 = .ok (.iload 4, 2) := by decide +kernel
theorem dX9_span_28 : decode cX9_span 28 = .ok (.ifCond .eq 10, 3) := by decide +kernel
theorem dX9_span_31 : decode cX9_span 31 = .ok (.aload_n 0, 1) := by decide +kernel
theorem dX9_span_32 : decode cX9_span 32 = .ok (.iload 4, 2) := by decide +kernel
theorem dX9_span_34 : decode cX9_span 34 = .ok (.invokevirtual 168, 3) := by decide +kernel
theorem dX9_span_37 : decode cX9_span 37 = .ok (.ireturn, 1) := by decide +kernel
theorem dX9_span_38 : decode cX9_span 38 = .ok (.bipush 60, 2) := by decide +kernel
theorem dX9_span_40 : decode cX9_span 40 = .ok (.iload_n 1, 1) := by decide +kernel
theorem dX9_span_41 : decode cX9_span 41 = .ok (.imul, 1) := by decide +kernel
theorem dX9_span_42 : decode cX9_span 42 = .ok (.iload_n 2, 1) := by decide +kernel
theorem dX9_span_43 : decode cX9_span 43 = .ok (.iadd, 1) := by decide +kernel
theorem dX9_span_44 : decode cX9_span 44 = .ok (.istore 5, 2) := by decide +kernel
theorem dX9_span_46 : decode cX9_span 46 = .ok (.iload_n 3, 1) := by decide +kernel
theorem dX9_span_47 : decode cX9_span 47 = .ok (.ifCond .ne 13, 3) := by decide +kernel
theorem dX9_span_50 : decode cX9_span 50 = .ok (.aload_n 0, 1) := by decide +kernel
theorem dX9_span_51 : decode cX9_span 51 = .ok (.getfield 20, 3) := by decide +kernel
theorem dX9_span_54 : decode cX9_span 54 = .ok (.iload 5, 2) := by decide +kernel
theorem dX9_span_56 : decode cX9_span 56 = .ok (.baload, 1) := by decide +kernel
theorem dX9_span_57 : decode cX9_span 57 = .ok (.goto 55, 3) := by decide +kernel
theorem dX9_span_60 : decode cX9_span 60 = .ok (.iload_n 3, 1) := by decide +kernel
theorem dX9_span_61 : decode cX9_span 61 = .ok (.iconst 1, 1) := by decide +kernel
theorem dX9_span_62 : decode cX9_span 62 = .ok (.if_icmp .ne 13, 3) := by decide +kernel
theorem dX9_span_65 : decode cX9_span 65 = .ok (.aload_n 0, 1) := by decide +kernel
theorem dX9_span_66 : decode cX9_span 66 = .ok (.getfield 23, 3) := by decide +kernel
theorem dX9_span_69 : decode cX9_span 69 = .ok (.iload 5, 2) := by decide +kernel
theorem dX9_span_71 : decode cX9_span 71 = .ok (.iaload, 1) := by decide +kernel
theorem dX9_span_72 : decode cX9_span 72 = .ok (.goto 40, 3) := by decide +kernel
theorem dX9_span_75 : decode cX9_span 75 = .ok (.iload_n 3, 1) := by decide +kernel
theorem dX9_span_76 : decode cX9_span 76 = .ok (.iconst 2, 1) := by decide +kernel
theorem dX9_span_77 : decode cX9_span 77 = .ok (.if_icmp .ne 13, 3) := by decide +kernel
theorem dX9_span_80 : decode cX9_span 80 = .ok (.aload_n 0, 1) := by decide +kernel
theorem dX9_span_81 : decode cX9_span 81 = .ok (.getfield 27, 3) := by decide +kernel
theorem dX9_span_84 : decode cX9_span 84 = .ok (.iload 5, 2) := by decide +kernel
theorem dX9_span_86 : decode cX9_span 86 = .ok (.iaload, 1) := by decide +kernel
theorem dX9_span_87 : decode cX9_span 87 = .ok (.goto 25, 3) := by decide +kernel
theorem dX9_span_90 : decode cX9_span 90 = .ok (.iload_n 3, 1) := by decide +kernel
theorem dX9_span_91 : decode cX9_span 91 = .ok (.iconst 3, 1) := by decide +kernel
theorem dX9_span_92 : decode cX9_span 92 = .ok (.if_icmp .ne 13, 3) := by decide +kernel
theorem dX9_span_95 : decode cX9_span 95 = .ok (.aload_n 0, 1) := by decide +kernel
theorem dX9_span_96 : decode cX9_span 96 = .ok (.getfield 30, 3) := by decide +kernel
theorem dX9_span_99 : decode cX9_span 99 = .ok (.iload 5, 2) := by decide +kernel
theorem dX9_span_101 : decode cX9_span 101 = .ok (.baload, 1) := by decide +kernel
theorem dX9_span_102 : decode cX9_span 102 = .ok (.goto 10, 3) := by decide +kernel
theorem dX9_span_105 : decode cX9_span 105 = .ok (.aload_n 0, 1) := by decide +kernel
theorem dX9_span_106 : decode cX9_span 106 = .ok (.getfield 33, 3) := by decide +kernel
theorem dX9_span_109 : decode cX9_span 109 = .ok (.iload 5, 2) := by decide +kernel
theorem dX9_span_111 : decode cX9_span 111 = .ok (.iaload, 1) := by decide +kernel
theorem dX9_span_112 : decode cX9_span 112 = .ok (.ireturn, 1) := by decide +kernel
set_option maxHeartbeats 4000000 in
set_option maxRecDepth 100000 in
theorem g_X9_span (l : Launch) (G : xG) (S : yS) (d : yD) (h0 : Nat) (p0 : Int32) (p1 : Int32) (p2 : Int32) (hSh : ySh S) (hPo : yPo S d) (hm_h0 : h0 ∈ S.1) (hk_h0 : S.2.1 h0 = 9) : xWi l G yX9_span cX9_span 6 (some .int) 3 66 0 0 [.ref h0, .int p0, .int p1, .int p2] (yW G S d) (fun r (u : yD) => yAg S [9, 69] d u ∧ (yPo S d → yPo S u) ∧ yK [38] d u h0 ∧ (True)) (fun u => yW G S u) := by
  intro sz
  refine xstart (by decide) (Nat.le_of_ble_eq_true rfl) (fun p e s m args below meth c ls C0 hr hlocks hin hsz hP hK hD hN hl => ?_)
  obtain ⟨hx, hb, hml, hown, htl⟩ := id C0
  subst hsz
  have hD := hD.self (sz := s.heap.size)
  generalize hAe : va_A (yW G S d) s.heap.size = A at hD ⊢
  have hA : ∀ q : Nat, s.heap.size ≤ q → A q := fun q h => by rw [← hAe]; exact Or.inr h
  have hS : va_S A s.heap s.heap [] := va_S.rf
  have hg0 : yAg S [9, 69] d d := yAg.rf
  have hl : lv_has ls 6 [(0, .ref h0), (1, .int p0), (2, .int p1), (3, .int p2)] := hl
  refine lv_aload_n hx hb dX9_span_0 rfl (lv_at hl 0 rfl) ?_
  refine lv_iconst (v := 0) hx hb dX9_span_1 (by decide) ?_
  refine yputI (ci := 9) (k := 38) (ty := .int) (C := RX9) (T := TX9) (N := 67) C0 hK hP hD hS hm_h0 hk_h0 (by decide) rfl inlX9 tyX9 tyX9_ok nmX9 (by decide) mW175 (fun _ h9 => h9) rfl (by decide +kernel) rfl rfl (Nat.le_of_ble_eq_true rfl) ysi_9_38 dX9_span_2 (fun H locs hP hD hS => ?_)
  obtain ⟨d_1, ed_1⟩ : ∃ z : yD, z = yi d h0 38 0 := ⟨_, rfl⟩
  rw [← ed_1] at hP hD
  have hgd_1 : yAg S [9, 69] d d_1 := by rw [ed_1]; exact yAg.i hg0 (by rw [hk_h0]; decide)
  have hPod_1 : yPo S d_1 := by rw [ed_1]; exact yPo.i hPo hk_h0 (Or.inl rfl)
  have hfd_1 : yK [38] d d_1 h0 := by rw [ed_1]; exact yK.i yK.rf (by decide)
  refine lv_iload_n hx hb dX9_span_5 rfl (lv_at hl 3 rfl) ?_
  refine lv_if_lt (tgt := 14) hx hb dX9_span_6 (by decide) (fun c_2 => ?_) (fun c_2 => ?_)
  · refine lv_iconst (v := 1) hx hb dX9_span_14 (by decide) ?_
    refine lv_goto (tgt := 24) hx hb dX9_span_15 (by decide) ?_
    refine lv_istore (lv' := [(4, .int 1), (0, .ref h0), (1, .int p0), (2, .int p1), (3, .int p2)]) hx hb dX9_span_24 hl (by decide) rfl (fun ls hl => ?_)
    refine lv_iload hx hb dX9_span_26 (lv_at hl 0 rfl) ?_
    refine lv_if_eq (tgt := 38) hx hb dX9_span_28 (by decide) (fun c_3 => absurd c_3 (by decide +kernel)) (fun c_3 => ?_)
    refine lv_aload_n hx hb dX9_span_31 rfl (lv_at hl 1 rfl) ?_
    refine lv_iload hx hb dX9_span_32 (lv_at hl 0 rfl) ?_
    refine yVwi (As := [.int 1]) (rest := []) C0 (g_X9_no l G S d_1 h0 1 hSh hPod_1 hm_h0 hk_h0 (by decide +kernel)) ok_X9_no (mW177 : Cond.methodLink RX9 168 yX9_no ∈ wsT) ⟨Nat.le_of_ble_eq_true rfl, Nat.le_of_ble_eq_true rfl⟩ hP hD hS hA hK hN hm_h0 hk_h0 (by decide) rfl rfl rfl hl.1 rfl (Nat.le_of_ble_eq_true rfl) ⟨Nat.le_of_ble_eq_true rfl, Nat.le_of_ble_eq_true rfl⟩ dX9_span_34 (fun r_4 d_5 H locs hr_4 hP hD hS => ?_)
    obtain ⟨hgad_5, hpad_5, hfad_5, hxd_5⟩ := hr_4
    have hfd_5 : yK [38] d d_5 h0 := yK.tr hfd_1 hfad_5 (by decide)
    have hgd_5 : yAg S [9, 69] d d_5 := yAg.tr hgd_1 hgad_5 (by first | decide | exact fun _ h => h)
    have hPod_5 : yPo S d_5 := hpad_5 hPod_1
    exact W.iret (v := r_4) hx hb hr (fun t ht hW => ⟨⟨r_4, d_5, rfl, ⟨hgd_5, (fun _ => hPod_5), hfd_5, trivial⟩, by rw [ht]; exact hP, hD⟩, hS.F ht⟩) hS.2.2 dX9_span_37
  · refine lv_iload_n hx hb dX9_span_9 rfl (lv_at hl 3 rfl) ?_
    refine lv_iconst (v := 4) hx hb dX9_span_10 (by decide) ?_
    refine lv_icmp_le (tgt := 18) hx hb dX9_span_11 (by decide) (fun c_6 => ?_) (fun c_6 => ?_)
    · refine lv_aload_n hx hb dX9_span_18 rfl (lv_at hl 0 rfl) ?_
      refine lv_iload_n hx hb dX9_span_19 rfl (lv_at hl 1 rfl) ?_
      refine lv_iload_n hx hb dX9_span_20 rfl (lv_at hl 2 rfl) ?_
      refine yVri (As := [.int p0, .int p1]) (rest := []) C0 (g_X9_termWhy l G S d_1 h0 p0 p1 hSh hm_h0 hk_h0) ok_X9_termWhy (mW248 : Cond.methodLink RX9 175 yX9_termWhy ∈ wsT) ⟨Nat.le_of_ble_eq_true rfl, Nat.le_of_ble_eq_true rfl⟩ hP hD hK hN hm_h0 hk_h0 (by decide) rfl rfl rfl hl.1 rfl (Nat.le_of_ble_eq_true rfl) ⟨Nat.le_of_ble_eq_true rfl, Nat.le_of_ble_eq_true rfl⟩ dX9_span_21 (fun r_7 hr_7 => ?_)
      refine lv_istore (lv' := [(4, .int r_7), (0, .ref h0), (1, .int p0), (2, .int p1), (3, .int p2)]) hx hb dX9_span_24 hl (by decide) rfl (fun ls hl => ?_)
      refine lv_iload hx hb dX9_span_26 (lv_at hl 0 rfl) ?_
      refine lv_if_eq (tgt := 38) hx hb dX9_span_28 (by decide) (fun c_8 => ?_) (fun c_8 => ?_)
      · refine lv_bipush (v := 60) hx hb dX9_span_38 (by decide) ?_
        refine lv_iload_n hx hb dX9_span_40 rfl (lv_at hl 2 rfl) ?_
        refine lv_imul hx hb dX9_span_41 ?_
        refine lv_topi (fun z_9 ez_9 => ?_)
        refine lv_iload_n hx hb dX9_span_42 rfl (lv_at hl 3 rfl) ?_
        refine lv_iadd hx hb dX9_span_43 ?_
        refine lv_topi (fun z_10 ez_10 => ?_)
        refine lv_istore (lv' := [(5, .int z_10), (4, .int r_7), (0, .ref h0), (1, .int p0), (2, .int p1), (3, .int p2)]) hx hb dX9_span_44 hl (by decide) rfl (fun ls hl => ?_)
        refine lv_iload_n hx hb dX9_span_46 rfl (lv_at hl 5 rfl) ?_
        refine lv_if_ne (tgt := 60) hx hb dX9_span_47 (by decide) (fun c_11 => ?_) (fun c_11 => ?_)
        · refine lv_iload_n hx hb dX9_span_60 rfl (lv_at hl 5 rfl) ?_
          refine lv_iconst (v := 1) hx hb dX9_span_61 (by decide) ?_
          refine lv_icmp_ne (tgt := 75) hx hb dX9_span_62 (by decide) (fun c_12 => ?_) (fun c_12 => ?_)
          · refine lv_iload_n hx hb dX9_span_75 rfl (lv_at hl 5 rfl) ?_
            refine lv_iconst (v := 2) hx hb dX9_span_76 (by decide) ?_
            refine lv_icmp_ne (tgt := 90) hx hb dX9_span_77 (by decide) (fun c_13 => ?_) (fun c_13 => ?_)
            · refine lv_iload_n hx hb dX9_span_90 rfl (lv_at hl 5 rfl) ?_
              refine lv_iconst (v := 3) hx hb dX9_span_91 (by decide) ?_
              refine lv_icmp_ne (tgt := 105) hx hb dX9_span_92 (by decide) (fun c_14 => ?_) (fun c_14 => ?_)
              · refine lv_aload_n hx hb dX9_span_105 rfl (lv_at hl 2 rfl) ?_
                refine yget (ci := 9) (k := 10) (v := .ref (S.2.2.1 h0 10)) (C := RX9) (T := TX9) (N := 67) C0 hK hP hm_h0 hk_h0 (by decide) rfl inlX9 (by decide) mW114 (fun _ h9 => h9) rfl dX9_span_106 ?_
                obtain ⟨hmy_15, hky_15⟩ := ySh.f9_10 hSh _ hm_h0 hk_h0
                refine lv_iload hx hb dX9_span_109 (lv_at hl 0 rfl) ?_
                have F_16 := fnlt (rfl : (p2 : Int32).toInt = (p2 : Int32).toInt) (by decide +kernel : (0 : Int32).toInt = 0) c_2
                have F_17 := fle (rfl : (p2 : Int32).toInt = (p2 : Int32).toInt) (by decide +kernel : (4 : Int32).toInt = 4) c_6
                have F_18 := feq (rfl : (r_7 : Int32).toInt = (r_7 : Int32).toInt) (by decide +kernel : (0 : Int32).toInt = 0) c_8
                have F_19 := fne (rfl : (p2 : Int32).toInt = (p2 : Int32).toInt) (by decide +kernel : (0 : Int32).toInt = 0) c_11
                have F_20 := fne (rfl : (p2 : Int32).toInt = (p2 : Int32).toInt) (by decide +kernel : (1 : Int32).toInt = 1) c_12
                have F_21 := fne (rfl : (p2 : Int32).toInt = (p2 : Int32).toInt) (by decide +kernel : (2 : Int32).toInt = 2) c_13
                have F_22 := fne (rfl : (p2 : Int32).toInt = (p2 : Int32).toInt) (by decide +kernel : (3 : Int32).toInt = 3) c_14
                have T_24 : (z_9 : Int32).toInt = 60 * (p0 : Int32).toInt := tmul ez_9 (by decide +kernel : (60 : Int32).toInt = 60) (rfl : (p0 : Int32).toInt = (p0 : Int32).toInt) (by omega) (by omega)
                have T_23 : (z_10 : Int32).toInt = (z_9 : Int32).toInt + (p1 : Int32).toInt := tadd ez_10 (rfl : (z_9 : Int32).toInt = (z_9 : Int32).toInt) (rfl : (p1 : Int32).toInt = (p1 : Int32).toInt) (by omega) (by omega)
                refine yald C0 hK hP hmy_15 hky_15 (by decide) rfl 0 rfl (xinT 2400 rfl (by omega) (by omega)) dX9_span_111 ?_
                refine lv_topi (fun z_25 ez_25 => ?_)
                exact W.iret (v := z_25) hx hb hr (fun t ht hW => ⟨⟨z_25, d_1, rfl, ⟨hgd_1, (fun _ => hPod_1), hfd_1, trivial⟩, by rw [ht]; exact hP, hD⟩, hS.F ht⟩) hS.2.2 dX9_span_112
              · refine lv_aload_n hx hb dX9_span_95 rfl (lv_at hl 2 rfl) ?_
                refine yget (ci := 9) (k := 9) (v := .ref (S.2.2.1 h0 9)) (C := RX9) (T := TX9) (N := 67) C0 hK hP hm_h0 hk_h0 (by decide) rfl inlX9 (by decide) mW113 (fun _ h9 => h9) rfl dX9_span_96 ?_
                obtain ⟨hmy_26, hky_26⟩ := ySh.f9_9 hSh _ hm_h0 hk_h0
                refine lv_iload hx hb dX9_span_99 (lv_at hl 0 rfl) ?_
                have F_27 := fnlt (rfl : (p2 : Int32).toInt = (p2 : Int32).toInt) (by decide +kernel : (0 : Int32).toInt = 0) c_2
                have F_28 := fle (rfl : (p2 : Int32).toInt = (p2 : Int32).toInt) (by decide +kernel : (4 : Int32).toInt = 4) c_6
                have F_29 := feq (rfl : (r_7 : Int32).toInt = (r_7 : Int32).toInt) (by decide +kernel : (0 : Int32).toInt = 0) c_8
                have F_30 := fne (rfl : (p2 : Int32).toInt = (p2 : Int32).toInt) (by decide +kernel : (0 : Int32).toInt = 0) c_11
                have F_31 := fne (rfl : (p2 : Int32).toInt = (p2 : Int32).toInt) (by decide +kernel : (1 : Int32).toInt = 1) c_12
                have F_32 := fne (rfl : (p2 : Int32).toInt = (p2 : Int32).toInt) (by decide +kernel : (2 : Int32).toInt = 2) c_13
                have F_33 := feq (rfl : (p2 : Int32).toInt = (p2 : Int32).toInt) (by decide +kernel : (3 : Int32).toInt = 3) c_14
                have T_35 : (z_9 : Int32).toInt = 60 * (p0 : Int32).toInt := tmul ez_9 (by decide +kernel : (60 : Int32).toInt = 60) (rfl : (p0 : Int32).toInt = (p0 : Int32).toInt) (by omega) (by omega)
                have T_34 : (z_10 : Int32).toInt = (z_9 : Int32).toInt + (p1 : Int32).toInt := tadd ez_10 (rfl : (z_9 : Int32).toInt = (z_9 : Int32).toInt) (rfl : (p1 : Int32).toInt = (p1 : Int32).toInt) (by omega) (by omega)
                refine yaldB C0 hK hP hmy_26 hky_26 (by decide) rfl 1 rfl (xinT 2400 rfl (by omega) (by omega)) dX9_span_101 ?_
                refine lv_topi (fun z_36 ez_36 => ?_)
                refine lv_goto (tgt := 112) hx hb dX9_span_102 (by decide) ?_
                exact W.iret (v := z_36) hx hb hr (fun t ht hW => ⟨⟨z_36, d_1, rfl, ⟨hgd_1, (fun _ => hPod_1), hfd_1, trivial⟩, by rw [ht]; exact hP, hD⟩, hS.F ht⟩) hS.2.2 dX9_span_112
            · refine lv_aload_n hx hb dX9_span_80 rfl (lv_at hl 2 rfl) ?_
              refine yget (ci := 9) (k := 8) (v := .ref (S.2.2.1 h0 8)) (C := RX9) (T := TX9) (N := 67) C0 hK hP hm_h0 hk_h0 (by decide) rfl inlX9 (by decide) mW112 (fun _ h9 => h9) rfl dX9_span_81 ?_
              obtain ⟨hmy_37, hky_37⟩ := ySh.f9_8 hSh _ hm_h0 hk_h0
              refine lv_iload hx hb dX9_span_84 (lv_at hl 0 rfl) ?_
              have F_38 := fnlt (rfl : (p2 : Int32).toInt = (p2 : Int32).toInt) (by decide +kernel : (0 : Int32).toInt = 0) c_2
              have F_39 := fle (rfl : (p2 : Int32).toInt = (p2 : Int32).toInt) (by decide +kernel : (4 : Int32).toInt = 4) c_6
              have F_40 := feq (rfl : (r_7 : Int32).toInt = (r_7 : Int32).toInt) (by decide +kernel : (0 : Int32).toInt = 0) c_8
              have F_41 := fne (rfl : (p2 : Int32).toInt = (p2 : Int32).toInt) (by decide +kernel : (0 : Int32).toInt = 0) c_11
              have F_42 := fne (rfl : (p2 : Int32).toInt = (p2 : Int32).toInt) (by decide +kernel : (1 : Int32).toInt = 1) c_12
              have F_43 := feq (rfl : (p2 : Int32).toInt = (p2 : Int32).toInt) (by decide +kernel : (2 : Int32).toInt = 2) c_13
              have T_45 : (z_9 : Int32).toInt = 60 * (p0 : Int32).toInt := tmul ez_9 (by decide +kernel : (60 : Int32).toInt = 60) (rfl : (p0 : Int32).toInt = (p0 : Int32).toInt) (by omega) (by omega)
              have T_44 : (z_10 : Int32).toInt = (z_9 : Int32).toInt + (p1 : Int32).toInt := tadd ez_10 (rfl : (z_9 : Int32).toInt = (z_9 : Int32).toInt) (rfl : (p1 : Int32).toInt = (p1 : Int32).toInt) (by omega) (by omega)
              refine yald C0 hK hP hmy_37 hky_37 (by decide) rfl 0 rfl (xinT 2400 rfl (by omega) (by omega)) dX9_span_86 ?_
              refine lv_topi (fun z_46 ez_46 => ?_)
              refine lv_goto (tgt := 112) hx hb dX9_span_87 (by decide) ?_
              exact W.iret (v := z_46) hx hb hr (fun t ht hW => ⟨⟨z_46, d_1, rfl, ⟨hgd_1, (fun _ => hPod_1), hfd_1, trivial⟩, by rw [ht]; exact hP, hD⟩, hS.F ht⟩) hS.2.2 dX9_span_112
          · refine lv_aload_n hx hb dX9_span_65 rfl (lv_at hl 2 rfl) ?_
            refine yget (ci := 9) (k := 7) (v := .ref (S.2.2.1 h0 7)) (C := RX9) (T := TX9) (N := 67) C0 hK hP hm_h0 hk_h0 (by decide) rfl inlX9 (by decide) mW111 (fun _ h9 => h9) rfl dX9_span_66 ?_
            obtain ⟨hmy_47, hky_47⟩ := ySh.f9_7 hSh _ hm_h0 hk_h0
            refine lv_iload hx hb dX9_span_69 (lv_at hl 0 rfl) ?_
            have F_48 := fnlt (rfl : (p2 : Int32).toInt = (p2 : Int32).toInt) (by decide +kernel : (0 : Int32).toInt = 0) c_2
            have F_49 := fle (rfl : (p2 : Int32).toInt = (p2 : Int32).toInt) (by decide +kernel : (4 : Int32).toInt = 4) c_6
            have F_50 := feq (rfl : (r_7 : Int32).toInt = (r_7 : Int32).toInt) (by decide +kernel : (0 : Int32).toInt = 0) c_8
            have F_51 := fne (rfl : (p2 : Int32).toInt = (p2 : Int32).toInt) (by decide +kernel : (0 : Int32).toInt = 0) c_11
            have F_52 := feq (rfl : (p2 : Int32).toInt = (p2 : Int32).toInt) (by decide +kernel : (1 : Int32).toInt = 1) c_12
            have T_54 : (z_9 : Int32).toInt = 60 * (p0 : Int32).toInt := tmul ez_9 (by decide +kernel : (60 : Int32).toInt = 60) (rfl : (p0 : Int32).toInt = (p0 : Int32).toInt) (by omega) (by omega)
            have T_53 : (z_10 : Int32).toInt = (z_9 : Int32).toInt + (p1 : Int32).toInt := tadd ez_10 (rfl : (z_9 : Int32).toInt = (z_9 : Int32).toInt) (rfl : (p1 : Int32).toInt = (p1 : Int32).toInt) (by omega) (by omega)
            refine yald C0 hK hP hmy_47 hky_47 (by decide) rfl 0 rfl (xinT 2400 rfl (by omega) (by omega)) dX9_span_71 ?_
            refine lv_topi (fun z_55 ez_55 => ?_)
            refine lv_goto (tgt := 112) hx hb dX9_span_72 (by decide) ?_
            exact W.iret (v := z_55) hx hb hr (fun t ht hW => ⟨⟨z_55, d_1, rfl, ⟨hgd_1, (fun _ => hPod_1), hfd_1, trivial⟩, by rw [ht]; exact hP, hD⟩, hS.F ht⟩) hS.2.2 dX9_span_112
        · refine lv_aload_n hx hb dX9_span_50 rfl (lv_at hl 2 rfl) ?_
          refine yget (ci := 9) (k := 6) (v := .ref (S.2.2.1 h0 6)) (C := RX9) (T := TX9) (N := 67) C0 hK hP hm_h0 hk_h0 (by decide) rfl inlX9 (by decide) mW110 (fun _ h9 => h9) rfl dX9_span_51 ?_
          obtain ⟨hmy_56, hky_56⟩ := ySh.f9_6 hSh _ hm_h0 hk_h0
          refine lv_iload hx hb dX9_span_54 (lv_at hl 0 rfl) ?_
          have F_57 := fnlt (rfl : (p2 : Int32).toInt = (p2 : Int32).toInt) (by decide +kernel : (0 : Int32).toInt = 0) c_2
          have F_58 := fle (rfl : (p2 : Int32).toInt = (p2 : Int32).toInt) (by decide +kernel : (4 : Int32).toInt = 4) c_6
          have F_59 := feq (rfl : (r_7 : Int32).toInt = (r_7 : Int32).toInt) (by decide +kernel : (0 : Int32).toInt = 0) c_8
          have F_60 := feq (rfl : (p2 : Int32).toInt = (p2 : Int32).toInt) (by decide +kernel : (0 : Int32).toInt = 0) c_11
          have T_62 : (z_9 : Int32).toInt = 60 * (p0 : Int32).toInt := tmul ez_9 (by decide +kernel : (60 : Int32).toInt = 60) (rfl : (p0 : Int32).toInt = (p0 : Int32).toInt) (by omega) (by omega)
          have T_61 : (z_10 : Int32).toInt = (z_9 : Int32).toInt + (p1 : Int32).toInt := tadd ez_10 (rfl : (z_9 : Int32).toInt = (z_9 : Int32).toInt) (rfl : (p1 : Int32).toInt = (p1 : Int32).toInt) (by omega) (by omega)
          refine yaldB C0 hK hP hmy_56 hky_56 (by decide) rfl 1 rfl (xinT 2400 rfl (by omega) (by omega)) dX9_span_56 ?_
          refine lv_topi (fun z_63 ez_63 => ?_)
          refine lv_goto (tgt := 112) hx hb dX9_span_57 (by decide) ?_
          exact W.iret (v := z_63) hx hb hr (fun t ht hW => ⟨⟨z_63, d_1, rfl, ⟨hgd_1, (fun _ => hPod_1), hfd_1, trivial⟩, by rw [ht]; exact hP, hD⟩, hS.F ht⟩) hS.2.2 dX9_span_112
      · refine lv_aload_n hx hb dX9_span_31 rfl (lv_at hl 1 rfl) ?_
        refine lv_iload hx hb dX9_span_32 (lv_at hl 0 rfl) ?_
        have F_64 := fnlt (rfl : (p2 : Int32).toInt = (p2 : Int32).toInt) (by decide +kernel : (0 : Int32).toInt = 0) c_2
        have F_65 := fle (rfl : (p2 : Int32).toInt = (p2 : Int32).toInt) (by decide +kernel : (4 : Int32).toInt = 4) c_6
        have F_66 := fne (rfl : (r_7 : Int32).toInt = (r_7 : Int32).toInt) (by decide +kernel : (0 : Int32).toInt = 0) c_8
        refine yVwi (As := [.int r_7]) (rest := []) C0 (g_X9_no l G S d_1 h0 r_7 hSh hPod_1 hm_h0 hk_h0 (by refine ⟨?_, ?_⟩ <;> omega)) ok_X9_no (mW177 : Cond.methodLink RX9 168 yX9_no ∈ wsT) ⟨Nat.le_of_ble_eq_true rfl, Nat.le_of_ble_eq_true rfl⟩ hP hD hS hA hK hN hm_h0 hk_h0 (by decide) rfl rfl rfl hl.1 rfl (Nat.le_of_ble_eq_true rfl) ⟨Nat.le_of_ble_eq_true rfl, Nat.le_of_ble_eq_true rfl⟩ dX9_span_34 (fun r_67 d_68 H locs hr_67 hP hD hS => ?_)
        obtain ⟨hgad_68, hpad_68, hfad_68, hxd_68⟩ := hr_67
        have hfd_68 : yK [38] d d_68 h0 := yK.tr hfd_1 hfad_68 (by decide)
        have hgd_68 : yAg S [9, 69] d d_68 := yAg.tr hgd_1 hgad_68 (by first | decide | exact fun _ h => h)
        have hPod_68 : yPo S d_68 := hpad_68 hPod_1
        exact W.iret (v := r_67) hx hb hr (fun t ht hW => ⟨⟨r_67, d_68, rfl, ⟨hgd_68, (fun _ => hPod_68), hfd_68, trivial⟩, by rw [ht]; exact hP, hD⟩, hS.F ht⟩) hS.2.2 dX9_span_37
    · refine lv_iconst (v := 1) hx hb dX9_span_14 (by decide) ?_
      refine lv_goto (tgt := 24) hx hb dX9_span_15 (by decide) ?_
      refine lv_istore (lv' := [(4, .int 1), (0, .ref h0), (1, .int p0), (2, .int p1), (3, .int p2)]) hx hb dX9_span_24 hl (by decide) rfl (fun ls hl => ?_)
      refine lv_iload hx hb dX9_span_26 (lv_at hl 0 rfl) ?_
      refine lv_if_eq (tgt := 38) hx hb dX9_span_28 (by decide) (fun c_69 => absurd c_69 (by decide +kernel)) (fun c_69 => ?_)
      refine lv_aload_n hx hb dX9_span_31 rfl (lv_at hl 1 rfl) ?_
      refine lv_iload hx hb dX9_span_32 (lv_at hl 0 rfl) ?_
      refine yVwi (As := [.int 1]) (rest := []) C0 (g_X9_no l G S d_1 h0 1 hSh hPod_1 hm_h0 hk_h0 (by decide +kernel)) ok_X9_no (mW177 : Cond.methodLink RX9 168 yX9_no ∈ wsT) ⟨Nat.le_of_ble_eq_true rfl, Nat.le_of_ble_eq_true rfl⟩ hP hD hS hA hK hN hm_h0 hk_h0 (by decide) rfl rfl rfl hl.1 rfl (Nat.le_of_ble_eq_true rfl) ⟨Nat.le_of_ble_eq_true rfl, Nat.le_of_ble_eq_true rfl⟩ dX9_span_34 (fun r_70 d_71 H locs hr_70 hP hD hS => ?_)
      obtain ⟨hgad_71, hpad_71, hfad_71, hxd_71⟩ := hr_70
      have hfd_71 : yK [38] d d_71 h0 := yK.tr hfd_1 hfad_71 (by decide)
      have hgd_71 : yAg S [9, 69] d d_71 := yAg.tr hgd_1 hgad_71 (by first | decide | exact fun _ h => h)
      have hPod_71 : yPo S d_71 := hpad_71 hPod_1
      exact W.iret (v := r_70) hx hb hr (fun t ht hW => ⟨⟨r_70, d_71, rfl, ⟨hgd_71, (fun _ => hPod_71), hfd_71, trivial⟩, by rw [ht]; exact hP, hD⟩, hS.F ht⟩) hS.2.2 dX9_span_37
theorem dX9_amount_0 : decode cX9_amount 0 = .ok (.aload_n 0, 1) := by decide +kernel
theorem dX9_amount_1 : decode cX9_amount 1 = .ok (.iconst 0, 1) := by decide +kernel
theorem dX9_amount_2 : decode cX9_amount 2 = .ok (.putfield 147, 3) := by decide +kernel
theorem dX9_amount_5 : decode cX9_amount 5 = .ok (.iload_n 3, 1) := by decide +kernel
theorem dX9_amount_6 : decode cX9_amount 6 = .ok (.ldc 178, 2) := by decide +kernel
theorem dX9_amount_8 : decode cX9_amount 8 = .ok (.if_icmp .lt 9, 3) := by decide +kernel
theorem dX9_amount_11 : decode cX9_amount 11 = .ok (.iload_n 3, 1) := by decide +kernel
theorem dX9_amount_12 : decode cX9_amount 12 = .ok (.ldc 179, 2) := by decide +kernel
theorem dX9_amount_14 : decode cX9_amount 14 = .ok (.if_icmp .le 7, 3) := by decide +kernel
theorem dX9_amount_17 : decode cX9_amount 17 = .ok (.iconst 1, 1) := by decide +kernel
theorem dX9_amount_18 : decode cX9_amount 18 = .ok (.goto 9, 3) := by decide +kernel
theorem dX9_amount_21 : decode cX9_amount 21 = .ok (.aload_n 0, 1) := by decide +kernel
theorem dX9_amount_22 : decode cX9_amount 22 = .ok (.iload_n 1, 1) := by decide +kernel
theorem dX9_amount_23 : decode cX9_amount 23 = .ok (.iload_n 2, 1) := by decide +kernel
theorem dX9_amount_24 : decode cX9_amount 24 = .ok (.invokevirtual 175, 3) := by decide +kernel
theorem dX9_amount_27 : decode cX9_amount 27 = .ok (.istore 4, 2) := by decide +kernel
theorem dX9_amount_29 : decode cX9_amount 29 = .ok (.iload 4, 2) := by decide +kernel
theorem dX9_amount_31 : decode cX9_amount 31 = .ok (.ifCond .eq 12, 3) := by decide +kernel
theorem dX9_amount_34 : decode cX9_amount 34 = .ok (.aload_n 0, 1) := by decide +kernel
theorem dX9_amount_35 : decode cX9_amount 35 = .ok (.iload 4, 2) := by decide +kernel
theorem dX9_amount_37 : decode cX9_amount 37 = .ok (.invokevirtual 168, 3) := by decide +kernel
theorem dX9_amount_40 : decode cX9_amount 40 = .ok (.pop, 1) := by decide +kernel
theorem dX9_amount_41 : decode cX9_amount 41 = .ok (.iconst 0, 1) := by decide +kernel
theorem dX9_amount_42 : decode cX9_amount 42 = .ok (.ireturn, 1) := by decide +kernel
theorem dX9_amount_43 : decode cX9_amount 43 = .ok (.aload_n 0, 1) := by decide +kernel
theorem dX9_amount_44 : decode cX9_amount 44 = .ok (.getfield 33, 3) := by decide +kernel
theorem dX9_amount_47 : decode cX9_amount 47 = .ok (.bipush 60, 2) := by decide +kernel
theorem dX9_amount_49 : decode cX9_amount 49 = .ok (.iload_n 1, 1) := by decide +kernel
theorem dX9_amount_50 : decode cX9_amount 50 = .ok (.imul, 1) := by decide +kernel
theorem dX9_amount_51 : decode cX9_amount 51 = .ok (.iload_n 2, 1) := by decide +kernel
theorem dX9_amount_52 : decode cX9_amount 52 = .ok (.iadd, 1) := by decide +kernel
theorem dX9_amount_53 : decode cX9_amount 53 = .ok (.iload_n 3, 1) := by decide +kernel
theorem dX9_amount_54 : decode cX9_amount 54 = .ok (.iastore, 1) := by decide +kernel
theorem dX9_amount_55 : decode cX9_amount 55 = .ok (.iconst 1, 1) := by decide +kernel
theorem dX9_amount_56 : decode cX9_amount 56 = .ok (.ireturn, 1) := by decide +kernel
set_option maxHeartbeats 4000000 in
set_option maxRecDepth 100000 in
theorem g_X9_amount (l : Launch) (G : xG) (S : yS) (d : yD) (h0 : Nat) (p0 : Int32) (p1 : Int32) (p2 : Int32) (hSh : ySh S) (hPo : yPo S d) (hm_h0 : h0 ∈ S.1) (hk_h0 : S.2.1 h0 = 9) : xWi l G yX9_amount cX9_amount 5 (some .boolean) 3 66 0 0 [.ref h0, .int p0, .int p1, .int p2] (yW G S d) (fun r (u : yD) => yAg S [9, 40, 69] d u ∧ (yPo S d → yPo S u) ∧ yK [38] d u h0 ∧ (True)) (fun u => yW G S u) := by
  intro sz
  refine xstart (by decide) (Nat.le_of_ble_eq_true rfl) (fun p e s m args below meth c ls C0 hr hlocks hin hsz hP hK hD hN hl => ?_)
  obtain ⟨hx, hb, hml, hown, htl⟩ := id C0
  subst hsz
  have hD := hD.self (sz := s.heap.size)
  generalize hAe : va_A (yW G S d) s.heap.size = A at hD ⊢
  have hA : ∀ q : Nat, s.heap.size ≤ q → A q := fun q h => by rw [← hAe]; exact Or.inr h
  have hS : va_S A s.heap s.heap [] := va_S.rf
  have hg0 : yAg S [9, 40, 69] d d := yAg.rf
  have hl : lv_has ls 5 [(0, .ref h0), (1, .int p0), (2, .int p1), (3, .int p2)] := hl
  refine lv_aload_n hx hb dX9_amount_0 rfl (lv_at hl 0 rfl) ?_
  refine lv_iconst (v := 0) hx hb dX9_amount_1 (by decide) ?_
  refine yputI (ci := 9) (k := 38) (ty := .int) (C := RX9) (T := TX9) (N := 67) C0 hK hP hD hS hm_h0 hk_h0 (by decide) rfl inlX9 tyX9 tyX9_ok nmX9 (by decide) mW175 (fun _ h9 => h9) rfl (by decide +kernel) rfl rfl (Nat.le_of_ble_eq_true rfl) ysi_9_38 dX9_amount_2 (fun H locs hP hD hS => ?_)
  obtain ⟨d_1, ed_1⟩ : ∃ z : yD, z = yi d h0 38 0 := ⟨_, rfl⟩
  rw [← ed_1] at hP hD
  have hgd_1 : yAg S [9, 40, 69] d d_1 := by rw [ed_1]; exact yAg.i hg0 (by rw [hk_h0]; decide)
  have hPod_1 : yPo S d_1 := by rw [ed_1]; exact yPo.i hPo hk_h0 (Or.inl rfl)
  have hfd_1 : yK [38] d d_1 h0 := by rw [ed_1]; exact yK.i yK.rf (by decide)
  refine lv_iload_n hx hb dX9_amount_5 rfl (lv_at hl 3 rfl) ?_
  refine lv_ldc (v := (-1000000)) hx hb hown (htl (.constant RX9 178 (-1000000)) mW263) dX9_amount_6 ?_
  refine lv_icmp_lt (tgt := 17) hx hb dX9_amount_8 (by decide) (fun c_2 => ?_) (fun c_2 => ?_)
  · refine lv_iconst (v := 1) hx hb dX9_amount_17 (by decide) ?_
    refine lv_goto (tgt := 27) hx hb dX9_amount_18 (by decide) ?_
    refine lv_istore (lv' := [(4, .int 1), (0, .ref h0), (1, .int p0), (2, .int p1), (3, .int p2)]) hx hb dX9_amount_27 hl (by decide) rfl (fun ls hl => ?_)
    refine lv_iload hx hb dX9_amount_29 (lv_at hl 0 rfl) ?_
    refine lv_if_eq (tgt := 43) hx hb dX9_amount_31 (by decide) (fun c_3 => absurd c_3 (by decide +kernel)) (fun c_3 => ?_)
    refine lv_aload_n hx hb dX9_amount_34 rfl (lv_at hl 1 rfl) ?_
    refine lv_iload hx hb dX9_amount_35 (lv_at hl 0 rfl) ?_
    refine yVwi (As := [.int 1]) (rest := []) C0 (g_X9_no l G S d_1 h0 1 hSh hPod_1 hm_h0 hk_h0 (by decide +kernel)) ok_X9_no (mW177 : Cond.methodLink RX9 168 yX9_no ∈ wsT) ⟨Nat.le_of_ble_eq_true rfl, Nat.le_of_ble_eq_true rfl⟩ hP hD hS hA hK hN hm_h0 hk_h0 (by decide) rfl rfl rfl hl.1 rfl (Nat.le_of_ble_eq_true rfl) ⟨Nat.le_of_ble_eq_true rfl, Nat.le_of_ble_eq_true rfl⟩ dX9_amount_37 (fun r_4 d_5 H locs hr_4 hP hD hS => ?_)
    obtain ⟨hgad_5, hpad_5, hfad_5, hxd_5⟩ := hr_4
    have hfd_5 : yK [38] d d_5 h0 := yK.tr hfd_1 hfad_5 (by decide)
    have hgd_5 : yAg S [9, 40, 69] d d_5 := yAg.tr hgd_1 hgad_5 (by first | decide | exact fun _ h => h)
    have hPod_5 : yPo S d_5 := hpad_5 hPod_1
    refine lv_pop hx hb dX9_amount_40 rfl ?_
    refine lv_iconst (v := 0) hx hb dX9_amount_41 (by decide) ?_
    exact W.zret (v := 0) (ty := .boolean) hx hb hr rfl (fun t ht hW => ⟨⟨0, d_5, rfl, ⟨hgd_5, (fun _ => hPod_5), hfd_5, trivial⟩, by rw [ht]; exact hP, hD⟩, hS.F ht⟩) hS.2.2 dX9_amount_42
  · refine lv_iload_n hx hb dX9_amount_11 rfl (lv_at hl 3 rfl) ?_
    refine lv_ldc (v := 1000000) hx hb hown (htl (.constant RX9 179 (1000000)) mW264) dX9_amount_12 ?_
    refine lv_icmp_le (tgt := 21) hx hb dX9_amount_14 (by decide) (fun c_6 => ?_) (fun c_6 => ?_)
    · refine lv_aload_n hx hb dX9_amount_21 rfl (lv_at hl 0 rfl) ?_
      refine lv_iload_n hx hb dX9_amount_22 rfl (lv_at hl 1 rfl) ?_
      refine lv_iload_n hx hb dX9_amount_23 rfl (lv_at hl 2 rfl) ?_
      refine yVri (As := [.int p0, .int p1]) (rest := []) C0 (g_X9_termWhy l G S d_1 h0 p0 p1 hSh hm_h0 hk_h0) ok_X9_termWhy (mW248 : Cond.methodLink RX9 175 yX9_termWhy ∈ wsT) ⟨Nat.le_of_ble_eq_true rfl, Nat.le_of_ble_eq_true rfl⟩ hP hD hK hN hm_h0 hk_h0 (by decide) rfl rfl rfl hl.1 rfl (Nat.le_of_ble_eq_true rfl) ⟨Nat.le_of_ble_eq_true rfl, Nat.le_of_ble_eq_true rfl⟩ dX9_amount_24 (fun r_7 hr_7 => ?_)
      refine lv_istore (lv' := [(4, .int r_7), (0, .ref h0), (1, .int p0), (2, .int p1), (3, .int p2)]) hx hb dX9_amount_27 hl (by decide) rfl (fun ls hl => ?_)
      refine lv_iload hx hb dX9_amount_29 (lv_at hl 0 rfl) ?_
      refine lv_if_eq (tgt := 43) hx hb dX9_amount_31 (by decide) (fun c_8 => ?_) (fun c_8 => ?_)
      · refine lv_aload_n hx hb dX9_amount_43 rfl (lv_at hl 1 rfl) ?_
        refine yget (ci := 9) (k := 10) (v := .ref (S.2.2.1 h0 10)) (C := RX9) (T := TX9) (N := 67) C0 hK hP hm_h0 hk_h0 (by decide) rfl inlX9 (by decide) mW114 (fun _ h9 => h9) rfl dX9_amount_44 ?_
        obtain ⟨hmy_9, hky_9⟩ := ySh.f9_10 hSh _ hm_h0 hk_h0
        refine lv_bipush (v := 60) hx hb dX9_amount_47 (by decide) ?_
        refine lv_iload_n hx hb dX9_amount_49 rfl (lv_at hl 2 rfl) ?_
        refine lv_imul hx hb dX9_amount_50 ?_
        refine lv_topi (fun z_10 ez_10 => ?_)
        refine lv_iload_n hx hb dX9_amount_51 rfl (lv_at hl 3 rfl) ?_
        refine lv_iadd hx hb dX9_amount_52 ?_
        refine lv_topi (fun z_11 ez_11 => ?_)
        refine lv_iload_n hx hb dX9_amount_53 rfl (lv_at hl 4 rfl) ?_
        have F_12 := fnlt (rfl : (p2 : Int32).toInt = (p2 : Int32).toInt) (by decide +kernel : ((-1000000) : Int32).toInt = (-1000000)) c_2
        have F_13 := fle (rfl : (p2 : Int32).toInt = (p2 : Int32).toInt) (by decide +kernel : (1000000 : Int32).toInt = 1000000) c_6
        have F_14 := feq (rfl : (r_7 : Int32).toInt = (r_7 : Int32).toInt) (by decide +kernel : (0 : Int32).toInt = 0) c_8
        have T_16 : (z_10 : Int32).toInt = 60 * (p0 : Int32).toInt := tmul ez_10 (by decide +kernel : (60 : Int32).toInt = 60) (rfl : (p0 : Int32).toInt = (p0 : Int32).toInt) (by omega) (by omega)
        have T_15 : (z_11 : Int32).toInt = (z_10 : Int32).toInt + (p1 : Int32).toInt := tadd ez_11 (rfl : (z_10 : Int32).toInt = (z_10 : Int32).toInt) (rfl : (p1 : Int32).toInt = (p1 : Int32).toInt) (by omega) (by omega)
        refine yast C0 hK hP hD hS hmy_9 hky_9 (by decide) rfl 0 rfl (xinT 2400 rfl (by omega) (by omega)) dX9_amount_54 (fun H locs hP hD hS => ?_)
        obtain ⟨d_17, ed_17⟩ : ∃ z : yD, z = ycs d_1 (S.2.2.1 h0 10) (upd (d_1.2.2.2.1 (S.2.2.1 h0 10)) (z_11 : Int32).toNatClampNeg p2) := ⟨_, rfl⟩
        rw [← ed_17] at hP hD
        have hgd_17 : yAg S [9, 40, 69] d d_17 := by rw [ed_17]; exact yAg.cs hgd_1 (by rw [hky_9]; decide)
        have hPod_17 : yPo S d_17 := by rw [ed_17]; exact hPod_1
        have hfd_17 : yK [38] d d_17 h0 := yK.ag hfd_1 (show yAg S [40] d_1 d_17 from by rw [ed_17]; exact yAg.cs yAg.rf (by rw [hky_9]; decide)) (by rw [hk_h0]; decide)
        refine lv_iconst (v := 1) hx hb dX9_amount_55 (by decide) ?_
        exact W.zret (v := 1) (ty := .boolean) hx hb hr rfl (fun t ht hW => ⟨⟨1, d_17, rfl, ⟨hgd_17, (fun _ => hPod_17), hfd_17, trivial⟩, by rw [ht]; exact hP, hD⟩, hS.F ht⟩) hS.2.2 dX9_amount_56
      · refine lv_aload_n hx hb dX9_amount_34 rfl (lv_at hl 1 rfl) ?_
        refine lv_iload hx hb dX9_amount_35 (lv_at hl 0 rfl) ?_
        have F_18 := fnlt (rfl : (p2 : Int32).toInt = (p2 : Int32).toInt) (by decide +kernel : ((-1000000) : Int32).toInt = (-1000000)) c_2
        have F_19 := fle (rfl : (p2 : Int32).toInt = (p2 : Int32).toInt) (by decide +kernel : (1000000 : Int32).toInt = 1000000) c_6
        have F_20 := fne (rfl : (r_7 : Int32).toInt = (r_7 : Int32).toInt) (by decide +kernel : (0 : Int32).toInt = 0) c_8
        refine yVwi (As := [.int r_7]) (rest := []) C0 (g_X9_no l G S d_1 h0 r_7 hSh hPod_1 hm_h0 hk_h0 (by refine ⟨?_, ?_⟩ <;> omega)) ok_X9_no (mW177 : Cond.methodLink RX9 168 yX9_no ∈ wsT) ⟨Nat.le_of_ble_eq_true rfl, Nat.le_of_ble_eq_true rfl⟩ hP hD hS hA hK hN hm_h0 hk_h0 (by decide) rfl rfl rfl hl.1 rfl (Nat.le_of_ble_eq_true rfl) ⟨Nat.le_of_ble_eq_true rfl, Nat.le_of_ble_eq_true rfl⟩ dX9_amount_37 (fun r_21 d_22 H locs hr_21 hP hD hS => ?_)
        obtain ⟨hgad_22, hpad_22, hfad_22, hxd_22⟩ := hr_21
        have hfd_22 : yK [38] d d_22 h0 := yK.tr hfd_1 hfad_22 (by decide)
        have hgd_22 : yAg S [9, 40, 69] d d_22 := yAg.tr hgd_1 hgad_22 (by first | decide | exact fun _ h => h)
        have hPod_22 : yPo S d_22 := hpad_22 hPod_1
        refine lv_pop hx hb dX9_amount_40 rfl ?_
        refine lv_iconst (v := 0) hx hb dX9_amount_41 (by decide) ?_
        exact W.zret (v := 0) (ty := .boolean) hx hb hr rfl (fun t ht hW => ⟨⟨0, d_22, rfl, ⟨hgd_22, (fun _ => hPod_22), hfd_22, trivial⟩, by rw [ht]; exact hP, hD⟩, hS.F ht⟩) hS.2.2 dX9_amount_42
    · refine lv_iconst (v := 1) hx hb dX9_amount_17 (by decide) ?_
      refine lv_goto (tgt := 27) hx hb dX9_amount_18 (by decide) ?_
      refine lv_istore (lv' := [(4, .int 1), (0, .ref h0), (1, .int p0), (2, .int p1), (3, .int p2)]) hx hb dX9_amount_27 hl (by decide) rfl (fun ls hl => ?_)
      refine lv_iload hx hb dX9_amount_29 (lv_at hl 0 rfl) ?_
      refine lv_if_eq (tgt := 43) hx hb dX9_amount_31 (by decide) (fun c_23 => absurd c_23 (by decide +kernel)) (fun c_23 => ?_)
      refine lv_aload_n hx hb dX9_amount_34 rfl (lv_at hl 1 rfl) ?_
      refine lv_iload hx hb dX9_amount_35 (lv_at hl 0 rfl) ?_
      refine yVwi (As := [.int 1]) (rest := []) C0 (g_X9_no l G S d_1 h0 1 hSh hPod_1 hm_h0 hk_h0 (by decide +kernel)) ok_X9_no (mW177 : Cond.methodLink RX9 168 yX9_no ∈ wsT) ⟨Nat.le_of_ble_eq_true rfl, Nat.le_of_ble_eq_true rfl⟩ hP hD hS hA hK hN hm_h0 hk_h0 (by decide) rfl rfl rfl hl.1 rfl (Nat.le_of_ble_eq_true rfl) ⟨Nat.le_of_ble_eq_true rfl, Nat.le_of_ble_eq_true rfl⟩ dX9_amount_37 (fun r_24 d_25 H locs hr_24 hP hD hS => ?_)
      obtain ⟨hgad_25, hpad_25, hfad_25, hxd_25⟩ := hr_24
      have hfd_25 : yK [38] d d_25 h0 := yK.tr hfd_1 hfad_25 (by decide)
      have hgd_25 : yAg S [9, 40, 69] d d_25 := yAg.tr hgd_1 hgad_25 (by first | decide | exact fun _ h => h)
      have hPod_25 : yPo S d_25 := hpad_25 hPod_1
      refine lv_pop hx hb dX9_amount_40 rfl ?_
      refine lv_iconst (v := 0) hx hb dX9_amount_41 (by decide) ?_
      exact W.zret (v := 0) (ty := .boolean) hx hb hr rfl (fun t ht hW => ⟨⟨0, d_25, rfl, ⟨hgd_25, (fun _ => hPod_25), hfd_25, trivial⟩, by rw [ht]; exact hP, hD⟩, hS.F ht⟩) hS.2.2 dX9_amount_42
theorem dX9_heading_0 : decode cX9_heading 0 = .ok (.aload_n 0, 1) := by decide +kernel
theorem dX9_heading_1 : decode cX9_heading 1 = .ok (.iconst 0, 1) := by decide +kernel
theorem dX9_heading_2 : decode cX9_heading 2 = .ok (.putfield 147, 3) := by decide +kernel
theorem dX9_heading_5 : decode cX9_heading 5 = .ok (.aload_n 0, 1) := by decide +kernel
theorem dX9_heading_6 : decode cX9_heading 6 = .ok (.iload_n 1, 1) := by decide +kernel
theorem dX9_heading_7 : decode cX9_heading 7 = .ok (.iload_n 2, 1) := by decide +kernel
theorem dX9_heading_8 : decode cX9_heading 8 = .ok (.invokevirtual 171, 3) := by decide +kernel
theorem dX9_heading_11 : decode cX9_heading 11 = .ok (.istore 4, 2) := by decide +kernel
theorem dX9_heading_13 : decode cX9_heading 13 = .ok (.iload 4, 2) := by decide +kernel
theorem dX9_heading_15 : decode cX9_heading 15 = .ok (.ifCond .eq 12, 3) := by decide +kernel
theorem dX9_heading_18 : decode cX9_heading 18 = .ok (.aload_n 0, 1) := by decide +kernel
theorem dX9_heading_19 : decode cX9_heading 19 = .ok (.iload 4, 2) := by decide +kernel
theorem dX9_heading_21 : decode cX9_heading 21 = .ok (.invokevirtual 168, 3) := by decide +kernel
theorem dX9_heading_24 : decode cX9_heading 24 = .ok (.pop, 1) := by decide +kernel
theorem dX9_heading_25 : decode cX9_heading 25 = .ok (.iconst 0, 1) := by decide +kernel
theorem dX9_heading_26 : decode cX9_heading 26 = .ok (.ireturn, 1) := by decide +kernel
theorem dX9_heading_27 : decode cX9_heading 27 = .ok (.aload_n 0, 1) := by decide +kernel
theorem dX9_heading_28 : decode cX9_heading 28 = .ok (.getfield 13, 3) := by decide +kernel
theorem dX9_heading_31 : decode cX9_heading 31 = .ok (.bipush 60, 2) := by decide +kernel
theorem dX9_heading_33 : decode cX9_heading 33 = .ok (.iload_n 1, 1) := by decide +kernel
theorem dX9_heading_34 : decode cX9_heading 34 = .ok (.imul, 1) := by decide +kernel
theorem dX9_heading_35 : decode cX9_heading 35 = .ok (.iload_n 2, 1) := by decide +kernel
theorem dX9_heading_36 : decode cX9_heading 36 = .ok (.iadd, 1) := by decide +kernel
theorem dX9_heading_37 : decode cX9_heading 37 = .ok (.iconst 1, 1) := by decide +kernel
theorem dX9_heading_38 : decode cX9_heading 38 = .ok (.bastore, 1) := by decide +kernel
theorem dX9_heading_39 : decode cX9_heading 39 = .ok (.aload_n 0, 1) := by decide +kernel
theorem dX9_heading_40 : decode cX9_heading 40 = .ok (.getfield 33, 3) := by decide +kernel
theorem dX9_heading_43 : decode cX9_heading 43 = .ok (.bipush 60, 2) := by decide +kernel
theorem dX9_heading_45 : decode cX9_heading 45 = .ok (.iload_n 1, 1) := by decide +kernel
theorem dX9_heading_46 : decode cX9_heading 46 = .ok (.imul, 1) := by decide +kernel
theorem dX9_heading_47 : decode cX9_heading 47 = .ok (.iload_n 2, 1) := by decide +kernel
theorem dX9_heading_48 : decode cX9_heading 48 = .ok (.iadd, 1) := by decide +kernel
theorem dX9_heading_49 : decode cX9_heading 49 = .ok (.iload_n 3, 1) := by decide +kernel
theorem dX9_heading_50 : decode cX9_heading 50 = .ok (.iastore, 1) := by decide +kernel
theorem dX9_heading_51 : decode cX9_heading 51 = .ok (.iconst 1, 1) := by decide +kernel
theorem dX9_heading_52 : decode cX9_heading 52 = .ok (.ireturn, 1) := by decide +kernel
set_option maxHeartbeats 4000000 in
set_option maxRecDepth 100000 in
theorem g_X9_heading (l : Launch) (G : xG) (S : yS) (d : yD) (h0 : Nat) (p0 : Int32) (p1 : Int32) (p2 : Int32) (hSh : ySh S) (hPo : yPo S d) (hm_h0 : h0 ∈ S.1) (hk_h0 : S.2.1 h0 = 9) : xWi l G yX9_heading cX9_heading 5 (some .boolean) 2 43 0 0 [.ref h0, .int p0, .int p1, .int p2] (yW G S d) (fun r (u : yD) => yAg S [9, 34, 40, 69] d u ∧ (yPo S d → yPo S u) ∧ yK [38] d u h0 ∧ (True)) (fun u => yW G S u) := by
  intro sz
  refine xstart (by decide) (Nat.le_of_ble_eq_true rfl) (fun p e s m args below meth c ls C0 hr hlocks hin hsz hP hK hD hN hl => ?_)
  obtain ⟨hx, hb, hml, hown, htl⟩ := id C0
  subst hsz
  have hD := hD.self (sz := s.heap.size)
  generalize hAe : va_A (yW G S d) s.heap.size = A at hD ⊢
  have hA : ∀ q : Nat, s.heap.size ≤ q → A q := fun q h => by rw [← hAe]; exact Or.inr h
  have hS : va_S A s.heap s.heap [] := va_S.rf
  have hg0 : yAg S [9, 34, 40, 69] d d := yAg.rf
  have hl : lv_has ls 5 [(0, .ref h0), (1, .int p0), (2, .int p1), (3, .int p2)] := hl
  refine lv_aload_n hx hb dX9_heading_0 rfl (lv_at hl 0 rfl) ?_
  refine lv_iconst (v := 0) hx hb dX9_heading_1 (by decide) ?_
  refine yputI (ci := 9) (k := 38) (ty := .int) (C := RX9) (T := TX9) (N := 67) C0 hK hP hD hS hm_h0 hk_h0 (by decide) rfl inlX9 tyX9 tyX9_ok nmX9 (by decide) mW175 (fun _ h9 => h9) rfl (by decide +kernel) rfl rfl (Nat.le_of_ble_eq_true rfl) ysi_9_38 dX9_heading_2 (fun H locs hP hD hS => ?_)
  obtain ⟨d_1, ed_1⟩ : ∃ z : yD, z = yi d h0 38 0 := ⟨_, rfl⟩
  rw [← ed_1] at hP hD
  have hgd_1 : yAg S [9, 34, 40, 69] d d_1 := by rw [ed_1]; exact yAg.i hg0 (by rw [hk_h0]; decide)
  have hPod_1 : yPo S d_1 := by rw [ed_1]; exact yPo.i hPo hk_h0 (Or.inl rfl)
  have hfd_1 : yK [38] d d_1 h0 := by rw [ed_1]; exact yK.i yK.rf (by decide)
  refine lv_aload_n hx hb dX9_heading_5 rfl (lv_at hl 0 rfl) ?_
  refine lv_iload_n hx hb dX9_heading_6 rfl (lv_at hl 1 rfl) ?_
  refine lv_iload_n hx hb dX9_heading_7 rfl (lv_at hl 2 rfl) ?_
  refine yVri (As := [.int p0, .int p1]) (rest := []) C0 (g_X9_placeWhy l G S d_1 h0 p0 p1 hSh hm_h0 hk_h0) ok_X9_placeWhy (mW222 : Cond.methodLink RX9 171 yX9_placeWhy ∈ wsT) ⟨Nat.le_of_ble_eq_true rfl, Nat.le_of_ble_eq_true rfl⟩ hP hD hK hN hm_h0 hk_h0 (by decide) rfl rfl rfl hl.1 rfl (Nat.le_of_ble_eq_true rfl) ⟨Nat.le_of_ble_eq_true rfl, Nat.le_of_ble_eq_true rfl⟩ dX9_heading_8 (fun r_2 hr_2 => ?_)
  refine lv_istore (lv' := [(4, .int r_2), (0, .ref h0), (1, .int p0), (2, .int p1), (3, .int p2)]) hx hb dX9_heading_11 hl (by decide) rfl (fun ls hl => ?_)
  refine lv_iload hx hb dX9_heading_13 (lv_at hl 0 rfl) ?_
  refine lv_if_eq (tgt := 27) hx hb dX9_heading_15 (by decide) (fun c_3 => ?_) (fun c_3 => ?_)
  · refine lv_aload_n hx hb dX9_heading_27 rfl (lv_at hl 1 rfl) ?_
    refine yget (ci := 9) (k := 4) (v := .ref (S.2.2.1 h0 4)) (C := RX9) (T := TX9) (N := 67) C0 hK hP hm_h0 hk_h0 (by decide) rfl inlX9 (by decide) mW108 (fun _ h9 => h9) rfl dX9_heading_28 ?_
    obtain ⟨hmy_4, hky_4⟩ := ySh.f9_4 hSh _ hm_h0 hk_h0
    refine lv_bipush (v := 60) hx hb dX9_heading_31 (by decide) ?_
    refine lv_iload_n hx hb dX9_heading_33 rfl (lv_at hl 2 rfl) ?_
    refine lv_imul hx hb dX9_heading_34 ?_
    refine lv_topi (fun z_5 ez_5 => ?_)
    refine lv_iload_n hx hb dX9_heading_35 rfl (lv_at hl 3 rfl) ?_
    refine lv_iadd hx hb dX9_heading_36 ?_
    refine lv_topi (fun z_6 ez_6 => ?_)
    refine lv_iconst (v := 1) hx hb dX9_heading_37 (by decide) ?_
    have F_7 := feq (rfl : (r_2 : Int32).toInt = (r_2 : Int32).toInt) (by decide +kernel : (0 : Int32).toInt = 0) c_3
    have T_9 : (z_5 : Int32).toInt = 60 * (p0 : Int32).toInt := tmul ez_5 (by decide +kernel : (60 : Int32).toInt = 60) (rfl : (p0 : Int32).toInt = (p0 : Int32).toInt) (by omega) (by omega)
    have T_8 : (z_6 : Int32).toInt = (z_5 : Int32).toInt + (p1 : Int32).toInt := tadd ez_6 (rfl : (z_5 : Int32).toInt = (z_5 : Int32).toInt) (rfl : (p1 : Int32).toInt = (p1 : Int32).toInt) (by omega) (by omega)
    refine yastB C0 hK hP hD hS hmy_4 hky_4 (by decide) rfl 1 rfl (xinT 2400 rfl (by omega) (by omega)) dX9_heading_38 (fun H locs hP hD hS => ?_)
    obtain ⟨d_10, ed_10⟩ : ∃ z : yD, z = ycs d_1 (S.2.2.1 h0 4) (upd (d_1.2.2.2.1 (S.2.2.1 h0 4)) (z_6 : Int32).toNatClampNeg (vp_nar .byte 1)) := ⟨_, rfl⟩
    rw [← ed_10] at hP hD
    have hgd_10 : yAg S [9, 34, 40, 69] d d_10 := by rw [ed_10]; exact yAg.cs hgd_1 (by rw [hky_4]; decide)
    have hPod_10 : yPo S d_10 := by rw [ed_10]; exact hPod_1
    have hfd_10 : yK [38] d d_10 h0 := yK.ag hfd_1 (show yAg S [34] d_1 d_10 from by rw [ed_10]; exact yAg.cs yAg.rf (by rw [hky_4]; decide)) (by rw [hk_h0]; decide)
    refine lv_aload_n hx hb dX9_heading_39 rfl (lv_at hl 1 rfl) ?_
    refine yget (ci := 9) (k := 10) (v := .ref (S.2.2.1 h0 10)) (C := RX9) (T := TX9) (N := 67) C0 hK hP hm_h0 hk_h0 (by decide) rfl inlX9 (by decide) mW114 (fun _ h9 => h9) rfl dX9_heading_40 ?_
    obtain ⟨hmy_11, hky_11⟩ := ySh.f9_10 hSh _ hm_h0 hk_h0
    refine lv_bipush (v := 60) hx hb dX9_heading_43 (by decide) ?_
    refine lv_iload_n hx hb dX9_heading_45 rfl (lv_at hl 2 rfl) ?_
    refine lv_imul hx hb dX9_heading_46 ?_
    refine lv_topi (fun z_12 ez_12 => ?_)
    refine lv_iload_n hx hb dX9_heading_47 rfl (lv_at hl 3 rfl) ?_
    refine lv_iadd hx hb dX9_heading_48 ?_
    refine lv_topi (fun z_13 ez_13 => ?_)
    refine lv_iload_n hx hb dX9_heading_49 rfl (lv_at hl 4 rfl) ?_
    have T_15 : (z_12 : Int32).toInt = 60 * (p0 : Int32).toInt := tmul ez_12 (by decide +kernel : (60 : Int32).toInt = 60) (rfl : (p0 : Int32).toInt = (p0 : Int32).toInt) (by omega) (by omega)
    have T_14 : (z_13 : Int32).toInt = (z_12 : Int32).toInt + (p1 : Int32).toInt := tadd ez_13 (rfl : (z_12 : Int32).toInt = (z_12 : Int32).toInt) (rfl : (p1 : Int32).toInt = (p1 : Int32).toInt) (by omega) (by omega)
    refine yast C0 hK hP hD hS hmy_11 hky_11 (by decide) rfl 0 rfl (xinT 2400 rfl (by omega) (by omega)) dX9_heading_50 (fun H locs hP hD hS => ?_)
    obtain ⟨d_16, ed_16⟩ : ∃ z : yD, z = ycs d_10 (S.2.2.1 h0 10) (upd (d_10.2.2.2.1 (S.2.2.1 h0 10)) (z_13 : Int32).toNatClampNeg p2) := ⟨_, rfl⟩
    rw [← ed_16] at hP hD
    have hgd_16 : yAg S [9, 34, 40, 69] d d_16 := by rw [ed_16]; exact yAg.cs hgd_10 (by rw [hky_11]; decide)
    have hPod_16 : yPo S d_16 := by rw [ed_16]; exact hPod_10
    have hfd_16 : yK [38] d d_16 h0 := yK.ag hfd_10 (show yAg S [40] d_10 d_16 from by rw [ed_16]; exact yAg.cs yAg.rf (by rw [hky_11]; decide)) (by rw [hk_h0]; decide)
    refine lv_iconst (v := 1) hx hb dX9_heading_51 (by decide) ?_
    exact W.zret (v := 1) (ty := .boolean) hx hb hr rfl (fun t ht hW => ⟨⟨1, d_16, rfl, ⟨hgd_16, (fun _ => hPod_16), hfd_16, trivial⟩, by rw [ht]; exact hP, hD⟩, hS.F ht⟩) hS.2.2 dX9_heading_52
  · refine lv_aload_n hx hb dX9_heading_18 rfl (lv_at hl 1 rfl) ?_
    refine lv_iload hx hb dX9_heading_19 (lv_at hl 0 rfl) ?_
    have F_17 := fne (rfl : (r_2 : Int32).toInt = (r_2 : Int32).toInt) (by decide +kernel : (0 : Int32).toInt = 0) c_3
    refine yVwi (As := [.int r_2]) (rest := []) C0 (g_X9_no l G S d_1 h0 r_2 hSh hPod_1 hm_h0 hk_h0 (by refine ⟨?_, ?_⟩ <;> omega)) ok_X9_no (mW177 : Cond.methodLink RX9 168 yX9_no ∈ wsT) ⟨Nat.le_of_ble_eq_true rfl, Nat.le_of_ble_eq_true rfl⟩ hP hD hS hA hK hN hm_h0 hk_h0 (by decide) rfl rfl rfl hl.1 rfl (Nat.le_of_ble_eq_true rfl) ⟨Nat.le_of_ble_eq_true rfl, Nat.le_of_ble_eq_true rfl⟩ dX9_heading_21 (fun r_18 d_19 H locs hr_18 hP hD hS => ?_)
    obtain ⟨hgad_19, hpad_19, hfad_19, hxd_19⟩ := hr_18
    have hfd_19 : yK [38] d d_19 h0 := yK.tr hfd_1 hfad_19 (by decide)
    have hgd_19 : yAg S [9, 34, 40, 69] d d_19 := yAg.tr hgd_1 hgad_19 (by first | decide | exact fun _ h => h)
    have hPod_19 : yPo S d_19 := hpad_19 hPod_1
    refine lv_pop hx hb dX9_heading_24 rfl ?_
    refine lv_iconst (v := 0) hx hb dX9_heading_25 (by decide) ?_
    exact W.zret (v := 0) (ty := .boolean) hx hb hr rfl (fun t ht hW => ⟨⟨0, d_19, rfl, ⟨hgd_19, (fun _ => hPod_19), hfd_19, trivial⟩, by rw [ht]; exact hP, hD⟩, hS.F ht⟩) hS.2.2 dX9_heading_26
theorem dX9_strike_0 : decode cX9_strike 0 = .ok (.aload_n 0, 1) := by decide +kernel
theorem dX9_strike_1 : decode cX9_strike 1 = .ok (.iconst 0, 1) := by decide +kernel
theorem dX9_strike_2 : decode cX9_strike 2 = .ok (.putfield 147, 3) := by decide +kernel
theorem dX9_strike_5 : decode cX9_strike 5 = .ok (.aload_n 0, 1) := by decide +kernel
theorem dX9_strike_6 : decode cX9_strike 6 = .ok (.iload_n 1, 1) := by decide +kernel
theorem dX9_strike_7 : decode cX9_strike 7 = .ok (.iload_n 2, 1) := by decide +kernel
theorem dX9_strike_8 : decode cX9_strike 8 = .ok (.invokevirtual 171, 3) := by decide +kernel
theorem dX9_strike_11 : decode cX9_strike 11 = .ok (.istore_n 3, 1) := by decide +kernel
theorem dX9_strike_12 : decode cX9_strike 12 = .ok (.iload_n 3, 1) := by decide +kernel
theorem dX9_strike_13 : decode cX9_strike 13 = .ok (.ifCond .ne 19, 3) := by decide +kernel
theorem dX9_strike_16 : decode cX9_strike 16 = .ok (.aload_n 0, 1) := by decide +kernel
theorem dX9_strike_17 : decode cX9_strike 17 = .ok (.getfield 13, 3) := by decide +kernel
theorem dX9_strike_20 : decode cX9_strike 20 = .ok (.bipush 60, 2) := by decide +kernel
theorem dX9_strike_22 : decode cX9_strike 22 = .ok (.iload_n 1, 1) := by decide +kernel
theorem dX9_strike_23 : decode cX9_strike 23 = .ok (.imul, 1) := by decide +kernel
theorem dX9_strike_24 : decode cX9_strike 24 = .ok (.iload_n 2, 1) := by decide +kernel
theorem dX9_strike_25 : decode cX9_strike 25 = .ok (.iadd, 1) := by decide +kernel
theorem dX9_strike_26 : decode cX9_strike 26 = .ok (.baload, 1) := by decide +kernel
theorem dX9_strike_27 : decode cX9_strike 27 = .ok (.ifCond .ne 5, 3) := by decide +kernel
theorem dX9_strike_30 : decode cX9_strike 30 = .ok (.iconst 2, 1) := by decide +kernel
theorem dX9_strike_31 : decode cX9_strike 31 = .ok (.istore_n 3, 1) := by decide +kernel
theorem dX9_strike_32 : decode cX9_strike 32 = .ok (.iload_n 3, 1) := by decide +kernel
theorem dX9_strike_33 : decode cX9_strike 33 = .ok (.ifCond .eq 11, 3) := by decide +kernel
theorem dX9_strike_36 : decode cX9_strike 36 = .ok (.aload_n 0, 1) := by decide +kernel
theorem dX9_strike_37 : decode cX9_strike 37 = .ok (.iload_n 3, 1) := by decide +kernel
theorem dX9_strike_38 : decode cX9_strike 38 = .ok (.invokevirtual 168, 3) := by decide +kernel
theorem dX9_strike_41 : decode cX9_strike 41 = .ok (.pop, 1) := by decide +kernel
theorem dX9_strike_42 : decode cX9_strike 42 = .ok (.iconst 0, 1) := by decide +kernel
theorem dX9_strike_43 : decode cX9_strike 43 = .ok (.ireturn, 1) := by decide +kernel
theorem dX9_strike_44 : decode cX9_strike 44 = .ok (.aload_n 0, 1) := by decide +kernel
theorem dX9_strike_45 : decode cX9_strike 45 = .ok (.getfield 13, 3) := by decide +kernel
theorem dX9_strike_48 : decode cX9_strike 48 = .ok (.bipush 60, 2) := by decide +kernel
theorem dX9_strike_50 : decode cX9_strike 50 = .ok (.iload_n 1, 1) := by decide +kernel
theorem dX9_strike_51 : decode cX9_strike 51 = .ok (.imul, 1) := by decide +kernel
theorem dX9_strike_52 : decode cX9_strike 52 = .ok (.iload_n 2, 1) := by decide +kernel
theorem dX9_strike_53 : decode cX9_strike 53 = .ok (.iadd, 1) := by decide +kernel
theorem dX9_strike_54 : decode cX9_strike 54 = .ok (.iconst 0, 1) := by decide +kernel
theorem dX9_strike_55 : decode cX9_strike 55 = .ok (.bastore, 1) := by decide +kernel
theorem dX9_strike_56 : decode cX9_strike 56 = .ok (.iconst 1, 1) := by decide +kernel
theorem dX9_strike_57 : decode cX9_strike 57 = .ok (.ireturn, 1) := by decide +kernel
set_option maxHeartbeats 4000000 in
set_option maxRecDepth 100000 in
theorem g_X9_strike (l : Launch) (G : xG) (S : yS) (d : yD) (h0 : Nat) (p0 : Int32) (p1 : Int32) (hSh : ySh S) (hPo : yPo S d) (hm_h0 : h0 ∈ S.1) (hk_h0 : S.2.1 h0 = 9) : xWi l G yX9_strike cX9_strike 4 (some .boolean) 2 43 0 0 [.ref h0, .int p0, .int p1] (yW G S d) (fun r (u : yD) => yAg S [9, 34, 69] d u ∧ (yPo S d → yPo S u) ∧ yK [38] d u h0 ∧ (True)) (fun u => yW G S u) := by
  intro sz
  refine xstart (by decide) (Nat.le_of_ble_eq_true rfl) (fun p e s m args below meth c ls C0 hr hlocks hin hsz hP hK hD hN hl => ?_)
  obtain ⟨hx, hb, hml, hown, htl⟩ := id C0
  subst hsz
  have hD := hD.self (sz := s.heap.size)
  generalize hAe : va_A (yW G S d) s.heap.size = A at hD ⊢
  have hA : ∀ q : Nat, s.heap.size ≤ q → A q := fun q h => by rw [← hAe]; exact Or.inr h
  have hS : va_S A s.heap s.heap [] := va_S.rf
  have hg0 : yAg S [9, 34, 69] d d := yAg.rf
  have hl : lv_has ls 4 [(0, .ref h0), (1, .int p0), (2, .int p1)] := hl
  refine lv_aload_n hx hb dX9_strike_0 rfl (lv_at hl 0 rfl) ?_
  refine lv_iconst (v := 0) hx hb dX9_strike_1 (by decide) ?_
  refine yputI (ci := 9) (k := 38) (ty := .int) (C := RX9) (T := TX9) (N := 67) C0 hK hP hD hS hm_h0 hk_h0 (by decide) rfl inlX9 tyX9 tyX9_ok nmX9 (by decide) mW175 (fun _ h9 => h9) rfl (by decide +kernel) rfl rfl (Nat.le_of_ble_eq_true rfl) ysi_9_38 dX9_strike_2 (fun H locs hP hD hS => ?_)
  obtain ⟨d_1, ed_1⟩ : ∃ z : yD, z = yi d h0 38 0 := ⟨_, rfl⟩
  rw [← ed_1] at hP hD
  have hgd_1 : yAg S [9, 34, 69] d d_1 := by rw [ed_1]; exact yAg.i hg0 (by rw [hk_h0]; decide)
  have hPod_1 : yPo S d_1 := by rw [ed_1]; exact yPo.i hPo hk_h0 (Or.inl rfl)
  have hfd_1 : yK [38] d d_1 h0 := by rw [ed_1]; exact yK.i yK.rf (by decide)
  refine lv_aload_n hx hb dX9_strike_5 rfl (lv_at hl 0 rfl) ?_
  refine lv_iload_n hx hb dX9_strike_6 rfl (lv_at hl 1 rfl) ?_
  refine lv_iload_n hx hb dX9_strike_7 rfl (lv_at hl 2 rfl) ?_
  refine yVri (As := [.int p0, .int p1]) (rest := []) C0 (g_X9_placeWhy l G S d_1 h0 p0 p1 hSh hm_h0 hk_h0) ok_X9_placeWhy (mW222 : Cond.methodLink RX9 171 yX9_placeWhy ∈ wsT) ⟨Nat.le_of_ble_eq_true rfl, Nat.le_of_ble_eq_true rfl⟩ hP hD hK hN hm_h0 hk_h0 (by decide) rfl rfl rfl hl.1 rfl (Nat.le_of_ble_eq_true rfl) ⟨Nat.le_of_ble_eq_true rfl, Nat.le_of_ble_eq_true rfl⟩ dX9_strike_8 (fun r_2 hr_2 => ?_)
  refine lv_istore_n (lv' := [(3, .int r_2), (0, .ref h0), (1, .int p0), (2, .int p1)]) hx hb dX9_strike_11 rfl hl (by decide) rfl (fun ls hl => ?_)
  refine lv_iload_n hx hb dX9_strike_12 rfl (lv_at hl 0 rfl) ?_
  refine lv_if_ne (tgt := 32) hx hb dX9_strike_13 (by decide) (fun c_3 => ?_) (fun c_3 => ?_)
  · refine lv_iload_n hx hb dX9_strike_32 rfl (lv_at hl 0 rfl) ?_
    refine lv_if_eq (tgt := 44) hx hb dX9_strike_33 (by decide) (fun c_4 => absurd c_4 c_3) (fun c_4 => ?_)
    refine lv_aload_n hx hb dX9_strike_36 rfl (lv_at hl 1 rfl) ?_
    refine lv_iload_n hx hb dX9_strike_37 rfl (lv_at hl 0 rfl) ?_
    have F_5 := fne (rfl : (r_2 : Int32).toInt = (r_2 : Int32).toInt) (by decide +kernel : (0 : Int32).toInt = 0) c_3
    have F_6 := fne (rfl : (r_2 : Int32).toInt = (r_2 : Int32).toInt) (by decide +kernel : (0 : Int32).toInt = 0) c_4
    refine yVwi (As := [.int r_2]) (rest := []) C0 (g_X9_no l G S d_1 h0 r_2 hSh hPod_1 hm_h0 hk_h0 (by refine ⟨?_, ?_⟩ <;> omega)) ok_X9_no (mW177 : Cond.methodLink RX9 168 yX9_no ∈ wsT) ⟨Nat.le_of_ble_eq_true rfl, Nat.le_of_ble_eq_true rfl⟩ hP hD hS hA hK hN hm_h0 hk_h0 (by decide) rfl rfl rfl hl.1 rfl (Nat.le_of_ble_eq_true rfl) ⟨Nat.le_of_ble_eq_true rfl, Nat.le_of_ble_eq_true rfl⟩ dX9_strike_38 (fun r_7 d_8 H locs hr_7 hP hD hS => ?_)
    obtain ⟨hgad_8, hpad_8, hfad_8, hxd_8⟩ := hr_7
    have hfd_8 : yK [38] d d_8 h0 := yK.tr hfd_1 hfad_8 (by decide)
    have hgd_8 : yAg S [9, 34, 69] d d_8 := yAg.tr hgd_1 hgad_8 (by first | decide | exact fun _ h => h)
    have hPod_8 : yPo S d_8 := hpad_8 hPod_1
    refine lv_pop hx hb dX9_strike_41 rfl ?_
    refine lv_iconst (v := 0) hx hb dX9_strike_42 (by decide) ?_
    exact W.zret (v := 0) (ty := .boolean) hx hb hr rfl (fun t ht hW => ⟨⟨0, d_8, rfl, ⟨hgd_8, (fun _ => hPod_8), hfd_8, trivial⟩, by rw [ht]; exact hP, hD⟩, hS.F ht⟩) hS.2.2 dX9_strike_43
  · refine lv_aload_n hx hb dX9_strike_16 rfl (lv_at hl 1 rfl) ?_
    refine yget (ci := 9) (k := 4) (v := .ref (S.2.2.1 h0 4)) (C := RX9) (T := TX9) (N := 67) C0 hK hP hm_h0 hk_h0 (by decide) rfl inlX9 (by decide) mW108 (fun _ h9 => h9) rfl dX9_strike_17 ?_
    obtain ⟨hmy_9, hky_9⟩ := ySh.f9_4 hSh _ hm_h0 hk_h0
    refine lv_bipush (v := 60) hx hb dX9_strike_20 (by decide) ?_
    refine lv_iload_n hx hb dX9_strike_22 rfl (lv_at hl 2 rfl) ?_
    refine lv_imul hx hb dX9_strike_23 ?_
    refine lv_topi (fun z_10 ez_10 => ?_)
    refine lv_iload_n hx hb dX9_strike_24 rfl (lv_at hl 3 rfl) ?_
    refine lv_iadd hx hb dX9_strike_25 ?_
    refine lv_topi (fun z_11 ez_11 => ?_)
    have F_12 := feq (rfl : (r_2 : Int32).toInt = (r_2 : Int32).toInt) (by decide +kernel : (0 : Int32).toInt = 0) c_3
    have T_14 : (z_10 : Int32).toInt = 60 * (p0 : Int32).toInt := tmul ez_10 (by decide +kernel : (60 : Int32).toInt = 60) (rfl : (p0 : Int32).toInt = (p0 : Int32).toInt) (by omega) (by omega)
    have T_13 : (z_11 : Int32).toInt = (z_10 : Int32).toInt + (p1 : Int32).toInt := tadd ez_11 (rfl : (z_10 : Int32).toInt = (z_10 : Int32).toInt) (rfl : (p1 : Int32).toInt = (p1 : Int32).toInt) (by omega) (by omega)
    refine yaldB C0 hK hP hmy_9 hky_9 (by decide) rfl 1 rfl (xinT 2400 rfl (by omega) (by omega)) dX9_strike_26 ?_
    refine lv_topi (fun z_15 ez_15 => ?_)
    refine lv_if_ne (tgt := 32) hx hb dX9_strike_27 (by decide) (fun c_16 => ?_) (fun c_16 => ?_)
    · refine lv_iload_n hx hb dX9_strike_32 rfl (lv_at hl 0 rfl) ?_
      refine lv_if_eq (tgt := 44) hx hb dX9_strike_33 (by decide) (fun c_17 => ?_) (fun c_17 => absurd c_3 c_17)
      refine lv_aload_n hx hb dX9_strike_44 rfl (lv_at hl 1 rfl) ?_
      refine yget (ci := 9) (k := 4) (v := .ref (S.2.2.1 h0 4)) (C := RX9) (T := TX9) (N := 67) C0 hK hP hm_h0 hk_h0 (by decide) rfl inlX9 (by decide) mW108 (fun _ h9 => h9) rfl dX9_strike_45 ?_
      refine lv_bipush (v := 60) hx hb dX9_strike_48 (by decide) ?_
      refine lv_iload_n hx hb dX9_strike_50 rfl (lv_at hl 2 rfl) ?_
      refine lv_imul hx hb dX9_strike_51 ?_
      refine lv_topi (fun z_18 ez_18 => ?_)
      refine lv_iload_n hx hb dX9_strike_52 rfl (lv_at hl 3 rfl) ?_
      refine lv_iadd hx hb dX9_strike_53 ?_
      refine lv_topi (fun z_19 ez_19 => ?_)
      refine lv_iconst (v := 0) hx hb dX9_strike_54 (by decide) ?_
      have F_21 := fne (rfl : (z_15 : Int32).toInt = (z_15 : Int32).toInt) (by decide +kernel : (0 : Int32).toInt = 0) c_16
      have F_22 := feq (rfl : (r_2 : Int32).toInt = (r_2 : Int32).toInt) (by decide +kernel : (0 : Int32).toInt = 0) c_17
      have T_24 : (z_18 : Int32).toInt = 60 * (p0 : Int32).toInt := tmul ez_18 (by decide +kernel : (60 : Int32).toInt = 60) (rfl : (p0 : Int32).toInt = (p0 : Int32).toInt) (by omega) (by omega)
      have T_23 : (z_19 : Int32).toInt = (z_18 : Int32).toInt + (p1 : Int32).toInt := tadd ez_19 (rfl : (z_18 : Int32).toInt = (z_18 : Int32).toInt) (rfl : (p1 : Int32).toInt = (p1 : Int32).toInt) (by omega) (by omega)
      refine yastB C0 hK hP hD hS hmy_9 hky_9 (by decide) rfl 1 rfl (xinT 2400 rfl (by omega) (by omega)) dX9_strike_55 (fun H locs hP hD hS => ?_)
      obtain ⟨d_25, ed_25⟩ : ∃ z : yD, z = ycs d_1 (S.2.2.1 h0 4) (upd (d_1.2.2.2.1 (S.2.2.1 h0 4)) (z_19 : Int32).toNatClampNeg (vp_nar .byte 0)) := ⟨_, rfl⟩
      rw [← ed_25] at hP hD
      have hgd_25 : yAg S [9, 34, 69] d d_25 := by rw [ed_25]; exact yAg.cs hgd_1 (by rw [hky_9]; decide)
      have hPod_25 : yPo S d_25 := by rw [ed_25]; exact hPod_1
      have hfd_25 : yK [38] d d_25 h0 := yK.ag hfd_1 (show yAg S [34] d_1 d_25 from by rw [ed_25]; exact yAg.cs yAg.rf (by rw [hky_9]; decide)) (by rw [hk_h0]; decide)
      refine lv_iconst (v := 1) hx hb dX9_strike_56 (by decide) ?_
      exact W.zret (v := 1) (ty := .boolean) hx hb hr rfl (fun t ht hW => ⟨⟨1, d_25, rfl, ⟨hgd_25, (fun _ => hPod_25), hfd_25, trivial⟩, by rw [ht]; exact hP, hD⟩, hS.F ht⟩) hS.2.2 dX9_strike_57
    · refine lv_iconst (v := 2) hx hb dX9_strike_30 (by decide) ?_
      refine lv_istore_n (lv' := [(3, .int 2), (0, .ref h0), (1, .int p0), (2, .int p1)]) hx hb dX9_strike_31 rfl hl (by decide) rfl (fun ls hl => ?_)
      refine lv_iload_n hx hb dX9_strike_32 rfl (lv_at hl 0 rfl) ?_
      refine lv_if_eq (tgt := 44) hx hb dX9_strike_33 (by decide) (fun c_26 => absurd c_26 (by decide +kernel)) (fun c_26 => ?_)
      refine lv_aload_n hx hb dX9_strike_36 rfl (lv_at hl 1 rfl) ?_
      refine lv_iload_n hx hb dX9_strike_37 rfl (lv_at hl 0 rfl) ?_
      refine yVwi (As := [.int 2]) (rest := []) C0 (g_X9_no l G S d_1 h0 2 hSh hPod_1 hm_h0 hk_h0 (by decide +kernel)) ok_X9_no (mW177 : Cond.methodLink RX9 168 yX9_no ∈ wsT) ⟨Nat.le_of_ble_eq_true rfl, Nat.le_of_ble_eq_true rfl⟩ hP hD hS hA hK hN hm_h0 hk_h0 (by decide) rfl rfl rfl hl.1 rfl (Nat.le_of_ble_eq_true rfl) ⟨Nat.le_of_ble_eq_true rfl, Nat.le_of_ble_eq_true rfl⟩ dX9_strike_38 (fun r_27 d_28 H locs hr_27 hP hD hS => ?_)
      obtain ⟨hgad_28, hpad_28, hfad_28, hxd_28⟩ := hr_27
      have hfd_28 : yK [38] d d_28 h0 := yK.tr hfd_1 hfad_28 (by decide)
      have hgd_28 : yAg S [9, 34, 69] d d_28 := yAg.tr hgd_1 hgad_28 (by first | decide | exact fun _ h => h)
      have hPod_28 : yPo S d_28 := hpad_28 hPod_1
      refine lv_pop hx hb dX9_strike_41 rfl ?_
      refine lv_iconst (v := 0) hx hb dX9_strike_42 (by decide) ?_
      exact W.zret (v := 0) (ty := .boolean) hx hb hr rfl (fun t ht hW => ⟨⟨0, d_28, rfl, ⟨hgd_28, (fun _ => hPod_28), hfd_28, trivial⟩, by rw [ht]; exact hP, hD⟩, hS.F ht⟩) hS.2.2 dX9_strike_43
theorem dX9_term_0 : decode cX9_term 0 = .ok (.aload_n 0, 1) := by decide +kernel
theorem dX9_term_1 : decode cX9_term 1 = .ok (.iconst 0, 1) := by decide +kernel
theorem dX9_term_2 : decode cX9_term 2 = .ok (.putfield 147, 3) := by decide +kernel
theorem dX9_term_5 : decode cX9_term 5 = .ok (.aload_n 0, 1) := by decide +kernel
theorem dX9_term_6 : decode cX9_term 6 = .ok (.iload_n 1, 1) := by decide +kernel
theorem dX9_term_7 : decode cX9_term 7 = .ok (.iload_n 2, 1) := by decide +kernel
theorem dX9_term_8 : decode cX9_term 8 = .ok (.invokevirtual 171, 3) := by decide +kernel
theorem dX9_term_11 : decode cX9_term 11 = .ok (.istore 7, 2) := by decide +kernel
theorem dX9_term_13 : decode cX9_term 13 = .ok (.iload_n 3, 1) := by decide +kernel
theorem dX9_term_14 : decode cX9_term 14 = .ok (.ifCond .lt 19, 3) := by decide +kernel
theorem dX9_term_17 : decode cX9_term 17 = .ok (.iload_n 3, 1) := by decide +kernel
theorem dX9_term_18 : decode cX9_term 18 = .ok (.iconst 4, 1) := by decide +kernel
theorem dX9_term_19 : decode cX9_term 19 = .ok (.if_icmp .gt 14, 3) := by decide +kernel
theorem dX9_term_22 : decode cX9_term 22 = .ok (.iload 4, 2) := by decide +kernel
theorem dX9_term_24 : decode cX9_term 24 = .ok (.ifCond .lt 9, 3) := by decide +kernel
theorem dX9_term_27 : decode cX9_term 27 = .ok (.iload 4, 2) := by decide +kernel
theorem dX9_term_29 : decode cX9_term 29 = .ok (.iconst 4, 1) := by decide +kernel
theorem dX9_term_30 : decode cX9_term 30 = .ok (.if_icmp .le 7, 3) := by decide +kernel
theorem dX9_term_33 : decode cX9_term 33 = .ok (.iconst 1, 1) := by decide +kernel
theorem dX9_term_34 : decode cX9_term 34 = .ok (.goto 4, 3) := by decide +kernel
theorem dX9_term_37 : decode cX9_term 37 = .ok (.iconst 0, 1) := by decide +kernel
theorem dX9_term_38 : decode cX9_term 38 = .ok (.istore 8, 2) := by decide +kernel
theorem dX9_term_40 : decode cX9_term 40 = .ok (.iload 4, 2) := by decide +kernel
theorem dX9_term_42 : decode cX9_term 42 = .ok (.iconst 1, 1) := by decide +kernel
theorem dX9_term_43 : decode cX9_term 43 = .ok (.if_icmp .ne 41, 3) := by decide +kernel
theorem dX9_term_46 : decode cX9_term 46 = .ok (.iload 8, 2) := by decide +kernel
theorem dX9_term_48 : decode cX9_term 48 = .ok (.ifCond .ne 29, 3) := by decide +kernel
theorem dX9_term_51 : decode cX9_term 51 = .ok (.iload 5, 2) := by decide +kernel
theorem dX9_term_53 : decode cX9_term 53 = .ok (.ifCond .lt 24, 3) := by decide +kernel
theorem dX9_term_56 : decode cX9_term 56 = .ok (.iload 5, 2) := by decide +kernel
theorem dX9_term_58 : decode cX9_term 58 = .ok (.sipush 1440, 3) := by decide +kernel
theorem dX9_term_61 : decode cX9_term 61 = .ok (.if_icmp .gt 16, 3) := by decide +kernel
theorem dX9_term_64 : decode cX9_term 64 = .ok (.iload 6, 2) := by decide +kernel
theorem dX9_term_66 : decode cX9_term 66 = .ok (.ifCond .lt 11, 3) := by decide +kernel
theorem dX9_term_69 : decode cX9_term 69 = .ok (.iload 6, 2) := by decide +kernel
theorem dX9_term_71 : decode cX9_term 71 = .ok (.sipush 1440, 3) := by decide +kernel
theorem dX9_term_74 : decode cX9_term 74 = .ok (.if_icmp .le 7, 3) := by decide +kernel
theorem dX9_term_77 : decode cX9_term 77 = .ok (.iconst 1, 1) := by decide +kernel
theorem dX9_term_78 : decode cX9_term 78 = .ok (.goto 4, 3) := by decide +kernel
theorem dX9_term_81 : decode cX9_term 81 = .ok (.iconst 0, 1) := by decide +kernel
theorem dX9_term_82 : decode cX9_term 82 = .ok (.istore 8, 2) := by decide +kernel
theorem dX9_term_84 : decode cX9_term 84 = .ok (.iload 4, 2) := by decide +kernel
theorem dX9_term_86 : decode cX9_term 86 = .ok (.iconst 3, 1) := by decide +kernel
theorem dX9_term_87 : decode cX9_term 87 = .ok (.if_icmp .ne 26, 3) := by decide +kernel
theorem dX9_term_90 : decode cX9_term 90 = .ok (.iload 8, 2) := by decide +kernel
theorem dX9_term_92 : decode cX9_term 92 = .ok (.ifCond .ne 14, 3) := by decide +kernel
theorem dX9_term_95 : decode cX9_term 95 = .ok (.iload 5, 2) := by decide +kernel
theorem dX9_term_97 : decode cX9_term 97 = .ok (.ifCond .lt 9, 3) := by decide +kernel
theorem dX9_term_100 : decode cX9_term 100 = .ok (.iload 5, 2) := by decide +kernel
theorem dX9_term_102 : decode cX9_term 102 = .ok (.iconst 4, 1) := by decide +kernel
theorem dX9_term_103 : decode cX9_term 103 = .ok (.if_icmp .le 7, 3) := by decide +kernel
theorem dX9_term_106 : decode cX9_term 106 = .ok (.iconst 1, 1) := by decide +kernel
theorem dX9_term_107 : decode cX9_term 107 = .ok (.goto 4, 3) := by decide +kernel
theorem dX9_term_110 : decode cX9_term 110 = .ok (.iconst 0, 1) := by decide +kernel
theorem dX9_term_111 : decode cX9_term 111 = .ok (.istore 8, 2) := by decide +kernel
theorem dX9_term_113 : decode cX9_term 113 = .ok (.iload 4, 2) := by decide +kernel
theorem dX9_term_115 : decode cX9_term 115 = .ok (.iconst 4, 1) := by decide +kernel
theorem dX9_term_116 : decode cX9_term 116 = .ok (.if_icmp .ne 39, 3) := by decide +kernel
theorem dX9_term_119 : decode cX9_term 119 = .ok (.iload 8, 2) := by decide +kernel
theorem dX9_term_121 : decode cX9_term 121 = .ok (.ifCond .ne 27, 3) := by decide +kernel
theorem dX9_term_124 : decode cX9_term 124 = .ok (.iload 5, 2) := by decide +kernel
theorem dX9_term_126 : decode cX9_term 126 = .ok (.ifCond .lt 22, 3) := by decide +kernel
theorem dX9_term_129 : decode cX9_term 129 = .ok (.iload 5, 2) := by decide +kernel
theorem dX9_term_131 : decode cX9_term 131 = .ok (.ldc 174, 2) := by decide +kernel
theorem dX9_term_133 : decode cX9_term 133 = .ok (.if_icmp .gt 15, 3) := by decide +kernel
theorem dX9_term_136 : decode cX9_term 136 = .ok (.iload 6, 2) := by decide +kernel
theorem dX9_term_138 : decode cX9_term 138 = .ok (.ifCond .lt 10, 3) := by decide +kernel
theorem dX9_term_141 : decode cX9_term 141 = .ok (.iload 6, 2) := by decide +kernel
theorem dX9_term_143 : decode cX9_term 143 = .ok (.ldc 174, 2) := by decide +kernel
theorem dX9_term_145 : decode cX9_term 145 = .ok (.if_icmp .le 7, 3) := by decide +kernel
theorem dX9_term_148 : decode cX9_term 148 = .ok (.iconst 1, 1) := by decide +kernel
theorem dX9_term_149 : decode cX9_term 149 = .ok (.goto 4, 3) := by decide +kernel
theorem dX9_term_152 : decode cX9_term 152 = .ok (.iconst 0, 1) := by decide +kernel
theorem dX9_term_153 : decode cX9_term 153 = .ok (.istore 8, 2) := by decide +kernel
theorem dX9_term_155 : decode cX9_term 155 = .ok (.iload 8, 2) := by decide +kernel
theorem dX9_term_157 : decode cX9_term 157 = .ok (.ifCond .eq 6, 3) := by decide +kernel
theorem dX9_term_160 : decode cX9_term 160 = .ok (.iconst 1, 1) := by decide +kernel
theorem dX9_term_161 : decode cX9_term 161 = .ok (.istore 7, 2) := by decide +kernel
theorem dX9_term_163 : decode cX9_term 163 = .ok (.iload 7, 2) := by decide +kernel
theorem dX9_term_165 : decode cX9_term 165 = .ok (.ifCond .eq 12, 3) := by decide +kernel
theorem dX9_term_168 : decode cX9_term 168 = .ok (.aload_n 0, 1) := by decide +kernel
theorem dX9_term_169 : decode cX9_term 169 = .ok (.iload 7, 2) := by decide +kernel
theorem dX9_term_171 : decode cX9_term 171 = .ok (.invokevirtual 168, 3) := by decide +kernel
theorem dX9_term_174 : decode cX9_term 174 = .ok (.pop, 1) := by decide +kernel
theorem dX9_term_175 : decode cX9_term 175 = .ok (.iconst 0, 1) := by decide +kernel
theorem dX9_term_176 : decode cX9_term 176 = .ok (.ireturn, 1) := by decide +kernel
theorem dX9_term_177 : decode cX9_term 177 = .ok (.bipush 60, 2) := by decide +kernel
theorem dX9_term_179 : decode cX9_term 179 = .ok (.iload_n 1, 1) := by decide +kernel
theorem dX9_term_180 : decode cX9_term 180 = .ok (.imul, 1) := by decide +kernel
theorem dX9_term_181 : decode cX9_term 181 = .ok (.iload_n 2, 1) := by decide +kernel
theorem dX9_term_182 : decode cX9_term 182 = .ok (.iadd, 1) := by decide +kernel
theorem dX9_term_183 : decode cX9_term 183 = .ok (.istore 9, 2) := by decide +kernel
theorem dX9_term_185 : decode cX9_term 185 = .ok (.aload_n 0, 1) := by decide +kernel
theorem dX9_term_186 : decode cX9_term 186 = .ok (.getfield 13, 3) := by decide +kernel
theorem dX9_term_189 : decode cX9_term 189 = .ok (.iload 9, 2) := by decide +kernel
theorem dX9_term_191 : decode cX9_term 191 = .ok (.iconst 2, 1) := by decide +kernel
theorem dX9_term_192 : decode cX9_term 192 = .ok (.bastore, 1) := by decide +kernel
theorem dX9_term_193 : decode cX9_term 193 = .ok (.aload_n 0, 1) := by decide +kernel
theorem dX9_term_194 : decode cX9_term 194 = .ok (.getfield 17, 3) := by decide +kernel
theorem dX9_term_197 : decode cX9_term 197 = .ok (.iload 9, 2) := by decide +kernel
theorem dX9_term_199 : decode cX9_term 199 = .ok (.iload_n 3, 1) := by decide +kernel
theorem dX9_term_200 : decode cX9_term 200 = .ok (.i2b, 1) := by decide +kernel
theorem dX9_term_201 : decode cX9_term 201 = .ok (.bastore, 1) := by decide +kernel
theorem dX9_term_202 : decode cX9_term 202 = .ok (.aload_n 0, 1) := by decide +kernel
theorem dX9_term_203 : decode cX9_term 203 = .ok (.getfield 20, 3) := by decide +kernel
theorem dX9_term_206 : decode cX9_term 206 = .ok (.iload 9, 2) := by decide +kernel
theorem dX9_term_208 : decode cX9_term 208 = .ok (.iload 4, 2) := by decide +kernel
theorem dX9_term_210 : decode cX9_term 210 = .ok (.i2b, 1) := by decide +kernel
theorem dX9_term_211 : decode cX9_term 211 = .ok (.bastore, 1) := by decide +kernel
theorem dX9_term_212 : decode cX9_term 212 = .ok (.aload_n 0, 1) := by decide +kernel
theorem dX9_term_213 : decode cX9_term 213 = .ok (.getfield 23, 3) := by decide +kernel
theorem dX9_term_216 : decode cX9_term 216 = .ok (.iload 9, 2) := by decide +kernel
theorem dX9_term_218 : decode cX9_term 218 = .ok (.iload 5, 2) := by decide +kernel
theorem dX9_term_220 : decode cX9_term 220 = .ok (.iastore, 1) := by decide +kernel
theorem dX9_term_221 : decode cX9_term 221 = .ok (.aload_n 0, 1) := by decide +kernel
theorem dX9_term_222 : decode cX9_term 222 = .ok (.getfield 27, 3) := by decide +kernel
theorem dX9_term_225 : decode cX9_term 225 = .ok (.iload 9, 2) := by decide +kernel
theorem dX9_term_227 : decode cX9_term 227 = .ok (.iload 6, 2) := by decide +kernel
theorem dX9_term_229 : decode cX9_term 229 = .ok (.iastore, 1) := by decide +kernel
theorem dX9_term_230 : decode cX9_term 230 = .ok (.aload_n 0, 1) := by decide +kernel
theorem dX9_term_231 : decode cX9_term 231 = .ok (.getfield 30, 3) := by decide +kernel
theorem dX9_term_234 : decode cX9_term 234 = .ok (.iload 9, 2) := by decide +kernel
theorem dX9_term_236 : decode cX9_term 236 = .ok (.iconst 0, 1) := by decide +kernel
theorem dX9_term_237 : decode cX9_term 237 = .ok (.bastore, 1) := by decide +kernel
theorem dX9_term_238 : decode cX9_term 238 = .ok (.aload_n 0, 1) := by decide +kernel
theorem dX9_term_239 : decode cX9_term 239 = .ok (.getfield 33, 3) := by decide +kernel
theorem dX9_term_242 : decode cX9_term 242 = .ok (.iload 9, 2) := by decide +kernel
theorem dX9_term_244 : decode cX9_term 244 = .ok (.iconst 0, 1) := by decide +kernel
theorem dX9_term_245 : decode cX9_term 245 = .ok (.iastore, 1) := by decide +kernel
theorem dX9_term_246 : decode cX9_term 246 = .ok (.iconst 1, 1) := by decide +kernel
theorem dX9_term_247 : decode cX9_term 247 = .ok (.ireturn, 1) := by decide +kernel
set_option maxHeartbeats 4000000 in
set_option maxRecDepth 100000 in
theorem g_X9_term (l : Launch) (G : xG) (S : yS) (d : yD) (h0 : Nat) (p0 : Int32) (p1 : Int32) (p2 : Int32) (p3 : Int32) (p4 : Int32) (p5 : Int32) (hSh : ySh S) (hPo : yPo S d) (hm_h0 : h0 ∈ S.1) (hk_h0 : S.2.1 h0 = 9) : xWi l G yX9_term cX9_term 10 (some .boolean) 2 43 0 0 [.ref h0, .int p0, .int p1, .int p2, .int p3, .int p4, .int p5] (yW G S d) (fun r (u : yD) => yAg S [9, 34, 35, 36, 37, 38, 39, 40, 69] d u ∧ (yPo S d → yPo S u) ∧ yK [38] d u h0 ∧ (True)) (fun u => yW G S u) := by
  intro sz
  refine xstart (by decide) (Nat.le_of_ble_eq_true rfl) (fun p e s m args below meth c ls C0 hr hlocks hin hsz hP hK hD hN hl => ?_)
  obtain ⟨hx, hb, hml, hown, htl⟩ := id C0
  subst hsz
  have hD := hD.self (sz := s.heap.size)
  generalize hAe : va_A (yW G S d) s.heap.size = A at hD ⊢
  have hA : ∀ q : Nat, s.heap.size ≤ q → A q := fun q h => by rw [← hAe]; exact Or.inr h
  have hS : va_S A s.heap s.heap [] := va_S.rf
  have hg0 : yAg S [9, 34, 35, 36, 37, 38, 39, 40, 69] d d := yAg.rf
  have hl : lv_has ls 10 [(0, .ref h0), (1, .int p0), (2, .int p1), (3, .int p2), (4, .int p3), (5, .int p4), (6, .int p5)] := hl
  refine lv_aload_n hx hb dX9_term_0 rfl (lv_at hl 0 rfl) ?_
  refine lv_iconst (v := 0) hx hb dX9_term_1 (by decide) ?_
  refine yputI (ci := 9) (k := 38) (ty := .int) (C := RX9) (T := TX9) (N := 67) C0 hK hP hD hS hm_h0 hk_h0 (by decide) rfl inlX9 tyX9 tyX9_ok nmX9 (by decide) mW175 (fun _ h9 => h9) rfl (by decide +kernel) rfl rfl (Nat.le_of_ble_eq_true rfl) ysi_9_38 dX9_term_2 (fun H locs hP hD hS => ?_)
  obtain ⟨d_1, ed_1⟩ : ∃ z : yD, z = yi d h0 38 0 := ⟨_, rfl⟩
  rw [← ed_1] at hP hD
  have hgd_1 : yAg S [9, 34, 35, 36, 37, 38, 39, 40, 69] d d_1 := by rw [ed_1]; exact yAg.i hg0 (by rw [hk_h0]; decide)
  have hPod_1 : yPo S d_1 := by rw [ed_1]; exact yPo.i hPo hk_h0 (Or.inl rfl)
  have hfd_1 : yK [38] d d_1 h0 := by rw [ed_1]; exact yK.i yK.rf (by decide)
  refine lv_aload_n hx hb dX9_term_5 rfl (lv_at hl 0 rfl) ?_
  refine lv_iload_n hx hb dX9_term_6 rfl (lv_at hl 1 rfl) ?_
  refine lv_iload_n hx hb dX9_term_7 rfl (lv_at hl 2 rfl) ?_
  refine yVri (As := [.int p0, .int p1]) (rest := []) C0 (g_X9_placeWhy l G S d_1 h0 p0 p1 hSh hm_h0 hk_h0) ok_X9_placeWhy (mW222 : Cond.methodLink RX9 171 yX9_placeWhy ∈ wsT) ⟨Nat.le_of_ble_eq_true rfl, Nat.le_of_ble_eq_true rfl⟩ hP hD hK hN hm_h0 hk_h0 (by decide) rfl rfl rfl hl.1 rfl (Nat.le_of_ble_eq_true rfl) ⟨Nat.le_of_ble_eq_true rfl, Nat.le_of_ble_eq_true rfl⟩ dX9_term_8 (fun r_2 hr_2 => ?_)
  refine lv_istore (lv' := [(7, .int r_2), (0, .ref h0), (1, .int p0), (2, .int p1), (3, .int p2), (4, .int p3), (5, .int p4), (6, .int p5)]) hx hb dX9_term_11 hl (by decide) rfl (fun ls hl => ?_)
  refine lv_iload_n hx hb dX9_term_13 rfl (lv_at hl 4 rfl) ?_
  refine yjoinR (σ := Int32) 38 (fun x ls st => st = [.int x] ∧ lv_has ls 10 [(7, .int r_2), (0, .ref h0), (1, .int p0), (2, .int p1), (3, .int p2), (4, .int p3), (5, .int p4), (6, .int p5)] ∧ (x = 0 ∨ x = 1)) (fun x ls st hI => ?_) (fun J38_3 => ?_)
  · obtain ⟨v_3, rfl⟩ : ∃ z, z = x := ⟨_, rfl⟩
    obtain ⟨rfl, hl, hzv_3⟩ := hI
    have hl : lv_has ls 10 [(7, .int r_2), (0, .ref h0), (1, .int p0), (2, .int p1), (3, .int p2), (4, .int p3), (5, .int p4), (6, .int p5)] := hl
    refine lv_istore (lv' := [(8, .int v_3), (7, .int r_2), (0, .ref h0), (1, .int p0), (2, .int p1), (3, .int p2), (4, .int p3), (5, .int p4), (6, .int p5)]) hx hb dX9_term_38 hl (by decide) rfl (fun ls hl => ?_)
    refine lv_iload hx hb dX9_term_40 (lv_at hl 6 rfl) ?_
    refine lv_iconst (v := 1) hx hb dX9_term_42 (by decide) ?_
    refine yjoinR (σ := Int32) 84 (fun x ls st => st = [] ∧ lv_has ls 10 [(7, .int r_2), (0, .ref h0), (1, .int p0), (2, .int p1), (3, .int p2), (4, .int p3), (5, .int p4), (6, .int p5), (8, .int x)]) (fun x ls st hI => ?_) (fun J84_4 => ?_)
    · obtain ⟨v_4, rfl⟩ : ∃ z, z = x := ⟨_, rfl⟩
      obtain ⟨rfl, hl⟩ := hI
      have hl : lv_has ls 10 [(7, .int r_2), (0, .ref h0), (1, .int p0), (2, .int p1), (3, .int p2), (4, .int p3), (5, .int p4), (6, .int p5), (8, .int v_4)] := hl
      refine lv_iload hx hb dX9_term_84 (lv_at hl 5 rfl) ?_
      refine lv_iconst (v := 3) hx hb dX9_term_86 (by decide) ?_
      refine yjoinR (σ := Int32) 113 (fun x ls st => st = [] ∧ lv_has ls 10 [(7, .int r_2), (0, .ref h0), (1, .int p0), (2, .int p1), (3, .int p2), (4, .int p3), (5, .int p4), (6, .int p5), (8, .int x)]) (fun x ls st hI => ?_) (fun J113_5 => ?_)
      · obtain ⟨v_5, rfl⟩ : ∃ z, z = x := ⟨_, rfl⟩
        obtain ⟨rfl, hl⟩ := hI
        have hl : lv_has ls 10 [(7, .int r_2), (0, .ref h0), (1, .int p0), (2, .int p1), (3, .int p2), (4, .int p3), (5, .int p4), (6, .int p5), (8, .int v_5)] := hl
        refine lv_iload hx hb dX9_term_113 (lv_at hl 5 rfl) ?_
        refine lv_iconst (v := 4) hx hb dX9_term_115 (by decide) ?_
        refine yjoinR (σ := Int32) 155 (fun x ls st => st = [] ∧ lv_has ls 10 [(7, .int r_2), (0, .ref h0), (1, .int p0), (2, .int p1), (3, .int p2), (4, .int p3), (5, .int p4), (6, .int p5), (8, .int x)]) (fun x ls st hI => ?_) (fun J155_6 => ?_)
        · obtain ⟨v_6, rfl⟩ : ∃ z, z = x := ⟨_, rfl⟩
          obtain ⟨rfl, hl⟩ := hI
          have hl : lv_has ls 10 [(7, .int r_2), (0, .ref h0), (1, .int p0), (2, .int p1), (3, .int p2), (4, .int p3), (5, .int p4), (6, .int p5), (8, .int v_6)] := hl
          refine lv_iload hx hb dX9_term_155 (lv_at hl 8 rfl) ?_
          refine lv_if_eq (tgt := 163) hx hb dX9_term_157 (by decide) (fun c_7 => ?_) (fun c_7 => ?_)
          · refine lv_iload hx hb dX9_term_163 (lv_at hl 0 rfl) ?_
            refine lv_if_eq (tgt := 177) hx hb dX9_term_165 (by decide) (fun c_8 => ?_) (fun c_8 => ?_)
            · refine lv_bipush (v := 60) hx hb dX9_term_177 (by decide) ?_
              refine lv_iload_n hx hb dX9_term_179 rfl (lv_at hl 2 rfl) ?_
              refine lv_imul hx hb dX9_term_180 ?_
              refine lv_topi (fun z_9 ez_9 => ?_)
              refine lv_iload_n hx hb dX9_term_181 rfl (lv_at hl 3 rfl) ?_
              refine lv_iadd hx hb dX9_term_182 ?_
              refine lv_topi (fun z_10 ez_10 => ?_)
              refine lv_istore (lv' := [(9, .int z_10), (7, .int r_2), (0, .ref h0), (1, .int p0), (2, .int p1), (3, .int p2), (4, .int p3), (5, .int p4), (6, .int p5), (8, .int v_6)]) hx hb dX9_term_183 hl (by decide) rfl (fun ls hl => ?_)
              refine lv_aload_n hx hb dX9_term_185 rfl (lv_at hl 2 rfl) ?_
              refine yget (ci := 9) (k := 4) (v := .ref (S.2.2.1 h0 4)) (C := RX9) (T := TX9) (N := 67) C0 hK hP hm_h0 hk_h0 (by decide) rfl inlX9 (by decide) mW108 (fun _ h9 => h9) rfl dX9_term_186 ?_
              obtain ⟨hmy_11, hky_11⟩ := ySh.f9_4 hSh _ hm_h0 hk_h0
              refine lv_iload hx hb dX9_term_189 (lv_at hl 0 rfl) ?_
              refine lv_iconst (v := 2) hx hb dX9_term_191 (by decide) ?_
              have F_12 := feq (rfl : (v_6 : Int32).toInt = (v_6 : Int32).toInt) (by decide +kernel : (0 : Int32).toInt = 0) c_7
              have F_13 := feq (rfl : (r_2 : Int32).toInt = (r_2 : Int32).toInt) (by decide +kernel : (0 : Int32).toInt = 0) c_8
              have T_15 : (z_9 : Int32).toInt = 60 * (p0 : Int32).toInt := tmul ez_9 (by decide +kernel : (60 : Int32).toInt = 60) (rfl : (p0 : Int32).toInt = (p0 : Int32).toInt) (by omega) (by omega)
              have T_14 : (z_10 : Int32).toInt = (z_9 : Int32).toInt + (p1 : Int32).toInt := tadd ez_10 (rfl : (z_9 : Int32).toInt = (z_9 : Int32).toInt) (rfl : (p1 : Int32).toInt = (p1 : Int32).toInt) (by omega) (by omega)
              refine yastB C0 hK hP hD hS hmy_11 hky_11 (by decide) rfl 1 rfl (xinT 2400 rfl (by omega) (by omega)) dX9_term_192 (fun H locs hP hD hS => ?_)
              obtain ⟨d_16, ed_16⟩ : ∃ z : yD, z = ycs d_1 (S.2.2.1 h0 4) (upd (d_1.2.2.2.1 (S.2.2.1 h0 4)) (z_10 : Int32).toNatClampNeg (vp_nar .byte 2)) := ⟨_, rfl⟩
              rw [← ed_16] at hP hD
              have hgd_16 : yAg S [9, 34, 35, 36, 37, 38, 39, 40, 69] d d_16 := by rw [ed_16]; exact yAg.cs hgd_1 (by rw [hky_11]; decide)
              have hPod_16 : yPo S d_16 := by rw [ed_16]; exact hPod_1
              have hfd_16 : yK [38] d d_16 h0 := yK.ag hfd_1 (show yAg S [34] d_1 d_16 from by rw [ed_16]; exact yAg.cs yAg.rf (by rw [hky_11]; decide)) (by rw [hk_h0]; decide)
              refine lv_aload_n hx hb dX9_term_193 rfl (lv_at hl 2 rfl) ?_
              refine yget (ci := 9) (k := 5) (v := .ref (S.2.2.1 h0 5)) (C := RX9) (T := TX9) (N := 67) C0 hK hP hm_h0 hk_h0 (by decide) rfl inlX9 (by decide) mW109 (fun _ h9 => h9) rfl dX9_term_194 ?_
              obtain ⟨hmy_17, hky_17⟩ := ySh.f9_5 hSh _ hm_h0 hk_h0
              refine lv_iload hx hb dX9_term_197 (lv_at hl 0 rfl) ?_
              refine lv_iload_n hx hb dX9_term_199 rfl (lv_at hl 5 rfl) ?_
              refine lv_i2b hx hb dX9_term_200 rfl ?_
              refine lv_topi (fun z_18 ez_18 => ?_)
              refine yastB C0 hK hP hD hS hmy_17 hky_17 (by decide) rfl 1 rfl (xinT 2400 rfl (by omega) (by omega)) dX9_term_201 (fun H locs hP hD hS => ?_)
              obtain ⟨d_19, ed_19⟩ : ∃ z : yD, z = ycs d_16 (S.2.2.1 h0 5) (upd (d_16.2.2.2.1 (S.2.2.1 h0 5)) (z_10 : Int32).toNatClampNeg (vp_nar .byte z_18)) := ⟨_, rfl⟩
              rw [← ed_19] at hP hD
              have hgd_19 : yAg S [9, 34, 35, 36, 37, 38, 39, 40, 69] d d_19 := by rw [ed_19]; exact yAg.cs hgd_16 (by rw [hky_17]; decide)
              have hPod_19 : yPo S d_19 := by rw [ed_19]; exact hPod_16
              have hfd_19 : yK [38] d d_19 h0 := yK.ag hfd_16 (show yAg S [35] d_16 d_19 from by rw [ed_19]; exact yAg.cs yAg.rf (by rw [hky_17]; decide)) (by rw [hk_h0]; decide)
              refine lv_aload_n hx hb dX9_term_202 rfl (lv_at hl 2 rfl) ?_
              refine yget (ci := 9) (k := 6) (v := .ref (S.2.2.1 h0 6)) (C := RX9) (T := TX9) (N := 67) C0 hK hP hm_h0 hk_h0 (by decide) rfl inlX9 (by decide) mW110 (fun _ h9 => h9) rfl dX9_term_203 ?_
              obtain ⟨hmy_20, hky_20⟩ := ySh.f9_6 hSh _ hm_h0 hk_h0
              refine lv_iload hx hb dX9_term_206 (lv_at hl 0 rfl) ?_
              refine lv_iload hx hb dX9_term_208 (lv_at hl 6 rfl) ?_
              refine lv_i2b hx hb dX9_term_210 rfl ?_
              refine lv_topi (fun z_21 ez_21 => ?_)
              refine yastB C0 hK hP hD hS hmy_20 hky_20 (by decide) rfl 1 rfl (xinT 2400 rfl (by omega) (by omega)) dX9_term_211 (fun H locs hP hD hS => ?_)
              obtain ⟨d_22, ed_22⟩ : ∃ z : yD, z = ycs d_19 (S.2.2.1 h0 6) (upd (d_19.2.2.2.1 (S.2.2.1 h0 6)) (z_10 : Int32).toNatClampNeg (vp_nar .byte z_21)) := ⟨_, rfl⟩
              rw [← ed_22] at hP hD
              have hgd_22 : yAg S [9, 34, 35, 36, 37, 38, 39, 40, 69] d d_22 := by rw [ed_22]; exact yAg.cs hgd_19 (by rw [hky_20]; decide)
              have hPod_22 : yPo S d_22 := by rw [ed_22]; exact hPod_19
              have hfd_22 : yK [38] d d_22 h0 := yK.ag hfd_19 (show yAg S [36] d_19 d_22 from by rw [ed_22]; exact yAg.cs yAg.rf (by rw [hky_20]; decide)) (by rw [hk_h0]; decide)
              refine lv_aload_n hx hb dX9_term_212 rfl (lv_at hl 2 rfl) ?_
              refine yget (ci := 9) (k := 7) (v := .ref (S.2.2.1 h0 7)) (C := RX9) (T := TX9) (N := 67) C0 hK hP hm_h0 hk_h0 (by decide) rfl inlX9 (by decide) mW111 (fun _ h9 => h9) rfl dX9_term_213 ?_
              obtain ⟨hmy_23, hky_23⟩ := ySh.f9_7 hSh _ hm_h0 hk_h0
              refine lv_iload hx hb dX9_term_216 (lv_at hl 0 rfl) ?_
              refine lv_iload hx hb dX9_term_218 (lv_at hl 7 rfl) ?_
              refine yast C0 hK hP hD hS hmy_23 hky_23 (by decide) rfl 0 rfl (xinT 2400 rfl (by omega) (by omega)) dX9_term_220 (fun H locs hP hD hS => ?_)
              obtain ⟨d_24, ed_24⟩ : ∃ z : yD, z = ycs d_22 (S.2.2.1 h0 7) (upd (d_22.2.2.2.1 (S.2.2.1 h0 7)) (z_10 : Int32).toNatClampNeg p4) := ⟨_, rfl⟩
              rw [← ed_24] at hP hD
              have hgd_24 : yAg S [9, 34, 35, 36, 37, 38, 39, 40, 69] d d_24 := by rw [ed_24]; exact yAg.cs hgd_22 (by rw [hky_23]; decide)
              have hPod_24 : yPo S d_24 := by rw [ed_24]; exact hPod_22
              have hfd_24 : yK [38] d d_24 h0 := yK.ag hfd_22 (show yAg S [37] d_22 d_24 from by rw [ed_24]; exact yAg.cs yAg.rf (by rw [hky_23]; decide)) (by rw [hk_h0]; decide)
              refine lv_aload_n hx hb dX9_term_221 rfl (lv_at hl 2 rfl) ?_
              refine yget (ci := 9) (k := 8) (v := .ref (S.2.2.1 h0 8)) (C := RX9) (T := TX9) (N := 67) C0 hK hP hm_h0 hk_h0 (by decide) rfl inlX9 (by decide) mW112 (fun _ h9 => h9) rfl dX9_term_222 ?_
              obtain ⟨hmy_25, hky_25⟩ := ySh.f9_8 hSh _ hm_h0 hk_h0
              refine lv_iload hx hb dX9_term_225 (lv_at hl 0 rfl) ?_
              refine lv_iload hx hb dX9_term_227 (lv_at hl 8 rfl) ?_
              refine yast C0 hK hP hD hS hmy_25 hky_25 (by decide) rfl 0 rfl (xinT 2400 rfl (by omega) (by omega)) dX9_term_229 (fun H locs hP hD hS => ?_)
              obtain ⟨d_26, ed_26⟩ : ∃ z : yD, z = ycs d_24 (S.2.2.1 h0 8) (upd (d_24.2.2.2.1 (S.2.2.1 h0 8)) (z_10 : Int32).toNatClampNeg p5) := ⟨_, rfl⟩
              rw [← ed_26] at hP hD
              have hgd_26 : yAg S [9, 34, 35, 36, 37, 38, 39, 40, 69] d d_26 := by rw [ed_26]; exact yAg.cs hgd_24 (by rw [hky_25]; decide)
              have hPod_26 : yPo S d_26 := by rw [ed_26]; exact hPod_24
              have hfd_26 : yK [38] d d_26 h0 := yK.ag hfd_24 (show yAg S [38] d_24 d_26 from by rw [ed_26]; exact yAg.cs yAg.rf (by rw [hky_25]; decide)) (by rw [hk_h0]; decide)
              refine lv_aload_n hx hb dX9_term_230 rfl (lv_at hl 2 rfl) ?_
              refine yget (ci := 9) (k := 9) (v := .ref (S.2.2.1 h0 9)) (C := RX9) (T := TX9) (N := 67) C0 hK hP hm_h0 hk_h0 (by decide) rfl inlX9 (by decide) mW113 (fun _ h9 => h9) rfl dX9_term_231 ?_
              obtain ⟨hmy_27, hky_27⟩ := ySh.f9_9 hSh _ hm_h0 hk_h0
              refine lv_iload hx hb dX9_term_234 (lv_at hl 0 rfl) ?_
              refine lv_iconst (v := 0) hx hb dX9_term_236 (by decide) ?_
              refine yastB C0 hK hP hD hS hmy_27 hky_27 (by decide) rfl 1 rfl (xinT 2400 rfl (by omega) (by omega)) dX9_term_237 (fun H locs hP hD hS => ?_)
              obtain ⟨d_28, ed_28⟩ : ∃ z : yD, z = ycs d_26 (S.2.2.1 h0 9) (upd (d_26.2.2.2.1 (S.2.2.1 h0 9)) (z_10 : Int32).toNatClampNeg (vp_nar .byte 0)) := ⟨_, rfl⟩
              rw [← ed_28] at hP hD
              have hgd_28 : yAg S [9, 34, 35, 36, 37, 38, 39, 40, 69] d d_28 := by rw [ed_28]; exact yAg.cs hgd_26 (by rw [hky_27]; decide)
              have hPod_28 : yPo S d_28 := by rw [ed_28]; exact hPod_26
              have hfd_28 : yK [38] d d_28 h0 := yK.ag hfd_26 (show yAg S [39] d_26 d_28 from by rw [ed_28]; exact yAg.cs yAg.rf (by rw [hky_27]; decide)) (by rw [hk_h0]; decide)
              refine lv_aload_n hx hb dX9_term_238 rfl (lv_at hl 2 rfl) ?_
              refine yget (ci := 9) (k := 10) (v := .ref (S.2.2.1 h0 10)) (C := RX9) (T := TX9) (N := 67) C0 hK hP hm_h0 hk_h0 (by decide) rfl inlX9 (by decide) mW114 (fun _ h9 => h9) rfl dX9_term_239 ?_
              obtain ⟨hmy_29, hky_29⟩ := ySh.f9_10 hSh _ hm_h0 hk_h0
              refine lv_iload hx hb dX9_term_242 (lv_at hl 0 rfl) ?_
              refine lv_iconst (v := 0) hx hb dX9_term_244 (by decide) ?_
              refine yast C0 hK hP hD hS hmy_29 hky_29 (by decide) rfl 0 rfl (xinT 2400 rfl (by omega) (by omega)) dX9_term_245 (fun H locs hP hD hS => ?_)
              obtain ⟨d_30, ed_30⟩ : ∃ z : yD, z = ycs d_28 (S.2.2.1 h0 10) (upd (d_28.2.2.2.1 (S.2.2.1 h0 10)) (z_10 : Int32).toNatClampNeg 0) := ⟨_, rfl⟩
              rw [← ed_30] at hP hD
              have hgd_30 : yAg S [9, 34, 35, 36, 37, 38, 39, 40, 69] d d_30 := by rw [ed_30]; exact yAg.cs hgd_28 (by rw [hky_29]; decide)
              have hPod_30 : yPo S d_30 := by rw [ed_30]; exact hPod_28
              have hfd_30 : yK [38] d d_30 h0 := yK.ag hfd_28 (show yAg S [40] d_28 d_30 from by rw [ed_30]; exact yAg.cs yAg.rf (by rw [hky_29]; decide)) (by rw [hk_h0]; decide)
              refine lv_iconst (v := 1) hx hb dX9_term_246 (by decide) ?_
              exact W.zret (v := 1) (ty := .boolean) hx hb hr rfl (fun t ht hW => ⟨⟨1, d_30, rfl, ⟨hgd_30, (fun _ => hPod_30), hfd_30, trivial⟩, by rw [ht]; exact hP, hD⟩, hS.F ht⟩) hS.2.2 dX9_term_247
            · refine lv_aload_n hx hb dX9_term_168 rfl (lv_at hl 1 rfl) ?_
              refine lv_iload hx hb dX9_term_169 (lv_at hl 0 rfl) ?_
              have F_31 := feq (rfl : (v_6 : Int32).toInt = (v_6 : Int32).toInt) (by decide +kernel : (0 : Int32).toInt = 0) c_7
              have F_32 := fne (rfl : (r_2 : Int32).toInt = (r_2 : Int32).toInt) (by decide +kernel : (0 : Int32).toInt = 0) c_8
              refine yVwi (As := [.int r_2]) (rest := []) C0 (g_X9_no l G S d_1 h0 r_2 hSh hPod_1 hm_h0 hk_h0 (by refine ⟨?_, ?_⟩ <;> omega)) ok_X9_no (mW177 : Cond.methodLink RX9 168 yX9_no ∈ wsT) ⟨Nat.le_of_ble_eq_true rfl, Nat.le_of_ble_eq_true rfl⟩ hP hD hS hA hK hN hm_h0 hk_h0 (by decide) rfl rfl rfl hl.1 rfl (Nat.le_of_ble_eq_true rfl) ⟨Nat.le_of_ble_eq_true rfl, Nat.le_of_ble_eq_true rfl⟩ dX9_term_171 (fun r_33 d_34 H locs hr_33 hP hD hS => ?_)
              obtain ⟨hgad_34, hpad_34, hfad_34, hxd_34⟩ := hr_33
              have hfd_34 : yK [38] d d_34 h0 := yK.tr hfd_1 hfad_34 (by decide)
              have hgd_34 : yAg S [9, 34, 35, 36, 37, 38, 39, 40, 69] d d_34 := yAg.tr hgd_1 hgad_34 (by first | decide | exact fun _ h => h)
              have hPod_34 : yPo S d_34 := hpad_34 hPod_1
              refine lv_pop hx hb dX9_term_174 rfl ?_
              refine lv_iconst (v := 0) hx hb dX9_term_175 (by decide) ?_
              exact W.zret (v := 0) (ty := .boolean) hx hb hr rfl (fun t ht hW => ⟨⟨0, d_34, rfl, ⟨hgd_34, (fun _ => hPod_34), hfd_34, trivial⟩, by rw [ht]; exact hP, hD⟩, hS.F ht⟩) hS.2.2 dX9_term_176
          · refine lv_iconst (v := 1) hx hb dX9_term_160 (by decide) ?_
            refine lv_istore (lv' := [(7, .int 1), (0, .ref h0), (1, .int p0), (2, .int p1), (3, .int p2), (4, .int p3), (5, .int p4), (6, .int p5), (8, .int v_6)]) hx hb dX9_term_161 hl (by decide) rfl (fun ls hl => ?_)
            refine lv_iload hx hb dX9_term_163 (lv_at hl 0 rfl) ?_
            refine lv_if_eq (tgt := 177) hx hb dX9_term_165 (by decide) (fun c_35 => absurd c_35 (by decide +kernel)) (fun c_35 => ?_)
            refine lv_aload_n hx hb dX9_term_168 rfl (lv_at hl 1 rfl) ?_
            refine lv_iload hx hb dX9_term_169 (lv_at hl 0 rfl) ?_
            refine yVwi (As := [.int 1]) (rest := []) C0 (g_X9_no l G S d_1 h0 1 hSh hPod_1 hm_h0 hk_h0 (by decide +kernel)) ok_X9_no (mW177 : Cond.methodLink RX9 168 yX9_no ∈ wsT) ⟨Nat.le_of_ble_eq_true rfl, Nat.le_of_ble_eq_true rfl⟩ hP hD hS hA hK hN hm_h0 hk_h0 (by decide) rfl rfl rfl hl.1 rfl (Nat.le_of_ble_eq_true rfl) ⟨Nat.le_of_ble_eq_true rfl, Nat.le_of_ble_eq_true rfl⟩ dX9_term_171 (fun r_36 d_37 H locs hr_36 hP hD hS => ?_)
            obtain ⟨hgad_37, hpad_37, hfad_37, hxd_37⟩ := hr_36
            have hfd_37 : yK [38] d d_37 h0 := yK.tr hfd_1 hfad_37 (by decide)
            have hgd_37 : yAg S [9, 34, 35, 36, 37, 38, 39, 40, 69] d d_37 := yAg.tr hgd_1 hgad_37 (by first | decide | exact fun _ h => h)
            have hPod_37 : yPo S d_37 := hpad_37 hPod_1
            refine lv_pop hx hb dX9_term_174 rfl ?_
            refine lv_iconst (v := 0) hx hb dX9_term_175 (by decide) ?_
            exact W.zret (v := 0) (ty := .boolean) hx hb hr rfl (fun t ht hW => ⟨⟨0, d_37, rfl, ⟨hgd_37, (fun _ => hPod_37), hfd_37, trivial⟩, by rw [ht]; exact hP, hD⟩, hS.F ht⟩) hS.2.2 dX9_term_176
        refine lv_icmp_ne (tgt := 155) hx hb dX9_term_116 (by decide) (fun c_38 => ?_) (fun c_38 => ?_)
        · exact J155_6 v_5 ls _ ⟨rfl, lv_sub hl [0, 1, 2, 3, 4, 5, 6, 7, 8] rfl⟩
        · refine lv_iload hx hb dX9_term_119 (lv_at hl 8 rfl) ?_
          refine lv_if_ne (tgt := 148) hx hb dX9_term_121 (by decide) (fun c_39 => ?_) (fun c_39 => ?_)
          · refine lv_iconst (v := 1) hx hb dX9_term_148 (by decide) ?_
            refine lv_goto (tgt := 153) hx hb dX9_term_149 (by decide) ?_
            refine lv_istore (lv' := [(8, .int 1), (7, .int r_2), (0, .ref h0), (1, .int p0), (2, .int p1), (3, .int p2), (4, .int p3), (5, .int p4), (6, .int p5)]) hx hb dX9_term_153 hl (by decide) rfl (fun ls hl => ?_)
            exact J155_6 1 ls _ ⟨rfl, lv_sub hl [1, 2, 3, 4, 5, 6, 7, 8, 0] rfl⟩
          · refine lv_iload hx hb dX9_term_124 (lv_at hl 6 rfl) ?_
            refine lv_if_lt (tgt := 148) hx hb dX9_term_126 (by decide) (fun c_40 => ?_) (fun c_40 => ?_)
            · refine lv_iconst (v := 1) hx hb dX9_term_148 (by decide) ?_
              refine lv_goto (tgt := 153) hx hb dX9_term_149 (by decide) ?_
              refine lv_istore (lv' := [(8, .int 1), (7, .int r_2), (0, .ref h0), (1, .int p0), (2, .int p1), (3, .int p2), (4, .int p3), (5, .int p4), (6, .int p5)]) hx hb dX9_term_153 hl (by decide) rfl (fun ls hl => ?_)
              exact J155_6 1 ls _ ⟨rfl, lv_sub hl [1, 2, 3, 4, 5, 6, 7, 8, 0] rfl⟩
            · refine lv_iload hx hb dX9_term_129 (lv_at hl 6 rfl) ?_
              refine lv_ldc (v := 129600) hx hb hown (htl (.constant RX9 174 (129600)) mW221) dX9_term_131 ?_
              refine lv_icmp_gt (tgt := 148) hx hb dX9_term_133 (by decide) (fun c_41 => ?_) (fun c_41 => ?_)
              · refine lv_iconst (v := 1) hx hb dX9_term_148 (by decide) ?_
                refine lv_goto (tgt := 153) hx hb dX9_term_149 (by decide) ?_
                refine lv_istore (lv' := [(8, .int 1), (7, .int r_2), (0, .ref h0), (1, .int p0), (2, .int p1), (3, .int p2), (4, .int p3), (5, .int p4), (6, .int p5)]) hx hb dX9_term_153 hl (by decide) rfl (fun ls hl => ?_)
                exact J155_6 1 ls _ ⟨rfl, lv_sub hl [1, 2, 3, 4, 5, 6, 7, 8, 0] rfl⟩
              · refine lv_iload hx hb dX9_term_136 (lv_at hl 7 rfl) ?_
                refine lv_if_lt (tgt := 148) hx hb dX9_term_138 (by decide) (fun c_42 => ?_) (fun c_42 => ?_)
                · refine lv_iconst (v := 1) hx hb dX9_term_148 (by decide) ?_
                  refine lv_goto (tgt := 153) hx hb dX9_term_149 (by decide) ?_
                  refine lv_istore (lv' := [(8, .int 1), (7, .int r_2), (0, .ref h0), (1, .int p0), (2, .int p1), (3, .int p2), (4, .int p3), (5, .int p4), (6, .int p5)]) hx hb dX9_term_153 hl (by decide) rfl (fun ls hl => ?_)
                  exact J155_6 1 ls _ ⟨rfl, lv_sub hl [1, 2, 3, 4, 5, 6, 7, 8, 0] rfl⟩
                · refine lv_iload hx hb dX9_term_141 (lv_at hl 7 rfl) ?_
                  refine lv_ldc (v := 129600) hx hb hown (htl (.constant RX9 174 (129600)) mW221) dX9_term_143 ?_
                  refine lv_icmp_le (tgt := 152) hx hb dX9_term_145 (by decide) (fun c_43 => ?_) (fun c_43 => ?_)
                  · refine lv_iconst (v := 0) hx hb dX9_term_152 (by decide) ?_
                    refine lv_istore (lv' := [(8, .int 0), (7, .int r_2), (0, .ref h0), (1, .int p0), (2, .int p1), (3, .int p2), (4, .int p3), (5, .int p4), (6, .int p5)]) hx hb dX9_term_153 hl (by decide) rfl (fun ls hl => ?_)
                    exact J155_6 0 ls _ ⟨rfl, lv_sub hl [1, 2, 3, 4, 5, 6, 7, 8, 0] rfl⟩
                  · refine lv_iconst (v := 1) hx hb dX9_term_148 (by decide) ?_
                    refine lv_goto (tgt := 153) hx hb dX9_term_149 (by decide) ?_
                    refine lv_istore (lv' := [(8, .int 1), (7, .int r_2), (0, .ref h0), (1, .int p0), (2, .int p1), (3, .int p2), (4, .int p3), (5, .int p4), (6, .int p5)]) hx hb dX9_term_153 hl (by decide) rfl (fun ls hl => ?_)
                    exact J155_6 1 ls _ ⟨rfl, lv_sub hl [1, 2, 3, 4, 5, 6, 7, 8, 0] rfl⟩
      refine lv_icmp_ne (tgt := 113) hx hb dX9_term_87 (by decide) (fun c_44 => ?_) (fun c_44 => ?_)
      · exact J113_5 v_4 ls _ ⟨rfl, lv_sub hl [0, 1, 2, 3, 4, 5, 6, 7, 8] rfl⟩
      · refine lv_iload hx hb dX9_term_90 (lv_at hl 8 rfl) ?_
        refine lv_if_ne (tgt := 106) hx hb dX9_term_92 (by decide) (fun c_45 => ?_) (fun c_45 => ?_)
        · refine lv_iconst (v := 1) hx hb dX9_term_106 (by decide) ?_
          refine lv_goto (tgt := 111) hx hb dX9_term_107 (by decide) ?_
          refine lv_istore (lv' := [(8, .int 1), (7, .int r_2), (0, .ref h0), (1, .int p0), (2, .int p1), (3, .int p2), (4, .int p3), (5, .int p4), (6, .int p5)]) hx hb dX9_term_111 hl (by decide) rfl (fun ls hl => ?_)
          exact J113_5 1 ls _ ⟨rfl, lv_sub hl [1, 2, 3, 4, 5, 6, 7, 8, 0] rfl⟩
        · refine lv_iload hx hb dX9_term_95 (lv_at hl 6 rfl) ?_
          refine lv_if_lt (tgt := 106) hx hb dX9_term_97 (by decide) (fun c_46 => ?_) (fun c_46 => ?_)
          · refine lv_iconst (v := 1) hx hb dX9_term_106 (by decide) ?_
            refine lv_goto (tgt := 111) hx hb dX9_term_107 (by decide) ?_
            refine lv_istore (lv' := [(8, .int 1), (7, .int r_2), (0, .ref h0), (1, .int p0), (2, .int p1), (3, .int p2), (4, .int p3), (5, .int p4), (6, .int p5)]) hx hb dX9_term_111 hl (by decide) rfl (fun ls hl => ?_)
            exact J113_5 1 ls _ ⟨rfl, lv_sub hl [1, 2, 3, 4, 5, 6, 7, 8, 0] rfl⟩
          · refine lv_iload hx hb dX9_term_100 (lv_at hl 6 rfl) ?_
            refine lv_iconst (v := 4) hx hb dX9_term_102 (by decide) ?_
            refine lv_icmp_le (tgt := 110) hx hb dX9_term_103 (by decide) (fun c_47 => ?_) (fun c_47 => ?_)
            · refine lv_iconst (v := 0) hx hb dX9_term_110 (by decide) ?_
              refine lv_istore (lv' := [(8, .int 0), (7, .int r_2), (0, .ref h0), (1, .int p0), (2, .int p1), (3, .int p2), (4, .int p3), (5, .int p4), (6, .int p5)]) hx hb dX9_term_111 hl (by decide) rfl (fun ls hl => ?_)
              exact J113_5 0 ls _ ⟨rfl, lv_sub hl [1, 2, 3, 4, 5, 6, 7, 8, 0] rfl⟩
            · refine lv_iconst (v := 1) hx hb dX9_term_106 (by decide) ?_
              refine lv_goto (tgt := 111) hx hb dX9_term_107 (by decide) ?_
              refine lv_istore (lv' := [(8, .int 1), (7, .int r_2), (0, .ref h0), (1, .int p0), (2, .int p1), (3, .int p2), (4, .int p3), (5, .int p4), (6, .int p5)]) hx hb dX9_term_111 hl (by decide) rfl (fun ls hl => ?_)
              exact J113_5 1 ls _ ⟨rfl, lv_sub hl [1, 2, 3, 4, 5, 6, 7, 8, 0] rfl⟩
    refine lv_icmp_ne (tgt := 84) hx hb dX9_term_43 (by decide) (fun c_48 => ?_) (fun c_48 => ?_)
    · exact J84_4 v_3 ls _ ⟨rfl, lv_sub hl [1, 2, 3, 4, 5, 6, 7, 8, 0] rfl⟩
    · refine lv_iload hx hb dX9_term_46 (lv_at hl 0 rfl) ?_
      refine lv_if_ne (tgt := 77) hx hb dX9_term_48 (by decide) (fun c_49 => ?_) (fun c_49 => ?_)
      · refine lv_iconst (v := 1) hx hb dX9_term_77 (by decide) ?_
        refine lv_goto (tgt := 82) hx hb dX9_term_78 (by decide) ?_
        refine lv_istore (lv' := [(8, .int 1), (7, .int r_2), (0, .ref h0), (1, .int p0), (2, .int p1), (3, .int p2), (4, .int p3), (5, .int p4), (6, .int p5)]) hx hb dX9_term_82 hl (by decide) rfl (fun ls hl => ?_)
        exact J84_4 1 ls _ ⟨rfl, lv_sub hl [1, 2, 3, 4, 5, 6, 7, 8, 0] rfl⟩
      · refine lv_iload hx hb dX9_term_51 (lv_at hl 7 rfl) ?_
        refine lv_if_lt (tgt := 77) hx hb dX9_term_53 (by decide) (fun c_50 => ?_) (fun c_50 => ?_)
        · refine lv_iconst (v := 1) hx hb dX9_term_77 (by decide) ?_
          refine lv_goto (tgt := 82) hx hb dX9_term_78 (by decide) ?_
          refine lv_istore (lv' := [(8, .int 1), (7, .int r_2), (0, .ref h0), (1, .int p0), (2, .int p1), (3, .int p2), (4, .int p3), (5, .int p4), (6, .int p5)]) hx hb dX9_term_82 hl (by decide) rfl (fun ls hl => ?_)
          exact J84_4 1 ls _ ⟨rfl, lv_sub hl [1, 2, 3, 4, 5, 6, 7, 8, 0] rfl⟩
        · refine lv_iload hx hb dX9_term_56 (lv_at hl 7 rfl) ?_
          refine lv_sipush (v := 1440) hx hb dX9_term_58 (by decide) ?_
          refine lv_icmp_gt (tgt := 77) hx hb dX9_term_61 (by decide) (fun c_51 => ?_) (fun c_51 => ?_)
          · refine lv_iconst (v := 1) hx hb dX9_term_77 (by decide) ?_
            refine lv_goto (tgt := 82) hx hb dX9_term_78 (by decide) ?_
            refine lv_istore (lv' := [(8, .int 1), (7, .int r_2), (0, .ref h0), (1, .int p0), (2, .int p1), (3, .int p2), (4, .int p3), (5, .int p4), (6, .int p5)]) hx hb dX9_term_82 hl (by decide) rfl (fun ls hl => ?_)
            exact J84_4 1 ls _ ⟨rfl, lv_sub hl [1, 2, 3, 4, 5, 6, 7, 8, 0] rfl⟩
          · refine lv_iload hx hb dX9_term_64 (lv_at hl 8 rfl) ?_
            refine lv_if_lt (tgt := 77) hx hb dX9_term_66 (by decide) (fun c_52 => ?_) (fun c_52 => ?_)
            · refine lv_iconst (v := 1) hx hb dX9_term_77 (by decide) ?_
              refine lv_goto (tgt := 82) hx hb dX9_term_78 (by decide) ?_
              refine lv_istore (lv' := [(8, .int 1), (7, .int r_2), (0, .ref h0), (1, .int p0), (2, .int p1), (3, .int p2), (4, .int p3), (5, .int p4), (6, .int p5)]) hx hb dX9_term_82 hl (by decide) rfl (fun ls hl => ?_)
              exact J84_4 1 ls _ ⟨rfl, lv_sub hl [1, 2, 3, 4, 5, 6, 7, 8, 0] rfl⟩
            · refine lv_iload hx hb dX9_term_69 (lv_at hl 8 rfl) ?_
              refine lv_sipush (v := 1440) hx hb dX9_term_71 (by decide) ?_
              refine lv_icmp_le (tgt := 81) hx hb dX9_term_74 (by decide) (fun c_53 => ?_) (fun c_53 => ?_)
              · refine lv_iconst (v := 0) hx hb dX9_term_81 (by decide) ?_
                refine lv_istore (lv' := [(8, .int 0), (7, .int r_2), (0, .ref h0), (1, .int p0), (2, .int p1), (3, .int p2), (4, .int p3), (5, .int p4), (6, .int p5)]) hx hb dX9_term_82 hl (by decide) rfl (fun ls hl => ?_)
                exact J84_4 0 ls _ ⟨rfl, lv_sub hl [1, 2, 3, 4, 5, 6, 7, 8, 0] rfl⟩
              · refine lv_iconst (v := 1) hx hb dX9_term_77 (by decide) ?_
                refine lv_goto (tgt := 82) hx hb dX9_term_78 (by decide) ?_
                refine lv_istore (lv' := [(8, .int 1), (7, .int r_2), (0, .ref h0), (1, .int p0), (2, .int p1), (3, .int p2), (4, .int p3), (5, .int p4), (6, .int p5)]) hx hb dX9_term_82 hl (by decide) rfl (fun ls hl => ?_)
                exact J84_4 1 ls _ ⟨rfl, lv_sub hl [1, 2, 3, 4, 5, 6, 7, 8, 0] rfl⟩
  refine lv_if_lt (tgt := 33) hx hb dX9_term_14 (by decide) (fun c_54 => ?_) (fun c_54 => ?_)
  · refine lv_iconst (v := 1) hx hb dX9_term_33 (by decide) ?_
    refine lv_goto (tgt := 38) hx hb dX9_term_34 (by decide) ?_
    exact J38_3 1 ls _ ⟨rfl, lv_sub hl [0, 1, 2, 3, 4, 5, 6, 7] rfl, Or.inr rfl⟩
  · refine lv_iload_n hx hb dX9_term_17 rfl (lv_at hl 4 rfl) ?_
    refine lv_iconst (v := 4) hx hb dX9_term_18 (by decide) ?_
    refine lv_icmp_gt (tgt := 33) hx hb dX9_term_19 (by decide) (fun c_55 => ?_) (fun c_55 => ?_)
    · refine lv_iconst (v := 1) hx hb dX9_term_33 (by decide) ?_
      refine lv_goto (tgt := 38) hx hb dX9_term_34 (by decide) ?_
      exact J38_3 1 ls _ ⟨rfl, lv_sub hl [0, 1, 2, 3, 4, 5, 6, 7] rfl, Or.inr rfl⟩
    · refine lv_iload hx hb dX9_term_22 (lv_at hl 5 rfl) ?_
      refine lv_if_lt (tgt := 33) hx hb dX9_term_24 (by decide) (fun c_56 => ?_) (fun c_56 => ?_)
      · refine lv_iconst (v := 1) hx hb dX9_term_33 (by decide) ?_
        refine lv_goto (tgt := 38) hx hb dX9_term_34 (by decide) ?_
        exact J38_3 1 ls _ ⟨rfl, lv_sub hl [0, 1, 2, 3, 4, 5, 6, 7] rfl, Or.inr rfl⟩
      · refine lv_iload hx hb dX9_term_27 (lv_at hl 5 rfl) ?_
        refine lv_iconst (v := 4) hx hb dX9_term_29 (by decide) ?_
        refine lv_icmp_le (tgt := 37) hx hb dX9_term_30 (by decide) (fun c_57 => ?_) (fun c_57 => ?_)
        · refine lv_iconst (v := 0) hx hb dX9_term_37 (by decide) ?_
          exact J38_3 0 ls _ ⟨rfl, lv_sub hl [0, 1, 2, 3, 4, 5, 6, 7] rfl, Or.inl rfl⟩
        · refine lv_iconst (v := 1) hx hb dX9_term_33 (by decide) ?_
          refine lv_goto (tgt := 38) hx hb dX9_term_34 (by decide) ?_
          exact J38_3 1 ls _ ⟨rfl, lv_sub hl [0, 1, 2, 3, 4, 5, 6, 7] rfl, Or.inr rfl⟩
